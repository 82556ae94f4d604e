/-! ===== the Model: miss ===== -/
def mOk2 (h : fx_H) (q : Nat) : Prop := ∀ m, m < 2 → 0 ≤ (fx_i h (q + 21) m).toInt ∧ (fx_i h (q + 21) m).toInt ≤ 6
theorem l14 {m : Nat} {i : Int32} (hm : m < 2) (hi : 0 ≤ i.toInt ∧ i.toInt ≤ 6) : vp_in (7 * nI m + i) 14 := by
  have e1 : (nI (7 * m)).toInt = ((7 * m : Nat) : Int) := nI_toInt (by omega)
  rw [j7 hm]
  have e2 : (nI (7 * m) + i).toInt = ((7 * m : Nat) : Int) + i.toInt := by rw [iz_add (by rw [e1]; omega), e1]
  exact iz_in (by omega) (by omega)
theorem l6 {x : Int32} {n : Nat} (hx : 0 ≤ x.toInt ∧ x.toInt ≤ 6) (hn : n < x.toNatClampNeg) : 0 ≤ (nI n).toInt ∧ (nI n).toInt ≤ 6 := by
  have e := iz_nn hx.1
  rw [nI_toInt (by omega)]
  omega
def liS (k : fx_H) (q m n : Nat) (c : Int32) : Int32 := if c = 0 then if v_MO_lies k q (nI m) (nI n) = 0 then 0 else 1 else 1
def ms1 (q i : Nat) (k : fx_H) : fx_H := fx_wi (fx_wi (fx_wi (fx_wi (fx_wi k (q + 22) (((7 : Int32) * (nI i)) + (fx_i k (q + 21) i)).toNatClampNeg (fx_i k q 38)) (q + 23) (((7 : Int32) * (nI i)) + (fx_i k (q + 21) i)).toNatClampNeg (fx_i (fx_wi k (q + 22) (((7 : Int32) * (nI i)) + (fx_i k (q + 21) i)).toNatClampNeg (fx_i k q 38)) q 39)) (q + 24) (((7 : Int32) * (nI i)) + (fx_i k (q + 21) i)).toNatClampNeg (fx_i (fx_wi (fx_wi k (q + 22) (((7 : Int32) * (nI i)) + (fx_i k (q + 21) i)).toNatClampNeg (fx_i k q 38)) (q + 23) (((7 : Int32) * (nI i)) + (fx_i k (q + 21) i)).toNatClampNeg (fx_i (fx_wi k (q + 22) (((7 : Int32) * (nI i)) + (fx_i k (q + 21) i)).toNatClampNeg (fx_i k q 38)) q 39)) q 40)) (q + 25) (((7 : Int32) * (nI i)) + (fx_i k (q + 21) i)).toNatClampNeg (fx_i (fx_wi (fx_wi (fx_wi k (q + 22) (((7 : Int32) * (nI i)) + (fx_i k (q + 21) i)).toNatClampNeg (fx_i k q 38)) (q + 23) (((7 : Int32) * (nI i)) + (fx_i k (q + 21) i)).toNatClampNeg (fx_i (fx_wi k (q + 22) (((7 : Int32) * (nI i)) + (fx_i k (q + 21) i)).toNatClampNeg (fx_i k q 38)) q 39)) (q + 24) (((7 : Int32) * (nI i)) + (fx_i k (q + 21) i)).toNatClampNeg (fx_i (fx_wi (fx_wi k (q + 22) (((7 : Int32) * (nI i)) + (fx_i k (q + 21) i)).toNatClampNeg (fx_i k q 38)) (q + 23) (((7 : Int32) * (nI i)) + (fx_i k (q + 21) i)).toNatClampNeg (fx_i (fx_wi k (q + 22) (((7 : Int32) * (nI i)) + (fx_i k (q + 21) i)).toNatClampNeg (fx_i k q 38)) q 39)) q 40)) q 41)) (q + 21) i ((fx_i (fx_wi (fx_wi (fx_wi (fx_wi k (q + 22) (((7 : Int32) * (nI i)) + (fx_i k (q + 21) i)).toNatClampNeg (fx_i k q 38)) (q + 23) (((7 : Int32) * (nI i)) + (fx_i k (q + 21) i)).toNatClampNeg (fx_i (fx_wi k (q + 22) (((7 : Int32) * (nI i)) + (fx_i k (q + 21) i)).toNatClampNeg (fx_i k q 38)) q 39)) (q + 24) (((7 : Int32) * (nI i)) + (fx_i k (q + 21) i)).toNatClampNeg (fx_i (fx_wi (fx_wi k (q + 22) (((7 : Int32) * (nI i)) + (fx_i k (q + 21) i)).toNatClampNeg (fx_i k q 38)) (q + 23) (((7 : Int32) * (nI i)) + (fx_i k (q + 21) i)).toNatClampNeg (fx_i (fx_wi k (q + 22) (((7 : Int32) * (nI i)) + (fx_i k (q + 21) i)).toNatClampNeg (fx_i k q 38)) q 39)) q 40)) (q + 25) (((7 : Int32) * (nI i)) + (fx_i k (q + 21) i)).toNatClampNeg (fx_i (fx_wi (fx_wi (fx_wi k (q + 22) (((7 : Int32) * (nI i)) + (fx_i k (q + 21) i)).toNatClampNeg (fx_i k q 38)) (q + 23) (((7 : Int32) * (nI i)) + (fx_i k (q + 21) i)).toNatClampNeg (fx_i (fx_wi k (q + 22) (((7 : Int32) * (nI i)) + (fx_i k (q + 21) i)).toNatClampNeg (fx_i k q 38)) q 39)) (q + 24) (((7 : Int32) * (nI i)) + (fx_i k (q + 21) i)).toNatClampNeg (fx_i (fx_wi (fx_wi k (q + 22) (((7 : Int32) * (nI i)) + (fx_i k (q + 21) i)).toNatClampNeg (fx_i k q 38)) (q + 23) (((7 : Int32) * (nI i)) + (fx_i k (q + 21) i)).toNatClampNeg (fx_i (fx_wi k (q + 22) (((7 : Int32) * (nI i)) + (fx_i k (q + 21) i)).toNatClampNeg (fx_i k q 38)) q 39)) q 40)) q 41)) (q + 21) i) + (1 : Int32))
def b_MO_miss (q : Nat) (i : Nat) (k : fx_H) : fx_H := if (itg (liS k q i) 0 ((fx_i k (q + 21) i).toNatClampNeg)) = 0 then if (fx_i (ms1 q i k) (q + 21) i) = (7 : Int32) then k_MO_join (ms1 q i k) q i else ms1 q i k else k
theorem mfr_bmiss (q n : Nat) (k : fx_H) : mfr q [21, 22, 23, 24, 25] [] k (b_MO_miss q n k) := by
  have h1 : mfr q [21, 22, 23, 24, 25] [] k (ms1 q n k) := by
    unfold ms1
    exact mfr_wi (mfr_wi (mfr_wi (mfr_wi (mfr_wi (mfr_rf _ _ _ _) (by decide)) (by decide)) (by decide)) (by decide)) (by decide)
  unfold b_MO_miss
  repeat' split
  all_goals first | exact mfr_rf _ _ _ _ | exact h1 | exact mfr_t h1 (mfr_join _ _ _)
theorem ms_other (q n : Nat) (k : fx_H) (j : Nat) (hj : j ≠ n) : fx_i (b_MO_miss q n k) (q + 21) j = fx_i k (q + 21) j := by
  have h1 : fx_i (ms1 q n k) (q + 21) j = fx_i k (q + 21) j := by
    unfold ms1
    simp [fx_i_wi, hj]
  have h2 : ∀ k', fx_i (k_MO_join k' q n) (q + 21) j = fx_i k' (q + 21) j := by
    intro k'
    unfold k_MO_join k_MO_joinA
    have e : ∀ (B : Nat) (l : fx_H) (N : Nat), fx_i (it (b_MO_join q B) l N) (q + 21) j = fx_i l (q + 21) j := fun B l N => it_keep (fun k => fx_i k (q + 21) j) (b_MO_join q B) l (fun n k => by unfold b_MO_join; simp [fx_i_wi]) N
    repeat' split
    all_goals rw [e]
    all_goals simp [fx_i_wi, hj]
  unfold b_MO_miss
  repeat' split
  all_goals first | rfl | exact h1 | exact (h2 _).trans h1
theorem ms_it (h : fx_H) (q : Nat) (hms : mOk2 h q) (i : Nat) (hi : i < 2) : 0 ≤ (fx_i (it (b_MO_miss q) h i) (q + 21) i).toInt ∧ (fx_i (it (b_MO_miss q) h i) (q + 21) i).toInt ≤ 6 := by
  have h1 : i = 0 ∨ i = 1 := by omega
  rcases h1 with rfl | rfl
  · rw [it_0]
    exact hms 0 (by decide)
  · rw [it_s, it_0, ms_other q 0 h 1 (by decide)]
    exact hms 1 (by decide)
def k_MO_miss (h : fx_H) (q : Nat) : fx_H := if fx_i h q 40 ≤ 0 then h else (it (b_MO_miss q) h 2)
set_option maxRecDepth 100000 in
set_option maxHeartbeats 600000 in
theorem c_MO_miss {g : fx_G} (ok : fx_ok g) (h : fx_H) (q : Nat) (hm : isM h q) (hms : mOk2 h q) : fx_C g mq_MO_miss [.ref q] h (fx_is none (k_MO_miss h q)) 0 0 := by
  refine fx_body (by decide +kernel) (Nat.le_of_ble_eq_true rfl) ?_
  show fx_X g mq_MO_miss 0 [(0, .ref q)] [] h _ 0 0
  refine fx_iconst (v := 0) dq_MO_miss_0 (by decide) ?_
  refine fx_istore_n dq_MO_miss_1 rfl (by decide) rfl ?_
  by_cases hw : fx_i h q 40 ≤ 0
  · skip
    refine fx_iload_n 0 dq_MO_miss_2 rfl rfl ?_
    refine fx_iconst (v := 2) dq_MO_miss_3 (by decide) ?_
    refine fx_icmp_ge (tgt := 144) dq_MO_miss_4 (by decide) (fun hc4 => absurd hc4 (by decide)) (fun hc4 => ?_)
    refine fx_aload_n 1 dq_MO_miss_7 rfl rfl ?_
    refine fx_geti ok fq_MO_144 hm.1 dq_MO_miss_8 (by decide) ?_
    refine fx_if_le (tgt := 144) dq_MO_miss_11 (by decide) (fun hc11 => ?_) (fun hc11 => absurd hw hc11)
    exact fx_vreturn rfl dq_MO_miss_144 ⟨rfl, by rw [k_MO_miss, if_pos hw]⟩
  · skip
    refine fx_for (fun i => [(1, .int (nI i)), (0, .ref q)]) (b_MO_miss q) h 2 (fun i hi hK2 => ?_) ?_
    · have e2b : fx_sm h (it (b_MO_miss q) h i) := fx_sm_t (h' := h) (rfl : fx_sm h h) (fx_sm_it (fun n k => (mfr_bmiss q n k).1) h i)
      have hwk := (it_keep (fun k => fx_i k q 40) (b_MO_miss q) h (fun n k => (mfr_bmiss q n k).2.2 40 (by decide)) i)
      have hmk := ms_it h q hms i hi
      generalize it (b_MO_miss q) h i = k at e2b hK2 hwk hmk ⊢
      refine fx_iload_n 0 dq_MO_miss_2 rfl rfl ?_
      refine fx_iconst (v := 2) dq_MO_miss_3 (by decide) ?_
      refine fx_icmp_ge (tgt := 144) dq_MO_miss_4 (by decide) (fun hc4 => absurd hc4 (nI_ge (b := 2) hi (by decide))) (fun hc4 => ?_)
      refine fx_aload_n 1 dq_MO_miss_7 rfl rfl ?_
      refine fx_geti ok fq_MO_144 ((fx_sm_s e2b _).trans hm.1) dq_MO_miss_8 (by decide) ?_
      refine fx_if_le (tgt := 144) dq_MO_miss_11 (by decide) (fun hc11 => absurd (by rw [← hwk]; exact hc11) hw) (fun hc11 => ?_)
      refine fx_iconst (v := 0) dq_MO_miss_14 (by decide) ?_
      refine fx_istore_n dq_MO_miss_15 rfl (by decide) rfl ?_
      refine fx_iconst (v := 0) dq_MO_miss_16 (by decide) ?_
      refine fx_istore_n dq_MO_miss_17 rfl (by decide) rfl ?_
      refine fx_forv (fun n => [(3, .int (nI n)), (2, .int (itg (liS k q i) 0 n)), (1, .int (nI i)), (0, .ref q)]) k ((fx_i k (q + 21) i).toNatClampNeg) (fun n hn hK18 => ?_) ?_
      · skip
        refine fx_iload_n 0 dq_MO_miss_18 rfl rfl ?_
        refine fx_aload_n 3 dq_MO_miss_19 rfl rfl ?_
        refine fx_getr ok fq_MO_75 ((fx_sm_s e2b _).trans hm.1) dq_MO_miss_20 (by decide) ((fx_sm_r e2b _ _).trans (mo_misses hm).1) ?_
        refine fx_iload_n 2 dq_MO_miss_23 rfl rfl ?_
        refine fx_iaN ok ((fx_sm_s e2b _).trans (mo_misses hm).2) ⟨hi, by decide⟩ dq_MO_miss_24 ?_
        refine fx_icmp_ge (tgt := 53) dq_MO_miss_25 (by decide) (fun hc25 => absurd hc25 (vI_ge ⟨hmk.1, by omega⟩ hn)) (fun hc25 => ?_)
        refine fx_iload_n 1 dq_MO_miss_28 rfl rfl ?_
        refine fx_if_ne (tgt := 41) dq_MO_miss_29 (by decide) (fun hc29 => ?_) (fun hc29 => ?_)
        · -- 29: jump
          refine fx_iconst (v := 1) dq_MO_miss_41 (by decide) ?_
          refine fx_goto (tgt := 46) dq_MO_miss_42 (by decide) ?_
          refine fx_istore_n dq_MO_miss_46 rfl (by decide) rfl ?_
          refine fx_iinc 1 dq_MO_miss_47 rfl (jz_i _) (by decide) rfl ?_
          refine fx_goto (tgt := 18) dq_MO_miss_50 (by decide) ?_
          refine fx_sub [0, 1, 2, 3] rfl ?_
          rw [itg_s, liS, if_neg hc29] at hK18
          exact hK18
        · -- 29: fall
          refine fx_aload_n 3 dq_MO_miss_32 rfl rfl ?_
          refine fx_iload_n 2 dq_MO_miss_33 rfl rfl ?_
          refine fx_iload_n 0 dq_MO_miss_34 rfl rfl ?_
          refine fx_Vi2 ok sq_MO_194 ((fx_sm_s e2b _).trans hm.1) (c_MO_lies ok k q (nI i) (nI n) (by exact isM_sm e2b hm) (l14 hi (l6 hmk hn))) (by decide) (Nat.le_of_ble_eq_true rfl) dq_MO_miss_35 ?_
          refine fx_if_eq (tgt := 45) dq_MO_miss_38 (by decide) (fun hc38 => ?_) (fun hc38 => ?_)
          · -- 38: jump
            refine fx_iconst (v := 0) dq_MO_miss_45 (by decide) ?_
            refine fx_istore_n dq_MO_miss_46 rfl (by decide) rfl ?_
            refine fx_iinc 1 dq_MO_miss_47 rfl (jz_i _) (by decide) rfl ?_
            refine fx_goto (tgt := 18) dq_MO_miss_50 (by decide) ?_
            refine fx_sub [0, 1, 2, 3] rfl ?_
            rw [itg_s, liS, if_pos hc29, if_pos hc38] at hK18
            exact hK18
          · -- 38: fall
            refine fx_iconst (v := 1) dq_MO_miss_41 (by decide) ?_
            refine fx_goto (tgt := 46) dq_MO_miss_42 (by decide) ?_
            refine fx_istore_n dq_MO_miss_46 rfl (by decide) rfl ?_
            refine fx_iinc 1 dq_MO_miss_47 rfl (jz_i _) (by decide) rfl ?_
            refine fx_goto (tgt := 18) dq_MO_miss_50 (by decide) ?_
            refine fx_sub [0, 1, 2, 3] rfl ?_
            rw [itg_s, liS, if_pos hc29, if_neg hc38] at hK18
            exact hK18
      · skip
        refine fx_iload_n 0 dq_MO_miss_18 rfl rfl ?_
        refine fx_aload_n 3 dq_MO_miss_19 rfl rfl ?_
        refine fx_getr ok fq_MO_75 ((fx_sm_s e2b _).trans hm.1) dq_MO_miss_20 (by decide) ((fx_sm_r e2b _ _).trans (mo_misses hm).1) ?_
        refine fx_iload_n 2 dq_MO_miss_23 rfl rfl ?_
        refine fx_iaN ok ((fx_sm_s e2b _).trans (mo_misses hm).2) ⟨hi, by decide⟩ dq_MO_miss_24 ?_
        refine fx_icmp_ge (tgt := 53) dq_MO_miss_25 (by decide) (fun hc25 => ?_) (fun hc25 => absurd (vI_le ⟨hmk.1, by omega⟩) hc25)
        refine fx_iload_n 1 dq_MO_miss_53 rfl rfl ?_
        refine fx_if_eq (tgt := 60) dq_MO_miss_54 (by decide) (fun hc54 => ?_) (fun hc54 => ?_)
        · -- 54: jump
          refine fx_bipush (v := 7) dq_MO_miss_60 (by decide) ?_
          refine fx_iload_n 2 dq_MO_miss_62 rfl rfl ?_
          refine fx_imul dq_MO_miss_63 ?_
          refine fx_aload_n 3 dq_MO_miss_64 rfl rfl ?_
          refine fx_getr ok fq_MO_75 ((fx_sm_s e2b _).trans hm.1) dq_MO_miss_65 (by decide) ((fx_sm_r e2b _ _).trans (mo_misses hm).1) ?_
          refine fx_iload_n 2 dq_MO_miss_68 rfl rfl ?_
          refine fx_iaN ok ((fx_sm_s e2b _).trans (mo_misses hm).2) ⟨hi, by decide⟩ dq_MO_miss_69 ?_
          refine fx_iadd dq_MO_miss_70 ?_
          refine fx_istore_n dq_MO_miss_71 rfl (by decide) rfl ?_
          refine fx_aload_n 3 dq_MO_miss_72 rfl rfl ?_
          refine fx_getr ok fq_MO_78 ((fx_sm_s e2b _).trans hm.1) dq_MO_miss_73 (by decide) ((fx_sm_r e2b _ _).trans (mo_mx hm).1) ?_
          refine fx_iload_n 0 dq_MO_miss_76 rfl rfl ?_
          refine fx_aload_n 3 dq_MO_miss_77 rfl rfl ?_
          refine fx_geti ok fq_MO_141 ((fx_sm_s e2b _).trans hm.1) dq_MO_miss_78 (by decide) ?_
          refine fx_iastore ok ((fx_sm_s e2b _).trans (mo_mx hm).2) (l14 hi hmk) dq_MO_miss_81 ?_
          have e81w : fx_sm h (fx_wi k (q + 22) (((7 : Int32) * (nI i)) + (fx_i k (q + 21) i)).toNatClampNeg (fx_i k q 38)) := fx_sm_t (h' := k) e2b (sm_wi _ _ _ _)
          refine fx_aload_n 3 dq_MO_miss_82 rfl rfl ?_
          refine fx_getr ok fq_MO_81 ((fx_sm_s e81w _).trans hm.1) dq_MO_miss_83 (by decide) ((fx_sm_r e81w _ _).trans (mo_my hm).1) ?_
          refine fx_iload_n 0 dq_MO_miss_86 rfl rfl ?_
          refine fx_aload_n 3 dq_MO_miss_87 rfl rfl ?_
          refine fx_geti ok fq_MO_147 ((fx_sm_s e81w _).trans hm.1) dq_MO_miss_88 (by decide) ?_
          refine fx_iastore ok ((fx_sm_s e81w _).trans (mo_my hm).2) (l14 hi hmk) dq_MO_miss_91 ?_
          have e91w : fx_sm h (fx_wi (fx_wi k (q + 22) (((7 : Int32) * (nI i)) + (fx_i k (q + 21) i)).toNatClampNeg (fx_i k q 38)) (q + 23) (((7 : Int32) * (nI i)) + (fx_i k (q + 21) i)).toNatClampNeg (fx_i (fx_wi k (q + 22) (((7 : Int32) * (nI i)) + (fx_i k (q + 21) i)).toNatClampNeg (fx_i k q 38)) q 39)) := fx_sm_t (h' := (fx_wi k (q + 22) (((7 : Int32) * (nI i)) + (fx_i k (q + 21) i)).toNatClampNeg (fx_i k q 38))) e81w (sm_wi _ _ _ _)
          refine fx_aload_n 3 dq_MO_miss_92 rfl rfl ?_
          refine fx_getr ok fq_MO_84 ((fx_sm_s e91w _).trans hm.1) dq_MO_miss_93 (by decide) ((fx_sm_r e91w _ _).trans (mo_mw hm).1) ?_
          refine fx_iload_n 0 dq_MO_miss_96 rfl rfl ?_
          refine fx_aload_n 3 dq_MO_miss_97 rfl rfl ?_
          refine fx_geti ok fq_MO_144 ((fx_sm_s e91w _).trans hm.1) dq_MO_miss_98 (by decide) ?_
          refine fx_iastore ok ((fx_sm_s e91w _).trans (mo_mw hm).2) (l14 hi hmk) dq_MO_miss_101 ?_
          have e101w : fx_sm h (fx_wi (fx_wi (fx_wi k (q + 22) (((7 : Int32) * (nI i)) + (fx_i k (q + 21) i)).toNatClampNeg (fx_i k q 38)) (q + 23) (((7 : Int32) * (nI i)) + (fx_i k (q + 21) i)).toNatClampNeg (fx_i (fx_wi k (q + 22) (((7 : Int32) * (nI i)) + (fx_i k (q + 21) i)).toNatClampNeg (fx_i k q 38)) q 39)) (q + 24) (((7 : Int32) * (nI i)) + (fx_i k (q + 21) i)).toNatClampNeg (fx_i (fx_wi (fx_wi k (q + 22) (((7 : Int32) * (nI i)) + (fx_i k (q + 21) i)).toNatClampNeg (fx_i k q 38)) (q + 23) (((7 : Int32) * (nI i)) + (fx_i k (q + 21) i)).toNatClampNeg (fx_i (fx_wi k (q + 22) (((7 : Int32) * (nI i)) + (fx_i k (q + 21) i)).toNatClampNeg (fx_i k q 38)) q 39)) q 40)) := fx_sm_t (h' := (fx_wi (fx_wi k (q + 22) (((7 : Int32) * (nI i)) + (fx_i k (q + 21) i)).toNatClampNeg (fx_i k q 38)) (q + 23) (((7 : Int32) * (nI i)) + (fx_i k (q + 21) i)).toNatClampNeg (fx_i (fx_wi k (q + 22) (((7 : Int32) * (nI i)) + (fx_i k (q + 21) i)).toNatClampNeg (fx_i k q 38)) q 39))) e91w (sm_wi _ _ _ _)
          refine fx_aload_n 3 dq_MO_miss_102 rfl rfl ?_
          refine fx_getr ok fq_MO_87 ((fx_sm_s e101w _).trans hm.1) dq_MO_miss_103 (by decide) ((fx_sm_r e101w _ _).trans (mo_mh hm).1) ?_
          refine fx_iload_n 0 dq_MO_miss_106 rfl rfl ?_
          refine fx_aload_n 3 dq_MO_miss_107 rfl rfl ?_
          refine fx_geti ok fq_MO_150 ((fx_sm_s e101w _).trans hm.1) dq_MO_miss_108 (by decide) ?_
          refine fx_iastore ok ((fx_sm_s e101w _).trans (mo_mh hm).2) (l14 hi hmk) dq_MO_miss_111 ?_
          have e111w : fx_sm h (fx_wi (fx_wi (fx_wi (fx_wi k (q + 22) (((7 : Int32) * (nI i)) + (fx_i k (q + 21) i)).toNatClampNeg (fx_i k q 38)) (q + 23) (((7 : Int32) * (nI i)) + (fx_i k (q + 21) i)).toNatClampNeg (fx_i (fx_wi k (q + 22) (((7 : Int32) * (nI i)) + (fx_i k (q + 21) i)).toNatClampNeg (fx_i k q 38)) q 39)) (q + 24) (((7 : Int32) * (nI i)) + (fx_i k (q + 21) i)).toNatClampNeg (fx_i (fx_wi (fx_wi k (q + 22) (((7 : Int32) * (nI i)) + (fx_i k (q + 21) i)).toNatClampNeg (fx_i k q 38)) (q + 23) (((7 : Int32) * (nI i)) + (fx_i k (q + 21) i)).toNatClampNeg (fx_i (fx_wi k (q + 22) (((7 : Int32) * (nI i)) + (fx_i k (q + 21) i)).toNatClampNeg (fx_i k q 38)) q 39)) q 40)) (q + 25) (((7 : Int32) * (nI i)) + (fx_i k (q + 21) i)).toNatClampNeg (fx_i (fx_wi (fx_wi (fx_wi k (q + 22) (((7 : Int32) * (nI i)) + (fx_i k (q + 21) i)).toNatClampNeg (fx_i k q 38)) (q + 23) (((7 : Int32) * (nI i)) + (fx_i k (q + 21) i)).toNatClampNeg (fx_i (fx_wi k (q + 22) (((7 : Int32) * (nI i)) + (fx_i k (q + 21) i)).toNatClampNeg (fx_i k q 38)) q 39)) (q + 24) (((7 : Int32) * (nI i)) + (fx_i k (q + 21) i)).toNatClampNeg (fx_i (fx_wi (fx_wi k (q + 22) (((7 : Int32) * (nI i)) + (fx_i k (q + 21) i)).toNatClampNeg (fx_i k q 38)) (q + 23) (((7 : Int32) * (nI i)) + (fx_i k (q + 21) i)).toNatClampNeg (fx_i (fx_wi k (q + 22) (((7 : Int32) * (nI i)) + (fx_i k (q + 21) i)).toNatClampNeg (fx_i k q 38)) q 39)) q 40)) q 41)) := fx_sm_t (h' := (fx_wi (fx_wi (fx_wi k (q + 22) (((7 : Int32) * (nI i)) + (fx_i k (q + 21) i)).toNatClampNeg (fx_i k q 38)) (q + 23) (((7 : Int32) * (nI i)) + (fx_i k (q + 21) i)).toNatClampNeg (fx_i (fx_wi k (q + 22) (((7 : Int32) * (nI i)) + (fx_i k (q + 21) i)).toNatClampNeg (fx_i k q 38)) q 39)) (q + 24) (((7 : Int32) * (nI i)) + (fx_i k (q + 21) i)).toNatClampNeg (fx_i (fx_wi (fx_wi k (q + 22) (((7 : Int32) * (nI i)) + (fx_i k (q + 21) i)).toNatClampNeg (fx_i k q 38)) (q + 23) (((7 : Int32) * (nI i)) + (fx_i k (q + 21) i)).toNatClampNeg (fx_i (fx_wi k (q + 22) (((7 : Int32) * (nI i)) + (fx_i k (q + 21) i)).toNatClampNeg (fx_i k q 38)) q 39)) q 40))) e101w (sm_wi _ _ _ _)
          refine fx_aload_n 3 dq_MO_miss_112 rfl rfl ?_
          refine fx_getr ok fq_MO_75 ((fx_sm_s e111w _).trans hm.1) dq_MO_miss_113 (by decide) ((fx_sm_r e111w _ _).trans (mo_misses hm).1) ?_
          refine fx_iload_n 2 dq_MO_miss_116 rfl rfl ?_
          refine fx_dup2 dq_MO_miss_117 rfl rfl ?_
          refine fx_iaN ok ((fx_sm_s e111w _).trans (mo_misses hm).2) ⟨hi, by decide⟩ dq_MO_miss_118 ?_
          refine fx_iconst (v := 1) dq_MO_miss_119 (by decide) ?_
          refine fx_iadd dq_MO_miss_120 ?_
          refine fx_isN ok ((fx_sm_s e111w _).trans (mo_misses hm).2) ⟨hi, by decide⟩ dq_MO_miss_121 ?_
          have e121w : fx_sm h (fx_wi (fx_wi (fx_wi (fx_wi (fx_wi k (q + 22) (((7 : Int32) * (nI i)) + (fx_i k (q + 21) i)).toNatClampNeg (fx_i k q 38)) (q + 23) (((7 : Int32) * (nI i)) + (fx_i k (q + 21) i)).toNatClampNeg (fx_i (fx_wi k (q + 22) (((7 : Int32) * (nI i)) + (fx_i k (q + 21) i)).toNatClampNeg (fx_i k q 38)) q 39)) (q + 24) (((7 : Int32) * (nI i)) + (fx_i k (q + 21) i)).toNatClampNeg (fx_i (fx_wi (fx_wi k (q + 22) (((7 : Int32) * (nI i)) + (fx_i k (q + 21) i)).toNatClampNeg (fx_i k q 38)) (q + 23) (((7 : Int32) * (nI i)) + (fx_i k (q + 21) i)).toNatClampNeg (fx_i (fx_wi k (q + 22) (((7 : Int32) * (nI i)) + (fx_i k (q + 21) i)).toNatClampNeg (fx_i k q 38)) q 39)) q 40)) (q + 25) (((7 : Int32) * (nI i)) + (fx_i k (q + 21) i)).toNatClampNeg (fx_i (fx_wi (fx_wi (fx_wi k (q + 22) (((7 : Int32) * (nI i)) + (fx_i k (q + 21) i)).toNatClampNeg (fx_i k q 38)) (q + 23) (((7 : Int32) * (nI i)) + (fx_i k (q + 21) i)).toNatClampNeg (fx_i (fx_wi k (q + 22) (((7 : Int32) * (nI i)) + (fx_i k (q + 21) i)).toNatClampNeg (fx_i k q 38)) q 39)) (q + 24) (((7 : Int32) * (nI i)) + (fx_i k (q + 21) i)).toNatClampNeg (fx_i (fx_wi (fx_wi k (q + 22) (((7 : Int32) * (nI i)) + (fx_i k (q + 21) i)).toNatClampNeg (fx_i k q 38)) (q + 23) (((7 : Int32) * (nI i)) + (fx_i k (q + 21) i)).toNatClampNeg (fx_i (fx_wi k (q + 22) (((7 : Int32) * (nI i)) + (fx_i k (q + 21) i)).toNatClampNeg (fx_i k q 38)) q 39)) q 40)) q 41)) (q + 21) i ((fx_i (fx_wi (fx_wi (fx_wi (fx_wi k (q + 22) (((7 : Int32) * (nI i)) + (fx_i k (q + 21) i)).toNatClampNeg (fx_i k q 38)) (q + 23) (((7 : Int32) * (nI i)) + (fx_i k (q + 21) i)).toNatClampNeg (fx_i (fx_wi k (q + 22) (((7 : Int32) * (nI i)) + (fx_i k (q + 21) i)).toNatClampNeg (fx_i k q 38)) q 39)) (q + 24) (((7 : Int32) * (nI i)) + (fx_i k (q + 21) i)).toNatClampNeg (fx_i (fx_wi (fx_wi k (q + 22) (((7 : Int32) * (nI i)) + (fx_i k (q + 21) i)).toNatClampNeg (fx_i k q 38)) (q + 23) (((7 : Int32) * (nI i)) + (fx_i k (q + 21) i)).toNatClampNeg (fx_i (fx_wi k (q + 22) (((7 : Int32) * (nI i)) + (fx_i k (q + 21) i)).toNatClampNeg (fx_i k q 38)) q 39)) q 40)) (q + 25) (((7 : Int32) * (nI i)) + (fx_i k (q + 21) i)).toNatClampNeg (fx_i (fx_wi (fx_wi (fx_wi k (q + 22) (((7 : Int32) * (nI i)) + (fx_i k (q + 21) i)).toNatClampNeg (fx_i k q 38)) (q + 23) (((7 : Int32) * (nI i)) + (fx_i k (q + 21) i)).toNatClampNeg (fx_i (fx_wi k (q + 22) (((7 : Int32) * (nI i)) + (fx_i k (q + 21) i)).toNatClampNeg (fx_i k q 38)) q 39)) (q + 24) (((7 : Int32) * (nI i)) + (fx_i k (q + 21) i)).toNatClampNeg (fx_i (fx_wi (fx_wi k (q + 22) (((7 : Int32) * (nI i)) + (fx_i k (q + 21) i)).toNatClampNeg (fx_i k q 38)) (q + 23) (((7 : Int32) * (nI i)) + (fx_i k (q + 21) i)).toNatClampNeg (fx_i (fx_wi k (q + 22) (((7 : Int32) * (nI i)) + (fx_i k (q + 21) i)).toNatClampNeg (fx_i k q 38)) q 39)) q 40)) q 41)) (q + 21) i) + (1 : Int32))) := fx_sm_t (h' := (fx_wi (fx_wi (fx_wi (fx_wi k (q + 22) (((7 : Int32) * (nI i)) + (fx_i k (q + 21) i)).toNatClampNeg (fx_i k q 38)) (q + 23) (((7 : Int32) * (nI i)) + (fx_i k (q + 21) i)).toNatClampNeg (fx_i (fx_wi k (q + 22) (((7 : Int32) * (nI i)) + (fx_i k (q + 21) i)).toNatClampNeg (fx_i k q 38)) q 39)) (q + 24) (((7 : Int32) * (nI i)) + (fx_i k (q + 21) i)).toNatClampNeg (fx_i (fx_wi (fx_wi k (q + 22) (((7 : Int32) * (nI i)) + (fx_i k (q + 21) i)).toNatClampNeg (fx_i k q 38)) (q + 23) (((7 : Int32) * (nI i)) + (fx_i k (q + 21) i)).toNatClampNeg (fx_i (fx_wi k (q + 22) (((7 : Int32) * (nI i)) + (fx_i k (q + 21) i)).toNatClampNeg (fx_i k q 38)) q 39)) q 40)) (q + 25) (((7 : Int32) * (nI i)) + (fx_i k (q + 21) i)).toNatClampNeg (fx_i (fx_wi (fx_wi (fx_wi k (q + 22) (((7 : Int32) * (nI i)) + (fx_i k (q + 21) i)).toNatClampNeg (fx_i k q 38)) (q + 23) (((7 : Int32) * (nI i)) + (fx_i k (q + 21) i)).toNatClampNeg (fx_i (fx_wi k (q + 22) (((7 : Int32) * (nI i)) + (fx_i k (q + 21) i)).toNatClampNeg (fx_i k q 38)) q 39)) (q + 24) (((7 : Int32) * (nI i)) + (fx_i k (q + 21) i)).toNatClampNeg (fx_i (fx_wi (fx_wi k (q + 22) (((7 : Int32) * (nI i)) + (fx_i k (q + 21) i)).toNatClampNeg (fx_i k q 38)) (q + 23) (((7 : Int32) * (nI i)) + (fx_i k (q + 21) i)).toNatClampNeg (fx_i (fx_wi k (q + 22) (((7 : Int32) * (nI i)) + (fx_i k (q + 21) i)).toNatClampNeg (fx_i k q 38)) q 39)) q 40)) q 41))) e111w (sm_wi _ _ _ _)
          refine fx_eqh (h' := ms1 q i k) rfl ?_
          have e122f : fx_sm h (ms1 q i k) := e121w
          refine fx_aload_n 3 dq_MO_miss_122 rfl rfl ?_
          refine fx_getr ok fq_MO_75 ((fx_sm_s e122f _).trans hm.1) dq_MO_miss_123 (by decide) ((fx_sm_r e122f _ _).trans (mo_misses hm).1) ?_
          refine fx_iload_n 2 dq_MO_miss_126 rfl rfl ?_
          refine fx_iaN ok ((fx_sm_s e122f _).trans (mo_misses hm).2) ⟨hi, by decide⟩ dq_MO_miss_127 ?_
          refine fx_bipush (v := 7) dq_MO_miss_128 (by decide) ?_
          refine fx_icmp_ne (tgt := 138) dq_MO_miss_130 (by decide) (fun hc130 => ?_) (fun hc130 => ?_)
          · -- 130: jump
            refine fx_iinc 2 dq_MO_miss_138 rfl (jz_i _) (by decide) rfl ?_
            refine fx_goto (tgt := 2) dq_MO_miss_141 (by decide) ?_
            refine fx_sub [0, 3] rfl ?_
            exact fx_eqh (by rw [b_MO_miss, if_pos hc54, if_neg hc130]) hK2
          · -- 130: fall
            refine fx_aload_n 3 dq_MO_miss_133 rfl rfl ?_
            refine fx_iload_n 2 dq_MO_miss_134 rfl rfl ?_
            refine fx_Vv1 ok sq_MO_197 ((fx_sm_s e122f _).trans hm.1) (c_MO_join ok (ms1 q i k) q i (by exact isM_sm e122f hm) hi) (by decide) (Nat.le_of_ble_eq_true rfl) dq_MO_miss_135 ?_
            have e135 : fx_sm h (k_MO_join (ms1 q i k) q i) := fx_sm_t (h' := (ms1 q i k)) e122f (mfr_join (ms1 q i k) q i).1
            refine fx_iinc 2 dq_MO_miss_138 rfl (jz_i _) (by decide) rfl ?_
            refine fx_goto (tgt := 2) dq_MO_miss_141 (by decide) ?_
            refine fx_sub [0, 3] rfl ?_
            exact fx_eqh (by rw [b_MO_miss, if_pos hc54, if_pos hc130]) hK2
        · -- 54: fall
          refine fx_goto (tgt := 138) dq_MO_miss_57 (by decide) ?_
          refine fx_iinc 2 dq_MO_miss_138 rfl (jz_i _) (by decide) rfl ?_
          refine fx_goto (tgt := 2) dq_MO_miss_141 (by decide) ?_
          refine fx_sub [0, 3] rfl ?_
          exact fx_eqh (by rw [b_MO_miss, if_neg hc54]) hK2
    · have e2x : fx_sm h (it (b_MO_miss q) h 2) := fx_sm_t (h' := h) (rfl : fx_sm h h) (fx_sm_it (fun n k => (mfr_bmiss q n k).1) h 2)
      refine fx_iload_n 0 dq_MO_miss_2 rfl rfl ?_
      refine fx_iconst (v := 2) dq_MO_miss_3 (by decide) ?_
      refine fx_icmp_ge (tgt := 144) dq_MO_miss_4 (by decide) (fun hc4 => ?_) (fun hc4 => absurd (by decide) hc4)
      exact fx_vreturn rfl dq_MO_miss_144 ⟨rfl, by rw [k_MO_miss, if_neg hw]⟩
theorem mfr_miss (h : fx_H) (q : Nat) : mfr q [21, 22, 23, 24, 25] [] h (k_MO_miss h q) := by
  unfold k_MO_miss
  split
  · exact mfr_rf _ _ _ _
  · exact mfr_it (fun n k => mfr_bmiss q n k) (mfr_rf _ _ _ _) 2
theorem ms_self (q n : Nat) (k : fx_H) (hk : 0 ≤ (fx_i k (q + 21) n).toInt ∧ (fx_i k (q + 21) n).toInt ≤ 6) : 0 ≤ (fx_i (b_MO_miss q n k) (q + 21) n).toInt ∧ (fx_i (b_MO_miss q n k) (q + 21) n).toInt ≤ 6 := by
  have e1 : (1 : Int32).toInt = 1 := rfl
  have h1 : (fx_i (ms1 q n k) (q + 21) n).toInt = (fx_i k (q + 21) n).toInt + 1 := by
    have e : fx_i (ms1 q n k) (q + 21) n = fx_i k (q + 21) n + 1 := by
      unfold ms1
      simp [fx_i_wi]
    rw [e, iz_add (by omega), e1]
  have h2 : ∀ k', (fx_i (k_MO_join k' q n) (q + 21) n).toInt = 6 := by
    intro k'
    unfold k_MO_join k_MO_joinA
    have e : ∀ (B : Nat) (l : fx_H) (N : Nat), fx_i (it (b_MO_join q B) l N) (q + 21) n = fx_i l (q + 21) n := fun B l N => it_keep (fun k => fx_i k (q + 21) n) (b_MO_join q B) l (fun n k => by unfold b_MO_join; simp [fx_i_wi]) N
    repeat' split
    all_goals rw [e]
    all_goals simp [fx_i_wi]
    all_goals rfl
  unfold b_MO_miss
  repeat' split
  · rw [h2]
    decide
  · rename_i h7
    have e7 : (7 : Int32).toInt = 7 := rfl
    rw [iz_eq, e7] at h7
    omega
  · exact hk
theorem mOk2_miss {h : fx_H} {q : Nat} (hms : mOk2 h q) : mOk2 (k_MO_miss h q) q := by
  unfold k_MO_miss
  split
  · exact hms
  · intro m hm
    have h1 : m = 0 ∨ m = 1 := by omega
    rw [it_s, it_s, it_0]
    rcases h1 with rfl | rfl
    · rw [ms_other q 1 _ 0 (by decide)]
      exact ms_self q 0 h (hms 0 (by decide))
    · refine ms_self q 1 _ ?_
      rw [ms_other q 0 h 1 (by decide)]
      exact hms 1 (by decide)
theorem mOk2_wf {h : fx_H} {q j : Nat} {v : Int32} (hms : mOk2 h q) : mOk2 (fx_wi h q j v) q := by
  intro m hm
  rw [wi_q _ _ _ _ _ _ (by decide)]
  exact hms m hm
theorem mOk2_mfr {h k : fx_H} {q : Nat} {L F : List Nat} (e : mfr q L F h k) (hL : 21 ∉ L) (hms : mOk2 h q) : mOk2 k q := by
  intro m hm
  rw [mfr_at e ⟨hL, by decide⟩]
  exact hms m hm
