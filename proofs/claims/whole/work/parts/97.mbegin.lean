/-! ===== the Model: begin ===== -/
theorem jz_b {i : Nat} (hi : i < 10) : (20 : Int32) + nI i = nI (20 + i) := by
  have e0 : (20 : Int32).toInt = 20 := rfl
  have e1 : (nI i).toInt = i := nI_toInt (by omega)
  rw [iz_eq, iz_add (by rw [e0, e1]; omega), e0, e1, nI_toInt (by omega)]
  omega
theorem isPlane_b (h : fx_H) (q : Nat) (s : Int32) : v_MO_isPlane h q s = 0 ∨ v_MO_isPlane h q s = 1 := by
  unfold v_MO_isPlane
  split
  · exact Or.inr rfl
  · split
    · exact Or.inr rfl
    · exact Or.inl rfl
def mCl (h : fx_H) (q : Nat) : Prop := ∀ s, s < 10 → ¬ fx_i h (q + 1) s = 0 → vp_in (fx_i h (q + 2) s) 4
def mbA (q i : Nat) (k : fx_H) : fx_H := fx_wi (fx_wi (fx_wi (k_MO_show k q ((20 : Int32) + (nI i))) (q + 31) i (v_MO_isPlane (k_MO_show k q ((20 : Int32) + (nI i))) q (nI i))) (q + 27) i (fx_i (fx_wi (k_MO_show k q ((20 : Int32) + (nI i))) (q + 31) i (v_MO_isPlane (k_MO_show k q ((20 : Int32) + (nI i))) q (nI i))) q 38)) (q + 28) i (fx_i (fx_wi (fx_wi (k_MO_show k q ((20 : Int32) + (nI i))) (q + 31) i (v_MO_isPlane (k_MO_show k q ((20 : Int32) + (nI i))) q (nI i))) (q + 27) i (fx_i (fx_wi (k_MO_show k q ((20 : Int32) + (nI i))) (q + 31) i (v_MO_isPlane (k_MO_show k q ((20 : Int32) + (nI i))) q (nI i))) q 38)) q 39)
def b1_MO_begin (q : Nat) (i : Nat) (k : fx_H) : fx_H := if (fx_i (mbA q i k) (q + 31) i) = 0 then fx_wi (fx_wi (mbA q i k) (q + 29) i (fx_i (mbA q i k) q 40)) (q + 30) i (fx_i (fx_wi (mbA q i k) (q + 29) i (fx_i (mbA q i k) q 40)) q 41) else fx_wi (fx_wi (mbA q i k) (q + 29) i (0 : Int32)) (q + 30) i (fx_i (fx_wi (mbA q i k) (q + 29) i (0 : Int32)) q 41)
theorem mfr_b1 (q n : Nat) (k : fx_H) : mfr q [27, 28, 29, 30, 31] [38, 39, 40, 41] k (b1_MO_begin q n k) := by
  have h1 : mfr q [27, 28, 29, 30, 31] [38, 39, 40, 41] k (mbA q n k) := by
    unfold mbA
    exact mfr_wi (mfr_wi (mfr_wi (mfr_m (mfr_show _ _ _) (fun o ho => by cases ho) (fun o ho => ho)) (by decide)) (by decide)) (by decide)
  unfold b1_MO_begin
  repeat' split
  all_goals exact mfr_wi (mfr_wi h1 (by decide)) (by decide)
def b2_MO_begin (q : Nat) (i : Nat) (k : fx_H) : fx_H := if (fx_i k (q + 1) i) = 0 then k else k_MO_copyPicture k q ((10 : Int32) + (nI i)) ((20 : Int32) + (nI i))
theorem mfr_b2 (q n : Nat) (k : fx_H) : mfr q [7, 8, 9, 10, 11, 12, 13, 14, 15, 16, 17] [] k (b2_MO_begin q n k) := by
  unfold b2_MO_begin
  split
  · exact mfr_rf _ _ _ _
  · exact mfr_copyPicture _ _ _ _
def mbB (h : fx_H) (q : Nat) : fx_H := k_MO_choosePlanes (it (b2_MO_begin q) (it (b1_MO_begin q) h 10) 10) q
theorem mfr_mb2 (h : fx_H) (q : Nat) : mfr q [7, 8, 9, 10, 11, 12, 13, 14, 15, 16, 17, 26, 27, 28, 29, 30, 31] [38, 39, 40, 41] h (mbB h q) := by
  unfold mbB
  refine mfr_t (k := it (b2_MO_begin q) (it (b1_MO_begin q) h 10) 10) ?_ (mfr_m (mfr_choosePlanes _ _) (by decide) (by decide))
  refine mfr_it (fun n k => mfr_m (mfr_b2 q n k) (by decide) (by decide)) ?_ 10
  exact mfr_it (fun n k => mfr_m (mfr_b1 q n k) (by decide) (by decide)) (mfr_rf _ _ _ _) 10
def mbC (q i : Nat) (k : fx_H) : fx_H := fx_wi (fx_wi (fx_wi (fx_wi k q 38 (fx_i k (q + 27) i)) q 39 (fx_i (fx_wi k q 38 (fx_i k (q + 27) i)) (q + 28) i)) q 40 (fx_i (fx_wi (fx_wi k q 38 (fx_i k (q + 27) i)) q 39 (fx_i (fx_wi k q 38 (fx_i k (q + 27) i)) (q + 28) i)) (q + 29) i)) q 41 (fx_i (fx_wi (fx_wi (fx_wi k q 38 (fx_i k (q + 27) i)) q 39 (fx_i (fx_wi k q 38 (fx_i k (q + 27) i)) (q + 28) i)) q 40 (fx_i (fx_wi (fx_wi k q 38 (fx_i k (q + 27) i)) q 39 (fx_i (fx_wi k q 38 (fx_i k (q + 27) i)) (q + 28) i)) (q + 29) i)) (q + 30) i)
theorem mfr_mb3 (q n : Nat) (k : fx_H) : mfr q [] [38, 39, 40, 41] k (mbC q n k) := by
  unfold mbC
  exact mfr_wf (mfr_wf (mfr_wf (mfr_wf (mfr_rf _ _ _ _) (by decide)) (by decide)) (by decide)) (by decide)
theorem mOk2_mbC {q n : Nat} {k : fx_H} (hms : mOk2 k q) : mOk2 (mbC q n k) q := mOk2_mfr (mfr_mb3 q n k) (by decide) hms
def b3_MO_begin (q : Nat) (i : Nat) (k : fx_H) : fx_H := if (fx_i k (q + 1) i) = 0 then if (fx_i k (q + 31) i) = (v_MO_isPlane k q (nI i)) then k else if (v_MO_isPlane (k_MO_miss (mbC q i k) q) q (nI i)) = 0 then k_MO_miss (k_MO_show (k_MO_miss (mbC q i k) q) q ((20 : Int32) + (nI i))) q else k_MO_miss (mbC q i k) q else if (fx_i k (q + 19) (fx_i k (q + 2) i).toNatClampNeg) = 0 then if (fx_i k (q + 31) i) = (v_MO_isPlane k q (nI i)) then k else if (v_MO_isPlane (k_MO_miss (mbC q i k) q) q (nI i)) = 0 then k_MO_miss (k_MO_show (k_MO_miss (mbC q i k) q) q ((20 : Int32) + (nI i))) q else k_MO_miss (mbC q i k) q else if (v_MO_isPlane (k_MO_miss (mbC q i k) q) q (nI i)) = 0 then k_MO_miss (k_MO_show (k_MO_miss (mbC q i k) q) q ((20 : Int32) + (nI i))) q else k_MO_miss (mbC q i k) q
theorem mfr_b3 (q n : Nat) (k : fx_H) : mfr q [21, 22, 23, 24, 25] [38, 39, 40, 41] k (b3_MO_begin q n k) := by
  have h1 : mfr q [21, 22, 23, 24, 25] [38, 39, 40, 41] k (k_MO_miss (mbC q n k) q) := mfr_t (mfr_m (mfr_mb3 q n k) (by decide) (by decide)) (mfr_m (mfr_miss _ _) (by decide) (by decide))
  have h2 : mfr q [21, 22, 23, 24, 25] [38, 39, 40, 41] k (k_MO_miss (k_MO_show (k_MO_miss (mbC q n k) q) q (20 + nI n)) q) := mfr_t (mfr_t h1 (mfr_m (mfr_show _ _ _) (by decide) (by decide))) (mfr_m (mfr_miss _ _) (by decide) (by decide))
  unfold b3_MO_begin
  repeat' split
  all_goals first | with_reducible exact mfr_rf _ _ _ _ | with_reducible exact h1 | with_reducible exact h2
theorem ms_b3 (q n : Nat) (k : fx_H) (hms : mOk2 k q) : mOk2 (b3_MO_begin q n k) q := by
  have h1 := mOk2_miss (mOk2_mbC (n := n) hms)
  have h2 := mOk2_miss (mOk2_mfr (mfr_show (k_MO_miss (mbC q n k) q) q (20 + nI n)) (by decide) h1)
  unfold b3_MO_begin
  repeat' split
  all_goals first | with_reducible exact hms | with_reducible exact h1 | with_reducible exact h2
theorem mb_ms (h : fx_H) (q : Nat) (hms : mOk2 h q) (n : Nat) : mOk2 (it (b3_MO_begin q) (mbB h q) n) q :=
  it_inv (fun _ k => mOk2 k q) (b3_MO_begin q) (mbB h q) (mOk2_mfr (mfr_mb2 h q) (by decide) hms) n (fun i k _ hk => ms_b3 q i k hk) n (Nat.le_refl _)
theorem mb_cl (h : fx_H) (q : Nat) (hcl : mCl h q) (n i : Nat) (hi : i < 10) : ¬ fx_i (it (b3_MO_begin q) (mbB h q) n) (q + 1) i = 0 → vp_in (fx_i (it (b3_MO_begin q) (mbB h q) n) (q + 2) i) 4 := by
  have e := mfr_it (L := [21, 22, 23, 24, 25]) (F := [38, 39, 40, 41]) (fun n k => mfr_b3 q n k) (mfr_rf q _ _ (mbB h q)) n
  rw [mfr_at e (by decide), mfr_at e (by decide), mfr_at (mfr_mb2 h q) (by decide), mfr_at (mfr_mb2 h q) (by decide)]
  exact hcl i hi
def mbD (h : fx_H) (q : Nat) : fx_H := (it (b3_MO_begin q) (mbB h q) 10)
def b4_MO_begin (q : Nat) (i : Nat) (k : fx_H) : fx_H := if (fx_i k (q + 1) i) = 0 then k else if (fx_i k (q + 6) i) = 0 then k else fx_wi (fx_wi (fx_wi k (q + 1) i (0 : Int32)) (q + 7) ((10 : Int32) + (nI i)).toNatClampNeg (0 : Int32)) (q + 7) ((20 : Int32) + (nI i)).toNatClampNeg (0 : Int32)
theorem mfr_b4 (q n : Nat) (k : fx_H) : mfr q [1, 7] [] k (b4_MO_begin q n k) := by
  unfold b4_MO_begin
  repeat' split
  all_goals first | exact mfr_rf _ _ _ _ | exact mfr_wi (mfr_wi (mfr_wi (mfr_rf _ _ _ _) (by decide)) (by decide)) (by decide)
def b5_MO_begin (q : Nat) (i : Nat) (k : fx_H) : fx_H := fx_wi k (q + 19) i (0 : Int32)
theorem mfr_b5 (q n : Nat) (k : fx_H) : mfr q [19] [] k (b5_MO_begin q n k) := by
  unfold b5_MO_begin
  exact mfr_wi (mfr_rf _ _ _ _) (by decide)
def mbE (h : fx_H) (q : Nat) : fx_H := (it (b5_MO_begin q) (it (b4_MO_begin q) (mbD h q) 10) 4)
def k_MO_begin (h : fx_H) (q : Nat) : fx_H := fx_wi (fx_wi (fx_wi (fx_wi (mbE h q) q 20 (fx_i (mbE h q) q 19)) q 22 (1 : Int32)) q 31 (0 : Int32)) q 32 (0 : Int32)
set_option maxRecDepth 100000 in
set_option maxHeartbeats 600000 in
theorem c_MO_begin {g : fx_G} (ok : fx_ok g) (h : fx_H) (q : Nat) (hm : isM h q) (hcl : mCl h q) (hms : mOk2 h q) : fx_C g mq_MO_begin [.ref q] h (fx_is none (k_MO_begin h q)) 0 0 := by
  refine fx_body (by decide +kernel) (Nat.le_of_ble_eq_true rfl) ?_
  show fx_X g mq_MO_begin 0 [(0, .ref q)] [] h _ 0 0
  refine fx_iconst (v := 0) dq_MO_begin_0 (by decide) ?_
  refine fx_istore_n dq_MO_begin_1 rfl (by decide) rfl ?_
  refine fx_for (fun i => [(1, .int (nI i)), (0, .ref q)]) (b1_MO_begin q) h 10 (fun i hi hK2 => ?_) ?_
  · have e2b : fx_sm h (it (b1_MO_begin q) h i) := fx_sm_t (h' := h) (rfl : fx_sm h h) (fx_sm_it (fun n k => (mfr_b1 q n k).1) h i)
    generalize it (b1_MO_begin q) h i = k at e2b hK2  ⊢
    refine fx_iload_n 0 dq_MO_begin_2 rfl rfl ?_
    refine fx_bipush (v := 10) dq_MO_begin_3 (by decide) ?_
    refine fx_icmp_ge (tgt := 86) dq_MO_begin_5 (by decide) (fun hc5 => absurd hc5 (nI_ge (b := 10) hi (by decide))) (fun hc5 => ?_)
    refine fx_aload_n 1 dq_MO_begin_8 rfl rfl ?_
    refine fx_bipush (v := 20) dq_MO_begin_9 (by decide) ?_
    refine fx_iload_n 0 dq_MO_begin_11 rfl rfl ?_
    refine fx_iadd dq_MO_begin_12 ?_
    refine fx_Vv1 ok sq_MO_204 ((fx_sm_s e2b _).trans hm.1) (c_MO_show ok k q ((20 : Int32) + (nI i)) (by exact isM_sm e2b hm) (in30b hi)) (by decide) (Nat.le_of_ble_eq_true rfl) dq_MO_begin_13 ?_
    have e13 : fx_sm h (k_MO_show k q ((20 : Int32) + (nI i))) := fx_sm_t (h' := k) e2b (sm_MO_show k q ((20 : Int32) + (nI i)))
    refine fx_aload_n 1 dq_MO_begin_16 rfl rfl ?_
    refine fx_getr ok fq_MO_105 ((fx_sm_s e13 _).trans hm.1) dq_MO_begin_17 (by decide) ((fx_sm_r e13 _ _).trans (mo_wasPlane hm).1) ?_
    refine fx_iload_n 0 dq_MO_begin_20 rfl rfl ?_
    refine fx_aload_n 1 dq_MO_begin_21 rfl rfl ?_
    refine fx_iload_n 0 dq_MO_begin_22 rfl rfl ?_
    refine fx_Vi1 ok sq_MO_207 ((fx_sm_s e13 _).trans hm.1) (c_MO_isPlane ok (k_MO_show k q ((20 : Int32) + (nI i))) q (nI i) (by exact isM_sm e13 hm)) (by decide) (Nat.le_of_ble_eq_true rfl) dq_MO_begin_23 ?_
    refine fx_bsN ok ((fx_sm_s e13 _).trans (mo_wasPlane hm).2) (isPlane_b _ _ _) ⟨hi, by decide⟩ dq_MO_begin_26 ?_
    have e26w : fx_sm h (fx_wi (k_MO_show k q ((20 : Int32) + (nI i))) (q + 31) i (v_MO_isPlane (k_MO_show k q ((20 : Int32) + (nI i))) q (nI i))) := fx_sm_t (h' := (k_MO_show k q ((20 : Int32) + (nI i)))) e13 (sm_wi _ _ _ _)
    refine fx_aload_n 1 dq_MO_begin_27 rfl rfl ?_
    refine fx_getr ok fq_MO_93 ((fx_sm_s e26w _).trans hm.1) dq_MO_begin_28 (by decide) ((fx_sm_r e26w _ _).trans (mo_wasX hm).1) ?_
    refine fx_iload_n 0 dq_MO_begin_31 rfl rfl ?_
    refine fx_aload_n 1 dq_MO_begin_32 rfl rfl ?_
    refine fx_geti ok fq_MO_141 ((fx_sm_s e26w _).trans hm.1) dq_MO_begin_33 (by decide) ?_
    refine fx_isN ok ((fx_sm_s e26w _).trans (mo_wasX hm).2) ⟨hi, by decide⟩ dq_MO_begin_36 ?_
    have e36w : fx_sm h (fx_wi (fx_wi (k_MO_show k q ((20 : Int32) + (nI i))) (q + 31) i (v_MO_isPlane (k_MO_show k q ((20 : Int32) + (nI i))) q (nI i))) (q + 27) i (fx_i (fx_wi (k_MO_show k q ((20 : Int32) + (nI i))) (q + 31) i (v_MO_isPlane (k_MO_show k q ((20 : Int32) + (nI i))) q (nI i))) q 38)) := fx_sm_t (h' := (fx_wi (k_MO_show k q ((20 : Int32) + (nI i))) (q + 31) i (v_MO_isPlane (k_MO_show k q ((20 : Int32) + (nI i))) q (nI i)))) e26w (sm_wi _ _ _ _)
    refine fx_aload_n 1 dq_MO_begin_37 rfl rfl ?_
    refine fx_getr ok fq_MO_96 ((fx_sm_s e36w _).trans hm.1) dq_MO_begin_38 (by decide) ((fx_sm_r e36w _ _).trans (mo_wasY hm).1) ?_
    refine fx_iload_n 0 dq_MO_begin_41 rfl rfl ?_
    refine fx_aload_n 1 dq_MO_begin_42 rfl rfl ?_
    refine fx_geti ok fq_MO_147 ((fx_sm_s e36w _).trans hm.1) dq_MO_begin_43 (by decide) ?_
    refine fx_isN ok ((fx_sm_s e36w _).trans (mo_wasY hm).2) ⟨hi, by decide⟩ dq_MO_begin_46 ?_
    have e46w : fx_sm h (fx_wi (fx_wi (fx_wi (k_MO_show k q ((20 : Int32) + (nI i))) (q + 31) i (v_MO_isPlane (k_MO_show k q ((20 : Int32) + (nI i))) q (nI i))) (q + 27) i (fx_i (fx_wi (k_MO_show k q ((20 : Int32) + (nI i))) (q + 31) i (v_MO_isPlane (k_MO_show k q ((20 : Int32) + (nI i))) q (nI i))) q 38)) (q + 28) i (fx_i (fx_wi (fx_wi (k_MO_show k q ((20 : Int32) + (nI i))) (q + 31) i (v_MO_isPlane (k_MO_show k q ((20 : Int32) + (nI i))) q (nI i))) (q + 27) i (fx_i (fx_wi (k_MO_show k q ((20 : Int32) + (nI i))) (q + 31) i (v_MO_isPlane (k_MO_show k q ((20 : Int32) + (nI i))) q (nI i))) q 38)) q 39)) := fx_sm_t (h' := (fx_wi (fx_wi (k_MO_show k q ((20 : Int32) + (nI i))) (q + 31) i (v_MO_isPlane (k_MO_show k q ((20 : Int32) + (nI i))) q (nI i))) (q + 27) i (fx_i (fx_wi (k_MO_show k q ((20 : Int32) + (nI i))) (q + 31) i (v_MO_isPlane (k_MO_show k q ((20 : Int32) + (nI i))) q (nI i))) q 38))) e36w (sm_wi _ _ _ _)
    refine fx_eqh (h' := mbA q i k) rfl ?_
    have e47f : fx_sm h (mbA q i k) := e46w
    refine fx_aload_n 1 dq_MO_begin_47 rfl rfl ?_
    refine fx_getr ok fq_MO_99 ((fx_sm_s e47f _).trans hm.1) dq_MO_begin_48 (by decide) ((fx_sm_r e47f _ _).trans (mo_wasW hm).1) ?_
    refine fx_iload_n 0 dq_MO_begin_51 rfl rfl ?_
    refine fx_aload_n 1 dq_MO_begin_52 rfl rfl ?_
    refine fx_getr ok fq_MO_105 ((fx_sm_s e47f _).trans hm.1) dq_MO_begin_53 (by decide) ((fx_sm_r e47f _ _).trans (mo_wasPlane hm).1) ?_
    refine fx_iload_n 0 dq_MO_begin_56 rfl rfl ?_
    refine fx_baN ok ((fx_sm_s e47f _).trans (mo_wasPlane hm).2) ⟨hi, by decide⟩ dq_MO_begin_57 ?_
    refine fx_if_eq (tgt := 65) dq_MO_begin_58 (by decide) (fun hc58 => ?_) (fun hc58 => ?_)
    · -- 58: jump
      refine fx_aload_n 1 dq_MO_begin_65 rfl rfl ?_
      refine fx_geti ok fq_MO_144 ((fx_sm_s e47f _).trans hm.1) dq_MO_begin_66 (by decide) ?_
      refine fx_isN ok ((fx_sm_s e47f _).trans (mo_wasW hm).2) ⟨hi, by decide⟩ dq_MO_begin_69 ?_
      have e69w : fx_sm h (fx_wi (mbA q i k) (q + 29) i (fx_i (mbA q i k) q 40)) := fx_sm_t (h' := (mbA q i k)) e47f (sm_wi _ _ _ _)
      refine fx_aload_n 1 dq_MO_begin_70 rfl rfl ?_
      refine fx_getr ok fq_MO_102 ((fx_sm_s e69w _).trans hm.1) dq_MO_begin_71 (by decide) ((fx_sm_r e69w _ _).trans (mo_wasH hm).1) ?_
      refine fx_iload_n 0 dq_MO_begin_74 rfl rfl ?_
      refine fx_aload_n 1 dq_MO_begin_75 rfl rfl ?_
      refine fx_geti ok fq_MO_150 ((fx_sm_s e69w _).trans hm.1) dq_MO_begin_76 (by decide) ?_
      refine fx_isN ok ((fx_sm_s e69w _).trans (mo_wasH hm).2) ⟨hi, by decide⟩ dq_MO_begin_79 ?_
      have e79w : fx_sm h (fx_wi (fx_wi (mbA q i k) (q + 29) i (fx_i (mbA q i k) q 40)) (q + 30) i (fx_i (fx_wi (mbA q i k) (q + 29) i (fx_i (mbA q i k) q 40)) q 41)) := fx_sm_t (h' := (fx_wi (mbA q i k) (q + 29) i (fx_i (mbA q i k) q 40))) e69w (sm_wi _ _ _ _)
      refine fx_iinc 0 dq_MO_begin_80 rfl (jz_i _) (by decide) rfl ?_
      refine fx_goto (tgt := 2) dq_MO_begin_83 (by decide) ?_
      refine fx_sub [0, 1] rfl ?_
      exact fx_eqh (by rw [b1_MO_begin, if_pos hc58]) hK2
    · -- 58: fall
      refine fx_iconst (v := 0) dq_MO_begin_61 (by decide) ?_
      refine fx_goto (tgt := 69) dq_MO_begin_62 (by decide) ?_
      refine fx_isN ok ((fx_sm_s e47f _).trans (mo_wasW hm).2) ⟨hi, by decide⟩ dq_MO_begin_69 ?_
      have e69w : fx_sm h (fx_wi (mbA q i k) (q + 29) i (0 : Int32)) := fx_sm_t (h' := (mbA q i k)) e47f (sm_wi _ _ _ _)
      refine fx_aload_n 1 dq_MO_begin_70 rfl rfl ?_
      refine fx_getr ok fq_MO_102 ((fx_sm_s e69w _).trans hm.1) dq_MO_begin_71 (by decide) ((fx_sm_r e69w _ _).trans (mo_wasH hm).1) ?_
      refine fx_iload_n 0 dq_MO_begin_74 rfl rfl ?_
      refine fx_aload_n 1 dq_MO_begin_75 rfl rfl ?_
      refine fx_geti ok fq_MO_150 ((fx_sm_s e69w _).trans hm.1) dq_MO_begin_76 (by decide) ?_
      refine fx_isN ok ((fx_sm_s e69w _).trans (mo_wasH hm).2) ⟨hi, by decide⟩ dq_MO_begin_79 ?_
      have e79w : fx_sm h (fx_wi (fx_wi (mbA q i k) (q + 29) i (0 : Int32)) (q + 30) i (fx_i (fx_wi (mbA q i k) (q + 29) i (0 : Int32)) q 41)) := fx_sm_t (h' := (fx_wi (mbA q i k) (q + 29) i (0 : Int32))) e69w (sm_wi _ _ _ _)
      refine fx_iinc 0 dq_MO_begin_80 rfl (jz_i _) (by decide) rfl ?_
      refine fx_goto (tgt := 2) dq_MO_begin_83 (by decide) ?_
      refine fx_sub [0, 1] rfl ?_
      exact fx_eqh (by rw [b1_MO_begin, if_neg hc58]) hK2
  · have e2x : fx_sm h (it (b1_MO_begin q) h 10) := fx_sm_t (h' := h) (rfl : fx_sm h h) (fx_sm_it (fun n k => (mfr_b1 q n k).1) h 10)
    refine fx_iload_n 0 dq_MO_begin_2 rfl rfl ?_
    refine fx_bipush (v := 10) dq_MO_begin_3 (by decide) ?_
    refine fx_icmp_ge (tgt := 86) dq_MO_begin_5 (by decide) (fun hc5 => ?_) (fun hc5 => absurd (by decide) hc5)
    refine fx_iconst (v := 0) dq_MO_begin_86 (by decide) ?_
    refine fx_istore_n dq_MO_begin_87 rfl (by decide) rfl ?_
    refine fx_for (fun i => [(1, .int (nI i)), (0, .ref q)]) (b2_MO_begin q) (it (b1_MO_begin q) h 10) 10 (fun i hi hK88 => ?_) ?_
    · have e88b : fx_sm h (it (b2_MO_begin q) (it (b1_MO_begin q) h 10) i) := fx_sm_t (h' := (it (b1_MO_begin q) h 10)) e2x (fx_sm_it (fun n k => (mfr_b2 q n k).1) (it (b1_MO_begin q) h 10) i)
      generalize it (b2_MO_begin q) (it (b1_MO_begin q) h 10) i = k at e88b hK88  ⊢
      refine fx_iload_n 0 dq_MO_begin_88 rfl rfl ?_
      refine fx_bipush (v := 10) dq_MO_begin_89 (by decide) ?_
      refine fx_icmp_ge (tgt := 121) dq_MO_begin_91 (by decide) (fun hc91 => absurd hc91 (nI_ge (b := 10) hi (by decide))) (fun hc91 => ?_)
      refine fx_aload_n 1 dq_MO_begin_94 rfl rfl ?_
      refine fx_getr ok fq_MO_7 ((fx_sm_s e88b _).trans hm.1) dq_MO_begin_95 (by decide) ((fx_sm_r e88b _ _).trans (mo_used hm).1) ?_
      refine fx_iload_n 0 dq_MO_begin_98 rfl rfl ?_
      refine fx_baN ok ((fx_sm_s e88b _).trans (mo_used hm).2) ⟨hi, by decide⟩ dq_MO_begin_99 ?_
      refine fx_if_eq (tgt := 115) dq_MO_begin_100 (by decide) (fun hc100 => ?_) (fun hc100 => ?_)
      · -- 100: jump
        refine fx_iinc 0 dq_MO_begin_115 rfl (jz_i _) (by decide) rfl ?_
        refine fx_goto (tgt := 88) dq_MO_begin_118 (by decide) ?_
        refine fx_sub [0, 1] rfl ?_
        exact fx_eqh (by rw [b2_MO_begin, if_pos hc100]) hK88
      · -- 100: fall
        refine fx_aload_n 1 dq_MO_begin_103 rfl rfl ?_
        refine fx_bipush (v := 10) dq_MO_begin_104 (by decide) ?_
        refine fx_iload_n 0 dq_MO_begin_106 rfl rfl ?_
        refine fx_iadd dq_MO_begin_107 ?_
        refine fx_bipush (v := 20) dq_MO_begin_108 (by decide) ?_
        refine fx_iload_n 0 dq_MO_begin_110 rfl rfl ?_
        refine fx_iadd dq_MO_begin_111 ?_
        refine fx_Vv2 ok sq_MO_170 ((fx_sm_s e88b _).trans hm.1) (c_MO_copyPicture ok k q ((10 : Int32) + (nI i)) ((20 : Int32) + (nI i)) (by exact isM_sm e88b hm) (in30a hi) (in30b hi) (fun _ h9 => by rw [jz_a hi]; exact px_in (by omega) h9) (fun _ h9 => by rw [jz_b hi]; exact px_in (by omega) h9)) (by decide) (Nat.le_of_ble_eq_true rfl) dq_MO_begin_112 ?_
        have e112 : fx_sm h (k_MO_copyPicture k q ((10 : Int32) + (nI i)) ((20 : Int32) + (nI i))) := fx_sm_t (h' := k) e88b (sm_MO_copyPicture k q ((10 : Int32) + (nI i)) ((20 : Int32) + (nI i)))
        refine fx_iinc 0 dq_MO_begin_115 rfl (jz_i _) (by decide) rfl ?_
        refine fx_goto (tgt := 88) dq_MO_begin_118 (by decide) ?_
        refine fx_sub [0, 1] rfl ?_
        exact fx_eqh (by rw [b2_MO_begin, if_neg hc100]) hK88
    · have e88x : fx_sm h (it (b2_MO_begin q) (it (b1_MO_begin q) h 10) 10) := fx_sm_t (h' := (it (b1_MO_begin q) h 10)) e2x (fx_sm_it (fun n k => (mfr_b2 q n k).1) (it (b1_MO_begin q) h 10) 10)
      refine fx_iload_n 0 dq_MO_begin_88 rfl rfl ?_
      refine fx_bipush (v := 10) dq_MO_begin_89 (by decide) ?_
      refine fx_icmp_ge (tgt := 121) dq_MO_begin_91 (by decide) (fun hc91 => ?_) (fun hc91 => absurd (by decide) hc91)
      refine fx_aload_n 1 dq_MO_begin_121 rfl rfl ?_
      refine fx_Vv0 ok sq_MO_210 ((fx_sm_s e88x _).trans hm.1) (c_MO_choosePlanes ok (it (b2_MO_begin q) (it (b1_MO_begin q) h 10) 10) q (by exact isM_sm e88x hm)) (by decide) (Nat.le_of_ble_eq_true rfl) dq_MO_begin_122 ?_
      have e122 : fx_sm h (k_MO_choosePlanes (it (b2_MO_begin q) (it (b1_MO_begin q) h 10) 10) q) := fx_sm_t (h' := (it (b2_MO_begin q) (it (b1_MO_begin q) h 10) 10)) e88x (mfr_choosePlanes (it (b2_MO_begin q) (it (b1_MO_begin q) h 10) 10) q).1
      refine fx_eqh (h' := mbB h q) rfl ?_
      have e125f : fx_sm h (mbB h q) := e122
      refine fx_iconst (v := 0) dq_MO_begin_125 (by decide) ?_
      refine fx_istore_n dq_MO_begin_126 rfl (by decide) rfl ?_
      refine fx_for (fun i => [(1, .int (nI i)), (0, .ref q)]) (b3_MO_begin q) (mbB h q) 10 (fun i hi hK127 => ?_) ?_
      · have e127b : fx_sm h (it (b3_MO_begin q) (mbB h q) i) := fx_sm_t (h' := (mbB h q)) e125f (fx_sm_it (fun n k => (mfr_b3 q n k).1) (mbB h q) i)
        have hmk := mb_ms h q hms i
        have hck := mb_cl h q hcl i i hi
        generalize it (b3_MO_begin q) (mbB h q) i = k at e127b hK127 hmk hck ⊢
        refine fx_iload_n 0 dq_MO_begin_127 rfl rfl ?_
        refine fx_bipush (v := 10) dq_MO_begin_128 (by decide) ?_
        refine fx_icmp_ge (tgt := 256) dq_MO_begin_130 (by decide) (fun hc130 => absurd hc130 (nI_ge (b := 10) hi (by decide))) (fun hc130 => ?_)
        refine fx_aload_n 1 dq_MO_begin_133 rfl rfl ?_
        refine fx_getr ok fq_MO_7 ((fx_sm_s e127b _).trans hm.1) dq_MO_begin_134 (by decide) ((fx_sm_r e127b _ _).trans (mo_used hm).1) ?_
        refine fx_iload_n 0 dq_MO_begin_137 rfl rfl ?_
        refine fx_baN ok ((fx_sm_s e127b _).trans (mo_used hm).2) ⟨hi, by decide⟩ dq_MO_begin_138 ?_
        refine fx_if_eq (tgt := 156) dq_MO_begin_139 (by decide) (fun hc139 => ?_) (fun hc139 => ?_)
        · -- 139: jump
          refine fx_aload_n 1 dq_MO_begin_156 rfl rfl ?_
          refine fx_getr ok fq_MO_105 ((fx_sm_s e127b _).trans hm.1) dq_MO_begin_157 (by decide) ((fx_sm_r e127b _ _).trans (mo_wasPlane hm).1) ?_
          refine fx_iload_n 0 dq_MO_begin_160 rfl rfl ?_
          refine fx_baN ok ((fx_sm_s e127b _).trans (mo_wasPlane hm).2) ⟨hi, by decide⟩ dq_MO_begin_161 ?_
          refine fx_aload_n 1 dq_MO_begin_162 rfl rfl ?_
          refine fx_iload_n 0 dq_MO_begin_163 rfl rfl ?_
          refine fx_Vi1 ok sq_MO_207 ((fx_sm_s e127b _).trans hm.1) (c_MO_isPlane ok k q (nI i) (by exact isM_sm e127b hm)) (by decide) (Nat.le_of_ble_eq_true rfl) dq_MO_begin_164 ?_
          refine fx_icmp_eq (tgt := 174) dq_MO_begin_167 (by decide) (fun hc167 => ?_) (fun hc167 => ?_)
          · -- 167: jump
            refine fx_iconst (v := 0) dq_MO_begin_174 (by decide) ?_
            refine fx_istore_n dq_MO_begin_175 rfl (by decide) rfl ?_
            refine fx_iload_n 0 dq_MO_begin_176 rfl rfl ?_
            refine fx_if_ne (tgt := 183) dq_MO_begin_177 (by decide) (fun hc177 => absurd (by decide) hc177) (fun hc177 => ?_)
            refine fx_goto (tgt := 250) dq_MO_begin_180 (by decide) ?_
            refine fx_iinc 1 dq_MO_begin_250 rfl (jz_i _) (by decide) rfl ?_
            refine fx_goto (tgt := 127) dq_MO_begin_253 (by decide) ?_
            refine fx_sub [0, 2] rfl ?_
            exact fx_eqh (by rw [b3_MO_begin, if_pos hc139, if_pos hc167]) hK127
          · -- 167: fall
            refine fx_iconst (v := 1) dq_MO_begin_170 (by decide) ?_
            refine fx_goto (tgt := 175) dq_MO_begin_171 (by decide) ?_
            refine fx_istore_n dq_MO_begin_175 rfl (by decide) rfl ?_
            refine fx_iload_n 0 dq_MO_begin_176 rfl rfl ?_
            refine fx_if_ne (tgt := 183) dq_MO_begin_177 (by decide) (fun hc177 => ?_) (fun hc177 => absurd hc177 (by decide))
            refine fx_aload_n 2 dq_MO_begin_183 rfl rfl ?_
            refine fx_aload_n 2 dq_MO_begin_184 rfl rfl ?_
            refine fx_getr ok fq_MO_93 ((fx_sm_s e127b _).trans hm.1) dq_MO_begin_185 (by decide) ((fx_sm_r e127b _ _).trans (mo_wasX hm).1) ?_
            refine fx_iload_n 1 dq_MO_begin_188 rfl rfl ?_
            refine fx_iaN ok ((fx_sm_s e127b _).trans (mo_wasX hm).2) ⟨hi, by decide⟩ dq_MO_begin_189 ?_
            refine fx_puti ok fp_MO_141 ((fx_sm_s e127b _).trans hm.1) (by decide) dq_MO_begin_190 (Or.inl (by decide)) ?_
            have e190w : fx_sm h (fx_wi k q 38 (fx_i k (q + 27) i)) := fx_sm_t (h' := k) e127b (sm_wi _ _ _ _)
            refine fx_aload_n 2 dq_MO_begin_193 rfl rfl ?_
            refine fx_aload_n 2 dq_MO_begin_194 rfl rfl ?_
            refine fx_getr ok fq_MO_96 ((fx_sm_s e190w _).trans hm.1) dq_MO_begin_195 (by decide) ((fx_sm_r e190w _ _).trans (mo_wasY hm).1) ?_
            refine fx_iload_n 1 dq_MO_begin_198 rfl rfl ?_
            refine fx_iaN ok ((fx_sm_s e190w _).trans (mo_wasY hm).2) ⟨hi, by decide⟩ dq_MO_begin_199 ?_
            refine fx_puti ok fp_MO_147 ((fx_sm_s e190w _).trans hm.1) (by decide) dq_MO_begin_200 (Or.inl (by decide)) ?_
            have e200w : fx_sm h (fx_wi (fx_wi k q 38 (fx_i k (q + 27) i)) q 39 (fx_i (fx_wi k q 38 (fx_i k (q + 27) i)) (q + 28) i)) := fx_sm_t (h' := (fx_wi k q 38 (fx_i k (q + 27) i))) e190w (sm_wi _ _ _ _)
            refine fx_aload_n 2 dq_MO_begin_203 rfl rfl ?_
            refine fx_aload_n 2 dq_MO_begin_204 rfl rfl ?_
            refine fx_getr ok fq_MO_99 ((fx_sm_s e200w _).trans hm.1) dq_MO_begin_205 (by decide) ((fx_sm_r e200w _ _).trans (mo_wasW hm).1) ?_
            refine fx_iload_n 1 dq_MO_begin_208 rfl rfl ?_
            refine fx_iaN ok ((fx_sm_s e200w _).trans (mo_wasW hm).2) ⟨hi, by decide⟩ dq_MO_begin_209 ?_
            refine fx_puti ok fp_MO_144 ((fx_sm_s e200w _).trans hm.1) (by decide) dq_MO_begin_210 (Or.inl (by decide)) ?_
            have e210w : fx_sm h (fx_wi (fx_wi (fx_wi k q 38 (fx_i k (q + 27) i)) q 39 (fx_i (fx_wi k q 38 (fx_i k (q + 27) i)) (q + 28) i)) q 40 (fx_i (fx_wi (fx_wi k q 38 (fx_i k (q + 27) i)) q 39 (fx_i (fx_wi k q 38 (fx_i k (q + 27) i)) (q + 28) i)) (q + 29) i)) := fx_sm_t (h' := (fx_wi (fx_wi k q 38 (fx_i k (q + 27) i)) q 39 (fx_i (fx_wi k q 38 (fx_i k (q + 27) i)) (q + 28) i))) e200w (sm_wi _ _ _ _)
            refine fx_aload_n 2 dq_MO_begin_213 rfl rfl ?_
            refine fx_aload_n 2 dq_MO_begin_214 rfl rfl ?_
            refine fx_getr ok fq_MO_102 ((fx_sm_s e210w _).trans hm.1) dq_MO_begin_215 (by decide) ((fx_sm_r e210w _ _).trans (mo_wasH hm).1) ?_
            refine fx_iload_n 1 dq_MO_begin_218 rfl rfl ?_
            refine fx_iaN ok ((fx_sm_s e210w _).trans (mo_wasH hm).2) ⟨hi, by decide⟩ dq_MO_begin_219 ?_
            refine fx_puti ok fp_MO_150 ((fx_sm_s e210w _).trans hm.1) (by decide) dq_MO_begin_220 (Or.inl (by decide)) ?_
            have e220w : fx_sm h (fx_wi (fx_wi (fx_wi (fx_wi k q 38 (fx_i k (q + 27) i)) q 39 (fx_i (fx_wi k q 38 (fx_i k (q + 27) i)) (q + 28) i)) q 40 (fx_i (fx_wi (fx_wi k q 38 (fx_i k (q + 27) i)) q 39 (fx_i (fx_wi k q 38 (fx_i k (q + 27) i)) (q + 28) i)) (q + 29) i)) q 41 (fx_i (fx_wi (fx_wi (fx_wi k q 38 (fx_i k (q + 27) i)) q 39 (fx_i (fx_wi k q 38 (fx_i k (q + 27) i)) (q + 28) i)) q 40 (fx_i (fx_wi (fx_wi k q 38 (fx_i k (q + 27) i)) q 39 (fx_i (fx_wi k q 38 (fx_i k (q + 27) i)) (q + 28) i)) (q + 29) i)) (q + 30) i)) := fx_sm_t (h' := (fx_wi (fx_wi (fx_wi k q 38 (fx_i k (q + 27) i)) q 39 (fx_i (fx_wi k q 38 (fx_i k (q + 27) i)) (q + 28) i)) q 40 (fx_i (fx_wi (fx_wi k q 38 (fx_i k (q + 27) i)) q 39 (fx_i (fx_wi k q 38 (fx_i k (q + 27) i)) (q + 28) i)) (q + 29) i))) e210w (sm_wi _ _ _ _)
            refine fx_eqh (h' := mbC q i k) rfl ?_
            have e223f : fx_sm h (mbC q i k) := e220w
            refine fx_aload_n 2 dq_MO_begin_223 rfl rfl ?_
            refine fx_Vv0 ok sq_MO_213 ((fx_sm_s e223f _).trans hm.1) (c_MO_miss ok (mbC q i k) q (by exact isM_sm e223f hm) (mOk2_mbC hmk)) (by decide) (Nat.le_of_ble_eq_true rfl) dq_MO_begin_224 ?_
            have e224 : fx_sm h (k_MO_miss (mbC q i k) q) := fx_sm_t (h' := (mbC q i k)) e223f (mfr_miss (mbC q i k) q).1
            refine fx_aload_n 2 dq_MO_begin_227 rfl rfl ?_
            refine fx_iload_n 1 dq_MO_begin_228 rfl rfl ?_
            refine fx_Vi1 ok sq_MO_207 ((fx_sm_s e224 _).trans hm.1) (c_MO_isPlane ok (k_MO_miss (mbC q i k) q) q (nI i) (by exact isM_sm e224 hm)) (by decide) (Nat.le_of_ble_eq_true rfl) dq_MO_begin_229 ?_
            refine fx_if_eq (tgt := 238) dq_MO_begin_232 (by decide) (fun hc232 => ?_) (fun hc232 => ?_)
            · -- 232: jump
              refine fx_aload_n 2 dq_MO_begin_238 rfl rfl ?_
              refine fx_bipush (v := 20) dq_MO_begin_239 (by decide) ?_
              refine fx_iload_n 1 dq_MO_begin_241 rfl rfl ?_
              refine fx_iadd dq_MO_begin_242 ?_
              refine fx_Vv1 ok sq_MO_204 ((fx_sm_s e224 _).trans hm.1) (c_MO_show ok (k_MO_miss (mbC q i k) q) q ((20 : Int32) + (nI i)) (by exact isM_sm e224 hm) (in30b hi)) (by decide) (Nat.le_of_ble_eq_true rfl) dq_MO_begin_243 ?_
              have e243 : fx_sm h (k_MO_show (k_MO_miss (mbC q i k) q) q ((20 : Int32) + (nI i))) := fx_sm_t (h' := (k_MO_miss (mbC q i k) q)) e224 (sm_MO_show (k_MO_miss (mbC q i k) q) q ((20 : Int32) + (nI i)))
              refine fx_aload_n 2 dq_MO_begin_246 rfl rfl ?_
              refine fx_Vv0 ok sq_MO_213 ((fx_sm_s e243 _).trans hm.1) (c_MO_miss ok (k_MO_show (k_MO_miss (mbC q i k) q) q ((20 : Int32) + (nI i))) q (by exact isM_sm e243 hm) (mOk2_mfr (mfr_show _ _ _) (by decide) (mOk2_miss (mOk2_mbC hmk)))) (by decide) (Nat.le_of_ble_eq_true rfl) dq_MO_begin_247 ?_
              have e247 : fx_sm h (k_MO_miss (k_MO_show (k_MO_miss (mbC q i k) q) q ((20 : Int32) + (nI i))) q) := fx_sm_t (h' := (k_MO_show (k_MO_miss (mbC q i k) q) q ((20 : Int32) + (nI i)))) e243 (mfr_miss (k_MO_show (k_MO_miss (mbC q i k) q) q ((20 : Int32) + (nI i))) q).1
              refine fx_iinc 1 dq_MO_begin_250 rfl (jz_i _) (by decide) rfl ?_
              refine fx_goto (tgt := 127) dq_MO_begin_253 (by decide) ?_
              refine fx_sub [0, 2] rfl ?_
              exact fx_eqh (by rw [b3_MO_begin, if_pos hc139, if_neg hc167, if_pos hc232]) hK127
            · -- 232: fall
              refine fx_goto (tgt := 250) dq_MO_begin_235 (by decide) ?_
              refine fx_iinc 1 dq_MO_begin_250 rfl (jz_i _) (by decide) rfl ?_
              refine fx_goto (tgt := 127) dq_MO_begin_253 (by decide) ?_
              refine fx_sub [0, 2] rfl ?_
              exact fx_eqh (by rw [b3_MO_begin, if_pos hc139, if_neg hc167, if_neg hc232]) hK127
        · -- 139: fall
          refine fx_aload_n 1 dq_MO_begin_142 rfl rfl ?_
          refine fx_getr ok fq_MO_65 ((fx_sm_s e127b _).trans hm.1) dq_MO_begin_143 (by decide) ((fx_sm_r e127b _ _).trans (mo_committed hm).1) ?_
          refine fx_aload_n 1 dq_MO_begin_146 rfl rfl ?_
          refine fx_getr ok fq_MO_13 ((fx_sm_s e127b _).trans hm.1) dq_MO_begin_147 (by decide) ((fx_sm_r e127b _ _).trans (mo_client hm).1) ?_
          refine fx_iload_n 0 dq_MO_begin_150 rfl rfl ?_
          refine fx_iaN ok ((fx_sm_s e127b _).trans (mo_client hm).2) ⟨hi, by decide⟩ dq_MO_begin_151 ?_
          refine fx_baload ok ((fx_sm_s e127b _).trans (mo_committed hm).2) (hck hc139) dq_MO_begin_152 ?_
          refine fx_if_ne (tgt := 170) dq_MO_begin_153 (by decide) (fun hc153 => ?_) (fun hc153 => ?_)
          · -- 153: jump
            refine fx_iconst (v := 1) dq_MO_begin_170 (by decide) ?_
            refine fx_goto (tgt := 175) dq_MO_begin_171 (by decide) ?_
            refine fx_istore_n dq_MO_begin_175 rfl (by decide) rfl ?_
            refine fx_iload_n 0 dq_MO_begin_176 rfl rfl ?_
            refine fx_if_ne (tgt := 183) dq_MO_begin_177 (by decide) (fun hc177 => ?_) (fun hc177 => absurd hc177 (by decide))
            refine fx_aload_n 2 dq_MO_begin_183 rfl rfl ?_
            refine fx_aload_n 2 dq_MO_begin_184 rfl rfl ?_
            refine fx_getr ok fq_MO_93 ((fx_sm_s e127b _).trans hm.1) dq_MO_begin_185 (by decide) ((fx_sm_r e127b _ _).trans (mo_wasX hm).1) ?_
            refine fx_iload_n 1 dq_MO_begin_188 rfl rfl ?_
            refine fx_iaN ok ((fx_sm_s e127b _).trans (mo_wasX hm).2) ⟨hi, by decide⟩ dq_MO_begin_189 ?_
            refine fx_puti ok fp_MO_141 ((fx_sm_s e127b _).trans hm.1) (by decide) dq_MO_begin_190 (Or.inl (by decide)) ?_
            have e190w : fx_sm h (fx_wi k q 38 (fx_i k (q + 27) i)) := fx_sm_t (h' := k) e127b (sm_wi _ _ _ _)
            refine fx_aload_n 2 dq_MO_begin_193 rfl rfl ?_
            refine fx_aload_n 2 dq_MO_begin_194 rfl rfl ?_
            refine fx_getr ok fq_MO_96 ((fx_sm_s e190w _).trans hm.1) dq_MO_begin_195 (by decide) ((fx_sm_r e190w _ _).trans (mo_wasY hm).1) ?_
            refine fx_iload_n 1 dq_MO_begin_198 rfl rfl ?_
            refine fx_iaN ok ((fx_sm_s e190w _).trans (mo_wasY hm).2) ⟨hi, by decide⟩ dq_MO_begin_199 ?_
            refine fx_puti ok fp_MO_147 ((fx_sm_s e190w _).trans hm.1) (by decide) dq_MO_begin_200 (Or.inl (by decide)) ?_
            have e200w : fx_sm h (fx_wi (fx_wi k q 38 (fx_i k (q + 27) i)) q 39 (fx_i (fx_wi k q 38 (fx_i k (q + 27) i)) (q + 28) i)) := fx_sm_t (h' := (fx_wi k q 38 (fx_i k (q + 27) i))) e190w (sm_wi _ _ _ _)
            refine fx_aload_n 2 dq_MO_begin_203 rfl rfl ?_
            refine fx_aload_n 2 dq_MO_begin_204 rfl rfl ?_
            refine fx_getr ok fq_MO_99 ((fx_sm_s e200w _).trans hm.1) dq_MO_begin_205 (by decide) ((fx_sm_r e200w _ _).trans (mo_wasW hm).1) ?_
            refine fx_iload_n 1 dq_MO_begin_208 rfl rfl ?_
            refine fx_iaN ok ((fx_sm_s e200w _).trans (mo_wasW hm).2) ⟨hi, by decide⟩ dq_MO_begin_209 ?_
            refine fx_puti ok fp_MO_144 ((fx_sm_s e200w _).trans hm.1) (by decide) dq_MO_begin_210 (Or.inl (by decide)) ?_
            have e210w : fx_sm h (fx_wi (fx_wi (fx_wi k q 38 (fx_i k (q + 27) i)) q 39 (fx_i (fx_wi k q 38 (fx_i k (q + 27) i)) (q + 28) i)) q 40 (fx_i (fx_wi (fx_wi k q 38 (fx_i k (q + 27) i)) q 39 (fx_i (fx_wi k q 38 (fx_i k (q + 27) i)) (q + 28) i)) (q + 29) i)) := fx_sm_t (h' := (fx_wi (fx_wi k q 38 (fx_i k (q + 27) i)) q 39 (fx_i (fx_wi k q 38 (fx_i k (q + 27) i)) (q + 28) i))) e200w (sm_wi _ _ _ _)
            refine fx_aload_n 2 dq_MO_begin_213 rfl rfl ?_
            refine fx_aload_n 2 dq_MO_begin_214 rfl rfl ?_
            refine fx_getr ok fq_MO_102 ((fx_sm_s e210w _).trans hm.1) dq_MO_begin_215 (by decide) ((fx_sm_r e210w _ _).trans (mo_wasH hm).1) ?_
            refine fx_iload_n 1 dq_MO_begin_218 rfl rfl ?_
            refine fx_iaN ok ((fx_sm_s e210w _).trans (mo_wasH hm).2) ⟨hi, by decide⟩ dq_MO_begin_219 ?_
            refine fx_puti ok fp_MO_150 ((fx_sm_s e210w _).trans hm.1) (by decide) dq_MO_begin_220 (Or.inl (by decide)) ?_
            have e220w : fx_sm h (fx_wi (fx_wi (fx_wi (fx_wi k q 38 (fx_i k (q + 27) i)) q 39 (fx_i (fx_wi k q 38 (fx_i k (q + 27) i)) (q + 28) i)) q 40 (fx_i (fx_wi (fx_wi k q 38 (fx_i k (q + 27) i)) q 39 (fx_i (fx_wi k q 38 (fx_i k (q + 27) i)) (q + 28) i)) (q + 29) i)) q 41 (fx_i (fx_wi (fx_wi (fx_wi k q 38 (fx_i k (q + 27) i)) q 39 (fx_i (fx_wi k q 38 (fx_i k (q + 27) i)) (q + 28) i)) q 40 (fx_i (fx_wi (fx_wi k q 38 (fx_i k (q + 27) i)) q 39 (fx_i (fx_wi k q 38 (fx_i k (q + 27) i)) (q + 28) i)) (q + 29) i)) (q + 30) i)) := fx_sm_t (h' := (fx_wi (fx_wi (fx_wi k q 38 (fx_i k (q + 27) i)) q 39 (fx_i (fx_wi k q 38 (fx_i k (q + 27) i)) (q + 28) i)) q 40 (fx_i (fx_wi (fx_wi k q 38 (fx_i k (q + 27) i)) q 39 (fx_i (fx_wi k q 38 (fx_i k (q + 27) i)) (q + 28) i)) (q + 29) i))) e210w (sm_wi _ _ _ _)
            refine fx_eqh (h' := mbC q i k) rfl ?_
            have e223f : fx_sm h (mbC q i k) := e220w
            refine fx_aload_n 2 dq_MO_begin_223 rfl rfl ?_
            refine fx_Vv0 ok sq_MO_213 ((fx_sm_s e223f _).trans hm.1) (c_MO_miss ok (mbC q i k) q (by exact isM_sm e223f hm) (mOk2_mbC hmk)) (by decide) (Nat.le_of_ble_eq_true rfl) dq_MO_begin_224 ?_
            have e224 : fx_sm h (k_MO_miss (mbC q i k) q) := fx_sm_t (h' := (mbC q i k)) e223f (mfr_miss (mbC q i k) q).1
            refine fx_aload_n 2 dq_MO_begin_227 rfl rfl ?_
            refine fx_iload_n 1 dq_MO_begin_228 rfl rfl ?_
            refine fx_Vi1 ok sq_MO_207 ((fx_sm_s e224 _).trans hm.1) (c_MO_isPlane ok (k_MO_miss (mbC q i k) q) q (nI i) (by exact isM_sm e224 hm)) (by decide) (Nat.le_of_ble_eq_true rfl) dq_MO_begin_229 ?_
            refine fx_if_eq (tgt := 238) dq_MO_begin_232 (by decide) (fun hc232 => ?_) (fun hc232 => ?_)
            · -- 232: jump
              refine fx_aload_n 2 dq_MO_begin_238 rfl rfl ?_
              refine fx_bipush (v := 20) dq_MO_begin_239 (by decide) ?_
              refine fx_iload_n 1 dq_MO_begin_241 rfl rfl ?_
              refine fx_iadd dq_MO_begin_242 ?_
              refine fx_Vv1 ok sq_MO_204 ((fx_sm_s e224 _).trans hm.1) (c_MO_show ok (k_MO_miss (mbC q i k) q) q ((20 : Int32) + (nI i)) (by exact isM_sm e224 hm) (in30b hi)) (by decide) (Nat.le_of_ble_eq_true rfl) dq_MO_begin_243 ?_
              have e243 : fx_sm h (k_MO_show (k_MO_miss (mbC q i k) q) q ((20 : Int32) + (nI i))) := fx_sm_t (h' := (k_MO_miss (mbC q i k) q)) e224 (sm_MO_show (k_MO_miss (mbC q i k) q) q ((20 : Int32) + (nI i)))
              refine fx_aload_n 2 dq_MO_begin_246 rfl rfl ?_
              refine fx_Vv0 ok sq_MO_213 ((fx_sm_s e243 _).trans hm.1) (c_MO_miss ok (k_MO_show (k_MO_miss (mbC q i k) q) q ((20 : Int32) + (nI i))) q (by exact isM_sm e243 hm) (mOk2_mfr (mfr_show _ _ _) (by decide) (mOk2_miss (mOk2_mbC hmk)))) (by decide) (Nat.le_of_ble_eq_true rfl) dq_MO_begin_247 ?_
              have e247 : fx_sm h (k_MO_miss (k_MO_show (k_MO_miss (mbC q i k) q) q ((20 : Int32) + (nI i))) q) := fx_sm_t (h' := (k_MO_show (k_MO_miss (mbC q i k) q) q ((20 : Int32) + (nI i)))) e243 (mfr_miss (k_MO_show (k_MO_miss (mbC q i k) q) q ((20 : Int32) + (nI i))) q).1
              refine fx_iinc 1 dq_MO_begin_250 rfl (jz_i _) (by decide) rfl ?_
              refine fx_goto (tgt := 127) dq_MO_begin_253 (by decide) ?_
              refine fx_sub [0, 2] rfl ?_
              exact fx_eqh (by rw [b3_MO_begin, if_neg hc139, if_neg hc153, if_pos hc232]) hK127
            · -- 232: fall
              refine fx_goto (tgt := 250) dq_MO_begin_235 (by decide) ?_
              refine fx_iinc 1 dq_MO_begin_250 rfl (jz_i _) (by decide) rfl ?_
              refine fx_goto (tgt := 127) dq_MO_begin_253 (by decide) ?_
              refine fx_sub [0, 2] rfl ?_
              exact fx_eqh (by rw [b3_MO_begin, if_neg hc139, if_neg hc153, if_neg hc232]) hK127
          · -- 153: fall
            refine fx_aload_n 1 dq_MO_begin_156 rfl rfl ?_
            refine fx_getr ok fq_MO_105 ((fx_sm_s e127b _).trans hm.1) dq_MO_begin_157 (by decide) ((fx_sm_r e127b _ _).trans (mo_wasPlane hm).1) ?_
            refine fx_iload_n 0 dq_MO_begin_160 rfl rfl ?_
            refine fx_baN ok ((fx_sm_s e127b _).trans (mo_wasPlane hm).2) ⟨hi, by decide⟩ dq_MO_begin_161 ?_
            refine fx_aload_n 1 dq_MO_begin_162 rfl rfl ?_
            refine fx_iload_n 0 dq_MO_begin_163 rfl rfl ?_
            refine fx_Vi1 ok sq_MO_207 ((fx_sm_s e127b _).trans hm.1) (c_MO_isPlane ok k q (nI i) (by exact isM_sm e127b hm)) (by decide) (Nat.le_of_ble_eq_true rfl) dq_MO_begin_164 ?_
            refine fx_icmp_eq (tgt := 174) dq_MO_begin_167 (by decide) (fun hc167 => ?_) (fun hc167 => ?_)
            · -- 167: jump
              refine fx_iconst (v := 0) dq_MO_begin_174 (by decide) ?_
              refine fx_istore_n dq_MO_begin_175 rfl (by decide) rfl ?_
              refine fx_iload_n 0 dq_MO_begin_176 rfl rfl ?_
              refine fx_if_ne (tgt := 183) dq_MO_begin_177 (by decide) (fun hc177 => absurd (by decide) hc177) (fun hc177 => ?_)
              refine fx_goto (tgt := 250) dq_MO_begin_180 (by decide) ?_
              refine fx_iinc 1 dq_MO_begin_250 rfl (jz_i _) (by decide) rfl ?_
              refine fx_goto (tgt := 127) dq_MO_begin_253 (by decide) ?_
              refine fx_sub [0, 2] rfl ?_
              exact fx_eqh (by rw [b3_MO_begin, if_neg hc139, if_pos hc153, if_pos hc167]) hK127
            · -- 167: fall
              refine fx_iconst (v := 1) dq_MO_begin_170 (by decide) ?_
              refine fx_goto (tgt := 175) dq_MO_begin_171 (by decide) ?_
              refine fx_istore_n dq_MO_begin_175 rfl (by decide) rfl ?_
              refine fx_iload_n 0 dq_MO_begin_176 rfl rfl ?_
              refine fx_if_ne (tgt := 183) dq_MO_begin_177 (by decide) (fun hc177 => ?_) (fun hc177 => absurd hc177 (by decide))
              refine fx_aload_n 2 dq_MO_begin_183 rfl rfl ?_
              refine fx_aload_n 2 dq_MO_begin_184 rfl rfl ?_
              refine fx_getr ok fq_MO_93 ((fx_sm_s e127b _).trans hm.1) dq_MO_begin_185 (by decide) ((fx_sm_r e127b _ _).trans (mo_wasX hm).1) ?_
              refine fx_iload_n 1 dq_MO_begin_188 rfl rfl ?_
              refine fx_iaN ok ((fx_sm_s e127b _).trans (mo_wasX hm).2) ⟨hi, by decide⟩ dq_MO_begin_189 ?_
              refine fx_puti ok fp_MO_141 ((fx_sm_s e127b _).trans hm.1) (by decide) dq_MO_begin_190 (Or.inl (by decide)) ?_
              have e190w : fx_sm h (fx_wi k q 38 (fx_i k (q + 27) i)) := fx_sm_t (h' := k) e127b (sm_wi _ _ _ _)
              refine fx_aload_n 2 dq_MO_begin_193 rfl rfl ?_
              refine fx_aload_n 2 dq_MO_begin_194 rfl rfl ?_
              refine fx_getr ok fq_MO_96 ((fx_sm_s e190w _).trans hm.1) dq_MO_begin_195 (by decide) ((fx_sm_r e190w _ _).trans (mo_wasY hm).1) ?_
              refine fx_iload_n 1 dq_MO_begin_198 rfl rfl ?_
              refine fx_iaN ok ((fx_sm_s e190w _).trans (mo_wasY hm).2) ⟨hi, by decide⟩ dq_MO_begin_199 ?_
              refine fx_puti ok fp_MO_147 ((fx_sm_s e190w _).trans hm.1) (by decide) dq_MO_begin_200 (Or.inl (by decide)) ?_
              have e200w : fx_sm h (fx_wi (fx_wi k q 38 (fx_i k (q + 27) i)) q 39 (fx_i (fx_wi k q 38 (fx_i k (q + 27) i)) (q + 28) i)) := fx_sm_t (h' := (fx_wi k q 38 (fx_i k (q + 27) i))) e190w (sm_wi _ _ _ _)
              refine fx_aload_n 2 dq_MO_begin_203 rfl rfl ?_
              refine fx_aload_n 2 dq_MO_begin_204 rfl rfl ?_
              refine fx_getr ok fq_MO_99 ((fx_sm_s e200w _).trans hm.1) dq_MO_begin_205 (by decide) ((fx_sm_r e200w _ _).trans (mo_wasW hm).1) ?_
              refine fx_iload_n 1 dq_MO_begin_208 rfl rfl ?_
              refine fx_iaN ok ((fx_sm_s e200w _).trans (mo_wasW hm).2) ⟨hi, by decide⟩ dq_MO_begin_209 ?_
              refine fx_puti ok fp_MO_144 ((fx_sm_s e200w _).trans hm.1) (by decide) dq_MO_begin_210 (Or.inl (by decide)) ?_
              have e210w : fx_sm h (fx_wi (fx_wi (fx_wi k q 38 (fx_i k (q + 27) i)) q 39 (fx_i (fx_wi k q 38 (fx_i k (q + 27) i)) (q + 28) i)) q 40 (fx_i (fx_wi (fx_wi k q 38 (fx_i k (q + 27) i)) q 39 (fx_i (fx_wi k q 38 (fx_i k (q + 27) i)) (q + 28) i)) (q + 29) i)) := fx_sm_t (h' := (fx_wi (fx_wi k q 38 (fx_i k (q + 27) i)) q 39 (fx_i (fx_wi k q 38 (fx_i k (q + 27) i)) (q + 28) i))) e200w (sm_wi _ _ _ _)
              refine fx_aload_n 2 dq_MO_begin_213 rfl rfl ?_
              refine fx_aload_n 2 dq_MO_begin_214 rfl rfl ?_
              refine fx_getr ok fq_MO_102 ((fx_sm_s e210w _).trans hm.1) dq_MO_begin_215 (by decide) ((fx_sm_r e210w _ _).trans (mo_wasH hm).1) ?_
              refine fx_iload_n 1 dq_MO_begin_218 rfl rfl ?_
              refine fx_iaN ok ((fx_sm_s e210w _).trans (mo_wasH hm).2) ⟨hi, by decide⟩ dq_MO_begin_219 ?_
              refine fx_puti ok fp_MO_150 ((fx_sm_s e210w _).trans hm.1) (by decide) dq_MO_begin_220 (Or.inl (by decide)) ?_
              have e220w : fx_sm h (fx_wi (fx_wi (fx_wi (fx_wi k q 38 (fx_i k (q + 27) i)) q 39 (fx_i (fx_wi k q 38 (fx_i k (q + 27) i)) (q + 28) i)) q 40 (fx_i (fx_wi (fx_wi k q 38 (fx_i k (q + 27) i)) q 39 (fx_i (fx_wi k q 38 (fx_i k (q + 27) i)) (q + 28) i)) (q + 29) i)) q 41 (fx_i (fx_wi (fx_wi (fx_wi k q 38 (fx_i k (q + 27) i)) q 39 (fx_i (fx_wi k q 38 (fx_i k (q + 27) i)) (q + 28) i)) q 40 (fx_i (fx_wi (fx_wi k q 38 (fx_i k (q + 27) i)) q 39 (fx_i (fx_wi k q 38 (fx_i k (q + 27) i)) (q + 28) i)) (q + 29) i)) (q + 30) i)) := fx_sm_t (h' := (fx_wi (fx_wi (fx_wi k q 38 (fx_i k (q + 27) i)) q 39 (fx_i (fx_wi k q 38 (fx_i k (q + 27) i)) (q + 28) i)) q 40 (fx_i (fx_wi (fx_wi k q 38 (fx_i k (q + 27) i)) q 39 (fx_i (fx_wi k q 38 (fx_i k (q + 27) i)) (q + 28) i)) (q + 29) i))) e210w (sm_wi _ _ _ _)
              refine fx_eqh (h' := mbC q i k) rfl ?_
              have e223f : fx_sm h (mbC q i k) := e220w
              refine fx_aload_n 2 dq_MO_begin_223 rfl rfl ?_
              refine fx_Vv0 ok sq_MO_213 ((fx_sm_s e223f _).trans hm.1) (c_MO_miss ok (mbC q i k) q (by exact isM_sm e223f hm) (mOk2_mbC hmk)) (by decide) (Nat.le_of_ble_eq_true rfl) dq_MO_begin_224 ?_
              have e224 : fx_sm h (k_MO_miss (mbC q i k) q) := fx_sm_t (h' := (mbC q i k)) e223f (mfr_miss (mbC q i k) q).1
              refine fx_aload_n 2 dq_MO_begin_227 rfl rfl ?_
              refine fx_iload_n 1 dq_MO_begin_228 rfl rfl ?_
              refine fx_Vi1 ok sq_MO_207 ((fx_sm_s e224 _).trans hm.1) (c_MO_isPlane ok (k_MO_miss (mbC q i k) q) q (nI i) (by exact isM_sm e224 hm)) (by decide) (Nat.le_of_ble_eq_true rfl) dq_MO_begin_229 ?_
              refine fx_if_eq (tgt := 238) dq_MO_begin_232 (by decide) (fun hc232 => ?_) (fun hc232 => ?_)
              · -- 232: jump
                refine fx_aload_n 2 dq_MO_begin_238 rfl rfl ?_
                refine fx_bipush (v := 20) dq_MO_begin_239 (by decide) ?_
                refine fx_iload_n 1 dq_MO_begin_241 rfl rfl ?_
                refine fx_iadd dq_MO_begin_242 ?_
                refine fx_Vv1 ok sq_MO_204 ((fx_sm_s e224 _).trans hm.1) (c_MO_show ok (k_MO_miss (mbC q i k) q) q ((20 : Int32) + (nI i)) (by exact isM_sm e224 hm) (in30b hi)) (by decide) (Nat.le_of_ble_eq_true rfl) dq_MO_begin_243 ?_
                have e243 : fx_sm h (k_MO_show (k_MO_miss (mbC q i k) q) q ((20 : Int32) + (nI i))) := fx_sm_t (h' := (k_MO_miss (mbC q i k) q)) e224 (sm_MO_show (k_MO_miss (mbC q i k) q) q ((20 : Int32) + (nI i)))
                refine fx_aload_n 2 dq_MO_begin_246 rfl rfl ?_
                refine fx_Vv0 ok sq_MO_213 ((fx_sm_s e243 _).trans hm.1) (c_MO_miss ok (k_MO_show (k_MO_miss (mbC q i k) q) q ((20 : Int32) + (nI i))) q (by exact isM_sm e243 hm) (mOk2_mfr (mfr_show _ _ _) (by decide) (mOk2_miss (mOk2_mbC hmk)))) (by decide) (Nat.le_of_ble_eq_true rfl) dq_MO_begin_247 ?_
                have e247 : fx_sm h (k_MO_miss (k_MO_show (k_MO_miss (mbC q i k) q) q ((20 : Int32) + (nI i))) q) := fx_sm_t (h' := (k_MO_show (k_MO_miss (mbC q i k) q) q ((20 : Int32) + (nI i)))) e243 (mfr_miss (k_MO_show (k_MO_miss (mbC q i k) q) q ((20 : Int32) + (nI i))) q).1
                refine fx_iinc 1 dq_MO_begin_250 rfl (jz_i _) (by decide) rfl ?_
                refine fx_goto (tgt := 127) dq_MO_begin_253 (by decide) ?_
                refine fx_sub [0, 2] rfl ?_
                exact fx_eqh (by rw [b3_MO_begin, if_neg hc139, if_pos hc153, if_neg hc167, if_pos hc232]) hK127
              · -- 232: fall
                refine fx_goto (tgt := 250) dq_MO_begin_235 (by decide) ?_
                refine fx_iinc 1 dq_MO_begin_250 rfl (jz_i _) (by decide) rfl ?_
                refine fx_goto (tgt := 127) dq_MO_begin_253 (by decide) ?_
                refine fx_sub [0, 2] rfl ?_
                exact fx_eqh (by rw [b3_MO_begin, if_neg hc139, if_pos hc153, if_neg hc167, if_neg hc232]) hK127
      · have e127x : fx_sm h (it (b3_MO_begin q) (mbB h q) 10) := fx_sm_t (h' := (mbB h q)) e125f (fx_sm_it (fun n k => (mfr_b3 q n k).1) (mbB h q) 10)
        refine fx_iload_n 0 dq_MO_begin_127 rfl rfl ?_
        refine fx_bipush (v := 10) dq_MO_begin_128 (by decide) ?_
        refine fx_icmp_ge (tgt := 256) dq_MO_begin_130 (by decide) (fun hc130 => ?_) (fun hc130 => absurd (by decide) hc130)
        refine fx_eqh (h' := mbD h q) rfl ?_
        have e256f : fx_sm h (mbD h q) := e127x
        refine fx_iconst (v := 0) dq_MO_begin_256 (by decide) ?_
        refine fx_istore_n dq_MO_begin_257 rfl (by decide) rfl ?_
        refine fx_for (fun i => [(1, .int (nI i)), (0, .ref q)]) (b4_MO_begin q) (mbD h q) 10 (fun i hi hK258 => ?_) ?_
        · have e258b : fx_sm h (it (b4_MO_begin q) (mbD h q) i) := fx_sm_t (h' := (mbD h q)) e256f (fx_sm_it (fun n k => (mfr_b4 q n k).1) (mbD h q) i)
          generalize it (b4_MO_begin q) (mbD h q) i = k at e258b hK258  ⊢
          refine fx_iload_n 0 dq_MO_begin_258 rfl rfl ?_
          refine fx_bipush (v := 10) dq_MO_begin_259 (by decide) ?_
          refine fx_icmp_ge (tgt := 318) dq_MO_begin_261 (by decide) (fun hc261 => absurd hc261 (nI_ge (b := 10) hi (by decide))) (fun hc261 => ?_)
          refine fx_aload_n 1 dq_MO_begin_264 rfl rfl ?_
          refine fx_getr ok fq_MO_7 ((fx_sm_s e258b _).trans hm.1) dq_MO_begin_265 (by decide) ((fx_sm_r e258b _ _).trans (mo_used hm).1) ?_
          refine fx_iload_n 0 dq_MO_begin_268 rfl rfl ?_
          refine fx_baN ok ((fx_sm_s e258b _).trans (mo_used hm).2) ⟨hi, by decide⟩ dq_MO_begin_269 ?_
          refine fx_if_eq (tgt := 312) dq_MO_begin_270 (by decide) (fun hc270 => ?_) (fun hc270 => ?_)
          · -- 270: jump
            refine fx_iinc 0 dq_MO_begin_312 rfl (jz_i _) (by decide) rfl ?_
            refine fx_goto (tgt := 258) dq_MO_begin_315 (by decide) ?_
            refine fx_sub [0, 1] rfl ?_
            exact fx_eqh (by rw [b4_MO_begin, if_pos hc270]) hK258
          · -- 270: fall
            refine fx_aload_n 1 dq_MO_begin_273 rfl rfl ?_
            refine fx_getr ok fq_MO_26 ((fx_sm_s e258b _).trans hm.1) dq_MO_begin_274 (by decide) ((fx_sm_r e258b _ _).trans (mo_gone hm).1) ?_
            refine fx_iload_n 0 dq_MO_begin_277 rfl rfl ?_
            refine fx_baN ok ((fx_sm_s e258b _).trans (mo_gone hm).2) ⟨hi, by decide⟩ dq_MO_begin_278 ?_
            refine fx_if_ne (tgt := 285) dq_MO_begin_279 (by decide) (fun hc279 => ?_) (fun hc279 => ?_)
            · -- 279: jump
              refine fx_aload_n 1 dq_MO_begin_285 rfl rfl ?_
              refine fx_getr ok fq_MO_7 ((fx_sm_s e258b _).trans hm.1) dq_MO_begin_286 (by decide) ((fx_sm_r e258b _ _).trans (mo_used hm).1) ?_
              refine fx_iload_n 0 dq_MO_begin_289 rfl rfl ?_
              refine fx_iconst (v := 0) dq_MO_begin_290 (by decide) ?_
              refine fx_bsN ok ((fx_sm_s e258b _).trans (mo_used hm).2) (by decide) ⟨hi, by decide⟩ dq_MO_begin_291 ?_
              have e291w : fx_sm h (fx_wi k (q + 1) i (0 : Int32)) := fx_sm_t (h' := k) e258b (sm_wi _ _ _ _)
              refine fx_aload_n 1 dq_MO_begin_292 rfl rfl ?_
              refine fx_getr ok fq_MO_29 ((fx_sm_s e291w _).trans hm.1) dq_MO_begin_293 (by decide) ((fx_sm_r e291w _ _).trans (mo_there hm).1) ?_
              refine fx_bipush (v := 10) dq_MO_begin_296 (by decide) ?_
              refine fx_iload_n 0 dq_MO_begin_298 rfl rfl ?_
              refine fx_iadd dq_MO_begin_299 ?_
              refine fx_iconst (v := 0) dq_MO_begin_300 (by decide) ?_
              refine fx_bastore ok ((fx_sm_s e291w _).trans (mo_there hm).2) (by decide) (in30a hi) dq_MO_begin_301 ?_
              have e301w : fx_sm h (fx_wi (fx_wi k (q + 1) i (0 : Int32)) (q + 7) ((10 : Int32) + (nI i)).toNatClampNeg (0 : Int32)) := fx_sm_t (h' := (fx_wi k (q + 1) i (0 : Int32))) e291w (sm_wi _ _ _ _)
              refine fx_aload_n 1 dq_MO_begin_302 rfl rfl ?_
              refine fx_getr ok fq_MO_29 ((fx_sm_s e301w _).trans hm.1) dq_MO_begin_303 (by decide) ((fx_sm_r e301w _ _).trans (mo_there hm).1) ?_
              refine fx_bipush (v := 20) dq_MO_begin_306 (by decide) ?_
              refine fx_iload_n 0 dq_MO_begin_308 rfl rfl ?_
              refine fx_iadd dq_MO_begin_309 ?_
              refine fx_iconst (v := 0) dq_MO_begin_310 (by decide) ?_
              refine fx_bastore ok ((fx_sm_s e301w _).trans (mo_there hm).2) (by decide) (in30b hi) dq_MO_begin_311 ?_
              have e311w : fx_sm h (fx_wi (fx_wi (fx_wi k (q + 1) i (0 : Int32)) (q + 7) ((10 : Int32) + (nI i)).toNatClampNeg (0 : Int32)) (q + 7) ((20 : Int32) + (nI i)).toNatClampNeg (0 : Int32)) := fx_sm_t (h' := (fx_wi (fx_wi k (q + 1) i (0 : Int32)) (q + 7) ((10 : Int32) + (nI i)).toNatClampNeg (0 : Int32))) e301w (sm_wi _ _ _ _)
              refine fx_iinc 0 dq_MO_begin_312 rfl (jz_i _) (by decide) rfl ?_
              refine fx_goto (tgt := 258) dq_MO_begin_315 (by decide) ?_
              refine fx_sub [0, 1] rfl ?_
              exact fx_eqh (by rw [b4_MO_begin, if_neg hc270, if_neg hc279]) hK258
            · -- 279: fall
              refine fx_goto (tgt := 312) dq_MO_begin_282 (by decide) ?_
              refine fx_iinc 0 dq_MO_begin_312 rfl (jz_i _) (by decide) rfl ?_
              refine fx_goto (tgt := 258) dq_MO_begin_315 (by decide) ?_
              refine fx_sub [0, 1] rfl ?_
              exact fx_eqh (by rw [b4_MO_begin, if_neg hc270, if_pos hc279]) hK258
        · have e258x : fx_sm h (it (b4_MO_begin q) (mbD h q) 10) := fx_sm_t (h' := (mbD h q)) e256f (fx_sm_it (fun n k => (mfr_b4 q n k).1) (mbD h q) 10)
          refine fx_iload_n 0 dq_MO_begin_258 rfl rfl ?_
          refine fx_bipush (v := 10) dq_MO_begin_259 (by decide) ?_
          refine fx_icmp_ge (tgt := 318) dq_MO_begin_261 (by decide) (fun hc261 => ?_) (fun hc261 => absurd (by decide) hc261)
          refine fx_iconst (v := 0) dq_MO_begin_318 (by decide) ?_
          refine fx_istore_n dq_MO_begin_319 rfl (by decide) rfl ?_
          refine fx_for (fun i => [(1, .int (nI i)), (0, .ref q)]) (b5_MO_begin q) (it (b4_MO_begin q) (mbD h q) 10) 4 (fun i hi hK320 => ?_) ?_
          · have e320b : fx_sm h (it (b5_MO_begin q) (it (b4_MO_begin q) (mbD h q) 10) i) := fx_sm_t (h' := (it (b4_MO_begin q) (mbD h q) 10)) e258x (fx_sm_it (fun n k => (mfr_b5 q n k).1) (it (b4_MO_begin q) (mbD h q) 10) i)
            generalize it (b5_MO_begin q) (it (b4_MO_begin q) (mbD h q) 10) i = k at e320b hK320  ⊢
            refine fx_iload_n 0 dq_MO_begin_320 rfl rfl ?_
            refine fx_iconst (v := 4) dq_MO_begin_321 (by decide) ?_
            refine fx_icmp_ge (tgt := 338) dq_MO_begin_322 (by decide) (fun hc322 => absurd hc322 (nI_ge (b := 4) hi (by decide))) (fun hc322 => ?_)
            refine fx_aload_n 1 dq_MO_begin_325 rfl rfl ?_
            refine fx_getr ok fq_MO_65 ((fx_sm_s e320b _).trans hm.1) dq_MO_begin_326 (by decide) ((fx_sm_r e320b _ _).trans (mo_committed hm).1) ?_
            refine fx_iload_n 0 dq_MO_begin_329 rfl rfl ?_
            refine fx_iconst (v := 0) dq_MO_begin_330 (by decide) ?_
            refine fx_bsN ok ((fx_sm_s e320b _).trans (mo_committed hm).2) (by decide) ⟨hi, by decide⟩ dq_MO_begin_331 ?_
            have e331w : fx_sm h (fx_wi k (q + 19) i (0 : Int32)) := fx_sm_t (h' := k) e320b (sm_wi _ _ _ _)
            refine fx_iinc 0 dq_MO_begin_332 rfl (jz_i _) (by decide) rfl ?_
            refine fx_goto (tgt := 320) dq_MO_begin_335 (by decide) ?_
            refine fx_sub [0, 1] rfl ?_
            exact hK320
          · have e320x : fx_sm h (it (b5_MO_begin q) (it (b4_MO_begin q) (mbD h q) 10) 4) := fx_sm_t (h' := (it (b4_MO_begin q) (mbD h q) 10)) e258x (fx_sm_it (fun n k => (mfr_b5 q n k).1) (it (b4_MO_begin q) (mbD h q) 10) 4)
            refine fx_iload_n 0 dq_MO_begin_320 rfl rfl ?_
            refine fx_iconst (v := 4) dq_MO_begin_321 (by decide) ?_
            refine fx_icmp_ge (tgt := 338) dq_MO_begin_322 (by decide) (fun hc322 => ?_) (fun hc322 => absurd (by decide) hc322)
            refine fx_eqh (h' := mbE h q) rfl ?_
            have e338f : fx_sm h (mbE h q) := e320x
            refine fx_aload_n 1 dq_MO_begin_338 rfl rfl ?_
            refine fx_aload_n 1 dq_MO_begin_339 rfl rfl ?_
            refine fx_geti ok fq_MO_164 ((fx_sm_s e338f _).trans hm.1) dq_MO_begin_340 (by decide) ?_
            refine fx_puti ok fp_MO_167 ((fx_sm_s e338f _).trans hm.1) (by decide) dq_MO_begin_343 (Or.inl (by decide)) ?_
            have e343w : fx_sm h (fx_wi (mbE h q) q 20 (fx_i (mbE h q) q 19)) := fx_sm_t (h' := (mbE h q)) e338f (sm_wi _ _ _ _)
            refine fx_aload_n 1 dq_MO_begin_346 rfl rfl ?_
            refine fx_iconst (v := 1) dq_MO_begin_347 (by decide) ?_
            refine fx_puti ok fp_MO_216 ((fx_sm_s e343w _).trans hm.1) (by decide) dq_MO_begin_348 (Or.inl (by decide)) ?_
            have e348w : fx_sm h (fx_wi (fx_wi (mbE h q) q 20 (fx_i (mbE h q) q 19)) q 22 (1 : Int32)) := fx_sm_t (h' := (fx_wi (mbE h q) q 20 (fx_i (mbE h q) q 19))) e343w (sm_wi _ _ _ _)
            refine fx_aload_n 1 dq_MO_begin_351 rfl rfl ?_
            refine fx_iconst (v := 0) dq_MO_begin_352 (by decide) ?_
            refine fx_puti ok fp_MO_219 ((fx_sm_s e348w _).trans hm.1) (by decide) dq_MO_begin_353 (Or.inl (by decide)) ?_
            have e353w : fx_sm h (fx_wi (fx_wi (fx_wi (mbE h q) q 20 (fx_i (mbE h q) q 19)) q 22 (1 : Int32)) q 31 (0 : Int32)) := fx_sm_t (h' := (fx_wi (fx_wi (mbE h q) q 20 (fx_i (mbE h q) q 19)) q 22 (1 : Int32))) e348w (sm_wi _ _ _ _)
            refine fx_aload_n 1 dq_MO_begin_356 rfl rfl ?_
            refine fx_iconst (v := 0) dq_MO_begin_357 (by decide) ?_
            refine fx_puti ok fp_MO_222 ((fx_sm_s e353w _).trans hm.1) (by decide) dq_MO_begin_358 (Or.inl (by decide)) ?_
            have e358w : fx_sm h (fx_wi (fx_wi (fx_wi (fx_wi (mbE h q) q 20 (fx_i (mbE h q) q 19)) q 22 (1 : Int32)) q 31 (0 : Int32)) q 32 (0 : Int32)) := fx_sm_t (h' := (fx_wi (fx_wi (fx_wi (mbE h q) q 20 (fx_i (mbE h q) q 19)) q 22 (1 : Int32)) q 31 (0 : Int32))) e353w (sm_wi _ _ _ _)
            exact fx_vreturn rfl dq_MO_begin_361 ⟨rfl, rfl⟩
theorem mfr_mb4 (h : fx_H) (q : Nat) : mfr q [7, 8, 9, 10, 11, 12, 13, 14, 15, 16, 17, 21, 22, 23, 24, 25, 26, 27, 28, 29, 30, 31] [38, 39, 40, 41] h (mbD h q) := by
  unfold mbD
  exact mfr_it (fun n k => mfr_m (mfr_b3 q n k) (by decide) (by decide)) (mfr_m (mfr_mb2 h q) (by decide) (by decide)) 10
theorem mfr_mb5 (h : fx_H) (q : Nat) : mfr q [1, 7, 8, 9, 10, 11, 12, 13, 14, 15, 16, 17, 19, 21, 22, 23, 24, 25, 26, 27, 28, 29, 30, 31] [38, 39, 40, 41] h (mbE h q) := by
  unfold mbE
  refine mfr_it (fun n k => mfr_m (mfr_b5 q n k) (by decide) (by decide)) ?_ 4
  exact mfr_it (fun n k => mfr_m (mfr_b4 q n k) (by decide) (by decide)) (mfr_m (mfr_mb4 h q) (by decide) (by decide)) 10
theorem mfr_begin (h : fx_H) (q : Nat) : mfr q [1, 7, 8, 9, 10, 11, 12, 13, 14, 15, 16, 17, 19, 21, 22, 23, 24, 25, 26, 27, 28, 29, 30, 31] [20, 22, 31, 32, 38, 39, 40, 41] h (k_MO_begin h q) := by
  unfold k_MO_begin
  exact mfr_wf (mfr_wf (mfr_wf (mfr_wf (mfr_m (mfr_mb5 h q) (by decide) (by decide)) (by decide)) (by decide)) (by decide)) (by decide)
