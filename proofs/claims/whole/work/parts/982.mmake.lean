/-! ===== the Model: make ===== -/
def mK (h : fx_H) (q : Nat) : Int32 := ((7 : Int32) * (fx_i h q 23)) + (fx_i h q 31)
def bkPre (h : fx_H) (q : Nat) : Prop := ((-1000 ≤ (fx_i h (q + 22) (mK h q).toNatClampNeg).toInt ∧ (fx_i h (q + 22) (mK h q).toNatClampNeg).toInt ≤ 1000) ∧ (-1000 ≤ (fx_i h (q + 23) (mK h q).toNatClampNeg).toInt ∧ (fx_i h (q + 23) (mK h q).toNatClampNeg).toInt ≤ 1000) ∧ (0 ≤ (fx_i h (q + 24) (mK h q).toNatClampNeg).toInt ∧ (fx_i h (q + 24) (mK h q).toNatClampNeg).toInt ≤ 1000) ∧ (0 ≤ (fx_i h (q + 25) (mK h q).toNatClampNeg).toInt ∧ (fx_i h (q + 25) (mK h q).toNatClampNeg).toInt ≤ 1000)) ∧
  ∀ i j, i < (fx_i h (q + 24) (mK h q).toNatClampNeg).toNatClampNeg → j < (fx_i h (q + 25) (mK h q).toNatClampNeg).toNatClampNeg → vp_in (200 * fx_i h q 23 + 20 * (fx_i h (q + 23) (mK h q).toNatClampNeg + nI j) + (fx_i h (q + 22) (mK h q).toNatClampNeg + nI i)) 400
def mkPre (h : fx_H) (q : Nat) : Prop := (vp_in (fx_i h q 23) 2 ∧ (fx_i h (q + 21) (fx_i h q 23).toNatClampNeg).toInt ≤ 6 ∧ 0 ≤ (fx_i h q 31).toInt ∧ 0 ≤ (fx_i h q 32).toInt ∧ (fx_i h q 32).toInt ≤ 10) ∧ vp_in (mK h q) 14 ∧ (fx_i h q 32 = 0 → bkPre h q) ∧
  (¬ fx_i h q 32 = 0 → ptPre (k_MO_meet h q (fx_i h q 32 - 1)) q (v_MO_nth (k_MO_meet h q (fx_i h q 32 - 1)) q 20 (fx_i (k_MO_meet h q (fx_i h q 32 - 1)) q 32 - 1)))
theorem fsPre_mk {h k : fx_H} {q : Nat} (hp : mkPre h q) (e : mfr q [20] [38, 39, 40, 41] h k) : fsPre (fx_wi k q 32 (fx_i k q 32 + 1)) q := by
  obtain ⟨⟨h1, h2, h3, h4, h5⟩, -⟩ := hp
  have e1 : (1 : Int32).toInt = 1 := rfl
  have s1 : fx_i (fx_wi k q 32 (fx_i k q 32 + 1)) q 23 = fx_i h q 23 := by rw [fx_i_wi, if_neg (fun z => absurd z.2 (by decide)), mfr_f e (by decide)]
  have s2 : fx_i (fx_wi k q 32 (fx_i k q 32 + 1)) q 31 = fx_i h q 31 := by rw [fx_i_wi, if_neg (fun z => absurd z.2 (by decide)), mfr_f e (by decide)]
  have s3 : (fx_i (fx_wi k q 32 (fx_i k q 32 + 1)) q 32).toInt = (fx_i h q 32).toInt + 1 := by rw [fx_i_wi, if_pos ⟨rfl, rfl⟩, mfr_f e (by decide), iz_add (by omega), e1]
  have s4 : ∀ j, fx_i (fx_wi k q 32 (fx_i k q 32 + 1)) (q + 21) j = fx_i h (q + 21) j := fun j => by rw [wi_q _ _ _ _ _ _ (by decide), mfr_at e (by decide)]
  unfold fsPre
  rw [s1, s2, s3, s4]
  exact ⟨h1, h2, h3, by omega, by omega⟩
theorem mfr_fsI (q : Nat) (n : Nat) (x : Int32 × fx_H) : mfr q [] [32, 38, 39, 40, 41] x.2 (lp (fsI q) n x).2 := by
  refine lp_inv (fun y : Int32 × fx_H => mfr q [] [32, 38, 39, 40, 41] x.2 y.2) _ (fun y z hy hz => ?_) n x (mfr_rf _ _ _ _)
  have h1 : mfr q [] [32, 38, 39, 40, 41] y.2 (k_MO_meet y.2 q (fx_i y.2 q 32 - 1)) := mfr_m (mfr_meet _ _ _) (by decide) (by decide)
  have key : mfr q [] [32, 38, 39, 40, 41] y.2 z.2 := by
    unfold fsI at hz
    repeat' split at hz
    all_goals cases hz
    all_goals first | exact h1 | exact mfr_wf h1 (by decide)
  exact mfr_t hy key
theorem mfr_findStep (h : fx_H) (q : Nat) : mfr q [21] [22, 31, 32, 38, 39, 40, 41] h (k_MO_findStep h q) := by
  have h1 : mfr q [21] [22, 31, 32, 38, 39, 40, 41] h (fsL h q).2 := by
    unfold fsL
    exact mfr_m (mfr_fsI q _ (0, h)) (by decide) (by decide)
  unfold k_MO_findStep
  repeat' split
  all_goals repeat first | exact mfr_rf _ _ _ _ | exact h1 | refine mfr_wf ?_ (by decide) | refine mfr_wi ?_ (by decide)
def bkI (h : fx_H) (q j : Nat) (i : Nat) (u : fx_H) : fx_H := fx_wi u (q + 20) ((((200 : Int32) * (fx_i u q 23)) + ((20 : Int32) * ((fx_i h (q + 23) (mK h q).toNatClampNeg) + nI j))) + ((fx_i h (q + 22) (mK h q).toNatClampNeg) + nI i)).toNatClampNeg (0 : Int32)
theorem on_bkI (h : fx_H) (q j i : Nat) (u : fx_H) : fx_on (q + 20) u (bkI h q j i u) := by
  unfold bkI
  exact fx_on_wi _ _ _ _
def bkO (h : fx_H) (q : Nat) (j : Nat) (z : fx_H) : fx_H := (its (bkI h q j) z ((fx_i h (q + 24) (mK h q).toNatClampNeg).toNatClampNeg))
theorem on_bkO (h : fx_H) (q j : Nat) (z : fx_H) : fx_on (q + 20) z (bkO h q j z) := by
  unfold bkO
  exact on_its (fun u : fx_H => u) (bkI h q j) z (on_bkI h q j) _
def k_MO_make (h : fx_H) (q : Nat) : fx_H := if (fx_i h q 32) = 0 then k_MO_findStep (fx_wi (its (bkO h q) h ((fx_i h (q + 25) (mK h q).toNatClampNeg).toNatClampNeg)) q 32 ((fx_i (its (bkO h q) h ((fx_i h (q + 25) (mK h q).toNatClampNeg).toNatClampNeg)) q 32) + (1 : Int32))) q else k_MO_findStep (fx_wi (k_MO_paint (k_MO_meet h q ((fx_i h q 32) - (1 : Int32))) q (v_MO_nth (k_MO_meet h q ((fx_i h q 32) - (1 : Int32))) q 20 ((fx_i (k_MO_meet h q ((fx_i h q 32) - (1 : Int32))) q 32) - (1 : Int32)))) q 32 ((fx_i (k_MO_paint (k_MO_meet h q ((fx_i h q 32) - (1 : Int32))) q (v_MO_nth (k_MO_meet h q ((fx_i h q 32) - (1 : Int32))) q 20 ((fx_i (k_MO_meet h q ((fx_i h q 32) - (1 : Int32))) q 32) - (1 : Int32)))) q 32) + (1 : Int32))) q
set_option maxRecDepth 100000 in
set_option maxHeartbeats 600000 in
theorem c_MO_make {g : fx_G} (ok : fx_ok g) (h : fx_H) (q : Nat) (hm : isM h q) (hpre : mkPre h q) : fx_C g mq_MO_make [.ref q] h (fx_is none (k_MO_make h q)) 0 0 := by
  refine fx_body (by decide +kernel) (Nat.le_of_ble_eq_true rfl) ?_
  show fx_X g mq_MO_make 0 [(0, .ref q)] [] h _ 0 0
  have hp14 := hpre.2.1
  have hbk := hpre.2.2.1
  refine fx_aload_n 0 dq_MO_make_0 rfl rfl ?_
  refine fx_geti ok fq_MO_222 hm.1 dq_MO_make_1 (by decide) ?_
  refine fx_if_ne (tgt := 104) dq_MO_make_4 (by decide) (fun hc4 => ?_) (fun hc4 => ?_)
  · -- 4: jump
    refine fx_aload_n 0 dq_MO_make_104 rfl rfl ?_
    refine fx_aload_n 0 dq_MO_make_105 rfl rfl ?_
    refine fx_geti ok fq_MO_222 hm.1 dq_MO_make_106 (by decide) ?_
    refine fx_iconst (v := 1) dq_MO_make_109 (by decide) ?_
    refine fx_isub dq_MO_make_110 ?_
    refine fx_Vv1 ok sq_MO_232 hm.1 (c_MO_meet ok h q ((fx_i h q 32) - (1 : Int32)) hm (meet_pre hp14)) (by decide) (Nat.le_of_ble_eq_true rfl) dq_MO_make_111 ?_
    have e111 : fx_sm h (k_MO_meet h q ((fx_i h q 32) - (1 : Int32))) := fx_sm_t (h' := h) (rfl : fx_sm h h) (sm_MO_meet h q ((fx_i h q 32) - (1 : Int32)))
    refine fx_aload_n 0 dq_MO_make_114 rfl rfl ?_
    refine fx_aload_n 0 dq_MO_make_115 rfl rfl ?_
    refine fx_bipush (v := 20) dq_MO_make_116 (by decide) ?_
    refine fx_aload_n 0 dq_MO_make_118 rfl rfl ?_
    refine fx_geti ok fq_MO_222 ((fx_sm_s e111 _).trans hm.1) dq_MO_make_119 (by decide) ?_
    refine fx_iconst (v := 1) dq_MO_make_122 (by decide) ?_
    refine fx_isub dq_MO_make_123 ?_
    refine fx_Vi2 ok sq_MO_201 ((fx_sm_s e111 _).trans hm.1) (c_MO_nth ok (k_MO_meet h q ((fx_i h q 32) - (1 : Int32))) q 20 ((fx_i (k_MO_meet h q ((fx_i h q 32) - (1 : Int32))) q 32) - (1 : Int32)) (by exact isM_sm e111 hm) (by decide)) (by decide) (Nat.le_of_ble_eq_true rfl) dq_MO_make_124 ?_
    refine fx_Vv1 ok sq_MO_235 ((fx_sm_s e111 _).trans hm.1) (c_MO_paint ok (k_MO_meet h q ((fx_i h q 32) - (1 : Int32))) q (v_MO_nth (k_MO_meet h q ((fx_i h q 32) - (1 : Int32))) q 20 ((fx_i (k_MO_meet h q ((fx_i h q 32) - (1 : Int32))) q 32) - (1 : Int32))) (by exact isM_sm e111 hm) (hpre.2.2.2 hc4)) (by decide) (Nat.le_of_ble_eq_true rfl) dq_MO_make_127 ?_
    have e127 : fx_sm h (k_MO_paint (k_MO_meet h q ((fx_i h q 32) - (1 : Int32))) q (v_MO_nth (k_MO_meet h q ((fx_i h q 32) - (1 : Int32))) q 20 ((fx_i (k_MO_meet h q ((fx_i h q 32) - (1 : Int32))) q 32) - (1 : Int32)))) := fx_sm_t (h' := (k_MO_meet h q ((fx_i h q 32) - (1 : Int32)))) e111 (on_MO_paint (k_MO_meet h q ((fx_i h q 32) - (1 : Int32))) q (v_MO_nth (k_MO_meet h q ((fx_i h q 32) - (1 : Int32))) q 20 ((fx_i (k_MO_meet h q ((fx_i h q 32) - (1 : Int32))) q 32) - (1 : Int32)))).1
    refine fx_aload_n 0 dq_MO_make_130 rfl rfl ?_
    refine fx_dup dq_MO_make_131 rfl ?_
    refine fx_geti ok fq_MO_222 ((fx_sm_s e127 _).trans hm.1) dq_MO_make_132 (by decide) ?_
    refine fx_iconst (v := 1) dq_MO_make_135 (by decide) ?_
    refine fx_iadd dq_MO_make_136 ?_
    refine fx_puti ok fp_MO_222 ((fx_sm_s e127 _).trans hm.1) (by decide) dq_MO_make_137 (Or.inl (by decide)) ?_
    have e137w : fx_sm h (fx_wi (k_MO_paint (k_MO_meet h q ((fx_i h q 32) - (1 : Int32))) q (v_MO_nth (k_MO_meet h q ((fx_i h q 32) - (1 : Int32))) q 20 ((fx_i (k_MO_meet h q ((fx_i h q 32) - (1 : Int32))) q 32) - (1 : Int32)))) q 32 ((fx_i (k_MO_paint (k_MO_meet h q ((fx_i h q 32) - (1 : Int32))) q (v_MO_nth (k_MO_meet h q ((fx_i h q 32) - (1 : Int32))) q 20 ((fx_i (k_MO_meet h q ((fx_i h q 32) - (1 : Int32))) q 32) - (1 : Int32)))) q 32) + (1 : Int32))) := fx_sm_t (h' := (k_MO_paint (k_MO_meet h q ((fx_i h q 32) - (1 : Int32))) q (v_MO_nth (k_MO_meet h q ((fx_i h q 32) - (1 : Int32))) q 20 ((fx_i (k_MO_meet h q ((fx_i h q 32) - (1 : Int32))) q 32) - (1 : Int32))))) e127 (sm_wi _ _ _ _)
    refine fx_aload_n 0 dq_MO_make_140 rfl rfl ?_
    refine fx_Vv0 ok sq_MO_238 ((fx_sm_s e137w _).trans hm.1) (c_MO_findStep ok (fx_wi (k_MO_paint (k_MO_meet h q ((fx_i h q 32) - (1 : Int32))) q (v_MO_nth (k_MO_meet h q ((fx_i h q 32) - (1 : Int32))) q 20 ((fx_i (k_MO_meet h q ((fx_i h q 32) - (1 : Int32))) q 32) - (1 : Int32)))) q 32 ((fx_i (k_MO_paint (k_MO_meet h q ((fx_i h q 32) - (1 : Int32))) q (v_MO_nth (k_MO_meet h q ((fx_i h q 32) - (1 : Int32))) q 20 ((fx_i (k_MO_meet h q ((fx_i h q 32) - (1 : Int32))) q 32) - (1 : Int32)))) q 32) + (1 : Int32))) q (by exact isM_sm e137w hm) (fsPre_mk hpre (mfr_t (mfr_m (mfr_meet _ _ _) (by decide) (by decide)) (mfr_m (mfr_on (on_MO_paint _ _ _) (by decide)) (by decide) (by decide))))) (by decide) (Nat.le_of_ble_eq_true rfl) dq_MO_make_141 ?_
    have e141 : fx_sm h (k_MO_findStep (fx_wi (k_MO_paint (k_MO_meet h q ((fx_i h q 32) - (1 : Int32))) q (v_MO_nth (k_MO_meet h q ((fx_i h q 32) - (1 : Int32))) q 20 ((fx_i (k_MO_meet h q ((fx_i h q 32) - (1 : Int32))) q 32) - (1 : Int32)))) q 32 ((fx_i (k_MO_paint (k_MO_meet h q ((fx_i h q 32) - (1 : Int32))) q (v_MO_nth (k_MO_meet h q ((fx_i h q 32) - (1 : Int32))) q 20 ((fx_i (k_MO_meet h q ((fx_i h q 32) - (1 : Int32))) q 32) - (1 : Int32)))) q 32) + (1 : Int32))) q) := fx_sm_t (h' := (fx_wi (k_MO_paint (k_MO_meet h q ((fx_i h q 32) - (1 : Int32))) q (v_MO_nth (k_MO_meet h q ((fx_i h q 32) - (1 : Int32))) q 20 ((fx_i (k_MO_meet h q ((fx_i h q 32) - (1 : Int32))) q 32) - (1 : Int32)))) q 32 ((fx_i (k_MO_paint (k_MO_meet h q ((fx_i h q 32) - (1 : Int32))) q (v_MO_nth (k_MO_meet h q ((fx_i h q 32) - (1 : Int32))) q 20 ((fx_i (k_MO_meet h q ((fx_i h q 32) - (1 : Int32))) q 32) - (1 : Int32)))) q 32) + (1 : Int32)))) e137w (mfr_findStep (fx_wi (k_MO_paint (k_MO_meet h q ((fx_i h q 32) - (1 : Int32))) q (v_MO_nth (k_MO_meet h q ((fx_i h q 32) - (1 : Int32))) q 20 ((fx_i (k_MO_meet h q ((fx_i h q 32) - (1 : Int32))) q 32) - (1 : Int32)))) q 32 ((fx_i (k_MO_paint (k_MO_meet h q ((fx_i h q 32) - (1 : Int32))) q (v_MO_nth (k_MO_meet h q ((fx_i h q 32) - (1 : Int32))) q 20 ((fx_i (k_MO_meet h q ((fx_i h q 32) - (1 : Int32))) q 32) - (1 : Int32)))) q 32) + (1 : Int32))) q).1
    exact fx_vreturn rfl dq_MO_make_144 ⟨rfl, by rw [k_MO_make, if_neg hc4]⟩
  · -- 4: fall
    refine fx_bipush (v := 7) dq_MO_make_7 (by decide) ?_
    refine fx_aload_n 0 dq_MO_make_9 rfl rfl ?_
    refine fx_geti ok fq_MO_68 hm.1 dq_MO_make_10 (by decide) ?_
    refine fx_imul dq_MO_make_13 ?_
    refine fx_aload_n 0 dq_MO_make_14 rfl rfl ?_
    refine fx_geti ok fq_MO_219 hm.1 dq_MO_make_15 (by decide) ?_
    refine fx_iadd dq_MO_make_18 ?_
    refine fx_istore_n dq_MO_make_19 rfl (by decide) rfl ?_
    refine fx_eqv (v' := mK h q) rfl ?_
    refine fx_aload_n 1 dq_MO_make_20 rfl rfl ?_
    refine fx_getr ok fq_MO_81 hm.1 dq_MO_make_21 (by decide) (mo_my hm).1 ?_
    refine fx_iload_n 0 dq_MO_make_24 rfl rfl ?_
    refine fx_iaload ok (mo_my hm).2 hp14 dq_MO_make_25 ?_
    refine fx_istore_n dq_MO_make_26 rfl (by decide) rfl ?_
    refine fx_eqv (v' := (fx_i h (q + 23) (mK h q).toNatClampNeg) + nI 0) (jz_0 _).symm ?_
    refine fx_fors (σ := fx_H) (fun j z => [(2, .int ((fx_i h (q + 23) (mK h q).toNatClampNeg) + nI j)), (1, .int (mK h q)), (0, .ref q)]) (fun z => z) (bkO h q) h ((fx_i h (q + 25) (mK h q).toNatClampNeg).toNatClampNeg) (fun j z hj hz hK27 => ?_) ?_
    · skip
      have o27b : fx_on (q + 20) h z := by rw [hz]; exact on_its (fun z : fx_H => z) (bkO h q) h (on_bkO h q) j
      have e27b : fx_sm h z := fx_sm_t (h' := h) (rfl : fx_sm h h) o27b.1
      have oZ := o27b
      refine fx_iload_n 0 dq_MO_make_27 rfl rfl ?_
      refine fx_aload_n 2 dq_MO_make_28 rfl rfl ?_
      refine fx_getr ok fq_MO_81 ((fx_sm_s e27b _).trans hm.1) dq_MO_make_29 (by decide) ((fx_sm_r e27b _ _).trans (mo_my hm).1) ?_
      refine fx_iload_n 1 dq_MO_make_32 rfl rfl ?_
      refine fx_iaload ok ((fx_sm_s e27b _).trans (mo_my hm).2) hp14 dq_MO_make_33 ?_
      refine fx_aload_n 2 dq_MO_make_34 rfl rfl ?_
      refine fx_getr ok fq_MO_87 ((fx_sm_s e27b _).trans hm.1) dq_MO_make_35 (by decide) ((fx_sm_r e27b _ _).trans (mo_mh hm).1) ?_
      refine fx_iload_n 1 dq_MO_make_38 rfl rfl ?_
      refine fx_iaload ok ((fx_sm_s e27b _).trans (mo_mh hm).2) hp14 dq_MO_make_39 ?_
      refine fx_iadd dq_MO_make_40 ?_
      refine fx_icmp_ge (tgt := 101) dq_MO_make_41 (by decide) (fun hc41 => absurd hc41 (by rw [oZ.2 (q + 23) (by omega), oZ.2 (q + 25) (by omega)]; exact jz_ge (hbk hc4).1.2.1 (hbk hc4).1.2.2.2 hj)) (fun hc41 => ?_)
      refine fx_aload_n 2 dq_MO_make_44 rfl rfl ?_
      refine fx_getr ok fq_MO_78 ((fx_sm_s e27b _).trans hm.1) dq_MO_make_45 (by decide) ((fx_sm_r e27b _ _).trans (mo_mx hm).1) ?_
      refine fx_iload_n 1 dq_MO_make_48 rfl rfl ?_
      refine fx_iaload ok ((fx_sm_s e27b _).trans (mo_mx hm).2) hp14 dq_MO_make_49 ?_
      refine fx_istore_n dq_MO_make_50 rfl (by decide) rfl ?_
      refine fx_eqv (v' := (fx_i h (q + 22) (mK h q).toNatClampNeg) + nI 0) (by rw [oZ.2 (q + 22) (by omega)]; exact (jz_0 _).symm) ?_
      refine fx_fors (σ := fx_H) (fun i u => [(3, .int ((fx_i h (q + 22) (mK h q).toNatClampNeg) + nI i)), (2, .int ((fx_i h (q + 23) (mK h q).toNatClampNeg) + nI j)), (1, .int (mK h q)), (0, .ref q)]) (fun u => u) (bkI h q j) z ((fx_i h (q + 24) (mK h q).toNatClampNeg).toNatClampNeg) (fun i u hi hu hK51 => ?_) ?_
      · skip
        have o51b : fx_on (q + 20) z u := by rw [hu]; exact on_its (fun u : fx_H => u) (bkI h q j) z (on_bkI h q j) i
        have e51b : fx_sm h u := fx_sm_t (h' := z) e27b o51b.1
        have oU := fx_on_t oZ o51b
        refine fx_iload_n 0 dq_MO_make_51 rfl rfl ?_
        refine fx_aload_n 3 dq_MO_make_52 rfl rfl ?_
        refine fx_getr ok fq_MO_78 ((fx_sm_s e51b _).trans hm.1) dq_MO_make_53 (by decide) ((fx_sm_r e51b _ _).trans (mo_mx hm).1) ?_
        refine fx_iload_n 2 dq_MO_make_56 rfl rfl ?_
        refine fx_iaload ok ((fx_sm_s e51b _).trans (mo_mx hm).2) hp14 dq_MO_make_57 ?_
        refine fx_aload_n 3 dq_MO_make_58 rfl rfl ?_
        refine fx_getr ok fq_MO_84 ((fx_sm_s e51b _).trans hm.1) dq_MO_make_59 (by decide) ((fx_sm_r e51b _ _).trans (mo_mw hm).1) ?_
        refine fx_iload_n 2 dq_MO_make_62 rfl rfl ?_
        refine fx_iaload ok ((fx_sm_s e51b _).trans (mo_mw hm).2) hp14 dq_MO_make_63 ?_
        refine fx_iadd dq_MO_make_64 ?_
        refine fx_icmp_ge (tgt := 95) dq_MO_make_65 (by decide) (fun hc65 => absurd hc65 (by rw [oU.2 (q + 22) (by omega), oU.2 (q + 24) (by omega)]; exact jz_ge (hbk hc4).1.1 (hbk hc4).1.2.2.1 hi)) (fun hc65 => ?_)
        refine fx_aload_n 3 dq_MO_make_68 rfl rfl ?_
        refine fx_getr ok fq_MO_72 ((fx_sm_s e51b _).trans hm.1) dq_MO_make_69 (by decide) ((fx_sm_r e51b _ _).trans (mo_memory hm).1) ?_
        refine fx_sipush (v := 200) dq_MO_make_72 (by decide) ?_
        refine fx_aload_n 3 dq_MO_make_75 rfl rfl ?_
        refine fx_geti ok fq_MO_68 ((fx_sm_s e51b _).trans hm.1) dq_MO_make_76 (by decide) ?_
        refine fx_imul dq_MO_make_79 ?_
        refine fx_bipush (v := 20) dq_MO_make_80 (by decide) ?_
        refine fx_iload_n 1 dq_MO_make_82 rfl rfl ?_
        refine fx_imul dq_MO_make_83 ?_
        refine fx_iadd dq_MO_make_84 ?_
        refine fx_iload_n 0 dq_MO_make_85 rfl rfl ?_
        refine fx_iadd dq_MO_make_86 ?_
        refine fx_iconst (v := 0) dq_MO_make_87 (by decide) ?_
        refine fx_iastore ok ((fx_sm_s e51b _).trans (mo_memory hm).2) (by rw [oU.2 q (by omega)]; exact (hbk hc4).2 i j hi hj) dq_MO_make_88 ?_
        have e88w : fx_sm h (fx_wi u (q + 20) ((((200 : Int32) * (fx_i u q 23)) + ((20 : Int32) * ((fx_i h (q + 23) (mK h q).toNatClampNeg) + nI j))) + ((fx_i h (q + 22) (mK h q).toNatClampNeg) + nI i)).toNatClampNeg (0 : Int32)) := fx_sm_t (h' := u) e51b (sm_wi _ _ _ _)
        refine fx_iinc 0 dq_MO_make_89 rfl (jz_s _ _) (by decide) rfl ?_
        refine fx_goto (tgt := 51) dq_MO_make_92 (by decide) ?_
        refine fx_sub [0, 1, 2, 3] rfl ?_
        exact hK51
      · show fx_X g mq_MO_make 51 [(3, .int ((fx_i h (q + 22) (mK h q).toNatClampNeg) + nI ((fx_i h (q + 24) (mK h q).toNatClampNeg).toNatClampNeg))), (2, .int ((fx_i h (q + 23) (mK h q).toNatClampNeg) + nI j)), (1, .int (mK h q)), (0, .ref q)] [] (its (bkI h q j) z ((fx_i h (q + 24) (mK h q).toNatClampNeg).toNatClampNeg)) _ 0 0
        have o51x : fx_on (q + 20) z (its (bkI h q j) z ((fx_i h (q + 24) (mK h q).toNatClampNeg).toNatClampNeg)) := on_its (fun u : fx_H => u) (bkI h q j) z (on_bkI h q j) ((fx_i h (q + 24) (mK h q).toNatClampNeg).toNatClampNeg)
        have e51x : fx_sm h (its (bkI h q j) z ((fx_i h (q + 24) (mK h q).toNatClampNeg).toNatClampNeg)) := fx_sm_t (h' := z) e27b o51x.1
        have oX := fx_on_t oZ o51x
        refine fx_iload_n 0 dq_MO_make_51 rfl rfl ?_
        refine fx_aload_n 3 dq_MO_make_52 rfl rfl ?_
        refine fx_getr ok fq_MO_78 ((fx_sm_s e51x _).trans hm.1) dq_MO_make_53 (by decide) ((fx_sm_r e51x _ _).trans (mo_mx hm).1) ?_
        refine fx_iload_n 2 dq_MO_make_56 rfl rfl ?_
        refine fx_iaload ok ((fx_sm_s e51x _).trans (mo_mx hm).2) hp14 dq_MO_make_57 ?_
        refine fx_aload_n 3 dq_MO_make_58 rfl rfl ?_
        refine fx_getr ok fq_MO_84 ((fx_sm_s e51x _).trans hm.1) dq_MO_make_59 (by decide) ((fx_sm_r e51x _ _).trans (mo_mw hm).1) ?_
        refine fx_iload_n 2 dq_MO_make_62 rfl rfl ?_
        refine fx_iaload ok ((fx_sm_s e51x _).trans (mo_mw hm).2) hp14 dq_MO_make_63 ?_
        refine fx_iadd dq_MO_make_64 ?_
        refine fx_icmp_ge (tgt := 95) dq_MO_make_65 (by decide) (fun hc65 => ?_) (fun hc65 => absurd (by rw [oX.2 (q + 22) (by omega), oX.2 (q + 24) (by omega)]; exact jz_end (hbk hc4).1.1 (hbk hc4).1.2.2.1) hc65)
        refine fx_iinc 1 dq_MO_make_95 rfl (jz_s _ _) (by decide) rfl ?_
        refine fx_goto (tgt := 27) dq_MO_make_98 (by decide) ?_
        refine fx_sub [0, 2, 3] rfl ?_
        exact hK27
    · show fx_X g mq_MO_make 27 [(2, .int ((fx_i h (q + 23) (mK h q).toNatClampNeg) + nI ((fx_i h (q + 25) (mK h q).toNatClampNeg).toNatClampNeg))), (1, .int (mK h q)), (0, .ref q)] [] (its (bkO h q) h ((fx_i h (q + 25) (mK h q).toNatClampNeg).toNatClampNeg)) _ 0 0
      have o27x : fx_on (q + 20) h (its (bkO h q) h ((fx_i h (q + 25) (mK h q).toNatClampNeg).toNatClampNeg)) := on_its (fun z : fx_H => z) (bkO h q) h (on_bkO h q) ((fx_i h (q + 25) (mK h q).toNatClampNeg).toNatClampNeg)
      have e27x : fx_sm h (its (bkO h q) h ((fx_i h (q + 25) (mK h q).toNatClampNeg).toNatClampNeg)) := fx_sm_t (h' := h) (rfl : fx_sm h h) o27x.1
      have oM := mfr_on o27x (by decide)
      refine fx_iload_n 0 dq_MO_make_27 rfl rfl ?_
      refine fx_aload_n 2 dq_MO_make_28 rfl rfl ?_
      refine fx_getr ok fq_MO_81 ((fx_sm_s e27x _).trans hm.1) dq_MO_make_29 (by decide) ((fx_sm_r e27x _ _).trans (mo_my hm).1) ?_
      refine fx_iload_n 1 dq_MO_make_32 rfl rfl ?_
      refine fx_iaload ok ((fx_sm_s e27x _).trans (mo_my hm).2) hp14 dq_MO_make_33 ?_
      refine fx_aload_n 2 dq_MO_make_34 rfl rfl ?_
      refine fx_getr ok fq_MO_87 ((fx_sm_s e27x _).trans hm.1) dq_MO_make_35 (by decide) ((fx_sm_r e27x _ _).trans (mo_mh hm).1) ?_
      refine fx_iload_n 1 dq_MO_make_38 rfl rfl ?_
      refine fx_iaload ok ((fx_sm_s e27x _).trans (mo_mh hm).2) hp14 dq_MO_make_39 ?_
      refine fx_iadd dq_MO_make_40 ?_
      refine fx_icmp_ge (tgt := 101) dq_MO_make_41 (by decide) (fun hc41 => ?_) (fun hc41 => absurd (by rw [o27x.2 (q + 23) (by omega), o27x.2 (q + 25) (by omega)]; exact jz_end (hbk hc4).1.2.1 (hbk hc4).1.2.2.2) hc41)
      refine fx_goto (tgt := 130) dq_MO_make_101 (by decide) ?_
      refine fx_aload_n 2 dq_MO_make_130 rfl rfl ?_
      refine fx_dup dq_MO_make_131 rfl ?_
      refine fx_geti ok fq_MO_222 ((fx_sm_s e27x _).trans hm.1) dq_MO_make_132 (by decide) ?_
      refine fx_iconst (v := 1) dq_MO_make_135 (by decide) ?_
      refine fx_iadd dq_MO_make_136 ?_
      refine fx_puti ok fp_MO_222 ((fx_sm_s e27x _).trans hm.1) (by decide) dq_MO_make_137 (Or.inl (by decide)) ?_
      have e137w : fx_sm h (fx_wi (its (bkO h q) h ((fx_i h (q + 25) (mK h q).toNatClampNeg).toNatClampNeg)) q 32 ((fx_i (its (bkO h q) h ((fx_i h (q + 25) (mK h q).toNatClampNeg).toNatClampNeg)) q 32) + (1 : Int32))) := fx_sm_t (h' := (its (bkO h q) h ((fx_i h (q + 25) (mK h q).toNatClampNeg).toNatClampNeg))) e27x (sm_wi _ _ _ _)
      refine fx_aload_n 2 dq_MO_make_140 rfl rfl ?_
      refine fx_Vv0 ok sq_MO_238 ((fx_sm_s e137w _).trans hm.1) (c_MO_findStep ok (fx_wi (its (bkO h q) h ((fx_i h (q + 25) (mK h q).toNatClampNeg).toNatClampNeg)) q 32 ((fx_i (its (bkO h q) h ((fx_i h (q + 25) (mK h q).toNatClampNeg).toNatClampNeg)) q 32) + (1 : Int32))) q (by exact isM_sm e137w hm) (fsPre_mk hpre (mfr_m oM (by decide) (by decide)))) (by decide) (Nat.le_of_ble_eq_true rfl) dq_MO_make_141 ?_
      have e141 : fx_sm h (k_MO_findStep (fx_wi (its (bkO h q) h ((fx_i h (q + 25) (mK h q).toNatClampNeg).toNatClampNeg)) q 32 ((fx_i (its (bkO h q) h ((fx_i h (q + 25) (mK h q).toNatClampNeg).toNatClampNeg)) q 32) + (1 : Int32))) q) := fx_sm_t (h' := (fx_wi (its (bkO h q) h ((fx_i h (q + 25) (mK h q).toNatClampNeg).toNatClampNeg)) q 32 ((fx_i (its (bkO h q) h ((fx_i h (q + 25) (mK h q).toNatClampNeg).toNatClampNeg)) q 32) + (1 : Int32)))) e137w (mfr_findStep (fx_wi (its (bkO h q) h ((fx_i h (q + 25) (mK h q).toNatClampNeg).toNatClampNeg)) q 32 ((fx_i (its (bkO h q) h ((fx_i h (q + 25) (mK h q).toNatClampNeg).toNatClampNeg)) q 32) + (1 : Int32))) q).1
      exact fx_vreturn rfl dq_MO_make_144 ⟨rfl, by rw [k_MO_make, if_pos hc4]⟩
theorem mfr_make (h : fx_H) (q : Nat) : mfr q [20, 21] [22, 31, 32, 38, 39, 40, 41] h (k_MO_make h q) := by
  have h1 : mfr q [20, 21] [22, 31, 32, 38, 39, 40, 41] h (its (bkO h q) h (fx_i h (q + 25) (mK h q).toNatClampNeg).toNatClampNeg) := mfr_m (mfr_on (on_its (fun u : fx_H => u) (bkO h q) h (on_bkO h q) _) (by decide)) (by decide) (by decide)
  have h2 : ∀ n p, mfr q [20, 21] [22, 31, 32, 38, 39, 40, 41] h (k_MO_paint (k_MO_meet h q n) q p) := fun n p => mfr_t (mfr_m (mfr_meet _ _ _) (by decide) (by decide)) (mfr_m (mfr_on (on_MO_paint _ _ _) (by decide)) (by decide) (by decide))
  unfold k_MO_make
  split
  · exact mfr_t (mfr_wf h1 (by decide)) (mfr_m (mfr_findStep _ _) (by decide) (by decide))
  · exact mfr_t (mfr_wf (h2 _ _) (by decide)) (mfr_m (mfr_findStep _ _) (by decide) (by decide))
