/-! ===== the Model: paint ===== -/
def mRs (h : fx_H) (q : Nat) : Prop := (-1000 ≤ (fx_i h q 38).toInt ∧ (fx_i h q 38).toInt ≤ 1000) ∧ (-1000 ≤ (fx_i h q 39).toInt ∧ (fx_i h q 39).toInt ≤ 1000) ∧ (0 ≤ (fx_i h q 40).toInt ∧ (fx_i h q 40).toInt ≤ 1000) ∧ (0 ≤ (fx_i h q 41).toInt ∧ (fx_i h q 41).toInt ≤ 1000)
/-- what paint wants-/
def ptPre (h : fx_H) (q : Nat) (p : Int32) : Prop := vp_in p 30 ∧ mRs h q ∧ ∀ i j, i < (fx_i h q 40).toNatClampNeg → j < (fx_i h q 41).toNatClampNeg → pre_MO_pixelOf h q p (fx_i h q 38 + nI i) (fx_i h q 39 + nI j) ∧ vp_in (200 * fx_i h q 23 + 20 * (fx_i h q 39 + nI j) + (fx_i h q 38 + nI i)) 400
theorem px_on {h k : fx_H} {q c : Nat} {p x y : Int32} (e : fx_on (q + c) h k) (hc : c ≠ 3 ∧ c ≠ 8 ∧ c ≠ 9) (hp : pre_MO_pixelOf h q p x y) : pre_MO_pixelOf k q p x y := by
  unfold pre_MO_pixelOf at hp ⊢
  rw [e.2 (q + 3) (by omega), e.2 (q + 8) (by omega), e.2 (q + 9) (by omega)]
  exact hp
def paI (h : fx_H) (q : Nat) (p : Int32) (j : Nat) (i : Nat) (u : fx_H) : fx_H := fx_wi u (q + 20) ((((200 : Int32) * (fx_i u q 23)) + ((20 : Int32) * ((fx_i h q 39) + nI j))) + ((fx_i h q 38) + nI i)).toNatClampNeg (v_MO_mixed u (v_MO_pixelOf u q p ((fx_i h q 38) + nI i) ((fx_i h q 39) + nI j)) (fx_i u (q + 20) ((((200 : Int32) * (fx_i u q 23)) + ((20 : Int32) * ((fx_i h q 39) + nI j))) + ((fx_i h q 38) + nI i)).toNatClampNeg) (fx_i u (q + 11) p.toNatClampNeg))
theorem on_paI (h : fx_H) (q : Nat) (p : Int32) (j i : Nat) (u : fx_H) : fx_on (q + 20) u (paI h q p j i u) := by
  unfold paI
  exact fx_on_wi _ _ _ _
def paO (h : fx_H) (q : Nat) (p : Int32) (j : Nat) (z : fx_H) : fx_H := (its (paI h q p j) z ((fx_i h q 40).toNatClampNeg))
theorem on_paO (h : fx_H) (q : Nat) (p : Int32) (j : Nat) (z : fx_H) : fx_on (q + 20) z (paO h q p j z) := by
  unfold paO
  exact on_its (fun u : fx_H => u) (paI h q p j) z (on_paI h q p j) _
def k_MO_paint (h : fx_H) (q : Nat) (p : Int32) : fx_H := (its (paO h q p) h ((fx_i h q 41).toNatClampNeg))
set_option maxRecDepth 100000 in
set_option maxHeartbeats 600000 in
theorem c_MO_paint {g : fx_G} (ok : fx_ok g) (h : fx_H) (q : Nat) (p : Int32) (hm : isM h q) (hpt : ptPre h q p) : fx_C g mq_MO_paint [.ref q, .int p] h (fx_is none (k_MO_paint h q p)) 0 0 := by
  refine fx_body (by decide +kernel) (Nat.le_of_ble_eq_true rfl) ?_
  show fx_X g mq_MO_paint 0 [(0, .ref q), (1, .int p)] [] h _ 0 0
  refine fx_aload_n 0 dq_MO_paint_0 rfl rfl ?_
  refine fx_geti ok fq_MO_147 hm.1 dq_MO_paint_1 (by decide) ?_
  refine fx_istore_n dq_MO_paint_4 rfl (by decide) rfl ?_
  refine fx_eqv (v' := (fx_i h q 39) + nI 0) (jz_0 _).symm ?_
  refine fx_fors (σ := fx_H) (fun j z => [(2, .int ((fx_i h q 39) + nI j)), (0, .ref q), (1, .int p)]) (fun z => z) (paO h q p) h ((fx_i h q 41).toNatClampNeg) (fun j z hj hz hK5 => ?_) ?_
  · skip
    have o5b : fx_on (q + 20) h z := by rw [hz]; exact on_its (fun z : fx_H => z) (paO h q p) h (on_paO h q p) j
    have e5b : fx_sm h z := fx_sm_t (h' := h) (rfl : fx_sm h h) o5b.1
    have oZ := o5b
    refine fx_iload_n 0 dq_MO_paint_5 rfl rfl ?_
    refine fx_aload_n 1 dq_MO_paint_6 rfl rfl ?_
    refine fx_geti ok fq_MO_147 ((fx_sm_s e5b _).trans hm.1) dq_MO_paint_7 (by decide) ?_
    refine fx_aload_n 1 dq_MO_paint_10 rfl rfl ?_
    refine fx_geti ok fq_MO_150 ((fx_sm_s e5b _).trans hm.1) dq_MO_paint_11 (by decide) ?_
    refine fx_iadd dq_MO_paint_14 ?_
    refine fx_icmp_ge (tgt := 95) dq_MO_paint_15 (by decide) (fun hc15 => absurd hc15 (by rw [oZ.2 q (by omega), oZ.2 q (by omega)]; exact jz_ge hpt.2.1.2.1 hpt.2.1.2.2.2 hj)) (fun hc15 => ?_)
    refine fx_aload_n 1 dq_MO_paint_18 rfl rfl ?_
    refine fx_geti ok fq_MO_141 ((fx_sm_s e5b _).trans hm.1) dq_MO_paint_19 (by decide) ?_
    refine fx_istore_n dq_MO_paint_22 rfl (by decide) rfl ?_
    refine fx_eqv (v' := (fx_i h q 38) + nI 0) (by rw [oZ.2 q (by omega)]; exact (jz_0 _).symm) ?_
    refine fx_fors (σ := fx_H) (fun i u => [(3, .int ((fx_i h q 38) + nI i)), (2, .int ((fx_i h q 39) + nI j)), (0, .ref q), (1, .int p)]) (fun u => u) (paI h q p j) z ((fx_i h q 40).toNatClampNeg) (fun i u hi hu hK23 => ?_) ?_
    · skip
      have o23b : fx_on (q + 20) z u := by rw [hu]; exact on_its (fun u : fx_H => u) (paI h q p j) z (on_paI h q p j) i
      have e23b : fx_sm h u := fx_sm_t (h' := z) e5b o23b.1
      have oU := fx_on_t oZ o23b
      refine fx_iload_n 0 dq_MO_paint_23 rfl rfl ?_
      refine fx_aload_n 2 dq_MO_paint_24 rfl rfl ?_
      refine fx_geti ok fq_MO_141 ((fx_sm_s e23b _).trans hm.1) dq_MO_paint_25 (by decide) ?_
      refine fx_aload_n 2 dq_MO_paint_28 rfl rfl ?_
      refine fx_geti ok fq_MO_144 ((fx_sm_s e23b _).trans hm.1) dq_MO_paint_29 (by decide) ?_
      refine fx_iadd dq_MO_paint_32 ?_
      refine fx_icmp_ge (tgt := 89) dq_MO_paint_33 (by decide) (fun hc33 => absurd hc33 (by rw [oU.2 q (by omega), oU.2 q (by omega)]; exact jz_ge hpt.2.1.1 hpt.2.1.2.2.1 hi)) (fun hc33 => ?_)
      refine fx_sipush (v := 200) dq_MO_paint_36 (by decide) ?_
      refine fx_aload_n 2 dq_MO_paint_39 rfl rfl ?_
      refine fx_geti ok fq_MO_68 ((fx_sm_s e23b _).trans hm.1) dq_MO_paint_40 (by decide) ?_
      refine fx_imul dq_MO_paint_43 ?_
      refine fx_bipush (v := 20) dq_MO_paint_44 (by decide) ?_
      refine fx_iload_n 1 dq_MO_paint_46 rfl rfl ?_
      refine fx_imul dq_MO_paint_47 ?_
      refine fx_iadd dq_MO_paint_48 ?_
      refine fx_iload_n 0 dq_MO_paint_49 rfl rfl ?_
      refine fx_iadd dq_MO_paint_50 ?_
      refine fx_istore dq_MO_paint_51 (by decide) rfl ?_
      refine fx_aload_n 3 dq_MO_paint_53 rfl rfl ?_
      refine fx_getr ok fq_MO_72 ((fx_sm_s e23b _).trans hm.1) dq_MO_paint_54 (by decide) ((fx_sm_r e23b _ _).trans (mo_memory hm).1) ?_
      refine fx_iload 0 dq_MO_paint_57 rfl ?_
      refine fx_aload_n 3 dq_MO_paint_59 rfl rfl ?_
      refine fx_iload_n 4 dq_MO_paint_60 rfl rfl ?_
      refine fx_iload_n 1 dq_MO_paint_61 rfl rfl ?_
      refine fx_iload_n 2 dq_MO_paint_62 rfl rfl ?_
      refine fx_Vi3 ok sq_MO_225 ((fx_sm_s e23b _).trans hm.1) (c_MO_pixelOf ok u q p ((fx_i h q 38) + nI i) ((fx_i h q 39) + nI j) (by exact isM_sm e23b hm) (px_on oU (by decide) (hpt.2.2 i j hi hj).1)) (by decide) (Nat.le_of_ble_eq_true rfl) dq_MO_paint_63 ?_
      refine fx_aload_n 3 dq_MO_paint_66 rfl rfl ?_
      refine fx_getr ok fq_MO_72 ((fx_sm_s e23b _).trans hm.1) dq_MO_paint_67 (by decide) ((fx_sm_r e23b _ _).trans (mo_memory hm).1) ?_
      refine fx_iload 0 dq_MO_paint_70 rfl ?_
      refine fx_iaload ok ((fx_sm_s e23b _).trans (mo_memory hm).2) (by rw [oU.2 q (by omega)]; exact (hpt.2.2 i j hi hj).2) dq_MO_paint_72 ?_
      refine fx_aload_n 3 dq_MO_paint_73 rfl rfl ?_
      refine fx_getr ok fq_MO_41 ((fx_sm_s e23b _).trans hm.1) dq_MO_paint_74 (by decide) ((fx_sm_r e23b _ _).trans (mo_alpha hm).1) ?_
      refine fx_iload_n 4 dq_MO_paint_77 rfl rfl ?_
      refine fx_iaload ok ((fx_sm_s e23b _).trans (mo_alpha hm).2) hpt.1 dq_MO_paint_78 ?_
      refine fx_Si3 ok sq_MO_229 (c_MO_mixed ok u (v_MO_pixelOf u q p ((fx_i h q 38) + nI i) ((fx_i h q 39) + nI j)) (fx_i u (q + 20) ((((200 : Int32) * (fx_i u q 23)) + ((20 : Int32) * ((fx_i h q 39) + nI j))) + ((fx_i h q 38) + nI i)).toNatClampNeg) (fx_i u (q + 11) p.toNatClampNeg)) (by decide) (Nat.le_of_ble_eq_true rfl) dq_MO_paint_79 ?_
      refine fx_iastore ok ((fx_sm_s e23b _).trans (mo_memory hm).2) (by rw [oU.2 q (by omega)]; exact (hpt.2.2 i j hi hj).2) dq_MO_paint_82 ?_
      have e82w : fx_sm h (fx_wi u (q + 20) ((((200 : Int32) * (fx_i u q 23)) + ((20 : Int32) * ((fx_i h q 39) + nI j))) + ((fx_i h q 38) + nI i)).toNatClampNeg (v_MO_mixed u (v_MO_pixelOf u q p ((fx_i h q 38) + nI i) ((fx_i h q 39) + nI j)) (fx_i u (q + 20) ((((200 : Int32) * (fx_i u q 23)) + ((20 : Int32) * ((fx_i h q 39) + nI j))) + ((fx_i h q 38) + nI i)).toNatClampNeg) (fx_i u (q + 11) p.toNatClampNeg))) := fx_sm_t (h' := u) e23b (sm_wi _ _ _ _)
      refine fx_iinc 1 dq_MO_paint_83 rfl (jz_s _ _) (by decide) rfl ?_
      refine fx_goto (tgt := 23) dq_MO_paint_86 (by decide) ?_
      refine fx_sub [0, 2, 3, 4] rfl ?_
      exact hK23
    · show fx_X g mq_MO_paint 23 [(3, .int ((fx_i h q 38) + nI ((fx_i h q 40).toNatClampNeg))), (2, .int ((fx_i h q 39) + nI j)), (0, .ref q), (1, .int p)] [] (its (paI h q p j) z ((fx_i h q 40).toNatClampNeg)) _ 0 0
      have o23x : fx_on (q + 20) z (its (paI h q p j) z ((fx_i h q 40).toNatClampNeg)) := on_its (fun u : fx_H => u) (paI h q p j) z (on_paI h q p j) ((fx_i h q 40).toNatClampNeg)
      have e23x : fx_sm h (its (paI h q p j) z ((fx_i h q 40).toNatClampNeg)) := fx_sm_t (h' := z) e5b o23x.1
      have oX := fx_on_t oZ o23x
      refine fx_iload_n 0 dq_MO_paint_23 rfl rfl ?_
      refine fx_aload_n 2 dq_MO_paint_24 rfl rfl ?_
      refine fx_geti ok fq_MO_141 ((fx_sm_s e23x _).trans hm.1) dq_MO_paint_25 (by decide) ?_
      refine fx_aload_n 2 dq_MO_paint_28 rfl rfl ?_
      refine fx_geti ok fq_MO_144 ((fx_sm_s e23x _).trans hm.1) dq_MO_paint_29 (by decide) ?_
      refine fx_iadd dq_MO_paint_32 ?_
      refine fx_icmp_ge (tgt := 89) dq_MO_paint_33 (by decide) (fun hc33 => ?_) (fun hc33 => absurd (by rw [oX.2 q (by omega), oX.2 q (by omega)]; exact jz_end hpt.2.1.1 hpt.2.1.2.2.1) hc33)
      refine fx_iinc 1 dq_MO_paint_89 rfl (jz_s _ _) (by decide) rfl ?_
      refine fx_goto (tgt := 5) dq_MO_paint_92 (by decide) ?_
      refine fx_sub [0, 2, 3] rfl ?_
      exact hK5
  · show fx_X g mq_MO_paint 5 [(2, .int ((fx_i h q 39) + nI ((fx_i h q 41).toNatClampNeg))), (0, .ref q), (1, .int p)] [] (its (paO h q p) h ((fx_i h q 41).toNatClampNeg)) _ 0 0
    have o5x : fx_on (q + 20) h (its (paO h q p) h ((fx_i h q 41).toNatClampNeg)) := on_its (fun z : fx_H => z) (paO h q p) h (on_paO h q p) ((fx_i h q 41).toNatClampNeg)
    have e5x : fx_sm h (its (paO h q p) h ((fx_i h q 41).toNatClampNeg)) := fx_sm_t (h' := h) (rfl : fx_sm h h) o5x.1
    refine fx_iload_n 0 dq_MO_paint_5 rfl rfl ?_
    refine fx_aload_n 1 dq_MO_paint_6 rfl rfl ?_
    refine fx_geti ok fq_MO_147 ((fx_sm_s e5x _).trans hm.1) dq_MO_paint_7 (by decide) ?_
    refine fx_aload_n 1 dq_MO_paint_10 rfl rfl ?_
    refine fx_geti ok fq_MO_150 ((fx_sm_s e5x _).trans hm.1) dq_MO_paint_11 (by decide) ?_
    refine fx_iadd dq_MO_paint_14 ?_
    refine fx_icmp_ge (tgt := 95) dq_MO_paint_15 (by decide) (fun hc15 => ?_) (fun hc15 => absurd (by rw [o5x.2 q (by omega), o5x.2 q (by omega)]; exact jz_end hpt.2.1.2.1 hpt.2.1.2.2.2) hc15)
    exact fx_vreturn rfl dq_MO_paint_95 ⟨rfl, rfl⟩
theorem on_MO_paint (h : fx_H) (q : Nat) (p : Int32) : fx_on (q + 20) h (k_MO_paint h q p) := by
  unfold k_MO_paint
  exact on_its (fun u : fx_H => u) (paO h q p) h (on_paO h q p) _
theorem mfr_on {q c : Nat} {h k : fx_H} (e : fx_on (q + c) h k) (hc : 0 < c) : mfr q [c] [] h k := ⟨e.1, fun b _ h2 j => e.2 b (h2 c (List.mem_singleton.mpr rfl)) j, fun j _ => e.2 q (by omega) j⟩
