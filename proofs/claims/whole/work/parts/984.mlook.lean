/-! ===== the Model: look ===== -/
theorem fr_in {b : Int32} {i : Nat} (hb : vp_in b 2) (hi : i < 200) : vp_in (200 * (1 - b) + nI i) 400 := by
  obtain ⟨m, hm, rfl⟩ := vp_in_of hb (by decide)
  have h1 : m = 0 ∨ m = 1 := by omega
  have e1 : (nI i).toInt = i := nI_toInt (by omega)
  rcases h1 with rfl | rfl
  · have e0 : (200 * (1 - nI 0)).toInt = 200 := rfl
    have e2 : (200 * (1 - nI 0) + nI i).toInt = 200 + (i : Int) := by rw [iz_add (by rw [e0, e1]; omega), e0, e1]
    exact iz_in (by omega) (by omega)
  · have e0 : (200 * (1 - nI 1)).toInt = 0 := rfl
    have e2 : (200 * (1 - nI 1) + nI i).toInt = 0 + (i : Int) := by rw [iz_add (by rw [e0, e1]; omega), e0, e1]
    exact iz_in (by omega) (by omega)
def lkPre (h : fx_H) (q : Nat) : Prop := vp_in (fx_i h q 23) 2 ∧ ∀ i, i < 2 → (0 ≤ (fx_i h (q + 34) i).toInt ∧ (fx_i h (q + 34) i).toInt ≤ 1000) ∧ (0 ≤ (fx_i h (q + 35) i).toInt ∧ (fx_i h (q + 35) i).toInt ≤ 1000) ∧ ∀ j n, j < (fx_i h (q + 35) i).toNatClampNeg → n < (fx_i h (q + 34) i).toNatClampNeg → vp_in (20 * (fx_i h (q + 33) i + nI j) + fx_i h (q + 32) i + nI n) 200 ∧ vp_in (24 * nI i + fx_i h (q + 34) i * nI j + nI n) 48
def b1_MO_look (h : fx_H) (q : Nat) (i : Nat) (k : fx_H) : fx_H := fx_wi k (q + 37) i (fx_i k (q + 20) (((200 : Int32) * ((1 : Int32) - (fx_i h q 23))) + (nI i)).toNatClampNeg)
theorem on_b1_look (h : fx_H) (q n : Nat) (k : fx_H) : fx_on (q + 37) k (b1_MO_look h q n k) := by
  unfold b1_MO_look
  exact fx_on_wi _ _ _ _
def lkI (q i j : Nat) (n : Nat) (u : fx_H) : fx_H := fx_wi u (q + 37) ((((20 : Int32) * ((fx_i u (q + 33) i) + (nI j))) + (fx_i u (q + 32) i)) + (nI n)).toNatClampNeg (fx_i u (q + 36) ((((24 : Int32) * (nI i)) + ((fx_i u (q + 34) i) * (nI j))) + (nI n)).toNatClampNeg)
theorem on_lkI (q i j n : Nat) (u : fx_H) : fx_on (q + 37) u (lkI q i j n u) := by
  unfold lkI
  exact fx_on_wi _ _ _ _
def lkO (h : fx_H) (q i : Nat) (j : Nat) (z : fx_H) : fx_H := (its (lkI q i j) z ((fx_i h (q + 34) i).toNatClampNeg))
theorem on_lkO (h : fx_H) (q i j : Nat) (z : fx_H) : fx_on (q + 37) z (lkO h q i j z) := by
  unfold lkO
  exact on_its (fun u : fx_H => u) (lkI q i j) z (on_lkI q i j) _
def b2_MO_look (h : fx_H) (q : Nat) (i : Nat) (k : fx_H) : fx_H := (its (lkO h q i) k ((fx_i h (q + 35) i).toNatClampNeg))
theorem on_b2_look (h : fx_H) (q n : Nat) (k : fx_H) : fx_on (q + 37) k (b2_MO_look h q n k) := by
  unfold b2_MO_look
  exact on_its (fun u : fx_H => u) (lkO h q n) k (on_lkO h q n) _
def k_MO_look (h : fx_H) (q : Nat) : fx_H := fx_wi (fx_wi (it (b2_MO_look h q) (it (b1_MO_look h q) h 200) 2) q 45 (fx_i (it (b2_MO_look h q) (it (b1_MO_look h q) h 200) 2) q 44)) q 43 ((fx_i (fx_wi (it (b2_MO_look h q) (it (b1_MO_look h q) h 200) 2) q 45 (fx_i (it (b2_MO_look h q) (it (b1_MO_look h q) h 200) 2) q 44)) q 43) + (1 : Int32))
set_option maxRecDepth 100000 in
set_option maxHeartbeats 600000 in
theorem c_MO_look {g : fx_G} (ok : fx_ok g) (h : fx_H) (q : Nat) (hm : isM h q) (hlk : lkPre h q) : fx_C g mq_MO_look [.ref q] h (fx_is none (k_MO_look h q)) 0 0 := by
  refine fx_body (by decide +kernel) (Nat.le_of_ble_eq_true rfl) ?_
  show fx_X g mq_MO_look 0 [(0, .ref q)] [] h _ 0 0
  refine fx_sipush (v := 200) dq_MO_look_0 (by decide) ?_
  refine fx_iconst (v := 1) dq_MO_look_3 (by decide) ?_
  refine fx_aload_n 0 dq_MO_look_4 rfl rfl ?_
  refine fx_geti ok fq_MO_68 hm.1 dq_MO_look_5 (by decide) ?_
  refine fx_isub dq_MO_look_8 ?_
  refine fx_imul dq_MO_look_9 ?_
  refine fx_istore_n dq_MO_look_10 rfl (by decide) rfl ?_
  refine fx_iconst (v := 0) dq_MO_look_11 (by decide) ?_
  refine fx_istore_n dq_MO_look_12 rfl (by decide) rfl ?_
  refine fx_for (fun i => [(2, .int (nI i)), (1, .int ((200 : Int32) * ((1 : Int32) - (fx_i h q 23)))), (0, .ref q)]) (b1_MO_look h q) h 200 (fun i hi hK13 => ?_) ?_
  · have e13b : fx_sm h (it (b1_MO_look h q) h i) := fx_sm_t (h' := h) (rfl : fx_sm h h) (fx_sm_it (fun n k => (on_b1_look h q n k).1) h i)
    generalize it (b1_MO_look h q) h i = k at e13b hK13  ⊢
    refine fx_iload_n 0 dq_MO_look_13 rfl rfl ?_
    refine fx_sipush (v := 200) dq_MO_look_14 (by decide) ?_
    refine fx_icmp_ge (tgt := 40) dq_MO_look_17 (by decide) (fun hc17 => absurd hc17 (nI_ge (b := 200) hi (by decide))) (fun hc17 => ?_)
    refine fx_aload_n 2 dq_MO_look_20 rfl rfl ?_
    refine fx_getr ok fq_MO_123 ((fx_sm_s e13b _).trans hm.1) dq_MO_look_21 (by decide) ((fx_sm_r e13b _ _).trans (mo_seen hm).1) ?_
    refine fx_iload_n 0 dq_MO_look_24 rfl rfl ?_
    refine fx_aload_n 2 dq_MO_look_25 rfl rfl ?_
    refine fx_getr ok fq_MO_72 ((fx_sm_s e13b _).trans hm.1) dq_MO_look_26 (by decide) ((fx_sm_r e13b _ _).trans (mo_memory hm).1) ?_
    refine fx_iload_n 1 dq_MO_look_29 rfl rfl ?_
    refine fx_iload_n 0 dq_MO_look_30 rfl rfl ?_
    refine fx_iadd dq_MO_look_31 ?_
    refine fx_iaload ok ((fx_sm_s e13b _).trans (mo_memory hm).2) (fr_in hlk.1 hi) dq_MO_look_32 ?_
    refine fx_isN ok ((fx_sm_s e13b _).trans (mo_seen hm).2) ⟨hi, by decide⟩ dq_MO_look_33 ?_
    have e33w : fx_sm h (fx_wi k (q + 37) i (fx_i k (q + 20) (((200 : Int32) * ((1 : Int32) - (fx_i h q 23))) + (nI i)).toNatClampNeg)) := fx_sm_t (h' := k) e13b (sm_wi _ _ _ _)
    refine fx_iinc 0 dq_MO_look_34 rfl (jz_i _) (by decide) rfl ?_
    refine fx_goto (tgt := 13) dq_MO_look_37 (by decide) ?_
    refine fx_sub [0, 1, 2] rfl ?_
    exact hK13
  · have e13x : fx_sm h (it (b1_MO_look h q) h 200) := fx_sm_t (h' := h) (rfl : fx_sm h h) (fx_sm_it (fun n k => (on_b1_look h q n k).1) h 200)
    refine fx_iload_n 0 dq_MO_look_13 rfl rfl ?_
    refine fx_sipush (v := 200) dq_MO_look_14 (by decide) ?_
    refine fx_icmp_ge (tgt := 40) dq_MO_look_17 (by decide) (fun hc17 => ?_) (fun hc17 => absurd (by decide) hc17)
    refine fx_iconst (v := 0) dq_MO_look_40 (by decide) ?_
    refine fx_istore_n dq_MO_look_41 rfl (by decide) rfl ?_
    refine fx_for (fun i => [(2, .int (nI i)), (1, .int ((200 : Int32) * ((1 : Int32) - (fx_i h q 23)))), (0, .ref q)]) (b2_MO_look h q) (it (b1_MO_look h q) h 200) 2 (fun i hi hK42 => ?_) ?_
    · have e42b : fx_sm h (it (b2_MO_look h q) (it (b1_MO_look h q) h 200) i) := fx_sm_t (h' := (it (b1_MO_look h q) h 200)) e13x (fx_sm_it (fun n k => (on_b2_look h q n k).1) (it (b1_MO_look h q) h 200) i)
      have oK := fx_on_t (fx_on_it (on_b1_look h q) h 200) (fx_on_it (on_b2_look h q) (it (b1_MO_look h q) h 200) i)
      generalize it (b2_MO_look h q) (it (b1_MO_look h q) h 200) i = k at e42b hK42 oK ⊢
      refine fx_iload_n 0 dq_MO_look_42 rfl rfl ?_
      refine fx_iconst (v := 2) dq_MO_look_43 (by decide) ?_
      refine fx_icmp_ge (tgt := 138) dq_MO_look_44 (by decide) (fun hc44 => absurd hc44 (nI_ge (b := 2) hi (by decide))) (fun hc44 => ?_)
      refine fx_iconst (v := 0) dq_MO_look_47 (by decide) ?_
      refine fx_istore_n dq_MO_look_48 rfl (by decide) rfl ?_
      refine fx_fors (σ := fx_H) (fun j z => [(3, .int (nI j)), (2, .int (nI i)), (1, .int ((200 : Int32) * ((1 : Int32) - (fx_i h q 23)))), (0, .ref q)]) (fun z => z) (lkO h q i) k ((fx_i h (q + 35) i).toNatClampNeg) (fun j z hj hz hK49 => ?_) ?_
      · skip
        have o49b : fx_on (q + 37) k z := by rw [hz]; exact on_its (fun z : fx_H => z) (lkO h q i) k (on_lkO h q i) j
        have e49b : fx_sm h z := fx_sm_t (h' := k) e42b o49b.1
        have oZ := fx_on_t oK o49b
        refine fx_iload_n 0 dq_MO_look_49 rfl rfl ?_
        refine fx_aload_n 3 dq_MO_look_50 rfl rfl ?_
        refine fx_getr ok fq_MO_117 ((fx_sm_s e49b _).trans hm.1) dq_MO_look_51 (by decide) ((fx_sm_r e49b _ _).trans (mo_setH hm).1) ?_
        refine fx_iload_n 1 dq_MO_look_54 rfl rfl ?_
        refine fx_iaN ok ((fx_sm_s e49b _).trans (mo_setH hm).2) ⟨hi, by decide⟩ dq_MO_look_55 ?_
        refine fx_icmp_ge (tgt := 132) dq_MO_look_56 (by decide) (fun hc56 => absurd hc56 (by rw [oZ.2 (q + 35) (by omega)]; exact vI_ge (hlk.2 i hi).2.1 hj)) (fun hc56 => ?_)
        refine fx_iconst (v := 0) dq_MO_look_59 (by decide) ?_
        refine fx_istore dq_MO_look_60 (by decide) rfl ?_
        refine fx_fors (σ := fx_H) (fun n u => [(4, .int (nI n)), (3, .int (nI j)), (2, .int (nI i)), (1, .int ((200 : Int32) * ((1 : Int32) - (fx_i h q 23)))), (0, .ref q)]) (fun u => u) (lkI q i j) z ((fx_i h (q + 34) i).toNatClampNeg) (fun n u hn hu hK62 => ?_) ?_
        · skip
          have o62b : fx_on (q + 37) z u := by rw [hu]; exact on_its (fun u : fx_H => u) (lkI q i j) z (on_lkI q i j) n
          have e62b : fx_sm h u := fx_sm_t (h' := z) e49b o62b.1
          have oU := fx_on_t oZ o62b
          refine fx_iload 0 dq_MO_look_62 rfl ?_
          refine fx_aload_n 4 dq_MO_look_64 rfl rfl ?_
          refine fx_getr ok fq_MO_114 ((fx_sm_s e62b _).trans hm.1) dq_MO_look_65 (by decide) ((fx_sm_r e62b _ _).trans (mo_setW hm).1) ?_
          refine fx_iload_n 2 dq_MO_look_68 rfl rfl ?_
          refine fx_iaN ok ((fx_sm_s e62b _).trans (mo_setW hm).2) ⟨hi, by decide⟩ dq_MO_look_69 ?_
          refine fx_icmp_ge (tgt := 126) dq_MO_look_70 (by decide) (fun hc70 => absurd hc70 (by rw [oU.2 (q + 34) (by omega)]; exact vI_ge (hlk.2 i hi).1 hn)) (fun hc70 => ?_)
          refine fx_aload_n 4 dq_MO_look_73 rfl rfl ?_
          refine fx_getr ok fq_MO_123 ((fx_sm_s e62b _).trans hm.1) dq_MO_look_74 (by decide) ((fx_sm_r e62b _ _).trans (mo_seen hm).1) ?_
          refine fx_bipush (v := 20) dq_MO_look_77 (by decide) ?_
          refine fx_aload_n 4 dq_MO_look_79 rfl rfl ?_
          refine fx_getr ok fq_MO_111 ((fx_sm_s e62b _).trans hm.1) dq_MO_look_80 (by decide) ((fx_sm_r e62b _ _).trans (mo_setY hm).1) ?_
          refine fx_iload_n 2 dq_MO_look_83 rfl rfl ?_
          refine fx_iaN ok ((fx_sm_s e62b _).trans (mo_setY hm).2) ⟨hi, by decide⟩ dq_MO_look_84 ?_
          refine fx_iload_n 1 dq_MO_look_85 rfl rfl ?_
          refine fx_iadd dq_MO_look_86 ?_
          refine fx_imul dq_MO_look_87 ?_
          refine fx_aload_n 4 dq_MO_look_88 rfl rfl ?_
          refine fx_getr ok fq_MO_108 ((fx_sm_s e62b _).trans hm.1) dq_MO_look_89 (by decide) ((fx_sm_r e62b _ _).trans (mo_setX hm).1) ?_
          refine fx_iload_n 2 dq_MO_look_92 rfl rfl ?_
          refine fx_iaN ok ((fx_sm_s e62b _).trans (mo_setX hm).2) ⟨hi, by decide⟩ dq_MO_look_93 ?_
          refine fx_iadd dq_MO_look_94 ?_
          refine fx_iload 0 dq_MO_look_95 rfl ?_
          refine fx_iadd dq_MO_look_97 ?_
          refine fx_aload_n 4 dq_MO_look_98 rfl rfl ?_
          refine fx_getr ok fq_MO_120 ((fx_sm_s e62b _).trans hm.1) dq_MO_look_99 (by decide) ((fx_sm_r e62b _ _).trans (mo_setPixels hm).1) ?_
          refine fx_bipush (v := 24) dq_MO_look_102 (by decide) ?_
          refine fx_iload_n 2 dq_MO_look_104 rfl rfl ?_
          refine fx_imul dq_MO_look_105 ?_
          refine fx_aload_n 4 dq_MO_look_106 rfl rfl ?_
          refine fx_getr ok fq_MO_114 ((fx_sm_s e62b _).trans hm.1) dq_MO_look_107 (by decide) ((fx_sm_r e62b _ _).trans (mo_setW hm).1) ?_
          refine fx_iload_n 2 dq_MO_look_110 rfl rfl ?_
          refine fx_iaN ok ((fx_sm_s e62b _).trans (mo_setW hm).2) ⟨hi, by decide⟩ dq_MO_look_111 ?_
          refine fx_iload_n 1 dq_MO_look_112 rfl rfl ?_
          refine fx_imul dq_MO_look_113 ?_
          refine fx_iadd dq_MO_look_114 ?_
          refine fx_iload 0 dq_MO_look_115 rfl ?_
          refine fx_iadd dq_MO_look_117 ?_
          refine fx_iaload ok ((fx_sm_s e62b _).trans (mo_setPixels hm).2) (by rw [oU.2 (q + 34) (by omega)]; exact ((hlk.2 i hi).2.2 j n hj hn).2) dq_MO_look_118 ?_
          refine fx_iastore ok ((fx_sm_s e62b _).trans (mo_seen hm).2) (by rw [oU.2 (q + 33) (by omega), oU.2 (q + 32) (by omega)]; exact ((hlk.2 i hi).2.2 j n hj hn).1) dq_MO_look_119 ?_
          have e119w : fx_sm h (fx_wi u (q + 37) ((((20 : Int32) * ((fx_i u (q + 33) i) + (nI j))) + (fx_i u (q + 32) i)) + (nI n)).toNatClampNeg (fx_i u (q + 36) ((((24 : Int32) * (nI i)) + ((fx_i u (q + 34) i) * (nI j))) + (nI n)).toNatClampNeg)) := fx_sm_t (h' := u) e62b (sm_wi _ _ _ _)
          refine fx_iinc 0 dq_MO_look_120 rfl (jz_i _) (by decide) rfl ?_
          refine fx_goto (tgt := 62) dq_MO_look_123 (by decide) ?_
          refine fx_sub [0, 1, 2, 3, 4] rfl ?_
          exact hK62
        · show fx_X g mq_MO_look 62 [(4, .int (nI ((fx_i h (q + 34) i).toNatClampNeg))), (3, .int (nI j)), (2, .int (nI i)), (1, .int ((200 : Int32) * ((1 : Int32) - (fx_i h q 23)))), (0, .ref q)] [] (its (lkI q i j) z ((fx_i h (q + 34) i).toNatClampNeg)) _ 0 0
          have o62x : fx_on (q + 37) z (its (lkI q i j) z ((fx_i h (q + 34) i).toNatClampNeg)) := on_its (fun u : fx_H => u) (lkI q i j) z (on_lkI q i j) ((fx_i h (q + 34) i).toNatClampNeg)
          have e62x : fx_sm h (its (lkI q i j) z ((fx_i h (q + 34) i).toNatClampNeg)) := fx_sm_t (h' := z) e49b o62x.1
          have oX := fx_on_t oZ o62x
          refine fx_iload 0 dq_MO_look_62 rfl ?_
          refine fx_aload_n 4 dq_MO_look_64 rfl rfl ?_
          refine fx_getr ok fq_MO_114 ((fx_sm_s e62x _).trans hm.1) dq_MO_look_65 (by decide) ((fx_sm_r e62x _ _).trans (mo_setW hm).1) ?_
          refine fx_iload_n 2 dq_MO_look_68 rfl rfl ?_
          refine fx_iaN ok ((fx_sm_s e62x _).trans (mo_setW hm).2) ⟨hi, by decide⟩ dq_MO_look_69 ?_
          refine fx_icmp_ge (tgt := 126) dq_MO_look_70 (by decide) (fun hc70 => ?_) (fun hc70 => absurd (by rw [oX.2 (q + 34) (by omega)]; exact vI_le (hlk.2 i hi).1) hc70)
          refine fx_iinc 1 dq_MO_look_126 rfl (jz_i _) (by decide) rfl ?_
          refine fx_goto (tgt := 49) dq_MO_look_129 (by decide) ?_
          refine fx_sub [0, 2, 3, 4] rfl ?_
          exact hK49
      · show fx_X g mq_MO_look 49 [(3, .int (nI ((fx_i h (q + 35) i).toNatClampNeg))), (2, .int (nI i)), (1, .int ((200 : Int32) * ((1 : Int32) - (fx_i h q 23)))), (0, .ref q)] [] (its (lkO h q i) k ((fx_i h (q + 35) i).toNatClampNeg)) _ 0 0
        have o49x : fx_on (q + 37) k (its (lkO h q i) k ((fx_i h (q + 35) i).toNatClampNeg)) := on_its (fun z : fx_H => z) (lkO h q i) k (on_lkO h q i) ((fx_i h (q + 35) i).toNatClampNeg)
        have e49x : fx_sm h (its (lkO h q i) k ((fx_i h (q + 35) i).toNatClampNeg)) := fx_sm_t (h' := k) e42b o49x.1
        have oY := fx_on_t oK o49x
        refine fx_iload_n 0 dq_MO_look_49 rfl rfl ?_
        refine fx_aload_n 3 dq_MO_look_50 rfl rfl ?_
        refine fx_getr ok fq_MO_117 ((fx_sm_s e49x _).trans hm.1) dq_MO_look_51 (by decide) ((fx_sm_r e49x _ _).trans (mo_setH hm).1) ?_
        refine fx_iload_n 1 dq_MO_look_54 rfl rfl ?_
        refine fx_iaN ok ((fx_sm_s e49x _).trans (mo_setH hm).2) ⟨hi, by decide⟩ dq_MO_look_55 ?_
        refine fx_icmp_ge (tgt := 132) dq_MO_look_56 (by decide) (fun hc56 => ?_) (fun hc56 => absurd (by rw [oY.2 (q + 35) (by omega)]; exact vI_le (hlk.2 i hi).2.1) hc56)
        refine fx_iinc 1 dq_MO_look_132 rfl (jz_i _) (by decide) rfl ?_
        refine fx_goto (tgt := 42) dq_MO_look_135 (by decide) ?_
        refine fx_sub [0, 2, 3] rfl ?_
        exact hK42
    · have e42x : fx_sm h (it (b2_MO_look h q) (it (b1_MO_look h q) h 200) 2) := fx_sm_t (h' := (it (b1_MO_look h q) h 200)) e13x (fx_sm_it (fun n k => (on_b2_look h q n k).1) (it (b1_MO_look h q) h 200) 2)
      refine fx_iload_n 0 dq_MO_look_42 rfl rfl ?_
      refine fx_iconst (v := 2) dq_MO_look_43 (by decide) ?_
      refine fx_icmp_ge (tgt := 138) dq_MO_look_44 (by decide) (fun hc44 => ?_) (fun hc44 => absurd (by decide) hc44)
      refine fx_aload_n 2 dq_MO_look_138 rfl rfl ?_
      refine fx_aload_n 2 dq_MO_look_139 rfl rfl ?_
      refine fx_geti ok fq_MO_247 ((fx_sm_s e42x _).trans hm.1) dq_MO_look_140 (by decide) ?_
      refine fx_puti ok fp_MO_250 ((fx_sm_s e42x _).trans hm.1) (by decide) dq_MO_look_143 (Or.inl (by decide)) ?_
      have e143w : fx_sm h (fx_wi (it (b2_MO_look h q) (it (b1_MO_look h q) h 200) 2) q 45 (fx_i (it (b2_MO_look h q) (it (b1_MO_look h q) h 200) 2) q 44)) := fx_sm_t (h' := (it (b2_MO_look h q) (it (b1_MO_look h q) h 200) 2)) e42x (sm_wi _ _ _ _)
      refine fx_aload_n 2 dq_MO_look_146 rfl rfl ?_
      refine fx_dup dq_MO_look_147 rfl ?_
      refine fx_geti ok fq_MO_253 ((fx_sm_s e143w _).trans hm.1) dq_MO_look_148 (by decide) ?_
      refine fx_iconst (v := 1) dq_MO_look_151 (by decide) ?_
      refine fx_iadd dq_MO_look_152 ?_
      refine fx_puti ok fp_MO_253 ((fx_sm_s e143w _).trans hm.1) (by decide) dq_MO_look_153 (Or.inl (by decide)) ?_
      have e153w : fx_sm h (fx_wi (fx_wi (it (b2_MO_look h q) (it (b1_MO_look h q) h 200) 2) q 45 (fx_i (it (b2_MO_look h q) (it (b1_MO_look h q) h 200) 2) q 44)) q 43 ((fx_i (fx_wi (it (b2_MO_look h q) (it (b1_MO_look h q) h 200) 2) q 45 (fx_i (it (b2_MO_look h q) (it (b1_MO_look h q) h 200) 2) q 44)) q 43) + (1 : Int32))) := fx_sm_t (h' := (fx_wi (it (b2_MO_look h q) (it (b1_MO_look h q) h 200) 2) q 45 (fx_i (it (b2_MO_look h q) (it (b1_MO_look h q) h 200) 2) q 44))) e143w (sm_wi _ _ _ _)
      exact fx_vreturn rfl dq_MO_look_156 ⟨rfl, rfl⟩
theorem mfr_look (h : fx_H) (q : Nat) : mfr q [37] [43, 45] h (k_MO_look h q) := by
  unfold k_MO_look
  exact mfr_wf (mfr_wf (mfr_m (mfr_on (fx_on_t (fx_on_it (on_b1_look h q) h 200) (fx_on_it (on_b2_look h q) (it (b1_MO_look h q) h 200) 2)) (by decide)) (by decide) (by decide)) (by decide)) (by decide)
