/-! ===== Composer: notes, steps ===== -/
def k_CO_swap (h : fx_H) (c f b : Nat) : fx_H := fx_wi (fx_wi (fx_wr (fx_wr h c 4 (some b)) c 5 (some f)) c 8 (fx_i h c 7)) c 6 0
set_option maxRecDepth 100000 in
set_option maxHeartbeats 600000 in
theorem c_CO_swap {g : fx_G} (ok : fx_ok g) (h : fx_H) (c f b : Nat) (hC : isC h c f b) : fx_C g mq_CO_swap [.ref c] h (fx_is none (k_CO_swap h c f b)) 0 0 := by
  refine fx_body (by decide +kernel) (Nat.le_of_ble_eq_true rfl) ?_
  show fx_X g mq_CO_swap 0 [(0, .ref c)] [] h _ 0 0
  refine fx_aload_n 0 dq_CO_swap_0 rfl rfl ?_
  refine fx_getr ok fq_CO_38 hC.1 dq_CO_swap_1 (by decide) hC.2.2.2.2.2.2.2.2.2.1 ?_
  refine fx_astore_n dq_CO_swap_4 rfl (by decide) rfl ?_
  refine fx_aload_n 1 dq_CO_swap_5 rfl rfl ?_
  refine fx_aload_n 1 dq_CO_swap_6 rfl rfl ?_
  refine fx_getr ok fq_CO_42 hC.1 dq_CO_swap_7 (by decide) hC.2.2.2.2.2.2.2.2.2.2.2.1 ?_
  refine fx_putr ok fp_CO_38 hC.1 (by decide) dq_CO_swap_10 (by decide) ?_
  refine fx_aload_n 1 dq_CO_swap_13 rfl rfl ?_
  refine fx_aload_n 0 dq_CO_swap_14 rfl rfl ?_
  refine fx_putr ok fp_CO_42 hC.1 (by decide) dq_CO_swap_15 (by decide) ?_
  refine fx_aload_n 1 dq_CO_swap_18 rfl rfl ?_
  refine fx_aload_n 1 dq_CO_swap_19 rfl rfl ?_
  refine fx_geti ok fq_CO_65 hC.1 dq_CO_swap_20 (by decide) ?_
  refine fx_puti ok fp_CO_148 hC.1 (by decide) dq_CO_swap_23 (Or.inl (by decide)) ?_
  refine fx_aload_n 1 dq_CO_swap_26 rfl rfl ?_
  refine fx_iconst (v := 0) dq_CO_swap_27 (by decide) ?_
  refine fx_puti ok fp_CO_45 hC.1 (by decide) dq_CO_swap_28 (Or.inl (by decide)) ?_
  exact fx_vreturn rfl dq_CO_swap_31 ⟨rfl, rfl⟩

def ncP (h : fx_H) (c f b : Nat) (k : fx_H) : Prop := mOk k (f + 2) ∧ mOk k (b + 2) ∧ fx_out (c + 54) (c + 76) h k
theorem nc2 {h k : fx_H} {c f b : Nat} (hlay : (f = c + 54 ∧ b = c + 65) ∨ (f = c + 65 ∧ b = c + 54)) (hk : ncP h c f b k) (a : Nat) : ncP h c f b (k_MI_add (k_MI_add k (f + 2) a) (b + 2) a) := by
  have o1 := out_MI_add k (f + 2) a hk.1
  have m1 := mOk_add k (f + 2) a hk.1
  have n1 := mOk_out o1 (by omega) hk.2.1
  have o2 := out_MI_add _ (b + 2) a n1
  exact ⟨mOk_out o2 (by omega) m1, mOk_add _ _ _ n1, fx_out_t hk.2.2 (fx_out_t (fx_out_m o1 (by omega)) (fx_out_m o2 (by omega)))⟩
def b_CO_noteChanges (c d f b : Nat) (i : Nat) (k : fx_H) : fx_H := if (v_DE_isWaiting k d i) = 0 then if (v_PN_has k (c + 44) (nI i)) = (fx_i k (c + 52) i) then k else if (fx_i k (c + 52) i) = 0 then if (v_PN_has k (c + 44) (nI i)) = 0 then k_MI_add (k_MI_add (k_MI_add (k_MI_add k (f + 2) (c + 76 + i)) (b + 2) (c + 76 + i)) (f + 2) (c + 1 + 3 + 4 * i + 3)) (b + 2) (c + 1 + 3 + 4 * i + 3) else k_MI_add (k_MI_add k (f + 2) (c + 76 + i)) (b + 2) (c + 76 + i) else if (v_PN_has k (c + 44) (nI i)) = 0 then k_MI_add (k_MI_add k (f + 2) (c + 1 + 3 + 4 * i + 3)) (b + 2) (c + 1 + 3 + 4 * i + 3) else k else if (fx_i k (c + 52) i) = 0 then if (v_PN_has k (c + 44) (nI i)) = 0 then k_MI_add (k_MI_add (k_MI_add (k_MI_add k (f + 2) (c + 76 + i)) (b + 2) (c + 76 + i)) (f + 2) (c + 1 + 3 + 4 * i + 3)) (b + 2) (c + 1 + 3 + 4 * i + 3) else k_MI_add (k_MI_add k (f + 2) (c + 76 + i)) (b + 2) (c + 76 + i) else if (v_PN_has k (c + 44) (nI i)) = 0 then k_MI_add (k_MI_add k (f + 2) (c + 1 + 3 + 4 * i + 3)) (b + 2) (c + 1 + 3 + 4 * i + 3) else k
theorem nc_cases (P : fx_H → Prop) {c d f b n : Nat} {k : fx_H} (h0 : P k) (h2 : ∀ k a, P k → P (k_MI_add (k_MI_add k (f + 2) a) (b + 2) a)) : P (b_CO_noteChanges c d f b n k) := by
  unfold b_CO_noteChanges
  repeat' split
  all_goals first | with_reducible exact h0 | with_reducible exact h2 _ _ h0 | with_reducible exact h2 _ _ (h2 _ _ h0)
theorem sm_b_CO_noteChanges (c d f b n : Nat) (k : fx_H) : fx_sm k (b_CO_noteChanges c d f b n k) :=
  nc_cases (fun k2 => fx_sm k k2) rfl (fun k2 a e => fx_sm_t e (fx_sm_t (sm_MI_add k2 (f + 2) a) (sm_MI_add _ (b + 2) a)))
theorem nc_step {h k : fx_H} {c d f b : Nat} (hlay : (f = c + 54 ∧ b = c + 65) ∨ (f = c + 65 ∧ b = c + 54)) (n : Nat) (hk : ncP h c f b k) : ncP h c f b (b_CO_noteChanges c d f b n k) :=
  nc_cases (fun k2 => ncP h c f b k2) hk (fun k2 a e => nc2 hlay e a)
theorem nc_it {h : fx_H} {c d f b : Nat} (hlay : (f = c + 54 ∧ b = c + 65) ∨ (f = c + 65 ∧ b = c + 54)) (hf : mOk h (f + 2)) (hb : mOk h (b + 2)) (n : Nat) : ncP h c f b (it (b_CO_noteChanges c d f b) h n) :=
  it_inv (fun _ k => ncP h c f b k) (b_CO_noteChanges c d f b) h ⟨hf, hb, fx_out_rf _ _ _⟩ n (fun m k _ hk => nc_step hlay m hk) n (Nat.le_refl _)
def k_CO_noteChanges (h : fx_H) (c d f b : Nat) : fx_H := (it (b_CO_noteChanges c d f b) h 10)
set_option maxRecDepth 100000 in
set_option maxHeartbeats 600000 in
theorem c_CO_noteChanges {g : fx_G} (ok : fx_ok g) (h : fx_H) (c d f b : Nat) (hC : isC h c f b) (hd : isD h d) (hdc : d + 88 ≤ c) (hf : mOk h (f + 2)) (hb : mOk h (b + 2)) (hcl : ∀ s, s < 10 → ¬ fx_i h (d + 45) s = -1 → vp_in (fx_i h (d + 45) s) 4) : fx_C g mq_CO_noteChanges [.ref c, .ref d] h (fx_is none (k_CO_noteChanges h c d f b)) 0 0 := by
  refine fx_body (by decide +kernel) (Nat.le_of_ble_eq_true rfl) ?_
  show fx_X g mq_CO_noteChanges 0 [(0, .ref c), (1, .ref d)] [] h _ 0 0
  have hlay := hC.2.2.2.2.2.2.2.2.2.2.2.2.2.2
  refine fx_iconst (v := 0) dq_CO_noteChanges_0 (by decide) ?_
  refine fx_istore_n dq_CO_noteChanges_1 rfl (by decide) rfl ?_
  refine fx_for (fun i => [(2, .int (nI i)), (0, .ref c), (1, .ref d)]) (b_CO_noteChanges c d f b) h 10 (fun i hi hK2 => ?_) ?_
  · have e2b : fx_sm h (it (b_CO_noteChanges c d f b) h i) := fx_sm_t (h' := h) (rfl : fx_sm h h) (fx_sm_it (sm_b_CO_noteChanges c d f b) h i)
    have hI := nc_it (d := d) hlay hf hb i
    generalize it (b_CO_noteChanges c d f b) h i = k at e2b hK2 hI ⊢
    refine fx_iload_n 0 dq_CO_noteChanges_2 rfl rfl ?_
    refine fx_bipush (v := 10) dq_CO_noteChanges_3 (by decide) ?_
    refine fx_icmp_ge (tgt := 147) dq_CO_noteChanges_5 (by decide) (fun hc5 => absurd hc5 (nI_ge (b := 10) hi (by decide))) (fun hc5 => ?_)
    refine fx_aload_n 1 dq_CO_noteChanges_8 rfl rfl ?_
    refine fx_getr ok fq_CO_21 ((fx_sm_s e2b _).trans hC.1) dq_CO_noteChanges_9 (by decide) ((fx_sm_r e2b _ _).trans hC.2.2.2.1) ?_
    refine fx_iload_n 0 dq_CO_noteChanges_12 rfl rfl ?_
    refine fx_Vi1 ok sq_CO_82 ((fx_sm_s e2b _).trans hC.2.2.2.2.1.1) (c_PN_has ok _ _ _ (by exact isN_sm e2b hC.2.2.2.2.1)) (by decide) (Nat.le_of_ble_eq_true rfl) dq_CO_noteChanges_13 ?_
    refine fx_istore_n dq_CO_noteChanges_16 rfl (by decide) rfl ?_
    refine fx_aload_n 3 dq_CO_noteChanges_17 rfl rfl ?_
    refine fx_iload_n 1 dq_CO_noteChanges_18 rfl rfl ?_
    refine fx_Vi1 ok sq_CO_99 ((fx_sm_s e2b _).trans hd.1) (c_DE_isWaiting ok _ d i (by exact isD_sm e2b hd) hi (by rw [hI.2.2.2 (d + 45) (by omega)]; exact hcl i hi)) (by decide) (Nat.le_of_ble_eq_true rfl) dq_CO_noteChanges_19 ?_
    refine fx_if_ne (tgt := 35) dq_CO_noteChanges_22 (by decide) (fun hc22 => ?_) (fun hc22 => ?_)
    · -- 22: jump
      refine fx_iconst (v := 1) dq_CO_noteChanges_35 (by decide) ?_
      refine fx_goto (tgt := 40) dq_CO_noteChanges_36 (by decide) ?_
      refine fx_istore dq_CO_noteChanges_40 (by decide) rfl ?_
      refine fx_iload 0 dq_CO_noteChanges_42 rfl ?_
      refine fx_if_eq (tgt := 88) dq_CO_noteChanges_44 (by decide) (fun hc44 => absurd hc44 (by decide)) (fun hc44 => ?_)
      refine fx_aload_n 3 dq_CO_noteChanges_47 rfl rfl ?_
      refine fx_getr ok fq_CO_25 ((fx_sm_s e2b _).trans hC.1) dq_CO_noteChanges_48 (by decide) ((fx_sm_r e2b _ _).trans hC.2.2.2.2.2.1) ?_
      refine fx_iload_n 2 dq_CO_noteChanges_51 rfl rfl ?_
      refine fx_baN ok ((fx_sm_s e2b _).trans hC.2.2.2.2.2.2.1) ⟨hi, by decide⟩ dq_CO_noteChanges_52 ?_
      refine fx_if_ne (tgt := 88) dq_CO_noteChanges_53 (by decide) (fun hc53 => ?_) (fun hc53 => ?_)
      · -- 53: jump
        refine fx_iload 0 dq_CO_noteChanges_88 rfl ?_
        refine fx_if_eq (tgt := 141) dq_CO_noteChanges_90 (by decide) (fun hc90 => absurd hc90 (by decide)) (fun hc90 => ?_)
        refine fx_iload_n 1 dq_CO_noteChanges_93 rfl rfl ?_
        refine fx_if_ne (tgt := 141) dq_CO_noteChanges_94 (by decide) (fun hc94 => ?_) (fun hc94 => ?_)
        · -- 94: jump
          refine fx_iinc 2 dq_CO_noteChanges_141 rfl (jz_i _) (by decide) rfl ?_
          refine fx_goto (tgt := 2) dq_CO_noteChanges_144 (by decide) ?_
          refine fx_sub [0, 3, 4] rfl ?_
          exact fx_eqh (by rw [b_CO_noteChanges, if_neg hc22, if_neg hc53, if_neg hc94]) hK2
        · -- 94: fall
          refine fx_aload_n 3 dq_CO_noteChanges_97 rfl rfl ?_
          refine fx_getr ok fq_CO_38 ((fx_sm_s e2b _).trans hC.1) dq_CO_noteChanges_98 (by decide) ((fx_sm_r e2b _ _).trans hC.2.2.2.2.2.2.2.2.2.1) ?_
          refine fx_getr ok fq_CO_102 ((fx_sm_s e2b _).trans hC.2.2.2.2.2.2.2.2.2.2.1.1) dq_CO_noteChanges_101 (by decide) ((fx_sm_r e2b _ _).trans hC.2.2.2.2.2.2.2.2.2.2.1.2.2.2.1) ?_
          refine fx_aload_n 3 dq_CO_noteChanges_104 rfl rfl ?_
          refine fx_getr ok fq_CO_12 ((fx_sm_s e2b _).trans hC.1) dq_CO_noteChanges_105 (by decide) ((fx_sm_r e2b _ _).trans hC.2.1) ?_
          refine fx_getr ok fq_CO_86 ((fx_sm_s e2b _).trans hC.2.2.1.1) dq_CO_noteChanges_108 (by decide) ((fx_sm_r e2b _ _).trans hC.2.2.1.2.1) ?_
          refine fx_iload_n 2 dq_CO_noteChanges_111 rfl rfl ?_
          refine fx_aaN ok ((fx_sm_s e2b _).trans hC.2.2.1.2.2.1) (by decide) rfl rfl ⟨hi, by decide⟩ ((fx_sm_r e2b _ _).trans (hC.2.2.1.2.2.2.2.2 i hi).1) dq_CO_noteChanges_112 ?_
          refine fx_getr ok fq_CO_90 ((fx_sm_s e2b _).trans (hC.2.2.1.2.2.2.2.2 i hi).2.1) dq_CO_noteChanges_113 (by decide) ((fx_sm_r e2b _ _).trans (hC.2.2.1.2.2.2.2.2 i hi).2.2.2.2.2.2.1) ?_
          have mo116 := out_MI_add k (f + 2) (c + 1 + 3 + 4 * i + 3) hI.1
          have mf116 := mOk_add k (f + 2) (c + 1 + 3 + 4 * i + 3) hI.1
          have mb116 := mOk_out mo116 (by omega) hI.2.1
          refine fx_Vv1 ok sq_CO_106 ((fx_sm_s e2b _).trans hC.2.2.2.2.2.2.2.2.2.2.1.2.2.2.2.1) (c_MI_add ok _ _ _ (by exact isI_sm e2b hC.2.2.2.2.2.2.2.2.2.2.1.2.2.2.2) (by exact (fx_sm_s e2b _).trans (hC.2.2.1.2.2.2.2.2 i hi).2.2.2.2.2.2.2) (by exact hI.1)) (by decide) (Nat.le_of_ble_eq_true rfl) dq_CO_noteChanges_116 ?_
          have e116 : fx_sm h (k_MI_add k (f + 2) (c + 1 + 3 + 4 * i + 3)) := fx_sm_t (h' := k) e2b (sm_MI_add k (f + 2) (c + 1 + 3 + 4 * i + 3))
          refine fx_aload_n 3 dq_CO_noteChanges_119 rfl rfl ?_
          refine fx_getr ok fq_CO_42 ((fx_sm_s e116 _).trans hC.1) dq_CO_noteChanges_120 (by decide) ((fx_sm_r e116 _ _).trans hC.2.2.2.2.2.2.2.2.2.2.2.1) ?_
          refine fx_getr ok fq_CO_102 ((fx_sm_s e116 _).trans hC.2.2.2.2.2.2.2.2.2.2.2.2.1.1) dq_CO_noteChanges_123 (by decide) ((fx_sm_r e116 _ _).trans hC.2.2.2.2.2.2.2.2.2.2.2.2.1.2.2.2.1) ?_
          refine fx_aload_n 3 dq_CO_noteChanges_126 rfl rfl ?_
          refine fx_getr ok fq_CO_12 ((fx_sm_s e116 _).trans hC.1) dq_CO_noteChanges_127 (by decide) ((fx_sm_r e116 _ _).trans hC.2.1) ?_
          refine fx_getr ok fq_CO_86 ((fx_sm_s e116 _).trans hC.2.2.1.1) dq_CO_noteChanges_130 (by decide) ((fx_sm_r e116 _ _).trans hC.2.2.1.2.1) ?_
          refine fx_iload_n 2 dq_CO_noteChanges_133 rfl rfl ?_
          refine fx_aaN ok ((fx_sm_s e116 _).trans hC.2.2.1.2.2.1) (by decide) rfl rfl ⟨hi, by decide⟩ ((fx_sm_r e116 _ _).trans (hC.2.2.1.2.2.2.2.2 i hi).1) dq_CO_noteChanges_134 ?_
          refine fx_getr ok fq_CO_90 ((fx_sm_s e116 _).trans (hC.2.2.1.2.2.2.2.2 i hi).2.1) dq_CO_noteChanges_135 (by decide) ((fx_sm_r e116 _ _).trans (hC.2.2.1.2.2.2.2.2 i hi).2.2.2.2.2.2.1) ?_
          have mo138 := out_MI_add (k_MI_add k (f + 2) (c + 1 + 3 + 4 * i + 3)) (b + 2) (c + 1 + 3 + 4 * i + 3) mb116
          have mb138 := mOk_add (k_MI_add k (f + 2) (c + 1 + 3 + 4 * i + 3)) (b + 2) (c + 1 + 3 + 4 * i + 3) mb116
          have mf138 := mOk_out mo138 (by omega) mf116
          refine fx_Vv1 ok sq_CO_106 ((fx_sm_s e116 _).trans hC.2.2.2.2.2.2.2.2.2.2.2.2.1.2.2.2.2.1) (c_MI_add ok _ _ _ (by exact isI_sm e116 hC.2.2.2.2.2.2.2.2.2.2.2.2.1.2.2.2.2) (by exact (fx_sm_s e116 _).trans (hC.2.2.1.2.2.2.2.2 i hi).2.2.2.2.2.2.2) (by exact mb116)) (by decide) (Nat.le_of_ble_eq_true rfl) dq_CO_noteChanges_138 ?_
          have e138 : fx_sm h (k_MI_add (k_MI_add k (f + 2) (c + 1 + 3 + 4 * i + 3)) (b + 2) (c + 1 + 3 + 4 * i + 3)) := fx_sm_t (h' := (k_MI_add k (f + 2) (c + 1 + 3 + 4 * i + 3))) e116 (sm_MI_add (k_MI_add k (f + 2) (c + 1 + 3 + 4 * i + 3)) (b + 2) (c + 1 + 3 + 4 * i + 3))
          refine fx_iinc 2 dq_CO_noteChanges_141 rfl (jz_i _) (by decide) rfl ?_
          refine fx_goto (tgt := 2) dq_CO_noteChanges_144 (by decide) ?_
          refine fx_sub [0, 3, 4] rfl ?_
          exact fx_eqh (by rw [b_CO_noteChanges, if_neg hc22, if_neg hc53, if_pos hc94]) hK2
      · -- 53: fall
        refine fx_aload_n 3 dq_CO_noteChanges_56 rfl rfl ?_
        refine fx_getr ok fq_CO_38 ((fx_sm_s e2b _).trans hC.1) dq_CO_noteChanges_57 (by decide) ((fx_sm_r e2b _ _).trans hC.2.2.2.2.2.2.2.2.2.1) ?_
        refine fx_getr ok fq_CO_102 ((fx_sm_s e2b _).trans hC.2.2.2.2.2.2.2.2.2.2.1.1) dq_CO_noteChanges_60 (by decide) ((fx_sm_r e2b _ _).trans hC.2.2.2.2.2.2.2.2.2.2.1.2.2.2.1) ?_
        refine fx_aload_n 3 dq_CO_noteChanges_63 rfl rfl ?_
        refine fx_getr ok fq_CO_31 ((fx_sm_s e2b _).trans hC.1) dq_CO_noteChanges_64 (by decide) ((fx_sm_r e2b _ _).trans hC.2.2.2.2.2.2.2.1) ?_
        refine fx_iload_n 2 dq_CO_noteChanges_67 rfl rfl ?_
        refine fx_aaN ok ((fx_sm_s e2b _).trans hC.2.2.2.2.2.2.2.2.1) (by decide) rfl rfl ⟨hi, by decide⟩ ((fx_sm_r e2b _ _).trans (hC.2.2.2.2.2.2.2.2.2.2.2.2.2.1 i hi).1) dq_CO_noteChanges_68 ?_
        have mo69 := out_MI_add k (f + 2) (c + 76 + i) hI.1
        have mf69 := mOk_add k (f + 2) (c + 76 + i) hI.1
        have mb69 := mOk_out mo69 (by omega) hI.2.1
        refine fx_Vv1 ok sq_CO_106 ((fx_sm_s e2b _).trans hC.2.2.2.2.2.2.2.2.2.2.1.2.2.2.2.1) (c_MI_add ok _ _ _ (by exact isI_sm e2b hC.2.2.2.2.2.2.2.2.2.2.1.2.2.2.2) (by exact (fx_sm_s e2b _).trans (hC.2.2.2.2.2.2.2.2.2.2.2.2.2.1 i hi).2) (by exact hI.1)) (by decide) (Nat.le_of_ble_eq_true rfl) dq_CO_noteChanges_69 ?_
        have e69 : fx_sm h (k_MI_add k (f + 2) (c + 76 + i)) := fx_sm_t (h' := k) e2b (sm_MI_add k (f + 2) (c + 76 + i))
        refine fx_aload_n 3 dq_CO_noteChanges_72 rfl rfl ?_
        refine fx_getr ok fq_CO_42 ((fx_sm_s e69 _).trans hC.1) dq_CO_noteChanges_73 (by decide) ((fx_sm_r e69 _ _).trans hC.2.2.2.2.2.2.2.2.2.2.2.1) ?_
        refine fx_getr ok fq_CO_102 ((fx_sm_s e69 _).trans hC.2.2.2.2.2.2.2.2.2.2.2.2.1.1) dq_CO_noteChanges_76 (by decide) ((fx_sm_r e69 _ _).trans hC.2.2.2.2.2.2.2.2.2.2.2.2.1.2.2.2.1) ?_
        refine fx_aload_n 3 dq_CO_noteChanges_79 rfl rfl ?_
        refine fx_getr ok fq_CO_31 ((fx_sm_s e69 _).trans hC.1) dq_CO_noteChanges_80 (by decide) ((fx_sm_r e69 _ _).trans hC.2.2.2.2.2.2.2.1) ?_
        refine fx_iload_n 2 dq_CO_noteChanges_83 rfl rfl ?_
        refine fx_aaN ok ((fx_sm_s e69 _).trans hC.2.2.2.2.2.2.2.2.1) (by decide) rfl rfl ⟨hi, by decide⟩ ((fx_sm_r e69 _ _).trans (hC.2.2.2.2.2.2.2.2.2.2.2.2.2.1 i hi).1) dq_CO_noteChanges_84 ?_
        have mo85 := out_MI_add (k_MI_add k (f + 2) (c + 76 + i)) (b + 2) (c + 76 + i) mb69
        have mb85 := mOk_add (k_MI_add k (f + 2) (c + 76 + i)) (b + 2) (c + 76 + i) mb69
        have mf85 := mOk_out mo85 (by omega) mf69
        refine fx_Vv1 ok sq_CO_106 ((fx_sm_s e69 _).trans hC.2.2.2.2.2.2.2.2.2.2.2.2.1.2.2.2.2.1) (c_MI_add ok _ _ _ (by exact isI_sm e69 hC.2.2.2.2.2.2.2.2.2.2.2.2.1.2.2.2.2) (by exact (fx_sm_s e69 _).trans (hC.2.2.2.2.2.2.2.2.2.2.2.2.2.1 i hi).2) (by exact mb69)) (by decide) (Nat.le_of_ble_eq_true rfl) dq_CO_noteChanges_85 ?_
        have e85 : fx_sm h (k_MI_add (k_MI_add k (f + 2) (c + 76 + i)) (b + 2) (c + 76 + i)) := fx_sm_t (h' := (k_MI_add k (f + 2) (c + 76 + i))) e69 (sm_MI_add (k_MI_add k (f + 2) (c + 76 + i)) (b + 2) (c + 76 + i))
        refine fx_iload 0 dq_CO_noteChanges_88 rfl ?_
        refine fx_if_eq (tgt := 141) dq_CO_noteChanges_90 (by decide) (fun hc90 => absurd hc90 (by decide)) (fun hc90 => ?_)
        refine fx_iload_n 1 dq_CO_noteChanges_93 rfl rfl ?_
        refine fx_if_ne (tgt := 141) dq_CO_noteChanges_94 (by decide) (fun hc94 => ?_) (fun hc94 => ?_)
        · -- 94: jump
          refine fx_iinc 2 dq_CO_noteChanges_141 rfl (jz_i _) (by decide) rfl ?_
          refine fx_goto (tgt := 2) dq_CO_noteChanges_144 (by decide) ?_
          refine fx_sub [0, 3, 4] rfl ?_
          exact fx_eqh (by rw [b_CO_noteChanges, if_neg hc22, if_pos hc53, if_neg hc94]) hK2
        · -- 94: fall
          refine fx_aload_n 3 dq_CO_noteChanges_97 rfl rfl ?_
          refine fx_getr ok fq_CO_38 ((fx_sm_s e85 _).trans hC.1) dq_CO_noteChanges_98 (by decide) ((fx_sm_r e85 _ _).trans hC.2.2.2.2.2.2.2.2.2.1) ?_
          refine fx_getr ok fq_CO_102 ((fx_sm_s e85 _).trans hC.2.2.2.2.2.2.2.2.2.2.1.1) dq_CO_noteChanges_101 (by decide) ((fx_sm_r e85 _ _).trans hC.2.2.2.2.2.2.2.2.2.2.1.2.2.2.1) ?_
          refine fx_aload_n 3 dq_CO_noteChanges_104 rfl rfl ?_
          refine fx_getr ok fq_CO_12 ((fx_sm_s e85 _).trans hC.1) dq_CO_noteChanges_105 (by decide) ((fx_sm_r e85 _ _).trans hC.2.1) ?_
          refine fx_getr ok fq_CO_86 ((fx_sm_s e85 _).trans hC.2.2.1.1) dq_CO_noteChanges_108 (by decide) ((fx_sm_r e85 _ _).trans hC.2.2.1.2.1) ?_
          refine fx_iload_n 2 dq_CO_noteChanges_111 rfl rfl ?_
          refine fx_aaN ok ((fx_sm_s e85 _).trans hC.2.2.1.2.2.1) (by decide) rfl rfl ⟨hi, by decide⟩ ((fx_sm_r e85 _ _).trans (hC.2.2.1.2.2.2.2.2 i hi).1) dq_CO_noteChanges_112 ?_
          refine fx_getr ok fq_CO_90 ((fx_sm_s e85 _).trans (hC.2.2.1.2.2.2.2.2 i hi).2.1) dq_CO_noteChanges_113 (by decide) ((fx_sm_r e85 _ _).trans (hC.2.2.1.2.2.2.2.2 i hi).2.2.2.2.2.2.1) ?_
          have mo116 := out_MI_add (k_MI_add (k_MI_add k (f + 2) (c + 76 + i)) (b + 2) (c + 76 + i)) (f + 2) (c + 1 + 3 + 4 * i + 3) mf85
          have mf116 := mOk_add (k_MI_add (k_MI_add k (f + 2) (c + 76 + i)) (b + 2) (c + 76 + i)) (f + 2) (c + 1 + 3 + 4 * i + 3) mf85
          have mb116 := mOk_out mo116 (by omega) mb85
          refine fx_Vv1 ok sq_CO_106 ((fx_sm_s e85 _).trans hC.2.2.2.2.2.2.2.2.2.2.1.2.2.2.2.1) (c_MI_add ok _ _ _ (by exact isI_sm e85 hC.2.2.2.2.2.2.2.2.2.2.1.2.2.2.2) (by exact (fx_sm_s e85 _).trans (hC.2.2.1.2.2.2.2.2 i hi).2.2.2.2.2.2.2) (by exact mf85)) (by decide) (Nat.le_of_ble_eq_true rfl) dq_CO_noteChanges_116 ?_
          have e116 : fx_sm h (k_MI_add (k_MI_add (k_MI_add k (f + 2) (c + 76 + i)) (b + 2) (c + 76 + i)) (f + 2) (c + 1 + 3 + 4 * i + 3)) := fx_sm_t (h' := (k_MI_add (k_MI_add k (f + 2) (c + 76 + i)) (b + 2) (c + 76 + i))) e85 (sm_MI_add (k_MI_add (k_MI_add k (f + 2) (c + 76 + i)) (b + 2) (c + 76 + i)) (f + 2) (c + 1 + 3 + 4 * i + 3))
          refine fx_aload_n 3 dq_CO_noteChanges_119 rfl rfl ?_
          refine fx_getr ok fq_CO_42 ((fx_sm_s e116 _).trans hC.1) dq_CO_noteChanges_120 (by decide) ((fx_sm_r e116 _ _).trans hC.2.2.2.2.2.2.2.2.2.2.2.1) ?_
          refine fx_getr ok fq_CO_102 ((fx_sm_s e116 _).trans hC.2.2.2.2.2.2.2.2.2.2.2.2.1.1) dq_CO_noteChanges_123 (by decide) ((fx_sm_r e116 _ _).trans hC.2.2.2.2.2.2.2.2.2.2.2.2.1.2.2.2.1) ?_
          refine fx_aload_n 3 dq_CO_noteChanges_126 rfl rfl ?_
          refine fx_getr ok fq_CO_12 ((fx_sm_s e116 _).trans hC.1) dq_CO_noteChanges_127 (by decide) ((fx_sm_r e116 _ _).trans hC.2.1) ?_
          refine fx_getr ok fq_CO_86 ((fx_sm_s e116 _).trans hC.2.2.1.1) dq_CO_noteChanges_130 (by decide) ((fx_sm_r e116 _ _).trans hC.2.2.1.2.1) ?_
          refine fx_iload_n 2 dq_CO_noteChanges_133 rfl rfl ?_
          refine fx_aaN ok ((fx_sm_s e116 _).trans hC.2.2.1.2.2.1) (by decide) rfl rfl ⟨hi, by decide⟩ ((fx_sm_r e116 _ _).trans (hC.2.2.1.2.2.2.2.2 i hi).1) dq_CO_noteChanges_134 ?_
          refine fx_getr ok fq_CO_90 ((fx_sm_s e116 _).trans (hC.2.2.1.2.2.2.2.2 i hi).2.1) dq_CO_noteChanges_135 (by decide) ((fx_sm_r e116 _ _).trans (hC.2.2.1.2.2.2.2.2 i hi).2.2.2.2.2.2.1) ?_
          have mo138 := out_MI_add (k_MI_add (k_MI_add (k_MI_add k (f + 2) (c + 76 + i)) (b + 2) (c + 76 + i)) (f + 2) (c + 1 + 3 + 4 * i + 3)) (b + 2) (c + 1 + 3 + 4 * i + 3) mb116
          have mb138 := mOk_add (k_MI_add (k_MI_add (k_MI_add k (f + 2) (c + 76 + i)) (b + 2) (c + 76 + i)) (f + 2) (c + 1 + 3 + 4 * i + 3)) (b + 2) (c + 1 + 3 + 4 * i + 3) mb116
          have mf138 := mOk_out mo138 (by omega) mf116
          refine fx_Vv1 ok sq_CO_106 ((fx_sm_s e116 _).trans hC.2.2.2.2.2.2.2.2.2.2.2.2.1.2.2.2.2.1) (c_MI_add ok _ _ _ (by exact isI_sm e116 hC.2.2.2.2.2.2.2.2.2.2.2.2.1.2.2.2.2) (by exact (fx_sm_s e116 _).trans (hC.2.2.1.2.2.2.2.2 i hi).2.2.2.2.2.2.2) (by exact mb116)) (by decide) (Nat.le_of_ble_eq_true rfl) dq_CO_noteChanges_138 ?_
          have e138 : fx_sm h (k_MI_add (k_MI_add (k_MI_add (k_MI_add k (f + 2) (c + 76 + i)) (b + 2) (c + 76 + i)) (f + 2) (c + 1 + 3 + 4 * i + 3)) (b + 2) (c + 1 + 3 + 4 * i + 3)) := fx_sm_t (h' := (k_MI_add (k_MI_add (k_MI_add k (f + 2) (c + 76 + i)) (b + 2) (c + 76 + i)) (f + 2) (c + 1 + 3 + 4 * i + 3))) e116 (sm_MI_add (k_MI_add (k_MI_add (k_MI_add k (f + 2) (c + 76 + i)) (b + 2) (c + 76 + i)) (f + 2) (c + 1 + 3 + 4 * i + 3)) (b + 2) (c + 1 + 3 + 4 * i + 3))
          refine fx_iinc 2 dq_CO_noteChanges_141 rfl (jz_i _) (by decide) rfl ?_
          refine fx_goto (tgt := 2) dq_CO_noteChanges_144 (by decide) ?_
          refine fx_sub [0, 3, 4] rfl ?_
          exact fx_eqh (by rw [b_CO_noteChanges, if_neg hc22, if_pos hc53, if_pos hc94]) hK2
    · -- 22: fall
      refine fx_iload_n 0 dq_CO_noteChanges_25 rfl rfl ?_
      refine fx_aload_n 2 dq_CO_noteChanges_26 rfl rfl ?_
      refine fx_getr ok fq_CO_25 ((fx_sm_s e2b _).trans hC.1) dq_CO_noteChanges_27 (by decide) ((fx_sm_r e2b _ _).trans hC.2.2.2.2.2.1) ?_
      refine fx_iload_n 1 dq_CO_noteChanges_30 rfl rfl ?_
      refine fx_baN ok ((fx_sm_s e2b _).trans hC.2.2.2.2.2.2.1) ⟨hi, by decide⟩ dq_CO_noteChanges_31 ?_
      refine fx_icmp_eq (tgt := 39) dq_CO_noteChanges_32 (by decide) (fun hc32 => ?_) (fun hc32 => ?_)
      · -- 32: jump
        refine fx_iconst (v := 0) dq_CO_noteChanges_39 (by decide) ?_
        refine fx_istore dq_CO_noteChanges_40 (by decide) rfl ?_
        refine fx_iload 0 dq_CO_noteChanges_42 rfl ?_
        refine fx_if_eq (tgt := 88) dq_CO_noteChanges_44 (by decide) (fun hc44 => ?_) (fun hc44 => absurd (by decide) hc44)
        refine fx_iload 0 dq_CO_noteChanges_88 rfl ?_
        refine fx_if_eq (tgt := 141) dq_CO_noteChanges_90 (by decide) (fun hc90 => ?_) (fun hc90 => absurd (by decide) hc90)
        refine fx_iinc 2 dq_CO_noteChanges_141 rfl (jz_i _) (by decide) rfl ?_
        refine fx_goto (tgt := 2) dq_CO_noteChanges_144 (by decide) ?_
        refine fx_sub [0, 3, 4] rfl ?_
        exact fx_eqh (by rw [b_CO_noteChanges, if_pos hc22, if_pos hc32]) hK2
      · -- 32: fall
        refine fx_iconst (v := 1) dq_CO_noteChanges_35 (by decide) ?_
        refine fx_goto (tgt := 40) dq_CO_noteChanges_36 (by decide) ?_
        refine fx_istore dq_CO_noteChanges_40 (by decide) rfl ?_
        refine fx_iload 0 dq_CO_noteChanges_42 rfl ?_
        refine fx_if_eq (tgt := 88) dq_CO_noteChanges_44 (by decide) (fun hc44 => absurd hc44 (by decide)) (fun hc44 => ?_)
        refine fx_aload_n 3 dq_CO_noteChanges_47 rfl rfl ?_
        refine fx_getr ok fq_CO_25 ((fx_sm_s e2b _).trans hC.1) dq_CO_noteChanges_48 (by decide) ((fx_sm_r e2b _ _).trans hC.2.2.2.2.2.1) ?_
        refine fx_iload_n 2 dq_CO_noteChanges_51 rfl rfl ?_
        refine fx_baN ok ((fx_sm_s e2b _).trans hC.2.2.2.2.2.2.1) ⟨hi, by decide⟩ dq_CO_noteChanges_52 ?_
        refine fx_if_ne (tgt := 88) dq_CO_noteChanges_53 (by decide) (fun hc53 => ?_) (fun hc53 => ?_)
        · -- 53: jump
          refine fx_iload 0 dq_CO_noteChanges_88 rfl ?_
          refine fx_if_eq (tgt := 141) dq_CO_noteChanges_90 (by decide) (fun hc90 => absurd hc90 (by decide)) (fun hc90 => ?_)
          refine fx_iload_n 1 dq_CO_noteChanges_93 rfl rfl ?_
          refine fx_if_ne (tgt := 141) dq_CO_noteChanges_94 (by decide) (fun hc94 => ?_) (fun hc94 => ?_)
          · -- 94: jump
            refine fx_iinc 2 dq_CO_noteChanges_141 rfl (jz_i _) (by decide) rfl ?_
            refine fx_goto (tgt := 2) dq_CO_noteChanges_144 (by decide) ?_
            refine fx_sub [0, 3, 4] rfl ?_
            exact fx_eqh (by rw [b_CO_noteChanges, if_pos hc22, if_neg hc32, if_neg hc53, if_neg hc94]) hK2
          · -- 94: fall
            refine fx_aload_n 3 dq_CO_noteChanges_97 rfl rfl ?_
            refine fx_getr ok fq_CO_38 ((fx_sm_s e2b _).trans hC.1) dq_CO_noteChanges_98 (by decide) ((fx_sm_r e2b _ _).trans hC.2.2.2.2.2.2.2.2.2.1) ?_
            refine fx_getr ok fq_CO_102 ((fx_sm_s e2b _).trans hC.2.2.2.2.2.2.2.2.2.2.1.1) dq_CO_noteChanges_101 (by decide) ((fx_sm_r e2b _ _).trans hC.2.2.2.2.2.2.2.2.2.2.1.2.2.2.1) ?_
            refine fx_aload_n 3 dq_CO_noteChanges_104 rfl rfl ?_
            refine fx_getr ok fq_CO_12 ((fx_sm_s e2b _).trans hC.1) dq_CO_noteChanges_105 (by decide) ((fx_sm_r e2b _ _).trans hC.2.1) ?_
            refine fx_getr ok fq_CO_86 ((fx_sm_s e2b _).trans hC.2.2.1.1) dq_CO_noteChanges_108 (by decide) ((fx_sm_r e2b _ _).trans hC.2.2.1.2.1) ?_
            refine fx_iload_n 2 dq_CO_noteChanges_111 rfl rfl ?_
            refine fx_aaN ok ((fx_sm_s e2b _).trans hC.2.2.1.2.2.1) (by decide) rfl rfl ⟨hi, by decide⟩ ((fx_sm_r e2b _ _).trans (hC.2.2.1.2.2.2.2.2 i hi).1) dq_CO_noteChanges_112 ?_
            refine fx_getr ok fq_CO_90 ((fx_sm_s e2b _).trans (hC.2.2.1.2.2.2.2.2 i hi).2.1) dq_CO_noteChanges_113 (by decide) ((fx_sm_r e2b _ _).trans (hC.2.2.1.2.2.2.2.2 i hi).2.2.2.2.2.2.1) ?_
            have mo116 := out_MI_add k (f + 2) (c + 1 + 3 + 4 * i + 3) hI.1
            have mf116 := mOk_add k (f + 2) (c + 1 + 3 + 4 * i + 3) hI.1
            have mb116 := mOk_out mo116 (by omega) hI.2.1
            refine fx_Vv1 ok sq_CO_106 ((fx_sm_s e2b _).trans hC.2.2.2.2.2.2.2.2.2.2.1.2.2.2.2.1) (c_MI_add ok _ _ _ (by exact isI_sm e2b hC.2.2.2.2.2.2.2.2.2.2.1.2.2.2.2) (by exact (fx_sm_s e2b _).trans (hC.2.2.1.2.2.2.2.2 i hi).2.2.2.2.2.2.2) (by exact hI.1)) (by decide) (Nat.le_of_ble_eq_true rfl) dq_CO_noteChanges_116 ?_
            have e116 : fx_sm h (k_MI_add k (f + 2) (c + 1 + 3 + 4 * i + 3)) := fx_sm_t (h' := k) e2b (sm_MI_add k (f + 2) (c + 1 + 3 + 4 * i + 3))
            refine fx_aload_n 3 dq_CO_noteChanges_119 rfl rfl ?_
            refine fx_getr ok fq_CO_42 ((fx_sm_s e116 _).trans hC.1) dq_CO_noteChanges_120 (by decide) ((fx_sm_r e116 _ _).trans hC.2.2.2.2.2.2.2.2.2.2.2.1) ?_
            refine fx_getr ok fq_CO_102 ((fx_sm_s e116 _).trans hC.2.2.2.2.2.2.2.2.2.2.2.2.1.1) dq_CO_noteChanges_123 (by decide) ((fx_sm_r e116 _ _).trans hC.2.2.2.2.2.2.2.2.2.2.2.2.1.2.2.2.1) ?_
            refine fx_aload_n 3 dq_CO_noteChanges_126 rfl rfl ?_
            refine fx_getr ok fq_CO_12 ((fx_sm_s e116 _).trans hC.1) dq_CO_noteChanges_127 (by decide) ((fx_sm_r e116 _ _).trans hC.2.1) ?_
            refine fx_getr ok fq_CO_86 ((fx_sm_s e116 _).trans hC.2.2.1.1) dq_CO_noteChanges_130 (by decide) ((fx_sm_r e116 _ _).trans hC.2.2.1.2.1) ?_
            refine fx_iload_n 2 dq_CO_noteChanges_133 rfl rfl ?_
            refine fx_aaN ok ((fx_sm_s e116 _).trans hC.2.2.1.2.2.1) (by decide) rfl rfl ⟨hi, by decide⟩ ((fx_sm_r e116 _ _).trans (hC.2.2.1.2.2.2.2.2 i hi).1) dq_CO_noteChanges_134 ?_
            refine fx_getr ok fq_CO_90 ((fx_sm_s e116 _).trans (hC.2.2.1.2.2.2.2.2 i hi).2.1) dq_CO_noteChanges_135 (by decide) ((fx_sm_r e116 _ _).trans (hC.2.2.1.2.2.2.2.2 i hi).2.2.2.2.2.2.1) ?_
            have mo138 := out_MI_add (k_MI_add k (f + 2) (c + 1 + 3 + 4 * i + 3)) (b + 2) (c + 1 + 3 + 4 * i + 3) mb116
            have mb138 := mOk_add (k_MI_add k (f + 2) (c + 1 + 3 + 4 * i + 3)) (b + 2) (c + 1 + 3 + 4 * i + 3) mb116
            have mf138 := mOk_out mo138 (by omega) mf116
            refine fx_Vv1 ok sq_CO_106 ((fx_sm_s e116 _).trans hC.2.2.2.2.2.2.2.2.2.2.2.2.1.2.2.2.2.1) (c_MI_add ok _ _ _ (by exact isI_sm e116 hC.2.2.2.2.2.2.2.2.2.2.2.2.1.2.2.2.2) (by exact (fx_sm_s e116 _).trans (hC.2.2.1.2.2.2.2.2 i hi).2.2.2.2.2.2.2) (by exact mb116)) (by decide) (Nat.le_of_ble_eq_true rfl) dq_CO_noteChanges_138 ?_
            have e138 : fx_sm h (k_MI_add (k_MI_add k (f + 2) (c + 1 + 3 + 4 * i + 3)) (b + 2) (c + 1 + 3 + 4 * i + 3)) := fx_sm_t (h' := (k_MI_add k (f + 2) (c + 1 + 3 + 4 * i + 3))) e116 (sm_MI_add (k_MI_add k (f + 2) (c + 1 + 3 + 4 * i + 3)) (b + 2) (c + 1 + 3 + 4 * i + 3))
            refine fx_iinc 2 dq_CO_noteChanges_141 rfl (jz_i _) (by decide) rfl ?_
            refine fx_goto (tgt := 2) dq_CO_noteChanges_144 (by decide) ?_
            refine fx_sub [0, 3, 4] rfl ?_
            exact fx_eqh (by rw [b_CO_noteChanges, if_pos hc22, if_neg hc32, if_neg hc53, if_pos hc94]) hK2
        · -- 53: fall
          refine fx_aload_n 3 dq_CO_noteChanges_56 rfl rfl ?_
          refine fx_getr ok fq_CO_38 ((fx_sm_s e2b _).trans hC.1) dq_CO_noteChanges_57 (by decide) ((fx_sm_r e2b _ _).trans hC.2.2.2.2.2.2.2.2.2.1) ?_
          refine fx_getr ok fq_CO_102 ((fx_sm_s e2b _).trans hC.2.2.2.2.2.2.2.2.2.2.1.1) dq_CO_noteChanges_60 (by decide) ((fx_sm_r e2b _ _).trans hC.2.2.2.2.2.2.2.2.2.2.1.2.2.2.1) ?_
          refine fx_aload_n 3 dq_CO_noteChanges_63 rfl rfl ?_
          refine fx_getr ok fq_CO_31 ((fx_sm_s e2b _).trans hC.1) dq_CO_noteChanges_64 (by decide) ((fx_sm_r e2b _ _).trans hC.2.2.2.2.2.2.2.1) ?_
          refine fx_iload_n 2 dq_CO_noteChanges_67 rfl rfl ?_
          refine fx_aaN ok ((fx_sm_s e2b _).trans hC.2.2.2.2.2.2.2.2.1) (by decide) rfl rfl ⟨hi, by decide⟩ ((fx_sm_r e2b _ _).trans (hC.2.2.2.2.2.2.2.2.2.2.2.2.2.1 i hi).1) dq_CO_noteChanges_68 ?_
          have mo69 := out_MI_add k (f + 2) (c + 76 + i) hI.1
          have mf69 := mOk_add k (f + 2) (c + 76 + i) hI.1
          have mb69 := mOk_out mo69 (by omega) hI.2.1
          refine fx_Vv1 ok sq_CO_106 ((fx_sm_s e2b _).trans hC.2.2.2.2.2.2.2.2.2.2.1.2.2.2.2.1) (c_MI_add ok _ _ _ (by exact isI_sm e2b hC.2.2.2.2.2.2.2.2.2.2.1.2.2.2.2) (by exact (fx_sm_s e2b _).trans (hC.2.2.2.2.2.2.2.2.2.2.2.2.2.1 i hi).2) (by exact hI.1)) (by decide) (Nat.le_of_ble_eq_true rfl) dq_CO_noteChanges_69 ?_
          have e69 : fx_sm h (k_MI_add k (f + 2) (c + 76 + i)) := fx_sm_t (h' := k) e2b (sm_MI_add k (f + 2) (c + 76 + i))
          refine fx_aload_n 3 dq_CO_noteChanges_72 rfl rfl ?_
          refine fx_getr ok fq_CO_42 ((fx_sm_s e69 _).trans hC.1) dq_CO_noteChanges_73 (by decide) ((fx_sm_r e69 _ _).trans hC.2.2.2.2.2.2.2.2.2.2.2.1) ?_
          refine fx_getr ok fq_CO_102 ((fx_sm_s e69 _).trans hC.2.2.2.2.2.2.2.2.2.2.2.2.1.1) dq_CO_noteChanges_76 (by decide) ((fx_sm_r e69 _ _).trans hC.2.2.2.2.2.2.2.2.2.2.2.2.1.2.2.2.1) ?_
          refine fx_aload_n 3 dq_CO_noteChanges_79 rfl rfl ?_
          refine fx_getr ok fq_CO_31 ((fx_sm_s e69 _).trans hC.1) dq_CO_noteChanges_80 (by decide) ((fx_sm_r e69 _ _).trans hC.2.2.2.2.2.2.2.1) ?_
          refine fx_iload_n 2 dq_CO_noteChanges_83 rfl rfl ?_
          refine fx_aaN ok ((fx_sm_s e69 _).trans hC.2.2.2.2.2.2.2.2.1) (by decide) rfl rfl ⟨hi, by decide⟩ ((fx_sm_r e69 _ _).trans (hC.2.2.2.2.2.2.2.2.2.2.2.2.2.1 i hi).1) dq_CO_noteChanges_84 ?_
          have mo85 := out_MI_add (k_MI_add k (f + 2) (c + 76 + i)) (b + 2) (c + 76 + i) mb69
          have mb85 := mOk_add (k_MI_add k (f + 2) (c + 76 + i)) (b + 2) (c + 76 + i) mb69
          have mf85 := mOk_out mo85 (by omega) mf69
          refine fx_Vv1 ok sq_CO_106 ((fx_sm_s e69 _).trans hC.2.2.2.2.2.2.2.2.2.2.2.2.1.2.2.2.2.1) (c_MI_add ok _ _ _ (by exact isI_sm e69 hC.2.2.2.2.2.2.2.2.2.2.2.2.1.2.2.2.2) (by exact (fx_sm_s e69 _).trans (hC.2.2.2.2.2.2.2.2.2.2.2.2.2.1 i hi).2) (by exact mb69)) (by decide) (Nat.le_of_ble_eq_true rfl) dq_CO_noteChanges_85 ?_
          have e85 : fx_sm h (k_MI_add (k_MI_add k (f + 2) (c + 76 + i)) (b + 2) (c + 76 + i)) := fx_sm_t (h' := (k_MI_add k (f + 2) (c + 76 + i))) e69 (sm_MI_add (k_MI_add k (f + 2) (c + 76 + i)) (b + 2) (c + 76 + i))
          refine fx_iload 0 dq_CO_noteChanges_88 rfl ?_
          refine fx_if_eq (tgt := 141) dq_CO_noteChanges_90 (by decide) (fun hc90 => absurd hc90 (by decide)) (fun hc90 => ?_)
          refine fx_iload_n 1 dq_CO_noteChanges_93 rfl rfl ?_
          refine fx_if_ne (tgt := 141) dq_CO_noteChanges_94 (by decide) (fun hc94 => ?_) (fun hc94 => ?_)
          · -- 94: jump
            refine fx_iinc 2 dq_CO_noteChanges_141 rfl (jz_i _) (by decide) rfl ?_
            refine fx_goto (tgt := 2) dq_CO_noteChanges_144 (by decide) ?_
            refine fx_sub [0, 3, 4] rfl ?_
            exact fx_eqh (by rw [b_CO_noteChanges, if_pos hc22, if_neg hc32, if_pos hc53, if_neg hc94]) hK2
          · -- 94: fall
            refine fx_aload_n 3 dq_CO_noteChanges_97 rfl rfl ?_
            refine fx_getr ok fq_CO_38 ((fx_sm_s e85 _).trans hC.1) dq_CO_noteChanges_98 (by decide) ((fx_sm_r e85 _ _).trans hC.2.2.2.2.2.2.2.2.2.1) ?_
            refine fx_getr ok fq_CO_102 ((fx_sm_s e85 _).trans hC.2.2.2.2.2.2.2.2.2.2.1.1) dq_CO_noteChanges_101 (by decide) ((fx_sm_r e85 _ _).trans hC.2.2.2.2.2.2.2.2.2.2.1.2.2.2.1) ?_
            refine fx_aload_n 3 dq_CO_noteChanges_104 rfl rfl ?_
            refine fx_getr ok fq_CO_12 ((fx_sm_s e85 _).trans hC.1) dq_CO_noteChanges_105 (by decide) ((fx_sm_r e85 _ _).trans hC.2.1) ?_
            refine fx_getr ok fq_CO_86 ((fx_sm_s e85 _).trans hC.2.2.1.1) dq_CO_noteChanges_108 (by decide) ((fx_sm_r e85 _ _).trans hC.2.2.1.2.1) ?_
            refine fx_iload_n 2 dq_CO_noteChanges_111 rfl rfl ?_
            refine fx_aaN ok ((fx_sm_s e85 _).trans hC.2.2.1.2.2.1) (by decide) rfl rfl ⟨hi, by decide⟩ ((fx_sm_r e85 _ _).trans (hC.2.2.1.2.2.2.2.2 i hi).1) dq_CO_noteChanges_112 ?_
            refine fx_getr ok fq_CO_90 ((fx_sm_s e85 _).trans (hC.2.2.1.2.2.2.2.2 i hi).2.1) dq_CO_noteChanges_113 (by decide) ((fx_sm_r e85 _ _).trans (hC.2.2.1.2.2.2.2.2 i hi).2.2.2.2.2.2.1) ?_
            have mo116 := out_MI_add (k_MI_add (k_MI_add k (f + 2) (c + 76 + i)) (b + 2) (c + 76 + i)) (f + 2) (c + 1 + 3 + 4 * i + 3) mf85
            have mf116 := mOk_add (k_MI_add (k_MI_add k (f + 2) (c + 76 + i)) (b + 2) (c + 76 + i)) (f + 2) (c + 1 + 3 + 4 * i + 3) mf85
            have mb116 := mOk_out mo116 (by omega) mb85
            refine fx_Vv1 ok sq_CO_106 ((fx_sm_s e85 _).trans hC.2.2.2.2.2.2.2.2.2.2.1.2.2.2.2.1) (c_MI_add ok _ _ _ (by exact isI_sm e85 hC.2.2.2.2.2.2.2.2.2.2.1.2.2.2.2) (by exact (fx_sm_s e85 _).trans (hC.2.2.1.2.2.2.2.2 i hi).2.2.2.2.2.2.2) (by exact mf85)) (by decide) (Nat.le_of_ble_eq_true rfl) dq_CO_noteChanges_116 ?_
            have e116 : fx_sm h (k_MI_add (k_MI_add (k_MI_add k (f + 2) (c + 76 + i)) (b + 2) (c + 76 + i)) (f + 2) (c + 1 + 3 + 4 * i + 3)) := fx_sm_t (h' := (k_MI_add (k_MI_add k (f + 2) (c + 76 + i)) (b + 2) (c + 76 + i))) e85 (sm_MI_add (k_MI_add (k_MI_add k (f + 2) (c + 76 + i)) (b + 2) (c + 76 + i)) (f + 2) (c + 1 + 3 + 4 * i + 3))
            refine fx_aload_n 3 dq_CO_noteChanges_119 rfl rfl ?_
            refine fx_getr ok fq_CO_42 ((fx_sm_s e116 _).trans hC.1) dq_CO_noteChanges_120 (by decide) ((fx_sm_r e116 _ _).trans hC.2.2.2.2.2.2.2.2.2.2.2.1) ?_
            refine fx_getr ok fq_CO_102 ((fx_sm_s e116 _).trans hC.2.2.2.2.2.2.2.2.2.2.2.2.1.1) dq_CO_noteChanges_123 (by decide) ((fx_sm_r e116 _ _).trans hC.2.2.2.2.2.2.2.2.2.2.2.2.1.2.2.2.1) ?_
            refine fx_aload_n 3 dq_CO_noteChanges_126 rfl rfl ?_
            refine fx_getr ok fq_CO_12 ((fx_sm_s e116 _).trans hC.1) dq_CO_noteChanges_127 (by decide) ((fx_sm_r e116 _ _).trans hC.2.1) ?_
            refine fx_getr ok fq_CO_86 ((fx_sm_s e116 _).trans hC.2.2.1.1) dq_CO_noteChanges_130 (by decide) ((fx_sm_r e116 _ _).trans hC.2.2.1.2.1) ?_
            refine fx_iload_n 2 dq_CO_noteChanges_133 rfl rfl ?_
            refine fx_aaN ok ((fx_sm_s e116 _).trans hC.2.2.1.2.2.1) (by decide) rfl rfl ⟨hi, by decide⟩ ((fx_sm_r e116 _ _).trans (hC.2.2.1.2.2.2.2.2 i hi).1) dq_CO_noteChanges_134 ?_
            refine fx_getr ok fq_CO_90 ((fx_sm_s e116 _).trans (hC.2.2.1.2.2.2.2.2 i hi).2.1) dq_CO_noteChanges_135 (by decide) ((fx_sm_r e116 _ _).trans (hC.2.2.1.2.2.2.2.2 i hi).2.2.2.2.2.2.1) ?_
            have mo138 := out_MI_add (k_MI_add (k_MI_add (k_MI_add k (f + 2) (c + 76 + i)) (b + 2) (c + 76 + i)) (f + 2) (c + 1 + 3 + 4 * i + 3)) (b + 2) (c + 1 + 3 + 4 * i + 3) mb116
            have mb138 := mOk_add (k_MI_add (k_MI_add (k_MI_add k (f + 2) (c + 76 + i)) (b + 2) (c + 76 + i)) (f + 2) (c + 1 + 3 + 4 * i + 3)) (b + 2) (c + 1 + 3 + 4 * i + 3) mb116
            have mf138 := mOk_out mo138 (by omega) mf116
            refine fx_Vv1 ok sq_CO_106 ((fx_sm_s e116 _).trans hC.2.2.2.2.2.2.2.2.2.2.2.2.1.2.2.2.2.1) (c_MI_add ok _ _ _ (by exact isI_sm e116 hC.2.2.2.2.2.2.2.2.2.2.2.2.1.2.2.2.2) (by exact (fx_sm_s e116 _).trans (hC.2.2.1.2.2.2.2.2 i hi).2.2.2.2.2.2.2) (by exact mb116)) (by decide) (Nat.le_of_ble_eq_true rfl) dq_CO_noteChanges_138 ?_
            have e138 : fx_sm h (k_MI_add (k_MI_add (k_MI_add (k_MI_add k (f + 2) (c + 76 + i)) (b + 2) (c + 76 + i)) (f + 2) (c + 1 + 3 + 4 * i + 3)) (b + 2) (c + 1 + 3 + 4 * i + 3)) := fx_sm_t (h' := (k_MI_add (k_MI_add (k_MI_add k (f + 2) (c + 76 + i)) (b + 2) (c + 76 + i)) (f + 2) (c + 1 + 3 + 4 * i + 3))) e116 (sm_MI_add (k_MI_add (k_MI_add (k_MI_add k (f + 2) (c + 76 + i)) (b + 2) (c + 76 + i)) (f + 2) (c + 1 + 3 + 4 * i + 3)) (b + 2) (c + 1 + 3 + 4 * i + 3))
            refine fx_iinc 2 dq_CO_noteChanges_141 rfl (jz_i _) (by decide) rfl ?_
            refine fx_goto (tgt := 2) dq_CO_noteChanges_144 (by decide) ?_
            refine fx_sub [0, 3, 4] rfl ?_
            exact fx_eqh (by rw [b_CO_noteChanges, if_pos hc22, if_neg hc32, if_pos hc53, if_pos hc94]) hK2
  · have e2x : fx_sm h (it (b_CO_noteChanges c d f b) h 10) := fx_sm_t (h' := h) (rfl : fx_sm h h) (fx_sm_it (sm_b_CO_noteChanges c d f b) h 10)
    refine fx_iload_n 0 dq_CO_noteChanges_2 rfl rfl ?_
    refine fx_bipush (v := 10) dq_CO_noteChanges_3 (by decide) ?_
    refine fx_icmp_ge (tgt := 147) dq_CO_noteChanges_5 (by decide) (fun hc5 => ?_) (fun hc5 => absurd (by decide) hc5)
    exact fx_vreturn rfl dq_CO_noteChanges_147 ⟨rfl, rfl⟩
theorem out_CO_noteChanges {h : fx_H} {c d f b : Nat} (hlay : (f = c + 54 ∧ b = c + 65) ∨ (f = c + 65 ∧ b = c + 54)) (hf : mOk h (f + 2)) (hb : mOk h (b + 2)) : ncP h c f b (k_CO_noteChanges h c d f b) := by
  unfold k_CO_noteChanges
  exact nc_it hlay hf hb 10
theorem sm_CO_noteChanges (h : fx_H) (c d f b : Nat) : fx_sm h (k_CO_noteChanges h c d f b) := by
  unfold k_CO_noteChanges
  exact fx_sm_it (sm_b_CO_noteChanges c d f b) h 10
theorem sm_CO_startHole (h : fx_H) (c f b : Nat) (n : Int32) : fx_sm h (k_CO_startHole h c f b n) := by
  unfold k_CO_startHole
  split <;> rfl
def kBl (h : fx_H) (m a : Nat) : fx_H := it (fun r k => it (fun c k => mBl h m a r c k) k (fx_i h a 2).toNatClampNeg) h (fx_i h a 3).toNatClampNeg
def kPt (h : fx_H) (m q a : Nat) : fx_H := it (fun r k => it (fun c k => mPt h m q a r c k) k (fx_i h a 2).toNatClampNeg) h (fx_i h a 3).toNatClampNeg
theorem kBl_on (h : fx_H) (m a : Nat) : fx_on (m + 1) h (kBl h m a) := mBl_on h m a _ _
theorem kPt_on (h : fx_H) (m q a : Nat) : fx_on (m + 1) h (kPt h m q a) := mPt_on h m q a _ _
def rScr (h : fx_H) (a : Nat) : Prop := rOk h a ∧ ∀ r c, r < (fx_i h a 3).toNatClampNeg → c < (fx_i h a 2).toNatClampNeg → vp_in ((fx_i h a 1 + nI r) * 20 + (fx_i h a 0 + nI c)) 200
theorem c_ME_blacken {g : fx_G} (ok : fx_ok g) (h : fx_H) (m a : Nat) (hm : isE h m) (ha : fx_s h a = some (.inl 1)) (ham : a ≠ m + 1) (hr : rScr h a) : fx_C g mq_ME_blacken [.ref m, .ref a] h (fx_is none (kBl h m a)) 0 0 := ce_blacken ok h m a hm ha ham hr.1 hr.2
theorem c_ME_paint {g : fx_G} (ok : fx_ok g) (h : fx_H) (m q a : Nat) (hm : isE h m) (hq : isP h q) (ha : fx_s h a = some (.inl 1)) (ham : a ≠ m + 1) (hmq : m + 1 < q ∨ q + 3 < m + 1) (hr : rScr h a) (hs : sOk h q) : fx_C g mq_ME_paint [.ref m, .ref q, .ref a] h (fx_is none (kPt h m q a)) 0 0 := ce_paint ok h m q a hm hq ha ham hmq hr.1 hr.2 (fun _ _ _ _ hh => hs.2 _ _ hh)
def cHole (h : fx_H) (c : Nat) : Nat := (fx_i h c 9).toNatClampNeg
def cL (h : fx_H) (c : Nat) : Nat := (fx_i h c 10).toNatClampNeg
/-- what a step needs -/
def stPre (h : fx_H) (c b : Nat) : Prop := vp_in (fx_i h c 9) 7 ∧ rScr h (b + 2 + 2 + cHole h c) ∧ pOk h (c + 1) ∧ (∀ s, s < 10 → sOk h (c + 1 + 3 + 4 * s)) ∧ (¬ fx_i h c 10 = -1 → cL h c < pH h (c + 1) ∧ fx_i h c 10 = nI (cL h c))
def k_CO_makeStep (h : fx_H) (c f b : Nat) : fx_H := if (fx_i h c 10) = (-1 : Int32) then if (fx_i (fx_wi (kBl h b (b + 2 + 2 + cHole h c)) c 10 (v_CO_nextLevel (kBl h b (b + 2 + 2 + cHole h c)) c f b (b + 2 + 2 + cHole h c) 0)) c 10) = (fx_i (fx_wi (kBl h b (b + 2 + 2 + cHole h c)) c 10 (v_CO_nextLevel (kBl h b (b + 2 + 2 + cHole h c)) c f b (b + 2 + 2 + cHole h c) 0)) (c + 1) 2) then k_CO_startHole (fx_wi (kBl h b (b + 2 + 2 + cHole h c)) c 10 (v_CO_nextLevel (kBl h b (b + 2 + 2 + cHole h c)) c f b (b + 2 + 2 + cHole h c) 0)) c f b ((fx_i (fx_wi (kBl h b (b + 2 + 2 + cHole h c)) c 10 (v_CO_nextLevel (kBl h b (b + 2 + 2 + cHole h c)) c f b (b + 2 + 2 + cHole h c) 0)) c 9) + (1 : Int32)) else fx_wi (kBl h b (b + 2 + 2 + cHole h c)) c 10 (v_CO_nextLevel (kBl h b (b + 2 + 2 + cHole h c)) c f b (b + 2 + 2 + cHole h c) 0) else if (fx_i (fx_wi (kPt h b (c + 1 + 3 + 4 * pU h (c + 1) (cL h c)) (b + 2 + 2 + cHole h c)) c 10 (v_CO_nextLevel (kPt h b (c + 1 + 3 + 4 * pU h (c + 1) (cL h c)) (b + 2 + 2 + cHole h c)) c f b (b + 2 + 2 + cHole h c) (cL h c + 1))) c 10) = (fx_i (fx_wi (kPt h b (c + 1 + 3 + 4 * pU h (c + 1) (cL h c)) (b + 2 + 2 + cHole h c)) c 10 (v_CO_nextLevel (kPt h b (c + 1 + 3 + 4 * pU h (c + 1) (cL h c)) (b + 2 + 2 + cHole h c)) c f b (b + 2 + 2 + cHole h c) (cL h c + 1))) (c + 1) 2) then k_CO_startHole (fx_wi (kPt h b (c + 1 + 3 + 4 * pU h (c + 1) (cL h c)) (b + 2 + 2 + cHole h c)) c 10 (v_CO_nextLevel (kPt h b (c + 1 + 3 + 4 * pU h (c + 1) (cL h c)) (b + 2 + 2 + cHole h c)) c f b (b + 2 + 2 + cHole h c) (cL h c + 1))) c f b ((fx_i (fx_wi (kPt h b (c + 1 + 3 + 4 * pU h (c + 1) (cL h c)) (b + 2 + 2 + cHole h c)) c 10 (v_CO_nextLevel (kPt h b (c + 1 + 3 + 4 * pU h (c + 1) (cL h c)) (b + 2 + 2 + cHole h c)) c f b (b + 2 + 2 + cHole h c) (cL h c + 1))) c 9) + (1 : Int32)) else fx_wi (kPt h b (c + 1 + 3 + 4 * pU h (c + 1) (cL h c)) (b + 2 + 2 + cHole h c)) c 10 (v_CO_nextLevel (kPt h b (c + 1 + 3 + 4 * pU h (c + 1) (cL h c)) (b + 2 + 2 + cHole h c)) c f b (b + 2 + 2 + cHole h c) (cL h c + 1))
set_option maxRecDepth 100000 in
set_option maxHeartbeats 600000 in
theorem c_CO_makeStep {g : fx_G} (ok : fx_ok g) (h : fx_H) (c f b : Nat) (hC : isC h c f b) (hp : stPre h c b) : fx_C g mq_CO_makeStep [.ref c] h (fx_is none (k_CO_makeStep h c f b)) 0 0 := by
  refine fx_body (by decide +kernel) (Nat.le_of_ble_eq_true rfl) ?_
  show fx_X g mq_CO_makeStep 0 [(0, .ref c)] [] h _ 0 0
  have hlay := hC.2.2.2.2.2.2.2.2.2.2.2.2.2.2
  have hh := vp_in_lt hp.1
  have hcH : cHole h c < 7 := hh
  refine fx_aload_n 0 dq_CO_makeStep_0 rfl rfl ?_
  refine fx_getr ok fq_CO_42 hC.1 dq_CO_makeStep_1 (by decide) hC.2.2.2.2.2.2.2.2.2.2.2.1 ?_
  refine fx_getr ok fq_CO_102 hC.2.2.2.2.2.2.2.2.2.2.2.2.1.1 dq_CO_makeStep_4 (by decide) hC.2.2.2.2.2.2.2.2.2.2.2.2.1.2.2.2.1 ?_
  refine fx_getr ok fq_CO_123 hC.2.2.2.2.2.2.2.2.2.2.2.2.1.2.2.2.2.1 dq_CO_makeStep_7 (by decide) hC.2.2.2.2.2.2.2.2.2.2.2.2.1.2.2.2.2.2.1 ?_
  refine fx_aload_n 0 dq_CO_makeStep_10 rfl rfl ?_
  refine fx_geti ok fq_CO_111 hC.1 dq_CO_makeStep_11 (by decide) ?_
  refine fx_aaload ok hC.2.2.2.2.2.2.2.2.2.2.2.2.1.2.2.2.2.2.2.1 (by decide) rfl rfl hp.1 (hC.2.2.2.2.2.2.2.2.2.2.2.2.1.2.2.2.2.2.2.2 (cHole h c) (vp_in_lt hp.1)).1 dq_CO_makeStep_14 ?_
  refine fx_astore_n dq_CO_makeStep_15 rfl (by decide) rfl ?_
  refine fx_aload_n 1 dq_CO_makeStep_16 rfl rfl ?_
  refine fx_geti ok fq_CO_114 hC.1 dq_CO_makeStep_17 (by decide) ?_
  refine fx_iconst (v := -1) dq_CO_makeStep_20 (by decide) ?_
  refine fx_icmp_ne (tgt := 35) dq_CO_makeStep_21 (by decide) (fun hc21 => ?_) (fun hc21 => ?_)
  · -- 21: jump
    refine fx_aload_n 1 dq_CO_makeStep_35 rfl rfl ?_
    refine fx_getr ok fq_CO_42 hC.1 dq_CO_makeStep_36 (by decide) hC.2.2.2.2.2.2.2.2.2.2.2.1 ?_
    refine fx_aload_n 1 dq_CO_makeStep_39 rfl rfl ?_
    refine fx_getr ok fq_CO_12 hC.1 dq_CO_makeStep_40 (by decide) hC.2.1 ?_
    refine fx_getr ok fq_CO_86 hC.2.2.1.1 dq_CO_makeStep_43 (by decide) hC.2.2.1.2.1 ?_
    refine fx_aload_n 1 dq_CO_makeStep_46 rfl rfl ?_
    refine fx_getr ok fq_CO_12 hC.1 dq_CO_makeStep_47 (by decide) hC.2.1 ?_
    refine fx_getr ok fq_CO_129 hC.2.2.1.1 dq_CO_makeStep_50 (by decide) hC.2.2.1.2.2.2.1 ?_
    refine fx_aload_n 1 dq_CO_makeStep_53 rfl rfl ?_
    refine fx_geti ok fq_CO_114 hC.1 dq_CO_makeStep_54 (by decide) ?_
    refine fx_iaload ok hC.2.2.1.2.2.2.2.1 (by rw [(hp.2.2.2.2 hc21).2]; exact vp_in_nI (Nat.lt_of_lt_of_le (hp.2.2.2.2 hc21).1 hp.2.2.1.1) (by decide)) dq_CO_makeStep_57 ?_
    refine fx_aaload ok hC.2.2.1.2.2.1 (by decide) rfl rfl (pU_in hp.2.2.1 (Nat.lt_of_lt_of_le (hp.2.2.2.2 hc21).1 hp.2.2.1.1)) (hC.2.2.1.2.2.2.2.2 (pU h (c + 1) (cL h c)) (hp.2.2.1.2.2 (cL h c) (Nat.lt_of_lt_of_le (hp.2.2.2.2 hc21).1 hp.2.2.1.1)).1).1 dq_CO_makeStep_58 ?_
    refine fx_aload_n 0 dq_CO_makeStep_59 rfl rfl ?_
    have hq := (hp.2.2.1.2.2 (cL h c) (Nat.lt_of_lt_of_le (hp.2.2.2.2 hc21).1 hp.2.2.1.1)).1
    refine fx_Vv2 ok sq_CO_133 hC.2.2.2.2.2.2.2.2.2.2.2.2.1.1 (c_ME_paint ok h b (c + 1 + 3 + 4 * pU h (c + 1) (cL h c)) (b + 2 + 2 + cHole h c) (by exact hC.2.2.2.2.2.2.2.2.2.2.2.2.1) (by exact (hC.2.2.1.2.2.2.2.2 (pU h (c + 1) (cL h c)) (hp.2.2.1.2.2 (cL h c) (Nat.lt_of_lt_of_le (hp.2.2.2.2 hc21).1 hp.2.2.1.1)).1).2) (hC.2.2.2.2.2.2.2.2.2.2.2.2.1.2.2.2.2.2.2.2 (cHole h c) (vp_in_lt hp.1)).2 (by omega) (by omega) hp.2.1 (hp.2.2.2.1 _ hq)) (by decide) (Nat.le_of_ble_eq_true rfl) dq_CO_makeStep_60 ?_
    have e60 : fx_sm h (kPt h b (c + 1 + 3 + 4 * pU h (c + 1) (cL h c)) (b + 2 + 2 + cHole h c)) := fx_sm_t (h' := h) (rfl : fx_sm h h) (kPt_on h b (c + 1 + 3 + 4 * pU h (c + 1) (cL h c)) (b + 2 + 2 + cHole h c)).1
    refine fx_aload_n 1 dq_CO_makeStep_63 rfl rfl ?_
    refine fx_aload_n 1 dq_CO_makeStep_64 rfl rfl ?_
    refine fx_aload_n 0 dq_CO_makeStep_65 rfl rfl ?_
    have on66 := (kPt_on h b (c + 1 + 3 + 4 * pU h (c + 1) (cL h c)) (b + 2 + 2 + cHole h c))
    have oo66 := fx_out_on (lo := b + 1) (hi := b + 2) on66 (by omega)
    refine fx_Vi1 ok sq_CO_137 ((fx_sm_s e60 _).trans hC.1) (c_CO_nextLevel ok (kPt h b (c + 1 + 3 + 4 * pU h (c + 1) (cL h c)) (b + 2 + 2 + cHole h c)) c f b (b + 2 + 2 + cHole h c) (cL h c + 1) (isC_sm e60 hC) ((fx_sm_s e60 _).trans (hC.2.2.2.2.2.2.2.2.2.2.2.2.1.2.2.2.2.2.2.2 (cHole h c) (vp_in_lt hp.1)).2) (pOk_out oo66 (by omega) hp.2.2.1) (by rw [on66.2 c (by omega), (hp.2.2.2.2 hc21).2, nI_succ]) (by unfold pH; rw [on66.2 (c + 1) (by omega)]; exact (hp.2.2.2.2 hc21).1)) (by decide) (Nat.le_of_ble_eq_true rfl) dq_CO_makeStep_66 ?_
    refine fx_puti ok fp_CO_114 ((fx_sm_s e60 _).trans hC.1) (by decide) dq_CO_makeStep_69 (Or.inl (by decide)) ?_
    have e69w : fx_sm h (fx_wi (kPt h b (c + 1 + 3 + 4 * pU h (c + 1) (cL h c)) (b + 2 + 2 + cHole h c)) c 10 (v_CO_nextLevel (kPt h b (c + 1 + 3 + 4 * pU h (c + 1) (cL h c)) (b + 2 + 2 + cHole h c)) c f b (b + 2 + 2 + cHole h c) (cL h c + 1))) := fx_sm_t (h' := (kPt h b (c + 1 + 3 + 4 * pU h (c + 1) (cL h c)) (b + 2 + 2 + cHole h c))) e60 rfl
    refine fx_aload_n 1 dq_CO_makeStep_72 rfl rfl ?_
    refine fx_geti ok fq_CO_114 ((fx_sm_s e69w _).trans hC.1) dq_CO_makeStep_73 (by decide) ?_
    refine fx_aload_n 1 dq_CO_makeStep_76 rfl rfl ?_
    refine fx_getr ok fq_CO_12 ((fx_sm_s e69w _).trans hC.1) dq_CO_makeStep_77 (by decide) ((fx_sm_r e69w _ _).trans hC.2.1) ?_
    refine fx_geti ok fq_CO_141 ((fx_sm_s e69w _).trans hC.2.2.1.1) dq_CO_makeStep_80 (by decide) ?_
    refine fx_icmp_ne (tgt := 96) dq_CO_makeStep_83 (by decide) (fun hc83 => ?_) (fun hc83 => ?_)
    · -- 83: jump
      exact fx_vreturn rfl dq_CO_makeStep_96 ⟨rfl, by rw [k_CO_makeStep, if_neg hc21, if_neg hc83]⟩
    · -- 83: fall
      refine fx_aload_n 1 dq_CO_makeStep_86 rfl rfl ?_
      refine fx_aload_n 1 dq_CO_makeStep_87 rfl rfl ?_
      refine fx_geti ok fq_CO_111 ((fx_sm_s e69w _).trans hC.1) dq_CO_makeStep_88 (by decide) ?_
      refine fx_iconst (v := 1) dq_CO_makeStep_91 (by decide) ?_
      refine fx_iadd dq_CO_makeStep_92 ?_
      refine fx_Vv1 ok sq_CO_78 ((fx_sm_s e69w _).trans hC.1) (c_CO_startHole ok (fx_wi (kPt h b (c + 1 + 3 + 4 * pU h (c + 1) (cL h c)) (b + 2 + 2 + cHole h c)) c 10 (v_CO_nextLevel (kPt h b (c + 1 + 3 + 4 * pU h (c + 1) (cL h c)) (b + 2 + 2 + cHole h c)) c f b (b + 2 + 2 + cHole h c) (cL h c + 1))) c f b ((fx_i (fx_wi (kPt h b (c + 1 + 3 + 4 * pU h (c + 1) (cL h c)) (b + 2 + 2 + cHole h c)) c 10 (v_CO_nextLevel (kPt h b (c + 1 + 3 + 4 * pU h (c + 1) (cL h c)) (b + 2 + 2 + cHole h c)) c f b (b + 2 + 2 + cHole h c) (cL h c + 1))) c 9) + (1 : Int32)) (isC_sm e69w hC)) (by decide) (Nat.le_of_ble_eq_true rfl) dq_CO_makeStep_93 ?_
      have e93 : fx_sm h (k_CO_startHole (fx_wi (kPt h b (c + 1 + 3 + 4 * pU h (c + 1) (cL h c)) (b + 2 + 2 + cHole h c)) c 10 (v_CO_nextLevel (kPt h b (c + 1 + 3 + 4 * pU h (c + 1) (cL h c)) (b + 2 + 2 + cHole h c)) c f b (b + 2 + 2 + cHole h c) (cL h c + 1))) c f b ((fx_i (fx_wi (kPt h b (c + 1 + 3 + 4 * pU h (c + 1) (cL h c)) (b + 2 + 2 + cHole h c)) c 10 (v_CO_nextLevel (kPt h b (c + 1 + 3 + 4 * pU h (c + 1) (cL h c)) (b + 2 + 2 + cHole h c)) c f b (b + 2 + 2 + cHole h c) (cL h c + 1))) c 9) + (1 : Int32))) := fx_sm_t (h' := (fx_wi (kPt h b (c + 1 + 3 + 4 * pU h (c + 1) (cL h c)) (b + 2 + 2 + cHole h c)) c 10 (v_CO_nextLevel (kPt h b (c + 1 + 3 + 4 * pU h (c + 1) (cL h c)) (b + 2 + 2 + cHole h c)) c f b (b + 2 + 2 + cHole h c) (cL h c + 1)))) e69w (sm_CO_startHole (fx_wi (kPt h b (c + 1 + 3 + 4 * pU h (c + 1) (cL h c)) (b + 2 + 2 + cHole h c)) c 10 (v_CO_nextLevel (kPt h b (c + 1 + 3 + 4 * pU h (c + 1) (cL h c)) (b + 2 + 2 + cHole h c)) c f b (b + 2 + 2 + cHole h c) (cL h c + 1))) c f b ((fx_i (fx_wi (kPt h b (c + 1 + 3 + 4 * pU h (c + 1) (cL h c)) (b + 2 + 2 + cHole h c)) c 10 (v_CO_nextLevel (kPt h b (c + 1 + 3 + 4 * pU h (c + 1) (cL h c)) (b + 2 + 2 + cHole h c)) c f b (b + 2 + 2 + cHole h c) (cL h c + 1))) c 9) + (1 : Int32)))
      exact fx_vreturn rfl dq_CO_makeStep_96 ⟨rfl, by rw [k_CO_makeStep, if_neg hc21, if_pos hc83]⟩
  · -- 21: fall
    refine fx_aload_n 1 dq_CO_makeStep_24 rfl rfl ?_
    refine fx_getr ok fq_CO_42 hC.1 dq_CO_makeStep_25 (by decide) hC.2.2.2.2.2.2.2.2.2.2.2.1 ?_
    refine fx_aload_n 0 dq_CO_makeStep_28 rfl rfl ?_
    refine fx_Vv1 ok sq_CO_126 hC.2.2.2.2.2.2.2.2.2.2.2.2.1.1 (c_ME_blacken ok h b (b + 2 + 2 + cHole h c) (by exact hC.2.2.2.2.2.2.2.2.2.2.2.2.1) (hC.2.2.2.2.2.2.2.2.2.2.2.2.1.2.2.2.2.2.2.2 (cHole h c) (vp_in_lt hp.1)).2 (by omega) hp.2.1) (by decide) (Nat.le_of_ble_eq_true rfl) dq_CO_makeStep_29 ?_
    have e29 : fx_sm h (kBl h b (b + 2 + 2 + cHole h c)) := fx_sm_t (h' := h) (rfl : fx_sm h h) (kBl_on h b (b + 2 + 2 + cHole h c)).1
    refine fx_goto (tgt := 63) dq_CO_makeStep_32 (by decide) ?_
    refine fx_aload_n 1 dq_CO_makeStep_63 rfl rfl ?_
    refine fx_aload_n 1 dq_CO_makeStep_64 rfl rfl ?_
    refine fx_aload_n 0 dq_CO_makeStep_65 rfl rfl ?_
    have on66 := (kBl_on h b (b + 2 + 2 + cHole h c))
    have oo66 := fx_out_on (lo := b + 1) (hi := b + 2) on66 (by omega)
    refine fx_Vi1 ok sq_CO_137 ((fx_sm_s e29 _).trans hC.1) (c_CO_nextLevel ok (kBl h b (b + 2 + 2 + cHole h c)) c f b (b + 2 + 2 + cHole h c) 0 (isC_sm e29 hC) ((fx_sm_s e29 _).trans (hC.2.2.2.2.2.2.2.2.2.2.2.2.1.2.2.2.2.2.2.2 (cHole h c) (vp_in_lt hp.1)).2) (pOk_out oo66 (by omega) hp.2.2.1) (by rw [on66.2 c (by omega), hc21]; rfl) (Nat.zero_le _)) (by decide) (Nat.le_of_ble_eq_true rfl) dq_CO_makeStep_66 ?_
    refine fx_puti ok fp_CO_114 ((fx_sm_s e29 _).trans hC.1) (by decide) dq_CO_makeStep_69 (Or.inl (by decide)) ?_
    have e69w : fx_sm h (fx_wi (kBl h b (b + 2 + 2 + cHole h c)) c 10 (v_CO_nextLevel (kBl h b (b + 2 + 2 + cHole h c)) c f b (b + 2 + 2 + cHole h c) 0)) := fx_sm_t (h' := (kBl h b (b + 2 + 2 + cHole h c))) e29 rfl
    refine fx_aload_n 1 dq_CO_makeStep_72 rfl rfl ?_
    refine fx_geti ok fq_CO_114 ((fx_sm_s e69w _).trans hC.1) dq_CO_makeStep_73 (by decide) ?_
    refine fx_aload_n 1 dq_CO_makeStep_76 rfl rfl ?_
    refine fx_getr ok fq_CO_12 ((fx_sm_s e69w _).trans hC.1) dq_CO_makeStep_77 (by decide) ((fx_sm_r e69w _ _).trans hC.2.1) ?_
    refine fx_geti ok fq_CO_141 ((fx_sm_s e69w _).trans hC.2.2.1.1) dq_CO_makeStep_80 (by decide) ?_
    refine fx_icmp_ne (tgt := 96) dq_CO_makeStep_83 (by decide) (fun hc83 => ?_) (fun hc83 => ?_)
    · -- 83: jump
      exact fx_vreturn rfl dq_CO_makeStep_96 ⟨rfl, by rw [k_CO_makeStep, if_pos hc21, if_neg hc83]⟩
    · -- 83: fall
      refine fx_aload_n 1 dq_CO_makeStep_86 rfl rfl ?_
      refine fx_aload_n 1 dq_CO_makeStep_87 rfl rfl ?_
      refine fx_geti ok fq_CO_111 ((fx_sm_s e69w _).trans hC.1) dq_CO_makeStep_88 (by decide) ?_
      refine fx_iconst (v := 1) dq_CO_makeStep_91 (by decide) ?_
      refine fx_iadd dq_CO_makeStep_92 ?_
      refine fx_Vv1 ok sq_CO_78 ((fx_sm_s e69w _).trans hC.1) (c_CO_startHole ok (fx_wi (kBl h b (b + 2 + 2 + cHole h c)) c 10 (v_CO_nextLevel (kBl h b (b + 2 + 2 + cHole h c)) c f b (b + 2 + 2 + cHole h c) 0)) c f b ((fx_i (fx_wi (kBl h b (b + 2 + 2 + cHole h c)) c 10 (v_CO_nextLevel (kBl h b (b + 2 + 2 + cHole h c)) c f b (b + 2 + 2 + cHole h c) 0)) c 9) + (1 : Int32)) (isC_sm e69w hC)) (by decide) (Nat.le_of_ble_eq_true rfl) dq_CO_makeStep_93 ?_
      have e93 : fx_sm h (k_CO_startHole (fx_wi (kBl h b (b + 2 + 2 + cHole h c)) c 10 (v_CO_nextLevel (kBl h b (b + 2 + 2 + cHole h c)) c f b (b + 2 + 2 + cHole h c) 0)) c f b ((fx_i (fx_wi (kBl h b (b + 2 + 2 + cHole h c)) c 10 (v_CO_nextLevel (kBl h b (b + 2 + 2 + cHole h c)) c f b (b + 2 + 2 + cHole h c) 0)) c 9) + (1 : Int32))) := fx_sm_t (h' := (fx_wi (kBl h b (b + 2 + 2 + cHole h c)) c 10 (v_CO_nextLevel (kBl h b (b + 2 + 2 + cHole h c)) c f b (b + 2 + 2 + cHole h c) 0))) e69w (sm_CO_startHole (fx_wi (kBl h b (b + 2 + 2 + cHole h c)) c 10 (v_CO_nextLevel (kBl h b (b + 2 + 2 + cHole h c)) c f b (b + 2 + 2 + cHole h c) 0)) c f b ((fx_i (fx_wi (kBl h b (b + 2 + 2 + cHole h c)) c 10 (v_CO_nextLevel (kBl h b (b + 2 + 2 + cHole h c)) c f b (b + 2 + 2 + cHole h c) 0)) c 9) + (1 : Int32)))
      exact fx_vreturn rfl dq_CO_makeStep_96 ⟨rfl, by rw [k_CO_makeStep, if_pos hc21, if_pos hc83]⟩
