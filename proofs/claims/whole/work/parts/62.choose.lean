/-! ===== Planes: choose, mixInto ===== -/
theorem fx_out_give (h : fx_H) (n i : Nat) (s : Int32) (q : Nat) (hi : i < 2) : fx_out (n + 1) (n + 8) h (k_PN_give h n i s q) := by
  unfold k_PN_give
  refine fx_out_t ?_ (fx_out_on (gLoop_on _ n i q) (by omega))
  exact fx_out_t (fx_out_wi _ _ _ _ _ _ (by omega)) (fx_out_rset _ _ _ _ _ _ _ _ (by omega))
theorem jz_p (L : Nat) : nI (L + 1) - 1 = nI L := by
  rw [nI_succ, Int32.add_sub_cancel]
theorem jz_m (L : Nat) : nI L + Int32.ofInt (-1) = nI L - 1 := by
  rw [Int32.sub_eq_add_neg]
  rfl
theorem jz_nn {L : Nat} (hL : L < 1000) : ¬ nI L < 0 := by
  rw [iz_lt, nI_toInt (by omega)]
  have e0 : (0 : Int32).toInt = 0 := rfl
  omega
theorem jz_2 {g : Nat} (hg : g ≤ 2) (h : ¬ (2 : Int32) ≤ nI g) : g < 2 := by
  rw [iz_le, nI_toInt (by omega)] at h
  have e0 : (2 : Int32).toInt = 2 := rfl
  omega
theorem isFit_cap {h : fx_H} {n p l : Nat} (hf : ¬ v_PN_isFit h n p l = 0) (ho : rOk h (p + 3 + 4 * pU h p l + 3)) : ∀ r c, r < (fx_i h (p + 3 + 4 * pU h p l + 3) 3).toNatClampNeg → c < (fx_i h (p + 3 + 4 * pU h p l + 3) 2).toNatClampNeg → (fx_i h (p + 3 + 4 * pU h p l + 3) 2).toNatClampNeg * r + c < 24 := by
  have h24 : fx_i h (p + 3 + 4 * pU h p l + 3) 2 * fx_i h (p + 3 + 4 * pU h p l + 3) 3 ≤ 24 := by
    apply Classical.byContradiction
    intro hx
    apply hf
    unfold v_PN_isFit
    rw [if_neg hx]
    split
    · split <;> rfl
    · rfl
  have h2 := iz_nn ho.2.2.1.1
  have h3 := iz_nn ho.2.2.2.1
  have hw := ho.2.2.1
  have hh := ho.2.2.2
  have b1 : 0 ≤ (fx_i h (p + 3 + 4 * pU h p l + 3) 2).toInt * (fx_i h (p + 3 + 4 * pU h p l + 3) 3).toInt := Int.mul_nonneg hw.1 hh.1
  have b2 : (fx_i h (p + 3 + 4 * pU h p l + 3) 2).toInt * (fx_i h (p + 3 + 4 * pU h p l + 3) 3).toInt ≤ 1000 * 1000 := Int.mul_le_mul hw.2 hh.2 hh.1 (by decide)
  rw [iz_le, iz_mul (by omega)] at h24
  have e0 : (24 : Int32).toInt = 24 := rfl
  rw [e0, ← h2, ← h3] at h24
  intro r c hr hc
  have h4 : (fx_i h (p + 3 + 4 * pU h p l + 3) 2).toNatClampNeg * (fx_i h (p + 3 + 4 * pU h p l + 3) 3).toNatClampNeg ≤ 24 := by exact_mod_cast h24
  have h5 : (fx_i h (p + 3 + 4 * pU h p l + 3) 2).toNatClampNeg * (r + 1) ≤ (fx_i h (p + 3 + 4 * pU h p l + 3) 2).toNatClampNeg * (fx_i h (p + 3 + 4 * pU h p l + 3) 3).toNatClampNeg := Nat.mul_le_mul_left _ hr
  rw [Nat.mul_succ] at h5
  omega
/-- the levels below L, highest first; gv planes are given -/
def chs (n p : Nat) : Nat → Nat → fx_H → fx_H
  | 0, _, k => k
  | L + 1, gv, k => if (2 : Int32) ≤ nI gv then k else if v_PN_isFit k n p L = 0 then chs n p L gv k else chs n p L (gv + 1) (k_PN_give k n gv (fx_i k (p + 2) L) (p + 3 + 4 * pU k p L))
theorem fx_out_chs (n p : Nat) : ∀ (L gv : Nat) (k : fx_H), gv ≤ 2 → fx_out (n + 1) (n + 8) k (chs n p L gv k)
  | 0, _, k, _ => fx_out_rf _ _ k
  | L + 1, gv, k, hg => by
    rw [chs]
    split
    · exact fx_out_rf _ _ k
    · rename_i h2
      have hg2 := jz_2 hg h2
      split
      · exact fx_out_chs n p L gv k hg
      · exact fx_out_t (fx_out_give k n gv _ _ hg2) (fx_out_chs n p L (gv + 1) _ (by omega))
set_option maxRecDepth 100000 in
set_option maxHeartbeats 600000 in
theorem cn_choose17 {g : fx_G} (ok : fx_ok g) (n p : Nat) : ∀ (L : Nat) (h : fx_H) (gv : Nat) (hn : isN h n) (hp : isL h p) (hk : pOk h p) (hs : ∀ s, s < 10 → sOk h (p + 3 + 4 * s)) (hnp : n + 7 < p ∨ p + 42 < n) (hg : gv ≤ 2) (hL : L ≤ pH h p), fx_X g mq_PN_choose 17 [(3, .int (nI L - 1)), (2, .int (nI gv)), (0, .ref n), (1, .ref p)] [] h (fx_is none (chs n p L gv h)) 0 0 := by
  intro L
  induction L with
  | zero =>
      intro h gv hn hp hk hs hnp hg hL
      refine fx_iload_n 0 dq_PN_choose_17 rfl rfl ?_
      refine fx_if_lt (tgt := 66) dq_PN_choose_18 (by decide) (fun hc18 => ?_) (fun hc18 => absurd (by decide) hc18)
      exact fx_vreturn rfl dq_PN_choose_66 ⟨rfl, rfl⟩
  | succ L ih =>
      intro h gv hn hp hk hs hnp hg hL0
      have hL : L < pH h p := hL0
      refine fx_eqv (v' := nI L) (jz_p L) ?_
      refine fx_iload_n 0 dq_PN_choose_17 rfl rfl ?_
      refine fx_if_lt (tgt := 66) dq_PN_choose_18 (by decide) (fun hc18 => absurd hc18 (jz_nn (by have := hk.1; omega))) (fun hc18 => ?_)
      refine fx_iload_n 1 dq_PN_choose_21 rfl rfl ?_
      refine fx_iconst (v := 2) dq_PN_choose_22 (by decide) ?_
      refine fx_icmp_ge (tgt := 66) dq_PN_choose_23 (by decide) (fun hc23 => ?_) (fun hc23 => ?_)
      · -- 23: jump
        exact fx_vreturn rfl dq_PN_choose_66 ⟨rfl, by rw [chs, if_pos hc23]⟩
      · -- 23: fall
        have hg2 := jz_2 hg hc23
        refine fx_aload_n 2 dq_PN_choose_26 rfl rfl ?_
        refine fx_aload_n 3 dq_PN_choose_27 rfl rfl ?_
        refine fx_iload_n 0 dq_PN_choose_28 rfl rfl ?_
        refine fx_Vi2 ok sq_PN_49 hn.1 (c_PN_isFit ok h n p L hn hp hk hL) (by decide) (Nat.le_of_ble_eq_true rfl) dq_PN_choose_29 ?_
        refine fx_if_eq (tgt := 60) dq_PN_choose_32 (by decide) (fun hc32 => ?_) (fun hc32 => ?_)
        · -- 32: jump
          refine fx_iinc 0 dq_PN_choose_60 rfl (jz_m L) (by decide) rfl ?_
          refine fx_goto (tgt := 17) dq_PN_choose_63 (by decide) ?_
          rw [chs, if_neg hc23, if_pos hc32]
          refine fx_sub [0, 1, 2, 3] rfl ?_
          exact ih h gv hn hp hk hs hnp hg (by omega)
        · -- 32: fall
          refine fx_aload_n 2 dq_PN_choose_35 rfl rfl ?_
          refine fx_iload_n 1 dq_PN_choose_36 rfl rfl ?_
          refine fx_aload_n 3 dq_PN_choose_37 rfl rfl ?_
          refine fx_getr ok fq_PN_53 hp.1 dq_PN_choose_38 (by decide) hp.2.2.2.1 ?_
          refine fx_iload_n 0 dq_PN_choose_41 rfl rfl ?_
          refine fx_iaN ok hp.2.2.2.2.1 ⟨(Nat.lt_of_lt_of_le hL hk.1), by decide⟩ dq_PN_choose_42 ?_
          refine fx_aload_n 3 dq_PN_choose_43 rfl rfl ?_
          refine fx_getr ok fq_PN_56 hp.1 dq_PN_choose_44 (by decide) hp.2.1 ?_
          refine fx_aload_n 3 dq_PN_choose_47 rfl rfl ?_
          refine fx_getr ok fq_PN_53 hp.1 dq_PN_choose_48 (by decide) hp.2.2.2.1 ?_
          refine fx_iload_n 0 dq_PN_choose_51 rfl rfl ?_
          refine fx_iaN ok hp.2.2.2.2.1 ⟨(Nat.lt_of_lt_of_le hL hk.1), by decide⟩ dq_PN_choose_52 ?_
          refine fx_aaload ok hp.2.2.1 (by decide) rfl rfl (pU_in hk (Nat.lt_of_lt_of_le hL hk.1)) (hp.2.2.2.2.2 (pU h p L) (hk.2.2 L (Nat.lt_of_lt_of_le hL hk.1)).1).1 dq_PN_choose_53 ?_
          refine fx_Vv3 ok sq_PN_60 hn.1 (c_PN_give ok h n gv _ _ hn hg2 (hp.2.2.2.2.2 _ (hk.2.2 L (Nat.lt_of_lt_of_le hL hk.1)).1).2 (by have := (hk.2.2 L (Nat.lt_of_lt_of_le hL hk.1)).1; omega) (hs _ (hk.2.2 L (Nat.lt_of_lt_of_le hL hk.1)).1) (isFit_cap hc32 (hs _ (hk.2.2 L (Nat.lt_of_lt_of_le hL hk.1)).1).1)) (by decide) (Nat.le_of_ble_eq_true rfl) dq_PN_choose_54 ?_
          refine fx_iinc 1 dq_PN_choose_57 rfl (jz_i gv) (by decide) rfl ?_
          refine fx_iinc 1 dq_PN_choose_60 rfl (jz_m L) (by decide) rfl ?_
          refine fx_goto (tgt := 17) dq_PN_choose_63 (by decide) ?_
          rw [chs, if_neg hc23, if_neg hc32]
          refine fx_sub [0, 1, 2, 3] rfl ?_
          have eo := fx_out_give h n gv (fx_i h (p + 2) L) (p + 3 + 4 * pU h p L) hg2
          exact ih _ (gv + 1) (isN_sm eo.1 hn) (isL_sm eo.1 hp) (pOk_out eo (by omega) hk) (fun s hs2 => sOk_out eo (by omega) (hs s hs2)) hnp (by omega) (by unfold pH; rw [eo.2 p (by omega)]; exact Nat.le_of_lt hL)
def k_PN_choose (h : fx_H) (n p : Nat) : fx_H := chs n p (pH h p) 0 (it (fillA (n + 1) (-1)) h 2)
set_option maxRecDepth 100000 in
set_option maxHeartbeats 600000 in
theorem c_PN_choose {g : fx_G} (ok : fx_ok g) (h : fx_H) (n p : Nat) (hn : isN h n) (hp : isL h p) (hk : pOk h p) (hs : ∀ s, s < 10 → sOk h (p + 3 + 4 * s)) (hnp : n + 7 < p ∨ p + 42 < n) : fx_C g mq_PN_choose [.ref n, .ref p] h (fx_is none (k_PN_choose h n p)) 0 0 := by
  refine fx_body (by decide +kernel) (Nat.le_of_ble_eq_true rfl) ?_
  show fx_X g mq_PN_choose 0 [(0, .ref n), (1, .ref p)] [] h _ 0 0
  refine fx_aload_n 0 dq_PN_choose_0 rfl rfl ?_
  refine fx_getr ok fq_PN_9 hn.1 dq_PN_choose_1 (by decide) hn.2.1 ?_
  refine fx_iconst (v := -1) dq_PN_choose_4 (by decide) ?_
  refine fx_Sv2 ok sq_PN_37 (ca_fill ok _ _ 2 (by decide) (by exact hn.2.2.1) _) (by decide) (Nat.le_of_ble_eq_true rfl) dq_PN_choose_5 ?_
  have e5 : fx_sm h (it (fillA (n + 1) (-1)) h 2) := fx_sm_t (h' := h) (rfl : fx_sm h h) (fillA_on (n + 1) (-1) h 2).1
  refine fx_iconst (v := 0) dq_PN_choose_8 (by decide) ?_
  refine fx_istore_n dq_PN_choose_9 rfl (by decide) rfl ?_
  refine fx_aload_n 2 dq_PN_choose_10 rfl rfl ?_
  refine fx_geti ok fq_PN_43 ((fx_sm_s e5 _).trans hp.1) dq_PN_choose_11 (by decide) ?_
  refine fx_iconst (v := 1) dq_PN_choose_14 (by decide) ?_
  refine fx_isub dq_PN_choose_15 ?_
  refine fx_istore_n dq_PN_choose_16 rfl (by decide) rfl ?_
  have eo : fx_out (n + 1) (n + 8) h (it (fillA (n + 1) (-1)) h 2) := fx_out_on (fillA_on _ _ h 2) (by omega)
  rw [k_PN_choose]
  refine fx_eqv (v' := nI (pH h p) - 1) (by rw [eo.2 p (by omega), hk.2.1]) ?_
  exact cn_choose17 ok n p (pH h p) (it (fillA (n + 1) (-1)) h 2) 0 (isN_sm eo.1 hn) (isL_sm eo.1 hp) (pOk_out eo (by omega) hk) (fun s hs2 => sOk_out eo (by omega) (hs s hs2)) hnp (by decide) (by unfold pH; rw [eo.2 p (by omega)]; exact Nat.le_refl _)
theorem fx_out_choose (h : fx_H) (n p : Nat) : fx_out (n + 1) (n + 8) h (k_PN_choose h n p) := by
  unfold k_PN_choose
  exact fx_out_t (fx_out_on (fillA_on (n + 1) (-1) h 2) (by omega)) (fx_out_chs n p _ 0 _ (by decide))
def mixOk (h : fx_H) (n : Nat) (row : Int32) (i : Nat) : Prop := ¬ fx_i h (n + 1) i = -1 → ¬ row < fx_i h (n + 3 + i) 1 → ¬ fx_i h (n + 3 + i) 1 + fx_i h (n + 3 + i) 3 ≤ row → ¬ (row - fx_i h (n + 3 + i) 1) * fx_i h (n + 3 + i) 2 < 0 ∧ ¬ row * 20 + fx_i h (n + 3 + i) 0 < 0 ∧ ¬ fx_i h (n + 3 + i) 2 < 0 ∧ ((row - fx_i h (n + 3 + i) 1) * fx_i h (n + 3 + i) 2).toNatClampNeg + (fx_i h (n + 3 + i) 2).toNatClampNeg ≤ 24 ∧ (row * 20 + fx_i h (n + 3 + i) 0).toNatClampNeg + (fx_i h (n + 3 + i) 2).toNatClampNeg ≤ 200
theorem mixOk_on {h k : fx_H} {n f i : Nat} {row : Int32} (e : fx_on f h k) (hf : f < n ∨ n + 7 < f) (hi : i < 2) (ho : mixOk h n row i) : mixOk k n row i := by
  have e1 : ∀ j, fx_i k (n + 1) j = fx_i h (n + 1) j := e.2 _ (by omega)
  have e2 : ∀ j, fx_i k (n + 3 + i) j = fx_i h (n + 3 + i) j := e.2 _ (by omega)
  unfold mixOk at ho ⊢
  simp only [e1, e2]
  exact ho
def b_PN_mixInto (n f : Nat) (row : Int32) (i : Nat) (k : fx_H) : fx_H := if fx_i k (n + 1) i = -1 then k else if row < fx_i k (n + 3 + i) 1 then k else if fx_i k (n + 3 + i) 1 + fx_i k (n + 3 + i) 3 ≤ row then k else fx_cp k (n + 6 + i) f ((row - fx_i k (n + 3 + i) 1) * fx_i k (n + 3 + i) 2).toNatClampNeg (row * 20 + fx_i k (n + 3 + i) 0).toNatClampNeg (fx_i k (n + 3 + i) 2).toNatClampNeg
theorem mx_on (n f : Nat) (row : Int32) (i : Nat) (k : fx_H) : fx_on f k (b_PN_mixInto n f row i k) := by
  unfold b_PN_mixInto
  split
  · exact fx_on_rf _ _
  · split
    · exact fx_on_rf _ _
    · split
      · exact fx_on_rf _ _
      · exact ⟨rfl, fun b hb j => by rw [fx_i_cp, if_neg hb]⟩
def k_PN_mixInto (h : fx_H) (n f : Nat) (row : Int32) : fx_H := (it (b_PN_mixInto n f row) h 2)
set_option maxRecDepth 100000 in
set_option maxHeartbeats 600000 in
theorem c_PN_mixInto {g : fx_G} (ok : fx_ok g) (h : fx_H) (n f : Nat) (row : Int32) (hn : isN h n) (hf : fx_s h f = some (.inr (0, 200))) (hfn : f < n ∨ n + 7 < f) (hM : ∀ i, i < 2 → mixOk h n row i) : fx_C g mq_PN_mixInto [.ref n, .ref f, .int row] h (fx_is none (k_PN_mixInto h n f row)) 0 0 := by
  refine fx_body (by decide +kernel) (Nat.le_of_ble_eq_true rfl) ?_
  show fx_X g mq_PN_mixInto 0 [(0, .ref n), (1, .ref f), (2, .int row)] [] h _ 0 0
  refine fx_iconst (v := 0) dq_PN_mixInto_0 (by decide) ?_
  refine fx_istore_n dq_PN_mixInto_1 rfl (by decide) rfl ?_
  refine fx_for (fun i => [(3, .int (nI i)), (0, .ref n), (1, .ref f), (2, .int row)]) (b_PN_mixInto n f row) h 2 (fun i hi hK2 => ?_) ?_
  · have e2b : fx_sm h (it (b_PN_mixInto n f row) h i) := fx_sm_t (h' := h) (rfl : fx_sm h h) (fx_sm_it (fun i k => (mx_on n f row i k).1) h i)
    have hmk := mixOk_on (fx_on_it (mx_on n f row) h i) hfn hi (hM i hi)
    generalize it (b_PN_mixInto n f row) h i = k at e2b hK2 hmk ⊢
    refine fx_iload_n 0 dq_PN_mixInto_2 rfl rfl ?_
    refine fx_iconst (v := 2) dq_PN_mixInto_3 (by decide) ?_
    refine fx_icmp_ge (tgt := 97) dq_PN_mixInto_4 (by decide) (fun hc4 => absurd hc4 (nI_ge (b := 2) hi (by decide))) (fun hc4 => ?_)
    refine fx_aload_n 1 dq_PN_mixInto_7 rfl rfl ?_
    refine fx_getr ok fq_PN_18 ((fx_sm_s e2b _).trans hn.1) dq_PN_mixInto_8 (by decide) ((fx_sm_r e2b _ _).trans hn.2.2.2.1) ?_
    refine fx_iload_n 0 dq_PN_mixInto_11 rfl rfl ?_
    refine fx_aaN ok ((fx_sm_s e2b _).trans hn.2.2.2.2.1) (by decide) rfl rfl ⟨hi, by decide⟩ ((fx_sm_r e2b _ _).trans (hn.2.2.2.2.2.2.2 i hi).1) dq_PN_mixInto_12 ?_
    refine fx_astore dq_PN_mixInto_13 (by decide) rfl ?_
    refine fx_aload_n 2 dq_PN_mixInto_15 rfl rfl ?_
    refine fx_getr ok fq_PN_9 ((fx_sm_s e2b _).trans hn.1) dq_PN_mixInto_16 (by decide) ((fx_sm_r e2b _ _).trans hn.2.1) ?_
    refine fx_iload_n 1 dq_PN_mixInto_19 rfl rfl ?_
    refine fx_iaN ok ((fx_sm_s e2b _).trans hn.2.2.1) ⟨hi, by decide⟩ dq_PN_mixInto_20 ?_
    refine fx_iconst (v := -1) dq_PN_mixInto_21 (by decide) ?_
    refine fx_icmp_eq (tgt := 91) dq_PN_mixInto_22 (by decide) (fun hc22 => ?_) (fun hc22 => ?_)
    · -- 22: jump
      refine fx_iinc 1 dq_PN_mixInto_91 rfl (jz_i i) (by decide) rfl ?_
      refine fx_goto (tgt := 2) dq_PN_mixInto_94 (by decide) ?_
      refine fx_sub [0, 2, 3, 4] rfl ?_
      exact fx_eqh (by rw [b_PN_mixInto, if_pos hc22]) hK2
    · -- 22: fall
      refine fx_iload_n 4 dq_PN_mixInto_25 rfl rfl ?_
      refine fx_aload 0 dq_PN_mixInto_26 rfl ?_
      refine fx_geti ok fq_PN_84 ((fx_sm_s e2b _).trans (hn.2.2.2.2.2.2.2 i hi).2.1) dq_PN_mixInto_28 (by decide) ?_
      refine fx_icmp_lt (tgt := 91) dq_PN_mixInto_31 (by decide) (fun hc31 => ?_) (fun hc31 => ?_)
      · -- 31: jump
        refine fx_iinc 1 dq_PN_mixInto_91 rfl (jz_i i) (by decide) rfl ?_
        refine fx_goto (tgt := 2) dq_PN_mixInto_94 (by decide) ?_
        refine fx_sub [0, 2, 3, 4] rfl ?_
        exact fx_eqh (by rw [b_PN_mixInto, if_neg hc22, if_pos hc31]) hK2
      · -- 31: fall
        refine fx_iload_n 4 dq_PN_mixInto_34 rfl rfl ?_
        refine fx_aload 0 dq_PN_mixInto_35 rfl ?_
        refine fx_geti ok fq_PN_84 ((fx_sm_s e2b _).trans (hn.2.2.2.2.2.2.2 i hi).2.1) dq_PN_mixInto_37 (by decide) ?_
        refine fx_aload 0 dq_PN_mixInto_40 rfl ?_
        refine fx_geti ok fq_PN_87 ((fx_sm_s e2b _).trans (hn.2.2.2.2.2.2.2 i hi).2.1) dq_PN_mixInto_42 (by decide) ?_
        refine fx_iadd dq_PN_mixInto_45 ?_
        refine fx_icmp_ge (tgt := 91) dq_PN_mixInto_46 (by decide) (fun hc46 => ?_) (fun hc46 => ?_)
        · -- 46: jump
          refine fx_iinc 1 dq_PN_mixInto_91 rfl (jz_i i) (by decide) rfl ?_
          refine fx_goto (tgt := 2) dq_PN_mixInto_94 (by decide) ?_
          refine fx_sub [0, 2, 3, 4] rfl ?_
          exact fx_eqh (by rw [b_PN_mixInto, if_neg hc22, if_neg hc31, if_pos hc46]) hK2
        · -- 46: fall
          refine fx_iload_n 4 dq_PN_mixInto_49 rfl rfl ?_
          refine fx_aload 0 dq_PN_mixInto_50 rfl ?_
          refine fx_geti ok fq_PN_84 ((fx_sm_s e2b _).trans (hn.2.2.2.2.2.2.2 i hi).2.1) dq_PN_mixInto_52 (by decide) ?_
          refine fx_isub dq_PN_mixInto_55 ?_
          refine fx_aload 0 dq_PN_mixInto_56 rfl ?_
          refine fx_geti ok fq_PN_93 ((fx_sm_s e2b _).trans (hn.2.2.2.2.2.2.2 i hi).2.1) dq_PN_mixInto_58 (by decide) ?_
          refine fx_imul dq_PN_mixInto_61 ?_
          refine fx_istore dq_PN_mixInto_62 (by decide) rfl ?_
          refine fx_aload_n 3 dq_PN_mixInto_64 rfl rfl ?_
          refine fx_getr ok fq_PN_24 ((fx_sm_s e2b _).trans hn.1) dq_PN_mixInto_65 (by decide) ((fx_sm_r e2b _ _).trans hn.2.2.2.2.2.1) ?_
          refine fx_iload_n 2 dq_PN_mixInto_68 rfl rfl ?_
          refine fx_aaN ok ((fx_sm_s e2b _).trans hn.2.2.2.2.2.2.1) (by decide) rfl rfl ⟨hi, by decide⟩ ((fx_sm_r e2b _ _).trans (hn.2.2.2.2.2.2.2 i hi).2.2.1) dq_PN_mixInto_69 ?_
          refine fx_iload 0 dq_PN_mixInto_70 rfl ?_
          refine fx_aload_n 4 dq_PN_mixInto_72 rfl rfl ?_
          refine fx_iload_n 5 dq_PN_mixInto_73 rfl rfl ?_
          refine fx_bipush (v := 20) dq_PN_mixInto_74 (by decide) ?_
          refine fx_imul dq_PN_mixInto_76 ?_
          refine fx_aload 1 dq_PN_mixInto_77 rfl ?_
          refine fx_geti ok fq_PN_90 ((fx_sm_s e2b _).trans (hn.2.2.2.2.2.2.2 i hi).2.1) dq_PN_mixInto_79 (by decide) ?_
          refine fx_iadd dq_PN_mixInto_82 ?_
          refine fx_aload 1 dq_PN_mixInto_83 rfl ?_
          refine fx_geti ok fq_PN_93 ((fx_sm_s e2b _).trans (hn.2.2.2.2.2.2.2 i hi).2.1) dq_PN_mixInto_85 (by decide) ?_
          refine fx_copy ok sq_PN_31 kj_cp.1 kj_cp.2.1 kj_cp.2.2 ((fx_sm_s e2b _).trans (hn.2.2.2.2.2.2.2 i hi).2.2.2) ((fx_sm_s e2b _).trans hf) (hmk hc22 hc31 hc46).1 (hmk hc22 hc31 hc46).2.1 (hmk hc22 hc31 hc46).2.2.1 (hmk hc22 hc31 hc46).2.2.2.1 (hmk hc22 hc31 hc46).2.2.2.2 (by decide) (Nat.le_of_ble_eq_true rfl) dq_PN_mixInto_88 ?_
          have e88w : fx_sm h (fx_cp k (n + 6 + i) f ((row - (fx_i k (n + 3 + i) 1)) * (fx_i k (n + 3 + i) 2)).toNatClampNeg ((row * (20 : Int32)) + (fx_i k (n + 3 + i) 0)).toNatClampNeg (fx_i k (n + 3 + i) 2).toNatClampNeg) := fx_sm_t (h' := k) e2b rfl
          refine fx_iinc 2 dq_PN_mixInto_91 rfl (jz_i i) (by decide) rfl ?_
          refine fx_goto (tgt := 2) dq_PN_mixInto_94 (by decide) ?_
          refine fx_sub [0, 3, 4, 5] rfl ?_
          exact fx_eqh (by rw [b_PN_mixInto, if_neg hc22, if_neg hc31, if_neg hc46]) hK2
  · have e2x : fx_sm h (it (b_PN_mixInto n f row) h 2) := fx_sm_t (h' := h) (rfl : fx_sm h h) (fx_sm_it (fun i k => (mx_on n f row i k).1) h 2)
    refine fx_iload_n 0 dq_PN_mixInto_2 rfl rfl ?_
    refine fx_iconst (v := 2) dq_PN_mixInto_3 (by decide) ?_
    refine fx_icmp_ge (tgt := 97) dq_PN_mixInto_4 (by decide) (fun hc4 => ?_) (fun hc4 => absurd (by decide) hc4)
    exact fx_vreturn rfl dq_PN_mixInto_97 ⟨rfl, rfl⟩
theorem mixInto_on (h : fx_H) (n f : Nat) (row : Int32) : fx_on f h (k_PN_mixInto h n f row) := by
  unfold k_PN_mixInto
  exact fx_on_it (mx_on n f row) h 2
