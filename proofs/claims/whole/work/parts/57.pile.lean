/-! ===== Pile; Desk: the rest ===== -/
/-- the answer at the first i, i + 1, .. (n of them) that c takes; else b -/
def srch (c : Nat → Bool) (a : Nat → Int32) (b : Int32) : Nat → Nat → Int32
  | _, 0 => b
  | i, n + 1 => if c i = true then a i else srch c a b (i + 1) n
theorem srch_yes (c : Nat → Bool) (a : Nat → Int32) (b : Int32) (i n : Nat) (h : c i = true) : srch c a b i (n + 1) = a i := by rw [srch, if_pos h]
theorem srch_no (c : Nat → Bool) (a : Nat → Int32) (b : Int32) (i n : Nat) (h : ¬ c i = true) : srch c a b i (n + 1) = srch c a b (i + 1) n := by rw [srch, if_neg h]
def v_DE_lowestFreeNumber (h : fx_H) (d : Nat) : Int32 := srch (fun i => decide (fx_i h (d + 45) i = -1)) (fun i => nI i) (-1) 0 10
set_option maxRecDepth 100000 in
set_option maxHeartbeats 600000 in
theorem c_DE_lowestFreeNumber {g : fx_G} (ok : fx_ok g) (h : fx_H) (d : Nat) (hd : isD h d) : fx_C g mq_DE_lowestFreeNumber [.ref d] h (fx_is (some (v_DE_lowestFreeNumber h d)) h) 0 0 := by
  refine fx_body (by decide +kernel) (Nat.le_of_ble_eq_true rfl) ?_
  show fx_X g mq_DE_lowestFreeNumber 0 [(0, .ref d)] [] h _ 0 0
  refine fx_iconst (v := 0) dq_DE_lowestFreeNumber_0 (by decide) ?_
  refine fx_istore_n dq_DE_lowestFreeNumber_1 rfl (by decide) rfl ?_
  have key : ∀ n i, i + n = 10 → v_DE_lowestFreeNumber h d = (srch (fun i => decide (fx_i h (d + 45) i = -1)) (fun i => nI i) (-1)) i n → fx_X g mq_DE_lowestFreeNumber 2 [(1, .int (nI i)), (0, .ref d)] [] h (fx_is (some (v_DE_lowestFreeNumber h d)) h) 0 0 := by
    intro n
    induction n with
    | zero =>
      intro i hin hq
      have hiN : i = 10 := by omega
      refine fx_iload_n 0 dq_DE_lowestFreeNumber_2 rfl rfl ?_
      refine fx_bipush (v := 10) dq_DE_lowestFreeNumber_3 (by decide) ?_
      refine fx_icmp_ge (tgt := 26) dq_DE_lowestFreeNumber_5 (by decide) (fun hc5 => ?_) (fun hc5 => absurd (by subst hiN; decide) hc5)
      refine fx_iconst (v := -1) dq_DE_lowestFreeNumber_26 (by decide) ?_
      exact fx_ireturn rfl dq_DE_lowestFreeNumber_27 ⟨by rw [hq]; rfl, rfl⟩
    | succ n ih =>
      intro i hin hq
      have hi : i < 10 := by omega
      refine fx_iload_n 0 dq_DE_lowestFreeNumber_2 rfl rfl ?_
      refine fx_bipush (v := 10) dq_DE_lowestFreeNumber_3 (by decide) ?_
      refine fx_icmp_ge (tgt := 26) dq_DE_lowestFreeNumber_5 (by decide) (fun hc5 => absurd hc5 (nI_ge (b := 10) hi (by decide))) (fun hc5 => ?_)
      refine fx_aload_n 1 dq_DE_lowestFreeNumber_8 rfl rfl ?_
      refine fx_getr ok fq_DE_24 hd.1 dq_DE_lowestFreeNumber_9 (by decide) hd.2.2.2.2.2.1 ?_
      refine fx_iload_n 0 dq_DE_lowestFreeNumber_12 rfl rfl ?_
      refine fx_iaN ok hd.2.2.2.2.2.2.1 ⟨hi, by decide⟩ dq_DE_lowestFreeNumber_13 ?_
      refine fx_iconst (v := -1) dq_DE_lowestFreeNumber_14 (by decide) ?_
      refine fx_icmp_ne (tgt := 20) dq_DE_lowestFreeNumber_15 (by decide) (fun hc15 => ?_) (fun hc15 => ?_)
      · -- 15: jump
        refine fx_iinc 0 dq_DE_lowestFreeNumber_20 rfl (jz_i i) (by decide) rfl ?_
        refine fx_goto (tgt := 2) dq_DE_lowestFreeNumber_23 (by decide) ?_
        refine fx_sub [0, 1] rfl ?_
        exact ih (i + 1) (by omega) (hq.trans (srch_no _ _ _ _ _ (by simp [hc15])))
      · -- 15: fall
        refine fx_iload_n 0 dq_DE_lowestFreeNumber_18 rfl rfl ?_
        exact fx_ireturn rfl dq_DE_lowestFreeNumber_19 ⟨by rw [hq, srch_yes _ _ _ _ _ (by simp [hc15])], rfl⟩
  exact (key 10 0 (by omega) rfl)
/-- where sort is about to append, there is room -/
def sortB (p o s : Nat) (k : fx_H) : fx_H := if fx_i k (p + 3 + 4 * s) 0 = 0 then k else if fx_i k (p + 3 + 4 * s) 5 = nI o then fx_wi (fx_wi k (p + 2) (fx_i k p 2).toNatClampNeg (nI s)) p 2 (fx_i (fx_wi k (p + 2) (fx_i k p 2).toNatClampNeg (nI s)) p 2 + 1) else k
def sortO (p o : Nat) (k : fx_H) : fx_H := it (sortB p o) k 10
def sortOk (h : fx_H) (p : Nat) : Prop := ∀ o s, o < 10 → s < 10 → ¬ fx_i (it (sortB p o) (it (sortO p) (fx_wi h p 2 0) o) s) (p + 3 + 4 * s) 0 = 0 → fx_i (it (sortB p o) (it (sortO p) (fx_wi h p 2 0) o) s) (p + 3 + 4 * s) 5 = nI o → vp_in (fx_i (it (sortB p o) (it (sortO p) (fx_wi h p 2 0) o) s) p 2) 10
theorem sm_sortB (p o s : Nat) (k : fx_H) : fx_sm k (sortB p o s k) := by
  unfold sortB
  split
  · rfl
  · split <;> rfl
theorem sm_sortO (p o : Nat) (k : fx_H) : fx_sm k (sortO p o k) := fx_sm_it (sm_sortB p o) k 10
def k_PL_sort (h : fx_H) (p : Nat) : fx_H := (it (sortO p) (fx_wi h p 2 (0 : Int32)) 10)
set_option maxRecDepth 100000 in
set_option maxHeartbeats 600000 in
theorem c_PL_sort {g : fx_G} (ok : fx_ok g) (h : fx_H) (p : Nat) (hp : isL h p) (hH : sortOk h p) : fx_C g mq_PL_sort [.ref p] h (fx_is none (k_PL_sort h p)) 0 0 := by
  refine fx_body (by decide +kernel) (Nat.le_of_ble_eq_true rfl) ?_
  show fx_X g mq_PL_sort 0 [(0, .ref p)] [] h _ 0 0
  refine fx_aload_n 0 dq_PL_sort_0 rfl rfl ?_
  refine fx_iconst (v := 0) dq_PL_sort_1 (by decide) ?_
  refine fx_puti ok fp_PL_22 hp.1 (by decide) dq_PL_sort_2 (Or.inl (by decide)) ?_
  refine fx_iconst (v := 0) dq_PL_sort_5 (by decide) ?_
  refine fx_istore_n dq_PL_sort_6 rfl (by decide) rfl ?_
  refine fx_for (fun o => [(1, .int (nI o)), (0, .ref p)]) (sortO p) (fx_wi h p 2 (0 : Int32)) 10 (fun o ho hK7 => ?_) ?_
  · have e7b : fx_sm h (it (sortO p) (fx_wi h p 2 (0 : Int32)) o) := fx_sm_t (h' := (fx_wi h p 2 (0 : Int32))) (rfl : fx_sm h (fx_wi h p 2 (0 : Int32))) (fx_sm_it (sm_sortO p) (fx_wi h p 2 (0 : Int32)) o)
    have hO := fun s hs => hH o s ho hs
    generalize it (sortO p) (fx_wi h p 2 (0 : Int32)) o = k at e7b hK7 hO ⊢
    refine fx_iload_n 0 dq_PL_sort_7 rfl rfl ?_
    refine fx_bipush (v := 9) dq_PL_sort_8 (by decide) ?_
    refine fx_icmp_gt (tgt := 78) dq_PL_sort_10 (by decide) (fun hc10 => absurd hc10 (jz_gt (N := 9) ho (by decide))) (fun hc10 => ?_)
    refine fx_iconst (v := 0) dq_PL_sort_13 (by decide) ?_
    refine fx_istore_n dq_PL_sort_14 rfl (by decide) rfl ?_
    refine fx_for (fun s => [(2, .int (nI s)), (1, .int (nI o)), (0, .ref p)]) (sortB p o) k 10 (fun s hs hK15 => ?_) ?_
    · have e15b : fx_sm h (it (sortB p o) k s) := fx_sm_t (h' := k) e7b (fx_sm_it (sm_sortB p o) k s)
      have hI := hO s hs
      generalize it (sortB p o) k s = k2 at e15b hK15 hI ⊢
      refine fx_iload_n 0 dq_PL_sort_15 rfl rfl ?_
      refine fx_bipush (v := 10) dq_PL_sort_16 (by decide) ?_
      refine fx_icmp_ge (tgt := 72) dq_PL_sort_18 (by decide) (fun hc18 => absurd hc18 (nI_ge (b := 10) hs (by decide))) (fun hc18 => ?_)
      refine fx_aload_n 2 dq_PL_sort_21 rfl rfl ?_
      refine fx_getr ok fq_PL_11 ((fx_sm_s e15b _).trans hp.1) dq_PL_sort_22 (by decide) ((fx_sm_r e15b _ _).trans hp.2.1) ?_
      refine fx_iload_n 0 dq_PL_sort_25 rfl rfl ?_
      refine fx_aaN ok ((fx_sm_s e15b _).trans hp.2.2.1) (by decide) rfl rfl ⟨hs, by decide⟩ ((fx_sm_r e15b _ _).trans (hp.2.2.2.2.2 s hs).1) dq_PL_sort_26 ?_
      refine fx_geti ok fq_PL_26 ((fx_sm_s e15b _).trans (hp.2.2.2.2.2 s hs).2.1) dq_PL_sort_27 (by decide) ?_
      refine fx_if_eq (tgt := 66) dq_PL_sort_30 (by decide) (fun hc30 => ?_) (fun hc30 => ?_)
      · -- 30: jump
        refine fx_iinc 0 dq_PL_sort_66 rfl (jz_i s) (by decide) rfl ?_
        refine fx_goto (tgt := 15) dq_PL_sort_69 (by decide) ?_
        refine fx_sub [0, 1, 2] rfl ?_
        exact fx_eqh (by rw [sortB, if_pos hc30]) hK15
      · -- 30: fall
        refine fx_aload_n 2 dq_PL_sort_33 rfl rfl ?_
        refine fx_getr ok fq_PL_11 ((fx_sm_s e15b _).trans hp.1) dq_PL_sort_34 (by decide) ((fx_sm_r e15b _ _).trans hp.2.1) ?_
        refine fx_iload_n 0 dq_PL_sort_37 rfl rfl ?_
        refine fx_aaN ok ((fx_sm_s e15b _).trans hp.2.2.1) (by decide) rfl rfl ⟨hs, by decide⟩ ((fx_sm_r e15b _ _).trans (hp.2.2.2.2.2 s hs).1) dq_PL_sort_38 ?_
        refine fx_geti ok fq_PL_30 ((fx_sm_s e15b _).trans (hp.2.2.2.2.2 s hs).2.1) dq_PL_sort_39 (by decide) ?_
        refine fx_iload_n 1 dq_PL_sort_42 rfl rfl ?_
        refine fx_icmp_ne (tgt := 66) dq_PL_sort_43 (by decide) (fun hc43 => ?_) (fun hc43 => ?_)
        · -- 43: jump
          refine fx_iinc 0 dq_PL_sort_66 rfl (jz_i s) (by decide) rfl ?_
          refine fx_goto (tgt := 15) dq_PL_sort_69 (by decide) ?_
          refine fx_sub [0, 1, 2] rfl ?_
          exact fx_eqh (by rw [sortB, if_neg hc30, if_neg hc43]) hK15
        · -- 43: fall
          refine fx_aload_n 2 dq_PL_sort_46 rfl rfl ?_
          refine fx_getr ok fq_PL_17 ((fx_sm_s e15b _).trans hp.1) dq_PL_sort_47 (by decide) ((fx_sm_r e15b _ _).trans hp.2.2.2.1) ?_
          refine fx_aload_n 2 dq_PL_sort_50 rfl rfl ?_
          refine fx_geti ok fq_PL_22 ((fx_sm_s e15b _).trans hp.1) dq_PL_sort_51 (by decide) ?_
          refine fx_iload_n 0 dq_PL_sort_54 rfl rfl ?_
          refine fx_iastore ok ((fx_sm_s e15b _).trans hp.2.2.2.2.1) (hI hc30 hc43) dq_PL_sort_55 ?_
          have e55w : fx_sm h (fx_wi k2 (p + 2) (fx_i k2 p 2).toNatClampNeg (nI s)) := fx_sm_t (h' := k2) e15b rfl
          refine fx_aload_n 2 dq_PL_sort_56 rfl rfl ?_
          refine fx_dup dq_PL_sort_57 rfl ?_
          refine fx_geti ok fq_PL_22 ((fx_sm_s e55w _).trans hp.1) dq_PL_sort_58 (by decide) ?_
          refine fx_iconst (v := 1) dq_PL_sort_61 (by decide) ?_
          refine fx_iadd dq_PL_sort_62 ?_
          refine fx_puti ok fp_PL_22 ((fx_sm_s e55w _).trans hp.1) (by decide) dq_PL_sort_63 (Or.inl (by decide)) ?_
          have e63w : fx_sm h (fx_wi (fx_wi k2 (p + 2) (fx_i k2 p 2).toNatClampNeg (nI s)) p 2 ((fx_i (fx_wi k2 (p + 2) (fx_i k2 p 2).toNatClampNeg (nI s)) p 2) + (1 : Int32))) := fx_sm_t (h' := (fx_wi k2 (p + 2) (fx_i k2 p 2).toNatClampNeg (nI s))) e55w rfl
          refine fx_iinc 0 dq_PL_sort_66 rfl (jz_i s) (by decide) rfl ?_
          refine fx_goto (tgt := 15) dq_PL_sort_69 (by decide) ?_
          refine fx_sub [0, 1, 2] rfl ?_
          exact fx_eqh (by rw [sortB, if_neg hc30, if_pos hc43]) hK15
    · have e15x : fx_sm h (it (sortB p o) k 10) := fx_sm_t (h' := k) e7b (fx_sm_it (sm_sortB p o) k 10)
      refine fx_iload_n 0 dq_PL_sort_15 rfl rfl ?_
      refine fx_bipush (v := 10) dq_PL_sort_16 (by decide) ?_
      refine fx_icmp_ge (tgt := 72) dq_PL_sort_18 (by decide) (fun hc18 => ?_) (fun hc18 => absurd (by decide) hc18)
      refine fx_iinc 1 dq_PL_sort_72 rfl (jz_i o) (by decide) rfl ?_
      refine fx_goto (tgt := 7) dq_PL_sort_75 (by decide) ?_
      refine fx_sub [0, 2] rfl ?_
      exact hK7
  · have e7x : fx_sm h (it (sortO p) (fx_wi h p 2 (0 : Int32)) 10) := fx_sm_t (h' := (fx_wi h p 2 (0 : Int32))) (rfl : fx_sm h (fx_wi h p 2 (0 : Int32))) (fx_sm_it (sm_sortO p) (fx_wi h p 2 (0 : Int32)) 10)
    refine fx_iload_n 0 dq_PL_sort_7 rfl rfl ?_
    refine fx_bipush (v := 9) dq_PL_sort_8 (by decide) ?_
    refine fx_icmp_gt (tgt := 78) dq_PL_sort_10 (by decide) (fun hc10 => ?_) (fun hc10 => absurd (by decide) hc10)
    exact fx_vreturn rfl dq_PL_sort_78 ⟨rfl, rfl⟩
theorem sm_PL_sort (h : fx_H) (p : Nat) : fx_sm h (k_PL_sort h p) := by
  unfold k_PL_sort
  exact fx_sm_t (h' := fx_wi h p 2 0) rfl (fx_sm_it (sm_sortO p) _ 10)
def b_PL_become (p q : Nat) (s : Nat) (k : fx_H) : fx_H := pCopy k (p + 3 + 4 * s) (q + 3 + 4 * s)
theorem sm_b_PL_become (p q s : Nat) (k : fx_H) : fx_sm k (b_PL_become p q s k) := rfl
def k_PL_become (h : fx_H) (p q : Nat) : fx_H := k_PL_sort (it (b_PL_become p q) h 10) p
set_option maxRecDepth 100000 in
set_option maxHeartbeats 600000 in
theorem c_PL_become {g : fx_G} (ok : fx_ok g) (h : fx_H) (p q : Nat) (hp : isL h p) (hq : isL h q) (hpq : p + 42 < q ∨ q + 42 < p) (hH : sortOk (it (b_PL_become p q) h 10) p) : fx_C g mq_PL_become [.ref p, .ref q] h (fx_is none (k_PL_become h p q)) 0 0 := by
  refine fx_body (by decide +kernel) (Nat.le_of_ble_eq_true rfl) ?_
  show fx_X g mq_PL_become 0 [(0, .ref p), (1, .ref q)] [] h _ 0 0
  refine fx_iconst (v := 0) dq_PL_become_0 (by decide) ?_
  refine fx_istore_n dq_PL_become_1 rfl (by decide) rfl ?_
  refine fx_for (fun s => [(2, .int (nI s)), (0, .ref p), (1, .ref q)]) (b_PL_become p q) h 10 (fun s hs hK2 => ?_) ?_
  · have e2b : fx_sm h (it (b_PL_become p q) h s) := fx_sm_t (h' := h) (rfl : fx_sm h h) (fx_sm_it (sm_b_PL_become p q) h s)
    generalize it (b_PL_become p q) h s = k at e2b hK2  ⊢
    refine fx_iload_n 0 dq_PL_become_2 rfl rfl ?_
    refine fx_bipush (v := 10) dq_PL_become_3 (by decide) ?_
    refine fx_icmp_ge (tgt := 29) dq_PL_become_5 (by decide) (fun hc5 => absurd hc5 (nI_ge (b := 10) hs (by decide))) (fun hc5 => ?_)
    refine fx_aload_n 1 dq_PL_become_8 rfl rfl ?_
    refine fx_getr ok fq_PL_11 ((fx_sm_s e2b _).trans hp.1) dq_PL_become_9 (by decide) ((fx_sm_r e2b _ _).trans hp.2.1) ?_
    refine fx_iload_n 0 dq_PL_become_12 rfl rfl ?_
    refine fx_aaN ok ((fx_sm_s e2b _).trans hp.2.2.1) (by decide) rfl rfl ⟨hs, by decide⟩ ((fx_sm_r e2b _ _).trans (hp.2.2.2.2.2 s hs).1) dq_PL_become_13 ?_
    refine fx_aload_n 2 dq_PL_become_14 rfl rfl ?_
    refine fx_getr ok fq_PL_11 ((fx_sm_s e2b _).trans hq.1) dq_PL_become_15 (by decide) ((fx_sm_r e2b _ _).trans hq.2.1) ?_
    refine fx_iload_n 0 dq_PL_become_18 rfl rfl ?_
    refine fx_aaN ok ((fx_sm_s e2b _).trans hq.2.2.1) (by decide) rfl rfl ⟨hs, by decide⟩ ((fx_sm_r e2b _ _).trans (hq.2.2.2.2.2 s hs).1) dq_PL_become_19 ?_
    refine fx_Vv1 ok sq_PL_33 ((fx_sm_s e2b _).trans (hp.2.2.2.2.2 s hs).2.1) (cp_become ok _ _ _ (by exact isP_sm e2b (hp.2.2.2.2.2 s hs).2) (by exact isP_sm e2b (hq.2.2.2.2.2 s hs).2) (by omega)) (by decide) (Nat.le_of_ble_eq_true rfl) dq_PL_become_20 ?_
    refine fx_iinc 0 dq_PL_become_23 rfl (jz_i s) (by decide) rfl ?_
    refine fx_goto (tgt := 2) dq_PL_become_26 (by decide) ?_
    refine fx_sub [0, 1, 2] rfl ?_
    exact hK2
  · have e2x : fx_sm h (it (b_PL_become p q) h 10) := fx_sm_t (h' := h) (rfl : fx_sm h h) (fx_sm_it (sm_b_PL_become p q) h 10)
    refine fx_iload_n 0 dq_PL_become_2 rfl rfl ?_
    refine fx_bipush (v := 10) dq_PL_become_3 (by decide) ?_
    refine fx_icmp_ge (tgt := 29) dq_PL_become_5 (by decide) (fun hc5 => ?_) (fun hc5 => absurd (by decide) hc5)
    refine fx_aload_n 1 dq_PL_become_29 rfl rfl ?_
    refine fx_Vv0 ok sq_PL_37 ((fx_sm_s e2x _).trans hp.1) (c_PL_sort ok _ _ (by exact isL_sm e2x hp) (by exact hH)) (by decide) (Nat.le_of_ble_eq_true rfl) dq_PL_become_30 ?_
    have e30 : fx_sm h (k_PL_sort (it (b_PL_become p q) h 10) p) := fx_sm_t (h' := (it (b_PL_become p q) h 10)) e2x (sm_PL_sort (it (b_PL_become p q) h 10) p)
    exact fx_vreturn rfl dq_PL_become_33 ⟨rfl, rfl⟩
theorem sm_PL_become (h : fx_H) (p q : Nat) : fx_sm h (k_PL_become h p q) := by
  unfold k_PL_become
  exact fx_sm_t (fx_sm_it (sm_b_PL_become p q) h 10) (sm_PL_sort _ p)
def b_DE_commitAll (d : Nat) (c : Int32) (s : Nat) (k : fx_H) : fx_H := if fx_i k (d + 45) s = c then (if fx_i (pCopy k (d + 2 + 3 + 4 * s) (d + 48 + 4 * s)) (d + 48 + 4 * s) 0 = 0 then fx_wi (pCopy k (d + 2 + 3 + 4 * s) (d + 48 + 4 * s)) (d + 46) s (1 : Int32) else fx_wi (pCopy k (d + 2 + 3 + 4 * s) (d + 48 + 4 * s)) (d + 46) s (0 : Int32)) else k
theorem sm_b_DE_commitAll (d : Nat) (c : Int32) (s : Nat) (k : fx_H) : fx_sm k (b_DE_commitAll d c s k) := by
  unfold b_DE_commitAll
  split
  · split <;> rfl
  · rfl
def k_DE_commitAll (h : fx_H) (d : Nat) (c : Int32) : fx_H := fx_wi (fx_wi (k_PL_sort (it (b_DE_commitAll d c) h 10) (d + 2)) (d + 47) c.toNatClampNeg (1 : Int32)) d 5 ((fx_i (fx_wi (k_PL_sort (it (b_DE_commitAll d c) h 10) (d + 2)) (d + 47) c.toNatClampNeg (1 : Int32)) d 5) + (1 : Int32))
set_option maxRecDepth 100000 in
set_option maxHeartbeats 600000 in
theorem c_DE_commitAll {g : fx_G} (ok : fx_ok g) (h : fx_H) (d : Nat) (c : Int32) (hd : isD h d) (hc : vp_in c 4) (hH : sortOk (it (b_DE_commitAll d c) h 10) (d + 2)) : fx_C g mq_DE_commitAll [.ref d, .int c] h (fx_is none (k_DE_commitAll h d c)) 0 0 := by
  refine fx_body (by decide +kernel) (Nat.le_of_ble_eq_true rfl) ?_
  show fx_X g mq_DE_commitAll 0 [(0, .ref d), (1, .int c)] [] h _ 0 0
  refine fx_iconst (v := 0) dq_DE_commitAll_0 (by decide) ?_
  refine fx_istore_n dq_DE_commitAll_1 rfl (by decide) rfl ?_
  refine fx_for (fun s => [(2, .int (nI s)), (0, .ref d), (1, .int c)]) (b_DE_commitAll d c) h 10 (fun s hs hK2 => ?_) ?_
  · have e2b : fx_sm h (it (b_DE_commitAll d c) h s) := fx_sm_t (h' := h) (rfl : fx_sm h h) (fx_sm_it (sm_b_DE_commitAll d c) h s)
    generalize it (b_DE_commitAll d c) h s = k at e2b hK2  ⊢
    refine fx_iload_n 0 dq_DE_commitAll_2 rfl rfl ?_
    refine fx_bipush (v := 10) dq_DE_commitAll_3 (by decide) ?_
    refine fx_icmp_ge (tgt := 65) dq_DE_commitAll_5 (by decide) (fun hc5 => absurd hc5 (nI_ge (b := 10) hs (by decide))) (fun hc5 => ?_)
    refine fx_aload_n 1 dq_DE_commitAll_8 rfl rfl ?_
    refine fx_getr ok fq_DE_24 ((fx_sm_s e2b _).trans hd.1) dq_DE_commitAll_9 (by decide) ((fx_sm_r e2b _ _).trans hd.2.2.2.2.2.1) ?_
    refine fx_iload_n 0 dq_DE_commitAll_12 rfl rfl ?_
    refine fx_iaN ok ((fx_sm_s e2b _).trans hd.2.2.2.2.2.2.1) ⟨hs, by decide⟩ dq_DE_commitAll_13 ?_
    refine fx_iload_n 2 dq_DE_commitAll_14 rfl rfl ?_
    refine fx_icmp_ne (tgt := 59) dq_DE_commitAll_15 (by decide) (fun hc15 => ?_) (fun hc15 => ?_)
    · -- 15: jump
      refine fx_iinc 0 dq_DE_commitAll_59 rfl (jz_i s) (by decide) rfl ?_
      refine fx_goto (tgt := 2) dq_DE_commitAll_62 (by decide) ?_
      refine fx_sub [0, 1, 2] rfl ?_
      exact fx_eqh (by rw [b_DE_commitAll, if_neg hc15]) hK2
    · -- 15: fall
      refine fx_aload_n 1 dq_DE_commitAll_18 rfl rfl ?_
      refine fx_getr ok fq_DE_20 ((fx_sm_s e2b _).trans hd.1) dq_DE_commitAll_19 (by decide) ((fx_sm_r e2b _ _).trans hd.2.2.2.1) ?_
      refine fx_getr ok fq_DE_48 ((fx_sm_s e2b _).trans hd.2.2.2.2.1.1) dq_DE_commitAll_22 (by decide) ((fx_sm_r e2b _ _).trans hd.2.2.2.2.1.2.1) ?_
      refine fx_iload_n 0 dq_DE_commitAll_25 rfl rfl ?_
      refine fx_aaN ok ((fx_sm_s e2b _).trans hd.2.2.2.2.1.2.2.1) (by decide) rfl rfl ⟨hs, by decide⟩ ((fx_sm_r e2b _ _).trans (hd.2.2.2.2.1.2.2.2.2.2 s hs).1) dq_DE_commitAll_26 ?_
      refine fx_aload_n 1 dq_DE_commitAll_27 rfl rfl ?_
      refine fx_getr ok fq_DE_11 ((fx_sm_s e2b _).trans hd.1) dq_DE_commitAll_28 (by decide) ((fx_sm_r e2b _ _).trans hd.2.1) ?_
      refine fx_iload_n 0 dq_DE_commitAll_31 rfl rfl ?_
      refine fx_aaN ok ((fx_sm_s e2b _).trans hd.2.2.1) (by decide) rfl rfl ⟨hs, by decide⟩ ((fx_sm_r e2b _ _).trans (hd.2.2.2.2.2.2.2.2.2.2.2 s hs).1) dq_DE_commitAll_32 ?_
      refine fx_Vv1 ok sq_DE_51 ((fx_sm_s e2b _).trans (hd.2.2.2.2.1.2.2.2.2.2 s hs).2.1) (cp_become ok _ _ _ (by exact isP_sm e2b (hd.2.2.2.2.1.2.2.2.2.2 s hs).2) (by exact isP_sm e2b (hd.2.2.2.2.2.2.2.2.2.2.2 s hs).2) (by omega)) (by decide) (Nat.le_of_ble_eq_true rfl) dq_DE_commitAll_33 ?_
      refine fx_aload_n 1 dq_DE_commitAll_36 rfl rfl ?_
      refine fx_getr ok fq_DE_28 ((fx_sm_s e2b _).trans hd.1) dq_DE_commitAll_37 (by decide) ((fx_sm_r e2b _ _).trans hd.2.2.2.2.2.2.2.1) ?_
      refine fx_iload_n 0 dq_DE_commitAll_40 rfl rfl ?_
      refine fx_aload_n 1 dq_DE_commitAll_41 rfl rfl ?_
      refine fx_getr ok fq_DE_11 ((fx_sm_s e2b _).trans hd.1) dq_DE_commitAll_42 (by decide) ((fx_sm_r e2b _ _).trans hd.2.1) ?_
      refine fx_iload_n 0 dq_DE_commitAll_45 rfl rfl ?_
      refine fx_aaN ok ((fx_sm_s e2b _).trans hd.2.2.1) (by decide) rfl rfl ⟨hs, by decide⟩ ((fx_sm_r e2b _ _).trans (hd.2.2.2.2.2.2.2.2.2.2.2 s hs).1) dq_DE_commitAll_46 ?_
      refine fx_geti ok fq_DE_40 ((fx_sm_s e2b _).trans (hd.2.2.2.2.2.2.2.2.2.2.2 s hs).2.1) dq_DE_commitAll_47 (by decide) ?_
      refine fx_if_ne (tgt := 57) dq_DE_commitAll_50 (by decide) (fun hc50 => ?_) (fun hc50 => ?_)
      · -- 50: jump
        refine fx_iconst (v := 0) dq_DE_commitAll_57 (by decide) ?_
        refine fx_bsN ok ((fx_sm_s e2b _).trans hd.2.2.2.2.2.2.2.2.1) (by decide) ⟨hs, by decide⟩ dq_DE_commitAll_58 ?_
        have e58w : fx_sm h (fx_wi (pCopy k (d + 2 + 3 + 4 * s) (d + 48 + 4 * s)) (d + 46) s (0 : Int32)) := fx_sm_t (h' := (pCopy k (d + 2 + 3 + 4 * s) (d + 48 + 4 * s))) e2b rfl
        refine fx_iinc 0 dq_DE_commitAll_59 rfl (jz_i s) (by decide) rfl ?_
        refine fx_goto (tgt := 2) dq_DE_commitAll_62 (by decide) ?_
        refine fx_sub [0, 1, 2] rfl ?_
        exact fx_eqh (by rw [b_DE_commitAll, if_pos hc15, if_neg hc50]) hK2
      · -- 50: fall
        refine fx_iconst (v := 1) dq_DE_commitAll_53 (by decide) ?_
        refine fx_goto (tgt := 58) dq_DE_commitAll_54 (by decide) ?_
        refine fx_bsN ok ((fx_sm_s e2b _).trans hd.2.2.2.2.2.2.2.2.1) (by decide) ⟨hs, by decide⟩ dq_DE_commitAll_58 ?_
        have e58w : fx_sm h (fx_wi (pCopy k (d + 2 + 3 + 4 * s) (d + 48 + 4 * s)) (d + 46) s (1 : Int32)) := fx_sm_t (h' := (pCopy k (d + 2 + 3 + 4 * s) (d + 48 + 4 * s))) e2b rfl
        refine fx_iinc 0 dq_DE_commitAll_59 rfl (jz_i s) (by decide) rfl ?_
        refine fx_goto (tgt := 2) dq_DE_commitAll_62 (by decide) ?_
        refine fx_sub [0, 1, 2] rfl ?_
        exact fx_eqh (by rw [b_DE_commitAll, if_pos hc15, if_pos hc50]) hK2
  · have e2x : fx_sm h (it (b_DE_commitAll d c) h 10) := fx_sm_t (h' := h) (rfl : fx_sm h h) (fx_sm_it (sm_b_DE_commitAll d c) h 10)
    refine fx_iload_n 0 dq_DE_commitAll_2 rfl rfl ?_
    refine fx_bipush (v := 10) dq_DE_commitAll_3 (by decide) ?_
    refine fx_icmp_ge (tgt := 65) dq_DE_commitAll_5 (by decide) (fun hc5 => ?_) (fun hc5 => absurd (by decide) hc5)
    refine fx_aload_n 1 dq_DE_commitAll_65 rfl rfl ?_
    refine fx_getr ok fq_DE_20 ((fx_sm_s e2x _).trans hd.1) dq_DE_commitAll_66 (by decide) ((fx_sm_r e2x _ _).trans hd.2.2.2.1) ?_
    refine fx_Vv0 ok sq_DE_55 ((fx_sm_s e2x _).trans hd.2.2.2.2.1.1) (c_PL_sort ok _ _ (by exact isL_sm e2x hd.2.2.2.2.1) (by exact hH)) (by decide) (Nat.le_of_ble_eq_true rfl) dq_DE_commitAll_69 ?_
    have e69 : fx_sm h (k_PL_sort (it (b_DE_commitAll d c) h 10) (d + 2)) := fx_sm_t (h' := (it (b_DE_commitAll d c) h 10)) e2x (sm_PL_sort (it (b_DE_commitAll d c) h 10) (d + 2))
    refine fx_aload_n 1 dq_DE_commitAll_72 rfl rfl ?_
    refine fx_getr ok fq_DE_32 ((fx_sm_s e69 _).trans hd.1) dq_DE_commitAll_73 (by decide) ((fx_sm_r e69 _ _).trans hd.2.2.2.2.2.2.2.2.2.1) ?_
    refine fx_iload_n 2 dq_DE_commitAll_76 rfl rfl ?_
    refine fx_iconst (v := 1) dq_DE_commitAll_77 (by decide) ?_
    refine fx_bastore ok ((fx_sm_s e69 _).trans hd.2.2.2.2.2.2.2.2.2.2.1) (by decide) hc dq_DE_commitAll_78 ?_
    have e78w : fx_sm h (fx_wi (k_PL_sort (it (b_DE_commitAll d c) h 10) (d + 2)) (d + 47) c.toNatClampNeg (1 : Int32)) := fx_sm_t (h' := (k_PL_sort (it (b_DE_commitAll d c) h 10) (d + 2))) e69 rfl
    refine fx_aload_n 1 dq_DE_commitAll_79 rfl rfl ?_
    refine fx_dup dq_DE_commitAll_80 rfl ?_
    refine fx_geti ok fq_DE_58 ((fx_sm_s e78w _).trans hd.1) dq_DE_commitAll_81 (by decide) ?_
    refine fx_iconst (v := 1) dq_DE_commitAll_84 (by decide) ?_
    refine fx_iadd dq_DE_commitAll_85 ?_
    refine fx_puti ok fp_DE_58 ((fx_sm_s e78w _).trans hd.1) (by decide) dq_DE_commitAll_86 (Or.inl (by decide)) ?_
    have e86w : fx_sm h (fx_wi (fx_wi (k_PL_sort (it (b_DE_commitAll d c) h 10) (d + 2)) (d + 47) c.toNatClampNeg (1 : Int32)) d 5 ((fx_i (fx_wi (k_PL_sort (it (b_DE_commitAll d c) h 10) (d + 2)) (d + 47) c.toNatClampNeg (1 : Int32)) d 5) + (1 : Int32))) := fx_sm_t (h' := (fx_wi (k_PL_sort (it (b_DE_commitAll d c) h 10) (d + 2)) (d + 47) c.toNatClampNeg (1 : Int32))) e78w rfl
    exact fx_vreturn rfl dq_DE_commitAll_89 ⟨rfl, rfl⟩
theorem sm_DE_commitAll (h : fx_H) (d : Nat) (c : Int32) : fx_sm h (k_DE_commitAll h d c) := by
  unfold k_DE_commitAll
  refine fx_sm_t ?_ (sm_wi _ _ _ _)
  refine fx_sm_t ?_ (sm_wi _ _ _ _)
  exact fx_sm_t (fx_sm_it (sm_b_DE_commitAll d c) h 10) (sm_PL_sort _ (d + 2))
theorem sm_DE_open (h : fx_H) (d : Nat) (s c w r : Int32) : fx_sm h (k_DE_open h d s c w r) := by
  unfold k_DE_open
  refine fx_sm_t ?_ (sm_wi _ _ _ _)
  exact fx_sm_t (sm_wi _ _ _ _) (sm_pStart _ _ _ _)
theorem sm_DE_allTaken (h : fx_H) (d : Nat) : fx_sm h (k_DE_allTaken h d) := by
  unfold k_DE_allTaken
  exact fx_sm_t (fx_sm_it (by intro n k; unfold b_DE_allTaken; (repeat split) <;> rfl) h 10) (fx_sm_it (by intro n k; unfold b2_DE_allTaken; (repeat split) <;> rfl) _ 4)
