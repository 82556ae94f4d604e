/-! ===== Desk, Planes, Misses: what is straight ===== -/
/-- a pile at p: pictures in a row of ten at the addresses pa 0 .. pa 9 (p + 3 + 4 s), the order upward, how high -/
def isL (h : fx_H) (p : Nat) : Prop := fx_s h p = some (.inl 3) ∧ fx_r h p 0 = some (p + 1) ∧ fx_s h (p + 1) = some (.inr (3, 10)) ∧ fx_r h p 1 = some (p + 2) ∧ fx_s h (p + 2) = some (.inr (0, 10)) ∧ ∀ s, s < 10 → fx_r h (p + 1) s = some (p + 3 + 4 * s) ∧ isP h (p + 3 + 4 * s)
theorem isL_sm {h h' : fx_H} {p : Nat} (e : fx_sm h h') (hp : isL h p) : isL h' p := by
  obtain ⟨h1, h2, h3, h4, h5, h6⟩ := hp
  refine ⟨(fx_sm_s e _).trans h1, (fx_sm_r e _ _).trans h2, (fx_sm_s e _).trans h3, (fx_sm_r e _ _).trans h4, (fx_sm_s e _).trans h5, fun s hs => ⟨(fx_sm_r e _ _).trans (h6 s hs).1, isP_sm e (h6 s hs).2⟩⟩
/-- the desk at d: drafts (row d + 1, pictures at d + 48 + 4 s), committed at d + 2, clients, leaving, waiting at d + 45, d + 46, d + 47 -/
def isD (h : fx_H) (d : Nat) : Prop := fx_s h d = some (.inl 4) ∧ fx_r h d 0 = some (d + 1) ∧ fx_s h (d + 1) = some (.inr (3, 10)) ∧ fx_r h d 1 = some (d + 2) ∧ isL h (d + 2) ∧ fx_r h d 2 = some (d + 45) ∧ fx_s h (d + 45) = some (.inr (0, 10)) ∧ fx_r h d 3 = some (d + 46) ∧ fx_s h (d + 46) = some (.inr (1, 10)) ∧ fx_r h d 4 = some (d + 47) ∧ fx_s h (d + 47) = some (.inr (1, 4)) ∧ ∀ s, s < 10 → fx_r h (d + 1) s = some (d + 48 + 4 * s) ∧ isP h (d + 48 + 4 * s)
theorem jz_gt {N i : Nat} (hi : i < N + 1) (hN : N < 1000) : ¬ nI N < nI i := nI_nlt (by omega) (by omega)
theorem isD_sm {h h' : fx_H} {d : Nat} (e : fx_sm h h') (hd : isD h d) : isD h' d := by
  obtain ⟨h1, h2, h3, h4, h5, h6, h7, h8, h9, h10, h11, h12⟩ := hd
  exact ⟨(fx_sm_s e _).trans h1, (fx_sm_r e _ _).trans h2, (fx_sm_s e _).trans h3, (fx_sm_r e _ _).trans h4, isL_sm e h5, (fx_sm_r e _ _).trans h6, (fx_sm_s e _).trans h7, (fx_sm_r e _ _).trans h8, (fx_sm_s e _).trans h9, (fx_sm_r e _ _).trans h10, (fx_sm_s e _).trans h11, fun s hs => ⟨(fx_sm_r e _ _).trans (h12 s hs).1, isP_sm e (h12 s hs).2⟩⟩
section FXI
variable {g : fx_G} {M : fx_M} {pc : Nat} {lv : List (Nat × Value)} {st : List Value} {h : fx_H} {Q : fx_O → fx_H → Prop} {mc ms : Nat}
theorem fx_iaN (ok : fx_ok g) {a n i : Nat} (hs : fx_s h a = some (.inr (0, n))) (hi : i < n ∧ n < 100000) (d : decode (fx_cc M) pc = .ok (.iaload, 1)) (K : fx_X g M (pc + 1) lv (.int (fx_i h a i) :: st) h Q mc ms) : fx_X g M pc lv (.int (nI i) :: .ref a :: st) h Q mc ms := by
  refine fx_iaload ok hs (vp_in_nI hi.1 (by omega)) d ?_
  rw [nI_clamp (by omega)]
  exact K
theorem fx_baN (ok : fx_ok g) {a n i : Nat} (hs : fx_s h a = some (.inr (1, n))) (hi : i < n ∧ n < 100000) (d : decode (fx_cc M) pc = .ok (.baload, 1)) (K : fx_X g M (pc + 1) lv (.int (fx_i h a i) :: st) h Q mc ms) : fx_X g M pc lv (.int (nI i) :: .ref a :: st) h Q mc ms := by
  refine fx_baload ok hs (vp_in_nI hi.1 (by omega)) d ?_
  rw [nI_clamp (by omega)]
  exact K
theorem fx_aaN (ok : fx_ok g) {a n i ak b : Nat} {ty : FieldType} (hs : fx_s h a = some (.inr (ak, n))) (hak : 3 ≤ ak) (hty : fx_tys[ak]? = some ty) (hrf : ty.isReference = true) (hi : i < n ∧ n < 100000) (hb : fx_r h a i = some b) (d : decode (fx_cc M) pc = .ok (.aaload, 1)) (K : fx_X g M (pc + 1) lv (.ref b :: st) h Q mc ms) : fx_X g M pc lv (.int (nI i) :: .ref a :: st) h Q mc ms :=
  fx_aaload ok hs hak hty hrf (vp_in_nI hi.1 (by omega)) (by rw [nI_clamp (by omega)]; exact hb) d K
theorem fx_isN (ok : fx_ok g) {a n i : Nat} {x : Int32} (hs : fx_s h a = some (.inr (0, n))) (hi : i < n ∧ n < 100000) (d : decode (fx_cc M) pc = .ok (.iastore, 1)) (K : fx_X g M (pc + 1) lv st (fx_wi h a i x) Q mc ms) : fx_X g M pc lv (.int x :: .int (nI i) :: .ref a :: st) h Q mc ms := by
  refine fx_iastore ok hs (vp_in_nI hi.1 (by omega)) d ?_
  rw [nI_clamp (by omega)]
  exact K
theorem fx_bsN (ok : fx_ok g) {a n i : Nat} {x : Int32} (hs : fx_s h a = some (.inr (1, n))) (hx : x = 0 ∨ x = 1) (hi : i < n ∧ n < 100000) (d : decode (fx_cc M) pc = .ok (.bastore, 1)) (K : fx_X g M (pc + 1) lv st (fx_wi h a i x) Q mc ms) : fx_X g M pc lv (.int x :: .int (nI i) :: .ref a :: st) h Q mc ms := by
  refine fx_bastore ok hs hx (vp_in_nI hi.1 (by omega)) d ?_
  rw [nI_clamp (by omega)]
  exact K
end FXI
theorem jz_in {s : Int32} (h1 : ¬ s < 0) (h2 : ¬ (10 : Int32) ≤ s) : vp_in s 10 := by
  rw [iz_lt] at h1
  rw [iz_le] at h2
  have e0 : (0 : Int32).toInt = 0 := rfl
  have e1 : (10 : Int32).toInt = 10 := rfl
  exact iz_in (by omega) (by omega)
def v_DE_hasDraft (h : fx_H) (d : Nat) (s : Int32) : Int32 := if s < 0 then (0 : Int32) else if (10 : Int32) ≤ s then (0 : Int32) else if (fx_i h (d + 48 + 4 * s.toNatClampNeg) 0) = 0 then (0 : Int32) else (1 : Int32)
set_option maxRecDepth 100000 in
set_option maxHeartbeats 600000 in
theorem c_DE_hasDraft {g : fx_G} (ok : fx_ok g) (h : fx_H) (d : Nat) (s : Int32) (hd : isD h d) : fx_C g mq_DE_hasDraft [.ref d, .int s] h (fx_is (some (v_DE_hasDraft h d s)) h) 0 0 := by
  refine fx_body (by decide +kernel) (Nat.le_of_ble_eq_true rfl) ?_
  show fx_X g mq_DE_hasDraft 0 [(0, .ref d), (1, .int s)] [] h _ 0 0
  refine fx_iload_n 1 dq_DE_hasDraft_0 rfl rfl ?_
  refine fx_if_lt (tgt := 26) dq_DE_hasDraft_1 (by decide) (fun hc1 => ?_) (fun hc1 => ?_)
  · -- 1: jump
    refine fx_iconst (v := 0) dq_DE_hasDraft_26 (by decide) ?_
    exact fx_zreturn rfl (by decide) dq_DE_hasDraft_27 ⟨by rw [v_DE_hasDraft, if_pos hc1], rfl⟩
  · -- 1: fall
    refine fx_iload_n 1 dq_DE_hasDraft_4 rfl rfl ?_
    refine fx_bipush (v := 10) dq_DE_hasDraft_5 (by decide) ?_
    refine fx_icmp_ge (tgt := 26) dq_DE_hasDraft_7 (by decide) (fun hc7 => ?_) (fun hc7 => ?_)
    · -- 7: jump
      refine fx_iconst (v := 0) dq_DE_hasDraft_26 (by decide) ?_
      exact fx_zreturn rfl (by decide) dq_DE_hasDraft_27 ⟨by rw [v_DE_hasDraft, if_neg hc1, if_pos hc7], rfl⟩
    · -- 7: fall
      refine fx_aload_n 0 dq_DE_hasDraft_10 rfl rfl ?_
      refine fx_getr ok fq_DE_11 hd.1 dq_DE_hasDraft_11 (by decide) hd.2.1 ?_
      refine fx_iload_n 1 dq_DE_hasDraft_14 rfl rfl ?_
      refine fx_aaload ok hd.2.2.1 (by decide) rfl rfl (jz_in hc1 hc7) (hd.2.2.2.2.2.2.2.2.2.2.2 _ (fx_in (jz_in hc1 hc7))).1 dq_DE_hasDraft_15 ?_
      refine fx_geti ok fq_DE_40 (hd.2.2.2.2.2.2.2.2.2.2.2 _ (fx_in (jz_in hc1 hc7))).2.1 dq_DE_hasDraft_16 (by decide) ?_
      refine fx_if_eq (tgt := 26) dq_DE_hasDraft_19 (by decide) (fun hc19 => ?_) (fun hc19 => ?_)
      · -- 19: jump
        refine fx_iconst (v := 0) dq_DE_hasDraft_26 (by decide) ?_
        exact fx_zreturn rfl (by decide) dq_DE_hasDraft_27 ⟨by rw [v_DE_hasDraft, if_neg hc1, if_neg hc7, if_pos hc19], rfl⟩
      · -- 19: fall
        refine fx_iconst (v := 1) dq_DE_hasDraft_22 (by decide) ?_
        refine fx_goto (tgt := 27) dq_DE_hasDraft_23 (by decide) ?_
        exact fx_zreturn rfl (by decide) dq_DE_hasDraft_27 ⟨by rw [v_DE_hasDraft, if_neg hc1, if_neg hc7, if_neg hc19], rfl⟩
def v_DE_isWaiting (h : fx_H) (d : Nat) (s : Nat) : Int32 := if (fx_i h (d + 45) s) = (-1 : Int32) then (0 : Int32) else if (fx_i h (d + 47) (fx_i h (d + 45) s).toNatClampNeg) = 0 then (0 : Int32) else (1 : Int32)
set_option maxRecDepth 100000 in
set_option maxHeartbeats 600000 in
theorem c_DE_isWaiting {g : fx_G} (ok : fx_ok g) (h : fx_H) (d : Nat) (s : Nat) (hd : isD h d) (hs : s < 10) (hc : ¬ fx_i h (d + 45) s = -1 → vp_in (fx_i h (d + 45) s) 4) : fx_C g mq_DE_isWaiting [.ref d, .int (nI s)] h (fx_is (some (v_DE_isWaiting h d s)) h) 0 0 := by
  refine fx_body (by decide +kernel) (Nat.le_of_ble_eq_true rfl) ?_
  show fx_X g mq_DE_isWaiting 0 [(0, .ref d), (1, .int (nI s))] [] h _ 0 0
  refine fx_aload_n 0 dq_DE_isWaiting_0 rfl rfl ?_
  refine fx_getr ok fq_DE_24 hd.1 dq_DE_isWaiting_1 (by decide) hd.2.2.2.2.2.1 ?_
  refine fx_iload_n 1 dq_DE_isWaiting_4 rfl rfl ?_
  refine fx_iaN ok hd.2.2.2.2.2.2.1 ⟨hs, by decide⟩ dq_DE_isWaiting_5 ?_
  refine fx_iconst (v := -1) dq_DE_isWaiting_6 (by decide) ?_
  refine fx_icmp_eq (tgt := 28) dq_DE_isWaiting_7 (by decide) (fun hc7 => ?_) (fun hc7 => ?_)
  · -- 7: jump
    refine fx_iconst (v := 0) dq_DE_isWaiting_28 (by decide) ?_
    exact fx_zreturn rfl (by decide) dq_DE_isWaiting_29 ⟨by rw [v_DE_isWaiting, if_pos hc7], rfl⟩
  · -- 7: fall
    refine fx_aload_n 0 dq_DE_isWaiting_10 rfl rfl ?_
    refine fx_getr ok fq_DE_32 hd.1 dq_DE_isWaiting_11 (by decide) hd.2.2.2.2.2.2.2.2.2.1 ?_
    refine fx_aload_n 0 dq_DE_isWaiting_14 rfl rfl ?_
    refine fx_getr ok fq_DE_24 hd.1 dq_DE_isWaiting_15 (by decide) hd.2.2.2.2.2.1 ?_
    refine fx_iload_n 1 dq_DE_isWaiting_18 rfl rfl ?_
    refine fx_iaN ok hd.2.2.2.2.2.2.1 ⟨hs, by decide⟩ dq_DE_isWaiting_19 ?_
    refine fx_baload ok hd.2.2.2.2.2.2.2.2.2.2.1 (hc hc7) dq_DE_isWaiting_20 ?_
    refine fx_if_eq (tgt := 28) dq_DE_isWaiting_21 (by decide) (fun hc21 => ?_) (fun hc21 => ?_)
    · -- 21: jump
      refine fx_iconst (v := 0) dq_DE_isWaiting_28 (by decide) ?_
      exact fx_zreturn rfl (by decide) dq_DE_isWaiting_29 ⟨by rw [v_DE_isWaiting, if_neg hc7, if_pos hc21], rfl⟩
    · -- 21: fall
      refine fx_iconst (v := 1) dq_DE_isWaiting_24 (by decide) ?_
      refine fx_goto (tgt := 29) dq_DE_isWaiting_25 (by decide) ?_
      exact fx_zreturn rfl (by decide) dq_DE_isWaiting_29 ⟨by rw [v_DE_isWaiting, if_neg hc7, if_neg hc21], rfl⟩
theorem sm_pShow (h : fx_H) (p : Nat) : fx_sm h (pShow h p) := by
  unfold pShow
  split <;> rfl
theorem sm_rset (h : fx_H) (a : Nat) (x y c r : Int32) : fx_sm h (rset h a x y c r) := rfl
theorem sm_wi (h : fx_H) (a k : Nat) (v : Int32) : fx_sm h (fx_wi h a k v) := rfl
theorem sm_pStart (h : fx_H) (p : Nat) (c r : Int32) : fx_sm h (pStart h p c r) := by
  unfold pStart
  refine fx_sm_t ?_ (sm_pShow _ p)
  refine fx_sm_t ?_ (sm_rset _ _ _ _ _ _)
  refine fx_sm_t ?_ (fillA_on (p + 1) 0 _ 96).1
  rfl
theorem sm_pCopy (h : fx_H) (p q : Nat) : fx_sm h (pCopy h p q) := rfl
def k_DE_open (h : fx_H) (d : Nat) (s c w r : Int32) : fx_H := fx_wi (pStart (fx_wi h (d + 45) s.toNatClampNeg c) (d + 48 + 4 * s.toNatClampNeg) w r) d 6 ((fx_i (pStart (fx_wi h (d + 45) s.toNatClampNeg c) (d + 48 + 4 * s.toNatClampNeg) w r) d 6) - (w * r))
set_option maxRecDepth 100000 in
set_option maxHeartbeats 600000 in
theorem c_DE_open {g : fx_G} (ok : fx_ok g) (h : fx_H) (d : Nat) (s c w r : Int32) (hd : isD h d) (hs : vp_in s 10) : fx_C g mq_DE_open [.ref d, .int s, .int c, .int w, .int r] h (fx_is none (k_DE_open h d s c w r)) 0 0 := by
  refine fx_body (by decide +kernel) (Nat.le_of_ble_eq_true rfl) ?_
  show fx_X g mq_DE_open 0 [(0, .ref d), (1, .int s), (2, .int c), (3, .int w), (4, .int r)] [] h _ 0 0
  refine fx_aload_n 0 dq_DE_open_0 rfl rfl ?_
  refine fx_getr ok fq_DE_24 hd.1 dq_DE_open_1 (by decide) hd.2.2.2.2.2.1 ?_
  refine fx_iload_n 1 dq_DE_open_4 rfl rfl ?_
  refine fx_iload_n 2 dq_DE_open_5 rfl rfl ?_
  refine fx_iastore ok hd.2.2.2.2.2.2.1 hs dq_DE_open_6 ?_
  refine fx_aload_n 0 dq_DE_open_7 rfl rfl ?_
  refine fx_getr ok fq_DE_11 hd.1 dq_DE_open_8 (by decide) hd.2.1 ?_
  refine fx_iload_n 1 dq_DE_open_11 rfl rfl ?_
  refine fx_aaload ok hd.2.2.1 (by decide) rfl rfl hs (hd.2.2.2.2.2.2.2.2.2.2.2 s.toNatClampNeg (fx_in hs)).1 dq_DE_open_12 ?_
  refine fx_iload_n 3 dq_DE_open_13 rfl rfl ?_
  refine fx_iload 4 dq_DE_open_14 rfl ?_
  refine fx_Vv2 ok sq_DE_44 (hd.2.2.2.2.2.2.2.2.2.2.2 s.toNatClampNeg (fx_in hs)).2.1 (cp_start ok _ _ (by exact (hd.2.2.2.2.2.2.2.2.2.2.2 s.toNatClampNeg (fx_in hs)).2) _ _) (by decide) (Nat.le_of_ble_eq_true rfl) dq_DE_open_16 ?_
  have e16 : fx_sm h (pStart (fx_wi h (d + 45) s.toNatClampNeg c) (d + 48 + 4 * s.toNatClampNeg) w r) := fx_sm_t (h' := (fx_wi h (d + 45) s.toNatClampNeg c)) (rfl : fx_sm h (fx_wi h (d + 45) s.toNatClampNeg c)) (sm_pStart (fx_wi h (d + 45) s.toNatClampNeg c) (d + 48 + 4 * s.toNatClampNeg) w r)
  refine fx_aload_n 0 dq_DE_open_19 rfl rfl ?_
  refine fx_dup dq_DE_open_20 rfl ?_
  refine fx_geti ok fq_DE_35 ((fx_sm_s e16 _).trans hd.1) dq_DE_open_21 (by decide) ?_
  refine fx_iload_n 3 dq_DE_open_24 rfl rfl ?_
  refine fx_iload 4 dq_DE_open_25 rfl ?_
  refine fx_imul dq_DE_open_27 ?_
  refine fx_isub dq_DE_open_28 ?_
  refine fx_puti ok fp_DE_35 ((fx_sm_s e16 _).trans hd.1) (by decide) dq_DE_open_29 (Or.inl (by decide)) ?_
  have e29w : fx_sm h (fx_wi (pStart (fx_wi h (d + 45) s.toNatClampNeg c) (d + 48 + 4 * s.toNatClampNeg) w r) d 6 ((fx_i (pStart (fx_wi h (d + 45) s.toNatClampNeg c) (d + 48 + 4 * s.toNatClampNeg) w r) d 6) - (w * r))) := fx_sm_t (h' := (pStart (fx_wi h (d + 45) s.toNatClampNeg c) (d + 48 + 4 * s.toNatClampNeg) w r)) e16 rfl
  exact fx_vreturn rfl dq_DE_open_32 ⟨rfl, rfl⟩
def b_DE_allTaken (d : Nat) (i : Nat) (k : fx_H) : fx_H := if (fx_i k (d + 46) i) = 0 then k else fx_wi (fx_wi (fx_wi k (d + 46) i (0 : Int32)) (d + 45) i (-1 : Int32)) d 6 ((fx_i (fx_wi (fx_wi k (d + 46) i (0 : Int32)) (d + 45) i (-1 : Int32)) d 6) + ((fx_i (fx_wi (fx_wi k (d + 46) i (0 : Int32)) (d + 45) i (-1 : Int32)) (d + 48 + 4 * i) 1) * (fx_i (fx_wi (fx_wi k (d + 46) i (0 : Int32)) (d + 45) i (-1 : Int32)) (d + 48 + 4 * i) 2)))
def b2_DE_allTaken (d : Nat) (i : Nat) (k : fx_H) : fx_H := fx_wi k (d + 47) i (0 : Int32)
def k_DE_allTaken (h : fx_H) (d : Nat) : fx_H := (it (b2_DE_allTaken d) (it (b_DE_allTaken d) h 10) 4)
set_option maxRecDepth 100000 in
set_option maxHeartbeats 600000 in
theorem c_DE_allTaken {g : fx_G} (ok : fx_ok g) (h : fx_H) (d : Nat) (hd : isD h d) : fx_C g mq_DE_allTaken [.ref d] h (fx_is none (k_DE_allTaken h d)) 0 0 := by
  refine fx_body (by decide +kernel) (Nat.le_of_ble_eq_true rfl) ?_
  show fx_X g mq_DE_allTaken 0 [(0, .ref d)] [] h _ 0 0
  refine fx_iconst (v := 0) dq_DE_allTaken_0 (by decide) ?_
  refine fx_istore_n dq_DE_allTaken_1 rfl (by decide) rfl ?_
  refine fx_for (fun i => [(1, .int (nI i)), (0, .ref d)]) (b_DE_allTaken d) h 10 (fun i hi hK2 => ?_) ?_
  · have e2b : fx_sm h (it (b_DE_allTaken d) h i) := fx_sm_t (h' := h) (rfl : fx_sm h h) (fx_sm_it (by intro n k; unfold b_DE_allTaken; (repeat split) <;> rfl) h i)
    generalize it (b_DE_allTaken d) h i = k at e2b hK2  ⊢
    refine fx_iload_n 0 dq_DE_allTaken_2 rfl rfl ?_
    refine fx_bipush (v := 10) dq_DE_allTaken_3 (by decide) ?_
    refine fx_icmp_ge (tgt := 65) dq_DE_allTaken_5 (by decide) (fun hc5 => absurd hc5 (nI_ge (b := 10) hi (by decide))) (fun hc5 => ?_)
    refine fx_aload_n 1 dq_DE_allTaken_8 rfl rfl ?_
    refine fx_getr ok fq_DE_28 ((fx_sm_s e2b _).trans hd.1) dq_DE_allTaken_9 (by decide) ((fx_sm_r e2b _ _).trans hd.2.2.2.2.2.2.2.1) ?_
    refine fx_iload_n 0 dq_DE_allTaken_12 rfl rfl ?_
    refine fx_baN ok ((fx_sm_s e2b _).trans hd.2.2.2.2.2.2.2.2.1) ⟨hi, by decide⟩ dq_DE_allTaken_13 ?_
    refine fx_if_eq (tgt := 59) dq_DE_allTaken_14 (by decide) (fun hc14 => ?_) (fun hc14 => ?_)
    · -- 14: jump
      refine fx_iinc 0 dq_DE_allTaken_59 rfl (jz_i i) (by decide) rfl ?_
      refine fx_goto (tgt := 2) dq_DE_allTaken_62 (by decide) ?_
      refine fx_sub [0, 1] rfl ?_
      exact fx_eqh (by rw [b_DE_allTaken, if_pos hc14]) hK2
    · -- 14: fall
      refine fx_aload_n 1 dq_DE_allTaken_17 rfl rfl ?_
      refine fx_getr ok fq_DE_28 ((fx_sm_s e2b _).trans hd.1) dq_DE_allTaken_18 (by decide) ((fx_sm_r e2b _ _).trans hd.2.2.2.2.2.2.2.1) ?_
      refine fx_iload_n 0 dq_DE_allTaken_21 rfl rfl ?_
      refine fx_iconst (v := 0) dq_DE_allTaken_22 (by decide) ?_
      refine fx_bsN ok ((fx_sm_s e2b _).trans hd.2.2.2.2.2.2.2.2.1) (by decide) ⟨hi, by decide⟩ dq_DE_allTaken_23 ?_
      have e23w : fx_sm h (fx_wi k (d + 46) i (0 : Int32)) := fx_sm_t (h' := k) e2b rfl
      refine fx_aload_n 1 dq_DE_allTaken_24 rfl rfl ?_
      refine fx_getr ok fq_DE_24 ((fx_sm_s e23w _).trans hd.1) dq_DE_allTaken_25 (by decide) ((fx_sm_r e23w _ _).trans hd.2.2.2.2.2.1) ?_
      refine fx_iload_n 0 dq_DE_allTaken_28 rfl rfl ?_
      refine fx_iconst (v := -1) dq_DE_allTaken_29 (by decide) ?_
      refine fx_isN ok ((fx_sm_s e23w _).trans hd.2.2.2.2.2.2.1) ⟨hi, by decide⟩ dq_DE_allTaken_30 ?_
      have e30w : fx_sm h (fx_wi (fx_wi k (d + 46) i (0 : Int32)) (d + 45) i (-1 : Int32)) := fx_sm_t (h' := (fx_wi k (d + 46) i (0 : Int32))) e23w rfl
      refine fx_aload_n 1 dq_DE_allTaken_31 rfl rfl ?_
      refine fx_dup dq_DE_allTaken_32 rfl ?_
      refine fx_geti ok fq_DE_35 ((fx_sm_s e30w _).trans hd.1) dq_DE_allTaken_33 (by decide) ?_
      refine fx_aload_n 1 dq_DE_allTaken_36 rfl rfl ?_
      refine fx_getr ok fq_DE_11 ((fx_sm_s e30w _).trans hd.1) dq_DE_allTaken_37 (by decide) ((fx_sm_r e30w _ _).trans hd.2.1) ?_
      refine fx_iload_n 0 dq_DE_allTaken_40 rfl rfl ?_
      refine fx_aaN ok ((fx_sm_s e30w _).trans hd.2.2.1) (by decide) rfl rfl ⟨hi, by decide⟩ ((fx_sm_r e30w _ _).trans (hd.2.2.2.2.2.2.2.2.2.2.2 i hi).1) dq_DE_allTaken_41 ?_
      refine fx_geti ok fq_DE_61 ((fx_sm_s e30w _).trans (hd.2.2.2.2.2.2.2.2.2.2.2 i hi).2.1) dq_DE_allTaken_42 (by decide) ?_
      refine fx_aload_n 1 dq_DE_allTaken_45 rfl rfl ?_
      refine fx_getr ok fq_DE_11 ((fx_sm_s e30w _).trans hd.1) dq_DE_allTaken_46 (by decide) ((fx_sm_r e30w _ _).trans hd.2.1) ?_
      refine fx_iload_n 0 dq_DE_allTaken_49 rfl rfl ?_
      refine fx_aaN ok ((fx_sm_s e30w _).trans hd.2.2.1) (by decide) rfl rfl ⟨hi, by decide⟩ ((fx_sm_r e30w _ _).trans (hd.2.2.2.2.2.2.2.2.2.2.2 i hi).1) dq_DE_allTaken_50 ?_
      refine fx_geti ok fq_DE_64 ((fx_sm_s e30w _).trans (hd.2.2.2.2.2.2.2.2.2.2.2 i hi).2.1) dq_DE_allTaken_51 (by decide) ?_
      refine fx_imul dq_DE_allTaken_54 ?_
      refine fx_iadd dq_DE_allTaken_55 ?_
      refine fx_puti ok fp_DE_35 ((fx_sm_s e30w _).trans hd.1) (by decide) dq_DE_allTaken_56 (Or.inl (by decide)) ?_
      have e56w : fx_sm h (fx_wi (fx_wi (fx_wi k (d + 46) i (0 : Int32)) (d + 45) i (-1 : Int32)) d 6 ((fx_i (fx_wi (fx_wi k (d + 46) i (0 : Int32)) (d + 45) i (-1 : Int32)) d 6) + ((fx_i (fx_wi (fx_wi k (d + 46) i (0 : Int32)) (d + 45) i (-1 : Int32)) (d + 48 + 4 * i) 1) * (fx_i (fx_wi (fx_wi k (d + 46) i (0 : Int32)) (d + 45) i (-1 : Int32)) (d + 48 + 4 * i) 2)))) := fx_sm_t (h' := (fx_wi (fx_wi k (d + 46) i (0 : Int32)) (d + 45) i (-1 : Int32))) e30w rfl
      refine fx_iinc 0 dq_DE_allTaken_59 rfl (jz_i i) (by decide) rfl ?_
      refine fx_goto (tgt := 2) dq_DE_allTaken_62 (by decide) ?_
      refine fx_sub [0, 1] rfl ?_
      exact fx_eqh (by rw [b_DE_allTaken, if_neg hc14]) hK2
  · have e2x : fx_sm h (it (b_DE_allTaken d) h 10) := fx_sm_t (h' := h) (rfl : fx_sm h h) (fx_sm_it (by intro n k; unfold b_DE_allTaken; (repeat split) <;> rfl) h 10)
    refine fx_iload_n 0 dq_DE_allTaken_2 rfl rfl ?_
    refine fx_bipush (v := 10) dq_DE_allTaken_3 (by decide) ?_
    refine fx_icmp_ge (tgt := 65) dq_DE_allTaken_5 (by decide) (fun hc5 => ?_) (fun hc5 => absurd (by decide) hc5)
    refine fx_iconst (v := 0) dq_DE_allTaken_65 (by decide) ?_
    refine fx_istore_n dq_DE_allTaken_66 rfl (by decide) rfl ?_
    refine fx_for (fun i => [(1, .int (nI i)), (0, .ref d)]) (b2_DE_allTaken d) (it (b_DE_allTaken d) h 10) 4 (fun i hi hK67 => ?_) ?_
    · have e67b : fx_sm h (it (b2_DE_allTaken d) (it (b_DE_allTaken d) h 10) i) := fx_sm_t (h' := (it (b_DE_allTaken d) h 10)) e2x (fx_sm_it (by intro n k; unfold b2_DE_allTaken; (repeat split) <;> rfl) (it (b_DE_allTaken d) h 10) i)
      generalize it (b2_DE_allTaken d) (it (b_DE_allTaken d) h 10) i = k at e67b hK67  ⊢
      refine fx_iload_n 0 dq_DE_allTaken_67 rfl rfl ?_
      refine fx_iconst (v := 4) dq_DE_allTaken_68 (by decide) ?_
      refine fx_icmp_ge (tgt := 85) dq_DE_allTaken_69 (by decide) (fun hc69 => absurd hc69 (nI_ge (b := 4) hi (by decide))) (fun hc69 => ?_)
      refine fx_aload_n 1 dq_DE_allTaken_72 rfl rfl ?_
      refine fx_getr ok fq_DE_32 ((fx_sm_s e67b _).trans hd.1) dq_DE_allTaken_73 (by decide) ((fx_sm_r e67b _ _).trans hd.2.2.2.2.2.2.2.2.2.1) ?_
      refine fx_iload_n 0 dq_DE_allTaken_76 rfl rfl ?_
      refine fx_iconst (v := 0) dq_DE_allTaken_77 (by decide) ?_
      refine fx_bsN ok ((fx_sm_s e67b _).trans hd.2.2.2.2.2.2.2.2.2.2.1) (by decide) ⟨hi, by decide⟩ dq_DE_allTaken_78 ?_
      have e78w : fx_sm h (fx_wi k (d + 47) i (0 : Int32)) := fx_sm_t (h' := k) e67b rfl
      refine fx_iinc 0 dq_DE_allTaken_79 rfl (jz_i i) (by decide) rfl ?_
      refine fx_goto (tgt := 67) dq_DE_allTaken_82 (by decide) ?_
      refine fx_sub [0, 1] rfl ?_
      exact hK67
    · have e67x : fx_sm h (it (b2_DE_allTaken d) (it (b_DE_allTaken d) h 10) 4) := fx_sm_t (h' := (it (b_DE_allTaken d) h 10)) e2x (fx_sm_it (by intro n k; unfold b2_DE_allTaken; (repeat split) <;> rfl) (it (b_DE_allTaken d) h 10) 4)
      refine fx_iload_n 0 dq_DE_allTaken_67 rfl rfl ?_
      refine fx_iconst (v := 4) dq_DE_allTaken_68 (by decide) ?_
      refine fx_icmp_ge (tgt := 85) dq_DE_allTaken_69 (by decide) (fun hc69 => ?_) (fun hc69 => absurd (by decide) hc69)
      exact fx_vreturn rfl dq_DE_allTaken_85 ⟨rfl, rfl⟩
