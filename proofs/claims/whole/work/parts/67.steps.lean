/-! ===== makeSteps, begin; Beam ===== -/
theorem sm_CO_makeStep (h : fx_H) (c f b : Nat) : fx_sm h (k_CO_makeStep h c f b) := by
  unfold k_CO_makeStep
  split
  · have e := fx_sm_t (kBl_on h b (b + 2 + 2 + cHole h c)).1 (sm_wi _ c 10 (v_CO_nextLevel (kBl h b (b + 2 + 2 + cHole h c)) c f b (b + 2 + 2 + cHole h c) 0))
    split
    · exact fx_sm_t e (sm_CO_startHole _ _ _ _ _)
    · exact e
  · have e := fx_sm_t (kPt_on h b (c + 1 + 3 + 4 * pU h (c + 1) (cL h c)) (b + 2 + 2 + cHole h c)).1 (sm_wi _ c 10 (v_CO_nextLevel (kPt h b (c + 1 + 3 + 4 * pU h (c + 1) (cL h c)) (b + 2 + 2 + cHole h c)) c f b (b + 2 + 2 + cHole h c) (cL h c + 1)))
    split
    · exact fx_sm_t e (sm_CO_startHole _ _ _ _ _)
    · exact e
/-- how many of n steps are made, and the heap behind them -/
def mkC (c f b : Nat) : Nat → fx_H → Nat
  | 0, _ => 0
  | n + 1, k => if fx_i k c 6 = 1 then mkC c f b n (k_CO_makeStep k c f b) + 1 else 0
def mkH (c f b : Nat) : Nat → fx_H → fx_H
  | 0, k => k
  | n + 1, k => if fx_i k c 6 = 1 then mkH c f b n (k_CO_makeStep k c f b) else k
def mkP (c f b : Nat) : Nat → fx_H → Prop
  | 0, _ => True
  | n + 1, k => fx_i k c 6 = 1 → stPre k c b ∧ mkP c f b n (k_CO_makeStep k c f b)
theorem sm_mkH (c f b : Nat) : ∀ (n : Nat) (k : fx_H), fx_sm k (mkH c f b n k)
  | 0, _ => rfl
  | n + 1, k => by
    rw [mkH]
    split
    · exact fx_sm_t (sm_CO_makeStep k c f b) (sm_mkH c f b n _)
    · rfl
set_option maxRecDepth 100000 in
set_option maxHeartbeats 600000 in
theorem cc_steps {g : fx_G} (ok : fx_ok g) (c f b : Nat) : ∀ (n m : Nat) (h : fx_H) (hC : isC h c f b) (hP : mkP c f b n h) (hmn : m + n ≤ 1000), fx_X g mq_CO_makeSteps 2 [(2, .int (nI m)), (0, .ref c), (1, .int (nI (m + n)))] [] h (fx_is (some (nI (m + mkC c f b n h))) (mkH c f b n h)) 0 0 := by
  intro n
  induction n with
  | zero =>
      intro m h hC hP hmn
      refine fx_iload_n 0 dq_CO_makeSteps_2 rfl rfl ?_
      refine fx_iload_n 2 dq_CO_makeSteps_3 rfl rfl ?_
      refine fx_icmp_ge (tgt := 25) dq_CO_makeSteps_4 (by decide) (fun hc4 => ?_) (fun hc4 => absurd (nI_le (Nat.le_refl _) (by omega)) hc4)
      refine fx_iload_n 0 dq_CO_makeSteps_25 rfl rfl ?_
      exact fx_ireturn rfl dq_CO_makeSteps_26 ⟨rfl, rfl⟩
  | succ n ih =>
      intro m h hC hP hmn
      refine fx_iload_n 0 dq_CO_makeSteps_2 rfl rfl ?_
      refine fx_iload_n 2 dq_CO_makeSteps_3 rfl rfl ?_
      refine fx_icmp_ge (tgt := 25) dq_CO_makeSteps_4 (by decide) (fun hc4 => absurd hc4 (nI_ge (by omega) (by omega))) (fun hc4 => ?_)
      refine fx_aload_n 1 dq_CO_makeSteps_7 rfl rfl ?_
      refine fx_geti ok fq_CO_45 hC.1 dq_CO_makeSteps_8 (by decide) ?_
      refine fx_iconst (v := 1) dq_CO_makeSteps_11 (by decide) ?_
      refine fx_icmp_ne (tgt := 25) dq_CO_makeSteps_12 (by decide) (fun hc12 => ?_) (fun hc12 => ?_)
      · -- 12: jump
        refine fx_iload_n 0 dq_CO_makeSteps_25 rfl rfl ?_
        exact fx_ireturn rfl dq_CO_makeSteps_26 ⟨by rw [mkC, if_neg hc12]; rfl, by rw [mkH, if_neg hc12]⟩
      · -- 12: fall
        refine fx_aload_n 1 dq_CO_makeSteps_15 rfl rfl ?_
        refine fx_Vv0 ok sq_CO_120 hC.1 (c_CO_makeStep ok h c f b hC (hP hc12).1) (by decide) (Nat.le_of_ble_eq_true rfl) dq_CO_makeSteps_16 ?_
        refine fx_iinc 0 dq_CO_makeSteps_19 rfl (jz_i m) (by decide) rfl ?_
        refine fx_goto (tgt := 2) dq_CO_makeSteps_22 (by decide) ?_
        rw [mkC, mkH, if_pos hc12, if_pos hc12]
        refine fx_sub [0, 1, 2] rfl ?_
        have hq := ih (m + 1) (k_CO_makeStep h c f b) (isC_sm (sm_CO_makeStep h c f b) hC) (hP hc12).2 (by omega)
        rw [show m + 1 + n = m + (n + 1) by omega, show m + 1 + mkC c f b n (k_CO_makeStep h c f b) = m + (mkC c f b n (k_CO_makeStep h c f b) + 1) by omega] at hq
        exact hq
set_option maxRecDepth 100000 in
set_option maxHeartbeats 600000 in
theorem c_CO_makeSteps {g : fx_G} (ok : fx_ok g) (h : fx_H) (c f b n : Nat) (hC : isC h c f b) (hn : n ≤ 1000) (hP : mkP c f b n h) : fx_C g mq_CO_makeSteps [.ref c, .int (nI n)] h (fx_is (some (nI (mkC c f b n h))) (mkH c f b n h)) 0 0 := by
  refine fx_body (by decide +kernel) (Nat.le_of_ble_eq_true rfl) ?_
  show fx_X g mq_CO_makeSteps 0 [(0, .ref c), (1, .int (nI n))] [] h _ 0 0
  refine fx_iconst (v := 0) dq_CO_makeSteps_0 (by decide) ?_
  refine fx_istore_n dq_CO_makeSteps_1 rfl (by decide) rfl ?_
  have hq := cc_steps ok c f b n 0 h hC hP (by omega)
  rw [Nat.zero_add, Nat.zero_add] at hq
  exact hq
/-- the heaps of begin, one behind the other -/
def bg3 (h : fx_H) (c d f b : Nat) : fx_H := fx_wi (k_PL_become (k_CO_rememberBefore h c f b) (c + 1) (d + 2)) c 7 (fx_i (k_PL_become (k_CO_rememberBefore h c f b) (c + 1) (d + 2)) d 5)
def bg4 (h : fx_H) (c d f b : Nat) : fx_H := k_PN_choose (bg3 h c d f b) (c + 44) (c + 1)
def bgP (h : fx_H) (c d f b : Nat) : Prop := sortOk (it (b_PL_become (c + 1) (d + 2)) (k_CO_rememberBefore h c f b) 10) (c + 1) ∧ pOk (bg3 h c d f b) (c + 1) ∧ (∀ s, s < 10 → sOk (bg3 h c d f b) (c + 1 + 3 + 4 * s)) ∧ mOk (bg4 h c d f b) (f + 2) ∧ mOk (bg4 h c d f b) (b + 2) ∧ (∀ s, s < 10 → ¬ fx_i (bg4 h c d f b) (d + 45) s = -1 → vp_in (fx_i (bg4 h c d f b) (d + 45) s) 4)
def k_CO_begin (h : fx_H) (c d f b : Nat) : fx_H := k_CO_startHole (fx_wi (k_DE_allTaken (k_CO_noteChanges (k_PN_choose (fx_wi (k_PL_become (k_CO_rememberBefore h c f b) (c + 1) (d + 2)) c 7 (fx_i (k_PL_become (k_CO_rememberBefore h c f b) (c + 1) (d + 2)) d 5)) (c + 44) (c + 1)) c d f b) d) c 6 (1 : Int32)) c f b (0 : Int32)
set_option maxRecDepth 100000 in
set_option maxHeartbeats 600000 in
theorem c_CO_begin {g : fx_G} (ok : fx_ok g) (h : fx_H) (c d f b : Nat) (hC : isC h c f b) (hd : isD h d) (hdc : d + 88 ≤ c) (hB : bgP h c d f b) : fx_C g mq_CO_begin [.ref c, .ref d] h (fx_is none (k_CO_begin h c d f b)) 0 0 := by
  refine fx_body (by decide +kernel) (Nat.le_of_ble_eq_true rfl) ?_
  show fx_X g mq_CO_begin 0 [(0, .ref c), (1, .ref d)] [] h _ 0 0
  refine fx_aload_n 0 dq_CO_begin_0 rfl rfl ?_
  refine fx_Vv0 ok sq_CO_50 hC.1 (c_CO_rememberBefore ok h c f b hC) (by decide) (Nat.le_of_ble_eq_true rfl) dq_CO_begin_1 ?_
  have e1 : fx_sm h (k_CO_rememberBefore h c f b) := fx_sm_t (h' := h) (rfl : fx_sm h h) (out_CO_rememberBefore h c f b).1
  refine fx_aload_n 0 dq_CO_begin_4 rfl rfl ?_
  refine fx_getr ok fq_CO_12 ((fx_sm_s e1 _).trans hC.1) dq_CO_begin_5 (by decide) ((fx_sm_r e1 _ _).trans hC.2.1) ?_
  refine fx_aload_n 1 dq_CO_begin_8 rfl rfl ?_
  refine fx_getr ok fq_CO_53 ((fx_sm_s e1 _).trans hd.1) dq_CO_begin_9 (by decide) ((fx_sm_r e1 _ _).trans hd.2.2.2.1) ?_
  refine fx_Vv1 ok sq_CO_58 ((fx_sm_s e1 _).trans hC.2.2.1.1) (c_PL_become ok (k_CO_rememberBefore h c f b) (c + 1) (d + 2) (isL_sm e1 hC.2.2.1) (isL_sm e1 hd.2.2.2.2.1) (by omega) hB.1) (by decide) (Nat.le_of_ble_eq_true rfl) dq_CO_begin_12 ?_
  have e12 : fx_sm h (k_PL_become (k_CO_rememberBefore h c f b) (c + 1) (d + 2)) := fx_sm_t (h' := (k_CO_rememberBefore h c f b)) e1 (sm_PL_become (k_CO_rememberBefore h c f b) (c + 1) (d + 2))
  refine fx_aload_n 0 dq_CO_begin_15 rfl rfl ?_
  refine fx_aload_n 1 dq_CO_begin_16 rfl rfl ?_
  refine fx_geti ok fq_CO_62 ((fx_sm_s e12 _).trans hd.1) dq_CO_begin_17 (by decide) ?_
  refine fx_puti ok fp_CO_65 ((fx_sm_s e12 _).trans hC.1) (by decide) dq_CO_begin_20 (Or.inl (by decide)) ?_
  have e20w : fx_sm h (fx_wi (k_PL_become (k_CO_rememberBefore h c f b) (c + 1) (d + 2)) c 7 (fx_i (k_PL_become (k_CO_rememberBefore h c f b) (c + 1) (d + 2)) d 5)) := fx_sm_t (h' := (k_PL_become (k_CO_rememberBefore h c f b) (c + 1) (d + 2))) e12 rfl
  refine fx_aload_n 0 dq_CO_begin_23 rfl rfl ?_
  refine fx_getr ok fq_CO_21 ((fx_sm_s e20w _).trans hC.1) dq_CO_begin_24 (by decide) ((fx_sm_r e20w _ _).trans hC.2.2.2.1) ?_
  refine fx_aload_n 0 dq_CO_begin_27 rfl rfl ?_
  refine fx_getr ok fq_CO_12 ((fx_sm_s e20w _).trans hC.1) dq_CO_begin_28 (by decide) ((fx_sm_r e20w _ _).trans hC.2.1) ?_
  refine fx_Vv1 ok sq_CO_68 ((fx_sm_s e20w _).trans hC.2.2.2.2.1.1) (c_PN_choose ok (fx_wi (k_PL_become (k_CO_rememberBefore h c f b) (c + 1) (d + 2)) c 7 (fx_i (k_PL_become (k_CO_rememberBefore h c f b) (c + 1) (d + 2)) d 5)) (c + 44) (c + 1) (isN_sm e20w hC.2.2.2.2.1) (isL_sm e20w hC.2.2.1) hB.2.1 hB.2.2.1 (by omega)) (by decide) (Nat.le_of_ble_eq_true rfl) dq_CO_begin_31 ?_
  have e31 : fx_sm h (k_PN_choose (fx_wi (k_PL_become (k_CO_rememberBefore h c f b) (c + 1) (d + 2)) c 7 (fx_i (k_PL_become (k_CO_rememberBefore h c f b) (c + 1) (d + 2)) d 5)) (c + 44) (c + 1)) := fx_sm_t (h' := (fx_wi (k_PL_become (k_CO_rememberBefore h c f b) (c + 1) (d + 2)) c 7 (fx_i (k_PL_become (k_CO_rememberBefore h c f b) (c + 1) (d + 2)) d 5))) e20w (fx_out_choose (fx_wi (k_PL_become (k_CO_rememberBefore h c f b) (c + 1) (d + 2)) c 7 (fx_i (k_PL_become (k_CO_rememberBefore h c f b) (c + 1) (d + 2)) d 5)) (c + 44) (c + 1)).1
  refine fx_aload_n 0 dq_CO_begin_34 rfl rfl ?_
  refine fx_aload_n 1 dq_CO_begin_35 rfl rfl ?_
  refine fx_Vv1 ok sq_CO_71 ((fx_sm_s e31 _).trans hC.1) (c_CO_noteChanges ok (k_PN_choose (fx_wi (k_PL_become (k_CO_rememberBefore h c f b) (c + 1) (d + 2)) c 7 (fx_i (k_PL_become (k_CO_rememberBefore h c f b) (c + 1) (d + 2)) d 5)) (c + 44) (c + 1)) c d f b (isC_sm e31 hC) (isD_sm e31 hd) hdc hB.2.2.2.1 hB.2.2.2.2.1 hB.2.2.2.2.2) (by decide) (Nat.le_of_ble_eq_true rfl) dq_CO_begin_36 ?_
  have e36 : fx_sm h (k_CO_noteChanges (k_PN_choose (fx_wi (k_PL_become (k_CO_rememberBefore h c f b) (c + 1) (d + 2)) c 7 (fx_i (k_PL_become (k_CO_rememberBefore h c f b) (c + 1) (d + 2)) d 5)) (c + 44) (c + 1)) c d f b) := fx_sm_t (h' := (k_PN_choose (fx_wi (k_PL_become (k_CO_rememberBefore h c f b) (c + 1) (d + 2)) c 7 (fx_i (k_PL_become (k_CO_rememberBefore h c f b) (c + 1) (d + 2)) d 5)) (c + 44) (c + 1))) e31 (sm_CO_noteChanges (k_PN_choose (fx_wi (k_PL_become (k_CO_rememberBefore h c f b) (c + 1) (d + 2)) c 7 (fx_i (k_PL_become (k_CO_rememberBefore h c f b) (c + 1) (d + 2)) d 5)) (c + 44) (c + 1)) c d f b)
  refine fx_aload_n 1 dq_CO_begin_39 rfl rfl ?_
  refine fx_Vv0 ok sq_CO_75 ((fx_sm_s e36 _).trans hd.1) (c_DE_allTaken ok (k_CO_noteChanges (k_PN_choose (fx_wi (k_PL_become (k_CO_rememberBefore h c f b) (c + 1) (d + 2)) c 7 (fx_i (k_PL_become (k_CO_rememberBefore h c f b) (c + 1) (d + 2)) d 5)) (c + 44) (c + 1)) c d f b) d (isD_sm e36 hd)) (by decide) (Nat.le_of_ble_eq_true rfl) dq_CO_begin_40 ?_
  have e40 : fx_sm h (k_DE_allTaken (k_CO_noteChanges (k_PN_choose (fx_wi (k_PL_become (k_CO_rememberBefore h c f b) (c + 1) (d + 2)) c 7 (fx_i (k_PL_become (k_CO_rememberBefore h c f b) (c + 1) (d + 2)) d 5)) (c + 44) (c + 1)) c d f b) d) := fx_sm_t (h' := (k_CO_noteChanges (k_PN_choose (fx_wi (k_PL_become (k_CO_rememberBefore h c f b) (c + 1) (d + 2)) c 7 (fx_i (k_PL_become (k_CO_rememberBefore h c f b) (c + 1) (d + 2)) d 5)) (c + 44) (c + 1)) c d f b)) e36 (sm_DE_allTaken (k_CO_noteChanges (k_PN_choose (fx_wi (k_PL_become (k_CO_rememberBefore h c f b) (c + 1) (d + 2)) c 7 (fx_i (k_PL_become (k_CO_rememberBefore h c f b) (c + 1) (d + 2)) d 5)) (c + 44) (c + 1)) c d f b) d)
  refine fx_aload_n 0 dq_CO_begin_43 rfl rfl ?_
  refine fx_iconst (v := 1) dq_CO_begin_44 (by decide) ?_
  refine fx_puti ok fp_CO_45 ((fx_sm_s e40 _).trans hC.1) (by decide) dq_CO_begin_45 (Or.inl (by decide)) ?_
  have e45w : fx_sm h (fx_wi (k_DE_allTaken (k_CO_noteChanges (k_PN_choose (fx_wi (k_PL_become (k_CO_rememberBefore h c f b) (c + 1) (d + 2)) c 7 (fx_i (k_PL_become (k_CO_rememberBefore h c f b) (c + 1) (d + 2)) d 5)) (c + 44) (c + 1)) c d f b) d) c 6 (1 : Int32)) := fx_sm_t (h' := (k_DE_allTaken (k_CO_noteChanges (k_PN_choose (fx_wi (k_PL_become (k_CO_rememberBefore h c f b) (c + 1) (d + 2)) c 7 (fx_i (k_PL_become (k_CO_rememberBefore h c f b) (c + 1) (d + 2)) d 5)) (c + 44) (c + 1)) c d f b) d)) e40 rfl
  refine fx_aload_n 0 dq_CO_begin_48 rfl rfl ?_
  refine fx_iconst (v := 0) dq_CO_begin_49 (by decide) ?_
  refine fx_Vv1 ok sq_CO_78 ((fx_sm_s e45w _).trans hC.1) (c_CO_startHole ok (fx_wi (k_DE_allTaken (k_CO_noteChanges (k_PN_choose (fx_wi (k_PL_become (k_CO_rememberBefore h c f b) (c + 1) (d + 2)) c 7 (fx_i (k_PL_become (k_CO_rememberBefore h c f b) (c + 1) (d + 2)) d 5)) (c + 44) (c + 1)) c d f b) d) c 6 (1 : Int32)) c f b (0 : Int32) (isC_sm e45w hC)) (by decide) (Nat.le_of_ble_eq_true rfl) dq_CO_begin_50 ?_
  have e50 : fx_sm h (k_CO_startHole (fx_wi (k_DE_allTaken (k_CO_noteChanges (k_PN_choose (fx_wi (k_PL_become (k_CO_rememberBefore h c f b) (c + 1) (d + 2)) c 7 (fx_i (k_PL_become (k_CO_rememberBefore h c f b) (c + 1) (d + 2)) d 5)) (c + 44) (c + 1)) c d f b) d) c 6 (1 : Int32)) c f b (0 : Int32)) := fx_sm_t (h' := (fx_wi (k_DE_allTaken (k_CO_noteChanges (k_PN_choose (fx_wi (k_PL_become (k_CO_rememberBefore h c f b) (c + 1) (d + 2)) c 7 (fx_i (k_PL_become (k_CO_rememberBefore h c f b) (c + 1) (d + 2)) d 5)) (c + 44) (c + 1)) c d f b) d) c 6 (1 : Int32))) e45w (sm_CO_startHole (fx_wi (k_DE_allTaken (k_CO_noteChanges (k_PN_choose (fx_wi (k_PL_become (k_CO_rememberBefore h c f b) (c + 1) (d + 2)) c 7 (fx_i (k_PL_become (k_CO_rememberBefore h c f b) (c + 1) (d + 2)) d 5)) (c + 44) (c + 1)) c d f b) d) c 6 (1 : Int32)) c f b (0 : Int32))
  exact fx_vreturn rfl dq_CO_begin_53 ⟨rfl, rfl⟩
theorem sm_CO_begin (h : fx_H) (c d f b : Nat) : fx_sm h (k_CO_begin h c d f b) := by
  unfold k_CO_begin
  refine fx_sm_t ?_ (sm_CO_startHole _ _ _ _ _)
  refine fx_sm_t ?_ (sm_wi _ _ _ _)
  refine fx_sm_t ?_ (sm_DE_allTaken _ _)
  refine fx_sm_t ?_ (sm_CO_noteChanges _ _ _ _ _)
  refine fx_sm_t ?_ (fx_out_choose _ _ _).1
  refine fx_sm_t ?_ (sm_wi _ _ _ _)
  exact fx_sm_t (out_CO_rememberBefore h c f b).1 (sm_PL_become _ _ _)
/-- the beam at e: its planes, what it has scanned, what was seen -/
def isB (h : fx_H) (e : Nat) : Prop := fx_s h e = some (.inl 9) ∧ fx_r h e 0 = some (e + 1) ∧ isN h (e + 1) ∧ fx_r h e 1 = some (e + 9) ∧ fx_s h (e + 9) = some (.inr (0, 200)) ∧ fx_r h e 2 = some (e + 10) ∧ fx_s h (e + 10) = some (.inr (0, 200))
theorem isB_sm {h h' : fx_H} {e : Nat} (m : fx_sm h h') (hp : isB h e) : isB h' e := by
  obtain ⟨h1, h2, h3, h4, h5, h6, h7⟩ := hp
  exact ⟨(fx_sm_s m _).trans h1, (fx_sm_r m _ _).trans h2, isN_sm m h3, (fx_sm_r m _ _).trans h4, (fx_sm_s m _).trans h5, (fx_sm_r m _ _).trans h6, (fx_sm_s m _).trans h7⟩
theorem scan_in {x : Int32} (hx : 0 ≤ x.toInt ∧ x.toInt ≤ 9) : ¬ x * 20 < 0 ∧ (x * 20).toNatClampNeg + (20 : Int32).toNatClampNeg ≤ 200 := by
  have e0 : (20 : Int32).toInt = 20 := rfl
  have e1 : (0 : Int32).toInt = 0 := rfl
  have e2 : (20 : Int32).toNatClampNeg = 20 := rfl
  have h1 : (x * 20).toInt = x.toInt * 20 := by rw [iz_mul (by rw [e0]; omega), e0]
  have h2 := iz_nn (a := x * 20) (by rw [h1]; omega)
  refine ⟨?_, ?_⟩
  · rw [iz_lt, h1, e1]
    omega
  · rw [e2]
    omega
def v_BE_scanRow (h : fx_H) (e m : Nat) : Int32 := ((fx_i (fx_wi (k_PN_mixInto (fx_cp h (m + 1) (e + 9) ((fx_i h e 3) * (20 : Int32)).toNatClampNeg ((fx_i h e 3) * (20 : Int32)).toNatClampNeg (20 : Int32).toNatClampNeg) (e + 1) (e + 9) (fx_i (fx_cp h (m + 1) (e + 9) ((fx_i h e 3) * (20 : Int32)).toNatClampNeg ((fx_i h e 3) * (20 : Int32)).toNatClampNeg (20 : Int32).toNatClampNeg) e 3)) e 3 ((fx_i (k_PN_mixInto (fx_cp h (m + 1) (e + 9) ((fx_i h e 3) * (20 : Int32)).toNatClampNeg ((fx_i h e 3) * (20 : Int32)).toNatClampNeg (20 : Int32).toNatClampNeg) (e + 1) (e + 9) (fx_i (fx_cp h (m + 1) (e + 9) ((fx_i h e 3) * (20 : Int32)).toNatClampNeg ((fx_i h e 3) * (20 : Int32)).toNatClampNeg (20 : Int32).toNatClampNeg) e 3)) e 3) + (1 : Int32))) e 3) - (1 : Int32))
def k_BE_scanRow (h : fx_H) (e m : Nat) : fx_H := fx_wi (k_PN_mixInto (fx_cp h (m + 1) (e + 9) ((fx_i h e 3) * (20 : Int32)).toNatClampNeg ((fx_i h e 3) * (20 : Int32)).toNatClampNeg (20 : Int32).toNatClampNeg) (e + 1) (e + 9) (fx_i (fx_cp h (m + 1) (e + 9) ((fx_i h e 3) * (20 : Int32)).toNatClampNeg ((fx_i h e 3) * (20 : Int32)).toNatClampNeg (20 : Int32).toNatClampNeg) e 3)) e 3 ((fx_i (k_PN_mixInto (fx_cp h (m + 1) (e + 9) ((fx_i h e 3) * (20 : Int32)).toNatClampNeg ((fx_i h e 3) * (20 : Int32)).toNatClampNeg (20 : Int32).toNatClampNeg) (e + 1) (e + 9) (fx_i (fx_cp h (m + 1) (e + 9) ((fx_i h e 3) * (20 : Int32)).toNatClampNeg ((fx_i h e 3) * (20 : Int32)).toNatClampNeg (20 : Int32).toNatClampNeg) e 3)) e 3) + (1 : Int32))
set_option maxRecDepth 100000 in
set_option maxHeartbeats 600000 in
theorem c_BE_scanRow {g : fx_G} (ok : fx_ok g) (h : fx_H) (e m : Nat) (hE : isB h e) (hm : isE h m) (hr : 0 ≤ (fx_i h e 3).toInt ∧ (fx_i h e 3).toInt ≤ 9) (hM : ∀ i, i < 2 → mixOk h (e + 1) (fx_i h e 3) i) : fx_C g mq_BE_scanRow [.ref e, .ref m] h (fx_is (some (v_BE_scanRow h e m)) (k_BE_scanRow h e m)) 0 0 := by
  refine fx_body (by decide +kernel) (Nat.le_of_ble_eq_true rfl) ?_
  show fx_X g mq_BE_scanRow 0 [(0, .ref e), (1, .ref m)] [] h _ 0 0
  refine fx_aload_n 0 dq_BE_scanRow_0 rfl rfl ?_
  refine fx_geti ok fq_BE_25 hE.1 dq_BE_scanRow_1 (by decide) ?_
  refine fx_bipush (v := 20) dq_BE_scanRow_4 (by decide) ?_
  refine fx_imul dq_BE_scanRow_6 ?_
  refine fx_istore_n dq_BE_scanRow_7 rfl (by decide) rfl ?_
  refine fx_aload_n 2 dq_BE_scanRow_8 rfl rfl ?_
  refine fx_getr ok fq_BE_29 hm.1 dq_BE_scanRow_9 (by decide) hm.2.1 ?_
  refine fx_iload_n 0 dq_BE_scanRow_12 rfl rfl ?_
  refine fx_aload_n 1 dq_BE_scanRow_13 rfl rfl ?_
  refine fx_getr ok fq_BE_18 hE.1 dq_BE_scanRow_14 (by decide) hE.2.2.2.1 ?_
  refine fx_iload_n 0 dq_BE_scanRow_17 rfl rfl ?_
  refine fx_bipush (v := 20) dq_BE_scanRow_18 (by decide) ?_
  refine fx_copy ok sq_BE_34 kj_cp.1 kj_cp.2.1 kj_cp.2.2 hm.2.2.1 hE.2.2.2.2.1 (scan_in hr).1 (scan_in hr).1 (by decide) (scan_in hr).2 (scan_in hr).2 (by decide) (Nat.le_of_ble_eq_true rfl) dq_BE_scanRow_20 ?_
  have ho : fx_on (e + 9) h (fx_cp h (m + 1) (e + 9) ((fx_i h e 3) * (20 : Int32)).toNatClampNeg ((fx_i h e 3) * (20 : Int32)).toNatClampNeg (20 : Int32).toNatClampNeg) := ⟨rfl, fun b hb j => by rw [fx_i_cp, if_neg hb]⟩
  refine fx_aload_n 1 dq_BE_scanRow_23 rfl rfl ?_
  refine fx_getr ok fq_BE_12 hE.1 dq_BE_scanRow_24 (by decide) hE.2.1 ?_
  refine fx_aload_n 1 dq_BE_scanRow_27 rfl rfl ?_
  refine fx_getr ok fq_BE_18 hE.1 dq_BE_scanRow_28 (by decide) hE.2.2.2.1 ?_
  refine fx_aload_n 1 dq_BE_scanRow_31 rfl rfl ?_
  refine fx_geti ok fq_BE_25 hE.1 dq_BE_scanRow_32 (by decide) ?_
  refine fx_Vv2 ok sq_BE_40 hE.2.2.1.1 (c_PN_mixInto ok (fx_cp h (m + 1) (e + 9) ((fx_i h e 3) * (20 : Int32)).toNatClampNeg ((fx_i h e 3) * (20 : Int32)).toNatClampNeg (20 : Int32).toNatClampNeg) (e + 1) (e + 9) (fx_i (fx_cp h (m + 1) (e + 9) ((fx_i h e 3) * (20 : Int32)).toNatClampNeg ((fx_i h e 3) * (20 : Int32)).toNatClampNeg (20 : Int32).toNatClampNeg) e 3) (by exact hE.2.2.1) (by exact hE.2.2.2.2.1) (by omega) (by exact fun i hi => by rw [ho.2 e (by omega)]; exact mixOk_on ho (by omega) hi (hM i hi))) (by decide) (Nat.le_of_ble_eq_true rfl) dq_BE_scanRow_35 ?_
  have e35 : fx_sm h (k_PN_mixInto (fx_cp h (m + 1) (e + 9) ((fx_i h e 3) * (20 : Int32)).toNatClampNeg ((fx_i h e 3) * (20 : Int32)).toNatClampNeg (20 : Int32).toNatClampNeg) (e + 1) (e + 9) (fx_i (fx_cp h (m + 1) (e + 9) ((fx_i h e 3) * (20 : Int32)).toNatClampNeg ((fx_i h e 3) * (20 : Int32)).toNatClampNeg (20 : Int32).toNatClampNeg) e 3)) := fx_sm_t (h' := (fx_cp h (m + 1) (e + 9) ((fx_i h e 3) * (20 : Int32)).toNatClampNeg ((fx_i h e 3) * (20 : Int32)).toNatClampNeg (20 : Int32).toNatClampNeg)) (rfl : fx_sm h (fx_cp h (m + 1) (e + 9) ((fx_i h e 3) * (20 : Int32)).toNatClampNeg ((fx_i h e 3) * (20 : Int32)).toNatClampNeg (20 : Int32).toNatClampNeg)) (mixInto_on (fx_cp h (m + 1) (e + 9) ((fx_i h e 3) * (20 : Int32)).toNatClampNeg ((fx_i h e 3) * (20 : Int32)).toNatClampNeg (20 : Int32).toNatClampNeg) (e + 1) (e + 9) (fx_i (fx_cp h (m + 1) (e + 9) ((fx_i h e 3) * (20 : Int32)).toNatClampNeg ((fx_i h e 3) * (20 : Int32)).toNatClampNeg (20 : Int32).toNatClampNeg) e 3)).1
  refine fx_aload_n 1 dq_BE_scanRow_38 rfl rfl ?_
  refine fx_dup dq_BE_scanRow_39 rfl ?_
  refine fx_geti ok fq_BE_25 ((fx_sm_s e35 _).trans hE.1) dq_BE_scanRow_40 (by decide) ?_
  refine fx_iconst (v := 1) dq_BE_scanRow_43 (by decide) ?_
  refine fx_iadd dq_BE_scanRow_44 ?_
  refine fx_puti ok fp_BE_25 ((fx_sm_s e35 _).trans hE.1) (by decide) dq_BE_scanRow_45 (Or.inl (by decide)) ?_
  have e45w : fx_sm h (fx_wi (k_PN_mixInto (fx_cp h (m + 1) (e + 9) ((fx_i h e 3) * (20 : Int32)).toNatClampNeg ((fx_i h e 3) * (20 : Int32)).toNatClampNeg (20 : Int32).toNatClampNeg) (e + 1) (e + 9) (fx_i (fx_cp h (m + 1) (e + 9) ((fx_i h e 3) * (20 : Int32)).toNatClampNeg ((fx_i h e 3) * (20 : Int32)).toNatClampNeg (20 : Int32).toNatClampNeg) e 3)) e 3 ((fx_i (k_PN_mixInto (fx_cp h (m + 1) (e + 9) ((fx_i h e 3) * (20 : Int32)).toNatClampNeg ((fx_i h e 3) * (20 : Int32)).toNatClampNeg (20 : Int32).toNatClampNeg) (e + 1) (e + 9) (fx_i (fx_cp h (m + 1) (e + 9) ((fx_i h e 3) * (20 : Int32)).toNatClampNeg ((fx_i h e 3) * (20 : Int32)).toNatClampNeg (20 : Int32).toNatClampNeg) e 3)) e 3) + (1 : Int32))) := fx_sm_t (h' := (k_PN_mixInto (fx_cp h (m + 1) (e + 9) ((fx_i h e 3) * (20 : Int32)).toNatClampNeg ((fx_i h e 3) * (20 : Int32)).toNatClampNeg (20 : Int32).toNatClampNeg) (e + 1) (e + 9) (fx_i (fx_cp h (m + 1) (e + 9) ((fx_i h e 3) * (20 : Int32)).toNatClampNeg ((fx_i h e 3) * (20 : Int32)).toNatClampNeg (20 : Int32).toNatClampNeg) e 3))) e35 rfl
  refine fx_aload_n 1 dq_BE_scanRow_48 rfl rfl ?_
  refine fx_geti ok fq_BE_25 ((fx_sm_s e45w _).trans hE.1) dq_BE_scanRow_49 (by decide) ?_
  refine fx_iconst (v := 1) dq_BE_scanRow_52 (by decide) ?_
  refine fx_isub dq_BE_scanRow_53 ?_
  exact fx_ireturn rfl dq_BE_scanRow_54 ⟨rfl, rfl⟩
def k_BE_endFrame (h : fx_H) (e : Nat) (n : Int32) : fx_H := fx_wi (fx_wi (fx_wi (fx_cp h (e + 9) (e + 10) (0 : Int32).toNatClampNeg (0 : Int32).toNatClampNeg (Int32.ofNat 200).toNatClampNeg) e 5 n) e 4 ((fx_i (fx_wi (fx_cp h (e + 9) (e + 10) (0 : Int32).toNatClampNeg (0 : Int32).toNatClampNeg (Int32.ofNat 200).toNatClampNeg) e 5 n) e 4) + (1 : Int32))) e 3 (0 : Int32)
set_option maxRecDepth 100000 in
set_option maxHeartbeats 600000 in
theorem c_BE_endFrame {g : fx_G} (ok : fx_ok g) (h : fx_H) (e : Nat) (n : Int32) (hE : isB h e) : fx_C g mq_BE_endFrame [.ref e, .int n] h (fx_is none (k_BE_endFrame h e n)) 0 0 := by
  refine fx_body (by decide +kernel) (Nat.le_of_ble_eq_true rfl) ?_
  show fx_X g mq_BE_endFrame 0 [(0, .ref e), (1, .int n)] [] h _ 0 0
  refine fx_aload_n 0 dq_BE_endFrame_0 rfl rfl ?_
  refine fx_getr ok fq_BE_18 hE.1 dq_BE_endFrame_1 (by decide) hE.2.2.2.1 ?_
  refine fx_iconst (v := 0) dq_BE_endFrame_4 (by decide) ?_
  refine fx_aload_n 0 dq_BE_endFrame_5 rfl rfl ?_
  refine fx_getr ok fq_BE_22 hE.1 dq_BE_endFrame_6 (by decide) hE.2.2.2.2.2.1 ?_
  refine fx_iconst (v := 0) dq_BE_endFrame_9 (by decide) ?_
  refine fx_aload_n 0 dq_BE_endFrame_10 rfl rfl ?_
  refine fx_getr ok fq_BE_22 hE.1 dq_BE_endFrame_11 (by decide) hE.2.2.2.2.2.1 ?_
  refine fx_alen ok hE.2.2.2.2.2.2 rfl rfl dq_BE_endFrame_14 ?_
  refine fx_copy ok sq_BE_34 kj_cp.1 kj_cp.2.1 kj_cp.2.2 hE.2.2.2.2.1 hE.2.2.2.2.2.2 (by decide) (by decide) (by decide) (by decide) (by decide) (by decide) (Nat.le_of_ble_eq_true rfl) dq_BE_endFrame_15 ?_
  refine fx_aload_n 0 dq_BE_endFrame_18 rfl rfl ?_
  refine fx_iload_n 1 dq_BE_endFrame_19 rfl rfl ?_
  refine fx_puti ok fp_BE_44 hE.1 (by decide) dq_BE_endFrame_20 (Or.inl (by decide)) ?_
  refine fx_aload_n 0 dq_BE_endFrame_23 rfl rfl ?_
  refine fx_dup dq_BE_endFrame_24 rfl ?_
  refine fx_geti ok fq_BE_47 hE.1 dq_BE_endFrame_25 (by decide) ?_
  refine fx_iconst (v := 1) dq_BE_endFrame_28 (by decide) ?_
  refine fx_iadd dq_BE_endFrame_29 ?_
  refine fx_puti ok fp_BE_47 hE.1 (by decide) dq_BE_endFrame_30 (Or.inl (by decide)) ?_
  refine fx_aload_n 0 dq_BE_endFrame_33 rfl rfl ?_
  refine fx_iconst (v := 0) dq_BE_endFrame_34 (by decide) ?_
  refine fx_puti ok fp_BE_25 hE.1 (by decide) dq_BE_endFrame_35 (Or.inl (by decide)) ?_
  exact fx_vreturn rfl dq_BE_endFrame_38 ⟨rfl, rfl⟩
