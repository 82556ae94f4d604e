/-! ===== Picture; Arrays.fill ===== -/
/-- a picture at p: its pixels, its clip, what is shown of it behind it -/
def isP (h : fx_H) (p : Nat) : Prop := fx_s h p = some (.inl 2) ∧ fx_r h p 8 = some (p + 1) ∧ fx_s h (p + 1) = some (.inr (0, 96)) ∧ fx_r h p 9 = some (p + 2) ∧ fx_s h (p + 2) = some (.inl 1) ∧ fx_r h p 10 = some (p + 3) ∧ fx_s h (p + 3) = some (.inl 1)
def pShow (h : fx_H) (p : Nat) : fx_H := if fx_i h p 0 = 0 ∨ fx_i h p 7 = 0 then rset h (p + 3) 0 0 0 0 else rcut (rshift (rset h (p + 3) (fx_i h (p + 2) 0) (fx_i h (p + 2) 1) (fx_i h (p + 2) 2) (fx_i h (p + 2) 3)) (p + 3) (fx_i h p 3) (fx_i h p 4)) (p + 3) 20 10
set_option maxRecDepth 100000 in
set_option maxHeartbeats 600000 in
theorem cp_findShown {g : fx_G} (ok : fx_ok g) (h : fx_H) (p : Nat) (hp : isP h p) : fx_C g mq_PI_findShown [.ref p] h (fx_is none (pShow h p)) 0 0 := by
  refine fx_body (by decide +kernel) (Nat.le_of_ble_eq_true rfl) ?_
  show fx_X g mq_PI_findShown 0 [(0, .ref p)] [] h _ 0 0
  refine fx_aload_n 0 dq_PI_findShown_0 rfl rfl ?_
  refine fx_geti ok fq_PI_25 hp.1 dq_PI_findShown_1 (by decide) ?_
  refine fx_if_eq (tgt := 14) dq_PI_findShown_4 (by decide) (fun hc4 => ?_) (fun hc4 => ?_)
  · -- 4: jump
    refine fx_aload_n 0 dq_PI_findShown_14 rfl rfl ?_
    refine fx_getr ok fq_PI_22 hp.1 dq_PI_findShown_15 (by decide) hp.2.2.2.2.2.1 ?_
    refine fx_iconst (v := 0) dq_PI_findShown_18 (by decide) ?_
    refine fx_iconst (v := 0) dq_PI_findShown_19 (by decide) ?_
    refine fx_iconst (v := 0) dq_PI_findShown_20 (by decide) ?_
    refine fx_iconst (v := 0) dq_PI_findShown_21 (by decide) ?_
    refine fx_Vv4 ok sq_PI_57 hp.2.2.2.2.2.2 (cr_set ok _ _ (by exact hp.2.2.2.2.2.2) _ _ _ _) (by decide) (Nat.le_of_ble_eq_true rfl) dq_PI_findShown_22 ?_
    exact fx_vreturn rfl dq_PI_findShown_25 ⟨rfl, by simp [fx_i_wi, pShow, rset, hc4]⟩
  · -- 4: fall
    refine fx_aload_n 0 dq_PI_findShown_7 rfl rfl ?_
    refine fx_geti ok fq_PI_48 hp.1 dq_PI_findShown_8 (by decide) ?_
    refine fx_if_ne (tgt := 26) dq_PI_findShown_11 (by decide) (fun hc11 => ?_) (fun hc11 => ?_)
    · -- 11: jump
      refine fx_aload_n 0 dq_PI_findShown_26 rfl rfl ?_
      refine fx_getr ok fq_PI_22 hp.1 dq_PI_findShown_27 (by decide) hp.2.2.2.2.2.1 ?_
      refine fx_aload_n 0 dq_PI_findShown_30 rfl rfl ?_
      refine fx_getr ok fq_PI_18 hp.1 dq_PI_findShown_31 (by decide) hp.2.2.2.1 ?_
      refine fx_Vv1 ok sq_PI_70 hp.2.2.2.2.2.2 (cr_become ok _ _ _ (by exact hp.2.2.2.2.2.2) (by exact hp.2.2.2.2.1)) (by decide) (Nat.le_of_ble_eq_true rfl) dq_PI_findShown_34 ?_
      refine fx_aload_n 0 dq_PI_findShown_37 rfl rfl ?_
      refine fx_getr ok fq_PI_22 hp.1 dq_PI_findShown_38 (by decide) hp.2.2.2.2.2.1 ?_
      refine fx_aload_n 0 dq_PI_findShown_41 rfl rfl ?_
      refine fx_geti ok fq_PI_36 hp.1 dq_PI_findShown_42 (by decide) ?_
      refine fx_aload_n 0 dq_PI_findShown_45 rfl rfl ?_
      refine fx_geti ok fq_PI_39 hp.1 dq_PI_findShown_46 (by decide) ?_
      refine fx_Vv2 ok sq_PI_74 hp.2.2.2.2.2.2 (cr_shift ok _ _ (by exact hp.2.2.2.2.2.2) _ _) (by decide) (Nat.le_of_ble_eq_true rfl) dq_PI_findShown_49 ?_
      refine fx_aload_n 0 dq_PI_findShown_52 rfl rfl ?_
      refine fx_getr ok fq_PI_22 hp.1 dq_PI_findShown_53 (by decide) hp.2.2.2.2.2.1 ?_
      refine fx_bipush (v := 20) dq_PI_findShown_56 (by decide) ?_
      refine fx_bipush (v := 10) dq_PI_findShown_58 (by decide) ?_
      refine fx_Vv2 ok sq_PI_78 hp.2.2.2.2.2.2 (cr_cut ok _ _ (by exact hp.2.2.2.2.2.2) _ _) (by decide) (Nat.le_of_ble_eq_true rfl) dq_PI_findShown_60 ?_
      exact fx_vreturn rfl dq_PI_findShown_63 ⟨rfl, by simp [fx_i_wi, pShow, rset, hc4, hc11]⟩
    · -- 11: fall
      refine fx_aload_n 0 dq_PI_findShown_14 rfl rfl ?_
      refine fx_getr ok fq_PI_22 hp.1 dq_PI_findShown_15 (by decide) hp.2.2.2.2.2.1 ?_
      refine fx_iconst (v := 0) dq_PI_findShown_18 (by decide) ?_
      refine fx_iconst (v := 0) dq_PI_findShown_19 (by decide) ?_
      refine fx_iconst (v := 0) dq_PI_findShown_20 (by decide) ?_
      refine fx_iconst (v := 0) dq_PI_findShown_21 (by decide) ?_
      refine fx_Vv4 ok sq_PI_57 hp.2.2.2.2.2.2 (cr_set ok _ _ (by exact hp.2.2.2.2.2.2) _ _ _ _) (by decide) (Nat.le_of_ble_eq_true rfl) dq_PI_findShown_22 ?_
      exact fx_vreturn rfl dq_PI_findShown_25 ⟨rfl, by simp [fx_i_wi, pShow, rset, hc4, hc11]⟩

def pRemove (h : fx_H) (p : Nat) : fx_H := pShow (fx_wi h p 0 0) p
set_option maxRecDepth 100000 in
set_option maxHeartbeats 600000 in
theorem cp_remove {g : fx_G} (ok : fx_ok g) (h : fx_H) (p : Nat) (hp : isP h p) : fx_C g mq_PI_remove [.ref p] h (fx_is none (pRemove h p)) 0 0 := by
  refine fx_body (by decide +kernel) (Nat.le_of_ble_eq_true rfl) ?_
  show fx_X g mq_PI_remove 0 [(0, .ref p)] [] h _ 0 0
  refine fx_aload_n 0 dq_PI_remove_0 rfl rfl ?_
  refine fx_iconst (v := 0) dq_PI_remove_1 (by decide) ?_
  refine fx_puti ok fp_PI_25 hp.1 (by decide) dq_PI_remove_2 (Or.inr ⟨by decide, (by decide)⟩) ?_
  refine fx_aload_n 0 dq_PI_remove_5 rfl rfl ?_
  refine fx_Vv0 ok sq_PI_61 hp.1 (cp_findShown ok _ _ (by exact hp)) (by decide) (Nat.le_of_ble_eq_true rfl) dq_PI_remove_6 ?_
  exact fx_vreturn rfl dq_PI_remove_9 ⟨rfl, rfl⟩

/-- the first n places of the array a hold v -/
def fillA (a : Nat) (v : Int32) (i : Nat) (h : fx_H) : fx_H := fx_wi h a i v
set_option maxRecDepth 100000 in
set_option maxHeartbeats 600000 in
theorem ca_fill {g : fx_G} (ok : fx_ok g) (h : fx_H) (a n : Nat) (hn : n < 100000) (ha : fx_s h a = some (.inr (0, n))) (v : Int32) : fx_C g mq_AR_fill [.ref a, .int v] h (fx_is none (it (fillA a v) h n)) 0 0 := by
  refine fx_body (by decide +kernel) (Nat.le_of_ble_eq_true rfl) ?_
  show fx_X g mq_AR_fill 0 [(0, .ref a), (1, .int v)] [] h _ 0 0
  refine fx_iconst (v := 0) dq_AR_fill_0 (by decide) ?_
  refine fx_istore_n dq_AR_fill_1 rfl (by decide) rfl ?_
  refine fx_aload_n 1 dq_AR_fill_2 rfl rfl ?_
  refine fx_alen ok ha rfl rfl dq_AR_fill_3 ?_
  refine fx_istore_n dq_AR_fill_4 rfl (by decide) rfl ?_
  refine fx_for (fun i => [(3, .int (nI n)), (2, .int (nI i)), (0, .ref a), (1, .int v)]) (fillA a v) h n (fun i hi hK => ?_) ?_
  · have hs : fx_s (it (fillA a v) h i) a = some (.inr (0, n)) := (it_keep (fun k => fx_s k a) (fillA a v) h (fun _ _ => rfl) i).trans ha
    refine fx_iload_n 1 dq_AR_fill_5 rfl rfl ?_
    refine fx_iload_n 0 dq_AR_fill_6 rfl rfl ?_
    refine fx_icmp_ge (tgt := 20) dq_AR_fill_7 (by decide) (fun hc7 => ?_) (fun hc7 => ?_)
    · -- 7: jump
      exact absurd hc7 (nI_ge hi (by omega))
    · -- 7: fall
      refine fx_aload_n 2 dq_AR_fill_10 rfl rfl ?_
      refine fx_iload_n 1 dq_AR_fill_11 rfl rfl ?_
      refine fx_iload_n 3 dq_AR_fill_12 rfl rfl ?_
      refine fx_iastore ok hs (vp_in_nI hi (by omega)) dq_AR_fill_13 ?_
      refine fx_iinc 1 dq_AR_fill_14 rfl (jz_i i) (by decide) rfl ?_
      refine fx_goto (tgt := 5) dq_AR_fill_17 (by decide) ?_
      exact fx_sub [1, 0, 2, 3] rfl (fx_eqh (by rw [nI_clamp (by omega)]; rfl) hK)
  · have hs : fx_s (it (fillA a v) h n) a = some (.inr (0, n)) := (it_keep (fun k => fx_s k a) (fillA a v) h (fun _ _ => rfl) n).trans ha
    refine fx_iload_n 1 dq_AR_fill_5 rfl rfl ?_
    refine fx_iload_n 0 dq_AR_fill_6 rfl rfl ?_
    refine fx_icmp_ge (tgt := 20) dq_AR_fill_7 (by decide) (fun hc7 => ?_) (fun hc7 => ?_)
    · -- 7: jump
      exact fx_vreturn rfl dq_AR_fill_20 ⟨rfl, rfl⟩
    · -- 7: fall
      exact absurd (nI_le (Nat.le_refl n) (by omega)) hc7

theorem isP_sm {h h' : fx_H} {p : Nat} (e : fx_sm h h') (hp : isP h p) : isP h' p := by
  unfold isP at hp ⊢
  simp only [fx_sm_s e, fx_sm_r e]
  exact hp
theorem fillA_on (a : Nat) (v : Int32) (h : fx_H) (n : Nat) : fx_on a h (it (fillA a v) h n) := fx_on_it (fun _ _ => fx_on_wi _ _ _ _) h n
def pStart (h : fx_H) (p : Nat) (c r : Int32) : fx_H := pShow (rset (it (fillA (p + 1) 0) (fx_wi (fx_wi (fx_wi (fx_wi (fx_wi (fx_wi (fx_wi (fx_wi h p 0 1) p 1 c) p 2 r) p 3 0) p 4 0) p 5 0) p 6 16) p 7 0) 96) (p + 2) 0 0 c r) p
set_option maxRecDepth 100000 in
set_option maxHeartbeats 600000 in
theorem cp_start {g : fx_G} (ok : fx_ok g) (h : fx_H) (p : Nat) (hp : isP h p) (c r : Int32) : fx_C g mq_PI_start [.ref p, .int c, .int r] h (fx_is none (pStart h p c r)) 0 0 := by
  refine fx_body (by decide +kernel) (Nat.le_of_ble_eq_true rfl) ?_
  show fx_X g mq_PI_start 0 [(0, .ref p), (1, .int c), (2, .int r)] [] h _ 0 0
  refine fx_aload_n 0 dq_PI_start_0 rfl rfl ?_
  refine fx_iconst (v := 1) dq_PI_start_1 (by decide) ?_
  refine fx_puti ok fp_PI_25 hp.1 (by decide) dq_PI_start_2 (Or.inr ⟨by decide, (by decide)⟩) ?_
  refine fx_aload_n 0 dq_PI_start_5 rfl rfl ?_
  refine fx_iload_n 1 dq_PI_start_6 rfl rfl ?_
  refine fx_puti ok fp_PI_29 hp.1 (by decide) dq_PI_start_7 (Or.inl (by decide)) ?_
  refine fx_aload_n 0 dq_PI_start_10 rfl rfl ?_
  refine fx_iload_n 2 dq_PI_start_11 rfl rfl ?_
  refine fx_puti ok fp_PI_33 hp.1 (by decide) dq_PI_start_12 (Or.inl (by decide)) ?_
  refine fx_aload_n 0 dq_PI_start_15 rfl rfl ?_
  refine fx_iconst (v := 0) dq_PI_start_16 (by decide) ?_
  refine fx_puti ok fp_PI_36 hp.1 (by decide) dq_PI_start_17 (Or.inl (by decide)) ?_
  refine fx_aload_n 0 dq_PI_start_20 rfl rfl ?_
  refine fx_iconst (v := 0) dq_PI_start_21 (by decide) ?_
  refine fx_puti ok fp_PI_39 hp.1 (by decide) dq_PI_start_22 (Or.inl (by decide)) ?_
  refine fx_aload_n 0 dq_PI_start_25 rfl rfl ?_
  refine fx_iconst (v := 0) dq_PI_start_26 (by decide) ?_
  refine fx_puti ok fp_PI_42 hp.1 (by decide) dq_PI_start_27 (Or.inl (by decide)) ?_
  refine fx_aload_n 0 dq_PI_start_30 rfl rfl ?_
  refine fx_bipush (v := 16) dq_PI_start_31 (by decide) ?_
  refine fx_puti ok fp_PI_45 hp.1 (by decide) dq_PI_start_33 (Or.inl (by decide)) ?_
  refine fx_aload_n 0 dq_PI_start_36 rfl rfl ?_
  refine fx_iconst (v := 0) dq_PI_start_37 (by decide) ?_
  refine fx_puti ok fp_PI_48 hp.1 (by decide) dq_PI_start_38 (Or.inr ⟨by decide, (by decide)⟩) ?_
  refine fx_aload_n 0 dq_PI_start_41 rfl rfl ?_
  refine fx_getr ok fq_PI_9 hp.1 dq_PI_start_42 (by decide) hp.2.1 ?_
  refine fx_iconst (v := 0) dq_PI_start_45 (by decide) ?_
  refine fx_Sv2 ok sq_PI_51 (ca_fill ok _ _ 96 (by decide) (by exact hp.2.2.1) _) (by decide) (Nat.le_of_ble_eq_true rfl) dq_PI_start_46 ?_
  refine fx_have (P := fun k => isP k p) (isP_sm (fillA_on _ _ _ _).1 (by exact hp)) (fun hp1 => ?_)
  refine fx_aload_n 0 dq_PI_start_49 rfl rfl ?_
  refine fx_getr ok fq_PI_18 hp1.1 dq_PI_start_50 (by decide) hp1.2.2.2.1 ?_
  refine fx_iconst (v := 0) dq_PI_start_53 (by decide) ?_
  refine fx_iconst (v := 0) dq_PI_start_54 (by decide) ?_
  refine fx_aload_n 0 dq_PI_start_55 rfl rfl ?_
  refine fx_geti ok fq_PI_29 hp1.1 dq_PI_start_56 (by decide) ?_
  refine fx_eqt (v' := c) (((fillA_on _ _ _ _).2 _ (by omega) _).trans (by simp [fx_i_wi])) ?_
  refine fx_aload_n 0 dq_PI_start_59 rfl rfl ?_
  refine fx_geti ok fq_PI_33 hp1.1 dq_PI_start_60 (by decide) ?_
  refine fx_eqt (v' := r) (((fillA_on _ _ _ _).2 _ (by omega) _).trans (by simp [fx_i_wi])) ?_
  refine fx_Vv4 ok sq_PI_57 hp1.2.2.2.2.1 (cr_set ok _ _ (by exact hp1.2.2.2.2.1) _ _ _ _) (by decide) (Nat.le_of_ble_eq_true rfl) dq_PI_start_63 ?_
  refine fx_aload_n 0 dq_PI_start_66 rfl rfl ?_
  refine fx_Vv0 ok sq_PI_61 hp1.1 (cp_findShown ok _ _ (by exact hp1)) (by decide) (Nat.le_of_ble_eq_true rfl) dq_PI_start_67 ?_
  exact fx_vreturn rfl dq_PI_start_70 ⟨rfl, rfl⟩

def pCopy (h : fx_H) (p q : Nat) : fx_H := rset (rset (fx_cp (fx_wi (fx_wi (fx_wi (fx_wi (fx_wi (fx_wi (fx_wi (fx_wi h p 0 (fx_i h q 0)) p 1 (fx_i h q 1)) p 2 (fx_i h q 2)) p 3 (fx_i h q 3)) p 4 (fx_i h q 4)) p 5 (fx_i h q 5)) p 6 (fx_i h q 6)) p 7 (fx_i h q 7)) (q + 1) (p + 1) (0 : Int32).toNatClampNeg (0 : Int32).toNatClampNeg (Int32.ofNat 96).toNatClampNeg) (p + 2) (fx_i h (q + 2) 0) (fx_i h (q + 2) 1) (fx_i h (q + 2) 2) (fx_i h (q + 2) 3)) (p + 3) (fx_i h (q + 3) 0) (fx_i h (q + 3) 1) (fx_i h (q + 3) 2) (fx_i h (q + 3) 3)
set_option maxRecDepth 100000 in
set_option maxHeartbeats 600000 in
theorem cp_become {g : fx_G} (ok : fx_ok g) (h : fx_H) (p q : Nat) (hp : isP h p) (hq : isP h q) (hd : p + 3 < q ∨ q + 3 < p) : fx_C g mq_PI_become [.ref p, .ref q] h (fx_is none (pCopy h p q)) 0 0 := by
  refine fx_body (by decide +kernel) (Nat.le_of_ble_eq_true rfl) ?_
  show fx_X g mq_PI_become 0 [(0, .ref p), (1, .ref q)] [] h _ 0 0
  refine fx_know (fx_bk hq.1 (k := 0) (by decide)) (fun hz0 => ?_)
  refine fx_know (fx_bk hq.1 (k := 7) (by decide)) (fun hz7 => ?_)
  have e1 : ¬ q = p := by omega
  have e2 : ¬ q + 1 = p := by omega
  have e3 : ¬ q + 2 = p := by omega
  have e4 : ¬ q + 3 = p := by omega
  have e5 : ¬ q = p + 1 := by omega
  have e6 : ¬ q = p + 2 := by omega
  have e7 : ¬ q = p + 3 := by omega
  refine fx_aload_n 0 dq_PI_become_0 rfl rfl ?_
  refine fx_aload_n 1 dq_PI_become_1 rfl rfl ?_
  refine fx_geti ok fq_PI_25 hq.1 dq_PI_become_2 (by decide) ?_
  refine fx_puti ok fp_PI_25 hp.1 (by decide) dq_PI_become_5 (Or.inr ⟨by decide, (by exact hz0)⟩) ?_
  refine fx_aload_n 0 dq_PI_become_8 rfl rfl ?_
  refine fx_aload_n 1 dq_PI_become_9 rfl rfl ?_
  refine fx_geti ok fq_PI_29 hq.1 dq_PI_become_10 (by decide) ?_
  refine fx_puti ok fp_PI_29 hp.1 (by decide) dq_PI_become_13 (Or.inl (by decide)) ?_
  refine fx_aload_n 0 dq_PI_become_16 rfl rfl ?_
  refine fx_aload_n 1 dq_PI_become_17 rfl rfl ?_
  refine fx_geti ok fq_PI_33 hq.1 dq_PI_become_18 (by decide) ?_
  refine fx_puti ok fp_PI_33 hp.1 (by decide) dq_PI_become_21 (Or.inl (by decide)) ?_
  refine fx_aload_n 0 dq_PI_become_24 rfl rfl ?_
  refine fx_aload_n 1 dq_PI_become_25 rfl rfl ?_
  refine fx_geti ok fq_PI_36 hq.1 dq_PI_become_26 (by decide) ?_
  refine fx_puti ok fp_PI_36 hp.1 (by decide) dq_PI_become_29 (Or.inl (by decide)) ?_
  refine fx_aload_n 0 dq_PI_become_32 rfl rfl ?_
  refine fx_aload_n 1 dq_PI_become_33 rfl rfl ?_
  refine fx_geti ok fq_PI_39 hq.1 dq_PI_become_34 (by decide) ?_
  refine fx_puti ok fp_PI_39 hp.1 (by decide) dq_PI_become_37 (Or.inl (by decide)) ?_
  refine fx_aload_n 0 dq_PI_become_40 rfl rfl ?_
  refine fx_aload_n 1 dq_PI_become_41 rfl rfl ?_
  refine fx_geti ok fq_PI_42 hq.1 dq_PI_become_42 (by decide) ?_
  refine fx_puti ok fp_PI_42 hp.1 (by decide) dq_PI_become_45 (Or.inl (by decide)) ?_
  refine fx_aload_n 0 dq_PI_become_48 rfl rfl ?_
  refine fx_aload_n 1 dq_PI_become_49 rfl rfl ?_
  refine fx_geti ok fq_PI_45 hq.1 dq_PI_become_50 (by decide) ?_
  refine fx_puti ok fp_PI_45 hp.1 (by decide) dq_PI_become_53 (Or.inl (by decide)) ?_
  refine fx_aload_n 0 dq_PI_become_56 rfl rfl ?_
  refine fx_aload_n 1 dq_PI_become_57 rfl rfl ?_
  refine fx_geti ok fq_PI_48 hq.1 dq_PI_become_58 (by decide) ?_
  refine fx_puti ok fp_PI_48 hp.1 (by decide) dq_PI_become_61 (Or.inr ⟨by decide, (by simpa [fx_i_wi, e1] using hz7)⟩) ?_
  refine fx_aload_n 1 dq_PI_become_64 rfl rfl ?_
  refine fx_getr ok fq_PI_9 hq.1 dq_PI_become_65 (by decide) hq.2.1 ?_
  refine fx_iconst (v := 0) dq_PI_become_68 (by decide) ?_
  refine fx_aload_n 0 dq_PI_become_69 rfl rfl ?_
  refine fx_getr ok fq_PI_9 hp.1 dq_PI_become_70 (by decide) hp.2.1 ?_
  refine fx_iconst (v := 0) dq_PI_become_73 (by decide) ?_
  refine fx_aload_n 0 dq_PI_become_74 rfl rfl ?_
  refine fx_getr ok fq_PI_9 hp.1 dq_PI_become_75 (by decide) hp.2.1 ?_
  refine fx_alen ok hp.2.2.1 rfl rfl dq_PI_become_78 ?_
  refine fx_copy ok sq_PI_64 kj_cp.1 kj_cp.2.1 kj_cp.2.2 hq.2.2.1 hp.2.2.1 (by decide) (by decide) (by decide) (by decide) (by decide) (by decide) (Nat.le_of_ble_eq_true rfl) dq_PI_become_79 ?_
  refine fx_aload_n 0 dq_PI_become_82 rfl rfl ?_
  refine fx_getr ok fq_PI_18 hp.1 dq_PI_become_83 (by decide) hp.2.2.2.1 ?_
  refine fx_aload_n 1 dq_PI_become_86 rfl rfl ?_
  refine fx_getr ok fq_PI_18 hq.1 dq_PI_become_87 (by decide) hq.2.2.2.1 ?_
  refine fx_Vv1 ok sq_PI_70 hp.2.2.2.2.1 (cr_become ok _ _ _ (by exact hp.2.2.2.2.1) (by exact hq.2.2.2.2.1)) (by decide) (Nat.le_of_ble_eq_true rfl) dq_PI_become_90 ?_
  refine fx_aload_n 0 dq_PI_become_93 rfl rfl ?_
  refine fx_getr ok fq_PI_22 hp.1 dq_PI_become_94 (by decide) hp.2.2.2.2.2.1 ?_
  refine fx_aload_n 1 dq_PI_become_97 rfl rfl ?_
  refine fx_getr ok fq_PI_22 hq.1 dq_PI_become_98 (by decide) hq.2.2.2.2.2.1 ?_
  refine fx_Vv1 ok sq_PI_70 hp.2.2.2.2.2.2 (cr_become ok _ _ _ (by exact hp.2.2.2.2.2.2) (by exact hq.2.2.2.2.2.2)) (by decide) (Nat.le_of_ble_eq_true rfl) dq_PI_become_101 ?_
  exact fx_vreturn rfl dq_PI_become_104 ⟨rfl, by simp [pCopy, rset, fx_i_wi, fx_i_cp, e1, e2, e3, e4, e5, e6, e7]⟩

def pIx (h : fx_H) (p : Nat) (c r : Int32) : Int32 := (r - fx_i h p 4) * fx_i h p 1 + c - fx_i h p 3
def pColor (h : fx_H) (p : Nat) (c r : Int32) : Int32 := fx_i h (p + 1) (pIx h p c r).toNatClampNeg
set_option maxRecDepth 100000 in
set_option maxHeartbeats 600000 in
theorem cp_colorAt {g : fx_G} (ok : fx_ok g) (h : fx_H) (p : Nat) (hp : isP h p) (c r : Int32) (hin : vp_in (pIx h p c r) 96) : fx_C g mq_PI_colorAt [.ref p, .int c, .int r] h (fx_is (some (pColor h p c r)) (h)) 0 0 := by
  refine fx_body (by decide +kernel) (Nat.le_of_ble_eq_true rfl) ?_
  show fx_X g mq_PI_colorAt 0 [(0, .ref p), (1, .int c), (2, .int r)] [] h _ 0 0
  refine fx_aload_n 0 dq_PI_colorAt_0 rfl rfl ?_
  refine fx_getr ok fq_PI_9 hp.1 dq_PI_colorAt_1 (by decide) hp.2.1 ?_
  refine fx_iload_n 2 dq_PI_colorAt_4 rfl rfl ?_
  refine fx_aload_n 0 dq_PI_colorAt_5 rfl rfl ?_
  refine fx_geti ok fq_PI_39 hp.1 dq_PI_colorAt_6 (by decide) ?_
  refine fx_isub dq_PI_colorAt_9 ?_
  refine fx_aload_n 0 dq_PI_colorAt_10 rfl rfl ?_
  refine fx_geti ok fq_PI_29 hp.1 dq_PI_colorAt_11 (by decide) ?_
  refine fx_imul dq_PI_colorAt_14 ?_
  refine fx_iload_n 1 dq_PI_colorAt_15 rfl rfl ?_
  refine fx_iadd dq_PI_colorAt_16 ?_
  refine fx_aload_n 0 dq_PI_colorAt_17 rfl rfl ?_
  refine fx_geti ok fq_PI_36 hp.1 dq_PI_colorAt_18 (by decide) ?_
  refine fx_isub dq_PI_colorAt_21 ?_
  refine fx_iaload ok hp.2.2.1 hin dq_PI_colorAt_22 ?_
  exact fx_ireturn rfl dq_PI_colorAt_23 ⟨rfl, rfl⟩

def pOv (h : fx_H) (p a : Nat) (v : Int32) (r c : Nat) (k : fx_H) : fx_H := fx_wi k (p + 1) ((fx_i h a 1 + nI r) * fx_i h p 1 + (fx_i h a 0 + nI c)).toNatClampNeg v
theorem pOv_on1 (h : fx_H) (p a : Nat) (v : Int32) (r : Nat) (k : fx_H) (n : Nat) : fx_on (p + 1) k (it (fun c k => pOv h p a v r c k) k n) := fx_on_it (fun _ _ => fx_on_wi _ _ _ _) k n
theorem pOv_on (h : fx_H) (p a : Nat) (v : Int32) (n m : Nat) : fx_on (p + 1) h (it (fun r k => it (fun c k => pOv h p a v r c k) k n) h m) := fx_on_it (fun r k => pOv_on1 h p a v r k n) h m
set_option maxRecDepth 100000 in
set_option maxHeartbeats 600000 in
theorem cp_paintOver {g : fx_G} (ok : fx_ok g) (h : fx_H) (p a : Nat) (hp : isP h p) (ha : fx_s h a = some (.inl 1)) (hap : a ≠ p + 1) (hok : rOk h a) (v : Int32) (hin : ∀ r c, r < (fx_i h a 3).toNatClampNeg → c < (fx_i h a 2).toNatClampNeg → vp_in ((fx_i h a 1 + nI r) * fx_i h p 1 + (fx_i h a 0 + nI c)) 96) : fx_C g mq_PI_paintOver [.ref p, .ref a, .int v] h (fx_is none (it (fun r k => it (fun c k => pOv h p a v r c k) k (fx_i h a 2).toNatClampNeg) h (fx_i h a 3).toNatClampNeg)) 0 0 := by
  refine fx_body (by decide +kernel) (Nat.le_of_ble_eq_true rfl) ?_
  show fx_X g mq_PI_paintOver 0 [(0, .ref p), (1, .ref a), (2, .int v)] [] h _ 0 0
  refine fx_aload_n 1 dq_PI_paintOver_0 rfl rfl ?_
  refine fx_geti ok fq_PI_81 ha dq_PI_paintOver_1 (by decide) ?_
  refine fx_istore_n dq_PI_paintOver_4 rfl (by decide) rfl ?_
  refine fx_eqv (v' := fx_i h a 1 + nI 0) (jz_0 _).symm ?_
  refine fx_for (fun r => [(3, .int (fx_i h a 1 + nI r)), (0, .ref p), (1, .ref a), (2, .int v)]) (fun r k => it (fun c k => pOv h p a v r c k) k (fx_i h a 2).toNatClampNeg) h (fx_i h a 3).toNatClampNeg (fun r hr hK => ?_) ?_
  · have hon : fx_on (p + 1) h (it (fun r k => it (fun c k => pOv h p a v r c k) k (fx_i h a 2).toNatClampNeg) h r) := pOv_on h p a v (fx_i h a 2).toNatClampNeg r
    generalize it (fun r k => it (fun c k => pOv h p a v r c k) k (fx_i h a 2).toNatClampNeg) h r = k at hon hK ⊢
    have hpk := isP_sm hon.1 hp
    have hak := (fx_sm_s hon.1 a).trans ha
    refine fx_iload_n 0 dq_PI_paintOver_5 rfl rfl ?_
    refine fx_aload_n 2 dq_PI_paintOver_6 rfl rfl ?_
    refine fx_geti ok fq_PI_81 hak dq_PI_paintOver_7 (by decide) ?_
    refine fx_eqt (hon.2 a (by omega) _) ?_
    refine fx_aload_n 2 dq_PI_paintOver_10 rfl rfl ?_
    refine fx_geti ok fq_PI_82 hak dq_PI_paintOver_11 (by decide) ?_
    refine fx_eqt (hon.2 a (by omega) _) ?_
    refine fx_iadd dq_PI_paintOver_14 ?_
    refine fx_icmp_ge (tgt := 65) dq_PI_paintOver_15 (by decide) (fun hc15 => ?_) (fun hc15 => ?_)
    · -- 15: jump
      exact absurd hc15 (jz_ge hok.2.1 hok.2.2.2 hr)
    · -- 15: fall
      refine fx_aload_n 2 dq_PI_paintOver_18 rfl rfl ?_
      refine fx_geti ok fq_PI_83 hak dq_PI_paintOver_19 (by decide) ?_
      refine fx_eqt (hon.2 a (by omega) _) ?_
      refine fx_istore dq_PI_paintOver_22 (by decide) rfl ?_
      refine fx_eqv (v' := fx_i h a 0 + nI 0) (jz_0 _).symm ?_
      refine fx_for (fun c => [(4, .int (fx_i h a 0 + nI c)), (3, .int (fx_i h a 1 + nI r)), (0, .ref p), (1, .ref a), (2, .int v)]) (fun c k => pOv h p a v r c k) k (fx_i h a 2).toNatClampNeg (fun c hc hK2 => ?_) ?_
      · have hon2 : fx_on (p + 1) h (it (fun c k => pOv h p a v r c k) k c) := fx_on_t hon (pOv_on1 h p a v r k c)
        clear hK
        generalize it (fun c k => pOv h p a v r c k) k c = k2 at hon2 hK2 ⊢
        have hp2 := isP_sm hon2.1 hp
        have ha2 := (fx_sm_s hon2.1 a).trans ha
        refine fx_iload 0 dq_PI_paintOver_24 rfl ?_
        refine fx_aload_n 3 dq_PI_paintOver_26 rfl rfl ?_
        refine fx_geti ok fq_PI_83 ha2 dq_PI_paintOver_27 (by decide) ?_
        refine fx_eqt (hon2.2 a (by omega) _) ?_
        refine fx_aload_n 3 dq_PI_paintOver_30 rfl rfl ?_
        refine fx_geti ok fq_PI_84 ha2 dq_PI_paintOver_31 (by decide) ?_
        refine fx_eqt (hon2.2 a (by omega) _) ?_
        refine fx_iadd dq_PI_paintOver_34 ?_
        refine fx_icmp_ge (tgt := 59) dq_PI_paintOver_35 (by decide) (fun hc35 => ?_) (fun hc35 => ?_)
        · -- 35: jump
          exact absurd hc35 (jz_ge hok.1 hok.2.2.1 hc)
        · -- 35: fall
          refine fx_aload_n 2 dq_PI_paintOver_38 rfl rfl ?_
          refine fx_getr ok fq_PI_9 hp2.1 dq_PI_paintOver_39 (by decide) hp2.2.1 ?_
          refine fx_iload_n 1 dq_PI_paintOver_42 rfl rfl ?_
          refine fx_aload_n 2 dq_PI_paintOver_43 rfl rfl ?_
          refine fx_geti ok fq_PI_29 hp2.1 dq_PI_paintOver_44 (by decide) ?_
          refine fx_eqt (hon2.2 p (by omega) _) ?_
          refine fx_imul dq_PI_paintOver_47 ?_
          refine fx_iload 0 dq_PI_paintOver_48 rfl ?_
          refine fx_iadd dq_PI_paintOver_50 ?_
          refine fx_iload_n 4 dq_PI_paintOver_51 rfl rfl ?_
          refine fx_iastore ok hp2.2.2.1 (hin r c hr hc) dq_PI_paintOver_52 ?_
          refine fx_iinc 0 dq_PI_paintOver_53 rfl (jz_s _ c) (by decide) rfl ?_
          refine fx_goto (tgt := 24) dq_PI_paintOver_56 (by decide) ?_
          refine fx_sub [0, 1, 2, 3, 4] rfl ?_
          exact hK2
      · have hon2 : fx_on (p + 1) h (it (fun c k => pOv h p a v r c k) k (fx_i h a 2).toNatClampNeg) := fx_on_t hon (pOv_on1 h p a v r k (fx_i h a 2).toNatClampNeg)
        have hK3 : fx_X g mq_PI_paintOver 5 [(3, .int (fx_i h a 1 + nI (r + 1))), (0, .ref p), (1, .ref a), (2, .int v)] [] (it (fun c k => pOv h p a v r c k) k (fx_i h a 2).toNatClampNeg) _ 0 0 := hK
        clear hK
        generalize it (fun c k => pOv h p a v r c k) k (fx_i h a 2).toNatClampNeg = k2 at hon2 hK3 ⊢
        have hp2 := isP_sm hon2.1 hp
        have ha2 := (fx_sm_s hon2.1 a).trans ha
        refine fx_iload 0 dq_PI_paintOver_24 rfl ?_
        refine fx_aload_n 3 dq_PI_paintOver_26 rfl rfl ?_
        refine fx_geti ok fq_PI_83 ha2 dq_PI_paintOver_27 (by decide) ?_
        refine fx_eqt (hon2.2 a (by omega) _) ?_
        refine fx_aload_n 3 dq_PI_paintOver_30 rfl rfl ?_
        refine fx_geti ok fq_PI_84 ha2 dq_PI_paintOver_31 (by decide) ?_
        refine fx_eqt (hon2.2 a (by omega) _) ?_
        refine fx_iadd dq_PI_paintOver_34 ?_
        refine fx_icmp_ge (tgt := 59) dq_PI_paintOver_35 (by decide) (fun hc35 => ?_) (fun hc35 => ?_)
        · -- 35: jump
          refine fx_iinc 1 dq_PI_paintOver_59 rfl (jz_s _ r) (by decide) rfl ?_
          refine fx_goto (tgt := 5) dq_PI_paintOver_62 (by decide) ?_
          exact fx_sub [0, 2, 3, 4] rfl hK3
        · -- 35: fall
          exact absurd (jz_end hok.1 hok.2.2.1) hc35
  · have hon : fx_on (p + 1) h (it (fun r k => it (fun c k => pOv h p a v r c k) k (fx_i h a 2).toNatClampNeg) h (fx_i h a 3).toNatClampNeg) := pOv_on h p a v (fx_i h a 2).toNatClampNeg (fx_i h a 3).toNatClampNeg
    generalize hgen : it (fun r k => it (fun c k => pOv h p a v r c k) k (fx_i h a 2).toNatClampNeg) h (fx_i h a 3).toNatClampNeg = k at hon ⊢
    have hpk := isP_sm hon.1 hp
    have hak := (fx_sm_s hon.1 a).trans ha
    refine fx_iload_n 0 dq_PI_paintOver_5 rfl rfl ?_
    refine fx_aload_n 2 dq_PI_paintOver_6 rfl rfl ?_
    refine fx_geti ok fq_PI_81 hak dq_PI_paintOver_7 (by decide) ?_
    refine fx_eqt (hon.2 a (by omega) _) ?_
    refine fx_aload_n 2 dq_PI_paintOver_10 rfl rfl ?_
    refine fx_geti ok fq_PI_82 hak dq_PI_paintOver_11 (by decide) ?_
    refine fx_eqt (hon.2 a (by omega) _) ?_
    refine fx_iadd dq_PI_paintOver_14 ?_
    refine fx_icmp_ge (tgt := 65) dq_PI_paintOver_15 (by decide) (fun hc15 => ?_) (fun hc15 => ?_)
    · -- 15: jump
      exact fx_vreturn rfl dq_PI_paintOver_65 ⟨rfl, rfl⟩
    · -- 15: fall
      exact absurd (jz_end hok.2.1 hok.2.2.2) hc15

