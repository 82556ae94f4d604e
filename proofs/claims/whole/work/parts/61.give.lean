/-! ===== Planes: give, choose, mixInto ===== -/
def pGive (h : fx_H) (n i a q : Nat) (r c : Nat) (k : fx_H) : fx_H := fx_wi k (n + 6 + i) ((fx_i h a 2).toNatClampNeg * r + c) (pColor h q (fx_i h a 0 + nI c) (fx_i h a 1 + nI r))
theorem pGive_on1 (h : fx_H) (n i a q : Nat) (r : Nat) (k : fx_H) (j : Nat) : fx_on (n + 6 + i) k (it (fun c k => pGive h n i a q r c k) k j) := fx_on_it (fun _ _ => fx_on_wi _ _ _ _) k j
theorem pGive_on (h : fx_H) (n i a q : Nat) (w j : Nat) : fx_on (n + 6 + i) h (it (fun r k => it (fun c k => pGive h n i a q r c k) k w) h j) := fx_on_it (fun r k => pGive_on1 h n i a q r k w) h j
set_option maxRecDepth 100000 in
set_option maxHeartbeats 600000 in
theorem cn_giveLoop {g : fx_G} (ok : fx_ok g) (h : fx_H) (n i q : Nat) (s : Int32) (a : Nat) (hn : isN h n) (hi : i < 2) (hq : isP h q) (ha : fx_s h a = some (.inl 1)) (hea : a = n + 3 + i) (hnq : n + 7 < q ∨ q + 3 < n) (hok : rOk h a) (hcap : ∀ r c, r < (fx_i h a 3).toNatClampNeg → c < (fx_i h a 2).toNatClampNeg → (fx_i h a 2).toNatClampNeg * r + c < 24) (hiq : ∀ r c, r < (fx_i h a 3).toNatClampNeg → c < (fx_i h a 2).toNatClampNeg → vp_in (pIx h q (fx_i h a 0 + nI c) (fx_i h a 1 + nI r)) 96) : fx_X g mq_PN_give 27 [(5, .int 0), (0, .ref n), (1, .int (nI i)), (2, .int s), (3, .ref q), (4, .ref a)] [] h (fx_is none (it (fun r k => it (fun c k => pGive h n i a q r c k) k (fx_i h a 2).toNatClampNeg) h (fx_i h a 3).toNatClampNeg)) 0 0 := by
  refine fx_aload 5 dq_PN_give_27 rfl ?_
  refine fx_geti ok fq_PN_84 ha dq_PN_give_29 (by decide) ?_
  refine fx_istore dq_PN_give_32 (by decide) rfl ?_
  refine fx_eqv (v' := fx_i h a 1 + nI 0) (jz_0 _).symm ?_
  refine fx_for (fun r => [(6, .int (fx_i h a 1 + nI r)), (5, .int (nI ((fx_i h a 2).toNatClampNeg * r))), (0, .ref n), (1, .int (nI i)), (2, .int s), (3, .ref q), (4, .ref a)]) (fun r k => it (fun c k => pGive h n i a q r c k) k (fx_i h a 2).toNatClampNeg) h (fx_i h a 3).toNatClampNeg (fun r hr hK => ?_) ?_
  · have hon : fx_on (n + 6 + i) h (it (fun r k => it (fun c k => pGive h n i a q r c k) k (fx_i h a 2).toNatClampNeg) h r) := pGive_on h n i a q (fx_i h a 2).toNatClampNeg r
    generalize it (fun r k => it (fun c k => pGive h n i a q r c k) k (fx_i h a 2).toNatClampNeg) h r = k at hon hK ⊢
    have hnk := isN_sm hon.1 hn
    have hqk := isP_sm hon.1 hq
    have hak := (fx_sm_s hon.1 a).trans ha
    refine fx_iload 0 dq_PN_give_34 rfl ?_
    refine fx_aload 6 dq_PN_give_36 rfl ?_
    refine fx_geti ok fq_PN_84 hak dq_PN_give_38 (by decide) ?_
    refine fx_eqt (hon.2 a (by omega) _) ?_
    refine fx_aload 6 dq_PN_give_41 rfl ?_
    refine fx_geti ok fq_PN_87 hak dq_PN_give_43 (by decide) ?_
    refine fx_eqt (hon.2 a (by omega) _) ?_
    refine fx_iadd dq_PN_give_46 ?_
    refine fx_icmp_ge (tgt := 105) dq_PN_give_47 (by decide) (fun hc47 => ?_) (fun hc47 => ?_)
    · -- 47: jump
      exact absurd hc47 (jz_ge hok.2.1 hok.2.2.2 hr)
    · -- 47: fall
      refine fx_aload 6 dq_PN_give_50 rfl ?_
      refine fx_geti ok fq_PN_90 hak dq_PN_give_52 (by decide) ?_
      refine fx_eqt (hon.2 a (by omega) _) ?_
      refine fx_istore dq_PN_give_55 (by decide) rfl ?_
      refine fx_eqv (v' := fx_i h a 0 + nI 0) (jz_0 _).symm ?_
      refine fx_for (fun c => [(7, .int (fx_i h a 0 + nI c)), (6, .int (fx_i h a 1 + nI r)), (5, .int (nI ((fx_i h a 2).toNatClampNeg * r + c))), (0, .ref n), (1, .int (nI i)), (2, .int s), (3, .ref q), (4, .ref a)]) (fun c k => pGive h n i a q r c k) k (fx_i h a 2).toNatClampNeg (fun c hc hK2 => ?_) ?_
      · have hon2 : fx_on (n + 6 + i) h (it (fun c k => pGive h n i a q r c k) k c) := fx_on_t hon (pGive_on1 h n i a q r k c)
        clear hK
        generalize it (fun c k => pGive h n i a q r c k) k c = k2 at hon2 hK2 ⊢
        have hn2 := isN_sm hon2.1 hn
        have hq2 := isP_sm hon2.1 hq
        have ha2 := (fx_sm_s hon2.1 a).trans ha
        refine fx_iload 0 dq_PN_give_57 rfl ?_
        refine fx_aload 7 dq_PN_give_59 rfl ?_
        refine fx_geti ok fq_PN_90 ha2 dq_PN_give_61 (by decide) ?_
        refine fx_eqt (hon2.2 a (by omega) _) ?_
        refine fx_aload 7 dq_PN_give_64 rfl ?_
        refine fx_geti ok fq_PN_93 ha2 dq_PN_give_66 (by decide) ?_
        refine fx_eqt (hon2.2 a (by omega) _) ?_
        refine fx_iadd dq_PN_give_69 ?_
        refine fx_icmp_ge (tgt := 99) dq_PN_give_70 (by decide) (fun hc70 => ?_) (fun hc70 => ?_)
        · -- 70: jump
          exact absurd hc70 (jz_ge hok.1 hok.2.2.1 hc)
        · -- 70: fall
          refine fx_aload_n 3 dq_PN_give_73 rfl rfl ?_
          refine fx_getr ok fq_PN_24 hn2.1 dq_PN_give_74 (by decide) hn2.2.2.2.2.2.1 ?_
          refine fx_iload_n 4 dq_PN_give_77 rfl rfl ?_
          refine fx_aaload ok hn2.2.2.2.2.2.2.1 (by decide) rfl rfl (vp_in_nI hi (by decide)) (by rw [nI_clamp (by omega)]; exact (hn2.2.2.2.2.2.2.2 i hi).2.2.1) dq_PN_give_78 ?_
          refine fx_iload 2 dq_PN_give_79 rfl ?_
          refine fx_aload_n 6 dq_PN_give_81 rfl rfl ?_
          refine fx_iload 0 dq_PN_give_82 rfl ?_
          refine fx_iload 1 dq_PN_give_84 rfl ?_
          refine fx_Vi2 ok sq_PN_96 hq2.1 (cp_colorAt ok _ _ (by exact hq2) _ _ (by rw [pIx_on hon2 (by omega)]; exact hiq r c hr hc)) (by decide) (Nat.le_of_ble_eq_true rfl) dq_PN_give_86 ?_
          refine fx_iastore ok (hn2.2.2.2.2.2.2.2 i hi).2.2.2 (vp_in_nI (hcap r c hr hc) (by decide)) dq_PN_give_89 ?_
          refine fx_iinc 2 dq_PN_give_90 rfl (jz_i _) (by decide) rfl ?_
          refine fx_iinc 1 dq_PN_give_93 rfl (jz_s _ c) (by decide) rfl ?_
          refine fx_goto (tgt := 57) dq_PN_give_96 (by decide) ?_
          refine fx_sub [0, 2, 1, 3, 4, 5, 6, 7] rfl ?_
          exact fx_eqh (by rw [pGive, nI_clamp (by have := hcap r c hr hc; omega), ← pColor_on hon2 (by omega) (by omega)]) hK2
      · have hon2 : fx_on (n + 6 + i) h (it (fun c k => pGive h n i a q r c k) k (fx_i h a 2).toNatClampNeg) := fx_on_t hon (pGive_on1 h n i a q r k (fx_i h a 2).toNatClampNeg)
        have hK3 : fx_X g mq_PN_give 34 [(6, .int (fx_i h a 1 + nI (r + 1))), (5, .int (nI ((fx_i h a 2).toNatClampNeg * (r + 1)))), (0, .ref n), (1, .int (nI i)), (2, .int s), (3, .ref q), (4, .ref a)] [] (it (fun c k => pGive h n i a q r c k) k (fx_i h a 2).toNatClampNeg) _ 0 0 := hK
        clear hK
        generalize it (fun c k => pGive h n i a q r c k) k (fx_i h a 2).toNatClampNeg = k2 at hon2 hK3 ⊢
        have hn2 := isN_sm hon2.1 hn
        have hq2 := isP_sm hon2.1 hq
        have ha2 := (fx_sm_s hon2.1 a).trans ha
        refine fx_iload 0 dq_PN_give_57 rfl ?_
        refine fx_aload 7 dq_PN_give_59 rfl ?_
        refine fx_geti ok fq_PN_90 ha2 dq_PN_give_61 (by decide) ?_
        refine fx_eqt (hon2.2 a (by omega) _) ?_
        refine fx_aload 7 dq_PN_give_64 rfl ?_
        refine fx_geti ok fq_PN_93 ha2 dq_PN_give_66 (by decide) ?_
        refine fx_eqt (hon2.2 a (by omega) _) ?_
        refine fx_iadd dq_PN_give_69 ?_
        refine fx_icmp_ge (tgt := 99) dq_PN_give_70 (by decide) (fun hc70 => ?_) (fun hc70 => ?_)
        · -- 70: jump
          refine fx_iinc 1 dq_PN_give_99 rfl (jz_s _ r) (by decide) rfl ?_
          refine fx_goto (tgt := 34) dq_PN_give_102 (by decide) ?_
          exact fx_sub [0, 2, 3, 4, 5, 6, 7] rfl hK3
        · -- 70: fall
          exact absurd (jz_end hok.1 hok.2.2.1) hc70
  · have hon : fx_on (n + 6 + i) h (it (fun r k => it (fun c k => pGive h n i a q r c k) k (fx_i h a 2).toNatClampNeg) h (fx_i h a 3).toNatClampNeg) := pGive_on h n i a q (fx_i h a 2).toNatClampNeg (fx_i h a 3).toNatClampNeg
    generalize hgen : it (fun r k => it (fun c k => pGive h n i a q r c k) k (fx_i h a 2).toNatClampNeg) h (fx_i h a 3).toNatClampNeg = k at hon ⊢
    have hnk := isN_sm hon.1 hn
    have hqk := isP_sm hon.1 hq
    have hak := (fx_sm_s hon.1 a).trans ha
    refine fx_iload 0 dq_PN_give_34 rfl ?_
    refine fx_aload 6 dq_PN_give_36 rfl ?_
    refine fx_geti ok fq_PN_84 hak dq_PN_give_38 (by decide) ?_
    refine fx_eqt (hon.2 a (by omega) _) ?_
    refine fx_aload 6 dq_PN_give_41 rfl ?_
    refine fx_geti ok fq_PN_87 hak dq_PN_give_43 (by decide) ?_
    refine fx_eqt (hon.2 a (by omega) _) ?_
    refine fx_iadd dq_PN_give_46 ?_
    refine fx_icmp_ge (tgt := 105) dq_PN_give_47 (by decide) (fun hc47 => ?_) (fun hc47 => ?_)
    · -- 47: jump
      exact fx_vreturn rfl dq_PN_give_105 ⟨rfl, rfl⟩
    · -- 47: fall
      exact absurd (jz_end hok.2.1 hok.2.2.2) hc47

def gLoop (h : fx_H) (n i q : Nat) : fx_H := it (fun r k => it (fun c k => pGive h n i (n + 3 + i) q r c k) k (fx_i h (n + 3 + i) 2).toNatClampNeg) h (fx_i h (n + 3 + i) 3).toNatClampNeg
theorem gLoop_on (h : fx_H) (n i q : Nat) : fx_on (n + 6 + i) h (gLoop h n i q) := pGive_on h n i (n + 3 + i) q _ _
def k_PN_give (h : fx_H) (n i : Nat) (s : Int32) (q : Nat) : fx_H := gLoop (rset (fx_wi h (n + 1) i s) (n + 3 + i) (fx_i (fx_wi h (n + 1) i s) (q + 3) 0) (fx_i (fx_wi h (n + 1) i s) (q + 3) 1) (fx_i (fx_wi h (n + 1) i s) (q + 3) 2) (fx_i (fx_wi h (n + 1) i s) (q + 3) 3)) n i q
set_option maxRecDepth 100000 in
set_option maxHeartbeats 600000 in
theorem c_PN_give {g : fx_G} (ok : fx_ok g) (h : fx_H) (n i : Nat) (s : Int32) (q : Nat) (hn : isN h n) (hi : i < 2) (hq : isP h q) (hnq : n + 7 < q ∨ q + 3 < n) (hs : sOk h q) (hcap : ∀ r c, r < (fx_i h (q + 3) 3).toNatClampNeg → c < (fx_i h (q + 3) 2).toNatClampNeg → (fx_i h (q + 3) 2).toNatClampNeg * r + c < 24) : fx_C g mq_PN_give [.ref n, .int (nI i), .int s, .ref q] h (fx_is none (k_PN_give h n i s q)) 0 0 := by
  refine fx_body (by decide +kernel) (Nat.le_of_ble_eq_true rfl) ?_
  show fx_X g mq_PN_give 0 [(0, .ref n), (1, .int (nI i)), (2, .int s), (3, .ref q)] [] h _ 0 0
  refine fx_aload_n 0 dq_PN_give_0 rfl rfl ?_
  refine fx_getr ok fq_PN_9 hn.1 dq_PN_give_1 (by decide) hn.2.1 ?_
  refine fx_iload_n 1 dq_PN_give_4 rfl rfl ?_
  refine fx_iload_n 2 dq_PN_give_5 rfl rfl ?_
  refine fx_isN ok hn.2.2.1 ⟨hi, by decide⟩ dq_PN_give_6 ?_
  refine fx_aload_n 0 dq_PN_give_7 rfl rfl ?_
  refine fx_getr ok fq_PN_18 hn.1 dq_PN_give_8 (by decide) hn.2.2.2.1 ?_
  refine fx_iload_n 1 dq_PN_give_11 rfl rfl ?_
  refine fx_aaN ok hn.2.2.2.2.1 (by decide) rfl rfl ⟨hi, by decide⟩ (hn.2.2.2.2.2.2.2 i hi).1 dq_PN_give_12 ?_
  refine fx_astore dq_PN_give_13 (by decide) rfl ?_
  refine fx_aload 0 dq_PN_give_15 rfl ?_
  refine fx_aload_n 4 dq_PN_give_17 rfl rfl ?_
  refine fx_getr ok fq_PN_69 hq.1 dq_PN_give_18 (by decide) hq.2.2.2.2.2.1 ?_
  refine fx_Vv1 ok sq_PN_27 (hn.2.2.2.2.2.2.2 i hi).2.1 (cr_become ok _ _ _ (by exact (hn.2.2.2.2.2.2.2 i hi).2.1) (by exact hq.2.2.2.2.2.2)) (by decide) (Nat.le_of_ble_eq_true rfl) dq_PN_give_21 ?_
  refine fx_iconst (v := 0) dq_PN_give_24 (by decide) ?_
  refine fx_istore dq_PN_give_25 (by decide) rfl ?_
  refine fx_sub [0, 2, 3, 4, 5, 1] rfl ?_
  rw [k_PN_give]
  generalize hg : rset (fx_wi h (n + 1) i s) (n + 3 + i) (fx_i (fx_wi h (n + 1) i s) (q + 3) 0) (fx_i (fx_wi h (n + 1) i s) (q + 3) 1) (fx_i (fx_wi h (n + 1) i s) (q + 3) 2) (fx_i (fx_wi h (n + 1) i s) (q + 3) 3) = k
  have eg : ∀ j, j < 4 → fx_i k (n + 3 + i) j = fx_i h (q + 3) j := by
    intro j hj
    subst hg
    have h1 : ¬ (n + 3 + i = n + 1) := by omega
    have h2 : ¬ (q + 3 = n + 1) := by omega
    match j, hj with
    | 0, _ => simp [rset, fx_i_wi, h1, h2]
    | 1, _ => simp [rset, fx_i_wi, h1, h2]
    | 2, _ => simp [rset, fx_i_wi, h1, h2]
    | 3, _ => simp [rset, fx_i_wi, h1, h2]
  have ek : fx_out (n + 1) (n + 6) h k := by
    subst hg
    exact fx_out_t (fx_out_wi _ _ _ _ _ _ (by omega)) (fx_out_rset _ _ _ _ _ _ _ _ (by omega))
  have eh := sOk_out ek (by omega) hs
  have hp3 : ∀ j, fx_i k (q + 3) j = fx_i h (q + 3) j := ek.2 (q + 3) (by omega)
  refine cn_giveLoop ok k n i q s (n + 3 + i) (isN_sm ek.1 hn) hi (isP_sm ek.1 hq) ((fx_sm_s ek.1 _).trans (hn.2.2.2.2.2.2.2 i hi).2.1) rfl hnq (rOk_of eg hs.1) ?_ ?_
  · rw [eg 2 (by decide), eg 3 (by decide)]
    exact hcap
  · rw [eg 0 (by decide), eg 1 (by decide), eg 2 (by decide), eg 3 (by decide)]
    intro r c hr hc
    refine eh.2 _ _ ?_
    rw [← hp3 0, ← hp3 1]
    exact rHas_1 eh.1 (by rw [hp3]; exact hr) (by rw [hp3]; exact hc)
