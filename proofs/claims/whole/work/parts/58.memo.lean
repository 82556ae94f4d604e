/-! ===== Memory: pixels painted over a rectangle; layDown ===== -/
/-- a memory at m: its pixels, its misses (a row of seven rectangles) behind it -/
def isI (h : fx_H) (m : Nat) : Prop := fx_s h m = some (.inl 5) ∧ fx_r h m 0 = some (m + 1) ∧ fx_s h (m + 1) = some (.inr (4, 7)) ∧ ∀ i, i < 7 → fx_r h (m + 1) i = some (m + 2 + i) ∧ fx_s h (m + 2 + i) = some (.inl 1)
def isE (h : fx_H) (m : Nat) : Prop := fx_s h m = some (.inl 6) ∧ fx_r h m 0 = some (m + 1) ∧ fx_s h (m + 1) = some (.inr (0, 200)) ∧ fx_r h m 1 = some (m + 2) ∧ isI h (m + 2)
theorem isI_sm {h h' : fx_H} {m : Nat} (e : fx_sm h h') (hp : isI h m) : isI h' m := by
  obtain ⟨h1, h2, h3, h4⟩ := hp
  exact ⟨(fx_sm_s e _).trans h1, (fx_sm_r e _ _).trans h2, (fx_sm_s e _).trans h3, fun s hs => ⟨(fx_sm_r e _ _).trans (h4 s hs).1, (fx_sm_s e _).trans (h4 s hs).2⟩⟩
theorem isE_sm {h h' : fx_H} {m : Nat} (e : fx_sm h h') (hp : isE h m) : isE h' m := by
  obtain ⟨h1, h2, h3, h4, h5⟩ := hp
  exact ⟨(fx_sm_s e _).trans h1, (fx_sm_r e _ _).trans h2, (fx_sm_s e _).trans h3, (fx_sm_r e _ _).trans h4, isI_sm e h5⟩
def mBl (h : fx_H) (m a : Nat) (r c : Nat) (k : fx_H) : fx_H := fx_wi k (m + 1) ((fx_i h a 1 + nI r) * 20 + (fx_i h a 0 + nI c)).toNatClampNeg 0
theorem mBl_on1 (h : fx_H) (m a : Nat) (r : Nat) (k : fx_H) (n : Nat) : fx_on (m + 1) k (it (fun c k => mBl h m a r c k) k n) := fx_on_it (fun _ _ => fx_on_wi _ _ _ _) k n
theorem mBl_on (h : fx_H) (m a : Nat) (n j : Nat) : fx_on (m + 1) h (it (fun r k => it (fun c k => mBl h m a r c k) k n) h j) := fx_on_it (fun r k => mBl_on1 h m a r k n) h j
set_option maxRecDepth 100000 in
set_option maxHeartbeats 600000 in
theorem ce_blacken {g : fx_G} (ok : fx_ok g) (h : fx_H) (m a : Nat) (hm : isE h m) (ha : fx_s h a = some (.inl 1)) (ham : a ≠ m + 1) (hok : rOk h a) (hin : ∀ r c, r < (fx_i h a 3).toNatClampNeg → c < (fx_i h a 2).toNatClampNeg → vp_in ((fx_i h a 1 + nI r) * 20 + (fx_i h a 0 + nI c)) 200) : fx_C g mq_ME_blacken [.ref m, .ref a] h (fx_is none (it (fun r k => it (fun c k => mBl h m a r c k) k (fx_i h a 2).toNatClampNeg) h (fx_i h a 3).toNatClampNeg)) 0 0 := by
  refine fx_body (by decide +kernel) (Nat.le_of_ble_eq_true rfl) ?_
  show fx_X g mq_ME_blacken 0 [(0, .ref m), (1, .ref a)] [] h _ 0 0
  refine fx_aload_n 1 dq_ME_blacken_0 rfl rfl ?_
  refine fx_geti ok fq_ME_22 ha dq_ME_blacken_1 (by decide) ?_
  refine fx_istore_n dq_ME_blacken_4 rfl (by decide) rfl ?_
  refine fx_eqv (v' := fx_i h a 1 + nI 0) (jz_0 _).symm ?_
  refine fx_for (fun r => [(2, .int (fx_i h a 1 + nI r)), (0, .ref m), (1, .ref a)]) (fun r k => it (fun c k => mBl h m a r c k) k (fx_i h a 2).toNatClampNeg) h (fx_i h a 3).toNatClampNeg (fun r hr hK => ?_) ?_
  · have hon : fx_on (m + 1) h (it (fun r k => it (fun c k => mBl h m a r c k) k (fx_i h a 2).toNatClampNeg) h r) := mBl_on h m a (fx_i h a 2).toNatClampNeg r
    generalize it (fun r k => it (fun c k => mBl h m a r c k) k (fx_i h a 2).toNatClampNeg) h r = k at hon hK ⊢
    have hmk := isE_sm hon.1 hm
    have hak := (fx_sm_s hon.1 a).trans ha
    refine fx_iload_n 0 dq_ME_blacken_5 rfl rfl ?_
    refine fx_aload_n 2 dq_ME_blacken_6 rfl rfl ?_
    refine fx_geti ok fq_ME_22 hak dq_ME_blacken_7 (by decide) ?_
    refine fx_eqt (hon.2 a (by omega) _) ?_
    refine fx_aload_n 2 dq_ME_blacken_10 rfl rfl ?_
    refine fx_geti ok fq_ME_28 hak dq_ME_blacken_11 (by decide) ?_
    refine fx_eqt (hon.2 a (by omega) _) ?_
    refine fx_iadd dq_ME_blacken_14 ?_
    refine fx_icmp_ge (tgt := 60) dq_ME_blacken_15 (by decide) (fun hc15 => ?_) (fun hc15 => ?_)
    · -- 15: jump
      exact absurd hc15 (jz_ge hok.2.1 hok.2.2.2 hr)
    · -- 15: fall
      refine fx_aload_n 2 dq_ME_blacken_18 rfl rfl ?_
      refine fx_geti ok fq_ME_31 hak dq_ME_blacken_19 (by decide) ?_
      refine fx_eqt (hon.2 a (by omega) _) ?_
      refine fx_istore_n dq_ME_blacken_22 rfl (by decide) rfl ?_
      refine fx_eqv (v' := fx_i h a 0 + nI 0) (jz_0 _).symm ?_
      refine fx_for (fun c => [(3, .int (fx_i h a 0 + nI c)), (2, .int (fx_i h a 1 + nI r)), (0, .ref m), (1, .ref a)]) (fun c k => mBl h m a r c k) k (fx_i h a 2).toNatClampNeg (fun c hc hK2 => ?_) ?_
      · have hon2 : fx_on (m + 1) h (it (fun c k => mBl h m a r c k) k c) := fx_on_t hon (mBl_on1 h m a r k c)
        clear hK
        generalize it (fun c k => mBl h m a r c k) k c = k2 at hon2 hK2 ⊢
        have hm2 := isE_sm hon2.1 hm
        have ha2 := (fx_sm_s hon2.1 a).trans ha
        refine fx_iload_n 0 dq_ME_blacken_23 rfl rfl ?_
        refine fx_aload_n 3 dq_ME_blacken_24 rfl rfl ?_
        refine fx_geti ok fq_ME_31 ha2 dq_ME_blacken_25 (by decide) ?_
        refine fx_eqt (hon2.2 a (by omega) _) ?_
        refine fx_aload_n 3 dq_ME_blacken_28 rfl rfl ?_
        refine fx_geti ok fq_ME_34 ha2 dq_ME_blacken_29 (by decide) ?_
        refine fx_eqt (hon2.2 a (by omega) _) ?_
        refine fx_iadd dq_ME_blacken_32 ?_
        refine fx_icmp_ge (tgt := 54) dq_ME_blacken_33 (by decide) (fun hc33 => ?_) (fun hc33 => ?_)
        · -- 33: jump
          exact absurd hc33 (jz_ge hok.1 hok.2.2.1 hc)
        · -- 33: fall
          refine fx_aload_n 2 dq_ME_blacken_36 rfl rfl ?_
          refine fx_getr ok fq_ME_9 hm2.1 dq_ME_blacken_37 (by decide) hm2.2.1 ?_
          refine fx_iload_n 1 dq_ME_blacken_40 rfl rfl ?_
          refine fx_bipush (v := 20) dq_ME_blacken_41 (by decide) ?_
          refine fx_imul dq_ME_blacken_43 ?_
          refine fx_iload_n 0 dq_ME_blacken_44 rfl rfl ?_
          refine fx_iadd dq_ME_blacken_45 ?_
          refine fx_iconst (v := 0) dq_ME_blacken_46 (by decide) ?_
          refine fx_iastore ok hm2.2.2.1 (hin r c hr hc) dq_ME_blacken_47 ?_
          refine fx_iinc 0 dq_ME_blacken_48 rfl (jz_s _ c) (by decide) rfl ?_
          refine fx_goto (tgt := 23) dq_ME_blacken_51 (by decide) ?_
          refine fx_sub [0, 1, 2, 3] rfl ?_
          exact hK2
      · have hon2 : fx_on (m + 1) h (it (fun c k => mBl h m a r c k) k (fx_i h a 2).toNatClampNeg) := fx_on_t hon (mBl_on1 h m a r k (fx_i h a 2).toNatClampNeg)
        have hK3 : fx_X g mq_ME_blacken 5 [(2, .int (fx_i h a 1 + nI (r + 1))), (0, .ref m), (1, .ref a)] [] (it (fun c k => mBl h m a r c k) k (fx_i h a 2).toNatClampNeg) _ 0 0 := hK
        clear hK
        generalize it (fun c k => mBl h m a r c k) k (fx_i h a 2).toNatClampNeg = k2 at hon2 hK3 ⊢
        have hm2 := isE_sm hon2.1 hm
        have ha2 := (fx_sm_s hon2.1 a).trans ha
        refine fx_iload_n 0 dq_ME_blacken_23 rfl rfl ?_
        refine fx_aload_n 3 dq_ME_blacken_24 rfl rfl ?_
        refine fx_geti ok fq_ME_31 ha2 dq_ME_blacken_25 (by decide) ?_
        refine fx_eqt (hon2.2 a (by omega) _) ?_
        refine fx_aload_n 3 dq_ME_blacken_28 rfl rfl ?_
        refine fx_geti ok fq_ME_34 ha2 dq_ME_blacken_29 (by decide) ?_
        refine fx_eqt (hon2.2 a (by omega) _) ?_
        refine fx_iadd dq_ME_blacken_32 ?_
        refine fx_icmp_ge (tgt := 54) dq_ME_blacken_33 (by decide) (fun hc33 => ?_) (fun hc33 => ?_)
        · -- 33: jump
          refine fx_iinc 1 dq_ME_blacken_54 rfl (jz_s _ r) (by decide) rfl ?_
          refine fx_goto (tgt := 5) dq_ME_blacken_57 (by decide) ?_
          exact fx_sub [0, 2, 3] rfl hK3
        · -- 33: fall
          exact absurd (jz_end hok.1 hok.2.2.1) hc33
  · have hon : fx_on (m + 1) h (it (fun r k => it (fun c k => mBl h m a r c k) k (fx_i h a 2).toNatClampNeg) h (fx_i h a 3).toNatClampNeg) := mBl_on h m a (fx_i h a 2).toNatClampNeg (fx_i h a 3).toNatClampNeg
    generalize hgen : it (fun r k => it (fun c k => mBl h m a r c k) k (fx_i h a 2).toNatClampNeg) h (fx_i h a 3).toNatClampNeg = k at hon ⊢
    have hmk := isE_sm hon.1 hm
    have hak := (fx_sm_s hon.1 a).trans ha
    refine fx_iload_n 0 dq_ME_blacken_5 rfl rfl ?_
    refine fx_aload_n 2 dq_ME_blacken_6 rfl rfl ?_
    refine fx_geti ok fq_ME_22 hak dq_ME_blacken_7 (by decide) ?_
    refine fx_eqt (hon.2 a (by omega) _) ?_
    refine fx_aload_n 2 dq_ME_blacken_10 rfl rfl ?_
    refine fx_geti ok fq_ME_28 hak dq_ME_blacken_11 (by decide) ?_
    refine fx_eqt (hon.2 a (by omega) _) ?_
    refine fx_iadd dq_ME_blacken_14 ?_
    refine fx_icmp_ge (tgt := 60) dq_ME_blacken_15 (by decide) (fun hc15 => ?_) (fun hc15 => ?_)
    · -- 15: jump
      exact fx_vreturn rfl dq_ME_blacken_60 ⟨rfl, rfl⟩
    · -- 15: fall
      exact absurd (jz_end hok.2.1 hok.2.2.2) hc15

theorem pIx_on {m q : Nat} {h k : fx_H} (hon : fx_on m h k) (h1 : q ≠ m) (c r : Int32) : pIx k q c r = pIx h q c r := by
  unfold pIx
  rw [hon.2 q h1, hon.2 q h1, hon.2 q h1]
theorem pColor_on {m q : Nat} {h k : fx_H} (hon : fx_on m h k) (h1 : q ≠ m) (h2 : q + 1 ≠ m) (c r : Int32) : pColor k q c r = pColor h q c r := by
  unfold pColor
  rw [pIx_on hon h1, hon.2 (q + 1) h2]
theorem rHas_on {m q : Nat} {h k : fx_H} (hon : fx_on m h k) (h1 : q ≠ m) (c r : Int32) : rHas k q c r = rHas h q c r := by
  unfold rHas
  rw [hon.2 q h1, hon.2 q h1, hon.2 q h1, hon.2 q h1]
def pLay (h : fx_H) (p a q : Nat) (r c : Nat) (k : fx_H) : fx_H := fx_wi k (p + 1) ((fx_i h a 1 + nI r) * fx_i h p 1 + (fx_i h a 0 + nI c)).toNatClampNeg (pColor h q (fx_i h a 0 + nI c) (fx_i h a 1 + nI r))
theorem pLay_on1 (h : fx_H) (p a q : Nat) (r : Nat) (k : fx_H) (n : Nat) : fx_on (p + 1) k (it (fun c k => pLay h p a q r c k) k n) := fx_on_it (fun _ _ => fx_on_wi _ _ _ _) k n
theorem pLay_on (h : fx_H) (p a q : Nat) (n m : Nat) : fx_on (p + 1) h (it (fun r k => it (fun c k => pLay h p a q r c k) k n) h m) := fx_on_it (fun r k => pLay_on1 h p a q r k n) h m
set_option maxRecDepth 100000 in
set_option maxHeartbeats 600000 in
theorem cp_layDown {g : fx_G} (ok : fx_ok g) (h : fx_H) (p a q : Nat) (hp : isP h p) (ha : fx_s h a = some (.inl 1)) (hq : isP h q) (hap : a ≠ p + 1) (hpq : p + 3 < q ∨ q + 3 < p) (hok : rOk h a) (hin : ∀ r c, r < (fx_i h a 3).toNatClampNeg → c < (fx_i h a 2).toNatClampNeg → vp_in ((fx_i h a 1 + nI r) * fx_i h p 1 + (fx_i h a 0 + nI c)) 96) (hiq : ∀ r c, r < (fx_i h a 3).toNatClampNeg → c < (fx_i h a 2).toNatClampNeg → vp_in (pIx h q (fx_i h a 0 + nI c) (fx_i h a 1 + nI r)) 96) : fx_C g mq_PI_layDown [.ref p, .ref a, .ref q] h (fx_is none (it (fun r k => it (fun c k => pLay h p a q r c k) k (fx_i h a 2).toNatClampNeg) h (fx_i h a 3).toNatClampNeg)) 0 0 := by
  refine fx_body (by decide +kernel) (Nat.le_of_ble_eq_true rfl) ?_
  show fx_X g mq_PI_layDown 0 [(0, .ref p), (1, .ref a), (2, .ref q)] [] h _ 0 0
  refine fx_aload_n 1 dq_PI_layDown_0 rfl rfl ?_
  refine fx_geti ok fq_PI_81 ha dq_PI_layDown_1 (by decide) ?_
  refine fx_istore_n dq_PI_layDown_4 rfl (by decide) rfl ?_
  refine fx_eqv (v' := fx_i h a 1 + nI 0) (jz_0 _).symm ?_
  refine fx_for (fun r => [(3, .int (fx_i h a 1 + nI r)), (0, .ref p), (1, .ref a), (2, .ref q)]) (fun r k => it (fun c k => pLay h p a q r c k) k (fx_i h a 2).toNatClampNeg) h (fx_i h a 3).toNatClampNeg (fun r hr hK => ?_) ?_
  · have hon : fx_on (p + 1) h (it (fun r k => it (fun c k => pLay h p a q r c k) k (fx_i h a 2).toNatClampNeg) h r) := pLay_on h p a q (fx_i h a 2).toNatClampNeg r
    generalize it (fun r k => it (fun c k => pLay h p a q r c k) k (fx_i h a 2).toNatClampNeg) h r = k at hon hK ⊢
    have hpk := isP_sm hon.1 hp
    have hak := (fx_sm_s hon.1 a).trans ha
    have hqk := isP_sm hon.1 hq
    refine fx_iload_n 0 dq_PI_layDown_5 rfl rfl ?_
    refine fx_aload_n 2 dq_PI_layDown_6 rfl rfl ?_
    refine fx_geti ok fq_PI_81 hak dq_PI_layDown_7 (by decide) ?_
    refine fx_eqt (hon.2 a (by omega) _) ?_
    refine fx_aload_n 2 dq_PI_layDown_10 rfl rfl ?_
    refine fx_geti ok fq_PI_82 hak dq_PI_layDown_11 (by decide) ?_
    refine fx_eqt (hon.2 a (by omega) _) ?_
    refine fx_iadd dq_PI_layDown_14 ?_
    refine fx_icmp_ge (tgt := 71) dq_PI_layDown_15 (by decide) (fun hc15 => ?_) (fun hc15 => ?_)
    · -- 15: jump
      exact absurd hc15 (jz_ge hok.2.1 hok.2.2.2 hr)
    · -- 15: fall
      refine fx_aload_n 2 dq_PI_layDown_18 rfl rfl ?_
      refine fx_geti ok fq_PI_83 hak dq_PI_layDown_19 (by decide) ?_
      refine fx_eqt (hon.2 a (by omega) _) ?_
      refine fx_istore dq_PI_layDown_22 (by decide) rfl ?_
      refine fx_eqv (v' := fx_i h a 0 + nI 0) (jz_0 _).symm ?_
      refine fx_for (fun c => [(4, .int (fx_i h a 0 + nI c)), (3, .int (fx_i h a 1 + nI r)), (0, .ref p), (1, .ref a), (2, .ref q)]) (fun c k => pLay h p a q r c k) k (fx_i h a 2).toNatClampNeg (fun c hc hK2 => ?_) ?_
      · have hon2 : fx_on (p + 1) h (it (fun c k => pLay h p a q r c k) k c) := fx_on_t hon (pLay_on1 h p a q r k c)
        clear hK
        generalize it (fun c k => pLay h p a q r c k) k c = k2 at hon2 hK2 ⊢
        have hp2 := isP_sm hon2.1 hp
        have ha2 := (fx_sm_s hon2.1 a).trans ha
        have hq2 := isP_sm hon2.1 hq
        refine fx_iload 0 dq_PI_layDown_24 rfl ?_
        refine fx_aload_n 3 dq_PI_layDown_26 rfl rfl ?_
        refine fx_geti ok fq_PI_83 ha2 dq_PI_layDown_27 (by decide) ?_
        refine fx_eqt (hon2.2 a (by omega) _) ?_
        refine fx_aload_n 3 dq_PI_layDown_30 rfl rfl ?_
        refine fx_geti ok fq_PI_84 ha2 dq_PI_layDown_31 (by decide) ?_
        refine fx_eqt (hon2.2 a (by omega) _) ?_
        refine fx_iadd dq_PI_layDown_34 ?_
        refine fx_icmp_ge (tgt := 65) dq_PI_layDown_35 (by decide) (fun hc35 => ?_) (fun hc35 => ?_)
        · -- 35: jump
          exact absurd hc35 (jz_ge hok.1 hok.2.2.1 hc)
        · -- 35: fall
          refine fx_aload_n 2 dq_PI_layDown_38 rfl rfl ?_
          refine fx_getr ok fq_PI_9 hp2.1 dq_PI_layDown_39 (by decide) hp2.2.1 ?_
          refine fx_iload_n 1 dq_PI_layDown_42 rfl rfl ?_
          refine fx_aload_n 2 dq_PI_layDown_43 rfl rfl ?_
          refine fx_geti ok fq_PI_29 hp2.1 dq_PI_layDown_44 (by decide) ?_
          refine fx_eqt (hon2.2 p (by omega) _) ?_
          refine fx_imul dq_PI_layDown_47 ?_
          refine fx_iload 0 dq_PI_layDown_48 rfl ?_
          refine fx_iadd dq_PI_layDown_50 ?_
          refine fx_aload_n 4 dq_PI_layDown_51 rfl rfl ?_
          refine fx_iload 0 dq_PI_layDown_52 rfl ?_
          refine fx_iload_n 1 dq_PI_layDown_54 rfl rfl ?_
          refine fx_Vi2 ok sq_PI_85 hq2.1 (cp_colorAt ok _ _ (by exact hq2) _ _ (by rw [pIx_on hon2 (by omega)]; exact hiq r c hr hc)) (by decide) (Nat.le_of_ble_eq_true rfl) dq_PI_layDown_55 ?_
          refine fx_iastore ok hp2.2.2.1 (hin r c hr hc) dq_PI_layDown_58 ?_
          refine fx_iinc 0 dq_PI_layDown_59 rfl (jz_s _ c) (by decide) rfl ?_
          refine fx_goto (tgt := 24) dq_PI_layDown_62 (by decide) ?_
          refine fx_sub [0, 1, 2, 3, 4] rfl ?_
          exact fx_eqh (by rw [pLay, ← pColor_on hon2 (by omega) (by omega)]) hK2
      · have hon2 : fx_on (p + 1) h (it (fun c k => pLay h p a q r c k) k (fx_i h a 2).toNatClampNeg) := fx_on_t hon (pLay_on1 h p a q r k (fx_i h a 2).toNatClampNeg)
        have hK3 : fx_X g mq_PI_layDown 5 [(3, .int (fx_i h a 1 + nI (r + 1))), (0, .ref p), (1, .ref a), (2, .ref q)] [] (it (fun c k => pLay h p a q r c k) k (fx_i h a 2).toNatClampNeg) _ 0 0 := hK
        clear hK
        generalize it (fun c k => pLay h p a q r c k) k (fx_i h a 2).toNatClampNeg = k2 at hon2 hK3 ⊢
        have hp2 := isP_sm hon2.1 hp
        have ha2 := (fx_sm_s hon2.1 a).trans ha
        have hq2 := isP_sm hon2.1 hq
        refine fx_iload 0 dq_PI_layDown_24 rfl ?_
        refine fx_aload_n 3 dq_PI_layDown_26 rfl rfl ?_
        refine fx_geti ok fq_PI_83 ha2 dq_PI_layDown_27 (by decide) ?_
        refine fx_eqt (hon2.2 a (by omega) _) ?_
        refine fx_aload_n 3 dq_PI_layDown_30 rfl rfl ?_
        refine fx_geti ok fq_PI_84 ha2 dq_PI_layDown_31 (by decide) ?_
        refine fx_eqt (hon2.2 a (by omega) _) ?_
        refine fx_iadd dq_PI_layDown_34 ?_
        refine fx_icmp_ge (tgt := 65) dq_PI_layDown_35 (by decide) (fun hc35 => ?_) (fun hc35 => ?_)
        · -- 35: jump
          refine fx_iinc 1 dq_PI_layDown_65 rfl (jz_s _ r) (by decide) rfl ?_
          refine fx_goto (tgt := 5) dq_PI_layDown_68 (by decide) ?_
          exact fx_sub [0, 2, 3, 4] rfl hK3
        · -- 35: fall
          exact absurd (jz_end hok.1 hok.2.2.1) hc35
  · have hon : fx_on (p + 1) h (it (fun r k => it (fun c k => pLay h p a q r c k) k (fx_i h a 2).toNatClampNeg) h (fx_i h a 3).toNatClampNeg) := pLay_on h p a q (fx_i h a 2).toNatClampNeg (fx_i h a 3).toNatClampNeg
    generalize hgen : it (fun r k => it (fun c k => pLay h p a q r c k) k (fx_i h a 2).toNatClampNeg) h (fx_i h a 3).toNatClampNeg = k at hon ⊢
    have hpk := isP_sm hon.1 hp
    have hak := (fx_sm_s hon.1 a).trans ha
    have hqk := isP_sm hon.1 hq
    refine fx_iload_n 0 dq_PI_layDown_5 rfl rfl ?_
    refine fx_aload_n 2 dq_PI_layDown_6 rfl rfl ?_
    refine fx_geti ok fq_PI_81 hak dq_PI_layDown_7 (by decide) ?_
    refine fx_eqt (hon.2 a (by omega) _) ?_
    refine fx_aload_n 2 dq_PI_layDown_10 rfl rfl ?_
    refine fx_geti ok fq_PI_82 hak dq_PI_layDown_11 (by decide) ?_
    refine fx_eqt (hon.2 a (by omega) _) ?_
    refine fx_iadd dq_PI_layDown_14 ?_
    refine fx_icmp_ge (tgt := 71) dq_PI_layDown_15 (by decide) (fun hc15 => ?_) (fun hc15 => ?_)
    · -- 15: jump
      exact fx_vreturn rfl dq_PI_layDown_71 ⟨rfl, rfl⟩
    · -- 15: fall
      exact absurd (jz_end hok.2.1 hok.2.2.2) hc15

def mPt (h : fx_H) (m q a : Nat) (r c : Nat) (k : fx_H) : fx_H := if rHas h (q + 3) (fx_i h a 0 + nI c) (fx_i h a 1 + nI r) = 0 then k else fx_wi k (m + 1) ((fx_i h a 1 + nI r) * 20 + (fx_i h a 0 + nI c)).toNatClampNeg (jM (pColor h q (fx_i h a 0 + nI c) (fx_i h a 1 + nI r)) (fx_i k (m + 1) ((fx_i h a 1 + nI r) * 20 + (fx_i h a 0 + nI c)).toNatClampNeg) (fx_i h q 6))
theorem mPt_on0 (h : fx_H) (m q a : Nat) (r c : Nat) (k : fx_H) : fx_on (m + 1) k (mPt h m q a r c k) := by
  unfold mPt
  split
  · exact fx_on_rf _ _
  · exact fx_on_wi _ _ _ _
theorem mPt_on1 (h : fx_H) (m q a : Nat) (r : Nat) (k : fx_H) (n : Nat) : fx_on (m + 1) k (it (fun c k => mPt h m q a r c k) k n) := fx_on_it (fun _ _ => mPt_on0 _ _ _ _ _ _ _) k n
theorem mPt_on (h : fx_H) (m q a : Nat) (n j : Nat) : fx_on (m + 1) h (it (fun r k => it (fun c k => mPt h m q a r c k) k n) h j) := fx_on_it (fun r k => mPt_on1 h m q a r k n) h j
set_option maxRecDepth 100000 in
set_option maxHeartbeats 600000 in
theorem ce_paint {g : fx_G} (ok : fx_ok g) (h : fx_H) (m q a : Nat) (hm : isE h m) (hq : isP h q) (ha : fx_s h a = some (.inl 1)) (ham : a ≠ m + 1) (hmq : m + 1 < q ∨ q + 3 < m + 1) (hok : rOk h a) (hin : ∀ r c, r < (fx_i h a 3).toNatClampNeg → c < (fx_i h a 2).toNatClampNeg → vp_in ((fx_i h a 1 + nI r) * 20 + (fx_i h a 0 + nI c)) 200) (hiq : ∀ r c, r < (fx_i h a 3).toNatClampNeg → c < (fx_i h a 2).toNatClampNeg → ¬ rHas h (q + 3) (fx_i h a 0 + nI c) (fx_i h a 1 + nI r) = 0 → vp_in (pIx h q (fx_i h a 0 + nI c) (fx_i h a 1 + nI r)) 96) : fx_C g mq_ME_paint [.ref m, .ref q, .ref a] h (fx_is none (it (fun r k => it (fun c k => mPt h m q a r c k) k (fx_i h a 2).toNatClampNeg) h (fx_i h a 3).toNatClampNeg)) 0 0 := by
  refine fx_body (by decide +kernel) (Nat.le_of_ble_eq_true rfl) ?_
  show fx_X g mq_ME_paint 0 [(0, .ref m), (1, .ref q), (2, .ref a)] [] h _ 0 0
  refine fx_aload_n 2 dq_ME_paint_0 rfl rfl ?_
  refine fx_geti ok fq_ME_22 ha dq_ME_paint_1 (by decide) ?_
  refine fx_istore_n dq_ME_paint_4 rfl (by decide) rfl ?_
  refine fx_eqv (v' := fx_i h a 1 + nI 0) (jz_0 _).symm ?_
  refine fx_for (fun r => [(3, .int (fx_i h a 1 + nI r)), (0, .ref m), (1, .ref q), (2, .ref a)]) (fun r k => it (fun c k => mPt h m q a r c k) k (fx_i h a 2).toNatClampNeg) h (fx_i h a 3).toNatClampNeg (fun r hr hK => ?_) ?_
  · have hon : fx_on (m + 1) h (it (fun r k => it (fun c k => mPt h m q a r c k) k (fx_i h a 2).toNatClampNeg) h r) := mPt_on h m q a (fx_i h a 2).toNatClampNeg r
    generalize it (fun r k => it (fun c k => mPt h m q a r c k) k (fx_i h a 2).toNatClampNeg) h r = k at hon hK ⊢
    have hmk := isE_sm hon.1 hm
    have hqk := isP_sm hon.1 hq
    have hak := (fx_sm_s hon.1 a).trans ha
    refine fx_iload_n 0 dq_ME_paint_5 rfl rfl ?_
    refine fx_aload_n 3 dq_ME_paint_6 rfl rfl ?_
    refine fx_geti ok fq_ME_22 hak dq_ME_paint_7 (by decide) ?_
    refine fx_eqt (hon.2 a (by omega) _) ?_
    refine fx_aload_n 3 dq_ME_paint_10 rfl rfl ?_
    refine fx_geti ok fq_ME_28 hak dq_ME_paint_11 (by decide) ?_
    refine fx_eqt (hon.2 a (by omega) _) ?_
    refine fx_iadd dq_ME_paint_14 ?_
    refine fx_icmp_ge (tgt := 100) dq_ME_paint_15 (by decide) (fun hc15 => ?_) (fun hc15 => ?_)
    · -- 15: jump
      exact absurd hc15 (jz_ge hok.2.1 hok.2.2.2 hr)
    · -- 15: fall
      refine fx_aload_n 3 dq_ME_paint_18 rfl rfl ?_
      refine fx_geti ok fq_ME_31 hak dq_ME_paint_19 (by decide) ?_
      refine fx_eqt (hon.2 a (by omega) _) ?_
      refine fx_istore dq_ME_paint_22 (by decide) rfl ?_
      refine fx_eqv (v' := fx_i h a 0 + nI 0) (jz_0 _).symm ?_
      refine fx_for (fun c => [(4, .int (fx_i h a 0 + nI c)), (3, .int (fx_i h a 1 + nI r)), (0, .ref m), (1, .ref q), (2, .ref a)]) (fun c k => mPt h m q a r c k) k (fx_i h a 2).toNatClampNeg (fun c hc hK2 => ?_) ?_
      · have hon2 : fx_on (m + 1) h (it (fun c k => mPt h m q a r c k) k c) := fx_on_t hon (mPt_on1 h m q a r k c)
        clear hK
        generalize it (fun c k => mPt h m q a r c k) k c = k2 at hon2 hK2 ⊢
        have hm2 := isE_sm hon2.1 hm
        have hq2 := isP_sm hon2.1 hq
        have ha2 := (fx_sm_s hon2.1 a).trans ha
        refine fx_iload 0 dq_ME_paint_24 rfl ?_
        refine fx_aload_n 4 dq_ME_paint_26 rfl rfl ?_
        refine fx_geti ok fq_ME_31 ha2 dq_ME_paint_27 (by decide) ?_
        refine fx_eqt (hon2.2 a (by omega) _) ?_
        refine fx_aload_n 4 dq_ME_paint_30 rfl rfl ?_
        refine fx_geti ok fq_ME_34 ha2 dq_ME_paint_31 (by decide) ?_
        refine fx_eqt (hon2.2 a (by omega) _) ?_
        refine fx_iadd dq_ME_paint_34 ?_
        refine fx_icmp_ge (tgt := 94) dq_ME_paint_35 (by decide) (fun hc35 => ?_) (fun hc35 => ?_)
        · -- 35: jump
          exact absurd hc35 (jz_ge hok.1 hok.2.2.1 hc)
        · -- 35: fall
          refine fx_aload_n 3 dq_ME_paint_38 rfl rfl ?_
          refine fx_getr ok fq_ME_37 hq2.1 dq_ME_paint_39 (by decide) hq2.2.2.2.2.2.1 ?_
          refine fx_iload 0 dq_ME_paint_42 rfl ?_
          refine fx_iload_n 1 dq_ME_paint_44 rfl rfl ?_
          refine fx_Vi2 ok sq_ME_43 hq2.2.2.2.2.2.2 (cr_has ok _ _ (by exact hq2.2.2.2.2.2.2) _ _) (by decide) (Nat.le_of_ble_eq_true rfl) dq_ME_paint_45 ?_
          refine fx_if_eq (tgt := 88) dq_ME_paint_48 (by decide) (fun hc48 => ?_) (fun hc48 => ?_)
          · -- 48: jump
            refine fx_iinc 0 dq_ME_paint_88 rfl (jz_s _ c) (by decide) rfl ?_
            refine fx_goto (tgt := 24) dq_ME_paint_91 (by decide) ?_
            refine fx_sub [0, 1, 2, 3, 4] rfl ?_
            exact fx_eqh (by rw [mPt, if_pos (by rw [← rHas_on hon2 (by omega)]; exact hc48)]) hK2
          · -- 48: fall
            refine fx_iload_n 1 dq_ME_paint_51 rfl rfl ?_
            refine fx_bipush (v := 20) dq_ME_paint_52 (by decide) ?_
            refine fx_imul dq_ME_paint_54 ?_
            refine fx_iload 0 dq_ME_paint_55 rfl ?_
            refine fx_iadd dq_ME_paint_57 ?_
            refine fx_istore dq_ME_paint_58 (by decide) rfl ?_
            refine fx_aload_n 3 dq_ME_paint_60 rfl rfl ?_
            refine fx_getr ok fq_ME_9 hm2.1 dq_ME_paint_61 (by decide) hm2.2.1 ?_
            refine fx_iload 0 dq_ME_paint_64 rfl ?_
            refine fx_aload_n 4 dq_ME_paint_66 rfl rfl ?_
            refine fx_iload 1 dq_ME_paint_67 rfl ?_
            refine fx_iload_n 2 dq_ME_paint_69 rfl rfl ?_
            refine fx_Vi2 ok sq_ME_47 hq2.1 (cp_colorAt ok _ _ (by exact hq2) _ _ (by rw [pIx_on hon2 (by omega)]; exact hiq r c hr hc (by rw [← rHas_on hon2 (by omega)]; exact hc48))) (by decide) (Nat.le_of_ble_eq_true rfl) dq_ME_paint_70 ?_
            refine fx_aload_n 3 dq_ME_paint_73 rfl rfl ?_
            refine fx_getr ok fq_ME_9 hm2.1 dq_ME_paint_74 (by decide) hm2.2.1 ?_
            refine fx_iload 0 dq_ME_paint_77 rfl ?_
            refine fx_iaload ok hm2.2.2.1 (hin r c hr hc) dq_ME_paint_79 ?_
            refine fx_aload_n 4 dq_ME_paint_80 rfl rfl ?_
            refine fx_geti ok fq_ME_51 hq2.1 dq_ME_paint_81 (by decide) ?_
            refine fx_eqt (hon2.2 q (by omega) _) ?_
            refine fx_Mi3 ok sq_ME_54 (cq_mix ok _ _ _ _) (by decide) (Nat.le_of_ble_eq_true rfl) dq_ME_paint_84 ?_
            refine fx_iastore ok hm2.2.2.1 (hin r c hr hc) dq_ME_paint_87 ?_
            refine fx_iinc 1 dq_ME_paint_88 rfl (jz_s _ c) (by decide) rfl ?_
            refine fx_goto (tgt := 24) dq_ME_paint_91 (by decide) ?_
            refine fx_sub [0, 2, 3, 4, 5] rfl ?_
            exact fx_eqh (by rw [mPt, if_neg (by rw [← rHas_on hon2 (by omega)]; exact hc48), ← pColor_on hon2 (by omega) (by omega)]) hK2
      · have hon2 : fx_on (m + 1) h (it (fun c k => mPt h m q a r c k) k (fx_i h a 2).toNatClampNeg) := fx_on_t hon (mPt_on1 h m q a r k (fx_i h a 2).toNatClampNeg)
        have hK3 : fx_X g mq_ME_paint 5 [(3, .int (fx_i h a 1 + nI (r + 1))), (0, .ref m), (1, .ref q), (2, .ref a)] [] (it (fun c k => mPt h m q a r c k) k (fx_i h a 2).toNatClampNeg) _ 0 0 := hK
        clear hK
        generalize it (fun c k => mPt h m q a r c k) k (fx_i h a 2).toNatClampNeg = k2 at hon2 hK3 ⊢
        have hm2 := isE_sm hon2.1 hm
        have hq2 := isP_sm hon2.1 hq
        have ha2 := (fx_sm_s hon2.1 a).trans ha
        refine fx_iload 0 dq_ME_paint_24 rfl ?_
        refine fx_aload_n 4 dq_ME_paint_26 rfl rfl ?_
        refine fx_geti ok fq_ME_31 ha2 dq_ME_paint_27 (by decide) ?_
        refine fx_eqt (hon2.2 a (by omega) _) ?_
        refine fx_aload_n 4 dq_ME_paint_30 rfl rfl ?_
        refine fx_geti ok fq_ME_34 ha2 dq_ME_paint_31 (by decide) ?_
        refine fx_eqt (hon2.2 a (by omega) _) ?_
        refine fx_iadd dq_ME_paint_34 ?_
        refine fx_icmp_ge (tgt := 94) dq_ME_paint_35 (by decide) (fun hc35 => ?_) (fun hc35 => ?_)
        · -- 35: jump
          refine fx_iinc 1 dq_ME_paint_94 rfl (jz_s _ r) (by decide) rfl ?_
          refine fx_goto (tgt := 5) dq_ME_paint_97 (by decide) ?_
          exact fx_sub [0, 2, 3, 4] rfl hK3
        · -- 35: fall
          exact absurd (jz_end hok.1 hok.2.2.1) hc35
  · have hon : fx_on (m + 1) h (it (fun r k => it (fun c k => mPt h m q a r c k) k (fx_i h a 2).toNatClampNeg) h (fx_i h a 3).toNatClampNeg) := mPt_on h m q a (fx_i h a 2).toNatClampNeg (fx_i h a 3).toNatClampNeg
    generalize hgen : it (fun r k => it (fun c k => mPt h m q a r c k) k (fx_i h a 2).toNatClampNeg) h (fx_i h a 3).toNatClampNeg = k at hon ⊢
    have hmk := isE_sm hon.1 hm
    have hqk := isP_sm hon.1 hq
    have hak := (fx_sm_s hon.1 a).trans ha
    refine fx_iload_n 0 dq_ME_paint_5 rfl rfl ?_
    refine fx_aload_n 3 dq_ME_paint_6 rfl rfl ?_
    refine fx_geti ok fq_ME_22 hak dq_ME_paint_7 (by decide) ?_
    refine fx_eqt (hon.2 a (by omega) _) ?_
    refine fx_aload_n 3 dq_ME_paint_10 rfl rfl ?_
    refine fx_geti ok fq_ME_28 hak dq_ME_paint_11 (by decide) ?_
    refine fx_eqt (hon.2 a (by omega) _) ?_
    refine fx_iadd dq_ME_paint_14 ?_
    refine fx_icmp_ge (tgt := 100) dq_ME_paint_15 (by decide) (fun hc15 => ?_) (fun hc15 => ?_)
    · -- 15: jump
      exact fx_vreturn rfl dq_ME_paint_100 ⟨rfl, rfl⟩
    · -- 15: fall
      exact absurd (jz_end hok.2.1 hok.2.2.2) hc15

