/-! ===== FrameSwapper: the other calls ===== -/
theorem jW_n {x hi : Int32} {n : Nat} (h : ¬ jW x 0 hi = 0) (hn : hi.toInt + 1 = n) : x = nI x.toNatClampNeg ∧ x.toNatClampNeg < n := by
  have h1 := jW_in h rfl hn
  have h2 := fx_in h1
  refine ⟨?_, h2⟩
  have h3 : ¬ x < 0 := fun z => h1 (Or.inl z)
  rw [iz_lt] at h3
  have e0 : (0 : Int32).toInt = 0 := rfl
  have h4 := iz_nn (a := x) (by omega)
  have h5 := Int32.toInt_lt x
  rw [iz_eq, nI_toInt (by omega)]
  omega
theorem scr_in {x y : Int32} (h : ¬ jS x y = 0) : vp_in (y * 20 + x) 200 := by
  unfold jS at h
  by_cases h1 : jW x 0 19 = 0 ∨ jW y 0 9 = 0
  · rw [if_pos h1] at h
    exact absurd rfl h
  · have hx := jW_n (n := 20) (fun z => h1 (Or.inl z)) rfl
    have hy := jW_n (n := 10) (fun z => h1 (Or.inr z)) rfl
    have ex : x.toInt = x.toNatClampNeg := by rw [hx.1, nI_toInt (by omega), nI_clamp (by omega)]
    have ey : y.toInt = y.toNatClampNeg := by rw [hy.1, nI_toInt (by omega), nI_clamp (by omega)]
    have e0 : (20 : Int32).toInt = 20 := rfl
    have h2 : (y * 20).toInt = y.toInt * 20 := by rw [iz_mul (by rw [e0]; omega), e0]
    have h3 : (y * 20 + x).toInt = y.toInt * 20 + x.toInt := by rw [iz_add (by rw [h2]; omega), h2]
    exact iz_in (by omega) (by omega)
theorem mi_in {h : fx_H} {m : Nat} {x : Int32} (hm : mOk h m) (h1 : ¬ x < 0) (h2 : x < fx_i h m 1) : vp_in x 7 := by
  have h3 := hm.1
  rw [hm.2] at h2
  rw [iz_lt, nI_toInt (by omega)] at h2
  rw [iz_lt] at h1
  have e0 : (0 : Int32).toInt = 0 := rfl
  exact iz_in (by omega) (by omega)
def o_FS_put (h : fx_H) (w f b : Nat) (s x y co : Int32) : fx_O := if (v_DE_hasDraft h (w + 1) s) = 0 then Sum.inr "java/lang/IllegalArgumentException" else if (jW co 0 65535) = 0 then Sum.inr "java/lang/IllegalArgumentException" else if (jW x (0 : Int32) ((fx_i h (w + 1 + 48 + 4 * s.toNatClampNeg) 1) - (1 : Int32))) = 0 then Sum.inr "java/lang/IndexOutOfBoundsException" else if (jW y (0 : Int32) ((fx_i h (w + 1 + 48 + 4 * s.toNatClampNeg) 2) - (1 : Int32))) = 0 then Sum.inr "java/lang/IndexOutOfBoundsException" else Sum.inl none
def k_FS_put (h : fx_H) (w f b : Nat) (s x y co : Int32) : fx_H := if (v_DE_hasDraft h (w + 1) s) = 0 then fx_sk h 1 else if (jW co 0 65535) = 0 then fx_sk h 1 else if (jW x (0 : Int32) ((fx_i h (w + 1 + 48 + 4 * s.toNatClampNeg) 1) - (1 : Int32))) = 0 then fx_sk h 1 else if (jW y (0 : Int32) ((fx_i h (w + 1 + 48 + 4 * s.toNatClampNeg) 2) - (1 : Int32))) = 0 then fx_sk h 1 else fx_wi h (w + 1 + 48 + 4 * s.toNatClampNeg + 1) ((y * (fx_i h (w + 1 + 48 + 4 * s.toNatClampNeg) 1)) + x).toNatClampNeg co
set_option maxRecDepth 100000 in
set_option maxHeartbeats 1000000 in
theorem c_FS_put {g : fx_G} (ok : fx_ok g) (h : fx_H) (w f b : Nat) (s x y co : Int32) (hF : isF h w f b)  (hN0 : ¬ (v_DE_hasDraft h (w + 1) s) = 0 → ¬ (jW co 0 65535) = 0 → ¬ (jW x (0 : Int32) ((fx_i h (w + 1 + 48 + 4 * s.toNatClampNeg) 1) - (1 : Int32))) = 0 → ¬ (jW y (0 : Int32) ((fx_i h (w + 1 + 48 + 4 * s.toNatClampNeg) 2) - (1 : Int32))) = 0 → vp_in (y * fx_i h (w + 1 + 48 + 4 * s.toNatClampNeg) 1 + x) 96) : fx_C g mq_FS_put [.ref w, .int s, .int x, .int y, .int co] h (fx_ou (o_FS_put h w f b s x y co) (k_FS_put h w f b s x y co)) 1 6 := by
  refine fx_body (by decide +kernel) (Nat.le_of_ble_eq_true rfl) ?_
  show fx_X g mq_FS_put 0 [(0, .ref w), (1, .int s), (2, .int x), (3, .int y), (4, .int co)] [] h _ 1 6
  refine fx_aload_n 0 dq_FS_put_0 rfl rfl ?_
  refine fx_getr ok fq_FS_10 hF.1 dq_FS_put_1 (by decide) hF.2.1 ?_
  refine fx_iload_n 1 dq_FS_put_4 rfl rfl ?_
  refine fx_Vi1 ok sq_FS_71 hF.2.2.1.1 (c_DE_hasDraft ok _ _ _ (by exact hF.2.2.1)) (by decide) (Nat.le_of_ble_eq_true rfl) dq_FS_put_5 ?_
  refine fx_if_eq (tgt := 23) dq_FS_put_8 (by decide) (fun hc8 => ?_) (fun hc8 => ?_)
  · -- 8: jump
    refine fx_iconst (v := 0) dq_FS_put_23 (by decide) ?_
    exact fx_St1 ok (mc := 0) (ms := 0) sq_FS_52 (cq_demand0 ok _ _ rfl) (by decide) (Nat.le_of_ble_eq_true rfl) dq_FS_put_24 (fx_T_out rfl ⟨by rw [o_FS_put, if_pos hc8], by rw [k_FS_put, if_pos hc8]⟩)
  · -- 8: fall
    refine fx_iload 4 dq_FS_put_11 rfl ?_
    refine fx_Si1 ok sq_FS_123 (cq_isColor ok _ _) (by decide) (Nat.le_of_ble_eq_true rfl) dq_FS_put_13 ?_
    refine fx_if_eq (tgt := 23) dq_FS_put_16 (by decide) (fun hc16 => ?_) (fun hc16 => ?_)
    · -- 16: jump
      refine fx_iconst (v := 0) dq_FS_put_23 (by decide) ?_
      exact fx_St1 ok (mc := 0) (ms := 0) sq_FS_52 (cq_demand0 ok _ _ rfl) (by decide) (Nat.le_of_ble_eq_true rfl) dq_FS_put_24 (fx_T_out rfl ⟨by rw [o_FS_put, if_neg hc8, if_pos hc16], by rw [k_FS_put, if_neg hc8, if_pos hc16]⟩)
    · -- 16: fall
      refine fx_iconst (v := 1) dq_FS_put_19 (by decide) ?_
      refine fx_goto (tgt := 24) dq_FS_put_20 (by decide) ?_
      refine fx_Sv1 ok sq_FS_52 (cq_demand1 ok _ _ (by decide)) (by decide) (Nat.le_of_ble_eq_true rfl) dq_FS_put_24 ?_
      refine fx_aload_n 0 dq_FS_put_27 rfl rfl ?_
      refine fx_getr ok fq_FS_10 hF.1 dq_FS_put_28 (by decide) hF.2.1 ?_
      refine fx_getr ok fq_FS_74 hF.2.2.1.1 dq_FS_put_31 (by decide) hF.2.2.1.2.1 ?_
      refine fx_iload_n 1 dq_FS_put_34 rfl rfl ?_
      refine fx_aaload ok hF.2.2.1.2.2.1 (by decide) rfl rfl (has_in hc8) (hF.2.2.1.2.2.2.2.2.2.2.2.2.2.2 _ (vp_in_lt (has_in hc8))).1 dq_FS_put_35 ?_
      refine fx_astore dq_FS_put_36 (by decide) rfl ?_
      refine fx_iload_n 3 dq_FS_put_38 rfl rfl ?_
      refine fx_iconst (v := 0) dq_FS_put_39 (by decide) ?_
      refine fx_aload 0 dq_FS_put_40 rfl ?_
      refine fx_geti ok fq_FS_113 (hF.2.2.1.2.2.2.2.2.2.2.2.2.2.2 _ (vp_in_lt (has_in hc8))).2.1 dq_FS_put_42 (by decide) ?_
      refine fx_iconst (v := 1) dq_FS_put_45 (by decide) ?_
      refine fx_isub dq_FS_put_46 ?_
      refine fx_Si3 ok sq_FS_48 (cq_isWithin ok _ _ _ _) (by decide) (Nat.le_of_ble_eq_true rfl) dq_FS_put_47 ?_
      refine fx_if_eq (tgt := 68) dq_FS_put_50 (by decide) (fun hc50 => ?_) (fun hc50 => ?_)
      · -- 50: jump
        exact fx_throw1 ok (mc := 0) (ms := 0) kf_IO kf_N lk_FS_126 ki_IO tw_IO dq_FS_put_68 dq_FS_put_71 dq_FS_put_72 dq_FS_put_75 (by decide) (Nat.le_of_ble_eq_true rfl) rfl ⟨by rw [o_FS_put, if_neg hc8, if_neg hc16, if_pos hc50], by rw [k_FS_put, if_neg hc8, if_neg hc16, if_pos hc50]⟩
      · -- 50: fall
        refine fx_iload_n 4 dq_FS_put_53 rfl rfl ?_
        refine fx_iconst (v := 0) dq_FS_put_54 (by decide) ?_
        refine fx_aload 0 dq_FS_put_55 rfl ?_
        refine fx_geti ok fq_FS_116 (hF.2.2.1.2.2.2.2.2.2.2.2.2.2.2 _ (vp_in_lt (has_in hc8))).2.1 dq_FS_put_57 (by decide) ?_
        refine fx_iconst (v := 1) dq_FS_put_60 (by decide) ?_
        refine fx_isub dq_FS_put_61 ?_
        refine fx_Si3 ok sq_FS_48 (cq_isWithin ok _ _ _ _) (by decide) (Nat.le_of_ble_eq_true rfl) dq_FS_put_62 ?_
        refine fx_if_ne (tgt := 76) dq_FS_put_65 (by decide) (fun hc65 => ?_) (fun hc65 => ?_)
        · -- 65: jump
          refine fx_aload 0 dq_FS_put_76 rfl ?_
          refine fx_getr ok fq_FS_129 (hF.2.2.1.2.2.2.2.2.2.2.2.2.2.2 _ (vp_in_lt (has_in hc8))).2.1 dq_FS_put_78 (by decide) (hF.2.2.1.2.2.2.2.2.2.2.2.2.2.2 _ (vp_in_lt (has_in hc8))).2.2.1 ?_
          refine fx_iload_n 4 dq_FS_put_81 rfl rfl ?_
          refine fx_aload 0 dq_FS_put_82 rfl ?_
          refine fx_geti ok fq_FS_113 (hF.2.2.1.2.2.2.2.2.2.2.2.2.2.2 _ (vp_in_lt (has_in hc8))).2.1 dq_FS_put_84 (by decide) ?_
          refine fx_imul dq_FS_put_87 ?_
          refine fx_iload_n 3 dq_FS_put_88 rfl rfl ?_
          refine fx_iadd dq_FS_put_89 ?_
          refine fx_iload 5 dq_FS_put_90 rfl ?_
          refine fx_iastore ok (hF.2.2.1.2.2.2.2.2.2.2.2.2.2.2 _ (vp_in_lt (has_in hc8))).2.2.2.1 (hN0 hc8 hc16 hc50 hc65) dq_FS_put_92 ?_
          exact fx_vreturn rfl dq_FS_put_93 ⟨by rw [o_FS_put, if_neg hc8, if_neg hc16, if_neg hc50, if_neg hc65], by rw [k_FS_put, if_neg hc8, if_neg hc16, if_neg hc50, if_neg hc65]⟩
        · -- 65: fall
          exact fx_throw1 ok (mc := 0) (ms := 0) kf_IO kf_N lk_FS_126 ki_IO tw_IO dq_FS_put_68 dq_FS_put_71 dq_FS_put_72 dq_FS_put_75 (by decide) (Nat.le_of_ble_eq_true rfl) rfl ⟨by rw [o_FS_put, if_neg hc8, if_neg hc16, if_neg hc50, if_pos hc65], by rw [k_FS_put, if_neg hc8, if_neg hc16, if_neg hc50, if_pos hc65]⟩
def fl1 (h : fx_H) (w f b : Nat) (s x y cs rs co : Int32) : fx_H := rset h (w + 186) x y cs rs
def fl2 (h : fx_H) (w f b : Nat) (s x y cs rs co : Int32) : fx_H := rcut (fl1 h w f b s x y cs rs co) (w + 186) (fx_i (fl1 h w f b s x y cs rs co) (w + 1 + 48 + 4 * s.toNatClampNeg) 1) (fx_i (fl1 h w f b s x y cs rs co) (w + 1 + 48 + 4 * s.toNatClampNeg) 2)
def fl3 (h : fx_H) (w f b : Nat) (s x y cs rs co : Int32) : fx_H := kOv (fl2 h w f b s x y cs rs co) (w + 1 + 48 + 4 * s.toNatClampNeg) (w + 186) co
def o_FS_fill (h : fx_H) (w f b : Nat) (s x y cs rs co : Int32) : fx_O := if (v_DE_hasDraft h (w + 1) s) = 0 then Sum.inr "java/lang/IllegalArgumentException" else if (jW co 0 65535) = 0 then Sum.inr "java/lang/IllegalArgumentException" else if (jA x y cs rs) = 0 then Sum.inr "java/lang/IllegalArgumentException" else Sum.inl (some (fx_i (fl3 h w f b s x y cs rs co) (w + 186) 2 * fx_i (fl3 h w f b s x y cs rs co) (w + 186) 3))
def k_FS_fill (h : fx_H) (w f b : Nat) (s x y cs rs co : Int32) : fx_H := if (v_DE_hasDraft h (w + 1) s) = 0 then fx_sk h 1 else if (jW co 0 65535) = 0 then fx_sk h 1 else if (jA x y cs rs) = 0 then fx_sk h 1 else fl3 h w f b s x y cs rs co
set_option maxRecDepth 100000 in
set_option maxHeartbeats 1000000 in
theorem c_FS_fill {g : fx_G} (ok : fx_ok g) (h : fx_H) (w f b : Nat) (s x y cs rs co : Int32) (hF : isF h w f b)  (hN0 : ¬ (v_DE_hasDraft h (w + 1) s) = 0 → ¬ (jW co 0 65535) = 0 → ¬ (jA x y cs rs) = 0 → poPre (fl2 h w f b s x y cs rs co) (w + 1 + 48 + 4 * s.toNatClampNeg) (w + 186)) : fx_C g mq_FS_fill [.ref w, .int s, .int x, .int y, .int cs, .int rs, .int co] h (fx_ou (o_FS_fill h w f b s x y cs rs co) (k_FS_fill h w f b s x y cs rs co)) 1 6 := by
  refine fx_body (by decide +kernel) (Nat.le_of_ble_eq_true rfl) ?_
  show fx_X g mq_FS_fill 0 [(0, .ref w), (1, .int s), (2, .int x), (3, .int y), (4, .int cs), (5, .int rs), (6, .int co)] [] h _ 1 6
  refine fx_aload_n 0 dq_FS_fill_0 rfl rfl ?_
  refine fx_getr ok fq_FS_10 hF.1 dq_FS_fill_1 (by decide) hF.2.1 ?_
  refine fx_iload_n 1 dq_FS_fill_4 rfl rfl ?_
  refine fx_Vi1 ok sq_FS_71 hF.2.2.1.1 (c_DE_hasDraft ok _ _ _ (by exact hF.2.2.1)) (by decide) (Nat.le_of_ble_eq_true rfl) dq_FS_fill_5 ?_
  refine fx_if_eq (tgt := 35) dq_FS_fill_8 (by decide) (fun hc8 => ?_) (fun hc8 => ?_)
  · -- 8: jump
    refine fx_iconst (v := 0) dq_FS_fill_35 (by decide) ?_
    exact fx_St1 ok (mc := 0) (ms := 0) sq_FS_52 (cq_demand0 ok _ _ rfl) (by decide) (Nat.le_of_ble_eq_true rfl) dq_FS_fill_36 (fx_T_out rfl ⟨by rw [o_FS_fill, if_pos hc8], by rw [k_FS_fill, if_pos hc8]⟩)
  · -- 8: fall
    refine fx_iload 6 dq_FS_fill_11 rfl ?_
    refine fx_Si1 ok sq_FS_123 (cq_isColor ok _ _) (by decide) (Nat.le_of_ble_eq_true rfl) dq_FS_fill_13 ?_
    refine fx_if_eq (tgt := 35) dq_FS_fill_16 (by decide) (fun hc16 => ?_) (fun hc16 => ?_)
    · -- 16: jump
      refine fx_iconst (v := 0) dq_FS_fill_35 (by decide) ?_
      exact fx_St1 ok (mc := 0) (ms := 0) sq_FS_52 (cq_demand0 ok _ _ rfl) (by decide) (Nat.le_of_ble_eq_true rfl) dq_FS_fill_36 (fx_T_out rfl ⟨by rw [o_FS_fill, if_neg hc8, if_pos hc16], by rw [k_FS_fill, if_neg hc8, if_pos hc16]⟩)
    · -- 16: fall
      refine fx_iload_n 2 dq_FS_fill_19 rfl rfl ?_
      refine fx_iload_n 3 dq_FS_fill_20 rfl rfl ?_
      refine fx_iload 4 dq_FS_fill_21 rfl ?_
      refine fx_iload 5 dq_FS_fill_23 rfl ?_
      refine fx_Si4 ok sq_FS_103 (cq_isArea ok _ _ _ _ _) (by decide) (Nat.le_of_ble_eq_true rfl) dq_FS_fill_25 ?_
      refine fx_if_eq (tgt := 35) dq_FS_fill_28 (by decide) (fun hc28 => ?_) (fun hc28 => ?_)
      · -- 28: jump
        refine fx_iconst (v := 0) dq_FS_fill_35 (by decide) ?_
        exact fx_St1 ok (mc := 0) (ms := 0) sq_FS_52 (cq_demand0 ok _ _ rfl) (by decide) (Nat.le_of_ble_eq_true rfl) dq_FS_fill_36 (fx_T_out rfl ⟨by rw [o_FS_fill, if_neg hc8, if_neg hc16, if_pos hc28], by rw [k_FS_fill, if_neg hc8, if_neg hc16, if_pos hc28]⟩)
      · -- 28: fall
        refine fx_iconst (v := 1) dq_FS_fill_31 (by decide) ?_
        refine fx_goto (tgt := 36) dq_FS_fill_32 (by decide) ?_
        refine fx_Sv1 ok sq_FS_52 (cq_demand1 ok _ _ (by decide)) (by decide) (Nat.le_of_ble_eq_true rfl) dq_FS_fill_36 ?_
        refine fx_aload_n 0 dq_FS_fill_39 rfl rfl ?_
        refine fx_getr ok fq_FS_10 hF.1 dq_FS_fill_40 (by decide) hF.2.1 ?_
        refine fx_getr ok fq_FS_74 hF.2.2.1.1 dq_FS_fill_43 (by decide) hF.2.2.1.2.1 ?_
        refine fx_iload_n 1 dq_FS_fill_46 rfl rfl ?_
        refine fx_aaload ok hF.2.2.1.2.2.1 (by decide) rfl rfl (has_in hc8) (hF.2.2.1.2.2.2.2.2.2.2.2.2.2.2 _ (vp_in_lt (has_in hc8))).1 dq_FS_fill_47 ?_
        refine fx_astore dq_FS_fill_48 (by decide) rfl ?_
        refine fx_aload_n 1 dq_FS_fill_50 rfl rfl ?_
        refine fx_getr ok fq_FS_33 hF.1 dq_FS_fill_51 (by decide) hF.2.2.2.2.2.2.2.1 ?_
        refine fx_iload_n 3 dq_FS_fill_54 rfl rfl ?_
        refine fx_iload_n 4 dq_FS_fill_55 rfl rfl ?_
        refine fx_iload 5 dq_FS_fill_56 rfl ?_
        refine fx_iload 6 dq_FS_fill_58 rfl ?_
        refine fx_Vv4 ok sq_FS_110 hF.2.2.2.2.2.2.2.2.1 (cr_set ok _ _ (by exact hF.2.2.2.2.2.2.2.2.1) _ _ _ _) (by decide) (Nat.le_of_ble_eq_true rfl) dq_FS_fill_60 ?_
        have e60 : fx_sm h (rset h (w + 186) x y cs rs) := fx_sm_t (h' := h) (rfl : fx_sm h h) (sm_rset h (w + 186) x y cs rs)
        refine fx_eqh (h' := fl1 h w f b s x y cs rs co) rfl ?_
        have e63f : fx_sm h (fl1 h w f b s x y cs rs co) := e60
        refine fx_aload_n 1 dq_FS_fill_63 rfl rfl ?_
        refine fx_getr ok fq_FS_33 ((fx_sm_s e63f _).trans hF.1) dq_FS_fill_64 (by decide) ((fx_sm_r e63f _ _).trans hF.2.2.2.2.2.2.2.1) ?_
        refine fx_aload 0 dq_FS_fill_67 rfl ?_
        refine fx_geti ok fq_FS_113 ((fx_sm_s e63f _).trans (hF.2.2.1.2.2.2.2.2.2.2.2.2.2.2 _ (vp_in_lt (has_in hc8))).2.1) dq_FS_fill_69 (by decide) ?_
        refine fx_aload 0 dq_FS_fill_72 rfl ?_
        refine fx_geti ok fq_FS_116 ((fx_sm_s e63f _).trans (hF.2.2.1.2.2.2.2.2.2.2.2.2.2.2 _ (vp_in_lt (has_in hc8))).2.1) dq_FS_fill_74 (by decide) ?_
        refine fx_Vv2 ok sq_FS_119 ((fx_sm_s e63f _).trans hF.2.2.2.2.2.2.2.2.1) (cr_cut ok _ _ (by exact (fx_sm_s e63f _).trans hF.2.2.2.2.2.2.2.2.1) _ _) (by decide) (Nat.le_of_ble_eq_true rfl) dq_FS_fill_77 ?_
        have e77 : fx_sm h (rcut (fl1 h w f b s x y cs rs co) (w + 186) (fx_i (fl1 h w f b s x y cs rs co) (w + 1 + 48 + 4 * s.toNatClampNeg) 1) (fx_i (fl1 h w f b s x y cs rs co) (w + 1 + 48 + 4 * s.toNatClampNeg) 2)) := fx_sm_t (h' := (fl1 h w f b s x y cs rs co)) e63f (sm_cut (fl1 h w f b s x y cs rs co) (w + 186) (fx_i (fl1 h w f b s x y cs rs co) (w + 1 + 48 + 4 * s.toNatClampNeg) 1) (fx_i (fl1 h w f b s x y cs rs co) (w + 1 + 48 + 4 * s.toNatClampNeg) 2))
        refine fx_eqh (h' := fl2 h w f b s x y cs rs co) rfl ?_
        have e80f : fx_sm h (fl2 h w f b s x y cs rs co) := e77
        refine fx_aload 0 dq_FS_fill_80 rfl ?_
        refine fx_aload_n 1 dq_FS_fill_82 rfl rfl ?_
        refine fx_getr ok fq_FS_33 ((fx_sm_s e80f _).trans hF.1) dq_FS_fill_83 (by decide) ((fx_sm_r e80f _ _).trans hF.2.2.2.2.2.2.2.1) ?_
        refine fx_iload 7 dq_FS_fill_86 rfl ?_
        refine fx_Vv2 ok sq_FS_133 ((fx_sm_s e80f _).trans (hF.2.2.1.2.2.2.2.2.2.2.2.2.2.2 _ (vp_in_lt (has_in hc8))).2.1) (c_PI_paintOver ok (fl2 h w f b s x y cs rs co) (w + 1 + 48 + 4 * s.toNatClampNeg) (w + 186) _ (by exact isP_sm e80f (hF.2.2.1.2.2.2.2.2.2.2.2.2.2.2 _ (vp_in_lt (has_in hc8))).2) (by exact (fx_sm_s e80f _).trans hF.2.2.2.2.2.2.2.2.1) (by have := vp_in_lt (has_in hc8); omega) (hN0 hc8 hc16 hc28)) (by decide) (Nat.le_of_ble_eq_true rfl) dq_FS_fill_88 ?_
        have e88 : fx_sm h (kOv (fl2 h w f b s x y cs rs co) (w + 1 + 48 + 4 * s.toNatClampNeg) (w + 186) co) := fx_sm_t (h' := (fl2 h w f b s x y cs rs co)) e80f (kOv_on (fl2 h w f b s x y cs rs co) (w + 1 + 48 + 4 * s.toNatClampNeg) (w + 186) co).1
        refine fx_eqh (h' := fl3 h w f b s x y cs rs co) rfl ?_
        have e91f : fx_sm h (fl3 h w f b s x y cs rs co) := e88
        refine fx_aload_n 1 dq_FS_fill_91 rfl rfl ?_
        refine fx_getr ok fq_FS_33 ((fx_sm_s e91f _).trans hF.1) dq_FS_fill_92 (by decide) ((fx_sm_r e91f _ _).trans hF.2.2.2.2.2.2.2.1) ?_
        refine fx_Vi0 ok sq_FS_137 ((fx_sm_s e91f _).trans hF.2.2.2.2.2.2.2.2.1) (cr_pixels ok _ _ (by exact (fx_sm_s e91f _).trans hF.2.2.2.2.2.2.2.2.1)) (by decide) (Nat.le_of_ble_eq_true rfl) dq_FS_fill_95 ?_
        exact fx_ireturn rfl dq_FS_fill_98 ⟨by rw [o_FS_fill, if_neg hc8, if_neg hc16, if_neg hc28], by rw [k_FS_fill, if_neg hc8, if_neg hc16, if_neg hc28]⟩
def o_FS_commit (h : fx_H) (w f b : Nat) (cl : Int32) : fx_O := if (jW cl 0 3) = 0 then Sum.inr "java/lang/IllegalArgumentException" else if ((fx_i h (w + 1) 5) - (fx_i h (w + 89) 7)) < (6 : Int32) then Sum.inl (some (fx_i (k_DE_commitAll h (w + 1) cl) (w + 1) 5)) else Sum.inr "java/lang/IllegalStateException"
def k_FS_commit (h : fx_H) (w f b : Nat) (cl : Int32) : fx_H := if (jW cl 0 3) = 0 then fx_sk h 1 else if ((fx_i h (w + 1) 5) - (fx_i h (w + 89) 7)) < (6 : Int32) then k_DE_commitAll h (w + 1) cl else fx_sk h 1
set_option maxRecDepth 100000 in
set_option maxHeartbeats 1000000 in
theorem c_FS_commit {g : fx_G} (ok : fx_ok g) (h : fx_H) (w f b : Nat) (cl : Int32) (hF : isF h w f b)  (hN0 : ¬ (jW cl 0 3) = 0 → ((fx_i h (w + 1) 5) - (fx_i h (w + 89) 7)) < (6 : Int32) → sortOk (it (b_DE_commitAll (w + 1) cl) h 10) (w + 1 + 2)) : fx_C g mq_FS_commit [.ref w, .int cl] h (fx_ou (o_FS_commit h w f b cl) (k_FS_commit h w f b cl)) 1 6 := by
  refine fx_body (by decide +kernel) (Nat.le_of_ble_eq_true rfl) ?_
  show fx_X g mq_FS_commit 0 [(0, .ref w), (1, .int cl)] [] h _ 1 6
  refine fx_iload_n 1 dq_FS_commit_0 rfl rfl ?_
  refine fx_Si1 ok sq_FS_44 (cq_isClient ok _ _) (by decide) (Nat.le_of_ble_eq_true rfl) dq_FS_commit_1 ?_
  by_cases hb4 : (jW cl 0 3) = 0
  · -- 4: thrown
    exact fx_St1 ok (mc := 0) (ms := 0) sq_FS_52 (cq_demand0 ok _ _ hb4) (by decide) (Nat.le_of_ble_eq_true rfl) dq_FS_commit_4 (fx_T_out rfl ⟨by rw [o_FS_commit, if_pos hb4], by rw [k_FS_commit, if_pos hb4]⟩)
  · -- 4: on
    refine fx_Sv1 ok sq_FS_52 (cq_demand1 ok _ _ hb4) (by decide) (Nat.le_of_ble_eq_true rfl) dq_FS_commit_4 ?_
    refine fx_aload_n 0 dq_FS_commit_7 rfl rfl ?_
    refine fx_getr ok fq_FS_10 hF.1 dq_FS_commit_8 (by decide) hF.2.1 ?_
    refine fx_geti ok fq_FS_153 hF.2.2.1.1 dq_FS_commit_11 (by decide) ?_
    refine fx_aload_n 0 dq_FS_commit_14 rfl rfl ?_
    refine fx_getr ok fq_FS_19 hF.1 dq_FS_commit_15 (by decide) hF.2.2.2.1 ?_
    refine fx_geti ok fq_FS_156 hF.2.2.2.2.1.1 dq_FS_commit_18 (by decide) ?_
    refine fx_isub dq_FS_commit_21 ?_
    refine fx_bipush (v := 6) dq_FS_commit_22 (by decide) ?_
    refine fx_icmp_lt (tgt := 35) dq_FS_commit_24 (by decide) (fun hc24 => ?_) (fun hc24 => ?_)
    · -- 24: jump
      refine fx_aload_n 0 dq_FS_commit_35 rfl rfl ?_
      refine fx_getr ok fq_FS_10 hF.1 dq_FS_commit_36 (by decide) hF.2.1 ?_
      refine fx_iload_n 1 dq_FS_commit_39 rfl rfl ?_
      refine fx_Vv1 ok sq_FS_159 hF.2.2.1.1 (c_DE_commitAll ok h (w + 1) cl hF.2.2.1 (jW_in hb4 rfl rfl) (hN0 hb4 hc24)) (by decide) (Nat.le_of_ble_eq_true rfl) dq_FS_commit_40 ?_
      have e40 : fx_sm h (k_DE_commitAll h (w + 1) cl) := fx_sm_t (h' := h) (rfl : fx_sm h h) (sm_DE_commitAll h (w + 1) cl)
      refine fx_aload_n 0 dq_FS_commit_43 rfl rfl ?_
      refine fx_getr ok fq_FS_10 ((fx_sm_s e40 _).trans hF.1) dq_FS_commit_44 (by decide) ((fx_sm_r e40 _ _).trans hF.2.1) ?_
      refine fx_geti ok fq_FS_153 ((fx_sm_s e40 _).trans hF.2.2.1.1) dq_FS_commit_47 (by decide) ?_
      exact fx_ireturn rfl dq_FS_commit_50 ⟨by rw [o_FS_commit, if_neg hb4, if_pos hc24], by rw [k_FS_commit, if_neg hb4, if_pos hc24]⟩
    · -- 24: fall
      exact fx_throw1 ok (mc := 0) (ms := 0) kf_IS kf_N lk_FS_64 ki_IS tw_IS dq_FS_commit_27 dq_FS_commit_30 dq_FS_commit_31 dq_FS_commit_34 (by decide) (Nat.le_of_ble_eq_true rfl) rfl ⟨by rw [o_FS_commit, if_neg hb4, if_neg hc24], by rw [k_FS_commit, if_neg hb4, if_neg hc24]⟩
def o_FS_draw (h : fx_H) (w f b : Nat) (x : Int32) : fx_O := if (jW x (0 : Int32) (200 : Int32)) = 0 then Sum.inr "java/lang/IllegalArgumentException" else if x = 0 then Sum.inl (some (nI (mkC (w + 89) f b x.toNatClampNeg h))) else if (fx_i h (w + 89) 6) = 0 then if (fx_i h (w + 1) 5) ≤ (fx_i h (w + 89) 7) then Sum.inl (some (nI (mkC (w + 89) f b x.toNatClampNeg h))) else Sum.inl (some (nI (mkC (w + 89) f b x.toNatClampNeg (k_CO_begin h (w + 89) (w + 1) f b)))) else Sum.inl (some (nI (mkC (w + 89) f b x.toNatClampNeg h)))
def k_FS_draw (h : fx_H) (w f b : Nat) (x : Int32) : fx_H := if (jW x (0 : Int32) (200 : Int32)) = 0 then fx_sk h 1 else if x = 0 then mkH (w + 89) f b x.toNatClampNeg h else if (fx_i h (w + 89) 6) = 0 then if (fx_i h (w + 1) 5) ≤ (fx_i h (w + 89) 7) then mkH (w + 89) f b x.toNatClampNeg h else mkH (w + 89) f b x.toNatClampNeg (k_CO_begin h (w + 89) (w + 1) f b) else mkH (w + 89) f b x.toNatClampNeg h
set_option maxRecDepth 100000 in
set_option maxHeartbeats 1000000 in
theorem c_FS_draw {g : fx_G} (ok : fx_ok g) (h : fx_H) (w f b : Nat) (x : Int32) (hF : isF h w f b)  (hN0 : ¬ (jW x (0 : Int32) (200 : Int32)) = 0 → x = 0 → mkP (w + 89) f b x.toNatClampNeg h) (hN1 : ¬ (jW x (0 : Int32) (200 : Int32)) = 0 → ¬ x = 0 → ¬ (fx_i h (w + 89) 6) = 0 → mkP (w + 89) f b x.toNatClampNeg h) (hN2 : ¬ (jW x (0 : Int32) (200 : Int32)) = 0 → ¬ x = 0 → (fx_i h (w + 89) 6) = 0 → (fx_i h (w + 1) 5) ≤ (fx_i h (w + 89) 7) → mkP (w + 89) f b x.toNatClampNeg h) (hN3 : ¬ (jW x (0 : Int32) (200 : Int32)) = 0 → ¬ x = 0 → (fx_i h (w + 89) 6) = 0 → ¬ (fx_i h (w + 1) 5) ≤ (fx_i h (w + 89) 7) → bgP h (w + 89) (w + 1) f b) (hN4 : ¬ (jW x (0 : Int32) (200 : Int32)) = 0 → ¬ x = 0 → (fx_i h (w + 89) 6) = 0 → ¬ (fx_i h (w + 1) 5) ≤ (fx_i h (w + 89) 7) → mkP (w + 89) f b x.toNatClampNeg (k_CO_begin h (w + 89) (w + 1) f b)) : fx_C g mq_FS_draw [.ref w, .int x] h (fx_ou (o_FS_draw h w f b x) (k_FS_draw h w f b x)) 1 6 := by
  refine fx_body (by decide +kernel) (Nat.le_of_ble_eq_true rfl) ?_
  show fx_X g mq_FS_draw 0 [(0, .ref w), (1, .int x)] [] h _ 1 6
  refine fx_iload_n 1 dq_FS_draw_0 rfl rfl ?_
  refine fx_iconst (v := 0) dq_FS_draw_1 (by decide) ?_
  refine fx_sipush (v := 200) dq_FS_draw_2 (by decide) ?_
  refine fx_Si3 ok sq_FS_48 (cq_isWithin ok _ _ _ _) (by decide) (Nat.le_of_ble_eq_true rfl) dq_FS_draw_5 ?_
  by_cases hb8 : (jW x (0 : Int32) (200 : Int32)) = 0
  · -- 8: thrown
    exact fx_St1 ok (mc := 0) (ms := 0) sq_FS_52 (cq_demand0 ok _ _ hb8) (by decide) (Nat.le_of_ble_eq_true rfl) dq_FS_draw_8 (fx_T_out rfl ⟨by rw [o_FS_draw, if_pos hb8], by rw [k_FS_draw, if_pos hb8]⟩)
  · -- 8: on
    refine fx_Sv1 ok sq_FS_52 (cq_demand1 ok _ _ hb8) (by decide) (Nat.le_of_ble_eq_true rfl) dq_FS_draw_8 ?_
    refine fx_iload_n 1 dq_FS_draw_11 rfl rfl ?_
    refine fx_if_eq (tgt := 53) dq_FS_draw_12 (by decide) (fun hc12 => ?_) (fun hc12 => ?_)
    · -- 12: jump
      refine fx_aload_n 0 dq_FS_draw_53 rfl rfl ?_
      refine fx_getr ok fq_FS_19 hF.1 dq_FS_draw_54 (by decide) hF.2.2.2.1 ?_
      refine fx_iload_n 1 dq_FS_draw_57 rfl rfl ?_
      refine fx_eqt (v' := nI x.toNatClampNeg) (jW_n (n := 201) hb8 rfl).1 ?_
      refine fx_Vi1 ok sq_FS_170 hF.2.2.2.2.1.1 (c_CO_makeSteps ok h (w + 89) f b x.toNatClampNeg (by exact hF.2.2.2.2.1) (Nat.le_trans (Nat.le_of_lt (jW_n (n := 201) hb8 rfl).2) (by decide)) (hN0 hb8 hc12)) (by decide) (Nat.le_of_ble_eq_true rfl) dq_FS_draw_58 ?_
      have e58 : fx_sm h (mkH (w + 89) f b x.toNatClampNeg h) := fx_sm_t (h' := h) (rfl : fx_sm h h) (sm_mkH (w + 89) f b x.toNatClampNeg h)
      exact fx_ireturn rfl dq_FS_draw_61 ⟨by rw [o_FS_draw, if_neg hb8, if_pos hc12], by rw [k_FS_draw, if_neg hb8, if_pos hc12]⟩
    · -- 12: fall
      refine fx_aload_n 0 dq_FS_draw_15 rfl rfl ?_
      refine fx_getr ok fq_FS_19 hF.1 dq_FS_draw_16 (by decide) hF.2.2.2.1 ?_
      refine fx_geti ok fq_FS_163 hF.2.2.2.2.1.1 dq_FS_draw_19 (by decide) ?_
      refine fx_if_ne (tgt := 53) dq_FS_draw_22 (by decide) (fun hc22 => ?_) (fun hc22 => ?_)
      · -- 22: jump
        refine fx_aload_n 0 dq_FS_draw_53 rfl rfl ?_
        refine fx_getr ok fq_FS_19 hF.1 dq_FS_draw_54 (by decide) hF.2.2.2.1 ?_
        refine fx_iload_n 1 dq_FS_draw_57 rfl rfl ?_
        refine fx_eqt (v' := nI x.toNatClampNeg) (jW_n (n := 201) hb8 rfl).1 ?_
        refine fx_Vi1 ok sq_FS_170 hF.2.2.2.2.1.1 (c_CO_makeSteps ok h (w + 89) f b x.toNatClampNeg (by exact hF.2.2.2.2.1) (Nat.le_trans (Nat.le_of_lt (jW_n (n := 201) hb8 rfl).2) (by decide)) (hN1 hb8 hc12 hc22)) (by decide) (Nat.le_of_ble_eq_true rfl) dq_FS_draw_58 ?_
        have e58 : fx_sm h (mkH (w + 89) f b x.toNatClampNeg h) := fx_sm_t (h' := h) (rfl : fx_sm h h) (sm_mkH (w + 89) f b x.toNatClampNeg h)
        exact fx_ireturn rfl dq_FS_draw_61 ⟨by rw [o_FS_draw, if_neg hb8, if_neg hc12, if_neg hc22], by rw [k_FS_draw, if_neg hb8, if_neg hc12, if_neg hc22]⟩
      · -- 22: fall
        refine fx_aload_n 0 dq_FS_draw_25 rfl rfl ?_
        refine fx_getr ok fq_FS_19 hF.1 dq_FS_draw_26 (by decide) hF.2.2.2.1 ?_
        refine fx_geti ok fq_FS_156 hF.2.2.2.2.1.1 dq_FS_draw_29 (by decide) ?_
        refine fx_aload_n 0 dq_FS_draw_32 rfl rfl ?_
        refine fx_getr ok fq_FS_10 hF.1 dq_FS_draw_33 (by decide) hF.2.1 ?_
        refine fx_geti ok fq_FS_153 hF.2.2.1.1 dq_FS_draw_36 (by decide) ?_
        refine fx_icmp_ge (tgt := 53) dq_FS_draw_39 (by decide) (fun hc39 => ?_) (fun hc39 => ?_)
        · -- 39: jump
          refine fx_aload_n 0 dq_FS_draw_53 rfl rfl ?_
          refine fx_getr ok fq_FS_19 hF.1 dq_FS_draw_54 (by decide) hF.2.2.2.1 ?_
          refine fx_iload_n 1 dq_FS_draw_57 rfl rfl ?_
          refine fx_eqt (v' := nI x.toNatClampNeg) (jW_n (n := 201) hb8 rfl).1 ?_
          refine fx_Vi1 ok sq_FS_170 hF.2.2.2.2.1.1 (c_CO_makeSteps ok h (w + 89) f b x.toNatClampNeg (by exact hF.2.2.2.2.1) (Nat.le_trans (Nat.le_of_lt (jW_n (n := 201) hb8 rfl).2) (by decide)) (hN2 hb8 hc12 hc22 hc39)) (by decide) (Nat.le_of_ble_eq_true rfl) dq_FS_draw_58 ?_
          have e58 : fx_sm h (mkH (w + 89) f b x.toNatClampNeg h) := fx_sm_t (h' := h) (rfl : fx_sm h h) (sm_mkH (w + 89) f b x.toNatClampNeg h)
          exact fx_ireturn rfl dq_FS_draw_61 ⟨by rw [o_FS_draw, if_neg hb8, if_neg hc12, if_pos hc22, if_pos hc39], by rw [k_FS_draw, if_neg hb8, if_neg hc12, if_pos hc22, if_pos hc39]⟩
        · -- 39: fall
          refine fx_aload_n 0 dq_FS_draw_42 rfl rfl ?_
          refine fx_getr ok fq_FS_19 hF.1 dq_FS_draw_43 (by decide) hF.2.2.2.1 ?_
          refine fx_aload_n 0 dq_FS_draw_46 rfl rfl ?_
          refine fx_getr ok fq_FS_10 hF.1 dq_FS_draw_47 (by decide) hF.2.1 ?_
          refine fx_Vv1 ok sq_FS_166 hF.2.2.2.2.1.1 (c_CO_begin ok h (w + 89) (w + 1) f b hF.2.2.2.2.1 hF.2.2.1 (by omega) (hN3 hb8 hc12 hc22 hc39)) (by decide) (Nat.le_of_ble_eq_true rfl) dq_FS_draw_50 ?_
          have e50 : fx_sm h (k_CO_begin h (w + 89) (w + 1) f b) := fx_sm_t (h' := h) (rfl : fx_sm h h) (sm_CO_begin h (w + 89) (w + 1) f b)
          refine fx_aload_n 0 dq_FS_draw_53 rfl rfl ?_
          refine fx_getr ok fq_FS_19 ((fx_sm_s e50 _).trans hF.1) dq_FS_draw_54 (by decide) ((fx_sm_r e50 _ _).trans hF.2.2.2.1) ?_
          refine fx_iload_n 1 dq_FS_draw_57 rfl rfl ?_
          refine fx_eqt (v' := nI x.toNatClampNeg) (jW_n (n := 201) hb8 rfl).1 ?_
          refine fx_Vi1 ok sq_FS_170 ((fx_sm_s e50 _).trans hF.2.2.2.2.1.1) (c_CO_makeSteps ok (k_CO_begin h (w + 89) (w + 1) f b) (w + 89) f b x.toNatClampNeg (by exact isC_sm e50 hF.2.2.2.2.1) (Nat.le_trans (Nat.le_of_lt (jW_n (n := 201) hb8 rfl).2) (by decide)) (hN4 hb8 hc12 hc22 hc39)) (by decide) (Nat.le_of_ble_eq_true rfl) dq_FS_draw_58 ?_
          have e58 : fx_sm h (mkH (w + 89) f b x.toNatClampNeg (k_CO_begin h (w + 89) (w + 1) f b)) := fx_sm_t (h' := (k_CO_begin h (w + 89) (w + 1) f b)) e50 (sm_mkH (w + 89) f b x.toNatClampNeg (k_CO_begin h (w + 89) (w + 1) f b))
          exact fx_ireturn rfl dq_FS_draw_61 ⟨by rw [o_FS_draw, if_neg hb8, if_neg hc12, if_pos hc22, if_neg hc39], by rw [k_FS_draw, if_neg hb8, if_neg hc12, if_pos hc22, if_neg hc39]⟩
def o_FS_scan (h : fx_H) (w f b : Nat) : fx_O := if (10 : Int32) ≤ (fx_i h (w + 175) 3) then if (fx_i (k_BE_endFrame h (w + 175) (fx_i h (w + 89) 8)) (w + 89) 6) = (2 : Int32) then Sum.inl (some (-1 : Int32)) else Sum.inl (some (-1 : Int32)) else Sum.inl (some (v_BE_scanRow h (w + 175) f))
def k_FS_scan (h : fx_H) (w f b : Nat) : fx_H := if (10 : Int32) ≤ (fx_i h (w + 175) 3) then if (fx_i (k_BE_endFrame h (w + 175) (fx_i h (w + 89) 8)) (w + 89) 6) = (2 : Int32) then k_PN_become (k_CO_swap (k_BE_endFrame h (w + 175) (fx_i h (w + 89) 8)) (w + 89) f b) (w + 175 + 1) (w + 89 + 44) else k_BE_endFrame h (w + 175) (fx_i h (w + 89) 8) else k_BE_scanRow h (w + 175) f
set_option maxRecDepth 100000 in
set_option maxHeartbeats 1000000 in
theorem c_FS_scan {g : fx_G} (ok : fx_ok g) (h : fx_H) (w f b : Nat) (hF : isF h w f b)  (hN0 : ¬ (10 : Int32) ≤ (fx_i h (w + 175) 3) → (0 ≤ (fx_i h (w + 175) 3).toInt ∧ (fx_i h (w + 175) 3).toInt ≤ 9)) (hN1 : ¬ (10 : Int32) ≤ (fx_i h (w + 175) 3) → (∀ i, i < 2 → mixOk h (w + 175 + 1) (fx_i h (w + 175) 3) i)) : fx_C g mq_FS_scan [.ref w] h (fx_ou (o_FS_scan h w f b) (k_FS_scan h w f b)) 0 0 := by
  refine fx_body (by decide +kernel) (Nat.le_of_ble_eq_true rfl) ?_
  show fx_X g mq_FS_scan 0 [(0, .ref w)] [] h _ 0 0
  refine fx_aload_n 0 dq_FS_scan_0 rfl rfl ?_
  refine fx_getr ok fq_FS_26 hF.1 dq_FS_scan_1 (by decide) hF.2.2.2.2.2.1 ?_
  refine fx_geti ok fq_FS_174 hF.2.2.2.2.2.2.1.1 dq_FS_scan_4 (by decide) ?_
  refine fx_bipush (v := 10) dq_FS_scan_7 (by decide) ?_
  refine fx_icmp_ge (tgt := 27) dq_FS_scan_9 (by decide) (fun hc9 => ?_) (fun hc9 => ?_)
  · -- 9: jump
    refine fx_aload_n 0 dq_FS_scan_27 rfl rfl ?_
    refine fx_getr ok fq_FS_26 hF.1 dq_FS_scan_28 (by decide) hF.2.2.2.2.2.1 ?_
    refine fx_aload_n 0 dq_FS_scan_31 rfl rfl ?_
    refine fx_getr ok fq_FS_19 hF.1 dq_FS_scan_32 (by decide) hF.2.2.2.1 ?_
    refine fx_geti ok fq_FS_185 hF.2.2.2.2.1.1 dq_FS_scan_35 (by decide) ?_
    refine fx_Vv1 ok sq_FS_188 hF.2.2.2.2.2.2.1.1 (c_BE_endFrame ok h (w + 175) _ hF.2.2.2.2.2.2.1) (by decide) (Nat.le_of_ble_eq_true rfl) dq_FS_scan_38 ?_
    have e38 : fx_sm h (k_BE_endFrame h (w + 175) (fx_i h (w + 89) 8)) := fx_sm_t (h' := h) (rfl : fx_sm h h) (sm_BE_endFrame _ _ _)
    refine fx_aload_n 0 dq_FS_scan_41 rfl rfl ?_
    refine fx_getr ok fq_FS_19 ((fx_sm_s e38 _).trans hF.1) dq_FS_scan_42 (by decide) ((fx_sm_r e38 _ _).trans hF.2.2.2.1) ?_
    refine fx_geti ok fq_FS_163 ((fx_sm_s e38 _).trans hF.2.2.2.2.1.1) dq_FS_scan_45 (by decide) ?_
    refine fx_iconst (v := 2) dq_FS_scan_48 (by decide) ?_
    refine fx_icmp_ne (tgt := 76) dq_FS_scan_49 (by decide) (fun hc49 => ?_) (fun hc49 => ?_)
    · -- 49: jump
      refine fx_iconst (v := -1) dq_FS_scan_76 (by decide) ?_
      exact fx_ireturn rfl dq_FS_scan_77 ⟨by rw [o_FS_scan, if_pos hc9, if_neg hc49], by rw [k_FS_scan, if_pos hc9, if_neg hc49]⟩
    · -- 49: fall
      refine fx_aload_n 0 dq_FS_scan_52 rfl rfl ?_
      refine fx_getr ok fq_FS_19 ((fx_sm_s e38 _).trans hF.1) dq_FS_scan_53 (by decide) ((fx_sm_r e38 _ _).trans hF.2.2.2.1) ?_
      refine fx_Vv0 ok sq_FS_191 ((fx_sm_s e38 _).trans hF.2.2.2.2.1.1) (c_CO_swap ok (k_BE_endFrame h (w + 175) (fx_i h (w + 89) 8)) (w + 89) f b (by exact isC_sm e38 hF.2.2.2.2.1)) (by decide) (Nat.le_of_ble_eq_true rfl) dq_FS_scan_56 ?_
      refine fx_aload_n 0 dq_FS_scan_59 rfl rfl ?_
      refine fx_getr ok fq_FS_26 ((swap_s _ _ _ _ _).trans ((fx_sm_s e38 _).trans hF.1)) dq_FS_scan_60 (by decide) ((swap_r _ _ _ _ _ _ (by omega)).trans ((fx_sm_r e38 _ _).trans hF.2.2.2.2.2.1)) ?_
      refine fx_getr ok fq_FS_194 ((swap_s _ _ _ _ _).trans ((fx_sm_s e38 _).trans hF.2.2.2.2.2.2.1.1)) dq_FS_scan_63 (by decide) ((swap_r _ _ _ _ _ _ (by omega)).trans ((fx_sm_r e38 _ _).trans hF.2.2.2.2.2.2.1.2.1)) ?_
      refine fx_aload_n 0 dq_FS_scan_66 rfl rfl ?_
      refine fx_getr ok fq_FS_19 ((swap_s _ _ _ _ _).trans ((fx_sm_s e38 _).trans hF.1)) dq_FS_scan_67 (by decide) ((swap_r _ _ _ _ _ _ (by omega)).trans ((fx_sm_r e38 _ _).trans hF.2.2.2.1)) ?_
      refine fx_getr ok fq_FS_198 ((swap_s _ _ _ _ _).trans ((fx_sm_s e38 _).trans hF.2.2.2.2.1.1)) dq_FS_scan_70 (by decide) ((swap_r _ _ _ _ _ _ (by omega)).trans ((fx_sm_r e38 _ _).trans hF.2.2.2.2.1.2.2.2.1)) ?_
      refine fx_Vv1 ok sq_FS_201 ((swap_s _ _ _ _ _).trans ((fx_sm_s e38 _).trans hF.2.2.2.2.2.2.1.2.2.1.1)) (c_PN_become ok (k_CO_swap (k_BE_endFrame h (w + 175) (fx_i h (w + 89) 8)) (w + 89) f b) (w + 175 + 1) (w + 89 + 44) (isN_swap (isN_sm e38 hF.2.2.2.2.2.2.1.2.2.1) (by omega)) (isN_swap (isN_sm e38 hF.2.2.2.2.1.2.2.2.2.1) (by omega))) (by decide) (Nat.le_of_ble_eq_true rfl) dq_FS_scan_73 ?_
      refine fx_iconst (v := -1) dq_FS_scan_76 (by decide) ?_
      exact fx_ireturn rfl dq_FS_scan_77 ⟨by rw [o_FS_scan, if_pos hc9, if_pos hc49], by rw [k_FS_scan, if_pos hc9, if_pos hc49]⟩
  · -- 9: fall
    refine fx_aload_n 0 dq_FS_scan_12 rfl rfl ?_
    refine fx_getr ok fq_FS_26 hF.1 dq_FS_scan_13 (by decide) hF.2.2.2.2.2.1 ?_
    refine fx_aload_n 0 dq_FS_scan_16 rfl rfl ?_
    refine fx_getr ok fq_FS_19 hF.1 dq_FS_scan_17 (by decide) hF.2.2.2.1 ?_
    refine fx_getr ok fq_FS_177 hF.2.2.2.2.1.1 dq_FS_scan_20 (by decide) hF.2.2.2.2.1.2.2.2.2.2.2.2.2.2.1 ?_
    refine fx_Vi1 ok sq_FS_181 hF.2.2.2.2.2.2.1.1 (c_BE_scanRow ok h (w + 175) f hF.2.2.2.2.2.2.1 hF.2.2.2.2.1.2.2.2.2.2.2.2.2.2.2.1 (hN0 hc9) (hN1 hc9)) (by decide) (Nat.le_of_ble_eq_true rfl) dq_FS_scan_23 ?_
    exact fx_ireturn rfl dq_FS_scan_26 ⟨by rw [o_FS_scan, if_neg hc9], by rw [k_FS_scan, if_neg hc9]⟩
def o_FS_seen (h : fx_H) (w f b : Nat) (x y : Int32) : fx_O := if (jS x y) = 0 then Sum.inl (some (-1 : Int32)) else Sum.inl (some (fx_i h (w + 175 + 10) ((y * (20 : Int32)) + x).toNatClampNeg))
def k_FS_seen (h : fx_H) (w f b : Nat) (x y : Int32) : fx_H := h
set_option maxRecDepth 100000 in
set_option maxHeartbeats 1000000 in
theorem c_FS_seen {g : fx_G} (ok : fx_ok g) (h : fx_H) (w f b : Nat) (x y : Int32) (hF : isF h w f b)   : fx_C g mq_FS_seen [.ref w, .int x, .int y] h (fx_ou (o_FS_seen h w f b x y) (k_FS_seen h w f b x y)) 0 0 := by
  refine fx_body (by decide +kernel) (Nat.le_of_ble_eq_true rfl) ?_
  show fx_X g mq_FS_seen 0 [(0, .ref w), (1, .int x), (2, .int y)] [] h _ 0 0
  refine fx_iload_n 1 dq_FS_seen_0 rfl rfl ?_
  refine fx_iload_n 2 dq_FS_seen_1 rfl rfl ?_
  refine fx_Si2 ok sq_FS_206 (cq_isOnScreen ok _ _ _) (by decide) (Nat.le_of_ble_eq_true rfl) dq_FS_seen_2 ?_
  refine fx_if_eq (tgt := 25) dq_FS_seen_5 (by decide) (fun hc5 => ?_) (fun hc5 => ?_)
  · -- 5: jump
    refine fx_iconst (v := -1) dq_FS_seen_25 (by decide) ?_
    exact fx_ireturn rfl dq_FS_seen_26 ⟨by rw [o_FS_seen, if_pos hc5], rfl⟩
  · -- 5: fall
    refine fx_aload_n 0 dq_FS_seen_8 rfl rfl ?_
    refine fx_getr ok fq_FS_26 hF.1 dq_FS_seen_9 (by decide) hF.2.2.2.2.2.1 ?_
    refine fx_getr ok fq_FS_210 hF.2.2.2.2.2.2.1.1 dq_FS_seen_12 (by decide) hF.2.2.2.2.2.2.1.2.2.2.2.2.1 ?_
    refine fx_iload_n 2 dq_FS_seen_15 rfl rfl ?_
    refine fx_bipush (v := 20) dq_FS_seen_16 (by decide) ?_
    refine fx_imul dq_FS_seen_18 ?_
    refine fx_iload_n 1 dq_FS_seen_19 rfl rfl ?_
    refine fx_iadd dq_FS_seen_20 ?_
    refine fx_iaload ok hF.2.2.2.2.2.2.1.2.2.2.2.2.2 (scr_in hc5) dq_FS_seen_21 ?_
    refine fx_goto (tgt := 26) dq_FS_seen_22 (by decide) ?_
    exact fx_ireturn rfl dq_FS_seen_26 ⟨by rw [o_FS_seen, if_neg hc5], rfl⟩
def o_FS_wanted (h : fx_H) (w f b : Nat) (x y : Int32) : fx_O := if (jS x y) = 0 then Sum.inl (some (-1 : Int32)) else Sum.inl (some (v_PL_colorAt h (w + 1 + 2) x y))
def k_FS_wanted (h : fx_H) (w f b : Nat) (x y : Int32) : fx_H := h
set_option maxRecDepth 100000 in
set_option maxHeartbeats 1000000 in
theorem c_FS_wanted {g : fx_G} (ok : fx_ok g) (h : fx_H) (w f b : Nat) (x y : Int32) (hF : isF h w f b)  (hN0 : ¬ (jS x y) = 0 → pOk h (w + 1 + 2)) (hN1 : ¬ (jS x y) = 0 → (∀ s, s < 10 → sOk h (w + 1 + 2 + 3 + 4 * s))) : fx_C g mq_FS_wanted [.ref w, .int x, .int y] h (fx_ou (o_FS_wanted h w f b x y) (k_FS_wanted h w f b x y)) 0 0 := by
  refine fx_body (by decide +kernel) (Nat.le_of_ble_eq_true rfl) ?_
  show fx_X g mq_FS_wanted 0 [(0, .ref w), (1, .int x), (2, .int y)] [] h _ 0 0
  refine fx_iload_n 1 dq_FS_wanted_0 rfl rfl ?_
  refine fx_iload_n 2 dq_FS_wanted_1 rfl rfl ?_
  refine fx_Si2 ok sq_FS_206 (cq_isOnScreen ok _ _ _) (by decide) (Nat.le_of_ble_eq_true rfl) dq_FS_wanted_2 ?_
  refine fx_if_eq (tgt := 23) dq_FS_wanted_5 (by decide) (fun hc5 => ?_) (fun hc5 => ?_)
  · -- 5: jump
    refine fx_iconst (v := -1) dq_FS_wanted_23 (by decide) ?_
    exact fx_ireturn rfl dq_FS_wanted_24 ⟨by rw [o_FS_wanted, if_pos hc5], rfl⟩
  · -- 5: fall
    refine fx_aload_n 0 dq_FS_wanted_8 rfl rfl ?_
    refine fx_getr ok fq_FS_10 hF.1 dq_FS_wanted_9 (by decide) hF.2.1 ?_
    refine fx_getr ok fq_FS_213 hF.2.2.1.1 dq_FS_wanted_12 (by decide) hF.2.2.1.2.2.2.1 ?_
    refine fx_iload_n 1 dq_FS_wanted_15 rfl rfl ?_
    refine fx_iload_n 2 dq_FS_wanted_16 rfl rfl ?_
    refine fx_Vi2 ok sq_FS_217 hF.2.2.1.2.2.2.2.1.1 (c_PL_colorAt ok h (w + 1 + 2) _ _ hF.2.2.1.2.2.2.2.1 (hN0 hc5) (hN1 hc5)) (by decide) (Nat.le_of_ble_eq_true rfl) dq_FS_wanted_17 ?_
    refine fx_goto (tgt := 24) dq_FS_wanted_20 (by decide) ?_
    exact fx_ireturn rfl dq_FS_wanted_24 ⟨by rw [o_FS_wanted, if_neg hc5], rfl⟩
def o_FS_plane (h : fx_H) (w f b : Nat) (i : Int32) : fx_O := if (jW i (0 : Int32) (1 : Int32)) = 0 then Sum.inl (some (-1 : Int32)) else Sum.inl (some (fx_i h (w + 89 + 44 + 1) i.toNatClampNeg))
def k_FS_plane (h : fx_H) (w f b : Nat) (i : Int32) : fx_H := h
set_option maxRecDepth 100000 in
set_option maxHeartbeats 1000000 in
theorem c_FS_plane {g : fx_G} (ok : fx_ok g) (h : fx_H) (w f b : Nat) (i : Int32) (hF : isF h w f b)   : fx_C g mq_FS_plane [.ref w, .int i] h (fx_ou (o_FS_plane h w f b i) (k_FS_plane h w f b i)) 0 0 := by
  refine fx_body (by decide +kernel) (Nat.le_of_ble_eq_true rfl) ?_
  show fx_X g mq_FS_plane 0 [(0, .ref w), (1, .int i)] [] h _ 0 0
  refine fx_iload_n 1 dq_FS_plane_0 rfl rfl ?_
  refine fx_iconst (v := 0) dq_FS_plane_1 (by decide) ?_
  refine fx_iconst (v := 1) dq_FS_plane_2 (by decide) ?_
  refine fx_Si3 ok sq_FS_48 (cq_isWithin ok _ _ _ _) (by decide) (Nat.le_of_ble_eq_true rfl) dq_FS_plane_3 ?_
  refine fx_if_eq (tgt := 24) dq_FS_plane_6 (by decide) (fun hc6 => ?_) (fun hc6 => ?_)
  · -- 6: jump
    refine fx_iconst (v := -1) dq_FS_plane_24 (by decide) ?_
    exact fx_ireturn rfl dq_FS_plane_25 ⟨by rw [o_FS_plane, if_pos hc6], rfl⟩
  · -- 6: fall
    refine fx_aload_n 0 dq_FS_plane_9 rfl rfl ?_
    refine fx_getr ok fq_FS_19 hF.1 dq_FS_plane_10 (by decide) hF.2.2.2.1 ?_
    refine fx_getr ok fq_FS_198 hF.2.2.2.2.1.1 dq_FS_plane_13 (by decide) hF.2.2.2.2.1.2.2.2.1 ?_
    refine fx_getr ok fq_FS_251 hF.2.2.2.2.1.2.2.2.2.1.1 dq_FS_plane_16 (by decide) hF.2.2.2.2.1.2.2.2.2.1.2.1 ?_
    refine fx_iload_n 1 dq_FS_plane_19 rfl rfl ?_
    refine fx_iaload ok hF.2.2.2.2.1.2.2.2.2.1.2.2.1 (jW_in hc6 rfl rfl) dq_FS_plane_20 ?_
    refine fx_goto (tgt := 25) dq_FS_plane_21 (by decide) ?_
    exact fx_ireturn rfl dq_FS_plane_25 ⟨by rw [o_FS_plane, if_neg hc6], rfl⟩
def o_FS_count (h : fx_H) (w f b : Nat) (q : Int32) : fx_O := if q = 0 then Sum.inl (some (fx_i h (w + 175) 4)) else if q = 1 then Sum.inl (some (fx_i h (w + 175) 5)) else if q = 2 then Sum.inl (some (fx_i h (w + 89) 7)) else Sum.inl (some (-1 : Int32))
def k_FS_count (h : fx_H) (w f b : Nat) (q : Int32) : fx_H := h
set_option maxRecDepth 100000 in
set_option maxHeartbeats 1000000 in
theorem c_FS_count {g : fx_G} (ok : fx_ok g) (h : fx_H) (w f b : Nat) (q : Int32) (hF : isF h w f b)   : fx_C g mq_FS_count [.ref w, .int q] h (fx_ou (o_FS_count h w f b q) (k_FS_count h w f b q)) 0 0 := by
  refine fx_body (by decide +kernel) (Nat.le_of_ble_eq_true rfl) ?_
  show fx_X g mq_FS_count 0 [(0, .ref w), (1, .int q)] [] h _ 0 0
  refine fx_iload_n 1 dq_FS_count_0 rfl rfl ?_
  by_cases ht0 : q = 0
  · refine fx_eqt ht0 ?_
    refine fx_tsIn (tgt := 28) dq_FS_count_1 (by decide) (by decide) rfl (by decide) ?_
    refine fx_aload_n 0 dq_FS_count_28 rfl rfl ?_
    refine fx_getr ok fq_FS_26 hF.1 dq_FS_count_29 (by decide) hF.2.2.2.2.2.1 ?_
    refine fx_geti ok fq_FS_223 hF.2.2.2.2.2.2.1.1 dq_FS_count_32 (by decide) ?_
    exact fx_ireturn rfl dq_FS_count_35 ⟨by rw [o_FS_count, if_pos ht0], rfl⟩
  · skip
    by_cases ht1 : q = 1
    · refine fx_eqt ht1 ?_
      refine fx_tsIn (tgt := 36) dq_FS_count_1 (by decide) (by decide) rfl (by decide) ?_
      refine fx_aload_n 0 dq_FS_count_36 rfl rfl ?_
      refine fx_getr ok fq_FS_26 hF.1 dq_FS_count_37 (by decide) hF.2.2.2.2.2.1 ?_
      refine fx_geti ok fq_FS_226 hF.2.2.2.2.2.2.1.1 dq_FS_count_40 (by decide) ?_
      exact fx_ireturn rfl dq_FS_count_43 ⟨by rw [o_FS_count, if_neg ht0, if_pos ht1], rfl⟩
    · skip
      by_cases ht2 : q = 2
      · refine fx_eqt ht2 ?_
        refine fx_tsIn (tgt := 44) dq_FS_count_1 (by decide) (by decide) rfl (by decide) ?_
        refine fx_aload_n 0 dq_FS_count_44 rfl rfl ?_
        refine fx_getr ok fq_FS_19 hF.1 dq_FS_count_45 (by decide) hF.2.2.2.1 ?_
        refine fx_geti ok fq_FS_156 hF.2.2.2.2.1.1 dq_FS_count_48 (by decide) ?_
        exact fx_ireturn rfl dq_FS_count_51 ⟨by rw [o_FS_count, if_neg ht0, if_neg ht1, if_pos ht2], rfl⟩
      · skip
        refine fx_tsOut (tgt := 52) dq_FS_count_1 (ts3 ht0 ht1 ht2) (by decide) ?_
        refine fx_iconst (v := -1) dq_FS_count_52 (by decide) ?_
        exact fx_ireturn rfl dq_FS_count_53 ⟨by rw [o_FS_count, if_neg ht0, if_neg ht1, if_neg ht2], rfl⟩
def o_FS_missed (h : fx_H) (w f b : Nat) (i q : Int32) : fx_O := if i < 0 then Sum.inl (some (-1 : Int32)) else if i < (fx_i h (b + 2) 1) then if q = 0 then Sum.inl (some (fx_i h (b + 2 + 2 + i.toNatClampNeg) 0)) else if q = 1 then Sum.inl (some (fx_i h (b + 2 + 2 + i.toNatClampNeg) 1)) else if q = 2 then Sum.inl (some (fx_i h (b + 2 + 2 + i.toNatClampNeg) 2)) else if q = 3 then Sum.inl (some (fx_i h (b + 2 + 2 + i.toNatClampNeg) 3)) else Sum.inl (some (-1 : Int32)) else Sum.inl (some (-1 : Int32))
def k_FS_missed (h : fx_H) (w f b : Nat) (i q : Int32) : fx_H := h
set_option maxRecDepth 100000 in
set_option maxHeartbeats 1000000 in
theorem c_FS_missed {g : fx_G} (ok : fx_ok g) (h : fx_H) (w f b : Nat) (i q : Int32) (hF : isF h w f b) (hm : mOk h (b + 2))  : fx_C g mq_FS_missed [.ref w, .int i, .int q] h (fx_ou (o_FS_missed h w f b i q) (k_FS_missed h w f b i q)) 0 0 := by
  refine fx_body (by decide +kernel) (Nat.le_of_ble_eq_true rfl) ?_
  show fx_X g mq_FS_missed 0 [(0, .ref w), (1, .int i), (2, .int q)] [] h _ 0 0
  refine fx_aload_n 0 dq_FS_missed_0 rfl rfl ?_
  refine fx_getr ok fq_FS_19 hF.1 dq_FS_missed_1 (by decide) hF.2.2.2.1 ?_
  refine fx_getr ok fq_FS_229 hF.2.2.2.2.1.1 dq_FS_missed_4 (by decide) hF.2.2.2.2.1.2.2.2.2.2.2.2.2.2.2.2.1 ?_
  refine fx_getr ok fq_FS_232 hF.2.2.2.2.1.2.2.2.2.2.2.2.2.2.2.2.2.1.1 dq_FS_missed_7 (by decide) hF.2.2.2.2.1.2.2.2.2.2.2.2.2.2.2.2.2.1.2.2.2.1 ?_
  refine fx_astore_n dq_FS_missed_10 rfl (by decide) rfl ?_
  refine fx_iload_n 2 dq_FS_missed_11 rfl rfl ?_
  refine fx_if_lt (tgt := 23) dq_FS_missed_12 (by decide) (fun hc12 => ?_) (fun hc12 => ?_)
  · -- 12: jump
    refine fx_iconst (v := -1) dq_FS_missed_23 (by decide) ?_
    exact fx_ireturn rfl dq_FS_missed_24 ⟨by rw [o_FS_missed, if_pos hc12], rfl⟩
  · -- 12: fall
    refine fx_iload_n 2 dq_FS_missed_15 rfl rfl ?_
    refine fx_aload_n 0 dq_FS_missed_16 rfl rfl ?_
    refine fx_geti ok fq_FS_238 hF.2.2.2.2.1.2.2.2.2.2.2.2.2.2.2.2.2.1.2.2.2.2.1 dq_FS_missed_17 (by decide) ?_
    refine fx_icmp_lt (tgt := 25) dq_FS_missed_20 (by decide) (fun hc20 => ?_) (fun hc20 => ?_)
    · -- 20: jump
      refine fx_aload_n 0 dq_FS_missed_25 rfl rfl ?_
      refine fx_getr ok fq_FS_243 hF.2.2.2.2.1.2.2.2.2.2.2.2.2.2.2.2.2.1.2.2.2.2.1 dq_FS_missed_26 (by decide) hF.2.2.2.2.1.2.2.2.2.2.2.2.2.2.2.2.2.1.2.2.2.2.2.1 ?_
      refine fx_iload_n 2 dq_FS_missed_29 rfl rfl ?_
      refine fx_aaload ok hF.2.2.2.2.1.2.2.2.2.2.2.2.2.2.2.2.2.1.2.2.2.2.2.2.1 (by decide) rfl rfl (mi_in hm hc12 hc20) (hF.2.2.2.2.1.2.2.2.2.2.2.2.2.2.2.2.2.1.2.2.2.2.2.2.2 _ (vp_in_lt (mi_in hm hc12 hc20))).1 dq_FS_missed_30 ?_
      refine fx_astore dq_FS_missed_31 (by decide) rfl ?_
      refine fx_iload_n 4 dq_FS_missed_33 rfl rfl ?_
      by_cases ht0 : q = 0
      · refine fx_eqt ht0 ?_
        refine fx_tsIn (tgt := 64) dq_FS_missed_34 (by decide) (by decide) rfl (by decide) ?_
        refine fx_aload 0 dq_FS_missed_64 rfl ?_
        refine fx_geti ok fq_FS_247 (hF.2.2.2.2.1.2.2.2.2.2.2.2.2.2.2.2.2.1.2.2.2.2.2.2.2 _ (vp_in_lt (mi_in hm hc12 hc20))).2 dq_FS_missed_66 (by decide) ?_
        exact fx_ireturn rfl dq_FS_missed_69 ⟨by rw [o_FS_missed, if_neg hc12, if_pos hc20, if_pos ht0], rfl⟩
      · skip
        by_cases ht1 : q = 1
        · refine fx_eqt ht1 ?_
          refine fx_tsIn (tgt := 70) dq_FS_missed_34 (by decide) (by decide) rfl (by decide) ?_
          refine fx_aload 0 dq_FS_missed_70 rfl ?_
          refine fx_geti ok fq_FS_248 (hF.2.2.2.2.1.2.2.2.2.2.2.2.2.2.2.2.2.1.2.2.2.2.2.2.2 _ (vp_in_lt (mi_in hm hc12 hc20))).2 dq_FS_missed_72 (by decide) ?_
          exact fx_ireturn rfl dq_FS_missed_75 ⟨by rw [o_FS_missed, if_neg hc12, if_pos hc20, if_neg ht0, if_pos ht1], rfl⟩
        · skip
          by_cases ht2 : q = 2
          · refine fx_eqt ht2 ?_
            refine fx_tsIn (tgt := 76) dq_FS_missed_34 (by decide) (by decide) rfl (by decide) ?_
            refine fx_aload 0 dq_FS_missed_76 rfl ?_
            refine fx_geti ok fq_FS_249 (hF.2.2.2.2.1.2.2.2.2.2.2.2.2.2.2.2.2.1.2.2.2.2.2.2.2 _ (vp_in_lt (mi_in hm hc12 hc20))).2 dq_FS_missed_78 (by decide) ?_
            exact fx_ireturn rfl dq_FS_missed_81 ⟨by rw [o_FS_missed, if_neg hc12, if_pos hc20, if_neg ht0, if_neg ht1, if_pos ht2], rfl⟩
          · skip
            by_cases ht3 : q = 3
            · refine fx_eqt ht3 ?_
              refine fx_tsIn (tgt := 82) dq_FS_missed_34 (by decide) (by decide) rfl (by decide) ?_
              refine fx_aload 0 dq_FS_missed_82 rfl ?_
              refine fx_geti ok fq_FS_250 (hF.2.2.2.2.1.2.2.2.2.2.2.2.2.2.2.2.2.1.2.2.2.2.2.2.2 _ (vp_in_lt (mi_in hm hc12 hc20))).2 dq_FS_missed_84 (by decide) ?_
              exact fx_ireturn rfl dq_FS_missed_87 ⟨by rw [o_FS_missed, if_neg hc12, if_pos hc20, if_neg ht0, if_neg ht1, if_neg ht2, if_pos ht3], rfl⟩
            · skip
              refine fx_tsOut (tgt := 88) dq_FS_missed_34 (ts4 ht0 ht1 ht2 ht3) (by decide) ?_
              refine fx_iconst (v := -1) dq_FS_missed_88 (by decide) ?_
              exact fx_ireturn rfl dq_FS_missed_89 ⟨by rw [o_FS_missed, if_neg hc12, if_pos hc20, if_neg ht0, if_neg ht1, if_neg ht2, if_neg ht3], rfl⟩
    · -- 20: fall
      refine fx_iconst (v := -1) dq_FS_missed_23 (by decide) ?_
      exact fx_ireturn rfl dq_FS_missed_24 ⟨by rw [o_FS_missed, if_neg hc12, if_neg hc20], rfl⟩
