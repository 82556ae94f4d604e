/-! ===== FrameSwapper: copy ===== -/
def cy1 (h : fx_H) (w f b : Nat) (fr to_ x y cs rs tx ty : Int32) : fx_H := rset h (w + 186) x y cs rs
def cy2 (h : fx_H) (w f b : Nat) (fr to_ x y cs rs tx ty : Int32) : fx_H := rcut (cy1 h w f b fr to_ x y cs rs tx ty) (w + 186) (fx_i (cy1 h w f b fr to_ x y cs rs tx ty) (w + 1 + 48 + 4 * fr.toNatClampNeg) 1) (fx_i (cy1 h w f b fr to_ x y cs rs tx ty) (w + 1 + 48 + 4 * fr.toNatClampNeg) 2)
def cy3 (h : fx_H) (w f b : Nat) (fr to_ x y cs rs tx ty : Int32) : fx_H := rshift (cy2 h w f b fr to_ x y cs rs tx ty) (w + 186) (tx - x) (ty - y)
def cy4 (h : fx_H) (w f b : Nat) (fr to_ x y cs rs tx ty : Int32) : fx_H := rcut (cy3 h w f b fr to_ x y cs rs tx ty) (w + 186) (fx_i (cy3 h w f b fr to_ x y cs rs tx ty) (w + 1 + 48 + 4 * to_.toNatClampNeg) 1) (fx_i (cy3 h w f b fr to_ x y cs rs tx ty) (w + 1 + 48 + 4 * to_.toNatClampNeg) 2)
def cy5 (h : fx_H) (w f b : Nat) (fr to_ x y cs rs tx ty : Int32) : fx_H := pCopy (cy4 h w f b fr to_ x y cs rs tx ty) (w + 187) (w + 1 + 48 + 4 * fr.toNatClampNeg)
def cy6 (h : fx_H) (w f b : Nat) (fr to_ x y cs rs tx ty : Int32) : fx_H := fx_wi (fx_wi (cy5 h w f b fr to_ x y cs rs tx ty) (w + 187) 3 (tx - x)) (w + 187) 4 (ty - y)
def cy7 (h : fx_H) (w f b : Nat) (fr to_ x y cs rs tx ty : Int32) : fx_H := kLy (cy6 h w f b fr to_ x y cs rs tx ty) (w + 1 + 48 + 4 * to_.toNatClampNeg) (w + 186) (w + 187)
def o_FS_copy (h : fx_H) (w f b : Nat) (fr to_ x y cs rs tx ty : Int32) : fx_O := if (v_DE_hasDraft h (w + 1) fr) = 0 then Sum.inr "java/lang/IllegalArgumentException" else if (v_DE_hasDraft h (w + 1) to_) = 0 then Sum.inr "java/lang/IllegalArgumentException" else if (fx_i h (w + 1 + 45) fr.toNatClampNeg) = (fx_i h (w + 1 + 45) to_.toNatClampNeg) then if (jA x y cs rs) = 0 then Sum.inr "java/lang/IllegalArgumentException" else if (jW tx (-20) 30) = 0 then Sum.inr "java/lang/IllegalArgumentException" else if (jW ty (-20) 30) = 0 then Sum.inr "java/lang/IllegalArgumentException" else Sum.inl (some (fx_i (cy7 h w f b fr to_ x y cs rs tx ty) (w + 186) 2 * fx_i (cy7 h w f b fr to_ x y cs rs tx ty) (w + 186) 3)) else Sum.inr "java/lang/IllegalArgumentException"
def k_FS_copy (h : fx_H) (w f b : Nat) (fr to_ x y cs rs tx ty : Int32) : fx_H := if (v_DE_hasDraft h (w + 1) fr) = 0 then fx_sk h 1 else if (v_DE_hasDraft h (w + 1) to_) = 0 then fx_sk h 1 else if (fx_i h (w + 1 + 45) fr.toNatClampNeg) = (fx_i h (w + 1 + 45) to_.toNatClampNeg) then if (jA x y cs rs) = 0 then fx_sk h 1 else if (jW tx (-20) 30) = 0 then fx_sk h 1 else if (jW ty (-20) 30) = 0 then fx_sk h 1 else cy7 h w f b fr to_ x y cs rs tx ty else fx_sk h 1
set_option maxRecDepth 100000 in
set_option maxHeartbeats 1000000 in
theorem c_FS_copy {g : fx_G} (ok : fx_ok g) (h : fx_H) (w f b : Nat) (fr to_ x y cs rs tx ty : Int32) (hF : isF h w f b)  (hN0 : ¬ (v_DE_hasDraft h (w + 1) fr) = 0 → ¬ (v_DE_hasDraft h (w + 1) to_) = 0 → (fx_i h (w + 1 + 45) fr.toNatClampNeg) = (fx_i h (w + 1 + 45) to_.toNatClampNeg) → ¬ (jA x y cs rs) = 0 → ¬ (jW tx (-20) 30) = 0 → ¬ (jW ty (-20) 30) = 0 → lyPre (cy6 h w f b fr to_ x y cs rs tx ty) (w + 1 + 48 + 4 * to_.toNatClampNeg) (w + 186) (w + 187)) : fx_C g mq_FS_copy [.ref w, .int fr, .int to_, .int x, .int y, .int cs, .int rs, .int tx, .int ty] h (fx_ou (o_FS_copy h w f b fr to_ x y cs rs tx ty) (k_FS_copy h w f b fr to_ x y cs rs tx ty)) 1 6 := by
  refine fx_body (by decide +kernel) (Nat.le_of_ble_eq_true rfl) ?_
  show fx_X g mq_FS_copy 0 [(0, .ref w), (1, .int fr), (2, .int to_), (3, .int x), (4, .int y), (5, .int cs), (6, .int rs), (7, .int tx), (8, .int ty)] [] h _ 1 6
  refine fx_aload_n 0 dq_FS_copy_0 rfl rfl ?_
  refine fx_getr ok fq_FS_10 hF.1 dq_FS_copy_1 (by decide) hF.2.1 ?_
  refine fx_iload_n 1 dq_FS_copy_4 rfl rfl ?_
  refine fx_Vi1 ok sq_FS_71 hF.2.2.1.1 (c_DE_hasDraft ok _ _ _ (by exact hF.2.2.1)) (by decide) (Nat.le_of_ble_eq_true rfl) dq_FS_copy_5 ?_
  refine fx_if_eq (tgt := 26) dq_FS_copy_8 (by decide) (fun hc8 => ?_) (fun hc8 => ?_)
  · -- 8: jump
    refine fx_iconst (v := 0) dq_FS_copy_26 (by decide) ?_
    exact fx_St1 ok (mc := 0) (ms := 0) sq_FS_52 (cq_demand0 ok _ _ rfl) (by decide) (Nat.le_of_ble_eq_true rfl) dq_FS_copy_27 (fx_T_out rfl ⟨by rw [o_FS_copy, if_pos hc8], by rw [k_FS_copy, if_pos hc8]⟩)
  · -- 8: fall
    refine fx_aload_n 0 dq_FS_copy_11 rfl rfl ?_
    refine fx_getr ok fq_FS_10 hF.1 dq_FS_copy_12 (by decide) hF.2.1 ?_
    refine fx_iload_n 2 dq_FS_copy_15 rfl rfl ?_
    refine fx_Vi1 ok sq_FS_71 hF.2.2.1.1 (c_DE_hasDraft ok _ _ _ (by exact hF.2.2.1)) (by decide) (Nat.le_of_ble_eq_true rfl) dq_FS_copy_16 ?_
    refine fx_if_eq (tgt := 26) dq_FS_copy_19 (by decide) (fun hc19 => ?_) (fun hc19 => ?_)
    · -- 19: jump
      refine fx_iconst (v := 0) dq_FS_copy_26 (by decide) ?_
      exact fx_St1 ok (mc := 0) (ms := 0) sq_FS_52 (cq_demand0 ok _ _ rfl) (by decide) (Nat.le_of_ble_eq_true rfl) dq_FS_copy_27 (fx_T_out rfl ⟨by rw [o_FS_copy, if_neg hc8, if_pos hc19], by rw [k_FS_copy, if_neg hc8, if_pos hc19]⟩)
    · -- 19: fall
      refine fx_iconst (v := 1) dq_FS_copy_22 (by decide) ?_
      refine fx_goto (tgt := 27) dq_FS_copy_23 (by decide) ?_
      refine fx_Sv1 ok sq_FS_52 (cq_demand1 ok _ _ (by decide)) (by decide) (Nat.le_of_ble_eq_true rfl) dq_FS_copy_27 ?_
      refine fx_aload_n 0 dq_FS_copy_30 rfl rfl ?_
      refine fx_getr ok fq_FS_10 hF.1 dq_FS_copy_31 (by decide) hF.2.1 ?_
      refine fx_getr ok fq_FS_139 hF.2.2.1.1 dq_FS_copy_34 (by decide) hF.2.2.1.2.2.2.2.2.1 ?_
      refine fx_iload_n 1 dq_FS_copy_37 rfl rfl ?_
      refine fx_iaload ok hF.2.2.1.2.2.2.2.2.2.1 (has_in hc8) dq_FS_copy_38 ?_
      refine fx_aload_n 0 dq_FS_copy_39 rfl rfl ?_
      refine fx_getr ok fq_FS_10 hF.1 dq_FS_copy_40 (by decide) hF.2.1 ?_
      refine fx_getr ok fq_FS_139 hF.2.2.1.1 dq_FS_copy_43 (by decide) hF.2.2.1.2.2.2.2.2.1 ?_
      refine fx_iload_n 2 dq_FS_copy_46 rfl rfl ?_
      refine fx_iaload ok hF.2.2.1.2.2.2.2.2.2.1 (has_in hc19) dq_FS_copy_47 ?_
      refine fx_icmp_ne (tgt := 55) dq_FS_copy_48 (by decide) (fun hc48 => ?_) (fun hc48 => ?_)
      · -- 48: jump
        refine fx_iconst (v := 0) dq_FS_copy_55 (by decide) ?_
        exact fx_St1 ok (mc := 0) (ms := 0) sq_FS_52 (cq_demand0 ok _ _ rfl) (by decide) (Nat.le_of_ble_eq_true rfl) dq_FS_copy_56 (fx_T_out rfl ⟨by rw [o_FS_copy, if_neg hc8, if_neg hc19, if_neg hc48], by rw [k_FS_copy, if_neg hc8, if_neg hc19, if_neg hc48]⟩)
      · -- 48: fall
        refine fx_iconst (v := 1) dq_FS_copy_51 (by decide) ?_
        refine fx_goto (tgt := 56) dq_FS_copy_52 (by decide) ?_
        refine fx_Sv1 ok sq_FS_52 (cq_demand1 ok _ _ (by decide)) (by decide) (Nat.le_of_ble_eq_true rfl) dq_FS_copy_56 ?_
        refine fx_iload_n 3 dq_FS_copy_59 rfl rfl ?_
        refine fx_iload 4 dq_FS_copy_60 rfl ?_
        refine fx_iload 5 dq_FS_copy_62 rfl ?_
        refine fx_iload 6 dq_FS_copy_64 rfl ?_
        refine fx_Si4 ok sq_FS_103 (cq_isArea ok _ _ _ _ _) (by decide) (Nat.le_of_ble_eq_true rfl) dq_FS_copy_66 ?_
        refine fx_if_eq (tgt := 92) dq_FS_copy_69 (by decide) (fun hc69 => ?_) (fun hc69 => ?_)
        · -- 69: jump
          refine fx_iconst (v := 0) dq_FS_copy_92 (by decide) ?_
          exact fx_St1 ok (mc := 0) (ms := 0) sq_FS_52 (cq_demand0 ok _ _ rfl) (by decide) (Nat.le_of_ble_eq_true rfl) dq_FS_copy_93 (fx_T_out rfl ⟨by rw [o_FS_copy, if_neg hc8, if_neg hc19, if_pos hc48, if_pos hc69], by rw [k_FS_copy, if_neg hc8, if_neg hc19, if_pos hc48, if_pos hc69]⟩)
        · -- 69: fall
          refine fx_iload 7 dq_FS_copy_72 rfl ?_
          refine fx_Si1 ok sq_FS_81 (cq_isPlace ok _ _) (by decide) (Nat.le_of_ble_eq_true rfl) dq_FS_copy_74 ?_
          refine fx_if_eq (tgt := 92) dq_FS_copy_77 (by decide) (fun hc77 => ?_) (fun hc77 => ?_)
          · -- 77: jump
            refine fx_iconst (v := 0) dq_FS_copy_92 (by decide) ?_
            exact fx_St1 ok (mc := 0) (ms := 0) sq_FS_52 (cq_demand0 ok _ _ rfl) (by decide) (Nat.le_of_ble_eq_true rfl) dq_FS_copy_93 (fx_T_out rfl ⟨by rw [o_FS_copy, if_neg hc8, if_neg hc19, if_pos hc48, if_neg hc69, if_pos hc77], by rw [k_FS_copy, if_neg hc8, if_neg hc19, if_pos hc48, if_neg hc69, if_pos hc77]⟩)
          · -- 77: fall
            refine fx_iload 8 dq_FS_copy_80 rfl ?_
            refine fx_Si1 ok sq_FS_81 (cq_isPlace ok _ _) (by decide) (Nat.le_of_ble_eq_true rfl) dq_FS_copy_82 ?_
            refine fx_if_eq (tgt := 92) dq_FS_copy_85 (by decide) (fun hc85 => ?_) (fun hc85 => ?_)
            · -- 85: jump
              refine fx_iconst (v := 0) dq_FS_copy_92 (by decide) ?_
              exact fx_St1 ok (mc := 0) (ms := 0) sq_FS_52 (cq_demand0 ok _ _ rfl) (by decide) (Nat.le_of_ble_eq_true rfl) dq_FS_copy_93 (fx_T_out rfl ⟨by rw [o_FS_copy, if_neg hc8, if_neg hc19, if_pos hc48, if_neg hc69, if_neg hc77, if_pos hc85], by rw [k_FS_copy, if_neg hc8, if_neg hc19, if_pos hc48, if_neg hc69, if_neg hc77, if_pos hc85]⟩)
            · -- 85: fall
              refine fx_iconst (v := 1) dq_FS_copy_88 (by decide) ?_
              refine fx_goto (tgt := 93) dq_FS_copy_89 (by decide) ?_
              refine fx_Sv1 ok sq_FS_52 (cq_demand1 ok _ _ (by decide)) (by decide) (Nat.le_of_ble_eq_true rfl) dq_FS_copy_93 ?_
              refine fx_aload_n 0 dq_FS_copy_96 rfl rfl ?_
              refine fx_getr ok fq_FS_10 hF.1 dq_FS_copy_97 (by decide) hF.2.1 ?_
              refine fx_getr ok fq_FS_74 hF.2.2.1.1 dq_FS_copy_100 (by decide) hF.2.2.1.2.1 ?_
              refine fx_iload_n 1 dq_FS_copy_103 rfl rfl ?_
              refine fx_aaload ok hF.2.2.1.2.2.1 (by decide) rfl rfl (has_in hc8) (hF.2.2.1.2.2.2.2.2.2.2.2.2.2.2 _ (vp_in_lt (has_in hc8))).1 dq_FS_copy_104 ?_
              refine fx_astore dq_FS_copy_105 (by decide) rfl ?_
              refine fx_aload_n 1 dq_FS_copy_107 rfl rfl ?_
              refine fx_getr ok fq_FS_10 hF.1 dq_FS_copy_108 (by decide) hF.2.1 ?_
              refine fx_getr ok fq_FS_74 hF.2.2.1.1 dq_FS_copy_111 (by decide) hF.2.2.1.2.1 ?_
              refine fx_iload_n 3 dq_FS_copy_114 rfl rfl ?_
              refine fx_aaload ok hF.2.2.1.2.2.1 (by decide) rfl rfl (has_in hc19) (hF.2.2.1.2.2.2.2.2.2.2.2.2.2.2 _ (vp_in_lt (has_in hc19))).1 dq_FS_copy_115 ?_
              refine fx_astore dq_FS_copy_116 (by decide) rfl ?_
              refine fx_aload_n 2 dq_FS_copy_118 rfl rfl ?_
              refine fx_getr ok fq_FS_33 hF.1 dq_FS_copy_119 (by decide) hF.2.2.2.2.2.2.2.1 ?_
              refine fx_iload_n 5 dq_FS_copy_122 rfl rfl ?_
              refine fx_iload 6 dq_FS_copy_123 rfl ?_
              refine fx_iload 7 dq_FS_copy_125 rfl ?_
              refine fx_iload 8 dq_FS_copy_127 rfl ?_
              refine fx_Vv4 ok sq_FS_110 hF.2.2.2.2.2.2.2.2.1 (cr_set ok _ _ (by exact hF.2.2.2.2.2.2.2.2.1) _ _ _ _) (by decide) (Nat.le_of_ble_eq_true rfl) dq_FS_copy_129 ?_
              have e129 : fx_sm h (rset h (w + 186) x y cs rs) := fx_sm_t (h' := h) (rfl : fx_sm h h) (sm_rset h (w + 186) x y cs rs)
              refine fx_eqh (h' := cy1 h w f b fr to_ x y cs rs tx ty) rfl ?_
              have e132f : fx_sm h (cy1 h w f b fr to_ x y cs rs tx ty) := e129
              refine fx_aload_n 2 dq_FS_copy_132 rfl rfl ?_
              refine fx_getr ok fq_FS_33 ((fx_sm_s e132f _).trans hF.1) dq_FS_copy_133 (by decide) ((fx_sm_r e132f _ _).trans hF.2.2.2.2.2.2.2.1) ?_
              refine fx_aload 1 dq_FS_copy_136 rfl ?_
              refine fx_geti ok fq_FS_113 ((fx_sm_s e132f _).trans (hF.2.2.1.2.2.2.2.2.2.2.2.2.2.2 _ (vp_in_lt (has_in hc8))).2.1) dq_FS_copy_138 (by decide) ?_
              refine fx_aload 1 dq_FS_copy_141 rfl ?_
              refine fx_geti ok fq_FS_116 ((fx_sm_s e132f _).trans (hF.2.2.1.2.2.2.2.2.2.2.2.2.2.2 _ (vp_in_lt (has_in hc8))).2.1) dq_FS_copy_143 (by decide) ?_
              refine fx_Vv2 ok sq_FS_119 ((fx_sm_s e132f _).trans hF.2.2.2.2.2.2.2.2.1) (cr_cut ok _ _ (by exact (fx_sm_s e132f _).trans hF.2.2.2.2.2.2.2.2.1) _ _) (by decide) (Nat.le_of_ble_eq_true rfl) dq_FS_copy_146 ?_
              have e146 : fx_sm h (rcut (cy1 h w f b fr to_ x y cs rs tx ty) (w + 186) (fx_i (cy1 h w f b fr to_ x y cs rs tx ty) (w + 1 + 48 + 4 * fr.toNatClampNeg) 1) (fx_i (cy1 h w f b fr to_ x y cs rs tx ty) (w + 1 + 48 + 4 * fr.toNatClampNeg) 2)) := fx_sm_t (h' := (cy1 h w f b fr to_ x y cs rs tx ty)) e132f (sm_cut (cy1 h w f b fr to_ x y cs rs tx ty) (w + 186) (fx_i (cy1 h w f b fr to_ x y cs rs tx ty) (w + 1 + 48 + 4 * fr.toNatClampNeg) 1) (fx_i (cy1 h w f b fr to_ x y cs rs tx ty) (w + 1 + 48 + 4 * fr.toNatClampNeg) 2))
              refine fx_eqh (h' := cy2 h w f b fr to_ x y cs rs tx ty) rfl ?_
              have e149f : fx_sm h (cy2 h w f b fr to_ x y cs rs tx ty) := e146
              refine fx_aload_n 2 dq_FS_copy_149 rfl rfl ?_
              refine fx_getr ok fq_FS_33 ((fx_sm_s e149f _).trans hF.1) dq_FS_copy_150 (by decide) ((fx_sm_r e149f _ _).trans hF.2.2.2.2.2.2.2.1) ?_
              refine fx_iload 9 dq_FS_copy_153 rfl ?_
              refine fx_iload_n 5 dq_FS_copy_155 rfl rfl ?_
              refine fx_isub dq_FS_copy_156 ?_
              refine fx_iload 10 dq_FS_copy_157 rfl ?_
              refine fx_iload 6 dq_FS_copy_159 rfl ?_
              refine fx_isub dq_FS_copy_161 ?_
              refine fx_Vv2 ok sq_FS_142 ((fx_sm_s e149f _).trans hF.2.2.2.2.2.2.2.2.1) (cr_shift ok _ _ (by exact (fx_sm_s e149f _).trans hF.2.2.2.2.2.2.2.2.1) _ _) (by decide) (Nat.le_of_ble_eq_true rfl) dq_FS_copy_162 ?_
              have e162 : fx_sm h (rshift (cy2 h w f b fr to_ x y cs rs tx ty) (w + 186) (tx - x) (ty - y)) := fx_sm_t (h' := (cy2 h w f b fr to_ x y cs rs tx ty)) e149f (sm_shift (cy2 h w f b fr to_ x y cs rs tx ty) (w + 186) (tx - x) (ty - y))
              refine fx_eqh (h' := cy3 h w f b fr to_ x y cs rs tx ty) rfl ?_
              have e165f : fx_sm h (cy3 h w f b fr to_ x y cs rs tx ty) := e162
              refine fx_aload_n 2 dq_FS_copy_165 rfl rfl ?_
              refine fx_getr ok fq_FS_33 ((fx_sm_s e165f _).trans hF.1) dq_FS_copy_166 (by decide) ((fx_sm_r e165f _ _).trans hF.2.2.2.2.2.2.2.1) ?_
              refine fx_aload 0 dq_FS_copy_169 rfl ?_
              refine fx_geti ok fq_FS_113 ((fx_sm_s e165f _).trans (hF.2.2.1.2.2.2.2.2.2.2.2.2.2.2 _ (vp_in_lt (has_in hc19))).2.1) dq_FS_copy_171 (by decide) ?_
              refine fx_aload 0 dq_FS_copy_174 rfl ?_
              refine fx_geti ok fq_FS_116 ((fx_sm_s e165f _).trans (hF.2.2.1.2.2.2.2.2.2.2.2.2.2.2 _ (vp_in_lt (has_in hc19))).2.1) dq_FS_copy_176 (by decide) ?_
              refine fx_Vv2 ok sq_FS_119 ((fx_sm_s e165f _).trans hF.2.2.2.2.2.2.2.2.1) (cr_cut ok _ _ (by exact (fx_sm_s e165f _).trans hF.2.2.2.2.2.2.2.2.1) _ _) (by decide) (Nat.le_of_ble_eq_true rfl) dq_FS_copy_179 ?_
              have e179 : fx_sm h (rcut (cy3 h w f b fr to_ x y cs rs tx ty) (w + 186) (fx_i (cy3 h w f b fr to_ x y cs rs tx ty) (w + 1 + 48 + 4 * to_.toNatClampNeg) 1) (fx_i (cy3 h w f b fr to_ x y cs rs tx ty) (w + 1 + 48 + 4 * to_.toNatClampNeg) 2)) := fx_sm_t (h' := (cy3 h w f b fr to_ x y cs rs tx ty)) e165f (sm_cut (cy3 h w f b fr to_ x y cs rs tx ty) (w + 186) (fx_i (cy3 h w f b fr to_ x y cs rs tx ty) (w + 1 + 48 + 4 * to_.toNatClampNeg) 1) (fx_i (cy3 h w f b fr to_ x y cs rs tx ty) (w + 1 + 48 + 4 * to_.toNatClampNeg) 2))
              refine fx_eqh (h' := cy4 h w f b fr to_ x y cs rs tx ty) rfl ?_
              have e182f : fx_sm h (cy4 h w f b fr to_ x y cs rs tx ty) := e179
              refine fx_aload_n 2 dq_FS_copy_182 rfl rfl ?_
              refine fx_getr ok fq_FS_40 ((fx_sm_s e182f _).trans hF.1) dq_FS_copy_183 (by decide) ((fx_sm_r e182f _ _).trans hF.2.2.2.2.2.2.2.2.2.1) ?_
              refine fx_aload 1 dq_FS_copy_186 rfl ?_
              refine fx_Vv1 ok sq_FS_145 ((fx_sm_s e182f _).trans hF.2.2.2.2.2.2.2.2.2.2.1) (cp_become ok (cy4 h w f b fr to_ x y cs rs tx ty) (w + 187) (w + 1 + 48 + 4 * fr.toNatClampNeg) (by exact isP_sm e182f hF.2.2.2.2.2.2.2.2.2.2) (by exact isP_sm e182f (hF.2.2.1.2.2.2.2.2.2.2.2.2.2.2 _ (vp_in_lt (has_in hc8))).2) (by have := vp_in_lt (has_in hc8); omega)) (by decide) (Nat.le_of_ble_eq_true rfl) dq_FS_copy_188 ?_
              have e188 : fx_sm h (pCopy (cy4 h w f b fr to_ x y cs rs tx ty) (w + 187) (w + 1 + 48 + 4 * fr.toNatClampNeg)) := fx_sm_t (h' := (cy4 h w f b fr to_ x y cs rs tx ty)) e182f (sm_pCopy (cy4 h w f b fr to_ x y cs rs tx ty) (w + 187) (w + 1 + 48 + 4 * fr.toNatClampNeg))
              refine fx_eqh (h' := cy5 h w f b fr to_ x y cs rs tx ty) rfl ?_
              have e191f : fx_sm h (cy5 h w f b fr to_ x y cs rs tx ty) := e188
              refine fx_aload_n 2 dq_FS_copy_191 rfl rfl ?_
              refine fx_getr ok fq_FS_40 ((fx_sm_s e191f _).trans hF.1) dq_FS_copy_192 (by decide) ((fx_sm_r e191f _ _).trans hF.2.2.2.2.2.2.2.2.2.1) ?_
              refine fx_iload 9 dq_FS_copy_195 rfl ?_
              refine fx_iload_n 5 dq_FS_copy_197 rfl rfl ?_
              refine fx_isub dq_FS_copy_198 ?_
              refine fx_puti ok fp_FS_84 ((fx_sm_s e191f _).trans hF.2.2.2.2.2.2.2.2.2.2.1) (by decide) dq_FS_copy_199 (Or.inl (by decide)) ?_
              have e199w : fx_sm h (fx_wi (cy5 h w f b fr to_ x y cs rs tx ty) (w + 187) 3 (tx - x)) := fx_sm_t (h' := (cy5 h w f b fr to_ x y cs rs tx ty)) e191f (sm_wi _ _ _ _)
              refine fx_aload_n 2 dq_FS_copy_202 rfl rfl ?_
              refine fx_getr ok fq_FS_40 ((fx_sm_s e199w _).trans hF.1) dq_FS_copy_203 (by decide) ((fx_sm_r e199w _ _).trans hF.2.2.2.2.2.2.2.2.2.1) ?_
              refine fx_iload 10 dq_FS_copy_206 rfl ?_
              refine fx_iload 6 dq_FS_copy_208 rfl ?_
              refine fx_isub dq_FS_copy_210 ?_
              refine fx_puti ok fp_FS_87 ((fx_sm_s e199w _).trans hF.2.2.2.2.2.2.2.2.2.2.1) (by decide) dq_FS_copy_211 (Or.inl (by decide)) ?_
              have e211w : fx_sm h (fx_wi (fx_wi (cy5 h w f b fr to_ x y cs rs tx ty) (w + 187) 3 (tx - x)) (w + 187) 4 (ty - y)) := fx_sm_t (h' := (fx_wi (cy5 h w f b fr to_ x y cs rs tx ty) (w + 187) 3 (tx - x))) e199w (sm_wi _ _ _ _)
              refine fx_eqh (h' := cy6 h w f b fr to_ x y cs rs tx ty) rfl ?_
              have e214f : fx_sm h (cy6 h w f b fr to_ x y cs rs tx ty) := e211w
              refine fx_aload 0 dq_FS_copy_214 rfl ?_
              refine fx_aload_n 2 dq_FS_copy_216 rfl rfl ?_
              refine fx_getr ok fq_FS_33 ((fx_sm_s e214f _).trans hF.1) dq_FS_copy_217 (by decide) ((fx_sm_r e214f _ _).trans hF.2.2.2.2.2.2.2.1) ?_
              refine fx_aload_n 2 dq_FS_copy_220 rfl rfl ?_
              refine fx_getr ok fq_FS_40 ((fx_sm_s e214f _).trans hF.1) dq_FS_copy_221 (by decide) ((fx_sm_r e214f _ _).trans hF.2.2.2.2.2.2.2.2.2.1) ?_
              refine fx_Vv2 ok sq_FS_149 ((fx_sm_s e214f _).trans (hF.2.2.1.2.2.2.2.2.2.2.2.2.2.2 _ (vp_in_lt (has_in hc19))).2.1) (c_PI_layDown ok (cy6 h w f b fr to_ x y cs rs tx ty) (w + 1 + 48 + 4 * to_.toNatClampNeg) (w + 186) (w + 187) (by exact isP_sm e214f (hF.2.2.1.2.2.2.2.2.2.2.2.2.2.2 _ (vp_in_lt (has_in hc19))).2) (by exact (fx_sm_s e214f _).trans hF.2.2.2.2.2.2.2.2.1) (by exact isP_sm e214f hF.2.2.2.2.2.2.2.2.2.2) (by have := vp_in_lt (has_in hc19); omega) (by have := vp_in_lt (has_in hc19); omega) (hN0 hc8 hc19 hc48 hc69 hc77 hc85)) (by decide) (Nat.le_of_ble_eq_true rfl) dq_FS_copy_224 ?_
              have e224 : fx_sm h (kLy (cy6 h w f b fr to_ x y cs rs tx ty) (w + 1 + 48 + 4 * to_.toNatClampNeg) (w + 186) (w + 187)) := fx_sm_t (h' := (cy6 h w f b fr to_ x y cs rs tx ty)) e214f (kLy_on (cy6 h w f b fr to_ x y cs rs tx ty) (w + 1 + 48 + 4 * to_.toNatClampNeg) (w + 186) (w + 187)).1
              refine fx_eqh (h' := cy7 h w f b fr to_ x y cs rs tx ty) rfl ?_
              have e227f : fx_sm h (cy7 h w f b fr to_ x y cs rs tx ty) := e224
              refine fx_aload_n 2 dq_FS_copy_227 rfl rfl ?_
              refine fx_getr ok fq_FS_33 ((fx_sm_s e227f _).trans hF.1) dq_FS_copy_228 (by decide) ((fx_sm_r e227f _ _).trans hF.2.2.2.2.2.2.2.1) ?_
              refine fx_Vi0 ok sq_FS_137 ((fx_sm_s e227f _).trans hF.2.2.2.2.2.2.2.2.1) (cr_pixels ok _ _ (by exact (fx_sm_s e227f _).trans hF.2.2.2.2.2.2.2.2.1)) (by decide) (Nat.le_of_ble_eq_true rfl) dq_FS_copy_231 ?_
              exact fx_ireturn rfl dq_FS_copy_234 ⟨by rw [o_FS_copy, if_neg hc8, if_neg hc19, if_pos hc48, if_neg hc69, if_neg hc77, if_neg hc85], by rw [k_FS_copy, if_neg hc8, if_neg hc19, if_pos hc48, if_neg hc69, if_neg hc77, if_neg hc85]⟩
