/-! ===== the Model: join, miss ===== -/
theorem j7 {m : Nat} (hm : m < 2) : (7 : Int32) * nI m = nI (7 * m) := by
  have e0 : (7 : Int32).toInt = 7 := rfl
  have e1 : (nI m).toInt = m := nI_toInt (by omega)
  rw [iz_eq, iz_mul (by rw [e0, e1]; omega), e0, e1, nI_toInt (by omega)]
  omega
theorem j7c {m : Nat} (hm : m < 2) (c : Nat) : (7 : Int32) * nI m + nI c = nI (7 * m + c) := by rw [j7 hm, nI_add]
theorem j77 {m : Nat} (hm : m < 2) : (7 : Int32) * nI m + 7 = nI (7 * m + 7) := j7c hm 7
theorem j76 {m : Nat} (hm : m < 2) : (7 : Int32) * nI m + 6 = nI (7 * m + 6) := j7c hm 6
/-- what joining the missed rectangles a and b would redraw more -/
def mW (h : fx_H) (q a b : Nat) : Int32 := (((v_MO_hullWide h q (nI a) (nI b)) * (v_MO_hullHigh h q (nI a) (nI b))) - ((fx_i h (q + 24) a) * (fx_i h (q + 25) a))) - ((fx_i h (q + 24) b) * (fx_i h (q + 25) b))
def mjI (h : fx_H) (q m i n : Nat) (st : Int32 × Nat × Nat) : Int32 × Nat × Nat := if mW h q (7 * m + i) (7 * m + i + 1 + n) < st.1 then (mW h q (7 * m + i) (7 * m + i + 1 + n), 7 * m + i, 7 * m + i + 1 + n) else st
def mjO (h : fx_H) (q m i : Nat) (st : Int32 × Nat × Nat) : Int32 × Nat × Nat := itg (mjI h q m i) st (6 - i)
def mj0 : Int32 × Nat × Nat := (100000, 0, 0)
def mJ (h : fx_H) (q m : Nat) : Int32 × Nat × Nat := itg (mjO h q m) mj0 7
theorem mJ_eq (h : fx_H) (q m : Nat) : mJ h q m = itg (mjO h q m) mj0 7 := by unfold mJ; rfl
theorem mJ_lt (h : fx_H) (q m : Nat) (hm : m < 2) : (mJ h q m).2.1 < 14 ∧ (mJ h q m).2.2 < 14 := by
  have h0 : mj0.2.1 < 14 ∧ mj0.2.2 < 14 := ⟨Nat.zero_lt_succ 13, Nat.zero_lt_succ 13⟩
  unfold mJ
  generalize mj0 = z at h0 ⊢
  refine itg_inv (fun _ s => s.2.1 < 14 ∧ s.2.2 < 14) (mjO h q m) z h0 7 (fun i s hi hs => ?_) 7 (Nat.le_refl _)
  unfold mjO
  refine itg_inv (fun _ s => s.2.1 < 14 ∧ s.2.2 < 14) (mjI h q m i) s hs (6 - i) (fun n s hn hs => ?_) (6 - i) (Nat.le_refl _)
  unfold mjI
  split
  · refine ⟨?_, ?_⟩
    · show 7 * m + i < 14
      omega
    · show 7 * m + i + 1 + n < 14
      omega
  · exact hs
def b_MO_join (q B : Nat) (i : Nat) (k : fx_H) : fx_H := fx_wi (fx_wi (fx_wi (fx_wi k (q + 22) (B + i) (fx_i k (q + 22) ((nI (B + i)) + (1 : Int32)).toNatClampNeg)) (q + 23) (B + i) (fx_i (fx_wi k (q + 22) (B + i) (fx_i k (q + 22) ((nI (B + i)) + (1 : Int32)).toNatClampNeg)) (q + 23) ((nI (B + i)) + (1 : Int32)).toNatClampNeg)) (q + 24) (B + i) (fx_i (fx_wi (fx_wi k (q + 22) (B + i) (fx_i k (q + 22) ((nI (B + i)) + (1 : Int32)).toNatClampNeg)) (q + 23) (B + i) (fx_i (fx_wi k (q + 22) (B + i) (fx_i k (q + 22) ((nI (B + i)) + (1 : Int32)).toNatClampNeg)) (q + 23) ((nI (B + i)) + (1 : Int32)).toNatClampNeg)) (q + 24) ((nI (B + i)) + (1 : Int32)).toNatClampNeg)) (q + 25) (B + i) (fx_i (fx_wi (fx_wi (fx_wi k (q + 22) (B + i) (fx_i k (q + 22) ((nI (B + i)) + (1 : Int32)).toNatClampNeg)) (q + 23) (B + i) (fx_i (fx_wi k (q + 22) (B + i) (fx_i k (q + 22) ((nI (B + i)) + (1 : Int32)).toNatClampNeg)) (q + 23) ((nI (B + i)) + (1 : Int32)).toNatClampNeg)) (q + 24) (B + i) (fx_i (fx_wi (fx_wi k (q + 22) (B + i) (fx_i k (q + 22) ((nI (B + i)) + (1 : Int32)).toNatClampNeg)) (q + 23) (B + i) (fx_i (fx_wi k (q + 22) (B + i) (fx_i k (q + 22) ((nI (B + i)) + (1 : Int32)).toNatClampNeg)) (q + 23) ((nI (B + i)) + (1 : Int32)).toNatClampNeg)) (q + 24) ((nI (B + i)) + (1 : Int32)).toNatClampNeg)) (q + 25) ((nI (B + i)) + (1 : Int32)).toNatClampNeg)
def k_MO_joinA (h : fx_H) (q m A B : Nat) : fx_H := if (fx_i h (q + 22) B) ≤ (fx_i h (q + 22) A) then if (fx_i (fx_wi h (q + 22) A (fx_i h (q + 22) B)) (q + 23) B) ≤ (fx_i (fx_wi h (q + 22) A (fx_i h (q + 22) B)) (q + 23) A) then (it (b_MO_join q B) (fx_wi (fx_wi (fx_wi (fx_wi (fx_wi h (q + 22) A (fx_i h (q + 22) B)) (q + 23) A (fx_i (fx_wi h (q + 22) A (fx_i h (q + 22) B)) (q + 23) B)) (q + 24) A (v_MO_hullWide h q (nI A) (nI B))) (q + 25) A (v_MO_hullHigh h q (nI A) (nI B))) (q + 21) m (6 : Int32)) (7 * m + 6 - B)) else (it (b_MO_join q B) (fx_wi (fx_wi (fx_wi (fx_wi (fx_wi h (q + 22) A (fx_i h (q + 22) B)) (q + 23) A (fx_i (fx_wi h (q + 22) A (fx_i h (q + 22) B)) (q + 23) A)) (q + 24) A (v_MO_hullWide h q (nI A) (nI B))) (q + 25) A (v_MO_hullHigh h q (nI A) (nI B))) (q + 21) m (6 : Int32)) (7 * m + 6 - B)) else if (fx_i (fx_wi h (q + 22) A (fx_i h (q + 22) A)) (q + 23) B) ≤ (fx_i (fx_wi h (q + 22) A (fx_i h (q + 22) A)) (q + 23) A) then (it (b_MO_join q B) (fx_wi (fx_wi (fx_wi (fx_wi (fx_wi h (q + 22) A (fx_i h (q + 22) A)) (q + 23) A (fx_i (fx_wi h (q + 22) A (fx_i h (q + 22) A)) (q + 23) B)) (q + 24) A (v_MO_hullWide h q (nI A) (nI B))) (q + 25) A (v_MO_hullHigh h q (nI A) (nI B))) (q + 21) m (6 : Int32)) (7 * m + 6 - B)) else (it (b_MO_join q B) (fx_wi (fx_wi (fx_wi (fx_wi (fx_wi h (q + 22) A (fx_i h (q + 22) A)) (q + 23) A (fx_i (fx_wi h (q + 22) A (fx_i h (q + 22) A)) (q + 23) A)) (q + 24) A (v_MO_hullWide h q (nI A) (nI B))) (q + 25) A (v_MO_hullHigh h q (nI A) (nI B))) (q + 21) m (6 : Int32)) (7 * m + 6 - B))
set_option maxRecDepth 100000 in
set_option maxHeartbeats 600000 in
theorem c_MO_joinA {g : fx_G} (ok : fx_ok g) (h : fx_H) (q m A B : Nat) (hm : isM h q) (hm2 : m < 2) (hA : (mJ h q m).2.1 = A) (hB : (mJ h q m).2.2 = B) (hJ : A < 14 ∧ B < 14) : fx_C g mq_MO_join [.ref q, .int (nI m)] h (fx_is none (k_MO_joinA h q m A B)) 0 0 := by
  refine fx_body (by decide +kernel) (Nat.le_of_ble_eq_true rfl) ?_
  show fx_X g mq_MO_join 0 [(0, .ref q), (1, .int (nI m))] [] h _ 0 0
  refine fx_iconst (v := 0) dq_MO_join_0 (by decide) ?_
  refine fx_istore_n dq_MO_join_1 rfl (by decide) rfl ?_
  refine fx_iconst (v := 0) dq_MO_join_2 (by decide) ?_
  refine fx_istore_n dq_MO_join_3 rfl (by decide) rfl ?_
  refine fx_ldc ok kq_MO_186 dq_MO_join_4 ?_
  refine fx_istore dq_MO_join_6 (by decide) rfl ?_
  refine fx_bipush (v := 7) dq_MO_join_8 (by decide) ?_
  refine fx_iload_n 4 dq_MO_join_10 rfl rfl ?_
  refine fx_imul dq_MO_join_11 ?_
  refine fx_istore dq_MO_join_12 (by decide) rfl ?_
  refine fx_eqv (v' := nI (7 * m + 0)) (j7 hm2) ?_
  refine fx_forv (fun i => [(5, .int (nI (7 * m + i))), (4, .int ((itg (mjO h q m) mj0 i).1)), (3, .int (nI (itg (mjO h q m) mj0 i).2.2)), (2, .int (nI (itg (mjO h q m) mj0 i).2.1)), (0, .ref q), (1, .int (nI m))]) h 7 (fun i hi hK14 => ?_) ?_
  · skip
    refine fx_iload 0 dq_MO_join_14 rfl ?_
    refine fx_bipush (v := 7) dq_MO_join_16 (by decide) ?_
    refine fx_iload_n 5 dq_MO_join_18 rfl rfl ?_
    refine fx_imul dq_MO_join_19 ?_
    refine fx_bipush (v := 7) dq_MO_join_20 (by decide) ?_
    refine fx_iadd dq_MO_join_22 ?_
    refine fx_icmp_ge (tgt := 127) dq_MO_join_23 (by decide) (fun hc23 => absurd hc23 (by rw [j77 hm2]; exact nI_ge (by omega) (by omega))) (fun hc23 => ?_)
    refine fx_iload 0 dq_MO_join_26 rfl ?_
    refine fx_iconst (v := 1) dq_MO_join_28 (by decide) ?_
    refine fx_iadd dq_MO_join_29 ?_
    refine fx_istore dq_MO_join_30 (by decide) rfl ?_
    refine fx_eqv (v' := nI (7 * m + i + 1 + 0)) (nI_succ (7 * m + i)).symm ?_
    refine fx_forv (fun j => [(6, .int (nI (7 * m + i + 1 + j))), (5, .int (nI (7 * m + i))), (4, .int ((itg (mjI h q m i) (itg (mjO h q m) mj0 i) j).1)), (3, .int (nI (itg (mjI h q m i) (itg (mjO h q m) mj0 i) j).2.2)), (2, .int (nI (itg (mjI h q m i) (itg (mjO h q m) mj0 i) j).2.1)), (0, .ref q), (1, .int (nI m))]) h (6 - i) (fun j hj hK32 => ?_) ?_
    · skip
      refine fx_iload 0 dq_MO_join_32 rfl ?_
      refine fx_bipush (v := 7) dq_MO_join_34 (by decide) ?_
      refine fx_iload_n 6 dq_MO_join_36 rfl rfl ?_
      refine fx_imul dq_MO_join_37 ?_
      refine fx_bipush (v := 7) dq_MO_join_38 (by decide) ?_
      refine fx_iadd dq_MO_join_40 ?_
      refine fx_icmp_ge (tgt := 121) dq_MO_join_41 (by decide) (fun hc41 => absurd hc41 (by rw [j77 hm2]; exact nI_ge (by omega) (by omega))) (fun hc41 => ?_)
      refine fx_aload_n 5 dq_MO_join_44 rfl rfl ?_
      refine fx_iload 1 dq_MO_join_45 rfl ?_
      refine fx_iload 0 dq_MO_join_47 rfl ?_
      refine fx_Vi2 ok sq_MO_187 hm.1 (c_MO_hullWide ok h q (nI (7 * m + i)) (nI (7 * m + i + 1 + j)) hm (vp_in_nI (by omega) (by decide)) (vp_in_nI (by omega) (by decide))) (by decide) (Nat.le_of_ble_eq_true rfl) dq_MO_join_49 ?_
      refine fx_aload_n 5 dq_MO_join_52 rfl rfl ?_
      refine fx_iload 1 dq_MO_join_53 rfl ?_
      refine fx_iload 0 dq_MO_join_55 rfl ?_
      refine fx_Vi2 ok sq_MO_191 hm.1 (c_MO_hullHigh ok h q (nI (7 * m + i)) (nI (7 * m + i + 1 + j)) hm (vp_in_nI (by omega) (by decide)) (vp_in_nI (by omega) (by decide))) (by decide) (Nat.le_of_ble_eq_true rfl) dq_MO_join_57 ?_
      refine fx_imul dq_MO_join_60 ?_
      refine fx_aload_n 5 dq_MO_join_61 rfl rfl ?_
      refine fx_getr ok fq_MO_84 hm.1 dq_MO_join_62 (by decide) (mo_mw hm).1 ?_
      refine fx_iload 1 dq_MO_join_65 rfl ?_
      refine fx_iaN ok (mo_mw hm).2 ⟨by omega, by decide⟩ dq_MO_join_67 ?_
      refine fx_aload_n 5 dq_MO_join_68 rfl rfl ?_
      refine fx_getr ok fq_MO_87 hm.1 dq_MO_join_69 (by decide) (mo_mh hm).1 ?_
      refine fx_iload 1 dq_MO_join_72 rfl ?_
      refine fx_iaN ok (mo_mh hm).2 ⟨by omega, by decide⟩ dq_MO_join_74 ?_
      refine fx_imul dq_MO_join_75 ?_
      refine fx_isub dq_MO_join_76 ?_
      refine fx_aload_n 5 dq_MO_join_77 rfl rfl ?_
      refine fx_getr ok fq_MO_84 hm.1 dq_MO_join_78 (by decide) (mo_mw hm).1 ?_
      refine fx_iload 0 dq_MO_join_81 rfl ?_
      refine fx_iaN ok (mo_mw hm).2 ⟨by omega, by decide⟩ dq_MO_join_83 ?_
      refine fx_aload_n 5 dq_MO_join_84 rfl rfl ?_
      refine fx_getr ok fq_MO_87 hm.1 dq_MO_join_85 (by decide) (mo_mh hm).1 ?_
      refine fx_iload 0 dq_MO_join_88 rfl ?_
      refine fx_iaN ok (mo_mh hm).2 ⟨by omega, by decide⟩ dq_MO_join_90 ?_
      refine fx_imul dq_MO_join_91 ?_
      refine fx_isub dq_MO_join_92 ?_
      refine fx_istore dq_MO_join_93 (by decide) rfl ?_
      refine fx_iload 0 dq_MO_join_95 rfl ?_
      refine fx_iload 3 dq_MO_join_97 rfl ?_
      refine fx_icmp_lt (tgt := 105) dq_MO_join_99 (by decide) (fun hc99 => ?_) (fun hc99 => ?_)
      · -- 99: jump
        refine fx_iload 0 dq_MO_join_105 rfl ?_
        refine fx_istore dq_MO_join_107 (by decide) rfl ?_
        refine fx_iload 3 dq_MO_join_109 rfl ?_
        refine fx_istore_n dq_MO_join_111 rfl (by decide) rfl ?_
        refine fx_iload 3 dq_MO_join_112 rfl ?_
        refine fx_istore_n dq_MO_join_114 rfl (by decide) rfl ?_
        refine fx_iinc 4 dq_MO_join_115 rfl (jz_i _) (by decide) rfl ?_
        refine fx_goto (tgt := 32) dq_MO_join_118 (by decide) ?_
        refine fx_sub [0, 5, 3, 1, 2, 6, 7] rfl ?_
        rw [itg_s, mjI, mW, if_pos hc99] at hK32
        exact hK32
      · -- 99: fall
        refine fx_goto (tgt := 115) dq_MO_join_102 (by decide) ?_
        refine fx_iinc 1 dq_MO_join_115 rfl (jz_i _) (by decide) rfl ?_
        refine fx_goto (tgt := 32) dq_MO_join_118 (by decide) ?_
        refine fx_sub [0, 2, 3, 4, 5, 6, 7] rfl ?_
        rw [itg_s, mjI, mW, if_neg hc99] at hK32
        exact hK32
    · skip
      refine fx_iload 0 dq_MO_join_32 rfl ?_
      refine fx_bipush (v := 7) dq_MO_join_34 (by decide) ?_
      refine fx_iload_n 6 dq_MO_join_36 rfl rfl ?_
      refine fx_imul dq_MO_join_37 ?_
      refine fx_bipush (v := 7) dq_MO_join_38 (by decide) ?_
      refine fx_iadd dq_MO_join_40 ?_
      refine fx_icmp_ge (tgt := 121) dq_MO_join_41 (by decide) (fun hc41 => ?_) (fun hc41 => absurd (by rw [j77 hm2]; exact nI_le (by omega) (by omega)) hc41)
      refine fx_iinc 1 dq_MO_join_121 rfl (jz_i _) (by decide) rfl ?_
      refine fx_goto (tgt := 14) dq_MO_join_124 (by decide) ?_
      refine fx_sub [0, 2, 3, 4, 5, 6] rfl ?_
      exact hK14
  · skip
    refine fx_iload 0 dq_MO_join_14 rfl ?_
    refine fx_bipush (v := 7) dq_MO_join_16 (by decide) ?_
    refine fx_iload_n 5 dq_MO_join_18 rfl rfl ?_
    refine fx_imul dq_MO_join_19 ?_
    refine fx_bipush (v := 7) dq_MO_join_20 (by decide) ?_
    refine fx_iadd dq_MO_join_22 ?_
    refine fx_icmp_ge (tgt := 127) dq_MO_join_23 (by decide) (fun hc23 => ?_) (fun hc23 => absurd (by rw [j77 hm2]; exact nI_le (Nat.le_refl _) (by omega)) hc23)
    refine fx_sub [2, 3, 4, 5] rfl ?_
    rw [← mJ_eq h q m, hA, hB]
    refine fx_aload_n 2 dq_MO_join_127 rfl rfl ?_
    refine fx_iload_n 1 dq_MO_join_128 rfl rfl ?_
    refine fx_iload_n 0 dq_MO_join_129 rfl rfl ?_
    refine fx_Vi2 ok sq_MO_187 hm.1 (c_MO_hullWide ok h q (nI A) (nI B) hm (vp_in_nI hJ.1 (by decide)) (vp_in_nI hJ.2 (by decide))) (by decide) (Nat.le_of_ble_eq_true rfl) dq_MO_join_130 ?_
    refine fx_istore dq_MO_join_133 (by decide) rfl ?_
    refine fx_aload_n 3 dq_MO_join_135 rfl rfl ?_
    refine fx_iload_n 2 dq_MO_join_136 rfl rfl ?_
    refine fx_iload_n 1 dq_MO_join_137 rfl rfl ?_
    refine fx_Vi2 ok sq_MO_191 hm.1 (c_MO_hullHigh ok h q (nI A) (nI B) hm (vp_in_nI hJ.1 (by decide)) (vp_in_nI hJ.2 (by decide))) (by decide) (Nat.le_of_ble_eq_true rfl) dq_MO_join_138 ?_
    refine fx_istore dq_MO_join_141 (by decide) rfl ?_
    refine fx_aload_n 4 dq_MO_join_143 rfl rfl ?_
    refine fx_getr ok fq_MO_78 hm.1 dq_MO_join_144 (by decide) (mo_mx hm).1 ?_
    refine fx_iload_n 3 dq_MO_join_147 rfl rfl ?_
    refine fx_aload_n 4 dq_MO_join_148 rfl rfl ?_
    refine fx_getr ok fq_MO_78 hm.1 dq_MO_join_149 (by decide) (mo_mx hm).1 ?_
    refine fx_iload_n 3 dq_MO_join_152 rfl rfl ?_
    refine fx_iaN ok (mo_mx hm).2 ⟨hJ.1, by decide⟩ dq_MO_join_153 ?_
    refine fx_aload_n 4 dq_MO_join_154 rfl rfl ?_
    refine fx_getr ok fq_MO_78 hm.1 dq_MO_join_155 (by decide) (mo_mx hm).1 ?_
    refine fx_iload_n 2 dq_MO_join_158 rfl rfl ?_
    refine fx_iaN ok (mo_mx hm).2 ⟨hJ.2, by decide⟩ dq_MO_join_159 ?_
    refine fx_icmp_ge (tgt := 172) dq_MO_join_160 (by decide) (fun hc160 => ?_) (fun hc160 => ?_)
    · -- 160: jump
      refine fx_aload_n 4 dq_MO_join_172 rfl rfl ?_
      refine fx_getr ok fq_MO_78 hm.1 dq_MO_join_173 (by decide) (mo_mx hm).1 ?_
      refine fx_iload_n 2 dq_MO_join_176 rfl rfl ?_
      refine fx_iaN ok (mo_mx hm).2 ⟨hJ.2, by decide⟩ dq_MO_join_177 ?_
      refine fx_isN ok (mo_mx hm).2 ⟨hJ.1, by decide⟩ dq_MO_join_178 ?_
      refine fx_aload_n 4 dq_MO_join_179 rfl rfl ?_
      refine fx_getr ok fq_MO_81 hm.1 dq_MO_join_180 (by decide) (mo_my hm).1 ?_
      refine fx_iload_n 3 dq_MO_join_183 rfl rfl ?_
      refine fx_aload_n 4 dq_MO_join_184 rfl rfl ?_
      refine fx_getr ok fq_MO_81 hm.1 dq_MO_join_185 (by decide) (mo_my hm).1 ?_
      refine fx_iload_n 3 dq_MO_join_188 rfl rfl ?_
      refine fx_iaN ok (mo_my hm).2 ⟨hJ.1, by decide⟩ dq_MO_join_189 ?_
      refine fx_aload_n 4 dq_MO_join_190 rfl rfl ?_
      refine fx_getr ok fq_MO_81 hm.1 dq_MO_join_191 (by decide) (mo_my hm).1 ?_
      refine fx_iload_n 2 dq_MO_join_194 rfl rfl ?_
      refine fx_iaN ok (mo_my hm).2 ⟨hJ.2, by decide⟩ dq_MO_join_195 ?_
      refine fx_icmp_ge (tgt := 208) dq_MO_join_196 (by decide) (fun hc196 => ?_) (fun hc196 => ?_)
      · -- 196: jump
        refine fx_aload_n 4 dq_MO_join_208 rfl rfl ?_
        refine fx_getr ok fq_MO_81 hm.1 dq_MO_join_209 (by decide) (mo_my hm).1 ?_
        refine fx_iload_n 2 dq_MO_join_212 rfl rfl ?_
        refine fx_iaN ok (mo_my hm).2 ⟨hJ.2, by decide⟩ dq_MO_join_213 ?_
        refine fx_isN ok (mo_my hm).2 ⟨hJ.1, by decide⟩ dq_MO_join_214 ?_
        refine fx_aload_n 4 dq_MO_join_215 rfl rfl ?_
        refine fx_getr ok fq_MO_84 hm.1 dq_MO_join_216 (by decide) (mo_mw hm).1 ?_
        refine fx_iload_n 3 dq_MO_join_219 rfl rfl ?_
        refine fx_iload 1 dq_MO_join_220 rfl ?_
        refine fx_isN ok (mo_mw hm).2 ⟨hJ.1, by decide⟩ dq_MO_join_222 ?_
        refine fx_aload_n 4 dq_MO_join_223 rfl rfl ?_
        refine fx_getr ok fq_MO_87 hm.1 dq_MO_join_224 (by decide) (mo_mh hm).1 ?_
        refine fx_iload_n 3 dq_MO_join_227 rfl rfl ?_
        refine fx_iload 0 dq_MO_join_228 rfl ?_
        refine fx_isN ok (mo_mh hm).2 ⟨hJ.1, by decide⟩ dq_MO_join_230 ?_
        refine fx_aload_n 4 dq_MO_join_231 rfl rfl ?_
        refine fx_getr ok fq_MO_75 hm.1 dq_MO_join_232 (by decide) (mo_misses hm).1 ?_
        refine fx_iload_n 5 dq_MO_join_235 rfl rfl ?_
        refine fx_bipush (v := 6) dq_MO_join_236 (by decide) ?_
        refine fx_isN ok (mo_misses hm).2 ⟨hm2, by decide⟩ dq_MO_join_238 ?_
        refine fx_iload_n 2 dq_MO_join_239 rfl rfl ?_
        refine fx_istore dq_MO_join_240 (by decide) rfl ?_
        refine fx_sub [0, 3, 4, 5, 6] rfl ?_
        refine fx_for (fun i => [(7, .int (nI (B + i))), (3, .int (nI B)), (2, .int (nI A)), (0, .ref q), (1, .int (nI m))]) (b_MO_join q B) (fx_wi (fx_wi (fx_wi (fx_wi (fx_wi h (q + 22) A (fx_i h (q + 22) B)) (q + 23) A (fx_i (fx_wi h (q + 22) A (fx_i h (q + 22) B)) (q + 23) B)) (q + 24) A (v_MO_hullWide h q (nI A) (nI B))) (q + 25) A (v_MO_hullHigh h q (nI A) (nI B))) (q + 21) m (6 : Int32)) (7 * m + 6 - B) (fun i hi hK242 => ?_) ?_
        · have e242b : fx_sm h (it (b_MO_join q B) (fx_wi (fx_wi (fx_wi (fx_wi (fx_wi h (q + 22) A (fx_i h (q + 22) B)) (q + 23) A (fx_i (fx_wi h (q + 22) A (fx_i h (q + 22) B)) (q + 23) B)) (q + 24) A (v_MO_hullWide h q (nI A) (nI B))) (q + 25) A (v_MO_hullHigh h q (nI A) (nI B))) (q + 21) m (6 : Int32)) i) := fx_sm_t (h' := (fx_wi (fx_wi (fx_wi (fx_wi (fx_wi h (q + 22) A (fx_i h (q + 22) B)) (q + 23) A (fx_i (fx_wi h (q + 22) A (fx_i h (q + 22) B)) (q + 23) B)) (q + 24) A (v_MO_hullWide h q (nI A) (nI B))) (q + 25) A (v_MO_hullHigh h q (nI A) (nI B))) (q + 21) m (6 : Int32))) (rfl : fx_sm h (fx_wi (fx_wi (fx_wi (fx_wi (fx_wi h (q + 22) A (fx_i h (q + 22) B)) (q + 23) A (fx_i (fx_wi h (q + 22) A (fx_i h (q + 22) B)) (q + 23) B)) (q + 24) A (v_MO_hullWide h q (nI A) (nI B))) (q + 25) A (v_MO_hullHigh h q (nI A) (nI B))) (q + 21) m (6 : Int32))) (fx_sm_it (by intro _ _; unfold b_MO_join; rfl) (fx_wi (fx_wi (fx_wi (fx_wi (fx_wi h (q + 22) A (fx_i h (q + 22) B)) (q + 23) A (fx_i (fx_wi h (q + 22) A (fx_i h (q + 22) B)) (q + 23) B)) (q + 24) A (v_MO_hullWide h q (nI A) (nI B))) (q + 25) A (v_MO_hullHigh h q (nI A) (nI B))) (q + 21) m (6 : Int32)) i)
          generalize it (b_MO_join q B) (fx_wi (fx_wi (fx_wi (fx_wi (fx_wi h (q + 22) A (fx_i h (q + 22) B)) (q + 23) A (fx_i (fx_wi h (q + 22) A (fx_i h (q + 22) B)) (q + 23) B)) (q + 24) A (v_MO_hullWide h q (nI A) (nI B))) (q + 25) A (v_MO_hullHigh h q (nI A) (nI B))) (q + 21) m (6 : Int32)) i = k at e242b hK242  ⊢
          refine fx_iload 0 dq_MO_join_242 rfl ?_
          refine fx_bipush (v := 7) dq_MO_join_244 (by decide) ?_
          refine fx_iload_n 4 dq_MO_join_246 rfl rfl ?_
          refine fx_imul dq_MO_join_247 ?_
          refine fx_bipush (v := 6) dq_MO_join_248 (by decide) ?_
          refine fx_iadd dq_MO_join_250 ?_
          refine fx_icmp_ge (tgt := 324) dq_MO_join_251 (by decide) (fun hc251 => absurd hc251 (by rw [j76 hm2]; exact nI_ge (by omega) (by omega))) (fun hc251 => ?_)
          refine fx_aload_n 3 dq_MO_join_254 rfl rfl ?_
          refine fx_getr ok fq_MO_78 ((fx_sm_s e242b _).trans hm.1) dq_MO_join_255 (by decide) ((fx_sm_r e242b _ _).trans (mo_mx hm).1) ?_
          refine fx_iload 0 dq_MO_join_258 rfl ?_
          refine fx_aload_n 3 dq_MO_join_260 rfl rfl ?_
          refine fx_getr ok fq_MO_78 ((fx_sm_s e242b _).trans hm.1) dq_MO_join_261 (by decide) ((fx_sm_r e242b _ _).trans (mo_mx hm).1) ?_
          refine fx_iload 0 dq_MO_join_264 rfl ?_
          refine fx_iconst (v := 1) dq_MO_join_266 (by decide) ?_
          refine fx_iadd dq_MO_join_267 ?_
          refine fx_iaload ok ((fx_sm_s e242b _).trans (mo_mx hm).2) (by rw [← nI_succ]; exact vp_in_nI (by omega) (by decide)) dq_MO_join_268 ?_
          refine fx_isN ok ((fx_sm_s e242b _).trans (mo_mx hm).2) ⟨by omega, by decide⟩ dq_MO_join_269 ?_
          have e269w : fx_sm h (fx_wi k (q + 22) (B + i) (fx_i k (q + 22) ((nI (B + i)) + (1 : Int32)).toNatClampNeg)) := fx_sm_t (h' := k) e242b (sm_wi _ _ _ _)
          refine fx_aload_n 3 dq_MO_join_270 rfl rfl ?_
          refine fx_getr ok fq_MO_81 ((fx_sm_s e269w _).trans hm.1) dq_MO_join_271 (by decide) ((fx_sm_r e269w _ _).trans (mo_my hm).1) ?_
          refine fx_iload 0 dq_MO_join_274 rfl ?_
          refine fx_aload_n 3 dq_MO_join_276 rfl rfl ?_
          refine fx_getr ok fq_MO_81 ((fx_sm_s e269w _).trans hm.1) dq_MO_join_277 (by decide) ((fx_sm_r e269w _ _).trans (mo_my hm).1) ?_
          refine fx_iload 0 dq_MO_join_280 rfl ?_
          refine fx_iconst (v := 1) dq_MO_join_282 (by decide) ?_
          refine fx_iadd dq_MO_join_283 ?_
          refine fx_iaload ok ((fx_sm_s e269w _).trans (mo_my hm).2) (by rw [← nI_succ]; exact vp_in_nI (by omega) (by decide)) dq_MO_join_284 ?_
          refine fx_isN ok ((fx_sm_s e269w _).trans (mo_my hm).2) ⟨by omega, by decide⟩ dq_MO_join_285 ?_
          have e285w : fx_sm h (fx_wi (fx_wi k (q + 22) (B + i) (fx_i k (q + 22) ((nI (B + i)) + (1 : Int32)).toNatClampNeg)) (q + 23) (B + i) (fx_i (fx_wi k (q + 22) (B + i) (fx_i k (q + 22) ((nI (B + i)) + (1 : Int32)).toNatClampNeg)) (q + 23) ((nI (B + i)) + (1 : Int32)).toNatClampNeg)) := fx_sm_t (h' := (fx_wi k (q + 22) (B + i) (fx_i k (q + 22) ((nI (B + i)) + (1 : Int32)).toNatClampNeg))) e269w (sm_wi _ _ _ _)
          refine fx_aload_n 3 dq_MO_join_286 rfl rfl ?_
          refine fx_getr ok fq_MO_84 ((fx_sm_s e285w _).trans hm.1) dq_MO_join_287 (by decide) ((fx_sm_r e285w _ _).trans (mo_mw hm).1) ?_
          refine fx_iload 0 dq_MO_join_290 rfl ?_
          refine fx_aload_n 3 dq_MO_join_292 rfl rfl ?_
          refine fx_getr ok fq_MO_84 ((fx_sm_s e285w _).trans hm.1) dq_MO_join_293 (by decide) ((fx_sm_r e285w _ _).trans (mo_mw hm).1) ?_
          refine fx_iload 0 dq_MO_join_296 rfl ?_
          refine fx_iconst (v := 1) dq_MO_join_298 (by decide) ?_
          refine fx_iadd dq_MO_join_299 ?_
          refine fx_iaload ok ((fx_sm_s e285w _).trans (mo_mw hm).2) (by rw [← nI_succ]; exact vp_in_nI (by omega) (by decide)) dq_MO_join_300 ?_
          refine fx_isN ok ((fx_sm_s e285w _).trans (mo_mw hm).2) ⟨by omega, by decide⟩ dq_MO_join_301 ?_
          have e301w : fx_sm h (fx_wi (fx_wi (fx_wi k (q + 22) (B + i) (fx_i k (q + 22) ((nI (B + i)) + (1 : Int32)).toNatClampNeg)) (q + 23) (B + i) (fx_i (fx_wi k (q + 22) (B + i) (fx_i k (q + 22) ((nI (B + i)) + (1 : Int32)).toNatClampNeg)) (q + 23) ((nI (B + i)) + (1 : Int32)).toNatClampNeg)) (q + 24) (B + i) (fx_i (fx_wi (fx_wi k (q + 22) (B + i) (fx_i k (q + 22) ((nI (B + i)) + (1 : Int32)).toNatClampNeg)) (q + 23) (B + i) (fx_i (fx_wi k (q + 22) (B + i) (fx_i k (q + 22) ((nI (B + i)) + (1 : Int32)).toNatClampNeg)) (q + 23) ((nI (B + i)) + (1 : Int32)).toNatClampNeg)) (q + 24) ((nI (B + i)) + (1 : Int32)).toNatClampNeg)) := fx_sm_t (h' := (fx_wi (fx_wi k (q + 22) (B + i) (fx_i k (q + 22) ((nI (B + i)) + (1 : Int32)).toNatClampNeg)) (q + 23) (B + i) (fx_i (fx_wi k (q + 22) (B + i) (fx_i k (q + 22) ((nI (B + i)) + (1 : Int32)).toNatClampNeg)) (q + 23) ((nI (B + i)) + (1 : Int32)).toNatClampNeg))) e285w (sm_wi _ _ _ _)
          refine fx_aload_n 3 dq_MO_join_302 rfl rfl ?_
          refine fx_getr ok fq_MO_87 ((fx_sm_s e301w _).trans hm.1) dq_MO_join_303 (by decide) ((fx_sm_r e301w _ _).trans (mo_mh hm).1) ?_
          refine fx_iload 0 dq_MO_join_306 rfl ?_
          refine fx_aload_n 3 dq_MO_join_308 rfl rfl ?_
          refine fx_getr ok fq_MO_87 ((fx_sm_s e301w _).trans hm.1) dq_MO_join_309 (by decide) ((fx_sm_r e301w _ _).trans (mo_mh hm).1) ?_
          refine fx_iload 0 dq_MO_join_312 rfl ?_
          refine fx_iconst (v := 1) dq_MO_join_314 (by decide) ?_
          refine fx_iadd dq_MO_join_315 ?_
          refine fx_iaload ok ((fx_sm_s e301w _).trans (mo_mh hm).2) (by rw [← nI_succ]; exact vp_in_nI (by omega) (by decide)) dq_MO_join_316 ?_
          refine fx_isN ok ((fx_sm_s e301w _).trans (mo_mh hm).2) ⟨by omega, by decide⟩ dq_MO_join_317 ?_
          have e317w : fx_sm h (fx_wi (fx_wi (fx_wi (fx_wi k (q + 22) (B + i) (fx_i k (q + 22) ((nI (B + i)) + (1 : Int32)).toNatClampNeg)) (q + 23) (B + i) (fx_i (fx_wi k (q + 22) (B + i) (fx_i k (q + 22) ((nI (B + i)) + (1 : Int32)).toNatClampNeg)) (q + 23) ((nI (B + i)) + (1 : Int32)).toNatClampNeg)) (q + 24) (B + i) (fx_i (fx_wi (fx_wi k (q + 22) (B + i) (fx_i k (q + 22) ((nI (B + i)) + (1 : Int32)).toNatClampNeg)) (q + 23) (B + i) (fx_i (fx_wi k (q + 22) (B + i) (fx_i k (q + 22) ((nI (B + i)) + (1 : Int32)).toNatClampNeg)) (q + 23) ((nI (B + i)) + (1 : Int32)).toNatClampNeg)) (q + 24) ((nI (B + i)) + (1 : Int32)).toNatClampNeg)) (q + 25) (B + i) (fx_i (fx_wi (fx_wi (fx_wi k (q + 22) (B + i) (fx_i k (q + 22) ((nI (B + i)) + (1 : Int32)).toNatClampNeg)) (q + 23) (B + i) (fx_i (fx_wi k (q + 22) (B + i) (fx_i k (q + 22) ((nI (B + i)) + (1 : Int32)).toNatClampNeg)) (q + 23) ((nI (B + i)) + (1 : Int32)).toNatClampNeg)) (q + 24) (B + i) (fx_i (fx_wi (fx_wi k (q + 22) (B + i) (fx_i k (q + 22) ((nI (B + i)) + (1 : Int32)).toNatClampNeg)) (q + 23) (B + i) (fx_i (fx_wi k (q + 22) (B + i) (fx_i k (q + 22) ((nI (B + i)) + (1 : Int32)).toNatClampNeg)) (q + 23) ((nI (B + i)) + (1 : Int32)).toNatClampNeg)) (q + 24) ((nI (B + i)) + (1 : Int32)).toNatClampNeg)) (q + 25) ((nI (B + i)) + (1 : Int32)).toNatClampNeg)) := fx_sm_t (h' := (fx_wi (fx_wi (fx_wi k (q + 22) (B + i) (fx_i k (q + 22) ((nI (B + i)) + (1 : Int32)).toNatClampNeg)) (q + 23) (B + i) (fx_i (fx_wi k (q + 22) (B + i) (fx_i k (q + 22) ((nI (B + i)) + (1 : Int32)).toNatClampNeg)) (q + 23) ((nI (B + i)) + (1 : Int32)).toNatClampNeg)) (q + 24) (B + i) (fx_i (fx_wi (fx_wi k (q + 22) (B + i) (fx_i k (q + 22) ((nI (B + i)) + (1 : Int32)).toNatClampNeg)) (q + 23) (B + i) (fx_i (fx_wi k (q + 22) (B + i) (fx_i k (q + 22) ((nI (B + i)) + (1 : Int32)).toNatClampNeg)) (q + 23) ((nI (B + i)) + (1 : Int32)).toNatClampNeg)) (q + 24) ((nI (B + i)) + (1 : Int32)).toNatClampNeg))) e301w (sm_wi _ _ _ _)
          refine fx_iinc 0 dq_MO_join_318 rfl (jz_i _) (by decide) rfl ?_
          refine fx_goto (tgt := 242) dq_MO_join_321 (by decide) ?_
          refine fx_sub [0, 1, 2, 3, 4] rfl ?_
          exact hK242
        · have e242x : fx_sm h (it (b_MO_join q B) (fx_wi (fx_wi (fx_wi (fx_wi (fx_wi h (q + 22) A (fx_i h (q + 22) B)) (q + 23) A (fx_i (fx_wi h (q + 22) A (fx_i h (q + 22) B)) (q + 23) B)) (q + 24) A (v_MO_hullWide h q (nI A) (nI B))) (q + 25) A (v_MO_hullHigh h q (nI A) (nI B))) (q + 21) m (6 : Int32)) (7 * m + 6 - B)) := fx_sm_t (h' := (fx_wi (fx_wi (fx_wi (fx_wi (fx_wi h (q + 22) A (fx_i h (q + 22) B)) (q + 23) A (fx_i (fx_wi h (q + 22) A (fx_i h (q + 22) B)) (q + 23) B)) (q + 24) A (v_MO_hullWide h q (nI A) (nI B))) (q + 25) A (v_MO_hullHigh h q (nI A) (nI B))) (q + 21) m (6 : Int32))) (rfl : fx_sm h (fx_wi (fx_wi (fx_wi (fx_wi (fx_wi h (q + 22) A (fx_i h (q + 22) B)) (q + 23) A (fx_i (fx_wi h (q + 22) A (fx_i h (q + 22) B)) (q + 23) B)) (q + 24) A (v_MO_hullWide h q (nI A) (nI B))) (q + 25) A (v_MO_hullHigh h q (nI A) (nI B))) (q + 21) m (6 : Int32))) (fx_sm_it (by intro _ _; unfold b_MO_join; rfl) (fx_wi (fx_wi (fx_wi (fx_wi (fx_wi h (q + 22) A (fx_i h (q + 22) B)) (q + 23) A (fx_i (fx_wi h (q + 22) A (fx_i h (q + 22) B)) (q + 23) B)) (q + 24) A (v_MO_hullWide h q (nI A) (nI B))) (q + 25) A (v_MO_hullHigh h q (nI A) (nI B))) (q + 21) m (6 : Int32)) (7 * m + 6 - B))
          refine fx_iload 0 dq_MO_join_242 rfl ?_
          refine fx_bipush (v := 7) dq_MO_join_244 (by decide) ?_
          refine fx_iload_n 4 dq_MO_join_246 rfl rfl ?_
          refine fx_imul dq_MO_join_247 ?_
          refine fx_bipush (v := 6) dq_MO_join_248 (by decide) ?_
          refine fx_iadd dq_MO_join_250 ?_
          refine fx_icmp_ge (tgt := 324) dq_MO_join_251 (by decide) (fun hc251 => ?_) (fun hc251 => absurd (by rw [j76 hm2]; exact nI_le (by omega) (by omega)) hc251)
          exact fx_vreturn rfl dq_MO_join_324 ⟨rfl, by rw [k_MO_joinA, if_pos hc160, if_pos hc196]⟩
      · -- 196: fall
        refine fx_aload_n 4 dq_MO_join_199 rfl rfl ?_
        refine fx_getr ok fq_MO_81 hm.1 dq_MO_join_200 (by decide) (mo_my hm).1 ?_
        refine fx_iload_n 3 dq_MO_join_203 rfl rfl ?_
        refine fx_iaN ok (mo_my hm).2 ⟨hJ.1, by decide⟩ dq_MO_join_204 ?_
        refine fx_goto (tgt := 214) dq_MO_join_205 (by decide) ?_
        refine fx_isN ok (mo_my hm).2 ⟨hJ.1, by decide⟩ dq_MO_join_214 ?_
        refine fx_aload_n 4 dq_MO_join_215 rfl rfl ?_
        refine fx_getr ok fq_MO_84 hm.1 dq_MO_join_216 (by decide) (mo_mw hm).1 ?_
        refine fx_iload_n 3 dq_MO_join_219 rfl rfl ?_
        refine fx_iload 1 dq_MO_join_220 rfl ?_
        refine fx_isN ok (mo_mw hm).2 ⟨hJ.1, by decide⟩ dq_MO_join_222 ?_
        refine fx_aload_n 4 dq_MO_join_223 rfl rfl ?_
        refine fx_getr ok fq_MO_87 hm.1 dq_MO_join_224 (by decide) (mo_mh hm).1 ?_
        refine fx_iload_n 3 dq_MO_join_227 rfl rfl ?_
        refine fx_iload 0 dq_MO_join_228 rfl ?_
        refine fx_isN ok (mo_mh hm).2 ⟨hJ.1, by decide⟩ dq_MO_join_230 ?_
        refine fx_aload_n 4 dq_MO_join_231 rfl rfl ?_
        refine fx_getr ok fq_MO_75 hm.1 dq_MO_join_232 (by decide) (mo_misses hm).1 ?_
        refine fx_iload_n 5 dq_MO_join_235 rfl rfl ?_
        refine fx_bipush (v := 6) dq_MO_join_236 (by decide) ?_
        refine fx_isN ok (mo_misses hm).2 ⟨hm2, by decide⟩ dq_MO_join_238 ?_
        refine fx_iload_n 2 dq_MO_join_239 rfl rfl ?_
        refine fx_istore dq_MO_join_240 (by decide) rfl ?_
        refine fx_sub [0, 3, 4, 5, 6] rfl ?_
        refine fx_for (fun i => [(7, .int (nI (B + i))), (3, .int (nI B)), (2, .int (nI A)), (0, .ref q), (1, .int (nI m))]) (b_MO_join q B) (fx_wi (fx_wi (fx_wi (fx_wi (fx_wi h (q + 22) A (fx_i h (q + 22) B)) (q + 23) A (fx_i (fx_wi h (q + 22) A (fx_i h (q + 22) B)) (q + 23) A)) (q + 24) A (v_MO_hullWide h q (nI A) (nI B))) (q + 25) A (v_MO_hullHigh h q (nI A) (nI B))) (q + 21) m (6 : Int32)) (7 * m + 6 - B) (fun i hi hK242 => ?_) ?_
        · have e242b : fx_sm h (it (b_MO_join q B) (fx_wi (fx_wi (fx_wi (fx_wi (fx_wi h (q + 22) A (fx_i h (q + 22) B)) (q + 23) A (fx_i (fx_wi h (q + 22) A (fx_i h (q + 22) B)) (q + 23) A)) (q + 24) A (v_MO_hullWide h q (nI A) (nI B))) (q + 25) A (v_MO_hullHigh h q (nI A) (nI B))) (q + 21) m (6 : Int32)) i) := fx_sm_t (h' := (fx_wi (fx_wi (fx_wi (fx_wi (fx_wi h (q + 22) A (fx_i h (q + 22) B)) (q + 23) A (fx_i (fx_wi h (q + 22) A (fx_i h (q + 22) B)) (q + 23) A)) (q + 24) A (v_MO_hullWide h q (nI A) (nI B))) (q + 25) A (v_MO_hullHigh h q (nI A) (nI B))) (q + 21) m (6 : Int32))) (rfl : fx_sm h (fx_wi (fx_wi (fx_wi (fx_wi (fx_wi h (q + 22) A (fx_i h (q + 22) B)) (q + 23) A (fx_i (fx_wi h (q + 22) A (fx_i h (q + 22) B)) (q + 23) A)) (q + 24) A (v_MO_hullWide h q (nI A) (nI B))) (q + 25) A (v_MO_hullHigh h q (nI A) (nI B))) (q + 21) m (6 : Int32))) (fx_sm_it (by intro _ _; unfold b_MO_join; rfl) (fx_wi (fx_wi (fx_wi (fx_wi (fx_wi h (q + 22) A (fx_i h (q + 22) B)) (q + 23) A (fx_i (fx_wi h (q + 22) A (fx_i h (q + 22) B)) (q + 23) A)) (q + 24) A (v_MO_hullWide h q (nI A) (nI B))) (q + 25) A (v_MO_hullHigh h q (nI A) (nI B))) (q + 21) m (6 : Int32)) i)
          generalize it (b_MO_join q B) (fx_wi (fx_wi (fx_wi (fx_wi (fx_wi h (q + 22) A (fx_i h (q + 22) B)) (q + 23) A (fx_i (fx_wi h (q + 22) A (fx_i h (q + 22) B)) (q + 23) A)) (q + 24) A (v_MO_hullWide h q (nI A) (nI B))) (q + 25) A (v_MO_hullHigh h q (nI A) (nI B))) (q + 21) m (6 : Int32)) i = k at e242b hK242  ⊢
          refine fx_iload 0 dq_MO_join_242 rfl ?_
          refine fx_bipush (v := 7) dq_MO_join_244 (by decide) ?_
          refine fx_iload_n 4 dq_MO_join_246 rfl rfl ?_
          refine fx_imul dq_MO_join_247 ?_
          refine fx_bipush (v := 6) dq_MO_join_248 (by decide) ?_
          refine fx_iadd dq_MO_join_250 ?_
          refine fx_icmp_ge (tgt := 324) dq_MO_join_251 (by decide) (fun hc251 => absurd hc251 (by rw [j76 hm2]; exact nI_ge (by omega) (by omega))) (fun hc251 => ?_)
          refine fx_aload_n 3 dq_MO_join_254 rfl rfl ?_
          refine fx_getr ok fq_MO_78 ((fx_sm_s e242b _).trans hm.1) dq_MO_join_255 (by decide) ((fx_sm_r e242b _ _).trans (mo_mx hm).1) ?_
          refine fx_iload 0 dq_MO_join_258 rfl ?_
          refine fx_aload_n 3 dq_MO_join_260 rfl rfl ?_
          refine fx_getr ok fq_MO_78 ((fx_sm_s e242b _).trans hm.1) dq_MO_join_261 (by decide) ((fx_sm_r e242b _ _).trans (mo_mx hm).1) ?_
          refine fx_iload 0 dq_MO_join_264 rfl ?_
          refine fx_iconst (v := 1) dq_MO_join_266 (by decide) ?_
          refine fx_iadd dq_MO_join_267 ?_
          refine fx_iaload ok ((fx_sm_s e242b _).trans (mo_mx hm).2) (by rw [← nI_succ]; exact vp_in_nI (by omega) (by decide)) dq_MO_join_268 ?_
          refine fx_isN ok ((fx_sm_s e242b _).trans (mo_mx hm).2) ⟨by omega, by decide⟩ dq_MO_join_269 ?_
          have e269w : fx_sm h (fx_wi k (q + 22) (B + i) (fx_i k (q + 22) ((nI (B + i)) + (1 : Int32)).toNatClampNeg)) := fx_sm_t (h' := k) e242b (sm_wi _ _ _ _)
          refine fx_aload_n 3 dq_MO_join_270 rfl rfl ?_
          refine fx_getr ok fq_MO_81 ((fx_sm_s e269w _).trans hm.1) dq_MO_join_271 (by decide) ((fx_sm_r e269w _ _).trans (mo_my hm).1) ?_
          refine fx_iload 0 dq_MO_join_274 rfl ?_
          refine fx_aload_n 3 dq_MO_join_276 rfl rfl ?_
          refine fx_getr ok fq_MO_81 ((fx_sm_s e269w _).trans hm.1) dq_MO_join_277 (by decide) ((fx_sm_r e269w _ _).trans (mo_my hm).1) ?_
          refine fx_iload 0 dq_MO_join_280 rfl ?_
          refine fx_iconst (v := 1) dq_MO_join_282 (by decide) ?_
          refine fx_iadd dq_MO_join_283 ?_
          refine fx_iaload ok ((fx_sm_s e269w _).trans (mo_my hm).2) (by rw [← nI_succ]; exact vp_in_nI (by omega) (by decide)) dq_MO_join_284 ?_
          refine fx_isN ok ((fx_sm_s e269w _).trans (mo_my hm).2) ⟨by omega, by decide⟩ dq_MO_join_285 ?_
          have e285w : fx_sm h (fx_wi (fx_wi k (q + 22) (B + i) (fx_i k (q + 22) ((nI (B + i)) + (1 : Int32)).toNatClampNeg)) (q + 23) (B + i) (fx_i (fx_wi k (q + 22) (B + i) (fx_i k (q + 22) ((nI (B + i)) + (1 : Int32)).toNatClampNeg)) (q + 23) ((nI (B + i)) + (1 : Int32)).toNatClampNeg)) := fx_sm_t (h' := (fx_wi k (q + 22) (B + i) (fx_i k (q + 22) ((nI (B + i)) + (1 : Int32)).toNatClampNeg))) e269w (sm_wi _ _ _ _)
          refine fx_aload_n 3 dq_MO_join_286 rfl rfl ?_
          refine fx_getr ok fq_MO_84 ((fx_sm_s e285w _).trans hm.1) dq_MO_join_287 (by decide) ((fx_sm_r e285w _ _).trans (mo_mw hm).1) ?_
          refine fx_iload 0 dq_MO_join_290 rfl ?_
          refine fx_aload_n 3 dq_MO_join_292 rfl rfl ?_
          refine fx_getr ok fq_MO_84 ((fx_sm_s e285w _).trans hm.1) dq_MO_join_293 (by decide) ((fx_sm_r e285w _ _).trans (mo_mw hm).1) ?_
          refine fx_iload 0 dq_MO_join_296 rfl ?_
          refine fx_iconst (v := 1) dq_MO_join_298 (by decide) ?_
          refine fx_iadd dq_MO_join_299 ?_
          refine fx_iaload ok ((fx_sm_s e285w _).trans (mo_mw hm).2) (by rw [← nI_succ]; exact vp_in_nI (by omega) (by decide)) dq_MO_join_300 ?_
          refine fx_isN ok ((fx_sm_s e285w _).trans (mo_mw hm).2) ⟨by omega, by decide⟩ dq_MO_join_301 ?_
          have e301w : fx_sm h (fx_wi (fx_wi (fx_wi k (q + 22) (B + i) (fx_i k (q + 22) ((nI (B + i)) + (1 : Int32)).toNatClampNeg)) (q + 23) (B + i) (fx_i (fx_wi k (q + 22) (B + i) (fx_i k (q + 22) ((nI (B + i)) + (1 : Int32)).toNatClampNeg)) (q + 23) ((nI (B + i)) + (1 : Int32)).toNatClampNeg)) (q + 24) (B + i) (fx_i (fx_wi (fx_wi k (q + 22) (B + i) (fx_i k (q + 22) ((nI (B + i)) + (1 : Int32)).toNatClampNeg)) (q + 23) (B + i) (fx_i (fx_wi k (q + 22) (B + i) (fx_i k (q + 22) ((nI (B + i)) + (1 : Int32)).toNatClampNeg)) (q + 23) ((nI (B + i)) + (1 : Int32)).toNatClampNeg)) (q + 24) ((nI (B + i)) + (1 : Int32)).toNatClampNeg)) := fx_sm_t (h' := (fx_wi (fx_wi k (q + 22) (B + i) (fx_i k (q + 22) ((nI (B + i)) + (1 : Int32)).toNatClampNeg)) (q + 23) (B + i) (fx_i (fx_wi k (q + 22) (B + i) (fx_i k (q + 22) ((nI (B + i)) + (1 : Int32)).toNatClampNeg)) (q + 23) ((nI (B + i)) + (1 : Int32)).toNatClampNeg))) e285w (sm_wi _ _ _ _)
          refine fx_aload_n 3 dq_MO_join_302 rfl rfl ?_
          refine fx_getr ok fq_MO_87 ((fx_sm_s e301w _).trans hm.1) dq_MO_join_303 (by decide) ((fx_sm_r e301w _ _).trans (mo_mh hm).1) ?_
          refine fx_iload 0 dq_MO_join_306 rfl ?_
          refine fx_aload_n 3 dq_MO_join_308 rfl rfl ?_
          refine fx_getr ok fq_MO_87 ((fx_sm_s e301w _).trans hm.1) dq_MO_join_309 (by decide) ((fx_sm_r e301w _ _).trans (mo_mh hm).1) ?_
          refine fx_iload 0 dq_MO_join_312 rfl ?_
          refine fx_iconst (v := 1) dq_MO_join_314 (by decide) ?_
          refine fx_iadd dq_MO_join_315 ?_
          refine fx_iaload ok ((fx_sm_s e301w _).trans (mo_mh hm).2) (by rw [← nI_succ]; exact vp_in_nI (by omega) (by decide)) dq_MO_join_316 ?_
          refine fx_isN ok ((fx_sm_s e301w _).trans (mo_mh hm).2) ⟨by omega, by decide⟩ dq_MO_join_317 ?_
          have e317w : fx_sm h (fx_wi (fx_wi (fx_wi (fx_wi k (q + 22) (B + i) (fx_i k (q + 22) ((nI (B + i)) + (1 : Int32)).toNatClampNeg)) (q + 23) (B + i) (fx_i (fx_wi k (q + 22) (B + i) (fx_i k (q + 22) ((nI (B + i)) + (1 : Int32)).toNatClampNeg)) (q + 23) ((nI (B + i)) + (1 : Int32)).toNatClampNeg)) (q + 24) (B + i) (fx_i (fx_wi (fx_wi k (q + 22) (B + i) (fx_i k (q + 22) ((nI (B + i)) + (1 : Int32)).toNatClampNeg)) (q + 23) (B + i) (fx_i (fx_wi k (q + 22) (B + i) (fx_i k (q + 22) ((nI (B + i)) + (1 : Int32)).toNatClampNeg)) (q + 23) ((nI (B + i)) + (1 : Int32)).toNatClampNeg)) (q + 24) ((nI (B + i)) + (1 : Int32)).toNatClampNeg)) (q + 25) (B + i) (fx_i (fx_wi (fx_wi (fx_wi k (q + 22) (B + i) (fx_i k (q + 22) ((nI (B + i)) + (1 : Int32)).toNatClampNeg)) (q + 23) (B + i) (fx_i (fx_wi k (q + 22) (B + i) (fx_i k (q + 22) ((nI (B + i)) + (1 : Int32)).toNatClampNeg)) (q + 23) ((nI (B + i)) + (1 : Int32)).toNatClampNeg)) (q + 24) (B + i) (fx_i (fx_wi (fx_wi k (q + 22) (B + i) (fx_i k (q + 22) ((nI (B + i)) + (1 : Int32)).toNatClampNeg)) (q + 23) (B + i) (fx_i (fx_wi k (q + 22) (B + i) (fx_i k (q + 22) ((nI (B + i)) + (1 : Int32)).toNatClampNeg)) (q + 23) ((nI (B + i)) + (1 : Int32)).toNatClampNeg)) (q + 24) ((nI (B + i)) + (1 : Int32)).toNatClampNeg)) (q + 25) ((nI (B + i)) + (1 : Int32)).toNatClampNeg)) := fx_sm_t (h' := (fx_wi (fx_wi (fx_wi k (q + 22) (B + i) (fx_i k (q + 22) ((nI (B + i)) + (1 : Int32)).toNatClampNeg)) (q + 23) (B + i) (fx_i (fx_wi k (q + 22) (B + i) (fx_i k (q + 22) ((nI (B + i)) + (1 : Int32)).toNatClampNeg)) (q + 23) ((nI (B + i)) + (1 : Int32)).toNatClampNeg)) (q + 24) (B + i) (fx_i (fx_wi (fx_wi k (q + 22) (B + i) (fx_i k (q + 22) ((nI (B + i)) + (1 : Int32)).toNatClampNeg)) (q + 23) (B + i) (fx_i (fx_wi k (q + 22) (B + i) (fx_i k (q + 22) ((nI (B + i)) + (1 : Int32)).toNatClampNeg)) (q + 23) ((nI (B + i)) + (1 : Int32)).toNatClampNeg)) (q + 24) ((nI (B + i)) + (1 : Int32)).toNatClampNeg))) e301w (sm_wi _ _ _ _)
          refine fx_iinc 0 dq_MO_join_318 rfl (jz_i _) (by decide) rfl ?_
          refine fx_goto (tgt := 242) dq_MO_join_321 (by decide) ?_
          refine fx_sub [0, 1, 2, 3, 4] rfl ?_
          exact hK242
        · have e242x : fx_sm h (it (b_MO_join q B) (fx_wi (fx_wi (fx_wi (fx_wi (fx_wi h (q + 22) A (fx_i h (q + 22) B)) (q + 23) A (fx_i (fx_wi h (q + 22) A (fx_i h (q + 22) B)) (q + 23) A)) (q + 24) A (v_MO_hullWide h q (nI A) (nI B))) (q + 25) A (v_MO_hullHigh h q (nI A) (nI B))) (q + 21) m (6 : Int32)) (7 * m + 6 - B)) := fx_sm_t (h' := (fx_wi (fx_wi (fx_wi (fx_wi (fx_wi h (q + 22) A (fx_i h (q + 22) B)) (q + 23) A (fx_i (fx_wi h (q + 22) A (fx_i h (q + 22) B)) (q + 23) A)) (q + 24) A (v_MO_hullWide h q (nI A) (nI B))) (q + 25) A (v_MO_hullHigh h q (nI A) (nI B))) (q + 21) m (6 : Int32))) (rfl : fx_sm h (fx_wi (fx_wi (fx_wi (fx_wi (fx_wi h (q + 22) A (fx_i h (q + 22) B)) (q + 23) A (fx_i (fx_wi h (q + 22) A (fx_i h (q + 22) B)) (q + 23) A)) (q + 24) A (v_MO_hullWide h q (nI A) (nI B))) (q + 25) A (v_MO_hullHigh h q (nI A) (nI B))) (q + 21) m (6 : Int32))) (fx_sm_it (by intro _ _; unfold b_MO_join; rfl) (fx_wi (fx_wi (fx_wi (fx_wi (fx_wi h (q + 22) A (fx_i h (q + 22) B)) (q + 23) A (fx_i (fx_wi h (q + 22) A (fx_i h (q + 22) B)) (q + 23) A)) (q + 24) A (v_MO_hullWide h q (nI A) (nI B))) (q + 25) A (v_MO_hullHigh h q (nI A) (nI B))) (q + 21) m (6 : Int32)) (7 * m + 6 - B))
          refine fx_iload 0 dq_MO_join_242 rfl ?_
          refine fx_bipush (v := 7) dq_MO_join_244 (by decide) ?_
          refine fx_iload_n 4 dq_MO_join_246 rfl rfl ?_
          refine fx_imul dq_MO_join_247 ?_
          refine fx_bipush (v := 6) dq_MO_join_248 (by decide) ?_
          refine fx_iadd dq_MO_join_250 ?_
          refine fx_icmp_ge (tgt := 324) dq_MO_join_251 (by decide) (fun hc251 => ?_) (fun hc251 => absurd (by rw [j76 hm2]; exact nI_le (by omega) (by omega)) hc251)
          exact fx_vreturn rfl dq_MO_join_324 ⟨rfl, by rw [k_MO_joinA, if_pos hc160, if_neg hc196]⟩
    · -- 160: fall
      refine fx_aload_n 4 dq_MO_join_163 rfl rfl ?_
      refine fx_getr ok fq_MO_78 hm.1 dq_MO_join_164 (by decide) (mo_mx hm).1 ?_
      refine fx_iload_n 3 dq_MO_join_167 rfl rfl ?_
      refine fx_iaN ok (mo_mx hm).2 ⟨hJ.1, by decide⟩ dq_MO_join_168 ?_
      refine fx_goto (tgt := 178) dq_MO_join_169 (by decide) ?_
      refine fx_isN ok (mo_mx hm).2 ⟨hJ.1, by decide⟩ dq_MO_join_178 ?_
      refine fx_aload_n 4 dq_MO_join_179 rfl rfl ?_
      refine fx_getr ok fq_MO_81 hm.1 dq_MO_join_180 (by decide) (mo_my hm).1 ?_
      refine fx_iload_n 3 dq_MO_join_183 rfl rfl ?_
      refine fx_aload_n 4 dq_MO_join_184 rfl rfl ?_
      refine fx_getr ok fq_MO_81 hm.1 dq_MO_join_185 (by decide) (mo_my hm).1 ?_
      refine fx_iload_n 3 dq_MO_join_188 rfl rfl ?_
      refine fx_iaN ok (mo_my hm).2 ⟨hJ.1, by decide⟩ dq_MO_join_189 ?_
      refine fx_aload_n 4 dq_MO_join_190 rfl rfl ?_
      refine fx_getr ok fq_MO_81 hm.1 dq_MO_join_191 (by decide) (mo_my hm).1 ?_
      refine fx_iload_n 2 dq_MO_join_194 rfl rfl ?_
      refine fx_iaN ok (mo_my hm).2 ⟨hJ.2, by decide⟩ dq_MO_join_195 ?_
      refine fx_icmp_ge (tgt := 208) dq_MO_join_196 (by decide) (fun hc196 => ?_) (fun hc196 => ?_)
      · -- 196: jump
        refine fx_aload_n 4 dq_MO_join_208 rfl rfl ?_
        refine fx_getr ok fq_MO_81 hm.1 dq_MO_join_209 (by decide) (mo_my hm).1 ?_
        refine fx_iload_n 2 dq_MO_join_212 rfl rfl ?_
        refine fx_iaN ok (mo_my hm).2 ⟨hJ.2, by decide⟩ dq_MO_join_213 ?_
        refine fx_isN ok (mo_my hm).2 ⟨hJ.1, by decide⟩ dq_MO_join_214 ?_
        refine fx_aload_n 4 dq_MO_join_215 rfl rfl ?_
        refine fx_getr ok fq_MO_84 hm.1 dq_MO_join_216 (by decide) (mo_mw hm).1 ?_
        refine fx_iload_n 3 dq_MO_join_219 rfl rfl ?_
        refine fx_iload 1 dq_MO_join_220 rfl ?_
        refine fx_isN ok (mo_mw hm).2 ⟨hJ.1, by decide⟩ dq_MO_join_222 ?_
        refine fx_aload_n 4 dq_MO_join_223 rfl rfl ?_
        refine fx_getr ok fq_MO_87 hm.1 dq_MO_join_224 (by decide) (mo_mh hm).1 ?_
        refine fx_iload_n 3 dq_MO_join_227 rfl rfl ?_
        refine fx_iload 0 dq_MO_join_228 rfl ?_
        refine fx_isN ok (mo_mh hm).2 ⟨hJ.1, by decide⟩ dq_MO_join_230 ?_
        refine fx_aload_n 4 dq_MO_join_231 rfl rfl ?_
        refine fx_getr ok fq_MO_75 hm.1 dq_MO_join_232 (by decide) (mo_misses hm).1 ?_
        refine fx_iload_n 5 dq_MO_join_235 rfl rfl ?_
        refine fx_bipush (v := 6) dq_MO_join_236 (by decide) ?_
        refine fx_isN ok (mo_misses hm).2 ⟨hm2, by decide⟩ dq_MO_join_238 ?_
        refine fx_iload_n 2 dq_MO_join_239 rfl rfl ?_
        refine fx_istore dq_MO_join_240 (by decide) rfl ?_
        refine fx_sub [0, 3, 4, 5, 6] rfl ?_
        refine fx_for (fun i => [(7, .int (nI (B + i))), (3, .int (nI B)), (2, .int (nI A)), (0, .ref q), (1, .int (nI m))]) (b_MO_join q B) (fx_wi (fx_wi (fx_wi (fx_wi (fx_wi h (q + 22) A (fx_i h (q + 22) A)) (q + 23) A (fx_i (fx_wi h (q + 22) A (fx_i h (q + 22) A)) (q + 23) B)) (q + 24) A (v_MO_hullWide h q (nI A) (nI B))) (q + 25) A (v_MO_hullHigh h q (nI A) (nI B))) (q + 21) m (6 : Int32)) (7 * m + 6 - B) (fun i hi hK242 => ?_) ?_
        · have e242b : fx_sm h (it (b_MO_join q B) (fx_wi (fx_wi (fx_wi (fx_wi (fx_wi h (q + 22) A (fx_i h (q + 22) A)) (q + 23) A (fx_i (fx_wi h (q + 22) A (fx_i h (q + 22) A)) (q + 23) B)) (q + 24) A (v_MO_hullWide h q (nI A) (nI B))) (q + 25) A (v_MO_hullHigh h q (nI A) (nI B))) (q + 21) m (6 : Int32)) i) := fx_sm_t (h' := (fx_wi (fx_wi (fx_wi (fx_wi (fx_wi h (q + 22) A (fx_i h (q + 22) A)) (q + 23) A (fx_i (fx_wi h (q + 22) A (fx_i h (q + 22) A)) (q + 23) B)) (q + 24) A (v_MO_hullWide h q (nI A) (nI B))) (q + 25) A (v_MO_hullHigh h q (nI A) (nI B))) (q + 21) m (6 : Int32))) (rfl : fx_sm h (fx_wi (fx_wi (fx_wi (fx_wi (fx_wi h (q + 22) A (fx_i h (q + 22) A)) (q + 23) A (fx_i (fx_wi h (q + 22) A (fx_i h (q + 22) A)) (q + 23) B)) (q + 24) A (v_MO_hullWide h q (nI A) (nI B))) (q + 25) A (v_MO_hullHigh h q (nI A) (nI B))) (q + 21) m (6 : Int32))) (fx_sm_it (by intro _ _; unfold b_MO_join; rfl) (fx_wi (fx_wi (fx_wi (fx_wi (fx_wi h (q + 22) A (fx_i h (q + 22) A)) (q + 23) A (fx_i (fx_wi h (q + 22) A (fx_i h (q + 22) A)) (q + 23) B)) (q + 24) A (v_MO_hullWide h q (nI A) (nI B))) (q + 25) A (v_MO_hullHigh h q (nI A) (nI B))) (q + 21) m (6 : Int32)) i)
          generalize it (b_MO_join q B) (fx_wi (fx_wi (fx_wi (fx_wi (fx_wi h (q + 22) A (fx_i h (q + 22) A)) (q + 23) A (fx_i (fx_wi h (q + 22) A (fx_i h (q + 22) A)) (q + 23) B)) (q + 24) A (v_MO_hullWide h q (nI A) (nI B))) (q + 25) A (v_MO_hullHigh h q (nI A) (nI B))) (q + 21) m (6 : Int32)) i = k at e242b hK242  ⊢
          refine fx_iload 0 dq_MO_join_242 rfl ?_
          refine fx_bipush (v := 7) dq_MO_join_244 (by decide) ?_
          refine fx_iload_n 4 dq_MO_join_246 rfl rfl ?_
          refine fx_imul dq_MO_join_247 ?_
          refine fx_bipush (v := 6) dq_MO_join_248 (by decide) ?_
          refine fx_iadd dq_MO_join_250 ?_
          refine fx_icmp_ge (tgt := 324) dq_MO_join_251 (by decide) (fun hc251 => absurd hc251 (by rw [j76 hm2]; exact nI_ge (by omega) (by omega))) (fun hc251 => ?_)
          refine fx_aload_n 3 dq_MO_join_254 rfl rfl ?_
          refine fx_getr ok fq_MO_78 ((fx_sm_s e242b _).trans hm.1) dq_MO_join_255 (by decide) ((fx_sm_r e242b _ _).trans (mo_mx hm).1) ?_
          refine fx_iload 0 dq_MO_join_258 rfl ?_
          refine fx_aload_n 3 dq_MO_join_260 rfl rfl ?_
          refine fx_getr ok fq_MO_78 ((fx_sm_s e242b _).trans hm.1) dq_MO_join_261 (by decide) ((fx_sm_r e242b _ _).trans (mo_mx hm).1) ?_
          refine fx_iload 0 dq_MO_join_264 rfl ?_
          refine fx_iconst (v := 1) dq_MO_join_266 (by decide) ?_
          refine fx_iadd dq_MO_join_267 ?_
          refine fx_iaload ok ((fx_sm_s e242b _).trans (mo_mx hm).2) (by rw [← nI_succ]; exact vp_in_nI (by omega) (by decide)) dq_MO_join_268 ?_
          refine fx_isN ok ((fx_sm_s e242b _).trans (mo_mx hm).2) ⟨by omega, by decide⟩ dq_MO_join_269 ?_
          have e269w : fx_sm h (fx_wi k (q + 22) (B + i) (fx_i k (q + 22) ((nI (B + i)) + (1 : Int32)).toNatClampNeg)) := fx_sm_t (h' := k) e242b (sm_wi _ _ _ _)
          refine fx_aload_n 3 dq_MO_join_270 rfl rfl ?_
          refine fx_getr ok fq_MO_81 ((fx_sm_s e269w _).trans hm.1) dq_MO_join_271 (by decide) ((fx_sm_r e269w _ _).trans (mo_my hm).1) ?_
          refine fx_iload 0 dq_MO_join_274 rfl ?_
          refine fx_aload_n 3 dq_MO_join_276 rfl rfl ?_
          refine fx_getr ok fq_MO_81 ((fx_sm_s e269w _).trans hm.1) dq_MO_join_277 (by decide) ((fx_sm_r e269w _ _).trans (mo_my hm).1) ?_
          refine fx_iload 0 dq_MO_join_280 rfl ?_
          refine fx_iconst (v := 1) dq_MO_join_282 (by decide) ?_
          refine fx_iadd dq_MO_join_283 ?_
          refine fx_iaload ok ((fx_sm_s e269w _).trans (mo_my hm).2) (by rw [← nI_succ]; exact vp_in_nI (by omega) (by decide)) dq_MO_join_284 ?_
          refine fx_isN ok ((fx_sm_s e269w _).trans (mo_my hm).2) ⟨by omega, by decide⟩ dq_MO_join_285 ?_
          have e285w : fx_sm h (fx_wi (fx_wi k (q + 22) (B + i) (fx_i k (q + 22) ((nI (B + i)) + (1 : Int32)).toNatClampNeg)) (q + 23) (B + i) (fx_i (fx_wi k (q + 22) (B + i) (fx_i k (q + 22) ((nI (B + i)) + (1 : Int32)).toNatClampNeg)) (q + 23) ((nI (B + i)) + (1 : Int32)).toNatClampNeg)) := fx_sm_t (h' := (fx_wi k (q + 22) (B + i) (fx_i k (q + 22) ((nI (B + i)) + (1 : Int32)).toNatClampNeg))) e269w (sm_wi _ _ _ _)
          refine fx_aload_n 3 dq_MO_join_286 rfl rfl ?_
          refine fx_getr ok fq_MO_84 ((fx_sm_s e285w _).trans hm.1) dq_MO_join_287 (by decide) ((fx_sm_r e285w _ _).trans (mo_mw hm).1) ?_
          refine fx_iload 0 dq_MO_join_290 rfl ?_
          refine fx_aload_n 3 dq_MO_join_292 rfl rfl ?_
          refine fx_getr ok fq_MO_84 ((fx_sm_s e285w _).trans hm.1) dq_MO_join_293 (by decide) ((fx_sm_r e285w _ _).trans (mo_mw hm).1) ?_
          refine fx_iload 0 dq_MO_join_296 rfl ?_
          refine fx_iconst (v := 1) dq_MO_join_298 (by decide) ?_
          refine fx_iadd dq_MO_join_299 ?_
          refine fx_iaload ok ((fx_sm_s e285w _).trans (mo_mw hm).2) (by rw [← nI_succ]; exact vp_in_nI (by omega) (by decide)) dq_MO_join_300 ?_
          refine fx_isN ok ((fx_sm_s e285w _).trans (mo_mw hm).2) ⟨by omega, by decide⟩ dq_MO_join_301 ?_
          have e301w : fx_sm h (fx_wi (fx_wi (fx_wi k (q + 22) (B + i) (fx_i k (q + 22) ((nI (B + i)) + (1 : Int32)).toNatClampNeg)) (q + 23) (B + i) (fx_i (fx_wi k (q + 22) (B + i) (fx_i k (q + 22) ((nI (B + i)) + (1 : Int32)).toNatClampNeg)) (q + 23) ((nI (B + i)) + (1 : Int32)).toNatClampNeg)) (q + 24) (B + i) (fx_i (fx_wi (fx_wi k (q + 22) (B + i) (fx_i k (q + 22) ((nI (B + i)) + (1 : Int32)).toNatClampNeg)) (q + 23) (B + i) (fx_i (fx_wi k (q + 22) (B + i) (fx_i k (q + 22) ((nI (B + i)) + (1 : Int32)).toNatClampNeg)) (q + 23) ((nI (B + i)) + (1 : Int32)).toNatClampNeg)) (q + 24) ((nI (B + i)) + (1 : Int32)).toNatClampNeg)) := fx_sm_t (h' := (fx_wi (fx_wi k (q + 22) (B + i) (fx_i k (q + 22) ((nI (B + i)) + (1 : Int32)).toNatClampNeg)) (q + 23) (B + i) (fx_i (fx_wi k (q + 22) (B + i) (fx_i k (q + 22) ((nI (B + i)) + (1 : Int32)).toNatClampNeg)) (q + 23) ((nI (B + i)) + (1 : Int32)).toNatClampNeg))) e285w (sm_wi _ _ _ _)
          refine fx_aload_n 3 dq_MO_join_302 rfl rfl ?_
          refine fx_getr ok fq_MO_87 ((fx_sm_s e301w _).trans hm.1) dq_MO_join_303 (by decide) ((fx_sm_r e301w _ _).trans (mo_mh hm).1) ?_
          refine fx_iload 0 dq_MO_join_306 rfl ?_
          refine fx_aload_n 3 dq_MO_join_308 rfl rfl ?_
          refine fx_getr ok fq_MO_87 ((fx_sm_s e301w _).trans hm.1) dq_MO_join_309 (by decide) ((fx_sm_r e301w _ _).trans (mo_mh hm).1) ?_
          refine fx_iload 0 dq_MO_join_312 rfl ?_
          refine fx_iconst (v := 1) dq_MO_join_314 (by decide) ?_
          refine fx_iadd dq_MO_join_315 ?_
          refine fx_iaload ok ((fx_sm_s e301w _).trans (mo_mh hm).2) (by rw [← nI_succ]; exact vp_in_nI (by omega) (by decide)) dq_MO_join_316 ?_
          refine fx_isN ok ((fx_sm_s e301w _).trans (mo_mh hm).2) ⟨by omega, by decide⟩ dq_MO_join_317 ?_
          have e317w : fx_sm h (fx_wi (fx_wi (fx_wi (fx_wi k (q + 22) (B + i) (fx_i k (q + 22) ((nI (B + i)) + (1 : Int32)).toNatClampNeg)) (q + 23) (B + i) (fx_i (fx_wi k (q + 22) (B + i) (fx_i k (q + 22) ((nI (B + i)) + (1 : Int32)).toNatClampNeg)) (q + 23) ((nI (B + i)) + (1 : Int32)).toNatClampNeg)) (q + 24) (B + i) (fx_i (fx_wi (fx_wi k (q + 22) (B + i) (fx_i k (q + 22) ((nI (B + i)) + (1 : Int32)).toNatClampNeg)) (q + 23) (B + i) (fx_i (fx_wi k (q + 22) (B + i) (fx_i k (q + 22) ((nI (B + i)) + (1 : Int32)).toNatClampNeg)) (q + 23) ((nI (B + i)) + (1 : Int32)).toNatClampNeg)) (q + 24) ((nI (B + i)) + (1 : Int32)).toNatClampNeg)) (q + 25) (B + i) (fx_i (fx_wi (fx_wi (fx_wi k (q + 22) (B + i) (fx_i k (q + 22) ((nI (B + i)) + (1 : Int32)).toNatClampNeg)) (q + 23) (B + i) (fx_i (fx_wi k (q + 22) (B + i) (fx_i k (q + 22) ((nI (B + i)) + (1 : Int32)).toNatClampNeg)) (q + 23) ((nI (B + i)) + (1 : Int32)).toNatClampNeg)) (q + 24) (B + i) (fx_i (fx_wi (fx_wi k (q + 22) (B + i) (fx_i k (q + 22) ((nI (B + i)) + (1 : Int32)).toNatClampNeg)) (q + 23) (B + i) (fx_i (fx_wi k (q + 22) (B + i) (fx_i k (q + 22) ((nI (B + i)) + (1 : Int32)).toNatClampNeg)) (q + 23) ((nI (B + i)) + (1 : Int32)).toNatClampNeg)) (q + 24) ((nI (B + i)) + (1 : Int32)).toNatClampNeg)) (q + 25) ((nI (B + i)) + (1 : Int32)).toNatClampNeg)) := fx_sm_t (h' := (fx_wi (fx_wi (fx_wi k (q + 22) (B + i) (fx_i k (q + 22) ((nI (B + i)) + (1 : Int32)).toNatClampNeg)) (q + 23) (B + i) (fx_i (fx_wi k (q + 22) (B + i) (fx_i k (q + 22) ((nI (B + i)) + (1 : Int32)).toNatClampNeg)) (q + 23) ((nI (B + i)) + (1 : Int32)).toNatClampNeg)) (q + 24) (B + i) (fx_i (fx_wi (fx_wi k (q + 22) (B + i) (fx_i k (q + 22) ((nI (B + i)) + (1 : Int32)).toNatClampNeg)) (q + 23) (B + i) (fx_i (fx_wi k (q + 22) (B + i) (fx_i k (q + 22) ((nI (B + i)) + (1 : Int32)).toNatClampNeg)) (q + 23) ((nI (B + i)) + (1 : Int32)).toNatClampNeg)) (q + 24) ((nI (B + i)) + (1 : Int32)).toNatClampNeg))) e301w (sm_wi _ _ _ _)
          refine fx_iinc 0 dq_MO_join_318 rfl (jz_i _) (by decide) rfl ?_
          refine fx_goto (tgt := 242) dq_MO_join_321 (by decide) ?_
          refine fx_sub [0, 1, 2, 3, 4] rfl ?_
          exact hK242
        · have e242x : fx_sm h (it (b_MO_join q B) (fx_wi (fx_wi (fx_wi (fx_wi (fx_wi h (q + 22) A (fx_i h (q + 22) A)) (q + 23) A (fx_i (fx_wi h (q + 22) A (fx_i h (q + 22) A)) (q + 23) B)) (q + 24) A (v_MO_hullWide h q (nI A) (nI B))) (q + 25) A (v_MO_hullHigh h q (nI A) (nI B))) (q + 21) m (6 : Int32)) (7 * m + 6 - B)) := fx_sm_t (h' := (fx_wi (fx_wi (fx_wi (fx_wi (fx_wi h (q + 22) A (fx_i h (q + 22) A)) (q + 23) A (fx_i (fx_wi h (q + 22) A (fx_i h (q + 22) A)) (q + 23) B)) (q + 24) A (v_MO_hullWide h q (nI A) (nI B))) (q + 25) A (v_MO_hullHigh h q (nI A) (nI B))) (q + 21) m (6 : Int32))) (rfl : fx_sm h (fx_wi (fx_wi (fx_wi (fx_wi (fx_wi h (q + 22) A (fx_i h (q + 22) A)) (q + 23) A (fx_i (fx_wi h (q + 22) A (fx_i h (q + 22) A)) (q + 23) B)) (q + 24) A (v_MO_hullWide h q (nI A) (nI B))) (q + 25) A (v_MO_hullHigh h q (nI A) (nI B))) (q + 21) m (6 : Int32))) (fx_sm_it (by intro _ _; unfold b_MO_join; rfl) (fx_wi (fx_wi (fx_wi (fx_wi (fx_wi h (q + 22) A (fx_i h (q + 22) A)) (q + 23) A (fx_i (fx_wi h (q + 22) A (fx_i h (q + 22) A)) (q + 23) B)) (q + 24) A (v_MO_hullWide h q (nI A) (nI B))) (q + 25) A (v_MO_hullHigh h q (nI A) (nI B))) (q + 21) m (6 : Int32)) (7 * m + 6 - B))
          refine fx_iload 0 dq_MO_join_242 rfl ?_
          refine fx_bipush (v := 7) dq_MO_join_244 (by decide) ?_
          refine fx_iload_n 4 dq_MO_join_246 rfl rfl ?_
          refine fx_imul dq_MO_join_247 ?_
          refine fx_bipush (v := 6) dq_MO_join_248 (by decide) ?_
          refine fx_iadd dq_MO_join_250 ?_
          refine fx_icmp_ge (tgt := 324) dq_MO_join_251 (by decide) (fun hc251 => ?_) (fun hc251 => absurd (by rw [j76 hm2]; exact nI_le (by omega) (by omega)) hc251)
          exact fx_vreturn rfl dq_MO_join_324 ⟨rfl, by rw [k_MO_joinA, if_neg hc160, if_pos hc196]⟩
      · -- 196: fall
        refine fx_aload_n 4 dq_MO_join_199 rfl rfl ?_
        refine fx_getr ok fq_MO_81 hm.1 dq_MO_join_200 (by decide) (mo_my hm).1 ?_
        refine fx_iload_n 3 dq_MO_join_203 rfl rfl ?_
        refine fx_iaN ok (mo_my hm).2 ⟨hJ.1, by decide⟩ dq_MO_join_204 ?_
        refine fx_goto (tgt := 214) dq_MO_join_205 (by decide) ?_
        refine fx_isN ok (mo_my hm).2 ⟨hJ.1, by decide⟩ dq_MO_join_214 ?_
        refine fx_aload_n 4 dq_MO_join_215 rfl rfl ?_
        refine fx_getr ok fq_MO_84 hm.1 dq_MO_join_216 (by decide) (mo_mw hm).1 ?_
        refine fx_iload_n 3 dq_MO_join_219 rfl rfl ?_
        refine fx_iload 1 dq_MO_join_220 rfl ?_
        refine fx_isN ok (mo_mw hm).2 ⟨hJ.1, by decide⟩ dq_MO_join_222 ?_
        refine fx_aload_n 4 dq_MO_join_223 rfl rfl ?_
        refine fx_getr ok fq_MO_87 hm.1 dq_MO_join_224 (by decide) (mo_mh hm).1 ?_
        refine fx_iload_n 3 dq_MO_join_227 rfl rfl ?_
        refine fx_iload 0 dq_MO_join_228 rfl ?_
        refine fx_isN ok (mo_mh hm).2 ⟨hJ.1, by decide⟩ dq_MO_join_230 ?_
        refine fx_aload_n 4 dq_MO_join_231 rfl rfl ?_
        refine fx_getr ok fq_MO_75 hm.1 dq_MO_join_232 (by decide) (mo_misses hm).1 ?_
        refine fx_iload_n 5 dq_MO_join_235 rfl rfl ?_
        refine fx_bipush (v := 6) dq_MO_join_236 (by decide) ?_
        refine fx_isN ok (mo_misses hm).2 ⟨hm2, by decide⟩ dq_MO_join_238 ?_
        refine fx_iload_n 2 dq_MO_join_239 rfl rfl ?_
        refine fx_istore dq_MO_join_240 (by decide) rfl ?_
        refine fx_sub [0, 3, 4, 5, 6] rfl ?_
        refine fx_for (fun i => [(7, .int (nI (B + i))), (3, .int (nI B)), (2, .int (nI A)), (0, .ref q), (1, .int (nI m))]) (b_MO_join q B) (fx_wi (fx_wi (fx_wi (fx_wi (fx_wi h (q + 22) A (fx_i h (q + 22) A)) (q + 23) A (fx_i (fx_wi h (q + 22) A (fx_i h (q + 22) A)) (q + 23) A)) (q + 24) A (v_MO_hullWide h q (nI A) (nI B))) (q + 25) A (v_MO_hullHigh h q (nI A) (nI B))) (q + 21) m (6 : Int32)) (7 * m + 6 - B) (fun i hi hK242 => ?_) ?_
        · have e242b : fx_sm h (it (b_MO_join q B) (fx_wi (fx_wi (fx_wi (fx_wi (fx_wi h (q + 22) A (fx_i h (q + 22) A)) (q + 23) A (fx_i (fx_wi h (q + 22) A (fx_i h (q + 22) A)) (q + 23) A)) (q + 24) A (v_MO_hullWide h q (nI A) (nI B))) (q + 25) A (v_MO_hullHigh h q (nI A) (nI B))) (q + 21) m (6 : Int32)) i) := fx_sm_t (h' := (fx_wi (fx_wi (fx_wi (fx_wi (fx_wi h (q + 22) A (fx_i h (q + 22) A)) (q + 23) A (fx_i (fx_wi h (q + 22) A (fx_i h (q + 22) A)) (q + 23) A)) (q + 24) A (v_MO_hullWide h q (nI A) (nI B))) (q + 25) A (v_MO_hullHigh h q (nI A) (nI B))) (q + 21) m (6 : Int32))) (rfl : fx_sm h (fx_wi (fx_wi (fx_wi (fx_wi (fx_wi h (q + 22) A (fx_i h (q + 22) A)) (q + 23) A (fx_i (fx_wi h (q + 22) A (fx_i h (q + 22) A)) (q + 23) A)) (q + 24) A (v_MO_hullWide h q (nI A) (nI B))) (q + 25) A (v_MO_hullHigh h q (nI A) (nI B))) (q + 21) m (6 : Int32))) (fx_sm_it (by intro _ _; unfold b_MO_join; rfl) (fx_wi (fx_wi (fx_wi (fx_wi (fx_wi h (q + 22) A (fx_i h (q + 22) A)) (q + 23) A (fx_i (fx_wi h (q + 22) A (fx_i h (q + 22) A)) (q + 23) A)) (q + 24) A (v_MO_hullWide h q (nI A) (nI B))) (q + 25) A (v_MO_hullHigh h q (nI A) (nI B))) (q + 21) m (6 : Int32)) i)
          generalize it (b_MO_join q B) (fx_wi (fx_wi (fx_wi (fx_wi (fx_wi h (q + 22) A (fx_i h (q + 22) A)) (q + 23) A (fx_i (fx_wi h (q + 22) A (fx_i h (q + 22) A)) (q + 23) A)) (q + 24) A (v_MO_hullWide h q (nI A) (nI B))) (q + 25) A (v_MO_hullHigh h q (nI A) (nI B))) (q + 21) m (6 : Int32)) i = k at e242b hK242  ⊢
          refine fx_iload 0 dq_MO_join_242 rfl ?_
          refine fx_bipush (v := 7) dq_MO_join_244 (by decide) ?_
          refine fx_iload_n 4 dq_MO_join_246 rfl rfl ?_
          refine fx_imul dq_MO_join_247 ?_
          refine fx_bipush (v := 6) dq_MO_join_248 (by decide) ?_
          refine fx_iadd dq_MO_join_250 ?_
          refine fx_icmp_ge (tgt := 324) dq_MO_join_251 (by decide) (fun hc251 => absurd hc251 (by rw [j76 hm2]; exact nI_ge (by omega) (by omega))) (fun hc251 => ?_)
          refine fx_aload_n 3 dq_MO_join_254 rfl rfl ?_
          refine fx_getr ok fq_MO_78 ((fx_sm_s e242b _).trans hm.1) dq_MO_join_255 (by decide) ((fx_sm_r e242b _ _).trans (mo_mx hm).1) ?_
          refine fx_iload 0 dq_MO_join_258 rfl ?_
          refine fx_aload_n 3 dq_MO_join_260 rfl rfl ?_
          refine fx_getr ok fq_MO_78 ((fx_sm_s e242b _).trans hm.1) dq_MO_join_261 (by decide) ((fx_sm_r e242b _ _).trans (mo_mx hm).1) ?_
          refine fx_iload 0 dq_MO_join_264 rfl ?_
          refine fx_iconst (v := 1) dq_MO_join_266 (by decide) ?_
          refine fx_iadd dq_MO_join_267 ?_
          refine fx_iaload ok ((fx_sm_s e242b _).trans (mo_mx hm).2) (by rw [← nI_succ]; exact vp_in_nI (by omega) (by decide)) dq_MO_join_268 ?_
          refine fx_isN ok ((fx_sm_s e242b _).trans (mo_mx hm).2) ⟨by omega, by decide⟩ dq_MO_join_269 ?_
          have e269w : fx_sm h (fx_wi k (q + 22) (B + i) (fx_i k (q + 22) ((nI (B + i)) + (1 : Int32)).toNatClampNeg)) := fx_sm_t (h' := k) e242b (sm_wi _ _ _ _)
          refine fx_aload_n 3 dq_MO_join_270 rfl rfl ?_
          refine fx_getr ok fq_MO_81 ((fx_sm_s e269w _).trans hm.1) dq_MO_join_271 (by decide) ((fx_sm_r e269w _ _).trans (mo_my hm).1) ?_
          refine fx_iload 0 dq_MO_join_274 rfl ?_
          refine fx_aload_n 3 dq_MO_join_276 rfl rfl ?_
          refine fx_getr ok fq_MO_81 ((fx_sm_s e269w _).trans hm.1) dq_MO_join_277 (by decide) ((fx_sm_r e269w _ _).trans (mo_my hm).1) ?_
          refine fx_iload 0 dq_MO_join_280 rfl ?_
          refine fx_iconst (v := 1) dq_MO_join_282 (by decide) ?_
          refine fx_iadd dq_MO_join_283 ?_
          refine fx_iaload ok ((fx_sm_s e269w _).trans (mo_my hm).2) (by rw [← nI_succ]; exact vp_in_nI (by omega) (by decide)) dq_MO_join_284 ?_
          refine fx_isN ok ((fx_sm_s e269w _).trans (mo_my hm).2) ⟨by omega, by decide⟩ dq_MO_join_285 ?_
          have e285w : fx_sm h (fx_wi (fx_wi k (q + 22) (B + i) (fx_i k (q + 22) ((nI (B + i)) + (1 : Int32)).toNatClampNeg)) (q + 23) (B + i) (fx_i (fx_wi k (q + 22) (B + i) (fx_i k (q + 22) ((nI (B + i)) + (1 : Int32)).toNatClampNeg)) (q + 23) ((nI (B + i)) + (1 : Int32)).toNatClampNeg)) := fx_sm_t (h' := (fx_wi k (q + 22) (B + i) (fx_i k (q + 22) ((nI (B + i)) + (1 : Int32)).toNatClampNeg))) e269w (sm_wi _ _ _ _)
          refine fx_aload_n 3 dq_MO_join_286 rfl rfl ?_
          refine fx_getr ok fq_MO_84 ((fx_sm_s e285w _).trans hm.1) dq_MO_join_287 (by decide) ((fx_sm_r e285w _ _).trans (mo_mw hm).1) ?_
          refine fx_iload 0 dq_MO_join_290 rfl ?_
          refine fx_aload_n 3 dq_MO_join_292 rfl rfl ?_
          refine fx_getr ok fq_MO_84 ((fx_sm_s e285w _).trans hm.1) dq_MO_join_293 (by decide) ((fx_sm_r e285w _ _).trans (mo_mw hm).1) ?_
          refine fx_iload 0 dq_MO_join_296 rfl ?_
          refine fx_iconst (v := 1) dq_MO_join_298 (by decide) ?_
          refine fx_iadd dq_MO_join_299 ?_
          refine fx_iaload ok ((fx_sm_s e285w _).trans (mo_mw hm).2) (by rw [← nI_succ]; exact vp_in_nI (by omega) (by decide)) dq_MO_join_300 ?_
          refine fx_isN ok ((fx_sm_s e285w _).trans (mo_mw hm).2) ⟨by omega, by decide⟩ dq_MO_join_301 ?_
          have e301w : fx_sm h (fx_wi (fx_wi (fx_wi k (q + 22) (B + i) (fx_i k (q + 22) ((nI (B + i)) + (1 : Int32)).toNatClampNeg)) (q + 23) (B + i) (fx_i (fx_wi k (q + 22) (B + i) (fx_i k (q + 22) ((nI (B + i)) + (1 : Int32)).toNatClampNeg)) (q + 23) ((nI (B + i)) + (1 : Int32)).toNatClampNeg)) (q + 24) (B + i) (fx_i (fx_wi (fx_wi k (q + 22) (B + i) (fx_i k (q + 22) ((nI (B + i)) + (1 : Int32)).toNatClampNeg)) (q + 23) (B + i) (fx_i (fx_wi k (q + 22) (B + i) (fx_i k (q + 22) ((nI (B + i)) + (1 : Int32)).toNatClampNeg)) (q + 23) ((nI (B + i)) + (1 : Int32)).toNatClampNeg)) (q + 24) ((nI (B + i)) + (1 : Int32)).toNatClampNeg)) := fx_sm_t (h' := (fx_wi (fx_wi k (q + 22) (B + i) (fx_i k (q + 22) ((nI (B + i)) + (1 : Int32)).toNatClampNeg)) (q + 23) (B + i) (fx_i (fx_wi k (q + 22) (B + i) (fx_i k (q + 22) ((nI (B + i)) + (1 : Int32)).toNatClampNeg)) (q + 23) ((nI (B + i)) + (1 : Int32)).toNatClampNeg))) e285w (sm_wi _ _ _ _)
          refine fx_aload_n 3 dq_MO_join_302 rfl rfl ?_
          refine fx_getr ok fq_MO_87 ((fx_sm_s e301w _).trans hm.1) dq_MO_join_303 (by decide) ((fx_sm_r e301w _ _).trans (mo_mh hm).1) ?_
          refine fx_iload 0 dq_MO_join_306 rfl ?_
          refine fx_aload_n 3 dq_MO_join_308 rfl rfl ?_
          refine fx_getr ok fq_MO_87 ((fx_sm_s e301w _).trans hm.1) dq_MO_join_309 (by decide) ((fx_sm_r e301w _ _).trans (mo_mh hm).1) ?_
          refine fx_iload 0 dq_MO_join_312 rfl ?_
          refine fx_iconst (v := 1) dq_MO_join_314 (by decide) ?_
          refine fx_iadd dq_MO_join_315 ?_
          refine fx_iaload ok ((fx_sm_s e301w _).trans (mo_mh hm).2) (by rw [← nI_succ]; exact vp_in_nI (by omega) (by decide)) dq_MO_join_316 ?_
          refine fx_isN ok ((fx_sm_s e301w _).trans (mo_mh hm).2) ⟨by omega, by decide⟩ dq_MO_join_317 ?_
          have e317w : fx_sm h (fx_wi (fx_wi (fx_wi (fx_wi k (q + 22) (B + i) (fx_i k (q + 22) ((nI (B + i)) + (1 : Int32)).toNatClampNeg)) (q + 23) (B + i) (fx_i (fx_wi k (q + 22) (B + i) (fx_i k (q + 22) ((nI (B + i)) + (1 : Int32)).toNatClampNeg)) (q + 23) ((nI (B + i)) + (1 : Int32)).toNatClampNeg)) (q + 24) (B + i) (fx_i (fx_wi (fx_wi k (q + 22) (B + i) (fx_i k (q + 22) ((nI (B + i)) + (1 : Int32)).toNatClampNeg)) (q + 23) (B + i) (fx_i (fx_wi k (q + 22) (B + i) (fx_i k (q + 22) ((nI (B + i)) + (1 : Int32)).toNatClampNeg)) (q + 23) ((nI (B + i)) + (1 : Int32)).toNatClampNeg)) (q + 24) ((nI (B + i)) + (1 : Int32)).toNatClampNeg)) (q + 25) (B + i) (fx_i (fx_wi (fx_wi (fx_wi k (q + 22) (B + i) (fx_i k (q + 22) ((nI (B + i)) + (1 : Int32)).toNatClampNeg)) (q + 23) (B + i) (fx_i (fx_wi k (q + 22) (B + i) (fx_i k (q + 22) ((nI (B + i)) + (1 : Int32)).toNatClampNeg)) (q + 23) ((nI (B + i)) + (1 : Int32)).toNatClampNeg)) (q + 24) (B + i) (fx_i (fx_wi (fx_wi k (q + 22) (B + i) (fx_i k (q + 22) ((nI (B + i)) + (1 : Int32)).toNatClampNeg)) (q + 23) (B + i) (fx_i (fx_wi k (q + 22) (B + i) (fx_i k (q + 22) ((nI (B + i)) + (1 : Int32)).toNatClampNeg)) (q + 23) ((nI (B + i)) + (1 : Int32)).toNatClampNeg)) (q + 24) ((nI (B + i)) + (1 : Int32)).toNatClampNeg)) (q + 25) ((nI (B + i)) + (1 : Int32)).toNatClampNeg)) := fx_sm_t (h' := (fx_wi (fx_wi (fx_wi k (q + 22) (B + i) (fx_i k (q + 22) ((nI (B + i)) + (1 : Int32)).toNatClampNeg)) (q + 23) (B + i) (fx_i (fx_wi k (q + 22) (B + i) (fx_i k (q + 22) ((nI (B + i)) + (1 : Int32)).toNatClampNeg)) (q + 23) ((nI (B + i)) + (1 : Int32)).toNatClampNeg)) (q + 24) (B + i) (fx_i (fx_wi (fx_wi k (q + 22) (B + i) (fx_i k (q + 22) ((nI (B + i)) + (1 : Int32)).toNatClampNeg)) (q + 23) (B + i) (fx_i (fx_wi k (q + 22) (B + i) (fx_i k (q + 22) ((nI (B + i)) + (1 : Int32)).toNatClampNeg)) (q + 23) ((nI (B + i)) + (1 : Int32)).toNatClampNeg)) (q + 24) ((nI (B + i)) + (1 : Int32)).toNatClampNeg))) e301w (sm_wi _ _ _ _)
          refine fx_iinc 0 dq_MO_join_318 rfl (jz_i _) (by decide) rfl ?_
          refine fx_goto (tgt := 242) dq_MO_join_321 (by decide) ?_
          refine fx_sub [0, 1, 2, 3, 4] rfl ?_
          exact hK242
        · have e242x : fx_sm h (it (b_MO_join q B) (fx_wi (fx_wi (fx_wi (fx_wi (fx_wi h (q + 22) A (fx_i h (q + 22) A)) (q + 23) A (fx_i (fx_wi h (q + 22) A (fx_i h (q + 22) A)) (q + 23) A)) (q + 24) A (v_MO_hullWide h q (nI A) (nI B))) (q + 25) A (v_MO_hullHigh h q (nI A) (nI B))) (q + 21) m (6 : Int32)) (7 * m + 6 - B)) := fx_sm_t (h' := (fx_wi (fx_wi (fx_wi (fx_wi (fx_wi h (q + 22) A (fx_i h (q + 22) A)) (q + 23) A (fx_i (fx_wi h (q + 22) A (fx_i h (q + 22) A)) (q + 23) A)) (q + 24) A (v_MO_hullWide h q (nI A) (nI B))) (q + 25) A (v_MO_hullHigh h q (nI A) (nI B))) (q + 21) m (6 : Int32))) (rfl : fx_sm h (fx_wi (fx_wi (fx_wi (fx_wi (fx_wi h (q + 22) A (fx_i h (q + 22) A)) (q + 23) A (fx_i (fx_wi h (q + 22) A (fx_i h (q + 22) A)) (q + 23) A)) (q + 24) A (v_MO_hullWide h q (nI A) (nI B))) (q + 25) A (v_MO_hullHigh h q (nI A) (nI B))) (q + 21) m (6 : Int32))) (fx_sm_it (by intro _ _; unfold b_MO_join; rfl) (fx_wi (fx_wi (fx_wi (fx_wi (fx_wi h (q + 22) A (fx_i h (q + 22) A)) (q + 23) A (fx_i (fx_wi h (q + 22) A (fx_i h (q + 22) A)) (q + 23) A)) (q + 24) A (v_MO_hullWide h q (nI A) (nI B))) (q + 25) A (v_MO_hullHigh h q (nI A) (nI B))) (q + 21) m (6 : Int32)) (7 * m + 6 - B))
          refine fx_iload 0 dq_MO_join_242 rfl ?_
          refine fx_bipush (v := 7) dq_MO_join_244 (by decide) ?_
          refine fx_iload_n 4 dq_MO_join_246 rfl rfl ?_
          refine fx_imul dq_MO_join_247 ?_
          refine fx_bipush (v := 6) dq_MO_join_248 (by decide) ?_
          refine fx_iadd dq_MO_join_250 ?_
          refine fx_icmp_ge (tgt := 324) dq_MO_join_251 (by decide) (fun hc251 => ?_) (fun hc251 => absurd (by rw [j76 hm2]; exact nI_le (by omega) (by omega)) hc251)
          exact fx_vreturn rfl dq_MO_join_324 ⟨rfl, by rw [k_MO_joinA, if_neg hc160, if_neg hc196]⟩
def k_MO_join (h : fx_H) (q m : Nat) : fx_H := k_MO_joinA h q m (mJ h q m).2.1 (mJ h q m).2.2
theorem c_MO_join {g : fx_G} (ok : fx_ok g) (h : fx_H) (q m : Nat) (hm : isM h q) (hm2 : m < 2) : fx_C g mq_MO_join [.ref q, .int (nI m)] h (fx_is none (k_MO_join h q m)) 0 0 := c_MO_joinA ok h q m _ _ hm hm2 rfl rfl (mJ_lt h q m hm2)
theorem mfr_joinA (h : fx_H) (q m A B : Nat) : mfr q [21, 22, 23, 24, 25] [] h (k_MO_joinA h q m A B) := by
  unfold k_MO_joinA
  repeat' split
  all_goals refine mfr_it (fun n k => by unfold b_MO_join; exact mfr_wi (mfr_wi (mfr_wi (mfr_wi (mfr_rf _ _ _ _) (by decide)) (by decide)) (by decide)) (by decide)) ?_ _
  all_goals exact mfr_wi (mfr_wi (mfr_wi (mfr_wi (mfr_wi (mfr_rf _ _ _ _) (by decide)) (by decide)) (by decide)) (by decide)) (by decide)
theorem mfr_join (h : fx_H) (q m : Nat) : mfr q [21, 22, 23, 24, 25] [] h (k_MO_join h q m) := mfr_joinA h q m _ _
