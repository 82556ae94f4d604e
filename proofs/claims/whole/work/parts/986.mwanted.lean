/-! ===== the Model: wanted ===== -/
theorem w_nn {x : Int32} (h : 0 ≤ x) : ¬ x < 0 := by
  rw [iz_le] at h
  rw [iz_lt]
  omega
def waPre (h : fx_H) (q : Nat) (x y : Int32) : Prop := ∀ u m, mfr q [] [0, 38, 39, 40, 41] h u → ¬ v_MO_nth u q 10 m < 0 → ¬ x < fx_i (k_MO_show u q (v_MO_nth u q 10 m)) q 38 → ¬ fx_i (k_MO_show u q (v_MO_nth u q 10 m)) q 38 + fx_i (k_MO_show u q (v_MO_nth u q 10 m)) q 40 ≤ x → ¬ y < fx_i (k_MO_show u q (v_MO_nth u q 10 m)) q 39 → ¬ fx_i (k_MO_show u q (v_MO_nth u q 10 m)) q 39 + fx_i (k_MO_show u q (v_MO_nth u q 10 m)) q 41 ≤ y → pre_MO_pixelOf (k_MO_show u q (v_MO_nth u q 10 m)) q (v_MO_nth u q 10 m) x y
def waI (q : Nat) (x y : Int32) (u : Int32 × Int32 × fx_H) : Option (Int32 × Int32 × fx_H) := if (10 : Int32) ≤ u.2.1 then none else if 0 ≤ (v_MO_nth u.2.2 q 10 u.2.1) then if x < (fx_i (k_MO_show u.2.2 q (v_MO_nth u.2.2 q 10 u.2.1)) q 38) then some (u.1, (u.2.1 + Int32.ofInt (1)), k_MO_show u.2.2 q (v_MO_nth u.2.2 q 10 u.2.1)) else if ((fx_i (k_MO_show u.2.2 q (v_MO_nth u.2.2 q 10 u.2.1)) q 38) + (fx_i (k_MO_show u.2.2 q (v_MO_nth u.2.2 q 10 u.2.1)) q 40)) ≤ x then some (u.1, (u.2.1 + Int32.ofInt (1)), k_MO_show u.2.2 q (v_MO_nth u.2.2 q 10 u.2.1)) else if y < (fx_i (k_MO_show u.2.2 q (v_MO_nth u.2.2 q 10 u.2.1)) q 39) then some (u.1, (u.2.1 + Int32.ofInt (1)), k_MO_show u.2.2 q (v_MO_nth u.2.2 q 10 u.2.1)) else if ((fx_i (k_MO_show u.2.2 q (v_MO_nth u.2.2 q 10 u.2.1)) q 39) + (fx_i (k_MO_show u.2.2 q (v_MO_nth u.2.2 q 10 u.2.1)) q 41)) ≤ y then some (u.1, (u.2.1 + Int32.ofInt (1)), k_MO_show u.2.2 q (v_MO_nth u.2.2 q 10 u.2.1)) else some ((v_MO_mixed (k_MO_show u.2.2 q (v_MO_nth u.2.2 q 10 u.2.1)) (v_MO_pixelOf (k_MO_show u.2.2 q (v_MO_nth u.2.2 q 10 u.2.1)) q (v_MO_nth u.2.2 q 10 u.2.1) x y) u.1 (fx_i (k_MO_show u.2.2 q (v_MO_nth u.2.2 q 10 u.2.1)) (q + 11) (v_MO_nth u.2.2 q 10 u.2.1).toNatClampNeg)), (u.2.1 + Int32.ofInt (1)), k_MO_show u.2.2 q (v_MO_nth u.2.2 q 10 u.2.1)) else none
theorem hP_waI (h : fx_H) (q : Nat) (x y : Int32) : ∀ m u z, (fx_sm h u.2.2 ∧ mfr q [] [0, 38, 39, 40, 41] h u.2.2 ∧ ∃ i, u.2.1 = nI i ∧ i + m = 10) → waI q x y u = some z → ∃ m', m = m' + 1 ∧ (fx_sm h z.2.2 ∧ mfr q [] [0, 38, 39, 40, 41] h z.2.2 ∧ ∃ i, z.2.1 = nI i ∧ i + m' = 10) := by
  intro m u z hu hz
  obtain ⟨hs, hf, i, h1, h2⟩ := hu
  have hw : mfr q [] [0, 38, 39, 40, 41] h (k_MO_show u.2.2 q (v_MO_nth u.2.2 q 10 u.2.1)) := mfr_t hf (mfr_m (mfr_show _ _ _) (by decide) (by decide))
  have key : ¬ (10 : Int32) ≤ u.2.1 → z.2.2 = k_MO_show u.2.2 q (v_MO_nth u.2.2 q 10 u.2.1) → z.2.1 = u.2.1 + Int32.ofInt (1) → ∃ m', m = m' + 1 ∧ (fx_sm h z.2.2 ∧ mfr q [] [0, 38, 39, 40, 41] h z.2.2 ∧ ∃ i, z.2.1 = nI i ∧ i + m' = 10) := by
    intro h3 h4 h5
    have e0 : (10 : Int32).toInt = 10 := rfl
    rw [h1, iz_le, e0, nI_toInt (by omega)] at h3
    rw [h4, h5]
    exact ⟨m - 1, by omega, hw.1, hw, i + 1, by rw [h1, jz_i], by omega⟩
  unfold waI at hz
  repeat' split at hz
  all_goals cases hz
  all_goals exact key (by assumption) rfl rfl
def v_MO_wanted (h : fx_H) (q : Nat) (x y : Int32) : Int32 := if (v_MO_isPixel (fx_wi h q 0 (0 : Int32)) x y) = 0 then (-1 : Int32) else ((lp (waI q x y) 10 ((0 : Int32), (0 : Int32), fx_wi h q 0 (0 : Int32))).1)
def k_MO_wanted (h : fx_H) (q : Nat) (x y : Int32) : fx_H := if (v_MO_isPixel (fx_wi h q 0 (0 : Int32)) x y) = 0 then fx_wi h q 0 (0 : Int32) else (lp (waI q x y) 10 ((0 : Int32), (0 : Int32), fx_wi h q 0 (0 : Int32))).2.2
set_option maxRecDepth 100000 in
set_option maxHeartbeats 600000 in
theorem c_MO_wanted {g : fx_G} (ok : fx_ok g) (h : fx_H) (q : Nat) (x y : Int32) (hm : isM h q) (hwp : ¬ v_MO_isPixel (fx_wi h q 0 (0 : Int32)) x y = 0 → waPre h q x y) : fx_C g mq_MO_wanted [.ref q, .int x, .int y] h (fx_is (some (v_MO_wanted h q x y)) (k_MO_wanted h q x y)) 0 0 := by
  refine fx_body (by decide +kernel) (Nat.le_of_ble_eq_true rfl) ?_
  show fx_X g mq_MO_wanted 0 [(0, .ref q), (1, .int x), (2, .int y)] [] h _ 0 0
  refine fx_aload_n 0 dq_MO_wanted_0 rfl rfl ?_
  refine fx_iconst (v := 0) dq_MO_wanted_1 (by decide) ?_
  refine fx_puti ok fp_MO_126 hm.1 (by decide) dq_MO_wanted_2 (Or.inl (by decide)) ?_
  refine fx_iload_n 1 dq_MO_wanted_5 rfl rfl ?_
  refine fx_iload_n 2 dq_MO_wanted_6 rfl rfl ?_
  refine fx_Si2 ok sq_MO_265 (c_MO_isPixel ok (fx_wi h q 0 (0 : Int32)) x y ) (by decide) (Nat.le_of_ble_eq_true rfl) dq_MO_wanted_7 ?_
  refine fx_if_ne (tgt := 15) dq_MO_wanted_10 (by decide) (fun hc10 => ?_) (fun hc10 => ?_)
  · -- 10: jump
    refine fx_iconst (v := 0) dq_MO_wanted_15 (by decide) ?_
    refine fx_istore_n dq_MO_wanted_16 rfl (by decide) rfl ?_
    refine fx_iconst (v := 0) dq_MO_wanted_17 (by decide) ?_
    refine fx_istore dq_MO_wanted_18 (by decide) rfl ?_
    refine fx_lp (σ := Int32 × Int32 × fx_H) (ex := 118) (fun u => [(4, .int u.2.1), (3, .int u.1), (0, .ref q), (1, .int x), (2, .int y)]) (fun u => u.2.2) (waI q x y) (fun m u => fx_sm h u.2.2 ∧ mfr q [] [0, 38, 39, 40, 41] h u.2.2 ∧ ∃ i, u.2.1 = nI i ∧ i + m = 10) ((0 : Int32), (0 : Int32), fx_wi h q 0 (0 : Int32)) 10 ⟨(rfl : fx_sm h (fx_wi h q 0 (0 : Int32))), mfr_wf (mfr_rf _ _ _ _) (by decide), 0, rfl, rfl⟩ (hP_waI h q x y) (fun m20 u hp20 hb20 hx20 hz20 => ?_) (fun m20 hp20 hn20 => ?_)
    · skip
      refine fx_iload 0 dq_MO_wanted_20 rfl ?_
      refine fx_bipush (v := 10) dq_MO_wanted_22 (by decide) ?_
      refine fx_icmp_ge (tgt := 118) dq_MO_wanted_24 (by decide) (fun hc24 => ?_) (fun hc24 => ?_)
      · -- 24: jump
        refine fx_sub [0, 1, 2, 3, 4] rfl ?_
        exact hx20 (by rw [waI, if_pos hc24])
      · -- 24: fall
        refine fx_aload_n 2 dq_MO_wanted_27 rfl rfl ?_
        refine fx_bipush (v := 10) dq_MO_wanted_28 (by decide) ?_
        refine fx_iload 0 dq_MO_wanted_30 rfl ?_
        refine fx_Vi2 ok sq_MO_201 ((fx_sm_s hp20.1 _).trans hm.1) (c_MO_nth ok u.2.2 q 10 u.2.1 (by exact isM_sm hp20.1 hm) (by decide)) (by decide) (Nat.le_of_ble_eq_true rfl) dq_MO_wanted_32 ?_
        refine fx_istore dq_MO_wanted_35 (by decide) rfl ?_
        refine fx_iload 0 dq_MO_wanted_37 rfl ?_
        refine fx_if_ge (tgt := 44) dq_MO_wanted_39 (by decide) (fun hc39 => ?_) (fun hc39 => ?_)
        · -- 39: jump
          refine fx_aload_n 3 dq_MO_wanted_44 rfl rfl ?_
          refine fx_iload 0 dq_MO_wanted_45 rfl ?_
          refine fx_Vv1 ok sq_MO_204 ((fx_sm_s hp20.1 _).trans hm.1) (c_MO_show ok u.2.2 q (v_MO_nth u.2.2 q 10 u.2.1) (by exact isM_sm hp20.1 hm) (nth_in (by decide) (w_nn hc39))) (by decide) (Nat.le_of_ble_eq_true rfl) dq_MO_wanted_47 ?_
          have e47 : fx_sm h (k_MO_show u.2.2 q (v_MO_nth u.2.2 q 10 u.2.1)) := fx_sm_t (h' := u.2.2) hp20.1 (sm_MO_show u.2.2 q (v_MO_nth u.2.2 q 10 u.2.1))
          refine fx_iload_n 4 dq_MO_wanted_50 rfl rfl ?_
          refine fx_aload_n 3 dq_MO_wanted_51 rfl rfl ?_
          refine fx_geti ok fq_MO_141 ((fx_sm_s e47 _).trans hm.1) dq_MO_wanted_52 (by decide) ?_
          refine fx_icmp_lt (tgt := 112) dq_MO_wanted_55 (by decide) (fun hc55 => ?_) (fun hc55 => ?_)
          · -- 55: jump
            refine fx_iinc 1 dq_MO_wanted_112 rfl rfl (by decide) rfl ?_
            refine fx_goto (tgt := 20) dq_MO_wanted_115 (by decide) ?_
            refine fx_sub [0, 2, 3, 4, 5] rfl ?_
            exact hb20 (u.1, (u.2.1 + Int32.ofInt (1)), k_MO_show u.2.2 q (v_MO_nth u.2.2 q 10 u.2.1)) (by rw [waI, if_neg hc24, if_pos hc39, if_pos hc55])
          · -- 55: fall
            refine fx_iload_n 4 dq_MO_wanted_58 rfl rfl ?_
            refine fx_aload_n 3 dq_MO_wanted_59 rfl rfl ?_
            refine fx_geti ok fq_MO_141 ((fx_sm_s e47 _).trans hm.1) dq_MO_wanted_60 (by decide) ?_
            refine fx_aload_n 3 dq_MO_wanted_63 rfl rfl ?_
            refine fx_geti ok fq_MO_144 ((fx_sm_s e47 _).trans hm.1) dq_MO_wanted_64 (by decide) ?_
            refine fx_iadd dq_MO_wanted_67 ?_
            refine fx_icmp_ge (tgt := 112) dq_MO_wanted_68 (by decide) (fun hc68 => ?_) (fun hc68 => ?_)
            · -- 68: jump
              refine fx_iinc 1 dq_MO_wanted_112 rfl rfl (by decide) rfl ?_
              refine fx_goto (tgt := 20) dq_MO_wanted_115 (by decide) ?_
              refine fx_sub [0, 2, 3, 4, 5] rfl ?_
              exact hb20 (u.1, (u.2.1 + Int32.ofInt (1)), k_MO_show u.2.2 q (v_MO_nth u.2.2 q 10 u.2.1)) (by rw [waI, if_neg hc24, if_pos hc39, if_neg hc55, if_pos hc68])
            · -- 68: fall
              refine fx_iload_n 5 dq_MO_wanted_71 rfl rfl ?_
              refine fx_aload_n 3 dq_MO_wanted_72 rfl rfl ?_
              refine fx_geti ok fq_MO_147 ((fx_sm_s e47 _).trans hm.1) dq_MO_wanted_73 (by decide) ?_
              refine fx_icmp_lt (tgt := 112) dq_MO_wanted_76 (by decide) (fun hc76 => ?_) (fun hc76 => ?_)
              · -- 76: jump
                refine fx_iinc 1 dq_MO_wanted_112 rfl rfl (by decide) rfl ?_
                refine fx_goto (tgt := 20) dq_MO_wanted_115 (by decide) ?_
                refine fx_sub [0, 2, 3, 4, 5] rfl ?_
                exact hb20 (u.1, (u.2.1 + Int32.ofInt (1)), k_MO_show u.2.2 q (v_MO_nth u.2.2 q 10 u.2.1)) (by rw [waI, if_neg hc24, if_pos hc39, if_neg hc55, if_neg hc68, if_pos hc76])
              · -- 76: fall
                refine fx_iload_n 5 dq_MO_wanted_79 rfl rfl ?_
                refine fx_aload_n 3 dq_MO_wanted_80 rfl rfl ?_
                refine fx_geti ok fq_MO_147 ((fx_sm_s e47 _).trans hm.1) dq_MO_wanted_81 (by decide) ?_
                refine fx_aload_n 3 dq_MO_wanted_84 rfl rfl ?_
                refine fx_geti ok fq_MO_150 ((fx_sm_s e47 _).trans hm.1) dq_MO_wanted_85 (by decide) ?_
                refine fx_iadd dq_MO_wanted_88 ?_
                refine fx_icmp_ge (tgt := 112) dq_MO_wanted_89 (by decide) (fun hc89 => ?_) (fun hc89 => ?_)
                · -- 89: jump
                  refine fx_iinc 1 dq_MO_wanted_112 rfl rfl (by decide) rfl ?_
                  refine fx_goto (tgt := 20) dq_MO_wanted_115 (by decide) ?_
                  refine fx_sub [0, 2, 3, 4, 5] rfl ?_
                  exact hb20 (u.1, (u.2.1 + Int32.ofInt (1)), k_MO_show u.2.2 q (v_MO_nth u.2.2 q 10 u.2.1)) (by rw [waI, if_neg hc24, if_pos hc39, if_neg hc55, if_neg hc68, if_neg hc76, if_pos hc89])
                · -- 89: fall
                  refine fx_aload_n 3 dq_MO_wanted_92 rfl rfl ?_
                  refine fx_iload 0 dq_MO_wanted_93 rfl ?_
                  refine fx_iload_n 4 dq_MO_wanted_95 rfl rfl ?_
                  refine fx_iload_n 5 dq_MO_wanted_96 rfl rfl ?_
                  refine fx_Vi3 ok sq_MO_225 ((fx_sm_s e47 _).trans hm.1) (c_MO_pixelOf ok (k_MO_show u.2.2 q (v_MO_nth u.2.2 q 10 u.2.1)) q (v_MO_nth u.2.2 q 10 u.2.1) x y (by exact isM_sm e47 hm) (hwp hc10 u.2.2 u.2.1 hp20.2.1 (w_nn hc39) hc55 hc68 hc76 hc89)) (by decide) (Nat.le_of_ble_eq_true rfl) dq_MO_wanted_97 ?_
                  refine fx_iload_n 2 dq_MO_wanted_100 rfl rfl ?_
                  refine fx_aload_n 3 dq_MO_wanted_101 rfl rfl ?_
                  refine fx_getr ok fq_MO_41 ((fx_sm_s e47 _).trans hm.1) dq_MO_wanted_102 (by decide) ((fx_sm_r e47 _ _).trans (mo_alpha hm).1) ?_
                  refine fx_iload 0 dq_MO_wanted_105 rfl ?_
                  refine fx_iaload ok ((fx_sm_s e47 _).trans (mo_alpha hm).2) (nth_in (by decide) (w_nn hc39)) dq_MO_wanted_107 ?_
                  refine fx_Si3 ok sq_MO_229 (c_MO_mixed ok (k_MO_show u.2.2 q (v_MO_nth u.2.2 q 10 u.2.1)) (v_MO_pixelOf (k_MO_show u.2.2 q (v_MO_nth u.2.2 q 10 u.2.1)) q (v_MO_nth u.2.2 q 10 u.2.1) x y) u.1 (fx_i (k_MO_show u.2.2 q (v_MO_nth u.2.2 q 10 u.2.1)) (q + 11) (v_MO_nth u.2.2 q 10 u.2.1).toNatClampNeg)) (by decide) (Nat.le_of_ble_eq_true rfl) dq_MO_wanted_108 ?_
                  refine fx_istore_n dq_MO_wanted_111 rfl (by decide) rfl ?_
                  refine fx_iinc 2 dq_MO_wanted_112 rfl rfl (by decide) rfl ?_
                  refine fx_goto (tgt := 20) dq_MO_wanted_115 (by decide) ?_
                  refine fx_sub [0, 1, 3, 4, 5] rfl ?_
                  exact hb20 ((v_MO_mixed (k_MO_show u.2.2 q (v_MO_nth u.2.2 q 10 u.2.1)) (v_MO_pixelOf (k_MO_show u.2.2 q (v_MO_nth u.2.2 q 10 u.2.1)) q (v_MO_nth u.2.2 q 10 u.2.1) x y) u.1 (fx_i (k_MO_show u.2.2 q (v_MO_nth u.2.2 q 10 u.2.1)) (q + 11) (v_MO_nth u.2.2 q 10 u.2.1).toNatClampNeg)), (u.2.1 + Int32.ofInt (1)), k_MO_show u.2.2 q (v_MO_nth u.2.2 q 10 u.2.1)) (by rw [waI, if_neg hc24, if_pos hc39, if_neg hc55, if_neg hc68, if_neg hc76, if_neg hc89])
        · -- 39: fall
          refine fx_iload_n 2 dq_MO_wanted_42 rfl rfl ?_
          exact fx_ireturn rfl dq_MO_wanted_43 ⟨by rw [v_MO_wanted, if_neg hc10, ← hz20 (by rw [waI, if_neg hc24, if_neg hc39])], by rw [k_MO_wanted, if_neg hc10, ← hz20 (by rw [waI, if_neg hc24, if_neg hc39])]⟩
    · show fx_X g mq_MO_wanted 118 [(4, .int ((lp (waI q x y) 10 ((0 : Int32), (0 : Int32), fx_wi h q 0 (0 : Int32))).2.1)), (3, .int ((lp (waI q x y) 10 ((0 : Int32), (0 : Int32), fx_wi h q 0 (0 : Int32))).1)), (0, .ref q), (1, .int x), (2, .int y)] [] ((lp (waI q x y) 10 ((0 : Int32), (0 : Int32), fx_wi h q 0 (0 : Int32))).2.2) _ 0 0
      have e20x : fx_sm h ((lp (waI q x y) 10 ((0 : Int32), (0 : Int32), fx_wi h q 0 (0 : Int32))).2.2) := hp20.1
      refine fx_iload_n 1 dq_MO_wanted_118 rfl rfl ?_
      exact fx_ireturn rfl dq_MO_wanted_119 ⟨by rw [v_MO_wanted, if_neg hc10], by rw [k_MO_wanted, if_neg hc10]⟩
  · -- 10: fall
    refine fx_iconst (v := -1) dq_MO_wanted_13 (by decide) ?_
    exact fx_ireturn rfl dq_MO_wanted_14 ⟨by rw [v_MO_wanted, if_pos hc10], by rw [k_MO_wanted, if_pos hc10]⟩
