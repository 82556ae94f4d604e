/-! ===== the Model: choosePlanes ===== -/
def cqI (q : Nat) (p le to_ wi he : Int32) (u : Int32 × Int32 × fx_H) : Option (Int32 × Int32 × fx_H) := if (30 : Int32) ≤ u.2.1 then none else if u.1 = 0 then none else if u.2.1 = p then some (u.1, (u.2.1 + Int32.ofInt (1)), u.2.2) else if (fx_i u.2.2 (q + 7) u.2.1.toNatClampNeg) = 0 then some (u.1, (u.2.1 + Int32.ofInt (1)), u.2.2) else if (v_MO_isAbove u.2.2 q u.2.1 p) = 0 then some (u.1, (u.2.1 + Int32.ofInt (1)), u.2.2) else if (fx_i (k_MO_show u.2.2 q u.2.1) q 40) = 0 then some ((1 : Int32), (u.2.1 + Int32.ofInt (1)), k_MO_show u.2.2 q u.2.1) else if (le + wi) ≤ (fx_i (k_MO_show u.2.2 q u.2.1) q 38) then some ((1 : Int32), (u.2.1 + Int32.ofInt (1)), k_MO_show u.2.2 q u.2.1) else if ((fx_i (k_MO_show u.2.2 q u.2.1) q 38) + (fx_i (k_MO_show u.2.2 q u.2.1) q 40)) ≤ le then some ((1 : Int32), (u.2.1 + Int32.ofInt (1)), k_MO_show u.2.2 q u.2.1) else if (to_ + he) ≤ (fx_i (k_MO_show u.2.2 q u.2.1) q 39) then some ((1 : Int32), (u.2.1 + Int32.ofInt (1)), k_MO_show u.2.2 q u.2.1) else if to_ < ((fx_i (k_MO_show u.2.2 q u.2.1) q 39) + (fx_i (k_MO_show u.2.2 q u.2.1) q 41)) then some ((0 : Int32), (u.2.1 + Int32.ofInt (1)), k_MO_show u.2.2 q u.2.1) else some ((1 : Int32), (u.2.1 + Int32.ofInt (1)), k_MO_show u.2.2 q u.2.1)
theorem hP_cqI (h : fx_H) (q : Nat) (p le to_ wi he : Int32) : ∀ m y z, (fx_sm h y.2.2 ∧ ∃ i, y.2.1 = nI (20 + i) ∧ i + m = 10) → cqI q p le to_ wi he y = some z → ∃ m', m = m' + 1 ∧ (fx_sm h z.2.2 ∧ ∃ i, z.2.1 = nI (20 + i) ∧ i + m' = 10) := by
  intro m y z hy hz
  obtain ⟨hs, i, h1, h2⟩ := hy
  have key : ¬ (30 : Int32) ≤ y.2.1 → fx_sm y.2.2 z.2.2 → z.2.1 = y.2.1 + Int32.ofInt (1) → ∃ m', m = m' + 1 ∧ (fx_sm h z.2.2 ∧ ∃ i, z.2.1 = nI (20 + i) ∧ i + m' = 10) := by
    intro h3 h4 h5
    have e0 : (30 : Int32).toInt = 30 := rfl
    rw [h1, iz_le, e0, nI_toInt (by omega)] at h3
    exact ⟨m - 1, by omega, fx_sm_t hs h4, i + 1, by rw [h5, h1, jz_i]; rfl, by omega⟩
  unfold cqI at hz
  repeat' split at hz
  all_goals cases hz
  all_goals first | exact key (by assumption) rfl rfl | exact key (by assumption) (sm_MO_show _ _ _) rfl
def cqO (q : Nat) (i : Nat) (z : Int32 × fx_H) : Int32 × fx_H := if (v_MO_nth z.2 q 20 ((9 : Int32) - nI i)) < 0 then (z.1, z.2) else if z.1 = (2 : Int32) then (z.1, z.2) else if (16 : Int32) ≤ (fx_i z.2 (q + 11) (v_MO_nth z.2 q 20 ((9 : Int32) - nI i)).toNatClampNeg) then if (fx_i (k_MO_show z.2 q (v_MO_nth z.2 q 20 ((9 : Int32) - nI i))) q 40) ≤ 0 then (z.1, k_MO_show z.2 q (v_MO_nth z.2 q 20 ((9 : Int32) - nI i))) else if (24 : Int32) < ((fx_i (k_MO_show z.2 q (v_MO_nth z.2 q 20 ((9 : Int32) - nI i))) q 40) * (fx_i (k_MO_show z.2 q (v_MO_nth z.2 q 20 ((9 : Int32) - nI i))) q 41)) then (z.1, k_MO_show z.2 q (v_MO_nth z.2 q 20 ((9 : Int32) - nI i))) else if ((lp (cqI q (v_MO_nth z.2 q 20 ((9 : Int32) - nI i)) (fx_i (k_MO_show z.2 q (v_MO_nth z.2 q 20 ((9 : Int32) - nI i))) q 38) (fx_i (k_MO_show z.2 q (v_MO_nth z.2 q 20 ((9 : Int32) - nI i))) q 39) (fx_i (k_MO_show z.2 q (v_MO_nth z.2 q 20 ((9 : Int32) - nI i))) q 40) (fx_i (k_MO_show z.2 q (v_MO_nth z.2 q 20 ((9 : Int32) - nI i))) q 41)) 10 ((1 : Int32), (20 : Int32), k_MO_show z.2 q (v_MO_nth z.2 q 20 ((9 : Int32) - nI i)))).1) = 0 then (z.1, (lp (cqI q (v_MO_nth z.2 q 20 ((9 : Int32) - nI i)) (fx_i (k_MO_show z.2 q (v_MO_nth z.2 q 20 ((9 : Int32) - nI i))) q 38) (fx_i (k_MO_show z.2 q (v_MO_nth z.2 q 20 ((9 : Int32) - nI i))) q 39) (fx_i (k_MO_show z.2 q (v_MO_nth z.2 q 20 ((9 : Int32) - nI i))) q 40) (fx_i (k_MO_show z.2 q (v_MO_nth z.2 q 20 ((9 : Int32) - nI i))) q 41)) 10 ((1 : Int32), (20 : Int32), k_MO_show z.2 q (v_MO_nth z.2 q 20 ((9 : Int32) - nI i)))).2.2) else ((z.1 + Int32.ofInt (1)), fx_wi ((lp (cqI q (v_MO_nth z.2 q 20 ((9 : Int32) - nI i)) (fx_i (k_MO_show z.2 q (v_MO_nth z.2 q 20 ((9 : Int32) - nI i))) q 38) (fx_i (k_MO_show z.2 q (v_MO_nth z.2 q 20 ((9 : Int32) - nI i))) q 39) (fx_i (k_MO_show z.2 q (v_MO_nth z.2 q 20 ((9 : Int32) - nI i))) q 40) (fx_i (k_MO_show z.2 q (v_MO_nth z.2 q 20 ((9 : Int32) - nI i))) q 41)) 10 ((1 : Int32), (20 : Int32), k_MO_show z.2 q (v_MO_nth z.2 q 20 ((9 : Int32) - nI i)))).2.2) (q + 26) z.1.toNatClampNeg ((v_MO_nth z.2 q 20 ((9 : Int32) - nI i)) - (20 : Int32))) else (z.1, z.2)
theorem mfr_cqI (q : Nat) (p le to_ wi he : Int32) (n : Nat) (x : Int32 × Int32 × fx_H) : mfr q [] [38, 39, 40, 41] x.2.2 (lp (cqI q p le to_ wi he) n x).2.2 := by
  refine lp_inv (fun y : Int32 × Int32 × fx_H => mfr q [] [38, 39, 40, 41] x.2.2 y.2.2) _ (fun y z hy hz => ?_) n x (mfr_rf _ _ _ _)
  have key : mfr q [] [38, 39, 40, 41] y.2.2 z.2.2 := by
    unfold cqI at hz
    repeat' split at hz
    all_goals cases hz
    all_goals first | exact mfr_rf _ _ _ _ | exact mfr_show _ _ _
  exact mfr_t hy key
theorem mfr_cqO (q i : Nat) (z : Int32 × fx_H) : mfr q [26] [38, 39, 40, 41] z.2 (cqO q i z).2 := by
  have h1 : ∀ p, mfr q [26] [38, 39, 40, 41] z.2 (k_MO_show z.2 q p) := fun p => mfr_m (mfr_show _ _ _) (fun o ho => by cases ho) (fun o ho => ho)
  have h2 : ∀ (p p' le to_ wi he a b : Int32) (n : Nat), mfr q [26] [38, 39, 40, 41] z.2 (lp (cqI q p' le to_ wi he) n (a, b, k_MO_show z.2 q p)).2.2 := fun p p' le to_ wi he a b n => mfr_t (h1 p) (mfr_m (mfr_cqI q p' le to_ wi he n (a, b, k_MO_show z.2 q p)) (fun o ho => by cases ho) (fun o ho => ho))
  unfold cqO
  repeat' split
  all_goals first | exact mfr_rf _ _ _ _ | exact h1 _ | exact h2 _ _ _ _ _ _ _ _ _ | exact mfr_wi (h2 _ _ _ _ _ _ _ _ _) (by decide)
theorem cqN (q : Nat) (x : Int32 × fx_H) (hx : x.1 = 0 ∨ x.1 = 1 ∨ x.1 = 2) (n : Nat) : (its (cqO q) x n).1 = 0 ∨ (its (cqO q) x n).1 = 1 ∨ (its (cqO q) x n).1 = 2 := by
  refine its_inv (fun _ (z : Int32 × fx_H) => z.1 = 0 ∨ z.1 = 1 ∨ z.1 = 2) (cqO q) x hx n (fun i z _ hz => ?_) n (Nat.le_refl _)
  unfold cqO
  repeat' split
  all_goals first | exact hz | skip
  all_goals
    rename_i h9
    rcases hz with h0 | h0 | h0
    · exact Or.inr (Or.inl (by rw [h0]; rfl))
    · exact Or.inr (Or.inr (by rw [h0]; rfl))
    · exact absurd h0 (by assumption)
def k_MO_choosePlanes (h : fx_H) (q : Nat) : fx_H := (its (cqO q) ((0 : Int32), fx_wi (fx_wi h (q + 26) (0 : Int32).toNatClampNeg (-1 : Int32)) (q + 26) (1 : Int32).toNatClampNeg (-1 : Int32)) 10).2
set_option maxRecDepth 100000 in
set_option maxHeartbeats 600000 in
theorem c_MO_choosePlanes {g : fx_G} (ok : fx_ok g) (h : fx_H) (q : Nat) (hm : isM h q) : fx_C g mq_MO_choosePlanes [.ref q] h (fx_is none (k_MO_choosePlanes h q)) 0 0 := by
  refine fx_body (by decide +kernel) (Nat.le_of_ble_eq_true rfl) ?_
  show fx_X g mq_MO_choosePlanes 0 [(0, .ref q)] [] h _ 0 0
  refine fx_aload_n 0 dq_MO_choosePlanes_0 rfl rfl ?_
  refine fx_getr ok fq_MO_90 hm.1 dq_MO_choosePlanes_1 (by decide) (mo_planes hm).1 ?_
  refine fx_iconst (v := 0) dq_MO_choosePlanes_4 (by decide) ?_
  refine fx_iconst (v := -1) dq_MO_choosePlanes_5 (by decide) ?_
  refine fx_iastore ok (mo_planes hm).2 (by unfold vp_in; decide) dq_MO_choosePlanes_6 ?_
  refine fx_aload_n 0 dq_MO_choosePlanes_7 rfl rfl ?_
  refine fx_getr ok fq_MO_90 hm.1 dq_MO_choosePlanes_8 (by decide) (mo_planes hm).1 ?_
  refine fx_iconst (v := 1) dq_MO_choosePlanes_11 (by decide) ?_
  refine fx_iconst (v := -1) dq_MO_choosePlanes_12 (by decide) ?_
  refine fx_iastore ok (mo_planes hm).2 (by unfold vp_in; decide) dq_MO_choosePlanes_13 ?_
  refine fx_iconst (v := 0) dq_MO_choosePlanes_14 (by decide) ?_
  refine fx_istore_n dq_MO_choosePlanes_15 rfl (by decide) rfl ?_
  refine fx_bipush (v := 9) dq_MO_choosePlanes_16 (by decide) ?_
  refine fx_istore_n dq_MO_choosePlanes_18 rfl (by decide) rfl ?_
  refine fx_eqv (v' := (9 : Int32) - nI 0) (jz_d0 _) ?_
  refine fx_fors (σ := Int32 × fx_H) (fun i z => [(2, .int ((9 : Int32) - nI i)), (1, .int z.1), (0, .ref q)]) (fun z => z.2) (cqO q) ((0 : Int32), fx_wi (fx_wi h (q + 26) (0 : Int32).toNatClampNeg (-1 : Int32)) (q + 26) (1 : Int32).toNatClampNeg (-1 : Int32)) 10 (fun i z hi hz hK19 => ?_) ?_
  · skip
    have e19b : fx_sm h z.2 := by rw [hz]; exact fx_sm_t (h' := (fx_wi (fx_wi h (q + 26) (0 : Int32).toNatClampNeg (-1 : Int32)) (q + 26) (1 : Int32).toNatClampNeg (-1 : Int32))) (rfl : fx_sm h (fx_wi (fx_wi h (q + 26) (0 : Int32).toNatClampNeg (-1 : Int32)) (q + 26) (1 : Int32).toNatClampNeg (-1 : Int32))) (sm_its (fun z : Int32 × fx_H => z.2) (cqO q) ((0 : Int32), fx_wi (fx_wi h (q + 26) (0 : Int32).toNatClampNeg (-1 : Int32)) (q + 26) (1 : Int32).toNatClampNeg (-1 : Int32)) (fun n y => (mfr_cqO q n y).1) i)
    have hz3 := (show z.1 = 0 ∨ z.1 = 1 ∨ z.1 = 2 by rw [hz]; exact cqN q _ (Or.inl rfl) i)
    refine fx_iload_n 0 dq_MO_choosePlanes_19 rfl rfl ?_
    refine fx_if_lt (tgt := 261) dq_MO_choosePlanes_20 (by decide) (fun hc20 => absurd hc20 (jz_dn hi)) (fun hc20 => ?_)
    refine fx_aload_n 2 dq_MO_choosePlanes_23 rfl rfl ?_
    refine fx_bipush (v := 20) dq_MO_choosePlanes_24 (by decide) ?_
    refine fx_iload_n 0 dq_MO_choosePlanes_26 rfl rfl ?_
    refine fx_Vi2 ok sq_MO_201 ((fx_sm_s e19b _).trans hm.1) (c_MO_nth ok z.2 q 20 ((9 : Int32) - nI i) (by exact isM_sm e19b hm) (by decide)) (by decide) (Nat.le_of_ble_eq_true rfl) dq_MO_choosePlanes_27 ?_
    refine fx_istore_n dq_MO_choosePlanes_30 rfl (by decide) rfl ?_
    refine fx_iload_n 0 dq_MO_choosePlanes_31 rfl rfl ?_
    refine fx_if_lt (tgt := 255) dq_MO_choosePlanes_32 (by decide) (fun hc32 => ?_) (fun hc32 => ?_)
    · -- 32: jump
      refine fx_iinc 1 dq_MO_choosePlanes_255 rfl (jz_ds _ _) (by decide) rfl ?_
      refine fx_goto (tgt := 19) dq_MO_choosePlanes_258 (by decide) ?_
      refine fx_sub [0, 2, 3] rfl ?_
      rw [show cqO q i z = (z.1, z.2) from by rw [cqO, if_pos hc32]] at hK19
      exact hK19
    · -- 32: fall
      refine fx_iload_n 2 dq_MO_choosePlanes_35 rfl rfl ?_
      refine fx_iconst (v := 2) dq_MO_choosePlanes_36 (by decide) ?_
      refine fx_icmp_eq (tgt := 255) dq_MO_choosePlanes_37 (by decide) (fun hc37 => ?_) (fun hc37 => ?_)
      · -- 37: jump
        refine fx_iinc 1 dq_MO_choosePlanes_255 rfl (jz_ds _ _) (by decide) rfl ?_
        refine fx_goto (tgt := 19) dq_MO_choosePlanes_258 (by decide) ?_
        refine fx_sub [0, 2, 3] rfl ?_
        rw [show cqO q i z = (z.1, z.2) from by rw [cqO, if_neg hc32, if_pos hc37]] at hK19
        exact hK19
      · -- 37: fall
        refine fx_aload_n 3 dq_MO_choosePlanes_40 rfl rfl ?_
        refine fx_getr ok fq_MO_41 ((fx_sm_s e19b _).trans hm.1) dq_MO_choosePlanes_41 (by decide) ((fx_sm_r e19b _ _).trans (mo_alpha hm).1) ?_
        refine fx_iload_n 0 dq_MO_choosePlanes_44 rfl rfl ?_
        refine fx_iaload ok ((fx_sm_s e19b _).trans (mo_alpha hm).2) (nth_in (by decide) hc32) dq_MO_choosePlanes_45 ?_
        refine fx_bipush (v := 16) dq_MO_choosePlanes_46 (by decide) ?_
        refine fx_icmp_ge (tgt := 54) dq_MO_choosePlanes_48 (by decide) (fun hc48 => ?_) (fun hc48 => ?_)
        · -- 48: jump
          refine fx_aload_n 3 dq_MO_choosePlanes_54 rfl rfl ?_
          refine fx_iload_n 0 dq_MO_choosePlanes_55 rfl rfl ?_
          refine fx_Vv1 ok sq_MO_204 ((fx_sm_s e19b _).trans hm.1) (c_MO_show ok z.2 q (v_MO_nth z.2 q 20 ((9 : Int32) - nI i)) (by exact isM_sm e19b hm) (nth_in (by decide) hc32)) (by decide) (Nat.le_of_ble_eq_true rfl) dq_MO_choosePlanes_56 ?_
          have e56 : fx_sm h (k_MO_show z.2 q (v_MO_nth z.2 q 20 ((9 : Int32) - nI i))) := fx_sm_t (h' := z.2) e19b (sm_MO_show z.2 q (v_MO_nth z.2 q 20 ((9 : Int32) - nI i)))
          refine fx_aload_n 3 dq_MO_choosePlanes_59 rfl rfl ?_
          refine fx_geti ok fq_MO_141 ((fx_sm_s e56 _).trans hm.1) dq_MO_choosePlanes_60 (by decide) ?_
          refine fx_istore dq_MO_choosePlanes_63 (by decide) rfl ?_
          refine fx_aload_n 4 dq_MO_choosePlanes_65 rfl rfl ?_
          refine fx_geti ok fq_MO_147 ((fx_sm_s e56 _).trans hm.1) dq_MO_choosePlanes_66 (by decide) ?_
          refine fx_istore dq_MO_choosePlanes_69 (by decide) rfl ?_
          refine fx_aload_n 5 dq_MO_choosePlanes_71 rfl rfl ?_
          refine fx_geti ok fq_MO_144 ((fx_sm_s e56 _).trans hm.1) dq_MO_choosePlanes_72 (by decide) ?_
          refine fx_istore dq_MO_choosePlanes_75 (by decide) rfl ?_
          refine fx_aload_n 6 dq_MO_choosePlanes_77 rfl rfl ?_
          refine fx_geti ok fq_MO_150 ((fx_sm_s e56 _).trans hm.1) dq_MO_choosePlanes_78 (by decide) ?_
          refine fx_istore dq_MO_choosePlanes_81 (by decide) rfl ?_
          refine fx_aload_n 7 dq_MO_choosePlanes_83 rfl rfl ?_
          refine fx_geti ok fq_MO_144 ((fx_sm_s e56 _).trans hm.1) dq_MO_choosePlanes_84 (by decide) ?_
          refine fx_if_le (tgt := 108) dq_MO_choosePlanes_87 (by decide) (fun hc87 => ?_) (fun hc87 => ?_)
          · -- 87: jump
            refine fx_iconst (v := 0) dq_MO_choosePlanes_108 (by decide) ?_
            refine fx_istore dq_MO_choosePlanes_109 (by decide) rfl ?_
            refine fx_bipush (v := 20) dq_MO_choosePlanes_111 (by decide) ?_
            refine fx_istore dq_MO_choosePlanes_113 (by decide) rfl ?_
            refine fx_iload 0 dq_MO_choosePlanes_115 rfl ?_
            refine fx_bipush (v := 30) dq_MO_choosePlanes_117 (by decide) ?_
            refine fx_icmp_ge (tgt := 234) dq_MO_choosePlanes_119 (by decide) (fun hc119 => absurd hc119 (by decide)) (fun hc119 => ?_)
            refine fx_iload 1 dq_MO_choosePlanes_122 rfl ?_
            refine fx_if_eq (tgt := 234) dq_MO_choosePlanes_124 (by decide) (fun hc124 => ?_) (fun hc124 => absurd (by decide) hc124)
            refine fx_iload 1 dq_MO_choosePlanes_234 rfl ?_
            refine fx_if_ne (tgt := 242) dq_MO_choosePlanes_236 (by decide) (fun hc236 => absurd hc236 (by decide)) (fun hc236 => ?_)
            refine fx_goto (tgt := 255) dq_MO_choosePlanes_239 (by decide) ?_
            refine fx_iinc 7 dq_MO_choosePlanes_255 rfl (jz_ds _ _) (by decide) rfl ?_
            refine fx_goto (tgt := 19) dq_MO_choosePlanes_258 (by decide) ?_
            refine fx_sub [0, 8, 9] rfl ?_
            rw [show cqO q i z = (z.1, k_MO_show z.2 q (v_MO_nth z.2 q 20 ((9 : Int32) - nI i))) from by rw [cqO, if_neg hc32, if_neg hc37, if_pos hc48, if_pos hc87]] at hK19
            exact hK19
          · -- 87: fall
            refine fx_aload_n 7 dq_MO_choosePlanes_90 rfl rfl ?_
            refine fx_geti ok fq_MO_144 ((fx_sm_s e56 _).trans hm.1) dq_MO_choosePlanes_91 (by decide) ?_
            refine fx_aload_n 7 dq_MO_choosePlanes_94 rfl rfl ?_
            refine fx_geti ok fq_MO_150 ((fx_sm_s e56 _).trans hm.1) dq_MO_choosePlanes_95 (by decide) ?_
            refine fx_imul dq_MO_choosePlanes_98 ?_
            refine fx_bipush (v := 24) dq_MO_choosePlanes_99 (by decide) ?_
            refine fx_icmp_gt (tgt := 108) dq_MO_choosePlanes_101 (by decide) (fun hc101 => ?_) (fun hc101 => ?_)
            · -- 101: jump
              refine fx_iconst (v := 0) dq_MO_choosePlanes_108 (by decide) ?_
              refine fx_istore dq_MO_choosePlanes_109 (by decide) rfl ?_
              refine fx_bipush (v := 20) dq_MO_choosePlanes_111 (by decide) ?_
              refine fx_istore dq_MO_choosePlanes_113 (by decide) rfl ?_
              refine fx_iload 0 dq_MO_choosePlanes_115 rfl ?_
              refine fx_bipush (v := 30) dq_MO_choosePlanes_117 (by decide) ?_
              refine fx_icmp_ge (tgt := 234) dq_MO_choosePlanes_119 (by decide) (fun hc119 => absurd hc119 (by decide)) (fun hc119 => ?_)
              refine fx_iload 1 dq_MO_choosePlanes_122 rfl ?_
              refine fx_if_eq (tgt := 234) dq_MO_choosePlanes_124 (by decide) (fun hc124 => ?_) (fun hc124 => absurd (by decide) hc124)
              refine fx_iload 1 dq_MO_choosePlanes_234 rfl ?_
              refine fx_if_ne (tgt := 242) dq_MO_choosePlanes_236 (by decide) (fun hc236 => absurd hc236 (by decide)) (fun hc236 => ?_)
              refine fx_goto (tgt := 255) dq_MO_choosePlanes_239 (by decide) ?_
              refine fx_iinc 7 dq_MO_choosePlanes_255 rfl (jz_ds _ _) (by decide) rfl ?_
              refine fx_goto (tgt := 19) dq_MO_choosePlanes_258 (by decide) ?_
              refine fx_sub [0, 8, 9] rfl ?_
              rw [show cqO q i z = (z.1, k_MO_show z.2 q (v_MO_nth z.2 q 20 ((9 : Int32) - nI i))) from by rw [cqO, if_neg hc32, if_neg hc37, if_pos hc48, if_neg hc87, if_pos hc101]] at hK19
              exact hK19
            · -- 101: fall
              refine fx_iconst (v := 1) dq_MO_choosePlanes_104 (by decide) ?_
              refine fx_goto (tgt := 109) dq_MO_choosePlanes_105 (by decide) ?_
              refine fx_istore dq_MO_choosePlanes_109 (by decide) rfl ?_
              refine fx_bipush (v := 20) dq_MO_choosePlanes_111 (by decide) ?_
              refine fx_istore dq_MO_choosePlanes_113 (by decide) rfl ?_
              refine fx_lp (σ := Int32 × Int32 × fx_H) (ex := 234) (fun u => [(9, .int u.2.1), (8, .int u.1), (7, .int (fx_i (k_MO_show z.2 q (v_MO_nth z.2 q 20 ((9 : Int32) - nI i))) q 41)), (6, .int (fx_i (k_MO_show z.2 q (v_MO_nth z.2 q 20 ((9 : Int32) - nI i))) q 40)), (5, .int (fx_i (k_MO_show z.2 q (v_MO_nth z.2 q 20 ((9 : Int32) - nI i))) q 39)), (4, .int (fx_i (k_MO_show z.2 q (v_MO_nth z.2 q 20 ((9 : Int32) - nI i))) q 38)), (3, .int (v_MO_nth z.2 q 20 ((9 : Int32) - nI i))), (2, .int ((9 : Int32) - nI i)), (1, .int z.1), (0, .ref q)]) (fun u => u.2.2) (cqI q (v_MO_nth z.2 q 20 ((9 : Int32) - nI i)) (fx_i (k_MO_show z.2 q (v_MO_nth z.2 q 20 ((9 : Int32) - nI i))) q 38) (fx_i (k_MO_show z.2 q (v_MO_nth z.2 q 20 ((9 : Int32) - nI i))) q 39) (fx_i (k_MO_show z.2 q (v_MO_nth z.2 q 20 ((9 : Int32) - nI i))) q 40) (fx_i (k_MO_show z.2 q (v_MO_nth z.2 q 20 ((9 : Int32) - nI i))) q 41)) (fun m u => fx_sm h u.2.2 ∧ ∃ i, u.2.1 = nI (20 + i) ∧ i + m = 10) ((1 : Int32), (20 : Int32), k_MO_show z.2 q (v_MO_nth z.2 q 20 ((9 : Int32) - nI i))) 10 ⟨e56, 0, rfl, rfl⟩ (hP_cqI h q _ _ _ _ _) (fun m115 u hp115 hb115 hx115 hz115 => ?_) (fun m115 hp115 hn115 => ?_)
              · skip
                refine fx_iload 0 dq_MO_choosePlanes_115 rfl ?_
                refine fx_bipush (v := 30) dq_MO_choosePlanes_117 (by decide) ?_
                refine fx_icmp_ge (tgt := 234) dq_MO_choosePlanes_119 (by decide) (fun hc119 => ?_) (fun hc119 => ?_)
                · -- 119: jump
                  refine fx_sub [0, 1, 2, 3, 4, 5, 6, 7, 8, 9] rfl ?_
                  exact hx115 (by rw [cqI, if_pos hc119])
                · -- 119: fall
                  refine fx_iload 1 dq_MO_choosePlanes_122 rfl ?_
                  refine fx_if_eq (tgt := 234) dq_MO_choosePlanes_124 (by decide) (fun hc124 => ?_) (fun hc124 => ?_)
                  · -- 124: jump
                    refine fx_sub [0, 1, 2, 3, 4, 5, 6, 7, 8, 9] rfl ?_
                    exact hx115 (by rw [cqI, if_neg hc119, if_pos hc124])
                  · -- 124: fall
                    refine fx_iload 0 dq_MO_choosePlanes_127 rfl ?_
                    refine fx_iload_n 6 dq_MO_choosePlanes_129 rfl rfl ?_
                    refine fx_icmp_eq (tgt := 228) dq_MO_choosePlanes_130 (by decide) (fun hc130 => ?_) (fun hc130 => ?_)
                    · -- 130: jump
                      refine fx_iinc 0 dq_MO_choosePlanes_228 rfl rfl (by decide) rfl ?_
                      refine fx_goto (tgt := 115) dq_MO_choosePlanes_231 (by decide) ?_
                      refine fx_sub [0, 1, 2, 3, 4, 5, 6, 7, 8, 9] rfl ?_
                      exact hb115 (u.1, (u.2.1 + Int32.ofInt (1)), u.2.2) (by rw [cqI, if_neg hc119, if_neg hc124, if_pos hc130])
                    · -- 130: fall
                      refine fx_aload_n 9 dq_MO_choosePlanes_133 rfl rfl ?_
                      refine fx_getr ok fq_MO_29 ((fx_sm_s hp115.1 _).trans hm.1) dq_MO_choosePlanes_134 (by decide) ((fx_sm_r hp115.1 _ _).trans (mo_there hm).1) ?_
                      refine fx_iload 0 dq_MO_choosePlanes_137 rfl ?_
                      refine fx_baload ok ((fx_sm_s hp115.1 _).trans (mo_there hm).2) (cq_in hp115.2 hc119) dq_MO_choosePlanes_139 ?_
                      refine fx_if_eq (tgt := 228) dq_MO_choosePlanes_140 (by decide) (fun hc140 => ?_) (fun hc140 => ?_)
                      · -- 140: jump
                        refine fx_iinc 0 dq_MO_choosePlanes_228 rfl rfl (by decide) rfl ?_
                        refine fx_goto (tgt := 115) dq_MO_choosePlanes_231 (by decide) ?_
                        refine fx_sub [0, 1, 2, 3, 4, 5, 6, 7, 8, 9] rfl ?_
                        exact hb115 (u.1, (u.2.1 + Int32.ofInt (1)), u.2.2) (by rw [cqI, if_neg hc119, if_neg hc124, if_neg hc130, if_pos hc140])
                      · -- 140: fall
                        refine fx_aload_n 9 dq_MO_choosePlanes_143 rfl rfl ?_
                        refine fx_iload 0 dq_MO_choosePlanes_144 rfl ?_
                        refine fx_iload_n 6 dq_MO_choosePlanes_146 rfl rfl ?_
                        refine fx_Vi2 ok sq_MO_178 ((fx_sm_s hp115.1 _).trans hm.1) (c_MO_isAbove ok u.2.2 q u.2.1 (v_MO_nth z.2 q 20 ((9 : Int32) - nI i)) (by exact isM_sm hp115.1 hm) (cq_in hp115.2 hc119) (nth_in (by decide) hc32)) (by decide) (Nat.le_of_ble_eq_true rfl) dq_MO_choosePlanes_147 ?_
                        refine fx_if_ne (tgt := 156) dq_MO_choosePlanes_150 (by decide) (fun hc150 => ?_) (fun hc150 => ?_)
                        · -- 150: jump
                          refine fx_aload_n 9 dq_MO_choosePlanes_156 rfl rfl ?_
                          refine fx_iload 0 dq_MO_choosePlanes_157 rfl ?_
                          refine fx_Vv1 ok sq_MO_204 ((fx_sm_s hp115.1 _).trans hm.1) (c_MO_show ok u.2.2 q u.2.1 (by exact isM_sm hp115.1 hm) (cq_in hp115.2 hc119)) (by decide) (Nat.le_of_ble_eq_true rfl) dq_MO_choosePlanes_159 ?_
                          have e159 : fx_sm h (k_MO_show u.2.2 q u.2.1) := fx_sm_t (h' := u.2.2) hp115.1 (sm_MO_show u.2.2 q u.2.1)
                          refine fx_aload_n 9 dq_MO_choosePlanes_162 rfl rfl ?_
                          refine fx_geti ok fq_MO_144 ((fx_sm_s e159 _).trans hm.1) dq_MO_choosePlanes_163 (by decide) ?_
                          refine fx_if_eq (tgt := 221) dq_MO_choosePlanes_166 (by decide) (fun hc166 => ?_) (fun hc166 => ?_)
                          · -- 166: jump
                            refine fx_iconst (v := 1) dq_MO_choosePlanes_221 (by decide) ?_
                            refine fx_goto (tgt := 226) dq_MO_choosePlanes_222 (by decide) ?_
                            refine fx_istore dq_MO_choosePlanes_226 (by decide) rfl ?_
                            refine fx_iinc 1 dq_MO_choosePlanes_228 rfl rfl (by decide) rfl ?_
                            refine fx_goto (tgt := 115) dq_MO_choosePlanes_231 (by decide) ?_
                            refine fx_sub [0, 1, 2, 3, 4, 5, 6, 7, 8, 9] rfl ?_
                            exact hb115 ((1 : Int32), (u.2.1 + Int32.ofInt (1)), k_MO_show u.2.2 q u.2.1) (by rw [cqI, if_neg hc119, if_neg hc124, if_neg hc130, if_neg hc140, if_neg hc150, if_pos hc166])
                          · -- 166: fall
                            refine fx_aload_n 9 dq_MO_choosePlanes_169 rfl rfl ?_
                            refine fx_geti ok fq_MO_141 ((fx_sm_s e159 _).trans hm.1) dq_MO_choosePlanes_170 (by decide) ?_
                            refine fx_iload 5 dq_MO_choosePlanes_173 rfl ?_
                            refine fx_iload 3 dq_MO_choosePlanes_175 rfl ?_
                            refine fx_iadd dq_MO_choosePlanes_177 ?_
                            refine fx_icmp_ge (tgt := 221) dq_MO_choosePlanes_178 (by decide) (fun hc178 => ?_) (fun hc178 => ?_)
                            · -- 178: jump
                              refine fx_iconst (v := 1) dq_MO_choosePlanes_221 (by decide) ?_
                              refine fx_goto (tgt := 226) dq_MO_choosePlanes_222 (by decide) ?_
                              refine fx_istore dq_MO_choosePlanes_226 (by decide) rfl ?_
                              refine fx_iinc 1 dq_MO_choosePlanes_228 rfl rfl (by decide) rfl ?_
                              refine fx_goto (tgt := 115) dq_MO_choosePlanes_231 (by decide) ?_
                              refine fx_sub [0, 1, 2, 3, 4, 5, 6, 7, 8, 9] rfl ?_
                              exact hb115 ((1 : Int32), (u.2.1 + Int32.ofInt (1)), k_MO_show u.2.2 q u.2.1) (by rw [cqI, if_neg hc119, if_neg hc124, if_neg hc130, if_neg hc140, if_neg hc150, if_neg hc166, if_pos hc178])
                            · -- 178: fall
                              refine fx_iload 5 dq_MO_choosePlanes_181 rfl ?_
                              refine fx_aload_n 9 dq_MO_choosePlanes_183 rfl rfl ?_
                              refine fx_geti ok fq_MO_141 ((fx_sm_s e159 _).trans hm.1) dq_MO_choosePlanes_184 (by decide) ?_
                              refine fx_aload_n 9 dq_MO_choosePlanes_187 rfl rfl ?_
                              refine fx_geti ok fq_MO_144 ((fx_sm_s e159 _).trans hm.1) dq_MO_choosePlanes_188 (by decide) ?_
                              refine fx_iadd dq_MO_choosePlanes_191 ?_
                              refine fx_icmp_ge (tgt := 221) dq_MO_choosePlanes_192 (by decide) (fun hc192 => ?_) (fun hc192 => ?_)
                              · -- 192: jump
                                refine fx_iconst (v := 1) dq_MO_choosePlanes_221 (by decide) ?_
                                refine fx_goto (tgt := 226) dq_MO_choosePlanes_222 (by decide) ?_
                                refine fx_istore dq_MO_choosePlanes_226 (by decide) rfl ?_
                                refine fx_iinc 1 dq_MO_choosePlanes_228 rfl rfl (by decide) rfl ?_
                                refine fx_goto (tgt := 115) dq_MO_choosePlanes_231 (by decide) ?_
                                refine fx_sub [0, 1, 2, 3, 4, 5, 6, 7, 8, 9] rfl ?_
                                exact hb115 ((1 : Int32), (u.2.1 + Int32.ofInt (1)), k_MO_show u.2.2 q u.2.1) (by rw [cqI, if_neg hc119, if_neg hc124, if_neg hc130, if_neg hc140, if_neg hc150, if_neg hc166, if_neg hc178, if_pos hc192])
                              · -- 192: fall
                                refine fx_aload_n 9 dq_MO_choosePlanes_195 rfl rfl ?_
                                refine fx_geti ok fq_MO_147 ((fx_sm_s e159 _).trans hm.1) dq_MO_choosePlanes_196 (by decide) ?_
                                refine fx_iload 4 dq_MO_choosePlanes_199 rfl ?_
                                refine fx_iload 2 dq_MO_choosePlanes_201 rfl ?_
                                refine fx_iadd dq_MO_choosePlanes_203 ?_
                                refine fx_icmp_ge (tgt := 221) dq_MO_choosePlanes_204 (by decide) (fun hc204 => ?_) (fun hc204 => ?_)
                                · -- 204: jump
                                  refine fx_iconst (v := 1) dq_MO_choosePlanes_221 (by decide) ?_
                                  refine fx_goto (tgt := 226) dq_MO_choosePlanes_222 (by decide) ?_
                                  refine fx_istore dq_MO_choosePlanes_226 (by decide) rfl ?_
                                  refine fx_iinc 1 dq_MO_choosePlanes_228 rfl rfl (by decide) rfl ?_
                                  refine fx_goto (tgt := 115) dq_MO_choosePlanes_231 (by decide) ?_
                                  refine fx_sub [0, 1, 2, 3, 4, 5, 6, 7, 8, 9] rfl ?_
                                  exact hb115 ((1 : Int32), (u.2.1 + Int32.ofInt (1)), k_MO_show u.2.2 q u.2.1) (by rw [cqI, if_neg hc119, if_neg hc124, if_neg hc130, if_neg hc140, if_neg hc150, if_neg hc166, if_neg hc178, if_neg hc192, if_pos hc204])
                                · -- 204: fall
                                  refine fx_iload 4 dq_MO_choosePlanes_207 rfl ?_
                                  refine fx_aload_n 9 dq_MO_choosePlanes_209 rfl rfl ?_
                                  refine fx_geti ok fq_MO_147 ((fx_sm_s e159 _).trans hm.1) dq_MO_choosePlanes_210 (by decide) ?_
                                  refine fx_aload_n 9 dq_MO_choosePlanes_213 rfl rfl ?_
                                  refine fx_geti ok fq_MO_150 ((fx_sm_s e159 _).trans hm.1) dq_MO_choosePlanes_214 (by decide) ?_
                                  refine fx_iadd dq_MO_choosePlanes_217 ?_
                                  refine fx_icmp_lt (tgt := 225) dq_MO_choosePlanes_218 (by decide) (fun hc218 => ?_) (fun hc218 => ?_)
                                  · -- 218: jump
                                    refine fx_iconst (v := 0) dq_MO_choosePlanes_225 (by decide) ?_
                                    refine fx_istore dq_MO_choosePlanes_226 (by decide) rfl ?_
                                    refine fx_iinc 1 dq_MO_choosePlanes_228 rfl rfl (by decide) rfl ?_
                                    refine fx_goto (tgt := 115) dq_MO_choosePlanes_231 (by decide) ?_
                                    refine fx_sub [0, 1, 2, 3, 4, 5, 6, 7, 8, 9] rfl ?_
                                    exact hb115 ((0 : Int32), (u.2.1 + Int32.ofInt (1)), k_MO_show u.2.2 q u.2.1) (by rw [cqI, if_neg hc119, if_neg hc124, if_neg hc130, if_neg hc140, if_neg hc150, if_neg hc166, if_neg hc178, if_neg hc192, if_neg hc204, if_pos hc218])
                                  · -- 218: fall
                                    refine fx_iconst (v := 1) dq_MO_choosePlanes_221 (by decide) ?_
                                    refine fx_goto (tgt := 226) dq_MO_choosePlanes_222 (by decide) ?_
                                    refine fx_istore dq_MO_choosePlanes_226 (by decide) rfl ?_
                                    refine fx_iinc 1 dq_MO_choosePlanes_228 rfl rfl (by decide) rfl ?_
                                    refine fx_goto (tgt := 115) dq_MO_choosePlanes_231 (by decide) ?_
                                    refine fx_sub [0, 1, 2, 3, 4, 5, 6, 7, 8, 9] rfl ?_
                                    exact hb115 ((1 : Int32), (u.2.1 + Int32.ofInt (1)), k_MO_show u.2.2 q u.2.1) (by rw [cqI, if_neg hc119, if_neg hc124, if_neg hc130, if_neg hc140, if_neg hc150, if_neg hc166, if_neg hc178, if_neg hc192, if_neg hc204, if_neg hc218])
                        · -- 150: fall
                          refine fx_goto (tgt := 228) dq_MO_choosePlanes_153 (by decide) ?_
                          refine fx_iinc 0 dq_MO_choosePlanes_228 rfl rfl (by decide) rfl ?_
                          refine fx_goto (tgt := 115) dq_MO_choosePlanes_231 (by decide) ?_
                          refine fx_sub [0, 1, 2, 3, 4, 5, 6, 7, 8, 9] rfl ?_
                          exact hb115 (u.1, (u.2.1 + Int32.ofInt (1)), u.2.2) (by rw [cqI, if_neg hc119, if_neg hc124, if_neg hc130, if_neg hc140, if_pos hc150])
              · show fx_X g mq_MO_choosePlanes 234 [(9, .int ((lp (cqI q (v_MO_nth z.2 q 20 ((9 : Int32) - nI i)) (fx_i (k_MO_show z.2 q (v_MO_nth z.2 q 20 ((9 : Int32) - nI i))) q 38) (fx_i (k_MO_show z.2 q (v_MO_nth z.2 q 20 ((9 : Int32) - nI i))) q 39) (fx_i (k_MO_show z.2 q (v_MO_nth z.2 q 20 ((9 : Int32) - nI i))) q 40) (fx_i (k_MO_show z.2 q (v_MO_nth z.2 q 20 ((9 : Int32) - nI i))) q 41)) 10 ((1 : Int32), (20 : Int32), k_MO_show z.2 q (v_MO_nth z.2 q 20 ((9 : Int32) - nI i)))).2.1)), (8, .int ((lp (cqI q (v_MO_nth z.2 q 20 ((9 : Int32) - nI i)) (fx_i (k_MO_show z.2 q (v_MO_nth z.2 q 20 ((9 : Int32) - nI i))) q 38) (fx_i (k_MO_show z.2 q (v_MO_nth z.2 q 20 ((9 : Int32) - nI i))) q 39) (fx_i (k_MO_show z.2 q (v_MO_nth z.2 q 20 ((9 : Int32) - nI i))) q 40) (fx_i (k_MO_show z.2 q (v_MO_nth z.2 q 20 ((9 : Int32) - nI i))) q 41)) 10 ((1 : Int32), (20 : Int32), k_MO_show z.2 q (v_MO_nth z.2 q 20 ((9 : Int32) - nI i)))).1)), (7, .int (fx_i (k_MO_show z.2 q (v_MO_nth z.2 q 20 ((9 : Int32) - nI i))) q 41)), (6, .int (fx_i (k_MO_show z.2 q (v_MO_nth z.2 q 20 ((9 : Int32) - nI i))) q 40)), (5, .int (fx_i (k_MO_show z.2 q (v_MO_nth z.2 q 20 ((9 : Int32) - nI i))) q 39)), (4, .int (fx_i (k_MO_show z.2 q (v_MO_nth z.2 q 20 ((9 : Int32) - nI i))) q 38)), (3, .int (v_MO_nth z.2 q 20 ((9 : Int32) - nI i))), (2, .int ((9 : Int32) - nI i)), (1, .int z.1), (0, .ref q)] [] ((lp (cqI q (v_MO_nth z.2 q 20 ((9 : Int32) - nI i)) (fx_i (k_MO_show z.2 q (v_MO_nth z.2 q 20 ((9 : Int32) - nI i))) q 38) (fx_i (k_MO_show z.2 q (v_MO_nth z.2 q 20 ((9 : Int32) - nI i))) q 39) (fx_i (k_MO_show z.2 q (v_MO_nth z.2 q 20 ((9 : Int32) - nI i))) q 40) (fx_i (k_MO_show z.2 q (v_MO_nth z.2 q 20 ((9 : Int32) - nI i))) q 41)) 10 ((1 : Int32), (20 : Int32), k_MO_show z.2 q (v_MO_nth z.2 q 20 ((9 : Int32) - nI i)))).2.2) _ 0 0
                have e115x : fx_sm h ((lp (cqI q (v_MO_nth z.2 q 20 ((9 : Int32) - nI i)) (fx_i (k_MO_show z.2 q (v_MO_nth z.2 q 20 ((9 : Int32) - nI i))) q 38) (fx_i (k_MO_show z.2 q (v_MO_nth z.2 q 20 ((9 : Int32) - nI i))) q 39) (fx_i (k_MO_show z.2 q (v_MO_nth z.2 q 20 ((9 : Int32) - nI i))) q 40) (fx_i (k_MO_show z.2 q (v_MO_nth z.2 q 20 ((9 : Int32) - nI i))) q 41)) 10 ((1 : Int32), (20 : Int32), k_MO_show z.2 q (v_MO_nth z.2 q 20 ((9 : Int32) - nI i)))).2.2) := hp115.1
                refine fx_iload 1 dq_MO_choosePlanes_234 rfl ?_
                refine fx_if_ne (tgt := 242) dq_MO_choosePlanes_236 (by decide) (fun hc236 => ?_) (fun hc236 => ?_)
                · -- 236: jump
                  refine fx_aload_n 9 dq_MO_choosePlanes_242 rfl rfl ?_
                  refine fx_getr ok fq_MO_90 ((fx_sm_s e115x _).trans hm.1) dq_MO_choosePlanes_243 (by decide) ((fx_sm_r e115x _ _).trans (mo_planes hm).1) ?_
                  refine fx_iload_n 8 dq_MO_choosePlanes_246 rfl rfl ?_
                  refine fx_iload_n 6 dq_MO_choosePlanes_247 rfl rfl ?_
                  refine fx_bipush (v := 20) dq_MO_choosePlanes_248 (by decide) ?_
                  refine fx_isub dq_MO_choosePlanes_250 ?_
                  refine fx_iastore ok ((fx_sm_s e115x _).trans (mo_planes hm).2) (n2_in hz3 hc37) dq_MO_choosePlanes_251 ?_
                  have e251w : fx_sm h (fx_wi ((lp (cqI q (v_MO_nth z.2 q 20 ((9 : Int32) - nI i)) (fx_i (k_MO_show z.2 q (v_MO_nth z.2 q 20 ((9 : Int32) - nI i))) q 38) (fx_i (k_MO_show z.2 q (v_MO_nth z.2 q 20 ((9 : Int32) - nI i))) q 39) (fx_i (k_MO_show z.2 q (v_MO_nth z.2 q 20 ((9 : Int32) - nI i))) q 40) (fx_i (k_MO_show z.2 q (v_MO_nth z.2 q 20 ((9 : Int32) - nI i))) q 41)) 10 ((1 : Int32), (20 : Int32), k_MO_show z.2 q (v_MO_nth z.2 q 20 ((9 : Int32) - nI i)))).2.2) (q + 26) z.1.toNatClampNeg ((v_MO_nth z.2 q 20 ((9 : Int32) - nI i)) - (20 : Int32))) := fx_sm_t (h' := ((lp (cqI q (v_MO_nth z.2 q 20 ((9 : Int32) - nI i)) (fx_i (k_MO_show z.2 q (v_MO_nth z.2 q 20 ((9 : Int32) - nI i))) q 38) (fx_i (k_MO_show z.2 q (v_MO_nth z.2 q 20 ((9 : Int32) - nI i))) q 39) (fx_i (k_MO_show z.2 q (v_MO_nth z.2 q 20 ((9 : Int32) - nI i))) q 40) (fx_i (k_MO_show z.2 q (v_MO_nth z.2 q 20 ((9 : Int32) - nI i))) q 41)) 10 ((1 : Int32), (20 : Int32), k_MO_show z.2 q (v_MO_nth z.2 q 20 ((9 : Int32) - nI i)))).2.2)) e115x (sm_wi _ _ _ _)
                  refine fx_iinc 8 dq_MO_choosePlanes_252 rfl rfl (by decide) rfl ?_
                  refine fx_iinc 8 dq_MO_choosePlanes_255 rfl (jz_ds _ _) (by decide) rfl ?_
                  refine fx_goto (tgt := 19) dq_MO_choosePlanes_258 (by decide) ?_
                  refine fx_sub [0, 1, 9] rfl ?_
                  rw [show cqO q i z = ((z.1 + Int32.ofInt (1)), fx_wi ((lp (cqI q (v_MO_nth z.2 q 20 ((9 : Int32) - nI i)) (fx_i (k_MO_show z.2 q (v_MO_nth z.2 q 20 ((9 : Int32) - nI i))) q 38) (fx_i (k_MO_show z.2 q (v_MO_nth z.2 q 20 ((9 : Int32) - nI i))) q 39) (fx_i (k_MO_show z.2 q (v_MO_nth z.2 q 20 ((9 : Int32) - nI i))) q 40) (fx_i (k_MO_show z.2 q (v_MO_nth z.2 q 20 ((9 : Int32) - nI i))) q 41)) 10 ((1 : Int32), (20 : Int32), k_MO_show z.2 q (v_MO_nth z.2 q 20 ((9 : Int32) - nI i)))).2.2) (q + 26) z.1.toNatClampNeg ((v_MO_nth z.2 q 20 ((9 : Int32) - nI i)) - (20 : Int32))) from by rw [cqO, if_neg hc32, if_neg hc37, if_pos hc48, if_neg hc87, if_neg hc101, if_neg hc236]] at hK19
                  exact hK19
                · -- 236: fall
                  refine fx_goto (tgt := 255) dq_MO_choosePlanes_239 (by decide) ?_
                  refine fx_iinc 7 dq_MO_choosePlanes_255 rfl (jz_ds _ _) (by decide) rfl ?_
                  refine fx_goto (tgt := 19) dq_MO_choosePlanes_258 (by decide) ?_
                  refine fx_sub [0, 8, 9] rfl ?_
                  rw [show cqO q i z = (z.1, (lp (cqI q (v_MO_nth z.2 q 20 ((9 : Int32) - nI i)) (fx_i (k_MO_show z.2 q (v_MO_nth z.2 q 20 ((9 : Int32) - nI i))) q 38) (fx_i (k_MO_show z.2 q (v_MO_nth z.2 q 20 ((9 : Int32) - nI i))) q 39) (fx_i (k_MO_show z.2 q (v_MO_nth z.2 q 20 ((9 : Int32) - nI i))) q 40) (fx_i (k_MO_show z.2 q (v_MO_nth z.2 q 20 ((9 : Int32) - nI i))) q 41)) 10 ((1 : Int32), (20 : Int32), k_MO_show z.2 q (v_MO_nth z.2 q 20 ((9 : Int32) - nI i)))).2.2) from by rw [cqO, if_neg hc32, if_neg hc37, if_pos hc48, if_neg hc87, if_neg hc101, if_pos hc236]] at hK19
                  exact hK19
        · -- 48: fall
          refine fx_goto (tgt := 255) dq_MO_choosePlanes_51 (by decide) ?_
          refine fx_iinc 1 dq_MO_choosePlanes_255 rfl (jz_ds _ _) (by decide) rfl ?_
          refine fx_goto (tgt := 19) dq_MO_choosePlanes_258 (by decide) ?_
          refine fx_sub [0, 2, 3] rfl ?_
          rw [show cqO q i z = (z.1, z.2) from by rw [cqO, if_neg hc32, if_neg hc37, if_neg hc48]] at hK19
          exact hK19
  · show fx_X g mq_MO_choosePlanes 19 [(2, .int ((9 : Int32) - nI 10)), (1, .int ((its (cqO q) ((0 : Int32), fx_wi (fx_wi h (q + 26) (0 : Int32).toNatClampNeg (-1 : Int32)) (q + 26) (1 : Int32).toNatClampNeg (-1 : Int32)) 10).1)), (0, .ref q)] [] ((its (cqO q) ((0 : Int32), fx_wi (fx_wi h (q + 26) (0 : Int32).toNatClampNeg (-1 : Int32)) (q + 26) (1 : Int32).toNatClampNeg (-1 : Int32)) 10).2) _ 0 0
    have e19x : fx_sm h ((its (cqO q) ((0 : Int32), fx_wi (fx_wi h (q + 26) (0 : Int32).toNatClampNeg (-1 : Int32)) (q + 26) (1 : Int32).toNatClampNeg (-1 : Int32)) 10).2) := fx_sm_t (h' := (fx_wi (fx_wi h (q + 26) (0 : Int32).toNatClampNeg (-1 : Int32)) (q + 26) (1 : Int32).toNatClampNeg (-1 : Int32))) (rfl : fx_sm h (fx_wi (fx_wi h (q + 26) (0 : Int32).toNatClampNeg (-1 : Int32)) (q + 26) (1 : Int32).toNatClampNeg (-1 : Int32))) (sm_its (fun z : Int32 × fx_H => z.2) (cqO q) ((0 : Int32), fx_wi (fx_wi h (q + 26) (0 : Int32).toNatClampNeg (-1 : Int32)) (q + 26) (1 : Int32).toNatClampNeg (-1 : Int32)) (fun n y => (mfr_cqO q n y).1) 10)
    refine fx_iload_n 0 dq_MO_choosePlanes_19 rfl rfl ?_
    refine fx_if_lt (tgt := 261) dq_MO_choosePlanes_20 (by decide) (fun hc20 => ?_) (fun hc20 => absurd (by decide) hc20)
    exact fx_vreturn rfl dq_MO_choosePlanes_261 ⟨rfl, rfl⟩
theorem mfr_choosePlanes (h : fx_H) (q : Nat) : mfr q [26] [38, 39, 40, 41] h (k_MO_choosePlanes h q) := by
  unfold k_MO_choosePlanes
  have h0 : mfr q [26] [38, 39, 40, 41] h (fx_wi (fx_wi h (q + 26) (0 : Int32).toNatClampNeg (-1 : Int32)) (q + 26) (1 : Int32).toNatClampNeg (-1 : Int32)) := mfr_wi (mfr_wi (mfr_rf _ _ _ _) (by decide)) (by decide)
  exact mfr_t h0 (its_inv (fun _ (z : Int32 × fx_H) => mfr q [26] [38, 39, 40, 41] (fx_wi (fx_wi h (q + 26) (0 : Int32).toNatClampNeg (-1 : Int32)) (q + 26) (1 : Int32).toNatClampNeg (-1 : Int32)) z.2) (cqO q) _ (mfr_rf _ _ _ _) 10 (fun i z _ hz => mfr_t hz (mfr_cqO q i z)) 10 (Nat.le_refl _))
