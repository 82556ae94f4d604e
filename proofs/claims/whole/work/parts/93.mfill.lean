/-! ===== the Model: fill, copy ===== -/
def fiI (q : Nat) (s x y co : Int32) (j : Nat) (i : Nat) (u : Int32 × fx_H) : Int32 × fx_H := if (v_MO_has u.2 q s (x + nI i) (y + nI j)) = 0 then (u.1, u.2) else ((u.1 + Int32.ofInt (1)), fx_wi u.2 (q + 17) ((((96 : Int32) * s) + ((fx_i u.2 (q + 3) s.toNatClampNeg) * (y + nI j))) + (x + nI i)).toNatClampNeg co)
theorem on_fiI (q : Nat) (s x y co : Int32) (j i : Nat) (u : Int32 × fx_H) : fx_on (q + 17) u.2 (fiI q s x y co j i u).2 := by
  unfold fiI
  split
  · exact fx_on_rf _ _
  · exact fx_on_wi _ _ _ _
def fiO (q : Nat) (s x y cs co : Int32) (j : Nat) (z : Int32 × fx_H) : Int32 × fx_H := (((its (fiI q s x y co j) (z.1, z.2) cs.toNatClampNeg).1), (its (fiI q s x y co j) (z.1, z.2) cs.toNatClampNeg).2)
theorem on_fiO (q : Nat) (s x y cs co : Int32) (j : Nat) (z : Int32 × fx_H) : fx_on (q + 17) z.2 (fiO q s x y cs co j z).2 := by
  unfold fiO
  exact on_its (fun u : Int32 × fx_H => u.2) (fiI q s x y co j) (z.1, z.2) (on_fiI q s x y co j) _
def v_MO_fill (h : fx_H) (q : Nat) (s x y cs rs co : Int32) : Int32 := if (v_MO_hasDraft h q s) = 0 then (0 : Int32) else if (v_MO_within h co (0 : Int32) (65535 : Int32)) = 0 then (0 : Int32) else if (v_MO_isArea h x y cs rs) = 0 then (0 : Int32) else ((its (fiO q s x y cs co) ((0 : Int32), fx_wi h q 0 (0 : Int32)) rs.toNatClampNeg).1)
def k_MO_fill (h : fx_H) (q : Nat) (s x y cs rs co : Int32) : fx_H := if (v_MO_hasDraft h q s) = 0 then fx_wi h q 0 (1 : Int32) else if (v_MO_within h co (0 : Int32) (65535 : Int32)) = 0 then fx_wi h q 0 (1 : Int32) else if (v_MO_isArea h x y cs rs) = 0 then fx_wi h q 0 (1 : Int32) else (its (fiO q s x y cs co) ((0 : Int32), fx_wi h q 0 (0 : Int32)) rs.toNatClampNeg).2
set_option maxRecDepth 100000 in
set_option maxHeartbeats 600000 in
theorem c_MO_fill {g : fx_G} (ok : fx_ok g) (h : fx_H) (q : Nat) (s x y cs rs co : Int32) (hm : isM h q) (hcr : mCR h q) : fx_C g mq_MO_fill [.ref q, .int s, .int x, .int y, .int cs, .int rs, .int co] h (fx_is (some (v_MO_fill h q s x y cs rs co)) (k_MO_fill h q s x y cs rs co)) 0 0 := by
  refine fx_body (by decide +kernel) (Nat.le_of_ble_eq_true rfl) ?_
  show fx_X g mq_MO_fill 0 [(0, .ref q), (1, .int s), (2, .int x), (3, .int y), (4, .int cs), (5, .int rs), (6, .int co)] [] h _ 0 0
  refine fx_aload_n 0 dq_MO_fill_0 rfl rfl ?_
  refine fx_aload_n 0 dq_MO_fill_1 rfl rfl ?_
  refine fx_iload_n 1 dq_MO_fill_2 rfl rfl ?_
  refine fx_Vi1 ok sq_MO_137 hm.1 (c_MO_hasDraft ok h q s (by exact hm)) (by decide) (Nat.le_of_ble_eq_true rfl) dq_MO_fill_3 ?_
  refine fx_if_eq (tgt := 36) dq_MO_fill_6 (by decide) (fun hc6 => ?_) (fun hc6 => ?_)
  · -- 6: jump
    refine fx_iconst (v := 1) dq_MO_fill_36 (by decide) ?_
    refine fx_puti ok fp_MO_126 hm.1 (by decide) dq_MO_fill_37 (Or.inl (by decide)) ?_
    refine fx_aload_n 0 dq_MO_fill_40 rfl rfl ?_
    refine fx_geti ok fq_MO_126 hm.1 dq_MO_fill_41 (by decide) ?_
    refine fx_eqt (v' := (1 : Int32)) (by rw [fx_i_wi, if_pos ⟨rfl, rfl⟩]) ?_
    refine fx_if_eq (tgt := 49) dq_MO_fill_44 (by decide) (fun hc44 => absurd hc44 (by decide)) (fun hc44 => ?_)
    refine fx_iconst (v := 0) dq_MO_fill_47 (by decide) ?_
    exact fx_ireturn rfl dq_MO_fill_48 ⟨by rw [v_MO_fill, if_pos hc6], by rw [k_MO_fill, if_pos hc6]⟩
  · -- 6: fall
    refine fx_iload 6 dq_MO_fill_9 rfl ?_
    refine fx_iconst (v := 0) dq_MO_fill_11 (by decide) ?_
    refine fx_ldc ok kq_MO_157 dq_MO_fill_12 ?_
    refine fx_Si3 ok sq_MO_129 (c_MO_within ok h co (0 : Int32) (65535 : Int32) ) (by decide) (Nat.le_of_ble_eq_true rfl) dq_MO_fill_14 ?_
    refine fx_if_eq (tgt := 36) dq_MO_fill_17 (by decide) (fun hc17 => ?_) (fun hc17 => ?_)
    · -- 17: jump
      refine fx_iconst (v := 1) dq_MO_fill_36 (by decide) ?_
      refine fx_puti ok fp_MO_126 hm.1 (by decide) dq_MO_fill_37 (Or.inl (by decide)) ?_
      refine fx_aload_n 0 dq_MO_fill_40 rfl rfl ?_
      refine fx_geti ok fq_MO_126 hm.1 dq_MO_fill_41 (by decide) ?_
      refine fx_eqt (v' := (1 : Int32)) (by rw [fx_i_wi, if_pos ⟨rfl, rfl⟩]) ?_
      refine fx_if_eq (tgt := 49) dq_MO_fill_44 (by decide) (fun hc44 => absurd hc44 (by decide)) (fun hc44 => ?_)
      refine fx_iconst (v := 0) dq_MO_fill_47 (by decide) ?_
      exact fx_ireturn rfl dq_MO_fill_48 ⟨by rw [v_MO_fill, if_neg hc6, if_pos hc17], by rw [k_MO_fill, if_neg hc6, if_pos hc17]⟩
    · -- 17: fall
      refine fx_iload_n 2 dq_MO_fill_20 rfl rfl ?_
      refine fx_iload_n 3 dq_MO_fill_21 rfl rfl ?_
      refine fx_iload 4 dq_MO_fill_22 rfl ?_
      refine fx_iload 5 dq_MO_fill_24 rfl ?_
      refine fx_Si4 ok sq_MO_153 (c_MO_isArea ok h x y cs rs ) (by decide) (Nat.le_of_ble_eq_true rfl) dq_MO_fill_26 ?_
      refine fx_if_eq (tgt := 36) dq_MO_fill_29 (by decide) (fun hc29 => ?_) (fun hc29 => ?_)
      · -- 29: jump
        refine fx_iconst (v := 1) dq_MO_fill_36 (by decide) ?_
        refine fx_puti ok fp_MO_126 hm.1 (by decide) dq_MO_fill_37 (Or.inl (by decide)) ?_
        refine fx_aload_n 0 dq_MO_fill_40 rfl rfl ?_
        refine fx_geti ok fq_MO_126 hm.1 dq_MO_fill_41 (by decide) ?_
        refine fx_eqt (v' := (1 : Int32)) (by rw [fx_i_wi, if_pos ⟨rfl, rfl⟩]) ?_
        refine fx_if_eq (tgt := 49) dq_MO_fill_44 (by decide) (fun hc44 => absurd hc44 (by decide)) (fun hc44 => ?_)
        refine fx_iconst (v := 0) dq_MO_fill_47 (by decide) ?_
        exact fx_ireturn rfl dq_MO_fill_48 ⟨by rw [v_MO_fill, if_neg hc6, if_neg hc17, if_pos hc29], by rw [k_MO_fill, if_neg hc6, if_neg hc17, if_pos hc29]⟩
      · -- 29: fall
        refine fx_iconst (v := 0) dq_MO_fill_32 (by decide) ?_
        refine fx_goto (tgt := 37) dq_MO_fill_33 (by decide) ?_
        refine fx_puti ok fp_MO_126 hm.1 (by decide) dq_MO_fill_37 (Or.inl (by decide)) ?_
        refine fx_aload_n 0 dq_MO_fill_40 rfl rfl ?_
        refine fx_geti ok fq_MO_126 hm.1 dq_MO_fill_41 (by decide) ?_
        refine fx_eqt (v' := (0 : Int32)) (by rw [fx_i_wi, if_pos ⟨rfl, rfl⟩]) ?_
        refine fx_if_eq (tgt := 49) dq_MO_fill_44 (by decide) (fun hc44 => ?_) (fun hc44 => absurd (by decide) hc44)
        refine fx_iconst (v := 0) dq_MO_fill_49 (by decide) ?_
        refine fx_istore dq_MO_fill_50 (by decide) rfl ?_
        refine fx_iload_n 4 dq_MO_fill_52 rfl rfl ?_
        refine fx_istore dq_MO_fill_53 (by decide) rfl ?_
        refine fx_eqv (v' := y + nI 0) (jz_0 _).symm ?_
        refine fx_fors (σ := Int32 × fx_H) (fun j z => [(8, .int (y + nI j)), (7, .int z.1), (0, .ref q), (1, .int s), (2, .int x), (3, .int y), (4, .int cs), (5, .int rs), (6, .int co)]) (fun z => z.2) (fiO q s x y cs co) ((0 : Int32), fx_wi h q 0 (0 : Int32)) rs.toNatClampNeg (fun j z hj hz hK55 => ?_) ?_
        · skip
          have o55b : fx_on (q + 17) (fx_wi h q 0 (0 : Int32)) z.2 := by rw [hz]; exact on_its (fun z : Int32 × fx_H => z.2) (fiO q s x y cs co) ((0 : Int32), fx_wi h q 0 (0 : Int32)) (on_fiO q s x y cs co) j
          have e55b : fx_sm h z.2 := fx_sm_t (h' := (fx_wi h q 0 (0 : Int32))) (rfl : fx_sm h (fx_wi h q 0 (0 : Int32))) o55b.1
          have hcO := mCR_on o55b (by decide) (mCR_w (j := 0) (v := 0) hcr)
          refine fx_iload 0 dq_MO_fill_55 rfl ?_
          refine fx_iload_n 5 dq_MO_fill_57 rfl rfl ?_
          refine fx_iload 7 dq_MO_fill_58 rfl ?_
          refine fx_iadd dq_MO_fill_60 ?_
          refine fx_icmp_ge (tgt := 130) dq_MO_fill_61 (by decide) (fun hc61 => absurd hc61 (jz_ge (ar_y hc29) (ar_r hc29) hj)) (fun hc61 => ?_)
          refine fx_iload_n 4 dq_MO_fill_64 rfl rfl ?_
          refine fx_istore dq_MO_fill_65 (by decide) rfl ?_
          refine fx_eqv (v' := x + nI 0) (jz_0 _).symm ?_
          refine fx_fors (σ := Int32 × fx_H) (fun i u => [(9, .int (x + nI i)), (8, .int (y + nI j)), (7, .int u.1), (0, .ref q), (1, .int s), (2, .int x), (3, .int y), (4, .int cs), (5, .int rs), (6, .int co)]) (fun u => u.2) (fiI q s x y co j) (z.1, z.2) cs.toNatClampNeg (fun i u hi hu hK67 => ?_) ?_
          · skip
            have o67b : fx_on (q + 17) z.2 u.2 := by rw [hu]; exact on_its (fun u : Int32 × fx_H => u.2) (fiI q s x y co j) (z.1, z.2) (on_fiI q s x y co j) i
            have e67b : fx_sm h u.2 := fx_sm_t (h' := z.2) e55b o67b.1
            have hcI := mCR_on o67b (by decide) hcO
            refine fx_iload 0 dq_MO_fill_67 rfl ?_
            refine fx_iload_n 5 dq_MO_fill_69 rfl rfl ?_
            refine fx_iload 7 dq_MO_fill_70 rfl ?_
            refine fx_iadd dq_MO_fill_72 ?_
            refine fx_icmp_ge (tgt := 124) dq_MO_fill_73 (by decide) (fun hc73 => absurd hc73 (jz_ge (ar_x hc29) (ar_c hc29) hi)) (fun hc73 => ?_)
            refine fx_aload_n 3 dq_MO_fill_76 rfl rfl ?_
            refine fx_iload_n 4 dq_MO_fill_77 rfl rfl ?_
            refine fx_iload 0 dq_MO_fill_78 rfl ?_
            refine fx_iload 1 dq_MO_fill_80 rfl ?_
            refine fx_Vi3 ok sq_MO_158 ((fx_sm_s e67b _).trans hm.1) (c_MO_has ok u.2 q s (x + nI i) (y + nI j) (by exact isM_sm e67b hm) (mo_has_in hc6)) (by decide) (Nat.le_of_ble_eq_true rfl) dq_MO_fill_82 ?_
            refine fx_if_ne (tgt := 91) dq_MO_fill_85 (by decide) (fun hc85 => ?_) (fun hc85 => ?_)
            · -- 85: jump
              refine fx_aload_n 3 dq_MO_fill_91 rfl rfl ?_
              refine fx_getr ok fq_MO_59 ((fx_sm_s e67b _).trans hm.1) dq_MO_fill_92 (by decide) ((fx_sm_r e67b _ _).trans (mo_pixels hm).1) ?_
              refine fx_bipush (v := 96) dq_MO_fill_95 (by decide) ?_
              refine fx_iload_n 4 dq_MO_fill_97 rfl rfl ?_
              refine fx_imul dq_MO_fill_98 ?_
              refine fx_aload_n 3 dq_MO_fill_99 rfl rfl ?_
              refine fx_getr ok fq_MO_17 ((fx_sm_s e67b _).trans hm.1) dq_MO_fill_100 (by decide) ((fx_sm_r e67b _ _).trans (mo_columns hm).1) ?_
              refine fx_iload_n 4 dq_MO_fill_103 rfl rfl ?_
              refine fx_iaload ok ((fx_sm_s e67b _).trans (mo_columns hm).2) (mo_has_in hc6) dq_MO_fill_104 ?_
              refine fx_iload 1 dq_MO_fill_105 rfl ?_
              refine fx_imul dq_MO_fill_107 ?_
              refine fx_iadd dq_MO_fill_108 ?_
              refine fx_iload 0 dq_MO_fill_109 rfl ?_
              refine fx_iadd dq_MO_fill_111 ?_
              refine fx_iload 9 dq_MO_fill_112 rfl ?_
              refine fx_iastore ok ((fx_sm_s e67b _).trans (mo_pixels hm).2) (fill_in (mo_has_in hc6) hcI hc85) dq_MO_fill_114 ?_
              have e114w : fx_sm h (fx_wi u.2 (q + 17) ((((96 : Int32) * s) + ((fx_i u.2 (q + 3) s.toNatClampNeg) * (y + nI j))) + (x + nI i)).toNatClampNeg co) := fx_sm_t (h' := u.2) e67b (sm_wi _ _ _ _)
              refine fx_iinc 2 dq_MO_fill_115 rfl rfl (by decide) rfl ?_
              refine fx_iinc 1 dq_MO_fill_118 rfl (jz_s _ _) (by decide) rfl ?_
              refine fx_goto (tgt := 67) dq_MO_fill_121 (by decide) ?_
              refine fx_sub [0, 2, 1, 3, 4, 5, 6, 7, 8, 9] rfl ?_
              rw [show fiI q s x y co j i u = ((u.1 + Int32.ofInt (1)), fx_wi u.2 (q + 17) ((((96 : Int32) * s) + ((fx_i u.2 (q + 3) s.toNatClampNeg) * (y + nI j))) + (x + nI i)).toNatClampNeg co) from by rw [fiI, if_neg hc85]] at hK67
              exact hK67
            · -- 85: fall
              refine fx_goto (tgt := 118) dq_MO_fill_88 (by decide) ?_
              refine fx_iinc 0 dq_MO_fill_118 rfl (jz_s _ _) (by decide) rfl ?_
              refine fx_goto (tgt := 67) dq_MO_fill_121 (by decide) ?_
              refine fx_sub [0, 1, 2, 3, 4, 5, 6, 7, 8, 9] rfl ?_
              rw [show fiI q s x y co j i u = (u.1, u.2) from by rw [fiI, if_pos hc85]] at hK67
              exact hK67
          · show fx_X g mq_MO_fill 67 [(9, .int (x + nI cs.toNatClampNeg)), (8, .int (y + nI j)), (7, .int ((its (fiI q s x y co j) (z.1, z.2) cs.toNatClampNeg).1)), (0, .ref q), (1, .int s), (2, .int x), (3, .int y), (4, .int cs), (5, .int rs), (6, .int co)] [] ((its (fiI q s x y co j) (z.1, z.2) cs.toNatClampNeg).2) _ 0 0
            have o67x : fx_on (q + 17) z.2 ((its (fiI q s x y co j) (z.1, z.2) cs.toNatClampNeg).2) := on_its (fun u : Int32 × fx_H => u.2) (fiI q s x y co j) (z.1, z.2) (on_fiI q s x y co j) cs.toNatClampNeg
            have e67x : fx_sm h ((its (fiI q s x y co j) (z.1, z.2) cs.toNatClampNeg).2) := fx_sm_t (h' := z.2) e55b o67x.1
            refine fx_iload 0 dq_MO_fill_67 rfl ?_
            refine fx_iload_n 5 dq_MO_fill_69 rfl rfl ?_
            refine fx_iload 7 dq_MO_fill_70 rfl ?_
            refine fx_iadd dq_MO_fill_72 ?_
            refine fx_icmp_ge (tgt := 124) dq_MO_fill_73 (by decide) (fun hc73 => ?_) (fun hc73 => absurd (jz_end (ar_x hc29) (ar_c hc29)) hc73)
            refine fx_iinc 1 dq_MO_fill_124 rfl (jz_s _ _) (by decide) rfl ?_
            refine fx_goto (tgt := 55) dq_MO_fill_127 (by decide) ?_
            refine fx_sub [0, 2, 3, 4, 5, 6, 7, 8, 9] rfl ?_
            exact hK55
        · show fx_X g mq_MO_fill 55 [(8, .int (y + nI rs.toNatClampNeg)), (7, .int ((its (fiO q s x y cs co) ((0 : Int32), fx_wi h q 0 (0 : Int32)) rs.toNatClampNeg).1)), (0, .ref q), (1, .int s), (2, .int x), (3, .int y), (4, .int cs), (5, .int rs), (6, .int co)] [] ((its (fiO q s x y cs co) ((0 : Int32), fx_wi h q 0 (0 : Int32)) rs.toNatClampNeg).2) _ 0 0
          have o55x : fx_on (q + 17) (fx_wi h q 0 (0 : Int32)) ((its (fiO q s x y cs co) ((0 : Int32), fx_wi h q 0 (0 : Int32)) rs.toNatClampNeg).2) := on_its (fun z : Int32 × fx_H => z.2) (fiO q s x y cs co) ((0 : Int32), fx_wi h q 0 (0 : Int32)) (on_fiO q s x y cs co) rs.toNatClampNeg
          have e55x : fx_sm h ((its (fiO q s x y cs co) ((0 : Int32), fx_wi h q 0 (0 : Int32)) rs.toNatClampNeg).2) := fx_sm_t (h' := (fx_wi h q 0 (0 : Int32))) (rfl : fx_sm h (fx_wi h q 0 (0 : Int32))) o55x.1
          refine fx_iload 0 dq_MO_fill_55 rfl ?_
          refine fx_iload_n 5 dq_MO_fill_57 rfl rfl ?_
          refine fx_iload 7 dq_MO_fill_58 rfl ?_
          refine fx_iadd dq_MO_fill_60 ?_
          refine fx_icmp_ge (tgt := 130) dq_MO_fill_61 (by decide) (fun hc61 => ?_) (fun hc61 => absurd (jz_end (ar_y hc29) (ar_r hc29)) hc61)
          refine fx_iload 1 dq_MO_fill_130 rfl ?_
          exact fx_ireturn rfl dq_MO_fill_132 ⟨by rw [v_MO_fill, if_neg hc6, if_neg hc17, if_neg hc29], by rw [k_MO_fill, if_neg hc6, if_neg hc17, if_neg hc29]⟩
def b_MO_copy (q : Nat) (fr : Int32) (i : Nat) (k : fx_H) : fx_H := fx_wi k (q + 18) i (fx_i k (q + 17) (((96 : Int32) * fr) + (nI i)).toNatClampNeg)
def cpI (q : Nat) (fr to_ x y tx ty : Int32) (j : Nat) (i : Nat) (u : Int32 × fx_H) : Int32 × fx_H := if (v_MO_has u.2 q fr (x + (nI i)) (y + (nI j))) = 0 then (u.1, u.2) else if (v_MO_has u.2 q to_ (tx + (nI i)) (ty + (nI j))) = 0 then (u.1, u.2) else ((u.1 + Int32.ofInt (1)), fx_wi u.2 (q + 17) (((((96 : Int32) * to_) + ((fx_i u.2 (q + 3) to_.toNatClampNeg) * (ty + (nI j)))) + tx) + (nI i)).toNatClampNeg (fx_i u.2 (q + 18) ((((fx_i u.2 (q + 3) fr.toNatClampNeg) * (y + (nI j))) + x) + (nI i)).toNatClampNeg))
theorem on_cpI (q : Nat) (fr to_ x y tx ty : Int32) (j i : Nat) (u : Int32 × fx_H) : fx_on (q + 17) u.2 (cpI q fr to_ x y tx ty j i u).2 := by
  unfold cpI
  repeat' split
  all_goals first | exact fx_on_rf _ _ | exact fx_on_wi _ _ _ _
def cpO (q : Nat) (fr to_ x y cs tx ty : Int32) (j : Nat) (z : Int32 × fx_H) : Int32 × fx_H := (((its (cpI q fr to_ x y tx ty j) (z.1, z.2) cs.toNatClampNeg).1), (its (cpI q fr to_ x y tx ty j) (z.1, z.2) cs.toNatClampNeg).2)
theorem on_cpO (q : Nat) (fr to_ x y cs tx ty : Int32) (j : Nat) (z : Int32 × fx_H) : fx_on (q + 17) z.2 (cpO q fr to_ x y cs tx ty j z).2 := by
  unfold cpO
  exact on_its (fun u : Int32 × fx_H => u.2) (cpI q fr to_ x y tx ty j) (z.1, z.2) (on_cpI q fr to_ x y tx ty j) _
def v_MO_copy (h : fx_H) (q : Nat) (fr to_ x y cs rs tx ty : Int32) : Int32 := if (v_MO_isCopy h q fr to_ tx ty) = 0 then (0 : Int32) else if (v_MO_isArea h x y cs rs) = 0 then (0 : Int32) else ((its (cpO q fr to_ x y cs tx ty) ((0 : Int32), (it (b_MO_copy q fr) (fx_wi h q 0 (0 : Int32)) 96)) rs.toNatClampNeg).1)
def k_MO_copy (h : fx_H) (q : Nat) (fr to_ x y cs rs tx ty : Int32) : fx_H := if (v_MO_isCopy h q fr to_ tx ty) = 0 then fx_wi h q 0 (1 : Int32) else if (v_MO_isArea h x y cs rs) = 0 then fx_wi h q 0 (1 : Int32) else (its (cpO q fr to_ x y cs tx ty) ((0 : Int32), (it (b_MO_copy q fr) (fx_wi h q 0 (0 : Int32)) 96)) rs.toNatClampNeg).2
set_option maxRecDepth 100000 in
set_option maxHeartbeats 600000 in
theorem c_MO_copy {g : fx_G} (ok : fx_ok g) (h : fx_H) (q : Nat) (fr to_ x y cs rs tx ty : Int32) (hm : isM h q) (hcr : mCR h q) : fx_C g mq_MO_copy [.ref q, .int fr, .int to_, .int x, .int y, .int cs, .int rs, .int tx, .int ty] h (fx_is (some (v_MO_copy h q fr to_ x y cs rs tx ty)) (k_MO_copy h q fr to_ x y cs rs tx ty)) 0 0 := by
  refine fx_body (by decide +kernel) (Nat.le_of_ble_eq_true rfl) ?_
  show fx_X g mq_MO_copy 0 [(0, .ref q), (1, .int fr), (2, .int to_), (3, .int x), (4, .int y), (5, .int cs), (6, .int rs), (7, .int tx), (8, .int ty)] [] h _ 0 0
  refine fx_aload_n 0 dq_MO_copy_0 rfl rfl ?_
  refine fx_aload_n 0 dq_MO_copy_1 rfl rfl ?_
  refine fx_iload_n 1 dq_MO_copy_2 rfl rfl ?_
  refine fx_iload_n 2 dq_MO_copy_3 rfl rfl ?_
  refine fx_iload 7 dq_MO_copy_4 rfl ?_
  refine fx_iload 8 dq_MO_copy_6 rfl ?_
  refine fx_Vi4 ok sq_MO_161 hm.1 (c_MO_isCopy ok h q fr to_ tx ty hm (isCopy_pre _ _ _ _ _ _)) (by decide) (Nat.le_of_ble_eq_true rfl) dq_MO_copy_8 ?_
  refine fx_if_eq (tgt := 31) dq_MO_copy_11 (by decide) (fun hc11 => ?_) (fun hc11 => ?_)
  · -- 11: jump
    refine fx_iconst (v := 1) dq_MO_copy_31 (by decide) ?_
    refine fx_puti ok fp_MO_126 hm.1 (by decide) dq_MO_copy_32 (Or.inl (by decide)) ?_
    refine fx_aload_n 0 dq_MO_copy_35 rfl rfl ?_
    refine fx_geti ok fq_MO_126 hm.1 dq_MO_copy_36 (by decide) ?_
    refine fx_eqt (v' := (1 : Int32)) (by rw [fx_i_wi, if_pos ⟨rfl, rfl⟩]) ?_
    refine fx_if_eq (tgt := 44) dq_MO_copy_39 (by decide) (fun hc39 => absurd hc39 (by decide)) (fun hc39 => ?_)
    refine fx_iconst (v := 0) dq_MO_copy_42 (by decide) ?_
    exact fx_ireturn rfl dq_MO_copy_43 ⟨by rw [v_MO_copy, if_pos hc11], by rw [k_MO_copy, if_pos hc11]⟩
  · -- 11: fall
    refine fx_iload_n 3 dq_MO_copy_14 rfl rfl ?_
    refine fx_iload 4 dq_MO_copy_15 rfl ?_
    refine fx_iload 5 dq_MO_copy_17 rfl ?_
    refine fx_iload 6 dq_MO_copy_19 rfl ?_
    refine fx_Si4 ok sq_MO_153 (c_MO_isArea ok h x y cs rs ) (by decide) (Nat.le_of_ble_eq_true rfl) dq_MO_copy_21 ?_
    refine fx_if_eq (tgt := 31) dq_MO_copy_24 (by decide) (fun hc24 => ?_) (fun hc24 => ?_)
    · -- 24: jump
      refine fx_iconst (v := 1) dq_MO_copy_31 (by decide) ?_
      refine fx_puti ok fp_MO_126 hm.1 (by decide) dq_MO_copy_32 (Or.inl (by decide)) ?_
      refine fx_aload_n 0 dq_MO_copy_35 rfl rfl ?_
      refine fx_geti ok fq_MO_126 hm.1 dq_MO_copy_36 (by decide) ?_
      refine fx_eqt (v' := (1 : Int32)) (by rw [fx_i_wi, if_pos ⟨rfl, rfl⟩]) ?_
      refine fx_if_eq (tgt := 44) dq_MO_copy_39 (by decide) (fun hc39 => absurd hc39 (by decide)) (fun hc39 => ?_)
      refine fx_iconst (v := 0) dq_MO_copy_42 (by decide) ?_
      exact fx_ireturn rfl dq_MO_copy_43 ⟨by rw [v_MO_copy, if_neg hc11, if_pos hc24], by rw [k_MO_copy, if_neg hc11, if_pos hc24]⟩
    · -- 24: fall
      refine fx_iconst (v := 0) dq_MO_copy_27 (by decide) ?_
      refine fx_goto (tgt := 32) dq_MO_copy_28 (by decide) ?_
      refine fx_puti ok fp_MO_126 hm.1 (by decide) dq_MO_copy_32 (Or.inl (by decide)) ?_
      refine fx_aload_n 0 dq_MO_copy_35 rfl rfl ?_
      refine fx_geti ok fq_MO_126 hm.1 dq_MO_copy_36 (by decide) ?_
      refine fx_eqt (v' := (0 : Int32)) (by rw [fx_i_wi, if_pos ⟨rfl, rfl⟩]) ?_
      refine fx_if_eq (tgt := 44) dq_MO_copy_39 (by decide) (fun hc39 => ?_) (fun hc39 => absurd (by decide) hc39)
      refine fx_iconst (v := 0) dq_MO_copy_44 (by decide) ?_
      refine fx_istore dq_MO_copy_45 (by decide) rfl ?_
      refine fx_for (fun i => [(9, .int (nI i)), (0, .ref q), (1, .int fr), (2, .int to_), (3, .int x), (4, .int y), (5, .int cs), (6, .int rs), (7, .int tx), (8, .int ty)]) (b_MO_copy q fr) (fx_wi h q 0 (0 : Int32)) 96 (fun i hi hK47 => ?_) ?_
      · have e47b : fx_sm h (it (b_MO_copy q fr) (fx_wi h q 0 (0 : Int32)) i) := fx_sm_t (h' := (fx_wi h q 0 (0 : Int32))) (rfl : fx_sm h (fx_wi h q 0 (0 : Int32))) (fx_sm_it (by intro _ _; unfold b_MO_copy; rfl) (fx_wi h q 0 (0 : Int32)) i)
        generalize it (b_MO_copy q fr) (fx_wi h q 0 (0 : Int32)) i = k at e47b hK47  ⊢
        refine fx_iload 0 dq_MO_copy_47 rfl ?_
        refine fx_bipush (v := 96) dq_MO_copy_49 (by decide) ?_
        refine fx_icmp_ge (tgt := 79) dq_MO_copy_51 (by decide) (fun hc51 => absurd hc51 (nI_ge (b := 96) hi (by decide))) (fun hc51 => ?_)
        refine fx_aload_n 1 dq_MO_copy_54 rfl rfl ?_
        refine fx_getr ok fq_MO_62 ((fx_sm_s e47b _).trans hm.1) dq_MO_copy_55 (by decide) ((fx_sm_r e47b _ _).trans (mo_copied hm).1) ?_
        refine fx_iload 0 dq_MO_copy_58 rfl ?_
        refine fx_aload_n 1 dq_MO_copy_60 rfl rfl ?_
        refine fx_getr ok fq_MO_59 ((fx_sm_s e47b _).trans hm.1) dq_MO_copy_61 (by decide) ((fx_sm_r e47b _ _).trans (mo_pixels hm).1) ?_
        refine fx_bipush (v := 96) dq_MO_copy_64 (by decide) ?_
        refine fx_iload_n 2 dq_MO_copy_66 rfl rfl ?_
        refine fx_imul dq_MO_copy_67 ?_
        refine fx_iload 0 dq_MO_copy_68 rfl ?_
        refine fx_iadd dq_MO_copy_70 ?_
        refine fx_iaload ok ((fx_sm_s e47b _).trans (mo_pixels hm).2) (px10 (isCopy_in hc11).1 hi) dq_MO_copy_71 ?_
        refine fx_isN ok ((fx_sm_s e47b _).trans (mo_copied hm).2) ⟨hi, by decide⟩ dq_MO_copy_72 ?_
        have e72w : fx_sm h (fx_wi k (q + 18) i (fx_i k (q + 17) (((96 : Int32) * fr) + (nI i)).toNatClampNeg)) := fx_sm_t (h' := k) e47b (sm_wi _ _ _ _)
        refine fx_iinc 0 dq_MO_copy_73 rfl (jz_i _) (by decide) rfl ?_
        refine fx_goto (tgt := 47) dq_MO_copy_76 (by decide) ?_
        refine fx_sub [0, 1, 2, 3, 4, 5, 6, 7, 8, 9] rfl ?_
        exact hK47
      · have e47x : fx_sm h (it (b_MO_copy q fr) (fx_wi h q 0 (0 : Int32)) 96) := fx_sm_t (h' := (fx_wi h q 0 (0 : Int32))) (rfl : fx_sm h (fx_wi h q 0 (0 : Int32))) (fx_sm_it (by intro _ _; unfold b_MO_copy; rfl) (fx_wi h q 0 (0 : Int32)) 96)
        refine fx_iload 0 dq_MO_copy_47 rfl ?_
        refine fx_bipush (v := 96) dq_MO_copy_49 (by decide) ?_
        refine fx_icmp_ge (tgt := 79) dq_MO_copy_51 (by decide) (fun hc51 => ?_) (fun hc51 => absurd (by decide) hc51)
        refine fx_iconst (v := 0) dq_MO_copy_79 (by decide) ?_
        refine fx_istore dq_MO_copy_80 (by decide) rfl ?_
        refine fx_iconst (v := 0) dq_MO_copy_82 (by decide) ?_
        refine fx_istore dq_MO_copy_83 (by decide) rfl ?_
        refine fx_fors (σ := Int32 × fx_H) (fun j z => [(10, .int (nI j)), (9, .int z.1), (0, .ref q), (1, .int fr), (2, .int to_), (3, .int x), (4, .int y), (5, .int cs), (6, .int rs), (7, .int tx), (8, .int ty)]) (fun z => z.2) (cpO q fr to_ x y cs tx ty) ((0 : Int32), (it (b_MO_copy q fr) (fx_wi h q 0 (0 : Int32)) 96)) rs.toNatClampNeg (fun j z hj hz hK85 => ?_) ?_
        · skip
          have o85b : fx_on (q + 17) (it (b_MO_copy q fr) (fx_wi h q 0 (0 : Int32)) 96) z.2 := by rw [hz]; exact on_its (fun z : Int32 × fx_H => z.2) (cpO q fr to_ x y cs tx ty) ((0 : Int32), (it (b_MO_copy q fr) (fx_wi h q 0 (0 : Int32)) 96)) (on_cpO q fr to_ x y cs tx ty) j
          have e85b : fx_sm h z.2 := fx_sm_t (h' := (it (b_MO_copy q fr) (fx_wi h q 0 (0 : Int32)) 96)) e47x o85b.1
          have hcO := mCR_on o85b (by decide) (mCR_on (c := 18) (fx_on_it (fun _ _ => fx_on_wi _ _ _ _) _ _) (by decide) (mCR_w (j := 0) (v := 0) hcr))
          refine fx_iload 0 dq_MO_copy_85 rfl ?_
          refine fx_iload 8 dq_MO_copy_87 rfl ?_
          refine fx_icmp_ge (tgt := 205) dq_MO_copy_89 (by decide) (fun hc89 => absurd hc89 (vI_ge (ar_r hc24) hj)) (fun hc89 => ?_)
          refine fx_iconst (v := 0) dq_MO_copy_92 (by decide) ?_
          refine fx_istore dq_MO_copy_93 (by decide) rfl ?_
          refine fx_fors (σ := Int32 × fx_H) (fun i u => [(11, .int (nI i)), (10, .int (nI j)), (9, .int u.1), (0, .ref q), (1, .int fr), (2, .int to_), (3, .int x), (4, .int y), (5, .int cs), (6, .int rs), (7, .int tx), (8, .int ty)]) (fun u => u.2) (cpI q fr to_ x y tx ty j) (z.1, z.2) cs.toNatClampNeg (fun i u hi hu hK95 => ?_) ?_
          · skip
            have o95b : fx_on (q + 17) z.2 u.2 := by rw [hu]; exact on_its (fun u : Int32 × fx_H => u.2) (cpI q fr to_ x y tx ty j) (z.1, z.2) (on_cpI q fr to_ x y tx ty j) i
            have e95b : fx_sm h u.2 := fx_sm_t (h' := z.2) e85b o95b.1
            have hcI := mCR_on o95b (by decide) hcO
            refine fx_iload 0 dq_MO_copy_95 rfl ?_
            refine fx_iload 8 dq_MO_copy_97 rfl ?_
            refine fx_icmp_ge (tgt := 199) dq_MO_copy_99 (by decide) (fun hc99 => absurd hc99 (vI_ge (ar_c hc24) hi)) (fun hc99 => ?_)
            refine fx_aload_n 3 dq_MO_copy_102 rfl rfl ?_
            refine fx_iload_n 4 dq_MO_copy_103 rfl rfl ?_
            refine fx_iload_n 6 dq_MO_copy_104 rfl rfl ?_
            refine fx_iload 0 dq_MO_copy_105 rfl ?_
            refine fx_iadd dq_MO_copy_107 ?_
            refine fx_iload 7 dq_MO_copy_108 rfl ?_
            refine fx_iload 1 dq_MO_copy_110 rfl ?_
            refine fx_iadd dq_MO_copy_112 ?_
            refine fx_Vi3 ok sq_MO_158 ((fx_sm_s e95b _).trans hm.1) (c_MO_has ok u.2 q fr (x + (nI i)) (y + (nI j)) (by exact isM_sm e95b hm) (isCopy_in hc11).1) (by decide) (Nat.le_of_ble_eq_true rfl) dq_MO_copy_113 ?_
            refine fx_if_eq (tgt := 193) dq_MO_copy_116 (by decide) (fun hc116 => ?_) (fun hc116 => ?_)
            · -- 116: jump
              refine fx_iinc 0 dq_MO_copy_193 rfl (jz_i _) (by decide) rfl ?_
              refine fx_goto (tgt := 95) dq_MO_copy_196 (by decide) ?_
              refine fx_sub [0, 1, 2, 3, 4, 5, 6, 7, 8, 9, 10, 11] rfl ?_
              rw [show cpI q fr to_ x y tx ty j i u = (u.1, u.2) from by rw [cpI, if_pos hc116]] at hK95
              exact hK95
            · -- 116: fall
              refine fx_aload_n 3 dq_MO_copy_119 rfl rfl ?_
              refine fx_iload_n 5 dq_MO_copy_120 rfl rfl ?_
              refine fx_iload 10 dq_MO_copy_121 rfl ?_
              refine fx_iload 0 dq_MO_copy_123 rfl ?_
              refine fx_iadd dq_MO_copy_125 ?_
              refine fx_iload 11 dq_MO_copy_126 rfl ?_
              refine fx_iload 1 dq_MO_copy_128 rfl ?_
              refine fx_iadd dq_MO_copy_130 ?_
              refine fx_Vi3 ok sq_MO_158 ((fx_sm_s e95b _).trans hm.1) (c_MO_has ok u.2 q to_ (tx + (nI i)) (ty + (nI j)) (by exact isM_sm e95b hm) (isCopy_in hc11).2) (by decide) (Nat.le_of_ble_eq_true rfl) dq_MO_copy_131 ?_
              refine fx_if_ne (tgt := 140) dq_MO_copy_134 (by decide) (fun hc134 => ?_) (fun hc134 => ?_)
              · -- 134: jump
                refine fx_aload_n 3 dq_MO_copy_140 rfl rfl ?_
                refine fx_getr ok fq_MO_59 ((fx_sm_s e95b _).trans hm.1) dq_MO_copy_141 (by decide) ((fx_sm_r e95b _ _).trans (mo_pixels hm).1) ?_
                refine fx_bipush (v := 96) dq_MO_copy_144 (by decide) ?_
                refine fx_iload_n 5 dq_MO_copy_146 rfl rfl ?_
                refine fx_imul dq_MO_copy_147 ?_
                refine fx_aload_n 3 dq_MO_copy_148 rfl rfl ?_
                refine fx_getr ok fq_MO_17 ((fx_sm_s e95b _).trans hm.1) dq_MO_copy_149 (by decide) ((fx_sm_r e95b _ _).trans (mo_columns hm).1) ?_
                refine fx_iload_n 5 dq_MO_copy_152 rfl rfl ?_
                refine fx_iaload ok ((fx_sm_s e95b _).trans (mo_columns hm).2) (isCopy_in hc11).2 dq_MO_copy_153 ?_
                refine fx_iload 11 dq_MO_copy_154 rfl ?_
                refine fx_iload 1 dq_MO_copy_156 rfl ?_
                refine fx_iadd dq_MO_copy_158 ?_
                refine fx_imul dq_MO_copy_159 ?_
                refine fx_iadd dq_MO_copy_160 ?_
                refine fx_iload 10 dq_MO_copy_161 rfl ?_
                refine fx_iadd dq_MO_copy_163 ?_
                refine fx_iload 0 dq_MO_copy_164 rfl ?_
                refine fx_iadd dq_MO_copy_166 ?_
                refine fx_aload_n 3 dq_MO_copy_167 rfl rfl ?_
                refine fx_getr ok fq_MO_62 ((fx_sm_s e95b _).trans hm.1) dq_MO_copy_168 (by decide) ((fx_sm_r e95b _ _).trans (mo_copied hm).1) ?_
                refine fx_aload_n 3 dq_MO_copy_171 rfl rfl ?_
                refine fx_getr ok fq_MO_17 ((fx_sm_s e95b _).trans hm.1) dq_MO_copy_172 (by decide) ((fx_sm_r e95b _ _).trans (mo_columns hm).1) ?_
                refine fx_iload_n 4 dq_MO_copy_175 rfl rfl ?_
                refine fx_iaload ok ((fx_sm_s e95b _).trans (mo_columns hm).2) (isCopy_in hc11).1 dq_MO_copy_176 ?_
                refine fx_iload 7 dq_MO_copy_177 rfl ?_
                refine fx_iload 1 dq_MO_copy_179 rfl ?_
                refine fx_iadd dq_MO_copy_181 ?_
                refine fx_imul dq_MO_copy_182 ?_
                refine fx_iload_n 6 dq_MO_copy_183 rfl rfl ?_
                refine fx_iadd dq_MO_copy_184 ?_
                refine fx_iload 0 dq_MO_copy_185 rfl ?_
                refine fx_iadd dq_MO_copy_187 ?_
                refine fx_iaload ok ((fx_sm_s e95b _).trans (mo_copied hm).2) (copd_in (isCopy_in hc11).1 hcI hc116) dq_MO_copy_188 ?_
                refine fx_iastore ok ((fx_sm_s e95b _).trans (mo_pixels hm).2) (copy_in (isCopy_in hc11).2 hcI hc134) dq_MO_copy_189 ?_
                have e189w : fx_sm h (fx_wi u.2 (q + 17) (((((96 : Int32) * to_) + ((fx_i u.2 (q + 3) to_.toNatClampNeg) * (ty + (nI j)))) + tx) + (nI i)).toNatClampNeg (fx_i u.2 (q + 18) ((((fx_i u.2 (q + 3) fr.toNatClampNeg) * (y + (nI j))) + x) + (nI i)).toNatClampNeg)) := fx_sm_t (h' := u.2) e95b (sm_wi _ _ _ _)
                refine fx_iinc 2 dq_MO_copy_190 rfl rfl (by decide) rfl ?_
                refine fx_iinc 1 dq_MO_copy_193 rfl (jz_i _) (by decide) rfl ?_
                refine fx_goto (tgt := 95) dq_MO_copy_196 (by decide) ?_
                refine fx_sub [0, 2, 1, 3, 4, 5, 6, 7, 8, 9, 10, 11] rfl ?_
                rw [show cpI q fr to_ x y tx ty j i u = ((u.1 + Int32.ofInt (1)), fx_wi u.2 (q + 17) (((((96 : Int32) * to_) + ((fx_i u.2 (q + 3) to_.toNatClampNeg) * (ty + (nI j)))) + tx) + (nI i)).toNatClampNeg (fx_i u.2 (q + 18) ((((fx_i u.2 (q + 3) fr.toNatClampNeg) * (y + (nI j))) + x) + (nI i)).toNatClampNeg)) from by rw [cpI, if_neg hc116, if_neg hc134]] at hK95
                exact hK95
              · -- 134: fall
                refine fx_goto (tgt := 193) dq_MO_copy_137 (by decide) ?_
                refine fx_iinc 0 dq_MO_copy_193 rfl (jz_i _) (by decide) rfl ?_
                refine fx_goto (tgt := 95) dq_MO_copy_196 (by decide) ?_
                refine fx_sub [0, 1, 2, 3, 4, 5, 6, 7, 8, 9, 10, 11] rfl ?_
                rw [show cpI q fr to_ x y tx ty j i u = (u.1, u.2) from by rw [cpI, if_neg hc116, if_pos hc134]] at hK95
                exact hK95
          · show fx_X g mq_MO_copy 95 [(11, .int (nI cs.toNatClampNeg)), (10, .int (nI j)), (9, .int ((its (cpI q fr to_ x y tx ty j) (z.1, z.2) cs.toNatClampNeg).1)), (0, .ref q), (1, .int fr), (2, .int to_), (3, .int x), (4, .int y), (5, .int cs), (6, .int rs), (7, .int tx), (8, .int ty)] [] ((its (cpI q fr to_ x y tx ty j) (z.1, z.2) cs.toNatClampNeg).2) _ 0 0
            have o95x : fx_on (q + 17) z.2 ((its (cpI q fr to_ x y tx ty j) (z.1, z.2) cs.toNatClampNeg).2) := on_its (fun u : Int32 × fx_H => u.2) (cpI q fr to_ x y tx ty j) (z.1, z.2) (on_cpI q fr to_ x y tx ty j) cs.toNatClampNeg
            have e95x : fx_sm h ((its (cpI q fr to_ x y tx ty j) (z.1, z.2) cs.toNatClampNeg).2) := fx_sm_t (h' := z.2) e85b o95x.1
            refine fx_iload 0 dq_MO_copy_95 rfl ?_
            refine fx_iload 8 dq_MO_copy_97 rfl ?_
            refine fx_icmp_ge (tgt := 199) dq_MO_copy_99 (by decide) (fun hc99 => ?_) (fun hc99 => absurd (vI_le (ar_c hc24)) hc99)
            refine fx_iinc 1 dq_MO_copy_199 rfl (jz_i _) (by decide) rfl ?_
            refine fx_goto (tgt := 85) dq_MO_copy_202 (by decide) ?_
            refine fx_sub [0, 2, 3, 4, 5, 6, 7, 8, 9, 10, 11] rfl ?_
            exact hK85
        · show fx_X g mq_MO_copy 85 [(10, .int (nI rs.toNatClampNeg)), (9, .int ((its (cpO q fr to_ x y cs tx ty) ((0 : Int32), (it (b_MO_copy q fr) (fx_wi h q 0 (0 : Int32)) 96)) rs.toNatClampNeg).1)), (0, .ref q), (1, .int fr), (2, .int to_), (3, .int x), (4, .int y), (5, .int cs), (6, .int rs), (7, .int tx), (8, .int ty)] [] ((its (cpO q fr to_ x y cs tx ty) ((0 : Int32), (it (b_MO_copy q fr) (fx_wi h q 0 (0 : Int32)) 96)) rs.toNatClampNeg).2) _ 0 0
          have o85x : fx_on (q + 17) (it (b_MO_copy q fr) (fx_wi h q 0 (0 : Int32)) 96) ((its (cpO q fr to_ x y cs tx ty) ((0 : Int32), (it (b_MO_copy q fr) (fx_wi h q 0 (0 : Int32)) 96)) rs.toNatClampNeg).2) := on_its (fun z : Int32 × fx_H => z.2) (cpO q fr to_ x y cs tx ty) ((0 : Int32), (it (b_MO_copy q fr) (fx_wi h q 0 (0 : Int32)) 96)) (on_cpO q fr to_ x y cs tx ty) rs.toNatClampNeg
          have e85x : fx_sm h ((its (cpO q fr to_ x y cs tx ty) ((0 : Int32), (it (b_MO_copy q fr) (fx_wi h q 0 (0 : Int32)) 96)) rs.toNatClampNeg).2) := fx_sm_t (h' := (it (b_MO_copy q fr) (fx_wi h q 0 (0 : Int32)) 96)) e47x o85x.1
          refine fx_iload 0 dq_MO_copy_85 rfl ?_
          refine fx_iload 8 dq_MO_copy_87 rfl ?_
          refine fx_icmp_ge (tgt := 205) dq_MO_copy_89 (by decide) (fun hc89 => ?_) (fun hc89 => absurd (vI_le (ar_r hc24)) hc89)
          refine fx_iload 1 dq_MO_copy_205 rfl ?_
          exact fx_ireturn rfl dq_MO_copy_207 ⟨by rw [v_MO_copy, if_neg hc11, if_neg hc24], by rw [k_MO_copy, if_neg hc11, if_neg hc24]⟩
