/-! ===== the Model: surface ===== -/
/-- the first number from i that isn't used (n are looked at) -/
def ffree (h : fx_H) (q : Nat) : Nat → Nat → Nat
  | i, 0 => i
  | i, n + 1 => if fx_i h (q + 1) i = 0 then i else ffree h q (i + 1) n
theorem ffree_le (h : fx_H) (q : Nat) : ∀ n i, ffree h q i n ≤ i + n
  | 0, i => Nat.le_refl _
  | n + 1, i => by
    unfold ffree
    split
    · omega
    · have := ffree_le h q n (i + 1)
      omega
def sfree (h : fx_H) (q : Nat) : Nat := ffree (fx_wi h q 0 (0 : Int32)) q 0 10
theorem sf_lt {h : fx_H} {q : Nat} (hn : ¬ nI (sfree h q) = 10) : sfree h q < 10 := by
  have h1 : sfree h q ≤ 0 + 10 := ffree_le _ q 10 0
  rcases Nat.lt_or_eq_of_le h1 with h2 | h2
  · omega
  · exact absurd (by rw [h2]; rfl) hn
theorem in30a {s : Nat} (hs : s < 10) : vp_in (10 + nI s) 30 := by
  rw [jz_a hs]
  exact vp_in_nI (by omega) (by decide)
theorem in30b {s : Nat} (hs : s < 10) : vp_in (20 + nI s) 30 := by
  have e0 : (20 : Int32).toInt = 20 := rfl
  have e1 : (nI s).toInt = s := nI_toInt (by omega)
  have e2 : (20 + nI s).toInt = 20 + (s : Int) := by rw [iz_add (by rw [e0, e1]; omega), e0, e1]
  exact iz_in (by omega) (by omega)
def su1 (h : fx_H) (q : Nat) (cl cs rs : Int32) : fx_H := fx_wi (fx_wi h q 0 (0 : Int32)) (q + 1) (sfree h q) (1 : Int32)
def su2 (h : fx_H) (q : Nat) (cl cs rs : Int32) : fx_H := fx_wi (su1 h q cl cs rs) (q + 2) (sfree h q) cl
def su3 (h : fx_H) (q : Nat) (cl cs rs : Int32) : fx_H := fx_wi (su2 h q cl cs rs) (q + 3) (sfree h q) cs
def su4 (h : fx_H) (q : Nat) (cl cs rs : Int32) : fx_H := fx_wi (su3 h q cl cs rs) (q + 4) (sfree h q) rs
def su5 (h : fx_H) (q : Nat) (cl cs rs : Int32) : fx_H := fx_wi (su4 h q cl cs rs) (q + 5) (sfree h q) (0 : Int32)
def su6 (h : fx_H) (q : Nat) (cl cs rs : Int32) : fx_H := fx_wi (su5 h q cl cs rs) (q + 6) (sfree h q) (0 : Int32)
def su7 (h : fx_H) (q : Nat) (cl cs rs : Int32) : fx_H := fx_wi (su6 h q cl cs rs) (q + 7) (sfree h q) (1 : Int32)
def su8 (h : fx_H) (q : Nat) (cl cs rs : Int32) : fx_H := fx_wi (su7 h q cl cs rs) (q + 7) ((10 : Int32) + (nI (sfree h q))).toNatClampNeg (0 : Int32)
def su9 (h : fx_H) (q : Nat) (cl cs rs : Int32) : fx_H := fx_wi (su8 h q cl cs rs) (q + 7) ((20 : Int32) + (nI (sfree h q))).toNatClampNeg (0 : Int32)
def su10 (h : fx_H) (q : Nat) (cl cs rs : Int32) : fx_H := fx_wi (su9 h q cl cs rs) (q + 8) (sfree h q) (0 : Int32)
def su11 (h : fx_H) (q : Nat) (cl cs rs : Int32) : fx_H := fx_wi (su10 h q cl cs rs) (q + 9) (sfree h q) (0 : Int32)
def su12 (h : fx_H) (q : Nat) (cl cs rs : Int32) : fx_H := fx_wi (su11 h q cl cs rs) (q + 10) (sfree h q) (0 : Int32)
def su13 (h : fx_H) (q : Nat) (cl cs rs : Int32) : fx_H := fx_wi (su12 h q cl cs rs) (q + 11) (sfree h q) (16 : Int32)
def su14 (h : fx_H) (q : Nat) (cl cs rs : Int32) : fx_H := fx_wi (su13 h q cl cs rs) (q + 12) (sfree h q) (0 : Int32)
def su15 (h : fx_H) (q : Nat) (cl cs rs : Int32) : fx_H := fx_wi (su14 h q cl cs rs) (q + 13) (sfree h q) (0 : Int32)
def su16 (h : fx_H) (q : Nat) (cl cs rs : Int32) : fx_H := fx_wi (su15 h q cl cs rs) (q + 14) (sfree h q) (0 : Int32)
def su17 (h : fx_H) (q : Nat) (cl cs rs : Int32) : fx_H := fx_wi (su16 h q cl cs rs) (q + 15) (sfree h q) cs
def su18 (h : fx_H) (q : Nat) (cl cs rs : Int32) : fx_H := fx_wi (su17 h q cl cs rs) (q + 16) (sfree h q) rs
def b_MO_surface (h : fx_H) (q : Nat) (i : Nat) (k : fx_H) : fx_H := fx_wi k (q + 17) (((96 : Int32) * (nI (sfree h q))) + (nI i)).toNatClampNeg (0 : Int32)
def v_MO_surface (h : fx_H) (q : Nat) (cl cs rs : Int32) : Int32 := if (v_MO_within h cl (0 : Int32) (3 : Int32)) = 0 then (0 : Int32) else if (v_MO_within h cs (1 : Int32) (12 : Int32)) = 0 then (0 : Int32) else if (v_MO_within h rs (1 : Int32) (8 : Int32)) = 0 then (0 : Int32) else if (nI (sfree h q)) = (10 : Int32) then (0 : Int32) else if (cs * rs) ≤ (v_MO_freePixels (fx_wi h q 0 (0 : Int32)) q ) then (nI (sfree h q)) else (0 : Int32)
def k_MO_surface (h : fx_H) (q : Nat) (cl cs rs : Int32) : fx_H := if (v_MO_within h cl (0 : Int32) (3 : Int32)) = 0 then fx_wi h q 0 (1 : Int32) else if (v_MO_within h cs (1 : Int32) (12 : Int32)) = 0 then fx_wi h q 0 (1 : Int32) else if (v_MO_within h rs (1 : Int32) (8 : Int32)) = 0 then fx_wi h q 0 (1 : Int32) else if (nI (sfree h q)) = (10 : Int32) then fx_wi (fx_wi h q 0 (0 : Int32)) q 0 (2 : Int32) else if (cs * rs) ≤ (v_MO_freePixels (fx_wi h q 0 (0 : Int32)) q ) then (it (b_MO_surface h q) (su18 h q cl cs rs) 96) else fx_wi (fx_wi h q 0 (0 : Int32)) q 0 (2 : Int32)
set_option maxRecDepth 100000 in
set_option maxHeartbeats 600000 in
theorem c_MO_surface {g : fx_G} (ok : fx_ok g) (h : fx_H) (q : Nat) (cl cs rs : Int32) (hm : isM h q) : fx_C g mq_MO_surface [.ref q, .int cl, .int cs, .int rs] h (fx_is (some (v_MO_surface h q cl cs rs)) (k_MO_surface h q cl cs rs)) 0 0 := by
  refine fx_body (by decide +kernel) (Nat.le_of_ble_eq_true rfl) ?_
  show fx_X g mq_MO_surface 0 [(0, .ref q), (1, .int cl), (2, .int cs), (3, .int rs)] [] h _ 0 0
  refine fx_aload_n 0 dq_MO_surface_0 rfl rfl ?_
  refine fx_iload_n 1 dq_MO_surface_1 rfl rfl ?_
  refine fx_iconst (v := 0) dq_MO_surface_2 (by decide) ?_
  refine fx_iconst (v := 3) dq_MO_surface_3 (by decide) ?_
  refine fx_Si3 ok sq_MO_129 (c_MO_within ok h cl (0 : Int32) (3 : Int32) ) (by decide) (Nat.le_of_ble_eq_true rfl) dq_MO_surface_4 ?_
  refine fx_if_eq (tgt := 34) dq_MO_surface_7 (by decide) (fun hc7 => ?_) (fun hc7 => ?_)
  · -- 7: jump
    refine fx_iconst (v := 1) dq_MO_surface_34 (by decide) ?_
    refine fx_puti ok fp_MO_126 hm.1 (by decide) dq_MO_surface_35 (Or.inl (by decide)) ?_
    refine fx_aload_n 0 dq_MO_surface_38 rfl rfl ?_
    refine fx_geti ok fq_MO_126 hm.1 dq_MO_surface_39 (by decide) ?_
    refine fx_eqt (v' := (1 : Int32)) (by rw [fx_i_wi, if_pos ⟨rfl, rfl⟩]) ?_
    refine fx_if_eq (tgt := 47) dq_MO_surface_42 (by decide) (fun hc42 => absurd hc42 (by decide)) (fun hc42 => ?_)
    refine fx_iconst (v := 0) dq_MO_surface_45 (by decide) ?_
    exact fx_ireturn rfl dq_MO_surface_46 ⟨by rw [v_MO_surface, if_pos hc7], by rw [k_MO_surface, if_pos hc7]⟩
  · -- 7: fall
    refine fx_iload_n 2 dq_MO_surface_10 rfl rfl ?_
    refine fx_iconst (v := 1) dq_MO_surface_11 (by decide) ?_
    refine fx_bipush (v := 12) dq_MO_surface_12 (by decide) ?_
    refine fx_Si3 ok sq_MO_129 (c_MO_within ok h cs (1 : Int32) (12 : Int32) ) (by decide) (Nat.le_of_ble_eq_true rfl) dq_MO_surface_14 ?_
    refine fx_if_eq (tgt := 34) dq_MO_surface_17 (by decide) (fun hc17 => ?_) (fun hc17 => ?_)
    · -- 17: jump
      refine fx_iconst (v := 1) dq_MO_surface_34 (by decide) ?_
      refine fx_puti ok fp_MO_126 hm.1 (by decide) dq_MO_surface_35 (Or.inl (by decide)) ?_
      refine fx_aload_n 0 dq_MO_surface_38 rfl rfl ?_
      refine fx_geti ok fq_MO_126 hm.1 dq_MO_surface_39 (by decide) ?_
      refine fx_eqt (v' := (1 : Int32)) (by rw [fx_i_wi, if_pos ⟨rfl, rfl⟩]) ?_
      refine fx_if_eq (tgt := 47) dq_MO_surface_42 (by decide) (fun hc42 => absurd hc42 (by decide)) (fun hc42 => ?_)
      refine fx_iconst (v := 0) dq_MO_surface_45 (by decide) ?_
      exact fx_ireturn rfl dq_MO_surface_46 ⟨by rw [v_MO_surface, if_neg hc7, if_pos hc17], by rw [k_MO_surface, if_neg hc7, if_pos hc17]⟩
    · -- 17: fall
      refine fx_iload_n 3 dq_MO_surface_20 rfl rfl ?_
      refine fx_iconst (v := 1) dq_MO_surface_21 (by decide) ?_
      refine fx_bipush (v := 8) dq_MO_surface_22 (by decide) ?_
      refine fx_Si3 ok sq_MO_129 (c_MO_within ok h rs (1 : Int32) (8 : Int32) ) (by decide) (Nat.le_of_ble_eq_true rfl) dq_MO_surface_24 ?_
      refine fx_if_eq (tgt := 34) dq_MO_surface_27 (by decide) (fun hc27 => ?_) (fun hc27 => ?_)
      · -- 27: jump
        refine fx_iconst (v := 1) dq_MO_surface_34 (by decide) ?_
        refine fx_puti ok fp_MO_126 hm.1 (by decide) dq_MO_surface_35 (Or.inl (by decide)) ?_
        refine fx_aload_n 0 dq_MO_surface_38 rfl rfl ?_
        refine fx_geti ok fq_MO_126 hm.1 dq_MO_surface_39 (by decide) ?_
        refine fx_eqt (v' := (1 : Int32)) (by rw [fx_i_wi, if_pos ⟨rfl, rfl⟩]) ?_
        refine fx_if_eq (tgt := 47) dq_MO_surface_42 (by decide) (fun hc42 => absurd hc42 (by decide)) (fun hc42 => ?_)
        refine fx_iconst (v := 0) dq_MO_surface_45 (by decide) ?_
        exact fx_ireturn rfl dq_MO_surface_46 ⟨by rw [v_MO_surface, if_neg hc7, if_neg hc17, if_pos hc27], by rw [k_MO_surface, if_neg hc7, if_neg hc17, if_pos hc27]⟩
      · -- 27: fall
        refine fx_iconst (v := 0) dq_MO_surface_30 (by decide) ?_
        refine fx_goto (tgt := 35) dq_MO_surface_31 (by decide) ?_
        refine fx_puti ok fp_MO_126 hm.1 (by decide) dq_MO_surface_35 (Or.inl (by decide)) ?_
        refine fx_aload_n 0 dq_MO_surface_38 rfl rfl ?_
        refine fx_geti ok fq_MO_126 hm.1 dq_MO_surface_39 (by decide) ?_
        refine fx_eqt (v' := (0 : Int32)) (by rw [fx_i_wi, if_pos ⟨rfl, rfl⟩]) ?_
        refine fx_if_eq (tgt := 47) dq_MO_surface_42 (by decide) (fun hc42 => ?_) (fun hc42 => absurd (by decide) hc42)
        refine fx_iconst (v := 0) dq_MO_surface_47 (by decide) ?_
        refine fx_istore dq_MO_surface_48 (by decide) rfl ?_
        have key : ∀ n i, i + n = 10 → fx_X g mq_MO_surface 73 [(4, .int (nI (ffree (fx_wi h q 0 (0 : Int32)) q i n))), (0, .ref q), (1, .int cl), (2, .int cs), (3, .int rs)] [] (fx_wi h q 0 (0 : Int32)) (fx_is (some (v_MO_surface h q cl cs rs)) (k_MO_surface h q cl cs rs)) 0 0 → fx_X g mq_MO_surface 50 [(4, .int (nI i)), (0, .ref q), (1, .int cl), (2, .int cs), (3, .int rs)] [] (fx_wi h q 0 (0 : Int32)) (fx_is (some (v_MO_surface h q cl cs rs)) (k_MO_surface h q cl cs rs)) 0 0 := by
          intro n
          induction n with
          | zero =>
            intro i hin hq
            have hi : i = 10 := by omega
            refine fx_iload 0 dq_MO_surface_50 rfl ?_
            refine fx_bipush (v := 10) dq_MO_surface_52 (by decide) ?_
            refine fx_icmp_ge (tgt := 73) dq_MO_surface_54 (by decide) (fun hc54 => ?_) (fun hc54 => absurd (by rw [hi]; decide) hc54)
            refine fx_sub [0, 1, 2, 3, 4] rfl ?_
            exact hq
          | succ n ih =>
            intro i hin hq
            have hi : i < 10 := by omega
            refine fx_iload 0 dq_MO_surface_50 rfl ?_
            refine fx_bipush (v := 10) dq_MO_surface_52 (by decide) ?_
            refine fx_icmp_ge (tgt := 73) dq_MO_surface_54 (by decide) (fun hc54 => absurd hc54 (nI_ge (b := 10) hi (by decide))) (fun hc54 => ?_)
            refine fx_aload_n 1 dq_MO_surface_57 rfl rfl ?_
            refine fx_getr ok fq_MO_7 hm.1 dq_MO_surface_58 (by decide) (mo_used hm).1 ?_
            refine fx_iload 0 dq_MO_surface_61 rfl ?_
            refine fx_baN ok (mo_used hm).2 ⟨hi, by decide⟩ dq_MO_surface_63 ?_
            refine fx_if_eq (tgt := 73) dq_MO_surface_64 (by decide) (fun hc64 => ?_) (fun hc64 => ?_)
            · -- 64: jump
              refine fx_sub [0, 1, 2, 3, 4] rfl ?_
              rw [ffree, if_pos hc64] at hq
              exact hq
            · -- 64: fall
              refine fx_iinc 0 dq_MO_surface_67 rfl (jz_i _) (by decide) rfl ?_
              refine fx_goto (tgt := 50) dq_MO_surface_70 (by decide) ?_
              refine fx_sub [0, 1, 2, 3, 4] rfl ?_
              rw [ffree, if_neg hc64] at hq
              exact ih (i + 1) (by omega) hq
        refine key 10 0 rfl ?_
        show fx_X g mq_MO_surface 73 [(4, .int (nI (sfree h q))), (0, .ref q), (1, .int cl), (2, .int cs), (3, .int rs)] [] (fx_wi h q 0 (0 : Int32)) _ 0 0
        refine fx_iload 0 dq_MO_surface_73 rfl ?_
        refine fx_bipush (v := 10) dq_MO_surface_75 (by decide) ?_
        refine fx_icmp_eq (tgt := 90) dq_MO_surface_77 (by decide) (fun hc77 => ?_) (fun hc77 => ?_)
        · -- 77: jump
          refine fx_aload_n 1 dq_MO_surface_90 rfl rfl ?_
          refine fx_iconst (v := 2) dq_MO_surface_91 (by decide) ?_
          refine fx_puti ok fp_MO_126 hm.1 (by decide) dq_MO_surface_92 (Or.inl (by decide)) ?_
          refine fx_iconst (v := 0) dq_MO_surface_95 (by decide) ?_
          exact fx_ireturn rfl dq_MO_surface_96 ⟨by rw [v_MO_surface, if_neg hc7, if_neg hc17, if_neg hc27, if_pos hc77], by rw [k_MO_surface, if_neg hc7, if_neg hc17, if_neg hc27, if_pos hc77]⟩
        · -- 77: fall
          refine fx_iload_n 3 dq_MO_surface_80 rfl rfl ?_
          refine fx_iload_n 4 dq_MO_surface_81 rfl rfl ?_
          refine fx_imul dq_MO_surface_82 ?_
          refine fx_aload_n 1 dq_MO_surface_83 rfl rfl ?_
          refine fx_Vi0 ok sq_MO_133 hm.1 (c_MO_freePixels ok (fx_wi h q 0 (0 : Int32)) q  (by exact hm)) (by decide) (Nat.le_of_ble_eq_true rfl) dq_MO_surface_84 ?_
          refine fx_icmp_le (tgt := 97) dq_MO_surface_87 (by decide) (fun hc87 => ?_) (fun hc87 => ?_)
          · -- 87: jump
            refine fx_aload_n 1 dq_MO_surface_97 rfl rfl ?_
            refine fx_getr ok fq_MO_7 hm.1 dq_MO_surface_98 (by decide) (mo_used hm).1 ?_
            refine fx_iload 0 dq_MO_surface_101 rfl ?_
            refine fx_iconst (v := 1) dq_MO_surface_103 (by decide) ?_
            refine fx_bsN ok (mo_used hm).2 (by decide) ⟨sf_lt hc77, by decide⟩ dq_MO_surface_104 ?_
            refine fx_eqh (h' := su1 h q cl cs rs) rfl ?_
            have e105f : fx_sm h (su1 h q cl cs rs) := rfl
            refine fx_aload_n 1 dq_MO_surface_105 rfl rfl ?_
            refine fx_getr ok fq_MO_13 ((fx_sm_s e105f _).trans hm.1) dq_MO_surface_106 (by decide) ((fx_sm_r e105f _ _).trans (mo_client hm).1) ?_
            refine fx_iload 0 dq_MO_surface_109 rfl ?_
            refine fx_iload_n 2 dq_MO_surface_111 rfl rfl ?_
            refine fx_isN ok ((fx_sm_s e105f _).trans (mo_client hm).2) ⟨sf_lt hc77, by decide⟩ dq_MO_surface_112 ?_
            have e112w : fx_sm h (fx_wi (su1 h q cl cs rs) (q + 2) (sfree h q) cl) := fx_sm_t (h' := (su1 h q cl cs rs)) e105f (sm_wi _ _ _ _)
            refine fx_eqh (h' := su2 h q cl cs rs) rfl ?_
            have e113f : fx_sm h (su2 h q cl cs rs) := e112w
            refine fx_aload_n 1 dq_MO_surface_113 rfl rfl ?_
            refine fx_getr ok fq_MO_17 ((fx_sm_s e113f _).trans hm.1) dq_MO_surface_114 (by decide) ((fx_sm_r e113f _ _).trans (mo_columns hm).1) ?_
            refine fx_iload 0 dq_MO_surface_117 rfl ?_
            refine fx_iload_n 3 dq_MO_surface_119 rfl rfl ?_
            refine fx_isN ok ((fx_sm_s e113f _).trans (mo_columns hm).2) ⟨sf_lt hc77, by decide⟩ dq_MO_surface_120 ?_
            have e120w : fx_sm h (fx_wi (su2 h q cl cs rs) (q + 3) (sfree h q) cs) := fx_sm_t (h' := (su2 h q cl cs rs)) e113f (sm_wi _ _ _ _)
            refine fx_eqh (h' := su3 h q cl cs rs) rfl ?_
            have e121f : fx_sm h (su3 h q cl cs rs) := e120w
            refine fx_aload_n 1 dq_MO_surface_121 rfl rfl ?_
            refine fx_getr ok fq_MO_20 ((fx_sm_s e121f _).trans hm.1) dq_MO_surface_122 (by decide) ((fx_sm_r e121f _ _).trans (mo_rows hm).1) ?_
            refine fx_iload 0 dq_MO_surface_125 rfl ?_
            refine fx_iload_n 4 dq_MO_surface_127 rfl rfl ?_
            refine fx_isN ok ((fx_sm_s e121f _).trans (mo_rows hm).2) ⟨sf_lt hc77, by decide⟩ dq_MO_surface_128 ?_
            have e128w : fx_sm h (fx_wi (su3 h q cl cs rs) (q + 4) (sfree h q) rs) := fx_sm_t (h' := (su3 h q cl cs rs)) e121f (sm_wi _ _ _ _)
            refine fx_eqh (h' := su4 h q cl cs rs) rfl ?_
            have e129f : fx_sm h (su4 h q cl cs rs) := e128w
            refine fx_aload_n 1 dq_MO_surface_129 rfl rfl ?_
            refine fx_getr ok fq_MO_23 ((fx_sm_s e129f _).trans hm.1) dq_MO_surface_130 (by decide) ((fx_sm_r e129f _ _).trans (mo_destroyed hm).1) ?_
            refine fx_iload 0 dq_MO_surface_133 rfl ?_
            refine fx_iconst (v := 0) dq_MO_surface_135 (by decide) ?_
            refine fx_bsN ok ((fx_sm_s e129f _).trans (mo_destroyed hm).2) (by decide) ⟨sf_lt hc77, by decide⟩ dq_MO_surface_136 ?_
            have e136w : fx_sm h (fx_wi (su4 h q cl cs rs) (q + 5) (sfree h q) (0 : Int32)) := fx_sm_t (h' := (su4 h q cl cs rs)) e129f (sm_wi _ _ _ _)
            refine fx_eqh (h' := su5 h q cl cs rs) rfl ?_
            have e137f : fx_sm h (su5 h q cl cs rs) := e136w
            refine fx_aload_n 1 dq_MO_surface_137 rfl rfl ?_
            refine fx_getr ok fq_MO_26 ((fx_sm_s e137f _).trans hm.1) dq_MO_surface_138 (by decide) ((fx_sm_r e137f _ _).trans (mo_gone hm).1) ?_
            refine fx_iload 0 dq_MO_surface_141 rfl ?_
            refine fx_iconst (v := 0) dq_MO_surface_143 (by decide) ?_
            refine fx_bsN ok ((fx_sm_s e137f _).trans (mo_gone hm).2) (by decide) ⟨sf_lt hc77, by decide⟩ dq_MO_surface_144 ?_
            have e144w : fx_sm h (fx_wi (su5 h q cl cs rs) (q + 6) (sfree h q) (0 : Int32)) := fx_sm_t (h' := (su5 h q cl cs rs)) e137f (sm_wi _ _ _ _)
            refine fx_eqh (h' := su6 h q cl cs rs) rfl ?_
            have e145f : fx_sm h (su6 h q cl cs rs) := e144w
            refine fx_aload_n 1 dq_MO_surface_145 rfl rfl ?_
            refine fx_getr ok fq_MO_29 ((fx_sm_s e145f _).trans hm.1) dq_MO_surface_146 (by decide) ((fx_sm_r e145f _ _).trans (mo_there hm).1) ?_
            refine fx_iload 0 dq_MO_surface_149 rfl ?_
            refine fx_iconst (v := 1) dq_MO_surface_151 (by decide) ?_
            refine fx_bsN ok ((fx_sm_s e145f _).trans (mo_there hm).2) (by decide) ⟨Nat.lt_trans (sf_lt hc77) (by decide), by decide⟩ dq_MO_surface_152 ?_
            have e152w : fx_sm h (fx_wi (su6 h q cl cs rs) (q + 7) (sfree h q) (1 : Int32)) := fx_sm_t (h' := (su6 h q cl cs rs)) e145f (sm_wi _ _ _ _)
            refine fx_eqh (h' := su7 h q cl cs rs) rfl ?_
            have e153f : fx_sm h (su7 h q cl cs rs) := e152w
            refine fx_aload_n 1 dq_MO_surface_153 rfl rfl ?_
            refine fx_getr ok fq_MO_29 ((fx_sm_s e153f _).trans hm.1) dq_MO_surface_154 (by decide) ((fx_sm_r e153f _ _).trans (mo_there hm).1) ?_
            refine fx_bipush (v := 10) dq_MO_surface_157 (by decide) ?_
            refine fx_iload 0 dq_MO_surface_159 rfl ?_
            refine fx_iadd dq_MO_surface_161 ?_
            refine fx_iconst (v := 0) dq_MO_surface_162 (by decide) ?_
            refine fx_bastore ok ((fx_sm_s e153f _).trans (mo_there hm).2) (by decide) (in30a (sf_lt hc77)) dq_MO_surface_163 ?_
            have e163w : fx_sm h (fx_wi (su7 h q cl cs rs) (q + 7) ((10 : Int32) + (nI (sfree h q))).toNatClampNeg (0 : Int32)) := fx_sm_t (h' := (su7 h q cl cs rs)) e153f (sm_wi _ _ _ _)
            refine fx_eqh (h' := su8 h q cl cs rs) rfl ?_
            have e164f : fx_sm h (su8 h q cl cs rs) := e163w
            refine fx_aload_n 1 dq_MO_surface_164 rfl rfl ?_
            refine fx_getr ok fq_MO_29 ((fx_sm_s e164f _).trans hm.1) dq_MO_surface_165 (by decide) ((fx_sm_r e164f _ _).trans (mo_there hm).1) ?_
            refine fx_bipush (v := 20) dq_MO_surface_168 (by decide) ?_
            refine fx_iload 0 dq_MO_surface_170 rfl ?_
            refine fx_iadd dq_MO_surface_172 ?_
            refine fx_iconst (v := 0) dq_MO_surface_173 (by decide) ?_
            refine fx_bastore ok ((fx_sm_s e164f _).trans (mo_there hm).2) (by decide) (in30b (sf_lt hc77)) dq_MO_surface_174 ?_
            have e174w : fx_sm h (fx_wi (su8 h q cl cs rs) (q + 7) ((20 : Int32) + (nI (sfree h q))).toNatClampNeg (0 : Int32)) := fx_sm_t (h' := (su8 h q cl cs rs)) e164f (sm_wi _ _ _ _)
            refine fx_eqh (h' := su9 h q cl cs rs) rfl ?_
            have e175f : fx_sm h (su9 h q cl cs rs) := e174w
            refine fx_aload_n 1 dq_MO_surface_175 rfl rfl ?_
            refine fx_getr ok fq_MO_32 ((fx_sm_s e175f _).trans hm.1) dq_MO_surface_176 (by decide) ((fx_sm_r e175f _ _).trans (mo_px hm).1) ?_
            refine fx_iload 0 dq_MO_surface_179 rfl ?_
            refine fx_iconst (v := 0) dq_MO_surface_181 (by decide) ?_
            refine fx_isN ok ((fx_sm_s e175f _).trans (mo_px hm).2) ⟨Nat.lt_trans (sf_lt hc77) (by decide), by decide⟩ dq_MO_surface_182 ?_
            have e182w : fx_sm h (fx_wi (su9 h q cl cs rs) (q + 8) (sfree h q) (0 : Int32)) := fx_sm_t (h' := (su9 h q cl cs rs)) e175f (sm_wi _ _ _ _)
            refine fx_eqh (h' := su10 h q cl cs rs) rfl ?_
            have e183f : fx_sm h (su10 h q cl cs rs) := e182w
            refine fx_aload_n 1 dq_MO_surface_183 rfl rfl ?_
            refine fx_getr ok fq_MO_35 ((fx_sm_s e183f _).trans hm.1) dq_MO_surface_184 (by decide) ((fx_sm_r e183f _ _).trans (mo_py hm).1) ?_
            refine fx_iload 0 dq_MO_surface_187 rfl ?_
            refine fx_iconst (v := 0) dq_MO_surface_189 (by decide) ?_
            refine fx_isN ok ((fx_sm_s e183f _).trans (mo_py hm).2) ⟨Nat.lt_trans (sf_lt hc77) (by decide), by decide⟩ dq_MO_surface_190 ?_
            have e190w : fx_sm h (fx_wi (su10 h q cl cs rs) (q + 9) (sfree h q) (0 : Int32)) := fx_sm_t (h' := (su10 h q cl cs rs)) e183f (sm_wi _ _ _ _)
            refine fx_eqh (h' := su11 h q cl cs rs) rfl ?_
            have e191f : fx_sm h (su11 h q cl cs rs) := e190w
            refine fx_aload_n 1 dq_MO_surface_191 rfl rfl ?_
            refine fx_getr ok fq_MO_38 ((fx_sm_s e191f _).trans hm.1) dq_MO_surface_192 (by decide) ((fx_sm_r e191f _ _).trans (mo_order hm).1) ?_
            refine fx_iload 0 dq_MO_surface_195 rfl ?_
            refine fx_iconst (v := 0) dq_MO_surface_197 (by decide) ?_
            refine fx_isN ok ((fx_sm_s e191f _).trans (mo_order hm).2) ⟨Nat.lt_trans (sf_lt hc77) (by decide), by decide⟩ dq_MO_surface_198 ?_
            have e198w : fx_sm h (fx_wi (su11 h q cl cs rs) (q + 10) (sfree h q) (0 : Int32)) := fx_sm_t (h' := (su11 h q cl cs rs)) e191f (sm_wi _ _ _ _)
            refine fx_eqh (h' := su12 h q cl cs rs) rfl ?_
            have e199f : fx_sm h (su12 h q cl cs rs) := e198w
            refine fx_aload_n 1 dq_MO_surface_199 rfl rfl ?_
            refine fx_getr ok fq_MO_41 ((fx_sm_s e199f _).trans hm.1) dq_MO_surface_200 (by decide) ((fx_sm_r e199f _ _).trans (mo_alpha hm).1) ?_
            refine fx_iload 0 dq_MO_surface_203 rfl ?_
            refine fx_bipush (v := 16) dq_MO_surface_205 (by decide) ?_
            refine fx_isN ok ((fx_sm_s e199f _).trans (mo_alpha hm).2) ⟨Nat.lt_trans (sf_lt hc77) (by decide), by decide⟩ dq_MO_surface_207 ?_
            have e207w : fx_sm h (fx_wi (su12 h q cl cs rs) (q + 11) (sfree h q) (16 : Int32)) := fx_sm_t (h' := (su12 h q cl cs rs)) e199f (sm_wi _ _ _ _)
            refine fx_eqh (h' := su13 h q cl cs rs) rfl ?_
            have e208f : fx_sm h (su13 h q cl cs rs) := e207w
            refine fx_aload_n 1 dq_MO_surface_208 rfl rfl ?_
            refine fx_getr ok fq_MO_44 ((fx_sm_s e208f _).trans hm.1) dq_MO_surface_209 (by decide) ((fx_sm_r e208f _ _).trans (mo_visible hm).1) ?_
            refine fx_iload 0 dq_MO_surface_212 rfl ?_
            refine fx_iconst (v := 0) dq_MO_surface_214 (by decide) ?_
            refine fx_bsN ok ((fx_sm_s e208f _).trans (mo_visible hm).2) (by decide) ⟨Nat.lt_trans (sf_lt hc77) (by decide), by decide⟩ dq_MO_surface_215 ?_
            have e215w : fx_sm h (fx_wi (su13 h q cl cs rs) (q + 12) (sfree h q) (0 : Int32)) := fx_sm_t (h' := (su13 h q cl cs rs)) e208f (sm_wi _ _ _ _)
            refine fx_eqh (h' := su14 h q cl cs rs) rfl ?_
            have e216f : fx_sm h (su14 h q cl cs rs) := e215w
            refine fx_aload_n 1 dq_MO_surface_216 rfl rfl ?_
            refine fx_getr ok fq_MO_47 ((fx_sm_s e216f _).trans hm.1) dq_MO_surface_217 (by decide) ((fx_sm_r e216f _ _).trans (mo_cx hm).1) ?_
            refine fx_iload 0 dq_MO_surface_220 rfl ?_
            refine fx_iconst (v := 0) dq_MO_surface_222 (by decide) ?_
            refine fx_isN ok ((fx_sm_s e216f _).trans (mo_cx hm).2) ⟨Nat.lt_trans (sf_lt hc77) (by decide), by decide⟩ dq_MO_surface_223 ?_
            have e223w : fx_sm h (fx_wi (su14 h q cl cs rs) (q + 13) (sfree h q) (0 : Int32)) := fx_sm_t (h' := (su14 h q cl cs rs)) e216f (sm_wi _ _ _ _)
            refine fx_eqh (h' := su15 h q cl cs rs) rfl ?_
            have e224f : fx_sm h (su15 h q cl cs rs) := e223w
            refine fx_aload_n 1 dq_MO_surface_224 rfl rfl ?_
            refine fx_getr ok fq_MO_50 ((fx_sm_s e224f _).trans hm.1) dq_MO_surface_225 (by decide) ((fx_sm_r e224f _ _).trans (mo_cy hm).1) ?_
            refine fx_iload 0 dq_MO_surface_228 rfl ?_
            refine fx_iconst (v := 0) dq_MO_surface_230 (by decide) ?_
            refine fx_isN ok ((fx_sm_s e224f _).trans (mo_cy hm).2) ⟨Nat.lt_trans (sf_lt hc77) (by decide), by decide⟩ dq_MO_surface_231 ?_
            have e231w : fx_sm h (fx_wi (su15 h q cl cs rs) (q + 14) (sfree h q) (0 : Int32)) := fx_sm_t (h' := (su15 h q cl cs rs)) e224f (sm_wi _ _ _ _)
            refine fx_eqh (h' := su16 h q cl cs rs) rfl ?_
            have e232f : fx_sm h (su16 h q cl cs rs) := e231w
            refine fx_aload_n 1 dq_MO_surface_232 rfl rfl ?_
            refine fx_getr ok fq_MO_53 ((fx_sm_s e232f _).trans hm.1) dq_MO_surface_233 (by decide) ((fx_sm_r e232f _ _).trans (mo_cw hm).1) ?_
            refine fx_iload 0 dq_MO_surface_236 rfl ?_
            refine fx_iload_n 3 dq_MO_surface_238 rfl rfl ?_
            refine fx_isN ok ((fx_sm_s e232f _).trans (mo_cw hm).2) ⟨Nat.lt_trans (sf_lt hc77) (by decide), by decide⟩ dq_MO_surface_239 ?_
            have e239w : fx_sm h (fx_wi (su16 h q cl cs rs) (q + 15) (sfree h q) cs) := fx_sm_t (h' := (su16 h q cl cs rs)) e232f (sm_wi _ _ _ _)
            refine fx_eqh (h' := su17 h q cl cs rs) rfl ?_
            have e240f : fx_sm h (su17 h q cl cs rs) := e239w
            refine fx_aload_n 1 dq_MO_surface_240 rfl rfl ?_
            refine fx_getr ok fq_MO_56 ((fx_sm_s e240f _).trans hm.1) dq_MO_surface_241 (by decide) ((fx_sm_r e240f _ _).trans (mo_ch hm).1) ?_
            refine fx_iload 0 dq_MO_surface_244 rfl ?_
            refine fx_iload_n 4 dq_MO_surface_246 rfl rfl ?_
            refine fx_isN ok ((fx_sm_s e240f _).trans (mo_ch hm).2) ⟨Nat.lt_trans (sf_lt hc77) (by decide), by decide⟩ dq_MO_surface_247 ?_
            have e247w : fx_sm h (fx_wi (su17 h q cl cs rs) (q + 16) (sfree h q) rs) := fx_sm_t (h' := (su17 h q cl cs rs)) e240f (sm_wi _ _ _ _)
            refine fx_eqh (h' := su18 h q cl cs rs) rfl ?_
            have e248f : fx_sm h (su18 h q cl cs rs) := e247w
            refine fx_iconst (v := 0) dq_MO_surface_248 (by decide) ?_
            refine fx_istore dq_MO_surface_249 (by decide) rfl ?_
            refine fx_for (fun i => [(5, .int (nI i)), (4, .int (nI (sfree h q))), (0, .ref q), (1, .int cl), (2, .int cs), (3, .int rs)]) (b_MO_surface h q) (su18 h q cl cs rs) 96 (fun i hi hK251 => ?_) ?_
            · have e251b : fx_sm h (it (b_MO_surface h q) (su18 h q cl cs rs) i) := fx_sm_t (h' := (su18 h q cl cs rs)) e248f (fx_sm_it (by intro _ _; unfold b_MO_surface; rfl) (su18 h q cl cs rs) i)
              generalize it (b_MO_surface h q) (su18 h q cl cs rs) i = k at e251b hK251  ⊢
              refine fx_iload 0 dq_MO_surface_251 rfl ?_
              refine fx_bipush (v := 96) dq_MO_surface_253 (by decide) ?_
              refine fx_icmp_ge (tgt := 278) dq_MO_surface_255 (by decide) (fun hc255 => absurd hc255 (nI_ge (b := 96) hi (by decide))) (fun hc255 => ?_)
              refine fx_aload_n 2 dq_MO_surface_258 rfl rfl ?_
              refine fx_getr ok fq_MO_59 ((fx_sm_s e251b _).trans hm.1) dq_MO_surface_259 (by decide) ((fx_sm_r e251b _ _).trans (mo_pixels hm).1) ?_
              refine fx_bipush (v := 96) dq_MO_surface_262 (by decide) ?_
              refine fx_iload 1 dq_MO_surface_264 rfl ?_
              refine fx_imul dq_MO_surface_266 ?_
              refine fx_iload 0 dq_MO_surface_267 rfl ?_
              refine fx_iadd dq_MO_surface_269 ?_
              refine fx_iconst (v := 0) dq_MO_surface_270 (by decide) ?_
              refine fx_iastore ok ((fx_sm_s e251b _).trans (mo_pixels hm).2) (px_in (Nat.lt_trans (sf_lt hc77) (by decide)) hi) dq_MO_surface_271 ?_
              have e271w : fx_sm h (fx_wi k (q + 17) (((96 : Int32) * (nI (sfree h q))) + (nI i)).toNatClampNeg (0 : Int32)) := fx_sm_t (h' := k) e251b (sm_wi _ _ _ _)
              refine fx_iinc 0 dq_MO_surface_272 rfl (jz_i _) (by decide) rfl ?_
              refine fx_goto (tgt := 251) dq_MO_surface_275 (by decide) ?_
              refine fx_sub [0, 1, 2, 3, 4, 5] rfl ?_
              exact hK251
            · have e251x : fx_sm h (it (b_MO_surface h q) (su18 h q cl cs rs) 96) := fx_sm_t (h' := (su18 h q cl cs rs)) e248f (fx_sm_it (by intro _ _; unfold b_MO_surface; rfl) (su18 h q cl cs rs) 96)
              refine fx_iload 0 dq_MO_surface_251 rfl ?_
              refine fx_bipush (v := 96) dq_MO_surface_253 (by decide) ?_
              refine fx_icmp_ge (tgt := 278) dq_MO_surface_255 (by decide) (fun hc255 => ?_) (fun hc255 => absurd (by decide) hc255)
              refine fx_iload 1 dq_MO_surface_278 rfl ?_
              exact fx_ireturn rfl dq_MO_surface_280 ⟨by rw [v_MO_surface, if_neg hc7, if_neg hc17, if_neg hc27, if_neg hc77, if_pos hc87], by rw [k_MO_surface, if_neg hc7, if_neg hc17, if_neg hc27, if_neg hc77, if_pos hc87]⟩
          · -- 87: fall
            refine fx_aload_n 1 dq_MO_surface_90 rfl rfl ?_
            refine fx_iconst (v := 2) dq_MO_surface_91 (by decide) ?_
            refine fx_puti ok fp_MO_126 hm.1 (by decide) dq_MO_surface_92 (Or.inl (by decide)) ?_
            refine fx_iconst (v := 0) dq_MO_surface_95 (by decide) ?_
            exact fx_ireturn rfl dq_MO_surface_96 ⟨by rw [v_MO_surface, if_neg hc7, if_neg hc17, if_neg hc27, if_neg hc77, if_neg hc87], by rw [k_MO_surface, if_neg hc7, if_neg hc17, if_neg hc27, if_neg hc77, if_neg hc87]⟩
