/-! ===== FrameSwapper: its calls ===== -/
abbrev fx_ou (O : fx_O) (k : fx_H) : fx_O → fx_H → Prop := fun o h' => o = O ∧ h' = k
/-- the swapper at w: desk, composer (memories f, b), beam, area, carried -/
def isF (h : fx_H) (w f b : Nat) : Prop := fx_s h w = some (.inl 0) ∧ fx_r h w 0 = some (w + 1) ∧ isD h (w + 1) ∧ fx_r h w 1 = some (w + 89) ∧ isC h (w + 89) f b ∧ fx_r h w 2 = some (w + 175) ∧ isB h (w + 175) ∧ fx_r h w 3 = some (w + 186) ∧ fx_s h (w + 186) = some (.inl 1) ∧ fx_r h w 4 = some (w + 187) ∧ isP h (w + 187)
theorem sm_shift (h : fx_H) (a : Nat) (u v : Int32) : fx_sm h (rshift h a u v) := rfl
theorem sm_cut (h : fx_H) (a : Nat) (u v : Int32) : fx_sm h (rcut h a u v) := rfl
theorem has_in {h : fx_H} {d : Nat} {s : Int32} (hs : ¬ v_DE_hasDraft h d s = 0) : vp_in s 10 := by
  unfold v_DE_hasDraft at hs
  by_cases h1 : s < 0
  · rw [if_pos h1] at hs
    exact absurd rfl hs
  · by_cases h2 : (10 : Int32) ≤ s
    · rw [if_neg h1, if_pos h2] at hs
      exact absurd rfl hs
    · exact jz_in h1 h2
theorem srch_in (c : Nat → Bool) : ∀ (n i N : Nat), i + n = N → N ≤ 10 → ¬ srch c (fun i => nI i) (-1) i n = -1 → vp_in (srch c (fun i => nI i) (-1) i n) 10
  | 0, i, N, _, _, h => absurd rfl h
  | n + 1, i, N, hN, h10, h => by
    rw [srch] at h ⊢
    split
    · exact vp_in_nI (by omega) (by decide)
    · rename_i hc
      rw [if_neg hc] at h
      exact srch_in c n (i + 1) N (by omega) h10 h
theorem low_in {h : fx_H} {d : Nat} (hn : ¬ v_DE_lowestFreeNumber h d = -1) : vp_in (v_DE_lowestFreeNumber h d) 10 := srch_in _ 10 0 10 rfl (Nat.le_refl _) hn
theorem jW_in {x lo hi : Int32} {n : Nat} (h : ¬ jW x lo hi = 0) (h0 : lo = 0) (hn : hi.toInt + 1 = n) : vp_in x n := by
  subst h0
  unfold jW at h
  by_cases h1 : ¬ x < 0 ∧ ¬ hi < x
  · rw [iz_lt, iz_lt] at h1
    have e0 : (0 : Int32).toInt = 0 := rfl
    exact iz_in (by omega) (by omega)
  · rw [if_neg h1] at h
    exact absurd rfl h
def poPre (h : fx_H) (p a : Nat) : Prop := rOk h a ∧ ∀ r c, r < (fx_i h a 3).toNatClampNeg → c < (fx_i h a 2).toNatClampNeg → vp_in ((fx_i h a 1 + nI r) * fx_i h p 1 + (fx_i h a 0 + nI c)) 96
def lyPre (h : fx_H) (p a q : Nat) : Prop := poPre h p a ∧ ∀ r c, r < (fx_i h a 3).toNatClampNeg → c < (fx_i h a 2).toNatClampNeg → vp_in (pIx h q (fx_i h a 0 + nI c) (fx_i h a 1 + nI r)) 96
def kOv (h : fx_H) (p a : Nat) (v : Int32) : fx_H := it (fun r k => it (fun c k => pOv h p a v r c k) k (fx_i h a 2).toNatClampNeg) h (fx_i h a 3).toNatClampNeg
def kLy (h : fx_H) (p a q : Nat) : fx_H := it (fun r k => it (fun c k => pLay h p a q r c k) k (fx_i h a 2).toNatClampNeg) h (fx_i h a 3).toNatClampNeg
theorem kOv_on (h : fx_H) (p a : Nat) (v : Int32) : fx_on (p + 1) h (kOv h p a v) := pOv_on h p a v _ _
theorem kLy_on (h : fx_H) (p a q : Nat) : fx_on (p + 1) h (kLy h p a q) := pLay_on h p a q _ _
theorem c_PI_paintOver {g : fx_G} (ok : fx_ok g) (h : fx_H) (p a : Nat) (v : Int32) (hp : isP h p) (ha : fx_s h a = some (.inl 1)) (hap : a ≠ p + 1) (hr : poPre h p a) : fx_C g mq_PI_paintOver [.ref p, .ref a, .int v] h (fx_is none (kOv h p a v)) 0 0 := cp_paintOver ok h p a hp ha hap hr.1 v hr.2
theorem c_PI_layDown {g : fx_G} (ok : fx_ok g) (h : fx_H) (p a q : Nat) (hp : isP h p) (ha : fx_s h a = some (.inl 1)) (hq : isP h q) (hap : a ≠ p + 1) (hpq : p + 3 < q ∨ q + 3 < p) (hr : lyPre h p a q) : fx_C g mq_PI_layDown [.ref p, .ref a, .ref q] h (fx_is none (kLy h p a q)) 0 0 := cp_layDown ok h p a q hp ha hq hap hpq hr.1.1 hr.1.2 hr.2
theorem swap_s (h : fx_H) (c f b a : Nat) : fx_s (k_CO_swap h c f b) a = fx_s h a := rfl
theorem swap_r (h : fx_H) (c f b a j : Nat) (hj : a ≠ c ∨ (j ≠ 4 ∧ j ≠ 5)) : fx_r (k_CO_swap h c f b) a j = fx_r h a j := by
  unfold k_CO_swap
  rw [fx_r_wi, fx_r_wi, fx_r_wr, if_neg (by omega), fx_r_wr, if_neg (by omega)]
theorem isN_swap {h : fx_H} {c f b n : Nat} (hn : isN h n) (h1 : c ≠ n ∧ c ≠ n + 2 ∧ c ≠ n + 5) : isN (k_CO_swap h c f b) n := by
  obtain ⟨a1, a2, a3, a4, a5, a6, a7, a8⟩ := hn
  exact ⟨a1, (swap_r _ _ _ _ _ _ (by omega)).trans a2, a3, (swap_r _ _ _ _ _ _ (by omega)).trans a4, a5, (swap_r _ _ _ _ _ _ (by omega)).trans a6, a7, fun i hi => ⟨(swap_r _ _ _ _ _ _ (by omega)).trans (a8 i hi).1, (a8 i hi).2.1, (swap_r _ _ _ _ _ _ (by omega)).trans (a8 i hi).2.2.1, (a8 i hi).2.2.2⟩⟩
theorem ts3 {x : Int32} (h0 : ¬ x = 0) (h1 : ¬ x = 1) (h2 : ¬ x = 2) : x.toInt < 0 ∨ 2 < x.toInt := by
  rw [iz_eq] at h0 h1 h2
  have e0 : (0 : Int32).toInt = 0 := rfl
  have e1 : (1 : Int32).toInt = 1 := rfl
  have e2 : (2 : Int32).toInt = 2 := rfl
  omega
theorem ts4 {x : Int32} (h0 : ¬ x = 0) (h1 : ¬ x = 1) (h2 : ¬ x = 2) (h3 : ¬ x = 3) : x.toInt < 0 ∨ 3 < x.toInt := by
  rw [iz_eq] at h0 h1 h2 h3
  have e0 : (0 : Int32).toInt = 0 := rfl
  have e1 : (1 : Int32).toInt = 1 := rfl
  have e2 : (2 : Int32).toInt = 2 := rfl
  have e3 : (3 : Int32).toInt = 3 := rfl
  omega
theorem sm_BE_endFrame (h : fx_H) (e : Nat) (n : Int32) : fx_sm h (k_BE_endFrame h e n) := rfl
def o_FS_state (h : fx_H) (w f b : Nat) : fx_O := Sum.inl (some (fx_i h (w + 89) 6))
def k_FS_state (h : fx_H) (w f b : Nat) : fx_H := h
set_option maxRecDepth 100000 in
set_option maxHeartbeats 1000000 in
theorem c_FS_state {g : fx_G} (ok : fx_ok g) (h : fx_H) (w f b : Nat) (hF : isF h w f b)   : fx_C g mq_FS_state [.ref w] h (fx_ou (o_FS_state h w f b) (k_FS_state h w f b)) 0 0 := by
  refine fx_body (by decide +kernel) (Nat.le_of_ble_eq_true rfl) ?_
  show fx_X g mq_FS_state 0 [(0, .ref w)] [] h _ 0 0
  refine fx_aload_n 0 dq_FS_state_0 rfl rfl ?_
  refine fx_getr ok fq_FS_19 hF.1 dq_FS_state_1 (by decide) hF.2.2.2.1 ?_
  refine fx_geti ok fq_FS_163 hF.2.2.2.2.1.1 dq_FS_state_4 (by decide) ?_
  exact fx_ireturn rfl dq_FS_state_7 ⟨rfl, rfl⟩
def o_FS_free (h : fx_H) (w f b : Nat) : fx_O := Sum.inl (some (fx_i h (w + 1) 6))
def k_FS_free (h : fx_H) (w f b : Nat) : fx_H := h
set_option maxRecDepth 100000 in
set_option maxHeartbeats 1000000 in
theorem c_FS_free {g : fx_G} (ok : fx_ok g) (h : fx_H) (w f b : Nat) (hF : isF h w f b)   : fx_C g mq_FS_free [.ref w] h (fx_ou (o_FS_free h w f b) (k_FS_free h w f b)) 0 0 := by
  refine fx_body (by decide +kernel) (Nat.le_of_ble_eq_true rfl) ?_
  show fx_X g mq_FS_free 0 [(0, .ref w)] [] h _ 0 0
  refine fx_aload_n 0 dq_FS_free_0 rfl rfl ?_
  refine fx_getr ok fq_FS_10 hF.1 dq_FS_free_1 (by decide) hF.2.1 ?_
  refine fx_geti ok fq_FS_60 hF.2.2.1.1 dq_FS_free_4 (by decide) ?_
  exact fx_ireturn rfl dq_FS_free_7 ⟨rfl, rfl⟩
def o_FS_surface (h : fx_H) (w f b : Nat) (cl cs rs : Int32) : fx_O := if (jW cl 0 3) = 0 then Sum.inr "java/lang/IllegalArgumentException" else if (jW cs (1 : Int32) (12 : Int32)) = 0 then Sum.inr "java/lang/IllegalArgumentException" else if (jW rs (1 : Int32) (8 : Int32)) = 0 then Sum.inr "java/lang/IllegalArgumentException" else if (v_DE_lowestFreeNumber h (w + 1)) = (-1 : Int32) then Sum.inr "java/lang/IllegalStateException" else if (cs * rs) ≤ (fx_i h (w + 1) 6) then Sum.inl (some (v_DE_lowestFreeNumber h (w + 1))) else Sum.inr "java/lang/IllegalStateException"
def k_FS_surface (h : fx_H) (w f b : Nat) (cl cs rs : Int32) : fx_H := if (jW cl 0 3) = 0 then fx_sk h 1 else if (jW cs (1 : Int32) (12 : Int32)) = 0 then fx_sk h 1 else if (jW rs (1 : Int32) (8 : Int32)) = 0 then fx_sk h 1 else if (v_DE_lowestFreeNumber h (w + 1)) = (-1 : Int32) then fx_sk h 1 else if (cs * rs) ≤ (fx_i h (w + 1) 6) then k_DE_open h (w + 1) (v_DE_lowestFreeNumber h (w + 1)) cl cs rs else fx_sk h 1
set_option maxRecDepth 100000 in
set_option maxHeartbeats 1000000 in
theorem c_FS_surface {g : fx_G} (ok : fx_ok g) (h : fx_H) (w f b : Nat) (cl cs rs : Int32) (hF : isF h w f b)   : fx_C g mq_FS_surface [.ref w, .int cl, .int cs, .int rs] h (fx_ou (o_FS_surface h w f b cl cs rs) (k_FS_surface h w f b cl cs rs)) 1 6 := by
  refine fx_body (by decide +kernel) (Nat.le_of_ble_eq_true rfl) ?_
  show fx_X g mq_FS_surface 0 [(0, .ref w), (1, .int cl), (2, .int cs), (3, .int rs)] [] h _ 1 6
  refine fx_iload_n 1 dq_FS_surface_0 rfl rfl ?_
  refine fx_Si1 ok sq_FS_44 (cq_isClient ok _ _) (by decide) (Nat.le_of_ble_eq_true rfl) dq_FS_surface_1 ?_
  refine fx_if_eq (tgt := 31) dq_FS_surface_4 (by decide) (fun hc4 => ?_) (fun hc4 => ?_)
  · -- 4: jump
    refine fx_iconst (v := 0) dq_FS_surface_31 (by decide) ?_
    exact fx_St1 ok (mc := 0) (ms := 0) sq_FS_52 (cq_demand0 ok _ _ rfl) (by decide) (Nat.le_of_ble_eq_true rfl) dq_FS_surface_32 (fx_T_out rfl ⟨by rw [o_FS_surface, if_pos hc4], by first | rfl | rw [k_FS_surface, if_pos hc4]⟩)
  · -- 4: fall
    refine fx_iload_n 2 dq_FS_surface_7 rfl rfl ?_
    refine fx_iconst (v := 1) dq_FS_surface_8 (by decide) ?_
    refine fx_bipush (v := 12) dq_FS_surface_9 (by decide) ?_
    refine fx_Si3 ok sq_FS_48 (cq_isWithin ok _ _ _ _) (by decide) (Nat.le_of_ble_eq_true rfl) dq_FS_surface_11 ?_
    refine fx_if_eq (tgt := 31) dq_FS_surface_14 (by decide) (fun hc14 => ?_) (fun hc14 => ?_)
    · -- 14: jump
      refine fx_iconst (v := 0) dq_FS_surface_31 (by decide) ?_
      exact fx_St1 ok (mc := 0) (ms := 0) sq_FS_52 (cq_demand0 ok _ _ rfl) (by decide) (Nat.le_of_ble_eq_true rfl) dq_FS_surface_32 (fx_T_out rfl ⟨by rw [o_FS_surface, if_neg hc4, if_pos hc14], by first | rfl | rw [k_FS_surface, if_neg hc4, if_pos hc14]⟩)
    · -- 14: fall
      refine fx_iload_n 3 dq_FS_surface_17 rfl rfl ?_
      refine fx_iconst (v := 1) dq_FS_surface_18 (by decide) ?_
      refine fx_bipush (v := 8) dq_FS_surface_19 (by decide) ?_
      refine fx_Si3 ok sq_FS_48 (cq_isWithin ok _ _ _ _) (by decide) (Nat.le_of_ble_eq_true rfl) dq_FS_surface_21 ?_
      refine fx_if_eq (tgt := 31) dq_FS_surface_24 (by decide) (fun hc24 => ?_) (fun hc24 => ?_)
      · -- 24: jump
        refine fx_iconst (v := 0) dq_FS_surface_31 (by decide) ?_
        exact fx_St1 ok (mc := 0) (ms := 0) sq_FS_52 (cq_demand0 ok _ _ rfl) (by decide) (Nat.le_of_ble_eq_true rfl) dq_FS_surface_32 (fx_T_out rfl ⟨by rw [o_FS_surface, if_neg hc4, if_neg hc14, if_pos hc24], by first | rfl | rw [k_FS_surface, if_neg hc4, if_neg hc14, if_pos hc24]⟩)
      · -- 24: fall
        refine fx_iconst (v := 1) dq_FS_surface_27 (by decide) ?_
        refine fx_goto (tgt := 32) dq_FS_surface_28 (by decide) ?_
        refine fx_Sv1 ok sq_FS_52 (cq_demand1 ok _ _ (by decide)) (by decide) (Nat.le_of_ble_eq_true rfl) dq_FS_surface_32 ?_
        refine fx_aload_n 0 dq_FS_surface_35 rfl rfl ?_
        refine fx_getr ok fq_FS_10 hF.1 dq_FS_surface_36 (by decide) hF.2.1 ?_
        refine fx_Vi0 ok sq_FS_56 hF.2.2.1.1 (c_DE_lowestFreeNumber ok h (w + 1) hF.2.2.1) (by decide) (Nat.le_of_ble_eq_true rfl) dq_FS_surface_39 ?_
        refine fx_istore dq_FS_surface_42 (by decide) rfl ?_
        refine fx_iload 0 dq_FS_surface_44 rfl ?_
        refine fx_iconst (v := -1) dq_FS_surface_46 (by decide) ?_
        refine fx_icmp_eq (tgt := 63) dq_FS_surface_47 (by decide) (fun hc47 => ?_) (fun hc47 => ?_)
        · -- 47: jump
          exact fx_throw1 ok (mc := 0) (ms := 0) kf_IS kf_N lk_FS_64 ki_IS tw_IS dq_FS_surface_63 dq_FS_surface_66 dq_FS_surface_67 dq_FS_surface_70 (by decide) (Nat.le_of_ble_eq_true rfl) rfl ⟨by rw [o_FS_surface, if_neg hc4, if_neg hc14, if_neg hc24, if_pos hc47], by first | rfl | rw [k_FS_surface, if_neg hc4, if_neg hc14, if_neg hc24, if_pos hc47]⟩
        · -- 47: fall
          refine fx_iload_n 3 dq_FS_surface_50 rfl rfl ?_
          refine fx_iload_n 4 dq_FS_surface_51 rfl rfl ?_
          refine fx_imul dq_FS_surface_52 ?_
          refine fx_aload_n 1 dq_FS_surface_53 rfl rfl ?_
          refine fx_getr ok fq_FS_10 hF.1 dq_FS_surface_54 (by decide) hF.2.1 ?_
          refine fx_geti ok fq_FS_60 hF.2.2.1.1 dq_FS_surface_57 (by decide) ?_
          refine fx_icmp_le (tgt := 71) dq_FS_surface_60 (by decide) (fun hc60 => ?_) (fun hc60 => ?_)
          · -- 60: jump
            refine fx_aload_n 1 dq_FS_surface_71 rfl rfl ?_
            refine fx_getr ok fq_FS_10 hF.1 dq_FS_surface_72 (by decide) hF.2.1 ?_
            refine fx_iload 0 dq_FS_surface_75 rfl ?_
            refine fx_iload_n 2 dq_FS_surface_77 rfl rfl ?_
            refine fx_iload_n 3 dq_FS_surface_78 rfl rfl ?_
            refine fx_iload_n 4 dq_FS_surface_79 rfl rfl ?_
            refine fx_Vv4 ok sq_FS_67 hF.2.2.1.1 (c_DE_open ok h (w + 1) _ _ _ _ hF.2.2.1 (low_in hc47)) (by decide) (Nat.le_of_ble_eq_true rfl) dq_FS_surface_80 ?_
            refine fx_iload 0 dq_FS_surface_83 rfl ?_
            exact fx_ireturn rfl dq_FS_surface_85 ⟨by rw [o_FS_surface, if_neg hc4, if_neg hc14, if_neg hc24, if_neg hc47, if_pos hc60], by first | rfl | rw [k_FS_surface, if_neg hc4, if_neg hc14, if_neg hc24, if_neg hc47, if_pos hc60]⟩
          · -- 60: fall
            exact fx_throw1 ok (mc := 0) (ms := 0) kf_IS kf_N lk_FS_64 ki_IS tw_IS dq_FS_surface_63 dq_FS_surface_66 dq_FS_surface_67 dq_FS_surface_70 (by decide) (Nat.le_of_ble_eq_true rfl) rfl ⟨by rw [o_FS_surface, if_neg hc4, if_neg hc14, if_neg hc24, if_neg hc47, if_neg hc60], by first | rfl | rw [k_FS_surface, if_neg hc4, if_neg hc14, if_neg hc24, if_neg hc47, if_neg hc60]⟩
def o_FS_destroy (h : fx_H) (w f b : Nat) (s : Int32) : fx_O := if (v_DE_hasDraft h (w + 1) s) = 0 then Sum.inr "java/lang/IllegalArgumentException" else Sum.inl none
def k_FS_destroy (h : fx_H) (w f b : Nat) (s : Int32) : fx_H := if (v_DE_hasDraft h (w + 1) s) = 0 then fx_sk h 1 else pRemove h (w + 1 + 48 + 4 * s.toNatClampNeg)
set_option maxRecDepth 100000 in
set_option maxHeartbeats 1000000 in
theorem c_FS_destroy {g : fx_G} (ok : fx_ok g) (h : fx_H) (w f b : Nat) (s : Int32) (hF : isF h w f b)   : fx_C g mq_FS_destroy [.ref w, .int s] h (fx_ou (o_FS_destroy h w f b s) (k_FS_destroy h w f b s)) 1 6 := by
  refine fx_body (by decide +kernel) (Nat.le_of_ble_eq_true rfl) ?_
  show fx_X g mq_FS_destroy 0 [(0, .ref w), (1, .int s)] [] h _ 1 6
  refine fx_aload_n 0 dq_FS_destroy_0 rfl rfl ?_
  refine fx_getr ok fq_FS_10 hF.1 dq_FS_destroy_1 (by decide) hF.2.1 ?_
  refine fx_iload_n 1 dq_FS_destroy_4 rfl rfl ?_
  refine fx_Vi1 ok sq_FS_71 hF.2.2.1.1 (c_DE_hasDraft ok _ _ _ (by exact hF.2.2.1)) (by decide) (Nat.le_of_ble_eq_true rfl) dq_FS_destroy_5 ?_
  by_cases hb8 : (v_DE_hasDraft h (w + 1) s) = 0
  · -- 8: thrown
    exact fx_St1 ok (mc := 0) (ms := 0) sq_FS_52 (cq_demand0 ok _ _ hb8) (by decide) (Nat.le_of_ble_eq_true rfl) dq_FS_destroy_8 (fx_T_out rfl ⟨by rw [o_FS_destroy, if_pos hb8], by first | rfl | rw [k_FS_destroy, if_pos hb8]⟩)
  · -- 8: on
    refine fx_Sv1 ok sq_FS_52 (cq_demand1 ok _ _ hb8) (by decide) (Nat.le_of_ble_eq_true rfl) dq_FS_destroy_8 ?_
    refine fx_aload_n 0 dq_FS_destroy_11 rfl rfl ?_
    refine fx_getr ok fq_FS_10 hF.1 dq_FS_destroy_12 (by decide) hF.2.1 ?_
    refine fx_getr ok fq_FS_74 hF.2.2.1.1 dq_FS_destroy_15 (by decide) hF.2.2.1.2.1 ?_
    refine fx_iload_n 1 dq_FS_destroy_18 rfl rfl ?_
    refine fx_aaload ok hF.2.2.1.2.2.1 (by decide) rfl rfl (has_in hb8) (hF.2.2.1.2.2.2.2.2.2.2.2.2.2.2 _ (vp_in_lt (has_in hb8))).1 dq_FS_destroy_19 ?_
    refine fx_Vv0 ok sq_FS_78 (hF.2.2.1.2.2.2.2.2.2.2.2.2.2.2 _ (vp_in_lt (has_in hb8))).2.1 (cp_remove ok _ _ (by exact (hF.2.2.1.2.2.2.2.2.2.2.2.2.2.2 _ (vp_in_lt (has_in hb8))).2)) (by decide) (Nat.le_of_ble_eq_true rfl) dq_FS_destroy_20 ?_
    exact fx_vreturn rfl dq_FS_destroy_23 ⟨by rw [o_FS_destroy, if_neg hb8], by first | rfl | rw [k_FS_destroy, if_neg hb8]⟩
def o_FS_place (h : fx_H) (w f b : Nat) (s x y od al vi : Int32) : fx_O := if (v_DE_hasDraft h (w + 1) s) = 0 then Sum.inr "java/lang/IllegalArgumentException" else if (jW x (-20) 30) = 0 then Sum.inr "java/lang/IllegalArgumentException" else if (jW y (-20) 30) = 0 then Sum.inr "java/lang/IllegalArgumentException" else if (jW od (0 : Int32) (9 : Int32)) = 0 then Sum.inr "java/lang/IllegalArgumentException" else if (jW al (0 : Int32) (16 : Int32)) = 0 then Sum.inr "java/lang/IllegalArgumentException" else Sum.inl none
def k_FS_place (h : fx_H) (w f b : Nat) (s x y od al vi : Int32) : fx_H := if (v_DE_hasDraft h (w + 1) s) = 0 then fx_sk h 1 else if (jW x (-20) 30) = 0 then fx_sk h 1 else if (jW y (-20) 30) = 0 then fx_sk h 1 else if (jW od (0 : Int32) (9 : Int32)) = 0 then fx_sk h 1 else if (jW al (0 : Int32) (16 : Int32)) = 0 then fx_sk h 1 else pShow (fx_wi (fx_wi (fx_wi (fx_wi (fx_wi h (w + 1 + 48 + 4 * s.toNatClampNeg) 3 x) (w + 1 + 48 + 4 * s.toNatClampNeg) 4 y) (w + 1 + 48 + 4 * s.toNatClampNeg) 5 od) (w + 1 + 48 + 4 * s.toNatClampNeg) 6 al) (w + 1 + 48 + 4 * s.toNatClampNeg) 7 vi) (w + 1 + 48 + 4 * s.toNatClampNeg)
set_option maxRecDepth 100000 in
set_option maxHeartbeats 1000000 in
theorem c_FS_place {g : fx_G} (ok : fx_ok g) (h : fx_H) (w f b : Nat) (s x y od al vi : Int32) (hF : isF h w f b) (hv : vi = 0 ∨ vi = 1)  : fx_C g mq_FS_place [.ref w, .int s, .int x, .int y, .int od, .int al, .int vi] h (fx_ou (o_FS_place h w f b s x y od al vi) (k_FS_place h w f b s x y od al vi)) 1 6 := by
  refine fx_body (by decide +kernel) (Nat.le_of_ble_eq_true rfl) ?_
  show fx_X g mq_FS_place 0 [(0, .ref w), (1, .int s), (2, .int x), (3, .int y), (4, .int od), (5, .int al), (6, .int vi)] [] h _ 1 6
  refine fx_aload_n 0 dq_FS_place_0 rfl rfl ?_
  refine fx_getr ok fq_FS_10 hF.1 dq_FS_place_1 (by decide) hF.2.1 ?_
  refine fx_iload_n 1 dq_FS_place_4 rfl rfl ?_
  refine fx_Vi1 ok sq_FS_71 hF.2.2.1.1 (c_DE_hasDraft ok _ _ _ (by exact hF.2.2.1)) (by decide) (Nat.le_of_ble_eq_true rfl) dq_FS_place_5 ?_
  refine fx_if_eq (tgt := 29) dq_FS_place_8 (by decide) (fun hc8 => ?_) (fun hc8 => ?_)
  · -- 8: jump
    refine fx_iconst (v := 0) dq_FS_place_29 (by decide) ?_
    exact fx_St1 ok (mc := 0) (ms := 0) sq_FS_52 (cq_demand0 ok _ _ rfl) (by decide) (Nat.le_of_ble_eq_true rfl) dq_FS_place_30 (fx_T_out rfl ⟨by rw [o_FS_place, if_pos hc8], by first | rfl | rw [k_FS_place, if_pos hc8]⟩)
  · -- 8: fall
    refine fx_iload_n 2 dq_FS_place_11 rfl rfl ?_
    refine fx_Si1 ok sq_FS_81 (cq_isPlace ok _ _) (by decide) (Nat.le_of_ble_eq_true rfl) dq_FS_place_12 ?_
    refine fx_if_eq (tgt := 29) dq_FS_place_15 (by decide) (fun hc15 => ?_) (fun hc15 => ?_)
    · -- 15: jump
      refine fx_iconst (v := 0) dq_FS_place_29 (by decide) ?_
      exact fx_St1 ok (mc := 0) (ms := 0) sq_FS_52 (cq_demand0 ok _ _ rfl) (by decide) (Nat.le_of_ble_eq_true rfl) dq_FS_place_30 (fx_T_out rfl ⟨by rw [o_FS_place, if_neg hc8, if_pos hc15], by first | rfl | rw [k_FS_place, if_neg hc8, if_pos hc15]⟩)
    · -- 15: fall
      refine fx_iload_n 3 dq_FS_place_18 rfl rfl ?_
      refine fx_Si1 ok sq_FS_81 (cq_isPlace ok _ _) (by decide) (Nat.le_of_ble_eq_true rfl) dq_FS_place_19 ?_
      refine fx_if_eq (tgt := 29) dq_FS_place_22 (by decide) (fun hc22 => ?_) (fun hc22 => ?_)
      · -- 22: jump
        refine fx_iconst (v := 0) dq_FS_place_29 (by decide) ?_
        exact fx_St1 ok (mc := 0) (ms := 0) sq_FS_52 (cq_demand0 ok _ _ rfl) (by decide) (Nat.le_of_ble_eq_true rfl) dq_FS_place_30 (fx_T_out rfl ⟨by rw [o_FS_place, if_neg hc8, if_neg hc15, if_pos hc22], by first | rfl | rw [k_FS_place, if_neg hc8, if_neg hc15, if_pos hc22]⟩)
      · -- 22: fall
        refine fx_iconst (v := 1) dq_FS_place_25 (by decide) ?_
        refine fx_goto (tgt := 30) dq_FS_place_26 (by decide) ?_
        refine fx_Sv1 ok sq_FS_52 (cq_demand1 ok _ _ (by decide)) (by decide) (Nat.le_of_ble_eq_true rfl) dq_FS_place_30 ?_
        refine fx_iload 4 dq_FS_place_33 rfl ?_
        refine fx_iconst (v := 0) dq_FS_place_35 (by decide) ?_
        refine fx_bipush (v := 9) dq_FS_place_36 (by decide) ?_
        refine fx_Si3 ok sq_FS_48 (cq_isWithin ok _ _ _ _) (by decide) (Nat.le_of_ble_eq_true rfl) dq_FS_place_38 ?_
        refine fx_if_eq (tgt := 59) dq_FS_place_41 (by decide) (fun hc41 => ?_) (fun hc41 => ?_)
        · -- 41: jump
          refine fx_iconst (v := 0) dq_FS_place_59 (by decide) ?_
          exact fx_St1 ok (mc := 0) (ms := 0) sq_FS_52 (cq_demand0 ok _ _ rfl) (by decide) (Nat.le_of_ble_eq_true rfl) dq_FS_place_60 (fx_T_out rfl ⟨by rw [o_FS_place, if_neg hc8, if_neg hc15, if_neg hc22, if_pos hc41], by first | rfl | rw [k_FS_place, if_neg hc8, if_neg hc15, if_neg hc22, if_pos hc41]⟩)
        · -- 41: fall
          refine fx_iload 5 dq_FS_place_44 rfl ?_
          refine fx_iconst (v := 0) dq_FS_place_46 (by decide) ?_
          refine fx_bipush (v := 16) dq_FS_place_47 (by decide) ?_
          refine fx_Si3 ok sq_FS_48 (cq_isWithin ok _ _ _ _) (by decide) (Nat.le_of_ble_eq_true rfl) dq_FS_place_49 ?_
          refine fx_if_eq (tgt := 59) dq_FS_place_52 (by decide) (fun hc52 => ?_) (fun hc52 => ?_)
          · -- 52: jump
            refine fx_iconst (v := 0) dq_FS_place_59 (by decide) ?_
            exact fx_St1 ok (mc := 0) (ms := 0) sq_FS_52 (cq_demand0 ok _ _ rfl) (by decide) (Nat.le_of_ble_eq_true rfl) dq_FS_place_60 (fx_T_out rfl ⟨by rw [o_FS_place, if_neg hc8, if_neg hc15, if_neg hc22, if_neg hc41, if_pos hc52], by first | rfl | rw [k_FS_place, if_neg hc8, if_neg hc15, if_neg hc22, if_neg hc41, if_pos hc52]⟩)
          · -- 52: fall
            refine fx_iconst (v := 1) dq_FS_place_55 (by decide) ?_
            refine fx_goto (tgt := 60) dq_FS_place_56 (by decide) ?_
            refine fx_Sv1 ok sq_FS_52 (cq_demand1 ok _ _ (by decide)) (by decide) (Nat.le_of_ble_eq_true rfl) dq_FS_place_60 ?_
            refine fx_aload_n 0 dq_FS_place_63 rfl rfl ?_
            refine fx_getr ok fq_FS_10 hF.1 dq_FS_place_64 (by decide) hF.2.1 ?_
            refine fx_getr ok fq_FS_74 hF.2.2.1.1 dq_FS_place_67 (by decide) hF.2.2.1.2.1 ?_
            refine fx_iload_n 1 dq_FS_place_70 rfl rfl ?_
            refine fx_aaload ok hF.2.2.1.2.2.1 (by decide) rfl rfl (has_in hc8) (hF.2.2.1.2.2.2.2.2.2.2.2.2.2.2 _ (vp_in_lt (has_in hc8))).1 dq_FS_place_71 ?_
            refine fx_astore dq_FS_place_72 (by decide) rfl ?_
            refine fx_aload 0 dq_FS_place_74 rfl ?_
            refine fx_iload_n 3 dq_FS_place_76 rfl rfl ?_
            refine fx_puti ok fp_FS_84 (hF.2.2.1.2.2.2.2.2.2.2.2.2.2.2 _ (vp_in_lt (has_in hc8))).2.1 (by decide) dq_FS_place_77 (Or.inl (by decide)) ?_
            refine fx_aload 0 dq_FS_place_80 rfl ?_
            refine fx_iload_n 4 dq_FS_place_82 rfl rfl ?_
            refine fx_puti ok fp_FS_87 (hF.2.2.1.2.2.2.2.2.2.2.2.2.2.2 _ (vp_in_lt (has_in hc8))).2.1 (by decide) dq_FS_place_83 (Or.inl (by decide)) ?_
            refine fx_aload 0 dq_FS_place_86 rfl ?_
            refine fx_iload 5 dq_FS_place_88 rfl ?_
            refine fx_puti ok fp_FS_90 (hF.2.2.1.2.2.2.2.2.2.2.2.2.2.2 _ (vp_in_lt (has_in hc8))).2.1 (by decide) dq_FS_place_90 (Or.inl (by decide)) ?_
            refine fx_aload 0 dq_FS_place_93 rfl ?_
            refine fx_iload 6 dq_FS_place_95 rfl ?_
            refine fx_puti ok fp_FS_93 (hF.2.2.1.2.2.2.2.2.2.2.2.2.2.2 _ (vp_in_lt (has_in hc8))).2.1 (by decide) dq_FS_place_97 (Or.inl (by decide)) ?_
            refine fx_aload 0 dq_FS_place_100 rfl ?_
            refine fx_iload 7 dq_FS_place_102 rfl ?_
            refine fx_puti ok fp_FS_96 (hF.2.2.1.2.2.2.2.2.2.2.2.2.2.2 _ (vp_in_lt (has_in hc8))).2.1 (by decide) dq_FS_place_104 (Or.inr ⟨by decide, hv⟩) ?_
            refine fx_aload 0 dq_FS_place_107 rfl ?_
            refine fx_Vv0 ok sq_FS_100 (hF.2.2.1.2.2.2.2.2.2.2.2.2.2.2 _ (vp_in_lt (has_in hc8))).2.1 (cp_findShown ok _ _ (by exact (hF.2.2.1.2.2.2.2.2.2.2.2.2.2.2 _ (vp_in_lt (has_in hc8))).2)) (by decide) (Nat.le_of_ble_eq_true rfl) dq_FS_place_109 ?_
            have e109 : fx_sm h (pShow (fx_wi (fx_wi (fx_wi (fx_wi (fx_wi h (w + 1 + 48 + 4 * s.toNatClampNeg) 3 x) (w + 1 + 48 + 4 * s.toNatClampNeg) 4 y) (w + 1 + 48 + 4 * s.toNatClampNeg) 5 od) (w + 1 + 48 + 4 * s.toNatClampNeg) 6 al) (w + 1 + 48 + 4 * s.toNatClampNeg) 7 vi) (w + 1 + 48 + 4 * s.toNatClampNeg)) := fx_sm_t (h' := (fx_wi (fx_wi (fx_wi (fx_wi (fx_wi h (w + 1 + 48 + 4 * s.toNatClampNeg) 3 x) (w + 1 + 48 + 4 * s.toNatClampNeg) 4 y) (w + 1 + 48 + 4 * s.toNatClampNeg) 5 od) (w + 1 + 48 + 4 * s.toNatClampNeg) 6 al) (w + 1 + 48 + 4 * s.toNatClampNeg) 7 vi)) (rfl : fx_sm h (fx_wi (fx_wi (fx_wi (fx_wi (fx_wi h (w + 1 + 48 + 4 * s.toNatClampNeg) 3 x) (w + 1 + 48 + 4 * s.toNatClampNeg) 4 y) (w + 1 + 48 + 4 * s.toNatClampNeg) 5 od) (w + 1 + 48 + 4 * s.toNatClampNeg) 6 al) (w + 1 + 48 + 4 * s.toNatClampNeg) 7 vi)) (sm_pShow (fx_wi (fx_wi (fx_wi (fx_wi (fx_wi h (w + 1 + 48 + 4 * s.toNatClampNeg) 3 x) (w + 1 + 48 + 4 * s.toNatClampNeg) 4 y) (w + 1 + 48 + 4 * s.toNatClampNeg) 5 od) (w + 1 + 48 + 4 * s.toNatClampNeg) 6 al) (w + 1 + 48 + 4 * s.toNatClampNeg) 7 vi) (w + 1 + 48 + 4 * s.toNatClampNeg))
            exact fx_vreturn rfl dq_FS_place_112 ⟨by rw [o_FS_place, if_neg hc8, if_neg hc15, if_neg hc22, if_neg hc41, if_neg hc52], by first | rfl | rw [k_FS_place, if_neg hc8, if_neg hc15, if_neg hc22, if_neg hc41, if_neg hc52]⟩
def o_FS_clip (h : fx_H) (w f b : Nat) (s x y cs rs : Int32) : fx_O := if (v_DE_hasDraft h (w + 1) s) = 0 then Sum.inr "java/lang/IllegalArgumentException" else if (jA x y cs rs) = 0 then Sum.inr "java/lang/IllegalArgumentException" else Sum.inl none
def k_FS_clip (h : fx_H) (w f b : Nat) (s x y cs rs : Int32) : fx_H := if (v_DE_hasDraft h (w + 1) s) = 0 then fx_sk h 1 else if (jA x y cs rs) = 0 then fx_sk h 1 else pShow (rcut (rset h (w + 1 + 48 + 4 * s.toNatClampNeg + 2) x y cs rs) (w + 1 + 48 + 4 * s.toNatClampNeg + 2) (fx_i (rset h (w + 1 + 48 + 4 * s.toNatClampNeg + 2) x y cs rs) (w + 1 + 48 + 4 * s.toNatClampNeg) 1) (fx_i (rset h (w + 1 + 48 + 4 * s.toNatClampNeg + 2) x y cs rs) (w + 1 + 48 + 4 * s.toNatClampNeg) 2)) (w + 1 + 48 + 4 * s.toNatClampNeg)
set_option maxRecDepth 100000 in
set_option maxHeartbeats 1000000 in
theorem c_FS_clip {g : fx_G} (ok : fx_ok g) (h : fx_H) (w f b : Nat) (s x y cs rs : Int32) (hF : isF h w f b)   : fx_C g mq_FS_clip [.ref w, .int s, .int x, .int y, .int cs, .int rs] h (fx_ou (o_FS_clip h w f b s x y cs rs) (k_FS_clip h w f b s x y cs rs)) 1 6 := by
  refine fx_body (by decide +kernel) (Nat.le_of_ble_eq_true rfl) ?_
  show fx_X g mq_FS_clip 0 [(0, .ref w), (1, .int s), (2, .int x), (3, .int y), (4, .int cs), (5, .int rs)] [] h _ 1 6
  refine fx_aload_n 0 dq_FS_clip_0 rfl rfl ?_
  refine fx_getr ok fq_FS_10 hF.1 dq_FS_clip_1 (by decide) hF.2.1 ?_
  refine fx_iload_n 1 dq_FS_clip_4 rfl rfl ?_
  refine fx_Vi1 ok sq_FS_71 hF.2.2.1.1 (c_DE_hasDraft ok _ _ _ (by exact hF.2.2.1)) (by decide) (Nat.le_of_ble_eq_true rfl) dq_FS_clip_5 ?_
  refine fx_if_eq (tgt := 27) dq_FS_clip_8 (by decide) (fun hc8 => ?_) (fun hc8 => ?_)
  · -- 8: jump
    refine fx_iconst (v := 0) dq_FS_clip_27 (by decide) ?_
    exact fx_St1 ok (mc := 0) (ms := 0) sq_FS_52 (cq_demand0 ok _ _ rfl) (by decide) (Nat.le_of_ble_eq_true rfl) dq_FS_clip_28 (fx_T_out rfl ⟨by rw [o_FS_clip, if_pos hc8], by first | rfl | rw [k_FS_clip, if_pos hc8]⟩)
  · -- 8: fall
    refine fx_iload_n 2 dq_FS_clip_11 rfl rfl ?_
    refine fx_iload_n 3 dq_FS_clip_12 rfl rfl ?_
    refine fx_iload 4 dq_FS_clip_13 rfl ?_
    refine fx_iload 5 dq_FS_clip_15 rfl ?_
    refine fx_Si4 ok sq_FS_103 (cq_isArea ok _ _ _ _ _) (by decide) (Nat.le_of_ble_eq_true rfl) dq_FS_clip_17 ?_
    refine fx_if_eq (tgt := 27) dq_FS_clip_20 (by decide) (fun hc20 => ?_) (fun hc20 => ?_)
    · -- 20: jump
      refine fx_iconst (v := 0) dq_FS_clip_27 (by decide) ?_
      exact fx_St1 ok (mc := 0) (ms := 0) sq_FS_52 (cq_demand0 ok _ _ rfl) (by decide) (Nat.le_of_ble_eq_true rfl) dq_FS_clip_28 (fx_T_out rfl ⟨by rw [o_FS_clip, if_neg hc8, if_pos hc20], by first | rfl | rw [k_FS_clip, if_neg hc8, if_pos hc20]⟩)
    · -- 20: fall
      refine fx_iconst (v := 1) dq_FS_clip_23 (by decide) ?_
      refine fx_goto (tgt := 28) dq_FS_clip_24 (by decide) ?_
      refine fx_Sv1 ok sq_FS_52 (cq_demand1 ok _ _ (by decide)) (by decide) (Nat.le_of_ble_eq_true rfl) dq_FS_clip_28 ?_
      refine fx_aload_n 0 dq_FS_clip_31 rfl rfl ?_
      refine fx_getr ok fq_FS_10 hF.1 dq_FS_clip_32 (by decide) hF.2.1 ?_
      refine fx_getr ok fq_FS_74 hF.2.2.1.1 dq_FS_clip_35 (by decide) hF.2.2.1.2.1 ?_
      refine fx_iload_n 1 dq_FS_clip_38 rfl rfl ?_
      refine fx_aaload ok hF.2.2.1.2.2.1 (by decide) rfl rfl (has_in hc8) (hF.2.2.1.2.2.2.2.2.2.2.2.2.2.2 _ (vp_in_lt (has_in hc8))).1 dq_FS_clip_39 ?_
      refine fx_astore dq_FS_clip_40 (by decide) rfl ?_
      refine fx_aload 0 dq_FS_clip_42 rfl ?_
      refine fx_getr ok fq_FS_107 (hF.2.2.1.2.2.2.2.2.2.2.2.2.2.2 _ (vp_in_lt (has_in hc8))).2.1 dq_FS_clip_44 (by decide) (hF.2.2.1.2.2.2.2.2.2.2.2.2.2.2 _ (vp_in_lt (has_in hc8))).2.2.2.2.1 ?_
      refine fx_iload_n 3 dq_FS_clip_47 rfl rfl ?_
      refine fx_iload_n 4 dq_FS_clip_48 rfl rfl ?_
      refine fx_iload 5 dq_FS_clip_49 rfl ?_
      refine fx_iload 6 dq_FS_clip_51 rfl ?_
      refine fx_Vv4 ok sq_FS_110 (hF.2.2.1.2.2.2.2.2.2.2.2.2.2.2 _ (vp_in_lt (has_in hc8))).2.2.2.2.2.1 (cr_set ok _ _ (by exact (hF.2.2.1.2.2.2.2.2.2.2.2.2.2.2 _ (vp_in_lt (has_in hc8))).2.2.2.2.2.1) _ _ _ _) (by decide) (Nat.le_of_ble_eq_true rfl) dq_FS_clip_53 ?_
      have e53 : fx_sm h (rset h (w + 1 + 48 + 4 * s.toNatClampNeg + 2) x y cs rs) := fx_sm_t (h' := h) (rfl : fx_sm h h) (sm_rset h (w + 1 + 48 + 4 * s.toNatClampNeg + 2) x y cs rs)
      refine fx_aload 0 dq_FS_clip_56 rfl ?_
      refine fx_getr ok fq_FS_107 ((fx_sm_s e53 _).trans (hF.2.2.1.2.2.2.2.2.2.2.2.2.2.2 _ (vp_in_lt (has_in hc8))).2.1) dq_FS_clip_58 (by decide) ((fx_sm_r e53 _ _).trans (hF.2.2.1.2.2.2.2.2.2.2.2.2.2.2 _ (vp_in_lt (has_in hc8))).2.2.2.2.1) ?_
      refine fx_aload 0 dq_FS_clip_61 rfl ?_
      refine fx_geti ok fq_FS_113 ((fx_sm_s e53 _).trans (hF.2.2.1.2.2.2.2.2.2.2.2.2.2.2 _ (vp_in_lt (has_in hc8))).2.1) dq_FS_clip_63 (by decide) ?_
      refine fx_aload 0 dq_FS_clip_66 rfl ?_
      refine fx_geti ok fq_FS_116 ((fx_sm_s e53 _).trans (hF.2.2.1.2.2.2.2.2.2.2.2.2.2.2 _ (vp_in_lt (has_in hc8))).2.1) dq_FS_clip_68 (by decide) ?_
      refine fx_Vv2 ok sq_FS_119 ((fx_sm_s e53 _).trans (hF.2.2.1.2.2.2.2.2.2.2.2.2.2.2 _ (vp_in_lt (has_in hc8))).2.2.2.2.2.1) (cr_cut ok _ _ (by exact (fx_sm_s e53 _).trans (hF.2.2.1.2.2.2.2.2.2.2.2.2.2.2 _ (vp_in_lt (has_in hc8))).2.2.2.2.2.1) _ _) (by decide) (Nat.le_of_ble_eq_true rfl) dq_FS_clip_71 ?_
      have e71 : fx_sm h (rcut (rset h (w + 1 + 48 + 4 * s.toNatClampNeg + 2) x y cs rs) (w + 1 + 48 + 4 * s.toNatClampNeg + 2) (fx_i (rset h (w + 1 + 48 + 4 * s.toNatClampNeg + 2) x y cs rs) (w + 1 + 48 + 4 * s.toNatClampNeg) 1) (fx_i (rset h (w + 1 + 48 + 4 * s.toNatClampNeg + 2) x y cs rs) (w + 1 + 48 + 4 * s.toNatClampNeg) 2)) := fx_sm_t (h' := (rset h (w + 1 + 48 + 4 * s.toNatClampNeg + 2) x y cs rs)) e53 (sm_cut (rset h (w + 1 + 48 + 4 * s.toNatClampNeg + 2) x y cs rs) (w + 1 + 48 + 4 * s.toNatClampNeg + 2) (fx_i (rset h (w + 1 + 48 + 4 * s.toNatClampNeg + 2) x y cs rs) (w + 1 + 48 + 4 * s.toNatClampNeg) 1) (fx_i (rset h (w + 1 + 48 + 4 * s.toNatClampNeg + 2) x y cs rs) (w + 1 + 48 + 4 * s.toNatClampNeg) 2))
      refine fx_aload 0 dq_FS_clip_74 rfl ?_
      refine fx_Vv0 ok sq_FS_100 ((fx_sm_s e71 _).trans (hF.2.2.1.2.2.2.2.2.2.2.2.2.2.2 _ (vp_in_lt (has_in hc8))).2.1) (cp_findShown ok _ _ (by exact isP_sm e71 (hF.2.2.1.2.2.2.2.2.2.2.2.2.2.2 _ (vp_in_lt (has_in hc8))).2)) (by decide) (Nat.le_of_ble_eq_true rfl) dq_FS_clip_76 ?_
      have e76 : fx_sm h (pShow (rcut (rset h (w + 1 + 48 + 4 * s.toNatClampNeg + 2) x y cs rs) (w + 1 + 48 + 4 * s.toNatClampNeg + 2) (fx_i (rset h (w + 1 + 48 + 4 * s.toNatClampNeg + 2) x y cs rs) (w + 1 + 48 + 4 * s.toNatClampNeg) 1) (fx_i (rset h (w + 1 + 48 + 4 * s.toNatClampNeg + 2) x y cs rs) (w + 1 + 48 + 4 * s.toNatClampNeg) 2)) (w + 1 + 48 + 4 * s.toNatClampNeg)) := fx_sm_t (h' := (rcut (rset h (w + 1 + 48 + 4 * s.toNatClampNeg + 2) x y cs rs) (w + 1 + 48 + 4 * s.toNatClampNeg + 2) (fx_i (rset h (w + 1 + 48 + 4 * s.toNatClampNeg + 2) x y cs rs) (w + 1 + 48 + 4 * s.toNatClampNeg) 1) (fx_i (rset h (w + 1 + 48 + 4 * s.toNatClampNeg + 2) x y cs rs) (w + 1 + 48 + 4 * s.toNatClampNeg) 2))) e71 (sm_pShow (rcut (rset h (w + 1 + 48 + 4 * s.toNatClampNeg + 2) x y cs rs) (w + 1 + 48 + 4 * s.toNatClampNeg + 2) (fx_i (rset h (w + 1 + 48 + 4 * s.toNatClampNeg + 2) x y cs rs) (w + 1 + 48 + 4 * s.toNatClampNeg) 1) (fx_i (rset h (w + 1 + 48 + 4 * s.toNatClampNeg + 2) x y cs rs) (w + 1 + 48 + 4 * s.toNatClampNeg) 2)) (w + 1 + 48 + 4 * s.toNatClampNeg))
      exact fx_vreturn rfl dq_FS_clip_79 ⟨by rw [o_FS_clip, if_neg hc8, if_neg hc20], by first | rfl | rw [k_FS_clip, if_neg hc8, if_neg hc20]⟩
