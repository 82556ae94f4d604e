/-! ===== the Model: copyPicture ===== -/
def cq1 (h : fx_H) (q : Nat) (a t : Int32) : fx_H := fx_wi h (q + 7) t.toNatClampNeg (fx_i h (q + 7) a.toNatClampNeg)
def cq2 (h : fx_H) (q : Nat) (a t : Int32) : fx_H := fx_wi (cq1 h q a t) (q + 8) t.toNatClampNeg (fx_i (cq1 h q a t) (q + 8) a.toNatClampNeg)
def cq3 (h : fx_H) (q : Nat) (a t : Int32) : fx_H := fx_wi (cq2 h q a t) (q + 9) t.toNatClampNeg (fx_i (cq2 h q a t) (q + 9) a.toNatClampNeg)
def cq4 (h : fx_H) (q : Nat) (a t : Int32) : fx_H := fx_wi (cq3 h q a t) (q + 10) t.toNatClampNeg (fx_i (cq3 h q a t) (q + 10) a.toNatClampNeg)
def cq5 (h : fx_H) (q : Nat) (a t : Int32) : fx_H := fx_wi (cq4 h q a t) (q + 11) t.toNatClampNeg (fx_i (cq4 h q a t) (q + 11) a.toNatClampNeg)
def cq6 (h : fx_H) (q : Nat) (a t : Int32) : fx_H := fx_wi (cq5 h q a t) (q + 12) t.toNatClampNeg (fx_i (cq5 h q a t) (q + 12) a.toNatClampNeg)
def cq7 (h : fx_H) (q : Nat) (a t : Int32) : fx_H := fx_wi (cq6 h q a t) (q + 13) t.toNatClampNeg (fx_i (cq6 h q a t) (q + 13) a.toNatClampNeg)
def cq8 (h : fx_H) (q : Nat) (a t : Int32) : fx_H := fx_wi (cq7 h q a t) (q + 14) t.toNatClampNeg (fx_i (cq7 h q a t) (q + 14) a.toNatClampNeg)
def cq9 (h : fx_H) (q : Nat) (a t : Int32) : fx_H := fx_wi (cq8 h q a t) (q + 15) t.toNatClampNeg (fx_i (cq8 h q a t) (q + 15) a.toNatClampNeg)
def cq10 (h : fx_H) (q : Nat) (a t : Int32) : fx_H := fx_wi (cq9 h q a t) (q + 16) t.toNatClampNeg (fx_i (cq9 h q a t) (q + 16) a.toNatClampNeg)
def b_MO_copyPicture (q : Nat) (a t : Int32) (i : Nat) (k : fx_H) : fx_H := fx_wi k (q + 17) (((96 : Int32) * t) + (nI i)).toNatClampNeg (fx_i k (q + 17) (((96 : Int32) * a) + (nI i)).toNatClampNeg)
def k_MO_copyPicture (h : fx_H) (q : Nat) (a t : Int32) : fx_H := (it (b_MO_copyPicture q a t) (cq10 h q a t) 96)
set_option maxRecDepth 100000 in
set_option maxHeartbeats 600000 in
theorem c_MO_copyPicture {g : fx_G} (ok : fx_ok g) (h : fx_H) (q : Nat) (a t : Int32) (hm : isM h q) (ha : vp_in a 30) (ht : vp_in t 30) (hA : ∀ i, i < 96 → vp_in (96 * a + nI i) 2880) (hT : ∀ i, i < 96 → vp_in (96 * t + nI i) 2880) : fx_C g mq_MO_copyPicture [.ref q, .int a, .int t] h (fx_is none (k_MO_copyPicture h q a t)) 0 0 := by
  refine fx_body (by decide +kernel) (Nat.le_of_ble_eq_true rfl) ?_
  show fx_X g mq_MO_copyPicture 0 [(0, .ref q), (1, .int a), (2, .int t)] [] h _ 0 0
  refine fx_know (fx_bka a.toNatClampNeg (mo_there hm).2) (fun hz7 => ?_)
  refine fx_know (fx_bka a.toNatClampNeg (mo_visible hm).2) (fun hz12 => ?_)
  refine fx_aload_n 0 dq_MO_copyPicture_0 rfl rfl ?_
  refine fx_getr ok fq_MO_29 hm.1 dq_MO_copyPicture_1 (by decide) (mo_there hm).1 ?_
  refine fx_iload_n 2 dq_MO_copyPicture_4 rfl rfl ?_
  refine fx_aload_n 0 dq_MO_copyPicture_5 rfl rfl ?_
  refine fx_getr ok fq_MO_29 hm.1 dq_MO_copyPicture_6 (by decide) (mo_there hm).1 ?_
  refine fx_iload_n 1 dq_MO_copyPicture_9 rfl rfl ?_
  refine fx_baload ok (mo_there hm).2 ha dq_MO_copyPicture_10 ?_
  refine fx_bastore ok (mo_there hm).2 hz7 ht dq_MO_copyPicture_11 ?_
  refine fx_eqh (h' := cq1 h q a t) rfl ?_
  have e12f : fx_sm h (cq1 h q a t) := rfl
  refine fx_aload_n 0 dq_MO_copyPicture_12 rfl rfl ?_
  refine fx_getr ok fq_MO_32 ((fx_sm_s e12f _).trans hm.1) dq_MO_copyPicture_13 (by decide) ((fx_sm_r e12f _ _).trans (mo_px hm).1) ?_
  refine fx_iload_n 2 dq_MO_copyPicture_16 rfl rfl ?_
  refine fx_aload_n 0 dq_MO_copyPicture_17 rfl rfl ?_
  refine fx_getr ok fq_MO_32 ((fx_sm_s e12f _).trans hm.1) dq_MO_copyPicture_18 (by decide) ((fx_sm_r e12f _ _).trans (mo_px hm).1) ?_
  refine fx_iload_n 1 dq_MO_copyPicture_21 rfl rfl ?_
  refine fx_iaload ok ((fx_sm_s e12f _).trans (mo_px hm).2) ha dq_MO_copyPicture_22 ?_
  refine fx_iastore ok ((fx_sm_s e12f _).trans (mo_px hm).2) ht dq_MO_copyPicture_23 ?_
  have e23w : fx_sm h (fx_wi (cq1 h q a t) (q + 8) t.toNatClampNeg (fx_i (cq1 h q a t) (q + 8) a.toNatClampNeg)) := fx_sm_t (h' := (cq1 h q a t)) e12f (sm_wi _ _ _ _)
  refine fx_eqh (h' := cq2 h q a t) rfl ?_
  have e24f : fx_sm h (cq2 h q a t) := e23w
  refine fx_aload_n 0 dq_MO_copyPicture_24 rfl rfl ?_
  refine fx_getr ok fq_MO_35 ((fx_sm_s e24f _).trans hm.1) dq_MO_copyPicture_25 (by decide) ((fx_sm_r e24f _ _).trans (mo_py hm).1) ?_
  refine fx_iload_n 2 dq_MO_copyPicture_28 rfl rfl ?_
  refine fx_aload_n 0 dq_MO_copyPicture_29 rfl rfl ?_
  refine fx_getr ok fq_MO_35 ((fx_sm_s e24f _).trans hm.1) dq_MO_copyPicture_30 (by decide) ((fx_sm_r e24f _ _).trans (mo_py hm).1) ?_
  refine fx_iload_n 1 dq_MO_copyPicture_33 rfl rfl ?_
  refine fx_iaload ok ((fx_sm_s e24f _).trans (mo_py hm).2) ha dq_MO_copyPicture_34 ?_
  refine fx_iastore ok ((fx_sm_s e24f _).trans (mo_py hm).2) ht dq_MO_copyPicture_35 ?_
  have e35w : fx_sm h (fx_wi (cq2 h q a t) (q + 9) t.toNatClampNeg (fx_i (cq2 h q a t) (q + 9) a.toNatClampNeg)) := fx_sm_t (h' := (cq2 h q a t)) e24f (sm_wi _ _ _ _)
  refine fx_eqh (h' := cq3 h q a t) rfl ?_
  have e36f : fx_sm h (cq3 h q a t) := e35w
  refine fx_aload_n 0 dq_MO_copyPicture_36 rfl rfl ?_
  refine fx_getr ok fq_MO_38 ((fx_sm_s e36f _).trans hm.1) dq_MO_copyPicture_37 (by decide) ((fx_sm_r e36f _ _).trans (mo_order hm).1) ?_
  refine fx_iload_n 2 dq_MO_copyPicture_40 rfl rfl ?_
  refine fx_aload_n 0 dq_MO_copyPicture_41 rfl rfl ?_
  refine fx_getr ok fq_MO_38 ((fx_sm_s e36f _).trans hm.1) dq_MO_copyPicture_42 (by decide) ((fx_sm_r e36f _ _).trans (mo_order hm).1) ?_
  refine fx_iload_n 1 dq_MO_copyPicture_45 rfl rfl ?_
  refine fx_iaload ok ((fx_sm_s e36f _).trans (mo_order hm).2) ha dq_MO_copyPicture_46 ?_
  refine fx_iastore ok ((fx_sm_s e36f _).trans (mo_order hm).2) ht dq_MO_copyPicture_47 ?_
  have e47w : fx_sm h (fx_wi (cq3 h q a t) (q + 10) t.toNatClampNeg (fx_i (cq3 h q a t) (q + 10) a.toNatClampNeg)) := fx_sm_t (h' := (cq3 h q a t)) e36f (sm_wi _ _ _ _)
  refine fx_eqh (h' := cq4 h q a t) rfl ?_
  have e48f : fx_sm h (cq4 h q a t) := e47w
  refine fx_aload_n 0 dq_MO_copyPicture_48 rfl rfl ?_
  refine fx_getr ok fq_MO_41 ((fx_sm_s e48f _).trans hm.1) dq_MO_copyPicture_49 (by decide) ((fx_sm_r e48f _ _).trans (mo_alpha hm).1) ?_
  refine fx_iload_n 2 dq_MO_copyPicture_52 rfl rfl ?_
  refine fx_aload_n 0 dq_MO_copyPicture_53 rfl rfl ?_
  refine fx_getr ok fq_MO_41 ((fx_sm_s e48f _).trans hm.1) dq_MO_copyPicture_54 (by decide) ((fx_sm_r e48f _ _).trans (mo_alpha hm).1) ?_
  refine fx_iload_n 1 dq_MO_copyPicture_57 rfl rfl ?_
  refine fx_iaload ok ((fx_sm_s e48f _).trans (mo_alpha hm).2) ha dq_MO_copyPicture_58 ?_
  refine fx_iastore ok ((fx_sm_s e48f _).trans (mo_alpha hm).2) ht dq_MO_copyPicture_59 ?_
  have e59w : fx_sm h (fx_wi (cq4 h q a t) (q + 11) t.toNatClampNeg (fx_i (cq4 h q a t) (q + 11) a.toNatClampNeg)) := fx_sm_t (h' := (cq4 h q a t)) e48f (sm_wi _ _ _ _)
  refine fx_eqh (h' := cq5 h q a t) rfl ?_
  have e60f : fx_sm h (cq5 h q a t) := e59w
  refine fx_aload_n 0 dq_MO_copyPicture_60 rfl rfl ?_
  refine fx_getr ok fq_MO_44 ((fx_sm_s e60f _).trans hm.1) dq_MO_copyPicture_61 (by decide) ((fx_sm_r e60f _ _).trans (mo_visible hm).1) ?_
  refine fx_iload_n 2 dq_MO_copyPicture_64 rfl rfl ?_
  refine fx_aload_n 0 dq_MO_copyPicture_65 rfl rfl ?_
  refine fx_getr ok fq_MO_44 ((fx_sm_s e60f _).trans hm.1) dq_MO_copyPicture_66 (by decide) ((fx_sm_r e60f _ _).trans (mo_visible hm).1) ?_
  refine fx_iload_n 1 dq_MO_copyPicture_69 rfl rfl ?_
  refine fx_baload ok ((fx_sm_s e60f _).trans (mo_visible hm).2) ha dq_MO_copyPicture_70 ?_
  refine fx_bastore ok ((fx_sm_s e60f _).trans (mo_visible hm).2) (by simpa [cq5, cq4, cq3, cq2, cq1, fx_i_wi] using hz12) ht dq_MO_copyPicture_71 ?_
  have e71w : fx_sm h (fx_wi (cq5 h q a t) (q + 12) t.toNatClampNeg (fx_i (cq5 h q a t) (q + 12) a.toNatClampNeg)) := fx_sm_t (h' := (cq5 h q a t)) e60f (sm_wi _ _ _ _)
  refine fx_eqh (h' := cq6 h q a t) rfl ?_
  have e72f : fx_sm h (cq6 h q a t) := e71w
  refine fx_aload_n 0 dq_MO_copyPicture_72 rfl rfl ?_
  refine fx_getr ok fq_MO_47 ((fx_sm_s e72f _).trans hm.1) dq_MO_copyPicture_73 (by decide) ((fx_sm_r e72f _ _).trans (mo_cx hm).1) ?_
  refine fx_iload_n 2 dq_MO_copyPicture_76 rfl rfl ?_
  refine fx_aload_n 0 dq_MO_copyPicture_77 rfl rfl ?_
  refine fx_getr ok fq_MO_47 ((fx_sm_s e72f _).trans hm.1) dq_MO_copyPicture_78 (by decide) ((fx_sm_r e72f _ _).trans (mo_cx hm).1) ?_
  refine fx_iload_n 1 dq_MO_copyPicture_81 rfl rfl ?_
  refine fx_iaload ok ((fx_sm_s e72f _).trans (mo_cx hm).2) ha dq_MO_copyPicture_82 ?_
  refine fx_iastore ok ((fx_sm_s e72f _).trans (mo_cx hm).2) ht dq_MO_copyPicture_83 ?_
  have e83w : fx_sm h (fx_wi (cq6 h q a t) (q + 13) t.toNatClampNeg (fx_i (cq6 h q a t) (q + 13) a.toNatClampNeg)) := fx_sm_t (h' := (cq6 h q a t)) e72f (sm_wi _ _ _ _)
  refine fx_eqh (h' := cq7 h q a t) rfl ?_
  have e84f : fx_sm h (cq7 h q a t) := e83w
  refine fx_aload_n 0 dq_MO_copyPicture_84 rfl rfl ?_
  refine fx_getr ok fq_MO_50 ((fx_sm_s e84f _).trans hm.1) dq_MO_copyPicture_85 (by decide) ((fx_sm_r e84f _ _).trans (mo_cy hm).1) ?_
  refine fx_iload_n 2 dq_MO_copyPicture_88 rfl rfl ?_
  refine fx_aload_n 0 dq_MO_copyPicture_89 rfl rfl ?_
  refine fx_getr ok fq_MO_50 ((fx_sm_s e84f _).trans hm.1) dq_MO_copyPicture_90 (by decide) ((fx_sm_r e84f _ _).trans (mo_cy hm).1) ?_
  refine fx_iload_n 1 dq_MO_copyPicture_93 rfl rfl ?_
  refine fx_iaload ok ((fx_sm_s e84f _).trans (mo_cy hm).2) ha dq_MO_copyPicture_94 ?_
  refine fx_iastore ok ((fx_sm_s e84f _).trans (mo_cy hm).2) ht dq_MO_copyPicture_95 ?_
  have e95w : fx_sm h (fx_wi (cq7 h q a t) (q + 14) t.toNatClampNeg (fx_i (cq7 h q a t) (q + 14) a.toNatClampNeg)) := fx_sm_t (h' := (cq7 h q a t)) e84f (sm_wi _ _ _ _)
  refine fx_eqh (h' := cq8 h q a t) rfl ?_
  have e96f : fx_sm h (cq8 h q a t) := e95w
  refine fx_aload_n 0 dq_MO_copyPicture_96 rfl rfl ?_
  refine fx_getr ok fq_MO_53 ((fx_sm_s e96f _).trans hm.1) dq_MO_copyPicture_97 (by decide) ((fx_sm_r e96f _ _).trans (mo_cw hm).1) ?_
  refine fx_iload_n 2 dq_MO_copyPicture_100 rfl rfl ?_
  refine fx_aload_n 0 dq_MO_copyPicture_101 rfl rfl ?_
  refine fx_getr ok fq_MO_53 ((fx_sm_s e96f _).trans hm.1) dq_MO_copyPicture_102 (by decide) ((fx_sm_r e96f _ _).trans (mo_cw hm).1) ?_
  refine fx_iload_n 1 dq_MO_copyPicture_105 rfl rfl ?_
  refine fx_iaload ok ((fx_sm_s e96f _).trans (mo_cw hm).2) ha dq_MO_copyPicture_106 ?_
  refine fx_iastore ok ((fx_sm_s e96f _).trans (mo_cw hm).2) ht dq_MO_copyPicture_107 ?_
  have e107w : fx_sm h (fx_wi (cq8 h q a t) (q + 15) t.toNatClampNeg (fx_i (cq8 h q a t) (q + 15) a.toNatClampNeg)) := fx_sm_t (h' := (cq8 h q a t)) e96f (sm_wi _ _ _ _)
  refine fx_eqh (h' := cq9 h q a t) rfl ?_
  have e108f : fx_sm h (cq9 h q a t) := e107w
  refine fx_aload_n 0 dq_MO_copyPicture_108 rfl rfl ?_
  refine fx_getr ok fq_MO_56 ((fx_sm_s e108f _).trans hm.1) dq_MO_copyPicture_109 (by decide) ((fx_sm_r e108f _ _).trans (mo_ch hm).1) ?_
  refine fx_iload_n 2 dq_MO_copyPicture_112 rfl rfl ?_
  refine fx_aload_n 0 dq_MO_copyPicture_113 rfl rfl ?_
  refine fx_getr ok fq_MO_56 ((fx_sm_s e108f _).trans hm.1) dq_MO_copyPicture_114 (by decide) ((fx_sm_r e108f _ _).trans (mo_ch hm).1) ?_
  refine fx_iload_n 1 dq_MO_copyPicture_117 rfl rfl ?_
  refine fx_iaload ok ((fx_sm_s e108f _).trans (mo_ch hm).2) ha dq_MO_copyPicture_118 ?_
  refine fx_iastore ok ((fx_sm_s e108f _).trans (mo_ch hm).2) ht dq_MO_copyPicture_119 ?_
  have e119w : fx_sm h (fx_wi (cq9 h q a t) (q + 16) t.toNatClampNeg (fx_i (cq9 h q a t) (q + 16) a.toNatClampNeg)) := fx_sm_t (h' := (cq9 h q a t)) e108f (sm_wi _ _ _ _)
  refine fx_eqh (h' := cq10 h q a t) rfl ?_
  have e120f : fx_sm h (cq10 h q a t) := e119w
  refine fx_iconst (v := 0) dq_MO_copyPicture_120 (by decide) ?_
  refine fx_istore_n dq_MO_copyPicture_121 rfl (by decide) rfl ?_
  refine fx_for (fun i => [(3, .int (nI i)), (0, .ref q), (1, .int a), (2, .int t)]) (b_MO_copyPicture q a t) (cq10 h q a t) 96 (fun i hi hK122 => ?_) ?_
  · have e122b : fx_sm h (it (b_MO_copyPicture q a t) (cq10 h q a t) i) := fx_sm_t (h' := (cq10 h q a t)) e120f (fx_sm_it (by intro _ _; unfold b_MO_copyPicture; rfl) (cq10 h q a t) i)
    generalize it (b_MO_copyPicture q a t) (cq10 h q a t) i = k at e122b hK122  ⊢
    refine fx_iload_n 0 dq_MO_copyPicture_122 rfl rfl ?_
    refine fx_bipush (v := 96) dq_MO_copyPicture_123 (by decide) ?_
    refine fx_icmp_ge (tgt := 156) dq_MO_copyPicture_125 (by decide) (fun hc125 => absurd hc125 (nI_ge (b := 96) hi (by decide))) (fun hc125 => ?_)
    refine fx_aload_n 1 dq_MO_copyPicture_128 rfl rfl ?_
    refine fx_getr ok fq_MO_59 ((fx_sm_s e122b _).trans hm.1) dq_MO_copyPicture_129 (by decide) ((fx_sm_r e122b _ _).trans (mo_pixels hm).1) ?_
    refine fx_bipush (v := 96) dq_MO_copyPicture_132 (by decide) ?_
    refine fx_iload_n 3 dq_MO_copyPicture_134 rfl rfl ?_
    refine fx_imul dq_MO_copyPicture_135 ?_
    refine fx_iload_n 0 dq_MO_copyPicture_136 rfl rfl ?_
    refine fx_iadd dq_MO_copyPicture_137 ?_
    refine fx_aload_n 1 dq_MO_copyPicture_138 rfl rfl ?_
    refine fx_getr ok fq_MO_59 ((fx_sm_s e122b _).trans hm.1) dq_MO_copyPicture_139 (by decide) ((fx_sm_r e122b _ _).trans (mo_pixels hm).1) ?_
    refine fx_bipush (v := 96) dq_MO_copyPicture_142 (by decide) ?_
    refine fx_iload_n 2 dq_MO_copyPicture_144 rfl rfl ?_
    refine fx_imul dq_MO_copyPicture_145 ?_
    refine fx_iload_n 0 dq_MO_copyPicture_146 rfl rfl ?_
    refine fx_iadd dq_MO_copyPicture_147 ?_
    refine fx_iaload ok ((fx_sm_s e122b _).trans (mo_pixels hm).2) (hA i hi) dq_MO_copyPicture_148 ?_
    refine fx_iastore ok ((fx_sm_s e122b _).trans (mo_pixels hm).2) (hT i hi) dq_MO_copyPicture_149 ?_
    have e149w : fx_sm h (fx_wi k (q + 17) (((96 : Int32) * t) + (nI i)).toNatClampNeg (fx_i k (q + 17) (((96 : Int32) * a) + (nI i)).toNatClampNeg)) := fx_sm_t (h' := k) e122b (sm_wi _ _ _ _)
    refine fx_iinc 0 dq_MO_copyPicture_150 rfl (jz_i _) (by decide) rfl ?_
    refine fx_goto (tgt := 122) dq_MO_copyPicture_153 (by decide) ?_
    refine fx_sub [0, 1, 2, 3] rfl ?_
    exact hK122
  · have e122x : fx_sm h (it (b_MO_copyPicture q a t) (cq10 h q a t) 96) := fx_sm_t (h' := (cq10 h q a t)) e120f (fx_sm_it (by intro _ _; unfold b_MO_copyPicture; rfl) (cq10 h q a t) 96)
    refine fx_iload_n 0 dq_MO_copyPicture_122 rfl rfl ?_
    refine fx_bipush (v := 96) dq_MO_copyPicture_123 (by decide) ?_
    refine fx_icmp_ge (tgt := 156) dq_MO_copyPicture_125 (by decide) (fun hc125 => ?_) (fun hc125 => absurd (by decide) hc125)
    exact fx_vreturn rfl dq_MO_copyPicture_156 ⟨rfl, rfl⟩
