/-! ===== the Model: more of its methods ===== -/
def pre_MO_pixelOf (h : fx_H) (q : Nat) (p cl ln : Int32) : Prop := (vp_in (p - p / (10 : Int32) * (10 : Int32)) 10) ∧ (vp_in p 30) ∧ (vp_in (((((96 : Int32) * p) + ((fx_i h (q + 3) (p - p / (10 : Int32) * (10 : Int32)).toNatClampNeg) * (ln - (fx_i h (q + 9) p.toNatClampNeg)))) + cl) - (fx_i h (q + 8) p.toNatClampNeg)) 2880)
def v_MO_pixelOf (h : fx_H) (q : Nat) (p cl ln : Int32) : Int32 := (fx_i h (q + 17) (((((96 : Int32) * p) + ((fx_i h (q + 3) (p - p / (10 : Int32) * (10 : Int32)).toNatClampNeg) * (ln - (fx_i h (q + 9) p.toNatClampNeg)))) + cl) - (fx_i h (q + 8) p.toNatClampNeg)).toNatClampNeg)
set_option maxRecDepth 100000 in
set_option maxHeartbeats 600000 in
theorem c_MO_pixelOf {g : fx_G} (ok : fx_ok g) (h : fx_H) (q : Nat) (p cl ln : Int32) (hm : isM h q)  (hN : pre_MO_pixelOf h q p cl ln) : fx_C g mq_MO_pixelOf [.ref q, .int p, .int cl, .int ln] h (fx_is (some (v_MO_pixelOf h q p cl ln)) h) 0 0 := by
  refine fx_body (by decide +kernel) (Nat.le_of_ble_eq_true rfl) ?_
  show fx_X g mq_MO_pixelOf 0 [(0, .ref q), (1, .int p), (2, .int cl), (3, .int ln)] [] h _ 0 0
  have hN0 := hN.1
  have hN1 := hN.2.1
  have hN2 := hN.2.2
  refine fx_aload_n 0 dq_MO_pixelOf_0 rfl rfl ?_
  refine fx_getr ok fq_MO_59 hm.1 dq_MO_pixelOf_1 (by decide) (mo_pixels hm).1 ?_
  refine fx_bipush (v := 96) dq_MO_pixelOf_4 (by decide) ?_
  refine fx_iload_n 1 dq_MO_pixelOf_6 rfl rfl ?_
  refine fx_imul dq_MO_pixelOf_7 ?_
  refine fx_aload_n 0 dq_MO_pixelOf_8 rfl rfl ?_
  refine fx_getr ok fq_MO_17 hm.1 dq_MO_pixelOf_9 (by decide) (mo_columns hm).1 ?_
  refine fx_iload_n 1 dq_MO_pixelOf_12 rfl rfl ?_
  refine fx_bipush (v := 10) dq_MO_pixelOf_13 (by decide) ?_
  refine fx_irem dq_MO_pixelOf_15 (by decide) ?_
  refine fx_iaload ok (mo_columns hm).2 hN0 dq_MO_pixelOf_16 ?_
  refine fx_iload_n 3 dq_MO_pixelOf_17 rfl rfl ?_
  refine fx_aload_n 0 dq_MO_pixelOf_18 rfl rfl ?_
  refine fx_getr ok fq_MO_35 hm.1 dq_MO_pixelOf_19 (by decide) (mo_py hm).1 ?_
  refine fx_iload_n 1 dq_MO_pixelOf_22 rfl rfl ?_
  refine fx_iaload ok (mo_py hm).2 hN1 dq_MO_pixelOf_23 ?_
  refine fx_isub dq_MO_pixelOf_24 ?_
  refine fx_imul dq_MO_pixelOf_25 ?_
  refine fx_iadd dq_MO_pixelOf_26 ?_
  refine fx_iload_n 2 dq_MO_pixelOf_27 rfl rfl ?_
  refine fx_iadd dq_MO_pixelOf_28 ?_
  refine fx_aload_n 0 dq_MO_pixelOf_29 rfl rfl ?_
  refine fx_getr ok fq_MO_32 hm.1 dq_MO_pixelOf_30 (by decide) (mo_px hm).1 ?_
  refine fx_iload_n 1 dq_MO_pixelOf_33 rfl rfl ?_
  refine fx_iaload ok (mo_px hm).2 hN1 dq_MO_pixelOf_34 ?_
  refine fx_isub dq_MO_pixelOf_35 ?_
  refine fx_iaload ok (mo_pixels hm).2 hN2 dq_MO_pixelOf_36 ?_
  exact fx_ireturn rfl dq_MO_pixelOf_37 ⟨rfl, rfl⟩
def pre_MO_seen (h : fx_H) (q : Nat) (x y : Int32) : Prop := (¬ (v_MO_isPixel (fx_wi h q 0 (0 : Int32)) x y) = 0 → vp_in (((20 : Int32) * y) + x) 200)
def v_MO_seen (h : fx_H) (q : Nat) (x y : Int32) : Int32 := if (v_MO_isPixel (fx_wi h q 0 (0 : Int32)) x y) = 0 then (-1 : Int32) else (fx_i (fx_wi h q 0 (0 : Int32)) (q + 37) (((20 : Int32) * y) + x).toNatClampNeg)
def k_MO_seen (h : fx_H) (q : Nat) (x y : Int32) : fx_H := if (v_MO_isPixel (fx_wi h q 0 (0 : Int32)) x y) = 0 then fx_wi h q 0 (0 : Int32) else fx_wi h q 0 (0 : Int32)
set_option maxRecDepth 100000 in
set_option maxHeartbeats 600000 in
theorem c_MO_seen {g : fx_G} (ok : fx_ok g) (h : fx_H) (q : Nat) (x y : Int32) (hm : isM h q)  (hN : pre_MO_seen h q x y) : fx_C g mq_MO_seen [.ref q, .int x, .int y] h (fx_is (some (v_MO_seen h q x y)) (k_MO_seen h q x y)) 0 0 := by
  refine fx_body (by decide +kernel) (Nat.le_of_ble_eq_true rfl) ?_
  show fx_X g mq_MO_seen 0 [(0, .ref q), (1, .int x), (2, .int y)] [] h _ 0 0
  have hN0 := hN
  refine fx_aload_n 0 dq_MO_seen_0 rfl rfl ?_
  refine fx_iconst (v := 0) dq_MO_seen_1 (by decide) ?_
  refine fx_puti ok fp_MO_126 hm.1 (by decide) dq_MO_seen_2 (Or.inl (by decide)) ?_
  refine fx_iload_n 1 dq_MO_seen_5 rfl rfl ?_
  refine fx_iload_n 2 dq_MO_seen_6 rfl rfl ?_
  refine fx_Si2 ok sq_MO_265 (c_MO_isPixel ok (fx_wi h q 0 (0 : Int32)) x y ) (by decide) (Nat.le_of_ble_eq_true rfl) dq_MO_seen_7 ?_
  refine fx_if_eq (tgt := 27) dq_MO_seen_10 (by decide) (fun hc10 => ?_) (fun hc10 => ?_)
  · -- 10: jump
    refine fx_iconst (v := -1) dq_MO_seen_27 (by decide) ?_
    exact fx_ireturn rfl dq_MO_seen_28 ⟨by rw [v_MO_seen, if_pos hc10], by rw [k_MO_seen, if_pos hc10]⟩
  · -- 10: fall
    refine fx_aload_n 0 dq_MO_seen_13 rfl rfl ?_
    refine fx_getr ok fq_MO_123 hm.1 dq_MO_seen_14 (by decide) (mo_seen hm).1 ?_
    refine fx_bipush (v := 20) dq_MO_seen_17 (by decide) ?_
    refine fx_iload_n 2 dq_MO_seen_19 rfl rfl ?_
    refine fx_imul dq_MO_seen_20 ?_
    refine fx_iload_n 1 dq_MO_seen_21 rfl rfl ?_
    refine fx_iadd dq_MO_seen_22 ?_
    refine fx_iaload ok (mo_seen hm).2 (hN0 hc10) dq_MO_seen_23 ?_
    refine fx_goto (tgt := 28) dq_MO_seen_24 (by decide) ?_
    exact fx_ireturn rfl dq_MO_seen_28 ⟨by rw [v_MO_seen, if_neg hc10], by rw [k_MO_seen, if_neg hc10]⟩
def v_MO_count (h : fx_H) (q : Nat) (z : Int32) : Int32 := if z = 0 then (fx_i (fx_wi h q 0 (0 : Int32)) q 43) else if z = (1 : Int32) then (fx_i (fx_wi h q 0 (0 : Int32)) q 45) else if z = (2 : Int32) then (fx_i (fx_wi h q 0 (0 : Int32)) q 20) else (-1 : Int32)
def k_MO_count (h : fx_H) (q : Nat) (z : Int32) : fx_H := if z = 0 then fx_wi h q 0 (0 : Int32) else if z = (1 : Int32) then fx_wi h q 0 (0 : Int32) else if z = (2 : Int32) then fx_wi h q 0 (0 : Int32) else fx_wi h q 0 (0 : Int32)
set_option maxRecDepth 100000 in
set_option maxHeartbeats 600000 in
theorem c_MO_count {g : fx_G} (ok : fx_ok g) (h : fx_H) (q : Nat) (z : Int32) (hm : isM h q)  : fx_C g mq_MO_count [.ref q, .int z] h (fx_is (some (v_MO_count h q z)) (k_MO_count h q z)) 0 0 := by
  refine fx_body (by decide +kernel) (Nat.le_of_ble_eq_true rfl) ?_
  show fx_X g mq_MO_count 0 [(0, .ref q), (1, .int z)] [] h _ 0 0
  refine fx_aload_n 0 dq_MO_count_0 rfl rfl ?_
  refine fx_iconst (v := 0) dq_MO_count_1 (by decide) ?_
  refine fx_puti ok fp_MO_126 hm.1 (by decide) dq_MO_count_2 (Or.inl (by decide)) ?_
  refine fx_iload_n 1 dq_MO_count_5 rfl rfl ?_
  refine fx_if_ne (tgt := 16) dq_MO_count_6 (by decide) (fun hc6 => ?_) (fun hc6 => ?_)
  · -- 6: jump
    refine fx_iload_n 1 dq_MO_count_16 rfl rfl ?_
    refine fx_iconst (v := 1) dq_MO_count_17 (by decide) ?_
    refine fx_icmp_ne (tgt := 28) dq_MO_count_18 (by decide) (fun hc18 => ?_) (fun hc18 => ?_)
    · -- 18: jump
      refine fx_iload_n 1 dq_MO_count_28 rfl rfl ?_
      refine fx_iconst (v := 2) dq_MO_count_29 (by decide) ?_
      refine fx_icmp_ne (tgt := 40) dq_MO_count_30 (by decide) (fun hc30 => ?_) (fun hc30 => ?_)
      · -- 30: jump
        refine fx_iconst (v := -1) dq_MO_count_40 (by decide) ?_
        exact fx_ireturn rfl dq_MO_count_41 ⟨by rw [v_MO_count, if_neg hc6, if_neg hc18, if_neg hc30], by rw [k_MO_count, if_neg hc6, if_neg hc18, if_neg hc30]⟩
      · -- 30: fall
        refine fx_aload_n 0 dq_MO_count_33 rfl rfl ?_
        refine fx_geti ok fq_MO_167 hm.1 dq_MO_count_34 (by decide) ?_
        refine fx_goto (tgt := 41) dq_MO_count_37 (by decide) ?_
        exact fx_ireturn rfl dq_MO_count_41 ⟨by rw [v_MO_count, if_neg hc6, if_neg hc18, if_pos hc30], by rw [k_MO_count, if_neg hc6, if_neg hc18, if_pos hc30]⟩
    · -- 18: fall
      refine fx_aload_n 0 dq_MO_count_21 rfl rfl ?_
      refine fx_geti ok fq_MO_250 hm.1 dq_MO_count_22 (by decide) ?_
      refine fx_goto (tgt := 41) dq_MO_count_25 (by decide) ?_
      exact fx_ireturn rfl dq_MO_count_41 ⟨by rw [v_MO_count, if_neg hc6, if_pos hc18], by rw [k_MO_count, if_neg hc6, if_pos hc18]⟩
  · -- 6: fall
    refine fx_aload_n 0 dq_MO_count_9 rfl rfl ?_
    refine fx_geti ok fq_MO_253 hm.1 dq_MO_count_10 (by decide) ?_
    refine fx_goto (tgt := 41) dq_MO_count_13 (by decide) ?_
    exact fx_ireturn rfl dq_MO_count_41 ⟨by rw [v_MO_count, if_pos hc6], by rw [k_MO_count, if_pos hc6]⟩
def pre_MO_missed (h : fx_H) (q : Nat) (i z : Int32) : Prop := (¬ i < 0 → vp_in (fx_i (fx_wi h q 0 (0 : Int32)) q 23) 2) ∧ (¬ i < 0 → i < (fx_i (fx_wi h q 0 (0 : Int32)) (q + 21) (fx_i (fx_wi h q 0 (0 : Int32)) q 23).toNatClampNeg) → ¬ z = 0 → ¬ z = (1 : Int32) → ¬ z = (2 : Int32) → z = (3 : Int32) → vp_in (((7 : Int32) * (fx_i (fx_wi h q 0 (0 : Int32)) q 23)) + i) 14) ∧ (¬ i < 0 → i < (fx_i (fx_wi h q 0 (0 : Int32)) (q + 21) (fx_i (fx_wi h q 0 (0 : Int32)) q 23).toNatClampNeg) → ¬ z = 0 → ¬ z = (1 : Int32) → z = (2 : Int32) → vp_in (((7 : Int32) * (fx_i (fx_wi h q 0 (0 : Int32)) q 23)) + i) 14) ∧ (¬ i < 0 → i < (fx_i (fx_wi h q 0 (0 : Int32)) (q + 21) (fx_i (fx_wi h q 0 (0 : Int32)) q 23).toNatClampNeg) → ¬ z = 0 → z = (1 : Int32) → vp_in (((7 : Int32) * (fx_i (fx_wi h q 0 (0 : Int32)) q 23)) + i) 14) ∧ (¬ i < 0 → i < (fx_i (fx_wi h q 0 (0 : Int32)) (q + 21) (fx_i (fx_wi h q 0 (0 : Int32)) q 23).toNatClampNeg) → z = 0 → vp_in (((7 : Int32) * (fx_i (fx_wi h q 0 (0 : Int32)) q 23)) + i) 14)
def v_MO_missed (h : fx_H) (q : Nat) (i z : Int32) : Int32 := if i < 0 then (-1 : Int32) else if i < (fx_i (fx_wi h q 0 (0 : Int32)) (q + 21) (fx_i (fx_wi h q 0 (0 : Int32)) q 23).toNatClampNeg) then if z = 0 then (fx_i (fx_wi h q 0 (0 : Int32)) (q + 22) (((7 : Int32) * (fx_i (fx_wi h q 0 (0 : Int32)) q 23)) + i).toNatClampNeg) else if z = (1 : Int32) then (fx_i (fx_wi h q 0 (0 : Int32)) (q + 23) (((7 : Int32) * (fx_i (fx_wi h q 0 (0 : Int32)) q 23)) + i).toNatClampNeg) else if z = (2 : Int32) then (fx_i (fx_wi h q 0 (0 : Int32)) (q + 24) (((7 : Int32) * (fx_i (fx_wi h q 0 (0 : Int32)) q 23)) + i).toNatClampNeg) else if z = (3 : Int32) then (fx_i (fx_wi h q 0 (0 : Int32)) (q + 25) (((7 : Int32) * (fx_i (fx_wi h q 0 (0 : Int32)) q 23)) + i).toNatClampNeg) else (-1 : Int32) else (-1 : Int32)
def k_MO_missed (h : fx_H) (q : Nat) (i z : Int32) : fx_H := if i < 0 then fx_wi h q 0 (0 : Int32) else if i < (fx_i (fx_wi h q 0 (0 : Int32)) (q + 21) (fx_i (fx_wi h q 0 (0 : Int32)) q 23).toNatClampNeg) then if z = 0 then fx_wi h q 0 (0 : Int32) else if z = (1 : Int32) then fx_wi h q 0 (0 : Int32) else if z = (2 : Int32) then fx_wi h q 0 (0 : Int32) else if z = (3 : Int32) then fx_wi h q 0 (0 : Int32) else fx_wi h q 0 (0 : Int32) else fx_wi h q 0 (0 : Int32)
set_option maxRecDepth 100000 in
set_option maxHeartbeats 600000 in
theorem c_MO_missed {g : fx_G} (ok : fx_ok g) (h : fx_H) (q : Nat) (i z : Int32) (hm : isM h q)  (hN : pre_MO_missed h q i z) : fx_C g mq_MO_missed [.ref q, .int i, .int z] h (fx_is (some (v_MO_missed h q i z)) (k_MO_missed h q i z)) 0 0 := by
  refine fx_body (by decide +kernel) (Nat.le_of_ble_eq_true rfl) ?_
  show fx_X g mq_MO_missed 0 [(0, .ref q), (1, .int i), (2, .int z)] [] h _ 0 0
  have hN0 := hN.1
  have hN1 := hN.2.1
  have hN2 := hN.2.2.1
  have hN3 := hN.2.2.2.1
  have hN4 := hN.2.2.2.2
  refine fx_aload_n 0 dq_MO_missed_0 rfl rfl ?_
  refine fx_iconst (v := 0) dq_MO_missed_1 (by decide) ?_
  refine fx_puti ok fp_MO_126 hm.1 (by decide) dq_MO_missed_2 (Or.inl (by decide)) ?_
  refine fx_iload_n 1 dq_MO_missed_5 rfl rfl ?_
  refine fx_if_lt (tgt := 22) dq_MO_missed_6 (by decide) (fun hc6 => ?_) (fun hc6 => ?_)
  · -- 6: jump
    refine fx_iconst (v := -1) dq_MO_missed_22 (by decide) ?_
    exact fx_ireturn rfl dq_MO_missed_23 ⟨by rw [v_MO_missed, if_pos hc6], by rw [k_MO_missed, if_pos hc6]⟩
  · -- 6: fall
    refine fx_iload_n 1 dq_MO_missed_9 rfl rfl ?_
    refine fx_aload_n 0 dq_MO_missed_10 rfl rfl ?_
    refine fx_getr ok fq_MO_75 hm.1 dq_MO_missed_11 (by decide) (mo_misses hm).1 ?_
    refine fx_aload_n 0 dq_MO_missed_14 rfl rfl ?_
    refine fx_geti ok fq_MO_68 hm.1 dq_MO_missed_15 (by decide) ?_
    refine fx_iaload ok (mo_misses hm).2 (hN0 hc6) dq_MO_missed_18 ?_
    refine fx_icmp_lt (tgt := 24) dq_MO_missed_19 (by decide) (fun hc19 => ?_) (fun hc19 => ?_)
    · -- 19: jump
      refine fx_bipush (v := 7) dq_MO_missed_24 (by decide) ?_
      refine fx_aload_n 0 dq_MO_missed_26 rfl rfl ?_
      refine fx_geti ok fq_MO_68 hm.1 dq_MO_missed_27 (by decide) ?_
      refine fx_imul dq_MO_missed_30 ?_
      refine fx_iload_n 1 dq_MO_missed_31 rfl rfl ?_
      refine fx_iadd dq_MO_missed_32 ?_
      refine fx_istore_n dq_MO_missed_33 rfl (by decide) rfl ?_
      refine fx_iload_n 3 dq_MO_missed_34 rfl rfl ?_
      refine fx_if_ne (tgt := 47) dq_MO_missed_35 (by decide) (fun hc35 => ?_) (fun hc35 => ?_)
      · -- 35: jump
        refine fx_iload_n 3 dq_MO_missed_47 rfl rfl ?_
        refine fx_iconst (v := 1) dq_MO_missed_48 (by decide) ?_
        refine fx_icmp_ne (tgt := 61) dq_MO_missed_49 (by decide) (fun hc49 => ?_) (fun hc49 => ?_)
        · -- 49: jump
          refine fx_iload_n 3 dq_MO_missed_61 rfl rfl ?_
          refine fx_iconst (v := 2) dq_MO_missed_62 (by decide) ?_
          refine fx_icmp_ne (tgt := 75) dq_MO_missed_63 (by decide) (fun hc63 => ?_) (fun hc63 => ?_)
          · -- 63: jump
            refine fx_iload_n 3 dq_MO_missed_75 rfl rfl ?_
            refine fx_iconst (v := 3) dq_MO_missed_76 (by decide) ?_
            refine fx_icmp_ne (tgt := 89) dq_MO_missed_77 (by decide) (fun hc77 => ?_) (fun hc77 => ?_)
            · -- 77: jump
              refine fx_iconst (v := -1) dq_MO_missed_89 (by decide) ?_
              exact fx_ireturn rfl dq_MO_missed_90 ⟨by rw [v_MO_missed, if_neg hc6, if_pos hc19, if_neg hc35, if_neg hc49, if_neg hc63, if_neg hc77], by rw [k_MO_missed, if_neg hc6, if_pos hc19, if_neg hc35, if_neg hc49, if_neg hc63, if_neg hc77]⟩
            · -- 77: fall
              refine fx_aload_n 1 dq_MO_missed_80 rfl rfl ?_
              refine fx_getr ok fq_MO_87 hm.1 dq_MO_missed_81 (by decide) (mo_mh hm).1 ?_
              refine fx_iload_n 0 dq_MO_missed_84 rfl rfl ?_
              refine fx_iaload ok (mo_mh hm).2 (hN1 hc6 hc19 hc35 hc49 hc63 hc77) dq_MO_missed_85 ?_
              refine fx_goto (tgt := 90) dq_MO_missed_86 (by decide) ?_
              exact fx_ireturn rfl dq_MO_missed_90 ⟨by rw [v_MO_missed, if_neg hc6, if_pos hc19, if_neg hc35, if_neg hc49, if_neg hc63, if_pos hc77], by rw [k_MO_missed, if_neg hc6, if_pos hc19, if_neg hc35, if_neg hc49, if_neg hc63, if_pos hc77]⟩
          · -- 63: fall
            refine fx_aload_n 1 dq_MO_missed_66 rfl rfl ?_
            refine fx_getr ok fq_MO_84 hm.1 dq_MO_missed_67 (by decide) (mo_mw hm).1 ?_
            refine fx_iload_n 0 dq_MO_missed_70 rfl rfl ?_
            refine fx_iaload ok (mo_mw hm).2 (hN2 hc6 hc19 hc35 hc49 hc63) dq_MO_missed_71 ?_
            refine fx_goto (tgt := 90) dq_MO_missed_72 (by decide) ?_
            exact fx_ireturn rfl dq_MO_missed_90 ⟨by rw [v_MO_missed, if_neg hc6, if_pos hc19, if_neg hc35, if_neg hc49, if_pos hc63], by rw [k_MO_missed, if_neg hc6, if_pos hc19, if_neg hc35, if_neg hc49, if_pos hc63]⟩
        · -- 49: fall
          refine fx_aload_n 1 dq_MO_missed_52 rfl rfl ?_
          refine fx_getr ok fq_MO_81 hm.1 dq_MO_missed_53 (by decide) (mo_my hm).1 ?_
          refine fx_iload_n 0 dq_MO_missed_56 rfl rfl ?_
          refine fx_iaload ok (mo_my hm).2 (hN3 hc6 hc19 hc35 hc49) dq_MO_missed_57 ?_
          refine fx_goto (tgt := 90) dq_MO_missed_58 (by decide) ?_
          exact fx_ireturn rfl dq_MO_missed_90 ⟨by rw [v_MO_missed, if_neg hc6, if_pos hc19, if_neg hc35, if_pos hc49], by rw [k_MO_missed, if_neg hc6, if_pos hc19, if_neg hc35, if_pos hc49]⟩
      · -- 35: fall
        refine fx_aload_n 1 dq_MO_missed_38 rfl rfl ?_
        refine fx_getr ok fq_MO_78 hm.1 dq_MO_missed_39 (by decide) (mo_mx hm).1 ?_
        refine fx_iload_n 0 dq_MO_missed_42 rfl rfl ?_
        refine fx_iaload ok (mo_mx hm).2 (hN4 hc6 hc19 hc35) dq_MO_missed_43 ?_
        refine fx_goto (tgt := 90) dq_MO_missed_44 (by decide) ?_
        exact fx_ireturn rfl dq_MO_missed_90 ⟨by rw [v_MO_missed, if_neg hc6, if_pos hc19, if_pos hc35], by rw [k_MO_missed, if_neg hc6, if_pos hc19, if_pos hc35]⟩
    · -- 19: fall
      refine fx_iconst (v := -1) dq_MO_missed_22 (by decide) ?_
      exact fx_ireturn rfl dq_MO_missed_23 ⟨by rw [v_MO_missed, if_neg hc6, if_neg hc19], by rw [k_MO_missed, if_neg hc6, if_neg hc19]⟩
def pre_MO_plane (h : fx_H) (q : Nat) (i : Int32) : Prop := (i = 0 → vp_in i 2) ∧ (¬ i = 0 → i = (1 : Int32) → vp_in i 2)
def v_MO_plane (h : fx_H) (q : Nat) (i : Int32) : Int32 := if i = 0 then (fx_i (fx_wi h q 0 (0 : Int32)) (q + 26) i.toNatClampNeg) else if i = (1 : Int32) then (fx_i (fx_wi h q 0 (0 : Int32)) (q + 26) i.toNatClampNeg) else (-1 : Int32)
def k_MO_plane (h : fx_H) (q : Nat) (i : Int32) : fx_H := if i = 0 then fx_wi h q 0 (0 : Int32) else if i = (1 : Int32) then fx_wi h q 0 (0 : Int32) else fx_wi h q 0 (0 : Int32)
set_option maxRecDepth 100000 in
set_option maxHeartbeats 600000 in
theorem c_MO_plane {g : fx_G} (ok : fx_ok g) (h : fx_H) (q : Nat) (i : Int32) (hm : isM h q)  (hN : pre_MO_plane h q i) : fx_C g mq_MO_plane [.ref q, .int i] h (fx_is (some (v_MO_plane h q i)) (k_MO_plane h q i)) 0 0 := by
  refine fx_body (by decide +kernel) (Nat.le_of_ble_eq_true rfl) ?_
  show fx_X g mq_MO_plane 0 [(0, .ref q), (1, .int i)] [] h _ 0 0
  have hN0 := hN.1
  have hN1 := hN.2
  refine fx_aload_n 0 dq_MO_plane_0 rfl rfl ?_
  refine fx_iconst (v := 0) dq_MO_plane_1 (by decide) ?_
  refine fx_puti ok fp_MO_126 hm.1 (by decide) dq_MO_plane_2 (Or.inl (by decide)) ?_
  refine fx_iload_n 1 dq_MO_plane_5 rfl rfl ?_
  refine fx_if_eq (tgt := 14) dq_MO_plane_6 (by decide) (fun hc6 => ?_) (fun hc6 => ?_)
  · -- 6: jump
    refine fx_aload_n 0 dq_MO_plane_14 rfl rfl ?_
    refine fx_getr ok fq_MO_90 hm.1 dq_MO_plane_15 (by decide) (mo_planes hm).1 ?_
    refine fx_iload_n 1 dq_MO_plane_18 rfl rfl ?_
    refine fx_iaload ok (mo_planes hm).2 (hN0 hc6) dq_MO_plane_19 ?_
    refine fx_goto (tgt := 24) dq_MO_plane_20 (by decide) ?_
    exact fx_ireturn rfl dq_MO_plane_24 ⟨by rw [v_MO_plane, if_pos hc6], by rw [k_MO_plane, if_pos hc6]⟩
  · -- 6: fall
    refine fx_iload_n 1 dq_MO_plane_9 rfl rfl ?_
    refine fx_iconst (v := 1) dq_MO_plane_10 (by decide) ?_
    refine fx_icmp_ne (tgt := 23) dq_MO_plane_11 (by decide) (fun hc11 => ?_) (fun hc11 => ?_)
    · -- 11: jump
      refine fx_iconst (v := -1) dq_MO_plane_23 (by decide) ?_
      exact fx_ireturn rfl dq_MO_plane_24 ⟨by rw [v_MO_plane, if_neg hc6, if_neg hc11], by rw [k_MO_plane, if_neg hc6, if_neg hc11]⟩
    · -- 11: fall
      refine fx_aload_n 0 dq_MO_plane_14 rfl rfl ?_
      refine fx_getr ok fq_MO_90 hm.1 dq_MO_plane_15 (by decide) (mo_planes hm).1 ?_
      refine fx_iload_n 1 dq_MO_plane_18 rfl rfl ?_
      refine fx_iaload ok (mo_planes hm).2 (hN1 hc6 hc11) dq_MO_plane_19 ?_
      refine fx_goto (tgt := 24) dq_MO_plane_20 (by decide) ?_
      exact fx_ireturn rfl dq_MO_plane_24 ⟨by rw [v_MO_plane, if_neg hc6, if_pos hc11], by rw [k_MO_plane, if_neg hc6, if_pos hc11]⟩
def pre_MO_destroy (h : fx_H) (q : Nat) (s : Int32) : Prop := ((v_MO_hasDraft h q s) = 0 → (fx_i (fx_wi h q 0 (1 : Int32)) q 0) = 0 → vp_in s 30) ∧ ((v_MO_hasDraft h q s) = 0 → (fx_i (fx_wi h q 0 (1 : Int32)) q 0) = 0 → vp_in s 10) ∧ (¬ (v_MO_hasDraft h q s) = 0 → (fx_i (fx_wi h q 0 (0 : Int32)) q 0) = 0 → vp_in s 30) ∧ (¬ (v_MO_hasDraft h q s) = 0 → (fx_i (fx_wi h q 0 (0 : Int32)) q 0) = 0 → vp_in s 10)
def k_MO_destroy (h : fx_H) (q : Nat) (s : Int32) : fx_H := if (v_MO_hasDraft h q s) = 0 then if (fx_i (fx_wi h q 0 (1 : Int32)) q 0) = 0 then fx_wi (fx_wi (fx_wi h q 0 (1 : Int32)) (q + 7) s.toNatClampNeg (0 : Int32)) (q + 5) s.toNatClampNeg (1 : Int32) else fx_wi h q 0 (1 : Int32) else if (fx_i (fx_wi h q 0 (0 : Int32)) q 0) = 0 then fx_wi (fx_wi (fx_wi h q 0 (0 : Int32)) (q + 7) s.toNatClampNeg (0 : Int32)) (q + 5) s.toNatClampNeg (1 : Int32) else fx_wi h q 0 (0 : Int32)
set_option maxRecDepth 100000 in
set_option maxHeartbeats 600000 in
theorem c_MO_destroy {g : fx_G} (ok : fx_ok g) (h : fx_H) (q : Nat) (s : Int32) (hm : isM h q)  (hN : pre_MO_destroy h q s) : fx_C g mq_MO_destroy [.ref q, .int s] h (fx_is none (k_MO_destroy h q s)) 0 0 := by
  refine fx_body (by decide +kernel) (Nat.le_of_ble_eq_true rfl) ?_
  show fx_X g mq_MO_destroy 0 [(0, .ref q), (1, .int s)] [] h _ 0 0
  have hN0 := hN.1
  have hN1 := hN.2.1
  have hN2 := hN.2.2.1
  have hN3 := hN.2.2.2
  refine fx_aload_n 0 dq_MO_destroy_0 rfl rfl ?_
  refine fx_aload_n 0 dq_MO_destroy_1 rfl rfl ?_
  refine fx_iload_n 1 dq_MO_destroy_2 rfl rfl ?_
  refine fx_Vi1 ok sq_MO_137 hm.1 (c_MO_hasDraft ok h q s (by exact hm)) (by decide) (Nat.le_of_ble_eq_true rfl) dq_MO_destroy_3 ?_
  refine fx_if_eq (tgt := 13) dq_MO_destroy_6 (by decide) (fun hc6 => ?_) (fun hc6 => ?_)
  · -- 6: jump
    refine fx_iconst (v := 1) dq_MO_destroy_13 (by decide) ?_
    refine fx_puti ok fp_MO_126 hm.1 (by decide) dq_MO_destroy_14 (Or.inl (by decide)) ?_
    refine fx_aload_n 0 dq_MO_destroy_17 rfl rfl ?_
    refine fx_geti ok fq_MO_126 hm.1 dq_MO_destroy_18 (by decide) ?_
    refine fx_if_eq (tgt := 25) dq_MO_destroy_21 (by decide) (fun hc21 => ?_) (fun hc21 => ?_)
    · -- 21: jump
      refine fx_aload_n 0 dq_MO_destroy_25 rfl rfl ?_
      refine fx_getr ok fq_MO_29 hm.1 dq_MO_destroy_26 (by decide) (mo_there hm).1 ?_
      refine fx_iload_n 1 dq_MO_destroy_29 rfl rfl ?_
      refine fx_iconst (v := 0) dq_MO_destroy_30 (by decide) ?_
      refine fx_bastore ok (mo_there hm).2 (by decide) (hN0 hc6 hc21) dq_MO_destroy_31 ?_
      refine fx_aload_n 0 dq_MO_destroy_32 rfl rfl ?_
      refine fx_getr ok fq_MO_23 hm.1 dq_MO_destroy_33 (by decide) (mo_destroyed hm).1 ?_
      refine fx_iload_n 1 dq_MO_destroy_36 rfl rfl ?_
      refine fx_iconst (v := 1) dq_MO_destroy_37 (by decide) ?_
      refine fx_bastore ok (mo_destroyed hm).2 (by decide) (hN1 hc6 hc21) dq_MO_destroy_38 ?_
      exact fx_vreturn rfl dq_MO_destroy_39 ⟨rfl, by rw [k_MO_destroy, if_pos hc6, if_pos hc21]⟩
    · -- 21: fall
      exact fx_vreturn rfl dq_MO_destroy_24 ⟨rfl, by rw [k_MO_destroy, if_pos hc6, if_neg hc21]⟩
  · -- 6: fall
    refine fx_iconst (v := 0) dq_MO_destroy_9 (by decide) ?_
    refine fx_goto (tgt := 14) dq_MO_destroy_10 (by decide) ?_
    refine fx_puti ok fp_MO_126 hm.1 (by decide) dq_MO_destroy_14 (Or.inl (by decide)) ?_
    refine fx_aload_n 0 dq_MO_destroy_17 rfl rfl ?_
    refine fx_geti ok fq_MO_126 hm.1 dq_MO_destroy_18 (by decide) ?_
    refine fx_if_eq (tgt := 25) dq_MO_destroy_21 (by decide) (fun hc21 => ?_) (fun hc21 => ?_)
    · -- 21: jump
      refine fx_aload_n 0 dq_MO_destroy_25 rfl rfl ?_
      refine fx_getr ok fq_MO_29 hm.1 dq_MO_destroy_26 (by decide) (mo_there hm).1 ?_
      refine fx_iload_n 1 dq_MO_destroy_29 rfl rfl ?_
      refine fx_iconst (v := 0) dq_MO_destroy_30 (by decide) ?_
      refine fx_bastore ok (mo_there hm).2 (by decide) (hN2 hc6 hc21) dq_MO_destroy_31 ?_
      refine fx_aload_n 0 dq_MO_destroy_32 rfl rfl ?_
      refine fx_getr ok fq_MO_23 hm.1 dq_MO_destroy_33 (by decide) (mo_destroyed hm).1 ?_
      refine fx_iload_n 1 dq_MO_destroy_36 rfl rfl ?_
      refine fx_iconst (v := 1) dq_MO_destroy_37 (by decide) ?_
      refine fx_bastore ok (mo_destroyed hm).2 (by decide) (hN3 hc6 hc21) dq_MO_destroy_38 ?_
      exact fx_vreturn rfl dq_MO_destroy_39 ⟨rfl, by rw [k_MO_destroy, if_neg hc6, if_pos hc21]⟩
    · -- 21: fall
      exact fx_vreturn rfl dq_MO_destroy_24 ⟨rfl, by rw [k_MO_destroy, if_neg hc6, if_neg hc21]⟩
def pre_MO_place (h : fx_H) (q : Nat) (s x y od al vi : Int32) : Prop := ((v_MO_hasDraft h q s) = 0 → (fx_i (fx_wi h q 0 (1 : Int32)) q 0) = 0 → vp_in s 30) ∧ (¬ (v_MO_hasDraft h q s) = 0 → (v_MO_within h x (-20 : Int32) (30 : Int32)) = 0 → (fx_i (fx_wi h q 0 (1 : Int32)) q 0) = 0 → vp_in s 30) ∧ (¬ (v_MO_hasDraft h q s) = 0 → ¬ (v_MO_within h x (-20 : Int32) (30 : Int32)) = 0 → (v_MO_within h y (-20 : Int32) (30 : Int32)) = 0 → (fx_i (fx_wi h q 0 (1 : Int32)) q 0) = 0 → vp_in s 30) ∧ (¬ (v_MO_hasDraft h q s) = 0 → ¬ (v_MO_within h x (-20 : Int32) (30 : Int32)) = 0 → ¬ (v_MO_within h y (-20 : Int32) (30 : Int32)) = 0 → (v_MO_within h od (0 : Int32) (9 : Int32)) = 0 → (fx_i (fx_wi h q 0 (1 : Int32)) q 0) = 0 → vp_in s 30) ∧ (¬ (v_MO_hasDraft h q s) = 0 → ¬ (v_MO_within h x (-20 : Int32) (30 : Int32)) = 0 → ¬ (v_MO_within h y (-20 : Int32) (30 : Int32)) = 0 → ¬ (v_MO_within h od (0 : Int32) (9 : Int32)) = 0 → (v_MO_within h al (0 : Int32) (16 : Int32)) = 0 → (fx_i (fx_wi h q 0 (1 : Int32)) q 0) = 0 → vp_in s 30) ∧ (¬ (v_MO_hasDraft h q s) = 0 → ¬ (v_MO_within h x (-20 : Int32) (30 : Int32)) = 0 → ¬ (v_MO_within h y (-20 : Int32) (30 : Int32)) = 0 → ¬ (v_MO_within h od (0 : Int32) (9 : Int32)) = 0 → ¬ (v_MO_within h al (0 : Int32) (16 : Int32)) = 0 → (fx_i (fx_wi h q 0 (0 : Int32)) q 0) = 0 → vp_in s 30)
def k_MO_place (h : fx_H) (q : Nat) (s x y od al vi : Int32) : fx_H := if (v_MO_hasDraft h q s) = 0 then if (fx_i (fx_wi h q 0 (1 : Int32)) q 0) = 0 then fx_wi (fx_wi (fx_wi (fx_wi (fx_wi (fx_wi h q 0 (1 : Int32)) (q + 8) s.toNatClampNeg x) (q + 9) s.toNatClampNeg y) (q + 10) s.toNatClampNeg od) (q + 11) s.toNatClampNeg al) (q + 12) s.toNatClampNeg vi else fx_wi h q 0 (1 : Int32) else if (v_MO_within h x (-20 : Int32) (30 : Int32)) = 0 then if (fx_i (fx_wi h q 0 (1 : Int32)) q 0) = 0 then fx_wi (fx_wi (fx_wi (fx_wi (fx_wi (fx_wi h q 0 (1 : Int32)) (q + 8) s.toNatClampNeg x) (q + 9) s.toNatClampNeg y) (q + 10) s.toNatClampNeg od) (q + 11) s.toNatClampNeg al) (q + 12) s.toNatClampNeg vi else fx_wi h q 0 (1 : Int32) else if (v_MO_within h y (-20 : Int32) (30 : Int32)) = 0 then if (fx_i (fx_wi h q 0 (1 : Int32)) q 0) = 0 then fx_wi (fx_wi (fx_wi (fx_wi (fx_wi (fx_wi h q 0 (1 : Int32)) (q + 8) s.toNatClampNeg x) (q + 9) s.toNatClampNeg y) (q + 10) s.toNatClampNeg od) (q + 11) s.toNatClampNeg al) (q + 12) s.toNatClampNeg vi else fx_wi h q 0 (1 : Int32) else if (v_MO_within h od (0 : Int32) (9 : Int32)) = 0 then if (fx_i (fx_wi h q 0 (1 : Int32)) q 0) = 0 then fx_wi (fx_wi (fx_wi (fx_wi (fx_wi (fx_wi h q 0 (1 : Int32)) (q + 8) s.toNatClampNeg x) (q + 9) s.toNatClampNeg y) (q + 10) s.toNatClampNeg od) (q + 11) s.toNatClampNeg al) (q + 12) s.toNatClampNeg vi else fx_wi h q 0 (1 : Int32) else if (v_MO_within h al (0 : Int32) (16 : Int32)) = 0 then if (fx_i (fx_wi h q 0 (1 : Int32)) q 0) = 0 then fx_wi (fx_wi (fx_wi (fx_wi (fx_wi (fx_wi h q 0 (1 : Int32)) (q + 8) s.toNatClampNeg x) (q + 9) s.toNatClampNeg y) (q + 10) s.toNatClampNeg od) (q + 11) s.toNatClampNeg al) (q + 12) s.toNatClampNeg vi else fx_wi h q 0 (1 : Int32) else if (fx_i (fx_wi h q 0 (0 : Int32)) q 0) = 0 then fx_wi (fx_wi (fx_wi (fx_wi (fx_wi (fx_wi h q 0 (0 : Int32)) (q + 8) s.toNatClampNeg x) (q + 9) s.toNatClampNeg y) (q + 10) s.toNatClampNeg od) (q + 11) s.toNatClampNeg al) (q + 12) s.toNatClampNeg vi else fx_wi h q 0 (0 : Int32)
set_option maxRecDepth 100000 in
set_option maxHeartbeats 600000 in
theorem c_MO_place {g : fx_G} (ok : fx_ok g) (h : fx_H) (q : Nat) (s x y od al vi : Int32) (hm : isM h q) (hv : vi = 0 ∨ vi = 1) (hN : pre_MO_place h q s x y od al vi) : fx_C g mq_MO_place [.ref q, .int s, .int x, .int y, .int od, .int al, .int vi] h (fx_is none (k_MO_place h q s x y od al vi)) 0 0 := by
  refine fx_body (by decide +kernel) (Nat.le_of_ble_eq_true rfl) ?_
  show fx_X g mq_MO_place 0 [(0, .ref q), (1, .int s), (2, .int x), (3, .int y), (4, .int od), (5, .int al), (6, .int vi)] [] h _ 0 0
  have hN0 := hN.1
  have hN1 := hN.2.1
  have hN2 := hN.2.2.1
  have hN3 := hN.2.2.2.1
  have hN4 := hN.2.2.2.2.1
  have hN5 := hN.2.2.2.2.2
  refine fx_aload_n 0 dq_MO_place_0 rfl rfl ?_
  refine fx_aload_n 0 dq_MO_place_1 rfl rfl ?_
  refine fx_iload_n 1 dq_MO_place_2 rfl rfl ?_
  refine fx_Vi1 ok sq_MO_137 hm.1 (c_MO_hasDraft ok h q s (by exact hm)) (by decide) (Nat.le_of_ble_eq_true rfl) dq_MO_place_3 ?_
  refine fx_if_eq (tgt := 57) dq_MO_place_6 (by decide) (fun hc6 => ?_) (fun hc6 => ?_)
  · -- 6: jump
    refine fx_iconst (v := 1) dq_MO_place_57 (by decide) ?_
    refine fx_puti ok fp_MO_126 hm.1 (by decide) dq_MO_place_58 (Or.inl (by decide)) ?_
    refine fx_aload_n 0 dq_MO_place_61 rfl rfl ?_
    refine fx_geti ok fq_MO_126 hm.1 dq_MO_place_62 (by decide) ?_
    refine fx_if_eq (tgt := 69) dq_MO_place_65 (by decide) (fun hc65 => ?_) (fun hc65 => ?_)
    · -- 65: jump
      refine fx_aload_n 0 dq_MO_place_69 rfl rfl ?_
      refine fx_getr ok fq_MO_32 hm.1 dq_MO_place_70 (by decide) (mo_px hm).1 ?_
      refine fx_iload_n 1 dq_MO_place_73 rfl rfl ?_
      refine fx_iload_n 2 dq_MO_place_74 rfl rfl ?_
      refine fx_iastore ok (mo_px hm).2 (hN0 hc6 hc65) dq_MO_place_75 ?_
      refine fx_aload_n 0 dq_MO_place_76 rfl rfl ?_
      refine fx_getr ok fq_MO_35 hm.1 dq_MO_place_77 (by decide) (mo_py hm).1 ?_
      refine fx_iload_n 1 dq_MO_place_80 rfl rfl ?_
      refine fx_iload_n 3 dq_MO_place_81 rfl rfl ?_
      refine fx_iastore ok (mo_py hm).2 (hN0 hc6 hc65) dq_MO_place_82 ?_
      refine fx_aload_n 0 dq_MO_place_83 rfl rfl ?_
      refine fx_getr ok fq_MO_38 hm.1 dq_MO_place_84 (by decide) (mo_order hm).1 ?_
      refine fx_iload_n 1 dq_MO_place_87 rfl rfl ?_
      refine fx_iload 4 dq_MO_place_88 rfl ?_
      refine fx_iastore ok (mo_order hm).2 (hN0 hc6 hc65) dq_MO_place_90 ?_
      refine fx_aload_n 0 dq_MO_place_91 rfl rfl ?_
      refine fx_getr ok fq_MO_41 hm.1 dq_MO_place_92 (by decide) (mo_alpha hm).1 ?_
      refine fx_iload_n 1 dq_MO_place_95 rfl rfl ?_
      refine fx_iload 5 dq_MO_place_96 rfl ?_
      refine fx_iastore ok (mo_alpha hm).2 (hN0 hc6 hc65) dq_MO_place_98 ?_
      refine fx_aload_n 0 dq_MO_place_99 rfl rfl ?_
      refine fx_getr ok fq_MO_44 hm.1 dq_MO_place_100 (by decide) (mo_visible hm).1 ?_
      refine fx_iload_n 1 dq_MO_place_103 rfl rfl ?_
      refine fx_iload 6 dq_MO_place_104 rfl ?_
      refine fx_bastore ok (mo_visible hm).2 hv (hN0 hc6 hc65) dq_MO_place_106 ?_
      exact fx_vreturn rfl dq_MO_place_107 ⟨rfl, by rw [k_MO_place, if_pos hc6, if_pos hc65]⟩
    · -- 65: fall
      exact fx_vreturn rfl dq_MO_place_68 ⟨rfl, by rw [k_MO_place, if_pos hc6, if_neg hc65]⟩
  · -- 6: fall
    refine fx_iload_n 2 dq_MO_place_9 rfl rfl ?_
    refine fx_bipush (v := -20) dq_MO_place_10 (by decide) ?_
    refine fx_bipush (v := 30) dq_MO_place_12 (by decide) ?_
    refine fx_Si3 ok sq_MO_129 (c_MO_within ok h x (-20 : Int32) (30 : Int32) ) (by decide) (Nat.le_of_ble_eq_true rfl) dq_MO_place_14 ?_
    refine fx_if_eq (tgt := 57) dq_MO_place_17 (by decide) (fun hc17 => ?_) (fun hc17 => ?_)
    · -- 17: jump
      refine fx_iconst (v := 1) dq_MO_place_57 (by decide) ?_
      refine fx_puti ok fp_MO_126 hm.1 (by decide) dq_MO_place_58 (Or.inl (by decide)) ?_
      refine fx_aload_n 0 dq_MO_place_61 rfl rfl ?_
      refine fx_geti ok fq_MO_126 hm.1 dq_MO_place_62 (by decide) ?_
      refine fx_if_eq (tgt := 69) dq_MO_place_65 (by decide) (fun hc65 => ?_) (fun hc65 => ?_)
      · -- 65: jump
        refine fx_aload_n 0 dq_MO_place_69 rfl rfl ?_
        refine fx_getr ok fq_MO_32 hm.1 dq_MO_place_70 (by decide) (mo_px hm).1 ?_
        refine fx_iload_n 1 dq_MO_place_73 rfl rfl ?_
        refine fx_iload_n 2 dq_MO_place_74 rfl rfl ?_
        refine fx_iastore ok (mo_px hm).2 (hN1 hc6 hc17 hc65) dq_MO_place_75 ?_
        refine fx_aload_n 0 dq_MO_place_76 rfl rfl ?_
        refine fx_getr ok fq_MO_35 hm.1 dq_MO_place_77 (by decide) (mo_py hm).1 ?_
        refine fx_iload_n 1 dq_MO_place_80 rfl rfl ?_
        refine fx_iload_n 3 dq_MO_place_81 rfl rfl ?_
        refine fx_iastore ok (mo_py hm).2 (hN1 hc6 hc17 hc65) dq_MO_place_82 ?_
        refine fx_aload_n 0 dq_MO_place_83 rfl rfl ?_
        refine fx_getr ok fq_MO_38 hm.1 dq_MO_place_84 (by decide) (mo_order hm).1 ?_
        refine fx_iload_n 1 dq_MO_place_87 rfl rfl ?_
        refine fx_iload 4 dq_MO_place_88 rfl ?_
        refine fx_iastore ok (mo_order hm).2 (hN1 hc6 hc17 hc65) dq_MO_place_90 ?_
        refine fx_aload_n 0 dq_MO_place_91 rfl rfl ?_
        refine fx_getr ok fq_MO_41 hm.1 dq_MO_place_92 (by decide) (mo_alpha hm).1 ?_
        refine fx_iload_n 1 dq_MO_place_95 rfl rfl ?_
        refine fx_iload 5 dq_MO_place_96 rfl ?_
        refine fx_iastore ok (mo_alpha hm).2 (hN1 hc6 hc17 hc65) dq_MO_place_98 ?_
        refine fx_aload_n 0 dq_MO_place_99 rfl rfl ?_
        refine fx_getr ok fq_MO_44 hm.1 dq_MO_place_100 (by decide) (mo_visible hm).1 ?_
        refine fx_iload_n 1 dq_MO_place_103 rfl rfl ?_
        refine fx_iload 6 dq_MO_place_104 rfl ?_
        refine fx_bastore ok (mo_visible hm).2 hv (hN1 hc6 hc17 hc65) dq_MO_place_106 ?_
        exact fx_vreturn rfl dq_MO_place_107 ⟨rfl, by rw [k_MO_place, if_neg hc6, if_pos hc17, if_pos hc65]⟩
      · -- 65: fall
        exact fx_vreturn rfl dq_MO_place_68 ⟨rfl, by rw [k_MO_place, if_neg hc6, if_pos hc17, if_neg hc65]⟩
    · -- 17: fall
      refine fx_iload_n 3 dq_MO_place_20 rfl rfl ?_
      refine fx_bipush (v := -20) dq_MO_place_21 (by decide) ?_
      refine fx_bipush (v := 30) dq_MO_place_23 (by decide) ?_
      refine fx_Si3 ok sq_MO_129 (c_MO_within ok h y (-20 : Int32) (30 : Int32) ) (by decide) (Nat.le_of_ble_eq_true rfl) dq_MO_place_25 ?_
      refine fx_if_eq (tgt := 57) dq_MO_place_28 (by decide) (fun hc28 => ?_) (fun hc28 => ?_)
      · -- 28: jump
        refine fx_iconst (v := 1) dq_MO_place_57 (by decide) ?_
        refine fx_puti ok fp_MO_126 hm.1 (by decide) dq_MO_place_58 (Or.inl (by decide)) ?_
        refine fx_aload_n 0 dq_MO_place_61 rfl rfl ?_
        refine fx_geti ok fq_MO_126 hm.1 dq_MO_place_62 (by decide) ?_
        refine fx_if_eq (tgt := 69) dq_MO_place_65 (by decide) (fun hc65 => ?_) (fun hc65 => ?_)
        · -- 65: jump
          refine fx_aload_n 0 dq_MO_place_69 rfl rfl ?_
          refine fx_getr ok fq_MO_32 hm.1 dq_MO_place_70 (by decide) (mo_px hm).1 ?_
          refine fx_iload_n 1 dq_MO_place_73 rfl rfl ?_
          refine fx_iload_n 2 dq_MO_place_74 rfl rfl ?_
          refine fx_iastore ok (mo_px hm).2 (hN2 hc6 hc17 hc28 hc65) dq_MO_place_75 ?_
          refine fx_aload_n 0 dq_MO_place_76 rfl rfl ?_
          refine fx_getr ok fq_MO_35 hm.1 dq_MO_place_77 (by decide) (mo_py hm).1 ?_
          refine fx_iload_n 1 dq_MO_place_80 rfl rfl ?_
          refine fx_iload_n 3 dq_MO_place_81 rfl rfl ?_
          refine fx_iastore ok (mo_py hm).2 (hN2 hc6 hc17 hc28 hc65) dq_MO_place_82 ?_
          refine fx_aload_n 0 dq_MO_place_83 rfl rfl ?_
          refine fx_getr ok fq_MO_38 hm.1 dq_MO_place_84 (by decide) (mo_order hm).1 ?_
          refine fx_iload_n 1 dq_MO_place_87 rfl rfl ?_
          refine fx_iload 4 dq_MO_place_88 rfl ?_
          refine fx_iastore ok (mo_order hm).2 (hN2 hc6 hc17 hc28 hc65) dq_MO_place_90 ?_
          refine fx_aload_n 0 dq_MO_place_91 rfl rfl ?_
          refine fx_getr ok fq_MO_41 hm.1 dq_MO_place_92 (by decide) (mo_alpha hm).1 ?_
          refine fx_iload_n 1 dq_MO_place_95 rfl rfl ?_
          refine fx_iload 5 dq_MO_place_96 rfl ?_
          refine fx_iastore ok (mo_alpha hm).2 (hN2 hc6 hc17 hc28 hc65) dq_MO_place_98 ?_
          refine fx_aload_n 0 dq_MO_place_99 rfl rfl ?_
          refine fx_getr ok fq_MO_44 hm.1 dq_MO_place_100 (by decide) (mo_visible hm).1 ?_
          refine fx_iload_n 1 dq_MO_place_103 rfl rfl ?_
          refine fx_iload 6 dq_MO_place_104 rfl ?_
          refine fx_bastore ok (mo_visible hm).2 hv (hN2 hc6 hc17 hc28 hc65) dq_MO_place_106 ?_
          exact fx_vreturn rfl dq_MO_place_107 ⟨rfl, by rw [k_MO_place, if_neg hc6, if_neg hc17, if_pos hc28, if_pos hc65]⟩
        · -- 65: fall
          exact fx_vreturn rfl dq_MO_place_68 ⟨rfl, by rw [k_MO_place, if_neg hc6, if_neg hc17, if_pos hc28, if_neg hc65]⟩
      · -- 28: fall
        refine fx_iload 4 dq_MO_place_31 rfl ?_
        refine fx_iconst (v := 0) dq_MO_place_33 (by decide) ?_
        refine fx_bipush (v := 9) dq_MO_place_34 (by decide) ?_
        refine fx_Si3 ok sq_MO_129 (c_MO_within ok h od (0 : Int32) (9 : Int32) ) (by decide) (Nat.le_of_ble_eq_true rfl) dq_MO_place_36 ?_
        refine fx_if_eq (tgt := 57) dq_MO_place_39 (by decide) (fun hc39 => ?_) (fun hc39 => ?_)
        · -- 39: jump
          refine fx_iconst (v := 1) dq_MO_place_57 (by decide) ?_
          refine fx_puti ok fp_MO_126 hm.1 (by decide) dq_MO_place_58 (Or.inl (by decide)) ?_
          refine fx_aload_n 0 dq_MO_place_61 rfl rfl ?_
          refine fx_geti ok fq_MO_126 hm.1 dq_MO_place_62 (by decide) ?_
          refine fx_if_eq (tgt := 69) dq_MO_place_65 (by decide) (fun hc65 => ?_) (fun hc65 => ?_)
          · -- 65: jump
            refine fx_aload_n 0 dq_MO_place_69 rfl rfl ?_
            refine fx_getr ok fq_MO_32 hm.1 dq_MO_place_70 (by decide) (mo_px hm).1 ?_
            refine fx_iload_n 1 dq_MO_place_73 rfl rfl ?_
            refine fx_iload_n 2 dq_MO_place_74 rfl rfl ?_
            refine fx_iastore ok (mo_px hm).2 (hN3 hc6 hc17 hc28 hc39 hc65) dq_MO_place_75 ?_
            refine fx_aload_n 0 dq_MO_place_76 rfl rfl ?_
            refine fx_getr ok fq_MO_35 hm.1 dq_MO_place_77 (by decide) (mo_py hm).1 ?_
            refine fx_iload_n 1 dq_MO_place_80 rfl rfl ?_
            refine fx_iload_n 3 dq_MO_place_81 rfl rfl ?_
            refine fx_iastore ok (mo_py hm).2 (hN3 hc6 hc17 hc28 hc39 hc65) dq_MO_place_82 ?_
            refine fx_aload_n 0 dq_MO_place_83 rfl rfl ?_
            refine fx_getr ok fq_MO_38 hm.1 dq_MO_place_84 (by decide) (mo_order hm).1 ?_
            refine fx_iload_n 1 dq_MO_place_87 rfl rfl ?_
            refine fx_iload 4 dq_MO_place_88 rfl ?_
            refine fx_iastore ok (mo_order hm).2 (hN3 hc6 hc17 hc28 hc39 hc65) dq_MO_place_90 ?_
            refine fx_aload_n 0 dq_MO_place_91 rfl rfl ?_
            refine fx_getr ok fq_MO_41 hm.1 dq_MO_place_92 (by decide) (mo_alpha hm).1 ?_
            refine fx_iload_n 1 dq_MO_place_95 rfl rfl ?_
            refine fx_iload 5 dq_MO_place_96 rfl ?_
            refine fx_iastore ok (mo_alpha hm).2 (hN3 hc6 hc17 hc28 hc39 hc65) dq_MO_place_98 ?_
            refine fx_aload_n 0 dq_MO_place_99 rfl rfl ?_
            refine fx_getr ok fq_MO_44 hm.1 dq_MO_place_100 (by decide) (mo_visible hm).1 ?_
            refine fx_iload_n 1 dq_MO_place_103 rfl rfl ?_
            refine fx_iload 6 dq_MO_place_104 rfl ?_
            refine fx_bastore ok (mo_visible hm).2 hv (hN3 hc6 hc17 hc28 hc39 hc65) dq_MO_place_106 ?_
            exact fx_vreturn rfl dq_MO_place_107 ⟨rfl, by rw [k_MO_place, if_neg hc6, if_neg hc17, if_neg hc28, if_pos hc39, if_pos hc65]⟩
          · -- 65: fall
            exact fx_vreturn rfl dq_MO_place_68 ⟨rfl, by rw [k_MO_place, if_neg hc6, if_neg hc17, if_neg hc28, if_pos hc39, if_neg hc65]⟩
        · -- 39: fall
          refine fx_iload 5 dq_MO_place_42 rfl ?_
          refine fx_iconst (v := 0) dq_MO_place_44 (by decide) ?_
          refine fx_bipush (v := 16) dq_MO_place_45 (by decide) ?_
          refine fx_Si3 ok sq_MO_129 (c_MO_within ok h al (0 : Int32) (16 : Int32) ) (by decide) (Nat.le_of_ble_eq_true rfl) dq_MO_place_47 ?_
          refine fx_if_eq (tgt := 57) dq_MO_place_50 (by decide) (fun hc50 => ?_) (fun hc50 => ?_)
          · -- 50: jump
            refine fx_iconst (v := 1) dq_MO_place_57 (by decide) ?_
            refine fx_puti ok fp_MO_126 hm.1 (by decide) dq_MO_place_58 (Or.inl (by decide)) ?_
            refine fx_aload_n 0 dq_MO_place_61 rfl rfl ?_
            refine fx_geti ok fq_MO_126 hm.1 dq_MO_place_62 (by decide) ?_
            refine fx_if_eq (tgt := 69) dq_MO_place_65 (by decide) (fun hc65 => ?_) (fun hc65 => ?_)
            · -- 65: jump
              refine fx_aload_n 0 dq_MO_place_69 rfl rfl ?_
              refine fx_getr ok fq_MO_32 hm.1 dq_MO_place_70 (by decide) (mo_px hm).1 ?_
              refine fx_iload_n 1 dq_MO_place_73 rfl rfl ?_
              refine fx_iload_n 2 dq_MO_place_74 rfl rfl ?_
              refine fx_iastore ok (mo_px hm).2 (hN4 hc6 hc17 hc28 hc39 hc50 hc65) dq_MO_place_75 ?_
              refine fx_aload_n 0 dq_MO_place_76 rfl rfl ?_
              refine fx_getr ok fq_MO_35 hm.1 dq_MO_place_77 (by decide) (mo_py hm).1 ?_
              refine fx_iload_n 1 dq_MO_place_80 rfl rfl ?_
              refine fx_iload_n 3 dq_MO_place_81 rfl rfl ?_
              refine fx_iastore ok (mo_py hm).2 (hN4 hc6 hc17 hc28 hc39 hc50 hc65) dq_MO_place_82 ?_
              refine fx_aload_n 0 dq_MO_place_83 rfl rfl ?_
              refine fx_getr ok fq_MO_38 hm.1 dq_MO_place_84 (by decide) (mo_order hm).1 ?_
              refine fx_iload_n 1 dq_MO_place_87 rfl rfl ?_
              refine fx_iload 4 dq_MO_place_88 rfl ?_
              refine fx_iastore ok (mo_order hm).2 (hN4 hc6 hc17 hc28 hc39 hc50 hc65) dq_MO_place_90 ?_
              refine fx_aload_n 0 dq_MO_place_91 rfl rfl ?_
              refine fx_getr ok fq_MO_41 hm.1 dq_MO_place_92 (by decide) (mo_alpha hm).1 ?_
              refine fx_iload_n 1 dq_MO_place_95 rfl rfl ?_
              refine fx_iload 5 dq_MO_place_96 rfl ?_
              refine fx_iastore ok (mo_alpha hm).2 (hN4 hc6 hc17 hc28 hc39 hc50 hc65) dq_MO_place_98 ?_
              refine fx_aload_n 0 dq_MO_place_99 rfl rfl ?_
              refine fx_getr ok fq_MO_44 hm.1 dq_MO_place_100 (by decide) (mo_visible hm).1 ?_
              refine fx_iload_n 1 dq_MO_place_103 rfl rfl ?_
              refine fx_iload 6 dq_MO_place_104 rfl ?_
              refine fx_bastore ok (mo_visible hm).2 hv (hN4 hc6 hc17 hc28 hc39 hc50 hc65) dq_MO_place_106 ?_
              exact fx_vreturn rfl dq_MO_place_107 ⟨rfl, by rw [k_MO_place, if_neg hc6, if_neg hc17, if_neg hc28, if_neg hc39, if_pos hc50, if_pos hc65]⟩
            · -- 65: fall
              exact fx_vreturn rfl dq_MO_place_68 ⟨rfl, by rw [k_MO_place, if_neg hc6, if_neg hc17, if_neg hc28, if_neg hc39, if_pos hc50, if_neg hc65]⟩
          · -- 50: fall
            refine fx_iconst (v := 0) dq_MO_place_53 (by decide) ?_
            refine fx_goto (tgt := 58) dq_MO_place_54 (by decide) ?_
            refine fx_puti ok fp_MO_126 hm.1 (by decide) dq_MO_place_58 (Or.inl (by decide)) ?_
            refine fx_aload_n 0 dq_MO_place_61 rfl rfl ?_
            refine fx_geti ok fq_MO_126 hm.1 dq_MO_place_62 (by decide) ?_
            refine fx_if_eq (tgt := 69) dq_MO_place_65 (by decide) (fun hc65 => ?_) (fun hc65 => ?_)
            · -- 65: jump
              refine fx_aload_n 0 dq_MO_place_69 rfl rfl ?_
              refine fx_getr ok fq_MO_32 hm.1 dq_MO_place_70 (by decide) (mo_px hm).1 ?_
              refine fx_iload_n 1 dq_MO_place_73 rfl rfl ?_
              refine fx_iload_n 2 dq_MO_place_74 rfl rfl ?_
              refine fx_iastore ok (mo_px hm).2 (hN5 hc6 hc17 hc28 hc39 hc50 hc65) dq_MO_place_75 ?_
              refine fx_aload_n 0 dq_MO_place_76 rfl rfl ?_
              refine fx_getr ok fq_MO_35 hm.1 dq_MO_place_77 (by decide) (mo_py hm).1 ?_
              refine fx_iload_n 1 dq_MO_place_80 rfl rfl ?_
              refine fx_iload_n 3 dq_MO_place_81 rfl rfl ?_
              refine fx_iastore ok (mo_py hm).2 (hN5 hc6 hc17 hc28 hc39 hc50 hc65) dq_MO_place_82 ?_
              refine fx_aload_n 0 dq_MO_place_83 rfl rfl ?_
              refine fx_getr ok fq_MO_38 hm.1 dq_MO_place_84 (by decide) (mo_order hm).1 ?_
              refine fx_iload_n 1 dq_MO_place_87 rfl rfl ?_
              refine fx_iload 4 dq_MO_place_88 rfl ?_
              refine fx_iastore ok (mo_order hm).2 (hN5 hc6 hc17 hc28 hc39 hc50 hc65) dq_MO_place_90 ?_
              refine fx_aload_n 0 dq_MO_place_91 rfl rfl ?_
              refine fx_getr ok fq_MO_41 hm.1 dq_MO_place_92 (by decide) (mo_alpha hm).1 ?_
              refine fx_iload_n 1 dq_MO_place_95 rfl rfl ?_
              refine fx_iload 5 dq_MO_place_96 rfl ?_
              refine fx_iastore ok (mo_alpha hm).2 (hN5 hc6 hc17 hc28 hc39 hc50 hc65) dq_MO_place_98 ?_
              refine fx_aload_n 0 dq_MO_place_99 rfl rfl ?_
              refine fx_getr ok fq_MO_44 hm.1 dq_MO_place_100 (by decide) (mo_visible hm).1 ?_
              refine fx_iload_n 1 dq_MO_place_103 rfl rfl ?_
              refine fx_iload 6 dq_MO_place_104 rfl ?_
              refine fx_bastore ok (mo_visible hm).2 hv (hN5 hc6 hc17 hc28 hc39 hc50 hc65) dq_MO_place_106 ?_
              exact fx_vreturn rfl dq_MO_place_107 ⟨rfl, by rw [k_MO_place, if_neg hc6, if_neg hc17, if_neg hc28, if_neg hc39, if_neg hc50, if_pos hc65]⟩
            · -- 65: fall
              exact fx_vreturn rfl dq_MO_place_68 ⟨rfl, by rw [k_MO_place, if_neg hc6, if_neg hc17, if_neg hc28, if_neg hc39, if_neg hc50, if_neg hc65]⟩
def pre_MO_put (h : fx_H) (q : Nat) (s x y co : Int32) : Prop := ((v_MO_hasDraft h q s) = 0 → (fx_i (fx_wi h q 0 (1 : Int32)) q 0) = 0 → vp_in s 10) ∧ ((v_MO_hasDraft h q s) = 0 → (fx_i (fx_wi h q 0 (1 : Int32)) q 0) = 0 → vp_in ((((96 : Int32) * s) + ((fx_i (fx_wi h q 0 (1 : Int32)) (q + 3) s.toNatClampNeg) * y)) + x) 2880) ∧ (¬ (v_MO_hasDraft h q s) = 0 → ¬ (v_MO_within h co (0 : Int32) (65535 : Int32)) = 0 → vp_in s 10) ∧ (¬ (v_MO_hasDraft h q s) = 0 → ¬ (v_MO_within h co (0 : Int32) (65535 : Int32)) = 0 → (v_MO_has h q s x y) = 0 → (fx_i (fx_wi h q 0 (2 : Int32)) q 0) = 0 → vp_in s 10) ∧ (¬ (v_MO_hasDraft h q s) = 0 → ¬ (v_MO_within h co (0 : Int32) (65535 : Int32)) = 0 → (v_MO_has h q s x y) = 0 → (fx_i (fx_wi h q 0 (2 : Int32)) q 0) = 0 → vp_in ((((96 : Int32) * s) + ((fx_i (fx_wi h q 0 (2 : Int32)) (q + 3) s.toNatClampNeg) * y)) + x) 2880) ∧ (¬ (v_MO_hasDraft h q s) = 0 → ¬ (v_MO_within h co (0 : Int32) (65535 : Int32)) = 0 → ¬ (v_MO_has h q s x y) = 0 → (fx_i (fx_wi h q 0 (0 : Int32)) q 0) = 0 → vp_in s 10) ∧ (¬ (v_MO_hasDraft h q s) = 0 → ¬ (v_MO_within h co (0 : Int32) (65535 : Int32)) = 0 → ¬ (v_MO_has h q s x y) = 0 → (fx_i (fx_wi h q 0 (0 : Int32)) q 0) = 0 → vp_in ((((96 : Int32) * s) + ((fx_i (fx_wi h q 0 (0 : Int32)) (q + 3) s.toNatClampNeg) * y)) + x) 2880) ∧ (¬ (v_MO_hasDraft h q s) = 0 → (v_MO_within h co (0 : Int32) (65535 : Int32)) = 0 → (fx_i (fx_wi h q 0 (1 : Int32)) q 0) = 0 → vp_in s 10) ∧ (¬ (v_MO_hasDraft h q s) = 0 → (v_MO_within h co (0 : Int32) (65535 : Int32)) = 0 → (fx_i (fx_wi h q 0 (1 : Int32)) q 0) = 0 → vp_in ((((96 : Int32) * s) + ((fx_i (fx_wi h q 0 (1 : Int32)) (q + 3) s.toNatClampNeg) * y)) + x) 2880)
def k_MO_put (h : fx_H) (q : Nat) (s x y co : Int32) : fx_H := if (v_MO_hasDraft h q s) = 0 then if (fx_i (fx_wi h q 0 (1 : Int32)) q 0) = 0 then fx_wi (fx_wi h q 0 (1 : Int32)) (q + 17) ((((96 : Int32) * s) + ((fx_i (fx_wi h q 0 (1 : Int32)) (q + 3) s.toNatClampNeg) * y)) + x).toNatClampNeg co else fx_wi h q 0 (1 : Int32) else if (v_MO_within h co (0 : Int32) (65535 : Int32)) = 0 then if (fx_i (fx_wi h q 0 (1 : Int32)) q 0) = 0 then fx_wi (fx_wi h q 0 (1 : Int32)) (q + 17) ((((96 : Int32) * s) + ((fx_i (fx_wi h q 0 (1 : Int32)) (q + 3) s.toNatClampNeg) * y)) + x).toNatClampNeg co else fx_wi h q 0 (1 : Int32) else if (v_MO_has h q s x y) = 0 then if (fx_i (fx_wi h q 0 (2 : Int32)) q 0) = 0 then fx_wi (fx_wi h q 0 (2 : Int32)) (q + 17) ((((96 : Int32) * s) + ((fx_i (fx_wi h q 0 (2 : Int32)) (q + 3) s.toNatClampNeg) * y)) + x).toNatClampNeg co else fx_wi h q 0 (2 : Int32) else if (fx_i (fx_wi h q 0 (0 : Int32)) q 0) = 0 then fx_wi (fx_wi h q 0 (0 : Int32)) (q + 17) ((((96 : Int32) * s) + ((fx_i (fx_wi h q 0 (0 : Int32)) (q + 3) s.toNatClampNeg) * y)) + x).toNatClampNeg co else fx_wi h q 0 (0 : Int32)
set_option maxRecDepth 100000 in
set_option maxHeartbeats 600000 in
theorem c_MO_put {g : fx_G} (ok : fx_ok g) (h : fx_H) (q : Nat) (s x y co : Int32) (hm : isM h q)  (hN : pre_MO_put h q s x y co) : fx_C g mq_MO_put [.ref q, .int s, .int x, .int y, .int co] h (fx_is none (k_MO_put h q s x y co)) 0 0 := by
  refine fx_body (by decide +kernel) (Nat.le_of_ble_eq_true rfl) ?_
  show fx_X g mq_MO_put 0 [(0, .ref q), (1, .int s), (2, .int x), (3, .int y), (4, .int co)] [] h _ 0 0
  have hN0 := hN.1
  have hN1 := hN.2.1
  have hN2 := hN.2.2.1
  have hN3 := hN.2.2.2.1
  have hN4 := hN.2.2.2.2.1
  have hN5 := hN.2.2.2.2.2.1
  have hN6 := hN.2.2.2.2.2.2.1
  have hN7 := hN.2.2.2.2.2.2.2.1
  have hN8 := hN.2.2.2.2.2.2.2.2
  refine fx_aload_n 0 dq_MO_put_0 rfl rfl ?_
  refine fx_aload_n 0 dq_MO_put_1 rfl rfl ?_
  refine fx_iload_n 1 dq_MO_put_2 rfl rfl ?_
  refine fx_Vi1 ok sq_MO_137 hm.1 (c_MO_hasDraft ok h q s (by exact hm)) (by decide) (Nat.le_of_ble_eq_true rfl) dq_MO_put_3 ?_
  refine fx_if_eq (tgt := 20) dq_MO_put_6 (by decide) (fun hc6 => ?_) (fun hc6 => ?_)
  · -- 6: jump
    refine fx_iconst (v := 1) dq_MO_put_20 (by decide) ?_
    refine fx_goto (tgt := 39) dq_MO_put_21 (by decide) ?_
    refine fx_puti ok fp_MO_126 hm.1 (by decide) dq_MO_put_39 (Or.inl (by decide)) ?_
    refine fx_aload_n 0 dq_MO_put_42 rfl rfl ?_
    refine fx_geti ok fq_MO_126 hm.1 dq_MO_put_43 (by decide) ?_
    refine fx_if_ne (tgt := 71) dq_MO_put_46 (by decide) (fun hc46 => ?_) (fun hc46 => ?_)
    · -- 46: jump
      exact fx_vreturn rfl dq_MO_put_71 ⟨rfl, by rw [k_MO_put, if_pos hc6, if_neg hc46]⟩
    · -- 46: fall
      refine fx_aload_n 0 dq_MO_put_49 rfl rfl ?_
      refine fx_getr ok fq_MO_59 hm.1 dq_MO_put_50 (by decide) (mo_pixels hm).1 ?_
      refine fx_bipush (v := 96) dq_MO_put_53 (by decide) ?_
      refine fx_iload_n 1 dq_MO_put_55 rfl rfl ?_
      refine fx_imul dq_MO_put_56 ?_
      refine fx_aload_n 0 dq_MO_put_57 rfl rfl ?_
      refine fx_getr ok fq_MO_17 hm.1 dq_MO_put_58 (by decide) (mo_columns hm).1 ?_
      refine fx_iload_n 1 dq_MO_put_61 rfl rfl ?_
      refine fx_iaload ok (mo_columns hm).2 (hN0 hc6 hc46) dq_MO_put_62 ?_
      refine fx_iload_n 3 dq_MO_put_63 rfl rfl ?_
      refine fx_imul dq_MO_put_64 ?_
      refine fx_iadd dq_MO_put_65 ?_
      refine fx_iload_n 2 dq_MO_put_66 rfl rfl ?_
      refine fx_iadd dq_MO_put_67 ?_
      refine fx_iload 4 dq_MO_put_68 rfl ?_
      refine fx_iastore ok (mo_pixels hm).2 (hN1 hc6 hc46) dq_MO_put_70 ?_
      exact fx_vreturn rfl dq_MO_put_71 ⟨rfl, by rw [k_MO_put, if_pos hc6, if_pos hc46]⟩
  · -- 6: fall
    refine fx_iload 4 dq_MO_put_9 rfl ?_
    refine fx_iconst (v := 0) dq_MO_put_11 (by decide) ?_
    refine fx_ldc ok kq_MO_157 dq_MO_put_12 ?_
    refine fx_Si3 ok sq_MO_129 (c_MO_within ok h co (0 : Int32) (65535 : Int32) ) (by decide) (Nat.le_of_ble_eq_true rfl) dq_MO_put_14 ?_
    refine fx_if_ne (tgt := 24) dq_MO_put_17 (by decide) (fun hc17 => ?_) (fun hc17 => ?_)
    · -- 17: jump
      refine fx_aload_n 0 dq_MO_put_24 rfl rfl ?_
      refine fx_iload_n 1 dq_MO_put_25 rfl rfl ?_
      refine fx_iload_n 2 dq_MO_put_26 rfl rfl ?_
      refine fx_iload_n 3 dq_MO_put_27 rfl rfl ?_
      refine fx_Vi3 ok sq_MO_158 hm.1 (c_MO_has ok h q s x y (by exact hm) (hN2 hc6 hc17)) (by decide) (Nat.le_of_ble_eq_true rfl) dq_MO_put_28 ?_
      refine fx_if_eq (tgt := 38) dq_MO_put_31 (by decide) (fun hc31 => ?_) (fun hc31 => ?_)
      · -- 31: jump
        refine fx_iconst (v := 2) dq_MO_put_38 (by decide) ?_
        refine fx_puti ok fp_MO_126 hm.1 (by decide) dq_MO_put_39 (Or.inl (by decide)) ?_
        refine fx_aload_n 0 dq_MO_put_42 rfl rfl ?_
        refine fx_geti ok fq_MO_126 hm.1 dq_MO_put_43 (by decide) ?_
        refine fx_if_ne (tgt := 71) dq_MO_put_46 (by decide) (fun hc46 => ?_) (fun hc46 => ?_)
        · -- 46: jump
          exact fx_vreturn rfl dq_MO_put_71 ⟨rfl, by rw [k_MO_put, if_neg hc6, if_neg hc17, if_pos hc31, if_neg hc46]⟩
        · -- 46: fall
          refine fx_aload_n 0 dq_MO_put_49 rfl rfl ?_
          refine fx_getr ok fq_MO_59 hm.1 dq_MO_put_50 (by decide) (mo_pixels hm).1 ?_
          refine fx_bipush (v := 96) dq_MO_put_53 (by decide) ?_
          refine fx_iload_n 1 dq_MO_put_55 rfl rfl ?_
          refine fx_imul dq_MO_put_56 ?_
          refine fx_aload_n 0 dq_MO_put_57 rfl rfl ?_
          refine fx_getr ok fq_MO_17 hm.1 dq_MO_put_58 (by decide) (mo_columns hm).1 ?_
          refine fx_iload_n 1 dq_MO_put_61 rfl rfl ?_
          refine fx_iaload ok (mo_columns hm).2 (hN3 hc6 hc17 hc31 hc46) dq_MO_put_62 ?_
          refine fx_iload_n 3 dq_MO_put_63 rfl rfl ?_
          refine fx_imul dq_MO_put_64 ?_
          refine fx_iadd dq_MO_put_65 ?_
          refine fx_iload_n 2 dq_MO_put_66 rfl rfl ?_
          refine fx_iadd dq_MO_put_67 ?_
          refine fx_iload 4 dq_MO_put_68 rfl ?_
          refine fx_iastore ok (mo_pixels hm).2 (hN4 hc6 hc17 hc31 hc46) dq_MO_put_70 ?_
          exact fx_vreturn rfl dq_MO_put_71 ⟨rfl, by rw [k_MO_put, if_neg hc6, if_neg hc17, if_pos hc31, if_pos hc46]⟩
      · -- 31: fall
        refine fx_iconst (v := 0) dq_MO_put_34 (by decide) ?_
        refine fx_goto (tgt := 39) dq_MO_put_35 (by decide) ?_
        refine fx_puti ok fp_MO_126 hm.1 (by decide) dq_MO_put_39 (Or.inl (by decide)) ?_
        refine fx_aload_n 0 dq_MO_put_42 rfl rfl ?_
        refine fx_geti ok fq_MO_126 hm.1 dq_MO_put_43 (by decide) ?_
        refine fx_if_ne (tgt := 71) dq_MO_put_46 (by decide) (fun hc46 => ?_) (fun hc46 => ?_)
        · -- 46: jump
          exact fx_vreturn rfl dq_MO_put_71 ⟨rfl, by rw [k_MO_put, if_neg hc6, if_neg hc17, if_neg hc31, if_neg hc46]⟩
        · -- 46: fall
          refine fx_aload_n 0 dq_MO_put_49 rfl rfl ?_
          refine fx_getr ok fq_MO_59 hm.1 dq_MO_put_50 (by decide) (mo_pixels hm).1 ?_
          refine fx_bipush (v := 96) dq_MO_put_53 (by decide) ?_
          refine fx_iload_n 1 dq_MO_put_55 rfl rfl ?_
          refine fx_imul dq_MO_put_56 ?_
          refine fx_aload_n 0 dq_MO_put_57 rfl rfl ?_
          refine fx_getr ok fq_MO_17 hm.1 dq_MO_put_58 (by decide) (mo_columns hm).1 ?_
          refine fx_iload_n 1 dq_MO_put_61 rfl rfl ?_
          refine fx_iaload ok (mo_columns hm).2 (hN5 hc6 hc17 hc31 hc46) dq_MO_put_62 ?_
          refine fx_iload_n 3 dq_MO_put_63 rfl rfl ?_
          refine fx_imul dq_MO_put_64 ?_
          refine fx_iadd dq_MO_put_65 ?_
          refine fx_iload_n 2 dq_MO_put_66 rfl rfl ?_
          refine fx_iadd dq_MO_put_67 ?_
          refine fx_iload 4 dq_MO_put_68 rfl ?_
          refine fx_iastore ok (mo_pixels hm).2 (hN6 hc6 hc17 hc31 hc46) dq_MO_put_70 ?_
          exact fx_vreturn rfl dq_MO_put_71 ⟨rfl, by rw [k_MO_put, if_neg hc6, if_neg hc17, if_neg hc31, if_pos hc46]⟩
    · -- 17: fall
      refine fx_iconst (v := 1) dq_MO_put_20 (by decide) ?_
      refine fx_goto (tgt := 39) dq_MO_put_21 (by decide) ?_
      refine fx_puti ok fp_MO_126 hm.1 (by decide) dq_MO_put_39 (Or.inl (by decide)) ?_
      refine fx_aload_n 0 dq_MO_put_42 rfl rfl ?_
      refine fx_geti ok fq_MO_126 hm.1 dq_MO_put_43 (by decide) ?_
      refine fx_if_ne (tgt := 71) dq_MO_put_46 (by decide) (fun hc46 => ?_) (fun hc46 => ?_)
      · -- 46: jump
        exact fx_vreturn rfl dq_MO_put_71 ⟨rfl, by rw [k_MO_put, if_neg hc6, if_pos hc17, if_neg hc46]⟩
      · -- 46: fall
        refine fx_aload_n 0 dq_MO_put_49 rfl rfl ?_
        refine fx_getr ok fq_MO_59 hm.1 dq_MO_put_50 (by decide) (mo_pixels hm).1 ?_
        refine fx_bipush (v := 96) dq_MO_put_53 (by decide) ?_
        refine fx_iload_n 1 dq_MO_put_55 rfl rfl ?_
        refine fx_imul dq_MO_put_56 ?_
        refine fx_aload_n 0 dq_MO_put_57 rfl rfl ?_
        refine fx_getr ok fq_MO_17 hm.1 dq_MO_put_58 (by decide) (mo_columns hm).1 ?_
        refine fx_iload_n 1 dq_MO_put_61 rfl rfl ?_
        refine fx_iaload ok (mo_columns hm).2 (hN7 hc6 hc17 hc46) dq_MO_put_62 ?_
        refine fx_iload_n 3 dq_MO_put_63 rfl rfl ?_
        refine fx_imul dq_MO_put_64 ?_
        refine fx_iadd dq_MO_put_65 ?_
        refine fx_iload_n 2 dq_MO_put_66 rfl rfl ?_
        refine fx_iadd dq_MO_put_67 ?_
        refine fx_iload 4 dq_MO_put_68 rfl ?_
        refine fx_iastore ok (mo_pixels hm).2 (hN8 hc6 hc17 hc46) dq_MO_put_70 ?_
        exact fx_vreturn rfl dq_MO_put_71 ⟨rfl, by rw [k_MO_put, if_neg hc6, if_pos hc17, if_pos hc46]⟩
def pre_MO_isCopy (h : fx_H) (q : Nat) (fr to_ tx ty : Int32) : Prop := (¬ (v_MO_hasDraft h q fr) = 0 → ¬ (v_MO_hasDraft h q to_) = 0 → vp_in fr 10) ∧ (¬ (v_MO_hasDraft h q fr) = 0 → ¬ (v_MO_hasDraft h q to_) = 0 → vp_in to_ 10)
def v_MO_isCopy (h : fx_H) (q : Nat) (fr to_ tx ty : Int32) : Int32 := if (v_MO_hasDraft h q fr) = 0 then (0 : Int32) else if (v_MO_hasDraft h q to_) = 0 then (0 : Int32) else if (fx_i h (q + 2) fr.toNatClampNeg) = (fx_i h (q + 2) to_.toNatClampNeg) then if (v_MO_within h tx (-20 : Int32) (30 : Int32)) = 0 then (0 : Int32) else if (v_MO_within h ty (-20 : Int32) (30 : Int32)) = 0 then (0 : Int32) else (1 : Int32) else (0 : Int32)
set_option maxRecDepth 100000 in
set_option maxHeartbeats 600000 in
theorem c_MO_isCopy {g : fx_G} (ok : fx_ok g) (h : fx_H) (q : Nat) (fr to_ tx ty : Int32) (hm : isM h q)  (hN : pre_MO_isCopy h q fr to_ tx ty) : fx_C g mq_MO_isCopy [.ref q, .int fr, .int to_, .int tx, .int ty] h (fx_is (some (v_MO_isCopy h q fr to_ tx ty)) h) 0 0 := by
  refine fx_body (by decide +kernel) (Nat.le_of_ble_eq_true rfl) ?_
  show fx_X g mq_MO_isCopy 0 [(0, .ref q), (1, .int fr), (2, .int to_), (3, .int tx), (4, .int ty)] [] h _ 0 0
  have hN0 := hN.1
  have hN1 := hN.2
  refine fx_aload_n 0 dq_MO_isCopy_0 rfl rfl ?_
  refine fx_iload_n 1 dq_MO_isCopy_1 rfl rfl ?_
  refine fx_Vi1 ok sq_MO_137 hm.1 (c_MO_hasDraft ok h q fr (by exact hm)) (by decide) (Nat.le_of_ble_eq_true rfl) dq_MO_isCopy_2 ?_
  refine fx_if_eq (tgt := 58) dq_MO_isCopy_5 (by decide) (fun hc5 => ?_) (fun hc5 => ?_)
  · -- 5: jump
    refine fx_iconst (v := 0) dq_MO_isCopy_58 (by decide) ?_
    exact fx_zreturn rfl (by decide) dq_MO_isCopy_59 ⟨by rw [v_MO_isCopy, if_pos hc5], rfl⟩
  · -- 5: fall
    refine fx_aload_n 0 dq_MO_isCopy_8 rfl rfl ?_
    refine fx_iload_n 2 dq_MO_isCopy_9 rfl rfl ?_
    refine fx_Vi1 ok sq_MO_137 hm.1 (c_MO_hasDraft ok h q to_ (by exact hm)) (by decide) (Nat.le_of_ble_eq_true rfl) dq_MO_isCopy_10 ?_
    refine fx_if_eq (tgt := 58) dq_MO_isCopy_13 (by decide) (fun hc13 => ?_) (fun hc13 => ?_)
    · -- 13: jump
      refine fx_iconst (v := 0) dq_MO_isCopy_58 (by decide) ?_
      exact fx_zreturn rfl (by decide) dq_MO_isCopy_59 ⟨by rw [v_MO_isCopy, if_neg hc5, if_pos hc13], rfl⟩
    · -- 13: fall
      refine fx_aload_n 0 dq_MO_isCopy_16 rfl rfl ?_
      refine fx_getr ok fq_MO_13 hm.1 dq_MO_isCopy_17 (by decide) (mo_client hm).1 ?_
      refine fx_iload_n 1 dq_MO_isCopy_20 rfl rfl ?_
      refine fx_iaload ok (mo_client hm).2 (hN0 hc5 hc13) dq_MO_isCopy_21 ?_
      refine fx_aload_n 0 dq_MO_isCopy_22 rfl rfl ?_
      refine fx_getr ok fq_MO_13 hm.1 dq_MO_isCopy_23 (by decide) (mo_client hm).1 ?_
      refine fx_iload_n 2 dq_MO_isCopy_26 rfl rfl ?_
      refine fx_iaload ok (mo_client hm).2 (hN1 hc5 hc13) dq_MO_isCopy_27 ?_
      refine fx_icmp_ne (tgt := 58) dq_MO_isCopy_28 (by decide) (fun hc28 => ?_) (fun hc28 => ?_)
      · -- 28: jump
        refine fx_iconst (v := 0) dq_MO_isCopy_58 (by decide) ?_
        exact fx_zreturn rfl (by decide) dq_MO_isCopy_59 ⟨by rw [v_MO_isCopy, if_neg hc5, if_neg hc13, if_neg hc28], rfl⟩
      · -- 28: fall
        refine fx_iload_n 3 dq_MO_isCopy_31 rfl rfl ?_
        refine fx_bipush (v := -20) dq_MO_isCopy_32 (by decide) ?_
        refine fx_bipush (v := 30) dq_MO_isCopy_34 (by decide) ?_
        refine fx_Si3 ok sq_MO_129 (c_MO_within ok h tx (-20 : Int32) (30 : Int32) ) (by decide) (Nat.le_of_ble_eq_true rfl) dq_MO_isCopy_36 ?_
        refine fx_if_eq (tgt := 58) dq_MO_isCopy_39 (by decide) (fun hc39 => ?_) (fun hc39 => ?_)
        · -- 39: jump
          refine fx_iconst (v := 0) dq_MO_isCopy_58 (by decide) ?_
          exact fx_zreturn rfl (by decide) dq_MO_isCopy_59 ⟨by rw [v_MO_isCopy, if_neg hc5, if_neg hc13, if_pos hc28, if_pos hc39], rfl⟩
        · -- 39: fall
          refine fx_iload 4 dq_MO_isCopy_42 rfl ?_
          refine fx_bipush (v := -20) dq_MO_isCopy_44 (by decide) ?_
          refine fx_bipush (v := 30) dq_MO_isCopy_46 (by decide) ?_
          refine fx_Si3 ok sq_MO_129 (c_MO_within ok h ty (-20 : Int32) (30 : Int32) ) (by decide) (Nat.le_of_ble_eq_true rfl) dq_MO_isCopy_48 ?_
          refine fx_if_eq (tgt := 58) dq_MO_isCopy_51 (by decide) (fun hc51 => ?_) (fun hc51 => ?_)
          · -- 51: jump
            refine fx_iconst (v := 0) dq_MO_isCopy_58 (by decide) ?_
            exact fx_zreturn rfl (by decide) dq_MO_isCopy_59 ⟨by rw [v_MO_isCopy, if_neg hc5, if_neg hc13, if_pos hc28, if_neg hc39, if_pos hc51], rfl⟩
          · -- 51: fall
            refine fx_iconst (v := 1) dq_MO_isCopy_54 (by decide) ?_
            refine fx_goto (tgt := 59) dq_MO_isCopy_55 (by decide) ?_
            exact fx_zreturn rfl (by decide) dq_MO_isCopy_59 ⟨by rw [v_MO_isCopy, if_neg hc5, if_neg hc13, if_pos hc28, if_neg hc39, if_neg hc51], rfl⟩
