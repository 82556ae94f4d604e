/-! ===== Math by names; FrameSwapper: the static numbers ===== -/
def jmax (x y : Int32) : Int32 := if x < y then y else x
def jmin (x y : Int32) : Int32 := if y < x then y else x
theorem fx_jmax {g : fx_G} {M : fx_M} {pc : Nat} {lv : List (Nat × Value)} {st : List Value} {h : fx_H} {Q : fx_O → fx_H → Prop} {mc ms : Nat} (ok : fx_ok g) {idx : Nat} {x y : Int32} (hlk : Cond.methodLink (fx_y M).cls idx Lib.Math.max.name ∈ fx_tb) (hst : Cond.static Lib.Math.max.name ∈ fx_tb) (hini : Cond.initialized "java/lang/Math" ∈ fx_tb) (hcd : Cond.code Lib.Math.max.name Lib.Math.max.code 2 (some .int) ∈ fx_tb) (hlev : 1 ≤ fx_lv M) (hlo : (st.map fun v => v.category).sum + 13 ≤ fx_lw M)
    (d : decode (fx_cc M) pc = .ok (.invokestatic idx, 3)) (K : fx_X g M (pc + 3) lv (.int (jmax x y) :: st) h Q mc ms) : fx_X g M pc lv (.int y :: .int x :: st) h Q mc ms := fx_mmax ok hlk hst hini hcd hlev hlo d K
theorem fx_jmin {g : fx_G} {M : fx_M} {pc : Nat} {lv : List (Nat × Value)} {st : List Value} {h : fx_H} {Q : fx_O → fx_H → Prop} {mc ms : Nat} (ok : fx_ok g) {idx : Nat} {x y : Int32} (hlk : Cond.methodLink (fx_y M).cls idx Lib.Math.min.name ∈ fx_tb) (hst : Cond.static Lib.Math.min.name ∈ fx_tb) (hini : Cond.initialized "java/lang/Math" ∈ fx_tb) (hcd : Cond.code Lib.Math.min.name Lib.Math.min.code 2 (some .int) ∈ fx_tb) (hlev : 1 ≤ fx_lv M) (hlo : (st.map fun v => v.category).sum + 13 ≤ fx_lw M)
    (d : decode (fx_cc M) pc = .ok (.invokestatic idx, 3)) (K : fx_X g M (pc + 3) lv (.int (jmin x y) :: st) h Q mc ms) : fx_X g M pc lv (.int y :: .int x :: st) h Q mc ms := fx_mmin ok hlk hst hini hcd hlev hlo d K
def jW (x lo hi : Int32) : Int32 := if ¬ x < lo ∧ ¬ hi < x then 1 else 0
theorem jW_b (x lo hi : Int32) : jW x lo hi = 0 ∨ jW x lo hi = 1 := by unfold jW; split <;> simp
set_option maxRecDepth 100000 in
set_option maxHeartbeats 4000000 in
theorem cq_isWithin {g : fx_G} (ok : fx_ok g) (h : fx_H) (x lo hi : Int32) : fx_C g mq_FS_isWithin [.int x, .int lo, .int hi] h (fx_is (some (jW x lo hi)) (h)) 0 0 := by
  refine fx_body (by decide +kernel) (Nat.le_of_ble_eq_true rfl) ?_
  show fx_X g mq_FS_isWithin 0 [(0, .int x), (1, .int lo), (2, .int hi)] [] h _ 0 0
  refine fx_iload_n 0 dq_FS_isWithin_0 rfl rfl ?_
  refine fx_iload_n 1 dq_FS_isWithin_1 rfl rfl ?_
  refine fx_icmp_lt (tgt := 14) dq_FS_isWithin_2 (by decide) (fun hc2 => ?_) (fun hc2 => ?_)
  · -- 2: jump
    refine fx_iconst (v := 0) dq_FS_isWithin_14 (by decide) ?_
    exact fx_zreturn rfl (by decide) dq_FS_isWithin_15 ⟨by simp [jW, hc2], rfl⟩
  · -- 2: fall
    refine fx_iload_n 0 dq_FS_isWithin_5 rfl rfl ?_
    refine fx_iload_n 2 dq_FS_isWithin_6 rfl rfl ?_
    refine fx_icmp_gt (tgt := 14) dq_FS_isWithin_7 (by decide) (fun hc7 => ?_) (fun hc7 => ?_)
    · -- 7: jump
      refine fx_iconst (v := 0) dq_FS_isWithin_14 (by decide) ?_
      exact fx_zreturn rfl (by decide) dq_FS_isWithin_15 ⟨by simp [jW, hc2, hc7], rfl⟩
    · -- 7: fall
      refine fx_iconst (v := 1) dq_FS_isWithin_10 (by decide) ?_
      refine fx_goto (tgt := 15) dq_FS_isWithin_11 (by decide) ?_
      exact fx_zreturn rfl (by decide) dq_FS_isWithin_15 ⟨by simp [jW, hc2, hc7], rfl⟩

set_option maxRecDepth 100000 in
set_option maxHeartbeats 4000000 in
theorem cq_isClient {g : fx_G} (ok : fx_ok g) (h : fx_H) (x : Int32) : fx_C g mq_FS_isClient [.int x] h (fx_is (some (jW x 0 3)) (h)) 0 0 := by
  refine fx_body (by decide +kernel) (Nat.le_of_ble_eq_true rfl) ?_
  show fx_X g mq_FS_isClient 0 [(0, .int x)] [] h _ 0 0
  refine fx_iload_n 0 dq_FS_isClient_0 rfl rfl ?_
  refine fx_iconst (v := 0) dq_FS_isClient_1 (by decide) ?_
  refine fx_iconst (v := 3) dq_FS_isClient_2 (by decide) ?_
  refine fx_Si3 ok sq_FS_48 (cq_isWithin ok _ _ _ _) (by decide) (Nat.le_of_ble_eq_true rfl) dq_FS_isClient_3 ?_
  exact fx_zreturn rfl (jW_b _ _ _) dq_FS_isClient_6 ⟨rfl, rfl⟩

set_option maxRecDepth 100000 in
set_option maxHeartbeats 4000000 in
theorem cq_isColor {g : fx_G} (ok : fx_ok g) (h : fx_H) (x : Int32) : fx_C g mq_FS_isColor [.int x] h (fx_is (some (jW x 0 65535)) (h)) 0 0 := by
  refine fx_body (by decide +kernel) (Nat.le_of_ble_eq_true rfl) ?_
  show fx_X g mq_FS_isColor 0 [(0, .int x)] [] h _ 0 0
  refine fx_iload_n 0 dq_FS_isColor_0 rfl rfl ?_
  refine fx_iconst (v := 0) dq_FS_isColor_1 (by decide) ?_
  refine fx_ldc_w ok kq_FS_257 dq_FS_isColor_2 ?_
  refine fx_Si3 ok sq_FS_48 (cq_isWithin ok _ _ _ _) (by decide) (Nat.le_of_ble_eq_true rfl) dq_FS_isColor_5 ?_
  exact fx_zreturn rfl (jW_b _ _ _) dq_FS_isColor_8 ⟨rfl, rfl⟩

set_option maxRecDepth 100000 in
set_option maxHeartbeats 4000000 in
theorem cq_isPlace {g : fx_G} (ok : fx_ok g) (h : fx_H) (x : Int32) : fx_C g mq_FS_isPlace [.int x] h (fx_is (some (jW x (-20) 30)) (h)) 0 0 := by
  refine fx_body (by decide +kernel) (Nat.le_of_ble_eq_true rfl) ?_
  show fx_X g mq_FS_isPlace 0 [(0, .int x)] [] h _ 0 0
  refine fx_iload_n 0 dq_FS_isPlace_0 rfl rfl ?_
  refine fx_bipush (v := -20) dq_FS_isPlace_1 (by decide) ?_
  refine fx_bipush (v := 30) dq_FS_isPlace_3 (by decide) ?_
  refine fx_Si3 ok sq_FS_48 (cq_isWithin ok _ _ _ _) (by decide) (Nat.le_of_ble_eq_true rfl) dq_FS_isPlace_5 ?_
  exact fx_zreturn rfl (jW_b _ _ _) dq_FS_isPlace_8 ⟨rfl, rfl⟩

def jA (x y c r : Int32) : Int32 := if jW x (-20) 30 = 0 ∨ jW y (-20) 30 = 0 ∨ jW c 0 30 = 0 ∨ jW r 0 30 = 0 then 0 else 1
set_option maxRecDepth 100000 in
set_option maxHeartbeats 4000000 in
theorem cq_isArea {g : fx_G} (ok : fx_ok g) (h : fx_H) (x y c r : Int32) : fx_C g mq_FS_isArea [.int x, .int y, .int c, .int r] h (fx_is (some (jA x y c r)) (h)) 0 0 := by
  refine fx_body (by decide +kernel) (Nat.le_of_ble_eq_true rfl) ?_
  show fx_X g mq_FS_isArea 0 [(0, .int x), (1, .int y), (2, .int c), (3, .int r)] [] h _ 0 0
  refine fx_iload_n 0 dq_FS_isArea_0 rfl rfl ?_
  refine fx_Si1 ok sq_FS_81 (cq_isPlace ok _ _) (by decide) (Nat.le_of_ble_eq_true rfl) dq_FS_isArea_1 ?_
  refine fx_if_eq (tgt := 38) dq_FS_isArea_4 (by decide) (fun hc4 => ?_) (fun hc4 => ?_)
  · -- 4: jump
    refine fx_iconst (v := 0) dq_FS_isArea_38 (by decide) ?_
    exact fx_zreturn rfl (by decide) dq_FS_isArea_39 ⟨by simp [jA, hc4], rfl⟩
  · -- 4: fall
    refine fx_iload_n 1 dq_FS_isArea_7 rfl rfl ?_
    refine fx_Si1 ok sq_FS_81 (cq_isPlace ok _ _) (by decide) (Nat.le_of_ble_eq_true rfl) dq_FS_isArea_8 ?_
    refine fx_if_eq (tgt := 38) dq_FS_isArea_11 (by decide) (fun hc11 => ?_) (fun hc11 => ?_)
    · -- 11: jump
      refine fx_iconst (v := 0) dq_FS_isArea_38 (by decide) ?_
      exact fx_zreturn rfl (by decide) dq_FS_isArea_39 ⟨by simp [jA, hc4, hc11], rfl⟩
    · -- 11: fall
      refine fx_iload_n 2 dq_FS_isArea_14 rfl rfl ?_
      refine fx_iconst (v := 0) dq_FS_isArea_15 (by decide) ?_
      refine fx_bipush (v := 30) dq_FS_isArea_16 (by decide) ?_
      refine fx_Si3 ok sq_FS_48 (cq_isWithin ok _ _ _ _) (by decide) (Nat.le_of_ble_eq_true rfl) dq_FS_isArea_18 ?_
      refine fx_if_eq (tgt := 38) dq_FS_isArea_21 (by decide) (fun hc21 => ?_) (fun hc21 => ?_)
      · -- 21: jump
        refine fx_iconst (v := 0) dq_FS_isArea_38 (by decide) ?_
        exact fx_zreturn rfl (by decide) dq_FS_isArea_39 ⟨by simp [jA, hc4, hc11, hc21], rfl⟩
      · -- 21: fall
        refine fx_iload_n 3 dq_FS_isArea_24 rfl rfl ?_
        refine fx_iconst (v := 0) dq_FS_isArea_25 (by decide) ?_
        refine fx_bipush (v := 30) dq_FS_isArea_26 (by decide) ?_
        refine fx_Si3 ok sq_FS_48 (cq_isWithin ok _ _ _ _) (by decide) (Nat.le_of_ble_eq_true rfl) dq_FS_isArea_28 ?_
        refine fx_if_eq (tgt := 38) dq_FS_isArea_31 (by decide) (fun hc31 => ?_) (fun hc31 => ?_)
        · -- 31: jump
          refine fx_iconst (v := 0) dq_FS_isArea_38 (by decide) ?_
          exact fx_zreturn rfl (by decide) dq_FS_isArea_39 ⟨by simp [jA, hc4, hc11, hc21, hc31], rfl⟩
        · -- 31: fall
          refine fx_iconst (v := 1) dq_FS_isArea_34 (by decide) ?_
          refine fx_goto (tgt := 39) dq_FS_isArea_35 (by decide) ?_
          exact fx_zreturn rfl (by decide) dq_FS_isArea_39 ⟨by simp [jA, hc4, hc11, hc21, hc31], rfl⟩

def jS (x y : Int32) : Int32 := if jW x 0 19 = 0 ∨ jW y 0 9 = 0 then 0 else 1
set_option maxRecDepth 100000 in
set_option maxHeartbeats 4000000 in
theorem cq_isOnScreen {g : fx_G} (ok : fx_ok g) (h : fx_H) (x y : Int32) : fx_C g mq_FS_isOnScreen [.int x, .int y] h (fx_is (some (jS x y)) (h)) 0 0 := by
  refine fx_body (by decide +kernel) (Nat.le_of_ble_eq_true rfl) ?_
  show fx_X g mq_FS_isOnScreen 0 [(0, .int x), (1, .int y)] [] h _ 0 0
  refine fx_iload_n 0 dq_FS_isOnScreen_0 rfl rfl ?_
  refine fx_iconst (v := 0) dq_FS_isOnScreen_1 (by decide) ?_
  refine fx_bipush (v := 19) dq_FS_isOnScreen_2 (by decide) ?_
  refine fx_Si3 ok sq_FS_48 (cq_isWithin ok _ _ _ _) (by decide) (Nat.le_of_ble_eq_true rfl) dq_FS_isOnScreen_4 ?_
  refine fx_if_eq (tgt := 24) dq_FS_isOnScreen_7 (by decide) (fun hc7 => ?_) (fun hc7 => ?_)
  · -- 7: jump
    refine fx_iconst (v := 0) dq_FS_isOnScreen_24 (by decide) ?_
    exact fx_zreturn rfl (by decide) dq_FS_isOnScreen_25 ⟨by simp [jS, hc7], rfl⟩
  · -- 7: fall
    refine fx_iload_n 1 dq_FS_isOnScreen_10 rfl rfl ?_
    refine fx_iconst (v := 0) dq_FS_isOnScreen_11 (by decide) ?_
    refine fx_bipush (v := 9) dq_FS_isOnScreen_12 (by decide) ?_
    refine fx_Si3 ok sq_FS_48 (cq_isWithin ok _ _ _ _) (by decide) (Nat.le_of_ble_eq_true rfl) dq_FS_isOnScreen_14 ?_
    refine fx_if_eq (tgt := 24) dq_FS_isOnScreen_17 (by decide) (fun hc17 => ?_) (fun hc17 => ?_)
    · -- 17: jump
      refine fx_iconst (v := 0) dq_FS_isOnScreen_24 (by decide) ?_
      exact fx_zreturn rfl (by decide) dq_FS_isOnScreen_25 ⟨by simp [jS, hc7, hc17], rfl⟩
    · -- 17: fall
      refine fx_iconst (v := 1) dq_FS_isOnScreen_20 (by decide) ?_
      refine fx_goto (tgt := 25) dq_FS_isOnScreen_21 (by decide) ?_
      exact fx_zreturn rfl (by decide) dq_FS_isOnScreen_25 ⟨by simp [jS, hc7, hc17], rfl⟩

def jP (o b a : Int32) : Int32 := (a * o + (16 - a) * b) / 16
set_option maxRecDepth 100000 in
set_option maxHeartbeats 4000000 in
theorem cq_mixPart {g : fx_G} (ok : fx_ok g) (h : fx_H) (o b a : Int32) : fx_C g mq_FS_mixPart [.int o, .int b, .int a] h (fx_is (some (jP o b a)) (h)) 0 0 := by
  refine fx_body (by decide +kernel) (Nat.le_of_ble_eq_true rfl) ?_
  show fx_X g mq_FS_mixPart 0 [(0, .int o), (1, .int b), (2, .int a)] [] h _ 0 0
  refine fx_iload_n 2 dq_FS_mixPart_0 rfl rfl ?_
  refine fx_iload_n 0 dq_FS_mixPart_1 rfl rfl ?_
  refine fx_imul dq_FS_mixPart_2 ?_
  refine fx_bipush (v := 16) dq_FS_mixPart_3 (by decide) ?_
  refine fx_iload_n 2 dq_FS_mixPart_5 rfl rfl ?_
  refine fx_isub dq_FS_mixPart_6 ?_
  refine fx_iload_n 1 dq_FS_mixPart_7 rfl rfl ?_
  refine fx_imul dq_FS_mixPart_8 ?_
  refine fx_iadd dq_FS_mixPart_9 ?_
  refine fx_bipush (v := 16) dq_FS_mixPart_10 (by decide) ?_
  refine fx_idiv dq_FS_mixPart_12 (by decide) ?_
  exact fx_ireturn rfl dq_FS_mixPart_13 ⟨rfl, rfl⟩

def jM (o b a : Int32) : Int32 := (jP (o >>> ((11 : Int32) &&& 31)) (b >>> ((11 : Int32) &&& 31)) a <<< ((11 : Int32) &&& 31) ||| jP (o >>> ((5 : Int32) &&& 31) &&& 63) (b >>> ((5 : Int32) &&& 31) &&& 63) a <<< ((5 : Int32) &&& 31)) ||| jP (o &&& 31) (b &&& 31) a
set_option maxRecDepth 100000 in
set_option maxHeartbeats 4000000 in
theorem cq_mix {g : fx_G} (ok : fx_ok g) (h : fx_H) (o b a : Int32) : fx_C g mq_FS_mix [.int o, .int b, .int a] h (fx_is (some (jM o b a)) (h)) 0 0 := by
  refine fx_body (by decide +kernel) (Nat.le_of_ble_eq_true rfl) ?_
  show fx_X g mq_FS_mix 0 [(0, .int o), (1, .int b), (2, .int a)] [] h _ 0 0
  refine fx_iload_n 0 dq_FS_mix_0 rfl rfl ?_
  refine fx_bipush (v := 11) dq_FS_mix_1 (by decide) ?_
  refine fx_ishr dq_FS_mix_3 ?_
  refine fx_iload_n 1 dq_FS_mix_4 rfl rfl ?_
  refine fx_bipush (v := 11) dq_FS_mix_5 (by decide) ?_
  refine fx_ishr dq_FS_mix_7 ?_
  refine fx_iload_n 2 dq_FS_mix_8 rfl rfl ?_
  refine fx_Si3 ok sq_FS_258 (cq_mixPart ok _ _ _ _) (by decide) (Nat.le_of_ble_eq_true rfl) dq_FS_mix_9 ?_
  refine fx_istore_n dq_FS_mix_12 rfl (by decide) rfl ?_
  refine fx_iload_n 1 dq_FS_mix_13 rfl rfl ?_
  refine fx_iconst (v := 5) dq_FS_mix_14 (by decide) ?_
  refine fx_ishr dq_FS_mix_15 ?_
  refine fx_bipush (v := 63) dq_FS_mix_16 (by decide) ?_
  refine fx_iand dq_FS_mix_18 ?_
  refine fx_iload_n 2 dq_FS_mix_19 rfl rfl ?_
  refine fx_iconst (v := 5) dq_FS_mix_20 (by decide) ?_
  refine fx_ishr dq_FS_mix_21 ?_
  refine fx_bipush (v := 63) dq_FS_mix_22 (by decide) ?_
  refine fx_iand dq_FS_mix_24 ?_
  refine fx_iload_n 3 dq_FS_mix_25 rfl rfl ?_
  refine fx_Si3 ok sq_FS_258 (cq_mixPart ok _ _ _ _) (by decide) (Nat.le_of_ble_eq_true rfl) dq_FS_mix_26 ?_
  refine fx_istore dq_FS_mix_29 (by decide) rfl ?_
  refine fx_iload_n 2 dq_FS_mix_31 rfl rfl ?_
  refine fx_bipush (v := 31) dq_FS_mix_32 (by decide) ?_
  refine fx_iand dq_FS_mix_34 ?_
  refine fx_iload_n 3 dq_FS_mix_35 rfl rfl ?_
  refine fx_bipush (v := 31) dq_FS_mix_36 (by decide) ?_
  refine fx_iand dq_FS_mix_38 ?_
  refine fx_iload_n 4 dq_FS_mix_39 rfl rfl ?_
  refine fx_Si3 ok sq_FS_258 (cq_mixPart ok _ _ _ _) (by decide) (Nat.le_of_ble_eq_true rfl) dq_FS_mix_40 ?_
  refine fx_istore dq_FS_mix_43 (by decide) rfl ?_
  refine fx_iload_n 2 dq_FS_mix_45 rfl rfl ?_
  refine fx_bipush (v := 11) dq_FS_mix_46 (by decide) ?_
  refine fx_ishl dq_FS_mix_48 ?_
  refine fx_iload 1 dq_FS_mix_49 rfl ?_
  refine fx_iconst (v := 5) dq_FS_mix_51 (by decide) ?_
  refine fx_ishl dq_FS_mix_52 ?_
  refine fx_ior dq_FS_mix_53 ?_
  refine fx_iload 0 dq_FS_mix_54 rfl ?_
  refine fx_ior dq_FS_mix_56 ?_
  exact fx_ireturn rfl dq_FS_mix_57 ⟨rfl, rfl⟩

