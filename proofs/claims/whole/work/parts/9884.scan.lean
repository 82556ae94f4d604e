/-- a set plane's numbers, as the Model's loops want them -/
theorem T_ix {h : fx_H} {w q i : Nat} (hi : i < 2) (ht : JT h w q i) : (0 ≤ (fx_i h (q + 34) i).toInt ∧ (fx_i h (q + 34) i).toInt ≤ 1000) ∧ (0 ≤ (fx_i h (q + 35) i).toInt ∧ (fx_i h (q + 35) i).toInt ≤ 1000) ∧ ∀ j n, j < (fx_i h (q + 35) i).toNatClampNeg → n < (fx_i h (q + 34) i).toNatClampNeg → vp_in (20 * (fx_i h (q + 33) i + nI j) + fx_i h (q + 32) i + nI n) 200 ∧ vp_in (24 * nI i + fx_i h (q + 34) i * nI j + nI n) 48 := by
  have a20 : (20 : Int32).toInt = 20 := rfl
  have a24 : (24 : Int32).toInt = 24 := rfl
  rcases ht with ⟨t1, t2, t3⟩ | ⟨t1, x0, x1, x2, x3, ⟨b0, b1, b2, b3, b4, b5⟩, bw, bp⟩
  · rw [t2, t3]
    exact ⟨by decide, by decide, fun j n hj => absurd hj (by show ¬ j < 0; omega)⟩
  · have c3 := iz_nn (a := fx_i h (q + 34) i) (by omega)
    have c4 := iz_nn (a := fx_i h (q + 35) i) (by omega)
    refine ⟨by omega, by omega, fun j n hj hn => ?_⟩
    have hj' : (j : Int) < (fx_i h (q + 35) i).toInt := by omega
    have hn' : (n : Int) < (fx_i h (q + 34) i).toInt := by omega
    have tj : (nI j).toInt = j := nI_toInt (by omega)
    have tn : (nI n).toInt = n := nI_toInt (by omega)
    have ti : (nI i).toInt = i := nI_toInt (by omega)
    have u1 : (fx_i h (q + 33) i + nI j).toInt = (fx_i h (q + 33) i).toInt + j := by rw [iz_add (by rw [tj]; omega), tj]
    have u2 : (20 * (fx_i h (q + 33) i + nI j)).toInt = 20 * ((fx_i h (q + 33) i).toInt + j) := by rw [iz_mul (by rw [a20, u1]; omega), a20, u1]
    have u3 : (20 * (fx_i h (q + 33) i + nI j) + fx_i h (q + 32) i).toInt = 20 * ((fx_i h (q + 33) i).toInt + j) + (fx_i h (q + 32) i).toInt := by rw [iz_add (by rw [u2]; omega), u2]
    have u4 : (20 * (fx_i h (q + 33) i + nI j) + fx_i h (q + 32) i + nI n).toInt = 20 * ((fx_i h (q + 33) i).toInt + j) + (fx_i h (q + 32) i).toInt + n := by rw [iz_add (by rw [u3, tn]; omega), u3, tn]
    have wj : 0 ≤ (fx_i h (q + 34) i).toInt * (j : Int) ∧ (fx_i h (q + 34) i).toInt * (j : Int) + (fx_i h (q + 34) i).toInt ≤ (fx_i h (q + 34) i).toInt * (fx_i h (q + 35) i).toInt := by
      refine ⟨Int.mul_nonneg (by omega) (by omega), ?_⟩
      have := Int.mul_le_mul_of_nonneg_left (show (j : Int) + 1 ≤ (fx_i h (q + 35) i).toInt by omega) (show 0 ≤ (fx_i h (q + 34) i).toInt by omega)
      rw [Int.mul_add, Int.mul_one] at this
      exact this
    have s1 : (24 * nI i).toInt = 24 * (i : Int) := by rw [iz_mul (by rw [a24, ti]; omega), a24, ti]
    have s2 : (fx_i h (q + 34) i * nI j).toInt = (fx_i h (q + 34) i).toInt * (j : Int) := by rw [iz_mul (by rw [tj]; omega), tj]
    have s3 : (24 * nI i + fx_i h (q + 34) i * nI j).toInt = 24 * (i : Int) + (fx_i h (q + 34) i).toInt * (j : Int) := by rw [iz_add (by rw [s1, s2]; omega), s1, s2]
    have s4 : (24 * nI i + fx_i h (q + 34) i * nI j + nI n).toInt = 24 * (i : Int) + (fx_i h (q + 34) i).toInt * (j : Int) + n := by rw [iz_add (by rw [s3, tn]; omega), s3, tn]
    exact ⟨iz_in (by omega) (by omega), iz_in (by omega) (by omega)⟩
theorem back_in {h : fx_H} {w q f b : Nat} (hm : JW h w q f b) : vp_in (fx_i h q 23) 2 := by
  rcases hm with z | z
  · rw [z.1]; unfold vp_in; decide
  · rw [z.1]; unfold vp_in; decide
theorem lkPre_J {h k : fx_H} {w q f b : Nat} (hj : J h w q f b) (m : ∀ o, 32 ≤ o → o ≤ 35 → ∀ j, fx_i k (q + o) j = fx_i h (q + o) j) (f23 : fx_i k q 23 = fx_i h q 23) : lkPre k q := by
  unfold lkPre
  rw [f23]
  simp only [m 32 (by decide) (by decide), m 33 (by decide) (by decide), m 34 (by decide) (by decide), m 35 (by decide) (by decide)]
  exact ⟨back_in hj.mem, fun i hi => T_ix hi (hj.set_ i hi)⟩
/-- the row of a frame -/
theorem A_scanRow {h : fx_H} {w q f b : Nat} (hj : J h w q f b) (hr : ¬ (10 : Int32) ≤ fx_i h (w + 175) 3) :
    (0 ≤ (fx_i h (w + 175) 3).toInt ∧ (fx_i h (w + 175) 3).toInt ≤ 9) ∧ (∀ i, i < 2 → mixOk h (w + 175 + 1) (fx_i h (w + 175) 3) i) ∧ o_FS_scan h w f b = .inl (some (v_MO_scan (k_FS_scan h w f b) q)) ∧ J (k_MO_scan (k_FS_scan h w f b) q) w q f b := by
  have hq := hj.at_
  have a10 : (10 : Int32).toInt = 10 := rfl
  obtain ⟨B1, B2, B3, B4, B5, B6⟩ := hj.beam
  rw [iz_le, a10, B1] at hr
  have nR := iz_nn B2.1
  have er : fx_i h q 42 = nI (fx_i h q 42).toNatClampNeg := iz_eq.mpr (by rw [nI_toInt (by omega)]; omega)
  generalize hRR : (fx_i h q 42).toNatClampNeg = R at *
  have hR : R < 10 := by omega
  have er' : fx_i h (w + 175) 3 = nI R := B1.trans er
  obtain ⟨s1, s2, s3, s4, s5⟩ := scanRow_v hj hR er'
  have hr' : ¬ (10 : Int32) ≤ fx_i h (w + 175) 3 := by rw [iz_le, a10, B1]; exact hr
  have ek : k_FS_scan h w f b = k_BE_scanRow h (w + 175) f := by unfold k_FS_scan; rw [if_neg hr']
  have eo : o_FS_scan h w f b = .inl (some (nI R)) := by unfold o_FS_scan; rw [if_neg hr', s4]
  have e176 : w + 175 + 1 = w + 176 := by omega
  rw [ek, eo, e176]
  generalize k_BE_scanRow h (w + 175) f = Y at *
  have yq : ∀ j, fx_i Y q j = fx_i h q j := fun j => s1 _ _ (by omega) (by omega)
  have w42 : fx_i (fx_wi Y q 0 (0 : Int32)) q 42 = nI R := by rw [w0 _ _ _ _ (by decide), yq]; exact er
  have n10 : ¬ (10 : Int32) ≤ nI R := by rw [iz_le, a10, nI_toInt (by omega)]; omega
  have kk : k_MO_scan Y q = fx_wi (fx_wi Y q 0 (0 : Int32)) q 42 (nI (R + 1)) := by
    unfold k_MO_scan
    rw [w42, if_neg n10, ← nI_succ]
  have kv : v_MO_scan Y q = nI R := by
    unfold v_MO_scan
    rw [w42, if_neg n10, fx_i_wi, if_pos ⟨rfl, rfl⟩, ← nI_succ, nI_pred]
  rw [kk, kv]
  refine ⟨by rw [B1]; omega, fun i hi => (JT_row hi (hj.set_ i hi) hR er').1, rfl, ?_⟩
  generalize hk : fx_wi (fx_wi Y q 0 (0 : Int32)) q 42 (nI (R + 1)) = k
  have kY : ∀ a j, a ≠ q → fx_i k a j = fx_i Y a j := fun a j g => by rw [← hk, fx_i_wi, if_neg (fun z => g z.1), fx_i_wi, if_neg (fun z => g z.1)]
  have kq : ∀ j, j ≠ 0 → j ≠ 42 → fx_i k q j = fx_i h q j := fun j g1 g2 => by rw [← hk, fx_i_wi, if_neg (fun z => g2 z.2), fx_i_wi, if_neg (fun z => g1 z.2), yq]
  have k42 : fx_i k q 42 = nI (R + 1) := by rw [← hk, fx_i_wi, if_pos ⟨rfl, rfl⟩]
  have km : ∀ o j, 0 < o → fx_i k (q + o) j = fx_i h (q + o) j := fun o j g => (kY _ _ (by omega)).trans (s1 _ _ (by omega) (by omega))
  refine J_beam hj (fun a g1 g2 g3 g4 g5 g6 g7 j => (kY a j (by omega)).trans (s1 a j g5 g6)) (fun o g1 g2 g3 g4 j => km o j (by omega)) (fun j g1 g2 g3 => kq j g1 (by omega)) ?_
  have tI : (nI (R + 1)).toInt = ((R + 1 : Nat) : Int) := nI_toInt (by omega)
  refine ⟨by rw [kY _ _ (by omega), s3, k42], by rw [k42, tI]; omega, by rw [kY _ _ (by omega), s2 4 (by decide), kq 43 (by decide) (by decide)]; exact B3, by rw [kY _ _ (by omega), s2 5 (by decide), kq 45 (by decide) (by decide)]; exact B4, fun n hn => by rw [kY _ _ (by omega), s1 _ _ (by omega) (by omega), km 37 n (by decide)]; exact B5 n hn, fun n hn => ?_⟩
  rw [k42, nI_clamp (by omega)] at hn
  rw [kY _ _ (by omega), s5, lkC_congr (h := h) (fun o _ _ j => km o j (by omega)) (kq 23 (by decide) (by decide)) (km 20 _ (by decide))]
  by_cases z : n / 20 = R
  · rw [if_pos z]
  · rw [if_neg z]
    exact B6 n (by omega)
/-- the frame's end -/
theorem endFrame_v (h : fx_H) (e : Nat) (n : Int32) : (∀ a j, a ≠ e → a ≠ e + 10 → fx_i (k_BE_endFrame h e n) a j = fx_i h a j) ∧ (∀ j, j < 200 → fx_i (k_BE_endFrame h e n) (e + 10) j = fx_i h (e + 9) j) ∧ fx_i (k_BE_endFrame h e n) e 3 = 0 ∧ fx_i (k_BE_endFrame h e n) e 4 = fx_i h e 4 + 1 ∧ fx_i (k_BE_endFrame h e n) e 5 = n := by
  have ez : (0 : Int32).toNatClampNeg = 0 := rfl
  have e200 : (Int32.ofNat 200).toNatClampNeg = 200 := rfl
  unfold k_BE_endFrame
  rw [ez, e200]
  refine ⟨fun a j g1 g2 => ?_, fun j hj => ?_, ?_, ?_, ?_⟩
  · rw [fx_i_wi, if_neg (fun z => g1 z.1), fx_i_wi, if_neg (fun z => g1 z.1), fx_i_wi, if_neg (fun z => g1 z.1), fx_i_cp, if_neg g2]
  · rw [fx_i_wi, if_neg (fun z => by omega), fx_i_wi, if_neg (fun z => by omega), fx_i_wi, if_neg (fun z => by omega), fx_i_cp, if_pos rfl]
    unfold va_cpy
    rw [if_pos (by omega)]
    have : 0 + (j - 0) = j := by omega
    rw [this]
  · rw [fx_i_wi, if_pos ⟨rfl, rfl⟩]
  · rw [fx_i_wi, if_neg (fun z => by omega), fx_i_wi, if_pos ⟨rfl, rfl⟩, fx_i_wi, if_neg (fun z => by omega), fx_i_cp, if_neg (by omega)]
  · rw [fx_i_wi, if_neg (fun z => by omega), fx_i_wi, if_neg (fun z => by omega), fx_i_wi, if_pos ⟨rfl, rfl⟩]
theorem look_q (h : fx_H) (q : Nat) : fx_i (k_MO_look h q) q 45 = fx_i h q 44 ∧ fx_i (k_MO_look h q) q 43 = fx_i h q 43 + 1 := by
  have e := fx_on_t (fx_on_it (on_b1_look h q) h 200) (fx_on_it (on_b2_look h q) (it (b1_MO_look h q) h 200) 2)
  unfold k_MO_look
  refine ⟨?_, ?_⟩
  · rw [fx_i_wi, if_neg (fun z => by omega), fx_i_wi, if_pos ⟨rfl, rfl⟩, e.2 q (by omega)]
  · rw [fx_i_wi, if_pos ⟨rfl, rfl⟩, fx_i_wi, if_neg (fun z => by omega), e.2 q (by omega)]
theorem A_scanEnd {h : fx_H} {w q f b : Nat} (hj : J h w q f b) (hr : (10 : Int32) ≤ fx_i h (w + 175) 3) (hs : ¬ fx_i h q 22 = 2) : o_FS_scan h w f b = .inl (some (v_MO_scan (k_FS_scan h w f b) q)) ∧ J (k_MO_scan (k_FS_scan h w f b) q) w q f b := by
  have hq := hj.at_
  have a10 : (10 : Int32).toInt = 10 := rfl
  have a0 : (0 : Int32).toInt = 0 := rfl
  obtain ⟨B1, B2, B3, B4, B5, B6⟩ := hj.beam
  have nR := iz_nn B2.1
  obtain ⟨E1, E2, E3, E4, E5⟩ := endFrame_v h (w + 175) (fx_i h (w + 89) 8)
  have e22 : ¬ fx_i (k_BE_endFrame h (w + 175) (fx_i h (w + 89) 8)) (w + 89) 6 = 2 := by rw [E1 _ _ (by omega) (by omega), hj.comp.1]; exact hs
  have ek : k_FS_scan h w f b = k_BE_endFrame h (w + 175) (fx_i h (w + 89) 8) := by unfold k_FS_scan; rw [if_pos hr, if_neg e22]
  have eo : o_FS_scan h w f b = .inl (some (-1)) := by unfold o_FS_scan; rw [if_pos hr, if_neg e22]
  rw [ek, eo]
  rw [iz_le, a10, B1] at hr
  generalize k_BE_endFrame h (w + 175) (fx_i h (w + 89) 8) = Y at *
  have yq : ∀ j, fx_i Y q j = fx_i h q j := fun j => E1 _ _ (by omega) (by omega)
  have ym : ∀ o j, fx_i Y (q + o) j = fx_i h (q + o) j := fun o j => E1 _ _ (by omega) (by omega)
  have w42 : (10 : Int32) ≤ fx_i (fx_wi Y q 0 (0 : Int32)) q 42 := by rw [w0 _ _ _ _ (by decide), yq, iz_le, a10]; exact hr
  generalize hZ : fx_wi (fx_wi Y q 0 (0 : Int32)) q 42 (0 : Int32) = Z at *
  have zq : ∀ j, j ≠ 0 → j ≠ 42 → fx_i Z q j = fx_i h q j := fun j g1 g2 => by rw [← hZ, fx_i_wi, if_neg (fun z => g2 z.2), fx_i_wi, if_neg (fun z => g1 z.2), yq]
  have zo : ∀ a j, a ≠ q → fx_i Z a j = fx_i Y a j := fun a j g => by rw [← hZ, fx_i_wi, if_neg (fun z => g z.1), fx_i_wi, if_neg (fun z => g z.1)]
  have zm : ∀ o j, 0 < o → fx_i Z (q + o) j = fx_i h (q + o) j := fun o j g => (zo _ _ (by omega)).trans (ym o j)
  have lm := mfr_look Z q
  have l22 : ¬ fx_i (k_MO_look Z q) q 22 = 2 := by rw [mfr_f lm (by decide), zq 22 (by decide) (by decide)]; exact hs
  have kk : k_MO_scan Y q = k_MO_look Z q := by unfold k_MO_scan; rw [if_pos w42, hZ, if_neg l22]
  have kv : v_MO_scan Y q = -1 := by unfold v_MO_scan; rw [if_pos w42, hZ, if_neg l22]
  rw [kk, kv]
  refine ⟨rfl, ?_⟩
  have jt : ∀ i, i < 2 → JT Z w q i := fun i hi => JT_congr ((zo _ _ (by omega)).trans (E1 _ _ (by omega) (by omega))) (fun j => (zo _ _ (by omega)).trans (E1 _ _ (by omega) (by omega))) (fun j => (zo _ _ (by omega)).trans (E1 _ _ (by omega) (by omega))) (fun o _ _ j => zm o j (by omega)) (hj.set_ i hi)
  have lv := look_v (h := Z) (q := q) (by rw [zq 23 (by decide) (by decide)]; exact back_in hj.mem) (JT_m (jt 0 (by decide))) (JT_m (jt 1 (by decide)))
  obtain ⟨l45, l43⟩ := look_q Z q
  have lc : ∀ n, lkC Z q n = lkC h q n := fun n => lkC_congr (fun o _ _ j => zm o j (by omega)) (zq 23 (by decide) (by decide)) (zm 20 _ (by decide))
  generalize k_MO_look Z q = k at *
  have kc : ∀ a j, a < q → fx_i k a j = fx_i Y a j := fun a j g => (mfr_out lm (by decide) (Or.inl g) j).trans (zo _ _ (by omega))
  have km : ∀ o j, 0 < o → o ≠ 37 → fx_i k (q + o) j = fx_i h (q + o) j := fun o j g1 g2 => (mfr_at lm ⟨fun z => by simp only [List.mem_cons, List.mem_nil_iff, or_false] at z; omega, g1⟩ j).trans (zm o j g1)
  have kq : ∀ j, j ≠ 43 → j ≠ 45 → fx_i k q j = fx_i Z q j := fun j g1 g2 => mfr_f lm (fun z => by simp only [List.mem_cons, List.mem_nil_iff, or_false] at z; omega)
  have k42 : fx_i k q 42 = 0 := by rw [kq 42 (by decide) (by decide), ← hZ, fx_i_wi, if_pos ⟨rfl, rfl⟩]
  refine J_beam hj (fun a g1 g2 g3 g4 g5 g6 g7 j => (kc a j (by omega)).trans (E1 a j g5 (by omega))) (fun o g1 g2 g3 g4 j => km o j (by omega) (by omega)) (fun j g1 g2 g3 => (kq j (by omega) g3).trans (zq j g1 (by omega))) ?_
  have e185 : w + 175 + 10 = w + 185 := by omega
  have e184 : w + 175 + 9 = w + 184 := by omega
  rw [e185, e184] at E2
  refine ⟨by rw [kc _ _ (by omega), E3, k42], by rw [k42]; decide, by rw [kc _ _ (by omega), E4, l43, zq 43 (by decide) (by decide), B3], by rw [kc _ _ (by omega), E5, l45, zq 44 (by decide) (by decide)]; exact hj.comp.2.2.1, fun n hn => ?_, fun n hn => ?_⟩
  · rw [kc _ _ (by omega), E2 n hn, lv n hn, lc n]
    exact B6 n (by omega)
  · rw [k42] at hn
    exact absurd hn (by show ¬ n < 20 * 0; omega)
/-! ===== the swap ===== -/
theorem become_v {X : fx_H} {n m : Nat} (hd : n + 7 < m ∨ m + 7 < n) : (∀ a j, ¬ (n + 1 ≤ a ∧ a ≤ n + 7) → fx_i (k_PN_become X n m) a j = fx_i X a j) ∧ ∀ i, i < 2 → fx_i (k_PN_become X n m) (n + 1) i = fx_i X (m + 1) i ∧ (∀ j, j < 4 → fx_i (k_PN_become X n m) (n + 3 + i) j = fx_i X (m + 3 + i) j) ∧ (∀ j, j < 24 → fx_i (k_PN_become X n m) (n + 6 + i) j = fx_i X (m + 6 + i) j) := by
  have ez : (0 : Int32).toNatClampNeg = 0 := rfl
  have e24 : (24 : Int32).toNatClampNeg = 24 := rfl
  have step : ∀ (k : fx_H) i, i < 2 → (∀ a j, ¬ (n + 1 ≤ a ∧ a ≤ n + 7) → fx_i k a j = fx_i X a j) → (∀ a j, ¬ (a = n + 1 ∧ j = i) → a ≠ n + 3 + i → a ≠ n + 6 + i → fx_i (b_PN_become n m i k) a j = fx_i k a j) ∧ fx_i (b_PN_become n m i k) (n + 1) i = fx_i X (m + 1) i ∧ (∀ j, j < 4 → fx_i (b_PN_become n m i k) (n + 3 + i) j = fx_i X (m + 3 + i) j) ∧ (∀ j, j < 24 → fx_i (b_PN_become n m i k) (n + 6 + i) j = fx_i X (m + 6 + i) j) := by
    intro k i hi hk
    unfold b_PN_become
    rw [ez, e24]
    have w1 : ∀ a j, ¬ (a = n + 1 ∧ j = i) → fx_i (fx_wi k (n + 1) i (fx_i k (m + 1) i)) a j = fx_i k a j := fun a j g => by rw [fx_i_wi, if_neg g]
    have w2 : fx_i (fx_wi k (n + 1) i (fx_i k (m + 1) i)) (n + 1) i = fx_i k (m + 1) i := by rw [fx_i_wi, if_pos ⟨rfl, rfl⟩]
    generalize fx_wi k (n + 1) i (fx_i k (m + 1) i) = W at *
    have r := rset_v W (n + 3 + i) (fx_i W (m + 3 + i) 0) (fx_i W (m + 3 + i) 1) (fx_i W (m + 3 + i) 2) (fx_i W (m + 3 + i) 3)
    have ro : ∀ a j, a ≠ n + 3 + i → fx_i (rset W (n + 3 + i) (fx_i W (m + 3 + i) 0) (fx_i W (m + 3 + i) 1) (fx_i W (m + 3 + i) 2) (fx_i W (m + 3 + i) 3)) a j = fx_i W a j := fun a j g => rset_o _ _ _ _ _ _ _ _ g
    generalize rset W (n + 3 + i) (fx_i W (m + 3 + i) 0) (fx_i W (m + 3 + i) 1) (fx_i W (m + 3 + i) 2) (fx_i W (m + 3 + i) 3) = V at *
    refine ⟨fun a j g1 g2 g3 => by rw [fx_i_cp, if_neg g3, ro _ _ g2, w1 _ _ g1], by rw [fx_i_cp, if_neg (by omega), ro _ _ (by omega), w2]; exact hk _ _ (by omega), fun j hj => ?_, fun j hj => ?_⟩
    · rw [fx_i_cp, if_neg (by omega)]
      have e : ∀ c, fx_i W (m + 3 + i) c = fx_i X (m + 3 + i) c := fun c => (w1 _ _ (by omega)).trans (hk _ _ (by omega))
      have h1 : j = 0 ∨ j = 1 ∨ j = 2 ∨ j = 3 := by omega
      rcases h1 with rfl | rfl | rfl | rfl
      · rw [r.1, e]
      · rw [r.2.1, e]
      · rw [r.2.2.1, e]
      · rw [r.2.2.2, e]
    · rw [fx_i_cp, if_pos rfl]
      unfold va_cpy
      rw [if_pos (by omega)]
      have : 0 + (j - 0) = j := by omega
      rw [this, ro _ _ (by omega), w1 _ _ (by omega)]
      exact hk _ _ (by omega)
  unfold k_PN_become
  rw [it_s, it_s, it_0]
  obtain ⟨a1, a2, a3, a4⟩ := step X 0 (by decide) (fun _ _ _ => rfl)
  generalize b_PN_become n m 0 X = A at *
  have hA : ∀ a j, ¬ (n + 1 ≤ a ∧ a ≤ n + 7) → fx_i A a j = fx_i X a j := fun a j g => a1 a j (by omega) (by omega) (by omega)
  obtain ⟨b1, b2, b3, b4⟩ := step A 1 (by decide) hA
  generalize b_PN_become n m 1 A = B at *
  refine ⟨fun a j g => (b1 a j (by omega) (by omega) (by omega)).trans (hA a j g), fun i hi => ?_⟩
  have h1 : i = 0 ∨ i = 1 := by omega
  rcases h1 with rfl | rfl
  · exact ⟨(b1 _ _ (by omega) (by omega) (by omega)).trans a2, fun j hj => (b1 _ _ (by omega) (by omega) (by omega)).trans (a3 j hj), fun j hj => (b1 _ _ (by omega) (by omega) (by omega)).trans (a4 j hj)⟩
  · exact ⟨b2, b3, b4⟩
/-- the pixel n of a rectangle of W columns -/
theorem div_mod {n : Nat} {W : Int32} {H : Int} (hW : 0 < W.toInt ∧ W.toInt ≤ 24) (hn : (n : Int) < W.toInt * H) (hn9 : n < 1000) : ¬ W = 0 ∧ (nI n / W).toInt = ((n / W.toInt.toNat : Nat) : Int) ∧ (nI n - nI n / W * W).toInt = ((n % W.toInt.toNat : Nat) : Int) ∧ ((n / W.toInt.toNat : Nat) : Int) < H ∧ n % W.toInt.toNat < W.toInt.toNat := by
  have tn : (nI n).toInt = n := nI_toInt (by omega)
  obtain ⟨u, hu⟩ : ∃ u : Nat, W.toInt = (u : Int) := ⟨W.toInt.toNat, by omega⟩
  have eu : W.toInt.toNat = u := by omega
  rw [eu]
  have hu0 : 0 < u := by omega
  have q1 := Nat.div_add_mod n u
  have q2 := Nat.mod_lt n hu0
  have q3 : n / u ≤ n := Nat.div_le_self n u
  have d : (nI n / W).toInt = ((n / u : Nat) : Int) := by
    rw [Int32.toInt_div, tn, hu, Int.tdiv_eq_ediv_of_nonneg (by omega), ← Int.natCast_ediv]
    generalize n / u = t at *
    exact iz_bm (by omega)
  have m : (nI n / W * W).toInt = ((u * (n / u) : Nat) : Int) := by
    have e : (nI n / W).toInt * W.toInt = ((u * (n / u) : Nat) : Int) := by rw [d, hu, Int.natCast_mul, Int.mul_comm]
    rw [iz_mul (by rw [e]; omega), e]
  refine ⟨fun z => by rw [z] at hW; exact absurd hW.1 (by decide), d, by rw [iz_sub (by rw [tn, m]; omega), tn, m]; omega, ?_, q2⟩
  rw [hu] at hn
  have : (n / u : Nat) < H.toNat := by
    refine Nat.div_lt_of_lt_mul ?_
    have hH : 0 < H := by
      rcases Int.lt_or_le 0 H with z | z
      · exact z
      · have := Int.mul_nonpos_of_nonneg_of_nonpos (show 0 ≤ (u : Int) by omega) z
        omega
    have e : ((u * H.toNat : Nat) : Int) = (u : Int) * H := by
      rw [Int.natCast_mul]
      congr 1
      omega
    omega
  generalize n / u = t at *
  omega
/-- what change sets for a plane that shows the surface s -/
theorem ch_s {h k : fx_H} {w q i s : Nat} (hi : i < 2) (hs : s < 10) (hcr : mCR h q) (hpr : PR h (w + 93 + 4 * s) q (20 + s)) (hne : ¬ shE h q (20 + s)) (h24 : (shR h q (20 + s) - shX h q (20 + s)) * (shB h q (20 + s) - shY h q (20 + s)) ≤ 24) (epl : fx_i h (q + 26) i = nI s) (m : ∀ o, 1 ≤ o → o ≤ 26 → ∀ j, fx_i k (q + o) j = fx_i h (q + o) j) :
    ((fx_i (ch1 q i k) q 38).toInt = shX h q (20 + s) ∧ (fx_i (ch1 q i k) q 39).toInt = shY h q (20 + s) ∧ (fx_i (ch1 q i k) q 40).toInt = shR h q (20 + s) - shX h q (20 + s) ∧ (fx_i (ch1 q i k) q 41).toInt = shB h q (20 + s) - shY h q (20 + s)) ∧
    (fx_i (ch1 q i k) (q + 32) i = fx_i (ch1 q i k) q 38 ∧ fx_i (ch1 q i k) (q + 33) i = fx_i (ch1 q i k) q 39 ∧ fx_i (ch1 q i k) (q + 34) i = fx_i (ch1 q i k) q 40 ∧ fx_i (ch1 q i k) (q + 35) i = fx_i (ch1 q i k) q 41) ∧
    (∀ o, 32 ≤ o → o ≤ 35 → ∀ j, j ≠ i → fx_i (ch1 q i k) (q + o) j = fx_i k (q + o) j) ∧
    ((fx_i (ch1 q i k) q 40) * (fx_i (ch1 q i k) q 41)).toInt = (shR h q (20 + s) - shX h q (20 + s)) * (shB h q (20 + s) - shY h q (20 + s)) := by
  have e20 : (20 : Int32) + nI s = nI (20 + s) := jz_b hs
  have ht := shE_there hne
  have hk0 := (hpr.2.2 (fun z => ht (hpr.1.mp z))).2.2.2.1
  have ce : mfr q [34, 35] [] k (fx_wi (fx_wi k (q + 34) i (0 : Int32)) (q + 35) i (0 : Int32)) := mfr_wi (mfr_wi (mfr_rf _ _ _ _) (by decide)) (by decide)
  have e26 : fx_i (fx_wi (fx_wi k (q + 34) i (0 : Int32)) (q + 35) i (0 : Int32)) (q + 26) i = nI s := by rw [mfr_at ce (by decide), m 26 (by decide) (by decide)]; exact epl
  unfold ch1
  rw [e26, e20]
  generalize hU : fx_wi (fx_wi k (q + 34) i (0 : Int32)) (q + 35) i (0 : Int32) = U at *
  have um : ∀ o, 1 ≤ o → o ≤ 26 → ∀ j, fx_i U (q + o) j = fx_i h (q + o) j := fun o g1 g2 j => (mfr_at ce ⟨fun z => by simp only [List.mem_cons, List.mem_nil_iff, or_false] at z; omega, g1⟩ j).trans (m o g1 g2 j)
  obtain ⟨x1, x2, x3, x4, x5⟩ := sh_congr (h := h) (k := U) (q := q) (p := 20 + s) (fun o g1 g2 => um o (by omega) (by omega) _)
  obtain ⟨-, v2⟩ := show_v U q (20 + s) (by omega) (fun _ => by
    unfold mpOk at hk0 ⊢
    rw [um 8 (by decide) (by decide), um 9 (by decide) (by decide), um 13 (by decide) (by decide), um 14 (by decide) (by decide), um 15 (by decide) (by decide), um 16 (by decide) (by decide), um 3 (by decide) (by decide), um 4 (by decide) (by decide)]
    exact hk0)
  obtain ⟨s1, s2, s3, s4⟩ := v2 (fun z => hne (x5.mp z))
  rw [x1] at s1
  rw [x2] at s2
  rw [x3, x1] at s3
  rw [x4, x2] at s4
  have sm := mfr_show U q (nI (20 + s))
  have so : ∀ o, 32 ≤ o → o ≤ 35 → ∀ j, j ≠ i → fx_i (k_MO_show U q (nI (20 + s))) (q + o) j = fx_i k (q + o) j := fun o g1 g2 j g3 => by
    rw [mfr_at sm ⟨fun z => (by cases z), by omega⟩, ← hU, fx_i_wi, if_neg (fun z => g3 z.2), fx_i_wi, if_neg (fun z => g3 z.2)]
  generalize k_MO_show U q (nI (20 + s)) = V at *
  have g38 : ∀ c j v, 0 < c → fx_i (fx_wi V (q + c) i v) q j = fx_i V q j := fun c j v hc => by rw [fx_i_wi, if_neg (fun z => by omega)]
  have q0 : ∀ (A : fx_H) c j v, 0 < c → fx_i (fx_wi A (q + c) i v) q j = fx_i A q j := fun A c j v hc => by rw [fx_i_wi, if_neg (fun z => by omega)]
  have hne' := hne
  unfold shE at hne'
  have g1 : ¬ shR h q (20 + s) ≤ shX h q (20 + s) := fun z => hne' (Or.inr (Or.inr (Or.inl z)))
  have g2 : ¬ shB h q (20 + s) ≤ shY h q (20 + s) := fun z => hne' (Or.inr (Or.inr (Or.inr z)))
  have pm : (fx_i V q 40 * fx_i V q 41).toInt = (shR h q (20 + s) - shX h q (20 + s)) * (shB h q (20 + s) - shY h q (20 + s)) := by
    have : 0 ≤ (shR h q (20 + s) - shX h q (20 + s)) * (shB h q (20 + s) - shY h q (20 + s)) := Int.mul_nonneg (by omega) (by omega)
    rw [iz_mul (by rw [s3, s4]; omega), s3, s4]
  simp only [q0 _ 32 _ _ (show 0 < 32 by decide), q0 _ 33 _ _ (show 0 < 33 by decide), q0 _ 34 _ _ (show 0 < 34 by decide), q0 _ 35 _ _ (show 0 < 35 by decide)]
  refine ⟨⟨s1, s2, s3, s4⟩, ⟨by simp [fx_i_wi], by simp [fx_i_wi], by simp [fx_i_wi], by simp [fx_i_wi]⟩, fun o h1 h2 j h3 => ?_, pm⟩
  rw [fx_i_wi, if_neg (fun z => h3 z.2), fx_i_wi, if_neg (fun z => h3 z.2), fx_i_wi, if_neg (fun z => h3 z.2), fx_i_wi, if_neg (fun z => h3 z.2)]
  exact so o h1 h2 j h3
/-- pixelOf looks at static arrays alone -/
theorem pixelOf_m {h k : fx_H} {q : Nat} (m : ∀ o, 1 ≤ o → o ≤ 26 → ∀ j, fx_i k (q + o) j = fx_i h (q + o) j) (p x y : Int32) : v_MO_pixelOf k q p x y = v_MO_pixelOf h q p x y ∧ (pre_MO_pixelOf h q p x y → pre_MO_pixelOf k q p x y) := by
  unfold v_MO_pixelOf pre_MO_pixelOf
  rw [m 17 (by decide) (by decide), m 3 (by decide) (by decide), m 8 (by decide) (by decide), m 9 (by decide) (by decide)]
  exact ⟨rfl, id⟩
/-- the shown rectangle of a plane's surface -/
theorem JN_rg {h : fx_H} {q p : Nat} (hk : mpOk h q p) (hne : ¬ shE h q p) : (0 ≤ shX h q p ∧ shX h q p < shR h q p ∧ shR h q p ≤ 20) ∧ 0 ≤ shY h q p ∧ shY h q p < shB h q p ∧ shB h q p ≤ 10 := by
  have hne' := hne
  unfold shE at hne'
  have g1 : ¬ shR h q p ≤ shX h q p := fun z => hne' (Or.inr (Or.inr (Or.inl z)))
  have g2 : ¬ shB h q p ≤ shY h q p := fun z => hne' (Or.inr (Or.inr (Or.inr z)))
  unfold shX shR shY shB at *
  omega
/-- the pixel n of a plane: where it lies -/
theorem ch_px {h k : fx_H} {w q i s n : Nat} (hi : i < 2) (hs : s < 10) (hcr : mCR h q) (hpr : PR h (w + 93 + 4 * s) q (20 + s)) (hne : ¬ shE h q (20 + s)) (h24 : (shR h q (20 + s) - shX h q (20 + s)) * (shB h q (20 + s) - shY h q (20 + s)) ≤ 24) (epl : fx_i h (q + 26) i = nI s) (m : ∀ o, 1 ≤ o → o ≤ 26 → ∀ j, fx_i k (q + o) j = fx_i h (q + o) j)
    (hn : (n : Int) < (shR h q (20 + s) - shX h q (20 + s)) * (shB h q (20 + s) - shY h q (20 + s))) :
    ¬ fx_i (ch1 q i k) q 40 = 0 ∧ (fx_i (ch1 q i k) q 38 + (nI n - nI n / fx_i (ch1 q i k) q 40 * fx_i (ch1 q i k) q 40)).toInt = shX h q (20 + s) + ((n % (shR h q (20 + s) - shX h q (20 + s)).toNat : Nat) : Int) ∧ (fx_i (ch1 q i k) q 39 + nI n / fx_i (ch1 q i k) q 40).toInt = shY h q (20 + s) + ((n / (shR h q (20 + s) - shX h q (20 + s)).toNat : Nat) : Int) ∧
    ((n / (shR h q (20 + s) - shX h q (20 + s)).toNat : Nat) : Int) < shB h q (20 + s) - shY h q (20 + s) ∧ ((n % (shR h q (20 + s) - shX h q (20 + s)).toNat : Nat) : Int) < shR h q (20 + s) - shX h q (20 + s) ∧
    pre_MO_pixelOf h q (nI (20 + s)) (fx_i (ch1 q i k) q 38 + (nI n - nI n / fx_i (ch1 q i k) q 40 * fx_i (ch1 q i k) q 40)) (fx_i (ch1 q i k) q 39 + nI n / fx_i (ch1 q i k) q 40) := by
  obtain ⟨⟨s1, s2, s3, s4⟩, -⟩ := ch_s hi hs hcr hpr hne h24 epl m
  have ht := shE_there hne
  have hk0 := (hpr.2.2 (fun z => ht (hpr.1.mp z))).2.2.2.1
  obtain ⟨⟨x0, x1, x2⟩, y0, y1, y2⟩ := JN_rg hk0 hne
  obtain ⟨d1, d2, d3, d4, d5⟩ := div_mod (n := n) (W := fx_i (ch1 q i k) q 40) (H := shB h q (20 + s) - shY h q (20 + s)) (by rw [s3]; omega) (by rw [s3]; exact hn) (by omega)
  rw [s3] at d2 d3 d4 d5
  generalize n / (shR h q (20 + s) - shX h q (20 + s)).toNat = a at *
  generalize n % (shR h q (20 + s) - shX h q (20 + s)).toNat = c at *
  have t1 : (fx_i (ch1 q i k) q 38 + (nI n - nI n / fx_i (ch1 q i k) q 40 * fx_i (ch1 q i k) q 40)).toInt = shX h q (20 + s) + (c : Int) := by rw [iz_add (by rw [s1, d3]; omega), s1, d3]
  have t2 : (fx_i (ch1 q i k) q 39 + nI n / fx_i (ch1 q i k) q 40).toInt = shY h q (20 + s) + (a : Int) := by rw [iz_add (by rw [s2, d2]; omega), s2, d2]
  exact ⟨d1, t1, t2, d4, by omega, pix_pre h q (20 + s) (by omega) hcr hk0 _ _ (by rw [t1]; omega) (by rw [t2]; omega)⟩
theorem chPre_J {h k : fx_H} {w q f b : Nat} (hj : J h w q f b) (m : ∀ o, 1 ≤ o → o ≤ 26 → ∀ j, fx_i k (q + o) j = fx_i h (q + o) j) : chPre k q := by
  intro i hi h0
  rw [m 26 (by decide) (by decide)] at h0 ⊢
  rcases (hj.plan i hi).2 with z | ⟨s, s1, s2, s3, s4, s5, -⟩
  · rw [z] at h0
    exact absurd h0 (by decide)
  · rw [s2, jz_b s1]
    refine ⟨vp_in_nI (by omega) (by decide), fun k' e => ?_⟩
    have m' : ∀ o, 1 ≤ o → o ≤ 26 → ∀ j, fx_i k' (q + o) j = fx_i h (q + o) j := fun o g1 g2 j => (mfr_at e ⟨fun z => by simp only [List.mem_cons, List.mem_nil_iff, or_false] at z; omega, g1⟩ j).trans (m o g1 g2 j)
    have hpr := (hj.pics s s1).2.2
    obtain ⟨-, -, -, pm⟩ := ch_s hi s1 hj.cr hpr s3 s5 s2 m'
    have ht := shE_there s3
    obtain ⟨⟨x0, x1, x2⟩, y0, y1, y2⟩ := JN_rg (hpr.2.2 (fun z => ht (hpr.1.mp z))).2.2.2.1 s3
    have p0 : 0 ≤ (shR h q (20 + s) - shX h q (20 + s)) * (shB h q (20 + s) - shY h q (20 + s)) := Int.mul_nonneg (by omega) (by omega)
    refine ⟨by rw [pm]; exact ⟨p0, s5⟩, fun n hn => ?_⟩
    have nn := iz_nn (a := (fx_i (ch1 q i k') q 40) * (fx_i (ch1 q i k') q 41)) (by rw [pm]; exact p0)
    obtain ⟨d1, -, -, -, -, d6⟩ := ch_px hi s1 hj.cr hpr s3 s5 s2 m' (n := n) (by omega)
    exact ⟨d1, (pixelOf_m (fun o g1 g2 j => (mfr_at (mfr_ch1 q i k') ⟨fun z => by simp only [List.mem_cons, List.mem_nil_iff, or_false] at z; omega, g1⟩ j).trans (m' o g1 g2 j)) _ _ _).2 d6⟩
/-- change, one plane: what is set -/
theorem ch_step {h k : fx_H} {w q f b i : Nat} (hj : J h w q f b) (hi : i < 2) (m : ∀ o, 1 ≤ o → o ≤ 26 → ∀ j, fx_i k (q + o) j = fx_i h (q + o) j) :
    (∀ o, 32 ≤ o → o ≤ 35 → ∀ j, j ≠ i → fx_i (b_MO_change q i k) (q + o) j = fx_i k (q + o) j) ∧ (∀ j, ¬ (24 * i ≤ j ∧ j < 24 * i + 24) → fx_i (b_MO_change q i k) (q + 36) j = fx_i k (q + 36) j) ∧
    (fx_i h (q + 26) i = -1 → fx_i (b_MO_change q i k) (q + 34) i = 0 ∧ fx_i (b_MO_change q i k) (q + 35) i = 0) ∧
    (∀ s, s < 10 → fx_i h (q + 26) i = nI s → ¬ shE h q (20 + s) → (shR h q (20 + s) - shX h q (20 + s)) * (shB h q (20 + s) - shY h q (20 + s)) ≤ 24 →
      ((fx_i (b_MO_change q i k) (q + 32) i).toInt = shX h q (20 + s) ∧ (fx_i (b_MO_change q i k) (q + 33) i).toInt = shY h q (20 + s) ∧ (fx_i (b_MO_change q i k) (q + 34) i).toInt = shR h q (20 + s) - shX h q (20 + s) ∧ (fx_i (b_MO_change q i k) (q + 35) i).toInt = shB h q (20 + s) - shY h q (20 + s)) ∧
      ∀ n : Nat, (n : Int) < (shR h q (20 + s) - shX h q (20 + s)) * (shB h q (20 + s) - shY h q (20 + s)) → ∀ X Y : Int32, X.toInt = shX h q (20 + s) + ((n % (shR h q (20 + s) - shX h q (20 + s)).toNat : Nat) : Int) → Y.toInt = shY h q (20 + s) + ((n / (shR h q (20 + s) - shX h q (20 + s)).toNat : Nat) : Int) → fx_i (b_MO_change q i k) (q + 36) (24 * i + n) = v_MO_pixelOf h q (nI (20 + s)) X Y) := by
  have ce : mfr q [34, 35] [] k (fx_wi (fx_wi k (q + 34) i (0 : Int32)) (q + 35) i (0 : Int32)) := mfr_wi (mfr_wi (mfr_rf _ _ _ _) (by decide)) (by decide)
  have e26 : fx_i (fx_wi (fx_wi k (q + 34) i (0 : Int32)) (q + 35) i (0 : Int32)) (q + 26) i = fx_i h (q + 26) i := by rw [mfr_at ce (by decide), m 26 (by decide) (by decide)]
  rcases (hj.plan i hi).2 with z | ⟨s, s1, s2, s3, s4, s5, -⟩
  · have eb : b_MO_change q i k = fx_wi (fx_wi k (q + 34) i (0 : Int32)) (q + 35) i (0 : Int32) := by
      unfold b_MO_change
      rw [e26, z, if_neg (by decide)]
    rw [eb]
    refine ⟨fun o h1 h2 j h3 => by rw [fx_i_wi, if_neg (fun y => h3 y.2), fx_i_wi, if_neg (fun y => h3 y.2)], fun j _ => by rw [fx_i_wi, if_neg (fun y => by omega), fx_i_wi, if_neg (fun y => by omega)], fun _ => ⟨by simp [fx_i_wi], by simp [fx_i_wi]⟩, fun s hs y => ?_⟩
    rw [z, iz_eq, nI_toInt (by omega)] at y
    have : (-1 : Int32).toInt = -1 := rfl
    omega
  · have hpr := (hj.pics s s1).2.2
    obtain ⟨v1, v2, v3, pm⟩ := ch_s hi s1 hj.cr hpr s3 s5 s2 m
    have ht := shE_there s3
    obtain ⟨⟨x0, x1, x2⟩, y0, y1, y2⟩ := JN_rg (hpr.2.2 (fun z => ht (hpr.1.mp z))).2.2.2.1 s3
    have p0 : 0 ≤ (shR h q (20 + s) - shX h q (20 + s)) * (shB h q (20 + s) - shY h q (20 + s)) := Int.mul_nonneg (by omega) (by omega)
    have eb : b_MO_change q i k = it (chI q i) (ch1 q i k) ((fx_i (ch1 q i k) q 40) * (fx_i (ch1 q i k) q 41)).toNatClampNeg := by
      unfold b_MO_change
      rw [e26, s2, if_pos (nI_nn (by omega)).2, its_it]
    have nn := iz_nn (a := (fx_i (ch1 q i k) q 40) * (fx_i (ch1 q i k) q 41)) (by rw [pm]; exact p0)
    generalize hN : ((fx_i (ch1 q i k) q 40) * (fx_i (ch1 q i k) q 41)).toNatClampNeg = N at *
    have hN24 : N ≤ 24 := by omega
    have cm := mfr_ch1 q i k
    have ci : ∀ n, n < 24 → (24 * nI i + nI n).toNatClampNeg = 24 * i + n := fun n hn => by
      have a24 : (24 : Int32).toInt = 24 := rfl
      have ti : (nI i).toInt = i := nI_toInt (by omega)
      have tn : (nI n).toInt = n := nI_toInt (by omega)
      have g1 : (24 * nI i).toInt = 24 * (i : Int) := by rw [iz_mul (by rw [a24, ti]; omega), a24, ti]
      have g2 : (24 * nI i + nI n).toInt = 24 * (i : Int) + n := by rw [iz_add (by rw [g1, tn]; omega), g1, tn]
      have := iz_nn (a := 24 * nI i + nI n) (by omega)
      omega
    have loop : ∀ n, n ≤ N → fx_on (q + 36) (ch1 q i k) (it (chI q i) (ch1 q i k) n) ∧ (∀ j, j < n → fx_i (it (chI q i) (ch1 q i k) n) (q + 36) (24 * i + j) = v_MO_pixelOf h q (nI (20 + s)) (fx_i (ch1 q i k) q 38 + (nI j - nI j / fx_i (ch1 q i k) q 40 * fx_i (ch1 q i k) q 40)) (fx_i (ch1 q i k) q 39 + nI j / fx_i (ch1 q i k) q 40)) ∧ (∀ j, ¬ (24 * i ≤ j ∧ j < 24 * i + n) → fx_i (it (chI q i) (ch1 q i k) n) (q + 36) j = fx_i (ch1 q i k) (q + 36) j) := by
      intro n
      induction n with
      | zero => intro _; rw [it_0]; exact ⟨fx_on_rf _ _, fun j hj => absurd hj (by omega), fun j _ => rfl⟩
      | succ n ih =>
        intro hn
        obtain ⟨i1, i2, i3⟩ := ih (by omega)
        rw [it_s]
        generalize it (chI q i) (ch1 q i k) n = u at *
        have um : ∀ o, 1 ≤ o → o ≤ 26 → ∀ j, fx_i u (q + o) j = fx_i h (q + o) j := fun o g1 g2 j => (i1.2 _ (by omega) j).trans ((mfr_at cm ⟨fun z => by simp only [List.mem_cons, List.mem_nil_iff, or_false] at z; omega, g1⟩ j).trans (m o g1 g2 j))
        unfold chI
        rw [ci n (by omega), um 26 (by decide) (by decide), s2, jz_b s1, (pixelOf_m um _ _ _).1, i1.2 q (by omega), i1.2 q (by omega), i1.2 q (by omega)]
        refine ⟨fx_on_t i1 (fx_on_wi _ _ _ _), fun j hj => ?_, fun j hj => ?_⟩
        · rw [fx_i_wi]
          by_cases y : j = n
          · subst y
            rw [if_pos ⟨rfl, rfl⟩]
          · rw [if_neg (fun x => by omega)]
            exact i2 j (by omega)
        · rw [fx_i_wi, if_neg (fun x => by omega)]
          exact i3 j (by omega)
    obtain ⟨l1, l2, l3⟩ := loop N (Nat.le_refl _)
    rw [eb]
    generalize it (chI q i) (ch1 q i k) N = u at *
    refine ⟨fun o h1 h2 j h3 => (l1.2 _ (by omega) j).trans (v3 o h1 h2 j h3), fun j hj => (l3 j (by omega)).trans (mfr_at cm (by decide) j), fun y => ?_, fun s' hs' y g1 g2 => ?_⟩
    · rw [s2, iz_eq, nI_toInt (by omega)] at y
      have : (-1 : Int32).toInt = -1 := rfl
      omega
    · have es : s' = s := by rw [s2] at y; exact ((nI_eq (by omega) (by omega)).mp y).symm
      subst es
      refine ⟨?_, fun n hn X Y hX hY => ?_⟩
      · rw [l1.2 (q + 32) (by omega), l1.2 (q + 33) (by omega), l1.2 (q + 34) (by omega), l1.2 (q + 35) (by omega), v2.1, v2.2.1, v2.2.2.1, v2.2.2.2]
        exact v1
      · obtain ⟨-, d2, d3, -⟩ := ch_px hi s1 hj.cr hpr s3 s5 s2 m (n := n) hn
        rw [l2 n (by omega)]
        have eX : fx_i (ch1 q i k) q 38 + (nI n - nI n / fx_i (ch1 q i k) q 40 * fx_i (ch1 q i k) q 40) = X := iz_eq.mpr (by rw [d2, hX])
        have eY : fx_i (ch1 q i k) q 39 + nI n / fx_i (ch1 q i k) q 40 = Y := iz_eq.mpr (by rw [d3, hY])
        rw [eX, eY]
set_option maxHeartbeats 1000000 in
theorem A_scanSwap {h : fx_H} {w q f b : Nat} (hj : J h w q f b) (hr : (10 : Int32) ≤ fx_i h (w + 175) 3) (hs : fx_i h q 22 = 2) : o_FS_scan h w f b = .inl (some (v_MO_scan (k_FS_scan h w f b) q)) ∧ J (k_MO_scan (k_FS_scan h w f b) q) w q b f := by
  have hq := hj.at_
  have a10 : (10 : Int32).toInt = 10 := rfl
  obtain ⟨B1, B2, B3, B4, B5, B6⟩ := hj.beam
  obtain ⟨D1, D2, D3, D4⟩ := hj.desk
  have nR := iz_nn B2.1
  obtain ⟨E1, E2, E3, E4, E5⟩ := endFrame_v h (w + 175) (fx_i h (w + 89) 8)
  have e22 : fx_i (k_BE_endFrame h (w + 175) (fx_i h (w + 89) 8)) (w + 89) 6 = 2 := by rw [E1 _ _ (by omega) (by omega), hj.comp.1]; exact hs
  have ek : k_FS_scan h w f b = k_PN_become (k_CO_swap (k_BE_endFrame h (w + 175) (fx_i h (w + 89) 8)) (w + 89) f b) (w + 176) (w + 133) := by unfold k_FS_scan; rw [if_pos hr, if_pos e22]
  have eo : o_FS_scan h w f b = .inl (some (-1)) := by unfold o_FS_scan; rw [if_pos hr, if_pos e22]
  rw [ek, eo]
  rw [iz_le, a10, B1] at hr
  generalize k_BE_endFrame h (w + 175) (fx_i h (w + 89) 8) = A at *
  have s8 : fx_i (k_CO_swap A (w + 89) f b) (w + 89) 8 = fx_i A (w + 89) 7 := by
    unfold k_CO_swap
    rw [fx_i_wi, if_neg (fun z => by omega), fx_i_wi, if_pos ⟨rfl, rfl⟩]
  have s6 : fx_i (k_CO_swap A (w + 89) f b) (w + 89) 6 = 0 := by
    unfold k_CO_swap
    rw [fx_i_wi, if_pos ⟨rfl, rfl⟩]
  have so : ∀ a j, ¬ (a = w + 89 ∧ (j = 8 ∨ j = 6)) → fx_i (k_CO_swap A (w + 89) f b) a j = fx_i A a j := fun a j g => by
    unfold k_CO_swap
    rw [fx_i_wi, if_neg (fun z => g ⟨z.1, Or.inr z.2⟩), fx_i_wi, if_neg (fun z => g ⟨z.1, Or.inl z.2⟩)]
    rfl
  generalize k_CO_swap A (w + 89) f b = S at *
  obtain ⟨P1, P2⟩ := become_v (X := S) (n := w + 176) (m := w + 133) (by omega)
  generalize k_PN_become S (w + 176) (w + 133) = Y at *
  have yh : ∀ a j, a ≠ w + 175 → a ≠ w + 185 → ¬ (a = w + 89 ∧ (j = 8 ∨ j = 6)) → ¬ (w + 177 ≤ a ∧ a ≤ w + 183) → fx_i Y a j = fx_i h a j := fun a j g1 g2 g3 g4 => by rw [P1 a j (by omega), so a j g3, E1 a j g1 (by omega)]
  have yq : ∀ j, fx_i Y q j = fx_i h q j := fun j => yh _ _ (by omega) (by omega) (by omega) (by omega)
  have ym : ∀ o j, fx_i Y (q + o) j = fx_i h (q + o) j := fun o j => yh _ _ (by omega) (by omega) (by omega) (by omega)
  have w42 : (10 : Int32) ≤ fx_i (fx_wi Y q 0 (0 : Int32)) q 42 := by rw [w0 _ _ _ _ (by decide), yq, iz_le, a10]; exact hr
  generalize hZ : fx_wi (fx_wi Y q 0 (0 : Int32)) q 42 (0 : Int32) = Z at *
  have zq : ∀ j, j ≠ 0 → j ≠ 42 → fx_i Z q j = fx_i h q j := fun j g1 g2 => by rw [← hZ, fx_i_wi, if_neg (fun z => g2 z.2), fx_i_wi, if_neg (fun z => g1 z.2), yq]
  have z42 : fx_i Z q 42 = 0 := by rw [← hZ, fx_i_wi, if_pos ⟨rfl, rfl⟩]
  have zo : ∀ a j, a ≠ q → fx_i Z a j = fx_i Y a j := fun a j g => by rw [← hZ, fx_i_wi, if_neg (fun z => g z.1), fx_i_wi, if_neg (fun z => g z.1)]
  have zm : ∀ o j, 0 < o → fx_i Z (q + o) j = fx_i h (q + o) j := fun o j g => (zo _ _ (by omega)).trans (ym o j)
  have lm := mfr_look Z q
  have l22 : fx_i (k_MO_look Z q) q 22 = 2 := by rw [mfr_f lm (by decide), zq 22 (by decide) (by decide)]; exact hs
  have kk : k_MO_scan Y q = k_MO_change (k_MO_look Z q) q := by unfold k_MO_scan; rw [if_pos w42, hZ, if_pos l22]
  have kv : v_MO_scan Y q = -1 := by unfold v_MO_scan; rw [if_pos w42, hZ, if_pos l22]
  rw [kk, kv]
  refine ⟨rfl, ?_⟩
  have jm : ∀ i, i < 2 → JTm Z q i := fun i hi => by
    have := JT_m (hj.set_ i hi)
    unfold JTm at this ⊢
    simp only [zm 32 _ (by decide), zm 33 _ (by decide), zm 34 _ (by decide), zm 35 _ (by decide)]
    exact this
  have lv := look_v (h := Z) (q := q) (by rw [zq 23 (by decide) (by decide)]; exact back_in hj.mem) (jm 0 (by decide)) (jm 1 (by decide))
  obtain ⟨l45, l43⟩ := look_q Z q
  have lc : ∀ n, lkC Z q n = lkC h q n := fun n => lkC_congr (fun o _ _ j => zm o j (by omega)) (zq 23 (by decide) (by decide)) (zm 20 _ (by decide))
  generalize k_MO_look Z q = L at *
  have lmm : ∀ o j, 0 < o → o ≠ 37 → fx_i L (q + o) j = fx_i h (q + o) j := fun o j g1 g2 => (mfr_at lm ⟨fun z => by simp only [List.mem_cons, List.mem_nil_iff, or_false] at z; omega, g1⟩ j).trans (zm o j g1)
  have lq : ∀ j, j ≠ 0 → j ≠ 42 → j ≠ 43 → j ≠ 45 → fx_i L q j = fx_i h q j := fun j g1 g2 g3 g4 => (mfr_f lm (fun z => by simp only [List.mem_cons, List.mem_nil_iff, or_false] at z; omega)).trans (zq j g1 g2)
  have lc_ : ∀ a j, a < q → fx_i L a j = fx_i Y a j := fun a j g => (mfr_out lm (by decide) (Or.inl g) j).trans (zo _ _ (by omega))
  -- change
  have ek2 : k_MO_change L q = fx_wi (fx_wi (b_MO_change q 1 (b_MO_change q 0 (fx_wi L q 23 (1 - fx_i h q 23)))) q 44 (fx_i h q 20)) q 22 (0 : Int32) := by
    unfold k_MO_change
    rw [it_s, it_s, it_0, lq 23 (by decide) (by decide) (by decide) (by decide), mfr_f (mfr_bch q 1 _) (by decide), mfr_f (mfr_bch q 0 _) (by decide), fx_i_wi, if_neg (fun z => absurd z.2 (by decide)), lq 20 (by decide) (by decide) (by decide) (by decide)]
  rw [ek2]
  have m0 : ∀ o, 1 ≤ o → o ≤ 26 → ∀ j, fx_i (fx_wi L q 23 (1 - fx_i h q 23)) (q + o) j = fx_i h (q + o) j := fun o g1 g2 j => (wi_q _ _ _ _ _ _ (by omega)).trans (lmm o j (by omega) (by omega))
  obtain ⟨c0a, c0b, c0c, c0d⟩ := ch_step hj (i := 0) (by decide) m0
  have cm0 := mfr_bch q 0 (fx_wi L q 23 (1 - fx_i h q 23))
  generalize b_MO_change q 0 (fx_wi L q 23 (1 - fx_i h q 23)) = C0 at *
  have m1 : ∀ o, 1 ≤ o → o ≤ 26 → ∀ j, fx_i C0 (q + o) j = fx_i h (q + o) j := fun o g1 g2 j => (mfr_at cm0 ⟨fun z => by simp only [List.mem_cons, List.mem_nil_iff, or_false] at z; omega, g1⟩ j).trans (m0 o g1 g2 j)
  obtain ⟨c1a, c1b, c1c, c1d⟩ := ch_step hj (i := 1) (by decide) m1
  have cm1 := mfr_bch q 1 C0
  generalize b_MO_change q 1 C0 = C1 at *
  generalize hk : fx_wi (fx_wi C1 q 44 (fx_i h q 20)) q 22 (0 : Int32) = k
  have kC : ∀ a j, a ≠ q → fx_i k a j = fx_i C1 a j := fun a j g => by rw [← hk, fx_i_wi, if_neg (fun z => g z.1), fx_i_wi, if_neg (fun z => g z.1)]
  have kc : ∀ a j, a < q → fx_i k a j = fx_i Y a j := fun a j g => by rw [kC a j (by omega), mfr_out cm1 (by decide) (Or.inl g), mfr_out cm0 (by decide) (Or.inl g), fx_i_wi, if_neg (fun z => by omega), lc_ a j g]
  have km : ∀ o j, 0 < o → (o < 32 ∨ 36 < o) → o ≠ 37 → fx_i k (q + o) j = fx_i h (q + o) j := fun o j g1 g2 g3 => by rw [kC _ _ (by omega), mfr_at cm1 ⟨fun z => by simp only [List.mem_cons, List.mem_nil_iff, or_false] at z; omega, g1⟩, mfr_at cm0 ⟨fun z => by simp only [List.mem_cons, List.mem_nil_iff, or_false] at z; omega, g1⟩, wi_q _ _ _ _ _ _ g1, lmm o j g1 g3]
  have k37 : ∀ j, fx_i k (q + 37) j = fx_i L (q + 37) j := fun j => by rw [kC _ _ (by omega), mfr_at cm1 (by decide), mfr_at cm0 (by decide), wi_q _ _ _ _ _ _ (by decide)]
  have kqL : ∀ j, j ≠ 22 → j ≠ 44 → ¬ (38 ≤ j ∧ j ≤ 41) → fx_i k q j = fx_i (fx_wi L q 23 (1 - fx_i h q 23)) q j := fun j g1 g2 g3 => by rw [← hk, fx_i_wi, if_neg (fun z => g1 z.2), fx_i_wi, if_neg (fun z => g2 z.2), mfr_f cm1 (fun z => by simp only [List.mem_cons, List.mem_nil_iff, or_false] at z; omega), mfr_f cm0 (fun z => by simp only [List.mem_cons, List.mem_nil_iff, or_false] at z; omega)]
  have kq : ∀ j, j ≠ 0 → j ≠ 22 → j ≠ 23 → j ≠ 42 → j ≠ 43 → j ≠ 44 → j ≠ 45 → ¬ (38 ≤ j ∧ j ≤ 41) → fx_i k q j = fx_i h q j := fun j g1 g2 g3 g4 g5 g6 g7 g8 => by rw [kqL j g2 g6 g8, fx_i_wi, if_neg (fun z => g3 z.2), lq j g1 g4 g5 g7]
  have k22 : fx_i k q 22 = 0 := by rw [← hk, fx_i_wi, if_pos ⟨rfl, rfl⟩]
  have k44 : fx_i k q 44 = fx_i h q 20 := by rw [← hk, fx_i_wi, if_neg (fun z => by omega), fx_i_wi, if_pos ⟨rfl, rfl⟩]
  have k23 : fx_i k q 23 = 1 - fx_i h q 23 := by rw [kqL 23 (by decide) (by decide) (by decide), fx_i_wi, if_pos ⟨rfl, rfl⟩]
  have k42 : fx_i k q 42 = 0 := by rw [kqL 42 (by decide) (by decide) (by decide), fx_i_wi, if_neg (fun z => by omega), mfr_f lm (by decide), z42]
  have k43 : fx_i k q 43 = fx_i h q 43 + 1 := by rw [kqL 43 (by decide) (by decide) (by decide), fx_i_wi, if_neg (fun z => by omega), l43, zq 43 (by decide) (by decide)]
  have k45 : fx_i k q 45 = fx_i h q 44 := by rw [kqL 45 (by decide) (by decide) (by decide), fx_i_wi, if_neg (fun z => by omega), l45, zq 44 (by decide) (by decide)]
  have kh : ∀ a j, w ≤ a → a < w + 191 → a ≠ w + 175 → a ≠ w + 185 → ¬ (a = w + 89 ∧ (j = 8 ∨ j = 6)) → ¬ (w + 177 ≤ a ∧ a ≤ w + 183) → fx_i k a j = fx_i h a j := fun a j _ _ g1 g2 g3 g4 => (kc a j (by omega)).trans (yh a j g1 g2 g3 g4)
  have kset : ∀ i, i < 2 → (fx_i h (q + 26) i = -1 → fx_i k (q + 34) i = 0 ∧ fx_i k (q + 35) i = 0) ∧ (∀ s, s < 10 → fx_i h (q + 26) i = nI s → ¬ shE h q (20 + s) → (shR h q (20 + s) - shX h q (20 + s)) * (shB h q (20 + s) - shY h q (20 + s)) ≤ 24 →
      ((fx_i k (q + 32) i).toInt = shX h q (20 + s) ∧ (fx_i k (q + 33) i).toInt = shY h q (20 + s) ∧ (fx_i k (q + 34) i).toInt = shR h q (20 + s) - shX h q (20 + s) ∧ (fx_i k (q + 35) i).toInt = shB h q (20 + s) - shY h q (20 + s)) ∧
      ∀ n : Nat, (n : Int) < (shR h q (20 + s) - shX h q (20 + s)) * (shB h q (20 + s) - shY h q (20 + s)) → ∀ X Y : Int32, X.toInt = shX h q (20 + s) + ((n % (shR h q (20 + s) - shX h q (20 + s)).toNat : Nat) : Int) → Y.toInt = shY h q (20 + s) + ((n / (shR h q (20 + s) - shX h q (20 + s)).toNat : Nat) : Int) → fx_i k (q + 36) (24 * i + n) = v_MO_pixelOf h q (nI (20 + s)) X Y) := by
    intro i hi
    have h1 : i = 0 ∨ i = 1 := by omega
    rcases h1 with rfl | rfl
    · have t : ∀ o, 32 ≤ o → o ≤ 35 → fx_i k (q + o) 0 = fx_i C0 (q + o) 0 := fun o g1 g2 => (kC _ _ (by omega)).trans (c1a o g1 g2 0 (by decide))
      rw [t 32 (by decide) (by decide), t 33 (by decide) (by decide), t 34 (by decide) (by decide), t 35 (by decide) (by decide)]
      refine ⟨c0c, fun s g1 g2 g3 g4 => ⟨(c0d s g1 g2 g3 g4).1, fun n hn X Y hX hY => ?_⟩⟩
      rw [kC _ _ (by omega), c1b _ (by omega)]
      exact (c0d s g1 g2 g3 g4).2 n hn X Y hX hY
    · rw [kC _ _ (by omega), kC _ _ (by omega), kC _ _ (by omega), kC _ _ (by omega)]
      refine ⟨c1c, fun s g1 g2 g3 g4 => ⟨(c1d s g1 g2 g3 g4).1, fun n hn X Y hX hY => ?_⟩⟩
      rw [kC _ _ (by omega)]
      exact (c1d s g1 g2 g3 g4).2 n hn X Y hX hY
  clear c0a c0b c0c c0d c1a c1b c1c c1d
  have hP := hj.pileT.1
  have hB := bk_2 hj.mem
  have mm : ∀ o, 1 ≤ o → o ≤ 26 → ∀ j, fx_i k (q + o) j = fx_i h (q + o) j := fun o h1 h2 j => km o j (by omega) (by omega) (by omega)
  refine J.mk (at_ := hq) (mem := ?_) (pics := ?_) (pileC := ?_) (pileT := ?_) (cr := ?_) (num := ?_) (desk := ?_) (free := ?_) (miss := ?_) (comp := ?_) (plan := ?_) (set_ := ?_) (beam := ?_)
  · rcases hj.mem with ⟨z1, z2, z3⟩ | ⟨z1, z2, z3⟩
    · exact Or.inr ⟨by rw [k23, z1]; rfl, z3, z2⟩
    · exact Or.inl ⟨by rw [k23, z1]; rfl, z3, z2⟩
  · intro s hs9
    have pc : ∀ a p, w + 1 < a → a + 3 < w + 141 → (a + 3 < w + 89 ∨ w + 89 < a) → p < 30 → PR h a q p → PR k a q p := fun a p h1 h2 h3 h4 hp => PR_congr (fun j _ => kh _ _ (by omega) (by omega) (by omega) (by omega) (by omega) (by omega)) (fun j _ => kh _ _ (by omega) (by omega) (by omega) (by omega) (by omega) (by omega)) (fun j _ => kh _ _ (by omega) (by omega) (by omega) (by omega) (by omega) (by omega)) (fun j _ => kh _ _ (by omega) (by omega) (by omega) (by omega) (by omega) (by omega)) (fun o h4 h5 => mm o (by omega) (by omega) _) (fun j _ => mm 17 (by decide) (by decide) _) ⟨mm 3 (by decide) (by decide) _, mm 4 (by decide) (by decide) _⟩ hp
    obtain ⟨p1, p2, p3⟩ := hj.pics s hs9
    exact ⟨pc _ _ (by omega) (by omega) (by omega) (by omega) p1, pc _ _ (by omega) (by omega) (by omega) (by omega) p2, pc _ _ (by omega) (by omega) (by omega) (by omega) p3⟩
  · exact PS_congr (by decide) (kh _ _ (by omega) (by omega) (by omega) (by omega) (by omega) (by omega)) (fun l _ => kh _ _ (by omega) (by omega) (by omega) (by omega) (by omega) (by omega)) (fun t ht => kh _ _ (by omega) (by omega) (by omega) (by omega) (by omega) (by omega)) (fun t _ => mm 7 (by decide) (by decide) _) (fun t _ => mm 10 (by decide) (by decide) _) hj.pileC
  · exact PS_congr (by decide) (kh _ _ (by omega) (by omega) (by omega) (by omega) (by omega) (by omega)) (fun l _ => kh _ _ (by omega) (by omega) (by omega) (by omega) (by omega) (by omega)) (fun t ht => kh _ _ (by omega) (by omega) (by omega) (by omega) (by omega) (by omega)) (fun t _ => mm 7 (by decide) (by decide) _) (fun t _ => mm 10 (by decide) (by decide) _) hj.pileT
  · intro s hs9
    rw [mm 3 (by decide) (by decide), mm 4 (by decide) (by decide)]
    exact hj.cr s hs9
  · exact fun s hs9 => JS_congr (kh _ _ (by omega) (by omega) (by omega) (by omega) (by omega) (by omega)) (kh _ _ (by omega) (by omega) (by omega) (by omega) (by omega) (by omega)) (kh _ _ (by omega) (by omega) (by omega) (by omega) (by omega) (by omega)) (kh _ _ (by omega) (by omega) (by omega) (by omega) (by omega) (by omega)) (fun o h1 h2 => mm o h1 (by omega) _) (mm 7 (by decide) (by decide) _) (mm 7 (by decide) (by decide) _) (hj.num s hs9)
  · exact JD_congr (fun _ _ => kh _ _ (by omega) (by omega) (by omega) (by omega) (by omega) (by omega)) (kh _ _ (by omega) (by omega) (by omega) (by omega) (by omega) (by omega)) (kh _ _ (by omega) (by omega) (by omega) (by omega) (by omega) (by omega)) (fun _ _ => mm 19 (by decide) (by decide) _) (kq _ (by decide) (by decide) (by decide) (by decide) (by decide) (by decide) (by decide) (by decide)) (kq _ (by decide) (by decide) (by decide) (by decide) (by decide) (by decide) (by decide) (by decide)) hj.desk
  · rw [kh (w + 1) 6 (by omega) (by omega) (by omega) (by omega) (by omega) (by omega), fp_congr (fun s _ => mm 1 (by decide) (by decide) s) (fun s _ => mm 3 (by decide) (by decide) s) (fun s _ => mm 4 (by decide) (by decide) s)]
    exact hj.free
  · exact fun i hi => JM_congr (fun j _ => kh _ _ (by omega) (by omega) (by omega) (by omega) (by omega) (by omega)) (kh _ _ (by omega) (by omega) (by omega) (by omega) (by omega) (by omega)) (fun i hi j => kh _ _ (by omega) (by omega) (by omega) (by omega) (by omega) (by omega)) (fun j _ => mm 20 (by decide) (by decide) _) (mm 21 (by decide) (by decide) _) (fun o h1 h2 i _ => mm o (by omega) (by omega) _) (hj.miss i hi)
  · have y6 : fx_i k (w + 89) 6 = 0 := by rw [kc _ _ (by omega), P1 _ _ (by omega), s6]
    have y8 : fx_i k (w + 89) 8 = fx_i h q 20 := by rw [kc _ _ (by omega), P1 _ _ (by omega), s8, E1 _ _ (by omega) (by omega), D3]
    exact ⟨by rw [y6, k22], Or.inl k22, by rw [y8, k44], fun z => absurd (k22.symm.trans z) (by decide)⟩
  · exact fun i hi => JN_congr (JP_sOk hj.cr hj.pics) (kh _ _ (by omega) (by omega) (by omega) (by omega) (by omega) (by omega)) (mm 26 (by decide) (by decide) _) (fun j => kh _ _ (by omega) (by omega) (by omega) (by omega) (by omega) (by omega)) (fun j => kh _ _ (by omega) (by omega) (by omega) (by omega) (by omega) (by omega)) (fun s hs j _ => kh _ _ (by omega) (by omega) (by omega) (by omega) (by omega) (by omega)) (fun s hs j _ => kh _ _ (by omega) (by omega) (by omega) (by omega) (by omega) (by omega)) (fun s hs j _ => kh _ _ (by omega) (by omega) (by omega) (by omega) (by omega) (by omega)) (fun s _ o h1 h2 => mm o (by omega) (by omega) _) (hj.plan i hi)
  · intro i hi
    obtain ⟨jn1, jn2⟩ := hj.plan i hi
    obtain ⟨q1, q2, q3⟩ := P2 i hi
    have f177 : w + 176 + 1 = w + 177 := by omega
    have f179 : w + 176 + 3 + i = w + 179 + i := by omega
    have f182 : w + 176 + 6 + i = w + 182 + i := by omega
    have f134 : w + 133 + 1 = w + 134 := by omega
    have f136 : w + 133 + 3 + i = w + 136 + i := by omega
    have f139 : w + 133 + 6 + i = w + 139 + i := by omega
    rw [f177, f134] at q1
    rw [f179, f136] at q2
    rw [f182, f139] at q3
    have sh_ : ∀ a j, w + 90 ≤ a → a < w + 175 → fx_i S a j = fx_i h a j := fun a j g1 g2 => (so a j (by omega)).trans (E1 a j (by omega) (by omega))
    have k177 : fx_i k (w + 177) i = fx_i h (q + 26) i := by rw [kc _ _ (by omega), q1, sh_ _ _ (by omega) (by omega), jn1]
    obtain ⟨ks1, ks2⟩ := kset i hi
    rcases jn2 with z | ⟨s, t1, t2, t3, t4, t5, t6⟩
    · exact Or.inl ⟨by rw [k177, z], ks1 z⟩
    · obtain ⟨⟨r0, r1, r2, r3⟩, rp⟩ := ks2 s t1 t2 t3 t5
      have hpr := (hj.pics s t1).2.2
      have ht := shE_there t3
      obtain ⟨⟨x0, x1, x2⟩, y0, y1, y2⟩ := JN_rg (hpr.2.2 (fun z => ht (hpr.1.mp z))).2.2.2.1 t3
      obtain ⟨i0, i1, i2, i3⟩ := hpr.2.1.2.2 t3
      have kr : ∀ j, j < 4 → fx_i k (w + 179 + i) j = fx_i h (w + 93 + 4 * s + 3) j := fun j g => by rw [kc _ _ (by omega), q2 j g, sh_ _ _ (by omega) (by omega), t4 j g]
      refine Or.inr ⟨?_, ?_, ?_, ?_, ?_, ?_, ?_, fun n hn => ?_⟩
      · rw [k177, t2, iz_eq, nI_toInt (by omega)]
        have : (-1 : Int32).toInt = -1 := rfl
        omega
      · rw [kr 0 (by decide)]; exact iz_eq.mpr (by rw [i0, r0])
      · rw [kr 1 (by decide)]; exact iz_eq.mpr (by rw [i1, r1])
      · rw [kr 2 (by decide)]; exact iz_eq.mpr (by rw [i2, r2])
      · rw [kr 3 (by decide)]; exact iz_eq.mpr (by rw [i3, r3])
      · rw [r0, r1, r2, r3]; omega
      · rw [r2, r3]; exact t5
      · rw [r2, r3] at hn
        have w24 : n < 24 := by omega
        have u0 : (fx_i h (w + 136 + i) 0).toInt = shX h q (20 + s) := by rw [t4 0 (by decide)]; exact i0
        have u1 : (fx_i h (w + 136 + i) 1).toInt = shY h q (20 + s) := by rw [t4 1 (by decide)]; exact i1
        have u2 : (fx_i h (w + 136 + i) 2).toInt = shR h q (20 + s) - shX h q (20 + s) := by rw [t4 2 (by decide)]; exact i2
        have u3 : (fx_i h (w + 136 + i) 3).toInt = shB h q (20 + s) - shY h q (20 + s) := by rw [t4 3 (by decide)]; exact i3
        have v2 := iz_nn (a := fx_i h (w + 136 + i) 2) (by omega)
        have v3 := iz_nn (a := fx_i h (w + 136 + i) 3) (by omega)
        have eW : (fx_i h (w + 136 + i) 2).toNatClampNeg = (shR h q (20 + s) - shX h q (20 + s)).toNat := by omega
        have W0 : 0 < (shR h q (20 + s) - shX h q (20 + s)).toNat := by omega
        have dm := Nat.div_add_mod n (shR h q (20 + s) - shX h q (20 + s)).toNat
        have ml := Nat.mod_lt n W0
        have dl : n / (shR h q (20 + s) - shX h q (20 + s)).toNat < (fx_i h (w + 136 + i) 3).toNatClampNeg := by
          refine Nat.div_lt_of_lt_mul ?_
          have : (((shR h q (20 + s) - shX h q (20 + s)).toNat * (fx_i h (w + 136 + i) 3).toNatClampNeg : Nat) : Int) = (shR h q (20 + s) - shX h q (20 + s)) * (shB h q (20 + s) - shY h q (20 + s)) := by
            rw [Int.natCast_mul, v3, u3]
            congr 1
            omega
          omega
        have cl := t6 (n / (shR h q (20 + s) - shX h q (20 + s)).toNat) (n % (shR h q (20 + s) - shX h q (20 + s)).toNat) dl (by rw [eW]; exact ml)
        rw [eW, dm] at cl
        have rp' := rp n hn
        generalize n / (shR h q (20 + s) - shX h q (20 + s)).toNat = a9 at *
        generalize n % (shR h q (20 + s) - shX h q (20 + s)).toNat = c9 at *
        have tc : (fx_i h (w + 136 + i) 0 + nI c9).toInt = shX h q (20 + s) + (c9 : Int) := by rw [jz_ti (by omega) (by omega), u0]
        have ta : (fx_i h (w + 136 + i) 1 + nI a9).toInt = shY h q (20 + s) + (a9 : Int) := by rw [jz_ti (by omega) (by omega), u1]
        have hh : ¬ rHas h (w + 93 + 4 * s + 3) (fx_i h (w + 136 + i) 0 + nI c9) (fx_i h (w + 136 + i) 1 + nI a9) = 0 := (PR_has hpr _ _).mpr ⟨t3, by rw [tc]; omega, by rw [ta]; omega⟩
        rw [kc _ _ (by omega), q3 n w24, sh_ _ _ (by omega) (by omega), cl, (PR_color (by omega) hj.cr hpr _ _ hh).2.1]
        exact (rp' _ _ tc ta).symm
  · have e185 : w + 175 + 10 = w + 185 := by omega
    have e184 : w + 175 + 9 = w + 184 := by omega
    rw [e185, e184] at E2
    have ya : ∀ a j, a = w + 175 ∨ a = w + 185 → fx_i Y a j = fx_i A a j := fun a j g => (P1 a j (by omega)).trans (so a j (by omega))
    refine ⟨by rw [kc _ _ (by omega), ya _ _ (Or.inl rfl), E3, k42], by rw [k42]; decide, by rw [kc _ _ (by omega), ya _ _ (Or.inl rfl), E4, k43, B3], by rw [kc _ _ (by omega), ya _ _ (Or.inl rfl), E5, k45]; exact hj.comp.2.2.1, fun n hn => ?_, fun n hn => ?_⟩
    · rw [kc _ _ (by omega), ya _ _ (Or.inr rfl), E2 n hn, k37, lv n hn, lc n]
      exact B6 n (by omega)
    · rw [k42] at hn
      exact absurd hn (by show ¬ n < 20 * 0; omega)
