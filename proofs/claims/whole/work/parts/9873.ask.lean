/-! ===== calls that only ask ===== -/
/-- what the law's wrapper makes of a class's end: its code -/
def cod (o : fx_O) : Int32 := match o with
  | .inl _ => 0
  | .inr E => if E = "java/lang/IllegalArgumentException" then 1 else 2
theorem J_w {h : fx_H} {w q f b : Nat} (hj : J h w q f b) (v : Int32) : J (fx_wi h q 0 v) w q f b := J_ag (ag_wf h w q 0 v hj.at_ (Or.inl rfl)) hj
theorem w0 (h : fx_H) (q j : Nat) (v : Int32) (hj : j ≠ 0) : fx_i (fx_wi h q 0 v) q j = fx_i h q j := by rw [fx_i_wi, if_neg (fun z => hj z.2)]
theorem w00 (h : fx_H) (q : Nat) (v : Int32) : fx_i (fx_wi h q 0 v) q 0 = v := by rw [fx_i_wi, if_pos ⟨rfl, rfl⟩]
theorem A_state {h : fx_H} {w q f b : Nat} (hj : J h w q f b) : o_FS_state h w f b = .inl (some (v_MO_state h q)) ∧ J (k_MO_state h q) w q f b := by
  refine ⟨?_, J_w hj 0⟩
  unfold o_FS_state v_MO_state
  rw [w0 _ _ _ _ (by decide), hj.comp.1]
theorem A_free {h : fx_H} {w q f b : Nat} (hj : J h w q f b) : o_FS_free h w f b = .inl (some (v_MO_free h q)) ∧ J (k_MO_free h q) w q f b := by
  refine ⟨?_, J_w hj 0⟩
  unfold o_FS_free v_MO_free
  rw [hj.free, fp_congr (fun s _ => wi_q _ _ _ _ _ _ (by decide)) (fun s _ => wi_q _ _ _ _ _ _ (by decide)) (fun s _ => wi_q _ _ _ _ _ _ (by decide))]
theorem A_count {h : fx_H} {w q f b : Nat} (hj : J h w q f b) (z : Int32) : o_FS_count h w f b z = .inl (some (v_MO_count h q z)) ∧ J (k_MO_count h q z) w q f b := by
  have hJ := J_w hj 0
  refine ⟨?_, (by unfold k_MO_count; (repeat' split) <;> exact hJ)⟩
  unfold o_FS_count v_MO_count
  rw [w0 _ _ _ _ (by decide), w0 _ _ _ _ (by decide), w0 _ _ _ _ (by decide), hj.beam.2.2.1, hj.beam.2.2.2.1, hj.desk.2.2.1]
  repeat' split
  all_goals rfl
theorem J_planes {h : fx_H} {w q f b : Nat} (hj : J h w q f b) (i : Nat) (hi : i < 2) : fx_i h (w + 134) i = fx_i h (q + 26) i := (hj.plan i hi).1
theorem A_plane {h : fx_H} {w q f b : Nat} (hj : J h w q f b) (i : Int32) : pre_MO_plane h q i ∧ o_FS_plane h w f b i = .inl (some (v_MO_plane h q i)) ∧ J (k_MO_plane h q i) w q f b := by
  have hJ := J_w hj 0
  refine ⟨⟨fun z => by rw [z]; unfold vp_in; decide, fun _ z => by rw [z]; unfold vp_in; decide⟩, ?_, (by unfold k_MO_plane; (repeat' split) <;> exact hJ)⟩
  unfold o_FS_plane v_MO_plane jW
  have e0 : (0 : Int32).toNatClampNeg = 0 := rfl
  have e1 : (1 : Int32).toNatClampNeg = 1 := rfl
  by_cases h0 : i = 0
  · subst h0
    rw [if_pos rfl, if_neg (by decide), wi_q _ _ _ _ _ _ (by decide), e0]
    exact congrArg (fun x => Sum.inl (some x)) (J_planes hj 0 (by decide))
  · by_cases h1 : i = 1
    · subst h1
      rw [if_neg h0, if_pos rfl, if_neg (by decide), wi_q _ _ _ _ _ _ (by decide), e1]
      exact congrArg (fun x => Sum.inl (some x)) (J_planes hj 1 (by decide))
    · rw [if_neg h0, if_neg h1, if_pos]
      rw [if_neg]
      intro z
      rw [iz_lt, iz_lt] at z
      rw [iz_eq] at h0 h1
      have a0 : (0 : Int32).toInt = 0 := rfl
      have a1 : (1 : Int32).toInt = 1 := rfl
      omega
theorem jS_px (h : fx_H) (x y : Int32) : (jS x y = 0 ↔ v_MO_isPixel h x y = 0) ∧ (¬ jS x y = 0 → (0 ≤ x.toInt ∧ x.toInt < 20) ∧ 0 ≤ y.toInt ∧ y.toInt < 10) := by
  have a0 : (0 : Int32).toInt = 0 := rfl
  have a1 : (19 : Int32).toInt = 19 := rfl
  have a2 : (9 : Int32).toInt = 9 := rfl
  have a3 : (20 : Int32).toInt = 20 := rfl
  have a4 : (10 : Int32).toInt = 10 := rfl
  have k1 : ∀ v lo hi : Int32, jW v lo hi = 0 ↔ ¬ (lo.toInt ≤ v.toInt ∧ v.toInt ≤ hi.toInt) := by
    intro v lo hi
    unfold jW
    split <;> rename_i z <;> rw [iz_lt, iz_lt] at z
    · exact ⟨fun w => absurd w (by decide), fun w => absurd (by omega) w⟩
    · exact ⟨fun _ => by omega, fun _ => rfl⟩
  have k2 : jS x y = 0 ↔ ¬ ((0 ≤ x.toInt ∧ x.toInt < 20) ∧ 0 ≤ y.toInt ∧ y.toInt < 10) := by
    unfold jS
    split <;> rename_i z <;> rw [k1, k1] at z
    · exact ⟨fun _ => by omega, fun _ => rfl⟩
    · exact ⟨fun w => absurd w (by decide), fun w => absurd (by omega) w⟩
  have k3 : v_MO_isPixel h x y = 0 ↔ ¬ ((0 ≤ x.toInt ∧ x.toInt < 20) ∧ 0 ≤ y.toInt ∧ y.toInt < 10) := by
    unfold v_MO_isPixel
    by_cases c1 : x < 0
    · rw [if_pos c1]
      rw [iz_lt] at c1
      exact ⟨fun _ => by omega, fun _ => rfl⟩
    rw [if_neg c1]
    by_cases c2 : (20 : Int32) ≤ x
    · rw [if_pos c2]
      rw [iz_le] at c2
      exact ⟨fun _ => by omega, fun _ => rfl⟩
    rw [if_neg c2]
    by_cases c3 : y < 0
    · rw [if_pos c3]
      rw [iz_lt] at c3
      exact ⟨fun _ => by omega, fun _ => rfl⟩
    rw [if_neg c3]
    by_cases c4 : (10 : Int32) ≤ y
    · rw [if_pos c4]
      rw [iz_le] at c4
      exact ⟨fun _ => by omega, fun _ => rfl⟩
    rw [if_neg c4]
    rw [iz_lt] at c1 c3
    rw [iz_le] at c2 c4
    exact ⟨fun w => absurd w (by decide), fun w => absurd (by omega) w⟩
  exact ⟨k2.trans k3.symm, fun z => Decidable.byContradiction fun w => z (k2.mpr w)⟩
theorem scr_ix {x y : Int32} (h : (0 ≤ x.toInt ∧ x.toInt < 20) ∧ 0 ≤ y.toInt ∧ y.toInt < 10) : (20 * y + x).toInt = 20 * y.toInt + x.toInt ∧ y * 20 + x = 20 * y + x := by
  have a3 : (20 : Int32).toInt = 20 := rfl
  have t1 : (20 * y).toInt = 20 * y.toInt := by rw [iz_mul (by rw [a3]; omega), a3]
  exact ⟨by rw [iz_add (by rw [t1]; omega), t1], by rw [Int32.mul_comm]⟩
theorem A_seen {h : fx_H} {w q f b : Nat} (hj : J h w q f b) (x y : Int32) : pre_MO_seen h q x y ∧ o_FS_seen h w f b x y = .inl (some (v_MO_seen h q x y)) ∧ J (k_MO_seen h q x y) w q f b := by
  have hJ := J_w hj 0
  obtain ⟨k1, k2⟩ := jS_px (fx_wi h q 0 0) x y
  refine ⟨fun z => ?_, ?_, (by unfold k_MO_seen; (repeat' split) <;> exact hJ)⟩
  · have hr := k2 (fun w => z (k1.mp w))
    have := (scr_ix hr).1
    exact iz_in (by omega) (by omega)
  · unfold o_FS_seen v_MO_seen
    by_cases z : jS x y = 0
    · rw [if_pos z, if_pos (k1.mp z)]
    · have hr := k2 z
      obtain ⟨t1, t2⟩ := scr_ix hr
      have n1 := iz_nn (a := 20 * y + x) (by omega)
      rw [if_neg z, if_neg (fun w => z (k1.mpr w)), wi_q _ _ _ _ _ _ (by decide), t2]
      exact congrArg (fun x => Sum.inl (some x)) (hj.beam.2.2.2.2.1 _ (by omega))
/-- the memory that is drawn into-/
theorem J_back {h : fx_H} {w q f b : Nat} (hj : J h w q f b) : b = w + 143 + 11 * bk h q ∧ f = w + 143 + 11 * (1 - bk h q) ∧ fx_i h q 23 = nI (bk h q) := by
  unfold bk
  rcases hj.mem with z | z
  · rw [z.1, z.2.1, z.2.2]
    exact ⟨rfl, rfl, rfl⟩
  · rw [z.1, z.2.1, z.2.2]
    exact ⟨rfl, rfl, rfl⟩
theorem mOk_of' {h : fx_H} {m : Nat} (h1 : 0 ≤ (fx_i h m 1).toInt ∧ (fx_i h m 1).toInt ≤ 6) : mOk h m := by
  have n1 := iz_nn h1.1
  unfold mOk mS
  exact ⟨by omega, iz_eq.mpr (by rw [nI_toInt (by omega)]; omega)⟩
theorem J_mOk {h : fx_H} {w q f b : Nat} (hj : J h w q f b) (m : Nat) (hm : m < 2) : mOk h (w + 143 + 11 * m + 2) := by
  obtain ⟨-, h1, h2, -⟩ := hj.miss m hm
  exact mOk_of' (by rw [h1]; exact h2)
theorem A_missed {h : fx_H} {w q f b : Nat} (hj : J h w q f b) (i z : Int32) : mOk h (b + 2) ∧ pre_MO_missed h q i z ∧ o_FS_missed h w f b i z = .inl (some (v_MO_missed h q i z)) ∧ J (k_MO_missed h q i z) w q f b := by
  have hJ := J_w hj 0
  obtain ⟨eb, -, e23⟩ := J_back hj
  have hB := bk_2 hj.mem
  obtain ⟨-, h1, h2, h3⟩ := hj.miss _ hB
  have c23 : fx_i (fx_wi h q 0 (0 : Int32)) q 23 = nI (bk h q) := (w0 _ _ _ _ (by decide)).trans e23
  have ccl : (nI (bk h q)).toNatClampNeg = bk h q := nI_clamp (by omega)
  have key : ¬ i < 0 → i < fx_i h (q + 21) (bk h q) → vp_in (7 * nI (bk h q) + i) 14 ∧ i.toNatClampNeg < (fx_i h (q + 21) (bk h q)).toNatClampNeg ∧ (7 * nI (bk h q) + i).toNatClampNeg = 7 * bk h q + i.toNatClampNeg := by
    intro c1 c2
    have a0 : (0 : Int32).toInt = 0 := rfl
    have a7 : (7 : Int32).toInt = 7 := rfl
    rw [iz_lt] at c1 c2
    have n1 := iz_nn (a := i) (by omega)
    have n2 := iz_nn h2.1
    have eB : (nI (bk h q)).toInt = ((bk h q : Nat) : Int) := nI_toInt (by omega)
    have t1 : (7 * nI (bk h q)).toInt = 7 * ((bk h q : Nat) : Int) := by rw [iz_mul (by rw [a7, eB]; omega), a7, eB]
    have t2 : (7 * nI (bk h q) + i).toInt = 7 * ((bk h q : Nat) : Int) + i.toInt := by rw [iz_add (by rw [t1]; omega), t1]
    have n3 := iz_nn (a := 7 * nI (bk h q) + i) (by omega)
    exact ⟨iz_in (by omega) (by omega), by omega, by omega⟩
  refine ⟨by rw [eb]; exact J_mOk hj _ hB, ?_, ?_, (by unfold k_MO_missed; (repeat' split) <;> exact hJ)⟩
  · unfold pre_MO_missed
    rw [c23, wi_q _ _ _ _ _ _ (by decide), ccl]
    refine ⟨fun _ => vp_in_nI hB (by decide), ?_⟩
    refine ⟨fun c1 c2 _ _ _ _ => (key c1 c2).1, fun c1 c2 _ _ _ => (key c1 c2).1, fun c1 c2 _ _ => (key c1 c2).1, fun c1 c2 _ => (key c1 c2).1⟩
  · unfold o_FS_missed v_MO_missed
    rw [c23, wi_q _ _ _ _ _ _ (by decide), wi_q _ _ _ _ _ _ (by decide), wi_q _ _ _ _ _ _ (by decide), wi_q _ _ _ _ _ _ (by decide), wi_q _ _ _ _ _ _ (by decide), ccl, eb, h1]
    by_cases c1 : i < 0
    · rw [if_pos c1, if_pos c1]
    rw [if_neg c1, if_neg c1]
    by_cases c2 : i < fx_i h (q + 21) (bk h q)
    · obtain ⟨k1, k2, k3⟩ := key c1 c2
      obtain ⟨⟨r0, r1, r2, r3⟩, -⟩ := h3 _ k2
      have ea : w + 143 + 11 * bk h q + 2 + 2 + i.toNatClampNeg = w + 143 + 11 * bk h q + 4 + i.toNatClampNeg := by omega
      rw [if_pos c2, if_pos c2, k3, ea, r0, r1, r2, r3]
      repeat' split
      all_goals rfl
    · rw [if_neg c2, if_neg c2]
