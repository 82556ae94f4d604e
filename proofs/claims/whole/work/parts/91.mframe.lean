/-! ===== what a piece of the Model changes: the arrays q + o (o in L), the fields F of the object ===== -/
def mfr (q : Nat) (L F : List Nat) (h k : fx_H) : Prop := fx_sm h k ∧ (∀ b, b ≠ q → (∀ o, o ∈ L → b ≠ q + o) → ∀ j, fx_i k b j = fx_i h b j) ∧ ∀ j, j ∉ F → fx_i k q j = fx_i h q j
theorem mfr_rf (q : Nat) (L F : List Nat) (h : fx_H) : mfr q L F h h := ⟨rfl, fun _ _ _ _ => rfl, fun _ _ => rfl⟩
theorem mfr_t {q : Nat} {L F : List Nat} {h k l : fx_H} (a : mfr q L F h k) (b : mfr q L F k l) : mfr q L F h l := ⟨fx_sm_t a.1 b.1, fun c h1 h2 j => (b.2.1 c h1 h2 j).trans (a.2.1 c h1 h2 j), fun j hj => (b.2.2 j hj).trans (a.2.2 j hj)⟩
theorem mfr_m {q : Nat} {L F L' F' : List Nat} {h k : fx_H} (a : mfr q L F h k) (hL : ∀ o, o ∈ L → o ∈ L') (hF : ∀ o, o ∈ F → o ∈ F') : mfr q L' F' h k := ⟨a.1, fun c h1 h2 j => a.2.1 c h1 (fun o ho => h2 o (hL o ho)) j, fun j hj => a.2.2 j (fun z => hj (hF j z))⟩
theorem mfr_wf {q : Nat} {L F : List Nat} {h k : fx_H} {j : Nat} {v : Int32} (a : mfr q L F h k) (hj : j ∈ F) : mfr q L F h (fx_wi k q j v) :=
  mfr_t a ⟨rfl, fun c h1 _ i => by rw [fx_i_wi, if_neg (fun z => h1 z.1)], fun i hi => by rw [fx_i_wi, if_neg (fun (z : q = q ∧ i = j) => hi (by rw [z.2]; exact hj))]⟩
theorem mfr_wi {q o : Nat} {L F : List Nat} {h k : fx_H} {j : Nat} {v : Int32} (a : mfr q L F h k) (ho : o ∈ L ∧ 0 < o) : mfr q L F h (fx_wi k (q + o) j v) :=
  mfr_t a ⟨rfl, fun c _ h2 i => by rw [fx_i_wi, if_neg (fun z => h2 o ho.1 z.1)], fun i _ => by rw [fx_i_wi, if_neg (fun z => by have := ho.2; omega)]⟩
theorem mfr_it {q : Nat} {L F : List Nat} {f : Nat → fx_H → fx_H} (hf : ∀ n k, mfr q L F k (f n k)) {h k : fx_H} (a : mfr q L F h k) : ∀ n, mfr q L F h (it f k n)
  | 0 => by rw [it_0]; exact a
  | n + 1 => by rw [it_s]; exact mfr_t (mfr_it hf a n) (hf n _)
theorem mfr_at {q c : Nat} {L F : List Nat} {h k : fx_H} (a : mfr q L F h k) (hc : c ∉ L ∧ 0 < c) (j : Nat) : fx_i k (q + c) j = fx_i h (q + c) j := by
  have h2 := hc.2
  refine a.2.1 _ (by omega) (fun o ho e => hc.1 ?_) j
  have e1 : c = o := by omega
  rw [e1]
  exact ho
theorem mfr_f {q j : Nat} {L F : List Nat} {h k : fx_H} (a : mfr q L F h k) (hj : j ∉ F) : fx_i k q j = fx_i h q j := a.2.2 j hj
theorem mfr_out {q b : Nat} {L F : List Nat} {h k : fx_H} (a : mfr q L F h k) (hL : ∀ o, o ∈ L → o < 38) (hb : b < q ∨ q + 38 ≤ b) (j : Nat) : fx_i k b j = fx_i h b j :=
  a.2.1 _ (by omega) (fun o ho e => by have := hL o ho; omega) j
theorem mfr_cut (h : fx_H) (q : Nat) (a b c d : Int32) : mfr q [] [38, 39, 40, 41] h (k_MO_cut h q a b c d) := by
  unfold k_MO_cut
  repeat' split
  all_goals repeat first | exact mfr_rf _ _ _ _ | refine mfr_wf ?_ (by decide)
theorem mfr_show (h : fx_H) (q : Nat) (p : Int32) : mfr q [] [38, 39, 40, 41] h (k_MO_show h q p) := by
  unfold k_MO_show
  repeat' split
  all_goals first | (refine mfr_t ?_ (mfr_cut _ _ _ _ _ _)) | skip
  all_goals repeat first | exact mfr_rf _ _ _ _ | refine mfr_wf ?_ (by decide)
theorem mfr_meet (h : fx_H) (q : Nat) (n : Int32) : mfr q [] [38, 39, 40, 41] h (k_MO_meet h q n) := by
  unfold k_MO_meet
  repeat' split
  · exact mfr_wf (mfr_rf _ _ _ _) (by decide)
  · exact mfr_t (mfr_wf (mfr_rf _ _ _ _) (by decide)) (mfr_show _ _ _)
  · exact mfr_t (mfr_t (mfr_wf (mfr_rf _ _ _ _) (by decide)) (mfr_show _ _ _)) (mfr_cut _ _ _ _ _ _)
  · exact mfr_wf (mfr_rf _ _ _ _) (by decide)
theorem mfr_copyPicture (h : fx_H) (q : Nat) (a t : Int32) : mfr q [7, 8, 9, 10, 11, 12, 13, 14, 15, 16, 17] [] h (k_MO_copyPicture h q a t) := by
  unfold k_MO_copyPicture
  refine mfr_it (fun n k => ?_) ?_ 96
  · unfold b_MO_copyPicture
    exact mfr_wi (mfr_rf _ _ _ _) (by decide)
  · unfold cq10 cq9 cq8 cq7 cq6 cq5 cq4 cq3 cq2 cq1
    repeat first | exact mfr_rf _ _ _ _ | refine mfr_wi ?_ (by decide)
/-! ===== Model's cut and show by their numbers ===== -/
def ctX (h : fx_H) (q : Nat) (fx : Int32) : Int32 := if fx_i h q 38 ≤ fx then fx else fx_i h q 38
def ctY (h : fx_H) (q : Nat) (fy : Int32) : Int32 := if fx_i h q 39 ≤ fy then fy else fx_i h q 39
def ctR (h : fx_H) (q : Nat) (tx : Int32) : Int32 := if tx ≤ fx_i h q 38 + fx_i h q 40 then tx else fx_i h q 38 + fx_i h q 40
def ctB (h : fx_H) (q : Nat) (ty : Int32) : Int32 := if ty ≤ fx_i h q 39 + fx_i h q 41 then ty else fx_i h q 39 + fx_i h q 41
def ctE (h : fx_H) (q : Nat) (fx fy tx ty : Int32) : Prop := ctR h q tx - ctX h q fx ≤ 0 ∨ ctB h q ty - ctY h q fy ≤ 0
set_option maxHeartbeats 2000000 in
theorem cut_v (h : fx_H) (q : Nat) (fx fy tx ty : Int32) : fx_i (k_MO_cut h q fx fy tx ty) q 38 = ctX h q fx ∧ fx_i (k_MO_cut h q fx fy tx ty) q 39 = ctY h q fy ∧
    (ctE h q fx fy tx ty → fx_i (k_MO_cut h q fx fy tx ty) q 40 = 0 ∧ fx_i (k_MO_cut h q fx fy tx ty) q 41 = 0) ∧
    (¬ ctE h q fx fy tx ty → fx_i (k_MO_cut h q fx fy tx ty) q 40 = ctR h q tx - ctX h q fx ∧ fx_i (k_MO_cut h q fx fy tx ty) q 41 = ctB h q ty - ctY h q fy) := by
  unfold k_MO_cut ctE ctX ctY ctR ctB
  simp (decide := true) only [fx_i_wi, true_and, and_true, and_false, if_true, if_false, and_self]
  split <;> split <;> split <;> split <;> split <;> (try split) <;> simp (decide := true) only [fx_i_wi, true_and, and_true, and_false, if_true, if_false, and_self, false_or, or_false, or_true, true_or, not_true_eq_false, not_false_eq_true, false_imp_iff, true_imp_iff, *]
theorem srch_rg (c : Nat → Bool) (b : Int32) : ∀ (n i : Nat), srch c (fun p => nI p) b i n = b ∨ ∃ p, i ≤ p ∧ p < i + n ∧ c p = true ∧ srch c (fun p => nI p) b i n = nI p
  | 0, i => Or.inl rfl
  | n + 1, i => by
    by_cases h : c i = true
    · exact Or.inr ⟨i, Nat.le_refl _, by omega, h, by rw [srch_yes _ _ _ _ _ h]⟩
    · rw [srch_no _ _ _ _ _ h]
      rcases srch_rg c b n (i + 1) with h1 | ⟨p, h1, h2, h3, h4⟩
      · exact Or.inl h1
      · exact Or.inr ⟨p, by omega, by omega, h3, h4⟩
theorem nth_rg (h : fx_H) (q kd : Nat) (m : Int32) : v_MO_nth h q kd m = -1 ∨ ∃ p, kd ≤ p ∧ p < kd + 10 ∧ ¬ fx_i h (q + 7) p = 0 ∧ itg (nthS h q kd p) 0 10 = m ∧ v_MO_nth h q kd m = nI p := by
  unfold v_MO_nth
  rcases srch_rg (fun p => decide (¬ fx_i h (q + 7) p = 0 ∧ itg (nthS h q kd p) 0 10 = m)) (-1) ((kd + 10) - kd) kd with h1 | ⟨p, h1, h2, h3, h4⟩
  · exact Or.inl h1
  · have h5 := of_decide_eq_true h3
    exact Or.inr ⟨p, h1, by omega, h5.1, h5.2, h4⟩
theorem nth_in {h : fx_H} {q kd : Nat} {m : Int32} (hkd : kd ≤ 20) (hn : ¬ v_MO_nth h q kd m < 0) : vp_in (v_MO_nth h q kd m) 30 := by
  rcases nth_rg h q kd m with h1 | ⟨p, h1, h2, -, -, h5⟩
  · rw [h1] at hn
    exact absurd (by decide) hn
  · rw [h5]
    exact vp_in_nI (by omega) (by decide)
theorem meet_pre {h : fx_H} {q : Nat} {n : Int32} (hk : vp_in (7 * fx_i h q 23 + fx_i h q 31) 14) : pre_MO_meet h q n := by
  have e : ∀ j, j ∉ [38, 39, 40, 41] → fx_i (k_MO_show (fx_wi h q 40 (0 : Int32)) q (v_MO_nth h q 20 n)) q j = fx_i h q j := fun j hj => (mfr_t (mfr_wf (mfr_rf _ _ _ _) (by decide)) (mfr_show (fx_wi h q 40 0) q (v_MO_nth h q 20 n))).2.2 j hj
  unfold pre_MO_meet
  rw [e 23 (by decide), e 31 (by decide)]
  refine ⟨fun h1 _ => nth_in (by decide) h1, ?_⟩
  try exact fun _ _ _ => hk
/-! ===== Model's show ===== -/
def mCR (h : fx_H) (q : Nat) : Prop := ∀ s, s < 10 → (0 ≤ (fx_i h (q + 3) s).toInt ∧ (fx_i h (q + 3) s).toInt ≤ 12) ∧ 0 ≤ (fx_i h (q + 4) s).toInt ∧ (fx_i h (q + 4) s).toInt ≤ 8
/-- a picture of the Model: its place, its clip within its pixels -/
def mpOk (h : fx_H) (q p : Nat) : Prop := (-20 ≤ (fx_i h (q + 8) p).toInt ∧ (fx_i h (q + 8) p).toInt ≤ 30) ∧ (-20 ≤ (fx_i h (q + 9) p).toInt ∧ (fx_i h (q + 9) p).toInt ≤ 30) ∧
  (0 ≤ (fx_i h (q + 13) p).toInt ∧ (fx_i h (q + 13) p).toInt ≤ 30) ∧ (0 ≤ (fx_i h (q + 14) p).toInt ∧ (fx_i h (q + 14) p).toInt ≤ 30) ∧
  (0 ≤ (fx_i h (q + 15) p).toInt ∧ (fx_i h (q + 15) p).toInt ≤ 12) ∧ (0 ≤ (fx_i h (q + 16) p).toInt ∧ (fx_i h (q + 16) p).toInt ≤ 8) ∧
  ((fx_i h (q + 15) p).toInt = 0 ↔ (fx_i h (q + 16) p).toInt = 0) ∧
  (0 < (fx_i h (q + 15) p).toInt → (fx_i h (q + 13) p).toInt + (fx_i h (q + 15) p).toInt ≤ (fx_i h (q + 3) (p % 10)).toInt ∧ (fx_i h (q + 14) p).toInt + (fx_i h (q + 16) p).toInt ≤ (fx_i h (q + 4) (p % 10)).toInt)
def shX (h : fx_H) (q p : Nat) : Int := max ((fx_i h (q + 8) p).toInt + (fx_i h (q + 13) p).toInt) 0
def shY (h : fx_H) (q p : Nat) : Int := max ((fx_i h (q + 9) p).toInt + (fx_i h (q + 14) p).toInt) 0
def shR (h : fx_H) (q p : Nat) : Int := min ((fx_i h (q + 8) p).toInt + (fx_i h (q + 13) p).toInt + (fx_i h (q + 15) p).toInt) 20
def shB (h : fx_H) (q p : Nat) : Int := min ((fx_i h (q + 9) p).toInt + (fx_i h (q + 14) p).toInt + (fx_i h (q + 16) p).toInt) 10
/-- nothing of the picture p is shown -/
def shE (h : fx_H) (q p : Nat) : Prop := fx_i h (q + 7) p = 0 ∨ fx_i h (q + 12) p = 0 ∨ shR h q p ≤ shX h q p ∨ shB h q p ≤ shY h q p
theorem show_0 (h : fx_H) (q p : Nat) (hp : p < 30) (he : fx_i h (q + 7) p = 0 ∨ fx_i h (q + 12) p = 0) : fx_i (k_MO_show h q (nI p)) q 40 = 0 ∧ fx_i (k_MO_show h q (nI p)) q 41 = 0 := by
  have ep : (nI p).toNatClampNeg = p := nI_clamp (by omega)
  unfold k_MO_show
  rw [ep]
  rcases he with he | he
  · rw [if_pos he]
    simp [fx_i_wi]
  · rw [if_pos he]
    split <;> simp [fx_i_wi]
theorem wi_q (h : fx_H) (q c i j : Nat) (v : Int32) (hc : 0 < c) : fx_i (fx_wi h q i v) (q + c) j = fx_i h (q + c) j := by
  rw [fx_i_wi, if_neg (fun z => by omega)]
theorem show_1 (h : fx_H) (q p : Nat) (hp : p < 30) (h1 : ¬ fx_i h (q + 7) p = 0) (h2 : ¬ fx_i h (q + 12) p = 0) :
    k_MO_show h q (nI p) = k_MO_cut (fx_wi (fx_wi (fx_wi (fx_wi h q 38 (fx_i h (q + 8) p + fx_i h (q + 13) p)) q 39 (fx_i h (q + 9) p + fx_i h (q + 14) p)) q 40 (fx_i h (q + 15) p)) q 41 (fx_i h (q + 16) p)) q 0 0 20 10 := by
  have ep : (nI p).toNatClampNeg = p := nI_clamp (by omega)
  unfold k_MO_show
  rw [ep, if_neg h1, if_neg h2]
  simp only [wi_q _ _ _ _ _ _ (show 0 < 9 by decide), wi_q _ _ _ _ _ _ (show 0 < 14 by decide), wi_q _ _ _ _ _ _ (show 0 < 15 by decide), wi_q _ _ _ _ _ _ (show 0 < 16 by decide)]
theorem show_v (h : fx_H) (q p : Nat) (hp : p < 30) (hk : ¬ fx_i h (q + 7) p = 0 → mpOk h q p) :
    (shE h q p → fx_i (k_MO_show h q (nI p)) q 40 = 0 ∧ fx_i (k_MO_show h q (nI p)) q 41 = 0) ∧
    (¬ shE h q p → (fx_i (k_MO_show h q (nI p)) q 38).toInt = shX h q p ∧ (fx_i (k_MO_show h q (nI p)) q 39).toInt = shY h q p ∧ (fx_i (k_MO_show h q (nI p)) q 40).toInt = shR h q p - shX h q p ∧ (fx_i (k_MO_show h q (nI p)) q 41).toInt = shB h q p - shY h q p) := by
  by_cases h1 : fx_i h (q + 7) p = 0
  · exact ⟨fun _ => show_0 h q p hp (Or.inl h1), fun he => absurd (Or.inl h1) he⟩
  by_cases h2 : fx_i h (q + 12) p = 0
  · exact ⟨fun _ => show_0 h q p hp (Or.inr h2), fun he => absurd (Or.inr (Or.inl h2)) he⟩
  obtain ⟨a1, a2, a3, a4, a5, a6, a7, -⟩ := hk h1
  rw [show_1 h q p hp h1 h2]
  obtain ⟨c1, c2, c3, c4⟩ := cut_v (fx_wi (fx_wi (fx_wi (fx_wi h q 38 (fx_i h (q + 8) p + fx_i h (q + 13) p)) q 39 (fx_i h (q + 9) p + fx_i h (q + 14) p)) q 40 (fx_i h (q + 15) p)) q 41 (fx_i h (q + 16) p)) q 0 0 20 10
  rw [c1, c2]
  have e0 : (0 : Int32).toInt = 0 := rfl
  have e1 : (20 : Int32).toInt = 20 := rfl
  have e2 : (10 : Int32).toInt = 10 := rfl
  have x1 : (fx_i h (q + 8) p + fx_i h (q + 13) p).toInt = _ := iz_add (by omega)
  have y1 : (fx_i h (q + 9) p + fx_i h (q + 14) p).toInt = _ := iz_add (by omega)
  have x2 : (fx_i h (q + 8) p + fx_i h (q + 13) p + fx_i h (q + 15) p).toInt = _ := iz_add (by omega)
  have y2 : (fx_i h (q + 9) p + fx_i h (q + 14) p + fx_i h (q + 16) p).toInt = _ := iz_add (by omega)
  revert c3 c4
  unfold ctE ctX ctY ctR ctB shE shX shY shR shB
  simp (decide := true) only [fx_i_wi, true_and, and_true, and_false, if_true, if_false, and_self]
  intro c3 c4
  have q1 : (if fx_i h (q + 8) p + fx_i h (q + 13) p ≤ 0 then (0 : Int32) else fx_i h (q + 8) p + fx_i h (q + 13) p).toInt = max ((fx_i h (q + 8) p).toInt + (fx_i h (q + 13) p).toInt) 0 := by
    split <;> rename_i z <;> rw [iz_le] at z <;> omega
  have q2 : (if fx_i h (q + 9) p + fx_i h (q + 14) p ≤ 0 then (0 : Int32) else fx_i h (q + 9) p + fx_i h (q + 14) p).toInt = max ((fx_i h (q + 9) p).toInt + (fx_i h (q + 14) p).toInt) 0 := by
    split <;> rename_i z <;> rw [iz_le] at z <;> omega
  have q3 : (if (20 : Int32) ≤ fx_i h (q + 8) p + fx_i h (q + 13) p + fx_i h (q + 15) p then (20 : Int32) else fx_i h (q + 8) p + fx_i h (q + 13) p + fx_i h (q + 15) p).toInt = min ((fx_i h (q + 8) p).toInt + (fx_i h (q + 13) p).toInt + (fx_i h (q + 15) p).toInt) 20 := by
    split <;> rename_i z <;> rw [iz_le] at z <;> omega
  have q4 : (if (10 : Int32) ≤ fx_i h (q + 9) p + fx_i h (q + 14) p + fx_i h (q + 16) p then (10 : Int32) else fx_i h (q + 9) p + fx_i h (q + 14) p + fx_i h (q + 16) p).toInt = min ((fx_i h (q + 9) p).toInt + (fx_i h (q + 14) p).toInt + (fx_i h (q + 16) p).toInt) 10 := by
    split <;> rename_i z <;> rw [iz_le] at z <;> omega
  generalize (if fx_i h (q + 8) p + fx_i h (q + 13) p ≤ 0 then (0 : Int32) else fx_i h (q + 8) p + fx_i h (q + 13) p) = X at *
  generalize (if fx_i h (q + 9) p + fx_i h (q + 14) p ≤ 0 then (0 : Int32) else fx_i h (q + 9) p + fx_i h (q + 14) p) = Y at *
  generalize (if (20 : Int32) ≤ fx_i h (q + 8) p + fx_i h (q + 13) p + fx_i h (q + 15) p then (20 : Int32) else fx_i h (q + 8) p + fx_i h (q + 13) p + fx_i h (q + 15) p) = R at *
  generalize (if (10 : Int32) ≤ fx_i h (q + 9) p + fx_i h (q + 14) p + fx_i h (q + 16) p then (10 : Int32) else fx_i h (q + 9) p + fx_i h (q + 14) p + fx_i h (q + 16) p) = Bm at *
  have t1 : (R - X).toInt = R.toInt - X.toInt := iz_sub (by omega)
  have t2 : (Bm - Y).toInt = Bm.toInt - Y.toInt := iz_sub (by omega)
  rw [iz_le, iz_le, t1, t2, e0] at c3 c4
  refine ⟨fun he => c3 ?_, fun he => ?_⟩
  · rcases he with he | he | he | he
    · exact absurd he h1
    · exact absurd he h2
    · exact Or.inl (by omega)
    · exact Or.inr (by omega)
  · have c5 := c4 (fun z => he (Or.inr (Or.inr (by omega))))
    rw [c5.1, c5.2, t1, t2]
    omega
theorem p10 : ∀ p, p < 30 → nI p - nI p / 10 * 10 = nI (p % 10) := by decide +kernel
theorem mul_bd {c r x y : Int} (hc : 0 ≤ c ∧ c ≤ 12) (hr : 0 ≤ r ∧ r ≤ 8) (hx : 0 ≤ x ∧ x < c) (hy : 0 ≤ y ∧ y < r) : 0 ≤ c * y ∧ c * y + x < 96 := by
  have h : y = 0 ∨ y = 1 ∨ y = 2 ∨ y = 3 ∨ y = 4 ∨ y = 5 ∨ y = 6 ∨ y = 7 := by omega
  rcases h with rfl | rfl | rfl | rfl | rfl | rfl | rfl | rfl <;> omega
/-- where the pixel (x, y) of the screen lies in the picture p -/
theorem pix_ix (h : fx_H) (q p : Nat) (hp : p < 30) (hcr : mCR h q) (hk : mpOk h q p) (x y : Int32) (hx : shX h q p ≤ x.toInt ∧ x.toInt < shR h q p) (hy : shY h q p ≤ y.toInt ∧ y.toInt < shB h q p) :
    let c := (fx_i h (q + 3) (p % 10)).toInt
    let u := x.toInt - (fx_i h (q + 8) p).toInt
    let v := y.toInt - (fx_i h (q + 9) p).toInt
    (0 ≤ u ∧ u < c ∧ 0 ≤ v ∧ v < (fx_i h (q + 4) (p % 10)).toInt) ∧ (0 ≤ c * v ∧ c * v + u < 96) ∧
    (96 * nI p + fx_i h (q + 3) (p % 10) * (y - fx_i h (q + 9) p) + x - fx_i h (q + 8) p).toInt = 96 * p + (c * v + u) := by
  obtain ⟨a1, a2, a3, a4, a5, a6, a7, a8⟩ := hk
  obtain ⟨b1, b2⟩ := hcr (p % 10) (by omega)
  unfold shX shR at hx
  unfold shY shB at hy
  have h5 : 0 < (fx_i h (q + 15) p).toInt := by omega
  have h6 := a8 h5
  have u1 : 0 ≤ x.toInt - (fx_i h (q + 8) p).toInt ∧ x.toInt - (fx_i h (q + 8) p).toInt < (fx_i h (q + 3) (p % 10)).toInt := by omega
  have v1 : 0 ≤ y.toInt - (fx_i h (q + 9) p).toInt ∧ y.toInt - (fx_i h (q + 9) p).toInt < (fx_i h (q + 4) (p % 10)).toInt := by omega
  have m1 := mul_bd b1 b2 u1 v1
  refine ⟨⟨u1.1, u1.2, v1.1, v1.2⟩, m1, ?_⟩
  have e0 : (96 : Int32).toInt = 96 := rfl
  have e1 : (nI p).toInt = p := nI_toInt (by omega)
  have t1 : (y - fx_i h (q + 9) p).toInt = _ := iz_sub (by omega)
  have t2 : (fx_i h (q + 3) (p % 10) * (y - fx_i h (q + 9) p)).toInt = (fx_i h (q + 3) (p % 10)).toInt * (y.toInt - (fx_i h (q + 9) p).toInt) := by
    rw [iz_mul (by rw [t1]; omega), t1]
  generalize (fx_i h (q + 3) (p % 10)).toInt * (y.toInt - (fx_i h (q + 9) p).toInt) = cv at *
  have t3 : (96 * nI p).toInt = 96 * (p : Int) := by rw [iz_mul (by rw [e0, e1]; omega), e0, e1]
  have t4 : (96 * nI p + fx_i h (q + 3) (p % 10) * (y - fx_i h (q + 9) p)).toInt = 96 * (p : Int) + cv := by rw [iz_add (by rw [t3, t2]; omega), t3, t2]
  have t5 : (96 * nI p + fx_i h (q + 3) (p % 10) * (y - fx_i h (q + 9) p) + x).toInt = 96 * (p : Int) + cv + x.toInt := by rw [iz_add (by rw [t4]; omega), t4]
  rw [iz_sub (by rw [t5]; omega), t5]
  omega
theorem pix_pre (h : fx_H) (q p : Nat) (hp : p < 30) (hcr : mCR h q) (hk : mpOk h q p) (x y : Int32) (hx : shX h q p ≤ x.toInt ∧ x.toInt < shR h q p) (hy : shY h q p ≤ y.toInt ∧ y.toInt < shB h q p) : pre_MO_pixelOf h q (nI p) x y := by
  obtain ⟨h1, h2, h3⟩ := pix_ix h q p hp hcr hk x y hx hy
  have ep : (nI p).toNatClampNeg = p := nI_clamp (by omega)
  have eq : (nI (p % 10)).toNatClampNeg = p % 10 := nI_clamp (by omega)
  unfold pre_MO_pixelOf
  rw [p10 p hp, ep, eq]
  exact ⟨vp_in_nI (by omega) (by decide), vp_in_nI (by omega) (by decide), iz_in (by rw [h3]; omega) (by rw [h3]; omega)⟩
theorem wi_b {h : fx_H} {v lo hi : Int32} (hw : ¬ v_MO_within h v lo hi = 0) : lo.toInt ≤ v.toInt ∧ v.toInt ≤ hi.toInt := by
  unfold v_MO_within at hw
  split at hw
  · exact absurd rfl hw
  · split at hw
    · exact absurd rfl hw
    · rename_i h1 h2
      rw [iz_lt] at h1 h2
      omega
theorem ar_b {h : fx_H} {x y cs rs : Int32} (ha : ¬ v_MO_isArea h x y cs rs = 0) : (-20 ≤ x.toInt ∧ x.toInt ≤ 30) ∧ (-20 ≤ y.toInt ∧ y.toInt ≤ 30) ∧ (0 ≤ cs.toInt ∧ cs.toInt ≤ 30) ∧ (0 ≤ rs.toInt ∧ rs.toInt ≤ 30) := by
  unfold v_MO_isArea at ha
  by_cases h1 : v_MO_within h x (-20) 30 = 0
  · rw [if_pos h1] at ha
    exact absurd rfl ha
  by_cases h2 : v_MO_within h y (-20) 30 = 0
  · rw [if_neg h1, if_pos h2] at ha
    exact absurd rfl ha
  by_cases h3 : v_MO_within h cs 0 30 = 0
  · rw [if_neg h1, if_neg h2, if_pos h3] at ha
    exact absurd rfl ha
  by_cases h4 : v_MO_within h rs 0 30 = 0
  · rw [if_neg h1, if_neg h2, if_neg h3, if_pos h4] at ha
    exact absurd rfl ha
  exact ⟨wi_b h1, wi_b h2, wi_b h3, wi_b h4⟩
theorem ar_x {h : fx_H} {x y cs rs : Int32} (ha : ¬ v_MO_isArea h x y cs rs = 0) : -1000 ≤ x.toInt ∧ x.toInt ≤ 1000 := by have := (ar_b ha).1; omega
theorem ar_y {h : fx_H} {x y cs rs : Int32} (ha : ¬ v_MO_isArea h x y cs rs = 0) : -1000 ≤ y.toInt ∧ y.toInt ≤ 1000 := by have := (ar_b ha).2.1; omega
theorem ar_c {h : fx_H} {x y cs rs : Int32} (ha : ¬ v_MO_isArea h x y cs rs = 0) : 0 ≤ cs.toInt ∧ cs.toInt ≤ 1000 := by have := (ar_b ha).2.2.1; omega
theorem ar_r {h : fx_H} {x y cs rs : Int32} (ha : ¬ v_MO_isArea h x y cs rs = 0) : 0 ≤ rs.toInt ∧ rs.toInt ≤ 1000 := by have := (ar_b ha).2.2.2; omega
theorem has_b {h : fx_H} {q : Nat} {s x y : Int32} (hh : ¬ v_MO_has h q s x y = 0) : (0 ≤ x.toInt ∧ x.toInt < (fx_i h (q + 3) s.toNatClampNeg).toInt) ∧ 0 ≤ y.toInt ∧ y.toInt < (fx_i h (q + 4) s.toNatClampNeg).toInt := by
  unfold v_MO_has at hh
  by_cases h1 : x < 0
  · rw [if_pos h1] at hh
    exact absurd rfl hh
  by_cases h2 : fx_i h (q + 3) s.toNatClampNeg ≤ x
  · rw [if_neg h1, if_pos h2] at hh
    exact absurd rfl hh
  by_cases h3 : y < 0
  · rw [if_neg h1, if_neg h2, if_pos h3] at hh
    exact absurd rfl hh
  by_cases h4 : fx_i h (q + 4) s.toNatClampNeg ≤ y
  · rw [if_neg h1, if_neg h2, if_neg h3, if_pos h4] at hh
    exact absurd rfl hh
  have e0 : (0 : Int32).toInt = 0 := rfl
  rw [iz_lt, e0] at h1 h3
  rw [iz_le] at h2 h4
  omega
/-- the number of the pixel (x, y) of a surface that has it -/
theorem has_ix {h : fx_H} {q : Nat} {s x y : Int32} (hs : vp_in s 10) (hcr : mCR h q) (hh : ¬ v_MO_has h q s x y = 0) :
    (0 ≤ (fx_i h (q + 3) s.toNatClampNeg).toInt * y.toInt ∧ (fx_i h (q + 3) s.toNatClampNeg).toInt * y.toInt + x.toInt < 96) ∧ (fx_i h (q + 3) s.toNatClampNeg * y).toInt = (fx_i h (q + 3) s.toNatClampNeg).toInt * y.toInt := by
  obtain ⟨b1, b2⟩ := hcr s.toNatClampNeg (vp_in_lt hs)
  obtain ⟨h1, h2⟩ := has_b hh
  have m1 := mul_bd b1 b2 h1 h2
  exact ⟨m1, iz_mul (by omega)⟩
theorem fill_in {h : fx_H} {q : Nat} {s x y : Int32} (hs : vp_in s 10) (hcr : mCR h q) (hh : ¬ v_MO_has h q s x y = 0) : vp_in (96 * s + fx_i h (q + 3) s.toNatClampNeg * y + x) 2880 := by
  obtain ⟨m1, m2⟩ := has_ix hs hcr hh
  obtain ⟨h1, h2⟩ := has_b hh
  have hs2 := vp_in_iff.mp hs
  have e0 : (96 : Int32).toInt = 96 := rfl
  have t1 : (96 * s).toInt = 96 * s.toInt := by rw [iz_mul (by rw [e0]; omega), e0]
  generalize (fx_i h (q + 3) s.toNatClampNeg).toInt * y.toInt = cv at *
  have t2 : (96 * s + fx_i h (q + 3) s.toNatClampNeg * y).toInt = 96 * s.toInt + cv := by rw [iz_add (by rw [t1, m2]; omega), t1, m2]
  have t3 : (96 * s + fx_i h (q + 3) s.toNatClampNeg * y + x).toInt = 96 * s.toInt + cv + x.toInt := by rw [iz_add (by rw [t2]; omega), t2]
  exact iz_in (by omega) (by omega)
theorem copy_in {h : fx_H} {q : Nat} {s x x' y : Int32} (hs : vp_in s 10) (hcr : mCR h q) (hh : ¬ v_MO_has h q s (x + x') y = 0) : vp_in (96 * s + fx_i h (q + 3) s.toNatClampNeg * y + x + x') 2880 := by
  rw [Int32.add_assoc]
  exact fill_in hs hcr hh
theorem copd_in {h : fx_H} {q : Nat} {s x x' y : Int32} (hs : vp_in s 10) (hcr : mCR h q) (hh : ¬ v_MO_has h q s (x + x') y = 0) : vp_in (fx_i h (q + 3) s.toNatClampNeg * y + x + x') 96 := by
  rw [Int32.add_assoc]
  obtain ⟨m1, m2⟩ := has_ix hs hcr hh
  obtain ⟨h1, h2⟩ := has_b hh
  generalize (fx_i h (q + 3) s.toNatClampNeg).toInt * y.toInt = cv at *
  have t2 : (fx_i h (q + 3) s.toNatClampNeg * y + (x + x')).toInt = cv + (x + x').toInt := by rw [iz_add (by rw [m2]; omega), m2]
  exact iz_in (by omega) (by omega)
theorem mCR_on {h k : fx_H} {q c : Nat} (e : fx_on (q + c) h k) (hc : c ≠ 3 ∧ c ≠ 4) (hcr : mCR h q) : mCR k q := by
  intro s hs
  rw [e.2 (q + 3) (by omega), e.2 (q + 4) (by omega)]
  exact hcr s hs
theorem mCR_w {h : fx_H} {q j : Nat} {v : Int32} (hcr : mCR h q) : mCR (fx_wi h q j v) q := by
  intro s hs
  rw [wi_q _ _ _ _ _ _ (by decide), wi_q _ _ _ _ _ _ (by decide)]
  exact hcr s hs
theorem vI_ge {r : Int32} {j : Nat} (hr : 0 ≤ r.toInt ∧ r.toInt ≤ 1000) (hj : j < r.toNatClampNeg) : ¬ r ≤ nI j := by
  have e := iz_nn hr.1
  rw [iz_le, nI_toInt (by omega)]
  omega
theorem vI_le {r : Int32} (hr : 0 ≤ r.toInt ∧ r.toInt ≤ 1000) : r ≤ nI r.toNatClampNeg := by
  have e := iz_nn hr.1
  rw [iz_le, nI_toInt (by omega)]
  omega
theorem px10 {s : Int32} {i : Nat} (hs : vp_in s 10) (hi : i < 96) : vp_in (96 * s + nI i) 2880 := by
  obtain ⟨p, hp, rfl⟩ := vp_in_of hs (by decide)
  exact px_in (by omega) hi
theorem isCopy_in {h : fx_H} {q : Nat} {a b tx ty : Int32} (hc : ¬ v_MO_isCopy h q a b tx ty = 0) : vp_in a 10 ∧ vp_in b 10 := by
  unfold v_MO_isCopy at hc
  by_cases h1 : v_MO_hasDraft h q a = 0
  · rw [if_pos h1] at hc
    exact absurd rfl hc
  by_cases h2 : v_MO_hasDraft h q b = 0
  · rw [if_neg h1, if_pos h2] at hc
    exact absurd rfl hc
  exact ⟨mo_has_in h1, mo_has_in h2⟩
theorem isCopy_pre (h : fx_H) (q : Nat) (a b tx ty : Int32) : pre_MO_isCopy h q a b tx ty := ⟨fun h1 _ => mo_has_in h1, fun _ h2 => mo_has_in h2⟩
theorem jz_dn {i : Nat} (hi : i < 10) : ¬ (9 : Int32) - nI i < 0 := by
  have e0 : (9 : Int32).toInt = 9 := rfl
  have e1 : (nI i).toInt = i := nI_toInt (by omega)
  have e2 : (0 : Int32).toInt = 0 := rfl
  rw [iz_lt, iz_sub (by rw [e0, e1]; omega), e0, e1, e2]
  omega
theorem jz_dv {i : Nat} (hi : i < 10) : (9 : Int32) - nI i = nI (9 - i) := by
  have e0 : (9 : Int32).toInt = 9 := rfl
  have e1 : (nI i).toInt = i := nI_toInt (by omega)
  rw [iz_eq, iz_sub (by rw [e0, e1]; omega), e0, e1, nI_toInt (by omega)]
  omega
theorem n2_in {x : Int32} (h : x = 0 ∨ x = 1 ∨ x = 2) (h2 : ¬ x = 2) : vp_in x 2 := by
  rcases h with rfl | rfl | rfl
  · unfold vp_in; decide
  · unfold vp_in; decide
  · exact absurd rfl h2
theorem cq_in {x : Int32} {m : Nat} (h : ∃ i, x = nI (20 + i) ∧ i + m = 10) (h2 : ¬ (30 : Int32) ≤ x) : vp_in x 30 := by
  obtain ⟨i, rfl, hi⟩ := h
  have e0 : (30 : Int32).toInt = 30 := rfl
  rw [iz_le, e0, nI_toInt (by omega)] at h2
  exact vp_in_nI (by omega) (by decide)
