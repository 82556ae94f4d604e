/-! ===== begin: the planes are chosen ===== -/
/-- choosing the planes, both sides -/
theorem A_choose {a b : fx_H} {w q : Nat} (hq : w + 191 ≤ q) (hS : PS (mixH q a b) (w + 90) q 20) (hP : ∀ s, s < 10 → PR (mixH q a b) (w + 93 + 4 * s) q (20 + s)) (hcr : mCR (mixH q a b) q) :
    mfr q [26] [38, 39, 40, 41] b (k_MO_choosePlanes b q) ∧ (∀ y j, ¬ (w + 134 ≤ y ∧ y < w + 141) → fx_i (k_PN_choose a (w + 133) (w + 90)) y j = fx_i a y j) ∧ ∀ j, j < 2 → JN (mixH q (k_PN_choose a (w + 133) (w + 90)) (k_MO_choosePlanes b q)) w q j := by
  unfold k_MO_choosePlanes k_PN_choose
  have e134 : w + 133 + 1 = w + 134 := by omega
  rw [e134]
  have hk0 : (∀ j, j < 2 → fx_i (it (fillA (w + 134) (-1)) a 2) (w + 134) j = -1) ∧ ∀ y j, y ≠ w + 134 → fx_i (it (fillA (w + 134) (-1)) a 2) y j = fx_i a y j := by
    rw [it_s, it_s, it_0]
    unfold fillA
    refine ⟨fun j hj => ?_, fun y j g => ?_⟩
    · have : j = 0 ∨ j = 1 := by omega
      rcases this with rfl | rfl <;> simp [fx_i_wi]
    · simp [fx_i_wi, g]
  have hx0 : (∀ j, j < 2 → fx_i (fx_wi (fx_wi b (q + 26) (0 : Int32).toNatClampNeg (-1 : Int32)) (q + 26) (1 : Int32).toNatClampNeg (-1 : Int32)) (q + 26) j = -1) ∧ mfr q [26] [38, 39, 40, 41] b (fx_wi (fx_wi b (q + 26) (0 : Int32).toNatClampNeg (-1 : Int32)) (q + 26) (1 : Int32).toNatClampNeg (-1 : Int32)) := by
    refine ⟨fun j hj => ?_, mfr_wi (mfr_wi (mfr_rf _ _ _ _) (by decide)) (by decide)⟩
    have c0 : (0 : Int32).toNatClampNeg = 0 := rfl
    have c1 : (1 : Int32).toNatClampNeg = 1 := rfl
    rw [c0, c1]
    have : j = 0 ∨ j = 1 := by omega
    rcases this with rfl | rfl <;> simp [fx_i_wi]
  generalize it (fillA (w + 134) (-1)) a 2 = k0 at *
  generalize fx_wi (fx_wi b (q + 26) (0 : Int32).toNatClampNeg (-1 : Int32)) (q + 26) (1 : Int32).toNatClampNeg (-1 : Int32) = b0 at *
  obtain ⟨k1, k2⟩ := hk0
  obtain ⟨x1, x2⟩ := hx0
  have eH : pH (mixH q a b) (w + 90) = pH a (w + 90) := by unfold pH; rw [mix_c _ _ (by omega)]
  have hH := hS.1.1
  rw [eH] at hH
  have st : plI a b w q 0 k0 ((0 : Int32), b0) := by
    refine ⟨by omega, rfl, x2, fun y j g => k2 y j (by omega), fun j hj => ⟨?_, Or.inl ?_⟩, fun j _ hj => x1 j hj⟩
    · rw [mix_c _ _ (by omega), mix_m, k1 j hj]; exact (x1 j hj).symm
    · rw [mix_m]; exact x1 j hj
  have low : ∀ i, i ≤ 10 - pH a (w + 90) → its (cqO q) ((0 : Int32), b0) i = ((0 : Int32), b0) := by
    intro i
    induction i with
    | zero => intro _; rw [its_0]
    | succ i ih =>
      intro hi
      rw [its_s, ih (by omega)]
      refine cqO_no (Or.inl ?_)
      rw [nine (by omega)]
      have m7 : ∀ o t, 0 < o → o ≠ 26 → fx_i b0 (q + o) t = fx_i (mixH q a b) (q + o) t := fun o t h1 h2 => by
        rw [mix_m]
        exact mfr_at x2 ⟨fun z => by simp only [List.mem_cons, List.mem_nil_iff, or_false] at z; omega, h1⟩ t
      rw [nth_congr (h := mixH q a b) (by decide) (fun t _ => m7 7 _ (by decide) (by decide)) (fun t _ => m7 10 _ (by decide) (by decide)), hS.2.2.1 (9 - i) (by rw [eH]; omega) (by omega)]
      decide
  have main : ∀ m, m ≤ pH a (w + 90) → ∃ gv k, chs (w + 133) (w + 90) (pH a (w + 90)) 0 k0 = chs (w + 133) (w + 90) (pH a (w + 90) - m) gv k ∧ plI a b w q gv k (its (cqO q) ((0 : Int32), b0) (10 - pH a (w + 90) + m)) := by
    intro m
    induction m with
    | zero =>
      intro _
      exact ⟨0, k0, rfl, by rw [Nat.add_zero, low _ (Nat.le_refl _)]; exact st⟩
    | succ m ih =>
      intro hm
      obtain ⟨gv, k, e1, e2⟩ := ih (by omega)
      obtain ⟨gv', k', f1, f2⟩ := A_turn (i := 10 - pH a (w + 90) + m) hq hS hP hcr (by omega) (by omega) e2
      have c1 : 9 - (10 - pH a (w + 90) + m) + 1 = pH a (w + 90) - m := by omega
      have c2 : 9 - (10 - pH a (w + 90) + m) = pH a (w + 90) - (m + 1) := by omega
      rw [c1, c2] at f1
      refine ⟨gv', k', e1.trans f1, ?_⟩
      rw [← Nat.add_assoc, its_s]
      exact f2
  obtain ⟨gv, k, e1, e2⟩ := main (pH a (w + 90)) (Nat.le_refl _)
  have c10 : 10 - pH a (w + 90) + pH a (w + 90) = 10 := by omega
  rw [Nat.sub_self, chs] at e1
  rw [c10] at e2
  rw [e1]
  exact ⟨e2.2.2.1, e2.2.2.2.1, e2.2.2.2.2.1⟩
