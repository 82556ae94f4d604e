/-! ===== begin: the destroyed leave (Model) ===== -/
/-- Model: the destroyed surfaces leave -/
theorem M_left {h : fx_H} {q : Nat} : ∀ n, n ≤ 10 →
    mfr q [1, 7] [] h (it (b4_MO_begin q) h n) ∧
    (∀ j, fx_i (it (b4_MO_begin q) h n) (q + 1) j = if j < n ∧ ¬ fx_i h (q + 1) j = 0 ∧ ¬ fx_i h (q + 6) j = 0 then 0 else fx_i h (q + 1) j) ∧
    (∀ j, j < 10 → fx_i (it (b4_MO_begin q) h n) (q + 7) j = fx_i h (q + 7) j) ∧
    (∀ j, j < 10 → fx_i (it (b4_MO_begin q) h n) (q + 7) (10 + j) = if j < n ∧ ¬ fx_i h (q + 1) j = 0 ∧ ¬ fx_i h (q + 6) j = 0 then 0 else fx_i h (q + 7) (10 + j)) ∧
    (∀ j, j < 10 → fx_i (it (b4_MO_begin q) h n) (q + 7) (20 + j) = if j < n ∧ ¬ fx_i h (q + 1) j = 0 ∧ ¬ fx_i h (q + 6) j = 0 then 0 else fx_i h (q + 7) (20 + j))
  | 0, _ => by
    rw [it_0]
    exact ⟨mfr_rf _ _ _ _, fun j => by rw [if_neg (by omega)], fun j _ => rfl, fun j _ => by rw [if_neg (by omega)], fun j _ => by rw [if_neg (by omega)]⟩
  | n + 1, hn => by
    obtain ⟨i0, i1, i2, i3, i4⟩ := M_left (h := h) (q := q) n (by omega)
    rw [it_s]
    generalize it (b4_MO_begin q) h n = m at *
    have m6 : ∀ j, fx_i m (q + 6) j = fx_i h (q + 6) j := fun j => mfr_at i0 (by decide) j
    have m1 : fx_i m (q + 1) n = fx_i h (q + 1) n := by rw [i1, if_neg (by omega)]
    have c10 : ((10 : Int32) + nI n).toNatClampNeg = 10 + n := by rw [jz_a (by omega)]; exact nI_clamp (by omega)
    have c20 : ((20 : Int32) + nI n).toNatClampNeg = 20 + n := by
      have : (20 : Int32) + nI n = nI (20 + n) := nI_add 20 n
      rw [this]; exact nI_clamp (by omega)
    by_cases sel : ¬ fx_i h (q + 1) n = 0 ∧ ¬ fx_i h (q + 6) n = 0
    · have e : b4_MO_begin q n m = fx_wi (fx_wi (fx_wi m (q + 1) n 0) (q + 7) (10 + n) 0) (q + 7) (20 + n) 0 := by
        unfold b4_MO_begin
        rw [m1, m6, if_neg sel.1, if_neg sel.2, c10, c20]
      rw [e]
      have g : ∀ j, j ≠ n → ((j < n + 1 ∧ ¬ fx_i h (q + 1) j = 0 ∧ ¬ fx_i h (q + 6) j = 0) ↔ (j < n ∧ ¬ fx_i h (q + 1) j = 0 ∧ ¬ fx_i h (q + 6) j = 0)) := fun j hj => ⟨fun y => ⟨by omega, y.2⟩, fun y => ⟨by omega, y.2⟩⟩
      refine ⟨mfr_wi (mfr_wi (mfr_wi i0 (by decide)) (by decide)) (by decide), fun j => ?_, fun j hj => ?_, fun j hj => ?_, fun j hj => ?_⟩
      · rw [fx_i_wi, if_neg (fun z => by omega), fx_i_wi, if_neg (fun z => by omega), fx_i_wi]
        by_cases z : j = n
        · subst z
          rw [if_pos ⟨rfl, rfl⟩, if_pos ⟨by omega, sel⟩]
        · rw [if_neg (fun y => z y.2), i1]
          simp only [g j z]
      · rw [fx_i_wi, if_neg (fun z => by omega), fx_i_wi, if_neg (fun z => by omega), fx_i_wi, if_neg (fun z => by omega)]
        exact i2 j hj
      · rw [fx_i_wi, if_neg (fun z => by omega), fx_i_wi]
        by_cases z : j = n
        · subst z
          rw [if_pos ⟨rfl, rfl⟩, if_pos ⟨by omega, sel⟩]
        · rw [if_neg (fun y => by omega), fx_i_wi, if_neg (fun z => by omega), i3 j hj]
          simp only [g j z]
      · rw [fx_i_wi]
        by_cases z : j = n
        · subst z
          rw [if_pos ⟨rfl, rfl⟩, if_pos ⟨by omega, sel⟩]
        · rw [if_neg (fun y => by omega), fx_i_wi, if_neg (fun z => by omega), fx_i_wi, if_neg (fun z => by omega), i4 j hj]
          simp only [g j z]
    · have e : b4_MO_begin q n m = m := by
        unfold b4_MO_begin
        rw [m1, m6]
        by_cases z : fx_i h (q + 1) n = 0
        · rw [if_pos z]
        · rw [if_neg z, if_pos (Classical.byContradiction fun y => sel ⟨z, y⟩)]
      rw [e]
      have g : ∀ j, (j < n + 1 ∧ ¬ fx_i h (q + 1) j = 0 ∧ ¬ fx_i h (q + 6) j = 0) ↔ (j < n ∧ ¬ fx_i h (q + 1) j = 0 ∧ ¬ fx_i h (q + 6) j = 0) := fun j => ⟨fun y => ⟨by
        have : j ≠ n := fun z => sel (by rw [← z]; exact y.2)
        omega, y.2⟩, fun y => ⟨by omega, y.2⟩⟩
      simp only [g]
      exact ⟨i0, i1, i2, i3, i4⟩
