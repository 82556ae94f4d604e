/-! ===== begin: the destroyed leave (class) ===== -/
/-- the pixels that come back -/
def bkS (h : fx_H) (d i : Nat) (x : Int32) : Int32 := if fx_i h (d + 46) i = 0 then x else x + fx_i h (d + 48 + 4 * i) 1 * fx_i h (d + 48 + 4 * i) 2
/-- class: the destroyed surfaces leave -/
theorem C_left {h : fx_H} {d : Nat} : ∀ n, n ≤ 10 →
    (∀ y j, y ≠ d → y ≠ d + 45 → y ≠ d + 46 → fx_i (it (b_DE_allTaken d) h n) y j = fx_i h y j) ∧
    (∀ j, j ≠ 6 → fx_i (it (b_DE_allTaken d) h n) d j = fx_i h d j) ∧
    (∀ j, fx_i (it (b_DE_allTaken d) h n) (d + 45) j = if j < n ∧ ¬ fx_i h (d + 46) j = 0 then -1 else fx_i h (d + 45) j) ∧
    (∀ j, fx_i (it (b_DE_allTaken d) h n) (d + 46) j = if j < n ∧ ¬ fx_i h (d + 46) j = 0 then 0 else fx_i h (d + 46) j) ∧
    fx_i (it (b_DE_allTaken d) h n) d 6 = itg (bkS h d) (fx_i h d 6) n
  | 0, _ => by
    rw [it_0]
    exact ⟨fun _ _ _ _ _ => rfl, fun _ _ => rfl, fun j => by rw [if_neg (by omega)], fun j => by rw [if_neg (by omega)], rfl⟩
  | n + 1, hn => by
    obtain ⟨i1, i2, i3, i4, i5⟩ := C_left (h := h) (d := d) n (by omega)
    rw [it_s, itg_s]
    generalize it (b_DE_allTaken d) h n = m at *
    rw [← i5]
    have m46 : fx_i m (d + 46) n = fx_i h (d + 46) n := by rw [i4, if_neg (by omega)]
    have md : ∀ j, fx_i m (d + 48 + 4 * n) j = fx_i h (d + 48 + 4 * n) j := fun j => i1 _ _ (by omega) (by omega) (by omega)
    unfold b_DE_allTaken bkS
    rw [m46]
    by_cases sel : fx_i h (d + 46) n = 0
    · rw [if_pos sel, if_pos sel]
      have g : ∀ j, (j < n + 1 ∧ ¬ fx_i h (d + 46) j = 0) ↔ (j < n ∧ ¬ fx_i h (d + 46) j = 0) := fun j => ⟨fun y => ⟨by
        have : j ≠ n := fun z => y.2 (by rw [z]; exact sel)
        omega, y.2⟩, fun y => ⟨by omega, y.2⟩⟩
      simp only [g]
      exact ⟨i1, i2, i3, i4, trivial⟩
    · rw [if_neg sel, if_neg sel]
      have w0 : ∀ y j, y ≠ d + 45 → y ≠ d + 46 → fx_i (fx_wi (fx_wi m (d + 46) n 0) (d + 45) n (-1)) y j = fx_i m y j := fun y j g1 g2 => by rw [fx_i_wi, if_neg (fun z => g1 z.1), fx_i_wi, if_neg (fun z => g2 z.1)]
      have w5 : ∀ j, fx_i (fx_wi (fx_wi m (d + 46) n 0) (d + 45) n (-1)) (d + 45) j = if j = n then -1 else fx_i m (d + 45) j := fun j => by
        rw [fx_i_wi]
        by_cases z : j = n
        · rw [if_pos ⟨rfl, z⟩, if_pos z]
        · rw [if_neg (fun y => z y.2), if_neg z, fx_i_wi, if_neg (fun y => by omega)]
      have w6 : ∀ j, fx_i (fx_wi (fx_wi m (d + 46) n 0) (d + 45) n (-1)) (d + 46) j = if j = n then 0 else fx_i m (d + 46) j := fun j => by
        rw [fx_i_wi, if_neg (fun y => by omega), fx_i_wi]
        by_cases z : j = n
        · rw [if_pos ⟨rfl, z⟩, if_pos z]
        · rw [if_neg (fun y => z y.2), if_neg z]
      generalize fx_wi (fx_wi m (d + 46) n 0) (d + 45) n (-1) = T at *
      rw [w0 d _ (by omega) (by omega), w0 (d + 48 + 4 * n) _ (by omega) (by omega), w0 (d + 48 + 4 * n) _ (by omega) (by omega), md, md]
      have g : ∀ j, j ≠ n → ((j < n + 1 ∧ ¬ fx_i h (d + 46) j = 0) ↔ (j < n ∧ ¬ fx_i h (d + 46) j = 0)) := fun j hj => ⟨fun y => ⟨by omega, y.2⟩, fun y => ⟨by omega, y.2⟩⟩
      refine ⟨fun y j g1 g2 g3 => ?_, fun j hj => ?_, fun j => ?_, fun j => ?_, ?_⟩
      · rw [fx_i_wi, if_neg (fun z => g1 z.1), w0 y j g2 g3]; exact i1 y j g1 g2 g3
      · rw [fx_i_wi, if_neg (fun z => hj z.2), w0 _ _ (by omega) (by omega)]; exact i2 j hj
      · rw [fx_i_wi, if_neg (fun z => by omega), w5]
        by_cases z : j = n
        · subst z
          rw [if_pos rfl, if_pos ⟨by omega, sel⟩]
        · rw [if_neg z, i3]
          simp only [g j z]
      · rw [fx_i_wi, if_neg (fun z => by omega), w6]
        by_cases z : j = n
        · subst z
          rw [if_pos rfl, if_pos ⟨by omega, sel⟩]
        · rw [if_neg z, i4]
          simp only [g j z]
      · rw [fx_i_wi, if_pos ⟨rfl, rfl⟩]
