/-! ===== begin: the committed pictures are taken ===== -/
/-- the Model's loop that takes the committed pictures -/
theorem M_take {h : fx_H} {q : Nat} : ∀ n, n ≤ 10 →
    mfr q [7, 8, 9, 10, 11, 12, 13, 14, 15, 16, 17] [] h (it (b2_MO_begin q) h n) ∧
    (∀ o, 7 ≤ o → o ≤ 16 → ∀ j, (j < 20 → fx_i (it (b2_MO_begin q) h n) (q + o) j = fx_i h (q + o) j) ∧ (j < 10 → fx_i (it (b2_MO_begin q) h n) (q + o) (20 + j) = if j < n ∧ ¬ fx_i h (q + 1) j = 0 then fx_i h (q + o) (10 + j) else fx_i h (q + o) (20 + j))) ∧
    (∀ j, j < 1920 → fx_i (it (b2_MO_begin q) h n) (q + 17) j = fx_i h (q + 17) j) ∧ (∀ s j, s < 10 → j < 96 → fx_i (it (b2_MO_begin q) h n) (q + 17) (96 * (20 + s) + j) = if s < n ∧ ¬ fx_i h (q + 1) s = 0 then fx_i h (q + 17) (96 * (10 + s) + j) else fx_i h (q + 17) (96 * (20 + s) + j))
  | 0, _ => by
    rw [it_0]
    exact ⟨mfr_rf _ _ _ _, fun o _ _ j => ⟨fun _ => rfl, fun _ => by rw [if_neg (by omega)]⟩, fun j _ => rfl, fun s j _ _ => by rw [if_neg (by omega)]⟩
  | n + 1, hn => by
    obtain ⟨i0, i2, i3, i4⟩ := M_take (h := h) (q := q) n (by omega)
    rw [it_s]
    generalize it (b2_MO_begin q) h n = m at *
    have m1 : ∀ j, fx_i m (q + 1) j = fx_i h (q + 1) j := fun j => mfr_at i0 (by decide) j
    by_cases sel : ¬ fx_i h (q + 1) n = 0
    · have e20 : (20 : Int32) + nI n = nI (20 + n) := nI_add 20 n
      have e : b2_MO_begin q n m = k_MO_copyPicture m q (nI (10 + n)) (nI (20 + n)) := by
        unfold b2_MO_begin
        rw [m1, if_neg sel, jz_a (by omega), e20]
      obtain ⟨c1, c2⟩ := copyP_v (h := m) (q := q) (a := 10 + n) (t := 20 + n) (by omega) (by omega) (by omega)
      have cm := mfr_copyPicture m q (nI (10 + n)) (nI (20 + n))
      rw [e]
      refine ⟨mfr_t i0 (mfr_m cm (by decide) (by decide)), fun o h1 h2 j => ⟨fun hj => ?_, fun hj => ?_⟩, fun j hj => ?_, fun s j hs hj => ?_⟩
      · rw [c1 o h1 h2, if_neg (by omega)]
        exact (i2 o h1 h2 j).1 hj
      · rw [c1 o h1 h2]
        by_cases z : j = n
        · subst z
          rw [if_pos rfl, if_pos ⟨by omega, sel⟩]
          exact (i2 o h1 h2 (10 + j)).1 (by omega)
        · rw [if_neg (by omega), (i2 o h1 h2 j).2 hj]
          by_cases z2 : j < n ∧ ¬ fx_i h (q + 1) j = 0
          · rw [if_pos z2, if_pos ⟨by omega, z2.2⟩]
          · rw [if_neg z2, if_neg (fun y => z2 ⟨by omega, y.2⟩)]
      · rw [c2, if_neg (by omega)]
        exact i3 j hj
      · rw [c2]
        by_cases z : s = n
        · subst z
          rw [if_pos (by omega), if_pos ⟨by omega, sel⟩, i3 _ (by omega)]
          congr 1
          omega
        · rw [if_neg (by omega), i4 s j hs hj]
          by_cases z2 : s < n ∧ ¬ fx_i h (q + 1) s = 0
          · rw [if_pos z2, if_pos ⟨by omega, z2.2⟩]
          · rw [if_neg z2, if_neg (fun y => z2 ⟨by omega, y.2⟩)]
    · have e : b2_MO_begin q n m = m := by
        unfold b2_MO_begin
        rw [m1, if_pos (Decidable.not_not.mp sel)]
      rw [e]
      have g : ∀ j, (j < n + 1 ∧ ¬ fx_i h (q + 1) j = 0) ↔ (j < n ∧ ¬ fx_i h (q + 1) j = 0) := fun j => ⟨fun y => ⟨by
        have : j ≠ n := fun z => sel (by rw [← z]; exact y.2)
        omega, y.2⟩, fun y => ⟨by omega, y.2⟩⟩
      refine ⟨i0, fun o h1 h2 j => ⟨(i2 o h1 h2 j).1, fun hj => by rw [(i2 o h1 h2 j).2 hj]; simp only [g]⟩, i3, fun s j hs hj => by rw [i4 s j hs hj]; simp only [g]⟩
/-- the class's loop that takes them -/
theorem C_take {h : fx_H} {P Q : Nat} (hPQ : Q + 43 ≤ P) : ∀ n, n ≤ 10 →
    (∀ a j, ¬ (P + 3 ≤ a ∧ a < P + 43) → fx_i (it (b_PL_become P Q) h n) a j = fx_i h a j) ∧
    (∀ s, s < n → (∀ j, j < 8 → fx_i (it (b_PL_become P Q) h n) (P + 3 + 4 * s) j = fx_i h (Q + 3 + 4 * s) j) ∧ (∀ j, j < 96 → fx_i (it (b_PL_become P Q) h n) (P + 3 + 4 * s + 1) j = fx_i h (Q + 3 + 4 * s + 1) j) ∧ (∀ j, j < 4 → fx_i (it (b_PL_become P Q) h n) (P + 3 + 4 * s + 2) j = fx_i h (Q + 3 + 4 * s + 2) j) ∧ (∀ j, j < 4 → fx_i (it (b_PL_become P Q) h n) (P + 3 + 4 * s + 3) j = fx_i h (Q + 3 + 4 * s + 3) j))
  | 0, _ => by
    rw [it_0]
    exact ⟨fun _ _ _ => rfl, fun s hs => by omega⟩
  | n + 1, hn => by
    obtain ⟨i1, i2⟩ := C_take (h := h) hPQ n (by omega)
    rw [it_s]
    generalize it (b_PL_become P Q) h n = m at *
    unfold b_PL_become
    obtain ⟨P1, P2, P3, P4, P5⟩ := pCopy_v m (P + 3 + 4 * n) (Q + 3 + 4 * n) (by omega)
    generalize pCopy m (P + 3 + 4 * n) (Q + 3 + 4 * n) = T at *
    refine ⟨fun a j g => by rw [P1 _ _ (by omega) (by omega) (by omega) (by omega)]; exact i1 a j g, fun s hs => ?_⟩
    by_cases z : s = n
    · subst z
      refine ⟨fun j hj => ?_, fun j hj => ?_, fun j hj => ?_, fun j hj => ?_⟩
      · rw [P2 j hj]; exact i1 _ _ (by omega)
      · rw [P3 j hj]; exact i1 _ _ (by omega)
      · rw [P4 j hj]; exact i1 _ _ (by omega)
      · rw [P5 j hj]; exact i1 _ _ (by omega)
    · obtain ⟨a1, a2, a3, a4⟩ := i2 s (by omega)
      refine ⟨fun j hj => ?_, fun j hj => ?_, fun j hj => ?_, fun j hj => ?_⟩
      · rw [P1 _ _ (by omega) (by omega) (by omega) (by omega)]; exact a1 j hj
      · rw [P1 _ _ (by omega) (by omega) (by omega) (by omega)]; exact a2 j hj
      · rw [P1 _ _ (by omega) (by omega) (by omega) (by omega)]; exact a3 j hj
      · rw [P1 _ _ (by omega) (by omega) (by omega) (by omega)]; exact a4 j hj
