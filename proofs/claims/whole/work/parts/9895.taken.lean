/-! ===== begin: the pile is taken ===== -/
theorem A_take {a b : fx_H} {w q : Nat} (hq : w + 191 ≤ q) (hP : ∀ s, s < 10 → PR (mixH q a b) (w + 6 + 4 * s) q (10 + s)) (hn : ∀ s, s < 10 → fx_i b (q + 1) s = 0 → fx_i b (q + 7) (10 + s) = 0 ∧ fx_i b (q + 7) (20 + s) = 0) (hU : ∀ l, l < 10 → ∃ t, t < 10 ∧ fx_i a (w + 90 + 2) l = nI t) :
    sortOk (it (b_PL_become (w + 90) (w + 3)) a 10) (w + 90) ∧ (∀ s, s < 10 → PR (mixH q (k_PL_become a (w + 90) (w + 3)) (it (b2_MO_begin q) b 10)) (w + 93 + 4 * s) q (20 + s)) ∧ PS (mixH q (k_PL_become a (w + 90) (w + 3)) (it (b2_MO_begin q) b 10)) (w + 90) q 20 ∧ (∀ y j, ¬ (w + 90 ≤ y ∧ y < w + 133) → fx_i (k_PL_become a (w + 90) (w + 3)) y j = fx_i a y j) := by
  obtain ⟨C1, C2⟩ := C_take (h := a) (P := w + 90) (Q := w + 3) (by omega) 10 (Nat.le_refl _)
  obtain ⟨M0, M2, M3, M4⟩ := M_take (h := b) (q := q) 10 (Nat.le_refl _)
  unfold k_PL_become
  generalize it (b_PL_become (w + 90) (w + 3)) a 10 = C at *
  generalize it (b2_MO_begin q) b 10 = B at *
  have e6 : ∀ s, w + 3 + 3 + 4 * s = w + 6 + 4 * s := fun s => by omega
  have e93 : ∀ s, w + 90 + 3 + 4 * s = w + 93 + 4 * s := fun s => by omega
  simp only [e6, e93] at C2
  have cl : ∀ y j, y < q → fx_i (mixH q a b) y j = fx_i a y j := fun y j h => mix_c _ _ h j
  have hoC : oOk C (w + 90) := by
    intro s hs
    rw [e93]
    obtain ⟨c1, -, -, -⟩ := C2 s hs
    rw [c1 0 (by decide), c1 5 (by decide)]
    intro y
    have hp := hP s hs
    rw [← cl _ _ (by omega)] at y
    obtain ⟨q1, -, -, -, q5, -⟩ := hp.2.2 y
    rw [← cl _ _ (by omega), q1.2.2.2.2.1]
    exact q5
  refine ⟨sort_ok hoC, ?_⟩
  obtain ⟨S1, S1b, S2, S2b, S3⟩ := sort_end hoC
  generalize k_PL_sort C (w + 90) = D at *
  have dC : ∀ y j, y ≠ w + 90 → y ≠ w + 92 → fx_i D y j = fx_i C y j := fun y j g1 g2 => S1 y (by omega) (by omega) j
  have pics : ∀ s, s < 10 → PR (mixH q D B) (w + 93 + 4 * s) q (20 + s) := by
    intro s hs
    obtain ⟨c0, c1, c2, c3⟩ := C2 s hs
    have g0 : ∀ j, j < 8 → fx_i (mixH q D B) (w + 93 + 4 * s) j = fx_i (mixH q a b) (w + 6 + 4 * s) j := fun j hj => by rw [mix_c _ _ (by omega), mix_c _ _ (by omega), dC _ _ (by omega) (by omega), c0 j hj]
    have g1 : ∀ j, j < 96 → fx_i (mixH q D B) (w + 93 + 4 * s + 1) j = fx_i (mixH q a b) (w + 6 + 4 * s + 1) j := fun j hj => by rw [mix_c _ _ (by omega), mix_c _ _ (by omega), dC _ _ (by omega) (by omega), c1 j hj]
    have g2 : ∀ j, j < 4 → fx_i (mixH q D B) (w + 93 + 4 * s + 2) j = fx_i (mixH q a b) (w + 6 + 4 * s + 2) j := fun j hj => by rw [mix_c _ _ (by omega), mix_c _ _ (by omega), dC _ _ (by omega) (by omega), c2 j hj]
    have g3 : ∀ j, j < 4 → fx_i (mixH q D B) (w + 93 + 4 * s + 3) j = fx_i (mixH q a b) (w + 6 + 4 * s + 3) j := fun j hj => by rw [mix_c _ _ (by omega), mix_c _ _ (by omega), dC _ _ (by omega) (by omega), c3 j hj]
    have hp := hP s hs
    by_cases z : fx_i b (q + 1) s = 0
    · obtain ⟨z1, z2⟩ := hn s hs z
      have z3 : fx_i (mixH q D B) (q + 7) (20 + s) = 0 := by rw [mix_m, (M2 7 (by decide) (by decide) s).2 hs, if_neg (fun y => y.2 z)]; exact z2
      have z4 : fx_i (mixH q a b) (q + 7) (10 + s) = 0 := by rw [mix_m]; exact z1
      have z5 : fx_i (mixH q D B) (w + 93 + 4 * s) 0 = 0 := by rw [g0 0 (by decide)]; exact hp.1.mpr z4
      refine ⟨⟨fun _ => z3, fun _ => z5⟩, ⟨rOk_of (fun j hj => (g3 j hj)) hp.2.1.1, fun _ => ?_, fun y => absurd (Or.inl z3) y⟩, fun y => absurd z5 y⟩
      rw [g3 2 (by decide), g3 3 (by decide)]
      exact hp.2.1.2.1 (Or.inl z4)
    · refine PR_congr (a := w + 6 + 4 * s) (p := 10 + s) g0 g1 g2 g3 (fun o h1 h2 => ?_) (fun j hj => ?_) ⟨?_, ?_⟩ hp
      · rw [mix_m, mix_m, (M2 o h1 h2 s).2 hs, if_pos ⟨hs, z⟩]
      · rw [mix_m, mix_m, M4 s j hs hj, if_pos ⟨hs, z⟩]
      · rw [mix_m, mix_m, mfr_at M0 (by decide)]
        congr 1
        omega
      · rw [mix_m, mix_m, mfr_at M0 (by decide)]
        congr 1
        omega
  refine ⟨pics, ?_, fun y j g => (dC y j (by omega) (by omega)).trans (C1 y j (by omega))⟩
  refine PS_fin (C := C) (by decide) (fun s hs j => ?_) ?_ (fun l hl hl2 => ?_) (fun l hl => ?_) hoC (fun t ht => ?_)
  · rw [mix_c _ _ (by omega), dC _ _ (by omega) (by omega)]
  · rw [mix_c _ _ (by omega)]
    exact S2
  · obtain ⟨t, t1, t2⟩ := hU l hl
    exact ⟨t, t1, by rw [mix_c _ _ (by omega), S2b l hl2, C1 _ _ (by omega)]; exact t2⟩
  · obtain ⟨t, t1, t2, t3, t4, t5⟩ := S3 l hl
    exact ⟨t, t1, t2, t3, by rw [mix_c _ _ (by omega)]; exact t4, t5⟩
  · rw [e93]
    obtain ⟨p1, -, p3⟩ := pics t ht
    exact ⟨p1, fun z => (p3 z).1.2.2.2.2.1⟩
