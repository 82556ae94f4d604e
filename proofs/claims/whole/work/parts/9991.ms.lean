/-! ===== begin: what is missed, in and out of J ===== -/
/-- what memory m misses, out of J -/
theorem JM_ms {a b : fx_H} {w q m : Nat} (hq : w + 191 ≤ q) (hm : m < 2) (h : JM (mixH q a b) w q m) : msQ a b (w + 145 + 11 * m) q m := by
  obtain ⟨-, h2, h3, h4⟩ := h
  have e1 : w + 143 + 11 * m + 2 = w + 145 + 11 * m := by omega
  rw [e1, mix_c _ _ (by omega), mix_m] at h2
  rw [mix_m] at h3 h4
  refine ⟨h2, h3, fun i hi => ?_⟩
  have n := iz_nn h3.1
  have e2 : w + 143 + 11 * m + 4 + i = w + 145 + 11 * m + 2 + i := by omega
  have := h4 i hi
  rw [e2] at this
  have lt : w + 145 + 11 * m + 2 + i < q := by omega
  simp only [mix_c a b lt, mix_m] at this
  exact this
theorem ms_JM {a b c d : fx_H} {w q m : Nat} (hq : w + 191 ≤ q) (hm : m < 2) (h : JM (mixH q c d) w q m) (hp : ∀ j, j < 200 → fx_i a (w + 143 + 11 * m + 1) j = fx_i c (w + 143 + 11 * m + 1) j ∧ fx_i b (q + 20) (200 * m + j) = fx_i d (q + 20) (200 * m + j)) (hs : msQ a b (w + 145 + 11 * m) q m) : JM (mixH q a b) w q m := by
  obtain ⟨h1, -⟩ := h
  obtain ⟨s2, s3, s4⟩ := hs
  have e1 : w + 143 + 11 * m + 2 = w + 145 + 11 * m := by omega
  refine ⟨fun k hk => ?_, ?_, ?_, fun i hi => ?_⟩
  · have := h1 k hk
    rw [mix_c _ _ (by omega), mix_m] at this ⊢
    rw [(hp k hk).1, (hp k hk).2]
    exact this
  · rw [e1, mix_c _ _ (by omega), mix_m]; exact s2
  · rw [mix_m]; exact s3
  · rw [mix_m] at hi
    have n := iz_nn s3.1
    have e2 : w + 143 + 11 * m + 4 + i = w + 145 + 11 * m + 2 + i := by omega
    rw [e2]
    have lt : w + 145 + 11 * m + 2 + i < q := by omega
    simp only [mix_c a b lt, mix_m]
    exact s4 i hi
