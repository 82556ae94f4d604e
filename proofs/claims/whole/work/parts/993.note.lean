/-! ===== begin: the changes are noted ===== -/
theorem mOk_congr {a b : fx_H} {M : Nat} (e : fx_i b M 1 = fx_i a M 1) (h : mOk a M) : mOk b M := by
  unfold mOk mS at *
  rw [e]
  exact h
/-- a rectangle is noted for both memories, in the class's order -/
theorem A_miss2 {a b : fx_H} {w q f g x : Nat} (hfg : (f = w + 143 ∧ g = w + 154) ∨ (f = w + 154 ∧ g = w + 143)) (hx : ¬ (w + 145 ≤ x ∧ x < w + 165)) (h0 : msQ a b (w + 145) q 0) (h1 : msQ a b (w + 156) q 1) (hs : sD a b q x) :
    msQ (k_MI_add (k_MI_add a (f + 2) x) (g + 2) x) (k_MO_miss b q) (w + 145) q 0 ∧ msQ (k_MI_add (k_MI_add a (f + 2) x) (g + 2) x) (k_MO_miss b q) (w + 156) q 1 ∧ ∀ y j, ¬ (w + 145 ≤ y ∧ y < w + 154) → ¬ (w + 156 ≤ y ∧ y < w + 165) → fx_i (k_MI_add (k_MI_add a (f + 2) x) (g + 2) x) y j = fx_i a y j := by
  obtain ⟨⟨r1, r2⟩, r3, r4⟩ := A_miss (M := w + 145) (N := w + 156) (q := q) (x := x) (by omega) ⟨by omega, by omega⟩ h0 h1 hs
  have o0 := out_MI_add a (w + 145) x (msQ_ok h0)
  have o1 := out_MI_add a (w + 156) x (msQ_ok h1)
  rcases hfg with ⟨rfl, rfl⟩ | ⟨rfl, rfl⟩
  · have e1 : w + 143 + 2 = w + 145 := by omega
    have e2 : w + 154 + 2 = w + 156 := by omega
    rw [e1, e2]
    have o2 := out_MI_add (k_MI_add a (w + 145) x) (w + 156) x (mOk_congr (o0.2 (w + 156) (by omega) 1) (msQ_ok h1))
    exact ⟨r1, r2, fun y j g1 g2 => (o2.2 y (by omega) j).trans (o0.2 y (by omega) j)⟩
  · have e1 : w + 143 + 2 = w + 145 := by omega
    have e2 : w + 154 + 2 = w + 156 := by omega
    rw [e1, e2]
    have o2 := out_MI_add (k_MI_add a (w + 156) x) (w + 145) x (mOk_congr (o1.2 (w + 145) (by omega) 1) (msQ_ok h0))
    exact ⟨r3, r4, fun y j g1 g2 => (o2.2 y (by omega) j).trans (o1.2 y (by omega) j)⟩
/-- noting the changes: what both have noted so far -/
def ncJ (a b k m : fx_H) (w q : Nat) : Prop := msQ k m (w + 145) q 0 ∧ msQ k m (w + 156) q 1 ∧ (∀ y j, ¬ (w + 145 ≤ y ∧ y < w + 154) → ¬ (w + 156 ≤ y ∧ y < w + 165) → fx_i k y j = fx_i a y j) ∧ mfr q [21, 22, 23, 24, 25] [38, 39, 40, 41] b m
/-- Model: what was before is noted -/
theorem note_1 {a b k m : fx_H} {w q f g i : Nat} (hfg : (f = w + 143 ∧ g = w + 154) ∨ (f = w + 154 ∧ g = w + 143)) (hi : i < 10) (hI : ncJ a b k m w q) (hw2 : fx_i b (q + 31) i = 0 → wD a b q i (w + 165 + i)) (hw3 : ¬ fx_i b (q + 31) i = 0 → fx_i b (q + 29) i = 0) :
    (fx_i b (q + 31) i = 0 → ncJ a b (k_MI_add (k_MI_add k (f + 2) (w + 165 + i)) (g + 2) (w + 165 + i)) (k_MO_miss (mbC q i m) q) w q) ∧ (¬ fx_i b (q + 31) i = 0 → ncJ a b k (k_MO_miss (mbC q i m) q) w q) := by
  obtain ⟨q0, q1, hc, hf⟩ := hI
  have mb := mfr_mb3 q i m
  have c1 : ∀ o j, 0 < o → fx_i (mbC q i m) (q + o) j = fx_i m (q + o) j := fun o j h => mfr_at mb ⟨fun z => (by cases z), h⟩ j
  have mo : ∀ o j, 26 ≤ o → fx_i m (q + o) j = fx_i b (q + o) j := fun o j h => mfr_at hf ⟨fun z => by simp only [List.mem_cons, List.mem_nil_iff, or_false] at z; omega, by omega⟩ j
  have f0 : msQ k (mbC q i m) (w + 145) q 0 := msQ_fr (by decide) q0 (fun _ _ _ _ => rfl) (c1 21 _ (by decide)) (fun o h1 _ y _ _ => c1 o y (by omega))
  have f1 : msQ k (mbC q i m) (w + 156) q 1 := msQ_fr (by decide) q1 (fun _ _ _ _ => rfl) (c1 21 _ (by decide)) (fun o h1 _ y _ _ => c1 o y (by omega))
  have hf1 : mfr q [21, 22, 23, 24, 25] [38, 39, 40, 41] b (mbC q i m) := mfr_t hf (mfr_m mb (fun o ho => by cases ho) (fun o ho => ho))
  have hf2 : mfr q [21, 22, 23, 24, 25] [38, 39, 40, 41] b (k_MO_miss (mbC q i m) q) := mfr_t hf1 (mfr_m (mfr_miss _ q) (fun o ho => ho) (fun o ho => by cases ho))
  refine ⟨fun z => ?_, fun z => ?_⟩
  · have hw : wD k m q i (w + 165 + i) := by
      have := hw2 z
      have cx : ∀ j, fx_i k (w + 165 + i) j = fx_i a (w + 165 + i) j := fun j => hc _ _ (by omega) (by omega)
      unfold wD rE at this ⊢
      simp only [cx, mo 27 _ (by decide), mo 28 _ (by decide), mo 29 _ (by decide), mo 30 _ (by decide)]
      exact this
    obtain ⟨r1, r2, r3⟩ := A_miss2 (w := w) (q := q) (x := w + 165 + i) hfg (by omega) f0 f1 (mbC_s hw)
    exact ⟨r1, r2, fun y j g1 g2 => (r3 y j g1 g2).trans (hc y j g1 g2), hf2⟩
  · have e40 : fx_i (mbC q i m) q 40 = 0 := by
      have : fx_i (mbC q i m) q 40 = fx_i m (q + 29) i := by unfold mbC; simp only [fx_i_wi]; simp
      rw [this, mo 29 _ (by decide)]
      exact hw3 z
    have em : k_MO_miss (mbC q i m) q = mbC q i m := by
      unfold k_MO_miss
      rw [if_pos (by rw [e40]; decide)]
    rw [em]
    exact ⟨f0, f1, hc, hf1⟩
/-- what is shown now is noted -/
theorem note_2 {a b k m : fx_H} {w q f g i : Nat} (hq : w + 191 ≤ q) (hfg : (f = w + 143 ∧ g = w + 154) ∨ (f = w + 154 ∧ g = w + 143)) (hi : i < 10) (hI : ncJ a b k m w q) (hP : PR (mixH q a b) (w + 93 + 4 * i) q (20 + i)) :
    ncJ a b (k_MI_add (k_MI_add k (f + 2) (w + 93 + 4 * i + 3)) (g + 2) (w + 93 + 4 * i + 3)) (k_MO_miss (k_MO_show m q (nI (20 + i))) q) w q := by
  obtain ⟨q0, q1, hc, hf⟩ := hI
  have mb := mfr_show m q (nI (20 + i))
  have c1 : ∀ o j, 0 < o → fx_i (k_MO_show m q (nI (20 + i))) (q + o) j = fx_i m (q + o) j := fun o j h => mfr_at mb ⟨fun z => (by cases z), h⟩ j
  have mo : ∀ o j, 0 < o → o ≤ 20 → fx_i m (q + o) j = fx_i b (q + o) j := fun o j h h2 => mfr_at hf ⟨fun z => by simp only [List.mem_cons, List.mem_nil_iff, or_false] at z; omega, h⟩ j
  have f0 : msQ k (k_MO_show m q (nI (20 + i))) (w + 145) q 0 := msQ_fr (by decide) q0 (fun _ _ _ _ => rfl) (c1 21 _ (by decide)) (fun o h1 _ y _ _ => c1 o y (by omega))
  have f1 : msQ k (k_MO_show m q (nI (20 + i))) (w + 156) q 1 := msQ_fr (by decide) q1 (fun _ _ _ _ => rfl) (c1 21 _ (by decide)) (fun o h1 _ y _ _ => c1 o y (by omega))
  have hf1 : mfr q [21, 22, 23, 24, 25] [38, 39, 40, 41] b (k_MO_show m q (nI (20 + i))) := mfr_t hf (mfr_m mb (fun o ho => by cases ho) (fun o ho => ho))
  have hf2 : mfr q [21, 22, 23, 24, 25] [38, 39, 40, 41] b (k_MO_miss (k_MO_show m q (nI (20 + i))) q) := mfr_t hf1 (mfr_m (mfr_miss _ q) (fun o ho => ho) (fun o ho => by cases ho))
  have hs : sD k (k_MO_show m q (nI (20 + i))) q (w + 93 + 4 * i + 3) := by
    refine show_s (c := w + 93 + 4 * i) (by omega) (by omega) ?_ (fun j _ => rfl)
    refine PR_congr (h := mixH q a b) (fun j _ => ?_) (fun j _ => ?_) (fun j _ => ?_) (fun j _ => ?_) (fun o h1 h2 => ?_) (fun j _ => ?_) ⟨?_, ?_⟩ hP
    · rw [mix_c _ _ (by omega), mix_c _ _ (by omega), hc _ _ (by omega) (by omega)]
    · rw [mix_c _ _ (by omega), mix_c _ _ (by omega), hc _ _ (by omega) (by omega)]
    · rw [mix_c _ _ (by omega), mix_c _ _ (by omega), hc _ _ (by omega) (by omega)]
    · rw [mix_c _ _ (by omega), mix_c _ _ (by omega), hc _ _ (by omega) (by omega)]
    · rw [mix_m, mix_m, mo o _ (by omega) (by omega)]
    · rw [mix_m, mix_m, mo 17 _ (by omega) (by omega)]
    · rw [mix_m, mix_m, mo 3 _ (by omega) (by omega)]
    · rw [mix_m, mix_m, mo 4 _ (by omega) (by omega)]
  obtain ⟨r1, r2, r3⟩ := A_miss2 (w := w) (q := q) (x := w + 93 + 4 * i + 3) hfg (by omega) f0 f1 hs
  exact ⟨r1, r2, fun y j g1 g2 => (r3 y j g1 g2).trans (hc y j g1 g2), hf2⟩
