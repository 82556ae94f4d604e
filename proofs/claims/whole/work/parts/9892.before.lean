/-! ===== begin: what was before ===== -/
/-- the Model's scratch rectangle and the rectangle at y: both empty, or the same rectangle of the screen -/
def sD (a b : fx_H) (q y : Nat) : Prop := (fx_i b q 40 ≤ 0 ∧ rE a y = 1) ∨ (sR a b q y ∧ sB b q)
theorem show_s {a b : fx_H} {q c p y : Nat} (hp : p < 30) (hc : c + 3 < q) (hP : PR (mixH q a b) c q p) (hy : ∀ j, j < 4 → fx_i a y j = fx_i a (c + 3) j) : sD a (k_MO_show b q (nI p)) q y := by
  obtain ⟨y1, y2, y3, y4, y5⟩ := sh_congr (h := b) (k := mixH q a b) (q := q) (p := p) (fun o _ _ => mix_m _ _ _ _)
  have cl : ∀ j, fx_i (mixH q a b) (c + 3) j = fx_i a (c + 3) j := fun j => mix_c _ _ hc j
  obtain ⟨h0, ⟨-, s2, s3⟩, h5⟩ := hP
  unfold rIs at s3
  rw [cl, cl] at s2
  rw [cl, cl, cl, cl] at s3
  rw [y1, y2, y3, y4] at s3
  have hk : ¬ fx_i b (q + 7) p = 0 → mpOk b q p := fun z => by
    have z2 : ¬ fx_i (mixH q a b) c 0 = 0 := fun e => z (by have := h0.mp e; rw [mix_m] at this; exact this)
    have := (h5 z2).2.2.2.1
    unfold mpOk at this ⊢
    simp only [mix_m] at this
    exact this
  obtain ⟨v1, v2⟩ := show_v b q p hp hk
  have hE : shE (mixH q a b) q p ↔ shE b q p := by rw [y5]
  have z0 : (0 : Int32).toInt = 0 := rfl
  by_cases e : shE b q p
  · refine Or.inl ⟨?_, ?_⟩
    · rw [(v1 e).1, iz_le]; exact Int.le_refl _
    · unfold rE
      rw [hy 2 (by decide), hy 3 (by decide), if_pos (s2 (hE.mpr e))]
  · obtain ⟨r1, r2, r3, r4⟩ := s3 (fun z => e (hE.mp z))
    obtain ⟨t1, t2, t3, t4⟩ := v2 e
    refine Or.inr ⟨⟨?_, ?_, ?_, ?_⟩, ?_⟩
    · rw [hy 0 (by decide), iz_eq, r1, t1]
    · rw [hy 1 (by decide), iz_eq, r2, t2]
    · rw [hy 2 (by decide), iz_eq, r3, t3]
    · rw [hy 3 (by decide), iz_eq, r4, t4]
    · unfold sB
      rw [t1, t2, t3, t4]
      have e1 : ¬ shR b q p ≤ shX b q p := fun z => e (Or.inr (Or.inr (Or.inl z)))
      have e2 : ¬ shB b q p ≤ shY b q p := fun z => e (Or.inr (Or.inr (Or.inr z)))
      have b1 : 0 ≤ shX b q p := by unfold shX; omega
      have b2 : 0 ≤ shY b q p := by unfold shY; omega
      have b3 : shR b q p ≤ 20 := by unfold shR; omega
      have b4 : shB b q p ≤ 10 := by unfold shB; omega
      clear r1 r2 r3 r4 t1 t2 t3 t4 v1 v2 s2 s3 hE hk
      omega
/-- what the Model noted of the surface s before: the rectangle at y -/
def wD (a k : fx_H) (q s y : Nat) : Prop := (fx_i k (q + 29) s ≤ 0 ∧ rE a y = 1) ∨ ((fx_i a y 0 = fx_i k (q + 27) s ∧ fx_i a y 1 = fx_i k (q + 28) s ∧ fx_i a y 2 = fx_i k (q + 29) s ∧ fx_i a y 3 = fx_i k (q + 30) s) ∧
  0 ≤ (fx_i k (q + 27) s).toInt ∧ 0 ≤ (fx_i k (q + 28) s).toInt ∧ 0 < (fx_i k (q + 29) s).toInt ∧ 0 < (fx_i k (q + 30) s).toInt ∧ (fx_i k (q + 27) s).toInt + (fx_i k (q + 29) s).toInt ≤ 20 ∧ (fx_i k (q + 28) s).toInt + (fx_i k (q + 30) s).toInt ≤ 10)
theorem mbC_s {a k : fx_H} {q s y : Nat} (hw : wD a k q s y) : sD a (mbC q s k) q y := by
  have e : fx_i (mbC q s k) q 38 = fx_i k (q + 27) s ∧ fx_i (mbC q s k) q 39 = fx_i k (q + 28) s ∧ fx_i (mbC q s k) q 40 = fx_i k (q + 29) s ∧ fx_i (mbC q s k) q 41 = fx_i k (q + 30) s := by
    unfold mbC
    simp only [fx_i_wi]
    simp
  obtain ⟨e1, e2, e3, e4⟩ := e
  unfold sD sR sB
  rw [e1, e2, e3, e4]
  exact hw
/-- the Model's notes of what was before, for the surfaces under n -/
def wN (a b k : fx_H) (q : Nat) (x : Nat → Nat) (n : Nat) : Prop := ∀ s, s < n → fx_i k (q + 31) s = v_MO_isPlane b q (nI s) ∧ (fx_i k (q + 31) s = 0 → wD a k q s (x s)) ∧ (¬ fx_i k (q + 31) s = 0 → fx_i k (q + 29) s = 0)
theorem b1_v (q i : Nat) (k : fx_H) (hi : i < 10) : fx_i (b1_MO_begin q i k) (q + 31) i = v_MO_isPlane k q (nI i) ∧ fx_i (b1_MO_begin q i k) (q + 27) i = fx_i (k_MO_show k q (nI (20 + i))) q 38 ∧ fx_i (b1_MO_begin q i k) (q + 28) i = fx_i (k_MO_show k q (nI (20 + i))) q 39 ∧ fx_i (b1_MO_begin q i k) (q + 29) i = (if v_MO_isPlane k q (nI i) = 0 then fx_i (k_MO_show k q (nI (20 + i))) q 40 else 0) ∧ fx_i (b1_MO_begin q i k) (q + 30) i = fx_i (k_MO_show k q (nI (20 + i))) q 41 ∧ ∀ o y, 27 ≤ o → o ≤ 31 → y ≠ i → fx_i (b1_MO_begin q i k) (q + o) y = fx_i k (q + o) y := by
  have e20 : (20 : Int32) + nI i = nI (20 + i) := nI_add 20 i
  have ms := mfr_show k q (nI (20 + i))
  have pl : v_MO_isPlane (k_MO_show k q (nI (20 + i))) q (nI i) = v_MO_isPlane k q (nI i) := by
    unfold v_MO_isPlane
    rw [mfr_at ms ⟨fun z => (by cases z), by decide⟩, mfr_at ms ⟨fun z => (by cases z), by decide⟩]
  have so : ∀ o y, 0 < o → fx_i (k_MO_show k q (nI (20 + i))) (q + o) y = fx_i k (q + o) y := fun o y h => mfr_at ms ⟨fun z => (by cases z), h⟩ y
  have e31 : fx_i (mbA q i k) (q + 31) i = v_MO_isPlane k q (nI i) := by
    unfold mbA
    rw [e20, pl]
    simp only [fx_i_wi]
    simp
  unfold b1_MO_begin
  rw [e31]
  unfold mbA
  rw [e20, pl]
  generalize k_MO_show k q (nI (20 + i)) = T at *
  generalize v_MO_isPlane k q (nI i) = V at *
  by_cases hv : V = 0
  · rw [if_pos hv, if_pos hv]
    simp only [fx_i_wi]
    refine ⟨by simp, by simp, by simp, by simp, by simp, fun o y h1 h2 h3 => ?_⟩
    simp [h3, so o y (by omega)]
  · rw [if_neg hv, if_neg hv]
    simp only [fx_i_wi]
    refine ⟨by simp, by simp, by simp, by simp, by simp, fun o y h1 h2 h3 => ?_⟩
    simp [h3, so o y (by omega)]
