/-! ===== the pair that wastes least ===== -/
/-- the rectangle at x is the Model's rectangle n of what is missed -/
def rMi (a b : fx_H) (q x n : Nat) : Prop := fx_i a x 0 = fx_i b (q + 22) n ∧ fx_i a x 1 = fx_i b (q + 23) n ∧ fx_i a x 2 = fx_i b (q + 24) n ∧ fx_i a x 3 = fx_i b (q + 25) n
/-- a rectangle of the screen, not empty -/
def rBd (b : fx_H) (q n : Nat) : Prop := 0 ≤ (fx_i b (q + 22) n).toInt ∧ 0 ≤ (fx_i b (q + 23) n).toInt ∧ 0 < (fx_i b (q + 24) n).toInt ∧ 0 < (fx_i b (q + 25) n).toInt ∧ (fx_i b (q + 22) n).toInt + (fx_i b (q + 24) n).toInt ≤ 20 ∧ (fx_i b (q + 23) n).toInt + (fx_i b (q + 25) n).toInt ≤ 10
theorem hull_1 (xi xj ri rj : Int32) : (if xj ≤ xi then (if ri ≤ rj then rj - xj else ri - xj) else (if ri ≤ rj then rj - xi else ri - xi)) = jmax ri rj - jmin xi xj := by
  have e1 : (if ri ≤ rj then rj else ri) = jmax ri rj := by
    unfold jmax
    by_cases h1 : ri < rj
    · rw [if_pos h1, if_pos (by rw [iz_le]; rw [iz_lt] at h1; omega)]
    · rw [if_neg h1]
      by_cases h2 : ri ≤ rj
      · rw [if_pos h2]; rw [iz_le] at h2; rw [iz_lt] at h1; exact iz_eq.mpr (by omega)
      · rw [if_neg h2]
  have e2 : (if xj ≤ xi then xj else xi) = jmin xi xj := by
    unfold jmin
    by_cases h1 : xj < xi
    · rw [if_pos h1, if_pos (by rw [iz_le]; rw [iz_lt] at h1; omega)]
    · rw [if_neg h1]
      by_cases h2 : xj ≤ xi
      · rw [if_pos h2]; rw [iz_le] at h2; rw [iz_lt] at h1; exact iz_eq.mpr (by omega)
      · rw [if_neg h2]
  rw [← e1, ← e2]
  repeat' split
  all_goals rfl
theorem min_1 (xi xj : Int32) : (if xj ≤ xi then xj else xi) = jmin xi xj := by
  unfold jmin
  by_cases h1 : xj < xi
  · rw [if_pos h1, if_pos (by rw [iz_le]; rw [iz_lt] at h1; omega)]
  · rw [if_neg h1]
    by_cases h2 : xj ≤ xi
    · rw [if_pos h2]; rw [iz_le] at h2; rw [iz_lt] at h1; exact iz_eq.mpr (by omega)
    · rw [if_neg h2]
theorem hull_w {a b : fx_H} {q x y i j : Nat} (hi : i < 14) (hj : j < 14) (e1 : rMi a b q x i) (e2 : rMi a b q y j) : v_MO_hullWide b q (nI i) (nI j) = jmax (fx_i a x 0 + fx_i a x 2) (fx_i a y 0 + fx_i a y 2) - jmin (fx_i a x 0) (fx_i a y 0) := by
  unfold v_MO_hullWide
  rw [nI_clamp (n := i) (by omega), nI_clamp (n := j) (by omega), e1.1, e1.2.2.1, e2.1, e2.2.2.1]
  exact hull_1 _ _ _ _
theorem hull_h {a b : fx_H} {q x y i j : Nat} (hi : i < 14) (hj : j < 14) (e1 : rMi a b q x i) (e2 : rMi a b q y j) : v_MO_hullHigh b q (nI i) (nI j) = jmax (fx_i a x 1 + fx_i a x 3) (fx_i a y 1 + fx_i a y 3) - jmin (fx_i a x 1) (fx_i a y 1) := by
  unfold v_MO_hullHigh
  rw [nI_clamp (n := i) (by omega), nI_clamp (n := j) (by omega), e1.2.1, e1.2.2.2, e2.2.1, e2.2.2.2]
  exact hull_1 _ _ _ _
theorem waste_eq {a b : fx_H} {q x y i j : Nat} (hi : i < 14) (hj : j < 14) (e1 : rMi a b q x i) (e2 : rMi a b q y j) : mW b q i j = rWaste a x y := by
  unfold mW rWaste
  rw [hull_w hi hj e1 e2, hull_h hi hj e1 e2, e1.2.2.1, e1.2.2.2, e2.2.2.1, e2.2.2.2]
theorem jmax_ti (x y : Int32) : (jmax x y).toInt = max x.toInt y.toInt := by
  unfold jmax
  split <;> rename_i h <;> rw [iz_lt] at h <;> omega
theorem jmin_ti (x y : Int32) : (jmin x y).toInt = min x.toInt y.toInt := by
  unfold jmin
  split <;> rename_i h <;> rw [iz_lt] at h <;> omega
/-- the hull of two rectangles of the screen is one, too -/
theorem hull_bd {b : fx_H} {q i j : Nat} (h1 : rBd b q i) (h2 : rBd b q j) :
    0 ≤ (jmin (fx_i b (q + 22) i) (fx_i b (q + 22) j)).toInt ∧ 0 ≤ (jmin (fx_i b (q + 23) i) (fx_i b (q + 23) j)).toInt ∧
    0 < (jmax (fx_i b (q + 22) i + fx_i b (q + 24) i) (fx_i b (q + 22) j + fx_i b (q + 24) j) - jmin (fx_i b (q + 22) i) (fx_i b (q + 22) j)).toInt ∧
    0 < (jmax (fx_i b (q + 23) i + fx_i b (q + 25) i) (fx_i b (q + 23) j + fx_i b (q + 25) j) - jmin (fx_i b (q + 23) i) (fx_i b (q + 23) j)).toInt ∧
    (jmin (fx_i b (q + 22) i) (fx_i b (q + 22) j)).toInt + (jmax (fx_i b (q + 22) i + fx_i b (q + 24) i) (fx_i b (q + 22) j + fx_i b (q + 24) j) - jmin (fx_i b (q + 22) i) (fx_i b (q + 22) j)).toInt ≤ 20 ∧
    (jmin (fx_i b (q + 23) i) (fx_i b (q + 23) j)).toInt + (jmax (fx_i b (q + 23) i + fx_i b (q + 25) i) (fx_i b (q + 23) j + fx_i b (q + 25) j) - jmin (fx_i b (q + 23) i) (fx_i b (q + 23) j)).toInt ≤ 10 := by
  obtain ⟨a1, a2, a3, a4, a5, a6⟩ := h1
  obtain ⟨c1, c2, c3, c4, c5, c6⟩ := h2
  have s1 := iz_add (a := fx_i b (q + 22) i) (b := fx_i b (q + 24) i) (by omega)
  have s2 := iz_add (a := fx_i b (q + 22) j) (b := fx_i b (q + 24) j) (by omega)
  have s3 := iz_add (a := fx_i b (q + 23) i) (b := fx_i b (q + 25) i) (by omega)
  have s4 := iz_add (a := fx_i b (q + 23) j) (b := fx_i b (q + 25) j) (by omega)
  have m1 := jmax_ti (fx_i b (q + 22) i + fx_i b (q + 24) i) (fx_i b (q + 22) j + fx_i b (q + 24) j)
  have m2 := jmin_ti (fx_i b (q + 22) i) (fx_i b (q + 22) j)
  have m3 := jmax_ti (fx_i b (q + 23) i + fx_i b (q + 25) i) (fx_i b (q + 23) j + fx_i b (q + 25) j)
  have m4 := jmin_ti (fx_i b (q + 23) i) (fx_i b (q + 23) j)
  rw [s1, s2] at m1
  rw [s3, s4] at m3
  rw [iz_sub (a := jmax (fx_i b (q + 22) i + fx_i b (q + 24) i) (fx_i b (q + 22) j + fx_i b (q + 24) j)) (by omega), iz_sub (a := jmax (fx_i b (q + 23) i + fx_i b (q + 25) i) (fx_i b (q + 23) j + fx_i b (q + 25) j)) (by omega)]
  omega
theorem prod_bd {x y : Int} (h1 : 0 ≤ x) (h2 : x ≤ 20) (h3 : 0 ≤ y) (h4 : y ≤ 10) : 0 ≤ x * y ∧ x * y ≤ 200 := by
  refine ⟨Int.mul_nonneg h1 h3, ?_⟩
  have := Int.mul_le_mul h2 h4 h3 (by decide : (0 : Int) ≤ 20)
  omega
theorem waste_bd {a b : fx_H} {q x y i j : Nat} (e1 : rMi a b q x i) (e2 : rMi a b q y j) (h1 : rBd b q i) (h2 : rBd b q j) : (rWaste a x y).toInt < 100000 := by
  obtain ⟨b1, b2, b3, b4, b5, b6⟩ := hull_bd h1 h2
  obtain ⟨a1, a2, a3, a4, a5, a6⟩ := h1
  obtain ⟨c1, c2, c3, c4, c5, c6⟩ := h2
  unfold rWaste
  rw [e1.1, e1.2.1, e1.2.2.1, e1.2.2.2, e2.1, e2.2.1, e2.2.2.1, e2.2.2.2]
  generalize jmax (fx_i b (q + 22) i + fx_i b (q + 24) i) (fx_i b (q + 22) j + fx_i b (q + 24) j) - jmin (fx_i b (q + 22) i) (fx_i b (q + 22) j) = W at *
  generalize jmax (fx_i b (q + 23) i + fx_i b (q + 25) i) (fx_i b (q + 23) j + fx_i b (q + 25) j) - jmin (fx_i b (q + 23) i) (fx_i b (q + 23) j) = H at *
  have p1 := prod_bd (x := W.toInt) (y := H.toInt) (by omega) (by omega) (by omega) (by omega)
  have p2 := prod_bd (x := (fx_i b (q + 24) i).toInt) (y := (fx_i b (q + 25) i).toInt) (by omega) (by omega) (by omega) (by omega)
  have p3 := prod_bd (x := (fx_i b (q + 24) j).toInt) (y := (fx_i b (q + 25) j).toInt) (by omega) (by omega) (by omega) (by omega)
  have m1 := iz_mul (a := W) (b := H) (by omega)
  have m2 := iz_mul (a := fx_i b (q + 24) i) (b := fx_i b (q + 25) i) (by omega)
  have m3 := iz_mul (a := fx_i b (q + 24) j) (b := fx_i b (q + 25) j) (by omega)
  have d1 := iz_sub (a := W * H) (b := fx_i b (q + 24) i * fx_i b (q + 25) i) (by omega)
  rw [iz_sub (by omega), d1]
  omega
/-- both find the same pair -/
def jRel (c : Nat) (s t : Int32 × Nat × Nat) : Prop := t.1 = s.1 ∧ t.2.1 = c + s.2.1 ∧ t.2.2 = c + s.2.2
theorem jIn_rel {a b : fx_H} {q M m i n : Nat} (hm : m < 2) (hin : i + 1 + n ≤ 6) (hr : ∀ i, i < 7 → rMi a b q (M + 2 + i) (7 * m + i)) {s t : Int32 × Nat × Nat} (hs : jRel (7 * m) s t) : jRel (7 * m) (jIn a M i n s) (mjI b q m i n t) := by
  have e0 : 7 * m + i + 1 + n = 7 * m + (i + 1 + n) := by omega
  unfold jIn mjI
  rw [e0, waste_eq (by omega) (by omega) (hr i (by omega)) (hr (i + 1 + n) (by omega)), hs.1]
  by_cases h : s.1 ≤ rWaste a (M + 2 + i) (M + 2 + (i + 1 + n))
  · rw [if_pos h, if_neg (by rw [iz_lt]; rw [iz_le] at h; omega)]
    exact hs
  · rw [if_neg h, if_pos (by rw [iz_lt]; rw [iz_le] at h; omega)]
    exact ⟨rfl, rfl, rfl⟩
theorem jOut_rel {a b : fx_H} {q M m i : Nat} (hm : m < 2) (hr : ∀ i, i < 7 → rMi a b q (M + 2 + i) (7 * m + i)) {s t : Int32 × Nat × Nat} (hs : jRel (7 * m) s t) : ∀ k, i + k ≤ 6 → jRel (7 * m) (itg (jIn a M i) s k) (itg (mjI b q m i) t k)
  | 0, _ => hs
  | k + 1, hk => by
    rw [itg_s, itg_s]
    exact jIn_rel hm (by omega) hr (jOut_rel hm hr hs k (by omega))
theorem jFirst0 {a b : fx_H} {q M m : Nat} (hm : m < 2) (hr : ∀ i, i < 7 → rMi a b q (M + 2 + i) (7 * m + i)) (z : Int32 × Nat × Nat) (hz : rWaste a (M + 2 + 0) (M + 2 + 1) < z.1) : jRel (7 * m) (jIn a M 0 0 (jR0 a M)) (mjI b q m 0 0 z) := by
  have e0 : 7 * m + 0 + 1 + 0 = 7 * m + 1 := by omega
  have e1 : 0 + 1 + 0 = 1 := rfl
  have w := waste_eq (by omega) (by omega) (hr 0 (by omega)) (hr 1 (by omega))
  unfold jIn mjI jR0
  rw [e0, e1, w]
  generalize rWaste a (M + 2 + 0) (M + 2 + 1) = W at *
  rw [if_pos hz, if_pos (by rw [iz_le]; exact Int.le_refl _)]
  exact ⟨rfl, rfl, rfl⟩
theorem jFirst {a b : fx_H} {q M m : Nat} (hm : m < 2) (hr : ∀ i, i < 7 → rMi a b q (M + 2 + i) (7 * m + i)) (z : Int32 × Nat × Nat) (hz : rWaste a (M + 2 + 0) (M + 2 + 1) < z.1) (k : Nat) : k < 6 → jRel (7 * m) (itg (jIn a M 0) (jR0 a M) (k + 1)) (itg (mjI b q m 0) z (k + 1)) := by
  induction k with
  | zero =>
    intro _
    exact jFirst0 hm hr z hz
  | succ k ih =>
    intro hk
    have h1 := ih (by omega)
    rw [itg_s (jIn a M 0) (jR0 a M) (k + 1), itg_s (mjI b q m 0) z (k + 1)]
    generalize itg (jIn a M 0) (jR0 a M) (k + 1) = s at h1 ⊢
    generalize itg (mjI b q m 0) z (k + 1) = t at h1 ⊢
    exact jIn_rel (i := 0) (n := k + 1) hm (by omega) hr h1
theorem jR_eq {a b : fx_H} {q M m : Nat} (hm : m < 2) (hr : ∀ i, i < 7 → rMi a b q (M + 2 + i) (7 * m + i)) (h0 : rBd b q (7 * m + 0)) (h1 : rBd b q (7 * m + 1)) : jRel (7 * m) (jR a M) (mJ b q m) := by
  have hz : rWaste a (M + 2 + 0) (M + 2 + 1) < mj0.1 := by
    rw [iz_lt]
    exact waste_bd (hr 0 (by decide)) (hr 1 (by decide)) h0 h1
  rw [mJ_eq]
  unfold jR
  generalize mj0 = z at hz ⊢
  have key : ∀ k, k < 7 → jRel (7 * m) (itg (jOut a M) (jR0 a M) (k + 1)) (itg (mjO b q m) z (k + 1)) := by
    intro k
    induction k with
    | zero =>
      intro _
      have g0 : ∀ {α : Type} (f : Nat → α → α) (x : α), itg f x 0 = x := fun f x => rfl
      have e6 : 6 - 0 = 5 + 1 := rfl
      have h5 := jFirst hm hr z hz 5 (by decide)
      rw [itg_s (jOut a M) (jR0 a M) 0, itg_s (mjO b q m) z 0, g0 (jOut a M) (jR0 a M), g0 (mjO b q m) z]
      unfold jOut mjO
      rw [e6]
      exact h5
    | succ k ih =>
      intro hk
      rw [itg_s, itg_s (mjO b q m) z (k + 1)]
      exact jOut_rel hm hr (ih (by omega)) (6 - (k + 1)) (by omega)
  exact key 6 (by decide)
