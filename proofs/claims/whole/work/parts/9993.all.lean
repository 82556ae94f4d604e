/-! ===== all is taken: the class and the Model ===== -/
theorem C_wait {h : fx_H} {d : Nat} : ∀ n, (∀ y j, y ≠ d + 47 → fx_i (it (b2_DE_allTaken d) h n) y j = fx_i h y j) ∧ ∀ j, j < n → fx_i (it (b2_DE_allTaken d) h n) (d + 47) j = 0
  | 0 => by rw [it_0]; exact ⟨fun _ _ _ => rfl, fun j z => by omega⟩
  | n + 1 => by
    obtain ⟨i1, i2⟩ := C_wait (h := h) (d := d) n
    rw [it_s]
    generalize it (b2_DE_allTaken d) h n = m at *
    unfold b2_DE_allTaken
    refine ⟨fun y j hy => by rw [fx_i_wi, if_neg (fun z => hy z.1)]; exact i1 y j hy, fun j hj => ?_⟩
    rw [fx_i_wi]
    by_cases e : j = n
    · rw [if_pos ⟨rfl, e⟩]
    · rw [if_neg (fun z => e z.2)]; exact i2 j (by omega)
theorem M_wait {h : fx_H} {q : Nat} : ∀ n, (∀ y j, y ≠ q + 19 → fx_i (it (b5_MO_begin q) h n) y j = fx_i h y j) ∧ ∀ j, j < n → fx_i (it (b5_MO_begin q) h n) (q + 19) j = 0
  | 0 => by rw [it_0]; exact ⟨fun _ _ _ => rfl, fun j z => by omega⟩
  | n + 1 => by
    obtain ⟨i1, i2⟩ := M_wait (h := h) (q := q) n
    rw [it_s]
    generalize it (b5_MO_begin q) h n = m at *
    unfold b5_MO_begin
    refine ⟨fun y j hy => by rw [fx_i_wi, if_neg (fun z => hy z.1)]; exact i1 y j hy, fun j hj => ?_⟩
    rw [fx_i_wi]
    by_cases e : j = n
    · rw [if_pos ⟨rfl, e⟩]
    · rw [if_neg (fun z => e z.2)]; exact i2 j (by omega)
/-- all is taken: what the desk's numbers are then -/
theorem C_all (h : fx_H) (d : Nat) : (∀ y j, y ≠ d → y ≠ d + 45 → y ≠ d + 46 → y ≠ d + 47 → fx_i (k_DE_allTaken h d) y j = fx_i h y j) ∧ (∀ j, j ≠ 6 → fx_i (k_DE_allTaken h d) d j = fx_i h d j) ∧
    (∀ j, j < 10 → fx_i (k_DE_allTaken h d) (d + 45) j = if ¬ fx_i h (d + 46) j = 0 then -1 else fx_i h (d + 45) j) ∧ (∀ j, j < 10 → fx_i (k_DE_allTaken h d) (d + 46) j = 0) ∧ (∀ c, c < 4 → fx_i (k_DE_allTaken h d) (d + 47) c = 0) ∧
    fx_i (k_DE_allTaken h d) d 6 = itg (bkS h d) (fx_i h d 6) 10 := by
  unfold k_DE_allTaken
  obtain ⟨i1, i2, i3, i4, i5⟩ := C_left (h := h) (d := d) 10 (Nat.le_refl _)
  generalize it (b_DE_allTaken d) h 10 = k at *
  obtain ⟨j1, j2⟩ := C_wait (h := k) (d := d) 4
  generalize it (b2_DE_allTaken d) k 4 = l at *
  refine ⟨fun y j h0 h1 h2 h3 => by rw [j1 y j h3, i1 y j h0 h1 h2], fun j h6 => by rw [j1 _ _ (by omega), i2 j h6], fun j hj => ?_, fun j hj => ?_, fun c hc => j2 c hc, by rw [j1 _ _ (by omega), i5]⟩
  · rw [j1 _ _ (by omega), i3]
    by_cases e : fx_i h (d + 46) j = 0
    · rw [if_neg (fun z => z.2 e), if_neg (fun z => z e)]
    · rw [if_pos ⟨hj, e⟩, if_pos e]
  · rw [j1 _ _ (by omega), i4]
    by_cases e : fx_i h (d + 46) j = 0
    · rw [if_neg (fun z => z.2 e)]; exact e
    · rw [if_pos ⟨hj, e⟩]
theorem M_all (h : fx_H) (q : Nat) {k : fx_H} (ek : k = it (b5_MO_begin q) (it (b4_MO_begin q) h 10) 4) : (∀ y j, y ≠ q + 1 → y ≠ q + 7 → y ≠ q + 19 → fx_i k y j = fx_i h y j) ∧
    (∀ j, j < 10 → fx_i k (q + 1) j = if ¬ fx_i h (q + 1) j = 0 ∧ ¬ fx_i h (q + 6) j = 0 then 0 else fx_i h (q + 1) j) ∧ (∀ j, j < 10 → fx_i k (q + 7) j = fx_i h (q + 7) j) ∧
    (∀ j, j < 10 → fx_i k (q + 7) (10 + j) = if ¬ fx_i h (q + 1) j = 0 ∧ ¬ fx_i h (q + 6) j = 0 then 0 else fx_i h (q + 7) (10 + j)) ∧ (∀ j, j < 10 → fx_i k (q + 7) (20 + j) = if ¬ fx_i h (q + 1) j = 0 ∧ ¬ fx_i h (q + 6) j = 0 then 0 else fx_i h (q + 7) (20 + j)) ∧ (∀ c, c < 4 → fx_i k (q + 19) c = 0) := by
  obtain ⟨i0, i1, i2, i3, i4⟩ := M_left (h := h) (q := q) 10 (Nat.le_refl _)
  generalize it (b4_MO_begin q) h 10 = m at *
  obtain ⟨j1, j2⟩ := M_wait (h := m) (q := q) 4
  rw [← ek] at j1 j2
  have co : ∀ (P : Prop) [Decidable P] (j : Nat), j < 10 → (j < 10 ∧ P ↔ P) := fun P _ j hj => ⟨fun z => z.2, fun z => ⟨hj, z⟩⟩
  refine ⟨fun y j h1 h7 h19 => ?_, fun j hj => ?_, fun j hj => ?_, fun j hj => ?_, fun j hj => ?_, fun c hc => j2 c hc⟩
  · rw [j1 y j h19]
    by_cases e : y = q
    · rw [e]; exact mfr_f i0 (fun z => by cases z)
    · exact i0.2.1 y e (fun o ho => by simp only [List.mem_cons, List.mem_nil_iff, or_false] at ho; omega) j
  · rw [j1 _ _ (by omega), i1]
    by_cases e : ¬ fx_i h (q + 1) j = 0 ∧ ¬ fx_i h (q + 6) j = 0
    · rw [if_pos e, if_pos ⟨hj, e⟩]
    · rw [if_neg e, if_neg (fun z => e z.2)]
  · rw [j1 _ _ (by omega), i2 j hj]
  · rw [j1 _ _ (by omega), i3 j hj]
    by_cases e : ¬ fx_i h (q + 1) j = 0 ∧ ¬ fx_i h (q + 6) j = 0
    · rw [if_pos e, if_pos ⟨hj, e⟩]
    · rw [if_neg e, if_neg (fun z => e z.2)]
  · rw [j1 _ _ (by omega), i4 j hj]
    by_cases e : ¬ fx_i h (q + 1) j = 0 ∧ ¬ fx_i h (q + 6) j = 0
    · rw [if_pos e, if_pos ⟨hj, e⟩]
    · rw [if_neg e, if_neg (fun z => e z.2)]
/-- where the composing starts -/
theorem C_hole (h : fx_H) (c f b : Nat) (hc : c ≠ b + 2) : (∀ y j, ¬ (y = c ∧ (j = 6 ∨ j = 9 ∨ j = 10)) → ¬ (y = b + 2 ∧ j = 1) → fx_i (k_CO_startHole (fx_wi h c 6 1) c f b 0) y j = fx_i h y j) ∧ fx_i (k_CO_startHole (fx_wi h c 6 1) c f b 0) c 9 = 0 ∧ fx_i (k_CO_startHole (fx_wi h c 6 1) c f b 0) c 10 = -1 ∧
    ((0 < fx_i h (b + 2) 1 ∧ fx_i (k_CO_startHole (fx_wi h c 6 1) c f b 0) c 6 = 1 ∧ fx_i (k_CO_startHole (fx_wi h c 6 1) c f b 0) (b + 2) 1 = fx_i h (b + 2) 1) ∨ (¬ 0 < fx_i h (b + 2) 1 ∧ fx_i (k_CO_startHole (fx_wi h c 6 1) c f b 0) c 6 = 2 ∧ fx_i (k_CO_startHole (fx_wi h c 6 1) c f b 0) (b + 2) 1 = 0)) := by
  have hb : ¬ (b + 2 = c) := fun z => hc z.symm
  unfold k_CO_startHole
  have e9 : fx_i (fx_wi (fx_wi (fx_wi h c 6 1) c 9 0) c 10 (-1)) c 9 = 0 := by simp [fx_i_wi]
  have e1 : fx_i (fx_wi (fx_wi (fx_wi h c 6 1) c 9 0) c 10 (-1)) (b + 2) 1 = fx_i h (b + 2) 1 := by simp [fx_i_wi, hb]
  rw [e9, e1]
  by_cases e : (0 : Int32) < fx_i h (b + 2) 1
  · rw [if_pos e]
    refine ⟨fun y j h1 h2 => ?_, by simp [fx_i_wi], by simp [fx_i_wi], Or.inl ⟨e, by simp [fx_i_wi], by simp [fx_i_wi, hb]⟩⟩
    rw [fx_i_wi, if_neg (fun z => h1 ⟨z.1, by omega⟩), fx_i_wi, if_neg (fun z => h1 ⟨z.1, by omega⟩), fx_i_wi, if_neg (fun z => h1 ⟨z.1, by omega⟩)]
  · rw [if_neg e]
    refine ⟨fun y j h1 h2 => ?_, by simp [fx_i_wi, hc], by simp [fx_i_wi, hc], Or.inr ⟨e, by simp [fx_i_wi], by simp [fx_i_wi, hb]⟩⟩
    rw [fx_i_wi, if_neg (fun z => h1 ⟨z.1, by omega⟩), fx_i_wi, if_neg h2, fx_i_wi, if_neg (fun z => h1 ⟨z.1, by omega⟩), fx_i_wi, if_neg (fun z => h1 ⟨z.1, by omega⟩), fx_i_wi, if_neg (fun z => h1 ⟨z.1, by omega⟩)]
theorem M_hole (h : fx_H) (q : Nat) {k : fx_H} (ek : k = k_MO_findStep (fx_wi (fx_wi (fx_wi (fx_wi h q 20 (fx_i h q 19)) q 22 (1 : Int32)) q 31 (0 : Int32)) q 32 (0 : Int32)) q) : (∀ y j, y ≠ q → ¬ (y = q + 21 ∧ j = (fx_i h q 23).toNatClampNeg) → fx_i k y j = fx_i h y j) ∧ (∀ j, j ≠ 20 → j ≠ 22 → j ≠ 31 → j ≠ 32 → fx_i k q j = fx_i h q j) ∧ fx_i k q 20 = fx_i h q 19 ∧ fx_i k q 31 = 0 ∧ fx_i k q 32 = 0 ∧
    ((¬ fx_i h (q + 21) (fx_i h q 23).toNatClampNeg ≤ 0 ∧ fx_i k q 22 = 1 ∧ fx_i k (q + 21) (fx_i h q 23).toNatClampNeg = fx_i h (q + 21) (fx_i h q 23).toNatClampNeg) ∨ (fx_i h (q + 21) (fx_i h q 23).toNatClampNeg ≤ 0 ∧ fx_i k q 22 = 2 ∧ fx_i k (q + 21) (fx_i h q 23).toNatClampNeg = 0)) := by
  subst ek
  have g : ∀ y j, fx_i (fx_wi (fx_wi (fx_wi (fx_wi h q 20 (fx_i h q 19)) q 22 (1 : Int32)) q 31 (0 : Int32)) q 32 (0 : Int32)) y j = if y = q ∧ j = 32 then 0 else if y = q ∧ j = 31 then 0 else if y = q ∧ j = 22 then 1 else if y = q ∧ j = 20 then fx_i h q 19 else fx_i h y j := fun y j => rfl
  generalize fx_wi (fx_wi (fx_wi (fx_wi h q 20 (fx_i h q 19)) q 22 (1 : Int32)) q 31 (0 : Int32)) q 32 (0 : Int32) = K at *
  have e23 : fx_i K q 23 = fx_i h q 23 := by simp [g]
  have e31 : fx_i K q 31 = 0 := by simp [g]
  have e32 : fx_i K q 32 = 0 := by simp [g]
  have e22 : fx_i K q 22 = 1 := by simp [g]
  have e20 : fx_i K q 20 = fx_i h q 19 := by simp [g]
  have ey : ∀ y j, y ≠ q → fx_i K y j = fx_i h y j := fun y j hy => by simp [g, hy]
  have ef : ∀ j, j ≠ 20 → j ≠ 22 → j ≠ 31 → j ≠ 32 → fx_i K q j = fx_i h q j := fun j h1 h2 h3 h4 => by simp [g, h1, h2, h3, h4]
  have e21 : ∀ j, fx_i K (q + 21) j = fx_i h (q + 21) j := fun j => ey _ j (by omega)
  unfold k_MO_findStep
  rw [e31, e23, e21, if_pos e32]
  by_cases e : fx_i h (q + 21) (fx_i h q 23).toNatClampNeg ≤ 0
  · rw [if_pos e]
    refine ⟨fun y j h1 h2 => ?_, fun j h1 h2 h3 h4 => ?_, ?_, ?_, ?_, Or.inr ⟨e, ?_, ?_⟩⟩
    · rw [fx_i_wi, if_neg (fun z => h1 z.1), fx_i_wi, if_neg h2, ey y j h1]
    · rw [fx_i_wi, if_neg (fun z => h2 z.2), fx_i_wi, if_neg (fun z => by omega), ef j h1 h2 h3 h4]
    · rw [fx_i_wi, if_neg (fun z => by omega), fx_i_wi, if_neg (fun z => by omega), e20]
    · rw [fx_i_wi, if_neg (fun z => by omega), fx_i_wi, if_neg (fun z => by omega), e31]
    · rw [fx_i_wi, if_neg (fun z => by omega), fx_i_wi, if_neg (fun z => by omega), e32]
    · rw [fx_i_wi, if_pos ⟨rfl, rfl⟩]
    · rw [fx_i_wi, if_neg (fun z => by omega), fx_i_wi, if_pos ⟨rfl, rfl⟩]
  · rw [if_neg e]
    exact ⟨fun y j h1 _ => ey y j h1, ef, e20, e31, e32, Or.inl ⟨e, e22, e21 _⟩⟩
