/-! ===== joining the nearest ===== -/
theorem drop_v (h : fx_H) (M s : Nat) (hs : s ≤ 6) : ∀ i, i < 7 → ∀ j, j < 4 → fx_i (k_MI_dropAt h M s) (M + 2 + i) j = if s ≤ i ∧ i < 6 then fx_i h (M + 2 + (i + 1)) j else fx_i h (M + 2 + i) j := by
  have key : ∀ n, n ≤ 6 - s → ∀ i, i < 7 → ∀ j, j < 4 → fx_i (it (b_MI_dropAt M s) (fx_wi h M 1 (fx_i h M 1 - 1)) n) (M + 2 + i) j = if s ≤ i ∧ i < s + n then fx_i h (M + 2 + (i + 1)) j else fx_i h (M + 2 + i) j := by
    refine it_inv (fun n k => ∀ i, i < 7 → ∀ j, j < 4 → fx_i k (M + 2 + i) j = if s ≤ i ∧ i < s + n then fx_i h (M + 2 + (i + 1)) j else fx_i h (M + 2 + i) j) (b_MI_dropAt M s) (fx_wi h M 1 (fx_i h M 1 - 1)) (fun i hi j hj => ?_) (6 - s) (fun n k hn hk i hi j hj => ?_)
    · rw [fx_i_wi, if_neg (by omega), if_neg (by omega)]
    · unfold b_MI_dropAt
      by_cases e : i = s + n
      · subst e
        have r := rset_v k (M + 2 + (s + n)) (fx_i k (M + 2 + (s + n + 1)) 0) (fx_i k (M + 2 + (s + n + 1)) 1) (fx_i k (M + 2 + (s + n + 1)) 2) (fx_i k (M + 2 + (s + n + 1)) 3)
        have r2 : fx_i (rset k (M + 2 + (s + n)) (fx_i k (M + 2 + (s + n + 1)) 0) (fx_i k (M + 2 + (s + n + 1)) 1) (fx_i k (M + 2 + (s + n + 1)) 2) (fx_i k (M + 2 + (s + n + 1)) 3)) (M + 2 + (s + n)) j = fx_i k (M + 2 + (s + n + 1)) j := by
          have : j = 0 ∨ j = 1 ∨ j = 2 ∨ j = 3 := by omega
          rcases this with rfl | rfl | rfl | rfl
          · exact r.1
          · exact r.2.1
          · exact r.2.2.1
          · exact r.2.2.2
        rw [r2, hk (s + n + 1) (by omega) j hj, if_neg (by omega), if_pos (by omega)]
      · rw [rset_o _ _ _ _ _ _ _ _ (by omega), hk i hi j hj]
        by_cases e2 : s ≤ i ∧ i < s + n
        · rw [if_pos e2, if_pos (by omega)]
        · rw [if_neg e2, if_neg (by omega)]
  intro i hi j hj
  unfold k_MI_dropAt
  rw [key (6 - s) (Nat.le_refl _) i hi j hj]
  by_cases e2 : s ≤ i ∧ i < 6
  · rw [if_pos e2, if_pos (by omega)]
  · rw [if_neg e2, if_neg (by omega)]
theorem jb_v (q B i : Nat) (k : fx_H) (hB : B + i < 100) (o x : Nat) (h1 : 22 ≤ o) (h2 : o ≤ 25) : fx_i (b_MO_join q B i k) (q + o) x = if x = B + i then fx_i k (q + o) (B + i + 1) else fx_i k (q + o) x := by
  have e : (nI (B + i) + (1 : Int32)).toNatClampNeg = B + i + 1 := by rw [← nI_succ]; exact nI_clamp (by omega)
  unfold b_MO_join
  rw [e]
  have : o = 22 ∨ o = 23 ∨ o = 24 ∨ o = 25 := by omega
  rcases this with rfl | rfl | rfl | rfl
  all_goals
    simp only [fx_i_wi]
    by_cases hx : x = B + i
    · subst hx
      simp
    · simp [hx]
theorem join_it (q B : Nat) (h : fx_H) (N : Nat) (hB : B + N < 100) (o : Nat) (h1 : 22 ≤ o) (h2 : o ≤ 25) : ∀ n, n ≤ N → ∀ x, fx_i (it (b_MO_join q B) h n) (q + o) x = if B ≤ x ∧ x < B + n then fx_i h (q + o) (x + 1) else fx_i h (q + o) x := by
  refine it_inv (fun n k => ∀ x, fx_i k (q + o) x = if B ≤ x ∧ x < B + n then fx_i h (q + o) (x + 1) else fx_i h (q + o) x) (b_MO_join q B) h (fun x => ?_) N (fun n k hn hk x => ?_)
  · rw [if_neg (by omega)]
  · rw [jb_v q B n k (by omega) o x h1 h2]
    by_cases e : x = B + n
    · subst e
      rw [if_pos rfl, hk, if_neg (by omega), if_pos (by omega)]
    · rw [if_neg e, hk]
      by_cases e2 : B ≤ x ∧ x < B + n
      · rw [if_pos e2, if_pos (by omega)]
      · rw [if_neg e2, if_neg (by omega)]
def jnK (h : fx_H) (q m A B : Nat) : fx_H := fx_wi (fx_wi (fx_wi (fx_wi (fx_wi h (q + 22) A (jmin (fx_i h (q + 22) A) (fx_i h (q + 22) B))) (q + 23) A (jmin (fx_i h (q + 23) A) (fx_i h (q + 23) B))) (q + 24) A (v_MO_hullWide h q (nI A) (nI B))) (q + 25) A (v_MO_hullHigh h q (nI A) (nI B))) (q + 21) m (6 : Int32)
theorem joinA_eq (h : fx_H) (q m A B : Nat) : k_MO_joinA h q m A B = it (b_MO_join q B) (jnK h q m A B) (7 * m + 6 - B) := by
  have f : ∀ (v : Int32) (x : Nat), fx_i (fx_wi h (q + 22) A v) (q + 23) x = fx_i h (q + 23) x := fun v x => by rw [fx_i_wi, if_neg (by omega)]
  unfold k_MO_joinA jnK
  simp only [f]
  rw [← min_1 (fx_i h (q + 22) A), ← min_1 (fx_i h (q + 23) A)]
  by_cases h1 : fx_i h (q + 22) B ≤ fx_i h (q + 22) A
  · by_cases h2 : fx_i h (q + 23) B ≤ fx_i h (q + 23) A
    · simp only [if_pos h1, if_pos h2]
    · simp only [if_pos h1, if_neg h2]
  · by_cases h2 : fx_i h (q + 23) B ≤ fx_i h (q + 23) A
    · simp only [if_neg h1, if_pos h2]
    · simp only [if_neg h1, if_neg h2]
theorem jnK_v (h : fx_H) (q m A B x : Nat) : fx_i (jnK h q m A B) (q + 22) x = (if x = A then jmin (fx_i h (q + 22) A) (fx_i h (q + 22) B) else fx_i h (q + 22) x) ∧ fx_i (jnK h q m A B) (q + 23) x = (if x = A then jmin (fx_i h (q + 23) A) (fx_i h (q + 23) B) else fx_i h (q + 23) x) ∧ fx_i (jnK h q m A B) (q + 24) x = (if x = A then v_MO_hullWide h q (nI A) (nI B) else fx_i h (q + 24) x) ∧ fx_i (jnK h q m A B) (q + 25) x = (if x = A then v_MO_hullHigh h q (nI A) (nI B) else fx_i h (q + 25) x) ∧ fx_i (jnK h q m A B) (q + 21) x = (if x = m then 6 else fx_i h (q + 21) x) := by
  unfold jnK
  simp only [fx_i_wi]
  refine ⟨?_, ?_, ?_, ?_, ?_⟩
  all_goals simp
theorem grow_v {a b : fx_H} {q M m A B : Nat} (hm : m < 2) (hA : A < 7) (hB : B < 7) (hr : ∀ i, i < 7 → rMi a b q (M + 2 + i) (7 * m + i)) (hb : ∀ i, i < 7 → rBd b q (7 * m + i)) : ∀ i, i < 7 → rMi (rGrow a (M + 2 + A) (M + 2 + B)) (jnK b q m (7 * m + A) (7 * m + B)) q (M + 2 + i) (7 * m + i) ∧ rBd (jnK b q m (7 * m + A) (7 * m + B)) q (7 * m + i) := by
  intro i hi
  obtain ⟨k1, k2, k3, k4, -⟩ := jnK_v b q m (7 * m + A) (7 * m + B) (7 * m + i)
  have ra := hr A hA
  have rb := hr B hB
  by_cases e : i = A
  · subst e
    rw [if_pos rfl] at k1 k2 k3 k4
    rw [hull_w (by omega) (by omega) ra rb] at k3
    rw [hull_h (by omega) (by omega) ra rb] at k4
    have hd := hull_bd (hb i hi) (hb B hB)
    obtain ⟨r1, r2, r3, r4⟩ := rset_v a (M + 2 + i) (jmin (fx_i a (M + 2 + i) 0) (fx_i a (M + 2 + B) 0)) (jmin (fx_i a (M + 2 + i) 1) (fx_i a (M + 2 + B) 1)) (jmax (fx_i a (M + 2 + i) 0 + fx_i a (M + 2 + i) 2) (fx_i a (M + 2 + B) 0 + fx_i a (M + 2 + B) 2) - jmin (fx_i a (M + 2 + i) 0) (fx_i a (M + 2 + B) 0)) (jmax (fx_i a (M + 2 + i) 1 + fx_i a (M + 2 + i) 3) (fx_i a (M + 2 + B) 1 + fx_i a (M + 2 + B) 3) - jmin (fx_i a (M + 2 + i) 1) (fx_i a (M + 2 + B) 1))
    refine ⟨⟨?_, ?_, ?_, ?_⟩, ?_⟩
    · rw [k1, ← ra.1, ← rb.1]; exact r1
    · rw [k2, ← ra.2.1, ← rb.2.1]; exact r2
    · rw [k3]; exact r3
    · rw [k4]; exact r4
    · unfold rBd
      rw [k1, k2, k3, k4, ra.1, ra.2.1, ra.2.2.1, ra.2.2.2, rb.1, rb.2.1, rb.2.2.1, rb.2.2.2]
      exact hd
  · have ne : ¬ 7 * m + i = 7 * m + A := by omega
    rw [if_neg ne] at k1 k2 k3 k4
    have g : ∀ j, fx_i (rGrow a (M + 2 + A) (M + 2 + B)) (M + 2 + i) j = fx_i a (M + 2 + i) j := fun j => rset_o _ _ _ _ _ _ _ _ (by omega)
    have ri := hr i hi
    refine ⟨⟨?_, ?_, ?_, ?_⟩, ?_⟩
    · rw [g, k1]; exact ri.1
    · rw [g, k2]; exact ri.2.1
    · rw [g, k3]; exact ri.2.2.1
    · rw [g, k4]; exact ri.2.2.2
    · unfold rBd
      rw [k1, k2, k3, k4]
      exact hb i hi
/-- joining the nearest two: the six that are left are the same -/
theorem A_join {a b : fx_H} {q M m : Nat} (hm : m < 2) (hr : ∀ i, i < 7 → rMi a b q (M + 2 + i) (7 * m + i)) (hb : ∀ i, i < 7 → rBd b q (7 * m + i)) : (∀ i, i < 6 → rMi (k_MI_joinNearest a M) (k_MO_join b q m) q (M + 2 + i) (7 * m + i) ∧ rBd (k_MO_join b q m) q (7 * m + i)) ∧ (∀ o, 22 ≤ o → o ≤ 25 → ∀ x, ¬ (7 * m ≤ x ∧ x < 7 * m + 7) → fx_i (k_MO_join b q m) (q + o) x = fx_i b (q + o) x) := by
  obtain ⟨-, eA, eB⟩ := jR_eq hm hr (hb 0 (by decide)) (hb 1 (by decide))
  obtain ⟨l1, l2⟩ := jR_lt a M
  unfold k_MI_joinNearest k_MO_join
  rw [eA, eB, joinA_eq]
  generalize (jR a M).2.1 = A at *
  generalize (jR a M).2.2 = B at *
  have gv := grow_v (A := A) (B := B) hm (by omega) (by omega) hr hb
  have kv := jnK_v b q m (7 * m + A) (7 * m + B)
  generalize rGrow a (M + 2 + A) (M + 2 + B) = G at *
  generalize jnK b q m (7 * m + A) (7 * m + B) = K at *
  have dv := drop_v G M B l2
  have jv : ∀ o, 22 ≤ o → o ≤ 25 → ∀ x, fx_i (it (b_MO_join q (7 * m + B)) K (7 * m + 6 - (7 * m + B))) (q + o) x = if 7 * m + B ≤ x ∧ x < 7 * m + B + (7 * m + 6 - (7 * m + B)) then fx_i K (q + o) (x + 1) else fx_i K (q + o) x := fun o h1 h2 x => join_it q (7 * m + B) K (7 * m + 6 - (7 * m + B)) (by omega) o h1 h2 _ (Nat.le_refl _) x
  generalize it (b_MO_join q (7 * m + B)) K (7 * m + 6 - (7 * m + B)) = T at *
  generalize k_MI_dropAt G M B = D at *
  refine ⟨fun i hi => ?_, fun o h1 h2 x hx => ?_⟩
  · by_cases e : B ≤ i
    · have d : ∀ j, j < 4 → fx_i D (M + 2 + i) j = fx_i G (M + 2 + (i + 1)) j := fun j hj => by rw [dv i (by omega) j hj, if_pos ⟨e, hi⟩]
      have t : ∀ o, 22 ≤ o → o ≤ 25 → fx_i T (q + o) (7 * m + i) = fx_i K (q + o) (7 * m + (i + 1)) := fun o h1 h2 => by rw [jv o h1 h2, if_pos (by omega), Nat.add_assoc]
      obtain ⟨⟨g1, g2, g3, g4⟩, g5⟩ := gv (i + 1) (by omega)
      unfold rMi rBd at *
      rw [d 0 (by decide), d 1 (by decide), d 2 (by decide), d 3 (by decide), t 22 (by decide) (by decide), t 23 (by decide) (by decide), t 24 (by decide) (by decide), t 25 (by decide) (by decide)]
      exact ⟨⟨g1, g2, g3, g4⟩, g5⟩
    · have d : ∀ j, j < 4 → fx_i D (M + 2 + i) j = fx_i G (M + 2 + i) j := fun j hj => by rw [dv i (by omega) j hj, if_neg (by omega)]
      have t : ∀ o, 22 ≤ o → o ≤ 25 → fx_i T (q + o) (7 * m + i) = fx_i K (q + o) (7 * m + i) := fun o h1 h2 => by rw [jv o h1 h2, if_neg (by omega)]
      obtain ⟨⟨g1, g2, g3, g4⟩, g5⟩ := gv i (by omega)
      unfold rMi rBd at *
      rw [d 0 (by decide), d 1 (by decide), d 2 (by decide), d 3 (by decide), t 22 (by decide) (by decide), t 23 (by decide) (by decide), t 24 (by decide) (by decide), t 25 (by decide) (by decide)]
      exact ⟨⟨g1, g2, g3, g4⟩, g5⟩
  · rw [jv o h1 h2 x, if_neg (by omega)]
    obtain ⟨k1, k2, k3, k4, -⟩ := kv x
    have nx : ¬ x = 7 * m + A := by omega
    rw [if_neg nx] at k1 k2 k3 k4
    have : o = 22 ∨ o = 23 ∨ o = 24 ∨ o = 25 := by omega
    rcases this with rfl | rfl | rfl | rfl
    · exact k1
    · exact k2
    · exact k3
    · exact k4
