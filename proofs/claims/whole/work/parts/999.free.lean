/-! ===== begin: the free pixels ===== -/
theorem i32_1 (a b c d : Int32) (h : a - b = c - d) (x : Int32) : a - (b - x) = c + x - d := by grind
/-- the free pixels when the destroyed have left -/
theorem free_left {h k : fx_H} {q d : Nat} (hsel : ∀ s, s < 10 → ((¬ fx_i h (d + 46) s = 0) ↔ (¬ fx_i h (q + 1) s = 0 ∧ ¬ fx_i h (q + 6) s = 0))) (hk : ∀ s, s < 10 → fx_i k (q + 1) s = if ¬ fx_i h (q + 1) s = 0 ∧ ¬ fx_i h (q + 6) s = 0 then 0 else fx_i h (q + 1) s) (h3 : ∀ s, s < 10 → fx_i k (q + 3) s = fx_i h (q + 3) s ∧ fx_i k (q + 4) s = fx_i h (q + 4) s) (hd : ∀ s, s < 10 → ¬ fx_i h (q + 1) s = 0 → fx_i h (d + 48 + 4 * s) 1 = fx_i h (q + 3) s ∧ fx_i h (d + 48 + 4 * s) 2 = fx_i h (q + 4) s) (z : Int32) :
    ∀ n, n ≤ 10 → itg (fpS k q) 300 n - itg (fpS h q) 300 n = itg (bkS h d) z n - z
  | 0, _ => by show (300 : Int32) - 300 = z - z; grind
  | n + 1, hn => by
    have ih := free_left hsel hk h3 hd z n (by omega)
    rw [itg_s, itg_s, itg_s]
    generalize itg (fpS k q) 300 n = A at *
    generalize itg (fpS h q) 300 n = B at *
    generalize itg (bkS h d) z n = C at *
    unfold fpS bkS
    have s1 := hsel n (by omega)
    have k1 := hk n (by omega)
    by_cases e : ¬ fx_i h (q + 1) n = 0 ∧ ¬ fx_i h (q + 6) n = 0
    · rw [if_pos e] at k1
      rw [k1, if_pos rfl, if_neg e.1, if_neg (s1.mpr e), (hd n (by omega) e.1).1, (hd n (by omega) e.1).2]
      generalize fx_i h (q + 3) n * fx_i h (q + 4) n = X
      grind
    · rw [if_neg e] at k1
      have s2 : fx_i h (d + 46) n = 0 := Classical.byContradiction fun y => e (s1.mp y)
      rw [k1, if_pos s2, (h3 n (by omega)).1, (h3 n (by omega)).2]
      by_cases y : fx_i h (q + 1) n = 0
      · rw [if_pos y, if_pos y]
        grind
      · rw [if_neg y, if_neg y]
        generalize fx_i h (q + 3) n * fx_i h (q + 4) n = X
        grind
theorem free_end {h k : fx_H} {q d : Nat} (hfree : fx_i h d 6 = v_MO_freePixels h q) (e : itg (fpS k q) 300 10 - itg (fpS h q) 300 10 = itg (bkS h d) (fx_i h d 6) 10 - fx_i h d 6) : itg (bkS h d) (fx_i h d 6) 10 = v_MO_freePixels k q := by
  unfold v_MO_freePixels at *
  rw [← hfree] at e
  grind
