/-! ===== begin: one turn over the levels ===== -/
/-- one turn of the Model's loop over the levels -/
theorem cqO_v {b : fx_H} {q p i : Nat} {z : Int32} (hp : p < 30) (hi : i < 10) (hz : ¬ z = 2) (hn : v_MO_nth b q 20 ((9 : Int32) - nI i) = nI p) (h7 : ¬ fx_i b (q + 7) p = 0) (hm : ∀ t, t < 10 → ¬ fx_i b (q + 7) (20 + t) = 0 → mpOk b q (20 + t)) (hmp : mpOk b q p) (ha : 0 ≤ (fx_i b (q + 11) p).toInt ∧ (fx_i b (q + 11) p).toInt ≤ 16) :
    ∃ k, mfr q [] [38, 39, 40, 41] b k ∧ ((fitM b q p ∧ cqO q i (z, b) = (z + Int32.ofInt 1, fx_wi k (q + 26) z.toNatClampNeg (nI p - 20))) ∨ (¬ fitM b q p ∧ cqO q i (z, b) = (z, k))) := by
  have ec : (nI p).toNatClampNeg = p := nI_clamp (by omega)
  have z0 : (0 : Int32).toInt = 0 := rfl
  have z16 : (16 : Int32).toInt = 16 := rfl
  have z24 : (24 : Int32).toInt = 24 := rfl
  have nn : ¬ nI p < 0 := by rw [iz_lt, nI_toInt (by omega), z0]; omega
  obtain ⟨v1, v2⟩ := show_v b q p hp (fun _ => hmp)
  have hs := mfr_show b q (nI p)
  unfold cqO
  simp only [hn, if_neg nn, if_neg hz, ec]
  by_cases c1 : (16 : Int32) ≤ fx_i b (q + 11) p
  case neg =>
    rw [if_neg c1]
    exact ⟨b, mfr_rf _ _ _ _, Or.inr ⟨fun y => c1 (by rw [y.1]; decide), rfl⟩⟩
  rw [if_pos c1]
  have c1' : fx_i b (q + 11) p = 16 := by
    rw [iz_le, z16] at c1
    exact iz_eq.mpr (by rw [z16]; omega)
  by_cases c2 : shE b q p
  · have : fx_i (k_MO_show b q (nI p)) q 40 ≤ 0 := by rw [(v1 c2).1]; decide
    rw [if_pos this]
    exact ⟨_, hs, Or.inr ⟨fun y => y.2.1 c2, rfl⟩⟩
  obtain ⟨t1, t2, t3, t4⟩ := v2 c2
  have e1 : ¬ shR b q p ≤ shX b q p := fun y => c2 (Or.inr (Or.inr (Or.inl y)))
  have e2 : ¬ shB b q p ≤ shY b q p := fun y => c2 (Or.inr (Or.inr (Or.inr y)))
  have b1 : 0 ≤ shX b q p := by unfold shX; omega
  have b2 : 0 ≤ shY b q p := by unfold shY; omega
  have b3 : shR b q p ≤ 20 := by unfold shR; omega
  have b4 : shB b q p ≤ 10 := by unfold shB; omega
  have fm : fitM b q p ↔ ((shR b q p - shX b q p) * (shB b q p - shY b q p) ≤ 24 ∧ ∀ t, t < 10 → apart b q p t (shX b q p) (shY b q p) (shR b q p - shX b q p) (shB b q p - shY b q p)) := ⟨fun y => y.2.2, fun y => ⟨c1', c2, y⟩⟩
  rw [← t3, ← t4, ← t1, ← t2] at fm
  have hr : 0 ≤ (fx_i (k_MO_show b q (nI p)) q 38).toInt ∧ 0 ≤ (fx_i (k_MO_show b q (nI p)) q 39).toInt ∧ 0 ≤ (fx_i (k_MO_show b q (nI p)) q 40).toInt ∧ 0 ≤ (fx_i (k_MO_show b q (nI p)) q 41).toInt ∧ (fx_i (k_MO_show b q (nI p)) q 38).toInt + (fx_i (k_MO_show b q (nI p)) q 40).toInt ≤ 20 ∧ (fx_i (k_MO_show b q (nI p)) q 39).toInt + (fx_i (k_MO_show b q (nI p)) q 41).toInt ≤ 10 := by omega
  have g40 : 0 < (fx_i (k_MO_show b q (nI p)) q 40).toInt := by omega
  clear t1 t2 t3 t4 v1 v2 b1 b2 b3 b4 e1 e2
  generalize k_MO_show b q (nI p) = T at *
  have mu : (fx_i T q 40 * fx_i T q 41).toInt = (fx_i T q 40).toInt * (fx_i T q 41).toInt := by
    have := prod_bd (x := (fx_i T q 40).toInt) (y := (fx_i T q 41).toInt) (by omega) (by omega) (by omega) (by omega)
    exact iz_mul (by omega)
  rw [if_neg (by rw [iz_le, z0]; omega)]
  by_cases c3 : (24 : Int32) < fx_i T q 40 * fx_i T q 41
  · rw [if_pos c3]
    refine ⟨T, hs, Or.inr ⟨fun y => ?_, rfl⟩⟩
    rw [iz_lt, z24, mu] at c3
    have := (fm.mp y).1
    omega
  rw [if_neg c3]
  rw [iz_lt, z24, mu] at c3
  obtain ⟨l1, l2⟩ := cqI_lp (b := b) (q := q) (p := p) hp hm hr 10 0 T (by omega) hs
  have e20 : nI (20 + 0) = (20 : Int32) := rfl
  rw [e20] at l1 l2
  generalize lp (cqI q (nI p) (fx_i T q 38) (fx_i T q 39) (fx_i T q 40) (fx_i T q 41)) 10 (1, 20, T) = L at *
  rcases l2 with ⟨l3, l4⟩ | ⟨l3, t, -, l5, l6⟩
  · rw [if_neg (by rw [l3]; decide)]
    exact ⟨L.2.2, l1, Or.inl ⟨fm.mpr ⟨by omega, fun t ht => l4 t (by omega) ht⟩, rfl⟩⟩
  · rw [if_pos l3]
    exact ⟨L.2.2, l1, Or.inr ⟨fun y => l6 ((fm.mp y).2 t l5), rfl⟩⟩
theorem cqO_no {b : fx_H} {q i : Nat} {z : Int32} (h : v_MO_nth b q 20 ((9 : Int32) - nI i) < 0 ∨ z = 2) : cqO q i (z, b) = (z, b) := by
  unfold cqO
  by_cases h1 : v_MO_nth b q 20 ((9 : Int32) - nI i) < 0
  · simp only [if_pos h1]
  · rcases h with h | h
    · exact absurd h h1
    · simp only [if_neg h1, if_pos h]
