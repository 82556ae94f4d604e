/-! ===== begin: a level is fit, for both ===== -/
theorem rMeets_0 {h : fx_H} {x y : Nat} {X Y W H X' Y' W' H' : Int} (h1 : rIs h x X Y W H) (h2 : rIs h y X' Y' W' H') (b1 : -1000 ≤ X ∧ X ≤ 1000 ∧ -1000 ≤ Y ∧ Y ≤ 1000 ∧ 0 ≤ W ∧ W ≤ 1000 ∧ 0 ≤ H ∧ H ≤ 1000) (b2 : -1000 ≤ X' ∧ X' ≤ 1000 ∧ -1000 ≤ Y' ∧ Y' ≤ 1000 ∧ 0 ≤ W' ∧ W' ≤ 1000 ∧ 0 ≤ H' ∧ H' ≤ 1000) : rMeets h x y = 0 ↔ (min (X + W) (X' + W') ≤ max X X' ∨ min (Y + H) (Y' + H') ≤ max Y Y') := by
  obtain ⟨a1, a2, a3, a4⟩ := h1
  obtain ⟨c1, c2, c3, c4⟩ := h2
  have s1 : (fx_i h x 0 + fx_i h x 2).toInt = X + W := by rw [iz_add (by omega), a1, a3]
  have s2 : (fx_i h y 0 + fx_i h y 2).toInt = X' + W' := by rw [iz_add (by omega), c1, c3]
  have s3 : (fx_i h x 1 + fx_i h x 3).toInt = Y + H := by rw [iz_add (by omega), a2, a4]
  have s4 : (fx_i h y 1 + fx_i h y 3).toInt = Y' + H' := by rw [iz_add (by omega), c2, c4]
  have e1 : jmin (fx_i h x 0 + fx_i h x 2) (fx_i h y 0 + fx_i h y 2) ≤ jmax (fx_i h x 0) (fx_i h y 0) ↔ min (X + W) (X' + W') ≤ max X X' := by rw [iz_le, jmin_ti, jmax_ti, s1, s2, a1, c1]
  have e2 : jmin (fx_i h x 1 + fx_i h x 3) (fx_i h y 1 + fx_i h y 3) ≤ jmax (fx_i h x 1) (fx_i h y 1) ↔ min (Y + H) (Y' + H') ≤ max Y Y' := by rw [iz_le, jmin_ti, jmax_ti, s3, s4, a2, c2]
  rw [← e1, ← e2]
  unfold rMeets
  by_cases hA : jmin (fx_i h x 0 + fx_i h x 2) (fx_i h y 0 + fx_i h y 2) ≤ jmax (fx_i h x 0) (fx_i h y 0)
  · rw [if_neg (fun z => z.1 hA)]
    exact ⟨fun _ => Or.inl hA, fun _ => rfl⟩
  · by_cases hB : jmin (fx_i h x 1 + fx_i h x 3) (fx_i h y 1 + fx_i h y 3) ≤ jmax (fx_i h x 1) (fx_i h y 1)
    · rw [if_neg (fun z => z.2 hB)]
      exact ⟨fun _ => Or.inr hB, fun _ => rfl⟩
    · rw [if_pos ⟨hA, hB⟩]
      exact ⟨fun z => absurd z (by decide), fun z => by
        rcases z with z | z
        · exact absurd z hA
        · exact absurd z hB⟩
/-- the shown rectangles of s and t against the Model's -/
theorem meets_ap {u : fx_H} {x y q p r : Nat} (h1 : SR u x q p) (hp : ¬ shE u q p) (h2 : SR u y q r) : rMeets u (x + 3) (y + 3) = 0 ↔ (shE u q r ∨ shX u q p + (shR u q p - shX u q p) ≤ shX u q r ∨ shR u q r ≤ shX u q p ∨ shY u q p + (shB u q p - shY u q p) ≤ shY u q r ∨ shB u q r ≤ shY u q p) := by
  have r1 := h1.2.2 hp
  have e1 : ¬ shR u q p ≤ shX u q p := fun z => hp (Or.inr (Or.inr (Or.inl z)))
  have e2 : ¬ shB u q p ≤ shY u q p := fun z => hp (Or.inr (Or.inr (Or.inr z)))
  have bb : ∀ p, 0 ≤ shX u q p ∧ 0 ≤ shY u q p ∧ shR u q p ≤ 20 ∧ shB u q p ≤ 10 := fun p => ⟨by unfold shX; omega, by unfold shY; omega, by unfold shR; omega, by unfold shB; omega⟩
  have b1 := bb p
  have b2 := bb r
  by_cases hr : shE u q r
  · refine ⟨fun _ => Or.inl hr, fun _ => ?_⟩
    obtain ⟨⟨k1, k2, k3, k4⟩, z, -⟩ := h2
    have z := z hr
    have r2 : rIs u (y + 3) (fx_i u (y + 3) 0).toInt (fx_i u (y + 3) 1).toInt (fx_i u (y + 3) 2).toInt (fx_i u (y + 3) 3).toInt := ⟨rfl, rfl, rfl, rfl⟩
    rw [rMeets_0 r1 r2 (by omega) (by omega)]
    have z0 : (0 : Int32).toInt = 0 := rfl
    generalize shX u q p = X at *
    generalize shY u q p = Y at *
    generalize shR u q p = R at *
    generalize shB u q p = B at *
    rcases z with z | z
    · rw [z, z0]
      left
      omega
    · rw [z, z0]
      right
      omega
  · have r2 := h2.2.2 hr
    have e3 : ¬ shR u q r ≤ shX u q r := fun z => hr (Or.inr (Or.inr (Or.inl z)))
    have e4 : ¬ shB u q r ≤ shY u q r := fun z => hr (Or.inr (Or.inr (Or.inr z)))
    rw [rMeets_0 r1 r2 (by omega) (by omega)]
    generalize shX u q p = X at *
    generalize shY u q p = Y at *
    generalize shR u q p = R at *
    generalize shB u q p = B at *
    generalize shX u q r = X' at *
    generalize shY u q r = Y' at *
    generalize shR u q r = R' at *
    generalize shB u q r = B' at *
    refine ⟨fun z => Or.inr ?_, fun z => ?_⟩
    · clear bb r1 r2 h1 h2 hp hr
      omega
    · rcases z with z | z
      · exact absurd z hr
      · clear bb r1 r2 h1 h2 hp hr
        omega
theorem srch_01 (c : Nat → Bool) : ∀ n i, (¬ srch c (fun _ => 0) 1 i n = 0) ↔ ∀ t, i ≤ t → t < i + n → ¬ c t = true
  | 0, i => ⟨fun _ t h1 h2 => by omega, fun _ => by show ¬ (1 : Int32) = 0; decide⟩
  | n + 1, i => by
    by_cases h : c i = true
    · rw [srch_yes _ _ _ _ _ h]
      exact ⟨fun z => absurd rfl z, fun z => absurd h (z i (by omega) (by omega))⟩
    · rw [srch_no _ _ _ _ _ h, srch_01 c n (i + 1)]
      refine ⟨fun z t h1 h2 => ?_, fun z t h1 h2 => z t (by omega) (by omega)⟩
      by_cases e : t = i
      · subst e; exact h
      · exact z t (by omega) (by omega)
theorem SR_E {u : fx_H} {x q p : Nat} (h : SR u x q p) : rE u (x + 3) = 0 ↔ ¬ shE u q p := by
  have z0 : (0 : Int32).toInt = 0 := rfl
  unfold rE
  by_cases e : shE u q p
  · rw [if_pos (h.2.1 e)]
    exact ⟨fun z => absurd z (by decide), fun z => absurd e z⟩
  · obtain ⟨-, -, r3, r4⟩ := h.2.2 e
    have e1 : ¬ shR u q p ≤ shX u q p := fun z => e (Or.inr (Or.inr (Or.inl z)))
    have e2 : ¬ shB u q p ≤ shY u q p := fun z => e (Or.inr (Or.inr (Or.inr z)))
    generalize shX u q p = X at *
    generalize shY u q p = Y at *
    generalize shR u q p = R at *
    generalize shB u q p = B at *
    rw [if_neg]
    · exact ⟨fun _ => e, fun _ => rfl⟩
    · rintro (z | z)
      · rw [z, z0] at r3; omega
      · rw [z, z0] at r4; omega
/-- a level is fit for a plane, for the class and for the Model -/
theorem fit_eq {u : fx_H} {w q n l : Nat} (hS : PS u (w + 90) q 20) (hP : ∀ s, s < 10 → PR u (w + 93 + 4 * s) q (20 + s)) (hl : l < pH u (w + 90)) : (¬ v_PN_isFit u n (w + 90) l = 0) ↔ fitM u q (20 + pU u (w + 90) l) := by
  obtain ⟨s10, -, pr⟩ := PS_at hS hl
  have hS0 := hS
  obtain ⟨hk, -, -, hex, hab⟩ := hS
  have hH := hk.1
  have hu := hk.2.2
  have e93 : ∀ s, w + 90 + 3 + 4 * s = w + 93 + 4 * s := fun s => by omega
  unfold v_PN_isFit
  simp only [e93] at hex pr ⊢
  have hp := hP _ s10
  have al : fx_i u (w + 93 + 4 * pU u (w + 90) l) 6 = fx_i u (q + 11) (20 + pU u (w + 90) l) := (hp.2.2 pr).1.2.2.2.2.2.1
  have hE := SR_E hp.2.1
  rw [al]
  have z24 : (24 : Int32).toInt = 24 := rfl
  by_cases c1 : fx_i u (q + 11) (20 + pU u (w + 90) l) = 16
  case neg =>
    rw [if_neg c1]
    exact ⟨fun z => absurd rfl z, fun z => absurd z.1 c1⟩
  rw [if_pos c1]
  by_cases c2 : shE u q (20 + pU u (w + 90) l)
  · rw [if_neg (fun z => hE.mp z c2)]
    exact ⟨fun z => absurd rfl z, fun z => absurd c2 z.2.1⟩
  rw [if_pos (hE.mpr c2)]
  obtain ⟨r1, r2, r3, r4⟩ := hp.2.1.2.2 c2
  have b1 : 0 ≤ shX u q (20 + pU u (w + 90) l) := by unfold shX; omega
  have b2 : 0 ≤ shY u q (20 + pU u (w + 90) l) := by unfold shY; omega
  have b3 : shR u q (20 + pU u (w + 90) l) ≤ 20 := by unfold shR; omega
  have b4 : shB u q (20 + pU u (w + 90) l) ≤ 10 := by unfold shB; omega
  have e1 : ¬ shR u q (20 + pU u (w + 90) l) ≤ shX u q (20 + pU u (w + 90) l) := fun z => c2 (Or.inr (Or.inr (Or.inl z)))
  have e2 : ¬ shB u q (20 + pU u (w + 90) l) ≤ shY u q (20 + pU u (w + 90) l) := fun z => c2 (Or.inr (Or.inr (Or.inr z)))
  have pb := prod_bd (x := shR u q (20 + pU u (w + 90) l) - shX u q (20 + pU u (w + 90) l)) (y := shB u q (20 + pU u (w + 90) l) - shY u q (20 + pU u (w + 90) l)) (by omega) (by omega) (by omega) (by omega)
  have mu : (fx_i u (w + 93 + 4 * pU u (w + 90) l + 3) 2 * fx_i u (w + 93 + 4 * pU u (w + 90) l + 3) 3).toInt = (shR u q (20 + pU u (w + 90) l) - shX u q (20 + pU u (w + 90) l)) * (shB u q (20 + pU u (w + 90) l) - shY u q (20 + pU u (w + 90) l)) := by
    rw [iz_mul (by rw [r3, r4]; omega), r3, r4]
  have cA : fx_i u (w + 93 + 4 * pU u (w + 90) l + 3) 2 * fx_i u (w + 93 + 4 * pU u (w + 90) l + 3) 3 ≤ 24 ↔ (shR u q (20 + pU u (w + 90) l) - shX u q (20 + pU u (w + 90) l)) * (shB u q (20 + pU u (w + 90) l) - shY u q (20 + pU u (w + 90) l)) ≤ 24 := by rw [iz_le, mu, z24]
  clear b1 b2 b3 b4 e1 e2 pb mu r1 r2 r3 r4
  by_cases c3 : fx_i u (w + 93 + 4 * pU u (w + 90) l + 3) 2 * fx_i u (w + 93 + 4 * pU u (w + 90) l + 3) 3 ≤ 24
  case neg =>
    rw [if_neg c3]
    exact ⟨fun z => absurd rfl z, fun z => absurd (cA.mpr z.2.2.1) c3⟩
  rw [if_pos c3, srch_01]
  have key : (∀ t, l + 1 ≤ t → t < l + 1 + (pH u (w + 90) - (l + 1)) → ¬ decide (¬ rMeets u (w + 93 + 4 * pU u (w + 90) l + 3) (w + 93 + 4 * pU u (w + 90) t + 3) = 0) = true) ↔ ∀ t, t < 10 → apart u q (20 + pU u (w + 90) l) t (shX u q (20 + pU u (w + 90) l)) (shY u q (20 + pU u (w + 90) l)) (shR u q (20 + pU u (w + 90) l) - shX u q (20 + pU u (w + 90) l)) (shB u q (20 + pU u (w + 90) l) - shY u q (20 + pU u (w + 90) l)) := by
    refine ⟨fun z t ht => ?_, fun z i h1 h2 => ?_⟩
    · unfold apart
      by_cases d1 : 20 + t = 20 + pU u (w + 90) l
      · exact Or.inl d1
      by_cases d2 : fx_i u (q + 7) (20 + t) = 0
      · exact Or.inr (Or.inl d2)
      obtain ⟨i, i1, i2⟩ := hex t ht (fun y => d2 ((hP t ht).1.mp y))
      by_cases d3 : v_MO_isAbove u q (nI (20 + t)) (nI (20 + pU u (w + 90) l)) = 0
      · exact Or.inr (Or.inr (Or.inl d3))
      have hli : l < i := (hab l i hl i1).mp (by rw [i2]; exact d3)
      have := z i (by omega) (by omega)
      rw [i2] at this
      have m0 : rMeets u (w + 93 + 4 * pU u (w + 90) l + 3) (w + 93 + 4 * t + 3) = 0 := Classical.byContradiction (fun y => this (decide_eq_true y))
      exact Or.inr (Or.inr (Or.inr ((meets_ap hp.2.1 c2 (hP t ht).2.1).mp m0)))
    · have i1 : i < pH u (w + 90) := by omega
      have it10 := (hu i (by omega)).1
      have za := z _ it10
      have hne : ¬ 20 + pU u (w + 90) i = 20 + pU u (w + 90) l := fun y => by
        have y2 : pU u (w + 90) i = pU u (w + 90) l := by omega
        have q1 := (hab l i hl i1).mpr (by omega)
        rw [y2] at q1
        have q2 := (hab l l hl hl).mp q1
        omega
      have pri : ¬ fx_i u (q + 7) (20 + pU u (w + 90) i) = 0 := fun y => by
        have := (PS_at hS0 i1).2.2
        rw [e93] at this
        exact this ((hP _ it10).1.mpr y)
      have hab' := (hab l i hl i1).mpr (by omega)
      unfold apart at za
      rcases za with y | y | y | y
      · exact absurd y hne
      · exact absurd y pri
      · exact absurd y hab'
      · have := (meets_ap hp.2.1 c2 (hP _ it10).2.1).mpr y
        intro x
        exact of_decide_eq_true x this
  rw [key]
  exact ⟨fun z => ⟨c1, c2, cA.mp c3, z⟩, fun z => z.2.2.2⟩
