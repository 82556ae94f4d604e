/-! ===== begin: a picture is given to a plane ===== -/
theorem gRow_v (h : fx_H) (n i a q r : Nat) (k : fx_H) : ∀ C, (∀ c, c < C → fx_i (it (fun c k => pGive h n i a q r c k) k C) (n + 6 + i) ((fx_i h a 2).toNatClampNeg * r + c) = pColor h q (fx_i h a 0 + nI c) (fx_i h a 1 + nI r)) ∧ ∀ x, ¬ ((fx_i h a 2).toNatClampNeg * r ≤ x ∧ x < (fx_i h a 2).toNatClampNeg * r + C) → fx_i (it (fun c k => pGive h n i a q r c k) k C) (n + 6 + i) x = fx_i k (n + 6 + i) x
  | 0 => by
    rw [it_0]
    exact ⟨fun c hc => by omega, fun x _ => rfl⟩
  | C + 1 => by
    obtain ⟨i1, i2⟩ := gRow_v h n i a q r k C
    rw [it_s]
    generalize it (fun c k => pGive h n i a q r c k) k C = m at *
    show (∀ c, c < C + 1 → fx_i (fx_wi m (n + 6 + i) ((fx_i h a 2).toNatClampNeg * r + C) (pColor h q (fx_i h a 0 + nI C) (fx_i h a 1 + nI r))) (n + 6 + i) ((fx_i h a 2).toNatClampNeg * r + c) = pColor h q (fx_i h a 0 + nI c) (fx_i h a 1 + nI r)) ∧ ∀ x, ¬ ((fx_i h a 2).toNatClampNeg * r ≤ x ∧ x < (fx_i h a 2).toNatClampNeg * r + (C + 1)) → fx_i (fx_wi m (n + 6 + i) ((fx_i h a 2).toNatClampNeg * r + C) (pColor h q (fx_i h a 0 + nI C) (fx_i h a 1 + nI r))) (n + 6 + i) x = fx_i k (n + 6 + i) x
    generalize (fx_i h a 2).toNatClampNeg * r = Z at *
    refine ⟨fun c hc => ?_, fun x hx => ?_⟩
    · rw [fx_i_wi]
      by_cases e : c = C
      · subst e
        rw [if_pos ⟨rfl, by omega⟩]
      · rw [if_neg (by omega)]
        exact i1 c (by omega)
    · rw [fx_i_wi, if_neg (by omega)]
      exact i2 x (by omega)
theorem gLoop_v (h : fx_H) (n i q : Nat) : ∀ r c, r < (fx_i h (n + 3 + i) 3).toNatClampNeg → c < (fx_i h (n + 3 + i) 2).toNatClampNeg → fx_i (gLoop h n i q) (n + 6 + i) ((fx_i h (n + 3 + i) 2).toNatClampNeg * r + c) = pColor h q (fx_i h (n + 3 + i) 0 + nI c) (fx_i h (n + 3 + i) 1 + nI r) := by
  unfold gLoop
  refine it_inv (fun R k => ∀ r c, r < R → c < (fx_i h (n + 3 + i) 2).toNatClampNeg → fx_i k (n + 6 + i) ((fx_i h (n + 3 + i) 2).toNatClampNeg * r + c) = pColor h q (fx_i h (n + 3 + i) 0 + nI c) (fx_i h (n + 3 + i) 1 + nI r)) (fun r k => it (fun c k => pGive h n i (n + 3 + i) q r c k) k (fx_i h (n + 3 + i) 2).toNatClampNeg) h (fun r c hr _ => by omega) (fx_i h (n + 3 + i) 3).toNatClampNeg (fun R k hR hk r c hr hc => ?_) _ (Nat.le_refl _)
  obtain ⟨g1, g2⟩ := gRow_v h n i (n + 3 + i) q R k (fx_i h (n + 3 + i) 2).toNatClampNeg
  show fx_i (it (fun c k => pGive h n i (n + 3 + i) q R c k) k (fx_i h (n + 3 + i) 2).toNatClampNeg) (n + 6 + i) ((fx_i h (n + 3 + i) 2).toNatClampNeg * r + c) = _
  by_cases e : r = R
  · subst e
    exact g1 c hc
  · rw [g2 _ ?_]
    · exact hk r c (by omega) hc
    · have := Nat.mul_le_mul_left (fx_i h (n + 3 + i) 2).toNatClampNeg (show r + 1 ≤ R by omega)
      rw [Nat.mul_add, Nat.mul_one] at this
      omega
/-- giving the picture at x to the plane i -/
theorem give_v (k : fx_H) (n i x : Nat) (s : Int32) (hi : i < 2) (hx : x + 3 < n ∨ n + 8 ≤ x) : fx_i (k_PN_give k n i s x) (n + 1) i = s ∧ (∀ j, j ≠ i → fx_i (k_PN_give k n i s x) (n + 1) j = fx_i k (n + 1) j) ∧ (∀ j, j < 4 → fx_i (k_PN_give k n i s x) (n + 3 + i) j = fx_i k (x + 3) j) ∧ (∀ y j, y ≠ n + 1 → y ≠ n + 3 + i → y ≠ n + 6 + i → fx_i (k_PN_give k n i s x) y j = fx_i k y j) ∧
    ∀ r c, r < (fx_i (k_PN_give k n i s x) (n + 3 + i) 3).toNatClampNeg → c < (fx_i (k_PN_give k n i s x) (n + 3 + i) 2).toNatClampNeg → fx_i (k_PN_give k n i s x) (n + 6 + i) ((fx_i (k_PN_give k n i s x) (n + 3 + i) 2).toNatClampNeg * r + c) = pColor (k_PN_give k n i s x) x (fx_i (k_PN_give k n i s x) (n + 3 + i) 0 + nI c) (fx_i (k_PN_give k n i s x) (n + 3 + i) 1 + nI r) := by
  unfold k_PN_give
  have w0 : ∀ y j, y ≠ n + 1 → fx_i (fx_wi k (n + 1) i s) y j = fx_i k y j := fun y j g => by rw [fx_i_wi, if_neg (fun z => g z.1)]
  have w1 : fx_i (fx_wi k (n + 1) i s) (n + 1) i = s := by rw [fx_i_wi, if_pos ⟨rfl, rfl⟩]
  have w2 : ∀ j, j ≠ i → fx_i (fx_wi k (n + 1) i s) (n + 1) j = fx_i k (n + 1) j := fun j g => by rw [fx_i_wi, if_neg (fun z => g z.2)]
  generalize fx_wi k (n + 1) i s = T at *
  have r0 : ∀ y j, y ≠ n + 3 + i → fx_i (rset T (n + 3 + i) (fx_i T (x + 3) 0) (fx_i T (x + 3) 1) (fx_i T (x + 3) 2) (fx_i T (x + 3) 3)) y j = fx_i T y j := fun y j g => rset_o _ _ _ _ _ _ _ _ g
  obtain ⟨r1, r2, r3, r4⟩ := rset_v T (n + 3 + i) (fx_i T (x + 3) 0) (fx_i T (x + 3) 1) (fx_i T (x + 3) 2) (fx_i T (x + 3) 3)
  generalize rset T (n + 3 + i) (fx_i T (x + 3) 0) (fx_i T (x + 3) 1) (fx_i T (x + 3) 2) (fx_i T (x + 3) 3) = R at *
  have go := gLoop_on R n i x
  have gv := gLoop_v R n i x
  have g0 : ∀ y j, y ≠ n + 6 + i → fx_i (gLoop R n i x) y j = fx_i R y j := fun y j g => go.2 y g j
  generalize gLoop R n i x = G at *
  refine ⟨?_, fun j hj => ?_, fun j hj => ?_, fun y j g1 g2 g3 => ?_, fun r c hr hc => ?_⟩
  · rw [g0 _ _ (by omega), r0 _ _ (by omega)]; exact w1
  · rw [g0 _ _ (by omega), r0 _ _ (by omega)]; exact w2 j hj
  · rw [g0 _ _ (by omega)]
    have : j = 0 ∨ j = 1 ∨ j = 2 ∨ j = 3 := by omega
    rcases this with rfl | rfl | rfl | rfl
    · rw [r1, w0 _ _ (by omega)]
    · rw [r2, w0 _ _ (by omega)]
    · rw [r3, w0 _ _ (by omega)]
    · rw [r4, w0 _ _ (by omega)]
  · rw [g0 _ _ g3, r0 _ _ g2, w0 _ _ g1]
  · have a3 : ∀ j, fx_i G (n + 3 + i) j = fx_i R (n + 3 + i) j := fun j => g0 _ _ (by omega)
    rw [a3] at hr hc
    rw [a3, a3, a3, gv r c hr hc]
    unfold pColor pIx
    simp only [g0 x _ (by omega), g0 (x + 1) _ (by omega)]
