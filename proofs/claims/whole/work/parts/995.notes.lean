/-! ===== begin: all changes are noted ===== -/
/-- noting the changes, both sides -/
theorem A_notes {a b : fx_H} {w q f g : Nat} (hq : w + 191 ≤ q) (hfg : (f = w + 143 ∧ g = w + 154) ∨ (f = w + 154 ∧ g = w + 143)) (h0 : msQ a b (w + 145) q 0) (h1 : msQ a b (w + 156) q 1) (hw2 : ∀ i, i < 10 → fx_i b (q + 31) i = 0 → wD a b q i (w + 165 + i)) (hw3 : ∀ i, i < 10 → ¬ fx_i b (q + 31) i = 0 → fx_i b (q + 29) i = 0) (hP : ∀ i, i < 10 → PR (mixH q a b) (w + 93 + 4 * i) q (20 + i))
    (hwas : ∀ i, i < 10 → fx_i a (w + 141) i = fx_i b (q + 31) i) (hhas : ∀ i, i < 10 → v_PN_has a (w + 133) (nI i) = v_MO_isPlane b q (nI i)) (hwait : ∀ i, i < 10 → (v_DE_isWaiting a (w + 1) i = 0 ↔ (fx_i b (q + 1) i = 0 ∨ fx_i b (q + 19) (fx_i b (q + 2) i).toNatClampNeg = 0))) :
    ∀ n, n ≤ 10 → ncJ a b (it (b_CO_noteChanges (w + 89) (w + 1) f g) a n) (it (b3_MO_begin q) b n) w q
  | 0, _ => by
    rw [it_0, it_0]
    exact ⟨h0, h1, fun _ _ _ _ => rfl, mfr_rf _ _ _ _⟩
  | n + 1, hn => by
    rw [it_s, it_s]
    have ih := A_notes hq hfg h0 h1 hw2 hw3 hP hwas hhas hwait n (by omega)
    exact A_note hq hfg (by omega) ih (hw2 n (by omega)) (hw3 n (by omega)) (hP n (by omega)) (hwas n (by omega)) (hhas n (by omega)) (hwait n (by omega))
/-- is the surface's client waiting? -/
theorem wait_eq {u : fx_H} {w q f b s : Nat} (hj : J u w q f b) (hs : s < 10) : v_DE_isWaiting u (w + 1) s = 0 ↔ (fx_i u (q + 1) s = 0 ∨ fx_i u (q + 19) (fx_i u (q + 2) s).toNatClampNeg = 0) := by
  obtain ⟨j1, j2, -⟩ := hj.num s hs
  have hd := hj.desk.1
  have e1 : w + 1 + 45 = w + 46 := by omega
  have e2 : w + 1 + 47 = w + 48 := by omega
  unfold v_DE_isWaiting
  rw [e1, e2]
  by_cases z : fx_i u (w + 46) s = -1
  · rw [if_pos z]
    exact ⟨fun _ => Or.inl (j1.mp z), fun _ => rfl⟩
  · rw [if_neg z]
    have n1 : ¬ fx_i u (q + 1) s = 0 := fun y => z (j1.mpr y)
    obtain ⟨c1, c2, -⟩ := j2 n1
    rw [c1]
    have h4 := hd _ (vp_in_lt c2)
    by_cases y : fx_i u (w + 48) (fx_i u (q + 2) s).toNatClampNeg = 0
    · rw [if_pos y]
      exact ⟨fun _ => Or.inr (h4.mp y), fun _ => rfl⟩
    · rw [if_neg y]
      exact ⟨fun x => absurd x (by decide), fun x => by
        rcases x with x | x
        · exact absurd x n1
        · exact absurd (h4.mpr x) y⟩
