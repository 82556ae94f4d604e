/-! ===== begin: which surfaces are fit for a plane ===== -/
/-- the surface t does not lie over the rectangle of the surface p -/
def apart (b : fx_H) (q p t : Nat) (le to_ wi he : Int) : Prop := 20 + t = p ∨ fx_i b (q + 7) (20 + t) = 0 ∨ v_MO_isAbove b q (nI (20 + t)) (nI p) = 0 ∨ shE b q (20 + t) ∨ le + wi ≤ shX b q (20 + t) ∨ shR b q (20 + t) ≤ le ∨ to_ + he ≤ shY b q (20 + t) ∨ shB b q (20 + t) ≤ to_
theorem cqI_0 (q : Nat) (p le to_ wi he x : Int32) (k : fx_H) : cqI q p le to_ wi he (0, x, k) = none := by
  unfold cqI
  by_cases h : (30 : Int32) ≤ x
  · rw [if_pos h]
  · rw [if_neg h, if_pos rfl]
theorem cqI_1 {b k : fx_H} {q p n : Nat} {le to_ wi he : Int32} (hp : p < 30) (hn : n < 10) (hk : mfr q [] [38, 39, 40, 41] b k) (hm : ¬ fx_i b (q + 7) (20 + n) = 0 → mpOk b q (20 + n)) (hr : 0 ≤ le.toInt ∧ 0 ≤ to_.toInt ∧ 0 ≤ wi.toInt ∧ 0 ≤ he.toInt ∧ le.toInt + wi.toInt ≤ 20 ∧ to_.toInt + he.toInt ≤ 10) :
    ∃ f k', cqI q (nI p) le to_ wi he (1, nI (20 + n), k) = some (f, nI (20 + (n + 1)), k') ∧ mfr q [] [38, 39, 40, 41] b k' ∧ ((f = 1 ∧ apart b q p n le.toInt to_.toInt wi.toInt he.toInt) ∨ (f = 0 ∧ ¬ apart b q p n le.toInt to_.toInt wi.toInt he.toInt)) := by
  have mo : ∀ o j, 0 < o → fx_i k (q + o) j = fx_i b (q + o) j := fun o j h => mfr_at hk ⟨fun z => (by cases z), h⟩ j
  have e30 : ¬ (30 : Int32) ≤ nI (20 + n) := by
    have : (30 : Int32).toInt = 30 := rfl
    rw [iz_le, nI_toInt (by omega), this]
    omega
  have en : nI (20 + n) + Int32.ofInt 1 = nI (20 + (n + 1)) := (nI_succ (20 + n)).symm
  have ec : (nI (20 + n)).toNatClampNeg = 20 + n := nI_clamp (by omega)
  have ab : v_MO_isAbove k q (nI (20 + n)) (nI p) = v_MO_isAbove b q (nI (20 + n)) (nI p) := by
    unfold v_MO_isAbove
    rw [mo 10 _ (by decide), mo 10 _ (by decide)]
  have n1 : ¬ (1 : Int32) = 0 := by decide
  obtain ⟨y1, y2, y3, y4, y5⟩ := sh_congr (h := b) (k := k) (q := q) (p := 20 + n) (fun o g1 g2 => mo o _ (by omega))
  obtain ⟨v1, v2⟩ := show_v k q (20 + n) (by omega) (fun z => by
    rw [mo 7 _ (by decide)] at z
    have := hm z
    unfold mpOk at this ⊢
    simp only [mo 8 _ (by decide), mo 9 _ (by decide), mo 13 _ (by decide), mo 14 _ (by decide), mo 15 _ (by decide), mo 16 _ (by decide), mo 3 _ (by decide), mo 4 _ (by decide)]
    exact this)
  rw [y1, y2, y3, y4, y5] at v2
  rw [y5] at v1
  have hk2 : mfr q [] [38, 39, 40, 41] b (k_MO_show k q (nI (20 + n))) := mfr_t hk (mfr_show k q _)
  unfold cqI
  simp only [if_neg e30, if_neg n1, ec, en, ab, mo 7 _ (by decide)]
  by_cases c1 : 20 + n = p
  · rw [if_pos (by rw [c1])]
    exact ⟨1, k, rfl, hk, Or.inl ⟨rfl, Or.inl c1⟩⟩
  rw [if_neg (fun z => c1 ((nI_eq (by omega) (by omega)).mp z))]
  by_cases c2 : fx_i b (q + 7) (20 + n) = 0
  · rw [if_pos c2]
    exact ⟨1, k, rfl, hk, Or.inl ⟨rfl, Or.inr (Or.inl c2)⟩⟩
  rw [if_neg c2]
  by_cases c3 : v_MO_isAbove b q (nI (20 + n)) (nI p) = 0
  · rw [if_pos c3]
    exact ⟨1, k, rfl, hk, Or.inl ⟨rfl, Or.inr (Or.inr (Or.inl c3))⟩⟩
  rw [if_neg c3]
  have z0 : (0 : Int32).toInt = 0 := rfl
  by_cases c4 : shE b q (20 + n)
  · rw [if_pos (v1 c4).1]
    exact ⟨1, _, rfl, hk2, Or.inl ⟨rfl, Or.inr (Or.inr (Or.inr (Or.inl c4)))⟩⟩
  obtain ⟨t1, t2, t3, t4⟩ := v2 c4
  have e1 : ¬ shR b q (20 + n) ≤ shX b q (20 + n) := fun z => c4 (Or.inr (Or.inr (Or.inl z)))
  have e2 : ¬ shB b q (20 + n) ≤ shY b q (20 + n) := fun z => c4 (Or.inr (Or.inr (Or.inr z)))
  have b1 : 0 ≤ shX b q (20 + n) := by unfold shX; omega
  have b2 : 0 ≤ shY b q (20 + n) := by unfold shY; omega
  have b3 : shR b q (20 + n) ≤ 20 := by unfold shR; omega
  have b4 : shB b q (20 + n) ≤ 10 := by unfold shB; omega
  have ap : apart b q p n le.toInt to_.toInt wi.toInt he.toInt ↔ (le.toInt + wi.toInt ≤ shX b q (20 + n) ∨ shR b q (20 + n) ≤ le.toInt ∨ to_.toInt + he.toInt ≤ shY b q (20 + n) ∨ shB b q (20 + n) ≤ to_.toInt) := by
    unfold apart
    exact ⟨fun z => by
      rcases z with z | z | z | z | z
      · exact absurd z c1
      · exact absurd z c2
      · exact absurd z c3
      · exact absurd z c4
      · exact z, fun z => Or.inr (Or.inr (Or.inr (Or.inr z)))⟩
  generalize k_MO_show k q (nI (20 + n)) = T at *
  generalize shX b q (20 + n) = X at *
  generalize shY b q (20 + n) = Y at *
  generalize shR b q (20 + n) = R at *
  generalize shB b q (20 + n) = B at *
  clear v1 v2 y1 y2 y3 y4 y5
  have s1 : (le + wi).toInt = le.toInt + wi.toInt := iz_add (by omega)
  have s2 : (to_ + he).toInt = to_.toInt + he.toInt := iz_add (by omega)
  have s3 : (fx_i T q 38 + fx_i T q 40).toInt = R := by rw [iz_add (by omega)]; omega
  have s4 : (fx_i T q 39 + fx_i T q 41).toInt = B := by rw [iz_add (by omega)]; omega
  rw [if_neg (by rw [iz_eq, t3, z0]; omega)]
  by_cases d1 : le.toInt + wi.toInt ≤ X
  · rw [if_pos (by rw [iz_le, s1, t1]; exact d1)]
    exact ⟨1, T, rfl, hk2, Or.inl ⟨rfl, ap.mpr (Or.inl d1)⟩⟩
  rw [if_neg (by rw [iz_le, s1, t1]; exact d1)]
  by_cases d2 : R ≤ le.toInt
  · rw [if_pos (by rw [iz_le, s3]; exact d2)]
    exact ⟨1, T, rfl, hk2, Or.inl ⟨rfl, ap.mpr (Or.inr (Or.inl d2))⟩⟩
  rw [if_neg (by rw [iz_le, s3]; exact d2)]
  by_cases d3 : to_.toInt + he.toInt ≤ Y
  · rw [if_pos (by rw [iz_le, s2, t2]; exact d3)]
    exact ⟨1, T, rfl, hk2, Or.inl ⟨rfl, ap.mpr (Or.inr (Or.inr (Or.inl d3)))⟩⟩
  rw [if_neg (by rw [iz_le, s2, t2]; exact d3)]
  by_cases d4 : B ≤ to_.toInt
  · rw [if_neg (by rw [iz_lt, s4]; omega)]
    exact ⟨1, T, rfl, hk2, Or.inl ⟨rfl, ap.mpr (Or.inr (Or.inr (Or.inr d4)))⟩⟩
  rw [if_pos (by rw [iz_lt, s4]; omega)]
  exact ⟨0, T, rfl, hk2, Or.inr ⟨rfl, fun z => by
    rcases ap.mp z with z | z | z | z
    · exact d1 z
    · exact d2 z
    · exact d3 z
    · exact d4 z⟩⟩
/-- the Model's search for what lies over the surface p -/
theorem cqI_lp {b : fx_H} {q p : Nat} {le to_ wi he : Int32} (hp : p < 30) (hm : ∀ t, t < 10 → ¬ fx_i b (q + 7) (20 + t) = 0 → mpOk b q (20 + t)) (hr : 0 ≤ le.toInt ∧ 0 ≤ to_.toInt ∧ 0 ≤ wi.toInt ∧ 0 ≤ he.toInt ∧ le.toInt + wi.toInt ≤ 20 ∧ to_.toInt + he.toInt ≤ 10) : ∀ (m n : Nat) (k : fx_H), n + m = 10 → mfr q [] [38, 39, 40, 41] b k →
    mfr q [] [38, 39, 40, 41] b (lp (cqI q (nI p) le to_ wi he) m (1, nI (20 + n), k)).2.2 ∧
    (((lp (cqI q (nI p) le to_ wi he) m (1, nI (20 + n), k)).1 = 1 ∧ ∀ t, n ≤ t → t < 10 → apart b q p t le.toInt to_.toInt wi.toInt he.toInt) ∨ ((lp (cqI q (nI p) le to_ wi he) m (1, nI (20 + n), k)).1 = 0 ∧ ∃ t, n ≤ t ∧ t < 10 ∧ ¬ apart b q p t le.toInt to_.toInt wi.toInt he.toInt))
  | 0, n, k, hn, hk => by
    rw [lp_0]
    exact ⟨hk, Or.inl ⟨rfl, fun t h1 h2 => by omega⟩⟩
  | m + 1, n, k, hn, hk => by
    obtain ⟨f, k', e, hk', hf⟩ := cqI_1 (le := le) (to_ := to_) (wi := wi) (he := he) hp (show n < 10 by omega) hk (hm n (by omega)) hr
    rw [lp_some e]
    rcases hf with ⟨rfl, ha⟩ | ⟨rfl, ha⟩
    · obtain ⟨r1, r2⟩ := cqI_lp hp hm hr m (n + 1) k' (by omega) hk'
      refine ⟨r1, ?_⟩
      rcases r2 with ⟨r3, r4⟩ | ⟨r3, t, r4, r5, r6⟩
      · refine Or.inl ⟨r3, fun t h1 h2 => ?_⟩
        by_cases z : t = n
        · rw [z]; exact ha
        · exact r4 t (by omega) h2
      · exact Or.inr ⟨r3, t, by omega, r5, r6⟩
    · rw [lp_none (cqI_0 _ _ _ _ _ _ _ _)]
      exact ⟨hk', Or.inr ⟨rfl, n, Nat.le_refl _, by omega, ha⟩⟩
/-- the Model's surface p is fit for a plane -/
def fitM (b : fx_H) (q p : Nat) : Prop := fx_i b (q + 11) p = 16 ∧ ¬ shE b q p ∧ (shR b q p - shX b q p) * (shB b q p - shY b q p) ≤ 24 ∧ ∀ t, t < 10 → apart b q p t (shX b q p) (shY b q p) (shR b q p - shX b q p) (shB b q p - shY b q p)
