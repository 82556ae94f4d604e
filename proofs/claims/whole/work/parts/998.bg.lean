/-! ===== begin, up to the planes ===== -/
/-- begin, up to the choosing of planes -/
theorem A_bg1 {a b : fx_H} {w q f g : Nat} (hj : J (mixH q a b) w q f g) :
    ∃ a4 b3, a4 = bg4 a (w + 89) (w + 1) f g ∧ b3 = mbB b q ∧
    sortOk (it (b_PL_become (w + 89 + 1) (w + 1 + 2)) (k_CO_rememberBefore a (w + 89) f g) 10) (w + 89 + 1) ∧ pOk (bg3 a (w + 89) (w + 1) f g) (w + 89 + 1) ∧ (∀ s, s < 10 → sOk (bg3 a (w + 89) (w + 1) f g) (w + 89 + 1 + 3 + 4 * s)) ∧
    (∀ y j, ¬ (w + 89 ≤ y ∧ y ≤ w + 141) → ¬ (w + 165 ≤ y ∧ y < w + 175) → fx_i a4 y j = fx_i a y j) ∧ (∀ j, j ≠ 7 → fx_i a4 (w + 89) j = fx_i a (w + 89) j) ∧ fx_i a4 (w + 89) 7 = fx_i a (w + 1) 5 ∧
    mfr q [7, 8, 9, 10, 11, 12, 13, 14, 15, 16, 17, 26, 27, 28, 29, 30, 31] [38, 39, 40, 41] b b3 ∧ (∀ o, 7 ≤ o → o ≤ 16 → ∀ j, j < 20 → fx_i b3 (q + o) j = fx_i b (q + o) j) ∧ (∀ o, 7 ≤ o → o ≤ 16 → ∀ s, s < 10 → fx_i b3 (q + o) (20 + s) = if ¬ fx_i b (q + 1) s = 0 then fx_i b (q + o) (10 + s) else fx_i b (q + o) (20 + s)) ∧ (∀ j, j < 1920 → fx_i b3 (q + 17) j = fx_i b (q + 17) j) ∧
    (∀ s, s < 10 → PR (mixH q a4 b3) (w + 93 + 4 * s) q (20 + s)) ∧ PS (mixH q a4 b3) (w + 90) q 20 ∧ (∀ j, j < 2 → JN (mixH q a4 b3) w q j) ∧
    (∀ s, s < 10 → fx_i a4 (w + 141) s = fx_i b3 (q + 31) s ∧ (fx_i b3 (q + 31) s = 0 → wD a4 b3 q s (w + 165 + s)) ∧ (¬ fx_i b3 (q + 31) s = 0 → fx_i b3 (q + 29) s = 0)) := by
  have hq := hj.at_
  have cl : ∀ y j, y < q → fx_i (mixH q a b) y j = fx_i a y j := fun y j h => mix_c _ _ h j
  have e90 : w + 89 + 1 = w + 90 := by omega
  have e3 : w + 1 + 2 = w + 3 := by omega
  have e133 : w + 89 + 44 = w + 133 := by omega
  have e141 : w + 89 + 52 = w + 141 := by omega
  have e165 : ∀ s, w + 89 + 76 + s = w + 165 + s := fun s => by omega
  have e93 : ∀ s, w + 90 + 3 + 4 * s + 3 = w + 93 + 4 * s + 3 := fun s => by omega
  have e93' : ∀ s, w + 90 + 3 + 4 * s = w + 93 + 4 * s := fun s => by omega
  refine ⟨_, _, rfl, rfl, ?_⟩
  unfold bg4 bg3 mbB
  rw [e90, e3, e133]
  -- before
  obtain ⟨R1, R2⟩ := rem_v a (w + 89) f g
  simp only [e141, e165, e133, e90, e93] at R1 R2
  obtain ⟨B1, B1w⟩ := A_b1 (a := a) (b := b) hq (fun s hs => (hj.pics s hs).2.2)
  generalize k_CO_rememberBefore a (w + 89) f g = a1 at *
  generalize it (b1_MO_begin q) b 10 = b1 at *
  have c1 : ∀ y j, y ≠ w + 141 → ¬ (w + 165 ≤ y ∧ y < w + 175) → fx_i a1 y j = fx_i a y j := fun y j g1 g2 => R1 y j g1 (by omega)
  have m1 : ∀ o j, 0 < o → o ≤ 26 → fx_i b1 (q + o) j = fx_i b (q + o) j := fun o j h1 h2 => mfr_at B1 ⟨fun z => by simp only [List.mem_cons, List.mem_nil_iff, or_false] at z; omega, h1⟩ j
  -- take
  obtain ⟨T1, T2, T3, T4⟩ := A_take (a := a1) (b := b1) hq (fun s hs => by
      refine PR_congr (h := mixH q a b) (fun j _ => ?_) (fun j _ => ?_) (fun j _ => ?_) (fun j _ => ?_) (fun o h1 h2 => ?_) (fun j _ => ?_) ⟨?_, ?_⟩ (hj.pics s hs).2.1
      · rw [mix_c _ _ (by omega), mix_c _ _ (by omega), c1 _ _ (by omega) (by omega)]
      · rw [mix_c _ _ (by omega), mix_c _ _ (by omega), c1 _ _ (by omega) (by omega)]
      · rw [mix_c _ _ (by omega), mix_c _ _ (by omega), c1 _ _ (by omega) (by omega)]
      · rw [mix_c _ _ (by omega), mix_c _ _ (by omega), c1 _ _ (by omega) (by omega)]
      · rw [mix_m, mix_m, m1 o _ (by omega) (by omega)]
      · rw [mix_m, mix_m, m1 17 _ (by omega) (by omega)]
      · rw [mix_m, mix_m, m1 3 _ (by omega) (by omega)]
      · rw [mix_m, mix_m, m1 4 _ (by omega) (by omega)])
    (fun s hs z => by
      rw [m1 1 _ (by decide) (by decide)] at z
      have := (hj.num s hs).2.2.2.1 (by rw [mix_m]; exact z)
      rw [mix_m, mix_m, mix_m] at this
      rw [m1 7 _ (by decide) (by decide), m1 7 _ (by decide) (by decide)]
      exact this.2)
    (fun l hl => by
      have := hj.pileT.1.2.2 l hl
      refine ⟨_, this.1, ?_⟩
      rw [c1 _ _ (by omega) (by omega), ← cl _ _ (by omega)]
      exact this.2)
  obtain ⟨M0, M2, M3, -⟩ := M_take (h := b1) (q := q) 10 (Nat.le_refl _)
  refine ⟨T1, ?_⟩
  generalize k_PL_become a1 (w + 90) (w + 3) = a2 at *
  generalize it (b2_MO_begin q) b1 10 = b2 at *
  -- the commit's number
  have w7 : ∀ y j, ¬ (y = w + 89 ∧ j = 7) → fx_i (fx_wi a2 (w + 89) 7 (fx_i a2 (w + 1) 5)) y j = fx_i a2 y j := fun y j h => by rw [fx_i_wi, if_neg h]
  have w77 : fx_i (fx_wi a2 (w + 89) 7 (fx_i a2 (w + 1) 5)) (w + 89) 7 = fx_i a (w + 1) 5 := by rw [fx_i_wi, if_pos ⟨rfl, rfl⟩, T4 _ _ (by omega), c1 _ _ (by omega) (by omega)]
  generalize fx_wi a2 (w + 89) 7 (fx_i a2 (w + 1) 5) = a3 at *
  have u3 : ∀ y j, y ≠ w + 89 → y < q → fx_i (mixH q a3 b2) y j = fx_i (mixH q a2 b2) y j := fun y j h1 h2 => by rw [mix_c _ _ h2, mix_c _ _ h2, w7 _ _ (fun z => h1 z.1)]
  have S3 : PS (mixH q a3 b2) (w + 90) q 20 := PS_congr (by decide) (u3 _ _ (by omega) (by omega)) (fun l _ => u3 _ _ (by omega) (by omega)) (fun t ht => u3 _ _ (by omega) (by omega)) (fun t _ => by rw [mix_m, mix_m]) (fun t _ => by rw [mix_m, mix_m]) T3
  have P3 : ∀ s, s < 10 → PR (mixH q a3 b2) (w + 93 + 4 * s) q (20 + s) := fun s hs => PR_congr (fun j _ => u3 _ _ (by omega) (by omega)) (fun j _ => u3 _ _ (by omega) (by omega)) (fun j _ => u3 _ _ (by omega) (by omega)) (fun j _ => u3 _ _ (by omega) (by omega)) (fun o h1 h2 => by rw [mix_m, mix_m]) (fun j _ => by rw [mix_m, mix_m]) ⟨by rw [mix_m, mix_m], by rw [mix_m, mix_m]⟩ (T2 s hs)
  have m2 : ∀ o j, 0 < o → (o < 7 ∨ 17 < o) → o ≤ 26 → fx_i b2 (q + o) j = fx_i b (q + o) j := fun o j h1 h2 h3 => (mfr_at M0 ⟨fun z => by simp only [List.mem_cons, List.mem_nil_iff, or_false] at z; omega, h1⟩ j).trans (m1 o j h1 h3)
  have cr3 : mCR (mixH q a3 b2) q := by
    have := hj.cr
    unfold mCR at this ⊢
    intro t ht
    have := this t ht
    simp only [mix_m] at this ⊢
    rw [m2 3 _ (by decide) (by decide) (by decide), m2 4 _ (by decide) (by decide) (by decide)]
    exact this
  obtain ⟨C1, C2, C3⟩ := A_choose (a := a3) (b := b2) hq S3 P3 cr3
  refine ⟨?_, ?_, ?_⟩
  · have := S3.1
    unfold pOk pH pU at this ⊢
    simp only [mix_c a3 b2 (show w + 90 < q by omega), mix_c a3 b2 (show w + 90 + 2 < q by omega)] at this
    exact this
  · intro s hs
    rw [e93']
    have := PR_sOk (by omega) cr3 (P3 s hs)
    refine ⟨rOk_of (fun j _ => (mix_c a3 b2 (show w + 93 + 4 * s + 3 < q by omega) j).symm) this.1, fun x y hh => ?_⟩
    have h3 := this.2 x y (by unfold rHas at hh ⊢; simp only [mix_c a3 b2 (show w + 93 + 4 * s + 3 < q by omega)]; exact hh)
    unfold pIx at h3 ⊢
    simp only [mix_c a3 b2 (show w + 93 + 4 * s < q by omega)] at h3
    exact h3
  generalize k_PN_choose a3 (w + 133) (w + 90) = a4 at *
  generalize k_MO_choosePlanes b2 q = b3 at *
  have m3 : ∀ o j, 0 < o → o ≠ 26 → fx_i b3 (q + o) j = fx_i b2 (q + o) j := fun o j h1 h2 => mfr_at C1 ⟨fun z => by simp only [List.mem_cons, List.mem_nil_iff, or_false] at z; omega, h1⟩ j
  have u4 : ∀ y j, ¬ (w + 134 ≤ y ∧ y < w + 141) → y < q → fx_i (mixH q a4 b3) y j = fx_i (mixH q a3 b2) y j := fun y j h1 h2 => by rw [mix_c _ _ h2, mix_c _ _ h2, C2 y j h1]
  have v4 : ∀ o j, 0 < o → o ≠ 26 → fx_i (mixH q a4 b3) (q + o) j = fx_i (mixH q a3 b2) (q + o) j := fun o j h1 h2 => by rw [mix_m, mix_m, m3 o j h1 h2]
  refine ⟨fun y j h1 h2 => ?_, fun j hj7 => ?_, ?_, ?_, fun o h1 h2 j hj20 => ?_, fun o h1 h2 s hs => ?_, fun j hj1 => ?_, fun s hs => ?_, ?_, C3, fun s hs => ?_⟩
  · rw [C2 _ _ (by omega), w7 _ _ (by omega), T4 _ _ (by omega), c1 _ _ (by omega) (by omega)]
  · rw [C2 _ _ (by omega), w7 _ _ (by omega), T4 _ _ (by omega), c1 _ _ (by omega) (by omega)]
  · rw [C2 _ _ (by omega)]; exact w77
  · refine mfr_t (mfr_t (mfr_m B1 (by decide) (by decide)) (mfr_m M0 (by decide) (by decide))) (mfr_m C1 (by decide) (by decide))
  · rw [m3 o j (by omega) (by omega), (M2 o h1 h2 j).1 hj20, m1 o j (by omega) (by omega)]
  · rw [m3 o _ (by omega) (by omega), (M2 o h1 h2 s).2 hs, m1 o _ (by omega) (by omega), m1 o _ (by omega) (by omega), m1 1 _ (by decide) (by decide)]
    by_cases z : fx_i b (q + 1) s = 0
    · rw [if_neg (fun y => y.2 z), if_neg (fun y => y z)]
    · rw [if_pos ⟨hs, z⟩, if_pos z]
  · rw [m3 17 j (by decide) (by decide), M3 j hj1, m1 17 j (by decide) (by decide)]
  · exact PR_congr (fun j _ => u4 _ _ (by omega) (by omega)) (fun j _ => u4 _ _ (by omega) (by omega)) (fun j _ => u4 _ _ (by omega) (by omega)) (fun j _ => u4 _ _ (by omega) (by omega)) (fun o h1 h2 => v4 o _ (by omega) (by omega)) (fun j _ => v4 17 _ (by decide) (by decide)) ⟨v4 3 _ (by decide) (by decide), v4 4 _ (by decide) (by decide)⟩ (P3 s hs)
  · exact PS_congr (by decide) (u4 _ _ (by omega) (by omega)) (fun l _ => u4 _ _ (by omega) (by omega)) (fun t ht => u4 _ _ (by omega) (by omega)) (fun t _ => v4 7 _ (by decide) (by decide)) (fun t _ => v4 10 _ (by decide) (by decide)) S3
  · obtain ⟨w1, w2, w3⟩ := B1w s hs
    obtain ⟨r1, r2⟩ := R2 s hs
    have mm : ∀ o, 27 ≤ o → fx_i b3 (q + o) s = fx_i b1 (q + o) s := fun o h => (m3 o s (by omega) (by omega)).trans (mfr_at M0 ⟨fun z => by simp only [List.mem_cons, List.mem_nil_iff, or_false] at z; omega, by omega⟩ s)
    have ca : ∀ y j, ¬ (w + 89 ≤ y ∧ y < w + 141) → fx_i a4 y j = fx_i a1 y j := fun y j h => by rw [C2 _ _ (by omega), w7 _ _ (by omega), T4 _ _ (by omega)]
    have hpn : v_PN_has a (w + 133) (nI s) = v_MO_isPlane b q (nI s) := by
      unfold v_PN_has v_MO_isPlane
      have e134 : w + 133 + 1 = w + 134 := by omega
      have p0 := (hj.plan 0 (by decide)).1
      have p1 := (hj.plan 1 (by decide)).1
      rw [cl _ _ (by omega), mix_m] at p0 p1
      have c0 : (0 : Int32).toNatClampNeg = 0 := rfl
      have c1' : (1 : Int32).toNatClampNeg = 1 := rfl
      rw [e134, c0, c1', p0, p1]
    refine ⟨by rw [ca _ _ (by omega), r1, hpn, mm 31 (by decide), w1], fun z => ?_, fun z => ?_⟩
    · rw [mm 31 (by decide)] at z
      have := w2 z
      have ex : ∀ j, j < 4 → fx_i a4 (w + 165 + s) j = fx_i a (w + 93 + 4 * s + 3) j := fun j hj4 => by rw [ca _ _ (by omega), r2 j hj4]
      unfold wD rE at this ⊢
      rw [ex 0 (by decide), ex 1 (by decide), ex 2 (by decide), ex 3 (by decide), mm 27 (by decide), mm 28 (by decide), mm 29 (by decide), mm 30 (by decide)]
      exact this
    · rw [mm 31 (by decide)] at z
      rw [mm 29 (by decide)]
      exact w3 z
