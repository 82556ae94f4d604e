/-! ===== begin, up to the notes ===== -/
/-- begin, up to the notes of what has changed -/
theorem A_bg2 {a b : fx_H} {w q f g : Nat} (hj : J (mixH q a b) w q f g) : bgP a (w + 89) (w + 1) f g ∧
    ∃ a5 b4, a5 = k_CO_noteChanges (bg4 a (w + 89) (w + 1) f g) (w + 89) (w + 1) f g ∧ b4 = mbD b q ∧
    (∀ y j, ¬ (w + 89 ≤ y ∧ y ≤ w + 141) → ¬ (w + 145 ≤ y ∧ y < w + 154) → ¬ (w + 156 ≤ y ∧ y < w + 175) → fx_i a5 y j = fx_i a y j) ∧ (∀ j, j ≠ 7 → fx_i a5 (w + 89) j = fx_i a (w + 89) j) ∧ fx_i a5 (w + 89) 7 = fx_i a (w + 1) 5 ∧
    mfr q [7, 8, 9, 10, 11, 12, 13, 14, 15, 16, 17, 21, 22, 23, 24, 25, 26, 27, 28, 29, 30, 31] [38, 39, 40, 41] b b4 ∧ (∀ o, 7 ≤ o → o ≤ 16 → ∀ j, j < 20 → fx_i b4 (q + o) j = fx_i b (q + o) j) ∧ (∀ o, 7 ≤ o → o ≤ 16 → ∀ s, s < 10 → fx_i b4 (q + o) (20 + s) = if ¬ fx_i b (q + 1) s = 0 then fx_i b (q + o) (10 + s) else fx_i b (q + o) (20 + s)) ∧ (∀ j, j < 1920 → fx_i b4 (q + 17) j = fx_i b (q + 17) j) ∧
    (∀ s, s < 10 → PR (mixH q a5 b4) (w + 93 + 4 * s) q (20 + s)) ∧ PS (mixH q a5 b4) (w + 90) q 20 ∧ (∀ j, j < 2 → JN (mixH q a5 b4) w q j) ∧ msQ a5 b4 (w + 145) q 0 ∧ msQ a5 b4 (w + 156) q 1 := by
  have hq := hj.at_
  have cl : ∀ y j, y < q → fx_i (mixH q a b) y j = fx_i a y j := fun y j h => mix_c _ _ h j
  obtain ⟨a4, b3, ea, eb, G1, G2, G3, F1, F2, F3, M0, M1, M2, M3, P, S, N, W⟩ := A_bg1 hj
  unfold bgP mbD k_CO_noteChanges
  rw [← ea, ← eb]
  have hfg : (f = w + 143 ∧ g = w + 154) ∨ (f = w + 154 ∧ g = w + 143) := by
    rcases hj.mem with h | h
    · exact Or.inl h.2
    · exact Or.inr h.2
  have mo : ∀ o j, 0 < o → (o < 7 ∨ (17 < o ∧ o < 26)) → fx_i b3 (q + o) j = fx_i b (q + o) j := fun o j h1 h2 => mfr_at M0 ⟨fun z => by simp only [List.mem_cons, List.mem_nil_iff, or_false] at z; omega, h1⟩ j
  have q0 : msQ a4 b3 (w + 145) q 0 := msQ_fr (by decide) (JM_ms hq (by decide) (hj.miss 0 (by decide))) (fun y h1 h2 j => F1 y j (by omega) (by omega)) (mo 21 _ (by decide) (by decide)) (fun o h1 h2 y _ _ => mo o y (by omega) (by omega))
  have e156 : w + 145 + 11 * 1 = w + 156 := by omega
  have q1 : msQ a4 b3 (w + 156) q 1 := by
    have := JM_ms hq (by decide) (hj.miss 1 (by decide))
    rw [e156] at this
    exact msQ_fr (by decide) this (fun y h1 h2 j => F1 y j (by omega) (by omega)) (mo 21 _ (by decide) (by decide)) (fun o h1 h2 y _ _ => mo o y (by omega) (by omega))
  have hhas : ∀ i, i < 10 → v_PN_has a4 (w + 133) (nI i) = v_MO_isPlane b3 q (nI i) := fun i _ => by
    unfold v_PN_has v_MO_isPlane
    have e134 : w + 133 + 1 = w + 134 := by omega
    have p0 := (N 0 (by decide)).1
    have p1 := (N 1 (by decide)).1
    rw [mix_c _ _ (by omega), mix_m] at p0 p1
    have c0 : (0 : Int32).toNatClampNeg = 0 := rfl
    have c1' : (1 : Int32).toNatClampNeg = 1 := rfl
    rw [e134, c0, c1', p0, p1]
  have hwait : ∀ i, i < 10 → (v_DE_isWaiting a4 (w + 1) i = 0 ↔ (fx_i b3 (q + 1) i = 0 ∨ fx_i b3 (q + 19) (fx_i b3 (q + 2) i).toNatClampNeg = 0)) := fun i hi => by
    have h := wait_eq hj hi
    have e : v_DE_isWaiting (mixH q a b) (w + 1) i = v_DE_isWaiting a4 (w + 1) i := by
      unfold v_DE_isWaiting
      rw [cl (w + 1 + 45) _ (by omega), cl (w + 1 + 47) _ (by omega), F1 (w + 1 + 45) _ (by omega) (by omega), F1 (w + 1 + 47) _ (by omega) (by omega)]
    rw [e, mix_m, mix_m, mix_m] at h
    rw [mo 1 _ (by decide) (by decide), mo 2 _ (by decide) (by decide), mo 19 _ (by decide) (by decide)]
    exact h
  obtain ⟨r0, r1, rc, rm⟩ := A_notes hq hfg q0 q1 (fun i hi => (W i hi).2.1) (fun i hi => (W i hi).2.2) P (fun i hi => (W i hi).1) hhas hwait 10 (Nat.le_refl _)
  refine ⟨⟨G1, G2, G3, ?_, ?_, fun s hs z => ?_⟩, _, _, rfl, rfl, ?_⟩
  · rcases hfg with ⟨rfl, rfl⟩ | ⟨rfl, rfl⟩
    · exact msQ_ok q0
    · exact msQ_ok q1
  · rcases hfg with ⟨rfl, rfl⟩ | ⟨rfl, rfl⟩
    · exact msQ_ok q1
    · exact msQ_ok q0
  · have e46 : w + 1 + 45 = w + 46 := by omega
    rw [e46, F1 _ _ (by omega) (by omega)] at z ⊢
    obtain ⟨j1, j2, -⟩ := hj.num s hs
    have c46 : fx_i (mixH q a b) (w + 46) s = fx_i a (w + 46) s := cl _ _ (by omega)
    rw [c46] at j1 j2
    have := j2 (fun y => z (j1.mpr y))
    rw [this.1]
    exact this.2.1
  generalize it (b_CO_noteChanges (w + 89) (w + 1) f g) a4 10 = a5 at *
  generalize it (b3_MO_begin q) b3 10 = b4 at *
  have m4 : ∀ o j, 0 < o → (o < 21 ∨ 25 < o) → fx_i b4 (q + o) j = fx_i b3 (q + o) j := fun o j h1 h2 => mfr_at rm ⟨fun z => by simp only [List.mem_cons, List.mem_nil_iff, or_false] at z; omega, h1⟩ j
  have u5 : ∀ y j, ¬ (w + 145 ≤ y ∧ y < w + 165) → y < q → fx_i (mixH q a5 b4) y j = fx_i (mixH q a4 b3) y j := fun y j h1 h2 => by rw [mix_c _ _ h2, mix_c _ _ h2, rc y j (by omega) (by omega)]
  have v5 : ∀ o j, 0 < o → (o < 21 ∨ 25 < o) → fx_i (mixH q a5 b4) (q + o) j = fx_i (mixH q a4 b3) (q + o) j := fun o j h1 h2 => by rw [mix_m, mix_m, m4 o j h1 h2]
  have cr4 : mCR (mixH q a4 b3) q := by
    have := hj.cr
    unfold mCR at this ⊢
    intro t ht
    have := this t ht
    simp only [mix_m] at this ⊢
    rw [mo 3 _ (by decide) (by decide), mo 4 _ (by decide) (by decide)]
    exact this
  refine ⟨fun y j h1 h2 h3 => ?_, fun j h7 => ?_, ?_, ?_, fun o h1 h2 j h3 => ?_, fun o h1 h2 s hs => ?_, fun j h3 => ?_, fun s hs => ?_, ?_, fun j hj2 => ?_, r0, r1⟩
  · rw [rc y j (by omega) (by omega), F1 y j (by omega) (by omega)]
  · rw [rc _ j (by omega) (by omega), F2 j h7]
  · rw [rc _ _ (by omega) (by omega), F3]
  · exact mfr_t (mfr_m M0 (by decide) (by decide)) (mfr_m rm (by decide) (by decide))
  · rw [m4 o j (by omega) (by omega), M1 o h1 h2 j h3]
  · rw [m4 o _ (by omega) (by omega), M2 o h1 h2 s hs]
  · rw [m4 17 j (by decide) (by decide), M3 j h3]
  · exact PR_congr (fun j _ => u5 _ _ (by omega) (by omega)) (fun j _ => u5 _ _ (by omega) (by omega)) (fun j _ => u5 _ _ (by omega) (by omega)) (fun j _ => u5 _ _ (by omega) (by omega)) (fun o h1 h2 => v5 o _ (by omega) (by omega)) (fun j _ => v5 17 _ (by decide) (by decide)) ⟨v5 3 _ (by decide) (by decide), v5 4 _ (by decide) (by decide)⟩ (P s hs)
  · exact PS_congr (by decide) (u5 _ _ (by omega) (by omega)) (fun l _ => u5 _ _ (by omega) (by omega)) (fun t ht => u5 _ _ (by omega) (by omega)) (fun t _ => v5 7 _ (by decide) (by decide)) (fun t _ => v5 10 _ (by decide) (by decide)) S
  · exact JN_congr (fun s hs => PR_sOk (by omega) cr4 (P s hs)) (u5 _ _ (by omega) (by omega)) (v5 26 _ (by decide) (by decide)) (fun i => u5 _ _ (by omega) (by omega)) (fun i => u5 _ _ (by omega) (by omega)) (fun t ht i _ => u5 _ _ (by omega) (by omega)) (fun t ht i _ => u5 _ _ (by omega) (by omega)) (fun t ht i _ => u5 _ _ (by omega) (by omega)) (fun t ht o h1 h2 => v5 o _ (by omega) (by omega)) (N j hj2)
