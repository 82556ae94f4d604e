/-! ===== begin: before, on both sides ===== -/
/-- Model: the notes of what was before -/
theorem A_b1 {a b : fx_H} {w q : Nat} (hq : w + 191 ≤ q) (hP : ∀ s, s < 10 → PR (mixH q a b) (w + 93 + 4 * s) q (20 + s)) : mfr q [27, 28, 29, 30, 31] [38, 39, 40, 41] b (it (b1_MO_begin q) b 10) ∧ wN a b (it (b1_MO_begin q) b 10) q (fun s => w + 93 + 4 * s + 3) 10 := by
  refine it_inv (fun n k => mfr q [27, 28, 29, 30, 31] [38, 39, 40, 41] b k ∧ wN a b k q (fun s => w + 93 + 4 * s + 3) n) (b1_MO_begin q) b ⟨mfr_rf _ _ _ _, fun s hs => by omega⟩ 10 (fun n k hn hk => ?_) 10 (Nat.le_refl _)
  obtain ⟨hf, hw⟩ := hk
  refine ⟨mfr_t hf (mfr_b1 q n k), fun s hs => ?_⟩
  obtain ⟨v1, v2, v3, v4, v5, v6⟩ := b1_v q n k hn
  have mo : ∀ o j, 0 < o → o ≤ 26 → fx_i k (q + o) j = fx_i b (q + o) j := fun o j h1 h2 => mfr_at hf ⟨fun z => by simp only [List.mem_cons, List.mem_nil_iff, or_false] at z; omega, h1⟩ j
  by_cases e : s = n
  · subst e
    have pl : v_MO_isPlane k q (nI s) = v_MO_isPlane b q (nI s) := by
      unfold v_MO_isPlane
      rw [mo 26 _ (by decide) (by decide), mo 26 _ (by decide) (by decide)]
    rw [pl] at v1 v4
    have hs' : sD a (k_MO_show k q (nI (20 + s))) q (w + 93 + 4 * s + 3) := by
      refine show_s (c := w + 93 + 4 * s) (by omega) (by omega) ?_ (fun j _ => rfl)
      refine PR_congr (h := mixH q a b) (fun j _ => ?_) (fun j _ => ?_) (fun j _ => ?_) (fun j _ => ?_) (fun o h1 h2 => ?_) (fun j _ => ?_) ⟨?_, ?_⟩ (hP s hn)
      · rw [mix_c _ _ (by omega), mix_c _ _ (by omega)]
      · rw [mix_c _ _ (by omega), mix_c _ _ (by omega)]
      · rw [mix_c _ _ (by omega), mix_c _ _ (by omega)]
      · rw [mix_c _ _ (by omega), mix_c _ _ (by omega)]
      · rw [mix_m, mix_m, mo o _ (by omega) (by omega)]
      · rw [mix_m, mix_m, mo 17 _ (by omega) (by omega)]
      · rw [mix_m, mix_m, mo 3 _ (by omega) (by omega)]
      · rw [mix_m, mix_m, mo 4 _ (by omega) (by omega)]
    refine ⟨v1, fun z => ?_, fun z => ?_⟩
    · rw [v1] at z
      rw [if_pos z] at v4
      unfold wD
      rw [v2, v3, v4, v5]
      exact hs'
    · rw [v1] at z
      rw [if_neg z] at v4
      exact v4
  · obtain ⟨w1, w2, w3⟩ := hw s (by omega)
    have k31 := v6 31 s (by decide) (by decide) e
    have k29 := v6 29 s (by decide) (by decide) e
    have k27 := v6 27 s (by decide) (by decide) e
    have k28 := v6 28 s (by decide) (by decide) e
    have k30 := v6 30 s (by decide) (by decide) e
    unfold wD at w2 ⊢
    rw [k31, k29, k27, k28, k30]
    exact ⟨w1, w2, w3⟩
/-- class: what was before -/
theorem rem_v (a : fx_H) (c f b : Nat) : (∀ y j, y ≠ c + 52 → ¬ (c + 76 ≤ y ∧ y < c + 86) → fx_i (k_CO_rememberBefore a c f b) y j = fx_i a y j) ∧ ∀ s, s < 10 → fx_i (k_CO_rememberBefore a c f b) (c + 52) s = v_PN_has a (c + 44) (nI s) ∧ ∀ j, j < 4 → fx_i (k_CO_rememberBefore a c f b) (c + 76 + s) j = fx_i a (c + 1 + 3 + 4 * s + 3) j := by
  unfold k_CO_rememberBefore
  refine it_inv (fun n k => (∀ y j, y ≠ c + 52 → ¬ (c + 76 ≤ y ∧ y < c + 86) → fx_i k y j = fx_i a y j) ∧ ∀ s, s < n → fx_i k (c + 52) s = v_PN_has a (c + 44) (nI s) ∧ ∀ j, j < 4 → fx_i k (c + 76 + s) j = fx_i a (c + 1 + 3 + 4 * s + 3) j) (b_CO_rememberBefore c) a ⟨fun _ _ _ _ => rfl, fun s hs => by omega⟩ 10 (fun n k hn hk => ?_) 10 (Nat.le_refl _)
  obtain ⟨h1, h2⟩ := hk
  have ph : v_PN_has k (c + 44) (nI n) = v_PN_has a (c + 44) (nI n) := pnHas_congr (fun j _ => h1 _ _ (by omega) (by omega)) _
  unfold b_CO_rememberBefore
  rw [ph]
  generalize hV : v_PN_has a (c + 44) (nI n) = V at *
  have w0 : ∀ y j, y ≠ c + 52 → fx_i (fx_wi k (c + 52) n V) y j = fx_i k y j := fun y j g => by rw [fx_i_wi, if_neg (by omega)]
  have w1 : ∀ s, s ≠ n → fx_i (fx_wi k (c + 52) n V) (c + 52) s = fx_i k (c + 52) s := fun s g => by rw [fx_i_wi, if_neg (by omega)]
  have w2 : fx_i (fx_wi k (c + 52) n V) (c + 52) n = V := by rw [fx_i_wi, if_pos ⟨rfl, rfl⟩]
  generalize fx_wi k (c + 52) n V = T at *
  have r0 : ∀ y j, y ≠ c + 76 + n → fx_i (rset T (c + 76 + n) (fx_i T (c + 1 + 3 + 4 * n + 3) 0) (fx_i T (c + 1 + 3 + 4 * n + 3) 1) (fx_i T (c + 1 + 3 + 4 * n + 3) 2) (fx_i T (c + 1 + 3 + 4 * n + 3) 3)) y j = fx_i T y j := fun y j g => rset_o _ _ _ _ _ _ _ _ g
  obtain ⟨r1, r2, r3, r4⟩ := rset_v T (c + 76 + n) (fx_i T (c + 1 + 3 + 4 * n + 3) 0) (fx_i T (c + 1 + 3 + 4 * n + 3) 1) (fx_i T (c + 1 + 3 + 4 * n + 3) 2) (fx_i T (c + 1 + 3 + 4 * n + 3) 3)
  have src : ∀ j, fx_i T (c + 1 + 3 + 4 * n + 3) j = fx_i a (c + 1 + 3 + 4 * n + 3) j := fun j => (w0 _ _ (by omega)).trans (h1 _ _ (by omega) (by omega))
  rw [src, src, src, src] at r1 r2 r3 r4 r0
  rw [src, src, src, src]
  generalize rset T (c + 76 + n) (fx_i a (c + 1 + 3 + 4 * n + 3) 0) (fx_i a (c + 1 + 3 + 4 * n + 3) 1) (fx_i a (c + 1 + 3 + 4 * n + 3) 2) (fx_i a (c + 1 + 3 + 4 * n + 3) 3) = R at *
  refine ⟨fun y j g1 g2 => ?_, fun s hs => ?_⟩
  · rw [r0 y j (by omega), w0 y j g1, h1 y j g1 g2]
  · by_cases e : s = n
    · subst e
      refine ⟨by rw [r0 _ _ (by omega), hV]; exact w2, fun j hj => ?_⟩
      have : j = 0 ∨ j = 1 ∨ j = 2 ∨ j = 3 := by omega
      rcases this with rfl | rfl | rfl | rfl
      · exact r1
      · exact r2
      · exact r3
      · exact r4
    · obtain ⟨u1, u2⟩ := h2 s (by omega)
      refine ⟨by rw [r0 _ _ (by omega), w1 s e]; exact u1, fun j hj => ?_⟩
      rw [r0 _ _ (by omega), w0 _ _ (by omega)]
      exact u2 j hj
