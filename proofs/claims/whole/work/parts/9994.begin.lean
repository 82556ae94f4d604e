/-! ===== begin, all of it ===== -/
theorem msQ_0 {a b : fx_H} {M q m : Nat} (ha : fx_i a M 1 = 0) (hb : fx_i b (q + 21) m = 0) : msQ a b M q m := by
  have e : (0 : Int32).toInt = 0 := rfl
  refine ⟨ha.trans hb.symm, by rw [hb, e]; omega, fun i hi => ?_⟩
  rw [hb] at hi
  exact absurd hi (Nat.not_lt_zero _)
/-- begin, all of it -/
theorem A_begin {a b : fx_H} {w q f g : Nat} (hj : J (mixH q a b) w q f g) : bgP a (w + 89) (w + 1) f g ∧ (∀ y j, q ≤ y → fx_i (k_CO_begin a (w + 89) (w + 1) f g) y j = fx_i a y j) ∧ J (mixH q (k_CO_begin a (w + 89) (w + 1) f g) (k_MO_findStep (k_MO_begin b q) q)) w q f g := by
  have hq := hj.at_
  obtain ⟨G, a5, b4, ea, eb, F1, F2, F3, M0, M1, M2, M3, P, S, N, Q0, Q1⟩ := A_bg2 hj
  refine ⟨G, ?_⟩
  have eA : k_CO_begin a (w + 89) (w + 1) f g = k_CO_startHole (fx_wi (k_DE_allTaken a5 (w + 1)) (w + 89) 6 1) (w + 89) f g 0 := by rw [ea]; unfold k_CO_begin bg4 bg3; rfl
  rw [eA]
  have eB : k_MO_begin b q = fx_wi (fx_wi (fx_wi (fx_wi (mbE b q) q 20 (fx_i (mbE b q) q 19)) q 22 (1 : Int32)) q 31 (0 : Int32)) q 32 (0 : Int32) := rfl
  obtain ⟨m, hm, eg, e23⟩ : ∃ m, m < 2 ∧ g = w + 143 + 11 * m ∧ (fx_i b q 23).toNatClampNeg = m := by
    rcases hj.mem with h | h
    · exact ⟨1, by decide, h.2.2, by rw [← mix_q a b, h.1]; rfl⟩
    · exact ⟨0, by decide, h.2.2, by rw [← mix_q a b, h.1]; rfl⟩
  have E5 : mbE b q = it (b5_MO_begin q) (it (b4_MO_begin q) b4 10) 4 := by unfold mbE; rw [eb]
  obtain ⟨B1, B2, B3, B4, B5, B6⟩ := M_all b4 q E5
  obtain ⟨D1, D2, D3, D4, D5, D7⟩ := M_hole (mbE b q) q (k := k_MO_findStep (k_MO_begin b q) q) (by rw [eB])
  generalize k_MO_findStep (k_MO_begin b q) q = bF at *
  generalize mbE b q = b5 at *
  obtain ⟨A1, A2, A3, A4, A5, A6⟩ := C_all a5 (w + 1)
  generalize k_DE_allTaken a5 (w + 1) = a6 at *
  obtain ⟨C1, C2, C3, C4⟩ := C_hole a6 (w + 89) f g (by omega)
  generalize k_CO_startHole (fx_wi a6 (w + 89) 6 1) (w + 89) f g 0 = aF at *
  clear ea eb eA eB E5 G
  have g45 : w + 1 + 45 = w + 46 := by omega
  have g46 : w + 1 + 46 = w + 47 := by omega
  have g47 : w + 1 + 47 = w + 48 := by omega
  rw [g45, g46] at A3
  rw [g46] at A4
  rw [g47] at A5
  have q4 : ∀ o j, 0 < o → (o < 7 ∨ (17 < o ∧ o < 21) ∨ 31 < o) → fx_i b4 (q + o) j = fx_i b (q + o) j := fun o j h1 h2 => mfr_at M0 ⟨fun z => by simp only [List.mem_cons, List.mem_nil_iff, or_false] at z; omega, h1⟩ j
  have f4 : ∀ j, ¬ (38 ≤ j ∧ j ≤ 41) → fx_i b4 q j = fx_i b q j := fun j h1 => mfr_f M0 (fun z => by simp only [List.mem_cons, List.mem_nil_iff, or_false] at z; omega)
  have b5q : ∀ j, fx_i b5 q j = fx_i b4 q j := fun j => B1 q j (by omega) (by omega) (by omega)
  have e5 : (fx_i b5 q 23).toNatClampNeg = m := by rw [b5q, f4 23 (by decide), e23]
  rw [e5] at D1 D7
  have b521 : fx_i b5 (q + 21) m = fx_i b4 (q + 21) m := B1 _ _ (by omega) (by omega) (by omega)
  rw [b521] at D7
  have a61 : fx_i a6 (g + 2) 1 = fx_i a5 (g + 2) 1 := A1 _ _ (by omega) (by omega) (by omega) (by omega)
  rw [a61] at C4
  have Qm : msQ a5 b4 (g + 2) q m := by
    rcases (by omega : m = 0 ∨ m = 1) with h | h
    · rw [eg, h]; exact Q0
    · rw [eg, h]; exact Q1
  have c21 : fx_i a5 (g + 2) 1 = fx_i b4 (q + 21) m := Qm.1
  rw [c21] at C4
  refine ⟨fun y j hy => by rw [C1 y j (by omega) (by omega), A1 y j (by omega) (by omega) (by omega) (by omega), F1 y j (by omega) (by omega) (by omega)], ?_⟩
  -- the end
  have x5 : ∀ y j, y < q → y ≠ w + 1 → y ≠ w + 46 → y ≠ w + 47 → y ≠ w + 48 → ¬ (y = w + 89 ∧ (j = 6 ∨ j = 9 ∨ j = 10)) → ¬ (y = g + 2 ∧ j = 1) → fx_i (mixH q aF bF) y j = fx_i (mixH q a5 b4) y j := fun y j h0 h1 h2 h3 h4 h5 h6 => by rw [mix_c _ _ h0, mix_c _ _ h0, C1 y j h5 h6, A1 y j h1 (by omega) (by omega) (by omega)]
  have xa : ∀ y j, y < q → y ≠ w + 1 → y ≠ w + 46 → y ≠ w + 47 → y ≠ w + 48 → ¬ (w + 89 ≤ y ∧ y ≤ w + 141) → ¬ (w + 145 ≤ y ∧ y < w + 154) → ¬ (w + 156 ≤ y ∧ y < w + 175) → fx_i (mixH q aF bF) y j = fx_i (mixH q a b) y j := fun y j h0 h1 h2 h3 h4 h5 h6 h7 => by rw [x5 y j h0 h1 h2 h3 h4 (by omega) (by omega), mix_c _ _ h0, mix_c _ _ h0, F1 y j h5 h6 h7]
  have m5 : ∀ o j, 0 < o → o ≠ 1 → o ≠ 7 → o ≠ 19 → o ≠ 21 → fx_i (mixH q aF bF) (q + o) j = fx_i (mixH q a5 b4) (q + o) j := fun o j h0 h1 h2 h3 h4 => by rw [mix_m, mix_m, D1 _ j (by omega) (by omega), B1 _ j (by omega) (by omega) (by omega)]
  have mb : ∀ o j, 1 < o → o ≠ 19 → (o < 7 ∨ (17 < o ∧ o < 21) ∨ 31 < o) → fx_i (mixH q aF bF) (q + o) j = fx_i (mixH q a b) (q + o) j := fun o j h0 h1 h2 => by rw [m5 o j (by omega) (by omega) (by omega) h1 (by omega), mix_m, mix_m, q4 o j (by omega) h2]
  have fb : ∀ j, ¬ (38 ≤ j ∧ j ≤ 41) → j ≠ 20 → j ≠ 22 → j ≠ 31 → j ≠ 32 → fx_i (mixH q aF bF) q j = fx_i (mixH q a b) q j := fun j h1 h2 h3 h4 h5 => by rw [mix_q, mix_q, D2 j h2 h3 h4 h5, b5q, f4 j h1]
  have k1 : ∀ s, s < 10 → fx_i bF (q + 1) s = if ¬ fx_i b (q + 1) s = 0 ∧ ¬ fx_i b (q + 6) s = 0 then 0 else fx_i b (q + 1) s := fun s hs => by rw [D1 _ _ (by omega) (by omega), B2 s hs, q4 1 s (by decide) (by decide), q4 6 s (by decide) (by decide)]
  have hnum := hj.num
  unfold JS at hnum
  have k7 : ∀ s, s < 10 → fx_i bF (q + 7) s = fx_i b (q + 7) s := fun s hs => by rw [D1 _ _ (by omega) (by omega), B3 s hs, M1 7 (by decide) (by decide) s (by omega)]
  have k71 : ∀ s, s < 10 → fx_i bF (q + 7) (10 + s) = fx_i b (q + 7) (10 + s) := fun s hs => by
    rw [D1 _ _ (by omega) (by omega), B4 s hs, q4 1 s (by decide) (by decide), q4 6 s (by decide) (by decide), M1 7 (by decide) (by decide) _ (by omega)]
    by_cases e : ¬ fx_i b (q + 1) s = 0 ∧ ¬ fx_i b (q + 6) s = 0
    · rw [if_pos e]
      obtain ⟨-, -, -, -, n5⟩ := hnum s hs
      rw [mix_m, mix_m, mix_m, mix_m] at n5
      exact (n5 e.1 e.2).2.symm
    · rw [if_neg e]
  have k72 : ∀ s, s < 10 → fx_i bF (q + 7) (20 + s) = fx_i b4 (q + 7) (20 + s) := fun s hs => by
    rw [D1 _ _ (by omega) (by omega), B5 s hs, q4 1 s (by decide) (by decide), q4 6 s (by decide) (by decide)]
    by_cases e : ¬ fx_i b (q + 1) s = 0 ∧ ¬ fx_i b (q + 6) s = 0
    · rw [if_pos e, M2 7 (by decide) (by decide) s hs, if_pos e.1]
      obtain ⟨-, -, -, -, n5⟩ := hnum s hs
      rw [mix_m, mix_m, mix_m, mix_m] at n5
      exact (n5 e.1 e.2).2.symm
    · rw [if_neg e]
  have p0 : ∀ o p, 7 ≤ o → o ≤ 16 → p < 20 → fx_i (mixH q aF bF) (q + o) p = fx_i (mixH q a b) (q + o) p := fun o p h1 h2 h3 => by
    by_cases e : o = 7
    · subst e
      rw [mix_m, mix_m]
      rcases Nat.lt_or_ge p 10 with h | h
      · exact k7 p h
      · obtain ⟨s, rfl⟩ : ∃ s, p = 10 + s := ⟨p - 10, by omega⟩
        exact k71 s (by omega)
    · rw [m5 o p (by omega) (by omega) e (by omega) (by omega), mix_m, mix_m, M1 o h1 h2 p h3]
  have p2 : ∀ o s, 7 ≤ o → o ≤ 16 → s < 10 → fx_i (mixH q aF bF) (q + o) (20 + s) = fx_i (mixH q a5 b4) (q + o) (20 + s) := fun o s h1 h2 h3 => by
    by_cases e : o = 7
    · subst e
      rw [mix_m, mix_m]
      exact k72 s h3
    · exact m5 o _ (by omega) (by omega) e (by omega) (by omega)
  have p17 : ∀ j, j < 1920 → fx_i (mixH q aF bF) (q + 17) j = fx_i (mixH q a b) (q + 17) j := fun j h => by rw [m5 17 j (by decide) (by decide) (by decide) (by decide) (by decide), mix_m, mix_m, M3 j h]
  have cr5 : mCR (mixH q a5 b4) q := by
    have := hj.cr
    unfold mCR at this ⊢
    intro t ht
    have := this t ht
    simp only [mix_m] at this ⊢
    rw [q4 3 _ (by decide) (by decide), q4 4 _ (by decide) (by decide)]
    exact this
  have ccF : ∀ s, fx_i aF (w + 46) s = fx_i a6 (w + 46) s ∧ fx_i aF (w + 47) s = fx_i a6 (w + 47) s ∧ fx_i aF (w + 48) s = fx_i a6 (w + 48) s := fun s => ⟨C1 _ _ (by omega) (by omega), C1 _ _ (by omega) (by omega), C1 _ _ (by omega) (by omega)⟩
  have z0 : (0 : Int32).toInt = 0 := rfl
  refine J.mk
    (at_ := hq)
    (mem := by
      have := hj.mem
      unfold JW at this ⊢
      rw [fb 23 (by decide) (by decide) (by decide) (by decide) (by decide)]
      exact this)
    (pics := fun s hs => by
      obtain ⟨r1, r2, -⟩ := hj.pics s hs
      refine ⟨?_, ?_, ?_⟩
      · exact PR_congr (fun j _ => xa _ _ (by omega) (by omega) (by omega) (by omega) (by omega) (by omega) (by omega) (by omega)) (fun j _ => xa _ _ (by omega) (by omega) (by omega) (by omega) (by omega) (by omega) (by omega) (by omega)) (fun j _ => xa _ _ (by omega) (by omega) (by omega) (by omega) (by omega) (by omega) (by omega) (by omega)) (fun j _ => xa _ _ (by omega) (by omega) (by omega) (by omega) (by omega) (by omega) (by omega) (by omega)) (fun o h1 h2 => p0 o _ h1 h2 (by omega)) (fun j _ => p17 _ (by omega)) ⟨mb 3 _ (by decide) (by decide) (by decide), mb 4 _ (by decide) (by decide) (by decide)⟩ r1
      · exact PR_congr (fun j _ => xa _ _ (by omega) (by omega) (by omega) (by omega) (by omega) (by omega) (by omega) (by omega)) (fun j _ => xa _ _ (by omega) (by omega) (by omega) (by omega) (by omega) (by omega) (by omega) (by omega)) (fun j _ => xa _ _ (by omega) (by omega) (by omega) (by omega) (by omega) (by omega) (by omega) (by omega)) (fun j _ => xa _ _ (by omega) (by omega) (by omega) (by omega) (by omega) (by omega) (by omega) (by omega)) (fun o h1 h2 => p0 o _ h1 h2 (by omega)) (fun j _ => p17 _ (by omega)) ⟨mb 3 _ (by decide) (by decide) (by decide), mb 4 _ (by decide) (by decide) (by decide)⟩ r2
      · exact PR_congr (fun j _ => x5 _ _ (by omega) (by omega) (by omega) (by omega) (by omega) (by omega) (by omega)) (fun j _ => x5 _ _ (by omega) (by omega) (by omega) (by omega) (by omega) (by omega) (by omega)) (fun j _ => x5 _ _ (by omega) (by omega) (by omega) (by omega) (by omega) (by omega) (by omega)) (fun j _ => x5 _ _ (by omega) (by omega) (by omega) (by omega) (by omega) (by omega) (by omega)) (fun o h1 h2 => p2 o _ h1 h2 hs) (fun j _ => m5 17 _ (by decide) (by decide) (by decide) (by decide) (by decide)) ⟨m5 3 _ (by decide) (by decide) (by decide) (by decide) (by decide), m5 4 _ (by decide) (by decide) (by decide) (by decide) (by decide)⟩ (P s hs))
    (pileC := PS_congr (by decide) (xa _ _ (by omega) (by omega) (by omega) (by omega) (by omega) (by omega) (by omega) (by omega)) (fun l _ => xa _ _ (by omega) (by omega) (by omega) (by omega) (by omega) (by omega) (by omega) (by omega)) (fun t ht => xa _ _ (by omega) (by omega) (by omega) (by omega) (by omega) (by omega) (by omega) (by omega)) (fun t _ => p0 7 _ (by decide) (by decide) (by omega)) (fun t _ => p0 10 _ (by decide) (by decide) (by omega)) hj.pileC)
    (pileT := PS_congr (by decide) (x5 _ _ (by omega) (by omega) (by omega) (by omega) (by omega) (by omega) (by omega)) (fun l _ => x5 _ _ (by omega) (by omega) (by omega) (by omega) (by omega) (by omega) (by omega)) (fun t ht => x5 _ _ (by omega) (by omega) (by omega) (by omega) (by omega) (by omega) (by omega)) (fun t ht => p2 7 t (by decide) (by decide) ht) (fun t ht => p2 10 t (by decide) (by decide) ht) S)
    (cr := fun s hs => by
      rw [mb 3 _ (by decide) (by decide) (by decide), mb 4 _ (by decide) (by decide) (by decide)]
      exact hj.cr s hs)
    (num := fun s hs => ?num)
    (desk := ?desk)
    (free := ?free)
    (miss := fun n hn => ?miss)
    (comp := ?comp)
    (plan := fun i hi => JN_congr (fun s hs => PR_sOk (by omega) cr5 (P s hs)) (x5 _ _ (by omega) (by omega) (by omega) (by omega) (by omega) (by omega) (by omega)) (m5 26 _ (by decide) (by decide) (by decide) (by decide) (by decide)) (fun j => x5 _ _ (by omega) (by omega) (by omega) (by omega) (by omega) (by omega) (by omega)) (fun j => x5 _ _ (by omega) (by omega) (by omega) (by omega) (by omega) (by omega) (by omega)) (fun s hs j _ => x5 _ _ (by omega) (by omega) (by omega) (by omega) (by omega) (by omega) (by omega)) (fun s hs j _ => x5 _ _ (by omega) (by omega) (by omega) (by omega) (by omega) (by omega) (by omega)) (fun s hs j _ => x5 _ _ (by omega) (by omega) (by omega) (by omega) (by omega) (by omega) (by omega)) (fun s hs o h1 h2 => p2 o s h1 h2 hs) (N i hi))
    (set_ := fun i hi => JT_congr (xa _ _ (by omega) (by omega) (by omega) (by omega) (by omega) (by omega) (by omega) (by omega)) (fun j => xa _ _ (by omega) (by omega) (by omega) (by omega) (by omega) (by omega) (by omega) (by omega)) (fun j => xa _ _ (by omega) (by omega) (by omega) (by omega) (by omega) (by omega) (by omega) (by omega)) (fun o h1 h2 j => mb o j (by omega) (by omega) (by omega)) (hj.set_ i hi))
    (beam := JB_congr (fun j _ => xa _ _ (by omega) (by omega) (by omega) (by omega) (by omega) (by omega) (by omega) (by omega)) (fun j => xa _ _ (by omega) (by omega) (by omega) (by omega) (by omega) (by omega) (by omega) (by omega)) (fun j => xa _ _ (by omega) (by omega) (by omega) (by omega) (by omega) (by omega) (by omega) (by omega)) (fun j => mb 37 j (by decide) (by decide) (by decide)) (fun o h1 h2 j => mb o j (by omega) (by omega) (by omega)) (fb 23 (by decide) (by decide) (by decide) (by decide) (by decide)) (fb 42 (by decide) (by decide) (by decide) (by decide) (by decide)) (fb 43 (by decide) (by decide) (by decide) (by decide) (by decide)) (fb 45 (by decide) (by decide) (by decide) (by decide) (by decide)) (fun n _ => mb 20 _ (by decide) (by decide) (by decide)) hj.beam)
  case num =>
    obtain ⟨n1, n2, n3, n4, n5⟩ := hnum s hs
    have y46 : fx_i (mixH q aF bF) (w + 46) s = if ¬ fx_i (mixH q a b) (w + 47) s = 0 then -1 else fx_i (mixH q a b) (w + 46) s := by
      rw [mix_c _ _ (by omega), mix_c _ _ (by omega), mix_c _ _ (by omega), (ccF s).1, A3 s hs, F1 (w + 47) _ (by omega) (by omega) (by omega), F1 (w + 46) _ (by omega) (by omega) (by omega)]
    have y47 : fx_i (mixH q aF bF) (w + 47) s = 0 := by rw [mix_c _ _ (by omega), (ccF s).2.1, A4 s hs]
    have y1 : fx_i (mixH q aF bF) (q + 1) s = if ¬ fx_i (mixH q a b) (q + 1) s = 0 ∧ ¬ fx_i (mixH q a b) (q + 6) s = 0 then 0 else fx_i (mixH q a b) (q + 1) s := by rw [mix_m, mix_m, mix_m, k1 s hs]
    have yk : ∀ j, fx_i (mixH q aF bF) (w + 49 + 4 * s) j = fx_i (mixH q a b) (w + 49 + 4 * s) j := fun j => xa _ _ (by omega) (by omega) (by omega) (by omega) (by omega) (by omega) (by omega) (by omega)
    have y7 : fx_i (mixH q aF bF) (q + 7) s = fx_i (mixH q a b) (q + 7) s := by rw [mix_m, mix_m, k7 s hs]
    have y71 : fx_i (mixH q aF bF) (q + 7) (10 + s) = fx_i (mixH q a b) (q + 7) (10 + s) := by rw [mix_m, mix_m, k71 s hs]
    have y72 : fx_i (mixH q aF bF) (q + 7) (20 + s) = if ¬ fx_i (mixH q a b) (q + 1) s = 0 then fx_i (mixH q a b) (q + 7) (10 + s) else fx_i (mixH q a b) (q + 7) (20 + s) := by rw [mix_m, mix_m, mix_m, mix_m, k72 s hs, M2 7 (by decide) (by decide) s hs]
    unfold JS
    rw [y46, y47, y1, yk, yk, y7, y71, y72, mb 2 s (by decide) (by decide) (by decide), mb 3 s (by decide) (by decide) (by decide), mb 4 s (by decide) (by decide) (by decide), mb 5 s (by decide) (by decide) (by decide), mb 6 s (by decide) (by decide) (by decide)]
    by_cases e : ¬ fx_i (mixH q a b) (q + 1) s = 0 ∧ ¬ fx_i (mixH q a b) (q + 6) s = 0
    · have e47 : ¬ fx_i (mixH q a b) (w + 47) s = 0 := fun z => by
        rcases n3.mp z with h | h
        · exact e.1 h
        · exact e.2 h
      rw [if_pos e, if_pos e47, if_pos e.1]
      have := n5 e.1 e.2
      exact ⟨⟨fun _ => rfl, fun _ => rfl⟩, fun z => absurd rfl z, ⟨fun _ => Or.inl rfl, fun _ => rfl⟩, fun _ => ⟨this.1, this.2, this.2⟩, fun z => absurd rfl z⟩
    · have e' : fx_i (mixH q a b) (q + 1) s = 0 ∨ fx_i (mixH q a b) (q + 6) s = 0 := by
        by_cases h : fx_i (mixH q a b) (q + 1) s = 0
        · exact Or.inl h
        · exact Or.inr (Classical.byContradiction (fun z => e ⟨h, z⟩))
      have e47 : fx_i (mixH q a b) (w + 47) s = 0 := n3.mpr e'
      rw [if_neg e, if_neg (fun z => z e47)]
      refine ⟨n1, n2, ⟨fun _ => e', fun _ => rfl⟩, fun z => ?_, fun z1 z2 => absurd ⟨z1, z2⟩ e⟩
      rw [if_neg (fun y => y z)]
      exact n4 z
  case desk =>
    obtain ⟨d1, d2, d3, d4⟩ := hj.desk
    have e7 : fx_i aF (w + 89) 7 = fx_i a (w + 1) 5 := by rw [C1 _ _ (by omega) (by omega), A1 _ _ (by omega) (by omega) (by omega) (by omega), F3]
    have e15 : fx_i aF (w + 1) 5 = fx_i a (w + 1) 5 := by rw [C1 _ _ (by omega) (by omega), A2 5 (by decide), F1 _ _ (by omega) (by omega) (by omega)]
    have e20 : fx_i bF q 20 = fx_i b q 19 := by rw [D3, b5q, f4 19 (by decide)]
    have e19 : fx_i bF q 19 = fx_i b q 19 := by rw [D2 19 (by decide) (by decide) (by decide) (by decide), b5q, f4 19 (by decide)]
    rw [mix_c _ _ (by omega), mix_q] at d2
    refine ⟨fun c hc => ?_, ?_, ?_, ?_⟩
    · rw [mix_c _ _ (by omega), mix_m, (ccF c).2.2, A5 c hc, D1 _ _ (by omega) (by omega), B6 c hc]
    · rw [mix_c _ _ (by omega), mix_q, e15, e19, d2]
    · rw [mix_c _ _ (by omega), mix_q, e7, e20, d2]
    · rw [mix_q, mix_q, e19, e20]
      have : fx_i b q 19 - fx_i b q 19 = 0 := by grind
      rw [this, z0]
      omega
  case free =>
    have e1 : fx_i (mixH q aF bF) (w + 1) 6 = itg (bkS (mixH q a5 b4) (w + 1)) (fx_i (mixH q a5 b4) (w + 1) 6) 10 := by
      rw [mix_c _ _ (by omega), C1 _ _ (by omega) (by omega), A6, mix_c _ _ (by omega)]
      refine itg_congr _ _ _ 10 (fun i x hi => ?_)
      unfold bkS
      rw [mix_c _ _ (by omega), mix_c _ _ (by omega), mix_c _ _ (by omega)]
    rw [e1]
    have g48 : ∀ s, w + 1 + 48 + 4 * s = w + 49 + 4 * s := fun s => by omega
    refine free_end ?_ (free_left (fun s hs => ?_) (fun s hs => ?_) (fun s hs => ⟨m5 3 s (by decide) (by decide) (by decide) (by decide) (by decide), m5 4 s (by decide) (by decide) (by decide) (by decide) (by decide)⟩) (fun s hs hz => ?_) _ 10 (Nat.le_refl _))
    · have := hj.free
      rw [mix_c _ _ (by omega)] at this ⊢
      rw [F1 _ _ (by omega) (by omega) (by omega), this]
      exact (fp_congr (fun s _ => by rw [mix_m, mix_m, q4 1 s (by decide) (by decide)]) (fun s _ => by rw [mix_m, mix_m, q4 3 s (by decide) (by decide)]) (fun s _ => by rw [mix_m, mix_m, q4 4 s (by decide) (by decide)])).symm
    · obtain ⟨-, -, n3, -, -⟩ := hnum s hs
      rw [g46, mix_c _ _ (by omega), mix_m, mix_m, F1 _ _ (by omega) (by omega) (by omega), q4 1 s (by decide) (by decide), q4 6 s (by decide) (by decide)]
      rw [mix_c _ _ (by omega), mix_m, mix_m] at n3
      rw [n3]
      exact not_or
    · rw [mix_m, mix_m, mix_m, k1 s hs, q4 1 s (by decide) (by decide), q4 6 s (by decide) (by decide)]
    · obtain ⟨-, n2, -, -, -⟩ := hnum s hs
      rw [mix_m, q4 1 s (by decide) (by decide)] at hz
      have := n2 (by rw [mix_m]; exact hz)
      simp only [mix_m, mix_c a b (show w + 46 < q by omega), mix_c a b (show w + 49 + 4 * s < q by omega)] at this
      rw [g48, mix_m, mix_m, mix_c a5 b4 (show w + 49 + 4 * s < q by omega), mix_c a5 b4 (show w + 49 + 4 * s < q by omega), F1 _ _ (by omega) (by omega) (by omega), F1 _ _ (by omega) (by omega) (by omega), q4 3 s (by decide) (by decide), q4 4 s (by decide) (by decide)]
      exact ⟨this.2.2.1, this.2.2.2.1⟩
  case miss =>
    have hn' : n = 0 ∨ n = 1 := by omega
    refine ms_JM hq hn (hj.miss n hn) (fun j hj2 => ⟨?_, ?_⟩) ?_
    · have := xa (w + 143 + 11 * n + 1) j (by omega) (by omega) (by omega) (by omega) (by omega) (by omega) (by omega) (by omega)
      rw [mix_c _ _ (by omega), mix_c _ _ (by omega)] at this
      exact this
    · have := mb 20 (200 * n + j) (by decide) (by decide) (by decide)
      rw [mix_m, mix_m] at this
      exact this
    · have Qn : msQ a5 b4 (w + 145 + 11 * n) q n := by
        rcases hn' with h | h
        · rw [h]; exact Q0
        · rw [h]; exact Q1
      have rect : ∀ o, 22 ≤ o → o ≤ 25 → ∀ y, 7 * n ≤ y → y < 7 * n + 7 → fx_i bF (q + o) y = fx_i b4 (q + o) y := fun o h1 h2 y _ _ => by
        have := m5 o y (by omega) (by omega) (by omega) (by omega) (by omega)
        rw [mix_m, mix_m] at this
        exact this
      have cel : ∀ y j, y < q → y ≠ w + 1 → y ≠ w + 46 → y ≠ w + 47 → y ≠ w + 48 → ¬ (y = w + 89 ∧ (j = 6 ∨ j = 9 ∨ j = 10)) → ¬ (y = g + 2 ∧ j = 1) → fx_i aF y j = fx_i a5 y j := fun y j h0 h1 h2 h3 h4 h5 h6 => by
        have := x5 y j h0 h1 h2 h3 h4 h5 h6
        rw [mix_c _ _ h0, mix_c _ _ h0] at this
        exact this
      by_cases e : n = m
      · have eM : w + 145 + 11 * n = g + 2 := by omega
        rw [eM]
        rw [eM] at Qn
        rcases C4 with ⟨t1, t2, t3⟩ | ⟨t1, t2, t3⟩
        · rcases D7 with ⟨u1, u2, u3⟩ | ⟨u1, u2, u3⟩
          · refine msQ_fr hn Qn (fun y h1 h2 j => ?_) (by rw [e]; exact u3) rect
            by_cases ey : y = g + 2 ∧ j = 1
            · rw [ey.1, ey.2, t3, c21]
            · exact cel y j (by omega) (by omega) (by omega) (by omega) (by omega) (by omega) ey
          · exfalso
            rw [Int32.lt_iff_toInt_lt] at t1
            rw [Int32.le_iff_toInt_le] at u1
            omega
        · rcases D7 with ⟨u1, u2, u3⟩ | ⟨u1, u2, u3⟩
          · exfalso
            rw [Int32.lt_iff_toInt_lt] at t1
            rw [Int32.le_iff_toInt_le] at u1
            omega
          · exact msQ_0 t3 (by rw [e]; exact u3)
      · refine msQ_fr hn Qn (fun y h1 h2 j => cel y j (by omega) (by omega) (by omega) (by omega) (by omega) (by omega) (by omega)) ?_ rect
        rw [D1 _ _ (by omega) (fun z => e z.2), B1 _ _ (by omega) (by omega) (by omega)]
  case comp =>
    obtain ⟨j1, j2, j3, -⟩ := hj.comp
    have eb2 : bk (mixH q aF bF) q = m := by
      unfold bk
      rw [fb 23 (by decide) (by decide) (by decide) (by decide) (by decide), mix_q, e23]
    have c6 : fx_i (mixH q aF bF) (w + 89) 6 = fx_i aF (w + 89) 6 := mix_c _ _ (by omega) _
    have e8 : fx_i (mixH q aF bF) (w + 89) 8 = fx_i (mixH q aF bF) q 44 := by
      rw [fb 44 (by decide) (by decide) (by decide) (by decide) (by decide), x5 _ _ (by omega) (by omega) (by omega) (by omega) (by omega) (by omega) (by omega), ← j3, mix_c _ _ (by omega), mix_c _ _ (by omega), F2 8 (by decide)]
    unfold JC
    rw [eb2, e8]
    rcases C4 with ⟨t1, t2, t3⟩ | ⟨t1, t2, t3⟩
    · rcases D7 with ⟨u1, u2, u3⟩ | ⟨u1, u2, u3⟩
      · rw [mix_q, u2, c6, t2]
        refine ⟨rfl, Or.inr (Or.inl rfl), rfl, fun _ => ?_⟩
        rw [mix_q, mix_q, mix_m, mix_c aF bF (show w + 89 < q by omega), mix_c aF bF (show w + 89 < q by omega), C2, C3, D4, D5, u3, z0]
        rw [Int32.lt_iff_toInt_lt, z0] at t1
        exact ⟨rfl, by omega, t1, rfl, by omega, by omega, fun z => absurd rfl z⟩
      · exfalso
        rw [Int32.lt_iff_toInt_lt] at t1
        rw [Int32.le_iff_toInt_le] at u1
        omega
    · rcases D7 with ⟨u1, u2, u3⟩ | ⟨u1, u2, u3⟩
      · exfalso
        rw [Int32.lt_iff_toInt_lt] at t1
        rw [Int32.le_iff_toInt_le] at u1
        omega
      · rw [mix_q, u2, c6, t2]
        exact ⟨rfl, Or.inr (Or.inr rfl), rfl, fun z => absurd z (by decide)⟩
