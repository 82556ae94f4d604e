/-! ===== surface ===== -/
theorem ffree_srch {h : fx_H} {q : Nat} (c : Nat → Bool) : ∀ n i, (∀ t, i ≤ t → t < i + n → (c t = true ↔ fx_i h (q + 1) t = 0)) → (ffree h q i n < i + n ∧ srch c (fun i => nI i) (-1) i n = nI (ffree h q i n) ∧ fx_i h (q + 1) (ffree h q i n) = 0 ∧ i ≤ ffree h q i n) ∨ (ffree h q i n = i + n ∧ srch c (fun i => nI i) (-1) i n = -1)
  | 0, i, _ => Or.inr ⟨rfl, rfl⟩
  | n + 1, i, hc => by
    have h1 := hc i (Nat.le_refl _) (by omega)
    unfold ffree
    by_cases e : fx_i h (q + 1) i = 0
    · rw [if_pos e, srch_yes _ _ _ _ _ (h1.mpr e)]
      exact Or.inl ⟨by omega, rfl, e, Nat.le_refl _⟩
    · rw [if_neg e, srch_no _ _ _ _ _ (fun z => e (h1.mp z))]
      rcases ffree_srch c n (i + 1) (fun t g1 g2 => hc t (by omega) (by omega)) with ⟨a, b, d, e'⟩ | ⟨a, b⟩
      · exact Or.inl ⟨by omega, b, d, by omega⟩
      · exact Or.inr ⟨by omega, b⟩
theorem sfree_low {h k : fx_H} {w q f b : Nat} (hj : J h w q f b) (e1 : ∀ j, fx_i k (q + 1) j = fx_i h (q + 1) j) : (sfree k q < 10 ∧ v_DE_lowestFreeNumber h (w + 1) = nI (sfree k q) ∧ fx_i h (q + 1) (sfree k q) = 0) ∨ (sfree k q = 10 ∧ v_DE_lowestFreeNumber h (w + 1) = -1) := by
  have ek : ∀ j, fx_i (fx_wi k q 0 (0 : Int32)) (q + 1) j = fx_i h (q + 1) j := fun j => (wi_q _ _ _ _ _ _ (by decide)).trans (e1 j)
  rcases ffree_srch (h := fx_wi k q 0 (0 : Int32)) (q := q) (fun i => decide (fx_i h (w + 1 + 45) i = -1)) 10 0 (fun t _ g2 => by
    rw [decide_eq_true_eq, ek]
    exact (hj.num t (by omega)).1) with ⟨a, b', d, -⟩ | ⟨a, b'⟩
  · rw [ek] at d
    exact Or.inl ⟨by unfold sfree; omega, b', d⟩
  · exact Or.inr ⟨a, b'⟩
/-- the free pixels when the number n comes into use -/
theorem fp_open {h k : fx_H} {q n : Nat} {c r : Int32} (hn : n < 10) (h0 : fx_i h (q + 1) n = 0) (k1 : ¬ fx_i k (q + 1) n = 0) (kc : fx_i k (q + 3) n = c) (kr : fx_i k (q + 4) n = r) (e : ∀ o, o = 1 ∨ o = 3 ∨ o = 4 → ∀ t, t ≠ n → fx_i k (q + o) t = fx_i h (q + o) t) : v_MO_freePixels k q = v_MO_freePixels h q - c * r := by
  have key : ∀ m, m ≤ 10 → itg (fpS k q) 300 m = if n < m then itg (fpS h q) 300 m - c * r else itg (fpS h q) 300 m := by
    intro m
    induction m with
    | zero => intro _; rfl
    | succ m ih =>
      intro hm
      rw [itg_s, itg_s, ih (by omega)]
      by_cases z : m = n
      · subst z
        rw [if_neg (by omega), if_pos (by omega)]
        unfold fpS
        rw [if_neg k1, if_pos h0, kc, kr]
        simp
      · have e1 := e 1 (by decide) m z
        have e3 := e 3 (by decide) m z
        have e4 := e 4 (by decide) m z
        have sc : ∀ a b c' : Int32, a - b - c' = a - c' - b := fun a b c' => by
          rw [Int32.sub_eq_add_neg, Int32.sub_eq_add_neg, Int32.sub_eq_add_neg (a - c'), Int32.sub_eq_add_neg a c', Int32.add_assoc, Int32.add_comm (-b), ← Int32.add_assoc]
        by_cases z2 : n < m
        · rw [if_pos z2, if_pos (by omega)]
          unfold fpS
          rw [e1, e3, e4]
          split
          · simp
          · exact sc _ _ _
        · rw [if_neg z2, if_neg (by omega)]
          unfold fpS
          rw [e1, e3, e4]
  have := key 10 (Nat.le_refl _)
  rw [if_pos hn] at this
  exact this
theorem k_surface_0 {h : fx_H} {q : Nat} {cl cs rs : Int32} (hd : ¬ (¬ jW cl 0 3 = 0 ∧ ¬ jW cs 1 12 = 0 ∧ ¬ jW rs 1 8 = 0)) : k_MO_surface h q cl cs rs = fx_wi h q 0 1 := by
  unfold k_MO_surface
  rw [wi_jW, wi_jW, wi_jW]
  by_cases c1 : jW cl 0 3 = 0
  · rw [if_pos c1]
  by_cases c2 : jW cs 1 12 = 0
  · rw [if_neg c1, if_pos c2]
  by_cases c3 : jW rs 1 8 = 0
  · rw [if_neg c1, if_neg c2, if_pos c3]
  · exact absurd ⟨c1, c2, c3⟩ hd
theorem suv {k : fx_H} {q n : Nat} (cl cs rs : Int32) (hn : sfree k q = n) (h10 : n < 10) :
    (∀ a j, a < q → fx_i (su18 k q cl cs rs) a j = fx_i k a j) ∧ (∀ o j, 1 ≤ o → o ≤ 16 → j ≠ n → j ≠ 10 + n → j ≠ 20 + n → fx_i (su18 k q cl cs rs) (q + o) j = fx_i k (q + o) j) ∧ (∀ o j, 17 ≤ o → fx_i (su18 k q cl cs rs) (q + o) j = fx_i k (q + o) j) ∧ (∀ j, j ≠ 0 → fx_i (su18 k q cl cs rs) q j = fx_i k q j) ∧
    (∀ o, 1 ≤ o → o ≤ 16 → o ≠ 7 → ∀ j, j = 10 + n ∨ j = 20 + n → fx_i (su18 k q cl cs rs) (q + o) j = fx_i k (q + o) j) ∧ (fx_i (su18 k q cl cs rs) (q + 7) (10 + n) = 0 ∧ fx_i (su18 k q cl cs rs) (q + 7) (20 + n) = 0) ∧ fx_i (su18 k q cl cs rs) q 0 = 0 := by
  have ea : ((10 : Int32) + nI n).toNatClampNeg = 10 + n := by rw [jz_a h10]; exact nI_clamp (by omega)
  have eb : ((20 : Int32) + nI n).toNatClampNeg = 20 + n := by rw [jz_b h10]; exact nI_clamp (by omega)
  unfold su18 su17 su16 su15 su14 su13 su12 su11 su10 su9 su8 su7 su6 su5 su4 su3 su2 su1
  rw [hn, ea, eb]
  refine ⟨fun a j ha => ?_, fun o j h1 h2 h3 h4 h5 => ?_, fun o j h1 => ?_, fun j hj => ?_, fun o h1 h2 h3 j hj => ?_, ⟨?_, ?_⟩, ?_⟩
  · have g : ∀ o, ¬ a = q + o := fun o z => by omega
    have g0 : ¬ a = q := fun z => by omega
    simp only [fx_i_wi, g, g0, false_and, if_false]
  · have g0 : ¬ q + o = q := fun z => by omega
    simp only [fx_i_wi, h3, h4, h5, g0, false_and, and_false, if_false]
  · have g0 : ¬ q + o = q := fun z => by omega
    have g : ∀ c, c < 17 → ¬ q + o = q + c := fun c hc z => by omega
    simp only [fx_i_wi, g0, false_and, if_false, g 1 (by decide), g 2 (by decide), g 3 (by decide), g 4 (by decide), g 5 (by decide), g 6 (by decide), g 7 (by decide), g 8 (by decide), g 9 (by decide), g 10 (by decide), g 11 (by decide), g 12 (by decide), g 13 (by decide), g 14 (by decide), g 15 (by decide), g 16 (by decide)]
  · have g : ∀ c, 0 < c → ¬ q = q + c := fun c hc z => by omega
    simp only [fx_i_wi, hj, and_false, if_false, g 1 (by decide), g 2 (by decide), g 3 (by decide), g 4 (by decide), g 5 (by decide), g 6 (by decide), g 7 (by decide), g 8 (by decide), g 9 (by decide), g 10 (by decide), g 11 (by decide), g 12 (by decide), g 13 (by decide), g 14 (by decide), g 15 (by decide), g 16 (by decide), false_and]
  · have g0 : ¬ q + o = q := fun z => by omega
    have g7 : ¬ q + o = q + 7 := fun z => by omega
    have gn : ¬ j = n := fun z => by omega
    simp only [fx_i_wi, gn, g0, g7, false_and, and_false, if_false]
  · have g1 : ¬ 10 + n = n := fun z => by omega
    have g2 : ¬ 10 + n = 20 + n := fun z => by omega
    simp [fx_i_wi]
  · simp [fx_i_wi]
  · simp [fx_i_wi]
theorem suw {k : fx_H} {q n : Nat} (cl cs rs : Int32) (hn : sfree k q = n) (h10 : n < 10) :
    fx_i (su18 k q cl cs rs) (q + 1) n = 1 ∧ fx_i (su18 k q cl cs rs) (q + 2) n = cl ∧ fx_i (su18 k q cl cs rs) (q + 3) n = cs ∧ fx_i (su18 k q cl cs rs) (q + 4) n = rs ∧ fx_i (su18 k q cl cs rs) (q + 5) n = 0 ∧ fx_i (su18 k q cl cs rs) (q + 6) n = 0 ∧ fx_i (su18 k q cl cs rs) (q + 7) n = 1 ∧ fx_i (su18 k q cl cs rs) (q + 8) n = 0 ∧ fx_i (su18 k q cl cs rs) (q + 9) n = 0 ∧
    fx_i (su18 k q cl cs rs) (q + 10) n = 0 ∧ fx_i (su18 k q cl cs rs) (q + 11) n = 16 ∧ fx_i (su18 k q cl cs rs) (q + 12) n = 0 ∧ fx_i (su18 k q cl cs rs) (q + 13) n = 0 ∧ fx_i (su18 k q cl cs rs) (q + 14) n = 0 ∧ fx_i (su18 k q cl cs rs) (q + 15) n = cs ∧ fx_i (su18 k q cl cs rs) (q + 16) n = rs := by
  have ea : ((10 : Int32) + nI n).toNatClampNeg = 10 + n := by rw [jz_a h10]; exact nI_clamp (by omega)
  have eb : ((20 : Int32) + nI n).toNatClampNeg = 20 + n := by rw [jz_b h10]; exact nI_clamp (by omega)
  have g1 : ¬ n = 10 + n := fun z => by omega
  have g2 : ¬ n = 20 + n := fun z => by omega
  unfold su18 su17 su16 su15 su14 su13 su12 su11 su10 su9 su8 su7 su6 su5 su4 su3 su2 su1
  rw [hn, ea, eb]
  refine ⟨?_, ?_, ?_, ?_, ?_, ?_, ?_, ?_, ?_, ?_, ?_, ?_, ?_, ?_, ?_, ?_⟩
  all_goals simp [fx_i_wi, g1, g2]
/-- 96 pixels of the surface n become 0 -/
theorem su_px {h k : fx_H} {q n : Nat} (hn : sfree h q = n) (h10 : n < 10) : ∀ m, m ≤ 96 → (∀ a j, a ≠ q + 17 → fx_i (it (b_MO_surface h q) k m) a j = fx_i k a j) ∧ (∀ j, fx_i (it (b_MO_surface h q) k m) (q + 17) j = if 96 * n ≤ j ∧ j < 96 * n + m then 0 else fx_i k (q + 17) j)
  | 0, _ => by
    rw [it_0]
    exact ⟨fun _ _ _ => rfl, fun j => by rw [if_neg (by omega)]⟩
  | m + 1, hm => by
    obtain ⟨a1, a2⟩ := su_px (k := k) hn h10 m (by omega)
    have e : ((96 : Int32) * nI n + nI m).toNatClampNeg = 96 * n + m := by
      have e0 : (96 : Int32).toInt = 96 := rfl
      have e1 : (nI n).toInt = n := nI_toInt (by omega)
      have e2 : (nI m).toInt = m := nI_toInt (by omega)
      have t1 : (96 * nI n).toInt = 96 * (n : Int) := by rw [iz_mul (by rw [e0, e1]; omega), e0, e1]
      have t2 : (96 * nI n + nI m).toInt = 96 * (n : Int) + m := by rw [iz_add (by rw [t1, e2]; omega), t1, e2]
      have := iz_nn (a := 96 * nI n + nI m) (by omega)
      omega
    rw [it_s]
    unfold b_MO_surface at a1 a2 ⊢
    rw [hn, e]
    rw [hn] at a1 a2
    refine ⟨fun a j ha => by rw [fx_i_wi, if_neg (fun z => ha z.1)]; exact a1 a j ha, fun j => ?_⟩
    rw [fx_i_wi]
    by_cases z : j = 96 * n + m
    · rw [if_pos ⟨rfl, z⟩, if_pos (by omega)]
    · rw [if_neg (fun y => z y.2), a2 j]
      by_cases z2 : 96 * n ≤ j ∧ j < 96 * n + m
      · rw [if_pos z2, if_pos (by omega)]
      · rw [if_neg z2, if_neg (by omega)]
theorem fillA_v (a : Nat) (v : Int32) (h : fx_H) : ∀ m j, fx_i (it (fillA a v) h m) a j = if j < m then v else fx_i h a j
  | 0, j => by rw [it_0, if_neg (by omega)]
  | m + 1, j => by
    rw [it_s]
    unfold fillA
    rw [fx_i_wi]
    by_cases z : j = m
    · rw [if_pos ⟨rfl, z⟩, if_pos (by omega)]
    · rw [if_neg (fun y => z y.2)]
      have := fillA_v a v h m j
      unfold fillA at this
      rw [this]
      by_cases z2 : j < m
      · rw [if_pos z2, if_pos (by omega)]
      · rw [if_neg z2, if_neg (by omega)]
theorem pStart_v (X : fx_H) (p : Nat) (c r : Int32) :
    (∀ a j, a ≠ p → a ≠ p + 1 → a ≠ p + 2 → a ≠ p + 3 → fx_i (pStart X p c r) a j = fx_i X a j) ∧
    (fx_i (pStart X p c r) p 0 = 1 ∧ fx_i (pStart X p c r) p 1 = c ∧ fx_i (pStart X p c r) p 2 = r ∧ fx_i (pStart X p c r) p 3 = 0 ∧ fx_i (pStart X p c r) p 4 = 0 ∧ fx_i (pStart X p c r) p 5 = 0 ∧ fx_i (pStart X p c r) p 6 = 16 ∧ fx_i (pStart X p c r) p 7 = 0) ∧
    (∀ j, j < 96 → fx_i (pStart X p c r) (p + 1) j = 0) ∧ (fx_i (pStart X p c r) (p + 2) 0 = 0 ∧ fx_i (pStart X p c r) (p + 2) 1 = 0 ∧ fx_i (pStart X p c r) (p + 2) 2 = c ∧ fx_i (pStart X p c r) (p + 2) 3 = r) ∧ rIs (pStart X p c r) (p + 3) 0 0 0 0 := by
  unfold pStart
  generalize hW : fx_wi (fx_wi (fx_wi (fx_wi (fx_wi (fx_wi (fx_wi (fx_wi X p 0 1) p 1 c) p 2 r) p 3 0) p 4 0) p 5 0) p 6 16) p 7 0 = W
  have wv : fx_i W p 0 = 1 ∧ fx_i W p 1 = c ∧ fx_i W p 2 = r ∧ fx_i W p 3 = 0 ∧ fx_i W p 4 = 0 ∧ fx_i W p 5 = 0 ∧ fx_i W p 6 = 16 ∧ fx_i W p 7 = 0 := by
    rw [← hW]
    simp [fx_i_wi]
  have wo : ∀ a j, a ≠ p → fx_i W a j = fx_i X a j := fun a j ha => by rw [← hW]; simp [fx_i_wi, ha]
  generalize hV : it (fillA (p + 1) 0) W 96 = V
  have vo : ∀ a j, a ≠ p + 1 → fx_i V a j = fx_i W a j := fun a j ha => by rw [← hV]; exact (fillA_on (p + 1) 0 W 96).2 a ha j
  have vv : ∀ j, j < 96 → fx_i V (p + 1) j = 0 := fun j hj => by rw [← hV, fillA_v, if_pos hj]
  have ro : ∀ a j, a ≠ p + 2 → fx_i (rset V (p + 2) 0 0 c r) a j = fx_i V a j := fun a j ha => rset_o _ _ _ _ _ _ _ _ ha
  obtain ⟨r0, r1, r2, r3⟩ := rset_v V (p + 2) 0 0 c r
  have po : ∀ a j, a ≠ p + 3 → fx_i (pShow (rset V (p + 2) 0 0 c r) p) a j = fx_i (rset V (p + 2) 0 0 c r) a j := fun a j ha => pShow_o _ _ _ _ ha
  have d : ∀ j, fx_i (pShow (rset V (p + 2) 0 0 c r) p) p j = fx_i W p j := fun j => by rw [po _ _ (by omega), ro _ _ (by omega), vo _ _ (by omega)]
  refine ⟨fun a j h0 h1 h2 h3 => by rw [po _ _ h3, ro _ _ h2, vo _ _ h1, wo _ _ h0], by rw [d, d, d, d, d, d, d, d]; exact wv, fun j hj => by rw [po _ _ (by omega), ro _ _ (by omega), vv j hj], by rw [po _ _ (by omega), po _ _ (by omega), po _ _ (by omega), po _ _ (by omega)]; exact ⟨r0, r1, r2, r3⟩, ?_⟩
  have e7 : fx_i (rset V (p + 2) 0 0 c r) p 7 = 0 := by rw [ro _ _ (by omega), vo _ _ (by omega)]; exact wv.2.2.2.2.2.2.2
  unfold pShow rIs
  rw [if_pos (Or.inr e7)]
  obtain ⟨s0, s1, s2, s3⟩ := rset_v (rset V (p + 2) 0 0 c r) (p + 3) 0 0 0 0
  rw [s0, s1, s2, s3]
  exact ⟨rfl, rfl, rfl, rfl⟩
theorem A_surface {h : fx_H} {w q f b : Nat} (hj : J h w q f b) (cl cs rs : Int32) : fx_i (k_MO_surface (k_FS_surface h w f b cl cs rs) q cl cs rs) q 0 = cod (o_FS_surface h w f b cl cs rs) ∧
    (∀ v, o_FS_surface h w f b cl cs rs = .inl (some v) → v = v_MO_surface (k_FS_surface h w f b cl cs rs) q cl cs rs) ∧ J (k_MO_surface (k_FS_surface h w f b cl cs rs) q cl cs rs) w q f b := by
  have hq := hj.at_
  have hsk := J_ag (ag_sk h w q 1) hj
  by_cases hd : ¬ (¬ jW cl 0 3 = 0 ∧ ¬ jW cs 1 12 = 0 ∧ ¬ jW rs 1 8 = 0)
  · have e12 : k_FS_surface h w f b cl cs rs = fx_sk h 1 ∧ o_FS_surface h w f b cl cs rs = .inr "java/lang/IllegalArgumentException" := by
      unfold k_FS_surface o_FS_surface
      by_cases c1 : jW cl 0 3 = 0
      · rw [if_pos c1, if_pos c1]; exact ⟨rfl, rfl⟩
      by_cases c2 : jW cs 1 12 = 0
      · rw [if_neg c1, if_pos c2, if_neg c1, if_pos c2]; exact ⟨rfl, rfl⟩
      by_cases c3 : jW rs 1 8 = 0
      · rw [if_neg c1, if_neg c2, if_pos c3, if_neg c1, if_neg c2, if_pos c3]; exact ⟨rfl, rfl⟩
      · exact absurd ⟨c1, c2, c3⟩ hd
    rw [e12.1, e12.2, k_surface_0 hd]
    exact ⟨w00 _ _ _, fun v z => (by cases z), J_w hsk 1⟩
  obtain ⟨c1, c2, c3⟩ := Classical.byContradiction fun z => hd z
  have fe : ∀ k : fx_H, (∀ o, o = 1 ∨ o = 3 ∨ o = 4 → ∀ t, fx_i k (q + o) t = fx_i h (q + o) t) → v_MO_freePixels (fx_wi k q 0 (0 : Int32)) q = fx_i h (w + 1) 6 := fun k hk => by
    rw [fp_congr (h := h) (fun s _ => (wi_q _ _ _ _ _ _ (by decide)).trans (hk 1 (by decide) s)) (fun s _ => (wi_q _ _ _ _ _ _ (by decide)).trans (hk 3 (by decide) s)) (fun s _ => (wi_q _ _ _ _ _ _ (by decide)).trans (hk 4 (by decide) s))]
    exact hj.free.symm
  by_cases hl : v_DE_lowestFreeNumber h (w + 1) = -1 ∨ ¬ cs * rs ≤ fx_i h (w + 1) 6
  · have e12 : k_FS_surface h w f b cl cs rs = fx_sk h 1 ∧ o_FS_surface h w f b cl cs rs = .inr "java/lang/IllegalStateException" := by
      unfold k_FS_surface o_FS_surface
      rw [if_neg c1, if_neg c2, if_neg c3, if_neg c1, if_neg c2, if_neg c3]
      by_cases z : v_DE_lowestFreeNumber h (w + 1) = -1
      · rw [if_pos z, if_pos z]; exact ⟨rfl, rfl⟩
      · rcases hl with y | y
        · exact absurd y z
        · rw [if_neg z, if_neg y, if_neg z, if_neg y]; exact ⟨rfl, rfl⟩
    have e3 : k_MO_surface (fx_sk h 1) q cl cs rs = fx_wi (fx_wi (fx_sk h 1) q 0 (0 : Int32)) q 0 (2 : Int32) := by
      unfold k_MO_surface
      rw [wi_jW, wi_jW, wi_jW, if_neg c1, if_neg c2, if_neg c3]
      by_cases z : nI (sfree (fx_sk h 1) q) = 10
      · rw [if_pos z]
      · rw [if_neg z]
        rcases hl with y | y
        · rcases sfree_low (k := fx_sk h 1) hj (fun _ => rfl) with ⟨a, b', d⟩ | ⟨a, b'⟩
          · rw [b'] at y
            exact absurd y (by intro x; rw [iz_eq, nI_toInt (by omega)] at x; have : (-1 : Int32).toInt = -1 := rfl; omega)
          · rw [a] at z
            exact absurd rfl z
        · rw [fe (fx_sk h 1) (fun _ _ _ => rfl), if_neg y]
    rw [e12.1, e12.2, e3]
    exact ⟨w00 _ _ _, fun v z => (by cases z), J_w (J_w hsk 0) 2⟩
  have hl1 : ¬ v_DE_lowestFreeNumber h (w + 1) = -1 := fun z => hl (Or.inl z)
  have hl2 : cs * rs ≤ fx_i h (w + 1) 6 := Classical.byContradiction fun z => hl (Or.inr z)
  have hsf : sfree h q < 10 ∧ v_DE_lowestFreeNumber h (w + 1) = nI (sfree h q) ∧ fx_i h (q + 1) (sfree h q) = 0 := by
    rcases sfree_low (k := h) hj (fun _ => rfl) with y | ⟨-, y⟩
    · exact y
    · exact absurd y hl1
  obtain ⟨n10, low, u0⟩ := hsf
  generalize hn : sfree h q = n at *
  have cln : (nI n).toNatClampNeg = n := nI_clamp (by omega)
  have ea : w + 1 + 48 + 4 * n = w + 49 + 4 * n := by omega
  have e46 : w + 1 + 45 = w + 46 := by omega
  obtain ⟨P1, P2, P3, P4, P5⟩ := pStart_v (fx_wi h (w + 46) n cl) (w + 49 + 4 * n) cs rs
  have e1 : k_FS_surface h w f b cl cs rs = fx_wi (pStart (fx_wi h (w + 46) n cl) (w + 49 + 4 * n) cs rs) (w + 1) 6 (fx_i h (w + 1) 6 - cs * rs) := by
    unfold k_FS_surface k_DE_open
    rw [if_neg c1, if_neg c2, if_neg c3, if_neg hl1, if_pos hl2, low, cln, ea, e46, P1 (w + 1) 6 (by omega) (by omega) (by omega) (by omega), fx_i_wi, if_neg (fun z => by omega)]
  have e2 : o_FS_surface h w f b cl cs rs = .inl (some (nI n)) := by
    unfold o_FS_surface
    rw [if_neg c1, if_neg c2, if_neg c3, if_neg hl1, if_pos hl2, low]
  rw [e1, e2]
  generalize hY : fx_wi (pStart (fx_wi h (w + 46) n cl) (w + 49 + 4 * n) cs rs) (w + 1) 6 (fx_i h (w + 1) 6 - cs * rs) = Y
  have yo : ∀ a j, ¬ (w + 49 + 4 * n ≤ a ∧ a ≤ w + 52 + 4 * n) → ¬ (a = w + 46 ∧ j = n) → ¬ (a = w + 1 ∧ j = 6) → fx_i Y a j = fx_i h a j := fun a j g1 g2 g3 => by
    rw [← hY, fx_i_wi, if_neg g3, P1 a j (by omega) (by omega) (by omega) (by omega), fx_i_wi, if_neg g2]
  have ym : ∀ o j, fx_i Y (q + o) j = fx_i h (q + o) j := fun o j => yo _ _ (by omega) (by omega) (by omega)
  have yd : ∀ a j, w + 49 ≤ a → fx_i Y a j = fx_i (pStart (fx_wi h (w + 46) n cl) (w + 49 + 4 * n) cs rs) a j := fun a j g1 => by rw [← hY, fx_i_wi, if_neg (fun z => by omega)]
  have sY : sfree Y q = n := by
    rcases sfree_low (k := Y) hj (fun j => ym 1 j) with ⟨a, b', -⟩ | ⟨a, b'⟩
    · rw [low] at b'
      exact ((nI_eq (by omega) (by omega)).mp b').symm
    · exact absurd b' hl1
  have n10' : ¬ nI n = 10 := fun z => by rw [iz_eq, nI_toInt (by omega)] at z; have : (10 : Int32).toInt = 10 := rfl; omega
  have e3 : k_MO_surface Y q cl cs rs = it (b_MO_surface Y q) (su18 Y q cl cs rs) 96 := by
    unfold k_MO_surface
    rw [wi_jW, wi_jW, wi_jW, if_neg c1, if_neg c2, if_neg c3, sY, if_neg n10', fe Y (fun o _ t => ym o t), if_pos hl2]
  have e4 : v_MO_surface Y q cl cs rs = nI n := by
    unfold v_MO_surface
    rw [wi_jW, wi_jW, wi_jW, if_neg c1, if_neg c2, if_neg c3, sY, if_neg n10', fe Y (fun o _ t => ym o t), if_pos hl2]
  obtain ⟨U1, U2, U3, U4, U5, U6, U7⟩ := suv cl cs rs sY n10
  obtain ⟨V1, V2, V3, V4, V5, V6, V7, V8, V9, V10, V11, V12, V13, V14, V15, V16⟩ := suw cl cs rs sY n10
  obtain ⟨K1, K2⟩ := su_px (k := su18 Y q cl cs rs) sY n10 96 (Nat.le_refl _)
  rw [e3, e4]
  generalize it (b_MO_surface Y q) (su18 Y q cl cs rs) 96 = k at *
  generalize su18 Y q cl cs rs = S at *
  obtain ⟨j1, j2, j3, j4, j5⟩ := hj.num n n10
  obtain ⟨t7, t17, t27⟩ := j4 u0
  have kc : ∀ a j, a < q → fx_i k a j = fx_i Y a j := fun a j ha => (K1 a j (by omega)).trans (U1 a j ha)
  have kmo : ∀ o j, 1 ≤ o → o ≤ 16 → j ≠ n → fx_i k (q + o) j = fx_i h (q + o) j := fun o j g1 g2 g3 => by
    rw [K1 _ _ (by omega)]
    by_cases z : j = 10 + n ∨ j = 20 + n
    · by_cases z7 : o = 7
      · subst z7
        rcases z with z | z
        · rw [z, U6.1, t17]
        · rw [z, U6.2, t27]
      · rw [U5 o g1 g2 z7 j z, ym]
    · rw [U2 o j g1 g2 g3 (fun y => z (Or.inl y)) (fun y => z (Or.inr y)), ym]
  have kn : ∀ o, 1 ≤ o → o ≤ 16 → fx_i k (q + o) n = fx_i S (q + o) n := fun o g1 g2 => K1 _ _ (by omega)
  have d : DF h k w q n := by
    refine ⟨fun a g1 g2 g3 g4 g5 j g6 g7 => (kc a j (by omega)).trans (yo a j g5 g6 g7), fun o g1 g2 j g3 => kmo o j g1 g2 g3, fun j g => ?_, fun o g1 g2 g3 j => ?_, fun j g1 g2 => ?_⟩
    · rw [K2, if_neg g, U3 17 j (by decide), ym]
    · rw [K1 _ _ (by omega), U3 o j (by omega), ym]
    · rw [K1 _ _ (by omega), U4 j g1]
      exact yo _ _ (by omega) (by omega) (by omega)
  have b1 := jW_b1 c1
  have b2 := jW_b1 c2
  have b3 := jW_b1 c3
  have a0 : (0 : Int32).toInt = 0 := rfl
  have a1 : (1 : Int32).toInt = 1 := rfl
  have a3 : (3 : Int32).toInt = 3 := rfl
  have a8 : (8 : Int32).toInt = 8 := rfl
  have a12 : (12 : Int32).toInt = 12 := rfl
  have a16 : (16 : Int32).toInt = 16 := rfl
  rw [a0, a3] at b1
  rw [a1, a12] at b2
  rw [a1, a8] at b3
  have nm : n % 10 = n := by omega
  have kd : ∀ j, fx_i k (w + 49 + 4 * n) j = fx_i (pStart (fx_wi h (w + 46) n cl) (w + 49 + 4 * n) cs rs) (w + 49 + 4 * n) j := fun j => (kc _ _ (by omega)).trans (yd _ _ (by omega))
  obtain ⟨d0, d1, d2, d3, d4, d5, d6, d7⟩ := P2
  have hpe : PE k (w + 49 + 4 * n) q n := by
    refine ⟨?_, fun j hj9 => ?_, ?_, ?_, ?_, ?_⟩
    · rw [nm, kd, kd, kd, kd, kd, kd, kd, d1, d2, d3, d4, d5, d6, d7, kn 3 (by decide) (by decide), kn 4 (by decide) (by decide), kn 8 (by decide) (by decide), kn 9 (by decide) (by decide), kn 10 (by decide) (by decide), kn 11 (by decide) (by decide), kn 12 (by decide) (by decide), V3, V4, V8, V9, V10, V11, V12]
      exact ⟨rfl, rfl, rfl, rfl, rfl, rfl, Iff.rfl⟩
    · rw [kc _ _ (by omega), yd _ _ (by omega), P3 j hj9, K2, if_pos (by omega)]
      exact ⟨rfl, by decide, by decide⟩
    · rw [kc (w + 49 + 4 * n + 2) 0 (by omega), kc (w + 49 + 4 * n + 2) 1 (by omega), kc (w + 49 + 4 * n + 2) 2 (by omega), kc (w + 49 + 4 * n + 2) 3 (by omega), yd _ _ (by omega), yd _ _ (by omega), yd _ _ (by omega), yd _ _ (by omega), P4.1, P4.2.1, P4.2.2.1, P4.2.2.2, kn 13 (by decide) (by decide), kn 14 (by decide) (by decide), kn 15 (by decide) (by decide), kn 16 (by decide) (by decide), V13, V14, V15, V16]
      exact ⟨rfl, rfl, ⟨by omega, by omega⟩, ⟨by omega, by omega⟩, fun z => Or.inl z, fun _ => ⟨rfl, rfl⟩⟩
    · unfold mpOk
      rw [nm, kn 8 (by decide) (by decide), kn 9 (by decide) (by decide), kn 13 (by decide) (by decide), kn 14 (by decide) (by decide), kn 15 (by decide) (by decide), kn 16 (by decide) (by decide), kn 3 (by decide) (by decide), kn 4 (by decide) (by decide), V8, V9, V13, V14, V15, V16, V3, V4, a0]
      omega
    · rw [kn 10 (by decide) (by decide), V10, a0]; omega
    · rw [kn 11 (by decide) (by decide), V11, a16]; omega
  refine ⟨by rw [K1 _ _ (by omega), U7]; rfl, fun v z => (by cases z; rfl), J_draft hj n10 d ⟨?_, ?_, fun _ => hpe⟩ ?_ ?_ ?_ (Or.inr ⟨t17, t27⟩)⟩
  · rw [kd, d0, kn 7 (by decide) (by decide), V7]
  · obtain ⟨r0, r1, r2, r3⟩ := P5
    have k3 : ∀ j, fx_i k (w + 49 + 4 * n + 3) j = fx_i (pStart (fx_wi h (w + 46) n cl) (w + 49 + 4 * n) cs rs) (w + 49 + 4 * n + 3) j := fun j => (kc _ _ (by omega)).trans (yd _ _ (by omega))
    have hE : shE k q n := Or.inr (Or.inl (by rw [kn 12 (by decide) (by decide), V12]))
    refine ⟨?_, fun _ => Or.inl (by rw [k3]; exact iz_eq.mpr r2), fun z => absurd hE z⟩
    unfold rOk
    rw [k3, k3, k3, k3, r0, r1, r2, r3]
    decide
  · have k46 : fx_i k (w + 46) n = cl := by
      rw [kc _ _ (by omega), ← hY, fx_i_wi, if_neg (fun z => by omega), P1 _ _ (by omega) (by omega) (by omega) (by omega), fx_i_wi, if_pos ⟨rfl, rfl⟩]
    have k47 : fx_i k (w + 47) n = fx_i h (w + 47) n := (kc _ _ (by omega)).trans (yo _ _ (by omega) (by omega) (by omega))
    have l0 : fx_i h (w + 47) n = 0 := j3.mpr (Or.inl u0)
    unfold JS
    rw [k46, k47, kd, kd, d1, d2, kn 1 (by decide) (by decide), kn 2 (by decide) (by decide), kn 3 (by decide) (by decide), kn 4 (by decide) (by decide), kn 5 (by decide) (by decide), kn 6 (by decide) (by decide), kn 7 (by decide) (by decide), V1, V2, V3, V4, V5, V6, V7]
    refine ⟨⟨fun z => ?_, fun z => absurd z (by decide)⟩, fun _ => ⟨rfl, iz_in (by omega) (by omega), rfl, rfl, ⟨fun _ => by decide, fun _ => rfl⟩⟩, ⟨fun _ => Or.inr rfl, fun _ => l0⟩, fun z => absurd z (by decide), fun _ z => absurd rfl z⟩
    rw [iz_eq] at z
    have : (-1 : Int32).toInt = -1 := rfl
    omega
  · rw [kc _ _ (by omega), ← hY, fx_i_wi, if_pos ⟨rfl, rfl⟩]
    rw [fp_open (h := h) (k := k) (c := cs) (r := rs) n10 u0 (by rw [kn 1 (by decide) (by decide), V1]; decide) (by rw [kn 3 (by decide) (by decide), V3]) (by rw [kn 4 (by decide) (by decide), V4]) (fun o ho t ht => kmo o t (by omega) (by omega) ht), hj.free]
  · intro t ht
    by_cases z : t = n
    · subst z
      rw [kn 3 (by decide) (by decide), kn 4 (by decide) (by decide), V3, V4]
      omega
    · rw [kmo 3 t (by decide) (by decide) z, kmo 4 t (by decide) (by decide) z]
      exact hj.cr t ht
