/-! ===== commit ===== -/
theorem PS_fin {C k : fx_H} {P q kd : Nat} (hkd : kd ≤ 20) (ep : ∀ s, s < 10 → ∀ j, fx_i k (P + 3 + 4 * s) j = fx_i C (P + 3 + 4 * s) j) (h2 : fx_i k P 2 = nI (rk (pT C P) (pK C P) 100)) (h2b : ∀ l, l < 10 → rk (pT C P) (pK C P) 100 ≤ l → ∃ t, t < 10 ∧ fx_i k (P + 2) l = nI t)
    (h3 : ∀ l, l < rk (pT C P) (pK C P) 100 → ∃ t, t < 10 ∧ pT C P t = true ∧ pK C P t < 100 ∧ fx_i k (P + 2) l = nI t ∧ rk (pT C P) (pK C P) (pK C P t) = l) (ho : oOk C P) (hto' : TO k P q kd) : PS k P q kd := by
  have ho' : oOk k P := fun t ht => by rw [ep t ht, ep t ht]; exact ho t ht
  have eT : ∀ t, t < 10 → pT k P t = pT C P t := fun t ht => by unfold pT; rw [ep t ht]
  have eK : ∀ t, t < 10 → pK k P t = pK C P t := fun t ht => by unfold pK; rw [ep t ht]
  have er : ∀ n, rk (pT k P) (pK k P) n = rk (pT C P) (pK C P) n := fun n => cN_congr _ _ 10 (fun t ht => by simp only [eT t ht, eK t ht])
  have hH : rk (pT C P) (pK C P) 100 ≤ 10 := cN_le _ 10
  have e1 : pH k P = rk (pT C P) (pK C P) 100 := by unfold pH; rw [h2]; exact nI_clamp (by omega)
  have e2 : ∀ l, l < pH k P → ∃ t, t < 10 ∧ pT k P t = true ∧ pU k P l = t ∧ fx_i k (P + 2) l = nI t ∧ rk (pT k P) (pK k P) (pK k P t) = l := by
    intro l hl
    obtain ⟨t, t1, t2, t3, t4, t5⟩ := h3 l (by omega)
    exact ⟨t, t1, by rw [eT t t1]; exact t2, by unfold pU; rw [t4]; exact nI_clamp (by omega), t4, by rw [er, eK t t1]; exact t5⟩
  have e3 : ∀ t, t < 10 → pT k P t = true → rk (pT k P) (pK k P) (pK k P t) < pH k P := by
    intro t ht hT
    have h9 : pK k P t < 100 := by
      have := ho' t ht (of_decide_eq_true hT)
      have n1 := iz_nn this.1
      unfold pK
      omega
    have := rk_lt (pT k P) (pK k P) ht hT h9
    rw [e1, ← er]
    exact this
  refine ⟨⟨by omega, ?_, fun l hl => ?_⟩, fun l hl => ?_, fun l hl hl2 => ?_, fun t ht hT => ?_, fun l l' hl hl' => ?_⟩
  · rw [e1]; exact h2
  · by_cases hlt : l < pH k P
    · obtain ⟨t, t1, -, t3, t4, -⟩ := e2 l hlt
      rw [t3]
      exact ⟨t1, t4⟩
    · obtain ⟨t, t1, t3⟩ := h2b l hl (by omega)
      have t4 : pU k P l = t := by unfold pU; rw [t3]; exact nI_clamp (by omega)
      rw [t4]
      exact ⟨t1, t3⟩
  · obtain ⟨t, t1, t2, t3, t4, t5⟩ := e2 l hl
    rw [t3]
    refine ⟨of_decide_eq_true t2, ?_⟩
    have := nth_at hkd ho' hto' t1 t2
    rw [t5] at this
    exact this
  · refine nth_no hkd ho' hto' hl2 (fun t ht hT e => ?_)
    have := e3 t ht hT
    omega
  · have hT' : pT k P t = true := decide_eq_true hT
    refine ⟨_, e3 t ht hT', ?_⟩
    obtain ⟨t', t1, t2, t3, -, t5⟩ := e2 _ (e3 t ht hT')
    rw [t3]
    exact rk_inj t1 ht t2 hT' t5
  · obtain ⟨t, t1, t2, t3, -, t5⟩ := e2 l hl
    obtain ⟨s, s1, s2, s3, -, s5⟩ := e2 l' hl'
    rw [t3, s3, above_iff hkd ho' hto' s1 t1 s2 t2, ← rk_lt_iff t1 s1 t2 s2, t5, s5]
/-- what copyPicture does to the picture t -/
theorem copyP_v {h : fx_H} {q a t : Nat} (ha : a < 30) (ht : t < 30) (hat : a ≠ t) :
    (∀ o, 7 ≤ o → o ≤ 16 → ∀ j, fx_i (k_MO_copyPicture h q (nI a) (nI t)) (q + o) j = if j = t then fx_i h (q + o) a else fx_i h (q + o) j) ∧
    (∀ j, fx_i (k_MO_copyPicture h q (nI a) (nI t)) (q + 17) j = if 96 * t ≤ j ∧ j < 96 * t + 96 then fx_i h (q + 17) (96 * a + (j - 96 * t)) else fx_i h (q + 17) j) := by
  have ca : (nI a).toNatClampNeg = a := nI_clamp (by omega)
  have ct : (nI t).toNatClampNeg = t := nI_clamp (by omega)
  have ci : ∀ p i, p < 30 → i < 96 → ((96 : Int32) * nI p + nI i).toNatClampNeg = 96 * p + i := fun p i hp hi => by
    have e0 : (96 : Int32).toInt = 96 := rfl
    have e1 : (nI p).toInt = p := nI_toInt (by omega)
    have e2 : (nI i).toInt = i := nI_toInt (by omega)
    have t1 : (96 * nI p).toInt = 96 * (p : Int) := by rw [iz_mul (by rw [e0, e1]; omega), e0, e1]
    have t2 : (96 * nI p + nI i).toInt = 96 * (p : Int) + i := by rw [iz_add (by rw [t1, e2]; omega), t1, e2]
    have := iz_nn (a := 96 * nI p + nI i) (by omega)
    omega
  have loop : ∀ (k : fx_H) n, n ≤ 96 → fx_on (q + 17) k (it (b_MO_copyPicture q (nI a) (nI t)) k n) ∧ ∀ j, fx_i (it (b_MO_copyPicture q (nI a) (nI t)) k n) (q + 17) j = if 96 * t ≤ j ∧ j < 96 * t + n then fx_i k (q + 17) (96 * a + (j - 96 * t)) else fx_i k (q + 17) j := by
    intro k n
    induction n with
    | zero => intro _; rw [it_0]; exact ⟨fx_on_rf _ _, fun j => by rw [if_neg (by omega)]⟩
    | succ n ih =>
      intro hn
      obtain ⟨i1, i2⟩ := ih (by omega)
      rw [it_s]
      generalize it (b_MO_copyPicture q (nI a) (nI t)) k n = m at *
      unfold b_MO_copyPicture
      rw [ci t n ht (by omega), ci a n ha (by omega)]
      refine ⟨fx_on_t i1 (fx_on_wi _ _ _ _), fun j => ?_⟩
      rw [fx_i_wi]
      by_cases z : j = 96 * t + n
      · rw [if_pos ⟨rfl, z⟩, if_pos (by omega), i2, if_neg (by omega), z]
        congr 1
        omega
      · rw [if_neg (fun y => z y.2), i2]
        by_cases z2 : 96 * t ≤ j ∧ j < 96 * t + n
        · rw [if_pos z2, if_pos (by omega)]
        · rw [if_neg z2, if_neg (by omega)]
  obtain ⟨l1, l2⟩ := loop (cq10 h q (nI a) (nI t)) 96 (Nat.le_refl _)
  unfold k_MO_copyPicture
  have c17 : ∀ j, fx_i (cq10 h q (nI a) (nI t)) (q + 17) j = fx_i h (q + 17) j := fun j => by
    unfold cq10 cq9 cq8 cq7 cq6 cq5 cq4 cq3 cq2 cq1
    simp [fx_i_wi]
  refine ⟨fun o h1 h2 j => ?_, fun j => ?_⟩
  · rw [l1.2 _ (by omega)]
    unfold cq10 cq9 cq8 cq7 cq6 cq5 cq4 cq3 cq2 cq1
    rw [ca, ct]
    have h3 : o = 7 ∨ o = 8 ∨ o = 9 ∨ o = 10 ∨ o = 11 ∨ o = 12 ∨ o = 13 ∨ o = 14 ∨ o = 15 ∨ o = 16 := by omega
    by_cases z : j = t
    · subst z
      rcases h3 with rfl | rfl | rfl | rfl | rfl | rfl | rfl | rfl | rfl | rfl <;> simp [fx_i_wi]
    · rcases h3 with rfl | rfl | rfl | rfl | rfl | rfl | rfl | rfl | rfl | rfl <;> simp [fx_i_wi, z]
  · rw [l2, c17, c17]
/-- the Model's loop of commit -/
theorem M_commit {h : fx_H} {q : Nat} {cl : Int32} : ∀ n, n ≤ 10 →
    mfr q [6, 7, 8, 9, 10, 11, 12, 13, 14, 15, 16, 17] [] h (it (b_MO_commit q cl) h n) ∧
    (∀ j, fx_i (it (b_MO_commit q cl) h n) (q + 6) j = if j < n ∧ ¬ fx_i h (q + 1) j = 0 ∧ fx_i h (q + 2) j = cl then fx_i h (q + 5) j else fx_i h (q + 6) j) ∧
    (∀ o, 7 ≤ o → o ≤ 16 → ∀ j, (j < 10 ∨ 20 ≤ j → fx_i (it (b_MO_commit q cl) h n) (q + o) j = fx_i h (q + o) j) ∧ (j < 10 → fx_i (it (b_MO_commit q cl) h n) (q + o) (10 + j) = if j < n ∧ ¬ fx_i h (q + 1) j = 0 ∧ fx_i h (q + 2) j = cl then fx_i h (q + o) j else fx_i h (q + o) (10 + j))) ∧
    (∀ j, (j < 960 ∨ 1920 ≤ j) → fx_i (it (b_MO_commit q cl) h n) (q + 17) j = fx_i h (q + 17) j) ∧ (∀ s j, s < 10 → j < 96 → fx_i (it (b_MO_commit q cl) h n) (q + 17) (96 * (10 + s) + j) = if s < n ∧ ¬ fx_i h (q + 1) s = 0 ∧ fx_i h (q + 2) s = cl then fx_i h (q + 17) (96 * s + j) else fx_i h (q + 17) (96 * (10 + s) + j))
  | 0, _ => by
    rw [it_0]
    exact ⟨mfr_rf _ _ _ _, fun j => by rw [if_neg (by omega)], fun o _ _ j => ⟨fun _ => rfl, fun _ => by rw [if_neg (by omega)]⟩, fun j _ => rfl, fun s j _ _ => by rw [if_neg (by omega)]⟩
  | n + 1, hn => by
    obtain ⟨i0, i1, i2, i3, i4⟩ := M_commit (h := h) (q := q) (cl := cl) n (by omega)
    rw [it_s]
    generalize it (b_MO_commit q cl) h n = m at *
    have m1 : ∀ j, fx_i m (q + 1) j = fx_i h (q + 1) j := fun j => mfr_at i0 (by decide) j
    have m2 : ∀ j, fx_i m (q + 2) j = fx_i h (q + 2) j := fun j => mfr_at i0 (by decide) j
    have m5 : ∀ j, fx_i m (q + 5) j = fx_i h (q + 5) j := fun j => mfr_at i0 (by decide) j
    by_cases sel : ¬ fx_i h (q + 1) n = 0 ∧ fx_i h (q + 2) n = cl
    · have e : b_MO_commit q cl n m = fx_wi (k_MO_copyPicture m q (nI n) (nI (10 + n))) (q + 6) n (fx_i h (q + 5) n) := by
        unfold b_MO_commit
        rw [m1, m2, if_neg sel.1, if_pos sel.2, jz_a (by omega), mfr_at (mfr_copyPicture _ _ _ _) (by decide), m5]
      obtain ⟨c1, c2⟩ := copyP_v (h := m) (q := q) (a := n) (t := 10 + n) (by omega) (by omega) (by omega)
      have cm := mfr_copyPicture m q (nI n) (nI (10 + n))
      rw [e]
      refine ⟨mfr_wi (mfr_t i0 (mfr_m cm (by decide) (by decide))) (by decide), fun j => ?_, fun o h1 h2 j => ⟨fun hj => ?_, fun hj => ?_⟩, fun j hj => ?_, fun s j hs hj => ?_⟩
      · rw [fx_i_wi]
        by_cases z : j = n
        · subst z
          rw [if_pos ⟨rfl, rfl⟩, if_pos ⟨by omega, sel⟩]
        · rw [if_neg (fun y => z y.2), mfr_at cm (by decide), i1]
          by_cases z2 : j < n ∧ ¬ fx_i h (q + 1) j = 0 ∧ fx_i h (q + 2) j = cl
          · rw [if_pos z2, if_pos ⟨by omega, z2.2⟩]
          · rw [if_neg z2, if_neg (fun y => z2 ⟨by omega, y.2⟩)]
      · rw [fx_i_wi, if_neg (fun y => by omega), c1 o h1 h2, if_neg (by omega)]
        exact (i2 o h1 h2 j).1 hj
      · rw [fx_i_wi, if_neg (fun y => by omega), c1 o h1 h2]
        by_cases z : j = n
        · subst z
          rw [if_pos rfl, if_pos ⟨by omega, sel⟩]
          exact (i2 o h1 h2 j).1 (Or.inl hj)
        · rw [if_neg (by omega), (i2 o h1 h2 j).2 hj]
          by_cases z2 : j < n ∧ ¬ fx_i h (q + 1) j = 0 ∧ fx_i h (q + 2) j = cl
          · rw [if_pos z2, if_pos ⟨by omega, z2.2⟩]
          · rw [if_neg z2, if_neg (fun y => z2 ⟨by omega, y.2⟩)]
      · rw [fx_i_wi, if_neg (fun y => by omega), c2, if_neg (by omega)]
        exact i3 j hj
      · rw [fx_i_wi, if_neg (fun y => by omega), c2]
        by_cases z : s = n
        · subst z
          rw [if_pos (by omega), if_pos ⟨by omega, sel⟩, i3 _ (by omega)]
          congr 1
          omega
        · rw [if_neg (by omega), i4 s j hs hj]
          by_cases z2 : s < n ∧ ¬ fx_i h (q + 1) s = 0 ∧ fx_i h (q + 2) s = cl
          · rw [if_pos z2, if_pos ⟨by omega, z2.2⟩]
          · rw [if_neg z2, if_neg (fun y => z2 ⟨by omega, y.2⟩)]
    · have e : b_MO_commit q cl n m = m := by
        unfold b_MO_commit
        rw [m1, m2]
        by_cases z : fx_i h (q + 1) n = 0
        · rw [if_pos z]
        · rw [if_neg z, if_neg (fun y => sel ⟨z, y⟩)]
      rw [e]
      have g : ∀ j, (j < n + 1 ∧ ¬ fx_i h (q + 1) j = 0 ∧ fx_i h (q + 2) j = cl) ↔ (j < n ∧ ¬ fx_i h (q + 1) j = 0 ∧ fx_i h (q + 2) j = cl) := fun j => ⟨fun y => ⟨by
        have : j ≠ n := fun z => sel (by rw [← z]; exact y.2)
        omega, y.2⟩, fun y => ⟨by omega, y.2⟩⟩
      refine ⟨i0, fun j => by rw [i1]; simp only [g], fun o h1 h2 j => ⟨(i2 o h1 h2 j).1, fun hj => by rw [(i2 o h1 h2 j).2 hj]; simp only [g]⟩, i3, fun s j hs hj => by rw [i4 s j hs hj]; simp only [g]⟩
/-- the class's loop of commit -/
theorem C_commit {h : fx_H} {d : Nat} {cl : Int32} : ∀ n, n ≤ 10 →
    (∀ a j, ¬ (d + 5 ≤ a ∧ a ≤ d + 44) → a ≠ d + 46 → fx_i (it (b_DE_commitAll d cl) h n) a j = fx_i h a j) ∧
    (∀ j, fx_i (it (b_DE_commitAll d cl) h n) (d + 46) j = if j < n ∧ fx_i h (d + 45) j = cl then (if fx_i h (d + 48 + 4 * j) 0 = 0 then 1 else 0) else fx_i h (d + 46) j) ∧
    (∀ s, s < 10 → ¬ (s < n ∧ fx_i h (d + 45) s = cl) → ∀ i j, i < 4 → fx_i (it (b_DE_commitAll d cl) h n) (d + 5 + 4 * s + i) j = fx_i h (d + 5 + 4 * s + i) j) ∧
    (∀ s, s < 10 → s < n ∧ fx_i h (d + 45) s = cl → (∀ j, j < 8 → fx_i (it (b_DE_commitAll d cl) h n) (d + 5 + 4 * s) j = fx_i h (d + 48 + 4 * s) j) ∧ (∀ j, j < 96 → fx_i (it (b_DE_commitAll d cl) h n) (d + 5 + 4 * s + 1) j = fx_i h (d + 48 + 4 * s + 1) j) ∧ (∀ j, j < 4 → fx_i (it (b_DE_commitAll d cl) h n) (d + 5 + 4 * s + 2) j = fx_i h (d + 48 + 4 * s + 2) j) ∧ (∀ j, j < 4 → fx_i (it (b_DE_commitAll d cl) h n) (d + 5 + 4 * s + 3) j = fx_i h (d + 48 + 4 * s + 3) j))
  | 0, _ => by
    rw [it_0]
    exact ⟨fun a j _ _ => rfl, fun j => by rw [if_neg (by omega)], fun s _ _ i j _ => rfl, fun s _ z => absurd z.1 (by omega)⟩
  | n + 1, hn => by
    obtain ⟨i1, i2, i3, i4⟩ := C_commit (h := h) (d := d) (cl := cl) n (by omega)
    rw [it_s]
    generalize it (b_DE_commitAll d cl) h n = m at *
    have m45 : ∀ j, fx_i m (d + 45) j = fx_i h (d + 45) j := fun j => i1 _ _ (by omega) (by omega)
    have md : ∀ s i j, fx_i m (d + 48 + 4 * s + i) j = fx_i h (d + 48 + 4 * s + i) j := fun s i j => i1 _ _ (by omega) (by omega)
    have ea : d + 2 + 3 + 4 * n = d + 5 + 4 * n := by omega
    by_cases sel : fx_i h (d + 45) n = cl
    · obtain ⟨P1, P2, P3, P4, P5⟩ := pCopy_v m (d + 5 + 4 * n) (d + 48 + 4 * n) (by omega)
      have e0 : fx_i (pCopy m (d + 5 + 4 * n) (d + 48 + 4 * n)) (d + 48 + 4 * n) 0 = fx_i h (d + 48 + 4 * n) 0 := (P1 _ _ (by omega) (by omega) (by omega) (by omega)).trans (md n 0 0)
      have e : b_DE_commitAll d cl n m = fx_wi (pCopy m (d + 5 + 4 * n) (d + 48 + 4 * n)) (d + 46) n (if fx_i h (d + 48 + 4 * n) 0 = 0 then 1 else 0) := by
        unfold b_DE_commitAll
        rw [m45, if_pos sel, ea, e0]
        split <;> rfl
      rw [e]
      refine ⟨fun a j g1 g2 => ?_, fun j => ?_, fun s hs g i j hi => ?_, fun s hs g => ?_⟩
      · rw [fx_i_wi, if_neg (fun y => g2 y.1), P1 _ _ (by omega) (by omega) (by omega) (by omega)]
        exact i1 a j g1 g2
      · rw [fx_i_wi]
        by_cases z : j = n
        · subst z
          rw [if_pos ⟨rfl, rfl⟩, if_pos (show j < j + 1 ∧ fx_i h (d + 45) j = cl from ⟨by omega, sel⟩)]
        · rw [if_neg (fun y => z y.2), P1 _ _ (by omega) (by omega) (by omega) (by omega), i2]
          by_cases z2 : j < n ∧ fx_i h (d + 45) j = cl
          · rw [if_pos z2, if_pos (show j < n + 1 ∧ fx_i h (d + 45) j = cl from ⟨by omega, z2.2⟩)]
          · rw [if_neg z2, if_neg (show ¬ (j < n + 1 ∧ fx_i h (d + 45) j = cl) from fun y => z2 ⟨by omega, y.2⟩)]
      · have z : s ≠ n := fun z => g ⟨by omega, by rw [z]; exact sel⟩
        rw [fx_i_wi, if_neg (fun y => by omega), P1 _ _ (by omega) (by omega) (by omega) (by omega)]
        exact i3 s hs (fun y => g ⟨by omega, y.2⟩) i j hi
      · by_cases z : s = n
        · subst z
          refine ⟨fun j hj => ?_, fun j hj => ?_, fun j hj => ?_, fun j hj => ?_⟩
          · rw [fx_i_wi, if_neg (fun y => by omega), P2 j hj]; exact md s 0 j
          · rw [fx_i_wi, if_neg (fun y => by omega), P3 j hj]; exact md s 1 j
          · rw [fx_i_wi, if_neg (fun y => by omega), P4 j hj]; exact md s 2 j
          · rw [fx_i_wi, if_neg (fun y => by omega), P5 j hj]; exact md s 3 j
        · obtain ⟨a1, a2, a3, a4⟩ := i4 s hs ⟨by omega, g.2⟩
          refine ⟨fun j hj => ?_, fun j hj => ?_, fun j hj => ?_, fun j hj => ?_⟩
          · rw [fx_i_wi, if_neg (fun y => by omega), P1 _ _ (by omega) (by omega) (by omega) (by omega)]; exact a1 j hj
          · rw [fx_i_wi, if_neg (fun y => by omega), P1 _ _ (by omega) (by omega) (by omega) (by omega)]; exact a2 j hj
          · rw [fx_i_wi, if_neg (fun y => by omega), P1 _ _ (by omega) (by omega) (by omega) (by omega)]; exact a3 j hj
          · rw [fx_i_wi, if_neg (fun y => by omega), P1 _ _ (by omega) (by omega) (by omega) (by omega)]; exact a4 j hj
    · have e : b_DE_commitAll d cl n m = m := by
        unfold b_DE_commitAll
        rw [m45, if_neg sel]
      rw [e]
      have g : ∀ j, (j < n + 1 ∧ fx_i h (d + 45) j = cl) ↔ (j < n ∧ fx_i h (d + 45) j = cl) := fun j => ⟨fun y => ⟨by
        have : j ≠ n := fun z => sel (by rw [← z]; exact y.2)
        omega, y.2⟩, fun y => ⟨by omega, y.2⟩⟩
      exact ⟨i1, fun j => by rw [i2]; simp only [g], fun s hs y => i3 s hs (fun z => y ((g s).mpr z)), fun s hs y => i4 s hs ((g s).mp y)⟩
theorem sel_iff {h : fx_H} {w q f b : Nat} (hj : J h w q f b) {cl : Int32} (hc : 0 ≤ cl.toInt) {s : Nat} (hs : s < 10) : fx_i h (w + 46) s = cl ↔ (¬ fx_i h (q + 1) s = 0 ∧ fx_i h (q + 2) s = cl) := by
  obtain ⟨j1, j2, -⟩ := hj.num s hs
  constructor
  · intro z
    have u : ¬ fx_i h (q + 1) s = 0 := fun y => by
      have := j1.mpr y
      rw [z, iz_eq] at this
      have e : (-1 : Int32).toInt = -1 := rfl
      omega
    exact ⟨u, by rw [← (j2 u).1]; exact z⟩
  · rintro ⟨u, z⟩
    rw [(j2 u).1]
    exact z
set_option maxHeartbeats 1000000 in
theorem A_commit {h : fx_H} {w q f b : Nat} (hj : J h w q f b) (cl : Int32) :
    (¬ (jW cl 0 3) = 0 → sortOk (it (b_DE_commitAll (w + 1) cl) h 10) (w + 1 + 2)) ∧ fx_i (k_MO_commit (k_FS_commit h w f b cl) q cl) q 0 = cod (o_FS_commit h w f b cl) ∧ (∀ v, o_FS_commit h w f b cl = .inl (some v) → v = v_MO_commit (k_FS_commit h w f b cl) q cl) ∧ J (k_MO_commit (k_FS_commit h w f b cl) q cl) w q f b := by
  have hq := hj.at_
  have hsk := J_ag (ag_sk h w q 1) hj
  obtain ⟨D1, D2, D3, D4⟩ := hj.desk
  by_cases c1 : jW cl 0 3 = 0
  · have e1 : k_FS_commit h w f b cl = fx_sk h 1 := by unfold k_FS_commit; rw [if_pos c1]
    have e2 : o_FS_commit h w f b cl = .inr "java/lang/IllegalArgumentException" := by unfold o_FS_commit; rw [if_pos c1]
    have e3 : k_MO_commit (fx_sk h 1) q cl = fx_wi (fx_sk h 1) q 0 1 := by unfold k_MO_commit; rw [wi_jW, if_pos c1]
    rw [e1, e2, e3]
    exact ⟨fun z => absurd c1 z, w00 _ _ _, fun v z => (by cases z), J_w hsk 1⟩
  have bc := jW_b1 c1
  have a0 : (0 : Int32).toInt = 0 := rfl
  have a3 : (3 : Int32).toInt = 3 := rfl
  have a6 : (6 : Int32).toInt = 6 := rfl
  have a1 : (1 : Int32).toInt = 1 := rfl
  rw [a0, a3] at bc
  have ncl := iz_nn bc.1
  have e3_ : w + 1 + 2 = w + 3 := by omega
  have e46 : w + 1 + 45 = w + 46 := by omega
  have e47 : w + 1 + 46 = w + 47 := by omega
  have e48 : w + 1 + 47 = w + 48 := by omega
  have e49 : ∀ s, w + 1 + 48 + 4 * s = w + 49 + 4 * s := fun s => by omega
  have e6 : ∀ s, w + 1 + 5 + 4 * s = w + 6 + 4 * s := fun s => by omega
  obtain ⟨C1, C2, C3, C4⟩ := C_commit (h := h) (d := w + 1) (cl := cl) 10 (Nat.le_refl _)
  rw [e3_]
  generalize hC : it (b_DE_commitAll (w + 1) cl) h 10 = C at *
  simp only [e46, e47, e49, e6] at C2 C3 C4
  have selw : ∀ s, s < 10 → (fx_i h (w + 46) s = cl ↔ (¬ fx_i h (q + 1) s = 0 ∧ fx_i h (q + 2) s = cl)) := fun s hs => sel_iff hj bc.1 hs
  have cm : ∀ o j, fx_i C (q + o) j = fx_i h (q + o) j := fun o j => C1 _ _ (by omega) (by omega)
  -- committed pictures of C
  have prC : ∀ s, s < 10 → ∀ k : fx_H, (∀ i j, i < 4 → fx_i k (w + 6 + 4 * s + i) j = fx_i C (w + 6 + 4 * s + i) j) → (∀ o, 7 ≤ o → o ≤ 16 → fx_i k (q + o) (10 + s) = if ¬ fx_i h (q + 1) s = 0 ∧ fx_i h (q + 2) s = cl then fx_i h (q + o) s else fx_i h (q + o) (10 + s)) → (∀ j, j < 96 → fx_i k (q + 17) (96 * (10 + s) + j) = if ¬ fx_i h (q + 1) s = 0 ∧ fx_i h (q + 2) s = cl then fx_i h (q + 17) (96 * s + j) else fx_i h (q + 17) (96 * (10 + s) + j)) → fx_i k (q + 3) s = fx_i h (q + 3) s ∧ fx_i k (q + 4) s = fx_i h (q + 4) s → PR k (w + 6 + 4 * s) q (10 + s) := by
    intro s hs k g1 g2 g3 g4
    have m1 : (10 + s) % 10 = s := by omega
    have m2 : s % 10 = s := by omega
    have g0 : ∀ j, fx_i k (w + 6 + 4 * s) j = fx_i C (w + 6 + 4 * s) j := fun j => g1 0 j (by decide)
    by_cases z : ¬ fx_i h (q + 1) s = 0 ∧ fx_i h (q + 2) s = cl
    · obtain ⟨b1, b2, b3, b4⟩ := C4 s hs ⟨hs, (selw s hs).mpr z⟩
      refine PR_congr (a := w + 49 + 4 * s) (p := s) (fun j hj9 => (g0 j).trans (b1 j hj9)) (fun j hj9 => (g1 1 j (by decide)).trans (b2 j hj9)) (fun j hj9 => (g1 2 j (by decide)).trans (b3 j hj9)) (fun j hj9 => (g1 3 j (by decide)).trans (b4 j hj9)) (fun o h1 h2 => by rw [g2 o h1 h2, if_pos z]) (fun j hj9 => by rw [g3 j hj9, if_pos z]) (by rw [m1, m2]; exact g4) (hj.pics s hs).1
    · have b3 := C3 s hs (fun y => z ((selw s hs).mp y.2))
      refine PR_congr (a := w + 6 + 4 * s) (p := 10 + s) (fun j _ => (g0 j).trans (b3 0 j (by decide))) (fun j _ => (g1 1 j (by decide)).trans (b3 1 j (by decide))) (fun j _ => (g1 2 j (by decide)).trans (b3 2 j (by decide))) (fun j _ => (g1 3 j (by decide)).trans (b3 3 j (by decide))) (fun o h1 h2 => by rw [g2 o h1 h2, if_neg z]) (fun j hj9 => by rw [g3 j hj9, if_neg z]) (by rw [m1]; exact g4) (hj.pics s hs).2.1
  have e63 : ∀ s, w + 3 + 3 + 4 * s = w + 6 + 4 * s := fun s => by omega
  have hoC : oOk C (w + 3) := by
    intro s hs
    rw [e63]
    by_cases z : fx_i h (w + 46) s = cl
    · obtain ⟨b1, -⟩ := C4 s hs ⟨hs, z⟩
      rw [b1 0 (by decide), b1 5 (by decide)]
      intro y
      obtain ⟨q1, -, -, -, q5, -⟩ := (hj.pics s hs).1.2.2 y
      rw [q1.2.2.2.2.1]
      exact q5
    · have b3 := C3 s hs (fun y => z y.2) 0
      have b30 := b3 0 (by decide)
      have b35 := b3 5 (by decide)
      rw [Nat.add_zero] at b30 b35
      rw [b30, b35]
      intro y
      obtain ⟨q1, -, -, -, q5, -⟩ := (hj.pics s hs).2.1.2.2 y
      rw [q1.2.2.2.2.1]
      exact q5
  refine ⟨fun _ => sort_ok hoC, ?_⟩
  have dif : ((fx_i h (w + 1) 5) - (fx_i h (w + 89) 7)) < (6 : Int32) ↔ ¬ (fx_i h q 19 - fx_i h q 20) = 6 := by
    rw [D2, D3, iz_lt, iz_eq, a6]
    omega
  by_cases c2 : ((fx_i h (w + 1) 5) - (fx_i h (w + 89) 7)) < (6 : Int32)
  case neg =>
    have e1 : k_FS_commit h w f b cl = fx_sk h 1 := by unfold k_FS_commit; rw [if_neg c1, if_neg c2]
    have e2 : o_FS_commit h w f b cl = .inr "java/lang/IllegalStateException" := by unfold o_FS_commit; rw [if_neg c1, if_neg c2]
    have e3 : k_MO_commit (fx_sk h 1) q cl = fx_wi (fx_sk h 1) q 0 2 := by
      unfold k_MO_commit
      rw [wi_jW, if_neg c1]
      exact if_pos (Classical.byContradiction fun z => c2 (dif.mpr z))
    rw [e1, e2, e3]
    exact ⟨w00 _ _ _, fun v z => (by cases z), J_w hsk 2⟩
  have n6 := dif.mp c2
  obtain ⟨S1, S1b, S2, S2b, S3⟩ := sort_end hoC
  have ek : k_FS_commit h w f b cl = fx_wi (fx_wi (k_PL_sort C (w + 3)) (w + 48) cl.toNatClampNeg 1) (w + 1) 5 (fx_i h (w + 1) 5 + 1) := by
    unfold k_FS_commit k_DE_commitAll
    rw [if_neg c1, if_pos c2, hC, e3_, e48, fx_i_wi, if_neg (fun z => by omega), S1 (w + 1) (by omega) (by omega), C1 _ _ (by omega) (by omega)]
  have eo : o_FS_commit h w f b cl = .inl (some (fx_i h (w + 1) 5 + 1)) := by
    unfold o_FS_commit k_DE_commitAll
    rw [if_neg c1, if_pos c2, hC, e3_, e48, fx_i_wi, if_pos ⟨rfl, rfl⟩, fx_i_wi, if_neg (fun z => by omega), S1 (w + 1) (by omega) (by omega), C1 _ _ (by omega) (by omega)]
  rw [ek, eo]
  generalize k_PL_sort C (w + 3) = Sg at *
  generalize hY : fx_wi (fx_wi Sg (w + 48) cl.toNatClampNeg 1) (w + 1) 5 (fx_i h (w + 1) 5 + 1) = Y
  have yS : ∀ a j, a ≠ w + 48 → a ≠ w + 1 → fx_i Y a j = fx_i Sg a j := fun a j g1 g2 => by rw [← hY, fx_i_wi, if_neg (fun z => g2 z.1), fx_i_wi, if_neg (fun z => g1 z.1)]
  have yC : ∀ a j, a ≠ w + 48 → a ≠ w + 1 → a ≠ w + 3 → a ≠ w + 5 → fx_i Y a j = fx_i C a j := fun a j g1 g2 g3 g4 => (yS a j g1 g2).trans (S1 a (by omega) (by omega) j)
  have yh : ∀ a j, ¬ (w + 3 ≤ a ∧ a ≤ w + 45) → a ≠ w + 47 → a ≠ w + 48 → a ≠ w + 1 → fx_i Y a j = fx_i h a j := fun a j g1 g2 g3 g4 => (yC a j g3 g4 (by omega) (by omega)).trans (C1 a j (by omega) (by omega))
  have ym : ∀ o j, fx_i Y (q + o) j = fx_i h (q + o) j := fun o j => yh _ _ (by omega) (by omega) (by omega) (by omega)
  have yq : ∀ j, fx_i Y q j = fx_i h q j := fun j => yh _ _ (by omega) (by omega) (by omega) (by omega)
  have y1 : ∀ j, j ≠ 5 → fx_i Y (w + 1) j = fx_i h (w + 1) j := fun j g => by rw [← hY, fx_i_wi, if_neg (fun z => g z.2), fx_i_wi, if_neg (fun z => by omega), S1 _ (by omega) (by omega), C1 _ _ (by omega) (by omega)]
  have y15 : fx_i Y (w + 1) 5 = fx_i h (w + 1) 5 + 1 := by rw [← hY, fx_i_wi, if_pos ⟨rfl, rfl⟩]
  have y48 : ∀ j, fx_i Y (w + 48) j = if j = cl.toNatClampNeg then 1 else fx_i h (w + 48) j := fun j => by
    rw [← hY, fx_i_wi, if_neg (fun z => by omega), fx_i_wi]
    by_cases z : j = cl.toNatClampNeg
    · rw [if_pos ⟨rfl, z⟩, if_pos z]
    · rw [if_neg (fun y => z y.2), if_neg z, S1 _ (by omega) (by omega), C1 _ _ (by omega) (by omega)]
  obtain ⟨M0, M1, M2, M3, M4⟩ := M_commit (h := fx_wi Y q 0 (0 : Int32)) (q := q) (cl := cl) 10 (Nat.le_refl _)
  have hm : ∀ o j, 0 < o → fx_i (fx_wi Y q 0 (0 : Int32)) (q + o) j = fx_i h (q + o) j := fun o j g => (wi_q _ _ _ _ _ _ g).trans (ym o j)
  have hm1 := fun j => hm 1 j (by decide)
  have hm2 := fun j => hm 2 j (by decide)
  simp only [hm1, hm2] at M1 M2 M4
  have kk : k_MO_commit Y q cl = fx_wi (fx_wi (it (b_MO_commit q cl) (fx_wi Y q 0 (0 : Int32)) 10) (q + 19) cl.toNatClampNeg 1) q 19 (fx_i h q 19 + 1) := by
    unfold k_MO_commit
    rw [wi_jW, if_neg c1, yq, yq, if_neg n6, fx_i_wi, if_neg (fun z => by omega), mfr_f M0 (by decide), w0 _ _ _ _ (by decide), yq]
  have kv : v_MO_commit Y q cl = fx_i h q 19 + 1 := by
    unfold v_MO_commit
    rw [wi_jW, if_neg c1, yq, yq, if_neg n6, fx_i_wi, if_neg (fun z => by omega), mfr_f M0 (by decide), w0 _ _ _ _ (by decide), yq]
  rw [kk, kv]
  generalize it (b_MO_commit q cl) (fx_wi Y q 0 (0 : Int32)) 10 = Mm at *
  generalize hk : fx_wi (fx_wi Mm (q + 19) cl.toNatClampNeg 1) q 19 (fx_i h q 19 + 1) = k
  have kM : ∀ a j, a ≠ q + 19 → a ≠ q → fx_i k a j = fx_i Mm a j := fun a j g1 g2 => by rw [← hk, fx_i_wi, if_neg (fun z => g2 z.1), fx_i_wi, if_neg (fun z => g1 z.1)]
  have kc : ∀ a j, a < q → fx_i k a j = fx_i Y a j := fun a j g => by rw [kM a j (by omega) (by omega), mfr_out M0 (by decide) (Or.inl g), fx_i_wi, if_neg (fun z => by omega)]
  have ko : ∀ o j, 0 < o → o ≤ 37 → (o < 6 ∨ 17 < o) → o ≠ 19 → fx_i k (q + o) j = fx_i h (q + o) j := fun o j g1 g2 g3 g4 => by
    rw [kM _ _ (by omega) (by omega), mfr_at M0 ⟨fun z => by simp only [List.mem_cons, List.mem_nil_iff, or_false] at z; omega, g1⟩, hm o j g1]
  have kq : ∀ j, j ≠ 0 → j ≠ 19 → fx_i k q j = fx_i h q j := fun j g1 g2 => by rw [← hk, fx_i_wi, if_neg (fun z => g2 z.2), fx_i_wi, if_neg (fun z => by omega), mfr_f M0 (fun z => by cases z), w0 _ _ _ _ g1, yq]
  have kq0 : fx_i k q 0 = 0 := by rw [← hk, fx_i_wi, if_neg (fun z => by omega), fx_i_wi, if_neg (fun z => by omega), mfr_f M0 (by decide), w00]
  have kq19 : fx_i k q 19 = fx_i h q 19 + 1 := by rw [← hk, fx_i_wi, if_pos ⟨rfl, rfl⟩]
  have k19 : ∀ j, fx_i k (q + 19) j = if j = cl.toNatClampNeg then 1 else fx_i h (q + 19) j := fun j => by
    rw [← hk, fx_i_wi, if_neg (fun z => by omega), fx_i_wi]
    by_cases z : j = cl.toNatClampNeg
    · rw [if_pos ⟨rfl, z⟩, if_pos z]
    · rw [if_neg (fun y => z y.2), if_neg z, mfr_at M0 (by decide), hm 19 j (by decide)]
  have k6 : ∀ s, s < 10 → fx_i k (q + 6) s = if ¬ fx_i h (q + 1) s = 0 ∧ fx_i h (q + 2) s = cl then fx_i h (q + 5) s else fx_i h (q + 6) s := fun s hs => by
    rw [kM _ _ (by omega) (by omega), M1, hm 5 s (by decide), hm 6 s (by decide)]
    by_cases z : ¬ fx_i h (q + 1) s = 0 ∧ fx_i h (q + 2) s = cl
    · rw [if_pos z, if_pos ⟨hs, z⟩]
    · rw [if_neg z, if_neg (fun y => z y.2)]
  have kp : ∀ o, 7 ≤ o → o ≤ 16 → ∀ j, (j < 10 ∨ 20 ≤ j) → fx_i k (q + o) j = fx_i h (q + o) j := fun o g1 g2 j g3 => by rw [kM _ _ (by omega) (by omega), (M2 o g1 g2 j).1 g3, hm o j (by omega)]
  have kp1 : ∀ o, 7 ≤ o → o ≤ 16 → ∀ s, s < 10 → fx_i k (q + o) (10 + s) = if ¬ fx_i h (q + 1) s = 0 ∧ fx_i h (q + 2) s = cl then fx_i h (q + o) s else fx_i h (q + o) (10 + s) := fun o g1 g2 s hs => by
    rw [kM _ _ (by omega) (by omega), (M2 o g1 g2 s).2 hs, hm o s (by omega), hm o (10 + s) (by omega)]
    by_cases z : ¬ fx_i h (q + 1) s = 0 ∧ fx_i h (q + 2) s = cl
    · rw [if_pos z, if_pos ⟨hs, z⟩]
    · rw [if_neg z, if_neg (fun y => z y.2)]
  have kx : ∀ j, (j < 960 ∨ 1920 ≤ j) → fx_i k (q + 17) j = fx_i h (q + 17) j := fun j g => by rw [kM _ _ (by omega) (by omega), M3 j g, hm 17 j (by decide)]
  have kx1 : ∀ s j, s < 10 → j < 96 → fx_i k (q + 17) (96 * (10 + s) + j) = if ¬ fx_i h (q + 1) s = 0 ∧ fx_i h (q + 2) s = cl then fx_i h (q + 17) (96 * s + j) else fx_i h (q + 17) (96 * (10 + s) + j) := fun s j hs g => by
    rw [kM _ _ (by omega) (by omega), M4 s j hs g, hm 17 _ (by decide), hm 17 _ (by decide)]
    by_cases z : ¬ fx_i h (q + 1) s = 0 ∧ fx_i h (q + 2) s = cl
    · rw [if_pos z, if_pos ⟨hs, z⟩]
    · rw [if_neg z, if_neg (fun y => z y.2)]
  have kh : ∀ a j, w ≤ a → a < w + 191 → ¬ (w + 3 ≤ a ∧ a ≤ w + 45) → a ≠ w + 47 → a ≠ w + 48 → a ≠ w + 1 → fx_i k a j = fx_i h a j := fun a j _ _ g1 g2 g3 g4 => (kc a j (by omega)).trans (yh a j g1 g2 g3 g4)
  have kC6 : ∀ s, s < 10 → ∀ i j, i < 4 → fx_i k (w + 6 + 4 * s + i) j = fx_i C (w + 6 + 4 * s + i) j := fun s hs i j hi => (kc _ _ (by omega)).trans (yC _ _ (by omega) (by omega) (by omega) (by omega))
  have pics1 : ∀ s, s < 10 → PR k (w + 6 + 4 * s) q (10 + s) := fun s hs => prC s hs k (kC6 s hs) (fun o g1 g2 => kp1 o g1 g2 s hs) (fun j g => kx1 s j hs g) ⟨ko 3 s (by decide) (by decide) (by decide) (by decide), ko 4 s (by decide) (by decide) (by decide) (by decide)⟩
  have hP := hj.pileT.1
  have hB := bk_2 hj.mem
  refine ⟨by rw [kq0]; rfl, fun v z => (by cases z; rw [D2]), ?_⟩
  refine J.mk (at_ := hq) (mem := ?_) (pics := ?_) (pileC := ?_) (pileT := ?_) (cr := ?_) (num := ?_) (desk := ?_) (free := ?_) (miss := ?_) (comp := ?_) (plan := ?_) (set_ := ?_) (beam := ?_)
  · have := hj.mem
    unfold JW at this ⊢
    rw [kq 23 (by decide) (by decide)]
    exact this
  · intro s hs
    obtain ⟨p1, -, p3⟩ := hj.pics s hs
    refine ⟨PR_congr (fun j _ => kh _ _ (by omega) (by omega) (by omega) (by omega) (by omega) (by omega)) (fun j _ => kh _ _ (by omega) (by omega) (by omega) (by omega) (by omega) (by omega)) (fun j _ => kh _ _ (by omega) (by omega) (by omega) (by omega) (by omega) (by omega)) (fun j _ => kh _ _ (by omega) (by omega) (by omega) (by omega) (by omega) (by omega)) (fun o g1 g2 => kp o g1 g2 _ (by omega)) (fun j hj9 => kx _ (by omega)) ⟨ko 3 _ (by decide) (by decide) (by decide) (by decide), ko 4 _ (by decide) (by decide) (by decide) (by decide)⟩ p1, pics1 s hs, PR_congr (fun j _ => kh _ _ (by omega) (by omega) (by omega) (by omega) (by omega) (by omega)) (fun j _ => kh _ _ (by omega) (by omega) (by omega) (by omega) (by omega) (by omega)) (fun j _ => kh _ _ (by omega) (by omega) (by omega) (by omega) (by omega) (by omega)) (fun j _ => kh _ _ (by omega) (by omega) (by omega) (by omega) (by omega) (by omega)) (fun o g1 g2 => kp o g1 g2 _ (by omega)) (fun j hj9 => kx _ (by omega)) ⟨ko 3 _ (by decide) (by decide) (by decide) (by decide), ko 4 _ (by decide) (by decide) (by decide) (by decide)⟩ p3⟩
  · refine PS_fin (C := C) (by decide) (fun s hs j => ?_) ?_ (fun l hl hl2 => ?_) (fun l hl => ?_) hoC (fun t ht => ?_)
    · rw [e63]
      exact kC6 s hs 0 j (by decide)
    · rw [kc _ _ (by omega), yS _ _ (by omega) (by omega)]
      exact S2
    · have e5 : fx_i k (w + 3 + 2) l = fx_i h (w + 3 + 2) l := by rw [kc _ _ (by omega), yS _ _ (by omega) (by omega), S2b l hl2, C1 _ _ (by omega) (by omega)]
      have := hj.pileC.1.2.2 l hl
      exact ⟨_, this.1, e5.trans this.2⟩
    · obtain ⟨t, t1, t2, t3, t4, t5⟩ := S3 l hl
      exact ⟨t, t1, t2, t3, by rw [kc _ _ (by omega), yS _ _ (by omega) (by omega)]; exact t4, t5⟩
    · rw [e63]
      obtain ⟨p1, -, p3⟩ := pics1 t ht
      exact ⟨p1, fun z => (p3 z).1.2.2.2.2.1⟩
  · exact PS_congr (by decide) (kh _ _ (by omega) (by omega) (by omega) (by omega) (by omega) (by omega)) (fun l _ => kh _ _ (by omega) (by omega) (by omega) (by omega) (by omega) (by omega)) (fun t ht => kh _ _ (by omega) (by omega) (by omega) (by omega) (by omega) (by omega)) (fun t _ => kp 7 (by decide) (by decide) _ (by omega)) (fun t _ => kp 10 (by decide) (by decide) _ (by omega)) hj.pileT
  · intro t ht
    rw [ko 3 t (by decide) (by decide) (by decide) (by decide), ko 4 t (by decide) (by decide) (by decide) (by decide)]
    exact hj.cr t ht
  · intro s hs
    obtain ⟨j1, j2, j3, j4, j5⟩ := hj.num s hs
    have x46 : fx_i k (w + 46) s = fx_i h (w + 46) s := kh _ _ (by omega) (by omega) (by omega) (by omega) (by omega) (by omega)
    have x49 : ∀ j, fx_i k (w + 49 + 4 * s) j = fx_i h (w + 49 + 4 * s) j := fun j => kh _ _ (by omega) (by omega) (by omega) (by omega) (by omega) (by omega)
    have x47 : fx_i k (w + 47) s = if fx_i h (w + 46) s = cl then (if fx_i h (w + 49 + 4 * s) 0 = 0 then 1 else 0) else fx_i h (w + 47) s := by
      rw [kc _ _ (by omega), yC _ _ (by omega) (by omega) (by omega) (by omega), C2]
      by_cases z : fx_i h (w + 46) s = cl
      · rw [if_pos z, if_pos (show s < 10 ∧ fx_i h (w + 46) s = cl from ⟨hs, z⟩)]
      · rw [if_neg z, if_neg (show ¬ (s < 10 ∧ fx_i h (w + 46) s = cl) from fun y => z y.2)]
    unfold JS
    rw [x46, x49, x49, x47, k6 s hs, kp 7 (by decide) (by decide) s (Or.inl hs), kp1 7 (by decide) (by decide) s hs, kp 7 (by decide) (by decide) (20 + s) (by omega), ko 1 s (by decide) (by decide) (by decide) (by decide), ko 2 s (by decide) (by decide) (by decide) (by decide), ko 3 s (by decide) (by decide) (by decide) (by decide), ko 4 s (by decide) (by decide) (by decide) (by decide), ko 5 s (by decide) (by decide) (by decide) (by decide)]
    have sw := selw s hs
    have p0 := (hj.pics s hs).1.1
    by_cases z : fx_i h (w + 46) s = cl
    · have z2 := sw.mp z
      obtain ⟨q1, q2, q3, q4, q5⟩ := j2 z2.1
      rw [if_pos z, if_pos z2, if_pos z2]
      refine ⟨j1, fun _ => ⟨q1, q2, q3, q4, q5⟩, ?_, fun y => absurd y z2.1, fun _ y => ?_⟩
      · by_cases y : fx_i h (w + 49 + 4 * s) 0 = 0
        · rw [if_pos y]
          exact ⟨fun x => absurd x (by decide), fun x => by
            rcases x with x | x
            · exact absurd x z2.1
            · exact absurd (p0.mp y) (q5.mp x)⟩
        · rw [if_neg y]
          exact ⟨fun _ => Or.inr (q5.mpr (fun x => y (p0.mpr x))), fun _ => rfl⟩
      · have : fx_i h (q + 7) s = 0 := Decidable.byContradiction fun x => y (q5.mpr x)
        exact ⟨this, this⟩
    · have z2 : ¬ (¬ fx_i h (q + 1) s = 0 ∧ fx_i h (q + 2) s = cl) := fun y => z (sw.mpr y)
      rw [if_neg z, if_neg z2, if_neg z2]
      exact ⟨j1, j2, j3, j4, j5⟩
  · refine ⟨fun c hc => ?_, ?_, ?_, ?_⟩
    · rw [kc _ _ (by omega), y48, k19]
      by_cases z : c = cl.toNatClampNeg
      · rw [if_pos z, if_pos z]
      · rw [if_neg z, if_neg z]
        exact D1 c hc
    · rw [kc _ _ (by omega), y15, kq19, D2]
    · rw [kh _ _ (by omega) (by omega) (by omega) (by omega) (by omega) (by omega), kq 20 (by decide) (by decide)]
      exact D3
    · rw [kq19, kq 20 (by decide) (by decide)]
      have e : fx_i h q 19 + 1 - fx_i h q 20 = (fx_i h q 19 - fx_i h q 20) + 1 := by
        rw [Int32.sub_eq_add_neg, Int32.sub_eq_add_neg, Int32.add_assoc, Int32.add_comm 1, ← Int32.add_assoc]
      rw [iz_eq, a6] at n6
      rw [e, iz_add (by rw [a1]; omega), a1]
      omega
  · rw [kc _ _ (by omega), y1 6 (by decide), fp_congr (fun s _ => ko 1 s (by decide) (by decide) (by decide) (by decide)) (fun s _ => ko 3 s (by decide) (by decide) (by decide) (by decide)) (fun s _ => ko 4 s (by decide) (by decide) (by decide) (by decide))]
    exact hj.free
  · exact fun m hm9 => JM_congr (fun j _ => kh _ _ (by omega) (by omega) (by omega) (by omega) (by omega) (by omega)) (kh _ _ (by omega) (by omega) (by omega) (by omega) (by omega) (by omega)) (fun i hi j => kh _ _ (by omega) (by omega) (by omega) (by omega) (by omega) (by omega)) (fun j _ => ko 20 _ (by decide) (by decide) (by decide) (by decide)) (ko 21 _ (by decide) (by decide) (by decide) (by decide)) (fun o h1 h2 i _ => ko o _ (by omega) (by omega) (by omega) (by omega)) (hj.miss m hm9)
  · exact JC_congr hP hB (fun m hm9 => (hj.miss m hm9).2.2.1.2) (fun j _ => kh _ _ (by omega) (by omega) (by omega) (by omega) (by omega) (by omega)) (kh _ _ (by omega) (by omega) (by omega) (by omega) (by omega) (by omega)) (fun l _ => kh _ _ (by omega) (by omega) (by omega) (by omega) (by omega) (by omega)) (fun j _ => kh _ _ (by omega) (by omega) (by omega) (by omega) (by omega) (by omega)) (fun s hs j _ => kh _ _ (by omega) (by omega) (by omega) (by omega) (by omega) (by omega)) (fun m hm9 i hi j => kh _ _ (by omega) (by omega) (by omega) (by omega) (by omega) (by omega)) (fun m _ => ko 21 _ (by decide) (by decide) (by decide) (by decide)) (kq _ (by decide) (by decide)) (kq _ (by decide) (by decide)) (kq _ (by decide) (by decide)) (kq _ (by decide) (by decide)) (kq _ (by decide) (by decide)) hj.comp
  · exact fun i hi => JN_congr (JP_sOk hj.cr hj.pics) (kh _ _ (by omega) (by omega) (by omega) (by omega) (by omega) (by omega)) (ko 26 _ (by decide) (by decide) (by decide) (by decide)) (fun j => kh _ _ (by omega) (by omega) (by omega) (by omega) (by omega) (by omega)) (fun j => kh _ _ (by omega) (by omega) (by omega) (by omega) (by omega) (by omega)) (fun s hs j _ => kh _ _ (by omega) (by omega) (by omega) (by omega) (by omega) (by omega)) (fun s hs j _ => kh _ _ (by omega) (by omega) (by omega) (by omega) (by omega) (by omega)) (fun s hs j _ => kh _ _ (by omega) (by omega) (by omega) (by omega) (by omega) (by omega)) (fun t _ o h1 h2 => kp o h1 h2 _ (by omega)) (hj.plan i hi)
  · exact fun i hi => JT_congr (kh _ _ (by omega) (by omega) (by omega) (by omega) (by omega) (by omega)) (fun j => kh _ _ (by omega) (by omega) (by omega) (by omega) (by omega) (by omega)) (fun j => kh _ _ (by omega) (by omega) (by omega) (by omega) (by omega) (by omega)) (fun o h1 h2 j => ko o j (by omega) (by omega) (by omega) (by omega)) (hj.set_ i hi)
  · exact JB_congr (fun j _ => kh _ _ (by omega) (by omega) (by omega) (by omega) (by omega) (by omega)) (fun j => kh _ _ (by omega) (by omega) (by omega) (by omega) (by omega) (by omega)) (fun j => kh _ _ (by omega) (by omega) (by omega) (by omega) (by omega) (by omega)) (fun j => ko 37 j (by decide) (by decide) (by decide) (by decide)) (fun o h1 h2 j => ko o j (by omega) (by omega) (by omega) (by omega)) (kq _ (by decide) (by decide)) (kq _ (by decide) (by decide)) (kq _ (by decide) (by decide)) (kq _ (by decide) (by decide)) (fun n _ => ko 20 _ (by decide) (by decide) (by decide) (by decide)) hj.beam
