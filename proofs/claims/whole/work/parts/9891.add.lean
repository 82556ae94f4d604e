/-! ===== a rectangle is noted as missed ===== -/
/-- what memory m misses is the same for both -/
def msQ (a b : fx_H) (M q m : Nat) : Prop := fx_i a M 1 = fx_i b (q + 21) m ∧ (0 ≤ (fx_i b (q + 21) m).toInt ∧ (fx_i b (q + 21) m).toInt ≤ 6) ∧ ∀ i, i < (fx_i b (q + 21) m).toNatClampNeg → rMi a b q (M + 2 + i) (7 * m + i) ∧ rBd b q (7 * m + i)
/-- the Model's scratch rectangle is that at x -/
def sR (a b : fx_H) (q x : Nat) : Prop := fx_i a x 0 = fx_i b q 38 ∧ fx_i a x 1 = fx_i b q 39 ∧ fx_i a x 2 = fx_i b q 40 ∧ fx_i a x 3 = fx_i b q 41
/-- it is a rectangle of the screen, not empty -/
def sB (b : fx_H) (q : Nat) : Prop := 0 ≤ (fx_i b q 38).toInt ∧ 0 ≤ (fx_i b q 39).toInt ∧ 0 < (fx_i b q 40).toInt ∧ 0 < (fx_i b q 41).toInt ∧ (fx_i b q 38).toInt + (fx_i b q 40).toInt ≤ 20 ∧ (fx_i b q 39).toInt + (fx_i b q 41).toInt ≤ 10
theorem lies_eq {a b : fx_H} {q y m i x : Nat} (hm : m < 2) (hi : i < 7) (hr : rMi a b q y (7 * m + i)) (hs : sR a b q x) : v_MO_lies b q (nI m) (nI i) = rIn a y x := by
  have e : ((7 : Int32) * nI m + nI i).toNatClampNeg = 7 * m + i := by rw [j7c hm]; exact nI_clamp (by omega)
  unfold v_MO_lies rIn
  rw [e, hr.1, hr.2.1, hr.2.2.1, hr.2.2.2, hs.1, hs.2.1, hs.2.2.1, hs.2.2.2]
  by_cases h1 : fx_i b q 38 < fx_i b (q + 22) (7 * m + i)
  · rw [if_pos h1, if_neg (fun z => z.1 h1)]
  · rw [if_neg h1]
    by_cases h2 : fx_i b q 39 < fx_i b (q + 23) (7 * m + i)
    · rw [if_pos h2, if_neg (fun z => z.2.2.1 h2)]
    · rw [if_neg h2]
      by_cases h3 : fx_i b (q + 22) (7 * m + i) + fx_i b (q + 24) (7 * m + i) < fx_i b q 38 + fx_i b q 40
      · rw [if_pos h3, if_neg (fun z => z.2.1 h3)]
      · rw [if_neg h3]
        by_cases h4 : fx_i b (q + 23) (7 * m + i) + fx_i b (q + 25) (7 * m + i) < fx_i b q 39 + fx_i b q 41
        · rw [if_pos h4, if_neg (fun z => z.2.2.2 h4)]
        · rw [if_neg h4, if_pos ⟨h1, h3, h2, h4⟩]
theorem li_0 (b : fx_H) (q m : Nat) : ∀ n, itg (liS b q m) 0 n = 0 ↔ ∀ i, i < n → v_MO_lies b q (nI m) (nI i) = 0
  | 0 => ⟨fun _ i hi => by omega, fun _ => rfl⟩
  | n + 1 => by
    rw [itg_s]
    have ih := li_0 b q m n
    generalize itg (liS b q m) 0 n = c at ih ⊢
    unfold liS
    by_cases hc : c = 0
    · rw [if_pos hc]
      by_cases hl : v_MO_lies b q (nI m) (nI n) = 0
      · rw [if_pos hl]
        refine ⟨fun _ i hi => ?_, fun _ => rfl⟩
        by_cases e : i = n
        · subst e; exact hl
        · exact ih.mp hc i (by omega)
      · rw [if_neg hl]
        exact ⟨fun z => absurd z (by decide), fun z => absurd (z n (by omega)) hl⟩
    · rw [if_neg hc]
      exact ⟨fun z => absurd z (by decide), fun z => absurd (ih.mpr (fun i hi => z i (by omega))) hc⟩
theorem srch_10 (c : Nat → Bool) : ∀ n i, srch c (fun _ => 1) 0 i n = 0 ↔ ∀ t, i ≤ t → t < i + n → ¬ c t = true
  | 0, i => ⟨fun _ t h1 h2 => by omega, fun _ => rfl⟩
  | n + 1, i => by
    by_cases h : c i = true
    · rw [srch_yes _ _ _ _ _ h]
      exact ⟨fun z => absurd z (by decide), fun z => absurd h (z i (by omega) (by omega))⟩
    · rw [srch_no _ _ _ _ _ h, srch_10 c n (i + 1)]
      refine ⟨fun z t h1 h2 => ?_, fun z t h1 h2 => z t (by omega) (by omega)⟩
      by_cases e : t = i
      · subst e; exact h
      · exact z t (by omega) (by omega)
theorem cov_eq {a b : fx_H} {M q m x : Nat} (hm : m < 2) (hq : msQ a b M q m) (hs : sR a b q x) : v_MI_isCovered a M x = 0 ↔ itg (liS b q m) 0 (fx_i b (q + 21) m).toNatClampNeg = 0 := by
  obtain ⟨h1, h2, h3⟩ := hq
  have e := iz_nn h2.1
  unfold v_MI_isCovered mS
  rw [h1, Nat.sub_zero, srch_10, li_0]
  generalize (fx_i b (q + 21) m).toNatClampNeg = S at *
  have le : ∀ i, i < S → v_MO_lies b q (nI m) (nI i) = rIn a (M + 2 + i) x := fun i hi => lies_eq hm (by omega) (h3 i hi).1 hs
  refine ⟨fun z i hi => ?_, fun z t _ h5 => ?_⟩
  · have := z i (by omega) (by omega)
    rw [le i hi]
    exact Classical.byContradiction (fun y => this (decide_eq_true y))
  · have := z t (by omega)
    rw [le t (by omega)] at this
    exact fun y => of_decide_eq_true y this
theorem ms1_v (b : fx_H) (q m S : Nat) (hm : m < 2) (hS : S ≤ 6) (e : fx_i b (q + 21) m = nI S) (x : Nat) : fx_i (ms1 q m b) (q + 22) x = (if x = 7 * m + S then fx_i b q 38 else fx_i b (q + 22) x) ∧ fx_i (ms1 q m b) (q + 23) x = (if x = 7 * m + S then fx_i b q 39 else fx_i b (q + 23) x) ∧ fx_i (ms1 q m b) (q + 24) x = (if x = 7 * m + S then fx_i b q 40 else fx_i b (q + 24) x) ∧ fx_i (ms1 q m b) (q + 25) x = (if x = 7 * m + S then fx_i b q 41 else fx_i b (q + 25) x) ∧ fx_i (ms1 q m b) (q + 21) x = (if x = m then nI (S + 1) else fx_i b (q + 21) x) := by
  have e2 : ((7 : Int32) * nI m + nI S).toNatClampNeg = 7 * m + S := by rw [j7c hm]; exact nI_clamp (by omega)
  unfold ms1
  simp only [fx_i_wi, e, e2]
  refine ⟨?_, ?_, ?_, ?_, ?_⟩
  all_goals simp [e, nI_succ]
theorem join_21 (q B : Nat) (h : fx_H) (x n : Nat) : fx_i (it (b_MO_join q B) h n) (q + 21) x = fx_i h (q + 21) x := by
  refine it_keep (fun k => fx_i k (q + 21) x) (b_MO_join q B) h (fun n k => ?_) n
  show fx_i (b_MO_join q B n k) (q + 21) x = fx_i k (q + 21) x
  unfold b_MO_join
  simp only [fx_i_wi]
  simp
theorem join_size (h : fx_H) (q m : Nat) : fx_i (k_MO_join h q m) (q + 21) m = 6 := by
  unfold k_MO_join
  rw [joinA_eq, join_21, (jnK_v h q m _ _ m).2.2.2.2, if_pos rfl]
theorem join_csize (h : fx_H) (M : Nat) (e : fx_i h M 1 = 7) : fx_i (k_MI_joinNearest h M) M 1 = nI 6 := by
  unfold k_MI_joinNearest
  exact dr_size _ _ _ (by rw [rGrow_m]; exact e)
/-- the class's heap with one more rectangle -/
def adK (a : fx_H) (M x : Nat) : fx_H := fx_wi (rset a (M + 2 + mS a M) (fx_i a x 0) (fx_i a x 1) (fx_i a x 2) (fx_i a x 3)) M 1 (fx_i (rset a (M + 2 + mS a M) (fx_i a x 0) (fx_i a x 1) (fx_i a x 2) (fx_i a x 3)) M 1 + 1)
theorem add_form (a : fx_H) (M x : Nat) : k_MI_add a M x = if rE a x = 0 then if v_MI_isCovered a M x = 0 then if fx_i (adK a M x) M 1 ≤ 6 then adK a M x else k_MI_joinNearest (adK a M x) M else a else a := rfl
theorem adK_v {a b : fx_H} {M q m x S : Nat} (hm : m < 2) (hS : S ≤ 6) (eS : fx_i b (q + 21) m = nI S) (e1 : fx_i a M 1 = nI S) (h3 : ∀ i, i < S → rMi a b q (M + 2 + i) (7 * m + i) ∧ rBd b q (7 * m + i)) (hs : sR a b q x) (hb : sB b q) : fx_i (adK a M x) M 1 = nI (S + 1) ∧ ∀ i, i < S + 1 → rMi (adK a M x) (ms1 q m b) q (M + 2 + i) (7 * m + i) ∧ rBd (ms1 q m b) q (7 * m + i) := by
  have eM : mS a M = S := by unfold mS; rw [e1]; exact nI_clamp (by omega)
  unfold adK
  rw [eM]
  have r0 : ∀ y j, y ≠ M + 2 + S → fx_i (rset a (M + 2 + S) (fx_i a x 0) (fx_i a x 1) (fx_i a x 2) (fx_i a x 3)) y j = fx_i a y j := fun y j g => rset_o _ _ _ _ _ _ _ _ g
  obtain ⟨r1, r2, r3, r4⟩ := rset_v a (M + 2 + S) (fx_i a x 0) (fx_i a x 1) (fx_i a x 2) (fx_i a x 3)
  generalize rset a (M + 2 + S) (fx_i a x 0) (fx_i a x 1) (fx_i a x 2) (fx_i a x 3) = R at *
  refine ⟨by rw [fx_i_wi, if_pos ⟨rfl, rfl⟩, r0 M 1 (by omega), e1, ← nI_succ], fun i hi => ?_⟩
  have w0 : ∀ j, fx_i (fx_wi R M 1 (fx_i R M 1 + 1)) (M + 2 + i) j = fx_i R (M + 2 + i) j := fun j => by rw [fx_i_wi, if_neg (by omega)]
  obtain ⟨k1, k2, k3, k4, -⟩ := ms1_v b q m S hm hS eS (7 * m + i)
  unfold rMi rBd
  rw [w0, w0, w0, w0]
  by_cases e : i = S
  · subst e
    rw [if_pos rfl] at k1 k2 k3 k4
    rw [k1, k2, k3, k4, r1, r2, r3, r4]
    exact ⟨hs, hb⟩
  · have ne : ¬ 7 * m + i = 7 * m + S := by omega
    rw [if_neg ne] at k1 k2 k3 k4
    rw [k1, k2, k3, k4, r0 _ _ (by omega), r0 _ _ (by omega), r0 _ _ (by omega), r0 _ _ (by omega)]
    exact h3 i (by omega)
/-- a rectangle is noted as missed: both do the same -/
theorem A_add {a b : fx_H} {M q m x : Nat} (hm : m < 2) (hq : msQ a b M q m) (hs : sR a b q x) (hb : sB b q) : msQ (k_MI_add a M x) (b_MO_miss q m b) M q m ∧ (∀ o, 22 ≤ o → o ≤ 25 → ∀ y, ¬ (7 * m ≤ y ∧ y < 7 * m + 7) → fx_i (b_MO_miss q m b) (q + o) y = fx_i b (q + o) y) := by
  have cv := cov_eq hm hq hs
  have hE : rE a x = 0 := by
    unfold rE
    obtain ⟨-, -, c3, c4, -⟩ := hb
    have z0 : (0 : Int32).toInt = 0 := rfl
    rw [if_neg]
    rintro (z | z)
    · rw [hs.2.2.1, iz_eq] at z; omega
    · rw [hs.2.2.2, iz_eq] at z; omega
  rw [add_form, if_pos hE]
  unfold b_MO_miss
  by_cases hc : itg (liS b q m) 0 (fx_i b (q + 21) m).toNatClampNeg = 0
  · rw [if_pos hc, if_pos (cv.mpr hc)]
    obtain ⟨h1, h2, h3⟩ := hq
    obtain ⟨S, hS, eS⟩ : ∃ S : Nat, S ≤ 6 ∧ fx_i b (q + 21) m = nI S := ⟨(fx_i b (q + 21) m).toNatClampNeg, by have := iz_nn h2.1; omega, by
      rw [iz_eq, nI_toInt (by have := iz_nn h2.1; omega)]; exact (iz_nn h2.1).symm⟩
    have cS : (nI S).toNatClampNeg = S := nI_clamp (by omega)
    rw [eS, cS] at h3
    rw [eS] at h1
    obtain ⟨a1, a2⟩ := adK_v (x := x) hm hS eS h1 h3 hs hb
    have mv := ms1_v b q m S hm hS eS
    have m21 : fx_i (ms1 q m b) (q + 21) m = nI (S + 1) := by rw [(mv m).2.2.2.2, if_pos rfl]
    have mo : ∀ o, 22 ≤ o → o ≤ 25 → ∀ y, ¬ (7 * m ≤ y ∧ y < 7 * m + 7) → fx_i (ms1 q m b) (q + o) y = fx_i b (q + o) y := fun o g1 g2 y hy => by
      obtain ⟨k1, k2, k3, k4, -⟩ := mv y
      have ne : ¬ y = 7 * m + S := by omega
      rw [if_neg ne] at k1 k2 k3 k4
      have : o = 22 ∨ o = 23 ∨ o = 24 ∨ o = 25 := by omega
      rcases this with rfl | rfl | rfl | rfl
      · exact k1
      · exact k2
      · exact k3
      · exact k4
    rw [a1, m21]
    have t1 : (nI (S + 1)).toInt = ((S + 1 : Nat) : Int) := nI_toInt (by omega)
    have six : (6 : Int32).toInt = 6 := rfl
    have sev : (7 : Int32).toInt = 7 := rfl
    by_cases h6 : S = 6
    · subst h6
      rw [if_neg (by rw [iz_le, t1, six]; omega), if_pos (by rfl)]
      obtain ⟨j1, j2⟩ := A_join (a := adK a M x) (b := ms1 q m b) (q := q) (M := M) hm (fun i hi => (a2 i (by omega)).1) (fun i hi => (a2 i (by omega)).2)
      have s1 := join_size (ms1 q m b) q m
      have s2 := join_csize (adK a M x) M a1
      refine ⟨⟨by rw [s1, s2]; rfl, by rw [s1]; decide, fun i hi => ?_⟩, fun o g1 g2 y hy => (j2 o g1 g2 y hy).trans (mo o g1 g2 y hy)⟩
      rw [s1] at hi
      exact j1 i hi
    · rw [if_pos (by rw [iz_le, t1, six]; omega), if_neg (by rw [iz_eq, t1, sev]; omega)]
      refine ⟨⟨by rw [a1, m21], by rw [m21, t1]; omega, fun i hi => ?_⟩, mo⟩
      rw [m21, nI_clamp (by omega)] at hi
      exact a2 i hi
  · rw [if_neg hc, if_neg (fun z => hc (cv.mp z))]
    exact ⟨hq, fun o _ _ y _ => rfl⟩
theorem msQ_fr {a b a' b' : fx_H} {M q m : Nat} (hm : m < 2) (hq : msQ a b M q m) (ca : ∀ y, M ≤ y → y < M + 9 → ∀ j, fx_i a' y j = fx_i a y j) (c21 : fx_i b' (q + 21) m = fx_i b (q + 21) m) (cb : ∀ o, 22 ≤ o → o ≤ 25 → ∀ y, 7 * m ≤ y → y < 7 * m + 7 → fx_i b' (q + o) y = fx_i b (q + o) y) : msQ a' b' M q m := by
  obtain ⟨h1, h2, h3⟩ := hq
  refine ⟨by rw [ca M (by omega) (by omega), c21]; exact h1, by rw [c21]; exact h2, fun i hi => ?_⟩
  rw [c21] at hi
  have e := iz_nn h2.1
  have hi6 : i < 6 := by omega
  have r := h3 i hi
  unfold rMi rBd at r ⊢
  rw [ca _ (by omega) (by omega), ca _ (by omega) (by omega), ca _ (by omega) (by omega), ca _ (by omega) (by omega), cb 22 (by decide) (by decide) _ (by omega) (by omega), cb 23 (by decide) (by decide) _ (by omega) (by omega), cb 24 (by decide) (by decide) _ (by omega) (by omega), cb 25 (by decide) (by decide) _ (by omega) (by omega)]
  exact r
theorem msQ_ok {a b : fx_H} {M q m : Nat} (hq : msQ a b M q m) : mOk a M := by
  obtain ⟨h1, h2, -⟩ := hq
  have e := iz_nn h2.1
  unfold mOk mS
  rw [h1]
  exact ⟨by omega, by rw [iz_eq, nI_toInt (by omega)]; exact e.symm⟩
/-- a rectangle is noted for both memories -/
theorem A_miss {a b : fx_H} {M N q x : Nat} (hMN : M + 9 ≤ N) (hx : ¬ (M ≤ x ∧ x < M + 9) ∧ ¬ (N ≤ x ∧ x < N + 9)) (h0 : msQ a b M q 0) (h1 : msQ a b N q 1) (hs : (fx_i b q 40 ≤ 0 ∧ rE a x = 1) ∨ (sR a b q x ∧ sB b q)) :
    (msQ (k_MI_add (k_MI_add a M x) N x) (k_MO_miss b q) M q 0 ∧ msQ (k_MI_add (k_MI_add a M x) N x) (k_MO_miss b q) N q 1) ∧ (msQ (k_MI_add (k_MI_add a N x) M x) (k_MO_miss b q) M q 0 ∧ msQ (k_MI_add (k_MI_add a N x) M x) (k_MO_miss b q) N q 1) := by
  rcases hs with ⟨e, z⟩ | ⟨hr, hb⟩
  · have nz : ¬ rE a x = 0 := by rw [z]; decide
    have k1 : ∀ P, k_MI_add a P x = a := fun P => by rw [add_form, if_neg nz]
    unfold k_MO_miss
    rw [if_pos e, k1 M, k1 N, k1 M]
    exact ⟨⟨h0, h1⟩, h0, h1⟩
  · have eb : k_MO_miss b q = b_MO_miss q 1 (b_MO_miss q 0 b) := by
      unfold k_MO_miss
      have : ¬ fx_i b q 40 ≤ 0 := by
        rw [iz_le]
        have z0 : (0 : Int32).toInt = 0 := rfl
        have := hb.2.2.1
        omega
      rw [if_neg this, it_s, it_s, it_0]
    rw [eb]
    have oM := out_MI_add a M x (msQ_ok h0)
    have oN := out_MI_add a N x (msQ_ok h1)
    have fq : ∀ (k : fx_H) n j, fx_i (b_MO_miss q n k) q j = fx_i k q j := fun k n j => mfr_f (mfr_bmiss q n k) (fun z => by cases z)
    have sRm : ∀ {a' b' : fx_H}, (∀ j, fx_i a' x j = fx_i a x j) → (∀ j, fx_i b' q j = fx_i b q j) → sR a' b' q x ∧ sB b' q := fun e1 e2 => by
      unfold sR sB at *
      simp only [e1, e2]
      exact ⟨hr, hb⟩
    obtain ⟨A0, B0⟩ := A_add (m := 0) (by decide) h0 hr hb
    -- the first memory of the Model, the second's rectangles stay
    have s0 : fx_i (b_MO_miss q 0 b) (q + 21) 1 = fx_i b (q + 21) 1 := ms_other q 0 b 1 (by decide)
    have t1 : msQ a (b_MO_miss q 0 b) N q 1 := msQ_fr (by decide) h1 (fun _ _ _ _ => rfl) s0 (fun o g1 g2 y g3 g4 => B0 o g1 g2 y (by omega))
    refine ⟨⟨?_, ?_⟩, ?_, ?_⟩
    · -- M, N : memory 0
      have u1 : msQ (k_MI_add a M x) (b_MO_miss q 0 b) N q 1 := msQ_fr (by decide) t1 (fun y g1 g2 j => oM.2 y (by omega) j) rfl (fun _ _ _ _ _ _ => rfl)
      obtain ⟨r1, r2⟩ := sRm (a' := k_MI_add a M x) (b' := b_MO_miss q 0 b) (fun j => oM.2 x (by omega) j) (fun j => fq b 0 j)
      obtain ⟨A1, B1⟩ := A_add (m := 1) (by decide) u1 r1 r2
      exact msQ_fr (by decide) A0 (fun y g1 g2 j => (out_MI_add (k_MI_add a M x) N x (msQ_ok u1)).2 y (by omega) j) (ms_other q 1 _ 0 (by decide)) (fun o g1 g2 y g3 g4 => B1 o g1 g2 y (by omega))
    · have u1 : msQ (k_MI_add a M x) (b_MO_miss q 0 b) N q 1 := msQ_fr (by decide) t1 (fun y g1 g2 j => oM.2 y (by omega) j) rfl (fun _ _ _ _ _ _ => rfl)
      obtain ⟨r1, r2⟩ := sRm (a' := k_MI_add a M x) (b' := b_MO_miss q 0 b) (fun j => oM.2 x (by omega) j) (fun j => fq b 0 j)
      exact (A_add (m := 1) (by decide) u1 r1 r2).1
    · -- N, M : memory 0
      have u0 : msQ (k_MI_add a N x) b M q 0 := msQ_fr (by decide) h0 (fun y g1 g2 j => oN.2 y (by omega) j) rfl (fun _ _ _ _ _ _ => rfl)
      obtain ⟨r1, r2⟩ := sRm (a' := k_MI_add a N x) (b' := b) (fun j => oN.2 x (by omega) j) (fun j => rfl)
      obtain ⟨A2, -⟩ := A_add (m := 0) (by decide) u0 r1 r2
      obtain ⟨r3, r4⟩ := sRm (a' := a) (b' := b_MO_miss q 0 b) (fun j => rfl) (fun j => fq b 0 j)
      obtain ⟨-, B1⟩ := A_add (m := 1) (by decide) t1 r3 r4
      exact msQ_fr (by decide) A2 (fun _ _ _ _ => rfl) (ms_other q 1 _ 0 (by decide)) (fun o g1 g2 y g3 g4 => B1 o g1 g2 y (by omega))
    · have u0 : msQ (k_MI_add a N x) b M q 0 := msQ_fr (by decide) h0 (fun y g1 g2 j => oN.2 y (by omega) j) rfl (fun _ _ _ _ _ _ => rfl)
      obtain ⟨r3, r4⟩ := sRm (a' := a) (b' := b_MO_miss q 0 b) (fun j => rfl) (fun j => fq b 0 j)
      obtain ⟨A1, -⟩ := A_add (m := 1) (by decide) t1 r3 r4
      exact msQ_fr (by decide) A1 (fun y g1 g2 j => (out_MI_add (k_MI_add a N x) M x (msQ_ok u0)).2 y (by omega) j) rfl (fun _ _ _ _ _ _ => rfl)
