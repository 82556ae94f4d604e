/-! ===== the Model's constructor ===== -/
/-- rows made one after another, each put into a field of q -/
def mst (q : Nat) : List (Nat × Nat × Nat) → Nat → fx_H → fx_H
  | [], _, h => h
  | (f, x) :: t, n, h => mst q t (n + 1) (fx_wr (fx_nw h (.inr x)) q f (some (q + n)))
theorem mst_v (q : Nat) : ∀ (L : List (Nat × Nat × Nat)) (n : Nat) (h : fx_H), fx_n h = q + n → 0 < n → (L.map (·.1)).Nodup →
    fx_n (mst q L n h) = q + (n + L.length) ∧ (∀ a, a < q + n → fx_s (mst q L n h) a = fx_s h a) ∧ (∀ a j, a < q + n → (a = q → j ∉ L.map (·.1)) → fx_r (mst q L n h) a j = fx_r h a j) ∧ (∀ a j, a < q + n → fx_i (mst q L n h) a j = fx_i h a j) ∧
    ∀ (i : Nat) (t : Nat × Nat × Nat), L[i]? = some t → fx_r (mst q L n h) q t.1 = some (q + (n + i)) ∧ fx_s (mst q L n h) (q + (n + i)) = some (.inr t.2)
  | [], n, h, hn, h0, _ => ⟨hn, fun _ _ => rfl, fun _ _ _ _ => rfl, fun _ _ _ => rfl, fun i t ht => by simp at ht⟩
  | (f, x) :: L, n, h, hn, h0, hd => by
    obtain ⟨g, eg⟩ : ∃ g, g = fx_wr (fx_nw h (.inr x)) q f (some (q + n)) := ⟨_, rfl⟩
    have ng : fx_n g = q + (n + 1) := by rw [eg, fx_n_wr, fx_n_nw, hn]; rfl
    have sg : ∀ a, a < q + n → fx_s g a = fx_s h a := fun a ha => by rw [eg, fx_s_wr, fx_s_nw, if_neg (by omega)]
    have tg : fx_s g (q + n) = some (.inr x) := by rw [eg, fx_s_wr, fx_s_nw, if_pos hn.symm]
    have rg : ∀ a j, a < q + n → (a = q → ¬ j = f) → fx_r g a j = fx_r h a j := fun a j ha hb => by rw [eg, fx_r_wr, if_neg (fun z => hb z.1 z.2), fx_r_nw, if_neg (by omega)]
    have ug : fx_r g q f = some (q + n) := by rw [eg, fx_r_wr, if_pos ⟨rfl, rfl⟩]
    have ig : ∀ a j, a < q + n → fx_i g a j = fx_i h a j := fun a j ha => by rw [eg, fx_i_wr, fx_i_nw, if_neg (by omega)]
    have hd' := List.nodup_cons.mp hd
    obtain ⟨v1, v2, v3, v4, v5⟩ := mst_v q L (n + 1) g ng (by omega) hd'.2
    have e : mst q ((f, x) :: L) n h = mst q L (n + 1) g := by rw [eg]; rfl
    rw [e]
    generalize mst q L (n + 1) g = m at *
    refine ⟨by rw [v1, List.length_cons]; omega, fun a ha => (v2 a (by omega)).trans (sg a ha), fun a j ha hb => ?_, fun a j ha => (v4 a j (by omega)).trans (ig a j ha), fun i t ht => ?_⟩
    · have hb' : a = q → ¬ j = f ∧ j ∉ L.map (·.1) := fun z => by
        have := hb z
        rw [List.map_cons, List.mem_cons] at this
        exact ⟨fun y => this (Or.inl y), fun y => this (Or.inr y)⟩
      exact (v3 a j (by omega) (fun z => (hb' z).2)).trans (rg a j ha (fun z => (hb' z).1))
    · cases i with
      | zero =>
        simp only [List.getElem?_cons_zero, Option.some.injEq] at ht
        subst ht
        exact ⟨(v3 q f (by omega) (fun _ => hd'.1)).trans ug, (v2 (q + n) (by omega)).trans tg⟩
      | succ i =>
        rw [List.getElem?_cons_succ] at ht
        have := v5 i t ht
        have e2 : n + 1 + i = n + (i + 1) := by omega
        rw [e2] at this
        exact this
def mL1 : List (Nat × Nat × Nat) := [(1, 1, 10), (2, 0, 10), (3, 0, 10), (4, 0, 10), (5, 1, 10), (6, 1, 10), (7, 1, 30), (8, 0, 30), (9, 0, 30), (10, 0, 30), (11, 0, 30), (12, 1, 30), (13, 0, 30), (14, 0, 30), (15, 0, 30), (16, 0, 30), (17, 0, 2880), (18, 0, 96), (21, 1, 4)]
def mL2 : List (Nat × Nat × Nat) := [(24, 0, 400), (25, 0, 2), (26, 0, 14), (27, 0, 14), (28, 0, 14), (29, 0, 14), (30, 0, 2), (33, 0, 10), (34, 0, 10), (35, 0, 10), (36, 0, 10), (37, 1, 10), (46, 0, 2), (47, 0, 2), (48, 0, 2), (49, 0, 2), (50, 0, 48), (51, 0, 200)]
theorem is_MO_init {h : fx_H} {q : Nat} (hn : fx_n h = q + 1) (hp : fx_s h q = some (.inl 10)) : isM (k_MO_init h q) q ∧ fx_n (k_MO_init h q) = q + 38 ∧ (∀ a, a < q → fx_s (k_MO_init h q) a = fx_s h a ∧ (∀ j, fx_r (k_MO_init h q) a j = fx_r h a j) ∧ ∀ j, fx_i (k_MO_init h q) a j = fx_i h a j) ∧ fx_i (k_MO_init h q) q 23 = 1 ∧ ∀ j, j < 2 → fx_i (k_MO_init h q) (q + 26) j = -1 := by
  obtain ⟨a1, a2, a3, a4, a5⟩ := mst_v q mL1 1 h hn (by decide) (by decide)
  obtain ⟨k1, e1⟩ : ∃ k, k = fx_wi (mst q mL1 1 h) q 23 1 := ⟨_, rfl⟩
  have n1 : fx_n k1 = q + 20 := by rw [e1, fx_n_wi, a1]; rfl
  have s1 : ∀ a, fx_s k1 a = fx_s (mst q mL1 1 h) a := fun a => by rw [e1, fx_s_wi]
  have r1 : ∀ a j, fx_r k1 a j = fx_r (mst q mL1 1 h) a j := fun a j => by rw [e1, fx_r_wi]
  have i1 : ∀ a j, ¬ (a = q ∧ j = 23) → fx_i k1 a j = fx_i (mst q mL1 1 h) a j := fun a j z => by rw [e1, fx_i_wi, if_neg z]
  have u1 : fx_i k1 q 23 = 1 := by rw [e1, fx_i_wi, if_pos ⟨rfl, rfl⟩]
  obtain ⟨b1, b2, b3, b4, b5⟩ := mst_v q mL2 20 k1 n1 (by decide) (by decide)
  obtain ⟨k2, e2⟩ : ∃ k, k = mst q mL2 20 k1 := ⟨_, rfl⟩
  obtain ⟨k3, e3⟩ : ∃ k, k = fx_wi (fx_wi k2 (q + 26) 0 (-1)) (q + 26) 1 (-1) := ⟨_, rfl⟩
  have eF : k_MO_init h q = k3 := by rw [e3, e2, e1]; rfl
  rw [eF]
  rw [← e2] at b1 b2 b3 b4 b5
  generalize mst q mL1 1 h = m at *
  clear eF e1 e2
  have s3 : ∀ a, fx_s k3 a = fx_s k2 a := fun a => by rw [e3, fx_s_wi, fx_s_wi]
  have r3 : ∀ a j, fx_r k3 a j = fx_r k2 a j := fun a j => by rw [e3, fx_r_wi, fx_r_wi]
  have i3 : ∀ a j, ¬ a = q + 26 → fx_i k3 a j = fx_i k2 a j := fun a j z => by rw [e3, fx_i_wi, if_neg (fun y => z y.1), fx_i_wi, if_neg (fun y => z y.1)]
  have tab : ∀ t ∈ moT, (0 < t.2.1 ∧ t.2.1 < 20 ∧ mL1[t.2.1 - 1]? = some (t.1, t.2.2) ∧ t.1 ∉ mL2.map (·.1)) ∨ (20 ≤ t.2.1 ∧ mL2[t.2.1 - 20]? = some (t.1, t.2.2)) := by decide
  refine ⟨⟨?_, fun t ht => ?_⟩, ?_, fun a ha => ⟨?_, fun j => ?_, fun j => ?_⟩, ?_, fun j hj => ?_⟩
  · rw [s3, b2 _ (by omega), s1, a2 _ (by omega), hp]
  · rcases tab t ht with ⟨t1, t2, t3, t4⟩ | ⟨t1, t2⟩
    · have := a5 _ _ t3
      have e : 1 + (t.2.1 - 1) = t.2.1 := by omega
      rw [e] at this
      exact ⟨by rw [r3, b3 _ _ (by omega) (fun _ => t4), r1]; exact this.1, by rw [s3, b2 _ (by omega), s1]; exact this.2⟩
    · have := b5 _ _ t2
      have e : 20 + (t.2.1 - 20) = t.2.1 := by omega
      rw [e] at this
      exact ⟨by rw [r3]; exact this.1, by rw [s3]; exact this.2⟩
  · rw [e3, fx_n_wi, fx_n_wi, b1]; rfl
  · rw [s3, b2 _ (by omega), s1, a2 _ (by omega)]
  · rw [r3, b3 _ _ (by omega) (fun z => by omega), r1, a3 _ _ (by omega) (fun z => by omega)]
  · rw [i3 _ _ (by omega), b4 _ _ (by omega), i1 _ _ (by omega), a4 _ _ (by omega)]
  · rw [i3 _ _ (by omega), b4 _ _ (by omega), u1]
  · rcases (by omega : j = 0 ∨ j = 1) with e | e
    · rw [e, e3, fx_i_wi, if_neg (fun z => absurd z.2 (by decide)), fx_i_wi, if_pos ⟨rfl, rfl⟩]
    · rw [e, e3, fx_i_wi, if_pos ⟨rfl, rfl⟩]
