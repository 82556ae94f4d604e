/-! ===== the constructors: their ints ===== -/
/-- all ints of the cells from lo on are 0, but for those of E -/
def zr (lo : Nat) (E : Nat → Nat → Prop) (h : fx_H) : Prop := ∀ a j, lo ≤ a → a < fx_n h → ¬ E a j → fx_i h a j = 0
theorem zr_nw {lo : Nat} {E : Nat → Nat → Prop} {h : fx_H} (x : Nat ⊕ (Nat × Nat)) (z : zr lo E h) : zr lo E (fx_nw h x) := fun a j h1 h2 h3 => by
  rw [fx_n_nw] at h2
  rw [fx_i_nw]
  by_cases e : a = fx_n h
  · rw [if_pos e]
  · rw [if_neg e]; exact z a j h1 (by omega) h3
theorem zr_wr {lo : Nat} {E : Nat → Nat → Prop} {h : fx_H} (a k : Nat) (v : Option Nat) (z : zr lo E h) : zr lo E (fx_wr h a k v) := z
theorem zr_wi {lo : Nat} {E : Nat → Nat → Prop} {h : fx_H} {a k : Nat} {v : Int32} (e : E a k ∨ v = 0) (z : zr lo E h) : zr lo E (fx_wi h a k v) := fun b j h1 h2 h3 => by
  rw [fx_i_wi]
  by_cases c : b = a ∧ j = k
  · rw [if_pos c]
    rcases e with e | e
    · exact absurd (by rw [c.1, c.2]; exact e) h3
    · exact e
  · rw [if_neg c]; exact z b j h1 h2 h3
theorem zr_it {lo : Nat} {E : Nat → Nat → Prop} {f : Nat → fx_H → fx_H} {h : fx_H} (N : Nat) (hf : ∀ n k, n < N → zr lo E k → zr lo E (f n k)) (z : zr lo E h) : zr lo E (it f h N) := it_inv (fun _ k => zr lo E k) f h z N hf N (Nat.le_refl _)
theorem zr_PI {lo : Nat} {E : Nat → Nat → Prop} {h : fx_H} (p : Nat) (z : zr lo E h) : zr lo E (k_PI_init h p) := by
  unfold k_PI_init
  exact zr_wr _ _ _ (zr_nw _ (zr_wr _ _ _ (zr_nw _ (zr_wr _ _ _ (zr_nw _ z)))))
theorem zr_MI {lo : Nat} {E : Nat → Nat → Prop} {h : fx_H} (p : Nat) (z : zr lo E h) : zr lo E (k_MI_init h p) := by
  unfold k_MI_init
  exact zr_it 7 (fun n k _ hk => by unfold b_MI_init; exact zr_wr _ _ _ (zr_nw _ hk)) (zr_wr _ _ _ (zr_nw _ z))
theorem zr_PL {lo : Nat} {E : Nat → Nat → Prop} {h : fx_H} (p : Nat) (z : zr lo E h) : zr lo E (k_PL_init h p) := by
  unfold k_PL_init
  exact zr_it 10 (fun n k _ hk => by unfold b_PL_init; exact zr_wr _ _ _ (zr_PI _ (zr_nw _ hk))) (zr_wr _ _ _ (zr_nw _ (zr_wr _ _ _ (zr_nw _ z))))
theorem zr_ME {lo : Nat} {E : Nat → Nat → Prop} {h : fx_H} (p : Nat) (z : zr lo E h) : zr lo E (k_ME_init h p) := by
  unfold k_ME_init
  exact zr_wr _ _ _ (zr_MI _ (zr_nw _ (zr_wr _ _ _ (zr_nw _ z))))
theorem zr_ma {lo : Nat} {E : Nat → Nat → Prop} {h : fx_H} (z : zr lo E h) : zr lo E (fx_ma h) := by
  unfold fx_ma
  exact zr_wr _ _ _ (zr_nw _ (zr_wr _ _ _ (zr_nw _ (zr_nw _ z))))
theorem zr_PN {lo : Nat} {E : Nat → Nat → Prop} {h : fx_H} {p : Nat} (e0 : E (p + 1) 0) (e1 : E (p + 1) 1) (z : zr lo E h) : zr lo E (k_PN_init h p) := by
  unfold k_PN_init
  exact zr_wr _ _ _ (zr_ma (zr_wr _ _ _ (zr_wr _ _ _ (zr_nw _ (zr_wr _ _ _ (zr_nw _ (zr_nw _ (zr_wr _ _ _ (zr_wi (Or.inl e1) (zr_wi (Or.inl e0) (zr_nw _ z)))))))))))
theorem zr_BE {lo : Nat} {E : Nat → Nat → Prop} {h : fx_H} {p : Nat} (e0 : E (p + 2) 0) (e1 : E (p + 2) 1) (z : zr lo E h) : zr lo E (k_BE_init h p) := by
  unfold k_BE_init
  exact zr_wr _ _ _ (zr_nw _ (zr_wr _ _ _ (zr_nw _ (zr_wr _ _ _ (zr_PN e0 e1 (zr_nw _ z))))))
theorem zr_DE {lo : Nat} {E : Nat → Nat → Prop} {h : fx_H} {p : Nat} (e0 : E p 6) (e1 : ∀ i, i < 10 → E (p + 45) i) (z : zr lo E h) : zr lo E (k_DE_init h p) := by
  unfold k_DE_init
  exact zr_it 10 (fun n k hn hk => by unfold b_DE_init; exact zr_wi (Or.inl (e1 n hn)) (zr_wr _ _ _ (zr_PI _ (zr_nw _ hk)))) (zr_wi (Or.inl e0) (zr_wr _ _ _ (zr_nw _ (zr_wr _ _ _ (zr_nw _ (zr_wr _ _ _ (zr_nw _ (zr_wr _ _ _ (zr_PL _ (zr_nw _ (zr_wr _ _ _ (zr_nw _ z))))))))))))
theorem zr_CO {lo : Nat} {E : Nat → Nat → Prop} {h : fx_H} {p : Nat} (e0 : E (p + 45) 0) (e1 : E (p + 45) 1) (z : zr lo E h) : zr lo E (k_CO_init h p) := by
  unfold k_CO_init
  exact zr_it 10 (fun n k hn hk => by unfold b_CO_init; exact zr_wr _ _ _ (zr_nw _ hk)) (zr_wi (Or.inr rfl) (zr_wr _ _ _ (zr_ME _ (zr_nw _ (zr_wr _ _ _ (zr_ME _ (zr_nw _ (zr_wr _ _ _ (zr_nw _ (zr_wr _ _ _ (zr_nw _ (zr_wr _ _ _ (zr_PN e0 e1 (zr_nw _ (zr_wr _ _ _ (zr_PL _ (zr_nw _ z)))))))))))))))))
def exF (w a j : Nat) : Prop := (a = w + 1 ∧ j = 6) ∨ (a = w + 46 ∧ j < 10) ∨ (a = w + 134 ∧ j < 2) ∨ (a = w + 177 ∧ j < 2)
theorem zr_FS {lo : Nat} {h : fx_H} {w : Nat} (z : zr lo (exF w) h) : zr lo (exF w) (k_FS_init h w) := by
  unfold k_FS_init
  exact zr_wr _ _ _ (zr_PI _ (zr_nw _ (zr_wr _ _ _ (zr_nw _ (zr_wr _ _ _ (zr_BE (Or.inr (Or.inr (Or.inr ⟨rfl, by decide⟩))) (Or.inr (Or.inr (Or.inr ⟨rfl, by decide⟩))) (zr_nw _ (zr_wr _ _ _ (zr_CO (Or.inr (Or.inr (Or.inl ⟨rfl, by decide⟩))) (Or.inr (Or.inr (Or.inl ⟨rfl, by decide⟩))) (zr_nw _ (zr_wr _ _ _ (zr_DE (Or.inl ⟨rfl, rfl⟩) (fun i hi => Or.inr (Or.inl ⟨rfl, hi⟩)) (zr_nw _ z)))))))))))))
/-- the Model's ints -/
def exM (q a j : Nat) : Prop := (a = q ∧ j = 23) ∨ (a = q + 26 ∧ j < 2)
theorem zr_MO {lo : Nat} {h : fx_H} {q : Nat} (z : zr lo (exM q) h) : zr lo (exM q) (k_MO_init h q) := by
  have m1 := zr_wr q 1 (some (q + 1)) (zr_nw (.inr (1, 10)) z)
  have m19 : zr lo (exM q) (mi19 h q) := by
    unfold mi19 mi18 mi17 mi16 mi15 mi14 mi13 mi12 mi11 mi10 mi9 mi8 mi7 mi6 mi5 mi4 mi3 mi2 mi1
    repeat first | exact z | refine zr_wr _ _ _ ?_ | refine zr_nw _ ?_
  have m38 : zr lo (exM q) (mi38 h q) := by
    unfold mi38 mi37 mi36 mi35 mi34 mi33 mi32 mi31 mi30 mi29 mi28 mi27 mi26 mi25 mi24 mi23 mi22 mi21 mi20
    repeat first | exact zr_wi (Or.inl (Or.inl ⟨rfl, rfl⟩)) m19 | refine zr_wr _ _ _ ?_ | refine zr_nw _ ?_
  unfold k_MO_init mi40 mi39
  exact zr_wi (Or.inl (Or.inr ⟨rfl, by decide⟩)) (zr_wi (Or.inl (Or.inr ⟨rfl, by decide⟩)) m38)
theorem lv_DE {p : Nat} {K : fx_H} (hn : fx_n K = p + 48) : ∀ n, n ≤ 10 → (∀ a j, a < p + 48 → a ≠ p + 45 → fx_i (it (b_DE_init p) K n) a j = fx_i K a j) ∧ ∀ j, j < n → fx_i (it (b_DE_init p) K n) (p + 45) j = -1
  | 0, _ => by rw [it_0]; exact ⟨fun _ _ _ _ => rfl, fun j hj => by omega⟩
  | n + 1, h7 => by
    have l := (it_DE_init hn n).1
    obtain ⟨i1, i2⟩ := lv_DE hn n (by omega)
    rw [it_s]
    generalize it (b_DE_init p) K n = m at *
    unfold b_DE_init
    have n1 : fx_n (fx_nw m (.inl 2)) = p + 48 + 4 * n + 1 := by rw [fx_n_nw, l]
    have st : ∀ a j, a < p + 48 → fx_i (fx_wr (k_PI_init (fx_nw m (.inl 2)) (p + 48 + 4 * n)) (p + 1) n (some (p + 48 + 4 * n))) a j = fx_i m a j := fun a j ha => by
      rw [fx_i_wr, i_PI_init n1 (by omega), fx_i_nw, if_neg (by omega)]
    refine ⟨fun a j ha hb => ?_, fun j hj => ?_⟩
    · rw [fx_i_wi, if_neg (fun z => hb z.1), st a j ha]
      exact i1 a j ha hb
    · rw [fx_i_wi]
      by_cases e : j = n
      · rw [if_pos ⟨rfl, e⟩]
      · rw [if_neg (fun z => e z.2), st _ _ (by omega)]
        exact i2 j (by omega)
theorem v_DE_init {h : fx_H} {p : Nat} (hn : fx_n h = p + 1) : fx_i (k_DE_init h p) p 6 = 300 ∧ ∀ j, j < 10 → fx_i (k_DE_init h p) (p + 45) j = -1 := by
  have n0 := k0n_DE_init hn
  obtain ⟨l1, l2⟩ := lv_DE n0 10 (Nat.le_refl _)
  unfold k_DE_init
  refine ⟨?_, l2⟩
  rw [l1 _ _ (by omega) (by omega), fx_i_wi, if_pos ⟨rfl, rfl⟩]
theorem v_FS_init {h : fx_H} {p : Nat} (hn : fx_n h = p + 1) : fx_i (k_FS_init h p) (p + 1) 6 = 300 ∧ (∀ j, j < 10 → fx_i (k_FS_init h p) (p + 46) j = -1) ∧ (∀ j, j < 2 → fx_i (k_FS_init h p) (p + 134) j = -1) ∧ ∀ j, j < 2 → fx_i (k_FS_init h p) (p + 177) j = -1 := by
  obtain ⟨k1, e1⟩ : ∃ k, k = fx_nw h (.inl 4) := ⟨_, rfl⟩
  have n1 : fx_n k1 = p + 1 + 1 := by rw [e1, fx_n_nw, hn]
  obtain ⟨k2, e2⟩ : ∃ k, k = k_DE_init k1 (p + 1) := ⟨_, rfl⟩
  have n2 : fx_n k2 = p + 89 := by rw [e2, n_DE_init n1]
  obtain ⟨v1, v2⟩ := v_DE_init n1
  rw [← e2] at v1 v2
  obtain ⟨k3, e3⟩ : ∃ k, k = fx_nw (fx_wr k2 p 0 (some (p + 1))) (.inl 8) := ⟨_, rfl⟩
  have n3 : fx_n k3 = p + 89 + 1 := by rw [e3, fx_n_nw, fx_n_wr, n2]
  have i3 : ∀ a j, a < p + 89 → fx_i k3 a j = fx_i k2 a j := fun a j ha => by rw [e3, fx_i_nw, fx_n_wr, if_neg (by omega), fx_i_wr]
  obtain ⟨k4, e4⟩ : ∃ k, k = k_CO_init k3 (p + 89) := ⟨_, rfl⟩
  have n4 : fx_n k4 = p + 175 := by rw [e4, n_CO_init n3]
  have i4 : ∀ a j, a < p + 89 → fx_i k4 a j = fx_i k3 a j := fun a j ha => by rw [e4, i_CO_init n3 ha]
  obtain ⟨k5, e5⟩ : ∃ k, k = fx_nw (fx_wr k4 p 1 (some (p + 89))) (.inl 9) := ⟨_, rfl⟩
  have n5 : fx_n k5 = p + 175 + 1 := by rw [e5, fx_n_nw, fx_n_wr, n4]
  have i5 : ∀ a j, a < p + 175 → fx_i k5 a j = fx_i k4 a j := fun a j ha => by rw [e5, fx_i_nw, fx_n_wr, if_neg (by omega), fx_i_wr]
  obtain ⟨k6, e6⟩ : ∃ k, k = k_BE_init k5 (p + 175) := ⟨_, rfl⟩
  have n6 : fx_n k6 = p + 186 := by rw [e6, n_BE_init n5]
  have i6 : ∀ a j, a < p + 175 → fx_i k6 a j = fx_i k5 a j := fun a j ha => by rw [e6, i_BE_init n5 ha]
  have b6 : ∀ j, j < 2 → fx_i k6 (p + 177) j = -1 := fun j hj => by
    have m1 : fx_n (fx_nw k5 (.inl 7)) = p + 175 + 1 + 1 := by rw [fx_n_nw, n5]
    have t := is_PN_init m1 (nw_s _ _ n5)
    have m2 := n_PN_init m1
    rw [e6]
    unfold k_BE_init
    generalize k_PN_init (fx_nw k5 (.inl 7)) (p + 175 + 1) = K at *
    rw [fx_i_wr, fx_i_nw, if_neg (by rw [fx_n_wr, fx_n_nw, fx_n_wr]; omega), fx_i_wr, fx_i_nw, if_neg (by rw [fx_n_wr]; omega), fx_i_wr]
    rcases (by omega : j = 0 ∨ j = 1) with e | e
    · rw [e]; exact t.2.1
    · rw [e]; exact t.2.2
  have c4 : ∀ j, j < 2 → fx_i k4 (p + 134) j = -1 := fun j hj => by
    rw [e4]
    have m0 := k0n_CO_init n3
    have z : ∀ n a j, a < p + 89 + 76 → ∀ K, fx_n K = p + 89 + 76 → fx_i (it (b_CO_init (p + 89)) K n) a j = fx_i K a j := fun n => by
      induction n with
      | zero => intro a j ha K hK; rw [it_0]
      | succ n ih =>
        intro a j ha K hK
        have l := (it_CO_init hK n).1
        have ih' := ih a j ha K hK
        rw [it_s]
        generalize it (b_CO_init (p + 89)) K n = m at *
        unfold b_CO_init
        rw [fx_i_wr, fx_i_nw, if_neg (by omega)]
        exact ih'
    unfold k_CO_init
    rw [z 10 _ _ (by omega) _ m0]
    clear z m0
    obtain ⟨q1, d1⟩ : ∃ k, k = fx_nw k3 (.inl 3) := ⟨_, rfl⟩
    have x1 : fx_n q1 = p + 89 + 1 + 1 := by rw [d1, fx_n_nw, n3]
    obtain ⟨q2, d2⟩ : ∃ k, k = fx_wr (k_PL_init q1 (p + 89 + 1)) (p + 89) 0 (some (p + 89 + 1)) := ⟨_, rfl⟩
    have x2 : fx_n q2 = p + 133 := by rw [d2, fx_n_wr, n_PL_init x1]
    obtain ⟨q3, d3⟩ : ∃ k, k = fx_nw q2 (.inl 7) := ⟨_, rfl⟩
    have x3 : fx_n q3 = p + 89 + 44 + 1 := by rw [d3, fx_n_nw, x2]
    have t := is_PN_init x3 (by rw [d3]; exact nw_s _ _ x2)
    obtain ⟨q4, d4⟩ : ∃ k, k = k_PN_init q3 (p + 89 + 44) := ⟨_, rfl⟩
    have x4 : fx_n q4 = p + 141 := by rw [d4, n_PN_init x3]
    rw [← d4] at t
    obtain ⟨q5, d5⟩ : ∃ k, k = fx_wr (fx_nw (fx_wr (fx_nw (fx_wr q4 (p + 89) 1 (some (p + 89 + 44))) (.inr (1, 10))) (p + 89) 2 (some (p + 89 + 52))) (.inr (4, 10))) (p + 89) 3 (some (p + 89 + 53)) := ⟨_, rfl⟩
    have x5 : fx_n q5 = p + 143 := by rw [d5, fx_n_wr, fx_n_nw, fx_n_wr, fx_n_nw, fx_n_wr, x4]
    have y5 : ∀ j, fx_i q5 (p + 134) j = fx_i q4 (p + 134) j := fun j => by rw [d5, fx_i_wr, fx_i_nw, if_neg (by rw [fx_n_wr, fx_n_nw, fx_n_wr]; omega), fx_i_wr, fx_i_nw, if_neg (by rw [fx_n_wr]; omega), fx_i_wr]
    obtain ⟨q6, d6⟩ : ∃ k, k = fx_nw q5 (.inl 6) := ⟨_, rfl⟩
    have x6 : fx_n q6 = p + 89 + 54 + 1 := by rw [d6, fx_n_nw, x5]
    have y6 : ∀ j, fx_i q6 (p + 134) j = fx_i q5 (p + 134) j := fun j => by rw [d6, fx_i_nw, if_neg (by omega)]
    obtain ⟨q7, d7⟩ : ∃ k, k = fx_wr (k_ME_init q6 (p + 89 + 54)) (p + 89) 4 (some (p + 89 + 54)) := ⟨_, rfl⟩
    have x7 : fx_n q7 = p + 154 := by rw [d7, fx_n_wr, n_ME_init x6]
    have y7 : ∀ j, fx_i q7 (p + 134) j = fx_i q6 (p + 134) j := fun j => by rw [d7, fx_i_wr, i_ME_init x6 (by omega)]
    obtain ⟨q8, d8⟩ : ∃ k, k = fx_nw q7 (.inl 6) := ⟨_, rfl⟩
    have x8 : fx_n q8 = p + 89 + 65 + 1 := by rw [d8, fx_n_nw, x7]
    have y8 : ∀ j, fx_i q8 (p + 134) j = fx_i q7 (p + 134) j := fun j => by rw [d8, fx_i_nw, if_neg (by omega)]
    obtain ⟨q9, d9⟩ : ∃ k, k = k_ME_init q8 (p + 89 + 65) := ⟨_, rfl⟩
    have y9 : ∀ j, fx_i q9 (p + 134) j = fx_i q8 (p + 134) j := fun j => by rw [d9, i_ME_init x8 (by omega)]
    rw [← d1, ← d2, ← d3, ← d4, ← d5, ← d6, ← d7, ← d8, ← d9, fx_i_wi, if_neg (by omega), fx_i_wr, y9, y8, y7, y6, y5]
    rcases (by omega : j = 0 ∨ j = 1) with e | e
    · rw [e]; exact t.2.1
    · rw [e]; exact t.2.2
  obtain ⟨k7, e7⟩ : ∃ k, k = fx_nw (fx_wr (fx_nw (fx_wr k6 p 2 (some (p + 175))) (.inl 1)) p 3 (some (p + 186))) (.inl 2) := ⟨_, rfl⟩
  have n7 : fx_n k7 = p + 187 + 1 := by rw [e7, fx_n_nw, fx_n_wr, fx_n_nw, fx_n_wr, n6]
  have i7 : ∀ a j, a < p + 186 → fx_i k7 a j = fx_i k6 a j := fun a j ha => by rw [e7, fx_i_nw, if_neg (by rw [fx_n_wr, fx_n_nw, fx_n_wr]; omega), fx_i_wr, fx_i_nw, if_neg (by rw [fx_n_wr]; omega), fx_i_wr]
  have i8 : ∀ a j, a < p + 187 → fx_i (k_FS_init h p) a j = fx_i k7 a j := fun a j ha => by
    have e8 : k_FS_init h p = fx_wr (k_PI_init k7 (p + 187)) p 4 (some (p + 187)) := by rw [e7, e6, e5, e4, e3, e2, e1]; rfl
    rw [e8, fx_i_wr, i_PI_init n7 ha]
  clear e1 e2 e3 e4 e5 e6 e7
  refine ⟨?_, fun j hj => ?_, fun j hj => ?_, fun j hj => ?_⟩
  · rw [i8 _ _ (by omega), i7 _ _ (by omega), i6 _ _ (by omega), i5 _ _ (by omega), i4 _ _ (by omega), i3 _ _ (by omega)]; exact v1
  · rw [i8 _ _ (by omega), i7 _ _ (by omega), i6 _ _ (by omega), i5 _ _ (by omega), i4 _ _ (by omega), i3 _ _ (by omega)]; exact v2 j hj
  · rw [i8 _ _ (by omega), i7 _ _ (by omega), i6 _ _ (by omega), i5 _ _ (by omega)]; exact c4 j hj
  · rw [i8 _ _ (by omega), i7 _ _ (by omega)]; exact b6 j hj
