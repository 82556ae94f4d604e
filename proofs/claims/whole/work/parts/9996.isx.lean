/-! ===== the constructors: what they leave is what the methods want ===== -/

theorem xl {p c d : Nat} (h : c < d) : p + c < p + d := by omega
theorem xm {p d : Nat} (h : 0 < d) : p < p + d := by omega
theorem xa {p d : Nat} (h : 0 < d) : ¬ p = p + d := by omega
theorem xb {p d : Nat} (h : 0 < d) : ¬ p + d = p := by omega
theorem xc {p c d : Nat} (h : c ≠ d) : ¬ p + c = p + d := by omega
theorem xd {p a x y d : Nat} (h : a < p + x + y) (e : x + y ≤ d) : a < p + d := by omega
theorem xe {p a x : Nat} (h : p + x ≤ a) (e : 0 < x) : ¬ a = p := by omega
theorem xf {p a x r : Nat} (h : p + x ≤ a) (e : r < x) : ¬ a = p + r := by omega
theorem xg {p a x y r : Nat} (h : a < p + x + y) (e : x + y ≤ r) : ¬ a = p + r := by omega
def kp (lo hi : Nat) (h k : fx_H) : Prop := ∀ a, lo ≤ a → a < hi → fx_s k a = fx_s h a ∧ ∀ j, fx_r k a j = fx_r h a j
theorem isP_kp {h k : fx_H} {p : Nat} (e : kp p (p + 4) h k) (hp : isP h p) : isP k p := by
  obtain ⟨a1, a2, a3, a4, a5, a6, a7⟩ := hp
  obtain ⟨x0, y0⟩ := e p (by omega) (by omega)
  obtain ⟨x1, -⟩ := e (p + 1) (by omega) (by omega)
  obtain ⟨x2, -⟩ := e (p + 2) (by omega) (by omega)
  obtain ⟨x3, -⟩ := e (p + 3) (by omega) (by omega)
  exact ⟨x0.trans a1, (y0 _).trans a2, x1.trans a3, (y0 _).trans a4, x2.trans a5, (y0 _).trans a6, x3.trans a7⟩
theorem isL_kp {h k : fx_H} {p : Nat} (e : kp p (p + 43) h k) (hp : isL h p) : isL k p := by
  obtain ⟨a1, a2, a3, a4, a5, a6⟩ := hp
  obtain ⟨x0, y0⟩ := e p (by omega) (by omega)
  obtain ⟨x1, y1⟩ := e (p + 1) (by omega) (by omega)
  obtain ⟨x2, -⟩ := e (p + 2) (by omega) (by omega)
  exact ⟨x0.trans a1, (y0 _).trans a2, x1.trans a3, (y0 _).trans a4, x2.trans a5, fun s hs => ⟨(y1 _).trans (a6 s hs).1, isP_kp (fun a h1 h2 => e a (by omega) (by omega)) (a6 s hs).2⟩⟩
theorem isI_kp {h k : fx_H} {p : Nat} (e : kp p (p + 9) h k) (hp : isI h p) : isI k p := by
  obtain ⟨a1, a2, a3, a4⟩ := hp
  obtain ⟨x0, y0⟩ := e p (by omega) (by omega)
  obtain ⟨x1, y1⟩ := e (p + 1) (by omega) (by omega)
  exact ⟨x0.trans a1, (y0 _).trans a2, x1.trans a3, fun s hs => ⟨(y1 _).trans (a4 s hs).1, ((e (p + 2 + s) (by omega) (by omega)).1).trans (a4 s hs).2⟩⟩
theorem isE_kp {h k : fx_H} {p : Nat} (e : kp p (p + 11) h k) (hp : isE h p) : isE k p := by
  obtain ⟨a1, a2, a3, a4, a5⟩ := hp
  obtain ⟨x0, y0⟩ := e p (by omega) (by omega)
  obtain ⟨x1, y1⟩ := e (p + 1) (by omega) (by omega)
  exact ⟨x0.trans a1, (y0 _).trans a2, x1.trans a3, (y0 _).trans a4, isI_kp (fun a h1 h2 => e a (by omega) (by omega)) a5⟩
theorem isN_kp {h k : fx_H} {p : Nat} (e : kp p (p + 8) h k) (hp : isN h p) : isN k p := by
  obtain ⟨a1, a2, a3, a4, a5, a6, a7, a8⟩ := hp
  obtain ⟨x0, y0⟩ := e p (by omega) (by omega)
  obtain ⟨x1, y1⟩ := e (p + 1) (by omega) (by omega)
  obtain ⟨x2, y2⟩ := e (p + 2) (by omega) (by omega)
  obtain ⟨x5, y5⟩ := e (p + 5) (by omega) (by omega)
  refine ⟨x0.trans a1, (y0 _).trans a2, x1.trans a3, (y0 _).trans a4, x2.trans a5, (y0 _).trans a6, x5.trans a7, fun i hi => ?_⟩
  obtain ⟨b1, b2, b3, b4⟩ := a8 i hi
  exact ⟨(y2 _).trans b1, (e (p + 3 + i) (by omega) (by omega)).1.trans b2, (y5 _).trans b3, (e (p + 6 + i) (by omega) (by omega)).1.trans b4⟩
theorem isD_kp {h k : fx_H} {p : Nat} (e : kp p (p + 88) h k) (hp : isD h p) : isD k p := by
  obtain ⟨a1, a2, a3, a4, a5, a6, a7, a8, a9, a10, a11, a12⟩ := hp
  obtain ⟨x0, y0⟩ := e p (by omega) (by omega)
  obtain ⟨x1, y1⟩ := e (p + 1) (by omega) (by omega)
  exact ⟨x0.trans a1, (y0 _).trans a2, x1.trans a3, (y0 _).trans a4, isL_kp (fun a h1 h2 => e a (by omega) (by omega)) a5, (y0 _).trans a6, (e (p + 45) (by omega) (by omega)).1.trans a7, (y0 _).trans a8, (e (p + 46) (by omega) (by omega)).1.trans a9, (y0 _).trans a10, (e (p + 47) (by omega) (by omega)).1.trans a11, fun s hs => ⟨(y1 _).trans (a12 s hs).1, isP_kp (fun a h1 h2 => e a (by omega) (by omega)) (a12 s hs).2⟩⟩
theorem isB_kp {h k : fx_H} {p : Nat} (e : kp p (p + 11) h k) (hp : isB h p) : isB k p := by
  obtain ⟨a1, a2, a3, a4, a5, a6, a7⟩ := hp
  obtain ⟨x0, y0⟩ := e p (by omega) (by omega)
  exact ⟨x0.trans a1, (y0 _).trans a2, isN_kp (fun a h1 h2 => e a (by omega) (by omega)) a3, (y0 _).trans a4, (e (p + 9) (by omega) (by omega)).1.trans a5, (y0 _).trans a6, (e (p + 10) (by omega) (by omega)).1.trans a7⟩
theorem isC_kp {h k : fx_H} {p f b : Nat} (e : kp p (p + 86) h k) (hp : isC h p f b) : isC k p f b := by
  obtain ⟨a1, a2, a3, a4, a5, a6, a7, a8, a9, a10, a11, a12, a13, a14, a15⟩ := hp
  obtain ⟨x0, y0⟩ := e p (by omega) (by omega)
  obtain ⟨x1, y1⟩ := e (p + 53) (by omega) (by omega)
  exact ⟨x0.trans a1, (y0 _).trans a2, isL_kp (fun a h1 h2 => e a (by omega) (by omega)) a3, (y0 _).trans a4, isN_kp (fun a h1 h2 => e a (by omega) (by omega)) a5, (y0 _).trans a6, (e (p + 52) (by omega) (by omega)).1.trans a7, (y0 _).trans a8, x1.trans a9, (y0 _).trans a10, isE_kp (fun a h1 h2 => e a (by omega) (by omega)) a11, (y0 _).trans a12, isE_kp (fun a h1 h2 => e a (by omega) (by omega)) a13, fun s hs => ⟨(y1 _).trans (a14 s hs).1, (e (p + 76 + s) (by omega) (by omega)).1.trans (a14 s hs).2⟩, a15⟩
theorem isF_kp {h k : fx_H} {p f b : Nat} (e : kp p (p + 191) h k) (hp : isF h p f b) : isF k p f b := by
  obtain ⟨a1, a2, a3, a4, a5, a6, a7, a8, a9, a10, a11⟩ := hp
  obtain ⟨x0, y0⟩ := e p (by omega) (by omega)
  exact ⟨x0.trans a1, (y0 _).trans a2, isD_kp (fun a h1 h2 => e a (by omega) (by omega)) a3, (y0 _).trans a4, isC_kp (fun a h1 h2 => e a (by omega) (by omega)) a5, (y0 _).trans a6, isB_kp (fun a h1 h2 => e a (by omega) (by omega)) a7, (y0 _).trans a8, (e (p + 186) (by omega) (by omega)).1.trans a9, (y0 _).trans a10, isP_kp (fun a h1 h2 => e a (by omega) (by omega)) a11⟩
theorem isM_kp {h k : fx_H} {q : Nat} (e : kp q (q + 38) h k) (hm : isM h q) : isM k q := by
  obtain ⟨x0, y0⟩ := e q (by omega) (by omega)
  refine ⟨x0.trans hm.1, fun t ht => ⟨(y0 _).trans (hm.2 t ht).1, (e _ (by omega) ?_).1.trans (hm.2 t ht).2⟩⟩
  have : ∀ t ∈ moT, t.2.1 < 38 := by decide
  have := this t ht
  omega
theorem ls_MI_init {p : Nat} {K : fx_H} (hn : fx_n K = p + 2) : ∀ n, n ≤ 7 → ∀ s, s < n → fx_r (it (b_MI_init p) K n) (p + 1) s = some (p + 2 + s) ∧ fx_s (it (b_MI_init p) K n) (p + 2 + s) = some (.inl 1)
  | 0, _ => fun s hs => by omega
  | n + 1, h7 => fun s hs => by
    have l := (it_MI_init hn n).1
    have ih := ls_MI_init hn n (by omega)
    rw [it_s]
    generalize it (b_MI_init p) K n = m at *
    unfold b_MI_init
    rw [fx_r_wr, fx_s_wr, fx_r_nw, fx_s_nw, l]
    by_cases e : s = n
    · subst e
      rw [if_pos ⟨rfl, rfl⟩, if_pos (by omega)]
      exact ⟨congrArg some (by omega), rfl⟩
    · rw [if_neg (fun z => e z.2), if_neg (by omega), if_neg (by omega)]
      exact ih s (by omega)
theorem ls_CO_init {p : Nat} {K : fx_H} (hn : fx_n K = p + 76) : ∀ n, n ≤ 10 → ∀ s, s < n → fx_r (it (b_CO_init p) K n) (p + 53) s = some (p + 76 + s) ∧ fx_s (it (b_CO_init p) K n) (p + 76 + s) = some (.inl 1)
  | 0, _ => fun s hs => by omega
  | n + 1, h7 => fun s hs => by
    have l := (it_CO_init hn n).1
    have ih := ls_CO_init hn n (by omega)
    rw [it_s]
    generalize it (b_CO_init p) K n = m at *
    unfold b_CO_init
    rw [fx_r_wr, fx_s_wr, fx_r_nw, fx_s_nw, l]
    by_cases e : s = n
    · subst e
      rw [if_pos ⟨rfl, rfl⟩, if_pos (by omega)]
      exact ⟨congrArg some (by omega), rfl⟩
    · rw [if_neg (fun z => e z.2), if_neg (by omega), if_neg (by omega)]
      exact ih s (by omega)
theorem ls_PL_init {p : Nat} {K : fx_H} (hn : fx_n K = p + 3) : ∀ n, n ≤ 10 → ∀ s, s < n → fx_r (it (b_PL_init p) K n) (p + 1) s = some (p + 3 + 4 * s) ∧ isP (it (b_PL_init p) K n) (p + 3 + 4 * s)
  | 0, _ => fun s hs => by omega
  | n + 1, h7 => fun s hs => by
    have l := (it_PL_init hn n).1
    have ih := ls_PL_init hn n (by omega)
    rw [it_s]
    generalize it (b_PL_init p) K n = m at *
    unfold b_PL_init
    have n1 : fx_n (fx_nw m (.inl 2)) = p + 3 + 4 * n + 1 := by rw [fx_n_nw, l]
    have sw : ∀ k, kp (p + 3) (p + 43) k (fx_wr k (p + 1) n (some (p + 3 + 4 * n))) := fun k a h1 h2 => ⟨fx_s_wr _ _ _ _ _, fun j => by rw [fx_r_wr, if_neg (by omega)]⟩
    by_cases e : s = n
    · subst e
      exact ⟨by rw [fx_r_wr, if_pos ⟨rfl, rfl⟩], isP_kp (fun a h1 h2 => sw _ a (by omega) (by omega)) (is_PI_init n1 (by rw [fx_s_nw, if_pos l.symm]))⟩
    · refine ⟨?_, ?_⟩
      · rw [fx_r_wr, if_neg (fun z => e z.2), r_PI_init n1 (by omega), fx_r_nw, if_neg (by omega)]
        exact (ih s (by omega)).1
      · refine isP_kp (fun a h1 h2 => ?_) (ih s (by omega)).2
        exact ⟨by rw [fx_s_wr, s_PI_init n1 (by omega), fx_s_nw, if_neg (by omega)], fun j => by rw [fx_r_wr, if_neg (by omega), r_PI_init n1 (by omega), fx_r_nw, if_neg (by omega)]⟩
theorem ls_DE_init {p : Nat} {K : fx_H} (hn : fx_n K = p + 48) : ∀ n, n ≤ 10 → ∀ s, s < n → fx_r (it (b_DE_init p) K n) (p + 1) s = some (p + 48 + 4 * s) ∧ isP (it (b_DE_init p) K n) (p + 48 + 4 * s)
  | 0, _ => fun s hs => by omega
  | n + 1, h7 => fun s hs => by
    have l := (it_DE_init hn n).1
    have ih := ls_DE_init hn n (by omega)
    rw [it_s]
    generalize it (b_DE_init p) K n = m at *
    unfold b_DE_init
    have n1 : fx_n (fx_nw m (.inl 2)) = p + 48 + 4 * n + 1 := by rw [fx_n_nw, l]
    have sw : ∀ k, kp (p + 48) (p + 88) k (fx_wi (fx_wr k (p + 1) n (some (p + 48 + 4 * n))) (p + 45) n (-1)) := fun k a h1 h2 => ⟨fx_s_wr _ _ _ _ _, fun j => by rw [fx_r_wi, fx_r_wr, if_neg (by omega)]⟩
    by_cases e : s = n
    · subst e
      exact ⟨by rw [fx_r_wi, fx_r_wr, if_pos ⟨rfl, rfl⟩], isP_kp (fun a h1 h2 => sw _ a (by omega) (by omega)) (is_PI_init n1 (by rw [fx_s_nw, if_pos l.symm]))⟩
    · refine ⟨?_, ?_⟩
      · rw [fx_r_wi, fx_r_wr, if_neg (fun z => e z.2), r_PI_init n1 (by omega), fx_r_nw, if_neg (by omega)]
        exact (ih s (by omega)).1
      · refine isP_kp (fun a h1 h2 => ?_) (ih s (by omega)).2
        exact ⟨by rw [fx_s_wi, fx_s_wr, s_PI_init n1 (by omega), fx_s_nw, if_neg (by omega)], fun j => by rw [fx_r_wi, fx_r_wr, if_neg (by omega), r_PI_init n1 (by omega), fx_r_nw, if_neg (by omega)]⟩
theorem is_MA {h : fx_H} {n : Nat} (hn : fx_n h = n) : fx_s (fx_ma h) n = some (.inr (5, 2)) ∧ ∀ i, i < 2 → fx_r (fx_ma h) n i = some (n + 1 + i) ∧ fx_s (fx_ma h) (n + 1 + i) = some (.inr (0, 24)) := by
  subst hn
  unfold fx_ma
  refine ⟨?_, fun i hi => ?_⟩
  · simp [fx_s_wr, fx_s_nw, fx_n_nw, fx_n_wr]
    omega
  · rcases (by omega : i = 0 ∨ i = 1) with e | e
    · subst e
      simp [fx_s_wr, fx_s_nw, fx_n_nw, fx_n_wr, fx_r_wr, fx_r_nw]
      omega
    · subst e
      simp [fx_s_wr, fx_s_nw, fx_n_nw, fx_n_wr, fx_r_wr, fx_r_nw]

theorem is_MI_init {h : fx_H} {p : Nat} (hn : fx_n h = p + 1) (hp : fx_s h p = some (.inl 5)) : isI (k_MI_init h p) p := by
  obtain ⟨k1, e1⟩ : ∃ k, k = fx_nw h (.inr (4, 7)) := ⟨_, rfl⟩
  have n1 : fx_n k1 = p + 2 := by rw [e1, fx_n_nw, hn]
  have s1 : ∀ a, a < p + 1 → fx_s k1 a = fx_s h a := fun a ha => by rw [e1, fx_s_nw, if_neg (by rw [hn]; exact Nat.ne_of_lt ha)]
  have r1 : ∀ a j, a < p + 1 → fx_r k1 a j = fx_r h a j := fun a j ha => by rw [e1, fx_r_nw, if_neg (by rw [hn]; exact Nat.ne_of_lt ha)]
  have i1 : ∀ a j, a < p + 1 → fx_i k1 a j = fx_i h a j := fun a j ha => by rw [e1, fx_i_nw, if_neg (by rw [hn]; exact Nat.ne_of_lt ha)]
  have t1 : fx_s k1 (p + 1) = some (.inr (4, 7)) := by rw [e1, fx_s_nw, if_pos hn.symm]
  obtain ⟨k2, e2⟩ : ∃ k, k = fx_wr k1 (p) 0 (some (p + 1)) := ⟨_, rfl⟩
  have n2 : fx_n k2 = p + 2 := by rw [e2, fx_n_wr, n1]
  have s2 : ∀ a, a < p + 2 → fx_s k2 a = fx_s k1 a := fun a ha => by rw [e2, fx_s_wr]
  have r2 : ∀ a j, a < p + 2 → ¬ (a = p ∧ j = 0) → fx_r k2 a j = fx_r k1 a j := fun a j ha hb => by rw [e2, fx_r_wr, if_neg hb]
  have i2 : ∀ a j, a < p + 2 → fx_i k2 a j = fx_i k1 a j := fun a j ha => by rw [e2, fx_i_wr]
  have t2 : fx_r k2 (p) 0 = some (p + 1) := by rw [e2, fx_r_wr, if_pos ⟨rfl, rfl⟩]
  obtain ⟨k3, e3⟩ : ∃ k, k = it (b_MI_init p) k2 7 := ⟨_, rfl⟩
  have l3 := it_MI_init n2 7
  rw [← e3] at l3
  have n3 : fx_n k3 = p + 9 := by rw [l3.1]
  have s3 : ∀ a, a < p + 2 → fx_s k3 a = fx_s k2 a := fun a ha => l3.2.1 a ha
  have r3 : ∀ a j, a < p + 2 → a ≠ p + 1 → fx_r k3 a j = fx_r k2 a j := fun a j ha hb => l3.2.2 a j ha hb
  have t3 := ls_MI_init n2 7 (Nat.le_refl _)
  rw [← e3] at t3
  have eF : k_MI_init h p = k3 := by rw [e3, e2, e1]; rfl
  rw [eF]
  clear eF e1 e2 e3
  have vs0 : fx_s k3 (p) = some (.inl 5) := (s3 _ (xm (by decide))).trans ((s2 _ (xm (by decide))).trans ((s1 _ (xm (by decide))).trans (hp)))
  have vr0_0 : fx_r k3 (p) 0 = some (p + 1) := (r3 _ _ (xm (by decide)) (xa (by decide))).trans (t2)
  have vs1 : fx_s k3 (p + 1) = some (.inr (4, 7)) := (s3 _ (xl (by decide))).trans ((s2 _ (xl (by decide))).trans (t1))
  exact ⟨vs0, vr0_0, vs1, t3⟩
theorem is_PL_init {h : fx_H} {p : Nat} (hn : fx_n h = p + 1) (hp : fx_s h p = some (.inl 3)) : isL (k_PL_init h p) p := by
  obtain ⟨k1, e1⟩ : ∃ k, k = fx_nw h (.inr (3, 10)) := ⟨_, rfl⟩
  have n1 : fx_n k1 = p + 2 := by rw [e1, fx_n_nw, hn]
  have s1 : ∀ a, a < p + 1 → fx_s k1 a = fx_s h a := fun a ha => by rw [e1, fx_s_nw, if_neg (by rw [hn]; exact Nat.ne_of_lt ha)]
  have r1 : ∀ a j, a < p + 1 → fx_r k1 a j = fx_r h a j := fun a j ha => by rw [e1, fx_r_nw, if_neg (by rw [hn]; exact Nat.ne_of_lt ha)]
  have i1 : ∀ a j, a < p + 1 → fx_i k1 a j = fx_i h a j := fun a j ha => by rw [e1, fx_i_nw, if_neg (by rw [hn]; exact Nat.ne_of_lt ha)]
  have t1 : fx_s k1 (p + 1) = some (.inr (3, 10)) := by rw [e1, fx_s_nw, if_pos hn.symm]
  obtain ⟨k2, e2⟩ : ∃ k, k = fx_wr k1 (p) 0 (some (p + 1)) := ⟨_, rfl⟩
  have n2 : fx_n k2 = p + 2 := by rw [e2, fx_n_wr, n1]
  have s2 : ∀ a, a < p + 2 → fx_s k2 a = fx_s k1 a := fun a ha => by rw [e2, fx_s_wr]
  have r2 : ∀ a j, a < p + 2 → ¬ (a = p ∧ j = 0) → fx_r k2 a j = fx_r k1 a j := fun a j ha hb => by rw [e2, fx_r_wr, if_neg hb]
  have i2 : ∀ a j, a < p + 2 → fx_i k2 a j = fx_i k1 a j := fun a j ha => by rw [e2, fx_i_wr]
  have t2 : fx_r k2 (p) 0 = some (p + 1) := by rw [e2, fx_r_wr, if_pos ⟨rfl, rfl⟩]
  obtain ⟨k3, e3⟩ : ∃ k, k = fx_nw k2 (.inr (0, 10)) := ⟨_, rfl⟩
  have n3 : fx_n k3 = p + 3 := by rw [e3, fx_n_nw, n2]
  have s3 : ∀ a, a < p + 2 → fx_s k3 a = fx_s k2 a := fun a ha => by rw [e3, fx_s_nw, if_neg (by rw [n2]; exact Nat.ne_of_lt ha)]
  have r3 : ∀ a j, a < p + 2 → fx_r k3 a j = fx_r k2 a j := fun a j ha => by rw [e3, fx_r_nw, if_neg (by rw [n2]; exact Nat.ne_of_lt ha)]
  have i3 : ∀ a j, a < p + 2 → fx_i k3 a j = fx_i k2 a j := fun a j ha => by rw [e3, fx_i_nw, if_neg (by rw [n2]; exact Nat.ne_of_lt ha)]
  have t3 : fx_s k3 (p + 2) = some (.inr (0, 10)) := by rw [e3, fx_s_nw, if_pos n2.symm]
  obtain ⟨k4, e4⟩ : ∃ k, k = fx_wr k3 (p) 1 (some (p + 2)) := ⟨_, rfl⟩
  have n4 : fx_n k4 = p + 3 := by rw [e4, fx_n_wr, n3]
  have s4 : ∀ a, a < p + 3 → fx_s k4 a = fx_s k3 a := fun a ha => by rw [e4, fx_s_wr]
  have r4 : ∀ a j, a < p + 3 → ¬ (a = p ∧ j = 1) → fx_r k4 a j = fx_r k3 a j := fun a j ha hb => by rw [e4, fx_r_wr, if_neg hb]
  have i4 : ∀ a j, a < p + 3 → fx_i k4 a j = fx_i k3 a j := fun a j ha => by rw [e4, fx_i_wr]
  have t4 : fx_r k4 (p) 1 = some (p + 2) := by rw [e4, fx_r_wr, if_pos ⟨rfl, rfl⟩]
  obtain ⟨k5, e5⟩ : ∃ k, k = it (b_PL_init p) k4 10 := ⟨_, rfl⟩
  have l5 := it_PL_init n4 10
  rw [← e5] at l5
  have n5 : fx_n k5 = p + 43 := by rw [l5.1]
  have s5 : ∀ a, a < p + 3 → fx_s k5 a = fx_s k4 a := fun a ha => l5.2.1 a ha
  have r5 : ∀ a j, a < p + 3 → a ≠ p + 1 → fx_r k5 a j = fx_r k4 a j := fun a j ha hb => l5.2.2 a j ha hb
  have t5 := ls_PL_init n4 10 (Nat.le_refl _)
  rw [← e5] at t5
  have eF : k_PL_init h p = k5 := by rw [e5, e4, e3, e2, e1]; rfl
  rw [eF]
  clear eF e1 e2 e3 e4 e5
  have vs0 : fx_s k5 (p) = some (.inl 3) := (s5 _ (xm (by decide))).trans ((s4 _ (xm (by decide))).trans ((s3 _ (xm (by decide))).trans ((s2 _ (xm (by decide))).trans ((s1 _ (xm (by decide))).trans (hp)))))
  have vr0_0 : fx_r k5 (p) 0 = some (p + 1) := (r5 _ _ (xm (by decide)) (xa (by decide))).trans ((r4 _ _ (xm (by decide)) (fun z => absurd z.2 (by decide))).trans ((r3 _ _ (xm (by decide))).trans (t2)))
  have vs1 : fx_s k5 (p + 1) = some (.inr (3, 10)) := (s5 _ (xl (by decide))).trans ((s4 _ (xl (by decide))).trans ((s3 _ (xl (by decide))).trans ((s2 _ (xl (by decide))).trans (t1))))
  have vr0_1 : fx_r k5 (p) 1 = some (p + 2) := (r5 _ _ (xm (by decide)) (xa (by decide))).trans (t4)
  have vs2 : fx_s k5 (p + 2) = some (.inr (0, 10)) := (s5 _ (xl (by decide))).trans ((s4 _ (xl (by decide))).trans (t3))
  exact ⟨vs0, vr0_0, vs1, vr0_1, vs2, t5⟩
theorem is_ME_init {h : fx_H} {p : Nat} (hn : fx_n h = p + 1) (hp : fx_s h p = some (.inl 6)) : isE (k_ME_init h p) p := by
  obtain ⟨k1, e1⟩ : ∃ k, k = fx_nw h (.inr (0, 200)) := ⟨_, rfl⟩
  have n1 : fx_n k1 = p + 2 := by rw [e1, fx_n_nw, hn]
  have s1 : ∀ a, a < p + 1 → fx_s k1 a = fx_s h a := fun a ha => by rw [e1, fx_s_nw, if_neg (by rw [hn]; exact Nat.ne_of_lt ha)]
  have r1 : ∀ a j, a < p + 1 → fx_r k1 a j = fx_r h a j := fun a j ha => by rw [e1, fx_r_nw, if_neg (by rw [hn]; exact Nat.ne_of_lt ha)]
  have i1 : ∀ a j, a < p + 1 → fx_i k1 a j = fx_i h a j := fun a j ha => by rw [e1, fx_i_nw, if_neg (by rw [hn]; exact Nat.ne_of_lt ha)]
  have t1 : fx_s k1 (p + 1) = some (.inr (0, 200)) := by rw [e1, fx_s_nw, if_pos hn.symm]
  obtain ⟨k2, e2⟩ : ∃ k, k = fx_wr k1 (p) 0 (some (p + 1)) := ⟨_, rfl⟩
  have n2 : fx_n k2 = p + 2 := by rw [e2, fx_n_wr, n1]
  have s2 : ∀ a, a < p + 2 → fx_s k2 a = fx_s k1 a := fun a ha => by rw [e2, fx_s_wr]
  have r2 : ∀ a j, a < p + 2 → ¬ (a = p ∧ j = 0) → fx_r k2 a j = fx_r k1 a j := fun a j ha hb => by rw [e2, fx_r_wr, if_neg hb]
  have i2 : ∀ a j, a < p + 2 → fx_i k2 a j = fx_i k1 a j := fun a j ha => by rw [e2, fx_i_wr]
  have t2 : fx_r k2 (p) 0 = some (p + 1) := by rw [e2, fx_r_wr, if_pos ⟨rfl, rfl⟩]
  obtain ⟨k3, e3⟩ : ∃ k, k = fx_nw k2 (.inl 5) := ⟨_, rfl⟩
  have n3 : fx_n k3 = p + 3 := by rw [e3, fx_n_nw, n2]
  have s3 : ∀ a, a < p + 2 → fx_s k3 a = fx_s k2 a := fun a ha => by rw [e3, fx_s_nw, if_neg (by rw [n2]; exact Nat.ne_of_lt ha)]
  have r3 : ∀ a j, a < p + 2 → fx_r k3 a j = fx_r k2 a j := fun a j ha => by rw [e3, fx_r_nw, if_neg (by rw [n2]; exact Nat.ne_of_lt ha)]
  have i3 : ∀ a j, a < p + 2 → fx_i k3 a j = fx_i k2 a j := fun a j ha => by rw [e3, fx_i_nw, if_neg (by rw [n2]; exact Nat.ne_of_lt ha)]
  have t3 : fx_s k3 (p + 2) = some (.inl 5) := by rw [e3, fx_s_nw, if_pos n2.symm]
  obtain ⟨k4, e4⟩ : ∃ k, k = k_MI_init k3 (p + 2) := ⟨_, rfl⟩
  have n4 : fx_n k4 = p + 11 := by rw [e4, n_MI_init n3]
  have s4 : ∀ a, a < p + 3 → fx_s k4 a = fx_s k3 a := fun a ha => by rw [e4, s_MI_init n3 ha]
  have r4 : ∀ a j, a < p + 2 → fx_r k4 a j = fx_r k3 a j := fun a j ha => by rw [e4, r_MI_init n3 ha]
  have i4 : ∀ a j, a < p + 2 → fx_i k4 a j = fx_i k3 a j := fun a j ha => by rw [e4, i_MI_init n3 ha]
  have t4 := is_MI_init n3 t3
  rw [← e4] at t4
  obtain ⟨k5, e5⟩ : ∃ k, k = fx_wr k4 (p) 1 (some (p + 2)) := ⟨_, rfl⟩
  have n5 : fx_n k5 = p + 11 := by rw [e5, fx_n_wr, n4]
  have s5 : ∀ a, a < p + 11 → fx_s k5 a = fx_s k4 a := fun a ha => by rw [e5, fx_s_wr]
  have r5 : ∀ a j, a < p + 11 → ¬ (a = p ∧ j = 1) → fx_r k5 a j = fx_r k4 a j := fun a j ha hb => by rw [e5, fx_r_wr, if_neg hb]
  have i5 : ∀ a j, a < p + 11 → fx_i k5 a j = fx_i k4 a j := fun a j ha => by rw [e5, fx_i_wr]
  have t5 : fx_r k5 (p) 1 = some (p + 2) := by rw [e5, fx_r_wr, if_pos ⟨rfl, rfl⟩]
  have eF : k_ME_init h p = k5 := by rw [e5, e4, e3, e2, e1]; rfl
  rw [eF]
  clear eF e1 e2 e3 e4 e5
  have vs0 : fx_s k5 (p) = some (.inl 6) := (s5 _ (xm (by decide))).trans ((s4 _ (xm (by decide))).trans ((s3 _ (xm (by decide))).trans ((s2 _ (xm (by decide))).trans ((s1 _ (xm (by decide))).trans (hp)))))
  have vr0_0 : fx_r k5 (p) 0 = some (p + 1) := (r5 _ _ (xm (by decide)) (fun z => absurd z.2 (by decide))).trans ((r4 _ _ (xm (by decide))).trans ((r3 _ _ (xm (by decide))).trans (t2)))
  have vs1 : fx_s k5 (p + 1) = some (.inr (0, 200)) := (s5 _ (xl (by decide))).trans ((s4 _ (xl (by decide))).trans ((s3 _ (xl (by decide))).trans ((s2 _ (xl (by decide))).trans (t1))))
  have vr0_1 : fx_r k5 (p) 1 = some (p + 2) := t5
  have u2_4 : isI k4 (p + 2) := t4
  have u2_5 : isI k5 (p + 2) := isI_kp (fun a h1 h2 => ⟨s5 a (xd h2 (by decide)), fun j => r5 a j (xd h2 (by decide)) (fun z => xe h1 (by decide) z.1)⟩) u2_4
  exact ⟨vs0, vr0_0, vs1, vr0_1, u2_5⟩
theorem is_DE_init {h : fx_H} {p : Nat} (hn : fx_n h = p + 1) (hp : fx_s h p = some (.inl 4)) : isD (k_DE_init h p) p := by
  obtain ⟨k1, e1⟩ : ∃ k, k = fx_nw h (.inr (3, 10)) := ⟨_, rfl⟩
  have n1 : fx_n k1 = p + 2 := by rw [e1, fx_n_nw, hn]
  have s1 : ∀ a, a < p + 1 → fx_s k1 a = fx_s h a := fun a ha => by rw [e1, fx_s_nw, if_neg (by rw [hn]; exact Nat.ne_of_lt ha)]
  have r1 : ∀ a j, a < p + 1 → fx_r k1 a j = fx_r h a j := fun a j ha => by rw [e1, fx_r_nw, if_neg (by rw [hn]; exact Nat.ne_of_lt ha)]
  have i1 : ∀ a j, a < p + 1 → fx_i k1 a j = fx_i h a j := fun a j ha => by rw [e1, fx_i_nw, if_neg (by rw [hn]; exact Nat.ne_of_lt ha)]
  have t1 : fx_s k1 (p + 1) = some (.inr (3, 10)) := by rw [e1, fx_s_nw, if_pos hn.symm]
  obtain ⟨k2, e2⟩ : ∃ k, k = fx_wr k1 (p) 0 (some (p + 1)) := ⟨_, rfl⟩
  have n2 : fx_n k2 = p + 2 := by rw [e2, fx_n_wr, n1]
  have s2 : ∀ a, a < p + 2 → fx_s k2 a = fx_s k1 a := fun a ha => by rw [e2, fx_s_wr]
  have r2 : ∀ a j, a < p + 2 → ¬ (a = p ∧ j = 0) → fx_r k2 a j = fx_r k1 a j := fun a j ha hb => by rw [e2, fx_r_wr, if_neg hb]
  have i2 : ∀ a j, a < p + 2 → fx_i k2 a j = fx_i k1 a j := fun a j ha => by rw [e2, fx_i_wr]
  have t2 : fx_r k2 (p) 0 = some (p + 1) := by rw [e2, fx_r_wr, if_pos ⟨rfl, rfl⟩]
  obtain ⟨k3, e3⟩ : ∃ k, k = fx_nw k2 (.inl 3) := ⟨_, rfl⟩
  have n3 : fx_n k3 = p + 3 := by rw [e3, fx_n_nw, n2]
  have s3 : ∀ a, a < p + 2 → fx_s k3 a = fx_s k2 a := fun a ha => by rw [e3, fx_s_nw, if_neg (by rw [n2]; exact Nat.ne_of_lt ha)]
  have r3 : ∀ a j, a < p + 2 → fx_r k3 a j = fx_r k2 a j := fun a j ha => by rw [e3, fx_r_nw, if_neg (by rw [n2]; exact Nat.ne_of_lt ha)]
  have i3 : ∀ a j, a < p + 2 → fx_i k3 a j = fx_i k2 a j := fun a j ha => by rw [e3, fx_i_nw, if_neg (by rw [n2]; exact Nat.ne_of_lt ha)]
  have t3 : fx_s k3 (p + 2) = some (.inl 3) := by rw [e3, fx_s_nw, if_pos n2.symm]
  obtain ⟨k4, e4⟩ : ∃ k, k = k_PL_init k3 (p + 2) := ⟨_, rfl⟩
  have n4 : fx_n k4 = p + 45 := by rw [e4, n_PL_init n3]
  have s4 : ∀ a, a < p + 3 → fx_s k4 a = fx_s k3 a := fun a ha => by rw [e4, s_PL_init n3 ha]
  have r4 : ∀ a j, a < p + 2 → fx_r k4 a j = fx_r k3 a j := fun a j ha => by rw [e4, r_PL_init n3 ha]
  have i4 : ∀ a j, a < p + 2 → fx_i k4 a j = fx_i k3 a j := fun a j ha => by rw [e4, i_PL_init n3 ha]
  have t4 := is_PL_init n3 t3
  rw [← e4] at t4
  obtain ⟨k5, e5⟩ : ∃ k, k = fx_wr k4 (p) 1 (some (p + 2)) := ⟨_, rfl⟩
  have n5 : fx_n k5 = p + 45 := by rw [e5, fx_n_wr, n4]
  have s5 : ∀ a, a < p + 45 → fx_s k5 a = fx_s k4 a := fun a ha => by rw [e5, fx_s_wr]
  have r5 : ∀ a j, a < p + 45 → ¬ (a = p ∧ j = 1) → fx_r k5 a j = fx_r k4 a j := fun a j ha hb => by rw [e5, fx_r_wr, if_neg hb]
  have i5 : ∀ a j, a < p + 45 → fx_i k5 a j = fx_i k4 a j := fun a j ha => by rw [e5, fx_i_wr]
  have t5 : fx_r k5 (p) 1 = some (p + 2) := by rw [e5, fx_r_wr, if_pos ⟨rfl, rfl⟩]
  obtain ⟨k6, e6⟩ : ∃ k, k = fx_nw k5 (.inr (0, 10)) := ⟨_, rfl⟩
  have n6 : fx_n k6 = p + 46 := by rw [e6, fx_n_nw, n5]
  have s6 : ∀ a, a < p + 45 → fx_s k6 a = fx_s k5 a := fun a ha => by rw [e6, fx_s_nw, if_neg (by rw [n5]; exact Nat.ne_of_lt ha)]
  have r6 : ∀ a j, a < p + 45 → fx_r k6 a j = fx_r k5 a j := fun a j ha => by rw [e6, fx_r_nw, if_neg (by rw [n5]; exact Nat.ne_of_lt ha)]
  have i6 : ∀ a j, a < p + 45 → fx_i k6 a j = fx_i k5 a j := fun a j ha => by rw [e6, fx_i_nw, if_neg (by rw [n5]; exact Nat.ne_of_lt ha)]
  have t6 : fx_s k6 (p + 45) = some (.inr (0, 10)) := by rw [e6, fx_s_nw, if_pos n5.symm]
  obtain ⟨k7, e7⟩ : ∃ k, k = fx_wr k6 (p) 2 (some (p + 45)) := ⟨_, rfl⟩
  have n7 : fx_n k7 = p + 46 := by rw [e7, fx_n_wr, n6]
  have s7 : ∀ a, a < p + 46 → fx_s k7 a = fx_s k6 a := fun a ha => by rw [e7, fx_s_wr]
  have r7 : ∀ a j, a < p + 46 → ¬ (a = p ∧ j = 2) → fx_r k7 a j = fx_r k6 a j := fun a j ha hb => by rw [e7, fx_r_wr, if_neg hb]
  have i7 : ∀ a j, a < p + 46 → fx_i k7 a j = fx_i k6 a j := fun a j ha => by rw [e7, fx_i_wr]
  have t7 : fx_r k7 (p) 2 = some (p + 45) := by rw [e7, fx_r_wr, if_pos ⟨rfl, rfl⟩]
  obtain ⟨k8, e8⟩ : ∃ k, k = fx_nw k7 (.inr (1, 10)) := ⟨_, rfl⟩
  have n8 : fx_n k8 = p + 47 := by rw [e8, fx_n_nw, n7]
  have s8 : ∀ a, a < p + 46 → fx_s k8 a = fx_s k7 a := fun a ha => by rw [e8, fx_s_nw, if_neg (by rw [n7]; exact Nat.ne_of_lt ha)]
  have r8 : ∀ a j, a < p + 46 → fx_r k8 a j = fx_r k7 a j := fun a j ha => by rw [e8, fx_r_nw, if_neg (by rw [n7]; exact Nat.ne_of_lt ha)]
  have i8 : ∀ a j, a < p + 46 → fx_i k8 a j = fx_i k7 a j := fun a j ha => by rw [e8, fx_i_nw, if_neg (by rw [n7]; exact Nat.ne_of_lt ha)]
  have t8 : fx_s k8 (p + 46) = some (.inr (1, 10)) := by rw [e8, fx_s_nw, if_pos n7.symm]
  obtain ⟨k9, e9⟩ : ∃ k, k = fx_wr k8 (p) 3 (some (p + 46)) := ⟨_, rfl⟩
  have n9 : fx_n k9 = p + 47 := by rw [e9, fx_n_wr, n8]
  have s9 : ∀ a, a < p + 47 → fx_s k9 a = fx_s k8 a := fun a ha => by rw [e9, fx_s_wr]
  have r9 : ∀ a j, a < p + 47 → ¬ (a = p ∧ j = 3) → fx_r k9 a j = fx_r k8 a j := fun a j ha hb => by rw [e9, fx_r_wr, if_neg hb]
  have i9 : ∀ a j, a < p + 47 → fx_i k9 a j = fx_i k8 a j := fun a j ha => by rw [e9, fx_i_wr]
  have t9 : fx_r k9 (p) 3 = some (p + 46) := by rw [e9, fx_r_wr, if_pos ⟨rfl, rfl⟩]
  obtain ⟨k10, e10⟩ : ∃ k, k = fx_nw k9 (.inr (1, 4)) := ⟨_, rfl⟩
  have n10 : fx_n k10 = p + 48 := by rw [e10, fx_n_nw, n9]
  have s10 : ∀ a, a < p + 47 → fx_s k10 a = fx_s k9 a := fun a ha => by rw [e10, fx_s_nw, if_neg (by rw [n9]; exact Nat.ne_of_lt ha)]
  have r10 : ∀ a j, a < p + 47 → fx_r k10 a j = fx_r k9 a j := fun a j ha => by rw [e10, fx_r_nw, if_neg (by rw [n9]; exact Nat.ne_of_lt ha)]
  have i10 : ∀ a j, a < p + 47 → fx_i k10 a j = fx_i k9 a j := fun a j ha => by rw [e10, fx_i_nw, if_neg (by rw [n9]; exact Nat.ne_of_lt ha)]
  have t10 : fx_s k10 (p + 47) = some (.inr (1, 4)) := by rw [e10, fx_s_nw, if_pos n9.symm]
  obtain ⟨k11, e11⟩ : ∃ k, k = fx_wr k10 (p) 4 (some (p + 47)) := ⟨_, rfl⟩
  have n11 : fx_n k11 = p + 48 := by rw [e11, fx_n_wr, n10]
  have s11 : ∀ a, a < p + 48 → fx_s k11 a = fx_s k10 a := fun a ha => by rw [e11, fx_s_wr]
  have r11 : ∀ a j, a < p + 48 → ¬ (a = p ∧ j = 4) → fx_r k11 a j = fx_r k10 a j := fun a j ha hb => by rw [e11, fx_r_wr, if_neg hb]
  have i11 : ∀ a j, a < p + 48 → fx_i k11 a j = fx_i k10 a j := fun a j ha => by rw [e11, fx_i_wr]
  have t11 : fx_r k11 (p) 4 = some (p + 47) := by rw [e11, fx_r_wr, if_pos ⟨rfl, rfl⟩]
  obtain ⟨k12, e12⟩ : ∃ k, k = fx_wi k11 (p) 6 (300) := ⟨_, rfl⟩
  have n12 : fx_n k12 = p + 48 := by rw [e12, fx_n_wi, n11]
  have s12 : ∀ a, a < p + 48 → fx_s k12 a = fx_s k11 a := fun a ha => by rw [e12, fx_s_wi]
  have r12 : ∀ a j, a < p + 48 → fx_r k12 a j = fx_r k11 a j := fun a j ha => by rw [e12, fx_r_wi]
  have i12 : ∀ a j, a < p + 48 → ¬ (a = p ∧ j = 6) → fx_i k12 a j = fx_i k11 a j := fun a j ha hb => by rw [e12, fx_i_wi, if_neg hb]
  have t12 : fx_i k12 (p) 6 = 300 := by rw [e12, fx_i_wi, if_pos ⟨rfl, rfl⟩]
  obtain ⟨k13, e13⟩ : ∃ k, k = it (b_DE_init p) k12 10 := ⟨_, rfl⟩
  have l13 := it_DE_init n12 10
  rw [← e13] at l13
  have n13 : fx_n k13 = p + 88 := by rw [l13.1]
  have s13 : ∀ a, a < p + 48 → fx_s k13 a = fx_s k12 a := fun a ha => l13.2.1 a ha
  have r13 : ∀ a j, a < p + 48 → a ≠ p + 1 → fx_r k13 a j = fx_r k12 a j := fun a j ha hb => l13.2.2 a j ha hb
  have t13 := ls_DE_init n12 10 (Nat.le_refl _)
  rw [← e13] at t13
  have eF : k_DE_init h p = k13 := by rw [e13, e12, e11, e10, e9, e8, e7, e6, e5, e4, e3, e2, e1]; rfl
  rw [eF]
  clear eF e1 e2 e3 e4 e5 e6 e7 e8 e9 e10 e11 e12 e13
  have vs0 : fx_s k13 (p) = some (.inl 4) := (s13 _ (xm (by decide))).trans ((s12 _ (xm (by decide))).trans ((s11 _ (xm (by decide))).trans ((s10 _ (xm (by decide))).trans ((s9 _ (xm (by decide))).trans ((s8 _ (xm (by decide))).trans ((s7 _ (xm (by decide))).trans ((s6 _ (xm (by decide))).trans ((s5 _ (xm (by decide))).trans ((s4 _ (xm (by decide))).trans ((s3 _ (xm (by decide))).trans ((s2 _ (xm (by decide))).trans ((s1 _ (xm (by decide))).trans (hp)))))))))))))
  have vr0_0 : fx_r k13 (p) 0 = some (p + 1) := (r13 _ _ (xm (by decide)) (xa (by decide))).trans ((r12 _ _ (xm (by decide))).trans ((r11 _ _ (xm (by decide)) (fun z => absurd z.2 (by decide))).trans ((r10 _ _ (xm (by decide))).trans ((r9 _ _ (xm (by decide)) (fun z => absurd z.2 (by decide))).trans ((r8 _ _ (xm (by decide))).trans ((r7 _ _ (xm (by decide)) (fun z => absurd z.2 (by decide))).trans ((r6 _ _ (xm (by decide))).trans ((r5 _ _ (xm (by decide)) (fun z => absurd z.2 (by decide))).trans ((r4 _ _ (xm (by decide))).trans ((r3 _ _ (xm (by decide))).trans (t2)))))))))))
  have vs1 : fx_s k13 (p + 1) = some (.inr (3, 10)) := (s13 _ (xl (by decide))).trans ((s12 _ (xl (by decide))).trans ((s11 _ (xl (by decide))).trans ((s10 _ (xl (by decide))).trans ((s9 _ (xl (by decide))).trans ((s8 _ (xl (by decide))).trans ((s7 _ (xl (by decide))).trans ((s6 _ (xl (by decide))).trans ((s5 _ (xl (by decide))).trans ((s4 _ (xl (by decide))).trans ((s3 _ (xl (by decide))).trans ((s2 _ (xl (by decide))).trans (t1))))))))))))
  have vr0_1 : fx_r k13 (p) 1 = some (p + 2) := (r13 _ _ (xm (by decide)) (xa (by decide))).trans ((r12 _ _ (xm (by decide))).trans ((r11 _ _ (xm (by decide)) (fun z => absurd z.2 (by decide))).trans ((r10 _ _ (xm (by decide))).trans ((r9 _ _ (xm (by decide)) (fun z => absurd z.2 (by decide))).trans ((r8 _ _ (xm (by decide))).trans ((r7 _ _ (xm (by decide)) (fun z => absurd z.2 (by decide))).trans ((r6 _ _ (xm (by decide))).trans (t5))))))))
  have u2_4 : isL k4 (p + 2) := t4
  have u2_5 : isL k5 (p + 2) := isL_kp (fun a h1 h2 => ⟨s5 a (xd h2 (by decide)), fun j => r5 a j (xd h2 (by decide)) (fun z => xe h1 (by decide) z.1)⟩) u2_4
  have u2_6 : isL k6 (p + 2) := isL_kp (fun a h1 h2 => ⟨s6 a (xd h2 (by decide)), fun j => r6 a j (xd h2 (by decide))⟩) u2_5
  have u2_7 : isL k7 (p + 2) := isL_kp (fun a h1 h2 => ⟨s7 a (xd h2 (by decide)), fun j => r7 a j (xd h2 (by decide)) (fun z => xe h1 (by decide) z.1)⟩) u2_6
  have u2_8 : isL k8 (p + 2) := isL_kp (fun a h1 h2 => ⟨s8 a (xd h2 (by decide)), fun j => r8 a j (xd h2 (by decide))⟩) u2_7
  have u2_9 : isL k9 (p + 2) := isL_kp (fun a h1 h2 => ⟨s9 a (xd h2 (by decide)), fun j => r9 a j (xd h2 (by decide)) (fun z => xe h1 (by decide) z.1)⟩) u2_8
  have u2_10 : isL k10 (p + 2) := isL_kp (fun a h1 h2 => ⟨s10 a (xd h2 (by decide)), fun j => r10 a j (xd h2 (by decide))⟩) u2_9
  have u2_11 : isL k11 (p + 2) := isL_kp (fun a h1 h2 => ⟨s11 a (xd h2 (by decide)), fun j => r11 a j (xd h2 (by decide)) (fun z => xe h1 (by decide) z.1)⟩) u2_10
  have u2_12 : isL k12 (p + 2) := isL_kp (fun a h1 h2 => ⟨s12 a (xd h2 (by decide)), fun j => r12 a j (xd h2 (by decide))⟩) u2_11
  have u2_13 : isL k13 (p + 2) := isL_kp (fun a h1 h2 => ⟨s13 a (xd h2 (by decide)), fun j => r13 a j (xd h2 (by decide)) (xf h1 (by decide))⟩) u2_12
  have vr0_2 : fx_r k13 (p) 2 = some (p + 45) := (r13 _ _ (xm (by decide)) (xa (by decide))).trans ((r12 _ _ (xm (by decide))).trans ((r11 _ _ (xm (by decide)) (fun z => absurd z.2 (by decide))).trans ((r10 _ _ (xm (by decide))).trans ((r9 _ _ (xm (by decide)) (fun z => absurd z.2 (by decide))).trans ((r8 _ _ (xm (by decide))).trans (t7))))))
  have vs45 : fx_s k13 (p + 45) = some (.inr (0, 10)) := (s13 _ (xl (by decide))).trans ((s12 _ (xl (by decide))).trans ((s11 _ (xl (by decide))).trans ((s10 _ (xl (by decide))).trans ((s9 _ (xl (by decide))).trans ((s8 _ (xl (by decide))).trans ((s7 _ (xl (by decide))).trans (t6)))))))
  have vr0_3 : fx_r k13 (p) 3 = some (p + 46) := (r13 _ _ (xm (by decide)) (xa (by decide))).trans ((r12 _ _ (xm (by decide))).trans ((r11 _ _ (xm (by decide)) (fun z => absurd z.2 (by decide))).trans ((r10 _ _ (xm (by decide))).trans (t9))))
  have vs46 : fx_s k13 (p + 46) = some (.inr (1, 10)) := (s13 _ (xl (by decide))).trans ((s12 _ (xl (by decide))).trans ((s11 _ (xl (by decide))).trans ((s10 _ (xl (by decide))).trans ((s9 _ (xl (by decide))).trans (t8)))))
  have vr0_4 : fx_r k13 (p) 4 = some (p + 47) := (r13 _ _ (xm (by decide)) (xa (by decide))).trans ((r12 _ _ (xm (by decide))).trans (t11))
  have vs47 : fx_s k13 (p + 47) = some (.inr (1, 4)) := (s13 _ (xl (by decide))).trans ((s12 _ (xl (by decide))).trans ((s11 _ (xl (by decide))).trans (t10)))
  exact ⟨vs0, vr0_0, vs1, vr0_1, u2_13, vr0_2, vs45, vr0_3, vs46, vr0_4, vs47, t13⟩
theorem is_PN_init {h : fx_H} {p : Nat} (hn : fx_n h = p + 1) (hp : fx_s h p = some (.inl 7)) : isN (k_PN_init h p) p ∧ fx_i (k_PN_init h p) (p + 1) 0 = -1 ∧ fx_i (k_PN_init h p) (p + 1) 1 = -1 := by
  obtain ⟨k1, e1⟩ : ∃ k, k = fx_nw h (.inr (0, 2)) := ⟨_, rfl⟩
  have n1 : fx_n k1 = p + 2 := by rw [e1, fx_n_nw, hn]
  have s1 : ∀ a, a < p + 1 → fx_s k1 a = fx_s h a := fun a ha => by rw [e1, fx_s_nw, if_neg (by rw [hn]; exact Nat.ne_of_lt ha)]
  have r1 : ∀ a j, a < p + 1 → fx_r k1 a j = fx_r h a j := fun a j ha => by rw [e1, fx_r_nw, if_neg (by rw [hn]; exact Nat.ne_of_lt ha)]
  have i1 : ∀ a j, a < p + 1 → fx_i k1 a j = fx_i h a j := fun a j ha => by rw [e1, fx_i_nw, if_neg (by rw [hn]; exact Nat.ne_of_lt ha)]
  have t1 : fx_s k1 (p + 1) = some (.inr (0, 2)) := by rw [e1, fx_s_nw, if_pos hn.symm]
  obtain ⟨k2, e2⟩ : ∃ k, k = fx_wi k1 (p + 1) 0 (-1) := ⟨_, rfl⟩
  have n2 : fx_n k2 = p + 2 := by rw [e2, fx_n_wi, n1]
  have s2 : ∀ a, a < p + 2 → fx_s k2 a = fx_s k1 a := fun a ha => by rw [e2, fx_s_wi]
  have r2 : ∀ a j, a < p + 2 → fx_r k2 a j = fx_r k1 a j := fun a j ha => by rw [e2, fx_r_wi]
  have i2 : ∀ a j, a < p + 2 → ¬ (a = p + 1 ∧ j = 0) → fx_i k2 a j = fx_i k1 a j := fun a j ha hb => by rw [e2, fx_i_wi, if_neg hb]
  have t2 : fx_i k2 (p + 1) 0 = -1 := by rw [e2, fx_i_wi, if_pos ⟨rfl, rfl⟩]
  obtain ⟨k3, e3⟩ : ∃ k, k = fx_wi k2 (p + 1) 1 (-1) := ⟨_, rfl⟩
  have n3 : fx_n k3 = p + 2 := by rw [e3, fx_n_wi, n2]
  have s3 : ∀ a, a < p + 2 → fx_s k3 a = fx_s k2 a := fun a ha => by rw [e3, fx_s_wi]
  have r3 : ∀ a j, a < p + 2 → fx_r k3 a j = fx_r k2 a j := fun a j ha => by rw [e3, fx_r_wi]
  have i3 : ∀ a j, a < p + 2 → ¬ (a = p + 1 ∧ j = 1) → fx_i k3 a j = fx_i k2 a j := fun a j ha hb => by rw [e3, fx_i_wi, if_neg hb]
  have t3 : fx_i k3 (p + 1) 1 = -1 := by rw [e3, fx_i_wi, if_pos ⟨rfl, rfl⟩]
  obtain ⟨k4, e4⟩ : ∃ k, k = fx_wr k3 (p) 0 (some (p + 1)) := ⟨_, rfl⟩
  have n4 : fx_n k4 = p + 2 := by rw [e4, fx_n_wr, n3]
  have s4 : ∀ a, a < p + 2 → fx_s k4 a = fx_s k3 a := fun a ha => by rw [e4, fx_s_wr]
  have r4 : ∀ a j, a < p + 2 → ¬ (a = p ∧ j = 0) → fx_r k4 a j = fx_r k3 a j := fun a j ha hb => by rw [e4, fx_r_wr, if_neg hb]
  have i4 : ∀ a j, a < p + 2 → fx_i k4 a j = fx_i k3 a j := fun a j ha => by rw [e4, fx_i_wr]
  have t4 : fx_r k4 (p) 0 = some (p + 1) := by rw [e4, fx_r_wr, if_pos ⟨rfl, rfl⟩]
  obtain ⟨k5, e5⟩ : ∃ k, k = fx_nw k4 (.inr (4, 2)) := ⟨_, rfl⟩
  have n5 : fx_n k5 = p + 3 := by rw [e5, fx_n_nw, n4]
  have s5 : ∀ a, a < p + 2 → fx_s k5 a = fx_s k4 a := fun a ha => by rw [e5, fx_s_nw, if_neg (by rw [n4]; exact Nat.ne_of_lt ha)]
  have r5 : ∀ a j, a < p + 2 → fx_r k5 a j = fx_r k4 a j := fun a j ha => by rw [e5, fx_r_nw, if_neg (by rw [n4]; exact Nat.ne_of_lt ha)]
  have i5 : ∀ a j, a < p + 2 → fx_i k5 a j = fx_i k4 a j := fun a j ha => by rw [e5, fx_i_nw, if_neg (by rw [n4]; exact Nat.ne_of_lt ha)]
  have t5 : fx_s k5 (p + 2) = some (.inr (4, 2)) := by rw [e5, fx_s_nw, if_pos n4.symm]
  obtain ⟨k6, e6⟩ : ∃ k, k = fx_nw k5 (.inl 1) := ⟨_, rfl⟩
  have n6 : fx_n k6 = p + 4 := by rw [e6, fx_n_nw, n5]
  have s6 : ∀ a, a < p + 3 → fx_s k6 a = fx_s k5 a := fun a ha => by rw [e6, fx_s_nw, if_neg (by rw [n5]; exact Nat.ne_of_lt ha)]
  have r6 : ∀ a j, a < p + 3 → fx_r k6 a j = fx_r k5 a j := fun a j ha => by rw [e6, fx_r_nw, if_neg (by rw [n5]; exact Nat.ne_of_lt ha)]
  have i6 : ∀ a j, a < p + 3 → fx_i k6 a j = fx_i k5 a j := fun a j ha => by rw [e6, fx_i_nw, if_neg (by rw [n5]; exact Nat.ne_of_lt ha)]
  have t6 : fx_s k6 (p + 3) = some (.inl 1) := by rw [e6, fx_s_nw, if_pos n5.symm]
  obtain ⟨k7, e7⟩ : ∃ k, k = fx_wr k6 (p + 2) 0 (some (p + 3)) := ⟨_, rfl⟩
  have n7 : fx_n k7 = p + 4 := by rw [e7, fx_n_wr, n6]
  have s7 : ∀ a, a < p + 4 → fx_s k7 a = fx_s k6 a := fun a ha => by rw [e7, fx_s_wr]
  have r7 : ∀ a j, a < p + 4 → ¬ (a = p + 2 ∧ j = 0) → fx_r k7 a j = fx_r k6 a j := fun a j ha hb => by rw [e7, fx_r_wr, if_neg hb]
  have i7 : ∀ a j, a < p + 4 → fx_i k7 a j = fx_i k6 a j := fun a j ha => by rw [e7, fx_i_wr]
  have t7 : fx_r k7 (p + 2) 0 = some (p + 3) := by rw [e7, fx_r_wr, if_pos ⟨rfl, rfl⟩]
  obtain ⟨k8, e8⟩ : ∃ k, k = fx_nw k7 (.inl 1) := ⟨_, rfl⟩
  have n8 : fx_n k8 = p + 5 := by rw [e8, fx_n_nw, n7]
  have s8 : ∀ a, a < p + 4 → fx_s k8 a = fx_s k7 a := fun a ha => by rw [e8, fx_s_nw, if_neg (by rw [n7]; exact Nat.ne_of_lt ha)]
  have r8 : ∀ a j, a < p + 4 → fx_r k8 a j = fx_r k7 a j := fun a j ha => by rw [e8, fx_r_nw, if_neg (by rw [n7]; exact Nat.ne_of_lt ha)]
  have i8 : ∀ a j, a < p + 4 → fx_i k8 a j = fx_i k7 a j := fun a j ha => by rw [e8, fx_i_nw, if_neg (by rw [n7]; exact Nat.ne_of_lt ha)]
  have t8 : fx_s k8 (p + 4) = some (.inl 1) := by rw [e8, fx_s_nw, if_pos n7.symm]
  obtain ⟨k9, e9⟩ : ∃ k, k = fx_wr k8 (p + 2) 1 (some (p + 4)) := ⟨_, rfl⟩
  have n9 : fx_n k9 = p + 5 := by rw [e9, fx_n_wr, n8]
  have s9 : ∀ a, a < p + 5 → fx_s k9 a = fx_s k8 a := fun a ha => by rw [e9, fx_s_wr]
  have r9 : ∀ a j, a < p + 5 → ¬ (a = p + 2 ∧ j = 1) → fx_r k9 a j = fx_r k8 a j := fun a j ha hb => by rw [e9, fx_r_wr, if_neg hb]
  have i9 : ∀ a j, a < p + 5 → fx_i k9 a j = fx_i k8 a j := fun a j ha => by rw [e9, fx_i_wr]
  have t9 : fx_r k9 (p + 2) 1 = some (p + 4) := by rw [e9, fx_r_wr, if_pos ⟨rfl, rfl⟩]
  obtain ⟨k10, e10⟩ : ∃ k, k = fx_wr k9 (p) 1 (some (p + 2)) := ⟨_, rfl⟩
  have n10 : fx_n k10 = p + 5 := by rw [e10, fx_n_wr, n9]
  have s10 : ∀ a, a < p + 5 → fx_s k10 a = fx_s k9 a := fun a ha => by rw [e10, fx_s_wr]
  have r10 : ∀ a j, a < p + 5 → ¬ (a = p ∧ j = 1) → fx_r k10 a j = fx_r k9 a j := fun a j ha hb => by rw [e10, fx_r_wr, if_neg hb]
  have i10 : ∀ a j, a < p + 5 → fx_i k10 a j = fx_i k9 a j := fun a j ha => by rw [e10, fx_i_wr]
  have t10 : fx_r k10 (p) 1 = some (p + 2) := by rw [e10, fx_r_wr, if_pos ⟨rfl, rfl⟩]
  obtain ⟨k11, e11⟩ : ∃ k, k = fx_ma k10 := ⟨_, rfl⟩
  have n11 : fx_n k11 = p + 8 := by rw [e11, n_MA n10]
  have s11 : ∀ a, a < p + 5 → fx_s k11 a = fx_s k10 a := fun a ha => by rw [e11, s_MA n10 ha]
  have r11 : ∀ a j, a < p + 5 → fx_r k11 a j = fx_r k10 a j := fun a j ha => by rw [e11, r_MA n10 ha]
  have i11 : ∀ a j, a < p + 5 → fx_i k11 a j = fx_i k10 a j := fun a j ha => by rw [e11, i_MA n10 ha]
  have t11 := is_MA n10
  rw [← e11] at t11
  obtain ⟨k12, e12⟩ : ∃ k, k = fx_wr k11 (p) 2 (some (p + 5)) := ⟨_, rfl⟩
  have n12 : fx_n k12 = p + 8 := by rw [e12, fx_n_wr, n11]
  have s12 : ∀ a, a < p + 8 → fx_s k12 a = fx_s k11 a := fun a ha => by rw [e12, fx_s_wr]
  have r12 : ∀ a j, a < p + 8 → ¬ (a = p ∧ j = 2) → fx_r k12 a j = fx_r k11 a j := fun a j ha hb => by rw [e12, fx_r_wr, if_neg hb]
  have i12 : ∀ a j, a < p + 8 → fx_i k12 a j = fx_i k11 a j := fun a j ha => by rw [e12, fx_i_wr]
  have t12 : fx_r k12 (p) 2 = some (p + 5) := by rw [e12, fx_r_wr, if_pos ⟨rfl, rfl⟩]
  have eF : k_PN_init h p = k12 := by rw [e12, e11, e10, e9, e8, e7, e6, e5, e4, e3, e2, e1]; rfl
  rw [eF]
  clear eF e1 e2 e3 e4 e5 e6 e7 e8 e9 e10 e11 e12
  have vm0 : fx_s k12 (p + 5) = some (.inr (5, 2)) := (s12 _ (by omega)).trans t11.1
  have vm : ∀ i, i < 2 → fx_r k12 (p + 5) i = some (p + 6 + i) ∧ fx_s k12 (p + 6 + i) = some (.inr (0, 24)) := fun i hi => ⟨(r12 _ _ (by omega) (by omega)).trans (t11.2 i hi).1, (s12 _ (by omega)).trans (t11.2 i hi).2⟩
  have vr0_0 : fx_r k12 (p) 0 = some (p + 1) := (r12 _ _ (xm (by decide)) (fun z => absurd z.2 (by decide))).trans ((r11 _ _ (xm (by decide))).trans ((r10 _ _ (xm (by decide)) (fun z => absurd z.2 (by decide))).trans ((r9 _ _ (xm (by decide)) (fun z => xa (by decide) z.1)).trans ((r8 _ _ (xm (by decide))).trans ((r7 _ _ (xm (by decide)) (fun z => xa (by decide) z.1)).trans ((r6 _ _ (xm (by decide))).trans ((r5 _ _ (xm (by decide))).trans (t4))))))))
  have vr0_1 : fx_r k12 (p) 1 = some (p + 2) := (r12 _ _ (xm (by decide)) (fun z => absurd z.2 (by decide))).trans ((r11 _ _ (xm (by decide))).trans (t10))
  have vr0_2 : fx_r k12 (p) 2 = some (p + 5) := t12
  have vr2_0 : fx_r k12 (p + 2) 0 = some (p + 3) := (r12 _ _ (xl (by decide)) (fun z => xb (by decide) z.1)).trans ((r11 _ _ (xl (by decide))).trans ((r10 _ _ (xl (by decide)) (fun z => xb (by decide) z.1)).trans ((r9 _ _ (xl (by decide)) (fun z => absurd z.2 (by decide))).trans ((r8 _ _ (xl (by decide))).trans (t7)))))
  have vr2_1 : fx_r k12 (p + 2) 1 = some (p + 4) := (r12 _ _ (xl (by decide)) (fun z => xb (by decide) z.1)).trans ((r11 _ _ (xl (by decide))).trans ((r10 _ _ (xl (by decide)) (fun z => xb (by decide) z.1)).trans (t9)))
  have vs0 : fx_s k12 (p) = some (.inl 7) := (s12 _ (xm (by decide))).trans ((s11 _ (xm (by decide))).trans ((s10 _ (xm (by decide))).trans ((s9 _ (xm (by decide))).trans ((s8 _ (xm (by decide))).trans ((s7 _ (xm (by decide))).trans ((s6 _ (xm (by decide))).trans ((s5 _ (xm (by decide))).trans ((s4 _ (xm (by decide))).trans ((s3 _ (xm (by decide))).trans ((s2 _ (xm (by decide))).trans ((s1 _ (xm (by decide))).trans (hp))))))))))))
  have vs1 : fx_s k12 (p + 1) = some (.inr (0, 2)) := (s12 _ (xl (by decide))).trans ((s11 _ (xl (by decide))).trans ((s10 _ (xl (by decide))).trans ((s9 _ (xl (by decide))).trans ((s8 _ (xl (by decide))).trans ((s7 _ (xl (by decide))).trans ((s6 _ (xl (by decide))).trans ((s5 _ (xl (by decide))).trans ((s4 _ (xl (by decide))).trans ((s3 _ (xl (by decide))).trans ((s2 _ (xl (by decide))).trans (t1)))))))))))
  have vs2 : fx_s k12 (p + 2) = some (.inr (4, 2)) := (s12 _ (xl (by decide))).trans ((s11 _ (xl (by decide))).trans ((s10 _ (xl (by decide))).trans ((s9 _ (xl (by decide))).trans ((s8 _ (xl (by decide))).trans ((s7 _ (xl (by decide))).trans ((s6 _ (xl (by decide))).trans (t5)))))))
  have vs3 : fx_s k12 (p + 3) = some (.inl 1) := (s12 _ (xl (by decide))).trans ((s11 _ (xl (by decide))).trans ((s10 _ (xl (by decide))).trans ((s9 _ (xl (by decide))).trans ((s8 _ (xl (by decide))).trans ((s7 _ (xl (by decide))).trans (t6))))))
  have vs4 : fx_s k12 (p + 4) = some (.inl 1) := (s12 _ (xl (by decide))).trans ((s11 _ (xl (by decide))).trans ((s10 _ (xl (by decide))).trans ((s9 _ (xl (by decide))).trans (t8))))
  have vN : isN k12 p := ⟨vs0, vr0_0, vs1, vr0_1, vs2, vr0_2, vm0, fun i hi => by
    obtain ⟨m1, m2⟩ := vm i hi
    rcases (by omega : i = 0 ∨ i = 1) with e | e
    · subst e; exact ⟨vr2_0, vs3, m1, m2⟩
    · subst e; exact ⟨vr2_1, vs4, m1, m2⟩⟩
  exact ⟨vN, (i12 _ _ (xl (by decide))).trans ((i11 _ _ (xl (by decide))).trans ((i10 _ _ (xl (by decide))).trans ((i9 _ _ (xl (by decide))).trans ((i8 _ _ (xl (by decide))).trans ((i7 _ _ (xl (by decide))).trans ((i6 _ _ (xl (by decide))).trans ((i5 _ _ (xl (by decide))).trans ((i4 _ _ (xl (by decide))).trans ((i3 _ _ (xl (by decide)) (fun z => absurd z.2 (by decide))).trans (t2)))))))))), (i12 _ _ (xl (by decide))).trans ((i11 _ _ (xl (by decide))).trans ((i10 _ _ (xl (by decide))).trans ((i9 _ _ (xl (by decide))).trans ((i8 _ _ (xl (by decide))).trans ((i7 _ _ (xl (by decide))).trans ((i6 _ _ (xl (by decide))).trans ((i5 _ _ (xl (by decide))).trans ((i4 _ _ (xl (by decide))).trans (t3)))))))))⟩
theorem is_BE_init {h : fx_H} {p : Nat} (hn : fx_n h = p + 1) (hp : fx_s h p = some (.inl 9)) : isB (k_BE_init h p) p := by
  obtain ⟨k1, e1⟩ : ∃ k, k = fx_nw h (.inl 7) := ⟨_, rfl⟩
  have n1 : fx_n k1 = p + 2 := by rw [e1, fx_n_nw, hn]
  have s1 : ∀ a, a < p + 1 → fx_s k1 a = fx_s h a := fun a ha => by rw [e1, fx_s_nw, if_neg (by rw [hn]; exact Nat.ne_of_lt ha)]
  have r1 : ∀ a j, a < p + 1 → fx_r k1 a j = fx_r h a j := fun a j ha => by rw [e1, fx_r_nw, if_neg (by rw [hn]; exact Nat.ne_of_lt ha)]
  have i1 : ∀ a j, a < p + 1 → fx_i k1 a j = fx_i h a j := fun a j ha => by rw [e1, fx_i_nw, if_neg (by rw [hn]; exact Nat.ne_of_lt ha)]
  have t1 : fx_s k1 (p + 1) = some (.inl 7) := by rw [e1, fx_s_nw, if_pos hn.symm]
  obtain ⟨k2, e2⟩ : ∃ k, k = k_PN_init k1 (p + 1) := ⟨_, rfl⟩
  have n2 : fx_n k2 = p + 9 := by rw [e2, n_PN_init n1]
  have s2 : ∀ a, a < p + 2 → fx_s k2 a = fx_s k1 a := fun a ha => by rw [e2, s_PN_init n1 ha]
  have r2 : ∀ a j, a < p + 1 → fx_r k2 a j = fx_r k1 a j := fun a j ha => by rw [e2, r_PN_init n1 ha]
  have i2 : ∀ a j, a < p + 1 → fx_i k2 a j = fx_i k1 a j := fun a j ha => by rw [e2, i_PN_init n1 ha]
  have t2 := is_PN_init n1 t1
  rw [← e2] at t2
  obtain ⟨k3, e3⟩ : ∃ k, k = fx_wr k2 (p) 0 (some (p + 1)) := ⟨_, rfl⟩
  have n3 : fx_n k3 = p + 9 := by rw [e3, fx_n_wr, n2]
  have s3 : ∀ a, a < p + 9 → fx_s k3 a = fx_s k2 a := fun a ha => by rw [e3, fx_s_wr]
  have r3 : ∀ a j, a < p + 9 → ¬ (a = p ∧ j = 0) → fx_r k3 a j = fx_r k2 a j := fun a j ha hb => by rw [e3, fx_r_wr, if_neg hb]
  have i3 : ∀ a j, a < p + 9 → fx_i k3 a j = fx_i k2 a j := fun a j ha => by rw [e3, fx_i_wr]
  have t3 : fx_r k3 (p) 0 = some (p + 1) := by rw [e3, fx_r_wr, if_pos ⟨rfl, rfl⟩]
  obtain ⟨k4, e4⟩ : ∃ k, k = fx_nw k3 (.inr (0, 200)) := ⟨_, rfl⟩
  have n4 : fx_n k4 = p + 10 := by rw [e4, fx_n_nw, n3]
  have s4 : ∀ a, a < p + 9 → fx_s k4 a = fx_s k3 a := fun a ha => by rw [e4, fx_s_nw, if_neg (by rw [n3]; exact Nat.ne_of_lt ha)]
  have r4 : ∀ a j, a < p + 9 → fx_r k4 a j = fx_r k3 a j := fun a j ha => by rw [e4, fx_r_nw, if_neg (by rw [n3]; exact Nat.ne_of_lt ha)]
  have i4 : ∀ a j, a < p + 9 → fx_i k4 a j = fx_i k3 a j := fun a j ha => by rw [e4, fx_i_nw, if_neg (by rw [n3]; exact Nat.ne_of_lt ha)]
  have t4 : fx_s k4 (p + 9) = some (.inr (0, 200)) := by rw [e4, fx_s_nw, if_pos n3.symm]
  obtain ⟨k5, e5⟩ : ∃ k, k = fx_wr k4 (p) 1 (some (p + 9)) := ⟨_, rfl⟩
  have n5 : fx_n k5 = p + 10 := by rw [e5, fx_n_wr, n4]
  have s5 : ∀ a, a < p + 10 → fx_s k5 a = fx_s k4 a := fun a ha => by rw [e5, fx_s_wr]
  have r5 : ∀ a j, a < p + 10 → ¬ (a = p ∧ j = 1) → fx_r k5 a j = fx_r k4 a j := fun a j ha hb => by rw [e5, fx_r_wr, if_neg hb]
  have i5 : ∀ a j, a < p + 10 → fx_i k5 a j = fx_i k4 a j := fun a j ha => by rw [e5, fx_i_wr]
  have t5 : fx_r k5 (p) 1 = some (p + 9) := by rw [e5, fx_r_wr, if_pos ⟨rfl, rfl⟩]
  obtain ⟨k6, e6⟩ : ∃ k, k = fx_nw k5 (.inr (0, 200)) := ⟨_, rfl⟩
  have n6 : fx_n k6 = p + 11 := by rw [e6, fx_n_nw, n5]
  have s6 : ∀ a, a < p + 10 → fx_s k6 a = fx_s k5 a := fun a ha => by rw [e6, fx_s_nw, if_neg (by rw [n5]; exact Nat.ne_of_lt ha)]
  have r6 : ∀ a j, a < p + 10 → fx_r k6 a j = fx_r k5 a j := fun a j ha => by rw [e6, fx_r_nw, if_neg (by rw [n5]; exact Nat.ne_of_lt ha)]
  have i6 : ∀ a j, a < p + 10 → fx_i k6 a j = fx_i k5 a j := fun a j ha => by rw [e6, fx_i_nw, if_neg (by rw [n5]; exact Nat.ne_of_lt ha)]
  have t6 : fx_s k6 (p + 10) = some (.inr (0, 200)) := by rw [e6, fx_s_nw, if_pos n5.symm]
  obtain ⟨k7, e7⟩ : ∃ k, k = fx_wr k6 (p) 2 (some (p + 10)) := ⟨_, rfl⟩
  have n7 : fx_n k7 = p + 11 := by rw [e7, fx_n_wr, n6]
  have s7 : ∀ a, a < p + 11 → fx_s k7 a = fx_s k6 a := fun a ha => by rw [e7, fx_s_wr]
  have r7 : ∀ a j, a < p + 11 → ¬ (a = p ∧ j = 2) → fx_r k7 a j = fx_r k6 a j := fun a j ha hb => by rw [e7, fx_r_wr, if_neg hb]
  have i7 : ∀ a j, a < p + 11 → fx_i k7 a j = fx_i k6 a j := fun a j ha => by rw [e7, fx_i_wr]
  have t7 : fx_r k7 (p) 2 = some (p + 10) := by rw [e7, fx_r_wr, if_pos ⟨rfl, rfl⟩]
  have eF : k_BE_init h p = k7 := by rw [e7, e6, e5, e4, e3, e2, e1]; rfl
  rw [eF]
  clear eF e1 e2 e3 e4 e5 e6 e7
  have vs0 : fx_s k7 (p) = some (.inl 9) := (s7 _ (xm (by decide))).trans ((s6 _ (xm (by decide))).trans ((s5 _ (xm (by decide))).trans ((s4 _ (xm (by decide))).trans ((s3 _ (xm (by decide))).trans ((s2 _ (xm (by decide))).trans ((s1 _ (xm (by decide))).trans (hp)))))))
  have vr0_0 : fx_r k7 (p) 0 = some (p + 1) := (r7 _ _ (xm (by decide)) (fun z => absurd z.2 (by decide))).trans ((r6 _ _ (xm (by decide))).trans ((r5 _ _ (xm (by decide)) (fun z => absurd z.2 (by decide))).trans ((r4 _ _ (xm (by decide))).trans (t3))))
  have u1_2 : isN k2 (p + 1) := t2.1
  have u1_3 : isN k3 (p + 1) := isN_kp (fun a h1 h2 => ⟨s3 a (xd h2 (by decide)), fun j => r3 a j (xd h2 (by decide)) (fun z => xe h1 (by decide) z.1)⟩) u1_2
  have u1_4 : isN k4 (p + 1) := isN_kp (fun a h1 h2 => ⟨s4 a (xd h2 (by decide)), fun j => r4 a j (xd h2 (by decide))⟩) u1_3
  have u1_5 : isN k5 (p + 1) := isN_kp (fun a h1 h2 => ⟨s5 a (xd h2 (by decide)), fun j => r5 a j (xd h2 (by decide)) (fun z => xe h1 (by decide) z.1)⟩) u1_4
  have u1_6 : isN k6 (p + 1) := isN_kp (fun a h1 h2 => ⟨s6 a (xd h2 (by decide)), fun j => r6 a j (xd h2 (by decide))⟩) u1_5
  have u1_7 : isN k7 (p + 1) := isN_kp (fun a h1 h2 => ⟨s7 a (xd h2 (by decide)), fun j => r7 a j (xd h2 (by decide)) (fun z => xe h1 (by decide) z.1)⟩) u1_6
  have vr0_1 : fx_r k7 (p) 1 = some (p + 9) := (r7 _ _ (xm (by decide)) (fun z => absurd z.2 (by decide))).trans ((r6 _ _ (xm (by decide))).trans (t5))
  have vs9 : fx_s k7 (p + 9) = some (.inr (0, 200)) := (s7 _ (xl (by decide))).trans ((s6 _ (xl (by decide))).trans ((s5 _ (xl (by decide))).trans (t4)))
  have vr0_2 : fx_r k7 (p) 2 = some (p + 10) := t7
  have vs10 : fx_s k7 (p + 10) = some (.inr (0, 200)) := (s7 _ (xl (by decide))).trans (t6)
  exact ⟨vs0, vr0_0, u1_7, vr0_1, vs9, vr0_2, vs10⟩
theorem is_CO_init {h : fx_H} {p : Nat} (hn : fx_n h = p + 1) (hp : fx_s h p = some (.inl 8)) : isC (k_CO_init h p) p (p + 54) (p + 65) := by
  obtain ⟨k1, e1⟩ : ∃ k, k = fx_nw h (.inl 3) := ⟨_, rfl⟩
  have n1 : fx_n k1 = p + 2 := by rw [e1, fx_n_nw, hn]
  have s1 : ∀ a, a < p + 1 → fx_s k1 a = fx_s h a := fun a ha => by rw [e1, fx_s_nw, if_neg (by rw [hn]; exact Nat.ne_of_lt ha)]
  have r1 : ∀ a j, a < p + 1 → fx_r k1 a j = fx_r h a j := fun a j ha => by rw [e1, fx_r_nw, if_neg (by rw [hn]; exact Nat.ne_of_lt ha)]
  have i1 : ∀ a j, a < p + 1 → fx_i k1 a j = fx_i h a j := fun a j ha => by rw [e1, fx_i_nw, if_neg (by rw [hn]; exact Nat.ne_of_lt ha)]
  have t1 : fx_s k1 (p + 1) = some (.inl 3) := by rw [e1, fx_s_nw, if_pos hn.symm]
  obtain ⟨k2, e2⟩ : ∃ k, k = k_PL_init k1 (p + 1) := ⟨_, rfl⟩
  have n2 : fx_n k2 = p + 44 := by rw [e2, n_PL_init n1]
  have s2 : ∀ a, a < p + 2 → fx_s k2 a = fx_s k1 a := fun a ha => by rw [e2, s_PL_init n1 ha]
  have r2 : ∀ a j, a < p + 1 → fx_r k2 a j = fx_r k1 a j := fun a j ha => by rw [e2, r_PL_init n1 ha]
  have i2 : ∀ a j, a < p + 1 → fx_i k2 a j = fx_i k1 a j := fun a j ha => by rw [e2, i_PL_init n1 ha]
  have t2 := is_PL_init n1 t1
  rw [← e2] at t2
  obtain ⟨k3, e3⟩ : ∃ k, k = fx_wr k2 (p) 0 (some (p + 1)) := ⟨_, rfl⟩
  have n3 : fx_n k3 = p + 44 := by rw [e3, fx_n_wr, n2]
  have s3 : ∀ a, a < p + 44 → fx_s k3 a = fx_s k2 a := fun a ha => by rw [e3, fx_s_wr]
  have r3 : ∀ a j, a < p + 44 → ¬ (a = p ∧ j = 0) → fx_r k3 a j = fx_r k2 a j := fun a j ha hb => by rw [e3, fx_r_wr, if_neg hb]
  have i3 : ∀ a j, a < p + 44 → fx_i k3 a j = fx_i k2 a j := fun a j ha => by rw [e3, fx_i_wr]
  have t3 : fx_r k3 (p) 0 = some (p + 1) := by rw [e3, fx_r_wr, if_pos ⟨rfl, rfl⟩]
  obtain ⟨k4, e4⟩ : ∃ k, k = fx_nw k3 (.inl 7) := ⟨_, rfl⟩
  have n4 : fx_n k4 = p + 45 := by rw [e4, fx_n_nw, n3]
  have s4 : ∀ a, a < p + 44 → fx_s k4 a = fx_s k3 a := fun a ha => by rw [e4, fx_s_nw, if_neg (by rw [n3]; exact Nat.ne_of_lt ha)]
  have r4 : ∀ a j, a < p + 44 → fx_r k4 a j = fx_r k3 a j := fun a j ha => by rw [e4, fx_r_nw, if_neg (by rw [n3]; exact Nat.ne_of_lt ha)]
  have i4 : ∀ a j, a < p + 44 → fx_i k4 a j = fx_i k3 a j := fun a j ha => by rw [e4, fx_i_nw, if_neg (by rw [n3]; exact Nat.ne_of_lt ha)]
  have t4 : fx_s k4 (p + 44) = some (.inl 7) := by rw [e4, fx_s_nw, if_pos n3.symm]
  obtain ⟨k5, e5⟩ : ∃ k, k = k_PN_init k4 (p + 44) := ⟨_, rfl⟩
  have n5 : fx_n k5 = p + 52 := by rw [e5, n_PN_init n4]
  have s5 : ∀ a, a < p + 45 → fx_s k5 a = fx_s k4 a := fun a ha => by rw [e5, s_PN_init n4 ha]
  have r5 : ∀ a j, a < p + 44 → fx_r k5 a j = fx_r k4 a j := fun a j ha => by rw [e5, r_PN_init n4 ha]
  have i5 : ∀ a j, a < p + 44 → fx_i k5 a j = fx_i k4 a j := fun a j ha => by rw [e5, i_PN_init n4 ha]
  have t5 := is_PN_init n4 t4
  rw [← e5] at t5
  obtain ⟨k6, e6⟩ : ∃ k, k = fx_wr k5 (p) 1 (some (p + 44)) := ⟨_, rfl⟩
  have n6 : fx_n k6 = p + 52 := by rw [e6, fx_n_wr, n5]
  have s6 : ∀ a, a < p + 52 → fx_s k6 a = fx_s k5 a := fun a ha => by rw [e6, fx_s_wr]
  have r6 : ∀ a j, a < p + 52 → ¬ (a = p ∧ j = 1) → fx_r k6 a j = fx_r k5 a j := fun a j ha hb => by rw [e6, fx_r_wr, if_neg hb]
  have i6 : ∀ a j, a < p + 52 → fx_i k6 a j = fx_i k5 a j := fun a j ha => by rw [e6, fx_i_wr]
  have t6 : fx_r k6 (p) 1 = some (p + 44) := by rw [e6, fx_r_wr, if_pos ⟨rfl, rfl⟩]
  obtain ⟨k7, e7⟩ : ∃ k, k = fx_nw k6 (.inr (1, 10)) := ⟨_, rfl⟩
  have n7 : fx_n k7 = p + 53 := by rw [e7, fx_n_nw, n6]
  have s7 : ∀ a, a < p + 52 → fx_s k7 a = fx_s k6 a := fun a ha => by rw [e7, fx_s_nw, if_neg (by rw [n6]; exact Nat.ne_of_lt ha)]
  have r7 : ∀ a j, a < p + 52 → fx_r k7 a j = fx_r k6 a j := fun a j ha => by rw [e7, fx_r_nw, if_neg (by rw [n6]; exact Nat.ne_of_lt ha)]
  have i7 : ∀ a j, a < p + 52 → fx_i k7 a j = fx_i k6 a j := fun a j ha => by rw [e7, fx_i_nw, if_neg (by rw [n6]; exact Nat.ne_of_lt ha)]
  have t7 : fx_s k7 (p + 52) = some (.inr (1, 10)) := by rw [e7, fx_s_nw, if_pos n6.symm]
  obtain ⟨k8, e8⟩ : ∃ k, k = fx_wr k7 (p) 2 (some (p + 52)) := ⟨_, rfl⟩
  have n8 : fx_n k8 = p + 53 := by rw [e8, fx_n_wr, n7]
  have s8 : ∀ a, a < p + 53 → fx_s k8 a = fx_s k7 a := fun a ha => by rw [e8, fx_s_wr]
  have r8 : ∀ a j, a < p + 53 → ¬ (a = p ∧ j = 2) → fx_r k8 a j = fx_r k7 a j := fun a j ha hb => by rw [e8, fx_r_wr, if_neg hb]
  have i8 : ∀ a j, a < p + 53 → fx_i k8 a j = fx_i k7 a j := fun a j ha => by rw [e8, fx_i_wr]
  have t8 : fx_r k8 (p) 2 = some (p + 52) := by rw [e8, fx_r_wr, if_pos ⟨rfl, rfl⟩]
  obtain ⟨k9, e9⟩ : ∃ k, k = fx_nw k8 (.inr (4, 10)) := ⟨_, rfl⟩
  have n9 : fx_n k9 = p + 54 := by rw [e9, fx_n_nw, n8]
  have s9 : ∀ a, a < p + 53 → fx_s k9 a = fx_s k8 a := fun a ha => by rw [e9, fx_s_nw, if_neg (by rw [n8]; exact Nat.ne_of_lt ha)]
  have r9 : ∀ a j, a < p + 53 → fx_r k9 a j = fx_r k8 a j := fun a j ha => by rw [e9, fx_r_nw, if_neg (by rw [n8]; exact Nat.ne_of_lt ha)]
  have i9 : ∀ a j, a < p + 53 → fx_i k9 a j = fx_i k8 a j := fun a j ha => by rw [e9, fx_i_nw, if_neg (by rw [n8]; exact Nat.ne_of_lt ha)]
  have t9 : fx_s k9 (p + 53) = some (.inr (4, 10)) := by rw [e9, fx_s_nw, if_pos n8.symm]
  obtain ⟨k10, e10⟩ : ∃ k, k = fx_wr k9 (p) 3 (some (p + 53)) := ⟨_, rfl⟩
  have n10 : fx_n k10 = p + 54 := by rw [e10, fx_n_wr, n9]
  have s10 : ∀ a, a < p + 54 → fx_s k10 a = fx_s k9 a := fun a ha => by rw [e10, fx_s_wr]
  have r10 : ∀ a j, a < p + 54 → ¬ (a = p ∧ j = 3) → fx_r k10 a j = fx_r k9 a j := fun a j ha hb => by rw [e10, fx_r_wr, if_neg hb]
  have i10 : ∀ a j, a < p + 54 → fx_i k10 a j = fx_i k9 a j := fun a j ha => by rw [e10, fx_i_wr]
  have t10 : fx_r k10 (p) 3 = some (p + 53) := by rw [e10, fx_r_wr, if_pos ⟨rfl, rfl⟩]
  obtain ⟨k11, e11⟩ : ∃ k, k = fx_nw k10 (.inl 6) := ⟨_, rfl⟩
  have n11 : fx_n k11 = p + 55 := by rw [e11, fx_n_nw, n10]
  have s11 : ∀ a, a < p + 54 → fx_s k11 a = fx_s k10 a := fun a ha => by rw [e11, fx_s_nw, if_neg (by rw [n10]; exact Nat.ne_of_lt ha)]
  have r11 : ∀ a j, a < p + 54 → fx_r k11 a j = fx_r k10 a j := fun a j ha => by rw [e11, fx_r_nw, if_neg (by rw [n10]; exact Nat.ne_of_lt ha)]
  have i11 : ∀ a j, a < p + 54 → fx_i k11 a j = fx_i k10 a j := fun a j ha => by rw [e11, fx_i_nw, if_neg (by rw [n10]; exact Nat.ne_of_lt ha)]
  have t11 : fx_s k11 (p + 54) = some (.inl 6) := by rw [e11, fx_s_nw, if_pos n10.symm]
  obtain ⟨k12, e12⟩ : ∃ k, k = k_ME_init k11 (p + 54) := ⟨_, rfl⟩
  have n12 : fx_n k12 = p + 65 := by rw [e12, n_ME_init n11]
  have s12 : ∀ a, a < p + 55 → fx_s k12 a = fx_s k11 a := fun a ha => by rw [e12, s_ME_init n11 ha]
  have r12 : ∀ a j, a < p + 54 → fx_r k12 a j = fx_r k11 a j := fun a j ha => by rw [e12, r_ME_init n11 ha]
  have i12 : ∀ a j, a < p + 54 → fx_i k12 a j = fx_i k11 a j := fun a j ha => by rw [e12, i_ME_init n11 ha]
  have t12 := is_ME_init n11 t11
  rw [← e12] at t12
  obtain ⟨k13, e13⟩ : ∃ k, k = fx_wr k12 (p) 4 (some (p + 54)) := ⟨_, rfl⟩
  have n13 : fx_n k13 = p + 65 := by rw [e13, fx_n_wr, n12]
  have s13 : ∀ a, a < p + 65 → fx_s k13 a = fx_s k12 a := fun a ha => by rw [e13, fx_s_wr]
  have r13 : ∀ a j, a < p + 65 → ¬ (a = p ∧ j = 4) → fx_r k13 a j = fx_r k12 a j := fun a j ha hb => by rw [e13, fx_r_wr, if_neg hb]
  have i13 : ∀ a j, a < p + 65 → fx_i k13 a j = fx_i k12 a j := fun a j ha => by rw [e13, fx_i_wr]
  have t13 : fx_r k13 (p) 4 = some (p + 54) := by rw [e13, fx_r_wr, if_pos ⟨rfl, rfl⟩]
  obtain ⟨k14, e14⟩ : ∃ k, k = fx_nw k13 (.inl 6) := ⟨_, rfl⟩
  have n14 : fx_n k14 = p + 66 := by rw [e14, fx_n_nw, n13]
  have s14 : ∀ a, a < p + 65 → fx_s k14 a = fx_s k13 a := fun a ha => by rw [e14, fx_s_nw, if_neg (by rw [n13]; exact Nat.ne_of_lt ha)]
  have r14 : ∀ a j, a < p + 65 → fx_r k14 a j = fx_r k13 a j := fun a j ha => by rw [e14, fx_r_nw, if_neg (by rw [n13]; exact Nat.ne_of_lt ha)]
  have i14 : ∀ a j, a < p + 65 → fx_i k14 a j = fx_i k13 a j := fun a j ha => by rw [e14, fx_i_nw, if_neg (by rw [n13]; exact Nat.ne_of_lt ha)]
  have t14 : fx_s k14 (p + 65) = some (.inl 6) := by rw [e14, fx_s_nw, if_pos n13.symm]
  obtain ⟨k15, e15⟩ : ∃ k, k = k_ME_init k14 (p + 65) := ⟨_, rfl⟩
  have n15 : fx_n k15 = p + 76 := by rw [e15, n_ME_init n14]
  have s15 : ∀ a, a < p + 66 → fx_s k15 a = fx_s k14 a := fun a ha => by rw [e15, s_ME_init n14 ha]
  have r15 : ∀ a j, a < p + 65 → fx_r k15 a j = fx_r k14 a j := fun a j ha => by rw [e15, r_ME_init n14 ha]
  have i15 : ∀ a j, a < p + 65 → fx_i k15 a j = fx_i k14 a j := fun a j ha => by rw [e15, i_ME_init n14 ha]
  have t15 := is_ME_init n14 t14
  rw [← e15] at t15
  obtain ⟨k16, e16⟩ : ∃ k, k = fx_wr k15 (p) 5 (some (p + 65)) := ⟨_, rfl⟩
  have n16 : fx_n k16 = p + 76 := by rw [e16, fx_n_wr, n15]
  have s16 : ∀ a, a < p + 76 → fx_s k16 a = fx_s k15 a := fun a ha => by rw [e16, fx_s_wr]
  have r16 : ∀ a j, a < p + 76 → ¬ (a = p ∧ j = 5) → fx_r k16 a j = fx_r k15 a j := fun a j ha hb => by rw [e16, fx_r_wr, if_neg hb]
  have i16 : ∀ a j, a < p + 76 → fx_i k16 a j = fx_i k15 a j := fun a j ha => by rw [e16, fx_i_wr]
  have t16 : fx_r k16 (p) 5 = some (p + 65) := by rw [e16, fx_r_wr, if_pos ⟨rfl, rfl⟩]
  obtain ⟨k17, e17⟩ : ∃ k, k = fx_wi k16 (p) 6 (0) := ⟨_, rfl⟩
  have n17 : fx_n k17 = p + 76 := by rw [e17, fx_n_wi, n16]
  have s17 : ∀ a, a < p + 76 → fx_s k17 a = fx_s k16 a := fun a ha => by rw [e17, fx_s_wi]
  have r17 : ∀ a j, a < p + 76 → fx_r k17 a j = fx_r k16 a j := fun a j ha => by rw [e17, fx_r_wi]
  have i17 : ∀ a j, a < p + 76 → ¬ (a = p ∧ j = 6) → fx_i k17 a j = fx_i k16 a j := fun a j ha hb => by rw [e17, fx_i_wi, if_neg hb]
  have t17 : fx_i k17 (p) 6 = 0 := by rw [e17, fx_i_wi, if_pos ⟨rfl, rfl⟩]
  obtain ⟨k18, e18⟩ : ∃ k, k = it (b_CO_init p) k17 10 := ⟨_, rfl⟩
  have l18 := it_CO_init n17 10
  rw [← e18] at l18
  have n18 : fx_n k18 = p + 86 := by rw [l18.1]
  have s18 : ∀ a, a < p + 76 → fx_s k18 a = fx_s k17 a := fun a ha => l18.2.1 a ha
  have r18 : ∀ a j, a < p + 76 → a ≠ p + 53 → fx_r k18 a j = fx_r k17 a j := fun a j ha hb => l18.2.2 a j ha hb
  have t18 := ls_CO_init n17 10 (Nat.le_refl _)
  rw [← e18] at t18
  have eF : k_CO_init h p = k18 := by rw [e18, e17, e16, e15, e14, e13, e12, e11, e10, e9, e8, e7, e6, e5, e4, e3, e2, e1]; rfl
  rw [eF]
  clear eF e1 e2 e3 e4 e5 e6 e7 e8 e9 e10 e11 e12 e13 e14 e15 e16 e17 e18
  have vs0 : fx_s k18 (p) = some (.inl 8) := (s18 _ (xm (by decide))).trans ((s17 _ (xm (by decide))).trans ((s16 _ (xm (by decide))).trans ((s15 _ (xm (by decide))).trans ((s14 _ (xm (by decide))).trans ((s13 _ (xm (by decide))).trans ((s12 _ (xm (by decide))).trans ((s11 _ (xm (by decide))).trans ((s10 _ (xm (by decide))).trans ((s9 _ (xm (by decide))).trans ((s8 _ (xm (by decide))).trans ((s7 _ (xm (by decide))).trans ((s6 _ (xm (by decide))).trans ((s5 _ (xm (by decide))).trans ((s4 _ (xm (by decide))).trans ((s3 _ (xm (by decide))).trans ((s2 _ (xm (by decide))).trans ((s1 _ (xm (by decide))).trans (hp))))))))))))))))))
  have vr0_0 : fx_r k18 (p) 0 = some (p + 1) := (r18 _ _ (xm (by decide)) (xa (by decide))).trans ((r17 _ _ (xm (by decide))).trans ((r16 _ _ (xm (by decide)) (fun z => absurd z.2 (by decide))).trans ((r15 _ _ (xm (by decide))).trans ((r14 _ _ (xm (by decide))).trans ((r13 _ _ (xm (by decide)) (fun z => absurd z.2 (by decide))).trans ((r12 _ _ (xm (by decide))).trans ((r11 _ _ (xm (by decide))).trans ((r10 _ _ (xm (by decide)) (fun z => absurd z.2 (by decide))).trans ((r9 _ _ (xm (by decide))).trans ((r8 _ _ (xm (by decide)) (fun z => absurd z.2 (by decide))).trans ((r7 _ _ (xm (by decide))).trans ((r6 _ _ (xm (by decide)) (fun z => absurd z.2 (by decide))).trans ((r5 _ _ (xm (by decide))).trans ((r4 _ _ (xm (by decide))).trans (t3)))))))))))))))
  have u1_2 : isL k2 (p + 1) := t2
  have u1_3 : isL k3 (p + 1) := isL_kp (fun a h1 h2 => ⟨s3 a (xd h2 (by decide)), fun j => r3 a j (xd h2 (by decide)) (fun z => xe h1 (by decide) z.1)⟩) u1_2
  have u1_4 : isL k4 (p + 1) := isL_kp (fun a h1 h2 => ⟨s4 a (xd h2 (by decide)), fun j => r4 a j (xd h2 (by decide))⟩) u1_3
  have u1_5 : isL k5 (p + 1) := isL_kp (fun a h1 h2 => ⟨s5 a (xd h2 (by decide)), fun j => r5 a j (xd h2 (by decide))⟩) u1_4
  have u1_6 : isL k6 (p + 1) := isL_kp (fun a h1 h2 => ⟨s6 a (xd h2 (by decide)), fun j => r6 a j (xd h2 (by decide)) (fun z => xe h1 (by decide) z.1)⟩) u1_5
  have u1_7 : isL k7 (p + 1) := isL_kp (fun a h1 h2 => ⟨s7 a (xd h2 (by decide)), fun j => r7 a j (xd h2 (by decide))⟩) u1_6
  have u1_8 : isL k8 (p + 1) := isL_kp (fun a h1 h2 => ⟨s8 a (xd h2 (by decide)), fun j => r8 a j (xd h2 (by decide)) (fun z => xe h1 (by decide) z.1)⟩) u1_7
  have u1_9 : isL k9 (p + 1) := isL_kp (fun a h1 h2 => ⟨s9 a (xd h2 (by decide)), fun j => r9 a j (xd h2 (by decide))⟩) u1_8
  have u1_10 : isL k10 (p + 1) := isL_kp (fun a h1 h2 => ⟨s10 a (xd h2 (by decide)), fun j => r10 a j (xd h2 (by decide)) (fun z => xe h1 (by decide) z.1)⟩) u1_9
  have u1_11 : isL k11 (p + 1) := isL_kp (fun a h1 h2 => ⟨s11 a (xd h2 (by decide)), fun j => r11 a j (xd h2 (by decide))⟩) u1_10
  have u1_12 : isL k12 (p + 1) := isL_kp (fun a h1 h2 => ⟨s12 a (xd h2 (by decide)), fun j => r12 a j (xd h2 (by decide))⟩) u1_11
  have u1_13 : isL k13 (p + 1) := isL_kp (fun a h1 h2 => ⟨s13 a (xd h2 (by decide)), fun j => r13 a j (xd h2 (by decide)) (fun z => xe h1 (by decide) z.1)⟩) u1_12
  have u1_14 : isL k14 (p + 1) := isL_kp (fun a h1 h2 => ⟨s14 a (xd h2 (by decide)), fun j => r14 a j (xd h2 (by decide))⟩) u1_13
  have u1_15 : isL k15 (p + 1) := isL_kp (fun a h1 h2 => ⟨s15 a (xd h2 (by decide)), fun j => r15 a j (xd h2 (by decide))⟩) u1_14
  have u1_16 : isL k16 (p + 1) := isL_kp (fun a h1 h2 => ⟨s16 a (xd h2 (by decide)), fun j => r16 a j (xd h2 (by decide)) (fun z => xe h1 (by decide) z.1)⟩) u1_15
  have u1_17 : isL k17 (p + 1) := isL_kp (fun a h1 h2 => ⟨s17 a (xd h2 (by decide)), fun j => r17 a j (xd h2 (by decide))⟩) u1_16
  have u1_18 : isL k18 (p + 1) := isL_kp (fun a h1 h2 => ⟨s18 a (xd h2 (by decide)), fun j => r18 a j (xd h2 (by decide)) (xg h2 (by decide))⟩) u1_17
  have vr0_1 : fx_r k18 (p) 1 = some (p + 44) := (r18 _ _ (xm (by decide)) (xa (by decide))).trans ((r17 _ _ (xm (by decide))).trans ((r16 _ _ (xm (by decide)) (fun z => absurd z.2 (by decide))).trans ((r15 _ _ (xm (by decide))).trans ((r14 _ _ (xm (by decide))).trans ((r13 _ _ (xm (by decide)) (fun z => absurd z.2 (by decide))).trans ((r12 _ _ (xm (by decide))).trans ((r11 _ _ (xm (by decide))).trans ((r10 _ _ (xm (by decide)) (fun z => absurd z.2 (by decide))).trans ((r9 _ _ (xm (by decide))).trans ((r8 _ _ (xm (by decide)) (fun z => absurd z.2 (by decide))).trans ((r7 _ _ (xm (by decide))).trans (t6))))))))))))
  have u44_5 : isN k5 (p + 44) := t5.1
  have u44_6 : isN k6 (p + 44) := isN_kp (fun a h1 h2 => ⟨s6 a (xd h2 (by decide)), fun j => r6 a j (xd h2 (by decide)) (fun z => xe h1 (by decide) z.1)⟩) u44_5
  have u44_7 : isN k7 (p + 44) := isN_kp (fun a h1 h2 => ⟨s7 a (xd h2 (by decide)), fun j => r7 a j (xd h2 (by decide))⟩) u44_6
  have u44_8 : isN k8 (p + 44) := isN_kp (fun a h1 h2 => ⟨s8 a (xd h2 (by decide)), fun j => r8 a j (xd h2 (by decide)) (fun z => xe h1 (by decide) z.1)⟩) u44_7
  have u44_9 : isN k9 (p + 44) := isN_kp (fun a h1 h2 => ⟨s9 a (xd h2 (by decide)), fun j => r9 a j (xd h2 (by decide))⟩) u44_8
  have u44_10 : isN k10 (p + 44) := isN_kp (fun a h1 h2 => ⟨s10 a (xd h2 (by decide)), fun j => r10 a j (xd h2 (by decide)) (fun z => xe h1 (by decide) z.1)⟩) u44_9
  have u44_11 : isN k11 (p + 44) := isN_kp (fun a h1 h2 => ⟨s11 a (xd h2 (by decide)), fun j => r11 a j (xd h2 (by decide))⟩) u44_10
  have u44_12 : isN k12 (p + 44) := isN_kp (fun a h1 h2 => ⟨s12 a (xd h2 (by decide)), fun j => r12 a j (xd h2 (by decide))⟩) u44_11
  have u44_13 : isN k13 (p + 44) := isN_kp (fun a h1 h2 => ⟨s13 a (xd h2 (by decide)), fun j => r13 a j (xd h2 (by decide)) (fun z => xe h1 (by decide) z.1)⟩) u44_12
  have u44_14 : isN k14 (p + 44) := isN_kp (fun a h1 h2 => ⟨s14 a (xd h2 (by decide)), fun j => r14 a j (xd h2 (by decide))⟩) u44_13
  have u44_15 : isN k15 (p + 44) := isN_kp (fun a h1 h2 => ⟨s15 a (xd h2 (by decide)), fun j => r15 a j (xd h2 (by decide))⟩) u44_14
  have u44_16 : isN k16 (p + 44) := isN_kp (fun a h1 h2 => ⟨s16 a (xd h2 (by decide)), fun j => r16 a j (xd h2 (by decide)) (fun z => xe h1 (by decide) z.1)⟩) u44_15
  have u44_17 : isN k17 (p + 44) := isN_kp (fun a h1 h2 => ⟨s17 a (xd h2 (by decide)), fun j => r17 a j (xd h2 (by decide))⟩) u44_16
  have u44_18 : isN k18 (p + 44) := isN_kp (fun a h1 h2 => ⟨s18 a (xd h2 (by decide)), fun j => r18 a j (xd h2 (by decide)) (xg h2 (by decide))⟩) u44_17
  have vr0_2 : fx_r k18 (p) 2 = some (p + 52) := (r18 _ _ (xm (by decide)) (xa (by decide))).trans ((r17 _ _ (xm (by decide))).trans ((r16 _ _ (xm (by decide)) (fun z => absurd z.2 (by decide))).trans ((r15 _ _ (xm (by decide))).trans ((r14 _ _ (xm (by decide))).trans ((r13 _ _ (xm (by decide)) (fun z => absurd z.2 (by decide))).trans ((r12 _ _ (xm (by decide))).trans ((r11 _ _ (xm (by decide))).trans ((r10 _ _ (xm (by decide)) (fun z => absurd z.2 (by decide))).trans ((r9 _ _ (xm (by decide))).trans (t8))))))))))
  have vs52 : fx_s k18 (p + 52) = some (.inr (1, 10)) := (s18 _ (xl (by decide))).trans ((s17 _ (xl (by decide))).trans ((s16 _ (xl (by decide))).trans ((s15 _ (xl (by decide))).trans ((s14 _ (xl (by decide))).trans ((s13 _ (xl (by decide))).trans ((s12 _ (xl (by decide))).trans ((s11 _ (xl (by decide))).trans ((s10 _ (xl (by decide))).trans ((s9 _ (xl (by decide))).trans ((s8 _ (xl (by decide))).trans (t7)))))))))))
  have vr0_3 : fx_r k18 (p) 3 = some (p + 53) := (r18 _ _ (xm (by decide)) (xa (by decide))).trans ((r17 _ _ (xm (by decide))).trans ((r16 _ _ (xm (by decide)) (fun z => absurd z.2 (by decide))).trans ((r15 _ _ (xm (by decide))).trans ((r14 _ _ (xm (by decide))).trans ((r13 _ _ (xm (by decide)) (fun z => absurd z.2 (by decide))).trans ((r12 _ _ (xm (by decide))).trans ((r11 _ _ (xm (by decide))).trans (t10))))))))
  have vs53 : fx_s k18 (p + 53) = some (.inr (4, 10)) := (s18 _ (xl (by decide))).trans ((s17 _ (xl (by decide))).trans ((s16 _ (xl (by decide))).trans ((s15 _ (xl (by decide))).trans ((s14 _ (xl (by decide))).trans ((s13 _ (xl (by decide))).trans ((s12 _ (xl (by decide))).trans ((s11 _ (xl (by decide))).trans ((s10 _ (xl (by decide))).trans (t9)))))))))
  have vr0_4 : fx_r k18 (p) 4 = some (p + 54) := (r18 _ _ (xm (by decide)) (xa (by decide))).trans ((r17 _ _ (xm (by decide))).trans ((r16 _ _ (xm (by decide)) (fun z => absurd z.2 (by decide))).trans ((r15 _ _ (xm (by decide))).trans ((r14 _ _ (xm (by decide))).trans (t13)))))
  have u54_12 : isE k12 (p + 54) := t12
  have u54_13 : isE k13 (p + 54) := isE_kp (fun a h1 h2 => ⟨s13 a (xd h2 (by decide)), fun j => r13 a j (xd h2 (by decide)) (fun z => xe h1 (by decide) z.1)⟩) u54_12
  have u54_14 : isE k14 (p + 54) := isE_kp (fun a h1 h2 => ⟨s14 a (xd h2 (by decide)), fun j => r14 a j (xd h2 (by decide))⟩) u54_13
  have u54_15 : isE k15 (p + 54) := isE_kp (fun a h1 h2 => ⟨s15 a (xd h2 (by decide)), fun j => r15 a j (xd h2 (by decide))⟩) u54_14
  have u54_16 : isE k16 (p + 54) := isE_kp (fun a h1 h2 => ⟨s16 a (xd h2 (by decide)), fun j => r16 a j (xd h2 (by decide)) (fun z => xe h1 (by decide) z.1)⟩) u54_15
  have u54_17 : isE k17 (p + 54) := isE_kp (fun a h1 h2 => ⟨s17 a (xd h2 (by decide)), fun j => r17 a j (xd h2 (by decide))⟩) u54_16
  have u54_18 : isE k18 (p + 54) := isE_kp (fun a h1 h2 => ⟨s18 a (xd h2 (by decide)), fun j => r18 a j (xd h2 (by decide)) (xf h1 (by decide))⟩) u54_17
  have vr0_5 : fx_r k18 (p) 5 = some (p + 65) := (r18 _ _ (xm (by decide)) (xa (by decide))).trans ((r17 _ _ (xm (by decide))).trans (t16))
  have u65_15 : isE k15 (p + 65) := t15
  have u65_16 : isE k16 (p + 65) := isE_kp (fun a h1 h2 => ⟨s16 a (xd h2 (by decide)), fun j => r16 a j (xd h2 (by decide)) (fun z => xe h1 (by decide) z.1)⟩) u65_15
  have u65_17 : isE k17 (p + 65) := isE_kp (fun a h1 h2 => ⟨s17 a (xd h2 (by decide)), fun j => r17 a j (xd h2 (by decide))⟩) u65_16
  have u65_18 : isE k18 (p + 65) := isE_kp (fun a h1 h2 => ⟨s18 a (xd h2 (by decide)), fun j => r18 a j (xd h2 (by decide)) (xf h1 (by decide))⟩) u65_17
  exact ⟨vs0, vr0_0, u1_18, vr0_1, u44_18, vr0_2, vs52, vr0_3, vs53, vr0_4, u54_18, vr0_5, u65_18, t18, Or.inl ⟨rfl, rfl⟩⟩
theorem is_FS_init {h : fx_H} {p : Nat} (hn : fx_n h = p + 1) (hp : fx_s h p = some (.inl 0)) : isF (k_FS_init h p) p (p + 143) (p + 154) := by
  obtain ⟨k1, e1⟩ : ∃ k, k = fx_nw h (.inl 4) := ⟨_, rfl⟩
  have n1 : fx_n k1 = p + 2 := by rw [e1, fx_n_nw, hn]
  have s1 : ∀ a, a < p + 1 → fx_s k1 a = fx_s h a := fun a ha => by rw [e1, fx_s_nw, if_neg (by rw [hn]; exact Nat.ne_of_lt ha)]
  have r1 : ∀ a j, a < p + 1 → fx_r k1 a j = fx_r h a j := fun a j ha => by rw [e1, fx_r_nw, if_neg (by rw [hn]; exact Nat.ne_of_lt ha)]
  have i1 : ∀ a j, a < p + 1 → fx_i k1 a j = fx_i h a j := fun a j ha => by rw [e1, fx_i_nw, if_neg (by rw [hn]; exact Nat.ne_of_lt ha)]
  have t1 : fx_s k1 (p + 1) = some (.inl 4) := by rw [e1, fx_s_nw, if_pos hn.symm]
  obtain ⟨k2, e2⟩ : ∃ k, k = k_DE_init k1 (p + 1) := ⟨_, rfl⟩
  have n2 : fx_n k2 = p + 89 := by rw [e2, n_DE_init n1]
  have s2 : ∀ a, a < p + 2 → fx_s k2 a = fx_s k1 a := fun a ha => by rw [e2, s_DE_init n1 ha]
  have r2 : ∀ a j, a < p + 1 → fx_r k2 a j = fx_r k1 a j := fun a j ha => by rw [e2, r_DE_init n1 ha]
  have i2 : ∀ a j, a < p + 1 → fx_i k2 a j = fx_i k1 a j := fun a j ha => by rw [e2, i_DE_init n1 ha]
  have t2 := is_DE_init n1 t1
  rw [← e2] at t2
  obtain ⟨k3, e3⟩ : ∃ k, k = fx_wr k2 (p) 0 (some (p + 1)) := ⟨_, rfl⟩
  have n3 : fx_n k3 = p + 89 := by rw [e3, fx_n_wr, n2]
  have s3 : ∀ a, a < p + 89 → fx_s k3 a = fx_s k2 a := fun a ha => by rw [e3, fx_s_wr]
  have r3 : ∀ a j, a < p + 89 → ¬ (a = p ∧ j = 0) → fx_r k3 a j = fx_r k2 a j := fun a j ha hb => by rw [e3, fx_r_wr, if_neg hb]
  have i3 : ∀ a j, a < p + 89 → fx_i k3 a j = fx_i k2 a j := fun a j ha => by rw [e3, fx_i_wr]
  have t3 : fx_r k3 (p) 0 = some (p + 1) := by rw [e3, fx_r_wr, if_pos ⟨rfl, rfl⟩]
  obtain ⟨k4, e4⟩ : ∃ k, k = fx_nw k3 (.inl 8) := ⟨_, rfl⟩
  have n4 : fx_n k4 = p + 90 := by rw [e4, fx_n_nw, n3]
  have s4 : ∀ a, a < p + 89 → fx_s k4 a = fx_s k3 a := fun a ha => by rw [e4, fx_s_nw, if_neg (by rw [n3]; exact Nat.ne_of_lt ha)]
  have r4 : ∀ a j, a < p + 89 → fx_r k4 a j = fx_r k3 a j := fun a j ha => by rw [e4, fx_r_nw, if_neg (by rw [n3]; exact Nat.ne_of_lt ha)]
  have i4 : ∀ a j, a < p + 89 → fx_i k4 a j = fx_i k3 a j := fun a j ha => by rw [e4, fx_i_nw, if_neg (by rw [n3]; exact Nat.ne_of_lt ha)]
  have t4 : fx_s k4 (p + 89) = some (.inl 8) := by rw [e4, fx_s_nw, if_pos n3.symm]
  obtain ⟨k5, e5⟩ : ∃ k, k = k_CO_init k4 (p + 89) := ⟨_, rfl⟩
  have n5 : fx_n k5 = p + 175 := by rw [e5, n_CO_init n4]
  have s5 : ∀ a, a < p + 90 → fx_s k5 a = fx_s k4 a := fun a ha => by rw [e5, s_CO_init n4 ha]
  have r5 : ∀ a j, a < p + 89 → fx_r k5 a j = fx_r k4 a j := fun a j ha => by rw [e5, r_CO_init n4 ha]
  have i5 : ∀ a j, a < p + 89 → fx_i k5 a j = fx_i k4 a j := fun a j ha => by rw [e5, i_CO_init n4 ha]
  have t5 := is_CO_init n4 t4
  rw [← e5] at t5
  obtain ⟨k6, e6⟩ : ∃ k, k = fx_wr k5 (p) 1 (some (p + 89)) := ⟨_, rfl⟩
  have n6 : fx_n k6 = p + 175 := by rw [e6, fx_n_wr, n5]
  have s6 : ∀ a, a < p + 175 → fx_s k6 a = fx_s k5 a := fun a ha => by rw [e6, fx_s_wr]
  have r6 : ∀ a j, a < p + 175 → ¬ (a = p ∧ j = 1) → fx_r k6 a j = fx_r k5 a j := fun a j ha hb => by rw [e6, fx_r_wr, if_neg hb]
  have i6 : ∀ a j, a < p + 175 → fx_i k6 a j = fx_i k5 a j := fun a j ha => by rw [e6, fx_i_wr]
  have t6 : fx_r k6 (p) 1 = some (p + 89) := by rw [e6, fx_r_wr, if_pos ⟨rfl, rfl⟩]
  obtain ⟨k7, e7⟩ : ∃ k, k = fx_nw k6 (.inl 9) := ⟨_, rfl⟩
  have n7 : fx_n k7 = p + 176 := by rw [e7, fx_n_nw, n6]
  have s7 : ∀ a, a < p + 175 → fx_s k7 a = fx_s k6 a := fun a ha => by rw [e7, fx_s_nw, if_neg (by rw [n6]; exact Nat.ne_of_lt ha)]
  have r7 : ∀ a j, a < p + 175 → fx_r k7 a j = fx_r k6 a j := fun a j ha => by rw [e7, fx_r_nw, if_neg (by rw [n6]; exact Nat.ne_of_lt ha)]
  have i7 : ∀ a j, a < p + 175 → fx_i k7 a j = fx_i k6 a j := fun a j ha => by rw [e7, fx_i_nw, if_neg (by rw [n6]; exact Nat.ne_of_lt ha)]
  have t7 : fx_s k7 (p + 175) = some (.inl 9) := by rw [e7, fx_s_nw, if_pos n6.symm]
  obtain ⟨k8, e8⟩ : ∃ k, k = k_BE_init k7 (p + 175) := ⟨_, rfl⟩
  have n8 : fx_n k8 = p + 186 := by rw [e8, n_BE_init n7]
  have s8 : ∀ a, a < p + 176 → fx_s k8 a = fx_s k7 a := fun a ha => by rw [e8, s_BE_init n7 ha]
  have r8 : ∀ a j, a < p + 175 → fx_r k8 a j = fx_r k7 a j := fun a j ha => by rw [e8, r_BE_init n7 ha]
  have i8 : ∀ a j, a < p + 175 → fx_i k8 a j = fx_i k7 a j := fun a j ha => by rw [e8, i_BE_init n7 ha]
  have t8 := is_BE_init n7 t7
  rw [← e8] at t8
  obtain ⟨k9, e9⟩ : ∃ k, k = fx_wr k8 (p) 2 (some (p + 175)) := ⟨_, rfl⟩
  have n9 : fx_n k9 = p + 186 := by rw [e9, fx_n_wr, n8]
  have s9 : ∀ a, a < p + 186 → fx_s k9 a = fx_s k8 a := fun a ha => by rw [e9, fx_s_wr]
  have r9 : ∀ a j, a < p + 186 → ¬ (a = p ∧ j = 2) → fx_r k9 a j = fx_r k8 a j := fun a j ha hb => by rw [e9, fx_r_wr, if_neg hb]
  have i9 : ∀ a j, a < p + 186 → fx_i k9 a j = fx_i k8 a j := fun a j ha => by rw [e9, fx_i_wr]
  have t9 : fx_r k9 (p) 2 = some (p + 175) := by rw [e9, fx_r_wr, if_pos ⟨rfl, rfl⟩]
  obtain ⟨k10, e10⟩ : ∃ k, k = fx_nw k9 (.inl 1) := ⟨_, rfl⟩
  have n10 : fx_n k10 = p + 187 := by rw [e10, fx_n_nw, n9]
  have s10 : ∀ a, a < p + 186 → fx_s k10 a = fx_s k9 a := fun a ha => by rw [e10, fx_s_nw, if_neg (by rw [n9]; exact Nat.ne_of_lt ha)]
  have r10 : ∀ a j, a < p + 186 → fx_r k10 a j = fx_r k9 a j := fun a j ha => by rw [e10, fx_r_nw, if_neg (by rw [n9]; exact Nat.ne_of_lt ha)]
  have i10 : ∀ a j, a < p + 186 → fx_i k10 a j = fx_i k9 a j := fun a j ha => by rw [e10, fx_i_nw, if_neg (by rw [n9]; exact Nat.ne_of_lt ha)]
  have t10 : fx_s k10 (p + 186) = some (.inl 1) := by rw [e10, fx_s_nw, if_pos n9.symm]
  obtain ⟨k11, e11⟩ : ∃ k, k = fx_wr k10 (p) 3 (some (p + 186)) := ⟨_, rfl⟩
  have n11 : fx_n k11 = p + 187 := by rw [e11, fx_n_wr, n10]
  have s11 : ∀ a, a < p + 187 → fx_s k11 a = fx_s k10 a := fun a ha => by rw [e11, fx_s_wr]
  have r11 : ∀ a j, a < p + 187 → ¬ (a = p ∧ j = 3) → fx_r k11 a j = fx_r k10 a j := fun a j ha hb => by rw [e11, fx_r_wr, if_neg hb]
  have i11 : ∀ a j, a < p + 187 → fx_i k11 a j = fx_i k10 a j := fun a j ha => by rw [e11, fx_i_wr]
  have t11 : fx_r k11 (p) 3 = some (p + 186) := by rw [e11, fx_r_wr, if_pos ⟨rfl, rfl⟩]
  obtain ⟨k12, e12⟩ : ∃ k, k = fx_nw k11 (.inl 2) := ⟨_, rfl⟩
  have n12 : fx_n k12 = p + 188 := by rw [e12, fx_n_nw, n11]
  have s12 : ∀ a, a < p + 187 → fx_s k12 a = fx_s k11 a := fun a ha => by rw [e12, fx_s_nw, if_neg (by rw [n11]; exact Nat.ne_of_lt ha)]
  have r12 : ∀ a j, a < p + 187 → fx_r k12 a j = fx_r k11 a j := fun a j ha => by rw [e12, fx_r_nw, if_neg (by rw [n11]; exact Nat.ne_of_lt ha)]
  have i12 : ∀ a j, a < p + 187 → fx_i k12 a j = fx_i k11 a j := fun a j ha => by rw [e12, fx_i_nw, if_neg (by rw [n11]; exact Nat.ne_of_lt ha)]
  have t12 : fx_s k12 (p + 187) = some (.inl 2) := by rw [e12, fx_s_nw, if_pos n11.symm]
  obtain ⟨k13, e13⟩ : ∃ k, k = k_PI_init k12 (p + 187) := ⟨_, rfl⟩
  have n13 : fx_n k13 = p + 191 := by rw [e13, n_PI_init n12]
  have s13 : ∀ a, a < p + 188 → fx_s k13 a = fx_s k12 a := fun a ha => by rw [e13, s_PI_init n12 ha]
  have r13 : ∀ a j, a < p + 187 → fx_r k13 a j = fx_r k12 a j := fun a j ha => by rw [e13, r_PI_init n12 ha]
  have i13 : ∀ a j, a < p + 187 → fx_i k13 a j = fx_i k12 a j := fun a j ha => by rw [e13, i_PI_init n12 ha]
  have t13 := is_PI_init n12 t12
  rw [← e13] at t13
  obtain ⟨k14, e14⟩ : ∃ k, k = fx_wr k13 (p) 4 (some (p + 187)) := ⟨_, rfl⟩
  have n14 : fx_n k14 = p + 191 := by rw [e14, fx_n_wr, n13]
  have s14 : ∀ a, a < p + 191 → fx_s k14 a = fx_s k13 a := fun a ha => by rw [e14, fx_s_wr]
  have r14 : ∀ a j, a < p + 191 → ¬ (a = p ∧ j = 4) → fx_r k14 a j = fx_r k13 a j := fun a j ha hb => by rw [e14, fx_r_wr, if_neg hb]
  have i14 : ∀ a j, a < p + 191 → fx_i k14 a j = fx_i k13 a j := fun a j ha => by rw [e14, fx_i_wr]
  have t14 : fx_r k14 (p) 4 = some (p + 187) := by rw [e14, fx_r_wr, if_pos ⟨rfl, rfl⟩]
  have eF : k_FS_init h p = k14 := by rw [e14, e13, e12, e11, e10, e9, e8, e7, e6, e5, e4, e3, e2, e1]; rfl
  rw [eF]
  clear eF e1 e2 e3 e4 e5 e6 e7 e8 e9 e10 e11 e12 e13 e14
  have vs0 : fx_s k14 (p) = some (.inl 0) := (s14 _ (xm (by decide))).trans ((s13 _ (xm (by decide))).trans ((s12 _ (xm (by decide))).trans ((s11 _ (xm (by decide))).trans ((s10 _ (xm (by decide))).trans ((s9 _ (xm (by decide))).trans ((s8 _ (xm (by decide))).trans ((s7 _ (xm (by decide))).trans ((s6 _ (xm (by decide))).trans ((s5 _ (xm (by decide))).trans ((s4 _ (xm (by decide))).trans ((s3 _ (xm (by decide))).trans ((s2 _ (xm (by decide))).trans ((s1 _ (xm (by decide))).trans (hp))))))))))))))
  have vr0_0 : fx_r k14 (p) 0 = some (p + 1) := (r14 _ _ (xm (by decide)) (fun z => absurd z.2 (by decide))).trans ((r13 _ _ (xm (by decide))).trans ((r12 _ _ (xm (by decide))).trans ((r11 _ _ (xm (by decide)) (fun z => absurd z.2 (by decide))).trans ((r10 _ _ (xm (by decide))).trans ((r9 _ _ (xm (by decide)) (fun z => absurd z.2 (by decide))).trans ((r8 _ _ (xm (by decide))).trans ((r7 _ _ (xm (by decide))).trans ((r6 _ _ (xm (by decide)) (fun z => absurd z.2 (by decide))).trans ((r5 _ _ (xm (by decide))).trans ((r4 _ _ (xm (by decide))).trans (t3)))))))))))
  have u1_2 : isD k2 (p + 1) := t2
  have u1_3 : isD k3 (p + 1) := isD_kp (fun a h1 h2 => ⟨s3 a (xd h2 (by decide)), fun j => r3 a j (xd h2 (by decide)) (fun z => xe h1 (by decide) z.1)⟩) u1_2
  have u1_4 : isD k4 (p + 1) := isD_kp (fun a h1 h2 => ⟨s4 a (xd h2 (by decide)), fun j => r4 a j (xd h2 (by decide))⟩) u1_3
  have u1_5 : isD k5 (p + 1) := isD_kp (fun a h1 h2 => ⟨s5 a (xd h2 (by decide)), fun j => r5 a j (xd h2 (by decide))⟩) u1_4
  have u1_6 : isD k6 (p + 1) := isD_kp (fun a h1 h2 => ⟨s6 a (xd h2 (by decide)), fun j => r6 a j (xd h2 (by decide)) (fun z => xe h1 (by decide) z.1)⟩) u1_5
  have u1_7 : isD k7 (p + 1) := isD_kp (fun a h1 h2 => ⟨s7 a (xd h2 (by decide)), fun j => r7 a j (xd h2 (by decide))⟩) u1_6
  have u1_8 : isD k8 (p + 1) := isD_kp (fun a h1 h2 => ⟨s8 a (xd h2 (by decide)), fun j => r8 a j (xd h2 (by decide))⟩) u1_7
  have u1_9 : isD k9 (p + 1) := isD_kp (fun a h1 h2 => ⟨s9 a (xd h2 (by decide)), fun j => r9 a j (xd h2 (by decide)) (fun z => xe h1 (by decide) z.1)⟩) u1_8
  have u1_10 : isD k10 (p + 1) := isD_kp (fun a h1 h2 => ⟨s10 a (xd h2 (by decide)), fun j => r10 a j (xd h2 (by decide))⟩) u1_9
  have u1_11 : isD k11 (p + 1) := isD_kp (fun a h1 h2 => ⟨s11 a (xd h2 (by decide)), fun j => r11 a j (xd h2 (by decide)) (fun z => xe h1 (by decide) z.1)⟩) u1_10
  have u1_12 : isD k12 (p + 1) := isD_kp (fun a h1 h2 => ⟨s12 a (xd h2 (by decide)), fun j => r12 a j (xd h2 (by decide))⟩) u1_11
  have u1_13 : isD k13 (p + 1) := isD_kp (fun a h1 h2 => ⟨s13 a (xd h2 (by decide)), fun j => r13 a j (xd h2 (by decide))⟩) u1_12
  have u1_14 : isD k14 (p + 1) := isD_kp (fun a h1 h2 => ⟨s14 a (xd h2 (by decide)), fun j => r14 a j (xd h2 (by decide)) (fun z => xe h1 (by decide) z.1)⟩) u1_13
  have vr0_1 : fx_r k14 (p) 1 = some (p + 89) := (r14 _ _ (xm (by decide)) (fun z => absurd z.2 (by decide))).trans ((r13 _ _ (xm (by decide))).trans ((r12 _ _ (xm (by decide))).trans ((r11 _ _ (xm (by decide)) (fun z => absurd z.2 (by decide))).trans ((r10 _ _ (xm (by decide))).trans ((r9 _ _ (xm (by decide)) (fun z => absurd z.2 (by decide))).trans ((r8 _ _ (xm (by decide))).trans ((r7 _ _ (xm (by decide))).trans (t6))))))))
  have u89_5 : isC k5 (p + 89) (p + 143) (p + 154) := t5
  have u89_6 : isC k6 (p + 89) (p + 143) (p + 154) := isC_kp (fun a h1 h2 => ⟨s6 a (xd h2 (by decide)), fun j => r6 a j (xd h2 (by decide)) (fun z => xe h1 (by decide) z.1)⟩) u89_5
  have u89_7 : isC k7 (p + 89) (p + 143) (p + 154) := isC_kp (fun a h1 h2 => ⟨s7 a (xd h2 (by decide)), fun j => r7 a j (xd h2 (by decide))⟩) u89_6
  have u89_8 : isC k8 (p + 89) (p + 143) (p + 154) := isC_kp (fun a h1 h2 => ⟨s8 a (xd h2 (by decide)), fun j => r8 a j (xd h2 (by decide))⟩) u89_7
  have u89_9 : isC k9 (p + 89) (p + 143) (p + 154) := isC_kp (fun a h1 h2 => ⟨s9 a (xd h2 (by decide)), fun j => r9 a j (xd h2 (by decide)) (fun z => xe h1 (by decide) z.1)⟩) u89_8
  have u89_10 : isC k10 (p + 89) (p + 143) (p + 154) := isC_kp (fun a h1 h2 => ⟨s10 a (xd h2 (by decide)), fun j => r10 a j (xd h2 (by decide))⟩) u89_9
  have u89_11 : isC k11 (p + 89) (p + 143) (p + 154) := isC_kp (fun a h1 h2 => ⟨s11 a (xd h2 (by decide)), fun j => r11 a j (xd h2 (by decide)) (fun z => xe h1 (by decide) z.1)⟩) u89_10
  have u89_12 : isC k12 (p + 89) (p + 143) (p + 154) := isC_kp (fun a h1 h2 => ⟨s12 a (xd h2 (by decide)), fun j => r12 a j (xd h2 (by decide))⟩) u89_11
  have u89_13 : isC k13 (p + 89) (p + 143) (p + 154) := isC_kp (fun a h1 h2 => ⟨s13 a (xd h2 (by decide)), fun j => r13 a j (xd h2 (by decide))⟩) u89_12
  have u89_14 : isC k14 (p + 89) (p + 143) (p + 154) := isC_kp (fun a h1 h2 => ⟨s14 a (xd h2 (by decide)), fun j => r14 a j (xd h2 (by decide)) (fun z => xe h1 (by decide) z.1)⟩) u89_13
  have vr0_2 : fx_r k14 (p) 2 = some (p + 175) := (r14 _ _ (xm (by decide)) (fun z => absurd z.2 (by decide))).trans ((r13 _ _ (xm (by decide))).trans ((r12 _ _ (xm (by decide))).trans ((r11 _ _ (xm (by decide)) (fun z => absurd z.2 (by decide))).trans ((r10 _ _ (xm (by decide))).trans (t9)))))
  have u175_8 : isB k8 (p + 175) := t8
  have u175_9 : isB k9 (p + 175) := isB_kp (fun a h1 h2 => ⟨s9 a (xd h2 (by decide)), fun j => r9 a j (xd h2 (by decide)) (fun z => xe h1 (by decide) z.1)⟩) u175_8
  have u175_10 : isB k10 (p + 175) := isB_kp (fun a h1 h2 => ⟨s10 a (xd h2 (by decide)), fun j => r10 a j (xd h2 (by decide))⟩) u175_9
  have u175_11 : isB k11 (p + 175) := isB_kp (fun a h1 h2 => ⟨s11 a (xd h2 (by decide)), fun j => r11 a j (xd h2 (by decide)) (fun z => xe h1 (by decide) z.1)⟩) u175_10
  have u175_12 : isB k12 (p + 175) := isB_kp (fun a h1 h2 => ⟨s12 a (xd h2 (by decide)), fun j => r12 a j (xd h2 (by decide))⟩) u175_11
  have u175_13 : isB k13 (p + 175) := isB_kp (fun a h1 h2 => ⟨s13 a (xd h2 (by decide)), fun j => r13 a j (xd h2 (by decide))⟩) u175_12
  have u175_14 : isB k14 (p + 175) := isB_kp (fun a h1 h2 => ⟨s14 a (xd h2 (by decide)), fun j => r14 a j (xd h2 (by decide)) (fun z => xe h1 (by decide) z.1)⟩) u175_13
  have vr0_3 : fx_r k14 (p) 3 = some (p + 186) := (r14 _ _ (xm (by decide)) (fun z => absurd z.2 (by decide))).trans ((r13 _ _ (xm (by decide))).trans ((r12 _ _ (xm (by decide))).trans (t11)))
  have vs186 : fx_s k14 (p + 186) = some (.inl 1) := (s14 _ (xl (by decide))).trans ((s13 _ (xl (by decide))).trans ((s12 _ (xl (by decide))).trans ((s11 _ (xl (by decide))).trans (t10))))
  have vr0_4 : fx_r k14 (p) 4 = some (p + 187) := t14
  have u187_13 : isP k13 (p + 187) := t13
  have u187_14 : isP k14 (p + 187) := isP_kp (fun a h1 h2 => ⟨s14 a (xd h2 (by decide)), fun j => r14 a j (xd h2 (by decide)) (fun z => xe h1 (by decide) z.1)⟩) u187_13
  exact ⟨vs0, vr0_0, u1_14, vr0_1, u89_14, vr0_2, u175_14, vr0_3, vs186, vr0_4, u187_14⟩
