/-! ===== counting ===== -/
def cN (f : Nat → Bool) : Nat → Nat
  | 0 => 0
  | n + 1 => cN f n + (if f n = true then 1 else 0)
theorem cN_le (f : Nat → Bool) : ∀ n, cN f n ≤ n
  | 0 => Nat.le_refl _
  | n + 1 => by
    have := cN_le f n
    unfold cN
    split <;> omega
theorem cN_mono (f g : Nat → Bool) : ∀ n, (∀ t, t < n → f t = true → g t = true) → cN f n ≤ cN g n
  | 0, _ => Nat.le_refl _
  | n + 1, h => by
    have h1 := cN_mono f g n (fun t ht => h t (by omega))
    have h2 := h n (by omega)
    unfold cN
    split
    · rw [if_pos (h2 (by assumption))]
      omega
    · omega
theorem cN_congr (f g : Nat → Bool) : ∀ n, (∀ t, t < n → f t = g t) → cN f n = cN g n
  | 0, _ => rfl
  | n + 1, h => by
    unfold cN
    rw [cN_congr f g n (fun t ht => h t (by omega)), h n (by omega)]
/-- one more is taken by g than by f: s -/
theorem cN_one (f g : Nat → Bool) (s : Nat) (hf : f s = false) (hg : g s = true) : ∀ n, (∀ t, t < n → t ≠ s → f t = g t) → s < n → cN g n = cN f n + 1
  | 0, _, h => absurd h (by omega)
  | n + 1, h, hs => by
    unfold cN
    by_cases e : n = s
    · subst e
      rw [cN_congr f g n (fun t ht => h t (by omega) (by omega)), hf, hg]
      rfl
    · rw [cN_one f g s hf hg n (fun t ht => h t (by omega)) (by omega), h n (by omega) e]
      omega
theorem cN_lt (f g : Nat → Bool) (s n : Nat) (hs : s < n) (h : ∀ t, t < n → f t = true → g t = true) (hf : f s = false) (hg : g s = true) : cN f n < cN g n := by
  have h1 := cN_one f (fun t => if t = s then true else f t) s hf (by simp) n (fun t _ ht => by simp [ht]) hs
  have h2 := cN_mono (fun t => if t = s then true else f t) g n (fun t ht hh => by
    by_cases e : t = s
    · rw [e]; exact hg
    · simp [e] at hh; exact h t ht hh)
  omega
theorem cN_lt_n (f : Nat → Bool) (s n : Nat) (hs : s < n) (hf : f s = false) : cN f n < n := by
  have h1 := cN_lt f (fun _ => true) s n hs (fun _ _ _ => rfl) hf rfl
  have h2 := cN_le (fun _ => true) n
  omega
/-! ===== the pile's order ===== -/
/-- which pictures are there, and their keys-/
def rk (T : Nat → Bool) (κ : Nat → Nat) (n : Nat) : Nat := cN (fun t => T t && decide (κ t < n)) 10
theorem rk_mono (T : Nat → Bool) (κ : Nat → Nat) {a b : Nat} (h : a ≤ b) : rk T κ a ≤ rk T κ b := cN_mono _ _ 10 (fun t _ h1 => by
  simp only [Bool.and_eq_true, decide_eq_true_eq] at h1 ⊢
  exact ⟨h1.1, by omega⟩)
theorem rk_lt (T : Nat → Bool) (κ : Nat → Nat) {t n : Nat} (ht : t < 10) (hT : T t = true) (hn : κ t < n) : rk T κ (κ t) < rk T κ n := cN_lt _ _ t 10 ht (fun u _ h1 => by
  simp only [Bool.and_eq_true, decide_eq_true_eq] at h1 ⊢
  exact ⟨h1.1, by omega⟩) (by simp) (by simp [hT, hn])
theorem rk_s (T : Nat → Bool) (κ : Nat → Nat) (hκ : ∀ t, t < 10 → T t = true → κ t % 10 = t) {s n : Nat} (hs : s < 10) (hn : n % 10 = s) : rk T κ (n + 1) = rk T κ n + (if T s = true ∧ κ s = n then 1 else 0) := by
  by_cases h : T s = true ∧ κ s = n
  · rw [if_pos h]
    show cN (fun t => T t && decide (κ t < n + 1)) 10 = cN (fun t => T t && decide (κ t < n)) 10 + 1
    refine cN_one (fun t => T t && decide (κ t < n)) (fun t => T t && decide (κ t < n + 1)) s (by simp [h.2]) (by simp [h.1, h.2]) 10 (fun t ht hts => ?_) hs
    show (T t && decide (κ t < n)) = (T t && decide (κ t < n + 1))
    by_cases hT : T t = true
    · have h1 := hκ t ht hT
      have h2 : κ t ≠ n := fun e => hts (by rw [← h1, e, hn])
      rw [hT, Bool.true_and, Bool.true_and]
      exact decide_eq_decide.mpr ⟨fun _ => by omega, fun _ => by omega⟩
    · simp [hT]
  · rw [if_neg h]
    show cN (fun t => T t && decide (κ t < n + 1)) 10 = cN (fun t => T t && decide (κ t < n)) 10
    refine cN_congr (fun t => T t && decide (κ t < n + 1)) (fun t => T t && decide (κ t < n)) 10 (fun t ht => ?_)
    show (T t && decide (κ t < n + 1)) = (T t && decide (κ t < n))
    by_cases hT : T t = true
    · have h1 := hκ t ht hT
      have h2 : κ t ≠ n := fun e => h (by
        have e2 : t = s := by rw [← h1, e, hn]
        rw [← e2]; exact ⟨hT, e⟩)
      rw [hT, Bool.true_and, Bool.true_and]
      exact decide_eq_decide.mpr ⟨fun _ => by omega, fun _ => by omega⟩
    · simp [hT]
def pT (h : fx_H) (P : Nat) (s : Nat) : Bool := decide (¬ fx_i h (P + 3 + 4 * s) 0 = 0)
def pK (h : fx_H) (P : Nat) (s : Nat) : Nat := 10 * (fx_i h (P + 3 + 4 * s) 5).toNatClampNeg + s
/-- orders of pictures that are there lie in 0 .. 9-/
def oOk (h : fx_H) (P : Nat) : Prop := ∀ s, s < 10 → ¬ fx_i h (P + 3 + 4 * s) 0 = 0 → 0 ≤ (fx_i h (P + 3 + 4 * s) 5).toInt ∧ (fx_i h (P + 3 + 4 * s) 5).toInt ≤ 9
/-- the pile's numbers after the keys below n-/
def sI (h : fx_H) (P n : Nat) (k : fx_H) : Prop := (∀ b, b ≠ P → b ≠ P + 2 → ∀ j, fx_i k b j = fx_i h b j) ∧ (∀ j, j ≠ 2 → fx_i k P j = fx_i h P j) ∧ fx_i k P 2 = nI (rk (pT h P) (pK h P) n) ∧ (∀ l, rk (pT h P) (pK h P) n ≤ l → fx_i k (P + 2) l = fx_i h (P + 2) l) ∧
  ∀ l, l < rk (pT h P) (pK h P) n → ∃ t, t < 10 ∧ pT h P t = true ∧ pK h P t < n ∧ fx_i k (P + 2) l = nI t ∧ rk (pT h P) (pK h P) (pK h P t) = l
theorem pK_mod (h : fx_H) (P t : Nat) (ht : t < 10) : pK h P t % 10 = t := by unfold pK; omega
theorem sort_step {h k : fx_H} {P o s : Nat} (ho : oOk h P) (hs : s < 10) (ho9 : o < 10) (hk : sI h P (10 * o + s) k) : sI h P (10 * o + s + 1) (sortB P o s k) ∧ (¬ fx_i k (P + 3 + 4 * s) 0 = 0 → fx_i k (P + 3 + 4 * s) 5 = nI o → vp_in (fx_i k P 2) 10) := by
  obtain ⟨h1, h1b, h2, h2b, h3⟩ := hk
  have e0 : ∀ j, fx_i k (P + 3 + 4 * s) j = fx_i h (P + 3 + 4 * s) j := h1 _ (by omega) (by omega)
  have hr := rk_s (pT h P) (pK h P) (fun t ht _ => pK_mod h P t ht) hs (show (10 * o + s) % 10 = s by omega)
  have key : (¬ fx_i k (P + 3 + 4 * s) 0 = 0 ∧ fx_i k (P + 3 + 4 * s) 5 = nI o) ↔ (pT h P s = true ∧ pK h P s = 10 * o + s) := by
    rw [e0, e0]
    unfold pT pK
    rw [decide_eq_true_eq]
    refine and_congr_right (fun hT => ?_)
    have h9 := ho s hs hT
    have n1 := iz_nn h9.1
    rw [iz_eq, nI_toInt (by omega)]
    exact ⟨fun _ => by omega, fun _ => by omega⟩
  by_cases hc : ¬ fx_i k (P + 3 + 4 * s) 0 = 0 ∧ fx_i k (P + 3 + 4 * s) 5 = nI o
  · have hc2 := key.mp hc
    rw [if_pos hc2] at hr
    have hlt : rk (pT h P) (pK h P) (10 * o + s) < 10 := cN_lt_n _ s 10 hs (by simp [hc2.2])
    have cl : (fx_i k P 2).toNatClampNeg = rk (pT h P) (pK h P) (10 * o + s) := by rw [h2]; exact nI_clamp (by omega)
    refine ⟨?_, fun _ _ => by rw [h2]; exact vp_in_nI hlt (by decide)⟩
    unfold sortB
    rw [if_neg hc.1, if_pos hc.2, cl]
    refine ⟨fun b hb1 hb2 j => ?_, fun j hj => ?_, ?_, fun l hl => ?_, fun l hl => ?_⟩
    · rw [fx_i_wi, if_neg (fun z => hb1 z.1), fx_i_wi, if_neg (fun z => hb2 z.1)]
      exact h1 b hb1 hb2 j
    · rw [fx_i_wi, if_neg (fun z => hj z.2), fx_i_wi, if_neg (fun z => by omega)]
      exact h1b j hj
    · rw [fx_i_wi, if_pos ⟨rfl, rfl⟩, fx_i_wi, if_neg (fun z => by omega), h2, hr, nI_succ]
    · rw [fx_i_wi, if_neg (fun z => by omega), fx_i_wi, if_neg (fun z => by omega)]
      exact h2b l (by omega)
    · rw [fx_i_wi, if_neg (fun z => by omega), fx_i_wi]
      by_cases hl2 : l = rk (pT h P) (pK h P) (10 * o + s)
      · rw [if_pos ⟨rfl, hl2⟩]
        exact ⟨s, hs, hc2.1, by omega, rfl, by rw [hc2.2, hl2]⟩
      · rw [if_neg (fun z => hl2 z.2)]
        obtain ⟨t, t1, t2, t3, t4, t5⟩ := h3 l (by omega)
        exact ⟨t, t1, t2, by omega, t4, t5⟩
  · have hc2 := fun z => hc (key.mpr z)
    rw [if_neg hc2] at hr
    refine ⟨?_, fun z1 z2 => absurd ⟨z1, z2⟩ hc⟩
    have e : sortB P o s k = k := by
      unfold sortB
      by_cases z : fx_i k (P + 3 + 4 * s) 0 = 0
      · rw [if_pos z]
      · rw [if_neg z, if_neg (fun w => hc ⟨z, w⟩)]
    rw [e]
    refine ⟨h1, h1b, by rw [h2, hr]; rfl, fun l hl => h2b l (by omega), fun l hl => ?_⟩
    obtain ⟨t, t1, t2, t3, t4, t5⟩ := h3 l (by omega)
    exact ⟨t, t1, t2, by omega, t4, t5⟩
theorem sI_0 (h : fx_H) (P : Nat) : sI h P 0 (fx_wi h P 2 0) := by
  have e : rk (pT h P) (pK h P) 0 = 0 := by
    unfold rk
    rw [cN_congr _ (fun _ => false) 10 (fun t _ => by simp)]
    rfl
  refine ⟨fun b hb _ j => by rw [fx_i_wi, if_neg (fun z => hb z.1)], fun j hj => by rw [fx_i_wi, if_neg (fun z => hj z.2)], by rw [fx_i_wi, if_pos ⟨rfl, rfl⟩, e]; rfl, fun l _ => by rw [fx_i_wi, if_neg (fun z => by omega)], fun l hl => by omega⟩
theorem sort_row {h k : fx_H} {P o : Nat} (ho : oOk h P) (ho9 : o < 10) (hk : sI h P (10 * o) k) : ∀ s, s ≤ 10 → sI h P (10 * o + s) (it (sortB P o) k s)
  | 0, _ => by rw [it_0]; exact hk
  | s + 1, hs => by rw [it_s]; exact (sort_step ho (by omega) ho9 (sort_row ho ho9 hk s (by omega))).1
theorem sort_all {h : fx_H} {P : Nat} (ho : oOk h P) : ∀ o, o ≤ 10 → sI h P (10 * o) (it (sortO P) (fx_wi h P 2 0) o)
  | 0, _ => by rw [it_0]; exact sI_0 h P
  | o + 1, h1 => by
    rw [it_s]
    exact sort_row ho (by omega) (sort_all ho o (by omega)) 10 (Nat.le_refl _)
theorem sort_ok {h : fx_H} {P : Nat} (ho : oOk h P) : sortOk h P := fun o s h1 h2 => (sort_step ho h2 h1 (sort_row ho h1 (sort_all ho o (by omega)) s (by omega))).2
theorem sort_end {h : fx_H} {P : Nat} (ho : oOk h P) : sI h P 100 (k_PL_sort h P) := sort_all ho 10 (Nat.le_refl _)
/-! ===== the pile's order is what the Model's nth finds ===== -/
/-- pile and Model agree on what is there and on orders -/
def TO (h : fx_H) (P q kd : Nat) : Prop := ∀ t, t < 10 → (fx_i h (P + 3 + 4 * t) 0 = 0 ↔ fx_i h (q + 7) (kd + t) = 0) ∧ (¬ fx_i h (P + 3 + 4 * t) 0 = 0 → fx_i h (P + 3 + 4 * t) 5 = fx_i h (q + 10) (kd + t))
theorem above_iff {h : fx_H} {P q kd s t : Nat} (hkd : kd ≤ 20) (ho : oOk h P) (hto : TO h P q kd) (hs : s < 10) (ht : t < 10) (h1 : pT h P s = true) (h2 : pT h P t = true) : (¬ v_MO_isAbove h q (nI (kd + s)) (nI (kd + t)) = 0) ↔ pK h P t < pK h P s := by
  have z1 := of_decide_eq_true h1
  have z2 := of_decide_eq_true h2
  have r1 := ho s hs z1
  have r2 := ho t ht z2
  have o1 := (hto s hs).2 z1
  have o2 := (hto t ht).2 z2
  have n1 := iz_nn r1.1
  have n2 := iz_nn r2.1
  unfold v_MO_isAbove pK
  rw [nI_clamp (n := kd + s) (by omega), nI_clamp (n := kd + t) (by omega), ← o1, ← o2]
  have ea : (nI (kd + s)).toInt = ((kd + s : Nat) : Int) := nI_toInt (by omega)
  have eb : (nI (kd + t)).toInt = ((kd + t : Nat) : Int) := nI_toInt (by omega)
  split <;> rename_i c1 <;> rw [iz_lt] at c1
  · exact ⟨fun _ => by omega, fun _ => by decide⟩
  · split <;> rename_i c2 <;> rw [iz_eq] at c2
    · split <;> rename_i c3 <;> rw [iz_le, ea, eb] at c3
      · exact ⟨fun w => absurd rfl w, fun w => by omega⟩
      · exact ⟨fun _ => by omega, fun _ => by decide⟩
    · exact ⟨fun w => absurd rfl w, fun w => by omega⟩
theorem count_eq {h : fx_H} {P q kd s : Nat} (hkd : kd ≤ 20) (ho : oOk h P) (hto : TO h P q kd) (hs : s < 10) (h1 : pT h P s = true) : ∀ n, n ≤ 10 → itg (nthS h q kd (kd + s)) 0 n = nI (cN (fun t => pT h P t && decide (pK h P t < pK h P s)) n)
  | 0, _ => rfl
  | n + 1, hn => by
    rw [itg_s, count_eq hkd ho hto hs h1 n (by omega)]
    unfold nthS
    show _ = nI (cN (fun t => pT h P t && decide (pK h P t < pK h P s)) n + (if (pT h P n && decide (pK h P n < pK h P s)) = true then 1 else 0))
    have e0 : ∀ c : Nat, nI c + 0 = nI (c + 0) := fun c => by simp
    by_cases hns : n = s
    · subst hns
      rw [if_pos rfl, if_neg (by simp), e0]
    · rw [if_neg (fun z => hns (by have := (nI_eq (a := kd + n) (b := kd + s) (by omega) (by omega)).mp z; omega))]
      by_cases hT : pT h P n = true
      · have z2 := of_decide_eq_true hT
        rw [if_neg (fun z => z2 ((hto n (by omega)).1.mpr z))]
        have ha := above_iff hkd ho hto hs (show n < 10 by omega) h1 hT
        by_cases hab : v_MO_isAbove h q (nI (kd + s)) (nI (kd + n)) = 0
        · rw [if_pos hab, if_neg (fun z => by simp only [hT, Bool.true_and, decide_eq_true_eq] at z; exact (ha.mpr z) hab), e0]
        · rw [if_neg hab, if_pos (by simp [hT]; exact ha.mp hab), nI_succ]
      · have z2 : fx_i h (P + 3 + 4 * n) 0 = 0 := Decidable.byContradiction fun z => hT (decide_eq_true z)
        rw [if_pos ((hto n (by omega)).1.mp z2), if_neg (by simp [hT]), e0]
theorem srch_at (c : Nat → Bool) (b : Int32) (p : Nat) (hp : c p = true) : ∀ (n i : Nat), i ≤ p → p < i + n → (∀ p', i ≤ p' → p' < p → ¬ c p' = true) → srch c (fun p => nI p) b i n = nI p
  | 0, i, h1, h2, _ => by omega
  | n + 1, i, h1, h2, h3 => by
    by_cases e : i = p
    · rw [e, srch_yes _ _ _ _ _ hp]
    · rw [srch_no _ _ _ _ _ (h3 i (Nat.le_refl _) (by omega))]
      exact srch_at c b p hp n (i + 1) (by omega) (by omega) (fun p' q1 q2 => h3 p' (by omega) q2)
theorem srch_none (c : Nat → Bool) (b : Int32) : ∀ (n i : Nat), (∀ p', i ≤ p' → p' < i + n → ¬ c p' = true) → srch c (fun p => nI p) b i n = b
  | 0, i, _ => rfl
  | n + 1, i, h => by
    rw [srch_no _ _ _ _ _ (h i (Nat.le_refl _) (by omega))]
    exact srch_none c b n (i + 1) (fun p' q1 q2 => h p' (by omega) (by omega))
theorem pK_inj {h : fx_H} {P s t : Nat} (hs : s < 10) (ht : t < 10) (e : pK h P s = pK h P t) : s = t := by
  have h1 := pK_mod h P s hs
  have h2 := pK_mod h P t ht
  omega
theorem rk_inj {h : fx_H} {P s t : Nat} (hs : s < 10) (ht : t < 10) (h1 : pT h P s = true) (h2 : pT h P t = true) (e : rk (pT h P) (pK h P) (pK h P s) = rk (pT h P) (pK h P) (pK h P t)) : s = t := by
  rcases Nat.lt_trichotomy (pK h P s) (pK h P t) with z | z | z
  · have := rk_lt (pT h P) (pK h P) hs h1 z
    omega
  · exact pK_inj hs ht z
  · have := rk_lt (pT h P) (pK h P) ht h2 z
    omega
theorem rk_lt_iff {h : fx_H} {P s t : Nat} (hs : s < 10) (ht : t < 10) (h1 : pT h P s = true) (h2 : pT h P t = true) : rk (pT h P) (pK h P) (pK h P s) < rk (pT h P) (pK h P) (pK h P t) ↔ pK h P s < pK h P t := by
  constructor
  · intro z
    have h3 : ¬ pK h P t ≤ pK h P s := fun w => by have := rk_mono (pT h P) (pK h P) w; omega
    omega
  · exact fun z => rk_lt _ _ hs h1 z
theorem nth_at {h : fx_H} {P q kd t : Nat} (hkd : kd ≤ 20) (ho : oOk h P) (hto : TO h P q kd) (ht : t < 10) (hT : pT h P t = true) : v_MO_nth h q kd (nI (rk (pT h P) (pK h P) (pK h P t))) = nI (kd + t) := by
  have hr : ∀ s, rk (pT h P) (pK h P) (pK h P s) ≤ 10 := fun s => cN_le _ 10
  unfold v_MO_nth
  refine srch_at _ (-1) (kd + t) ?_ _ kd (by omega) (by omega) (fun p' q1 q2 => ?_)
  · refine decide_eq_true ⟨fun z => of_decide_eq_true hT ((hto t ht).1.mpr z), ?_⟩
    exact count_eq hkd ho hto ht hT 10 (Nat.le_refl _)
  · intro z
    obtain ⟨z1, z2⟩ := of_decide_eq_true z
    obtain ⟨s, rfl⟩ : ∃ s, p' = kd + s := ⟨p' - kd, by omega⟩
    have hs : s < 10 := by omega
    have hT' : pT h P s = true := decide_eq_true fun w => z1 ((hto s hs).1.mp w)
    rw [count_eq hkd ho hto hs hT' 10 (Nat.le_refl _)] at z2
    have z3 : cN (fun u => pT h P u && decide (pK h P u < pK h P s)) 10 = rk (pT h P) (pK h P) (pK h P t) := (nI_eq (by have := hr s; unfold rk at this; omega) (by have := hr t; omega)).mp z2
    have := rk_inj hs ht hT' hT z3
    omega
theorem nth_no {h : fx_H} {P q kd l : Nat} (hkd : kd ≤ 20) (ho : oOk h P) (hto : TO h P q kd) (hl : l < 100) (hn : ∀ t, t < 10 → pT h P t = true → rk (pT h P) (pK h P) (pK h P t) ≠ l) : v_MO_nth h q kd (nI l) = -1 := by
  have hr : ∀ s, rk (pT h P) (pK h P) (pK h P s) ≤ 10 := fun s => cN_le _ 10
  unfold v_MO_nth
  refine srch_none _ (-1) _ kd (fun p' q1 q2 => ?_)
  intro z
  obtain ⟨z1, z2⟩ := of_decide_eq_true z
  obtain ⟨s, rfl⟩ : ∃ s, p' = kd + s := ⟨p' - kd, by omega⟩
  have hs : s < 10 := by omega
  have hT' : pT h P s = true := decide_eq_true fun w => z1 ((hto s hs).1.mp w)
  rw [count_eq hkd ho hto hs hT' 10 (Nat.le_refl _)] at z2
  have z3 : nI (rk (pT h P) (pK h P) (pK h P s)) = nI l := z2
  exact hn s hs hT' ((nI_eq (by have := hr s; omega) (by omega)).mp z3)
/-- the pile lies in the order in which the Model finds its pictures -/
def PS (h : fx_H) (P q kd : Nat) : Prop := pOk h P ∧ (∀ l, l < pH h P → ¬ fx_i h (P + 3 + 4 * pU h P l) 0 = 0 ∧ v_MO_nth h q kd (nI l) = nI (kd + pU h P l)) ∧ (∀ l, pH h P ≤ l → l < 100 → v_MO_nth h q kd (nI l) = -1) ∧
  (∀ t, t < 10 → ¬ fx_i h (P + 3 + 4 * t) 0 = 0 → ∃ l, l < pH h P ∧ pU h P l = t) ∧ ∀ l l', l < pH h P → l' < pH h P → ((¬ v_MO_isAbove h q (nI (kd + pU h P l')) (nI (kd + pU h P l)) = 0) ↔ l < l')
theorem PS_sort {h : fx_H} {P q kd : Nat} (hkd : kd ≤ 20) (hpo : ∀ l, l < 10 → ∃ t, t < 10 ∧ fx_i h (P + 2) l = nI t) (ho : oOk h P) (hto : TO h P q kd) (hd : P + 43 ≤ q) : PS (k_PL_sort h P) P q kd := by
  obtain ⟨h1, h1b, h2, h2b, h3⟩ := sort_end ho
  generalize k_PL_sort h P = k at *
  have ep : ∀ s, s < 10 → ∀ j, fx_i k (P + 3 + 4 * s) j = fx_i h (P + 3 + 4 * s) j := fun s hs => h1 _ (by omega) (by omega)
  have eq : ∀ c j, fx_i k (q + c) j = fx_i h (q + c) j := fun c => h1 _ (by omega) (by omega)
  have hto' : TO k P q kd := fun t ht => by rw [ep t ht, ep t ht, eq, eq]; exact hto t ht
  have ho' : oOk k P := fun t ht => by rw [ep t ht, ep t ht]; exact ho t ht
  have eT : ∀ t, t < 10 → pT k P t = pT h P t := fun t ht => by unfold pT; rw [ep t ht]
  have eK : ∀ t, t < 10 → pK k P t = pK h P t := fun t ht => by unfold pK; rw [ep t ht]
  have er : ∀ n, rk (pT k P) (pK k P) n = rk (pT h P) (pK h P) n := fun n => cN_congr _ _ 10 (fun t ht => by simp only [eT t ht, eK t ht])
  have hH : rk (pT h P) (pK h P) 100 ≤ 10 := cN_le _ 10
  have e1 : pH k P = rk (pT h P) (pK h P) 100 := by unfold pH; rw [h2]; exact nI_clamp (by omega)
  have e2 : ∀ l, l < pH k P → ∃ t, t < 10 ∧ pT k P t = true ∧ pU k P l = t ∧ fx_i k (P + 2) l = nI t ∧ rk (pT k P) (pK k P) (pK k P t) = l := by
    intro l hl
    obtain ⟨t, t1, t2, t3, t4, t5⟩ := h3 l (by omega)
    exact ⟨t, t1, by rw [eT t t1]; exact t2, by unfold pU; rw [t4]; exact nI_clamp (by omega), t4, by rw [er, eK t t1]; exact t5⟩
  have e3 : ∀ t, t < 10 → pT k P t = true → rk (pT k P) (pK k P) (pK k P t) < pH k P := by
    intro t ht hT
    have h9 : pK k P t < 100 := by
      have := ho' t ht (of_decide_eq_true hT)
      have n1 := iz_nn this.1
      unfold pK
      omega
    have := rk_lt (pT k P) (pK k P) ht hT h9
    rw [e1, ← er]
    exact this
  refine ⟨⟨by omega, ?_, fun l hl => ?_⟩, fun l hl => ?_, fun l hl hl2 => ?_, fun t ht hT => ?_, fun l l' hl hl' => ?_⟩
  · rw [e1]; exact h2
  · by_cases hlt : l < pH k P
    · obtain ⟨t, t1, -, t3, t4, -⟩ := e2 l hlt
      rw [t3]
      exact ⟨t1, t4⟩
    · obtain ⟨t, t1, t2⟩ := hpo l hl
      have t3 : fx_i k (P + 2) l = nI t := (h2b l (by omega)).trans t2
      have t4 : pU k P l = t := by unfold pU; rw [t3]; exact nI_clamp (by omega)
      rw [t4]
      exact ⟨t1, t3⟩
  · obtain ⟨t, t1, t2, t3, t4, t5⟩ := e2 l hl
    rw [t3]
    refine ⟨of_decide_eq_true t2, ?_⟩
    have := nth_at hkd ho' hto' t1 t2
    rw [t5] at this
    exact this
  · refine nth_no hkd ho' hto' hl2 (fun t ht hT e => ?_)
    have := e3 t ht hT
    omega
  · have hT' : pT k P t = true := decide_eq_true hT
    refine ⟨_, e3 t ht hT', ?_⟩
    obtain ⟨t', t1, t2, t3, -, t5⟩ := e2 _ (e3 t ht hT')
    rw [t3]
    exact rk_inj t1 ht t2 hT' t5
  · obtain ⟨t, t1, t2, t3, -, t5⟩ := e2 l hl
    obtain ⟨s, s1, s2, s3, -, s5⟩ := e2 l' hl'
    rw [t3, s3, above_iff hkd ho' hto' s1 t1 s2 t2, ← rk_lt_iff t1 s1 t2 s2, t5, s5]
