/-! ===== loops over rectangles, pixel by pixel ===== -/
theorem row_loop {A C : Nat} {h : fx_H} (ix : Nat → Nat) (cond : Nat → Bool) (g : Nat → Int32 → Int32) (F : Nat → fx_H → fx_H)
    (hF : ∀ c k, c < C → fx_on A h k → F c k = if cond c = true then fx_wi k A (ix c) (g c (fx_i k A (ix c))) else k)
    (hinj : ∀ c c', c < C → c' < C → cond c = true → cond c' = true → ix c = ix c' → c = c') {k : fx_H} (hk : fx_on A h k) : ∀ n, n ≤ C →
    fx_on A h (it F k n) ∧ (∀ c, c < n → cond c = true → fx_i (it F k n) A (ix c) = g c (fx_i k A (ix c))) ∧ (∀ j, (∀ c, c < n → cond c = true → ix c ≠ j) → fx_i (it F k n) A j = fx_i k A j)
  | 0, _ => by
    rw [it_0]
    exact ⟨hk, fun c hc => absurd hc (by omega), fun _ _ => rfl⟩
  | n + 1, hn => by
    obtain ⟨h1, h2, h3⟩ := row_loop ix cond g F hF hinj hk n (by omega)
    rw [it_s, hF n _ (by omega) h1]
    by_cases e : cond n = true
    · rw [if_pos e]
      refine ⟨fx_on_t h1 (fx_on_wi _ _ _ _), fun c hc hcc => ?_, fun j hj => ?_⟩
      · by_cases z : c = n
        · subst z
          rw [fx_i_wi, if_pos ⟨rfl, rfl⟩, h3 (ix c) (fun c' g1 g2 g3 => by have := hinj c' c (by omega) (by omega) g2 hcc g3; omega)]
        · rw [fx_i_wi, if_neg (fun y => z (hinj c n (by omega) (by omega) hcc e y.2))]
          exact h2 c (by omega) hcc
      · rw [fx_i_wi, if_neg (fun y => hj n (by omega) e y.2.symm)]
        exact h3 j (fun c hc hcc => hj c (by omega) hcc)
    · rw [if_neg e]
      refine ⟨h1, fun c hc hcc => ?_, fun j hj => h3 j (fun c hc hcc => hj c (by omega) hcc)⟩
      have z : c ≠ n := fun z => e (by rw [← z]; exact hcc)
      exact h2 c (by omega) hcc
theorem grid {A C : Nat} {h : fx_H} (ix : Nat → Nat → Nat) (cond : Nat → Nat → Bool) (g : Nat → Nat → Int32 → Int32) (F : Nat → Nat → fx_H → fx_H) (R : Nat)
    (hF : ∀ r c k, r < R → c < C → fx_on A h k → F r c k = if cond r c = true then fx_wi k A (ix r c) (g r c (fx_i k A (ix r c))) else k)
    (hinj : ∀ r c r' c', r < R → c < C → r' < R → c' < C → cond r c = true → cond r' c' = true → ix r c = ix r' c' → r = r' ∧ c = c') : ∀ n, n ≤ R →
    fx_on A h (it (fun r k => it (F r) k C) h n) ∧ (∀ r c, r < n → c < C → cond r c = true → fx_i (it (fun r k => it (F r) k C) h n) A (ix r c) = g r c (fx_i h A (ix r c))) ∧ (∀ j, (∀ r c, r < n → c < C → cond r c = true → ix r c ≠ j) → fx_i (it (fun r k => it (F r) k C) h n) A j = fx_i h A j)
  | 0, _ => by
    rw [it_0]
    exact ⟨fx_on_rf _ _, fun r c hr => absurd hr (by omega), fun _ _ => rfl⟩
  | n + 1, hn => by
    obtain ⟨h1, h2, h3⟩ := grid ix cond g F R hF hinj n (by omega)
    rw [it_s]
    obtain ⟨a1, a2, a3⟩ := row_loop (ix n) (cond n) (g n) (F n) (fun c k hc hk => hF n c k (by omega) hc hk) (fun c c' g1 g2 g3 g4 g5 => (hinj n c n c' (by omega) g1 (by omega) g2 g3 g4 g5).2) h1 C (Nat.le_refl _)
    refine ⟨a1, fun r c hr hc hcc => ?_, fun j hj => ?_⟩
    · by_cases z : r = n
      · subst z
        rw [a2 c hc hcc, h3 _ (fun r' c' g1 g2 g3 g4 => by have := hinj r' c' r c (by omega) g2 (by omega) hc g3 hcc g4; omega)]
      · rw [a3 _ (fun c' g1 g2 g3 => z (hinj n c' r c (by omega) g1 (by omega) hc g2 hcc g3).1.symm)]
        exact h2 r c (by omega) hc hcc
    · rw [a3 j (fun c hc hcc => hj n c (by omega) hc hcc)]
      exact h3 j (fun r c hr hc hcc => hj r c (by omega) hc hcc)
theorem its_it (f : Nat → fx_H → fx_H) (h : fx_H) : ∀ n, its f h n = it f h n
  | 0 => by rw [its_0, it_0]
  | n + 1 => by rw [its_s, it_s, its_it f h n]
/-- how many of x, x + 1, .. (n of them) lie in 0 .. c - 1 -/
theorem cnt_in (x c : Int) (hc : 0 ≤ c) : ∀ n : Nat, (cN (fun i => decide (0 ≤ x + i ∧ x + i < c)) n : Int) = max (min (x + n) c - max x 0) 0
  | 0 => by
    show (0 : Int) = _
    omega
  | n + 1 => by
    have ih := cnt_in x c hc n
    show ((cN (fun i => decide (0 ≤ x + i ∧ x + i < c)) n + (if decide (0 ≤ x + (n : Int) ∧ x + (n : Int) < c) = true then 1 else 0) : Nat) : Int) = _
    by_cases z : 0 ≤ x + (n : Int) ∧ x + (n : Int) < c
    · rw [if_pos (decide_eq_true z)]
      omega
    · rw [if_neg (fun y => z (of_decide_eq_true y))]
      omega
/-- a Model loop that counts what it does: heap and count apart -/
theorem its_cnt (F : Nat → fx_H → fx_H) (cond : Nat → Bool) (f : Nat → Int32 × fx_H → Int32 × fx_H) (C : Nat) (I : fx_H → Prop) (hI : ∀ c k, c < C → I k → I (F c k))
    (hf : ∀ c t k, c < C → I k → f c (nI t, k) = (nI (t + (if cond c = true then 1 else 0)), F c k)) (t : Nat) (k : fx_H) (hk : I k) : ∀ n, n ≤ C → its f (nI t, k) n = (nI (t + cN cond n), it F k n) ∧ I (it F k n)
  | 0, _ => by
    rw [its_0, it_0]
    exact ⟨rfl, hk⟩
  | n + 1, hn => by
    obtain ⟨h1, h2⟩ := its_cnt F cond f C I hI hf t k hk n (by omega)
    rw [its_s, it_s, h1, hf n _ _ (by omega) h2]
    exact ⟨by rw [Nat.add_assoc]; rfl, hI n _ (by omega) h2⟩
theorem its_cnt2 (F : Nat → Nat → fx_H → fx_H) (rc cc : Nat → Bool) (f : Nat → Int32 × fx_H → Int32 × fx_H) (C R : Nat) (I : fx_H → Prop) (hI : ∀ r k, r < R → I k → I (it (F r) k C))
    (hf : ∀ r t k, r < R → I k → f r (nI t, k) = (nI (t + (if rc r = true then cN cc C else 0)), it (F r) k C)) (k : fx_H) (hk : I k) : ∀ n, n ≤ R → its f (0, k) n = (nI (cN cc C * cN rc n), it (fun r k => it (F r) k C) k n) ∧ I (it (fun r k => it (F r) k C) k n)
  | 0, _ => by
    rw [its_0, it_0]
    exact ⟨rfl, hk⟩
  | n + 1, hn => by
    obtain ⟨h1, h2⟩ := its_cnt2 F rc cc f C R I hI hf k hk n (by omega)
    rw [its_s, it_s, h1, hf n _ _ (by omega) h2]
    refine ⟨?_, hI n _ (by omega) h2⟩
    have e : cN cc C * cN rc n + (if rc n = true then cN cc C else 0) = cN cc C * cN rc (n + 1) := by
      show _ = cN cc C * (cN rc n + (if rc n = true then 1 else 0))
      split
      · rw [Nat.mul_add, Nat.mul_one]
      · rfl
    rw [e]
theorem lin_inj {c a b a' b' : Int} (ha : 0 ≤ a ∧ a < c) (ha' : 0 ≤ a' ∧ a' < c) (e : c * b + a = c * b' + a') : a = a' ∧ b = b' := by
  have h1 : (a + c * b) % c = a := by rw [Int.add_mul_emod_self_left]; exact Int.emod_eq_of_lt ha.1 ha.2
  have h2 : (a' + c * b') % c = a' := by rw [Int.add_mul_emod_self_left]; exact Int.emod_eq_of_lt ha'.1 ha'.2
  have h3 : a = a' := by rw [← h1, ← h2, Int.add_comm a, Int.add_comm a', e]
  refine ⟨h3, ?_⟩
  have h4 : c * b = c * b' := by omega
  exact Int.eq_of_mul_eq_mul_left (by omega) h4
/-- a pixel's place in a picture of c columns, as a number -/
theorem pix_nat {c r a b : Int} (hc : 0 ≤ c ∧ c ≤ 12) (hr : 0 ≤ r ∧ r ≤ 8) (ha : 0 ≤ a ∧ a < c) (hb : 0 ≤ b ∧ b < r) : ((c * b + a).toNat : Int) = c * b + a ∧ (c * b + a).toNat < 96 := by
  have := mul_bd hc hr ha hb
  omega
/-- the class's index -/
theorem cix {c r x y : Int32} (hc : 0 ≤ c.toInt ∧ c.toInt ≤ 12) (hr : 0 ≤ r.toInt ∧ r.toInt ≤ 8) (hx : 0 ≤ x.toInt ∧ x.toInt < c.toInt) (hy : 0 ≤ y.toInt ∧ y.toInt < r.toInt) : (y * c + x).toNatClampNeg = (c.toInt * y.toInt + x.toInt).toNat ∧ vp_in (y * c + x) 96 := by
  obtain ⟨i1, -, -⟩ := put_ix (n := 0) (by decide) hc hr hx hy
  obtain ⟨n1, n2⟩ := pix_nat hc hr hx hy
  have m1 := mul_bd hc hr hx hy
  have t1 : (y * c).toInt = c.toInt * y.toInt := by rw [iz_mul (by rw [Int.mul_comm]; omega), Int.mul_comm]
  have t2 : (y * c + x).toInt = c.toInt * y.toInt + x.toInt := by
    generalize c.toInt * y.toInt = cv at *
    rw [iz_add (by rw [t1]; omega), t1]
  have n3 := iz_nn (a := y * c + x) (by rw [t2]; omega)
  exact ⟨by omega, i1⟩
/-- the Model's index -/
theorem mix_ {n : Nat} {c r x y : Int32} (hn : n < 10) (hc : 0 ≤ c.toInt ∧ c.toInt ≤ 12) (hr : 0 ≤ r.toInt ∧ r.toInt ≤ 8) (hx : 0 ≤ x.toInt ∧ x.toInt < c.toInt) (hy : 0 ≤ y.toInt ∧ y.toInt < r.toInt) : (96 * nI n + c * y + x).toNatClampNeg = 96 * n + (c.toInt * y.toInt + x.toInt).toNat := by
  obtain ⟨-, -, i3⟩ := put_ix hn hc hr hx hy
  rw [i3, (cix hc hr hx hy).1]
theorem cN_and (p : Bool) (c : Nat → Bool) (n : Nat) : cN (fun i => p && c i) n = if p = true then cN c n else 0 := by
  cases p
  · rw [if_neg (by decide)]
    induction n with
    | zero => rfl
    | succ n ih => show cN _ n + (if (false && c n) = true then 1 else 0) = 0; rw [ih]; rfl
  · rw [if_pos rfl]
    exact cN_congr _ _ n (fun t _ => by simp)
/-! ===== fill ===== -/
/-- the pixels (a, b) that a fill reaches -/
def fH (c r x y cs rs : Int) (a b : Int) : Prop := (max x 0 ≤ a ∧ a < min (x + cs) c) ∧ max y 0 ≤ b ∧ b < min (y + rs) r
theorem M_fill {Y : fx_H} {q n : Nat} {s x y cs rs co c r : Int32} (es : s = nI n) (hn : n < 10) (hc : 0 ≤ c.toInt ∧ c.toInt ≤ 12) (hr : 0 ≤ r.toInt ∧ r.toInt ≤ 8) (ec : fx_i Y (q + 3) n = c) (er : fx_i Y (q + 4) n = r)
    (hx : -20 ≤ x.toInt ∧ x.toInt ≤ 30) (hy : -20 ≤ y.toInt ∧ y.toInt ≤ 30) (hcs : 0 ≤ cs.toInt ∧ cs.toInt ≤ 30) (hrs : 0 ≤ rs.toInt ∧ rs.toInt ≤ 30) :
    fx_on (q + 17) Y (its (fiO q s x y cs co) (0, Y) rs.toNatClampNeg).2 ∧
    (∀ a b : Int, fH c.toInt r.toInt x.toInt y.toInt cs.toInt rs.toInt a b → fx_i (its (fiO q s x y cs co) (0, Y) rs.toNatClampNeg).2 (q + 17) (96 * n + (c.toInt * b + a).toNat) = co) ∧
    (∀ j, (∀ a b : Int, fH c.toInt r.toInt x.toInt y.toInt cs.toInt rs.toInt a b → 96 * n + (c.toInt * b + a).toNat ≠ j) → fx_i (its (fiO q s x y cs co) (0, Y) rs.toNatClampNeg).2 (q + 17) j = fx_i Y (q + 17) j) ∧
    ((its (fiO q s x y cs co) (0, Y) rs.toNatClampNeg).1).toInt = max (min (x.toInt + cs.toInt) c.toInt - max x.toInt 0) 0 * max (min (y.toInt + rs.toInt) r.toInt - max y.toInt 0) 0 := by
  have ncs := iz_nn hcs.1
  have nrs := iz_nn hrs.1
  let rc : Nat → Bool := fun j => decide (0 ≤ y.toInt + (j : Int) ∧ y.toInt + (j : Int) < r.toInt)
  let cc : Nat → Bool := fun i => decide (0 ≤ x.toInt + (i : Int) ∧ x.toInt + (i : Int) < c.toInt)
  let ix : Nat → Nat → Nat := fun j i => 96 * n + (c.toInt * (y.toInt + (j : Int)) + (x.toInt + (i : Int))).toNat
  let F : Nat → Nat → fx_H → fx_H := fun j i k => if (rc j && cc i) = true then fx_wi k (q + 17) (ix j i) co else k
  have xi : ∀ i, i < 31 → (x + nI i).toInt = x.toInt + (i : Int) := fun i hi => jz_ti (by omega) (by omega)
  have yj : ∀ j, j < 31 → (y + nI j).toInt = y.toInt + (j : Int) := fun j hj => jz_ti (by omega) (by omega)
  have hit : ∀ j i, (rc j && cc i) = true ↔ ((0 ≤ x.toInt + (i : Int) ∧ x.toInt + (i : Int) < c.toInt) ∧ 0 ≤ y.toInt + (j : Int) ∧ y.toInt + (j : Int) < r.toInt) := fun j i => by
    rw [Bool.and_eq_true]
    exact ⟨fun z => ⟨of_decide_eq_true z.2, of_decide_eq_true z.1⟩, fun z => ⟨decide_eq_true z.2, decide_eq_true z.1⟩⟩
  have onF : ∀ j i k, fx_on (q + 17) k (F j i k) := fun j i k => by
    show fx_on (q + 17) k (if (rc j && cc i) = true then fx_wi k (q + 17) (ix j i) co else k)
    split
    · exact fx_on_wi _ _ _ _
    · exact fx_on_rf _ _
  have stepI : ∀ j i t k, j < rs.toNatClampNeg → i < cs.toNatClampNeg → fx_on (q + 17) Y k → fiI q s x y co j i (nI t, k) = (nI (t + (if (rc j && cc i) = true then 1 else 0)), F j i k) := by
    intro j i t k hj hi hk
    have e1 := (hk.2 (q + 3) (by omega) n).trans ec
    have e2 := (hk.2 (q + 4) (by omega) n).trans er
    have hh := (has_eq (k := k) (q := q) (x := x + nI i) (y := y + nI j) hn ⟨hc, hr⟩ e1 e2).1
    rw [xi i (by omega), yj j (by omega)] at hh
    have cl : (nI n).toNatClampNeg = n := nI_clamp (by omega)
    unfold fiI
    show (if v_MO_has k q s (x + nI i) (y + nI j) = 0 then (nI t, k) else (nI t + Int32.ofInt 1, fx_wi k (q + 17) (96 * s + fx_i k (q + 3) s.toNatClampNeg * (y + nI j) + (x + nI i)).toNatClampNeg co)) = _
    rw [es, cl, e1]
    by_cases z : (rc j && cc i) = true
    · have z2 := (hit j i).mp z
      rw [if_neg (hh.mpr z2), if_pos z, jz_i]
      have e3 := mix_ hn hc hr (x := x + nI i) (y := y + nI j) (by rw [xi i (by omega)]; exact z2.1) (by rw [yj j (by omega)]; exact z2.2)
      rw [xi i (by omega), yj j (by omega)] at e3
      rw [e3]
      show _ = (nI (t + 1), (if (rc j && cc i) = true then fx_wi k (q + 17) (ix j i) co else k))
      rw [if_pos z]
    · have z2 : v_MO_has k q (nI n) (x + nI i) (y + nI j) = 0 := Decidable.byContradiction fun w => z ((hit j i).mpr (hh.mp w))
      rw [if_pos z2, if_neg z]
      show _ = (nI (t + 0), (if (rc j && cc i) = true then fx_wi k (q + 17) (ix j i) co else k))
      rw [if_neg z]
      rfl
  have stepO : ∀ j t k, j < rs.toNatClampNeg → fx_on (q + 17) Y k → fiO q s x y cs co j (nI t, k) = (nI (t + (if rc j = true then cN cc cs.toNatClampNeg else 0)), it (F j) k cs.toNatClampNeg) := by
    intro j t k hj hk
    obtain ⟨a1, -⟩ := its_cnt (F j) (fun i => rc j && cc i) (fiI q s x y co j) cs.toNatClampNeg (fun k => fx_on (q + 17) Y k) (fun i k _ hk => fx_on_t hk (onF j i k)) (fun i t k hi hk => stepI j i t k hj hi hk) t k hk _ (Nat.le_refl _)
    unfold fiO
    rw [a1, cN_and]
  obtain ⟨b1, b2⟩ := its_cnt2 F rc cc (fiO q s x y cs co) cs.toNatClampNeg rs.toNatClampNeg (fun k => fx_on (q + 17) Y k) (fun j k _ hk => fx_on_t hk (fx_on_it (onF j) k _)) (fun j t k hj hk => stepO j t k hj hk) Y (fx_on_rf _ _) _ (Nat.le_refl _)
  have inj : ∀ j i j' i', j < rs.toNatClampNeg → i < cs.toNatClampNeg → j' < rs.toNatClampNeg → i' < cs.toNatClampNeg → (rc j && cc i) = true → (rc j' && cc i') = true → ix j i = ix j' i' → j = j' ∧ i = i' := by
    intro j i j' i' _ _ _ _ z z' e
    have z2 := (hit j i).mp z
    have z2' := (hit j' i').mp z'
    have p1 := pix_nat hc hr z2.1 z2.2
    have p2 := pix_nat hc hr z2'.1 z2'.2
    have e' : 96 * n + (c.toInt * (y.toInt + (j : Int)) + (x.toInt + (i : Int))).toNat = 96 * n + (c.toInt * (y.toInt + (j' : Int)) + (x.toInt + (i' : Int))).toNat := e
    have e2 : c.toInt * (y.toInt + (j : Int)) + (x.toInt + (i : Int)) = c.toInt * (y.toInt + (j' : Int)) + (x.toInt + (i' : Int)) := by rw [← p1.1, ← p2.1]; omega
    have := lin_inj z2.1 z2'.1 e2
    omega
  obtain ⟨g1, g2, g3⟩ := grid (A := q + 17) (h := Y) ix (fun j i => rc j && cc i) (fun _ _ _ => co) F rs.toNatClampNeg (C := cs.toNatClampNeg) (fun j i k _ _ _ => rfl) inj rs.toNatClampNeg (Nat.le_refl _)
  rw [b1]
  refine ⟨g1, fun a b hab => ?_, fun j hj => g3 j (fun r' c' h1 h2 h3 => ?_), ?_⟩
  · unfold fH at hab
    have e1 : ((a - x.toInt).toNat : Int) = a - x.toInt := by omega
    have e2 : ((b - y.toInt).toNat : Int) = b - y.toInt := by omega
    have := g2 (b - y.toInt).toNat (a - x.toInt).toNat (by omega) (by omega) ((hit _ _).mpr (by rw [e1, e2]; omega))
    have e3 : ix (b - y.toInt).toNat (a - x.toInt).toNat = 96 * n + (c.toInt * b + a).toNat := by
      show 96 * n + (c.toInt * (y.toInt + ((b - y.toInt).toNat : Int)) + (x.toInt + ((a - x.toInt).toNat : Int))).toNat = _
      rw [e1, e2]
      have e4 : y.toInt + (b - y.toInt) = b := by omega
      have e5 : x.toInt + (a - x.toInt) = a := by omega
      rw [e4, e5]
    rw [e3] at this
    exact this
  · have z2 := (hit r' c').mp h3
    exact hj (x.toInt + (c' : Int)) (y.toInt + (r' : Int)) (by unfold fH; omega)
  · have c1 := cnt_in x.toInt c.toInt hc.1 cs.toNatClampNeg
    have c2 := cnt_in y.toInt r.toInt hr.1 rs.toNatClampNeg
    have l1 := cN_le cc cs.toNatClampNeg
    have l2 := cN_le rc rs.toNatClampNeg
    rw [ncs] at c1
    rw [nrs] at c2
    have bd : cN cc cs.toNatClampNeg * cN rc rs.toNatClampNeg ≤ 30 * 30 := Nat.mul_le_mul (by omega) (by omega)
    show (nI (cN cc cs.toNatClampNeg * cN rc rs.toNatClampNeg)).toInt = _
    rw [nI_toInt (by omega), ← c1, ← c2]
    exact Int.natCast_mul _ _
/-- the class paints the rectangle at a over the picture p -/
theorem C_over {Z : fx_H} {p a : Nat} {co c : Int32} {r X Y W H : Int} (hap : a ≠ p + 1) (hc : 0 ≤ c.toInt ∧ c.toInt ≤ 12) (hr : 0 ≤ r ∧ r ≤ 8) (ec : fx_i Z p 1 = c) (hR : rIs Z a X Y W H) (hX : 0 ≤ X ∧ X ≤ 1000) (hY : 0 ≤ Y ∧ Y ≤ 1000) (hW : 0 ≤ W ∧ W ≤ 1000) (hH : 0 ≤ H ∧ H ≤ 1000) (hin : 0 < W → 0 < H → X + W ≤ c.toInt ∧ Y + H ≤ r) :
    poPre Z p a ∧ fx_on (p + 1) Z (kOv Z p a co) ∧ (∀ A B : Int, (X ≤ A ∧ A < X + W) ∧ Y ≤ B ∧ B < Y + H → fx_i (kOv Z p a co) (p + 1) (c.toInt * B + A).toNat = co) ∧ (∀ j, (∀ A B : Int, (X ≤ A ∧ A < X + W) ∧ Y ≤ B ∧ B < Y + H → (c.toInt * B + A).toNat ≠ j) → fx_i (kOv Z p a co) (p + 1) j = fx_i Z (p + 1) j) := by
  obtain ⟨e0, e1, e2, e3⟩ := hR
  have nW := iz_nn (a := fx_i Z a 2) (by omega)
  have nH := iz_nn (a := fx_i Z a 3) (by omega)
  have cx : ∀ i, i < (fx_i Z a 2).toNatClampNeg → (fx_i Z a 0 + nI i).toInt = X + (i : Int) := fun i hi => by rw [jz_ti (by omega) (by omega), e0]
  have cy : ∀ i, i < (fx_i Z a 3).toNatClampNeg → (fx_i Z a 1 + nI i).toInt = Y + (i : Int) := fun i hi => by rw [jz_ti (by omega) (by omega), e1]
  have rr : ∃ r32 : Int32, r32.toInt = r := ⟨iz r, iz_ti (by omega)⟩
  obtain ⟨r32, er⟩ := rr
  have key : ∀ j i, j < (fx_i Z a 3).toNatClampNeg → i < (fx_i Z a 2).toNatClampNeg → ((fx_i Z a 1 + nI j) * fx_i Z p 1 + (fx_i Z a 0 + nI i)).toNatClampNeg = (c.toInt * (Y + (j : Int)) + (X + (i : Int))).toNat ∧ vp_in ((fx_i Z a 1 + nI j) * fx_i Z p 1 + (fx_i Z a 0 + nI i)) 96 ∧ (0 ≤ X + (i : Int) ∧ X + (i : Int) < c.toInt) ∧ 0 ≤ Y + (j : Int) ∧ Y + (j : Int) < r := by
    intro j i hj hi
    have hh := hin (by omega) (by omega)
    have q1 : 0 ≤ X + (i : Int) ∧ X + (i : Int) < c.toInt := by omega
    have q2 : 0 ≤ Y + (j : Int) ∧ Y + (j : Int) < r := by omega
    have := cix (c := c) (r := r32) (x := fx_i Z a 0 + nI i) (y := fx_i Z a 1 + nI j) hc (by rw [er]; exact hr) (by rw [cx i hi]; exact q1) (by rw [cy j hj, er]; exact q2)
    rw [cx i hi, cy j hj] at this
    rw [ec]
    exact ⟨this.1, this.2, q1, q2⟩
  obtain ⟨g1, g2, g3⟩ := grid (A := p + 1) (h := Z) (fun j i => ((fx_i Z a 1 + nI j) * fx_i Z p 1 + (fx_i Z a 0 + nI i)).toNatClampNeg) (fun _ _ => true) (fun _ _ _ => co) (fun j i k => pOv Z p a co j i k) (fx_i Z a 3).toNatClampNeg (C := (fx_i Z a 2).toNatClampNeg) (fun j i k _ _ _ => by rw [if_pos rfl]; rfl) (fun j i j' i' h1 h2 h3 h4 _ _ e => by
    obtain ⟨k1, -, k3, k4⟩ := key j i h1 h2
    obtain ⟨l1, -, l3, l4⟩ := key j' i' h3 h4
    have e' : ((fx_i Z a 1 + nI j) * fx_i Z p 1 + (fx_i Z a 0 + nI i)).toNatClampNeg = ((fx_i Z a 1 + nI j') * fx_i Z p 1 + (fx_i Z a 0 + nI i')).toNatClampNeg := e
    rw [k1, l1] at e'
    have p1 := pix_nat hc hr k3 k4
    have p2 := pix_nat hc hr l3 l4
    have e2 : c.toInt * (Y + (j : Int)) + (X + (i : Int)) = c.toInt * (Y + (j' : Int)) + (X + (i' : Int)) := by rw [← p1.1, ← p2.1]; omega
    have := lin_inj k3 l3 e2
    omega) (fx_i Z a 3).toNatClampNeg (Nat.le_refl _)
  refine ⟨⟨⟨by omega, by omega, by omega, by omega⟩, fun j i hj hi => (key j i hj hi).2.1⟩, g1, fun A B hAB => ?_, fun j hj => g3 j (fun r' c' h1 h2 _ => ?_)⟩
  · have f1 : ((A - X).toNat : Int) = A - X := by omega
    have f2 : ((B - Y).toNat : Int) = B - Y := by omega
    have := g2 (B - Y).toNat (A - X).toNat (by omega) (by omega) rfl
    have e4 := (key (B - Y).toNat (A - X).toNat (by omega) (by omega)).1
    have e5 : c.toInt * (Y + ((B - Y).toNat : Int)) + (X + ((A - X).toNat : Int)) = c.toInt * B + A := by
      rw [f1, f2]
      have q1 : Y + (B - Y) = B := by omega
      have q2 : X + (A - X) = A := by omega
      rw [q1, q2]
    rw [e5] at e4
    show fx_i (it _ Z (fx_i Z a 3).toNatClampNeg) (p + 1) _ = co
    rw [← e4]
    exact this
  · rw [(key r' c' h1 h2).1]
    exact hj _ _ (by omega)
theorem k_fill_0 {h : fx_H} {q : Nat} {s x y cs rs co : Int32} (hd : v_MO_hasDraft h q s = 0 ∨ jW co 0 65535 = 0 ∨ jA x y cs rs = 0) : k_MO_fill h q s x y cs rs co = fx_wi h q 0 1 := by
  unfold k_MO_fill
  rw [wi_jW, area_jA]
  by_cases c0 : v_MO_hasDraft h q s = 0
  · rw [if_pos c0]
  by_cases c1 : jW co 0 65535 = 0
  · rw [if_neg c0, if_pos c1]
  · rcases hd with z | z | z
    · exact absurd z c0
    · exact absurd z c1
    · rw [if_neg c0, if_neg c1, if_pos z]
theorem A_fill {h : fx_H} {w q f b : Nat} (hj : J h w q f b) (s x y cs rs co : Int32) :
    (¬ (v_DE_hasDraft h (w + 1) s) = 0 → ¬ (jW co 0 65535) = 0 → ¬ (jA x y cs rs) = 0 → poPre (fl2 h w f b s x y cs rs co) (w + 1 + 48 + 4 * s.toNatClampNeg) (w + 186)) ∧ mCR (k_FS_fill h w f b s x y cs rs co) q ∧
    fx_i (k_MO_fill (k_FS_fill h w f b s x y cs rs co) q s x y cs rs co) q 0 = cod (o_FS_fill h w f b s x y cs rs co) ∧ (∀ v, o_FS_fill h w f b s x y cs rs co = .inl (some v) → v = v_MO_fill (k_FS_fill h w f b s x y cs rs co) q s x y cs rs co) ∧ J (k_MO_fill (k_FS_fill h w f b s x y cs rs co) q s x y cs rs co) w q f b := by
  have hq := hj.at_
  have hsk := J_ag (ag_sk h w q 1) hj
  have ea : w + 1 + 48 + 4 * s.toNatClampNeg = w + 49 + 4 * s.toNatClampNeg := by omega
  by_cases hd : v_DE_hasDraft h (w + 1) s = 0 ∨ jW co 0 65535 = 0 ∨ jA x y cs rs = 0
  · have e12 : k_FS_fill h w f b s x y cs rs co = fx_sk h 1 ∧ o_FS_fill h w f b s x y cs rs co = .inr "java/lang/IllegalArgumentException" := by
      unfold k_FS_fill o_FS_fill
      by_cases c0 : v_DE_hasDraft h (w + 1) s = 0
      · rw [if_pos c0, if_pos c0]; exact ⟨rfl, rfl⟩
      by_cases c1 : jW co 0 65535 = 0
      · rw [if_neg c0, if_pos c1, if_neg c0, if_pos c1]; exact ⟨rfl, rfl⟩
      · rcases hd with z | z | z
        · exact absurd z c0
        · exact absurd z c1
        · rw [if_neg c0, if_neg c1, if_pos z, if_neg c0, if_neg c1, if_pos z]; exact ⟨rfl, rfl⟩
    have e3 : v_MO_hasDraft (fx_sk h 1) q s = 0 ∨ jW co 0 65535 = 0 ∨ jA x y cs rs = 0 := hd.imp (fun z => (hasDraft_iff hj (fun _ => rfl) (fun _ => rfl) s).trans z) id
    rw [e12.1, e12.2, k_fill_0 e3]
    refine ⟨fun z1 z2 z3 => ?_, hsk.cr, w00 _ _ _, fun v z => (by cases z), J_w hsk 1⟩
    rcases hd with z | z | z
    · exact absurd z z1
    · exact absurd z z2
    · exact absurd z z3
  have hd1 : ¬ v_DE_hasDraft h (w + 1) s = 0 := fun z => hd (Or.inl z)
  have hc1 : ¬ jW co 0 65535 = 0 := fun z => hd (Or.inr (Or.inl z))
  have ha1 : ¬ jA x y cs rs = 0 := fun z => hd (Or.inr (Or.inr z))
  obtain ⟨hs, es, h0⟩ := draft_in hd1
  rw [ea] at h0
  obtain ⟨t7, t1, t6, pe⟩ := pre_there hj hs h0
  obtain ⟨d1, d2⟩ := J_dims hj hs h0
  obtain ⟨b1, b2⟩ := hj.cr _ hs
  obtain ⟨r1, r2, r3, r4⟩ := ar_b (h := h) (by rw [area_jA]; exact ha1)
  have bc := jW_b1 hc1
  obtain ⟨n1, n2, n3, n4⟩ := clip_n b1 r1 r3
  obtain ⟨p1, p2, p3, p4⟩ := clip_n (c := fx_i h (q + 4) s.toNatClampNeg) ⟨b2.1, by omega⟩ r2 r4
  have e1 : k_FS_fill h w f b s x y cs rs co = fl3 h w f b s x y cs rs co := by unfold k_FS_fill; rw [if_neg hd1, if_neg hc1, if_neg ha1]
  have e2 : o_FS_fill h w f b s x y cs rs co = .inl (some (fx_i (fl3 h w f b s x y cs rs co) (w + 186) 2 * fx_i (fl3 h w f b s x y cs rs co) (w + 186) 3)) := by unfold o_FS_fill; rw [if_neg hd1, if_neg hc1, if_neg ha1]
  rw [e1, e2]
  unfold fl3
  rw [ea]
  have e4 : fl2 h w f b s x y cs rs co = rcut (rset h (w + 186) x y cs rs) (w + 186) (fx_i h (q + 3) s.toNatClampNeg) (fx_i h (q + 4) s.toNatClampNeg) := by
    unfold fl2 fl1
    rw [ea, rset_o _ _ _ _ _ _ _ _ (by omega), rset_o _ _ _ _ _ _ _ _ (by omega), d1, d2]
  rw [e4]
  generalize hn : s.toNatClampNeg = n at *
  generalize hX : rcut (rset h (w + 186) x y cs rs) (w + 186) (fx_i h (q + 3) n) (fx_i h (q + 4) n) = Z
  obtain ⟨v0, v1, v2, v3⟩ := rset_v h (w + 186) x y cs rs
  have zv : fx_i Z (w + 186) 0 = jmax x 0 ∧ fx_i Z (w + 186) 1 = jmax y 0 ∧ fx_i Z (w + 186) 2 = jmax (jmin (x + cs) (fx_i h (q + 3) n) - jmax x 0) 0 ∧ fx_i Z (w + 186) 3 = jmax (jmin (y + rs) (fx_i h (q + 4) n) - jmax y 0) 0 := by
    have := rset_v (rset h (w + 186) x y cs rs) (w + 186) (jmax x 0) (jmax y 0) (jmax (jmin (x + cs) (fx_i h (q + 3) n) - jmax x 0) 0) (jmax (jmin (y + rs) (fx_i h (q + 4) n) - jmax y 0) 0)
    rw [← hX]
    unfold rcut
    rw [v0, v1, v2, v3]
    exact this
  have zo : ∀ a j, a ≠ w + 186 → fx_i Z a j = fx_i h a j := fun a j g1 => by rw [← hX]; unfold rcut; rw [rset_o _ _ _ _ _ _ _ _ g1, rset_o _ _ _ _ _ _ _ _ g1]
  have zR : rIs Z (w + 186) (max x.toInt 0) (max y.toInt 0) (max (min (x.toInt + cs.toInt) (fx_i h (q + 3) n).toInt - max x.toInt 0) 0) (max (min (y.toInt + rs.toInt) (fx_i h (q + 4) n).toInt - max y.toInt 0) 0) := by
    unfold rIs
    rw [zv.1, zv.2.1, zv.2.2.1, zv.2.2.2, n4, p4, n1, p1, n2, p2]
    exact ⟨rfl, rfl, rfl, rfl⟩
  clear n3 n4 p3 p4
  obtain ⟨C1, C2, C3, C4⟩ := C_over (Z := Z) (p := w + 49 + 4 * n) (a := w + 186) (co := co) (c := fx_i h (q + 3) n) (r := (fx_i h (q + 4) n).toInt) (by omega) b1 b2 (by rw [zo _ _ (by omega)]; exact d1) zR (by omega) (by omega) (by omega) (by omega) (by omega)
  generalize kOv Z (w + 49 + 4 * n) (w + 186) co = Y at *
  have yo : ∀ a j, a ≠ w + 186 → a ≠ w + 49 + 4 * n + 1 → fx_i Y a j = fx_i h a j := fun a j g1 g2 => (C2.2 a g2 j).trans (zo a j g1)
  have e3 : ¬ v_MO_hasDraft Y q s = 0 := by
    rw [hasDraft_iff hj (fun j => yo _ _ (by omega) (by omega)) (fun j => yo _ _ (by omega) (by omega)) s]
    exact hd1
  have crY : mCR Y q := fun t ht => by rw [yo _ _ (by omega) (by omega), yo _ _ (by omega) (by omega)]; exact hj.cr t ht
  have k1 : k_MO_fill Y q s x y cs rs co = (its (fiO q s x y cs co) ((0 : Int32), fx_wi Y q 0 (0 : Int32)) rs.toNatClampNeg).2 := by
    unfold k_MO_fill
    rw [if_neg e3, wi_jW, if_neg hc1, area_jA, if_neg ha1]
  have k2 : v_MO_fill Y q s x y cs rs co = (its (fiO q s x y cs co) ((0 : Int32), fx_wi Y q 0 (0 : Int32)) rs.toNatClampNeg).1 := by
    unfold v_MO_fill
    rw [if_neg e3, wi_jW, if_neg hc1, area_jA, if_neg ha1]
  have w3 : ∀ o j, 0 < o → fx_i (fx_wi Y q 0 (0 : Int32)) (q + o) j = fx_i h (q + o) j := fun o j g => (wi_q _ _ _ _ _ _ g).trans (yo _ _ (by omega) (by omega))
  obtain ⟨M1, M2, M3, M4⟩ := M_fill (Y := fx_wi Y q 0 (0 : Int32)) (q := q) (n := n) (s := s) (x := x) (y := y) (cs := cs) (rs := rs) (co := co) es hs b1 b2 (w3 3 n (by decide)) (w3 4 n (by decide)) r1 r2 r3 r4
  rw [k1, k2]
  generalize (its (fiO q s x y cs co) ((0 : Int32), fx_wi Y q 0 (0 : Int32)) rs.toNatClampNeg) = RES at *
  obtain ⟨cnt, k⟩ := RES
  have kc : ∀ a j, a < q → fx_i k a j = fx_i Y a j := fun a j g => (M1.2 a (by omega) j).trans (by rw [fx_i_wi, if_neg (fun z => by omega)])
  have km : ∀ o j, 0 < o → o ≠ 17 → fx_i k (q + o) j = fx_i h (q + o) j := fun o j g1 g2 => (M1.2 _ (by omega) j).trans (w3 o j g1)
  have kf : ∀ j, fx_i k q j = fx_i (fx_wi Y q 0 (0 : Int32)) q j := fun j => M1.2 q (by omega) j
  have range : ∀ a b : Int, fH (fx_i h (q + 3) n).toInt (fx_i h (q + 4) n).toInt x.toInt y.toInt cs.toInt rs.toInt a b → (0 ≤ a ∧ a < (fx_i h (q + 3) n).toInt) ∧ 0 ≤ b ∧ b < (fx_i h (q + 4) n).toInt := fun a b hab => by unfold fH at hab; omega
  have d : DF h k w q n := by
    refine ⟨fun a g1 g2 g3 g4 g5 j g6 g7 => (kc a j (by omega)).trans (yo a j (by omega) (by omega)), fun o g1 g2 j g3 => km o j (by omega) (by omega), fun j g => ?_, fun o g1 g2 g3 j => km o j (by omega) (by omega), fun j g1 g2 => ?_⟩
    · exact (M3 j (fun a b hab e => g (by have := (pix_nat b1 b2 (range a b hab).1 (range a b hab).2).2; omega))).trans (w3 17 j (by decide))
    · rw [kf, w0 _ _ _ _ g1]
      exact yo _ _ (by omega) (by omega)
  have cd : ∀ j, fx_i k (w + 49 + 4 * n) j = fx_i h (w + 49 + 4 * n) j := fun j => (kc _ _ (by omega)).trans (yo _ _ (by omega) (by omega))
  have cd2 : ∀ j, fx_i k (w + 49 + 4 * n + 2) j = fx_i h (w + 49 + 4 * n + 2) j := fun j => (kc _ _ (by omega)).trans (yo _ _ (by omega) (by omega))
  have cd3 : ∀ j, fx_i k (w + 49 + 4 * n + 3) j = fx_i h (w + 49 + 4 * n + 3) j := fun j => (kc _ _ (by omega)).trans (yo _ _ (by omega) (by omega))
  have hpe : PE k (w + 49 + 4 * n) q n := by
    obtain ⟨p1, p2, p3, p4, p5, p6⟩ := pe
    unfold PE mpOk at *
    simp only [cd, cd2, km 3 _ (by decide) (by decide), km 4 _ (by decide) (by decide), km 8 _ (by decide) (by decide), km 9 _ (by decide) (by decide), km 10 _ (by decide) (by decide), km 11 _ (by decide) (by decide), km 12 _ (by decide) (by decide), km 13 _ (by decide) (by decide), km 14 _ (by decide) (by decide), km 15 _ (by decide) (by decide), km 16 _ (by decide) (by decide)]
    refine ⟨p1, fun j hj9 => ?_, p3, p4, p5, p6⟩
    rw [kc _ _ (by omega)]
    by_cases hit : ∃ a b : Int, fH (fx_i h (q + 3) n).toInt (fx_i h (q + 4) n).toInt x.toInt y.toInt cs.toInt rs.toInt a b ∧ ((fx_i h (q + 3) n).toInt * b + a).toNat = j
    · obtain ⟨a, b, hab, e⟩ := hit
      have q1 := M2 a b hab
      have q2 := C3 a b (by unfold fH at hab; omega)
      rw [e] at q1 q2
      rw [q1, q2]
      exact ⟨rfl, bc⟩
    · have q1 := M3 (96 * n + j) (fun a b hab e => hit ⟨a, b, hab, by omega⟩)
      have q2 := C4 j (fun a b hab e => hit ⟨a, b, by unfold fH; omega, e⟩)
      rw [q1, q2, zo _ _ (by omega), w3 17 _ (by decide)]
      exact p2 j hj9
  refine ⟨fun _ _ _ => C1, crY, by rw [kf, w00]; rfl, fun v z => ?_, J_edit hj hs h0 d (fun o g1 g2 => km o n (by omega) (by omega)) (fun j _ => cd j) ((kc _ _ (by omega)).trans (yo _ _ (by omega) (by omega))) ((kc _ _ (by omega)).trans (yo _ _ (by omega) (by omega))) ?_ hpe⟩
  · cases z
    have y2 : fx_i Y (w + 186) 2 = fx_i Z (w + 186) 2 := C2.2 _ (by omega) _
    have y3 : fx_i Y (w + 186) 3 = fx_i Z (w + 186) 3 := C2.2 _ (by omega) _
    obtain ⟨-, -, z2, z3⟩ := zR
    have bd1 : 0 ≤ (fx_i Z (w + 186) 2).toInt ∧ (fx_i Z (w + 186) 2).toInt ≤ 12 := by rw [z2]; omega
    have bd2 : 0 ≤ (fx_i Z (w + 186) 3).toInt ∧ (fx_i Z (w + 186) 3).toInt ≤ 8 := by rw [z3]; omega
    rw [y2, y3, iz_eq]
    show _ = cnt.toInt
    have mb : 0 ≤ (fx_i Z (w + 186) 2).toInt * (fx_i Z (w + 186) 3).toInt ∧ (fx_i Z (w + 186) 2).toInt * (fx_i Z (w + 186) 3).toInt ≤ 12 * 8 := ⟨Int.mul_nonneg bd1.1 bd2.1, Int.mul_le_mul bd1.2 bd2.2 bd2.1 (by decide)⟩
    rw [iz_mul (by omega), z2, z3]
    exact M4.symm
  · obtain ⟨s1, s2, s3⟩ := (hj.pics n hs).1.2.1
    obtain ⟨x1, x2, x3, x4, x5⟩ := sh_congr (h := h) (k := k) (q := q) (p := n) (fun o g1 g2 => km o n (by omega) (by omega))
    refine ⟨rOk_of (fun j _ => cd3 j) s1, by rw [x5, cd3, cd3]; exact s2, ?_⟩
    unfold rIs at s3 ⊢
    rw [x5, x1, x2, x3, x4, cd3, cd3, cd3, cd3]
    exact s3
