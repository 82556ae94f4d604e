/-! ===== the next step ===== -/
/-- the Model's hole, and its bounds -/
def hX (h : fx_H) (q : Nat) : Int := (fx_i h (q + 22) (mK h q).toNatClampNeg).toInt
def hY (h : fx_H) (q : Nat) : Int := (fx_i h (q + 23) (mK h q).toNatClampNeg).toInt
def hW (h : fx_H) (q : Nat) : Int := (fx_i h (q + 24) (mK h q).toNatClampNeg).toInt
def hH (h : fx_H) (q : Nat) : Int := (fx_i h (q + 25) (mK h q).toNatClampNeg).toInt
def hBd (h : fx_H) (q : Nat) : Prop := 0 ≤ hX h q ∧ 0 ≤ hY h q ∧ 0 ≤ hW h q ∧ 0 ≤ hH h q ∧ hX h q + hW h q ≤ 20 ∧ hY h q + hH h q ≤ 10
/-- the level n is to be painted into the hole -/
def Pm (h : fx_H) (q n : Nat) : Prop := ∃ p, p < 30 ∧ v_MO_nth h q 20 (nI n) = nI p ∧ v_MO_isPlane h q (nI p - 20) = 0 ∧ mI h q p (hX h q) (hY h q) (hW h q) (hH h q)
/-- what the search looks at stays -/
theorem Pm_m {h u : fx_H} {q : Nat} (e : mfr q [] [32, 38, 39, 40, 41] h u) : hX u q = hX h q ∧ hY u q = hY h q ∧ hW u q = hW h q ∧ hH u q = hH h q ∧ ∀ n, Pm u q n ↔ Pm h q n := by
  have m : ∀ o, 1 ≤ o → ∀ j, fx_i u (q + o) j = fx_i h (q + o) j := fun o g j => mfr_at e ⟨fun z => (by cases z), by omega⟩ j
  have ek : mK u q = mK h q := by unfold mK; rw [mfr_f e (by decide), mfr_f e (by decide)]
  have x1 : hX u q = hX h q := by unfold hX; rw [ek, m 22 (by decide)]
  have x2 : hY u q = hY h q := by unfold hY; rw [ek, m 23 (by decide)]
  have x3 : hW u q = hW h q := by unfold hW; rw [ek, m 24 (by decide)]
  have x4 : hH u q = hH h q := by unfold hH; rw [ek, m 25 (by decide)]
  refine ⟨x1, x2, x3, x4, fun n => ?_⟩
  have en : v_MO_nth u q 20 (nI n) = v_MO_nth h q 20 (nI n) := nth_congr (by decide) (fun t _ => m 7 (by decide) _) (fun t _ => m 10 (by decide) _) _
  have ep : ∀ s, v_MO_isPlane u q s = v_MO_isPlane h q s := fun s => by unfold v_MO_isPlane; rw [m 26 (by decide), m 26 (by decide)]
  have es : ∀ p, mI u q p (hX u q) (hY u q) (hW u q) (hH u q) ↔ mI h q p (hX h q) (hY h q) (hW h q) (hH h q) := fun p => by
    obtain ⟨y1, y2, y3, y4, y5⟩ := sh_congr (h := h) (k := u) (q := q) (p := p) (fun o g1 g2 => m o (by omega) _)
    unfold mI
    rw [y1, y2, y3, y4, y5, x1, x2, x3, x4]
  unfold Pm
  simp only [en, ep, es]
theorem Pm_w {h : fx_H} {q n : Nat} (hp : ∀ p, p < 30 → ¬ fx_i h (q + 7) p = 0 → mpOk h q p) (hb : hBd h q) : 0 < (fx_i (k_MO_meet h q (nI n)) q 40).toInt ↔ Pm h q n := by
  have a0 : (0 : Int32).toInt = 0 := rfl
  rcases nth_rg h q 20 (nI n) with z | ⟨p, p1, p2, p3, p4, p5⟩
  · have := meet_no (h := h) (q := q) (n := nI n) (Or.inl (by rw [z]; decide))
    rw [this, a0]
    refine ⟨fun y => by omega, fun ⟨p, g1, g2, _⟩ => ?_⟩
    rw [z, iz_eq, nI_toInt (by omega)] at g2
    have : (-1 : Int32).toInt = -1 := rfl
    omega
  · by_cases hpl : v_MO_isPlane h q (nI p - 20) = 0
    · obtain ⟨v1, v2⟩ := meet_v (n := nI n) (by omega) p5 hpl (hp p (by omega)) hb
      constructor
      · intro y
        refine ⟨p, by omega, p5, hpl, Classical.byContradiction fun w => ?_⟩
        rw [v1 w, a0] at y
        omega
      · rintro ⟨p', g1, g2, g3, g4⟩
        have ep : p' = p := by rw [p5] at g2; exact ((nI_eq (by omega) (by omega)).mp g2).symm
        subst ep
        rw [(v2 g4).2.2.1]
        have g5 := g4.2.1
        unfold hX hW at g5
        omega
    · have := meet_no (h := h) (q := q) (n := nI n) (Or.inr (by rw [p5]; exact hpl))
      rw [this, a0]
      refine ⟨fun y => by omega, fun ⟨p', g1, g2, g3, _⟩ => ?_⟩
      have ep : p' = p := by rw [p5] at g2; exact ((nI_eq (by omega) (by omega)).mp g2).symm
      subst ep
      exact absurd g3 hpl
theorem fs_lp {h : fx_H} {q : Nat} (hp : ∀ p, p < 30 → ¬ fx_i h (q + 7) p = 0 → mpOk h q p) (hb : hBd h q) : ∀ (m st : Nat) (u : fx_H), st + m = 12 → 1 ≤ st → mfr q [] [32, 38, 39, 40, 41] h u → fx_i u q 32 = nI st → st ≤ 11 →
    ∃ n v, st - 1 ≤ n ∧ n ≤ 10 ∧ (∀ i, st - 1 ≤ i → i < n → ¬ Pm h q i) ∧ mfr q [] [32, 38, 39, 40, 41] h v ∧ fx_i v q 32 = nI (n + 1) ∧ ((n < 10 ∧ Pm h q n ∧ lp (fsI q) m (0, u) = (1, v)) ∨ (n = 10 ∧ lp (fsI q) m (0, u) = (0, v)))
  | 0, st, u, hm, h1, e, es, h11 => by omega
  | m + 1, st, u, hm, h1, e, es, h11 => by
    have a10 : (10 : Int32).toInt = 10 := rfl
    have a0 : (0 : Int32).toInt = 0 := rfl
    by_cases h10 : st = 11
    · have eN : fsI q (0, u) = none := by
        unfold fsI
        show (if (0 : Int32) = 0 then (if (10 : Int32) < fx_i u q 32 then none else _) else none) = none
        rw [if_pos rfl, es, h10, if_pos (by decide)]
      refine ⟨10, u, by omega, by omega, fun i g1 g2 => by omega, e, by rw [es, h10], Or.inr ⟨rfl, lp_none eN _⟩⟩
    · have e10 : ¬ (10 : Int32) < nI st := by rw [iz_lt, a10, nI_toInt (by omega)]; omega
      have em1 : nI st - 1 = nI (st - 1) := by
        have : st = st - 1 + 1 := by omega
        rw [this]
        exact nI_pred _
      have em := mfr_t e (mfr_m (mfr_meet u q (nI (st - 1))) (by decide) (by decide))
      have pu : ∀ p, p < 30 → ¬ fx_i u (q + 7) p = 0 → mpOk u q p := fun p g1 g2 => by
        have m : ∀ o, 1 ≤ o → ∀ j, fx_i u (q + o) j = fx_i h (q + o) j := fun o g j => mfr_at e ⟨fun z => (by cases z), by omega⟩ j
        rw [m 7 (by decide)] at g2
        have := hp p g1 g2
        unfold mpOk at this ⊢
        rw [m 8 (by decide), m 9 (by decide), m 13 (by decide), m 14 (by decide), m 15 (by decide), m 16 (by decide), m 3 (by decide), m 4 (by decide)]
        exact this
      obtain ⟨y1, y2, y3, y4, y5⟩ := Pm_m e
      have bu : hBd u q := by unfold hBd at hb ⊢; rw [y1, y2, y3, y4]; exact hb
      have hw := Pm_w (n := st - 1) pu bu
      rw [y5] at hw
      by_cases hP : Pm h q (st - 1)
      · have eS : fsI q (0, u) = some (1, k_MO_meet u q (nI (st - 1))) := by
          unfold fsI
          show (if (0 : Int32) = 0 then (if (10 : Int32) < fx_i u q 32 then none else if fx_i (k_MO_meet u q (fx_i u q 32 - 1)) q 40 ≤ 0 then _ else some (1, k_MO_meet u q (fx_i u q 32 - 1))) else none) = _
          rw [if_pos rfl, es, if_neg e10, em1, if_neg (by rw [iz_le, a0]; have := hw.mpr hP; omega)]
        have eN : fsI q (1, k_MO_meet u q (nI (st - 1))) = none := by
          unfold fsI
          show (if (1 : Int32) = 0 then _ else none) = none
          rw [if_neg (by decide)]
        have e32 : fx_i (k_MO_meet u q (nI (st - 1))) q 32 = nI st := by rw [mfr_f (mfr_meet u q (nI (st - 1))) (by decide), es]
        refine ⟨st - 1, _, Nat.le_refl _, by omega, fun i g1 g2 => by omega, em, by rw [e32]; congr 1; omega, Or.inl ⟨by omega, hP, by rw [lp_some eS, lp_none eN]⟩⟩
      · have eS : fsI q (0, u) = some (0, fx_wi (k_MO_meet u q (nI (st - 1))) q 32 (nI (st + 1))) := by
          unfold fsI
          show (if (0 : Int32) = 0 then (if (10 : Int32) < fx_i u q 32 then none else if fx_i (k_MO_meet u q (fx_i u q 32 - 1)) q 40 ≤ 0 then some (0, fx_wi (k_MO_meet u q (fx_i u q 32 - 1)) q 32 (fx_i (k_MO_meet u q (fx_i u q 32 - 1)) q 32 + 1)) else _) else none) = _
          rw [if_pos rfl, es, if_neg e10, em1, if_pos (by rw [iz_le, a0]; exact Int.not_lt.mp (fun z => hP (hw.mp z))), mfr_f (mfr_meet u q (nI (st - 1))) (by decide), es, ← nI_succ]
        obtain ⟨n, v, g1, g2, g3, g4, g5, g6⟩ := fs_lp hp hb m (st + 1) (fx_wi (k_MO_meet u q (nI (st - 1))) q 32 (nI (st + 1))) (by omega) (by omega) (mfr_wf em (by decide)) (by rw [fx_i_wi, if_pos ⟨rfl, rfl⟩]) (by omega)
        refine ⟨n, v, by omega, g2, fun i l1 l2 => ?_, g4, g5, ?_⟩
        · by_cases z : i = st - 1
          · rw [z]; exact hP
          · exact g3 i (by omega) l2
        · rw [lp_some eS]
          exact g6
/-- class cells of a, Model cells of b -/
def mixH (q : Nat) (a b : fx_H) : fx_H := (fun x j => if x < q then fx_i a x j else fx_i b x j, a.2)
theorem mix_c {q x : Nat} (a b : fx_H) (hx : x < q) (j : Nat) : fx_i (mixH q a b) x j = fx_i a x j := if_pos hx
theorem mix_m {q : Nat} (a b : fx_H) (o j : Nat) : fx_i (mixH q a b) (q + o) j = fx_i b (q + o) j := if_neg (by omega)
theorem mix_q {q : Nat} (a b : fx_H) (j : Nat) : fx_i (mixH q a b) q j = fx_i b q j := if_neg (by omega)
/-- a step changes the memory that is drawn into, its list, and the composer's numbers -/
theorem J_stepf {x k : fx_H} {w q f b m : Nat} (hj : J x w q f b) (em : bk x q = m)
    (c : ∀ y, w ≤ y → y < w + 186 → y ≠ w + 141 → ¬ (w + 165 ≤ y ∧ y ≤ w + 174) → y ≠ w + 143 + 11 * m + 1 → y ≠ w + 143 + 11 * m + 2 → ∀ j, ¬ (y = w + 89 ∧ (j = 6 ∨ j = 9 ∨ j = 10)) → fx_i k y j = fx_i x y j)
    (mm : ∀ o, 1 ≤ o → o ≤ 37 → o ≠ 18 → o ≠ 20 → o ≠ 21 → ¬ (27 ≤ o ∧ o ≤ 31) → ∀ j, fx_i k (q + o) j = fx_i x (q + o) j) (m20 : ∀ j, ¬ (200 * m ≤ j ∧ j < 200 * m + 200) → fx_i k (q + 20) j = fx_i x (q + 20) j) (m21 : ∀ j, j ≠ m → fx_i k (q + 21) j = fx_i x (q + 21) j)
    (fq : ∀ j, j ≠ 0 → j ≠ 22 → j ≠ 31 → j ≠ 32 → ¬ (38 ≤ j ∧ j ≤ 41) → fx_i k q j = fx_i x q j) (hM : JM k w q m) (hC : JC k w q) : J k w q f b := by
  have hB := bk_2 hj.mem
  rw [em] at hB
  have me : ∀ o, 1 ≤ o → o ≤ 26 → o ≠ 18 → o ≠ 20 → o ≠ 21 → ∀ j, fx_i k (q + o) j = fx_i x (q + o) j := fun o h1 h2 h3 h4 h5 => mm o h1 (by omega) h3 h4 h5 (by omega)
  have mt : ∀ o, 32 ≤ o → o ≤ 37 → ∀ j, fx_i k (q + o) j = fx_i x (q + o) j := fun o h1 h2 => mm o (by omega) h2 (by omega) (by omega) (by omega) (by omega)
  refine J.mk (at_ := hj.at_) (mem := ?_) (pics := ?_) (pileC := ?_) (pileT := ?_) (cr := ?_) (num := ?_) (desk := ?_) (free := ?_) (miss := ?_) (comp := hC) (plan := ?_) (set_ := ?_) (beam := ?_)
  · have := hj.mem
    unfold JW at this ⊢
    rw [fq 23 (by decide) (by decide) (by decide) (by decide) (by decide)]
    exact this
  · intro s hs
    have pc : ∀ a p, w ≤ a → a + 3 < w + 141 → (a + 3 < w + 89 ∨ w + 89 < a) → p < 30 → PR x a q p → PR k a q p := fun a p h1 h2 h3 h4 hp => PR_congr (fun j _ => c _ (by omega) (by omega) (by omega) (by omega) (by omega) (by omega) j (by omega)) (fun j _ => c _ (by omega) (by omega) (by omega) (by omega) (by omega) (by omega) j (by omega)) (fun j _ => c _ (by omega) (by omega) (by omega) (by omega) (by omega) (by omega) j (by omega)) (fun j _ => c _ (by omega) (by omega) (by omega) (by omega) (by omega) (by omega) j (by omega)) (fun o h4 h5 => me o (by omega) (by omega) (by omega) (by omega) (by omega) _) (fun j _ => me 17 (by decide) (by decide) (by decide) (by decide) (by decide) _) ⟨me 3 (by decide) (by decide) (by decide) (by decide) (by decide) _, me 4 (by decide) (by decide) (by decide) (by decide) (by decide) _⟩ hp
    obtain ⟨p1, p2, p3⟩ := hj.pics s hs
    exact ⟨pc _ _ (by omega) (by omega) (by omega) (by omega) p1, pc _ _ (by omega) (by omega) (by omega) (by omega) p2, pc _ _ (by omega) (by omega) (by omega) (by omega) p3⟩
  · exact PS_congr (by decide) (c _ (by omega) (by omega) (by omega) (by omega) (by omega) (by omega) _ (by omega)) (fun l _ => c _ (by omega) (by omega) (by omega) (by omega) (by omega) (by omega) _ (by omega)) (fun t ht => c _ (by omega) (by omega) (by omega) (by omega) (by omega) (by omega) _ (by omega)) (fun t _ => me 7 (by decide) (by decide) (by decide) (by decide) (by decide) _) (fun t _ => me 10 (by decide) (by decide) (by decide) (by decide) (by decide) _) hj.pileC
  · exact PS_congr (by decide) (c _ (by omega) (by omega) (by omega) (by omega) (by omega) (by omega) _ (by omega)) (fun l _ => c _ (by omega) (by omega) (by omega) (by omega) (by omega) (by omega) _ (by omega)) (fun t ht => c _ (by omega) (by omega) (by omega) (by omega) (by omega) (by omega) _ (by omega)) (fun t _ => me 7 (by decide) (by decide) (by decide) (by decide) (by decide) _) (fun t _ => me 10 (by decide) (by decide) (by decide) (by decide) (by decide) _) hj.pileT
  · intro s hs
    rw [me 3 (by decide) (by decide) (by decide) (by decide) (by decide), me 4 (by decide) (by decide) (by decide) (by decide) (by decide)]
    exact hj.cr s hs
  · exact fun s hs => JS_congr (c _ (by omega) (by omega) (by omega) (by omega) (by omega) (by omega) _ (by omega)) (c _ (by omega) (by omega) (by omega) (by omega) (by omega) (by omega) _ (by omega)) (c _ (by omega) (by omega) (by omega) (by omega) (by omega) (by omega) _ (by omega)) (c _ (by omega) (by omega) (by omega) (by omega) (by omega) (by omega) _ (by omega)) (fun o h1 h2 => me o h1 (by omega) (by omega) (by omega) (by omega) _) (me 7 (by decide) (by decide) (by decide) (by decide) (by decide) _) (me 7 (by decide) (by decide) (by decide) (by decide) (by decide) _) (hj.num s hs)
  · exact JD_congr (fun _ _ => c _ (by omega) (by omega) (by omega) (by omega) (by omega) (by omega) _ (by omega)) (c _ (by omega) (by omega) (by omega) (by omega) (by omega) (by omega) _ (by omega)) (c _ (by omega) (by omega) (by omega) (by omega) (by omega) (by omega) _ (by omega)) (fun _ _ => me 19 (by decide) (by decide) (by decide) (by decide) (by decide) _) (fq _ (by decide) (by decide) (by decide) (by decide) (by decide)) (fq _ (by decide) (by decide) (by decide) (by decide) (by decide)) hj.desk
  · rw [c (w + 1) (by omega) (by omega) (by omega) (by omega) (by omega) (by omega) _ (by omega), fp_congr (fun s _ => me 1 (by decide) (by decide) (by decide) (by decide) (by decide) s) (fun s _ => me 3 (by decide) (by decide) (by decide) (by decide) (by decide) s) (fun s _ => me 4 (by decide) (by decide) (by decide) (by decide) (by decide) s)]
    exact hj.free
  · intro i hi
    by_cases z : i = m
    · rw [z]; exact hM
    · exact JM_congr (fun j _ => c _ (by omega) (by omega) (by omega) (by omega) (by omega) (by omega) _ (by omega)) (c _ (by omega) (by omega) (by omega) (by omega) (by omega) (by omega) _ (by omega)) (fun i' hi' j => c _ (by omega) (by omega) (by omega) (by omega) (by omega) (by omega) _ (by omega)) (fun j hj9 => m20 _ (by omega)) (m21 _ z) (fun o h1 h2 i' _ => me o (by omega) (by omega) (by omega) (by omega) (by omega) _) (hj.miss i hi)
  · exact fun i hi => JN_congr (JP_sOk hj.cr hj.pics) (c _ (by omega) (by omega) (by omega) (by omega) (by omega) (by omega) _ (by omega)) (me 26 (by decide) (by decide) (by decide) (by decide) (by decide) _) (fun j => c _ (by omega) (by omega) (by omega) (by omega) (by omega) (by omega) _ (by omega)) (fun j => c _ (by omega) (by omega) (by omega) (by omega) (by omega) (by omega) _ (by omega)) (fun s hs j _ => c _ (by omega) (by omega) (by omega) (by omega) (by omega) (by omega) _ (by omega)) (fun s hs j _ => c _ (by omega) (by omega) (by omega) (by omega) (by omega) (by omega) _ (by omega)) (fun s hs j _ => c _ (by omega) (by omega) (by omega) (by omega) (by omega) (by omega) _ (by omega)) (fun s _ o h1 h2 => me o (by omega) (by omega) (by omega) (by omega) (by omega) _) (hj.plan i hi)
  · exact fun i hi => JT_congr (c _ (by omega) (by omega) (by omega) (by omega) (by omega) (by omega) _ (by omega)) (fun j => c _ (by omega) (by omega) (by omega) (by omega) (by omega) (by omega) _ (by omega)) (fun j => c _ (by omega) (by omega) (by omega) (by omega) (by omega) (by omega) _ (by omega)) (fun o h1 h2 j => mt o h1 (by omega) j) (hj.set_ i hi)
  · exact JB_congr (fun j _ => c _ (by omega) (by omega) (by omega) (by omega) (by omega) (by omega) _ (by omega)) (fun j => c _ (by omega) (by omega) (by omega) (by omega) (by omega) (by omega) _ (by omega)) (fun j => c _ (by omega) (by omega) (by omega) (by omega) (by omega) (by omega) _ (by omega)) (fun j => mt 37 (by decide) (by decide) j) (fun o h1 h2 j => mt o h1 (by omega) j) (fq _ (by decide) (by decide) (by decide) (by decide) (by decide)) (fq _ (by decide) (by decide) (by decide) (by decide) (by decide)) (fq _ (by decide) (by decide) (by decide) (by decide) (by decide)) (fq _ (by decide) (by decide) (by decide) (by decide) (by decide)) (fun n hn => m20 _ (by rw [em]; omega)) hj.beam
/-- the class's next level -/
theorem srch_ex (c : Nat → Bool) (b : Int32) : ∀ n i, ∃ r, i ≤ r ∧ r ≤ i + n ∧ (∀ t, i ≤ t → t < r → ¬ c t = true) ∧ ((r < i + n ∧ c r = true ∧ srch c (fun i => nI i) b i n = nI r) ∨ (r = i + n ∧ srch c (fun i => nI i) b i n = b))
  | 0, i => ⟨i, by omega, by omega, fun t h1 h2 => by omega, Or.inr ⟨rfl, rfl⟩⟩
  | n + 1, i => by
    by_cases h : c i = true
    · exact ⟨i, by omega, by omega, fun t h1 h2 => by omega, Or.inl ⟨by omega, h, by rw [srch_yes _ _ _ _ _ h]⟩⟩
    · obtain ⟨r, r1, r2, r3, r4⟩ := srch_ex c b n (i + 1)
      refine ⟨r, by omega, by omega, fun t h1 h2 => ?_, ?_⟩
      · by_cases z : t = i
        · rw [z]; exact h
        · exact r3 t (by omega) h2
      · rw [srch_no _ _ _ _ _ h]
        rcases r4 with ⟨x1, x2, x3⟩ | ⟨x1, x2⟩
        · exact Or.inl ⟨by omega, x2, x3⟩
        · exact Or.inr ⟨by omega, x2⟩
/-- Model's findStep: the next step, the next hole, or the end -/
theorem find_v {h : fx_H} {q m A st : Nat} (hm : m < 2) (e23 : fx_i h q 23 = nI m) (e31 : fx_i h q 31 = nI A) (hA : A < 100) (e32 : fx_i h q 32 = nI st) (h1 : 1 ≤ st) (h11 : st ≤ 11) (hp : ∀ p, p < 30 → ¬ fx_i h (q + 7) p = 0 → mpOk h q p) (hb : hBd h q) (hs : (nI A).toInt < (fx_i h (q + 21) m).toInt) :
    ∃ n, st - 1 ≤ n ∧ n ≤ 10 ∧ (∀ i, st - 1 ≤ i → i < n → ¬ Pm h q i) ∧ mfr q [21] [22, 31, 32, 38, 39, 40, 41] h (k_MO_findStep h q) ∧
      ((n < 10 ∧ Pm h q n ∧ fx_i (k_MO_findStep h q) q 32 = nI (n + 1) ∧ fx_i (k_MO_findStep h q) q 31 = nI A ∧ fx_i (k_MO_findStep h q) q 22 = fx_i h q 22 ∧ ∀ j, fx_i (k_MO_findStep h q) (q + 21) j = fx_i h (q + 21) j) ∨
       (n = 10 ∧ (nI (A + 1)).toInt < (fx_i h (q + 21) m).toInt ∧ fx_i (k_MO_findStep h q) q 32 = 0 ∧ fx_i (k_MO_findStep h q) q 31 = nI (A + 1) ∧ fx_i (k_MO_findStep h q) q 22 = fx_i h q 22 ∧ ∀ j, fx_i (k_MO_findStep h q) (q + 21) j = fx_i h (q + 21) j) ∨
       (n = 10 ∧ ¬ (nI (A + 1)).toInt < (fx_i h (q + 21) m).toInt ∧ fx_i (k_MO_findStep h q) q 22 = 2 ∧ fx_i (k_MO_findStep h q) (q + 21) m = 0 ∧ ∀ j, j ≠ m → fx_i (k_MO_findStep h q) (q + 21) j = fx_i h (q + 21) j)) := by
  have cm : (nI m).toNatClampNeg = m := nI_clamp (by omega)
  have cst : (nI st).toNatClampNeg = st := nI_clamp (by omega)
  obtain ⟨n, v, g1, g2, g3, g4, g5, g6⟩ := fs_lp hp hb (12 - st) st h (by omega) h1 (mfr_rf _ _ _ _) e32 h11
  have fr := mfr_findStep h q
  have n0 : ¬ nI st = 0 := nI_ne0 (by omega) (by omega)
  have nl : ¬ fx_i h (q + 21) m ≤ nI A := by rw [iz_le]; omega
  have eL : fsL h q = lp (fsI q) (12 - st) (0, h) := by unfold fsL; rw [e32, cst]
  have v31 : fx_i v q 31 = nI A := by rw [mfr_f g4 (by decide), e31]
  have v22 : fx_i v q 22 = fx_i h q 22 := mfr_f g4 (by decide)
  have v23 : fx_i v q 23 = nI m := by rw [mfr_f g4 (by decide), e23]
  have v21 : ∀ j, fx_i v (q + 21) j = fx_i h (q + 21) j := fun j => mfr_at g4 (by decide) j
  refine ⟨n, g1, g2, g3, fr, ?_⟩
  unfold k_MO_findStep
  rw [e23, cm, e31, if_neg nl, e32, if_neg n0, eL]
  rcases g6 with ⟨x1, x2, x3⟩ | ⟨x1, x3⟩
  · rw [x3]
    show _ ∨ _ ∨ _
    rw [if_neg (show ¬ ((1 : Int32), v).1 = 0 from by intro z; exact absurd (show (1 : Int32) = 0 from z) (by decide))]
    exact Or.inl ⟨x1, x2, g5, v31, v22, v21⟩
  · rw [x3, if_pos (show ((0 : Int32), v).1 = 0 from rfl)]
    show _ ∨ _ ∨ _
    have e9 : fx_i (fx_wi (fx_wi v q 31 (fx_i v q 31 + 1)) q 32 (0 : Int32)) q 23 = nI m := by rw [fx_i_wi, if_neg (fun z => by omega), fx_i_wi, if_neg (fun z => by omega), v23]
    have e8 : fx_i (fx_wi (fx_wi v q 31 (fx_i v q 31 + 1)) q 32 (0 : Int32)) q 31 = nI (A + 1) := by rw [fx_i_wi, if_neg (fun z => by omega), fx_i_wi, if_pos ⟨rfl, rfl⟩, v31, ← nI_succ]
    have e7 : ∀ j, fx_i (fx_wi (fx_wi v q 31 (fx_i v q 31 + 1)) q 32 (0 : Int32)) (q + 21) j = fx_i h (q + 21) j := fun j => by rw [wi_q _ _ _ _ _ _ (by decide), wi_q _ _ _ _ _ _ (by decide), v21]
    have e6 : fx_i (fx_wi (fx_wi v q 31 (fx_i v q 31 + 1)) q 32 (0 : Int32)) q 32 = 0 := by rw [fx_i_wi, if_pos ⟨rfl, rfl⟩]
    have e5 : fx_i (fx_wi (fx_wi v q 31 (fx_i v q 31 + 1)) q 32 (0 : Int32)) q 22 = fx_i h q 22 := by rw [fx_i_wi, if_neg (fun z => by omega), fx_i_wi, if_neg (fun z => by omega), v22]
    rw [e9, cm, e8, e7]
    by_cases z : fx_i h (q + 21) m ≤ nI (A + 1)
    · rw [if_pos z]
      rw [iz_le] at z
      refine Or.inr (Or.inr ⟨x1, by omega, by rw [fx_i_wi, if_pos ⟨rfl, rfl⟩], by rw [wi_q _ _ _ _ _ _ (by decide), fx_i_wi, if_pos ⟨rfl, rfl⟩], fun j hj => by rw [wi_q _ _ _ _ _ _ (by decide), fx_i_wi, if_neg (fun y => hj y.2), e7]⟩)
    · rw [if_neg z]
      rw [iz_le] at z
      exact Or.inr (Or.inl ⟨x1, by omega, e6, e8, e5, e7⟩)
/-- a step's paint: memories stay equal -/
theorem J_paint {a b P Q : fx_H} {w q f bb m : Nat} (hj : J (mixH q a b) w q f bb) (em : bk (mixH q a b) q = m) (hP : fx_on (w + 143 + 11 * m + 1) a P) (hQ : mfr q [20] [38, 39, 40, 41] b Q) (hout : ∀ n, ¬ (200 * m ≤ n ∧ n < 200 * m + 200) → fx_i Q (q + 20) n = fx_i b (q + 20) n)
    (hpx : ∀ k, k < 200 → fx_i P (w + 143 + 11 * m + 1) k = fx_i Q (q + 20) (200 * m + k) ∧ isCol (fx_i P (w + 143 + 11 * m + 1) k)) : J (mixH q P Q) w q f bb ∧ bk (mixH q P Q) q = m := by
  have hq := hj.at_
  have hB := bk_2 hj.mem
  rw [em] at hB
  have cc : ∀ y j, y < q → y ≠ w + 143 + 11 * m + 1 → fx_i (mixH q P Q) y j = fx_i (mixH q a b) y j := fun y j h1 h2 => by rw [mix_c _ _ h1, mix_c _ _ h1]; exact hP.2 y h2 j
  have mm : ∀ o j, 0 < o → o ≠ 20 → fx_i (mixH q P Q) (q + o) j = fx_i (mixH q a b) (q + o) j := fun o j h1 h2 => by rw [mix_m, mix_m]; exact mfr_at hQ ⟨fun z => by simp only [List.mem_cons, List.mem_nil_iff, or_false] at z; omega, h1⟩ j
  have fq : ∀ j, ¬ (38 ≤ j ∧ j ≤ 41) → fx_i (mixH q P Q) q j = fx_i (mixH q a b) q j := fun j h1 => by rw [mix_q, mix_q]; exact mfr_f hQ (fun z => by simp only [List.mem_cons, List.mem_nil_iff, or_false] at z; omega)
  refine ⟨J_stepf hj em (fun y h1 h2 h3 h4 h5 h6 j _ => cc y j (by omega) h5) (fun o h1 h2 h3 h4 h5 h6 j => mm o j (by omega) h4) (fun j h1 => by rw [mix_m, mix_m]; exact hout j h1) (fun j _ => mm 21 j (by decide) (by decide)) (fun j h1 h2 h3 h4 h5 => fq j h5) ?_ ?_, by unfold bk at em ⊢; rw [fq 23 (by decide)]; exact em⟩
  · obtain ⟨-, j2, j3, j4⟩ := hj.miss m hB
    refine ⟨fun k hk => by rw [mix_c _ _ (by omega), mix_m]; exact hpx k hk, by rw [cc _ _ (by omega) (by omega), mm 21 _ (by decide) (by decide)]; exact j2, by rw [mm 21 _ (by decide) (by decide)]; exact j3, fun i hi => ?_⟩
    rw [mm 21 _ (by decide) (by decide)] at hi
    have n3 := iz_nn j3.1
    rw [cc (w + 143 + 11 * m + 4 + i) 0 (by omega) (by omega), cc (w + 143 + 11 * m + 4 + i) 1 (by omega) (by omega), cc (w + 143 + 11 * m + 4 + i) 2 (by omega) (by omega), cc (w + 143 + 11 * m + 4 + i) 3 (by omega) (by omega), mm 22 _ (by decide) (by decide), mm 23 _ (by decide) (by decide), mm 24 _ (by decide) (by decide), mm 25 _ (by decide) (by decide)]
    exact j4 i hi
  · exact JC_congr hj.pileT.1 (by rw [em]; exact hB) (fun i hi => (hj.miss i hi).2.2.1.2) (fun j _ => cc _ _ (by omega) (by omega)) (cc _ _ (by omega) (by omega)) (fun l _ => cc _ _ (by omega) (by omega)) (fun j _ => cc _ _ (by omega) (by omega)) (fun s hs j _ => cc _ _ (by omega) (by omega)) (fun i hi i' hi' j => cc _ _ (by omega) (by omega)) (fun i _ => mm 21 _ (by decide) (by decide)) (fq _ (by decide)) (fq _ (by decide)) (fq _ (by decide)) (fq _ (by decide)) (fq _ (by decide)) hj.comp
/-- what composing means for both: hole, level, rectangle -/
theorem comp_v {a b : fx_H} {w q f bb : Nat} (hj : J (mixH q a b) w q f bb) (hs : fx_i b q 22 = 1) : ∃ m A S : Nat, m < 2 ∧ bk (mixH q a b) q = m ∧ bb = w + 143 + 11 * m ∧ fx_i b q 23 = nI m ∧ fx_i b q 31 = nI A ∧ fx_i a (w + 89) 9 = nI A ∧ A < 6 ∧ (nI A).toInt < (fx_i b (q + 21) m).toInt ∧ (fx_i b (q + 21) m).toInt ≤ 6 ∧ fx_i b q 32 = nI S ∧ fx_i a (w + 89) 10 = nI S - 1 ∧ S ≤ pH a (w + 90) ∧ pH a (w + 90) ≤ 10 ∧ (mK b q).toNatClampNeg = 7 * m + A ∧ vp_in (mK b q) 14 ∧
    (rIs a (w + 143 + 11 * m + 4 + A) (hX b q) (hY b q) (hW b q) (hH b q) ∧ (0 ≤ hX b q ∧ 0 ≤ hY b q ∧ 0 < hW b q ∧ 0 < hH b q ∧ hX b q + hW b q ≤ 20 ∧ hY b q + hH b q ≤ 10)) ∧
    (S ≠ 0 → v_PN_has a (w + 133) (fx_i a (w + 92) (S - 1)) = 0 ∧ ¬ rMeets a (w + 93 + 4 * pU a (w + 90) (S - 1) + 3) (w + 143 + 11 * m + 4 + A) = 0) := by
  have hq := hj.at_
  have hB := bk_2 hj.mem
  obtain ⟨e1, -, e3⟩ := J_back hj
  generalize hm : bk (mixH q a b) q = m at *
  obtain ⟨-, -, -, c4⟩ := hj.comp
  obtain ⟨j1, j2, j3, j4⟩ := hj.miss m hB
  rw [mix_q] at c4
  obtain ⟨d1, d2, d3, d4, d5, d6, d7⟩ := c4 hs
  rw [hm] at d3 d7
  have cl : ∀ y j, y < q → fx_i (mixH q a b) y j = fx_i a y j := fun y j h => mix_c _ _ h j
  have eph : pH (mixH q a b) (w + 90) = pH a (w + 90) := by unfold pH; rw [cl _ _ (by omega)]
  have h10 := hj.pileT.1.1
  simp only [mix_q, mix_m] at e3 d1 d2 d3 d4 d5 d6 d7 j3
  rw [cl _ _ (by omega)] at d1 d4
  rw [eph] at d6 h10
  have nA := iz_nn d2
  have nS := iz_nn d5
  have eA : fx_i b q 31 = nI (fx_i b q 31).toNatClampNeg := iz_eq.mpr (by rw [nI_toInt (by omega)]; omega)
  have eS : fx_i b q 32 = nI (fx_i b q 32).toNatClampNeg := iz_eq.mpr (by rw [nI_toInt (by omega)]; omega)
  generalize hAA : (fx_i b q 31).toNatClampNeg = A at *
  generalize hSS : (fx_i b q 32).toNatClampNeg = S at *
  have tA : (nI A).toInt = A := nI_toInt (by omega)
  have tS : (nI S).toInt = S := nI_toInt (by omega)
  have eK : mK b q = nI (7 * m + A) := by unfold mK; rw [e3, eA]; exact j7c hB A
  have cK : (mK b q).toNatClampNeg = 7 * m + A := by rw [eK]; exact nI_clamp (by omega)
  have hi : A < (fx_i (mixH q a b) (q + 21) m).toNatClampNeg := by
    rw [mix_m]
    have := iz_nn j3.1
    omega
  obtain ⟨⟨r0, r1, r2, r3⟩, bd⟩ := j4 A hi
  rw [mix_m, cl _ _ (by omega)] at r0 r1 r2 r3
  simp only [mix_m] at bd
  refine ⟨m, A, S, hB, rfl, e1, e3, eA, d1.trans eA, by omega, by rw [tA]; omega, j3.2, eS, by rw [d4, eS], by omega, h10, cK, by rw [eK]; exact vp_in_nI (by omega) (by decide), ⟨?_, ?_⟩, fun hS => ?_⟩
  · unfold rIs hX hY hW hH
    rw [cK, r0, r1, r2, r3]
    exact ⟨rfl, rfl, rfl, rfl⟩
  · unfold hX hY hW hH
    rw [cK]
    exact bd
  · have hne : ¬ fx_i b q 32 = 0 := fun z => by rw [z] at nS; have : (0 : Int32).toInt = 0 := rfl; omega
    obtain ⟨x1, x2⟩ := d7 hne
    have f1 : (fx_i b q 32).toInt.toNat - 1 = S - 1 := by omega
    rw [f1, cl _ _ (by omega)] at x1
    have f3 : pU (mixH q a b) (w + 90) (S - 1) = pU a (w + 90) (S - 1) := by unfold pU; rw [cl _ _ (by omega)]
    have pu10 := (hj.pileT.1.2.2 (S - 1) (by omega)).1
    rw [f3] at pu10
    rw [f1, f3] at x2
    refine ⟨?_, ?_⟩
    · rw [← x1]
      exact (pnHas_congr (fun j _ => cl _ _ (by omega)) _).symm
    · intro z
      apply x2
      rw [← z]
      exact rMeets_congr (fun j _ => cl _ _ (by omega)) (fun j _ => cl _ _ (by omega))
/-- the levels that both find -/
theorem lev_iff {a b : fx_H} {w q f bb m A : Nat} (hj : J (mixH q a b) w q f bb) (hm : m < 2) (hA : A < 6) (hR : rIs a (w + 143 + 11 * m + 4 + A) (hX b q) (hY b q) (hW b q) (hH b q)) (hBd : 0 ≤ hX b q ∧ 0 ≤ hY b q ∧ 0 < hW b q ∧ 0 < hH b q ∧ hX b q + hW b q ≤ 20 ∧ hY b q + hH b q ≤ 10) (l : Nat) :
    (l < pH a (w + 90) → ((v_PN_has a (w + 133) (fx_i a (w + 92) l) = 0 ∧ ¬ rMeets a (w + 93 + 4 * pU a (w + 90) l + 3) (w + 143 + 11 * m + 4 + A) = 0) ↔ Pm b q l)) ∧ (pH a (w + 90) ≤ l → l < 100 → ¬ Pm b q l) := by
  have hq := hj.at_
  have cl : ∀ y j, y < q → fx_i (mixH q a b) y j = fx_i a y j := fun y j h => mix_c _ _ h j
  have eph : pH (mixH q a b) (w + 90) = pH a (w + 90) := by unfold pH; rw [cl _ _ (by omega)]
  have epu : ∀ l, pU (mixH q a b) (w + 90) l = pU a (w + 90) l := fun l => by unfold pU; rw [cl _ _ (by omega)]
  have en : ∀ n, v_MO_nth (mixH q a b) q 20 n = v_MO_nth b q 20 n := fun n => nth_congr (by decide) (fun t _ => mix_m _ _ _ _) (fun t _ => mix_m _ _ _ _) n
  have esh : ∀ p, shX (mixH q a b) q p = shX b q p ∧ shY (mixH q a b) q p = shY b q p ∧ shR (mixH q a b) q p = shR b q p ∧ shB (mixH q a b) q p = shB b q p ∧ (shE (mixH q a b) q p ↔ shE b q p) := fun p => sh_congr (fun o _ _ => mix_m _ _ _ _)
  have h10 := hj.pileT.1.1
  rw [eph] at h10
  refine ⟨fun hl => ?_, fun hl hl2 => ?_⟩
  · obtain ⟨s10, nth, th⟩ := PS_at hj.pileT (l := l) (by rw [eph]; exact hl)
    have u2 := (hj.pileT.1.2.2 l (by omega)).2
    rw [epu] at s10 nth th u2
    rw [en] at nth
    have ea : w + 90 + 2 = w + 92 := by omega
    rw [ea, cl _ _ (by omega)] at u2
    generalize pU a (w + 90) l = s at *
    have hpr := (hj.pics s s10).2.2
    have hme := meets_iff hpr (e := w + 143 + 11 * m + 4 + A) (hx := hX b q) (hy := hY b q) (hw := hW b q) (hh := hH b q) (by unfold rIs at hR ⊢; rw [cl _ _ (by omega), cl _ _ (by omega), cl _ _ (by omega), cl _ _ (by omega)]; exact hR) hBd
    have er : rMeets (mixH q a b) (w + 93 + 4 * s + 3) (w + 143 + 11 * m + 4 + A) = rMeets a (w + 93 + 4 * s + 3) (w + 143 + 11 * m + 4 + A) := rMeets_congr (fun j _ => cl _ _ (by omega)) (fun j _ => cl _ _ (by omega))
    rw [er] at hme
    have emi : mI (mixH q a b) q (20 + s) (hX b q) (hY b q) (hW b q) (hH b q) ↔ mI b q (20 + s) (hX b q) (hY b q) (hW b q) (hH b q) := by
      obtain ⟨y1, y2, y3, y4, y5⟩ := esh (20 + s)
      unfold mI
      rw [y1, y2, y3, y4, y5]
    rw [emi] at hme
    have ehas : v_PN_has a (w + 133) (nI s) = v_MO_isPlane b q (nI s) := by
      have e0 : (0 : Int32).toNatClampNeg = 0 := rfl
      have e1 : (1 : Int32).toNatClampNeg = 1 := rfl
      have ew : w + 133 + 1 = w + 134 := by omega
      unfold v_PN_has v_MO_isPlane
      rw [ew, e0, e1]
      have p0 := (hj.plan 0 (by decide)).1
      have p1 := (hj.plan 1 (by decide)).1
      rw [cl _ _ (by omega), mix_m] at p0 p1
      rw [p0, p1]
    have e20 : nI (20 + s) - 20 = nI s := by
      rw [← jz_b s10]
      rw [Int32.sub_eq_add_neg, Int32.add_comm 20, Int32.add_assoc]
      have : (20 : Int32) + -20 = 0 := by decide
      rw [this, Int32.add_zero]
    rw [u2, ehas]
    constructor
    · rintro ⟨z1, z2⟩
      exact ⟨20 + s, by omega, nth, by rw [e20]; exact z1, hme.mp z2⟩
    · rintro ⟨p, g1, g2, g3, g4⟩
      have ep : p = 20 + s := by rw [nth] at g2; exact ((nI_eq (by omega) (by omega)).mp g2).symm
      subst ep
      rw [e20] at g3
      exact ⟨g3, hme.mpr g4⟩
  · have := hj.pileT.2.2.1 l (by rw [eph]; exact hl) hl2
    rw [en] at this
    rintro ⟨p, g1, g2, -⟩
    rw [this, iz_eq, nI_toInt (by omega)] at g2
    have : (-1 : Int32).toInt = -1 := rfl
    omega
/-- the class's end of a step -/
def post (P : fx_H) (c f b e st : Nat) : fx_H := if fx_i (fx_wi P c 10 (v_CO_nextLevel P c f b e st)) c 10 = fx_i (fx_wi P c 10 (v_CO_nextLevel P c f b e st)) (c + 1) 2 then k_CO_startHole (fx_wi P c 10 (v_CO_nextLevel P c f b e st)) c f b (fx_i (fx_wi P c 10 (v_CO_nextLevel P c f b e st)) c 9 + 1) else fx_wi P c 10 (v_CO_nextLevel P c f b e st)
theorem post_v {a : fx_H} {w f m A S : Nat} (hm : m < 2) (e9 : fx_i a (w + 89) 9 = nI A) (hA : A < 100) (hS : S ≤ pH a (w + 90)) (h10 : pH a (w + 90) ≤ 10) (eh : fx_i a (w + 90) 2 = nI (pH a (w + 90))) (sz : fx_i a (w + 143 + 11 * m + 2) 1 = fx_i a (w + 143 + 11 * m + 2) 1) :
    ∃ r, S ≤ r ∧ r ≤ pH a (w + 90) ∧ (∀ t, S ≤ t → t < r → ¬ (v_PN_has a (w + 133) (fx_i a (w + 92) t) = 0 ∧ ¬ rMeets a (w + 93 + 4 * pU a (w + 90) t + 3) (w + 143 + 11 * m + 4 + A) = 0)) ∧
      (∀ y j, ¬ (y = w + 89 ∧ (j = 6 ∨ j = 9 ∨ j = 10)) → ¬ (y = w + 143 + 11 * m + 2 ∧ j = 1) → fx_i (post a (w + 89) f (w + 143 + 11 * m) (w + 143 + 11 * m + 4 + A) S) y j = fx_i a y j) ∧
      ((r < pH a (w + 90) ∧ (v_PN_has a (w + 133) (fx_i a (w + 92) r) = 0 ∧ ¬ rMeets a (w + 93 + 4 * pU a (w + 90) r + 3) (w + 143 + 11 * m + 4 + A) = 0) ∧ fx_i (post a (w + 89) f (w + 143 + 11 * m) (w + 143 + 11 * m + 4 + A) S) (w + 89) 10 = nI r ∧ fx_i (post a (w + 89) f (w + 143 + 11 * m) (w + 143 + 11 * m + 4 + A) S) (w + 89) 9 = nI A ∧ fx_i (post a (w + 89) f (w + 143 + 11 * m) (w + 143 + 11 * m + 4 + A) S) (w + 89) 6 = fx_i a (w + 89) 6 ∧ fx_i (post a (w + 89) f (w + 143 + 11 * m) (w + 143 + 11 * m + 4 + A) S) (w + 143 + 11 * m + 2) 1 = fx_i a (w + 143 + 11 * m + 2) 1) ∨
       (r = pH a (w + 90) ∧ nI (A + 1) < fx_i a (w + 143 + 11 * m + 2) 1 ∧ fx_i (post a (w + 89) f (w + 143 + 11 * m) (w + 143 + 11 * m + 4 + A) S) (w + 89) 10 = -1 ∧ fx_i (post a (w + 89) f (w + 143 + 11 * m) (w + 143 + 11 * m + 4 + A) S) (w + 89) 9 = nI (A + 1) ∧ fx_i (post a (w + 89) f (w + 143 + 11 * m) (w + 143 + 11 * m + 4 + A) S) (w + 89) 6 = fx_i a (w + 89) 6 ∧ fx_i (post a (w + 89) f (w + 143 + 11 * m) (w + 143 + 11 * m + 4 + A) S) (w + 143 + 11 * m + 2) 1 = fx_i a (w + 143 + 11 * m + 2) 1) ∨
       (r = pH a (w + 90) ∧ ¬ nI (A + 1) < fx_i a (w + 143 + 11 * m + 2) 1 ∧ fx_i (post a (w + 89) f (w + 143 + 11 * m) (w + 143 + 11 * m + 4 + A) S) (w + 89) 6 = 2 ∧ fx_i (post a (w + 89) f (w + 143 + 11 * m) (w + 143 + 11 * m + 4 + A) S) (w + 143 + 11 * m + 2) 1 = 0)) := by
  have f1 : w + 89 + 44 = w + 133 := by omega
  have f2 : w + 89 + 1 + 2 = w + 92 := by omega
  have f3 : w + 89 + 1 = w + 90 := by omega
  have f4 : ∀ i, w + 90 + 3 + 4 * pU a (w + 90) i = w + 93 + 4 * pU a (w + 90) i := fun i => by omega
  obtain ⟨r, r1, r2, r3, r4⟩ := srch_ex (fun i => decide (v_PN_has a (w + 133) (fx_i a (w + 92) i) = 0 ∧ ¬ rMeets a (w + 93 + 4 * pU a (w + 90) i + 3) (w + 143 + 11 * m + 4 + A) = 0)) (fx_i a (w + 90) 2) (pH a (w + 90) - S) S
  have ev : v_CO_nextLevel a (w + 89) f (w + 143 + 11 * m) (w + 143 + 11 * m + 4 + A) S = srch (fun i => decide (v_PN_has a (w + 133) (fx_i a (w + 92) i) = 0 ∧ ¬ rMeets a (w + 93 + 4 * pU a (w + 90) i + 3) (w + 143 + 11 * m + 4 + A) = 0)) (fun i => nI i) (fx_i a (w + 90) 2) S (pH a (w + 90) - S) := by
    unfold v_CO_nextLevel
    rw [f1, f2, f3]
  have hr : r ≤ pH a (w + 90) := by omega
  have er : v_CO_nextLevel a (w + 89) f (w + 143 + 11 * m) (w + 143 + 11 * m + 4 + A) S = nI r := by
    rw [ev]
    rcases r4 with ⟨x1, x2, x3⟩ | ⟨x1, x2⟩
    · exact x3
    · rw [x2, eh]
      congr 1
      omega
  have no : ∀ t, S ≤ t → t < r → ¬ (v_PN_has a (w + 133) (fx_i a (w + 92) t) = 0 ∧ ¬ rMeets a (w + 93 + 4 * pU a (w + 90) t + 3) (w + 143 + 11 * m + 4 + A) = 0) := fun t g1 g2 z => r3 t g1 g2 (decide_eq_true z)
  refine ⟨r, r1, hr, no, ?_⟩
  unfold post
  rw [er, f3]
  have u1 : fx_i (fx_wi a (w + 89) 10 (nI r)) (w + 89) 10 = nI r := by rw [fx_i_wi, if_pos ⟨rfl, rfl⟩]
  have u2 : fx_i (fx_wi a (w + 89) 10 (nI r)) (w + 90) 2 = nI (pH a (w + 90)) := by rw [fx_i_wi, if_neg (fun z => by omega), eh]
  have u3 : fx_i (fx_wi a (w + 89) 10 (nI r)) (w + 89) 9 = nI A := by rw [fx_i_wi, if_neg (fun z => by omega), e9]
  rw [u1, u2, u3]
  by_cases z : r = pH a (w + 90)
  · rw [if_pos (by rw [z]), ← nI_succ]
    unfold k_CO_startHole
    have s1 : fx_i (fx_wi (fx_wi (fx_wi a (w + 89) 10 (nI r)) (w + 89) 9 (nI (A + 1))) (w + 89) 10 (-1 : Int32)) (w + 89) 9 = nI (A + 1) := by rw [fx_i_wi, if_neg (fun z => by omega), fx_i_wi, if_pos ⟨rfl, rfl⟩]
    have s2 : fx_i (fx_wi (fx_wi (fx_wi a (w + 89) 10 (nI r)) (w + 89) 9 (nI (A + 1))) (w + 89) 10 (-1 : Int32)) (w + 143 + 11 * m + 2) 1 = fx_i a (w + 143 + 11 * m + 2) 1 := by rw [fx_i_wi, if_neg (fun z => by omega), fx_i_wi, if_neg (fun z => by omega), fx_i_wi, if_neg (fun z => by omega)]
    rw [s1, s2]
    by_cases y : nI (A + 1) < fx_i a (w + 143 + 11 * m + 2) 1
    · rw [if_pos y]
      refine ⟨fun y' j g1 g2 => ?_, Or.inr (Or.inl ⟨z, y, ?_, s1, ?_, s2⟩)⟩
      · rw [fx_i_wi, if_neg (fun x => g1 ⟨x.1, by omega⟩), fx_i_wi, if_neg (fun x => g1 ⟨x.1, by omega⟩), fx_i_wi, if_neg (fun x => g1 ⟨x.1, by omega⟩)]
      · rw [fx_i_wi, if_pos ⟨rfl, rfl⟩]
      · rw [fx_i_wi, if_neg (fun z => by omega), fx_i_wi, if_neg (fun z => by omega), fx_i_wi, if_neg (fun z => by omega)]
    · rw [if_neg y]
      refine ⟨fun y' j g1 g2 => ?_, Or.inr (Or.inr ⟨z, y, ?_, ?_⟩)⟩
      · rw [fx_i_wi, if_neg (fun x => g1 ⟨x.1, by omega⟩), fx_i_wi, if_neg (fun x => g2 x), fx_i_wi, if_neg (fun x => g1 ⟨x.1, by omega⟩), fx_i_wi, if_neg (fun x => g1 ⟨x.1, by omega⟩), fx_i_wi, if_neg (fun x => g1 ⟨x.1, by omega⟩)]
      · rw [fx_i_wi, if_pos ⟨rfl, rfl⟩]
      · rw [fx_i_wi, if_neg (fun z => by omega), fx_i_wi, if_pos ⟨rfl, rfl⟩]
  · have hlt : r < pH a (w + 90) := by omega
    have cnd : v_PN_has a (w + 133) (fx_i a (w + 92) r) = 0 ∧ ¬ rMeets a (w + 93 + 4 * pU a (w + 90) r + 3) (w + 143 + 11 * m + 4 + A) = 0 := by
      rcases r4 with ⟨x1, x2, x3⟩ | ⟨x1, x2⟩
      · exact of_decide_eq_true x2
      · omega
    rw [if_neg (fun y => z ((nI_eq (by omega) (by omega)).mp y))]
    refine ⟨fun y' j g1 g2 => ?_, Or.inl ⟨hlt, cnd, u1, u3, ?_, ?_⟩⟩
    · rw [fx_i_wi, if_neg (fun x => g1 ⟨x.1, by omega⟩)]
    · rw [fx_i_wi, if_neg (fun z => by omega)]
    · rw [fx_i_wi, if_neg (fun z => by omega)]
theorem bsq {x : Int32} : (¬ x = 0) ↔ ¬ x.toInt = 0 := not_congr iz_eq
/-- both go on alike -/
theorem J_next {a b : fx_H} {w q f bb m A S : Nat} (hj : J (mixH q a b) w q f bb) (hs : fx_i b q 22 = 1) (hm : m < 2) (em : bk (mixH q a b) q = m) (e23 : fx_i b q 23 = nI m) (e31 : fx_i b q 31 = nI A) (e9 : fx_i a (w + 89) 9 = nI A) (hA : A < 6) (hAs : (nI A).toInt < (fx_i b (q + 21) m).toInt) (h6 : (fx_i b (q + 21) m).toInt ≤ 6) (e32 : fx_i b q 32 = nI S) (hS : S ≤ pH a (w + 90)) (h10 : pH a (w + 90) ≤ 10)
    (hR : rIs a (w + 143 + 11 * m + 4 + A) (hX b q) (hY b q) (hW b q) (hH b q)) (hBd9 : 0 ≤ hX b q ∧ 0 ≤ hY b q ∧ 0 < hW b q ∧ 0 < hH b q ∧ hX b q + hW b q ≤ 20 ∧ hY b q + hH b q ≤ 10) :
    J (mixH q (post a (w + 89) f (w + 143 + 11 * m) (w + 143 + 11 * m + 4 + A) S) (k_MO_findStep (fx_wi b q 32 (nI (S + 1))) q)) w q f bb := by
  have hq := hj.at_
  have cl : ∀ y j, y < q → fx_i (mixH q a b) y j = fx_i a y j := fun y j h => mix_c _ _ h j
  have eph : pH (mixH q a b) (w + 90) = pH a (w + 90) := by unfold pH; rw [cl _ _ (by omega)]
  have eh : fx_i a (w + 90) 2 = nI (pH a (w + 90)) := by
    have := hj.pileT.1.2.1
    rw [eph, cl _ _ (by omega)] at this
    exact this
  obtain ⟨j1, j2, j3, j4⟩ := hj.miss m hm
  have sz : fx_i a (w + 143 + 11 * m + 2) 1 = fx_i b (q + 21) m := by
    rw [cl _ _ (by omega), mix_m] at j2
    exact j2
  obtain ⟨r, r1, r2, r3, po, r4⟩ := post_v (f := f) hm e9 (by omega) hS h10 eh rfl
  -- Model
  have bw := mfr_wf (L := [21]) (j := 32) (v := nI (S + 1)) (mfr_rf q _ [22, 31, 32, 38, 39, 40, 41] b) (by decide)
  have bm : ∀ o j, 0 < o → fx_i (fx_wi b q 32 (nI (S + 1))) (q + o) j = fx_i b (q + o) j := fun o j g => wi_q _ _ _ _ _ _ g
  have bq : ∀ j, j ≠ 32 → fx_i (fx_wi b q 32 (nI (S + 1))) q j = fx_i b q j := fun j g => by rw [fx_i_wi, if_neg (fun z => g z.2)]
  obtain ⟨y1, y2, y3, y4, y5⟩ := Pm_m (mfr_wf (L := []) (j := 32) (v := nI (S + 1)) (mfr_rf q _ [32, 38, 39, 40, 41] b) (by decide))
  have hp : ∀ p, p < 30 → ¬ fx_i (fx_wi b q 32 (nI (S + 1))) (q + 7) p = 0 → mpOk (fx_wi b q 32 (nI (S + 1))) q p := by
    intro p hp9 ht
    rw [bm 7 _ (by decide)] at ht
    have key : ∀ a' , PR (mixH q a b) a' q p → mpOk b q p := fun a' hpr => by
      have := (hpr.2.2 (fun z => ht (by rw [← mix_m a b]; exact hpr.1.mp z))).2.2.2.1
      unfold mpOk at this ⊢
      simp only [mix_m] at this
      exact this
    have : mpOk b q p := by
      by_cases c1 : p < 10
      · exact key _ (hj.pics p c1).1
      · by_cases c2 : p < 20
        · have := (hj.pics (p - 10) (by omega)).2.1
          have e : 10 + (p - 10) = p := by omega
          rw [e] at this
          exact key _ this
        · have := (hj.pics (p - 20) (by omega)).2.2
          have e : 20 + (p - 20) = p := by omega
          rw [e] at this
          exact key _ this
    unfold mpOk at this ⊢
    rw [bm 8 _ (by decide), bm 9 _ (by decide), bm 13 _ (by decide), bm 14 _ (by decide), bm 15 _ (by decide), bm 16 _ (by decide), bm 3 _ (by decide), bm 4 _ (by decide)]
    exact this
  obtain ⟨n, n1, n2, n3, n4, n5⟩ := find_v (h := fx_wi b q 32 (nI (S + 1))) (q := q) (m := m) (A := A) (st := S + 1) hm (by rw [bq 23 (by decide), e23]) (by rw [bq 31 (by decide), e31]) (by omega) (by rw [fx_i_wi, if_pos ⟨rfl, rfl⟩]) (by omega) (by omega) hp (by unfold hBd; rw [y1, y2, y3, y4]; omega) (by rw [bm 21 _ (by decide)]; exact hAs)
  simp only [y5, bm 21 _ (show 0 < 21 by decide), bq 22 (by decide)] at n3 n5
  have lev := lev_iff (f := f) (bb := bb) hj hm hA hR hBd9
  have e1 : S + 1 - 1 = S := by omega
  rw [e1] at n1 n3
  -- both found the same
  have same : (n < 10 → r < pH a (w + 90) ∧ n = r) ∧ (n = 10 → r = pH a (w + 90)) := by
    refine ⟨fun h9 => ?_, fun h9 => ?_⟩
    · have pn : Pm b q n := by
        rcases n5 with ⟨-, x, -⟩ | ⟨x, -⟩ | ⟨x, -⟩
        · exact x
        · omega
        · omega
      have nlt : n < pH a (w + 90) := Nat.lt_of_not_le fun z => (lev n).2 z (by omega) pn
      have c1 := ((lev n).1 nlt).mpr pn
      have c2 : ¬ n < r := fun z => r3 n n1 z c1
      rcases Nat.lt_or_ge r n with z | z
      · have : Pm b q r := by
          rcases r4 with ⟨x, y, -⟩ | ⟨x, -⟩ | ⟨x, -⟩
          · exact ((lev r).1 x).mp y
          · omega
          · omega
        exact absurd this (n3 r r1 z)
      · have : n = r := by omega
        exact ⟨by omega, this⟩
    · rcases r4 with ⟨x, y, -⟩ | ⟨x, -⟩ | ⟨x, -⟩
      · exact absurd (((lev r).1 x).mp y) (n3 r r1 (by omega))
      · exact x
      · exact x
  generalize post a (w + 89) f (w + 143 + 11 * m) (w + 143 + 11 * m + 4 + A) S = P at *
  generalize k_MO_findStep (fx_wi b q 32 (nI (S + 1))) q = Q at *
  have fr := mfr_t bw n4
  have qm : ∀ o j, 0 < o → o ≠ 21 → fx_i Q (q + o) j = fx_i b (q + o) j := fun o j g1 g2 => mfr_at fr ⟨fun z => by simp only [List.mem_cons, List.mem_nil_iff, or_false] at z; omega, g1⟩ j
  have qq : ∀ j, j ≠ 22 → j ≠ 31 → j ≠ 32 → ¬ (38 ≤ j ∧ j ≤ 41) → fx_i Q q j = fx_i b q j := fun j g1 g2 g3 g4 => mfr_f fr (fun z => by simp only [List.mem_cons, List.mem_nil_iff, or_false] at z; omega)
  have cP : ∀ y j, y < q → ¬ (y = w + 89 ∧ (j = 6 ∨ j = 9 ∨ j = 10)) → ¬ (y = w + 143 + 11 * m + 2 ∧ j = 1) → fx_i (mixH q P Q) y j = fx_i (mixH q a b) y j := fun y j h1 h2 h3 => by rw [mix_c _ _ h1, mix_c _ _ h1]; exact po y j h2 h3
  have mQ : ∀ o j, 0 < o → o ≠ 21 → fx_i (mixH q P Q) (q + o) j = fx_i (mixH q a b) (q + o) j := fun o j h1 h2 => by rw [mix_m, mix_m]; exact qm o j h1 h2
  have q21 : ∀ j, j ≠ m → fx_i Q (q + 21) j = fx_i b (q + 21) j := by
    intro j hj9
    rcases n5 with ⟨-, -, -, -, -, x⟩ | ⟨-, -, -, -, -, x⟩ | ⟨-, -, -, -, x⟩
    · exact x j
    · exact x j
    · exact x j hj9
  have tA1 : (nI (A + 1)).toInt = ((A + 1 : Nat) : Int) := nI_toInt (by omega)
  have bkk : bk (mixH q P Q) q = m := by
    unfold bk at em ⊢
    rw [mix_q] at em ⊢
    rw [qq 23 (by decide) (by decide) (by decide) (by decide)]
    exact em
  have s0 : fx_i a (w + 89) 6 = fx_i b q 22 := by
    have := hj.comp.1
    rw [cl _ _ (by omega), mix_q] at this
    exact this
  have c8 : fx_i (mixH q P Q) (w + 89) 8 = fx_i (mixH q P Q) q 44 := by
    rw [cP _ _ (by omega) (by omega) (by omega), mix_q, qq 44 (by decide) (by decide) (by decide) (by decide), ← mix_q a b]
    exact hj.comp.2.2.1
  have ppH : pH (mixH q P Q) (w + 90) = pH a (w + 90) := by unfold pH; rw [cP _ _ (by omega) (by omega) (by omega), cl _ _ (by omega)]
  -- the list
  have szP : fx_i P (w + 143 + 11 * m + 2) 1 = fx_i Q (q + 21) m := by
    rcases r4 with ⟨x, -, -, -, -, y⟩ | ⟨x, z, -, -, -, y⟩ | ⟨x, z, -, y⟩
    · rcases n5 with ⟨-, -, -, -, -, v⟩ | ⟨u, -, -, -, -, v⟩ | ⟨u, -⟩
      · rw [y, v m, sz]
      · rw [y, v m, sz]
      · have := same.2 u; omega
    · rcases n5 with ⟨u, -, -, -, -, v⟩ | ⟨u, -, -, -, -, v⟩ | ⟨u, v, -⟩
      · rw [y, v m, sz]
      · rw [y, v m, sz]
      · rw [sz, iz_lt] at z; exact absurd z v
    · rcases n5 with ⟨u, -⟩ | ⟨u, v, -⟩ | ⟨-, -, -, v, -⟩
      · have := (same.1 u).1; omega
      · rw [sz, iz_lt] at z; exact absurd v z
      · rw [y, v]
  have q21r : 0 ≤ (fx_i Q (q + 21) m).toInt ∧ (fx_i Q (q + 21) m).toInt ≤ (fx_i b (q + 21) m).toInt := by
    rcases n5 with ⟨-, -, -, -, -, v⟩ | ⟨-, -, -, -, -, v⟩ | ⟨-, -, -, v, -⟩
    · rw [v m]; rw [mix_m] at j3; omega
    · rw [v m]; rw [mix_m] at j3; omega
    · rw [v]; rw [mix_m] at j3; have : (0 : Int32).toInt = 0 := rfl; omega
  refine J_stepf hj em (fun y h1 h2 h3 h4 h5 h6 j h7 => cP y j (by omega) h7 (fun z => h6 z.1)) (fun o h1 h2 h3 h4 h5 h6 j => mQ o j (by omega) h5) (fun j _ => mQ 20 j (by decide) (by decide)) (fun j hj9 => by rw [mix_m, mix_m]; exact q21 j hj9) (fun j h1 h2 h3 h4 h5 => by rw [mix_q, mix_q]; exact qq j h2 h3 h4 h5) ?_ ?_
  · refine ⟨fun k hk => by rw [cP _ _ (by omega) (by omega) (by omega), mQ 20 _ (by decide) (by decide)]; exact j1 k hk, by rw [mix_c _ _ (by omega), mix_m]; exact szP, by rw [mix_m]; exact ⟨q21r.1, Int.le_trans q21r.2 h6⟩, fun i hi => ?_⟩
    rw [mix_m] at hi
    have n7 := iz_nn q21r.1
    rw [mix_m] at j3
    have n8 := iz_nn j3.1
    have hi2 : i < (fx_i (mixH q a b) (q + 21) m).toNatClampNeg := by rw [mix_m]; omega
    have := j4 i hi2
    rw [cP (w + 143 + 11 * m + 4 + i) 0 (by omega) (by omega) (by omega), cP (w + 143 + 11 * m + 4 + i) 1 (by omega) (by omega) (by omega), cP (w + 143 + 11 * m + 4 + i) 2 (by omega) (by omega) (by omega), cP (w + 143 + 11 * m + 4 + i) 3 (by omega) (by omega) (by omega), mQ 22 _ (by decide) (by decide), mQ 23 _ (by decide) (by decide), mQ 24 _ (by decide) (by decide), mQ 25 _ (by decide) (by decide)]
    exact this
  · have a1 : (1 : Int32).toInt = 1 := rfl
    rcases r4 with ⟨x1, x2, x3, x4, x5, x6⟩ | ⟨x1, x2, x3, x4, x5, x6⟩ | ⟨x1, x2, x3, x4⟩
    · have n10 : n < 10 := by
        rcases Nat.lt_or_ge n 10 with z | z
        · exact z
        · have := same.2 (by omega); omega
      have nr := (same.1 n10).2
      rcases n5 with ⟨-, -, v1, v2, v3, v4⟩ | ⟨u, -⟩ | ⟨u, -⟩
      · have tn : (nI (n + 1)).toInt = ((n + 1 : Nat) : Int) := nI_toInt (by omega)
        refine ⟨by rw [mix_c _ _ (by omega), mix_q, x5, v3, s0], by rw [mix_q, v3, hs]; exact Or.inr (Or.inl rfl), c8, fun _ => ?_⟩
        rw [bkk]
        simp only [mix_q, mix_m, v1, v2, v4, tn]
        rw [mix_c _ _ (by omega), mix_c _ _ (by omega), x3, x4, ppH]
        have e5 : ((((n + 1 : Nat)) : Int)).toNat - 1 = n := by omega
        have cA : (nI A).toNatClampNeg = A := nI_clamp (by omega)
        refine ⟨rfl, by rw [nI_toInt (by omega)]; omega, hAs, by rw [nI_pred, nr], by omega, by omega, fun _ => ?_⟩
        rw [e5, cA, nr]
        have epu : pU (mixH q P Q) (w + 90) r = pU a (w + 90) r := by unfold pU; rw [cP _ _ (by omega) (by omega) (by omega), cl _ _ (by omega)]
        have pu10 := (hj.pileT.1.2.2 r (by omega)).1
        have epu' : pU (mixH q a b) (w + 90) r = pU a (w + 90) r := by unfold pU; rw [cl _ _ (by omega)]
        rw [epu'] at pu10
        rw [epu]
        refine ⟨?_, ?_⟩
        · rw [cP _ _ (by omega) (by omega) (by omega), cl _ _ (by omega), ← x2.1]
          exact pnHas_congr (fun j _ => (cP _ _ (by omega) (by omega) (by omega)).trans (cl _ _ (by omega))) _
        · intro z
          apply x2.2
          rw [← z]
          exact rMeets_congr (fun j _ => ((cP _ _ (by omega) (by omega) (by omega)).trans (cl _ _ (by omega))).symm) (fun j _ => ((cP _ _ (by omega) (by omega) (by omega)).trans (cl _ _ (by omega))).symm)
      · omega
      · omega
    · have n10 : n = 10 := by
        rcases Nat.lt_or_ge n 10 with z | z
        · have := (same.1 z).1; omega
        · omega
      rcases n5 with ⟨u, -⟩ | ⟨-, u, v1, v2, v3, v4⟩ | ⟨-, u, -⟩
      · omega
      · refine ⟨by rw [mix_c _ _ (by omega), mix_q, x5, v3, s0], by rw [mix_q, v3, hs]; exact Or.inr (Or.inl rfl), c8, fun _ => ?_⟩
        rw [bkk]
        simp only [mix_q, mix_m, v1, v2, v4]
        rw [mix_c _ _ (by omega), mix_c _ _ (by omega), x3, x4, ppH]
        refine ⟨rfl, by rw [tA1]; omega, u, by decide, by decide, by show (0 : Int) ≤ _; omega, fun z => absurd trivial z⟩
      · rw [sz, iz_lt] at x2; exact absurd x2 u
    · have n10 : n = 10 := by
        rcases Nat.lt_or_ge n 10 with z | z
        · have := (same.1 z).1; omega
        · omega
      rcases n5 with ⟨u, -⟩ | ⟨-, u, -⟩ | ⟨-, -, v1, -⟩
      · omega
      · rw [sz, iz_lt] at x2; exact absurd u x2
      · exact ⟨by rw [mix_c _ _ (by omega), mix_q, x3, v1], by rw [mix_q, v1]; exact Or.inr (Or.inr rfl), c8, fun z => by rw [mix_q, v1] at z; exact absurd z (by decide)⟩
