/-! ===== one invariant of class and Model in one heap ===== -/
theorem srch_congr (c d : Nat → Bool) (a : Nat → Int32) (b : Int32) : ∀ n i, (∀ p, i ≤ p → p < i + n → c p = d p) → srch c a b i n = srch d a b i n
  | 0, i, _ => rfl
  | n + 1, i, h => by
    have h1 := h i (Nat.le_refl _) (by omega)
    by_cases e : d i = true
    · rw [srch_yes _ _ _ _ _ e, srch_yes _ _ _ _ _ (h1.trans e)]
    · rw [srch_no _ _ _ _ _ e, srch_no _ _ _ _ _ (by rw [h1]; exact e)]
      exact srch_congr c d a b n (i + 1) (fun p q1 q2 => h p (by omega) (by omega))
theorem itg_congr {α : Type} (f g : Nat → α → α) (a : α) : ∀ n, (∀ i x, i < n → f i x = g i x) → itg f a n = itg g a n
  | 0, _ => rfl
  | n + 1, h => by rw [itg_s, itg_s, itg_congr f g a n (fun i x hi => h i x (by omega)), h n _ (by omega)]
theorem above_congr {h k : fx_H} {q kd : Nat} (hkd : kd ≤ 20) (e : ∀ t, t < 10 → fx_i k (q + 10) (kd + t) = fx_i h (q + 10) (kd + t)) {s t : Nat} (hs : s < 10) (ht : t < 10) : v_MO_isAbove k q (nI (kd + s)) (nI (kd + t)) = v_MO_isAbove h q (nI (kd + s)) (nI (kd + t)) := by
  unfold v_MO_isAbove
  rw [nI_clamp (n := kd + s) (by omega), nI_clamp (n := kd + t) (by omega), e s hs, e t ht]
theorem nth_congr {h k : fx_H} {q kd : Nat} (hkd : kd ≤ 20) (e7 : ∀ t, t < 10 → fx_i k (q + 7) (kd + t) = fx_i h (q + 7) (kd + t)) (e : ∀ t, t < 10 → fx_i k (q + 10) (kd + t) = fx_i h (q + 10) (kd + t)) (m : Int32) : v_MO_nth k q kd m = v_MO_nth h q kd m := by
  unfold v_MO_nth
  refine srch_congr _ _ _ _ _ kd (fun p h1 h2 => ?_)
  obtain ⟨s, rfl⟩ : ∃ s, p = kd + s := ⟨p - kd, by omega⟩
  have hs : s < 10 := by omega
  have e1 : itg (nthS k q kd (kd + s)) 0 10 = itg (nthS h q kd (kd + s)) 0 10 := itg_congr _ _ _ 10 (fun j x hj => by
    unfold nthS
    rw [e7 j hj, above_congr hkd e hs hj])
  rw [e7 s hs, e1]
theorem PS_congr {h k : fx_H} {P q kd : Nat} (hkd : kd ≤ 20) (c2 : fx_i k P 2 = fx_i h P 2) (cu : ∀ l, l < 10 → fx_i k (P + 2) l = fx_i h (P + 2) l) (ct : ∀ t, t < 10 → fx_i k (P + 3 + 4 * t) 0 = fx_i h (P + 3 + 4 * t) 0)
    (e7 : ∀ t, t < 10 → fx_i k (q + 7) (kd + t) = fx_i h (q + 7) (kd + t)) (e : ∀ t, t < 10 → fx_i k (q + 10) (kd + t) = fx_i h (q + 10) (kd + t)) (hp : PS h P q kd) : PS k P q kd := by
  have e1 : pH k P = pH h P := by unfold pH; rw [c2]
  have e2 : ∀ l, l < 10 → pU k P l = pU h P l := fun l hl => by unfold pU; rw [cu l hl]
  obtain ⟨⟨h1, h2, h3⟩, h4, h5, h6, h7⟩ := hp
  refine ⟨⟨by rw [e1]; exact h1, by rw [e1, c2]; exact h2, fun l hl => by rw [e2 l hl, cu l hl]; exact h3 l hl⟩, fun l hl => ?_, fun l hl hl2 => ?_, fun t ht hT => ?_, fun l l' hl hl' => ?_⟩
  · rw [e1] at hl
    rw [e2 l (by omega), nth_congr hkd e7 e, ct _ (h3 l (by omega)).1]
    exact h4 l hl
  · rw [e1] at hl
    rw [nth_congr hkd e7 e]
    exact h5 l hl hl2
  · rw [ct t ht] at hT
    obtain ⟨l, l1, l2⟩ := h6 t ht hT
    exact ⟨l, by rw [e1]; exact l1, by rw [e2 l (by omega)]; exact l2⟩
  · rw [e1] at hl hl'
    rw [e2 l (by omega), e2 l' (by omega), above_congr hkd e (h3 l' (by omega)).1 (h3 l (by omega)).1]
    exact h7 l l' hl hl'
/-- the pictures of all three kinds -/
def JP (h : fx_H) (w q : Nat) : Prop := ∀ s, s < 10 → PR h (w + 49 + 4 * s) q s ∧ PR h (w + 6 + 4 * s) q (10 + s) ∧ PR h (w + 93 + 4 * s) q (20 + s)
/-- a number's own: client, destroyed, leaving -/
def JS (h : fx_H) (w q s : Nat) : Prop := (fx_i h (w + 46) s = -1 ↔ fx_i h (q + 1) s = 0) ∧
  (¬ fx_i h (q + 1) s = 0 → fx_i h (w + 46) s = fx_i h (q + 2) s ∧ vp_in (fx_i h (q + 2) s) 4 ∧ fx_i h (w + 49 + 4 * s) 1 = fx_i h (q + 3) s ∧ fx_i h (w + 49 + 4 * s) 2 = fx_i h (q + 4) s ∧ (fx_i h (q + 5) s = 0 ↔ ¬ fx_i h (q + 7) s = 0)) ∧
  (fx_i h (w + 47) s = 0 ↔ (fx_i h (q + 1) s = 0 ∨ fx_i h (q + 6) s = 0)) ∧
  (fx_i h (q + 1) s = 0 → fx_i h (q + 7) s = 0 ∧ fx_i h (q + 7) (10 + s) = 0 ∧ fx_i h (q + 7) (20 + s) = 0) ∧
  (¬ fx_i h (q + 1) s = 0 → ¬ fx_i h (q + 6) s = 0 → fx_i h (q + 7) s = 0 ∧ fx_i h (q + 7) (10 + s) = 0)
/-- the desk's numbers -/
def JD (h : fx_H) (w q : Nat) : Prop := (∀ c, c < 4 → (fx_i h (w + 48) c = 0 ↔ fx_i h (q + 19) c = 0)) ∧ fx_i h (w + 1) 5 = fx_i h q 19 ∧ fx_i h (w + 89) 7 = fx_i h q 20 ∧ (0 ≤ (fx_i h q 19 - fx_i h q 20).toInt ∧ (fx_i h q 19 - fx_i h q 20).toInt ≤ 6)
/-- memory m of the class and of the Model, and what it misses -/
def JM (h : fx_H) (w q m : Nat) : Prop := (∀ k, k < 200 → fx_i h (w + 143 + 11 * m + 1) k = fx_i h (q + 20) (200 * m + k) ∧ isCol (fx_i h (w + 143 + 11 * m + 1) k)) ∧
  fx_i h (w + 143 + 11 * m + 2) 1 = fx_i h (q + 21) m ∧ (0 ≤ (fx_i h (q + 21) m).toInt ∧ (fx_i h (q + 21) m).toInt ≤ 6) ∧
  ∀ i, i < (fx_i h (q + 21) m).toNatClampNeg → (fx_i h (w + 143 + 11 * m + 4 + i) 0 = fx_i h (q + 22) (7 * m + i) ∧ fx_i h (w + 143 + 11 * m + 4 + i) 1 = fx_i h (q + 23) (7 * m + i) ∧ fx_i h (w + 143 + 11 * m + 4 + i) 2 = fx_i h (q + 24) (7 * m + i) ∧ fx_i h (w + 143 + 11 * m + 4 + i) 3 = fx_i h (q + 25) (7 * m + i)) ∧
    (0 ≤ (fx_i h (q + 22) (7 * m + i)).toInt ∧ 0 ≤ (fx_i h (q + 23) (7 * m + i)).toInt ∧ 0 < (fx_i h (q + 24) (7 * m + i)).toInt ∧ 0 < (fx_i h (q + 25) (7 * m + i)).toInt ∧ (fx_i h (q + 22) (7 * m + i)).toInt + (fx_i h (q + 24) (7 * m + i)).toInt ≤ 20 ∧ (fx_i h (q + 23) (7 * m + i)).toInt + (fx_i h (q + 25) (7 * m + i)).toInt ≤ 10)
/-- which memory is scanned -/
def JW (h : fx_H) (w q f b : Nat) : Prop := (fx_i h q 23 = 1 ∧ f = w + 143 ∧ b = w + 154) ∨ (fx_i h q 23 = 0 ∧ f = w + 154 ∧ b = w + 143)
def bk (h : fx_H) (q : Nat) : Nat := (fx_i h q 23).toNatClampNeg
/-- the composer's numbers; while it composes: the next step is the same -/
def JC (h : fx_H) (w q : Nat) : Prop := fx_i h (w + 89) 6 = fx_i h q 22 ∧ (fx_i h q 22 = 0 ∨ fx_i h q 22 = 1 ∨ fx_i h q 22 = 2) ∧ fx_i h (w + 89) 8 = fx_i h q 44 ∧
  (fx_i h q 22 = 1 → fx_i h (w + 89) 9 = fx_i h q 31 ∧ 0 ≤ (fx_i h q 31).toInt ∧ (fx_i h q 31).toInt < (fx_i h (q + 21) (bk h q)).toInt ∧ fx_i h (w + 89) 10 = fx_i h q 32 - 1 ∧ 0 ≤ (fx_i h q 32).toInt ∧ (fx_i h q 32).toInt ≤ pH h (w + 90) ∧
    (¬ fx_i h q 32 = 0 → v_PN_has h (w + 133) (fx_i h (w + 92) ((fx_i h q 32).toInt.toNat - 1)) = 0 ∧ ¬ rMeets h (w + 93 + 4 * pU h (w + 90) ((fx_i h q 32).toInt.toNat - 1) + 3) (w + 143 + 11 * bk h q + 4 + (fx_i h q 31).toNatClampNeg) = 0))
/-- a plane's surface and pixels as they were given -/
def JN (h : fx_H) (w q i : Nat) : Prop := fx_i h (w + 134) i = fx_i h (q + 26) i ∧ (fx_i h (q + 26) i = -1 ∨ ∃ s, s < 10 ∧ fx_i h (q + 26) i = nI s ∧ ¬ shE h q (20 + s) ∧ (∀ j, j < 4 → fx_i h (w + 136 + i) j = fx_i h (w + 93 + 4 * s + 3) j) ∧
  (shR h q (20 + s) - shX h q (20 + s)) * (shB h q (20 + s) - shY h q (20 + s)) ≤ 24 ∧
  ∀ r c, r < (fx_i h (w + 136 + i) 3).toNatClampNeg → c < (fx_i h (w + 136 + i) 2).toNatClampNeg → fx_i h (w + 139 + i) ((fx_i h (w + 136 + i) 2).toNatClampNeg * r + c) = pColor h (w + 93 + 4 * s) (fx_i h (w + 136 + i) 0 + nI c) (fx_i h (w + 136 + i) 1 + nI r))
/-- the planes that are scanned -/
def JT (h : fx_H) (w q i : Nat) : Prop := (fx_i h (w + 177) i = -1 ∧ fx_i h (q + 34) i = 0 ∧ fx_i h (q + 35) i = 0) ∨
  (¬ fx_i h (w + 177) i = -1 ∧ fx_i h (w + 179 + i) 0 = fx_i h (q + 32) i ∧ fx_i h (w + 179 + i) 1 = fx_i h (q + 33) i ∧ fx_i h (w + 179 + i) 2 = fx_i h (q + 34) i ∧ fx_i h (w + 179 + i) 3 = fx_i h (q + 35) i ∧
    (0 ≤ (fx_i h (q + 32) i).toInt ∧ 0 ≤ (fx_i h (q + 33) i).toInt ∧ 0 < (fx_i h (q + 34) i).toInt ∧ 0 < (fx_i h (q + 35) i).toInt ∧ (fx_i h (q + 32) i).toInt + (fx_i h (q + 34) i).toInt ≤ 20 ∧ (fx_i h (q + 33) i).toInt + (fx_i h (q + 35) i).toInt ≤ 10) ∧ (fx_i h (q + 34) i).toInt * (fx_i h (q + 35) i).toInt ≤ 24 ∧
    ∀ k : Nat, (k : Int) < (fx_i h (q + 34) i).toInt * (fx_i h (q + 35) i).toInt → fx_i h (w + 182 + i) k = fx_i h (q + 36) (24 * i + k))
/-- is the pixel k of the screen in the set plane i? -/
def inT (h : fx_H) (q i k : Nat) : Bool := decide ((fx_i h (q + 33) i).toInt ≤ (k / 20 : Nat) ∧ ((k / 20 : Nat) : Int) < (fx_i h (q + 33) i).toInt + (fx_i h (q + 35) i).toInt ∧ (fx_i h (q + 32) i).toInt ≤ (k % 20 : Nat) ∧ ((k % 20 : Nat) : Int) < (fx_i h (q + 32) i).toInt + (fx_i h (q + 34) i).toInt)
def tPx (h : fx_H) (q i k : Nat) : Int32 := fx_i h (q + 36) (24 * i + ((fx_i h (q + 34) i).toInt.toNat * (k / 20 - (fx_i h (q + 33) i).toInt.toNat) + (k % 20 - (fx_i h (q + 32) i).toInt.toNat)))
/-- the color of the pixel k when the frame is scanned -/
def lkC (h : fx_H) (q k : Nat) : Int32 := if inT h q 1 k = true then tPx h q 1 k else if inT h q 0 k = true then tPx h q 0 k else fx_i h (q + 20) (200 * (1 - bk h q) + k)
def JB (h : fx_H) (w q : Nat) : Prop := fx_i h (w + 175) 3 = fx_i h q 42 ∧ (0 ≤ (fx_i h q 42).toInt ∧ (fx_i h q 42).toInt ≤ 10) ∧ fx_i h (w + 175) 4 = fx_i h q 43 ∧ fx_i h (w + 175) 5 = fx_i h q 45 ∧ (∀ k, k < 200 → fx_i h (w + 185) k = fx_i h (q + 37) k) ∧ ∀ k, k < 20 * (fx_i h q 42).toNatClampNeg → fx_i h (w + 184) k = lkC h q k
def J (h : fx_H) (w q f b : Nat) : Prop := (w + 191 ≤ q) ∧ (JW h w q f b) ∧ (JP h w q) ∧ (PS h (w + 3) q 10) ∧ (PS h (w + 90) q 20) ∧ (mCR h q) ∧ (∀ s, s < 10 → JS h w q s) ∧ (JD h w q) ∧ (fx_i h (w + 1) 6 = v_MO_freePixels h q) ∧ (∀ m, m < 2 → JM h w q m) ∧ (JC h w q) ∧ (∀ i, i < 2 → JN h w q i) ∧ (∀ i, i < 2 → JT h w q i) ∧ (JB h w q)
theorem J.at_ {h : fx_H} {w q f b : Nat} (hj : J h w q f b) : w + 191 ≤ q := hj.1
theorem J.mem {h : fx_H} {w q f b : Nat} (hj : J h w q f b) : JW h w q f b := hj.2.1
theorem J.pics {h : fx_H} {w q f b : Nat} (hj : J h w q f b) : JP h w q := hj.2.2.1
theorem J.pileC {h : fx_H} {w q f b : Nat} (hj : J h w q f b) : PS h (w + 3) q 10 := hj.2.2.2.1
theorem J.pileT {h : fx_H} {w q f b : Nat} (hj : J h w q f b) : PS h (w + 90) q 20 := hj.2.2.2.2.1
theorem J.cr {h : fx_H} {w q f b : Nat} (hj : J h w q f b) : mCR h q := hj.2.2.2.2.2.1
theorem J.num {h : fx_H} {w q f b : Nat} (hj : J h w q f b) : ∀ s, s < 10 → JS h w q s := hj.2.2.2.2.2.2.1
theorem J.desk {h : fx_H} {w q f b : Nat} (hj : J h w q f b) : JD h w q := hj.2.2.2.2.2.2.2.1
theorem J.free {h : fx_H} {w q f b : Nat} (hj : J h w q f b) : fx_i h (w + 1) 6 = v_MO_freePixels h q := hj.2.2.2.2.2.2.2.2.1
theorem J.miss {h : fx_H} {w q f b : Nat} (hj : J h w q f b) : ∀ m, m < 2 → JM h w q m := hj.2.2.2.2.2.2.2.2.2.1
theorem J.comp {h : fx_H} {w q f b : Nat} (hj : J h w q f b) : JC h w q := hj.2.2.2.2.2.2.2.2.2.2.1
theorem J.plan {h : fx_H} {w q f b : Nat} (hj : J h w q f b) : ∀ i, i < 2 → JN h w q i := hj.2.2.2.2.2.2.2.2.2.2.2.1
theorem J.set_ {h : fx_H} {w q f b : Nat} (hj : J h w q f b) : ∀ i, i < 2 → JT h w q i := hj.2.2.2.2.2.2.2.2.2.2.2.2.1
theorem J.beam {h : fx_H} {w q f b : Nat} (hj : J h w q f b) : JB h w q := hj.2.2.2.2.2.2.2.2.2.2.2.2.2
theorem J.mk {h : fx_H} {w q f b : Nat} (at_ : w + 191 ≤ q) (mem : JW h w q f b) (pics : JP h w q) (pileC : PS h (w + 3) q 10) (pileT : PS h (w + 90) q 20) (cr : mCR h q) (num : ∀ s, s < 10 → JS h w q s) (desk : JD h w q) (free : fx_i h (w + 1) 6 = v_MO_freePixels h q) (miss : ∀ m, m < 2 → JM h w q m) (comp : JC h w q) (plan : ∀ i, i < 2 → JN h w q i) (set_ : ∀ i, i < 2 → JT h w q i) (beam : JB h w q) : J h w q f b := ⟨at_, mem, pics, pileC, pileT, cr, num, desk, free, miss, comp, plan, set_, beam⟩
/-! ===== what the invariant looks at ===== -/
theorem JS_congr {h k : fx_H} {w q s : Nat} (c46 : fx_i k (w + 46) s = fx_i h (w + 46) s) (c47 : fx_i k (w + 47) s = fx_i h (w + 47) s) (c1 : fx_i k (w + 49 + 4 * s) 1 = fx_i h (w + 49 + 4 * s) 1) (c2 : fx_i k (w + 49 + 4 * s) 2 = fx_i h (w + 49 + 4 * s) 2)
    (m : ∀ o, 1 ≤ o → o ≤ 7 → fx_i k (q + o) s = fx_i h (q + o) s) (m1 : fx_i k (q + 7) (10 + s) = fx_i h (q + 7) (10 + s)) (m2 : fx_i k (q + 7) (20 + s) = fx_i h (q + 7) (20 + s)) (hj : JS h w q s) : JS k w q s := by
  unfold JS at hj ⊢
  rw [c46, c47, c1, c2, m1, m2, m 1 (by decide) (by decide), m 2 (by decide) (by decide), m 3 (by decide) (by decide), m 4 (by decide) (by decide), m 5 (by decide) (by decide), m 6 (by decide) (by decide), m 7 (by decide) (by decide)]
  exact hj
theorem JD_congr {h k : fx_H} {w q : Nat} (c48 : ∀ c, c < 4 → fx_i k (w + 48) c = fx_i h (w + 48) c) (c5 : fx_i k (w + 1) 5 = fx_i h (w + 1) 5) (c7 : fx_i k (w + 89) 7 = fx_i h (w + 89) 7) (m19 : ∀ c, c < 4 → fx_i k (q + 19) c = fx_i h (q + 19) c) (f19 : fx_i k q 19 = fx_i h q 19) (f20 : fx_i k q 20 = fx_i h q 20) (hj : JD h w q) : JD k w q := by
  obtain ⟨h1, h2⟩ := hj
  refine ⟨fun c hc => by rw [c48 c hc, m19 c hc]; exact h1 c hc, ?_⟩
  rw [c5, c7, f19, f20]
  exact h2
theorem JM_congr {h k : fx_H} {w q m : Nat} (c1 : ∀ j, j < 200 → fx_i k (w + 143 + 11 * m + 1) j = fx_i h (w + 143 + 11 * m + 1) j) (c2 : fx_i k (w + 143 + 11 * m + 2) 1 = fx_i h (w + 143 + 11 * m + 2) 1) (c4 : ∀ i, i < 7 → ∀ j, fx_i k (w + 143 + 11 * m + 4 + i) j = fx_i h (w + 143 + 11 * m + 4 + i) j)
    (m20 : ∀ j, j < 200 → fx_i k (q + 20) (200 * m + j) = fx_i h (q + 20) (200 * m + j)) (m21 : fx_i k (q + 21) m = fx_i h (q + 21) m) (mr : ∀ o, 22 ≤ o → o ≤ 25 → ∀ i, i < 7 → fx_i k (q + o) (7 * m + i) = fx_i h (q + o) (7 * m + i)) (hj : JM h w q m) : JM k w q m := by
  obtain ⟨h1, h2, h3, h4⟩ := hj
  refine ⟨fun j hj => by rw [c1 j hj, m20 j hj]; exact h1 j hj, by rw [c2, m21]; exact h2, by rw [m21]; exact h3, fun i hi => ?_⟩
  rw [m21] at hi
  have n1 := iz_nn h3.1
  have hi7 : i < 7 := by omega
  rw [c4 i hi7, c4 i hi7, c4 i hi7, c4 i hi7, mr 22 (by decide) (by decide) i hi7, mr 23 (by decide) (by decide) i hi7, mr 24 (by decide) (by decide) i hi7, mr 25 (by decide) (by decide) i hi7]
  exact h4 i hi
theorem rMeets_congr {h k : fx_H} {a b : Nat} (ea : ∀ j, j < 4 → fx_i k a j = fx_i h a j) (eb : ∀ j, j < 4 → fx_i k b j = fx_i h b j) : rMeets k a b = rMeets h a b := by
  unfold rMeets
  rw [ea 0 (by decide), ea 1 (by decide), ea 2 (by decide), ea 3 (by decide), eb 0 (by decide), eb 1 (by decide), eb 2 (by decide), eb 3 (by decide)]
theorem pnHas_congr {h k : fx_H} {n : Nat} (e : ∀ j, j < 2 → fx_i k (n + 1) j = fx_i h (n + 1) j) (s : Int32) : v_PN_has k n s = v_PN_has h n s := by
  unfold v_PN_has
  have e0 : (0 : Int32).toNatClampNeg = 0 := rfl
  have e1 : (1 : Int32).toNatClampNeg = 1 := rfl
  rw [e0, e1, e 0 (by decide), e 1 (by decide)]
theorem JC_congr {h k : fx_H} {w q : Nat} (hP : pOk h (w + 90)) (hB : bk h q < 2) (hM : ∀ m, m < 2 → (fx_i h (q + 21) m).toInt ≤ 6) (c89 : ∀ j, 6 ≤ j → fx_i k (w + 89) j = fx_i h (w + 89) j) (c90 : fx_i k (w + 90) 2 = fx_i h (w + 90) 2) (c92 : ∀ l, l < 10 → fx_i k (w + 92) l = fx_i h (w + 92) l) (c134 : ∀ j, j < 2 → fx_i k (w + 134) j = fx_i h (w + 134) j)
    (cs : ∀ s, s < 10 → ∀ j, j < 4 → fx_i k (w + 93 + 4 * s + 3) j = fx_i h (w + 93 + 4 * s + 3) j) (cm : ∀ m, m < 2 → ∀ i, i < 7 → ∀ j, fx_i k (w + 143 + 11 * m + 4 + i) j = fx_i h (w + 143 + 11 * m + 4 + i) j) (m21 : ∀ m, m < 2 → fx_i k (q + 21) m = fx_i h (q + 21) m)
    (f22 : fx_i k q 22 = fx_i h q 22) (f23 : fx_i k q 23 = fx_i h q 23) (f31 : fx_i k q 31 = fx_i h q 31) (f32 : fx_i k q 32 = fx_i h q 32) (f44 : fx_i k q 44 = fx_i h q 44) (hj : JC h w q) : JC k w q := by
  have eb : bk k q = bk h q := by unfold bk; rw [f23]
  have ep : pH k (w + 90) = pH h (w + 90) := by unfold pH; rw [c90]
  obtain ⟨h1, h2, h3, h4⟩ := hj
  refine ⟨by rw [c89 6 (by decide), f22]; exact h1, by rw [f22]; exact h2, by rw [c89 8 (by decide), f44]; exact h3, fun h0 => ?_⟩
  rw [f22] at h0
  obtain ⟨a1, a2, a3, a4, a5, a6, a7⟩ := h4 h0
  rw [c89 9 (by decide), c89 10 (by decide), f31, f32, eb, ep, m21 _ hB]
  refine ⟨a1, a2, a3, a4, a5, a6, fun h9 => ?_⟩
  obtain ⟨b1, b2⟩ := a7 h9
  have hM' := hM _ hB
  have n1 := iz_nn a2
  have h5 : ¬ (fx_i h q 32).toInt = 0 := fun z => h9 (iz_eq.mpr z)
  have h6 : (fx_i h q 32).toInt.toNat - 1 < 10 := by have := hP.1; omega
  have eu : pU k (w + 90) ((fx_i h q 32).toInt.toNat - 1) = pU h (w + 90) ((fx_i h q 32).toInt.toNat - 1) := by unfold pU; exact congrArg Int32.toNatClampNeg (c92 _ h6)
  rw [pnHas_congr c134, c92 _ h6, eu, rMeets_congr (cs _ (hP.2.2 _ h6).1) (fun j _ => cm _ hB _ (by omega) j)]
  exact ⟨b1, b2⟩
theorem sh_congr {h k : fx_H} {q p : Nat} (f : ∀ o, 7 ≤ o → o ≤ 16 → fx_i k (q + o) p = fx_i h (q + o) p) : shX k q p = shX h q p ∧ shY k q p = shY h q p ∧ shR k q p = shR h q p ∧ shB k q p = shB h q p ∧ (shE k q p ↔ shE h q p) := by
  have g7 := f 7 (by decide) (by decide)
  have g8 := f 8 (by decide) (by decide)
  have g9 := f 9 (by decide) (by decide)
  have g12 := f 12 (by decide) (by decide)
  have g13 := f 13 (by decide) (by decide)
  have g14 := f 14 (by decide) (by decide)
  have g15 := f 15 (by decide) (by decide)
  have g16 := f 16 (by decide) (by decide)
  have x1 : shX k q p = shX h q p := by unfold shX; rw [g8, g13]
  have x2 : shY k q p = shY h q p := by unfold shY; rw [g9, g14]
  have x3 : shR k q p = shR h q p := by unfold shR; rw [g8, g13, g15]
  have x4 : shB k q p = shB h q p := by unfold shB; rw [g9, g14, g16]
  exact ⟨x1, x2, x3, x4, by unfold shE; rw [g7, g12, x1, x2, x3, x4]⟩
theorem pColor_congr {h k : fx_H} {a : Nat} (e0 : ∀ j, j < 8 → fx_i k a j = fx_i h a j) (e1 : ∀ j, j < 96 → fx_i k (a + 1) j = fx_i h (a + 1) j) (x y : Int32) (hin : vp_in (pIx h a x y) 96) : pColor k a x y = pColor h a x y := by
  have e2 : pIx k a x y = pIx h a x y := by unfold pIx; rw [e0 4 (by decide), e0 1 (by decide), e0 3 (by decide)]
  unfold pColor
  rw [e2]
  exact e1 _ (vp_in_lt hin)
theorem JN_congr {h k : fx_H} {w q i : Nat} (hs : ∀ s, s < 10 → sOk h (w + 93 + 4 * s)) (c134 : fx_i k (w + 134) i = fx_i h (w + 134) i) (m26 : fx_i k (q + 26) i = fx_i h (q + 26) i) (c136 : ∀ j, fx_i k (w + 136 + i) j = fx_i h (w + 136 + i) j) (c139 : ∀ j, fx_i k (w + 139 + i) j = fx_i h (w + 139 + i) j)
    (c0 : ∀ s, s < 10 → ∀ j, j < 8 → fx_i k (w + 93 + 4 * s) j = fx_i h (w + 93 + 4 * s) j) (c1 : ∀ s, s < 10 → ∀ j, j < 96 → fx_i k (w + 93 + 4 * s + 1) j = fx_i h (w + 93 + 4 * s + 1) j) (c3 : ∀ s, s < 10 → ∀ j, j < 4 → fx_i k (w + 93 + 4 * s + 3) j = fx_i h (w + 93 + 4 * s + 3) j)
    (f : ∀ s, s < 10 → ∀ o, 7 ≤ o → o ≤ 16 → fx_i k (q + o) (20 + s) = fx_i h (q + o) (20 + s)) (hj : JN h w q i) : JN k w q i := by
  obtain ⟨h1, h2⟩ := hj
  refine ⟨by rw [c134, m26]; exact h1, ?_⟩
  rcases h2 with h2 | ⟨s, s1, s2, s3, s4, s5, s6⟩
  · exact Or.inl (by rw [m26]; exact h2)
  · obtain ⟨x1, x2, x3, x4, x5⟩ := sh_congr (f s s1)
    refine Or.inr ⟨s, s1, by rw [m26]; exact s2, by rw [x5]; exact s3, fun j hj => by rw [c136, c3 s s1 j hj]; exact s4 j hj, by rw [x1, x2, x3, x4]; exact s5, fun r c hr hc => ?_⟩
    rw [c136] at hr hc
    have h9 : rOk h (w + 136 + i) := rOk_of (fun j hj => s4 j hj) (hs s s1).1
    have hh := rHas_1 h9 hr hc
    have hh2 : ¬ rHas h (w + 93 + 4 * s + 3) (fx_i h (w + 136 + i) 0 + nI c) (fx_i h (w + 136 + i) 1 + nI r) = 0 := by
      intro z
      apply hh
      unfold rHas at z ⊢
      rw [s4 0 (by decide), s4 1 (by decide), s4 2 (by decide), s4 3 (by decide)]
      rw [s4 0 (by decide), s4 1 (by decide)] at z
      exact z
    rw [c139, c136, c136, c136, pColor_congr (c0 s s1) (c1 s s1) _ _ ((hs s s1).2 _ _ hh2)]
    exact s6 r c hr hc
theorem JT_congr {h k : fx_H} {w q i : Nat} (c177 : fx_i k (w + 177) i = fx_i h (w + 177) i) (c179 : ∀ j, fx_i k (w + 179 + i) j = fx_i h (w + 179 + i) j) (c182 : ∀ j, fx_i k (w + 182 + i) j = fx_i h (w + 182 + i) j) (m : ∀ o, 32 ≤ o → o ≤ 36 → ∀ j, fx_i k (q + o) j = fx_i h (q + o) j) (hj : JT h w q i) : JT k w q i := by
  unfold JT at hj ⊢
  simp only [c177, c179, c182, m 32 (by decide) (by decide), m 33 (by decide) (by decide), m 34 (by decide) (by decide), m 35 (by decide) (by decide), m 36 (by decide) (by decide)]
  exact hj
theorem lkC_congr {h k : fx_H} {q n : Nat} (m : ∀ o, 32 ≤ o → o ≤ 36 → ∀ j, fx_i k (q + o) j = fx_i h (q + o) j) (f23 : fx_i k q 23 = fx_i h q 23) (m20 : fx_i k (q + 20) (200 * (1 - bk h q) + n) = fx_i h (q + 20) (200 * (1 - bk h q) + n)) : lkC k q n = lkC h q n := by
  have eb : bk k q = bk h q := by unfold bk; rw [f23]
  have e1 : ∀ i, inT k q i n = inT h q i n := fun i => by unfold inT; rw [m 32 (by decide) (by decide), m 33 (by decide) (by decide), m 34 (by decide) (by decide), m 35 (by decide) (by decide)]
  have e2 : ∀ i, tPx k q i n = tPx h q i n := fun i => by unfold tPx; rw [m 36 (by decide) (by decide), m 32 (by decide) (by decide), m 33 (by decide) (by decide), m 34 (by decide) (by decide)]
  unfold lkC
  rw [e1, e1, e2, e2, eb, m20]
theorem JB_congr {h k : fx_H} {w q : Nat} (c175 : ∀ j, 3 ≤ j → fx_i k (w + 175) j = fx_i h (w + 175) j) (c184 : ∀ j, fx_i k (w + 184) j = fx_i h (w + 184) j) (c185 : ∀ j, fx_i k (w + 185) j = fx_i h (w + 185) j) (m37 : ∀ j, fx_i k (q + 37) j = fx_i h (q + 37) j)
    (m : ∀ o, 32 ≤ o → o ≤ 36 → ∀ j, fx_i k (q + o) j = fx_i h (q + o) j) (f23 : fx_i k q 23 = fx_i h q 23) (f42 : fx_i k q 42 = fx_i h q 42) (f43 : fx_i k q 43 = fx_i h q 43) (f45 : fx_i k q 45 = fx_i h q 45) (m20 : ∀ n, n < 200 → fx_i k (q + 20) (200 * (1 - bk h q) + n) = fx_i h (q + 20) (200 * (1 - bk h q) + n)) (hj : JB h w q) : JB k w q := by
  obtain ⟨h1, h2, h3, h4, h5, h6⟩ := hj
  refine ⟨by rw [c175 3 (by decide), f42]; exact h1, by rw [f42]; exact h2, by rw [c175 4 (by decide), f43]; exact h3, by rw [c175 5 (by decide), f45]; exact h4, fun n hn => by rw [c185, m37]; exact h5 n hn, fun n hn => ?_⟩
  rw [f42] at hn
  have n1 := iz_nn h2.1
  rw [c184, lkC_congr m f23 (m20 n (by omega))]
  exact h6 n hn
theorem JP_sOk {h : fx_H} {w q : Nat} (hcr : mCR h q) (hp : JP h w q) (s : Nat) (hs : s < 10) : sOk h (w + 93 + 4 * s) := PR_sOk (by omega) hcr (hp s hs).2.2
theorem bk_2 {h : fx_H} {w q f b : Nat} (hm : JW h w q f b) : bk h q < 2 := by
  unfold bk
  rcases hm with z | z
  · rw [z.1]; decide
  · rw [z.1]; decide
/-- the same but for scratch -/
def ag (h k : fx_H) (w q : Nat) : Prop := (∀ b, w ≤ b → b < w + 186 → b ≠ w + 141 → ¬ (w + 165 ≤ b ∧ b ≤ w + 174) → ∀ j, fx_i k b j = fx_i h b j) ∧ (∀ o, 1 ≤ o → o ≤ 37 → o ≠ 18 → ¬ (27 ≤ o ∧ o ≤ 31) → ∀ j, fx_i k (q + o) j = fx_i h (q + o) j) ∧ ∀ j, j ≠ 0 → ¬ (38 ≤ j ∧ j ≤ 41) → fx_i k q j = fx_i h q j
theorem fp_congr {h k : fx_H} {q : Nat} (m1 : ∀ s, s < 10 → fx_i k (q + 1) s = fx_i h (q + 1) s) (m3 : ∀ s, s < 10 → fx_i k (q + 3) s = fx_i h (q + 3) s) (m4 : ∀ s, s < 10 → fx_i k (q + 4) s = fx_i h (q + 4) s) : v_MO_freePixels k q = v_MO_freePixels h q := by
  unfold v_MO_freePixels
  refine itg_congr _ _ _ 10 (fun i x hi => ?_)
  unfold fpS
  rw [m1 i hi, m3 i hi, m4 i hi]
theorem J_ag {h k : fx_H} {w q f b : Nat} (e : ag h k w q) (hj : J h w q f b) : J k w q f b := by
  obtain ⟨e1, e2, e3⟩ := e
  have hP := hj.pileT.1
  have hB := bk_2 hj.mem
  have eb : bk k q = bk h q := by unfold bk; rw [e3 23 (by decide) (by decide)]
  have mm : ∀ o, 1 ≤ o → o ≤ 26 → o ≠ 18 → ∀ j, fx_i k (q + o) j = fx_i h (q + o) j := fun o h1 h2 h3 => e2 o h1 (by omega) h3 (by omega)
  have mt : ∀ o, 32 ≤ o → o ≤ 37 → ∀ j, fx_i k (q + o) j = fx_i h (q + o) j := fun o h1 h2 => e2 o (by omega) h2 (by omega) (by omega)
  exact J.mk
    (at_ := hj.at_)
    (mem := by
      have := hj.mem
      unfold JW at this ⊢
      rw [e3 23 (by decide) (by decide)]
      exact this)
    (pics := fun s hs => by
      have pc : ∀ a p, w ≤ a → a + 3 < w + 141 → p < 30 → PR h a q p → PR k a q p := fun a p h1 h2 h3 hp => PR_congr (fun j _ => e1 _ (by omega) (by omega) (by omega) (by omega) j) (fun j _ => e1 _ (by omega) (by omega) (by omega) (by omega) j) (fun j _ => e1 _ (by omega) (by omega) (by omega) (by omega) j) (fun j _ => e1 _ (by omega) (by omega) (by omega) (by omega) j) (fun o h4 h5 => mm o (by omega) (by omega) (by omega) _) (fun j _ => mm 17 (by decide) (by decide) (by decide) _) ⟨mm 3 (by decide) (by decide) (by decide) _, mm 4 (by decide) (by decide) (by decide) _⟩ hp
      obtain ⟨p1, p2, p3⟩ := hj.pics s hs
      exact ⟨pc _ _ (by omega) (by omega) (by omega) p1, pc _ _ (by omega) (by omega) (by omega) p2, pc _ _ (by omega) (by omega) (by omega) p3⟩)
    (pileC := PS_congr (by decide) (e1 _ (by omega) (by omega) (by omega) (by omega) _) (fun l _ => e1 _ (by omega) (by omega) (by omega) (by omega) _) (fun t ht => e1 _ (by omega) (by omega) (by omega) (by omega) _) (fun t _ => mm 7 (by decide) (by decide) (by decide) _) (fun t _ => mm 10 (by decide) (by decide) (by decide) _) hj.pileC)
    (pileT := PS_congr (by decide) (e1 _ (by omega) (by omega) (by omega) (by omega) _) (fun l _ => e1 _ (by omega) (by omega) (by omega) (by omega) _) (fun t ht => e1 _ (by omega) (by omega) (by omega) (by omega) _) (fun t _ => mm 7 (by decide) (by decide) (by decide) _) (fun t _ => mm 10 (by decide) (by decide) (by decide) _) hj.pileT)
    (cr := fun s hs => by
      rw [mm 3 (by decide) (by decide) (by decide), mm 4 (by decide) (by decide) (by decide)]
      exact hj.cr s hs)
    (num := fun s hs => JS_congr (e1 _ (by omega) (by omega) (by omega) (by omega) _) (e1 _ (by omega) (by omega) (by omega) (by omega) _) (e1 _ (by omega) (by omega) (by omega) (by omega) _) (e1 _ (by omega) (by omega) (by omega) (by omega) _) (fun o h1 h2 => mm o h1 (by omega) (by omega) _) (mm 7 (by decide) (by decide) (by decide) _) (mm 7 (by decide) (by decide) (by decide) _) (hj.num s hs))
    (desk := JD_congr (fun c _ => e1 _ (by omega) (by omega) (by omega) (by omega) _) (e1 _ (by omega) (by omega) (by omega) (by omega) _) (e1 _ (by omega) (by omega) (by omega) (by omega) _) (fun c _ => mm 19 (by decide) (by decide) (by decide) _) (e3 _ (by decide) (by decide)) (e3 _ (by decide) (by decide)) hj.desk)
    (free := by
      rw [e1 (w + 1) (by omega) (by omega) (by omega) (by omega), fp_congr (fun s _ => mm 1 (by decide) (by decide) (by decide) s) (fun s _ => mm 3 (by decide) (by decide) (by decide) s) (fun s _ => mm 4 (by decide) (by decide) (by decide) s)]
      exact hj.free)
    (miss := fun m hm => JM_congr (fun j _ => e1 _ (by omega) (by omega) (by omega) (by omega) _) (e1 _ (by omega) (by omega) (by omega) (by omega) _) (fun i hi j => e1 _ (by omega) (by omega) (by omega) (by omega) _) (fun j _ => mm 20 (by decide) (by decide) (by decide) _) (mm 21 (by decide) (by decide) (by decide) _) (fun o h1 h2 i _ => mm o (by omega) (by omega) (by omega) _) (hj.miss m hm))
    (comp := JC_congr hP hB (fun m hm => (hj.miss m hm).2.2.1.2) (fun j _ => e1 _ (by omega) (by omega) (by omega) (by omega) _) (e1 _ (by omega) (by omega) (by omega) (by omega) _) (fun l _ => e1 _ (by omega) (by omega) (by omega) (by omega) _) (fun j _ => e1 _ (by omega) (by omega) (by omega) (by omega) _) (fun s hs j _ => e1 _ (by omega) (by omega) (by omega) (by omega) _) (fun m hm i hi j => e1 _ (by omega) (by omega) (by omega) (by omega) _) (fun m _ => mm 21 (by decide) (by decide) (by decide) _) (e3 _ (by decide) (by decide)) (e3 _ (by decide) (by decide)) (e3 _ (by decide) (by decide)) (e3 _ (by decide) (by decide)) (e3 _ (by decide) (by decide)) hj.comp)
    (plan := fun i hi => JN_congr (JP_sOk hj.cr hj.pics) (e1 _ (by omega) (by omega) (by omega) (by omega) _) (mm 26 (by decide) (by decide) (by decide) _) (fun j => e1 _ (by omega) (by omega) (by omega) (by omega) _) (fun j => e1 _ (by omega) (by omega) (by omega) (by omega) _) (fun s hs j _ => e1 _ (by omega) (by omega) (by omega) (by omega) _) (fun s hs j _ => e1 _ (by omega) (by omega) (by omega) (by omega) _) (fun s hs j _ => e1 _ (by omega) (by omega) (by omega) (by omega) _) (fun s _ o h1 h2 => mm o (by omega) (by omega) (by omega) _) (hj.plan i hi))
    (set_ := fun i hi => JT_congr (e1 _ (by omega) (by omega) (by omega) (by omega) _) (fun j => e1 _ (by omega) (by omega) (by omega) (by omega) _) (fun j => e1 _ (by omega) (by omega) (by omega) (by omega) _) (fun o h1 h2 j => mt o h1 (by omega) j) (hj.set_ i hi))
    (beam := JB_congr (fun j _ => e1 _ (by omega) (by omega) (by omega) (by omega) _) (fun j => e1 _ (by omega) (by omega) (by omega) (by omega) _) (fun j => e1 _ (by omega) (by omega) (by omega) (by omega) _) (fun j => mt 37 (by decide) (by decide) j) (fun o h1 h2 j => mt o h1 (by omega) j) (e3 _ (by decide) (by decide)) (e3 _ (by decide) (by decide)) (e3 _ (by decide) (by decide)) (e3 _ (by decide) (by decide)) (fun n _ => mm 20 (by decide) (by decide) (by decide) _) hj.beam)
theorem ag_wf (h : fx_H) (w q j : Nat) (v : Int32) (hq : w + 191 ≤ q) (hj : j = 0 ∨ (38 ≤ j ∧ j ≤ 41)) : ag h (fx_wi h q j v) w q := by
  refine ⟨fun b h1 h2 _ _ i => by rw [fx_i_wi, if_neg (fun z => by omega)], fun o h1 _ _ _ i => by rw [fx_i_wi, if_neg (fun z => by omega)], fun i h1 h2 => by rw [fx_i_wi, if_neg (fun z => by omega)]⟩
theorem ag_mfr {h k : fx_H} {w q : Nat} (hq : w + 191 ≤ q) (e : mfr q [18, 27, 28, 29, 30, 31] [0, 38, 39, 40, 41] h k) : ag h k w q := by
  refine ⟨fun b h1 h2 _ _ i => mfr_out e (by decide) (by omega) i, fun o h1 h2 h3 h4 i => mfr_at e ⟨fun z => ?_, by omega⟩ i, fun i h1 h2 => mfr_f e (fun z => ?_)⟩
  · simp only [List.mem_cons, List.mem_nil_iff, or_false] at z
    omega
  · simp only [List.mem_cons, List.mem_nil_iff, or_false] at z
    omega
theorem ag_t {h k l : fx_H} {w q : Nat} (a : ag h k w q) (b : ag k l w q) : ag h l w q := ⟨fun c h1 h2 h3 h4 j => (b.1 c h1 h2 h3 h4 j).trans (a.1 c h1 h2 h3 h4 j), fun o h1 h2 h3 h4 j => (b.2.1 o h1 h2 h3 h4 j).trans (a.2.1 o h1 h2 h3 h4 j), fun j h1 h2 => (b.2.2 j h1 h2).trans (a.2.2 j h1 h2)⟩
theorem ag_sk (h : fx_H) (w q n : Nat) : ag h (fx_sk h n) w q := ⟨fun _ _ _ _ _ _ => rfl, fun _ _ _ _ _ _ => rfl, fun _ _ _ => rfl⟩
