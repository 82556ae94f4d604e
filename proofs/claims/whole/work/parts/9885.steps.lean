/-! ===== steps: a hole is blackened, a picture painted into it ===== -/
theorem scr_nat {x y : Int32} (h : (0 ≤ x.toInt ∧ x.toInt < 20) ∧ 0 ≤ y.toInt ∧ y.toInt < 10) : (y * 20 + x).toNatClampNeg = (20 * y.toInt + x.toInt).toNat ∧ vp_in (y * 20 + x) 200 := by
  obtain ⟨t1, t2⟩ := scr_ix h
  rw [t2]
  have := iz_nn (a := 20 * y + x) (by omega)
  exact ⟨by omega, iz_in (by omega) (by omega)⟩
theorem scr_nat2 {x y : Int32} {m : Nat} (hm : m < 2) (h : (0 ≤ x.toInt ∧ x.toInt < 20) ∧ 0 ≤ y.toInt ∧ y.toInt < 10) : (200 * nI m + 20 * y + x).toNatClampNeg = 200 * m + (20 * y.toInt + x.toInt).toNat ∧ vp_in (200 * nI m + 20 * y + x) 400 := by
  have a20 : (20 : Int32).toInt = 20 := rfl
  have a200 : (200 : Int32).toInt = 200 := rfl
  have tm : (nI m).toInt = m := nI_toInt (by omega)
  have s1 : (200 * nI m).toInt = 200 * (m : Int) := by rw [iz_mul (by rw [a200, tm]; omega), a200, tm]
  have s2 : (20 * y).toInt = 20 * y.toInt := by rw [iz_mul (by rw [a20]; omega), a20]
  have s3 : (200 * nI m + 20 * y).toInt = 200 * (m : Int) + 20 * y.toInt := by rw [iz_add (by rw [s1, s2]; omega), s1, s2]
  have s4 : (200 * nI m + 20 * y + x).toInt = 200 * (m : Int) + 20 * y.toInt + x.toInt := by rw [iz_add (by rw [s3]; omega), s3]
  have := iz_nn (a := 200 * nI m + 20 * y + x) (by omega)
  exact ⟨by omega, iz_in (by omega) (by omega)⟩
/-- a rectangle on the screen, with its numbers -/
theorem rect_key {Z : fx_H} {a : Nat} {X Y W H : Int} (hR : rIs Z a X Y W H) (hX : 0 ≤ X ∧ 0 ≤ Y ∧ 0 ≤ W ∧ 0 ≤ H ∧ X + W ≤ 20 ∧ Y + H ≤ 10) :
    rScr Z a ∧ (∀ j i, j < (fx_i Z a 3).toNatClampNeg → i < (fx_i Z a 2).toNatClampNeg → (fx_i Z a 0 + nI i).toInt = X + (i : Int) ∧ (fx_i Z a 1 + nI j).toInt = Y + (j : Int) ∧ ((fx_i Z a 1 + nI j) * 20 + (fx_i Z a 0 + nI i)).toNatClampNeg = (20 * (Y + (j : Int)) + (X + (i : Int))).toNat ∧ (i : Int) < W ∧ (j : Int) < H) ∧
    (∀ A B : Int32, (X ≤ A.toInt ∧ A.toInt < X + W) ∧ Y ≤ B.toInt ∧ B.toInt < Y + H → ∃ j i, j < (fx_i Z a 3).toNatClampNeg ∧ i < (fx_i Z a 2).toNatClampNeg ∧ fx_i Z a 0 + nI i = A ∧ fx_i Z a 1 + nI j = B) := by
  obtain ⟨e0, e1, e2, e3⟩ := hR
  have nW := iz_nn (a := fx_i Z a 2) (by omega)
  have nH := iz_nn (a := fx_i Z a 3) (by omega)
  have cx : ∀ i, i < (fx_i Z a 2).toNatClampNeg → (fx_i Z a 0 + nI i).toInt = X + (i : Int) := fun i hi => by rw [jz_ti (by omega) (by omega), e0]
  have cy : ∀ i, i < (fx_i Z a 3).toNatClampNeg → (fx_i Z a 1 + nI i).toInt = Y + (i : Int) := fun i hi => by rw [jz_ti (by omega) (by omega), e1]
  have key : ∀ j i, j < (fx_i Z a 3).toNatClampNeg → i < (fx_i Z a 2).toNatClampNeg → (fx_i Z a 0 + nI i).toInt = X + (i : Int) ∧ (fx_i Z a 1 + nI j).toInt = Y + (j : Int) ∧ ((fx_i Z a 1 + nI j) * 20 + (fx_i Z a 0 + nI i)).toNatClampNeg = (20 * (Y + (j : Int)) + (X + (i : Int))).toNat ∧ (i : Int) < W ∧ (j : Int) < H := by
    intro j i hj hi
    have := (scr_nat (x := fx_i Z a 0 + nI i) (y := fx_i Z a 1 + nI j) (by rw [cx i hi, cy j hj]; omega)).1
    rw [cx i hi, cy j hj] at this
    exact ⟨cx i hi, cy j hj, this, by omega, by omega⟩
  refine ⟨⟨⟨by omega, by omega, by omega, by omega⟩, fun j i hj hi => (scr_nat (by rw [cx i hi, cy j hj]; omega)).2⟩, key, fun A B hAB => ?_⟩
  have t1 : (A.toInt - X).toNat < (fx_i Z a 2).toNatClampNeg := by omega
  have t2 : (B.toInt - Y).toNat < (fx_i Z a 3).toNatClampNeg := by omega
  exact ⟨_, _, t2, t1, iz_eq.mpr (by rw [cx _ t1]; omega), iz_eq.mpr (by rw [cy _ t2]; omega)⟩
theorem C_black {Z : fx_H} {m a : Nat} {X Y W H : Int} (hR : rIs Z a X Y W H) (hX : 0 ≤ X ∧ 0 ≤ Y ∧ 0 ≤ W ∧ 0 ≤ H ∧ X + W ≤ 20 ∧ Y + H ≤ 10) : fx_on (m + 1) Z (kBl Z m a) ∧ (∀ A B : Int32, (X ≤ A.toInt ∧ A.toInt < X + W) ∧ Y ≤ B.toInt ∧ B.toInt < Y + H → fx_i (kBl Z m a) (m + 1) (20 * B.toInt + A.toInt).toNat = 0) ∧ (∀ j, (∀ A B : Int, (X ≤ A ∧ A < X + W) ∧ Y ≤ B ∧ B < Y + H → (20 * B + A).toNat ≠ j) → fx_i (kBl Z m a) (m + 1) j = fx_i Z (m + 1) j) := by
  obtain ⟨-, key, ex⟩ := rect_key hR hX
  obtain ⟨g1, g2, g3⟩ := grid (A := m + 1) (h := Z) (fun j i => ((fx_i Z a 1 + nI j) * 20 + (fx_i Z a 0 + nI i)).toNatClampNeg) (fun _ _ => true) (fun _ _ _ => 0) (fun j i k => mBl Z m a j i k) (fx_i Z a 3).toNatClampNeg (C := (fx_i Z a 2).toNatClampNeg) (fun j i k _ _ _ => by rw [if_pos rfl]; rfl) (fun j i j' i' h1 h2 h3 h4 _ _ e => by
    obtain ⟨-, -, k1, k2, k3⟩ := key j i h1 h2
    obtain ⟨-, -, l1, l2, l3⟩ := key j' i' h3 h4
    have e' : ((fx_i Z a 1 + nI j) * 20 + (fx_i Z a 0 + nI i)).toNatClampNeg = ((fx_i Z a 1 + nI j') * 20 + (fx_i Z a 0 + nI i')).toNatClampNeg := e
    rw [k1, l1] at e'
    omega) (fx_i Z a 3).toNatClampNeg (Nat.le_refl _)
  refine ⟨g1, fun A B hAB => ?_, fun j hj => g3 j (fun r' c' h1 h2 _ => ?_)⟩
  · obtain ⟨j, i, hj, hi, eA, eB⟩ := ex A B hAB
    have := g2 j i hj hi rfl
    obtain ⟨k1, k2, k3, -, -⟩ := key j i hj hi
    rw [eA] at k1
    rw [eB] at k2
    rw [← k1, ← k2] at k3
    show fx_i (it _ Z (fx_i Z a 3).toNatClampNeg) (m + 1) _ = 0
    rw [← k3]
    exact this
  · obtain ⟨k1, k2, k3, k4, k5⟩ := key r' c' h1 h2
    rw [k3]
    exact hj _ _ (by omega)
theorem C_paint {Z : fx_H} {m p a : Nat} {X Y W H : Int} (hR : rIs Z a X Y W H) (hX : 0 ≤ X ∧ 0 ≤ Y ∧ 0 ≤ W ∧ 0 ≤ H ∧ X + W ≤ 20 ∧ Y + H ≤ 10) : fx_on (m + 1) Z (kPt Z m p a) ∧ (∀ A B : Int32, (X ≤ A.toInt ∧ A.toInt < X + W) ∧ Y ≤ B.toInt ∧ B.toInt < Y + H → ¬ rHas Z (p + 3) A B = 0 → fx_i (kPt Z m p a) (m + 1) (20 * B.toInt + A.toInt).toNat = jM (pColor Z p A B) (fx_i Z (m + 1) (20 * B.toInt + A.toInt).toNat) (fx_i Z p 6)) ∧
    (∀ j, (∀ A B : Int32, (X ≤ A.toInt ∧ A.toInt < X + W) ∧ Y ≤ B.toInt ∧ B.toInt < Y + H → ¬ rHas Z (p + 3) A B = 0 → (20 * B.toInt + A.toInt).toNat ≠ j) → fx_i (kPt Z m p a) (m + 1) j = fx_i Z (m + 1) j) := by
  obtain ⟨-, key, ex⟩ := rect_key hR hX
  obtain ⟨g1, g2, g3⟩ := grid (A := m + 1) (h := Z) (fun j i => ((fx_i Z a 1 + nI j) * 20 + (fx_i Z a 0 + nI i)).toNatClampNeg) (fun j i => decide (¬ rHas Z (p + 3) (fx_i Z a 0 + nI i) (fx_i Z a 1 + nI j) = 0)) (fun j i v => jM (pColor Z p (fx_i Z a 0 + nI i) (fx_i Z a 1 + nI j)) v (fx_i Z p 6)) (fun j i k => mPt Z m p a j i k) (fx_i Z a 3).toNatClampNeg (C := (fx_i Z a 2).toNatClampNeg) (fun j i k _ _ _ => by
    unfold mPt
    by_cases z : rHas Z (p + 3) (fx_i Z a 0 + nI i) (fx_i Z a 1 + nI j) = 0
    · rw [if_pos z, if_neg (fun y => (of_decide_eq_true y) z)]
    · rw [if_neg z, if_pos (decide_eq_true z)]) (fun j i j' i' h1 h2 h3 h4 _ _ e => by
    obtain ⟨-, -, k1, k2, k3⟩ := key j i h1 h2
    obtain ⟨-, -, l1, l2, l3⟩ := key j' i' h3 h4
    have e' : ((fx_i Z a 1 + nI j) * 20 + (fx_i Z a 0 + nI i)).toNatClampNeg = ((fx_i Z a 1 + nI j') * 20 + (fx_i Z a 0 + nI i')).toNatClampNeg := e
    rw [k1, l1] at e'
    omega) (fx_i Z a 3).toNatClampNeg (Nat.le_refl _)
  refine ⟨g1, fun A B hAB hh => ?_, fun j hj => g3 j (fun r' c' h1 h2 hc => ?_)⟩
  · obtain ⟨j, i, hj, hi, eA, eB⟩ := ex A B hAB
    have := g2 j i hj hi (decide_eq_true (by rw [eA, eB]; exact hh))
    obtain ⟨k1, k2, k3, -, -⟩ := key j i hj hi
    rw [eA, eB] at this
    rw [eA] at k1 k3
    rw [eB] at k2 k3
    rw [← k1, ← k2] at k3
    show fx_i (it _ Z (fx_i Z a 3).toNatClampNeg) (m + 1) _ = _
    rw [← k3]
    exact this
  · obtain ⟨k1, k2, k3, k4, k5⟩ := key r' c' h1 h2
    have := hj (fx_i Z a 0 + nI c') (fx_i Z a 1 + nI r') (by rw [k1, k2]; omega) (of_decide_eq_true hc)
    rw [k1, k2] at this
    rw [k3]
    exact this
/-- the Model blackens the rectangle x, y, W, H of its memory m -/
theorem M_rect {Y : fx_H} {q m : Nat} (hm : m < 2) {x y : Int32} {W H : Nat} (hX : 0 ≤ x.toInt ∧ 0 ≤ y.toInt ∧ x.toInt + (W : Int) ≤ 20 ∧ y.toInt + (H : Int) ≤ 10) (g : Nat → Nat → Int32 → Int32) (F : Nat → Nat → fx_H → fx_H)
    (hF : ∀ j i k, j < H → i < W → fx_on (q + 20) Y k → F j i k = fx_wi k (q + 20) (200 * nI m + 20 * (y + nI j) + (x + nI i)).toNatClampNeg (g j i (fx_i k (q + 20) (200 * nI m + 20 * (y + nI j) + (x + nI i)).toNatClampNeg))) :
    fx_on (q + 20) Y (it (fun j k => it (F j) k W) Y H) ∧ (∀ j i, j < H → i < W → fx_i (it (fun j k => it (F j) k W) Y H) (q + 20) (200 * m + (20 * (y.toInt + (j : Int)) + (x.toInt + (i : Int))).toNat) = g j i (fx_i Y (q + 20) (200 * m + (20 * (y.toInt + (j : Int)) + (x.toInt + (i : Int))).toNat))) ∧ (∀ n, (∀ j i, j < H → i < W → 200 * m + (20 * (y.toInt + (j : Int)) + (x.toInt + (i : Int))).toNat ≠ n) → fx_i (it (fun j k => it (F j) k W) Y H) (q + 20) n = fx_i Y (q + 20) n) := by
  have ix : ∀ j i, j < H → i < W → (200 * nI m + 20 * (y + nI j) + (x + nI i)).toNatClampNeg = 200 * m + (20 * (y.toInt + (j : Int)) + (x.toInt + (i : Int))).toNat := by
    intro j i hj hi
    have xi : (x + nI i).toInt = x.toInt + (i : Int) := jz_ti (by omega) (by omega)
    have yj : (y + nI j).toInt = y.toInt + (j : Int) := jz_ti (by omega) (by omega)
    have := (scr_nat2 (x := x + nI i) (y := y + nI j) hm (by rw [xi, yj]; omega)).1
    rw [xi, yj] at this
    exact this
  obtain ⟨a1, a2, a3⟩ := grid (A := q + 20) (h := Y) (fun j i => 200 * m + (20 * (y.toInt + (j : Int)) + (x.toInt + (i : Int))).toNat) (fun _ _ => true) g F H (C := W) (fun j i k h1 h2 h3 => by rw [if_pos rfl, hF j i k h1 h2 h3, ix j i h1 h2]) (fun j i j' i' h1 h2 h3 h4 _ _ e => by
    have e' : 200 * m + (20 * (y.toInt + (j : Int)) + (x.toInt + (i : Int))).toNat = 200 * m + (20 * (y.toInt + (j' : Int)) + (x.toInt + (i' : Int))).toNat := e
    omega) H (Nat.le_refl _)
  exact ⟨a1, fun j i h1 h2 => a2 j i h1 h2 rfl, fun n hn => a3 n (fun j i h1 h2 _ => hn j i h1 h2)⟩
/-- the Model blackens the rectangle of its hole -/
theorem M_black {h : fx_H} {q m : Nat} (hm : m < 2) (e23 : fx_i h q 23 = nI m) (hX : 0 ≤ (fx_i h (q + 22) (mK h q).toNatClampNeg).toInt ∧ 0 ≤ (fx_i h (q + 23) (mK h q).toNatClampNeg).toInt ∧ 0 ≤ (fx_i h (q + 24) (mK h q).toNatClampNeg).toInt ∧ 0 ≤ (fx_i h (q + 25) (mK h q).toNatClampNeg).toInt ∧ (fx_i h (q + 22) (mK h q).toNatClampNeg).toInt + (fx_i h (q + 24) (mK h q).toNatClampNeg).toInt ≤ 20 ∧ (fx_i h (q + 23) (mK h q).toNatClampNeg).toInt + (fx_i h (q + 25) (mK h q).toNatClampNeg).toInt ≤ 10) :
    bkPre h q ∧ fx_on (q + 20) h (its (bkO h q) h (fx_i h (q + 25) (mK h q).toNatClampNeg).toNatClampNeg) ∧ (∀ A B : Int, ((fx_i h (q + 22) (mK h q).toNatClampNeg).toInt ≤ A ∧ A < (fx_i h (q + 22) (mK h q).toNatClampNeg).toInt + (fx_i h (q + 24) (mK h q).toNatClampNeg).toInt) ∧ (fx_i h (q + 23) (mK h q).toNatClampNeg).toInt ≤ B ∧ B < (fx_i h (q + 23) (mK h q).toNatClampNeg).toInt + (fx_i h (q + 25) (mK h q).toNatClampNeg).toInt → fx_i (its (bkO h q) h (fx_i h (q + 25) (mK h q).toNatClampNeg).toNatClampNeg) (q + 20) (200 * m + (20 * B + A).toNat) = 0) ∧
    (∀ n, (∀ A B : Int, ((fx_i h (q + 22) (mK h q).toNatClampNeg).toInt ≤ A ∧ A < (fx_i h (q + 22) (mK h q).toNatClampNeg).toInt + (fx_i h (q + 24) (mK h q).toNatClampNeg).toInt) ∧ (fx_i h (q + 23) (mK h q).toNatClampNeg).toInt ≤ B ∧ B < (fx_i h (q + 23) (mK h q).toNatClampNeg).toInt + (fx_i h (q + 25) (mK h q).toNatClampNeg).toInt → 200 * m + (20 * B + A).toNat ≠ n) → fx_i (its (bkO h q) h (fx_i h (q + 25) (mK h q).toNatClampNeg).toNatClampNeg) (q + 20) n = fx_i h (q + 20) n) := by
  generalize hx : fx_i h (q + 22) (mK h q).toNatClampNeg = x at *
  generalize hy : fx_i h (q + 23) (mK h q).toNatClampNeg = y at *
  generalize hw : fx_i h (q + 24) (mK h q).toNatClampNeg = W at *
  generalize hh : fx_i h (q + 25) (mK h q).toNatClampNeg = H at *
  have nW := iz_nn (a := W) (by omega)
  have nH := iz_nn (a := H) (by omega)
  obtain ⟨a1, a2, a3⟩ := M_rect (Y := h) (q := q) (m := m) hm (x := x) (y := y) (W := W.toNatClampNeg) (H := H.toNatClampNeg) (by omega) (fun _ _ _ => 0) (fun j i k => bkI h q j i k) (fun j i k _ _ hk => by
    unfold bkI
    rw [hk.2 q (by omega), e23, hx, hy])
  have eo : its (bkO h q) h H.toNatClampNeg = it (fun j k => it (bkI h q j) k W.toNatClampNeg) h H.toNatClampNeg := by
    rw [its_it]
    have : (bkO h q) = (fun j u => it (bkI h q j) u W.toNatClampNeg) := by
      funext j u
      unfold bkO
      rw [hw]
      exact its_it _ _ _
    rw [this]
  rw [eo]
  refine ⟨⟨by rw [hx, hy, hw, hh]; omega, fun i j hi hj => ?_⟩, a1, fun A B hAB => ?_, fun n hn => a3 n (fun j i h1 h2 => hn _ _ (by omega))⟩
  · rw [hw] at hi
    rw [hh] at hj
    rw [hx, hy, e23]
    have xi : (x + nI i).toInt = x.toInt + (i : Int) := jz_ti (by omega) (by omega)
    have yj : (y + nI j).toInt = y.toInt + (j : Int) := jz_ti (by omega) (by omega)
    exact (scr_nat2 hm (by rw [xi, yj]; omega)).2
  · have := a2 (B - y.toInt).toNat (A - x.toInt).toNat (by omega) (by omega)
    have e1 : y.toInt + ((B - y.toInt).toNat : Int) = B := by omega
    have e2 : x.toInt + ((A - x.toInt).toNat : Int) = A := by omega
    rw [e1, e2] at this
    exact this
theorem mixed_h (h k : fx_H) (o b a : Int32) : v_MO_mixed h o b a = v_MO_mixed k o b a := rfl
/-- the Model paints the picture p on the rectangle x, y, w, h of its object -/
theorem M_paint {h : fx_H} {q m p : Nat} (hm : m < 2) (hp : p < 30) (e23 : fx_i h q 23 = nI m) (hX : 0 ≤ (fx_i h q 38).toInt ∧ 0 ≤ (fx_i h q 39).toInt ∧ 0 ≤ (fx_i h q 40).toInt ∧ 0 ≤ (fx_i h q 41).toInt ∧ (fx_i h q 38).toInt + (fx_i h q 40).toInt ≤ 20 ∧ (fx_i h q 39).toInt + (fx_i h q 41).toInt ≤ 10)
    (hpx : ∀ A B : Int32, ((fx_i h q 38).toInt ≤ A.toInt ∧ A.toInt < (fx_i h q 38).toInt + (fx_i h q 40).toInt) ∧ (fx_i h q 39).toInt ≤ B.toInt ∧ B.toInt < (fx_i h q 39).toInt + (fx_i h q 41).toInt → pre_MO_pixelOf h q (nI p) A B) :
    ptPre h q (nI p) ∧ fx_on (q + 20) h (k_MO_paint h q (nI p)) ∧ (∀ A B : Int32, ((fx_i h q 38).toInt ≤ A.toInt ∧ A.toInt < (fx_i h q 38).toInt + (fx_i h q 40).toInt) ∧ (fx_i h q 39).toInt ≤ B.toInt ∧ B.toInt < (fx_i h q 39).toInt + (fx_i h q 41).toInt → fx_i (k_MO_paint h q (nI p)) (q + 20) (200 * m + (20 * B.toInt + A.toInt).toNat) = v_MO_mixed h (v_MO_pixelOf h q (nI p) A B) (fx_i h (q + 20) (200 * m + (20 * B.toInt + A.toInt).toNat)) (fx_i h (q + 11) p)) ∧
    (∀ n, (∀ A B : Int, ((fx_i h q 38).toInt ≤ A ∧ A < (fx_i h q 38).toInt + (fx_i h q 40).toInt) ∧ (fx_i h q 39).toInt ≤ B ∧ B < (fx_i h q 39).toInt + (fx_i h q 41).toInt → 200 * m + (20 * B + A).toNat ≠ n) → fx_i (k_MO_paint h q (nI p)) (q + 20) n = fx_i h (q + 20) n) := by
  have cp : (nI p).toNatClampNeg = p := nI_clamp (by omega)
  generalize hx : fx_i h q 38 = x at *
  generalize hy : fx_i h q 39 = y at *
  generalize hw : fx_i h q 40 = W at *
  generalize hh : fx_i h q 41 = H at *
  have nW := iz_nn (a := W) (by omega)
  have nH := iz_nn (a := H) (by omega)
  have xi : ∀ i, i < W.toNatClampNeg → (x + nI i).toInt = x.toInt + (i : Int) := fun i hi => jz_ti (by omega) (by omega)
  have yj : ∀ j, j < H.toNatClampNeg → (y + nI j).toInt = y.toInt + (j : Int) := fun j hj => jz_ti (by omega) (by omega)
  obtain ⟨a1, a2, a3⟩ := M_rect (Y := h) (q := q) (m := m) hm (x := x) (y := y) (W := W.toNatClampNeg) (H := H.toNatClampNeg) (by omega) (fun j i v => v_MO_mixed h (v_MO_pixelOf h q (nI p) (x + nI i) (y + nI j)) v (fx_i h (q + 11) p)) (fun j i k => paI h q (nI p) j i k) (fun j i k _ _ hk => by
    have ep : v_MO_pixelOf k q (nI p) (x + nI i) (y + nI j) = v_MO_pixelOf h q (nI p) (x + nI i) (y + nI j) := by
      unfold v_MO_pixelOf
      rw [hk.2 (q + 17) (by omega), hk.2 (q + 3) (by omega), hk.2 (q + 8) (by omega), hk.2 (q + 9) (by omega)]
    unfold paI
    rw [hk.2 q (by omega), e23, hx, hy, ep, cp, hk.2 (q + 11) (by omega)]
    rfl)
  have eo : k_MO_paint h q (nI p) = it (fun j k => it (paI h q (nI p) j) k W.toNatClampNeg) h H.toNatClampNeg := by
    unfold k_MO_paint
    rw [its_it, hh]
    have : (paO h q (nI p)) = (fun j u => it (paI h q (nI p) j) u W.toNatClampNeg) := by
      funext j u
      unfold paO
      rw [hw]
      exact its_it _ _ _
    rw [this]
  rw [eo]
  refine ⟨⟨vp_in_nI (by omega) (by decide), ⟨by rw [hx]; omega, by rw [hy]; omega, by rw [hw]; omega, by rw [hh]; omega⟩, fun i j hi hj => ?_⟩, a1, fun A B hAB => ?_, fun n hn => a3 n (fun j i h1 h2 => hn _ _ (by omega))⟩
  · rw [hw] at hi
    rw [hh] at hj
    rw [hx, hy, e23]
    exact ⟨hpx _ _ (by rw [xi i hi, yj j hj]; omega), (scr_nat2 hm (by rw [xi i hi, yj j hj]; omega)).2⟩
  · have t1 : (A.toInt - x.toInt).toNat < W.toNatClampNeg := by omega
    have t2 : (B.toInt - y.toInt).toNat < H.toNatClampNeg := by omega
    have := a2 _ _ t2 t1
    have e1 : y.toInt + ((B.toInt - y.toInt).toNat : Int) = B.toInt := by omega
    have e2 : x.toInt + ((A.toInt - x.toInt).toNat : Int) = A.toInt := by omega
    have eA : x + nI (A.toInt - x.toInt).toNat = A := iz_eq.mpr (by rw [xi _ t1]; omega)
    have eB : y + nI (B.toInt - y.toInt).toNat = B := iz_eq.mpr (by rw [yj _ t2]; omega)
    rw [e1, e2, eA, eB] at this
    exact this
/-- the picture p shows something in the rectangle hx, hy, hw, hh -/
def mI (h : fx_H) (q p : Nat) (hx hy hw hh : Int) : Prop := ¬ shE h q p ∧ max (shX h q p) hx < min (shR h q p) (hx + hw) ∧ max (shY h q p) hy < min (shB h q p) (hy + hh)
theorem isPlane_w (h : fx_H) (q : Nat) (v s : Int32) : v_MO_isPlane (fx_wi h q 40 v) q s = v_MO_isPlane h q s := by
  unfold v_MO_isPlane
  rw [wi_q _ _ _ _ _ _ (by decide), wi_q _ _ _ _ _ _ (by decide)]
theorem meet_no {h : fx_H} {q : Nat} {n : Int32} (hz : v_MO_nth h q 20 n < 0 ∨ ¬ v_MO_isPlane h q (v_MO_nth h q 20 n - 20) = 0) : fx_i (k_MO_meet h q n) q 40 = 0 := by
  unfold k_MO_meet
  rw [isPlane_w]
  by_cases c : v_MO_nth h q 20 n < 0
  · rw [if_pos c, fx_i_wi, if_pos ⟨rfl, rfl⟩]
  · rcases hz with z | z
    · exact absurd z c
    · rw [if_neg c, if_neg z, fx_i_wi, if_pos ⟨rfl, rfl⟩]
theorem meet_v {h : fx_H} {q p : Nat} {n : Int32} (hp : p < 30) (hn : v_MO_nth h q 20 n = nI p) (hpl : v_MO_isPlane h q (nI p - 20) = 0) (hk : ¬ fx_i h (q + 7) p = 0 → mpOk h q p)
    (hX : 0 ≤ (fx_i h (q + 22) (mK h q).toNatClampNeg).toInt ∧ 0 ≤ (fx_i h (q + 23) (mK h q).toNatClampNeg).toInt ∧ 0 ≤ (fx_i h (q + 24) (mK h q).toNatClampNeg).toInt ∧ 0 ≤ (fx_i h (q + 25) (mK h q).toNatClampNeg).toInt ∧ (fx_i h (q + 22) (mK h q).toNatClampNeg).toInt + (fx_i h (q + 24) (mK h q).toNatClampNeg).toInt ≤ 20 ∧ (fx_i h (q + 23) (mK h q).toNatClampNeg).toInt + (fx_i h (q + 25) (mK h q).toNatClampNeg).toInt ≤ 10) :
    (¬ mI h q p (fx_i h (q + 22) (mK h q).toNatClampNeg).toInt (fx_i h (q + 23) (mK h q).toNatClampNeg).toInt (fx_i h (q + 24) (mK h q).toNatClampNeg).toInt (fx_i h (q + 25) (mK h q).toNatClampNeg).toInt → fx_i (k_MO_meet h q n) q 40 = 0) ∧
    (mI h q p (fx_i h (q + 22) (mK h q).toNatClampNeg).toInt (fx_i h (q + 23) (mK h q).toNatClampNeg).toInt (fx_i h (q + 24) (mK h q).toNatClampNeg).toInt (fx_i h (q + 25) (mK h q).toNatClampNeg).toInt →
      (fx_i (k_MO_meet h q n) q 38).toInt = max (shX h q p) (fx_i h (q + 22) (mK h q).toNatClampNeg).toInt ∧ (fx_i (k_MO_meet h q n) q 39).toInt = max (shY h q p) (fx_i h (q + 23) (mK h q).toNatClampNeg).toInt ∧
      (fx_i (k_MO_meet h q n) q 40).toInt = min (shR h q p) ((fx_i h (q + 22) (mK h q).toNatClampNeg).toInt + (fx_i h (q + 24) (mK h q).toNatClampNeg).toInt) - max (shX h q p) (fx_i h (q + 22) (mK h q).toNatClampNeg).toInt ∧
      (fx_i (k_MO_meet h q n) q 41).toInt = min (shB h q p) ((fx_i h (q + 23) (mK h q).toNatClampNeg).toInt + (fx_i h (q + 25) (mK h q).toNatClampNeg).toInt) - max (shY h q p) (fx_i h (q + 23) (mK h q).toNatClampNeg).toInt) := by
  have a0 : (0 : Int32).toInt = 0 := rfl
  have hw := mfr_wf (L := []) (j := 40) (v := (0 : Int32)) (mfr_rf q _ [38, 39, 40, 41] h) (by decide)
  have wm : ∀ o j, 0 < o → fx_i (fx_wi h q 40 (0 : Int32)) (q + o) j = fx_i h (q + o) j := fun o j g => wi_q _ _ _ _ _ _ g
  obtain ⟨x1, x2, x3, x4, x5⟩ := sh_congr (h := h) (k := fx_wi h q 40 (0 : Int32)) (q := q) (p := p) (fun o g1 g2 => wm o _ (by omega))
  obtain ⟨v1, v2⟩ := show_v (fx_wi h q 40 (0 : Int32)) q p hp (fun z => by
    rw [wm 7 _ (by decide)] at z
    have := hk z
    unfold mpOk at this ⊢
    rw [wm 8 _ (by decide), wm 9 _ (by decide), wm 13 _ (by decide), wm 14 _ (by decide), wm 15 _ (by decide), wm 16 _ (by decide), wm 3 _ (by decide), wm 4 _ (by decide)]
    exact this)
  rw [x5] at v1 v2
  rw [x1, x2, x3, x4] at v2
  have sm := mfr_t hw (mfr_show (fx_wi h q 40 (0 : Int32)) q (nI p))
  have ek : ¬ nI p < 0 := (nI_nn (by omega)).1
  have eM : k_MO_meet h q n = if fx_i (k_MO_show (fx_wi h q 40 (0 : Int32)) q (nI p)) q 40 = 0 then k_MO_show (fx_wi h q 40 (0 : Int32)) q (nI p) else k_MO_cut (k_MO_show (fx_wi h q 40 (0 : Int32)) q (nI p)) q (fx_i h (q + 22) (mK h q).toNatClampNeg) (fx_i h (q + 23) (mK h q).toNatClampNeg) (fx_i h (q + 22) (mK h q).toNatClampNeg + fx_i h (q + 24) (mK h q).toNatClampNeg) (fx_i h (q + 23) (mK h q).toNatClampNeg + fx_i h (q + 25) (mK h q).toNatClampNeg) := by
    unfold k_MO_meet
    rw [hn, if_neg ek, isPlane_w, if_pos hpl, mfr_f sm (j := 23) (by decide), mfr_f sm (j := 31) (by decide), mfr_at sm (c := 22) (by decide), mfr_at sm (c := 23) (by decide), mfr_at sm (c := 24) (by decide), mfr_at sm (c := 25) (by decide)]
    rfl
  rw [eM]
  generalize k_MO_show (fx_wi h q 40 (0 : Int32)) q (nI p) = V at *
  generalize fx_i h (q + 22) (mK h q).toNatClampNeg = hx at *
  generalize fx_i h (q + 23) (mK h q).toNatClampNeg = hy at *
  generalize fx_i h (q + 24) (mK h q).toNatClampNeg = hwd at *
  generalize fx_i h (q + 25) (mK h q).toNatClampNeg = hht at *
  by_cases he : shE h q p
  · have e40 := (v1 he).1
    rw [if_pos e40]
    exact ⟨fun _ => e40, fun z => absurd he z.1⟩
  · obtain ⟨s1, s2, s3, s4⟩ := v2 he
    have hk2 := hk (shE_there he)
    obtain ⟨⟨r0, r1, r2⟩, r3, r4, r5⟩ := JN_rg hk2 he
    have n40 : ¬ fx_i V q 40 = 0 := fun z => by rw [z, a0] at s3; omega
    rw [if_neg n40]
    obtain ⟨c1, c2, c3, c4⟩ := cut_v V q hx hy (hx + hwd) (hy + hht)
    have t1 : (hx + hwd).toInt = hx.toInt + hwd.toInt := iz_add (by omega)
    have t2 : (hy + hht).toInt = hy.toInt + hht.toInt := iz_add (by omega)
    have t3 : (fx_i V q 38 + fx_i V q 40).toInt = shR h q p := by rw [iz_add (by omega)]; omega
    have t4 : (fx_i V q 39 + fx_i V q 41).toInt = shB h q p := by rw [iz_add (by omega)]; omega
    have q1 : (ctX V q hx).toInt = max (shX h q p) hx.toInt := by unfold ctX; split <;> rename_i z <;> rw [iz_le, s1] at z <;> omega
    have q2 : (ctY V q hy).toInt = max (shY h q p) hy.toInt := by unfold ctY; split <;> rename_i z <;> rw [iz_le, s2] at z <;> omega
    have q3 : (ctR V q (hx + hwd)).toInt = min (shR h q p) (hx.toInt + hwd.toInt) := by unfold ctR; split <;> rename_i z <;> rw [iz_le, t1, t3] at z <;> omega
    have q4 : (ctB V q (hy + hht)).toInt = min (shB h q p) (hy.toInt + hht.toInt) := by unfold ctB; split <;> rename_i z <;> rw [iz_le, t2, t4] at z <;> omega
    have d1 : (ctR V q (hx + hwd) - ctX V q hx).toInt = min (shR h q p) (hx.toInt + hwd.toInt) - max (shX h q p) hx.toInt := by rw [iz_sub (by omega), q3, q1]
    have d2 : (ctB V q (hy + hht) - ctY V q hy).toInt = min (shB h q p) (hy.toInt + hht.toInt) - max (shY h q p) hy.toInt := by rw [iz_sub (by omega), q4, q2]
    have eE : ctE V q hx hy (hx + hwd) (hy + hht) ↔ ¬ mI h q p hx.toInt hy.toInt hwd.toInt hht.toInt := by
      unfold ctE mI
      rw [iz_le, iz_le, d1, d2, a0]
      constructor
      · rintro (z | z) ⟨-, z1, z2⟩
        · omega
        · omega
      · intro z
        rcases Int.lt_or_le (max (shX h q p) hx.toInt) (min (shR h q p) (hx.toInt + hwd.toInt)) with y1 | y1
        · rcases Int.lt_or_le (max (shY h q p) hy.toInt) (min (shB h q p) (hy.toInt + hht.toInt)) with y2 | y2
          · exact absurd ⟨he, y1, y2⟩ z
          · exact Or.inr (by clear d1 d2 q1 q2 q3 q4; omega)
        · exact Or.inl (by clear d1 d2 q1 q2 q3 q4; omega)
    refine ⟨fun z => (c3 (eE.mpr z)).1, fun z => ?_⟩
    obtain ⟨w1, w2⟩ := c4 (fun y => (eE.mp y) z)
    rw [c1, c2, w1, w2, q1, q2, d1, d2]
    exact ⟨rfl, rfl, rfl, rfl⟩
/-- the class's meets is the Model's -/
theorem meets_iff {h : fx_H} {a e q p : Nat} (hpr : PR h a q p) {hx hy hw hh : Int} (hR : rIs h e hx hy hw hh) (hX : 0 ≤ hx ∧ 0 ≤ hy ∧ 0 < hw ∧ 0 < hh ∧ hx + hw ≤ 20 ∧ hy + hh ≤ 10) : (¬ rMeets h (a + 3) e = 0) ↔ mI h q p hx hy hw hh := by
  obtain ⟨p1, ⟨o, s1, s2⟩, p3⟩ := hpr
  obtain ⟨e0, e1, e2, e3⟩ := hR
  obtain ⟨o1, o2, o3, o4⟩ := o
  have t1 : (fx_i h (a + 3) 0 + fx_i h (a + 3) 2).toInt = _ := iz_add (by omega)
  have t2 : (fx_i h (a + 3) 1 + fx_i h (a + 3) 3).toInt = _ := iz_add (by omega)
  have t3 : (fx_i h e 0 + fx_i h e 2).toInt = _ := iz_add (by omega)
  have t4 : (fx_i h e 1 + fx_i h e 3).toInt = _ := iz_add (by omega)
  have key : (¬ rMeets h (a + 3) e = 0) ↔ (max (fx_i h (a + 3) 0).toInt hx < min ((fx_i h (a + 3) 0).toInt + (fx_i h (a + 3) 2).toInt) (hx + hw) ∧ max (fx_i h (a + 3) 1).toInt hy < min ((fx_i h (a + 3) 1).toInt + (fx_i h (a + 3) 3).toInt) (hy + hh)) := by
    unfold rMeets
    split <;> rename_i z <;> rw [iz_le, iz_le, jmn, jmn, jmx, jmx, t1, t2, t3, t4, e0, e1, e2, e3] at z
    · exact ⟨fun _ => by omega, fun _ => by decide⟩
    · exact ⟨fun y => absurd rfl y, fun y => absurd ⟨by omega, by omega⟩ z⟩
  rw [key]
  unfold mI
  by_cases he : shE h q p
  · have z0 : (0 : Int32).toInt = 0 := rfl
    constructor
    · rintro ⟨y1, y2⟩
      rcases s1 he with z | z
      · rw [z, z0] at y1
        omega
      · rw [z, z0] at y2
        omega
    · exact fun y => absurd he y.1
  · obtain ⟨r0, r1, r2, r3⟩ := s2 he
    rw [r0, r1, r2, r3]
    have f1 : shX h q p + (shR h q p - shX h q p) = shR h q p := by omega
    have f2 : shY h q p + (shB h q p - shY h q p) = shB h q p := by omega
    rw [f1, f2]
    exact ⟨fun y => ⟨he, y.1, y.2⟩, fun y => ⟨y.2.1, y.2.2⟩⟩
