/-! ===== copy ===== -/
/-- what a copy of a picture holds -/
theorem pCopy_v (h : fx_H) (p q : Nat) (hd : p + 3 < q ∨ q + 3 < p) : (∀ a j, a ≠ p → a ≠ p + 1 → a ≠ p + 2 → a ≠ p + 3 → fx_i (pCopy h p q) a j = fx_i h a j) ∧ (∀ j, j < 8 → fx_i (pCopy h p q) p j = fx_i h q j) ∧ (∀ j, j < 96 → fx_i (pCopy h p q) (p + 1) j = fx_i h (q + 1) j) ∧ (∀ j, j < 4 → fx_i (pCopy h p q) (p + 2) j = fx_i h (q + 2) j) ∧ (∀ j, j < 4 → fx_i (pCopy h p q) (p + 3) j = fx_i h (q + 3) j) := by
  unfold pCopy
  have ez : (0 : Int32).toNatClampNeg = 0 := rfl
  have e96 : (Int32.ofNat 96).toNatClampNeg = 96 := rfl
  rw [ez, e96]
  generalize hW : fx_wi (fx_wi (fx_wi (fx_wi (fx_wi (fx_wi (fx_wi (fx_wi h p 0 (fx_i h q 0)) p 1 (fx_i h q 1)) p 2 (fx_i h q 2)) p 3 (fx_i h q 3)) p 4 (fx_i h q 4)) p 5 (fx_i h q 5)) p 6 (fx_i h q 6)) p 7 (fx_i h q 7) = W
  have wo : ∀ a j, a ≠ p → fx_i W a j = fx_i h a j := fun a j ha => by rw [← hW]; simp [fx_i_wi, ha]
  have wv : ∀ j, j < 8 → fx_i W p j = fx_i h q j := by
    intro j hj
    have h1 : j = 0 ∨ j = 1 ∨ j = 2 ∨ j = 3 ∨ j = 4 ∨ j = 5 ∨ j = 6 ∨ j = 7 := by omega
    rw [← hW]
    rcases h1 with rfl | rfl | rfl | rfl | rfl | rfl | rfl | rfl <;> simp [fx_i_wi]
  have co : ∀ a j, a ≠ p + 1 → fx_i (fx_cp W (q + 1) (p + 1) 0 0 96) a j = fx_i W a j := fun a j ha => by rw [fx_i_cp, if_neg ha]
  have cv : ∀ j, j < 96 → fx_i (fx_cp W (q + 1) (p + 1) 0 0 96) (p + 1) j = fx_i h (q + 1) j := fun j hj => by
    rw [fx_i_cp, if_pos rfl]
    unfold va_cpy
    rw [if_pos (by omega)]
    have : 0 + (j - 0) = j := by omega
    rw [this]
    exact wo _ _ (by omega)
  generalize fx_cp W (q + 1) (p + 1) 0 0 96 = V at *
  have r2 := rset_v V (p + 2) (fx_i h (q + 2) 0) (fx_i h (q + 2) 1) (fx_i h (q + 2) 2) (fx_i h (q + 2) 3)
  have r2o : ∀ a j, a ≠ p + 2 → fx_i (rset V (p + 2) (fx_i h (q + 2) 0) (fx_i h (q + 2) 1) (fx_i h (q + 2) 2) (fx_i h (q + 2) 3)) a j = fx_i V a j := fun a j ha => rset_o _ _ _ _ _ _ _ _ ha
  generalize rset V (p + 2) (fx_i h (q + 2) 0) (fx_i h (q + 2) 1) (fx_i h (q + 2) 2) (fx_i h (q + 2) 3) = U at *
  have r3 := rset_v U (p + 3) (fx_i h (q + 3) 0) (fx_i h (q + 3) 1) (fx_i h (q + 3) 2) (fx_i h (q + 3) 3)
  have r3o : ∀ a j, a ≠ p + 3 → fx_i (rset U (p + 3) (fx_i h (q + 3) 0) (fx_i h (q + 3) 1) (fx_i h (q + 3) 2) (fx_i h (q + 3) 3)) a j = fx_i U a j := fun a j ha => rset_o _ _ _ _ _ _ _ _ ha
  refine ⟨fun a j h0 h1 h2 h3 => by rw [r3o _ _ h3, r2o _ _ h2, co _ _ h1, wo _ _ h0], fun j hj => by rw [r3o _ _ (by omega), r2o _ _ (by omega), co _ _ (by omega), wv j hj], fun j hj => by rw [r3o _ _ (by omega), r2o _ _ (by omega), cv j hj], fun j hj => ?_, fun j hj => ?_⟩
  · have h1 : j = 0 ∨ j = 1 ∨ j = 2 ∨ j = 3 := by omega
    rw [r3o _ _ (by omega)]
    rcases h1 with rfl | rfl | rfl | rfl
    · exact r2.1
    · exact r2.2.1
    · exact r2.2.2.1
    · exact r2.2.2.2
  · have h1 : j = 0 ∨ j = 1 ∨ j = 2 ∨ j = 3 := by omega
    rcases h1 with rfl | rfl | rfl | rfl
    · exact r3.1
    · exact r3.2.1
    · exact r3.2.2.1
    · exact r3.2.2.2
/-- the pixels of the target that a copy reaches, in one direction -/
def cR (x cs tx cf ct a : Int) : Prop := (tx ≤ a ∧ a < tx + cs) ∧ (0 ≤ a - tx + x ∧ a - tx + x < cf) ∧ 0 ≤ a ∧ a < ct
theorem cnt_in2 (x tx cf ct : Int) (hf : 0 ≤ cf) (ht : 0 ≤ ct) : ∀ n : Nat, (cN (fun i => decide ((0 ≤ x + i ∧ x + i < cf) ∧ 0 ≤ tx + i ∧ tx + i < ct)) n : Int) = max (min (min (n : Int) (cf - x)) (ct - tx) - max (max 0 (-x)) (-tx)) 0
  | 0 => by
    show (0 : Int) = _
    omega
  | n + 1 => by
    have ih := cnt_in2 x tx cf ct hf ht n
    show ((cN (fun i => decide ((0 ≤ x + i ∧ x + i < cf) ∧ 0 ≤ tx + i ∧ tx + i < ct)) n + (if decide ((0 ≤ x + (n : Int) ∧ x + (n : Int) < cf) ∧ 0 ≤ tx + (n : Int) ∧ tx + (n : Int) < ct) = true then 1 else 0) : Nat) : Int) = _
    by_cases z : (0 ≤ x + (n : Int) ∧ x + (n : Int) < cf) ∧ 0 ≤ tx + (n : Int) ∧ tx + (n : Int) < ct
    · rw [if_pos (decide_eq_true z)]
      omega
    · rw [if_neg (fun y => z (of_decide_eq_true y))]
      omega
theorem M_copy {Y : fx_H} {q n m : Nat} {fr to_ x y cs rs tx ty cf rf ct rt : Int32} (ef : fr = nI m) (et : to_ = nI n) (hn : n < 10) (hm : m < 10) (hcf : 0 ≤ cf.toInt ∧ cf.toInt ≤ 12) (hrf : 0 ≤ rf.toInt ∧ rf.toInt ≤ 8) (hct : 0 ≤ ct.toInt ∧ ct.toInt ≤ 12) (hrt : 0 ≤ rt.toInt ∧ rt.toInt ≤ 8)
    (e1 : fx_i Y (q + 3) m = cf) (e2 : fx_i Y (q + 4) m = rf) (e3 : fx_i Y (q + 3) n = ct) (e4 : fx_i Y (q + 4) n = rt) (hx : -20 ≤ x.toInt ∧ x.toInt ≤ 30) (hy : -20 ≤ y.toInt ∧ y.toInt ≤ 30) (hcs : 0 ≤ cs.toInt ∧ cs.toInt ≤ 30) (hrs : 0 ≤ rs.toInt ∧ rs.toInt ≤ 30) (htx : -20 ≤ tx.toInt ∧ tx.toInt ≤ 30) (hty : -20 ≤ ty.toInt ∧ ty.toInt ≤ 30) :
    fx_on (q + 17) Y (its (cpO q fr to_ x y cs tx ty) (0, Y) rs.toNatClampNeg).2 ∧
    (∀ a b : Int, cR x.toInt cs.toInt tx.toInt cf.toInt ct.toInt a → cR y.toInt rs.toInt ty.toInt rf.toInt rt.toInt b → fx_i (its (cpO q fr to_ x y cs tx ty) (0, Y) rs.toNatClampNeg).2 (q + 17) (96 * n + (ct.toInt * b + a).toNat) = fx_i Y (q + 18) (cf.toInt * (b - ty.toInt + y.toInt) + (a - tx.toInt + x.toInt)).toNat) ∧
    (∀ j, (∀ a b : Int, cR x.toInt cs.toInt tx.toInt cf.toInt ct.toInt a → cR y.toInt rs.toInt ty.toInt rf.toInt rt.toInt b → 96 * n + (ct.toInt * b + a).toNat ≠ j) → fx_i (its (cpO q fr to_ x y cs tx ty) (0, Y) rs.toNatClampNeg).2 (q + 17) j = fx_i Y (q + 17) j) ∧
    ((its (cpO q fr to_ x y cs tx ty) (0, Y) rs.toNatClampNeg).1).toInt = max (min (min cs.toInt (cf.toInt - x.toInt)) (ct.toInt - tx.toInt) - max (max 0 (-x.toInt)) (-tx.toInt)) 0 * max (min (min rs.toInt (rf.toInt - y.toInt)) (rt.toInt - ty.toInt) - max (max 0 (-y.toInt)) (-ty.toInt)) 0 := by
  have ncs := iz_nn hcs.1
  have nrs := iz_nn hrs.1
  let rc : Nat → Bool := fun j => decide ((0 ≤ y.toInt + (j : Int) ∧ y.toInt + (j : Int) < rf.toInt) ∧ 0 ≤ ty.toInt + (j : Int) ∧ ty.toInt + (j : Int) < rt.toInt)
  let cc : Nat → Bool := fun i => decide ((0 ≤ x.toInt + (i : Int) ∧ x.toInt + (i : Int) < cf.toInt) ∧ 0 ≤ tx.toInt + (i : Int) ∧ tx.toInt + (i : Int) < ct.toInt)
  let ix : Nat → Nat → Nat := fun j i => 96 * n + (ct.toInt * (ty.toInt + (j : Int)) + (tx.toInt + (i : Int))).toNat
  let V : Nat → Nat → Int32 := fun j i => fx_i Y (q + 18) (cf.toInt * (y.toInt + (j : Int)) + (x.toInt + (i : Int))).toNat
  let F : Nat → Nat → fx_H → fx_H := fun j i k => if (rc j && cc i) = true then fx_wi k (q + 17) (ix j i) (V j i) else k
  have xi : ∀ i, i < 31 → (x + nI i).toInt = x.toInt + (i : Int) := fun i hi => jz_ti (by omega) (by omega)
  have yj : ∀ j, j < 31 → (y + nI j).toInt = y.toInt + (j : Int) := fun j hj => jz_ti (by omega) (by omega)
  have txi : ∀ i, i < 31 → (tx + nI i).toInt = tx.toInt + (i : Int) := fun i hi => jz_ti (by omega) (by omega)
  have tyj : ∀ j, j < 31 → (ty + nI j).toInt = ty.toInt + (j : Int) := fun j hj => jz_ti (by omega) (by omega)
  have hit : ∀ j i, (rc j && cc i) = true ↔ (((0 ≤ x.toInt + (i : Int) ∧ x.toInt + (i : Int) < cf.toInt) ∧ 0 ≤ y.toInt + (j : Int) ∧ y.toInt + (j : Int) < rf.toInt) ∧ ((0 ≤ tx.toInt + (i : Int) ∧ tx.toInt + (i : Int) < ct.toInt) ∧ 0 ≤ ty.toInt + (j : Int) ∧ ty.toInt + (j : Int) < rt.toInt)) := fun j i => by
    rw [Bool.and_eq_true]
    exact ⟨fun z => by have z1 := of_decide_eq_true z.1; have z2 := of_decide_eq_true z.2; exact ⟨⟨z2.1, z1.1⟩, z2.2, z1.2⟩, fun z => ⟨decide_eq_true ⟨z.1.2, z.2.2⟩, decide_eq_true ⟨z.1.1, z.2.1⟩⟩⟩
  have onF : ∀ j i k, fx_on (q + 17) k (F j i k) := fun j i k => by
    show fx_on (q + 17) k (if (rc j && cc i) = true then fx_wi k (q + 17) (ix j i) (V j i) else k)
    split
    · exact fx_on_wi _ _ _ _
    · exact fx_on_rf _ _
  have clm : (nI m).toNatClampNeg = m := nI_clamp (by omega)
  have cln : (nI n).toNatClampNeg = n := nI_clamp (by omega)
  have stepI : ∀ j i t k, j < rs.toNatClampNeg → i < cs.toNatClampNeg → fx_on (q + 17) Y k → cpI q fr to_ x y tx ty j i (nI t, k) = (nI (t + (if (rc j && cc i) = true then 1 else 0)), F j i k) := by
    intro j i t k hj hi hk
    have f1 := (hk.2 (q + 3) (by omega) m).trans e1
    have f2 := (hk.2 (q + 4) (by omega) m).trans e2
    have f3 := (hk.2 (q + 3) (by omega) n).trans e3
    have f4 := (hk.2 (q + 4) (by omega) n).trans e4
    have hh := (has_eq (k := k) (q := q) (x := x + nI i) (y := y + nI j) hm ⟨hcf, hrf⟩ f1 f2).1
    have hg := (has_eq (k := k) (q := q) (x := tx + nI i) (y := ty + nI j) hn ⟨hct, hrt⟩ f3 f4).1
    rw [xi i (by omega), yj j (by omega)] at hh
    rw [txi i (by omega), tyj j (by omega)] at hg
    unfold cpI
    show (if v_MO_has k q fr (x + nI i) (y + nI j) = 0 then (nI t, k) else if v_MO_has k q to_ (tx + nI i) (ty + nI j) = 0 then (nI t, k) else (nI t + Int32.ofInt 1, fx_wi k (q + 17) (96 * to_ + fx_i k (q + 3) to_.toNatClampNeg * (ty + nI j) + tx + nI i).toNatClampNeg (fx_i k (q + 18) (fx_i k (q + 3) fr.toNatClampNeg * (y + nI j) + x + nI i).toNatClampNeg))) = _
    rw [ef, et, clm, cln, f1, f3, Int32.add_assoc (96 * nI n + ct * (ty + nI j)), Int32.add_assoc (cf * (y + nI j)), hk.2 (q + 18) (by omega)]
    by_cases z : (rc j && cc i) = true
    · have z2 := (hit j i).mp z
      rw [if_neg (hh.mpr z2.1), if_neg (hg.mpr z2.2), if_pos z, jz_i]
      have g1 := mix_ hn hct hrt (x := tx + nI i) (y := ty + nI j) (by rw [txi i (by omega)]; exact z2.2.1) (by rw [tyj j (by omega)]; exact z2.2.2)
      have g2 := cix hcf hrf (x := x + nI i) (y := y + nI j) (by rw [xi i (by omega)]; exact z2.1.1) (by rw [yj j (by omega)]; exact z2.1.2)
      rw [txi i (by omega), tyj j (by omega)] at g1
      rw [xi i (by omega), yj j (by omega), Int32.mul_comm] at g2
      rw [g1, g2.1]
      show _ = (nI (t + 1), (if (rc j && cc i) = true then fx_wi k (q + 17) (ix j i) (V j i) else k))
      rw [if_pos z]
    · have e0 : (if v_MO_has k q (nI m) (x + nI i) (y + nI j) = 0 then (nI t, k) else if v_MO_has k q (nI n) (tx + nI i) (ty + nI j) = 0 then (nI t, k) else (nI t + Int32.ofInt 1, fx_wi k (q + 17) (96 * nI n + ct * (ty + nI j) + (tx + nI i)).toNatClampNeg (fx_i Y (q + 18) (cf * (y + nI j) + (x + nI i)).toNatClampNeg))) = (nI t, k) := by
        by_cases z1 : v_MO_has k q (nI m) (x + nI i) (y + nI j) = 0
        · rw [if_pos z1]
        · rw [if_neg z1]
          by_cases z2 : v_MO_has k q (nI n) (tx + nI i) (ty + nI j) = 0
          · rw [if_pos z2]
          · exact absurd ((hit j i).mpr ⟨hh.mp z1, hg.mp z2⟩) z
      rw [e0, if_neg z]
      show _ = (nI (t + 0), (if (rc j && cc i) = true then fx_wi k (q + 17) (ix j i) (V j i) else k))
      rw [if_neg z]
      rfl
  have stepO : ∀ j t k, j < rs.toNatClampNeg → fx_on (q + 17) Y k → cpO q fr to_ x y cs tx ty j (nI t, k) = (nI (t + (if rc j = true then cN cc cs.toNatClampNeg else 0)), it (F j) k cs.toNatClampNeg) := by
    intro j t k hj hk
    obtain ⟨a1, -⟩ := its_cnt (F j) (fun i => rc j && cc i) (cpI q fr to_ x y tx ty j) cs.toNatClampNeg (fun k => fx_on (q + 17) Y k) (fun i k _ hk => fx_on_t hk (onF j i k)) (fun i t k hi hk => stepI j i t k hj hi hk) t k hk _ (Nat.le_refl _)
    unfold cpO
    rw [a1, cN_and]
  obtain ⟨b1, b2⟩ := its_cnt2 F rc cc (cpO q fr to_ x y cs tx ty) cs.toNatClampNeg rs.toNatClampNeg (fun k => fx_on (q + 17) Y k) (fun j k _ hk => fx_on_t hk (fx_on_it (onF j) k _)) (fun j t k hj hk => stepO j t k hj hk) Y (fx_on_rf _ _) _ (Nat.le_refl _)
  have inj : ∀ j i j' i', j < rs.toNatClampNeg → i < cs.toNatClampNeg → j' < rs.toNatClampNeg → i' < cs.toNatClampNeg → (rc j && cc i) = true → (rc j' && cc i') = true → ix j i = ix j' i' → j = j' ∧ i = i' := by
    intro j i j' i' _ _ _ _ z z' e
    have z2 := ((hit j i).mp z).2
    have z2' := ((hit j' i').mp z').2
    have p1 := pix_nat hct hrt z2.1 z2.2
    have p2 := pix_nat hct hrt z2'.1 z2'.2
    have e' : 96 * n + (ct.toInt * (ty.toInt + (j : Int)) + (tx.toInt + (i : Int))).toNat = 96 * n + (ct.toInt * (ty.toInt + (j' : Int)) + (tx.toInt + (i' : Int))).toNat := e
    have e2 : ct.toInt * (ty.toInt + (j : Int)) + (tx.toInt + (i : Int)) = ct.toInt * (ty.toInt + (j' : Int)) + (tx.toInt + (i' : Int)) := by rw [← p1.1, ← p2.1]; omega
    have := lin_inj z2.1 z2'.1 e2
    omega
  obtain ⟨g1, g2, g3⟩ := grid (A := q + 17) (h := Y) ix (fun j i => rc j && cc i) (fun j i _ => V j i) F rs.toNatClampNeg (C := cs.toNatClampNeg) (fun j i k _ _ _ => rfl) inj rs.toNatClampNeg (Nat.le_refl _)
  rw [b1]
  refine ⟨g1, fun a b ha hb => ?_, fun j hj => g3 j (fun r' c' h1 h2 h3 => ?_), ?_⟩
  · unfold cR at ha hb
    have q1 : ((a - tx.toInt).toNat : Int) = a - tx.toInt := by omega
    have q2 : ((b - ty.toInt).toNat : Int) = b - ty.toInt := by omega
    have := g2 (b - ty.toInt).toNat (a - tx.toInt).toNat (by omega) (by omega) ((hit _ _).mpr (by rw [q1, q2]; omega))
    have q3 : ix (b - ty.toInt).toNat (a - tx.toInt).toNat = 96 * n + (ct.toInt * b + a).toNat := by
      show 96 * n + (ct.toInt * (ty.toInt + ((b - ty.toInt).toNat : Int)) + (tx.toInt + ((a - tx.toInt).toNat : Int))).toNat = _
      rw [q1, q2]
      have e4 : ty.toInt + (b - ty.toInt) = b := by omega
      have e5 : tx.toInt + (a - tx.toInt) = a := by omega
      rw [e4, e5]
    have q4 : V (b - ty.toInt).toNat (a - tx.toInt).toNat = fx_i Y (q + 18) (cf.toInt * (b - ty.toInt + y.toInt) + (a - tx.toInt + x.toInt)).toNat := by
      show fx_i Y (q + 18) (cf.toInt * (y.toInt + ((b - ty.toInt).toNat : Int)) + (x.toInt + ((a - tx.toInt).toNat : Int))).toNat = _
      rw [q1, q2, Int.add_comm y.toInt, Int.add_comm x.toInt]
    rw [q3] at this
    exact this.trans q4
  · have z2 := (hit r' c').mp h3
    exact hj (tx.toInt + (c' : Int)) (ty.toInt + (r' : Int)) (by unfold cR; omega) (by unfold cR; omega)
  · have c1 := cnt_in2 x.toInt tx.toInt cf.toInt ct.toInt hcf.1 hct.1 cs.toNatClampNeg
    have c2 := cnt_in2 y.toInt ty.toInt rf.toInt rt.toInt hrf.1 hrt.1 rs.toNatClampNeg
    have l1 := cN_le cc cs.toNatClampNeg
    have l2 := cN_le rc rs.toNatClampNeg
    rw [ncs] at c1
    rw [nrs] at c2
    have bd : cN cc cs.toNatClampNeg * cN rc rs.toNatClampNeg ≤ 30 * 30 := Nat.mul_le_mul (by omega) (by omega)
    show (nI (cN cc cs.toNatClampNeg * cN rc rs.toNatClampNeg)).toInt = _
    rw [nI_toInt (by omega), ← c1, ← c2]
    exact Int.natCast_mul _ _
/-- the class lays a picture down on the rectangle at a of the picture p -/
theorem C_lay {Z : fx_H} {p a u : Nat} {c : Int32} {r X Y W H : Int} (hap : a ≠ p + 1) (hc : 0 ≤ c.toInt ∧ c.toInt ≤ 12) (hr : 0 ≤ r ∧ r ≤ 8) (ec : fx_i Z p 1 = c) (hR : rIs Z a X Y W H) (hX : 0 ≤ X ∧ X ≤ 1000) (hY : 0 ≤ Y ∧ Y ≤ 1000) (hW : 0 ≤ W ∧ W ≤ 1000) (hH : 0 ≤ H ∧ H ≤ 1000) (hin : 0 < W → 0 < H → X + W ≤ c.toInt ∧ Y + H ≤ r) :
    poPre Z p a ∧ fx_on (p + 1) Z (kLy Z p a u) ∧ (∀ A B : Int32, (X ≤ A.toInt ∧ A.toInt < X + W) ∧ Y ≤ B.toInt ∧ B.toInt < Y + H → fx_i (kLy Z p a u) (p + 1) (c.toInt * B.toInt + A.toInt).toNat = pColor Z u A B) ∧ (∀ j, (∀ A B : Int, (X ≤ A ∧ A < X + W) ∧ Y ≤ B ∧ B < Y + H → (c.toInt * B + A).toNat ≠ j) → fx_i (kLy Z p a u) (p + 1) j = fx_i Z (p + 1) j) ∧
    (∀ r' c', r' < (fx_i Z a 3).toNatClampNeg → c' < (fx_i Z a 2).toNatClampNeg → (X ≤ (fx_i Z a 0 + nI c').toInt ∧ (fx_i Z a 0 + nI c').toInt < X + W) ∧ Y ≤ (fx_i Z a 1 + nI r').toInt ∧ (fx_i Z a 1 + nI r').toInt < Y + H) := by
  obtain ⟨e0, e1, e2, e3⟩ := hR
  have nW := iz_nn (a := fx_i Z a 2) (by omega)
  have nH := iz_nn (a := fx_i Z a 3) (by omega)
  have cx : ∀ i, i < (fx_i Z a 2).toNatClampNeg → (fx_i Z a 0 + nI i).toInt = X + (i : Int) := fun i hi => by rw [jz_ti (by omega) (by omega), e0]
  have cy : ∀ i, i < (fx_i Z a 3).toNatClampNeg → (fx_i Z a 1 + nI i).toInt = Y + (i : Int) := fun i hi => by rw [jz_ti (by omega) (by omega), e1]
  have rr : ∃ r32 : Int32, r32.toInt = r := ⟨iz r, iz_ti (by omega)⟩
  obtain ⟨r32, er⟩ := rr
  have key : ∀ j i, j < (fx_i Z a 3).toNatClampNeg → i < (fx_i Z a 2).toNatClampNeg → ((fx_i Z a 1 + nI j) * fx_i Z p 1 + (fx_i Z a 0 + nI i)).toNatClampNeg = (c.toInt * (Y + (j : Int)) + (X + (i : Int))).toNat ∧ vp_in ((fx_i Z a 1 + nI j) * fx_i Z p 1 + (fx_i Z a 0 + nI i)) 96 ∧ (0 ≤ X + (i : Int) ∧ X + (i : Int) < c.toInt) ∧ 0 ≤ Y + (j : Int) ∧ Y + (j : Int) < r := by
    intro j i hj hi
    have hh := hin (by omega) (by omega)
    have q1 : 0 ≤ X + (i : Int) ∧ X + (i : Int) < c.toInt := by omega
    have q2 : 0 ≤ Y + (j : Int) ∧ Y + (j : Int) < r := by omega
    have := cix (c := c) (r := r32) (x := fx_i Z a 0 + nI i) (y := fx_i Z a 1 + nI j) hc (by rw [er]; exact hr) (by rw [cx i hi]; exact q1) (by rw [cy j hj, er]; exact q2)
    rw [cx i hi, cy j hj] at this
    rw [ec]
    exact ⟨this.1, this.2, q1, q2⟩
  obtain ⟨g1, g2, g3⟩ := grid (A := p + 1) (h := Z) (fun j i => ((fx_i Z a 1 + nI j) * fx_i Z p 1 + (fx_i Z a 0 + nI i)).toNatClampNeg) (fun _ _ => true) (fun j i _ => pColor Z u (fx_i Z a 0 + nI i) (fx_i Z a 1 + nI j)) (fun j i k => pLay Z p a u j i k) (fx_i Z a 3).toNatClampNeg (C := (fx_i Z a 2).toNatClampNeg) (fun j i k _ _ _ => by rw [if_pos rfl]; rfl) (fun j i j' i' h1 h2 h3 h4 _ _ e => by
    obtain ⟨k1, -, k3, k4⟩ := key j i h1 h2
    obtain ⟨l1, -, l3, l4⟩ := key j' i' h3 h4
    have e' : ((fx_i Z a 1 + nI j) * fx_i Z p 1 + (fx_i Z a 0 + nI i)).toNatClampNeg = ((fx_i Z a 1 + nI j') * fx_i Z p 1 + (fx_i Z a 0 + nI i')).toNatClampNeg := e
    rw [k1, l1] at e'
    have p1 := pix_nat hc hr k3 k4
    have p2 := pix_nat hc hr l3 l4
    have e2 : c.toInt * (Y + (j : Int)) + (X + (i : Int)) = c.toInt * (Y + (j' : Int)) + (X + (i' : Int)) := by rw [← p1.1, ← p2.1]; omega
    have := lin_inj k3 l3 e2
    omega) (fx_i Z a 3).toNatClampNeg (Nat.le_refl _)
  refine ⟨⟨⟨by omega, by omega, by omega, by omega⟩, fun j i hj hi => (key j i hj hi).2.1⟩, g1, fun A B hAB => ?_, fun j hj => g3 j (fun r' c' h1 h2 _ => ?_), fun r' c' h1 h2 => by rw [cx c' h2, cy r' h1]; omega⟩
  · have f1 : ((A.toInt - X).toNat : Int) = A.toInt - X := by omega
    have f2 : ((B.toInt - Y).toNat : Int) = B.toInt - Y := by omega
    have t1 : (A.toInt - X).toNat < (fx_i Z a 2).toNatClampNeg := by omega
    have t2 : (B.toInt - Y).toNat < (fx_i Z a 3).toNatClampNeg := by omega
    have := g2 (B.toInt - Y).toNat (A.toInt - X).toNat t2 t1 rfl
    have e4 := (key (B.toInt - Y).toNat (A.toInt - X).toNat t2 t1).1
    have e5 : c.toInt * (Y + ((B.toInt - Y).toNat : Int)) + (X + ((A.toInt - X).toNat : Int)) = c.toInt * B.toInt + A.toInt := by
      rw [f1, f2]
      have q1 : Y + (B.toInt - Y) = B.toInt := by omega
      have q2 : X + (A.toInt - X) = A.toInt := by omega
      rw [q1, q2]
    have eA : fx_i Z a 0 + nI (A.toInt - X).toNat = A := iz_eq.mpr (by rw [cx _ t1]; omega)
    have eB : fx_i Z a 1 + nI (B.toInt - Y).toNat = B := iz_eq.mpr (by rw [cy _ t2]; omega)
    rw [e5] at e4
    rw [eA, eB] at this
    show fx_i (it _ Z (fx_i Z a 3).toNatClampNeg) (p + 1) _ = _
    rw [← e4, eA, eB]
    exact this
  · rw [(key r' c' h1 h2).1]
    exact hj _ _ (by omega)
theorem cut_shift {x cs tx cf ct X1 W1 X2 W2 : Int} (h1 : X1 = max x 0) (h2 : W1 = max (min (x + cs) cf - max x 0) 0) (h3 : X2 = max (X1 + (tx - x)) 0) (h4 : W2 = max (min (X1 + (tx - x) + W1) ct - X2) 0) (hcf : 0 ≤ cf) (hct : 0 ≤ ct) (hcs : 0 ≤ cs) : (∀ a, (X2 ≤ a ∧ a < X2 + W2) ↔ cR x cs tx cf ct a) ∧ W2 = max (min (min cs (cf - x)) (ct - tx) - max (max 0 (-x)) (-tx)) 0 ∧ (0 < W2 → X2 + W2 ≤ ct) := by
  refine ⟨fun a => ?_, ?_, ?_⟩
  · unfold cR
    omega
  · omega
  · omega
/-- the area after cutting, shifting and cutting again -/
theorem area_v (h : fx_H) (a : Nat) (x y cs rs dx dy cf rf ct rt : Int32) (hx : -20 ≤ x.toInt ∧ x.toInt ≤ 30) (hy : -20 ≤ y.toInt ∧ y.toInt ≤ 30) (hcs : 0 ≤ cs.toInt ∧ cs.toInt ≤ 30) (hrs : 0 ≤ rs.toInt ∧ rs.toInt ≤ 30) (hdx : -100 ≤ dx.toInt ∧ dx.toInt ≤ 100) (hdy : -100 ≤ dy.toInt ∧ dy.toInt ≤ 100) (hcf : 0 ≤ cf.toInt ∧ cf.toInt ≤ 12) (hrf : 0 ≤ rf.toInt ∧ rf.toInt ≤ 12) (hct : 0 ≤ ct.toInt ∧ ct.toInt ≤ 12) (hrt : 0 ≤ rt.toInt ∧ rt.toInt ≤ 12) :
    ∃ X1 W1 Y1 H1 X2 W2 Y2 H2 : Int, (X1 = max x.toInt 0 ∧ W1 = max (min (x.toInt + cs.toInt) cf.toInt - max x.toInt 0) 0 ∧ X2 = max (X1 + dx.toInt) 0 ∧ W2 = max (min (X1 + dx.toInt + W1) ct.toInt - X2) 0) ∧ (Y1 = max y.toInt 0 ∧ H1 = max (min (y.toInt + rs.toInt) rf.toInt - max y.toInt 0) 0 ∧ Y2 = max (Y1 + dy.toInt) 0 ∧ H2 = max (min (Y1 + dy.toInt + H1) rt.toInt - Y2) 0) ∧
      rIs (rcut (rshift (rcut (rset h a x y cs rs) a cf rf) a dx dy) a ct rt) a X2 Y2 W2 H2 := by
  obtain ⟨v0, v1, v2, v3⟩ := rset_v h a x y cs rs
  obtain ⟨n1, n2, n3, n4⟩ := clip_n hcf hx hcs
  obtain ⟨p1, p2, p3, p4⟩ := clip_n hrf hy hrs
  obtain ⟨u0, u1, u2, u3⟩ := rset_v (rset h a x y cs rs) a (jmax x 0) (jmax y 0) (jmax (jmin (x + cs) cf - jmax x 0) 0) (jmax (jmin (y + rs) rf - jmax y 0) 0)
  have eZ : rcut (rset h a x y cs rs) a cf rf = rset (rset h a x y cs rs) a (jmax x 0) (jmax y 0) (jmax (jmin (x + cs) cf - jmax x 0) 0) (jmax (jmin (y + rs) rf - jmax y 0) 0) := by
    unfold rcut
    rw [v0, v1, v2, v3]
  rw [eZ]
  generalize rset (rset h a x y cs rs) a (jmax x 0) (jmax y 0) (jmax (jmin (x + cs) cf - jmax x 0) 0) (jmax (jmin (y + rs) rf - jmax y 0) 0) = Z at *
  have t0 : (jmax x 0).toInt = max x.toInt 0 := by rw [n1, n2]
  have t1 : (jmax y 0).toInt = max y.toInt 0 := by rw [p1, p2]
  generalize jmax x 0 = X1 at *
  generalize jmax y 0 = Y1 at *
  generalize jmax (jmin (x + cs) cf - X1) 0 = W1 at *
  generalize jmax (jmin (y + rs) rf - Y1) 0 = H1 at *
  clear n1 n2 n3 p1 p2 p3 v0 v1 v2 v3 eZ
  have bX : 0 ≤ X1.toInt ∧ X1.toInt ≤ 30 := by rw [t0]; omega
  have bY : 0 ≤ Y1.toInt ∧ Y1.toInt ≤ 30 := by rw [t1]; omega
  have bW : 0 ≤ W1.toInt ∧ W1.toInt ≤ 12 := by rw [n4]; omega
  have bH : 0 ≤ H1.toInt ∧ H1.toInt ≤ 12 := by rw [p4]; omega
  have s0 : fx_i (rshift Z a dx dy) a 0 = X1 + dx := by unfold rshift; simp [fx_i_wi, u0]
  have s1 : fx_i (rshift Z a dx dy) a 1 = Y1 + dy := by unfold rshift; simp [fx_i_wi, u1]
  have s2 : fx_i (rshift Z a dx dy) a 2 = W1 := by unfold rshift; simp [fx_i_wi, u2]
  have s3 : fx_i (rshift Z a dx dy) a 3 = H1 := by unfold rshift; simp [fx_i_wi, u3]
  have q0 : (X1 + dx).toInt = X1.toInt + dx.toInt := iz_add (by omega)
  have q1 : (Y1 + dy).toInt = Y1.toInt + dy.toInt := iz_add (by omega)
  have q2 : (X1 + dx + W1).toInt = X1.toInt + dx.toInt + W1.toInt := by rw [iz_add (by rw [q0]; omega), q0]
  have q3 : (Y1 + dy + H1).toInt = Y1.toInt + dy.toInt + H1.toInt := by rw [iz_add (by rw [q1]; omega), q1]
  have z0 : (0 : Int32).toInt = 0 := rfl
  have m0 : (jmax (X1 + dx) 0).toInt = max (X1.toInt + dx.toInt) 0 := by rw [jmx, q0, z0]
  have m1 : (jmax (Y1 + dy) 0).toInt = max (Y1.toInt + dy.toInt) 0 := by rw [jmx, q1, z0]
  have m2 : (jmin (X1 + dx + W1) ct).toInt = min (X1.toInt + dx.toInt + W1.toInt) ct.toInt := by rw [jmn, q2]
  have m3 : (jmin (Y1 + dy + H1) rt).toInt = min (Y1.toInt + dy.toInt + H1.toInt) rt.toInt := by rw [jmn, q3]
  refine ⟨X1.toInt, W1.toInt, Y1.toInt, H1.toInt, _, _, _, _, ⟨t0, n4, rfl, rfl⟩, ⟨t1, p4, rfl, rfl⟩, ?_⟩
  clear n4 p4
  unfold rcut rIs
  rw [s0, s1, s2, s3]
  obtain ⟨r0, r1, r2, r3⟩ := rset_v (rshift Z a dx dy) a (jmax (X1 + dx) 0) (jmax (Y1 + dy) 0) (jmax (jmin (X1 + dx + W1) ct - jmax (X1 + dx) 0) 0) (jmax (jmin (Y1 + dy + H1) rt - jmax (Y1 + dy) 0) 0)
  have d2 : (jmin (X1 + dx + W1) ct - jmax (X1 + dx) 0).toInt = min (X1.toInt + dx.toInt + W1.toInt) ct.toInt - max (X1.toInt + dx.toInt) 0 := by rw [iz_sub (by rw [m2, m0]; omega), m2, m0]
  have d3 : (jmin (Y1 + dy + H1) rt - jmax (Y1 + dy) 0).toInt = min (Y1.toInt + dy.toInt + H1.toInt) rt.toInt - max (Y1.toInt + dy.toInt) 0 := by rw [iz_sub (by rw [m3, m1]; omega), m3, m1]
  rw [r0, r1, r2, r3, m0, m1]
  exact ⟨rfl, rfl, by rw [jmx, d2, z0], by rw [jmx, d3, z0]⟩
theorem copied_v {k : fx_H} {q m : Nat} {fr : Int32} (ef : fr = nI m) (hm : m < 10) : ∀ n, n ≤ 96 → fx_on (q + 18) k (it (b_MO_copy q fr) k n) ∧ ∀ j, j < n → fx_i (it (b_MO_copy q fr) k n) (q + 18) j = fx_i k (q + 17) (96 * m + j)
  | 0, _ => by
    rw [it_0]
    exact ⟨fx_on_rf _ _, fun j hj => absurd hj (by omega)⟩
  | n + 1, hn => by
    obtain ⟨a1, a2⟩ := copied_v (k := k) ef hm n (by omega)
    have e : ((96 : Int32) * fr + nI n).toNatClampNeg = 96 * m + n := by
      rw [ef]
      have e0 : (96 : Int32).toInt = 96 := rfl
      have e1 : (nI m).toInt = m := nI_toInt (by omega)
      have e2 : (nI n).toInt = n := nI_toInt (by omega)
      have t1 : (96 * nI m).toInt = 96 * (m : Int) := by rw [iz_mul (by rw [e0, e1]; omega), e0, e1]
      have t2 : (96 * nI m + nI n).toInt = 96 * (m : Int) + n := by rw [iz_add (by rw [t1, e2]; omega), t1, e2]
      have := iz_nn (a := 96 * nI m + nI n) (by omega)
      omega
    rw [it_s]
    unfold b_MO_copy at a1 a2 ⊢
    rw [e]
    refine ⟨fx_on_t a1 (fx_on_wi _ _ _ _), fun j hj => ?_⟩
    rw [fx_i_wi]
    by_cases z : j = n
    · rw [if_pos ⟨rfl, z⟩, a1.2 _ (by omega), z]
    · rw [if_neg (fun y => z y.2)]
      exact a2 j (by omega)
theorem isCopy_iff {k : fx_H} {q : Nat} {a b tx ty : Int32} : (¬ v_MO_isCopy k q a b tx ty = 0) ↔ (¬ v_MO_hasDraft k q a = 0 ∧ ¬ v_MO_hasDraft k q b = 0 ∧ fx_i k (q + 2) a.toNatClampNeg = fx_i k (q + 2) b.toNatClampNeg ∧ ¬ jW tx (-20) 30 = 0 ∧ ¬ jW ty (-20) 30 = 0) := by
  unfold v_MO_isCopy
  rw [wi_jW, wi_jW]
  by_cases c1 : v_MO_hasDraft k q a = 0
  · rw [if_pos c1]; exact ⟨fun z => absurd rfl z, fun z => absurd c1 z.1⟩
  rw [if_neg c1]
  by_cases c2 : v_MO_hasDraft k q b = 0
  · rw [if_pos c2]; exact ⟨fun z => absurd rfl z, fun z => absurd c2 z.2.1⟩
  rw [if_neg c2]
  by_cases c3 : fx_i k (q + 2) a.toNatClampNeg = fx_i k (q + 2) b.toNatClampNeg
  · rw [if_pos c3]
    by_cases c4 : jW tx (-20) 30 = 0
    · rw [if_pos c4]; exact ⟨fun z => absurd rfl z, fun z => absurd c4 z.2.2.2.1⟩
    rw [if_neg c4]
    by_cases c5 : jW ty (-20) 30 = 0
    · rw [if_pos c5]; exact ⟨fun z => absurd rfl z, fun z => absurd c5 z.2.2.2.2⟩
    rw [if_neg c5]
    exact ⟨fun _ => ⟨c1, c2, c3, c4, c5⟩, fun _ => by decide⟩
  · rw [if_neg c3]; exact ⟨fun z => absurd rfl z, fun z => absurd z.2.2.1 c3⟩
def cpC (h : fx_H) (w : Nat) (fr to_ x y cs rs tx ty : Int32) : Prop := ¬ v_DE_hasDraft h (w + 1) fr = 0 ∧ ¬ v_DE_hasDraft h (w + 1) to_ = 0 ∧ fx_i h (w + 1 + 45) fr.toNatClampNeg = fx_i h (w + 1 + 45) to_.toNatClampNeg ∧ ¬ jA x y cs rs = 0 ∧ ¬ jW tx (-20) 30 = 0 ∧ ¬ jW ty (-20) 30 = 0
/-- both sides let the same copies pass -/
theorem cpC_iff {h k : fx_H} {w q f b : Nat} (hj : J h w q f b) (e1 : ∀ j, fx_i k (q + 1) j = fx_i h (q + 1) j) (e2 : ∀ j, fx_i k (q + 2) j = fx_i h (q + 2) j) (e7 : ∀ j, fx_i k (q + 7) j = fx_i h (q + 7) j) (fr to_ x y cs rs tx ty : Int32) : (¬ v_MO_isCopy k q fr to_ tx ty = 0 ∧ ¬ v_MO_isArea k x y cs rs = 0) ↔ cpC h w fr to_ x y cs rs tx ty := by
  rw [isCopy_iff, area_jA, hasDraft_iff hj e1 e7, hasDraft_iff hj e1 e7, e2, e2]
  have e45 : w + 1 + 45 = w + 46 := by omega
  unfold cpC
  rw [e45]
  have key : ¬ v_DE_hasDraft h (w + 1) fr = 0 → ¬ v_DE_hasDraft h (w + 1) to_ = 0 → (fx_i h (q + 2) fr.toNatClampNeg = fx_i h (q + 2) to_.toNatClampNeg ↔ fx_i h (w + 46) fr.toNatClampNeg = fx_i h (w + 46) to_.toNatClampNeg) := by
    intro z1 z2
    obtain ⟨a1, -, a3⟩ := draft_in z1
    obtain ⟨b1, -, b3⟩ := draft_in z2
    have ea : ∀ n, w + 1 + 48 + 4 * n = w + 49 + 4 * n := fun n => by omega
    rw [ea] at a3 b3
    have u1 := (pre_there hj a1 a3).2.1
    have u2 := (pre_there hj b1 b3).2.1
    rw [((hj.num _ a1).2.1 u1).1, ((hj.num _ b1).2.1 u2).1]
  constructor
  · rintro ⟨⟨c1, c2, c3, c4, c5⟩, c6⟩
    exact ⟨c1, c2, (key c1 c2).mp c3, c6, c4, c5⟩
  · rintro ⟨c1, c2, c3, c6, c4, c5⟩
    exact ⟨⟨c1, c2, (key c1 c2).mpr c3, c4, c5⟩, c6⟩
theorem cp_no {h : fx_H} {w f b : Nat} {fr to_ x y cs rs tx ty : Int32} (hn : ¬ cpC h w fr to_ x y cs rs tx ty) : k_FS_copy h w f b fr to_ x y cs rs tx ty = fx_sk h 1 ∧ o_FS_copy h w f b fr to_ x y cs rs tx ty = .inr "java/lang/IllegalArgumentException" := by
  unfold k_FS_copy o_FS_copy
  by_cases c1 : v_DE_hasDraft h (w + 1) fr = 0
  · rw [if_pos c1, if_pos c1]; exact ⟨rfl, rfl⟩
  rw [if_neg c1, if_neg c1]
  by_cases c2 : v_DE_hasDraft h (w + 1) to_ = 0
  · rw [if_pos c2, if_pos c2]; exact ⟨rfl, rfl⟩
  rw [if_neg c2, if_neg c2]
  by_cases c3 : fx_i h (w + 1 + 45) fr.toNatClampNeg = fx_i h (w + 1 + 45) to_.toNatClampNeg
  · rw [if_pos c3, if_pos c3]
    by_cases c4 : jA x y cs rs = 0
    · rw [if_pos c4, if_pos c4]; exact ⟨rfl, rfl⟩
    rw [if_neg c4, if_neg c4]
    by_cases c5 : jW tx (-20) 30 = 0
    · rw [if_pos c5, if_pos c5]; exact ⟨rfl, rfl⟩
    rw [if_neg c5, if_neg c5]
    by_cases c6 : jW ty (-20) 30 = 0
    · rw [if_pos c6, if_pos c6]; exact ⟨rfl, rfl⟩
    · exact absurd ⟨c1, c2, c3, c4, c5, c6⟩ hn
  · rw [if_neg c3, if_neg c3]; exact ⟨rfl, rfl⟩
theorem cut_bd {x cs tx cf ct X1 W1 X2 W2 : Int} (h1 : X1 = max x 0) (h2 : W1 = max (min (x + cs) cf - max x 0) 0) (h3 : X2 = max (X1 + (tx - x)) 0) (h4 : W2 = max (min (X1 + (tx - x) + W1) ct - X2) 0) (hx : -20 ≤ x ∧ x ≤ 30) (htx : -20 ≤ tx ∧ tx ≤ 30) (hct : 0 ≤ ct) : (0 ≤ X2 ∧ X2 ≤ 1000) ∧ 0 ≤ W2 ∧ W2 ≤ ct := by
  refine ⟨?_, ?_⟩
  · clear h2 h4
    omega
  · clear h1 h2
    omega
theorem cp_yes {h : fx_H} {w f b : Nat} {fr to_ x y cs rs tx ty : Int32} (hn : cpC h w fr to_ x y cs rs tx ty) : k_FS_copy h w f b fr to_ x y cs rs tx ty = cy7 h w f b fr to_ x y cs rs tx ty ∧ o_FS_copy h w f b fr to_ x y cs rs tx ty = .inl (some (fx_i (cy7 h w f b fr to_ x y cs rs tx ty) (w + 186) 2 * fx_i (cy7 h w f b fr to_ x y cs rs tx ty) (w + 186) 3)) := by
  obtain ⟨c1, c2, c3, c4, c5, c6⟩ := hn
  unfold k_FS_copy o_FS_copy
  rw [if_neg c1, if_neg c1, if_neg c2, if_neg c2, if_pos c3, if_pos c3, if_neg c4, if_neg c4, if_neg c5, if_neg c5, if_neg c6, if_neg c6]
  exact ⟨rfl, rfl⟩
set_option maxHeartbeats 1000000 in
theorem A_copy {h : fx_H} {w q f b : Nat} (hj : J h w q f b) (fr to_ x y cs rs tx ty : Int32) :
    (cpC h w fr to_ x y cs rs tx ty → lyPre (cy6 h w f b fr to_ x y cs rs tx ty) (w + 1 + 48 + 4 * to_.toNatClampNeg) (w + 186) (w + 187)) ∧ mCR (k_FS_copy h w f b fr to_ x y cs rs tx ty) q ∧
    fx_i (k_MO_copy (k_FS_copy h w f b fr to_ x y cs rs tx ty) q fr to_ x y cs rs tx ty) q 0 = cod (o_FS_copy h w f b fr to_ x y cs rs tx ty) ∧ (∀ v, o_FS_copy h w f b fr to_ x y cs rs tx ty = .inl (some v) → v = v_MO_copy (k_FS_copy h w f b fr to_ x y cs rs tx ty) q fr to_ x y cs rs tx ty) ∧ J (k_MO_copy (k_FS_copy h w f b fr to_ x y cs rs tx ty) q fr to_ x y cs rs tx ty) w q f b := by
  have hq := hj.at_
  by_cases hno : ¬ cpC h w fr to_ x y cs rs tx ty
  · have hsk := J_ag (ag_sk h w q 1) hj
    obtain ⟨e1, e2⟩ := cp_no (f := f) (b := b) hno
    have e3 : k_MO_copy (fx_sk h 1) q fr to_ x y cs rs tx ty = fx_wi (fx_sk h 1) q 0 1 := by
      have nn := fun z => hno ((cpC_iff (k := fx_sk h 1) hj (fun _ => rfl) (fun _ => rfl) (fun _ => rfl) fr to_ x y cs rs tx ty).mp z)
      unfold k_MO_copy
      by_cases c1 : v_MO_isCopy (fx_sk h 1) q fr to_ tx ty = 0
      · rw [if_pos c1]
      · by_cases c2 : v_MO_isArea (fx_sk h 1) x y cs rs = 0
        · rw [if_neg c1, if_pos c2]
        · exact absurd ⟨c1, c2⟩ nn
    rw [e1, e2, e3]
    exact ⟨fun z => absurd z hno, hsk.cr, w00 _ _ _, fun v z => (by cases z), J_w hsk 1⟩
  have hok : cpC h w fr to_ x y cs rs tx ty := Classical.byContradiction hno
  obtain ⟨e1, e2⟩ := cp_yes (f := f) (b := b) hok
  have hok' := hok
  obtain ⟨c1, c2, c3, c4, c5, c6⟩ := hok'
  obtain ⟨hm, ef, h0f⟩ := draft_in c1
  obtain ⟨hn, et, h0⟩ := draft_in c2
  have ea : ∀ n, w + 1 + 48 + 4 * n = w + 49 + 4 * n := fun n => by omega
  rw [ea] at h0f h0
  obtain ⟨df1, df2⟩ := J_dims hj hm h0f
  obtain ⟨d1, d2⟩ := J_dims hj hn h0
  obtain ⟨bf1, bf2⟩ := hj.cr _ hm
  obtain ⟨bt1, bt2⟩ := hj.cr _ hn
  obtain ⟨-, -, -, pf⟩ := pre_there hj hm h0f
  obtain ⟨t7, t1, t6, pe⟩ := pre_there hj hn h0
  obtain ⟨r1, r2, r3, r4⟩ := ar_b (h := h) (by rw [area_jA]; exact c4)
  have btx := jW_b1 c5
  have bty := jW_b1 c6
  have k20 : (-20 : Int32).toInt = -20 := rfl
  have k30 : (30 : Int32).toInt = 30 := rfl
  rw [k20, k30] at btx bty
  have dx : (tx - x).toInt = tx.toInt - x.toInt := iz_sub (by omega)
  have dy : (ty - y).toInt = ty.toInt - y.toInt := iz_sub (by omega)
  rw [e1, e2]
  unfold cy7
  rw [ea]
  have a4 : cy4 h w f b fr to_ x y cs rs tx ty = rcut (rshift (rcut (rset h (w + 186) x y cs rs) (w + 186) (fx_i h (q + 3) fr.toNatClampNeg) (fx_i h (q + 4) fr.toNatClampNeg)) (w + 186) (tx - x) (ty - y)) (w + 186) (fx_i h (q + 3) to_.toNatClampNeg) (fx_i h (q + 4) to_.toNatClampNeg) := by
    unfold cy4 cy3 cy2 cy1
    have g : ∀ n, ¬ w + 49 + 4 * n = w + 186 ∨ 10 ≤ n := fun n => by omega
    have s1 : ∀ (k : fx_H) (n j : Nat) (u v : Int32), n < 10 → fx_i (rshift k (w + 186) u v) (w + 49 + 4 * n) j = fx_i k (w + 49 + 4 * n) j := fun k n j u v hn => by unfold rshift; rw [fx_i_wi, if_neg (fun z => by omega), fx_i_wi, if_neg (fun z => by omega)]
    have s2 : ∀ (k : fx_H) (n j : Nat) (u v : Int32), n < 10 → fx_i (rcut k (w + 186) u v) (w + 49 + 4 * n) j = fx_i k (w + 49 + 4 * n) j := fun k n j u v hn => by unfold rcut; exact rset_o _ _ _ _ _ _ _ _ (by omega)
    have s3 : ∀ (n j : Nat), n < 10 → fx_i (rset h (w + 186) x y cs rs) (w + 49 + 4 * n) j = fx_i h (w + 49 + 4 * n) j := fun n j hn => rset_o _ _ _ _ _ _ _ _ (by omega)
    rw [ea, ea, s1 _ _ _ _ _ hn, s1 _ _ _ _ _ hn, s2 _ _ _ _ _ hn, s2 _ _ _ _ _ hn, s3 _ _ hn, s3 _ _ hn, s3 _ _ hm, s3 _ _ hm, d1, d2, df1, df2]
  obtain ⟨X1, W1, Y1, H1, X2, W2, Y2, H2, ⟨x1, x2, x3, x4⟩, ⟨y1, y2, y3, y4⟩, aR⟩ := area_v h (w + 186) x y cs rs (tx - x) (ty - y) (fx_i h (q + 3) fr.toNatClampNeg) (fx_i h (q + 4) fr.toNatClampNeg) (fx_i h (q + 3) to_.toNatClampNeg) (fx_i h (q + 4) to_.toNatClampNeg) r1 r2 r3 r4 (by omega) (by omega) bf1 ⟨bf2.1, by omega⟩ bt1 ⟨bt2.1, by omega⟩
  rw [dx] at x3 x4
  rw [dy] at y3 y4
  obtain ⟨cx1, cx2, cx3⟩ := cut_shift x1 x2 x3 x4 bf1.1 bt1.1 r3.1
  obtain ⟨cy1', cy2', cy3'⟩ := cut_shift y1 y2 y3 y4 bf2.1 bt2.1 r4.1
  obtain ⟨bX2, bW2'⟩ := cut_bd x1 x2 x3 x4 r1 btx bt1.1
  obtain ⟨bY2, bH2'⟩ := cut_bd y1 y2 y3 y4 r2 bty bt2.1
  have bW2 : 0 ≤ W2 ∧ W2 ≤ 12 := ⟨bW2'.1, Int.le_trans bW2'.2 bt1.2⟩
  have bH2 : 0 ≤ H2 ∧ H2 ≤ 8 := ⟨bH2'.1, Int.le_trans bH2'.2 bt2.2⟩
  clear x1 x2 x3 x4 y1 y2 y3 y4
  rw [← a4] at aR
  have a4o : ∀ a j, a ≠ w + 186 → fx_i (cy4 h w f b fr to_ x y cs rs tx ty) a j = fx_i h a j := fun a j g => by
    rw [a4]
    unfold rcut rshift
    rw [rset_o _ _ _ _ _ _ _ _ g, fx_i_wi, if_neg (fun z => g z.1), fx_i_wi, if_neg (fun z => g z.1), rset_o _ _ _ _ _ _ _ _ g, rset_o _ _ _ _ _ _ _ _ g]
  obtain ⟨P1, P2, P3, P4, P5⟩ := pCopy_v (cy4 h w f b fr to_ x y cs rs tx ty) (w + 187) (w + 49 + 4 * fr.toNatClampNeg) (by omega)
  have z6 : cy6 h w f b fr to_ x y cs rs tx ty = fx_wi (fx_wi (pCopy (cy4 h w f b fr to_ x y cs rs tx ty) (w + 187) (w + 49 + 4 * fr.toNatClampNeg)) (w + 187) 3 (tx - x)) (w + 187) 4 (ty - y) := by
    unfold cy6 cy5
    rw [ea]
  generalize cy4 h w f b fr to_ x y cs rs tx ty = Z4 at *
  generalize hZ : cy6 h w f b fr to_ x y cs rs tx ty = Z at *
  have zo : ∀ a j, a ≠ w + 187 → fx_i Z a j = fx_i (pCopy Z4 (w + 187) (w + 49 + 4 * fr.toNatClampNeg)) a j := fun a j g => by rw [z6, fx_i_wi, if_neg (fun z => g z.1), fx_i_wi, if_neg (fun z => g z.1)]
  have zh : ∀ a j, a ≠ w + 186 → a ≠ w + 187 → a ≠ w + 188 → a ≠ w + 189 → a ≠ w + 190 → fx_i Z a j = fx_i h a j := fun a j g1 g2 g3 g4 g5 => by rw [zo a j g2, P1 a j (by omega) (by omega) (by omega) (by omega), a4o a j g1]
  have z3 : fx_i Z (w + 187) 3 = tx - x := by rw [z6, fx_i_wi, if_neg (fun z => by omega), fx_i_wi, if_pos ⟨rfl, rfl⟩]
  have z4 : fx_i Z (w + 187) 4 = ty - y := by rw [z6, fx_i_wi, if_pos ⟨rfl, rfl⟩]
  have z1 : fx_i Z (w + 187) 1 = fx_i h (q + 3) fr.toNatClampNeg := by rw [z6, fx_i_wi, if_neg (fun z => by omega), fx_i_wi, if_neg (fun z => by omega), P2 1 (by decide), a4o _ _ (by omega), df1]
  have zp : ∀ j, j < 96 → fx_i Z (w + 188) j = fx_i h (w + 49 + 4 * fr.toNatClampNeg + 1) j := fun j g => by rw [zo _ _ (by omega)]; exact (P3 j g).trans (a4o _ _ (by omega))
  have zR : rIs Z (w + 186) X2 Y2 W2 H2 := by
    unfold rIs at aR ⊢
    rw [zo (w + 186) 0 (by omega), zo (w + 186) 1 (by omega), zo (w + 186) 2 (by omega), zo (w + 186) 3 (by omega), P1 (w + 186) 0 (by omega) (by omega) (by omega) (by omega), P1 (w + 186) 1 (by omega) (by omega) (by omega) (by omega), P1 (w + 186) 2 (by omega) (by omega) (by omega) (by omega), P1 (w + 186) 3 (by omega) (by omega) (by omega) (by omega)]
    exact aR
  obtain ⟨C1, C2, C3, C4, C5⟩ := C_lay (Z := Z) (p := w + 49 + 4 * to_.toNatClampNeg) (a := w + 186) (u := w + 187) (c := fx_i h (q + 3) to_.toNatClampNeg) (r := (fx_i h (q + 4) to_.toNatClampNeg).toInt) (by omega) bt1 bt2 (by rw [zh _ _ (by omega) (by omega) (by omega) (by omega) (by omega)]; exact d1) zR bX2 bY2 ⟨bW2.1, Int.le_trans bW2.2 (by decide)⟩ ⟨bH2.1, Int.le_trans bH2.2 (by decide)⟩ (fun g1 g2 => ⟨cx3 g1, cy3' g2⟩)
  have src : ∀ A B : Int32, (X2 ≤ A.toInt ∧ A.toInt < X2 + W2) ∧ Y2 ≤ B.toInt ∧ B.toInt < Y2 + H2 → vp_in (pIx Z (w + 187) A B) 96 ∧ pColor Z (w + 187) A B = fx_i h (w + 49 + 4 * fr.toNatClampNeg + 1) ((fx_i h (q + 3) fr.toNatClampNeg).toInt * (B.toInt - ty.toInt + y.toInt) + (A.toInt - tx.toInt + x.toInt)).toNat ∧ ((fx_i h (q + 3) fr.toNatClampNeg).toInt * (B.toInt - ty.toInt + y.toInt) + (A.toInt - tx.toInt + x.toInt)).toNat < 96 := by
    intro A B hAB
    have hA := (cx1 A.toInt).mp hAB.1
    have hB := (cy1' B.toInt).mp hAB.2
    unfold cR at hA hB
    have t1 : (B - (ty - y)).toInt = B.toInt - ty.toInt + y.toInt := by rw [iz_sub (by rw [dy]; omega), dy]; omega
    have t2 : (A - (tx - x)).toInt = A.toInt - tx.toInt + x.toInt := by rw [iz_sub (by rw [dx]; omega), dx]; omega
    have g := cix (c := fx_i h (q + 3) fr.toNatClampNeg) (r := fx_i h (q + 4) fr.toNatClampNeg) (x := A - (tx - x)) (y := B - (ty - y)) bf1 bf2 (by rw [t2]; exact hA.2.1) (by rw [t1]; exact hB.2.1)
    have g2 := pix_nat bf1 bf2 hA.2.1 hB.2.1
    rw [t1, t2] at g
    have e : pIx Z (w + 187) A B = (B - (ty - y)) * fx_i h (q + 3) fr.toNatClampNeg + (A - (tx - x)) := by
      unfold pIx
      rw [z1, z3, z4, Int32.sub_eq_add_neg (_ + A), Int32.add_assoc, ← Int32.sub_eq_add_neg]
    unfold pColor
    rw [e]
    refine ⟨g.2, ?_, g2.2⟩
    rw [g.1]
    exact zp _ g2.2
  have hly : lyPre Z (w + 49 + 4 * to_.toNatClampNeg) (w + 186) (w + 187) := ⟨C1, fun r' c' g1 g2 => (src _ _ (C5 r' c' g1 g2)).1⟩
  have k11 : fx_i (kLy Z (w + 49 + 4 * to_.toNatClampNeg) (w + 186) (w + 187)) (w + 186) 2 = fx_i Z (w + 186) 2 := C2.2 _ (by omega) _
  have k12 : fx_i (kLy Z (w + 49 + 4 * to_.toNatClampNeg) (w + 186) (w + 187)) (w + 186) 3 = fx_i Z (w + 186) 3 := C2.2 _ (by omega) _
  rw [k11, k12]
  generalize kLy Z (w + 49 + 4 * to_.toNatClampNeg) (w + 186) (w + 187) = Y at *
  have yo : ∀ a j, a ≠ w + 49 + 4 * to_.toNatClampNeg + 1 → a ≠ w + 186 → a ≠ w + 187 → a ≠ w + 188 → a ≠ w + 189 → a ≠ w + 190 → fx_i Y a j = fx_i h a j := fun a j g0 g1 g2 g3 g4 g5 => (C2.2 a g0 j).trans (zh a j g1 g2 g3 g4 g5)
  have ym : ∀ o j, fx_i Y (q + o) j = fx_i h (q + o) j := fun o j => yo _ _ (by omega) (by omega) (by omega) (by omega) (by omega) (by omega)
  have crY : mCR Y q := fun t ht => by rw [ym, ym]; exact hj.cr t ht
  obtain ⟨u1, u2⟩ := (cpC_iff (k := Y) hj (fun j => ym 1 j) (fun j => ym 2 j) (fun j => ym 7 j) fr to_ x y cs rs tx ty).mpr hok
  have kk : k_MO_copy Y q fr to_ x y cs rs tx ty = (its (cpO q fr to_ x y cs tx ty) ((0 : Int32), (it (b_MO_copy q fr) (fx_wi Y q 0 (0 : Int32)) 96)) rs.toNatClampNeg).2 := by unfold k_MO_copy; rw [if_neg u1, if_neg u2]
  have kv : v_MO_copy Y q fr to_ x y cs rs tx ty = (its (cpO q fr to_ x y cs tx ty) ((0 : Int32), (it (b_MO_copy q fr) (fx_wi Y q 0 (0 : Int32)) 96)) rs.toNatClampNeg).1 := by unfold v_MO_copy; rw [if_neg u1, if_neg u2]
  obtain ⟨B1, B2⟩ := copied_v (k := fx_wi Y q 0 (0 : Int32)) (q := q) ef hm 96 (Nat.le_refl _)
  have w3 : ∀ o j, 0 < o → o ≠ 18 → fx_i (it (b_MO_copy q fr) (fx_wi Y q 0 (0 : Int32)) 96) (q + o) j = fx_i h (q + o) j := fun o j g1 g2 => by rw [B1.2 _ (by omega), wi_q _ _ _ _ _ _ g1, ym]
  obtain ⟨M1, M2, M3, M4⟩ := M_copy (Y := it (b_MO_copy q fr) (fx_wi Y q 0 (0 : Int32)) 96) (q := q) (x := x) (y := y) (cs := cs) (rs := rs) (tx := tx) (ty := ty) ef et hn hm bf1 bf2 bt1 bt2 (w3 3 _ (by decide) (by decide)) (w3 4 _ (by decide) (by decide)) (w3 3 _ (by decide) (by decide)) (w3 4 _ (by decide) (by decide)) r1 r2 r3 r4 btx bty
  rw [kk, kv]
  have B2' : ∀ j, j < 96 → fx_i (it (b_MO_copy q fr) (fx_wi Y q 0 (0 : Int32)) 96) (q + 18) j = fx_i h (w + 49 + 4 * fr.toNatClampNeg + 1) j := fun j g => by
    rw [B2 j g, wi_q _ _ _ _ _ _ (by decide), ym, ← (pf.2.1 j g).1]
  have bq0 : ∀ j, fx_i (it (b_MO_copy q fr) (fx_wi Y q 0 (0 : Int32)) 96) q j = fx_i (fx_wi Y q 0 (0 : Int32)) q j := fun j => B1.2 q (by omega) j
  have bc : ∀ a j, a < q → fx_i (it (b_MO_copy q fr) (fx_wi Y q 0 (0 : Int32)) 96) a j = fx_i Y a j := fun a j g => by rw [B1.2 _ (by omega), fx_i_wi, if_neg (fun z => by omega)]
  generalize it (b_MO_copy q fr) (fx_wi Y q 0 (0 : Int32)) 96 = YB at *
  generalize (its (cpO q fr to_ x y cs tx ty) ((0 : Int32), YB) rs.toNatClampNeg) = RES at *
  obtain ⟨cnt, k⟩ := RES
  have kc : ∀ a j, a < q → fx_i k a j = fx_i Y a j := fun a j g => (M1.2 a (by omega) j).trans (bc a j g)
  have km : ∀ o j, 0 < o → o ≠ 17 → o ≠ 18 → fx_i k (q + o) j = fx_i h (q + o) j := fun o j g1 g2 g3 => (M1.2 _ (by omega) j).trans (w3 o j g1 g3)
  have kf : ∀ j, fx_i k q j = fx_i (fx_wi Y q 0 (0 : Int32)) q j := fun j => (M1.2 q (by omega) j).trans (bq0 j)
  generalize hnn : to_.toNatClampNeg = n at *
  have range : ∀ a b : Int, cR x.toInt cs.toInt tx.toInt (fx_i h (q + 3) fr.toNatClampNeg).toInt (fx_i h (q + 3) n).toInt a → cR y.toInt rs.toInt ty.toInt (fx_i h (q + 4) fr.toNatClampNeg).toInt (fx_i h (q + 4) n).toInt b → (0 ≤ a ∧ a < (fx_i h (q + 3) n).toInt) ∧ 0 ≤ b ∧ b < (fx_i h (q + 4) n).toInt := fun a b ha hb => ⟨ha.2.2, hb.2.2⟩
  have d : DF h k w q n := by
    refine ⟨fun a g1 g2 g3 g4 g5 j g6 g7 => (kc a j (by omega)).trans (yo a j (by omega) (by omega) (by omega) (by omega) (by omega) (by omega)), fun o g1 g2 j g3 => km o j (by omega) (by omega) (by omega), fun j g => ?_, fun o g1 g2 g3 j => km o j (by omega) (by omega) (by omega), fun j g1 g2 => ?_⟩
    · exact (M3 j (fun a b ha hb e => g (by have := (pix_nat bt1 bt2 (range a b ha hb).1 (range a b ha hb).2).2; omega))).trans (w3 17 j (by decide) (by decide))
    · rw [kf, w0 _ _ _ _ g1]
      exact yo _ _ (by omega) (by omega) (by omega) (by omega) (by omega) (by omega)
  have cd : ∀ j, fx_i k (w + 49 + 4 * n) j = fx_i h (w + 49 + 4 * n) j := fun j => (kc _ _ (by omega)).trans (yo _ _ (by omega) (by omega) (by omega) (by omega) (by omega) (by omega))
  have cd2 : ∀ j, fx_i k (w + 49 + 4 * n + 2) j = fx_i h (w + 49 + 4 * n + 2) j := fun j => (kc _ _ (by omega)).trans (yo _ _ (by omega) (by omega) (by omega) (by omega) (by omega) (by omega))
  have cd3 : ∀ j, fx_i k (w + 49 + 4 * n + 3) j = fx_i h (w + 49 + 4 * n + 3) j := fun j => (kc _ _ (by omega)).trans (yo _ _ (by omega) (by omega) (by omega) (by omega) (by omega) (by omega))
  have hpe : PE k (w + 49 + 4 * n) q n := by
    obtain ⟨p1, p2, p3, p4, p5, p6⟩ := pe
    unfold mpOk at p4
    unfold PE mpOk
    simp only [cd, cd2, km 3 _ (by decide) (by decide) (by decide), km 4 _ (by decide) (by decide) (by decide), km 8 _ (by decide) (by decide) (by decide), km 9 _ (by decide) (by decide) (by decide), km 10 _ (by decide) (by decide) (by decide), km 11 _ (by decide) (by decide) (by decide), km 12 _ (by decide) (by decide) (by decide), km 13 _ (by decide) (by decide) (by decide), km 14 _ (by decide) (by decide) (by decide), km 15 _ (by decide) (by decide) (by decide), km 16 _ (by decide) (by decide) (by decide)]
    refine ⟨p1, fun j hj9 => ?_, p3, p4, p5, p6⟩
    rw [kc _ _ (by omega)]
    by_cases hit : ∃ a b : Int, cR x.toInt cs.toInt tx.toInt (fx_i h (q + 3) fr.toNatClampNeg).toInt (fx_i h (q + 3) n).toInt a ∧ cR y.toInt rs.toInt ty.toInt (fx_i h (q + 4) fr.toNatClampNeg).toInt (fx_i h (q + 4) n).toInt b ∧ ((fx_i h (q + 3) n).toInt * b + a).toNat = j
    · obtain ⟨a, b, ha, hb, e⟩ := hit
      have rg := range a b ha hb
      obtain ⟨A, eA⟩ : ∃ A : Int32, A.toInt = a := ⟨iz a, iz_ti (by omega)⟩
      obtain ⟨B, eB⟩ : ∃ B : Int32, B.toInt = b := ⟨iz b, iz_ti (by omega)⟩
      have inr : (X2 ≤ A.toInt ∧ A.toInt < X2 + W2) ∧ Y2 ≤ B.toInt ∧ B.toInt < Y2 + H2 := by
        rw [eA, eB]
        exact ⟨(cx1 a).mpr ha, (cy1' b).mpr hb⟩
      have q1 := M2 a b ha hb
      have q2 := C3 A B inr
      obtain ⟨-, q3, q4⟩ := src A B inr
      rw [eA, eB] at q2 q3 q4
      rw [e] at q1 q2
      rw [q1, q2, q3, B2' _ q4]
      exact ⟨rfl, (pf.2.1 _ q4).2⟩
    · have q1 := M3 (96 * n + j) (fun a b ha hb e => hit ⟨a, b, ha, hb, by omega⟩)
      have q2 := C4 j (fun a b hab e => hit ⟨a, b, (cx1 a).mp hab.1, (cy1' b).mp hab.2, e⟩)
      rw [q1, q2, zh _ _ (by omega) (by omega) (by omega) (by omega) (by omega), w3 17 _ (by decide) (by decide)]
      exact p2 j hj9
  refine ⟨fun _ => by rw [ea]; exact hly, crY, by rw [kf, w00]; rfl, fun v z => ?_, J_edit hj hn h0 d (fun o g1 g2 => km o n (by omega) (by omega) (by omega)) (fun j _ => cd j) ((kc _ _ (by omega)).trans (yo _ _ (by omega) (by omega) (by omega) (by omega) (by omega) (by omega))) ((kc _ _ (by omega)).trans (yo _ _ (by omega) (by omega) (by omega) (by omega) (by omega) (by omega))) ?_ hpe⟩
  · cases z
    obtain ⟨-, -, q2, q3⟩ := zR
    have mb : 0 ≤ W2 * H2 ∧ W2 * H2 ≤ 12 * 8 := ⟨Int.mul_nonneg bW2.1 bH2.1, Int.mul_le_mul bW2.2 bH2.2 bH2.1 (by decide)⟩
    rw [iz_eq, iz_mul (by rw [q2, q3]; omega), q2, q3, cx2, cy2']
    exact M4.symm
  · obtain ⟨s1, s2, s3⟩ := (hj.pics n hn).1.2.1
    obtain ⟨x1, x2, x3, x4, x5⟩ := sh_congr (h := h) (k := k) (q := q) (p := n) (fun o g1 g2 => km o n (by omega) (by omega) (by omega))
    refine ⟨rOk_of (fun j _ => cd3 j) s1, by rw [x5, cd3, cd3]; exact s2, ?_⟩
    unfold rIs at s3 ⊢
    rw [x5, x1, x2, x3, x4, cd3, cd3, cd3, cd3]
    exact s3
