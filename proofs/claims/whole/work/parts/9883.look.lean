/-! ===== scan ===== -/
theorem J_beam {h k : fx_H} {w q f b : Nat} (hj : J h w q f b) (c : ∀ a, w ≤ a → a < w + 186 → a ≠ w + 141 → ¬ (w + 165 ≤ a ∧ a ≤ w + 174) → a ≠ w + 175 → a ≠ w + 184 → a ≠ w + 185 → ∀ j, fx_i k a j = fx_i h a j) (m : ∀ o, 1 ≤ o → o ≤ 36 → o ≠ 18 → ¬ (27 ≤ o ∧ o ≤ 31) → ∀ j, fx_i k (q + o) j = fx_i h (q + o) j) (f9 : ∀ j, j ≠ 0 → ¬ (38 ≤ j ∧ j ≤ 43) → j ≠ 45 → fx_i k q j = fx_i h q j) (hb : JB k w q) : J k w q f b := by
  have hP := hj.pileT.1
  have hB := bk_2 hj.mem
  have mm : ∀ o, 1 ≤ o → o ≤ 26 → o ≠ 18 → ∀ j, fx_i k (q + o) j = fx_i h (q + o) j := fun o h1 h2 h3 => m o h1 (by omega) h3 (by omega)
  have mt : ∀ o, 32 ≤ o → o ≤ 36 → ∀ j, fx_i k (q + o) j = fx_i h (q + o) j := fun o h1 h2 => m o (by omega) h2 (by omega) (by omega)
  refine J.mk (at_ := hj.at_) (mem := ?_) (pics := ?_) (pileC := ?_) (pileT := ?_) (cr := ?_) (num := ?_) (desk := ?_) (free := ?_) (miss := ?_) (comp := ?_) (plan := ?_) (set_ := ?_) (beam := hb)
  · have := hj.mem
    unfold JW at this ⊢
    rw [f9 23 (by decide) (by decide) (by decide)]
    exact this
  · intro s hs
    have pc : ∀ a p, w ≤ a → a + 3 < w + 141 → p < 30 → PR h a q p → PR k a q p := fun a p h1 h2 h3 hp => PR_congr (fun j _ => c _ (by omega) (by omega) (by omega) (by omega) (by omega) (by omega) (by omega) j) (fun j _ => c _ (by omega) (by omega) (by omega) (by omega) (by omega) (by omega) (by omega) j) (fun j _ => c _ (by omega) (by omega) (by omega) (by omega) (by omega) (by omega) (by omega) j) (fun j _ => c _ (by omega) (by omega) (by omega) (by omega) (by omega) (by omega) (by omega) j) (fun o h4 h5 => mm o (by omega) (by omega) (by omega) _) (fun j _ => mm 17 (by decide) (by decide) (by decide) _) ⟨mm 3 (by decide) (by decide) (by decide) _, mm 4 (by decide) (by decide) (by decide) _⟩ hp
    obtain ⟨p1, p2, p3⟩ := hj.pics s hs
    exact ⟨pc _ _ (by omega) (by omega) (by omega) p1, pc _ _ (by omega) (by omega) (by omega) p2, pc _ _ (by omega) (by omega) (by omega) p3⟩
  · exact PS_congr (by decide) (c _ (by omega) (by omega) (by omega) (by omega) (by omega) (by omega) (by omega) _) (fun l _ => c _ (by omega) (by omega) (by omega) (by omega) (by omega) (by omega) (by omega) _) (fun t ht => c _ (by omega) (by omega) (by omega) (by omega) (by omega) (by omega) (by omega) _) (fun t _ => mm 7 (by decide) (by decide) (by decide) _) (fun t _ => mm 10 (by decide) (by decide) (by decide) _) hj.pileC
  · exact PS_congr (by decide) (c _ (by omega) (by omega) (by omega) (by omega) (by omega) (by omega) (by omega) _) (fun l _ => c _ (by omega) (by omega) (by omega) (by omega) (by omega) (by omega) (by omega) _) (fun t ht => c _ (by omega) (by omega) (by omega) (by omega) (by omega) (by omega) (by omega) _) (fun t _ => mm 7 (by decide) (by decide) (by decide) _) (fun t _ => mm 10 (by decide) (by decide) (by decide) _) hj.pileT
  · intro s hs
    rw [mm 3 (by decide) (by decide) (by decide), mm 4 (by decide) (by decide) (by decide)]
    exact hj.cr s hs
  · exact fun s hs => JS_congr (c _ (by omega) (by omega) (by omega) (by omega) (by omega) (by omega) (by omega) _) (c _ (by omega) (by omega) (by omega) (by omega) (by omega) (by omega) (by omega) _) (c _ (by omega) (by omega) (by omega) (by omega) (by omega) (by omega) (by omega) _) (c _ (by omega) (by omega) (by omega) (by omega) (by omega) (by omega) (by omega) _) (fun o h1 h2 => mm o h1 (by omega) (by omega) _) (mm 7 (by decide) (by decide) (by decide) _) (mm 7 (by decide) (by decide) (by decide) _) (hj.num s hs)
  · exact JD_congr (fun _ _ => c _ (by omega) (by omega) (by omega) (by omega) (by omega) (by omega) (by omega) _) (c _ (by omega) (by omega) (by omega) (by omega) (by omega) (by omega) (by omega) _) (c _ (by omega) (by omega) (by omega) (by omega) (by omega) (by omega) (by omega) _) (fun _ _ => mm 19 (by decide) (by decide) (by decide) _) (f9 _ (by decide) (by decide) (by decide)) (f9 _ (by decide) (by decide) (by decide)) hj.desk
  · rw [c (w + 1) (by omega) (by omega) (by omega) (by omega) (by omega) (by omega) (by omega), fp_congr (fun s _ => mm 1 (by decide) (by decide) (by decide) s) (fun s _ => mm 3 (by decide) (by decide) (by decide) s) (fun s _ => mm 4 (by decide) (by decide) (by decide) s)]
    exact hj.free
  · exact fun i hi => JM_congr (fun j _ => c _ (by omega) (by omega) (by omega) (by omega) (by omega) (by omega) (by omega) _) (c _ (by omega) (by omega) (by omega) (by omega) (by omega) (by omega) (by omega) _) (fun i hi j => c _ (by omega) (by omega) (by omega) (by omega) (by omega) (by omega) (by omega) _) (fun j _ => mm 20 (by decide) (by decide) (by decide) _) (mm 21 (by decide) (by decide) (by decide) _) (fun o h1 h2 i _ => mm o (by omega) (by omega) (by omega) _) (hj.miss i hi)
  · exact JC_congr hP hB (fun i hi => (hj.miss i hi).2.2.1.2) (fun j _ => c _ (by omega) (by omega) (by omega) (by omega) (by omega) (by omega) (by omega) _) (c _ (by omega) (by omega) (by omega) (by omega) (by omega) (by omega) (by omega) _) (fun l _ => c _ (by omega) (by omega) (by omega) (by omega) (by omega) (by omega) (by omega) _) (fun j _ => c _ (by omega) (by omega) (by omega) (by omega) (by omega) (by omega) (by omega) _) (fun s hs j _ => c _ (by omega) (by omega) (by omega) (by omega) (by omega) (by omega) (by omega) _) (fun i hi i' hi' j => c _ (by omega) (by omega) (by omega) (by omega) (by omega) (by omega) (by omega) _) (fun i _ => mm 21 (by decide) (by decide) (by decide) _) (f9 _ (by decide) (by decide) (by decide)) (f9 _ (by decide) (by decide) (by decide)) (f9 _ (by decide) (by decide) (by decide)) (f9 _ (by decide) (by decide) (by decide)) (f9 _ (by decide) (by decide) (by decide)) hj.comp
  · exact fun i hi => JN_congr (JP_sOk hj.cr hj.pics) (c _ (by omega) (by omega) (by omega) (by omega) (by omega) (by omega) (by omega) _) (mm 26 (by decide) (by decide) (by decide) _) (fun j => c _ (by omega) (by omega) (by omega) (by omega) (by omega) (by omega) (by omega) _) (fun j => c _ (by omega) (by omega) (by omega) (by omega) (by omega) (by omega) (by omega) _) (fun s hs j _ => c _ (by omega) (by omega) (by omega) (by omega) (by omega) (by omega) (by omega) _) (fun s hs j _ => c _ (by omega) (by omega) (by omega) (by omega) (by omega) (by omega) (by omega) _) (fun s hs j _ => c _ (by omega) (by omega) (by omega) (by omega) (by omega) (by omega) (by omega) _) (fun s _ o h1 h2 => mm o (by omega) (by omega) (by omega) _) (hj.plan i hi)
  · exact fun i hi => JT_congr (c _ (by omega) (by omega) (by omega) (by omega) (by omega) (by omega) (by omega) _) (fun j => c _ (by omega) (by omega) (by omega) (by omega) (by omega) (by omega) (by omega) _) (fun j => c _ (by omega) (by omega) (by omega) (by omega) (by omega) (by omega) (by omega) _) (fun o h1 h2 j => mt o h1 h2 j) (hj.set_ i hi)
/-- the set plane i on the row R, for both sides -/
theorem JT_row {h : fx_H} {w q i R : Nat} (hi : i < 2) (ht : JT h w q i) (hR : R < 10) {row : Int32} (er : row = nI R) :
    mixOk h (w + 176) row i ∧ (∀ k : fx_H, (∀ a, w + 176 ≤ a → a ≤ w + 183 → ∀ j, fx_i k a j = fx_i h a j) → (∀ a j, a ≠ w + 184 → fx_i (b_PN_mixInto (w + 176) (w + 184) row i k) a j = fx_i k a j) ∧ (∀ j, fx_i (b_PN_mixInto (w + 176) (w + 184) row i k) (w + 184) j = if inT h q i j = true ∧ j / 20 = R then tPx h q i j else fx_i k (w + 184) j)) := by
  have a20 : (20 : Int32).toInt = 20 := rfl
  have a0 : (0 : Int32).toInt = 0 := rfl
  have erT : row.toInt = (R : Int) := by rw [er]; exact nI_toInt (by omega)
  have e1 : w + 176 + 1 = w + 177 := by omega
  have e3 : w + 176 + 3 + i = w + 179 + i := by omega
  have e6 : w + 176 + 6 + i = w + 182 + i := by omega
  rcases ht with ⟨t1, t2, t3⟩ | ⟨t1, x0, x1, x2, x3, ⟨b0, b1, b2, b3, b4, b5⟩, bw, bp⟩
  · have nT : ∀ j, inT h q i j = false := fun j => by
      unfold inT
      rw [t2, t3, a0]
      exact decide_eq_false (fun z => by omega)
    refine ⟨fun z => absurd (by rw [e1]; exact t1) z, fun k hk => ?_⟩
    have eb : b_PN_mixInto (w + 176) (w + 184) row i k = k := by
      unfold b_PN_mixInto
      rw [e1, hk _ (by omega) (by omega), if_pos t1]
    rw [eb]
    exact ⟨fun _ _ _ => rfl, fun j => by rw [nT, if_neg (fun z => by cases z.1)]⟩
  · have y1 : (fx_i h (q + 33) i + fx_i h (q + 35) i).toInt = (fx_i h (q + 33) i).toInt + (fx_i h (q + 35) i).toInt := iz_add (by omega)
    have in1 : (¬ row < fx_i h (q + 33) i ∧ ¬ fx_i h (q + 33) i + fx_i h (q + 35) i ≤ row) ↔ ((fx_i h (q + 33) i).toInt ≤ (R : Int) ∧ (R : Int) < (fx_i h (q + 33) i).toInt + (fx_i h (q + 35) i).toInt) := by
      rw [iz_lt, iz_le, y1, erT]
      omega
    have num : (fx_i h (q + 33) i).toInt ≤ (R : Int) → (R : Int) < (fx_i h (q + 33) i).toInt + (fx_i h (q + 35) i).toInt →
        ((row - fx_i h (q + 33) i) * fx_i h (q + 34) i).toInt = ((R : Int) - (fx_i h (q + 33) i).toInt) * (fx_i h (q + 34) i).toInt ∧ 0 ≤ ((R : Int) - (fx_i h (q + 33) i).toInt) * (fx_i h (q + 34) i).toInt ∧ ((R : Int) - (fx_i h (q + 33) i).toInt) * (fx_i h (q + 34) i).toInt + (fx_i h (q + 34) i).toInt ≤ (fx_i h (q + 34) i).toInt * (fx_i h (q + 35) i).toInt ∧ (row * 20 + fx_i h (q + 32) i).toInt = 20 * (R : Int) + (fx_i h (q + 32) i).toInt := by
      intro g1 g2
      have d1 : (row - fx_i h (q + 33) i).toInt = (R : Int) - (fx_i h (q + 33) i).toInt := by rw [iz_sub (by rw [erT]; omega), erT]
      have p0 : 0 ≤ ((R : Int) - (fx_i h (q + 33) i).toInt) * (fx_i h (q + 34) i).toInt := Int.mul_nonneg (by omega) (by omega)
      have p1 : ((R : Int) - (fx_i h (q + 33) i).toInt + 1) * (fx_i h (q + 34) i).toInt ≤ (fx_i h (q + 35) i).toInt * (fx_i h (q + 34) i).toInt := Int.mul_le_mul_of_nonneg_right (by omega) (by omega)
      rw [Int.add_mul, Int.one_mul, Int.mul_comm (fx_i h (q + 35) i).toInt] at p1
      have d2 : ((row - fx_i h (q + 33) i) * fx_i h (q + 34) i).toInt = ((R : Int) - (fx_i h (q + 33) i).toInt) * (fx_i h (q + 34) i).toInt := by rw [iz_mul (by rw [d1]; omega), d1]
      have d3 : (row * 20).toInt = 20 * (R : Int) := by rw [iz_mul (by rw [erT, a20]; omega), erT, a20]; omega
      exact ⟨d2, p0, p1, by rw [iz_add (by rw [d3]; omega), d3]⟩
    refine ⟨fun _ z2 z3 => ?_, fun k hk => ?_⟩
    · rw [e3, x1] at z2
      rw [e3, x1, x3] at z3
      obtain ⟨g1, g2⟩ := in1.mp ⟨z2, z3⟩
      obtain ⟨n1, n2, n3, n4⟩ := num g1 g2
      rw [e3, x0, x1, x2]
      have c1 := iz_nn (a := (row - fx_i h (q + 33) i) * fx_i h (q + 34) i) (by rw [n1]; exact n2)
      have c2 := iz_nn (a := row * 20 + fx_i h (q + 32) i) (by omega)
      have c3 := iz_nn (a := fx_i h (q + 34) i) (by omega)
      refine ⟨by rw [iz_lt, n1, a0]; omega, by rw [iz_lt, n4, a0]; omega, by rw [iz_lt, a0]; omega, by omega, by omega⟩
    · unfold b_PN_mixInto
      rw [e1, e3, e6, hk (w + 177) (by omega) (by omega), hk (w + 179 + i) (by omega) (by omega), hk (w + 179 + i) (by omega) (by omega), hk (w + 179 + i) (by omega) (by omega), hk (w + 179 + i) (by omega) (by omega), if_neg t1, x0, x1, x2, x3]
      by_cases g : (fx_i h (q + 33) i).toInt ≤ (R : Int) ∧ (R : Int) < (fx_i h (q + 33) i).toInt + (fx_i h (q + 35) i).toInt
      · obtain ⟨z2, z3⟩ := in1.mpr g
        obtain ⟨n1, n2, n3, n4⟩ := num g.1 g.2
        have c1 := iz_nn (a := (row - fx_i h (q + 33) i) * fx_i h (q + 34) i) (by rw [n1]; exact n2)
        have c2 := iz_nn (a := row * 20 + fx_i h (q + 32) i) (by omega)
        have c3 := iz_nn (a := fx_i h (q + 34) i) (by omega)
        rw [if_neg z2, if_neg z3]
        refine ⟨fun a j g1 => by rw [fx_i_cp, if_neg g1], fun j => ?_⟩
        rw [fx_i_cp, if_pos rfl]
        unfold va_cpy
        have q1 : (row * 20 + fx_i h (q + 32) i).toNatClampNeg = 20 * R + (fx_i h (q + 32) i).toInt.toNat := by omega
        by_cases y : (row * 20 + fx_i h (q + 32) i).toNatClampNeg ≤ j ∧ j < (row * 20 + fx_i h (q + 32) i).toNatClampNeg + (fx_i h (q + 34) i).toNatClampNeg
        · have m1 : j / 20 = R := by omega
          have m2 : j % 20 = j - 20 * R := by omega
          have inj : inT h q i j = true := by
            unfold inT
            refine decide_eq_true ?_
            rw [m1, m2]
            omega
          rw [if_pos y, if_pos ⟨inj, m1⟩, hk _ (by omega) (by omega)]
          unfold tPx
          rw [m1, m2]
          have e9 : ((row - fx_i h (q + 33) i) * fx_i h (q + 34) i).toNatClampNeg + (j - (row * 20 + fx_i h (q + 32) i).toNatClampNeg) = (fx_i h (q + 34) i).toInt.toNat * (R - (fx_i h (q + 33) i).toInt.toNat) + (j - 20 * R - (fx_i h (q + 32) i).toInt.toNat) := by
            have f1 : (((fx_i h (q + 34) i).toInt.toNat * (R - (fx_i h (q + 33) i).toInt.toNat) : Nat) : Int) = ((R : Int) - (fx_i h (q + 33) i).toInt) * (fx_i h (q + 34) i).toInt := by
              rw [Int.natCast_mul, Int.mul_comm]
              have u1 : (((R - (fx_i h (q + 33) i).toInt.toNat : Nat)) : Int) = (R : Int) - (fx_i h (q + 33) i).toInt := by omega
              have u2 : (((fx_i h (q + 34) i).toInt.toNat : Nat) : Int) = (fx_i h (q + 34) i).toInt := by omega
              rw [u1, u2]
            generalize (fx_i h (q + 34) i).toInt.toNat * (R - (fx_i h (q + 33) i).toInt.toNat) = T at *
            omega
          rw [e9]
          refine bp _ ?_
          have f1 : (((fx_i h (q + 34) i).toInt.toNat * (R - (fx_i h (q + 33) i).toInt.toNat) : Nat) : Int) = ((R : Int) - (fx_i h (q + 33) i).toInt) * (fx_i h (q + 34) i).toInt := by
            rw [Int.natCast_mul, Int.mul_comm]
            have u1 : (((R - (fx_i h (q + 33) i).toInt.toNat : Nat)) : Int) = (R : Int) - (fx_i h (q + 33) i).toInt := by omega
            have u2 : (((fx_i h (q + 34) i).toInt.toNat : Nat) : Int) = (fx_i h (q + 34) i).toInt := by omega
            rw [u1, u2]
          generalize (fx_i h (q + 34) i).toInt.toNat * (R - (fx_i h (q + 33) i).toInt.toNat) = T at *
          omega
        · rw [if_neg y, if_neg]
          rintro ⟨z, m1⟩
          have z' := of_decide_eq_true z
          have m2 : j % 20 = j - 20 * R := by omega
          rw [m1, m2] at z'
          exact y (by omega)
      · have eb : (if row < fx_i h (q + 33) i then k else if fx_i h (q + 33) i + fx_i h (q + 35) i ≤ row then k else fx_cp k (w + 182 + i) (w + 184) ((row - fx_i h (q + 33) i) * fx_i h (q + 34) i).toNatClampNeg (row * 20 + fx_i h (q + 32) i).toNatClampNeg (fx_i h (q + 34) i).toNatClampNeg) = k := by
          by_cases z2 : row < fx_i h (q + 33) i
          · rw [if_pos z2]
          · rw [if_neg z2]
            by_cases z3 : fx_i h (q + 33) i + fx_i h (q + 35) i ≤ row
            · rw [if_pos z3]
            · exact absurd (in1.mp ⟨z2, z3⟩) g
        rw [eb]
        refine ⟨fun _ _ _ => rfl, fun j => ?_⟩
        rw [if_neg]
        rintro ⟨z, m1⟩
        have z' := of_decide_eq_true z
        rw [m1] at z'
        exact g ⟨z'.1, z'.2.1⟩
theorem scanRow_v {h : fx_H} {w q f b R : Nat} (hj : J h w q f b) (hR : R < 10) (er : fx_i h (w + 175) 3 = nI R) :
    (∀ a j, a ≠ w + 175 → a ≠ w + 184 → fx_i (k_BE_scanRow h (w + 175) f) a j = fx_i h a j) ∧ (∀ j, j ≠ 3 → fx_i (k_BE_scanRow h (w + 175) f) (w + 175) j = fx_i h (w + 175) j) ∧ fx_i (k_BE_scanRow h (w + 175) f) (w + 175) 3 = nI (R + 1) ∧ v_BE_scanRow h (w + 175) f = nI R ∧
    (∀ j, fx_i (k_BE_scanRow h (w + 175) f) (w + 184) j = if j / 20 = R then lkC h q j else fx_i h (w + 184) j) := by
  have a20 : (20 : Int32).toInt = 20 := rfl
  have hB := bk_2 hj.mem
  obtain ⟨-, ef, -⟩ := J_back hj
  have e9 : w + 175 + 9 = w + 184 := by omega
  have e1 : w + 175 + 1 = w + 176 := by omega
  have c20 : (20 : Int32).toNatClampNeg = 20 := rfl
  have cR : (nI R * 20).toNatClampNeg = 20 * R := by
    have t1 : (nI R).toInt = R := nI_toInt (by omega)
    have t2 : (nI R * 20).toInt = R * 20 := by rw [iz_mul (by rw [t1, a20]; omega), t1, a20]
    have := iz_nn (a := nI R * 20) (by omega)
    omega
  unfold k_BE_scanRow v_BE_scanRow
  rw [er, e9, e1, cR, c20]
  generalize hA : fx_cp h (f + 1) (w + 184) (20 * R) (20 * R) 20 = A
  have ao : ∀ a j, a ≠ w + 184 → fx_i A a j = fx_i h a j := fun a j g => by rw [← hA, fx_i_cp, if_neg g]
  have av : ∀ j, fx_i A (w + 184) j = if j / 20 = R then fx_i h (q + 20) (200 * (1 - bk h q) + j) else fx_i h (w + 184) j := fun j => by
    rw [← hA, fx_i_cp, if_pos rfl]
    unfold va_cpy
    by_cases z : j / 20 = R
    · rw [if_pos (by omega), if_pos z, ef]
      have e : 20 * R + (j - 20 * R) = j := by omega
      rw [e]
      exact ((hj.miss (1 - bk h q) (by omega)).1 j (by omega)).1
    · rw [if_neg (by omega), if_neg z]
  have eA3 : fx_i A (w + 175) 3 = nI R := (ao _ _ (by omega)).trans er
  rw [eA3]
  have r0 := (JT_row (by decide) (hj.set_ 0 (by decide)) hR (row := nI R) rfl).2
  have r1 := (JT_row (by decide) (hj.set_ 1 (by decide)) hR (row := nI R) rfl).2
  have em : k_PN_mixInto A (w + 176) (w + 184) (nI R) = b_PN_mixInto (w + 176) (w + 184) (nI R) 1 (b_PN_mixInto (w + 176) (w + 184) (nI R) 0 A) := by
    unfold k_PN_mixInto
    rw [it_s, it_s, it_0]
  rw [em]
  obtain ⟨p1, p2⟩ := r0 A (fun a g1 g2 j => ao a j (by omega))
  generalize b_PN_mixInto (w + 176) (w + 184) (nI R) 0 A = B at *
  obtain ⟨q1, q2⟩ := r1 B (fun a g1 g2 j => (p1 a j (by omega)).trans (ao a j (by omega)))
  generalize b_PN_mixInto (w + 176) (w + 184) (nI R) 1 B = D at *
  have eD3 : fx_i D (w + 175) 3 = nI R := (q1 _ _ (by omega)).trans ((p1 _ _ (by omega)).trans eA3)
  rw [eD3, ← nI_succ]
  refine ⟨fun a j g1 g2 => ?_, fun j g => ?_, ?_, ?_, fun j => ?_⟩
  · rw [fx_i_wi, if_neg (fun z => g1 z.1), q1 _ _ g2, p1 _ _ g2, ao _ _ g2]
  · rw [fx_i_wi, if_neg (fun z => g z.2), q1 _ _ (by omega), p1 _ _ (by omega), ao _ _ (by omega)]
  · rw [fx_i_wi, if_pos ⟨rfl, rfl⟩]
  · rw [fx_i_wi, if_pos ⟨rfl, rfl⟩, nI_pred]
  · rw [fx_i_wi, if_neg (fun z => by omega), q2, p2, av]
    unfold lkC
    by_cases z : j / 20 = R
    · rw [if_pos z, if_pos z]
      by_cases z1 : inT h q 1 j = true
      · rw [if_pos ⟨z1, z⟩, if_pos z1]
      · rw [if_neg (fun y => z1 y.1), if_neg z1]
        by_cases z0 : inT h q 0 j = true
        · rw [if_pos ⟨z0, z⟩, if_pos z0]
        · rw [if_neg (fun y => z0 y.1), if_neg z0]
    · rw [if_neg (fun y => z y.2), if_neg (fun y => z y.2), if_neg z, if_neg z]
/-- a set plane, as the Model alone knows it -/
def JTm (h : fx_H) (q i : Nat) : Prop := (fx_i h (q + 34) i = 0 ∧ fx_i h (q + 35) i = 0) ∨ ((0 ≤ (fx_i h (q + 32) i).toInt ∧ 0 ≤ (fx_i h (q + 33) i).toInt ∧ 0 < (fx_i h (q + 34) i).toInt ∧ 0 < (fx_i h (q + 35) i).toInt ∧ (fx_i h (q + 32) i).toInt + (fx_i h (q + 34) i).toInt ≤ 20 ∧ (fx_i h (q + 33) i).toInt + (fx_i h (q + 35) i).toInt ≤ 10) ∧ (fx_i h (q + 34) i).toInt * (fx_i h (q + 35) i).toInt ≤ 24)
theorem JT_m {h : fx_H} {w q i : Nat} (ht : JT h w q i) : JTm h q i := by
  rcases ht with ⟨-, t2, t3⟩ | ⟨-, -, -, -, -, b, bw, -⟩
  · exact Or.inl ⟨t2, t3⟩
  · exact Or.inr ⟨b, bw⟩
/-- the Model's look: every pixel of the screen -/
theorem look_T {h k : fx_H} {q i : Nat} (hi : i < 2) (ht : JTm h q i) (hk : fx_on (q + 37) h k) : fx_on (q + 37) h (b2_MO_look h q i k) ∧ ∀ j, j < 200 → fx_i (b2_MO_look h q i k) (q + 37) j = if inT h q i j = true then tPx h q i j else fx_i k (q + 37) j := by
  have a0 : (0 : Int32).toInt = 0 := rfl
  have a20 : (20 : Int32).toInt = 20 := rfl
  have a24 : (24 : Int32).toInt = 24 := rfl
  rcases ht with ⟨t2, t3⟩ | ⟨⟨b0, b1, b2, b3, b4, b5⟩, bw⟩
  · have nT : ∀ j, inT h q i j = false := fun j => by
      unfold inT
      rw [t2, t3, a0]
      exact decide_eq_false (fun z => by omega)
    have eb : b2_MO_look h q i k = k := by
      unfold b2_MO_look
      rw [t3]
      exact its_0 _ _
    rw [eb]
    exact ⟨hk, fun j _ => by rw [nT, if_neg (by decide)]⟩
  · have c3 := iz_nn (a := fx_i h (q + 34) i) (by omega)
    have c4 := iz_nn (a := fx_i h (q + 35) i) (by omega)
    let X := (fx_i h (q + 32) i).toInt.toNat
    let Y := (fx_i h (q + 33) i).toInt.toNat
    let W := (fx_i h (q + 34) i).toNatClampNeg
    let H := (fx_i h (q + 35) i).toNatClampNeg
    have eX : ((X : Nat) : Int) = (fx_i h (q + 32) i).toInt := by show (((fx_i h (q + 32) i).toInt.toNat : Nat) : Int) = _; omega
    have eY : ((Y : Nat) : Int) = (fx_i h (q + 33) i).toInt := by show (((fx_i h (q + 33) i).toInt.toNat : Nat) : Int) = _; omega
    have hWH : W * H ≤ 24 := by
      have : ((W * H : Nat) : Int) ≤ 24 := by rw [Int.natCast_mul, c3, c4]; exact bw
      omega
    have step : ∀ j n u, j < H → n < W → fx_on (q + 37) h u → lkI q i j n u = if true = true then fx_wi u (q + 37) (20 * (Y + j) + X + n) (fx_i h (q + 36) (24 * i + (W * j + n))) else u := by
      intro j n u hj hn hu
      have hj' : (j : Int) < (fx_i h (q + 35) i).toInt := by omega
      have hn' : (n : Int) < (fx_i h (q + 34) i).toInt := by omega
      have tj : (nI j).toInt = j := nI_toInt (by omega)
      have tn : (nI n).toInt = n := nI_toInt (by omega)
      have ti : (nI i).toInt = i := nI_toInt (by omega)
      have u1 : (fx_i h (q + 33) i + nI j).toInt = (fx_i h (q + 33) i).toInt + j := by rw [iz_add (by rw [tj]; omega), tj]
      have u2 : (20 * (fx_i h (q + 33) i + nI j)).toInt = 20 * ((fx_i h (q + 33) i).toInt + j) := by rw [iz_mul (by rw [a20, u1]; omega), a20, u1]
      have u3 : (20 * (fx_i h (q + 33) i + nI j) + fx_i h (q + 32) i).toInt = 20 * ((fx_i h (q + 33) i).toInt + j) + (fx_i h (q + 32) i).toInt := by rw [iz_add (by rw [u2]; omega), u2]
      have u4 : (20 * (fx_i h (q + 33) i + nI j) + fx_i h (q + 32) i + nI n).toInt = 20 * ((fx_i h (q + 33) i).toInt + j) + (fx_i h (q + 32) i).toInt + n := by rw [iz_add (by rw [u3, tn]; omega), u3, tn]
      have u5 := iz_nn (a := 20 * (fx_i h (q + 33) i + nI j) + fx_i h (q + 32) i + nI n) (by omega)
      have wj : 0 ≤ (fx_i h (q + 34) i).toInt * (j : Int) ∧ (fx_i h (q + 34) i).toInt * (j : Int) + (fx_i h (q + 34) i).toInt ≤ (fx_i h (q + 34) i).toInt * (fx_i h (q + 35) i).toInt := by
        refine ⟨Int.mul_nonneg (by omega) (by omega), ?_⟩
        have := Int.mul_le_mul_of_nonneg_left (show (j : Int) + 1 ≤ (fx_i h (q + 35) i).toInt by omega) (show 0 ≤ (fx_i h (q + 34) i).toInt by omega)
        rw [Int.mul_add, Int.mul_one] at this
        exact this
      have s1 : (24 * nI i).toInt = 24 * (i : Int) := by rw [iz_mul (by rw [a24, ti]; omega), a24, ti]
      have s2 : (fx_i h (q + 34) i * nI j).toInt = (fx_i h (q + 34) i).toInt * (j : Int) := by rw [iz_mul (by rw [tj]; omega), tj]
      have wn : ((W * j : Nat) : Int) = (fx_i h (q + 34) i).toInt * (j : Int) := by rw [Int.natCast_mul, c3]
      have s3 : (24 * nI i + fx_i h (q + 34) i * nI j).toInt = 24 * (i : Int) + (fx_i h (q + 34) i).toInt * (j : Int) := by rw [iz_add (by rw [s1, s2]; omega), s1, s2]
      have s4 : (24 * nI i + fx_i h (q + 34) i * nI j + nI n).toInt = 24 * (i : Int) + (fx_i h (q + 34) i).toInt * (j : Int) + n := by rw [iz_add (by rw [s3, tn]; omega), s3, tn]
      have s5 := iz_nn (a := 24 * nI i + fx_i h (q + 34) i * nI j + nI n) (by omega)
      rw [if_pos rfl]
      unfold lkI
      rw [hu.2 (q + 33) (by omega), hu.2 (q + 32) (by omega), hu.2 (q + 34) (by omega), hu.2 (q + 36) (by omega)]
      have f1 : (20 * (fx_i h (q + 33) i + nI j) + fx_i h (q + 32) i + nI n).toNatClampNeg = 20 * (Y + j) + X + n := by omega
      have f2 : (24 * nI i + fx_i h (q + 34) i * nI j + nI n).toNatClampNeg = 24 * i + (W * j + n) := by omega
      rw [f1, f2]
    have inj : ∀ j n j' n', j < H → n < W → j' < H → n' < W → true = true → true = true → 20 * (Y + j) + X + n = 20 * (Y + j') + X + n' → j = j' ∧ n = n' := by
      intro j n j' n' h1 h2 h3 h4 _ _ e
      have : (n : Int) < 20 - X ∧ (n' : Int) < 20 - X := by omega
      omega
    have eo : b2_MO_look h q i k = it (fun j u => it (lkI q i j) u W) k H := by
      unfold b2_MO_look
      rw [its_it]
      have : (lkO h q i) = (fun j u => it (lkI q i j) u W) := by
        funext j u
        unfold lkO
        exact its_it _ _ _
      rw [this]
    obtain ⟨g1, g2, g3⟩ := grid (A := q + 37) (h := k) (fun j n => 20 * (Y + j) + X + n) (fun _ _ => true) (fun j n _ => fx_i h (q + 36) (24 * i + (W * j + n))) (fun j n u => lkI q i j n u) H (C := W) (fun j n u h1 h2 h3 => step j n u h1 h2 (fx_on_t hk h3)) inj H (Nat.le_refl _)
    rw [eo]
    refine ⟨fx_on_t hk g1, fun j hj => ?_⟩
    by_cases z : inT h q i j = true
    · rw [if_pos z]
      have z' := of_decide_eq_true z
      have := g2 (j / 20 - Y) (j % 20 - X) (by omega) (by omega) rfl
      have e1 : 20 * (Y + (j / 20 - Y)) + X + (j % 20 - X) = j := by omega
      rw [e1] at this
      refine this.trans ?_
      unfold tPx
      have eW : W = (fx_i h (q + 34) i).toInt.toNat := by omega
      rw [eW]
    · rw [if_neg z]
      refine g3 j (fun j' n' h1 h2 _ e => z ?_)
      unfold inT
      refine decide_eq_true ?_
      have e1 : j / 20 = Y + j' := by omega
      have e2 : j % 20 = X + n' := by omega
      rw [e1, e2]
      omega
theorem look_v {h : fx_H} {q : Nat} (hb : vp_in (fx_i h q 23) 2) (h0 : JTm h q 0) (h1 : JTm h q 1) : ∀ j, j < 200 → fx_i (k_MO_look h q) (q + 37) j = lkC h q j := by
  obtain ⟨m, hm, em⟩ := vp_in_of hb (by decide)
  have ebk : bk h q = m := by unfold bk; rw [em]; exact nI_clamp (by omega)
  have a200 : (200 : Int32).toInt = 200 := rfl
  have a1 : (1 : Int32).toInt = 1 := rfl
  have front : ∀ i, i < 200 → ((200 : Int32) * (1 - fx_i h q 23) + nI i).toNatClampNeg = 200 * (1 - bk h q) + i := by
    intro i hi
    have ti : (nI i).toInt = i := nI_toInt (by omega)
    have tm : (nI m).toInt = m := nI_toInt (by omega)
    rw [em, ebk]
    have s1 : (1 - nI m).toInt = 1 - (m : Int) := by rw [iz_sub (by rw [a1, tm]; omega), a1, tm]
    have s2 : (200 * (1 - nI m)).toInt = 200 * (1 - (m : Int)) := by rw [iz_mul (by rw [a200, s1]; omega), a200, s1]
    have s3 : (200 * (1 - nI m) + nI i).toInt = 200 * (1 - (m : Int)) + i := by rw [iz_add (by rw [s2, ti]; omega), s2, ti]
    have := iz_nn (a := 200 * (1 - nI m) + nI i) (by omega)
    omega
  have l1 : ∀ n, n ≤ 200 → fx_on (q + 37) h (it (b1_MO_look h q) h n) ∧ ∀ j, j < n → fx_i (it (b1_MO_look h q) h n) (q + 37) j = fx_i h (q + 20) (200 * (1 - bk h q) + j) := by
    intro n
    induction n with
    | zero => intro _; rw [it_0]; exact ⟨fx_on_rf _ _, fun j hj => absurd hj (by omega)⟩
    | succ n ih =>
      intro hn
      obtain ⟨i1, i2⟩ := ih (by omega)
      rw [it_s]
      generalize it (b1_MO_look h q) h n = u at *
      unfold b1_MO_look
      rw [front n (by omega), i1.2 (q + 20) (by omega)]
      refine ⟨fx_on_t i1 (fx_on_wi _ _ _ _), fun j hj => ?_⟩
      rw [fx_i_wi]
      by_cases z : j = n
      · rw [if_pos ⟨rfl, z⟩, z]
      · rw [if_neg (fun y => z y.2)]
        exact i2 j (by omega)
  obtain ⟨p1, p2⟩ := l1 200 (Nat.le_refl _)
  intro j hj
  unfold k_MO_look
  rw [fx_i_wi, if_neg (fun z => by omega), fx_i_wi, if_neg (fun z => by omega), it_s, it_s, it_0]
  generalize it (b1_MO_look h q) h 200 = u at *
  obtain ⟨q1, q2⟩ := look_T (i := 0) (by decide) h0 p1
  generalize b2_MO_look h q 0 u = v at *
  obtain ⟨-, r2⟩ := look_T (i := 1) (by decide) h1 q1
  rw [r2 j hj, q2 j hj, p2 j hj]
  rfl
