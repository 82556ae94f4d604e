/-! ===== a picture of the class and its picture in the Model ===== -/
/-- a rectangle of the class against numbers of the Model -/
def rIs (h : fx_H) (a : Nat) (x y w t : Int) : Prop := (fx_i h a 0).toInt = x ∧ (fx_i h a 1).toInt = y ∧ (fx_i h a 2).toInt = w ∧ (fx_i h a 3).toInt = t
def PE (h : fx_H) (a q p : Nat) : Prop :=
  (fx_i h a 1 = fx_i h (q + 3) (p % 10) ∧ fx_i h a 2 = fx_i h (q + 4) (p % 10) ∧ fx_i h a 3 = fx_i h (q + 8) p ∧ fx_i h a 4 = fx_i h (q + 9) p ∧ fx_i h a 5 = fx_i h (q + 10) p ∧ fx_i h a 6 = fx_i h (q + 11) p ∧ (fx_i h a 7 = 0 ↔ fx_i h (q + 12) p = 0)) ∧
  (∀ k, k < 96 → fx_i h (a + 1) k = fx_i h (q + 17) (96 * p + k) ∧ 0 ≤ (fx_i h (a + 1) k).toInt ∧ (fx_i h (a + 1) k).toInt ≤ 65535) ∧
  (fx_i h (a + 2) 0 = fx_i h (q + 13) p ∧ fx_i h (a + 2) 1 = fx_i h (q + 14) p ∧ (0 ≤ (fx_i h (a + 2) 2).toInt ∧ (fx_i h (a + 2) 2).toInt ≤ 12) ∧ (0 ≤ (fx_i h (a + 2) 3).toInt ∧ (fx_i h (a + 2) 3).toInt ≤ 8) ∧
    ((fx_i h (q + 15) p).toInt = 0 → (fx_i h (a + 2) 2).toInt = 0 ∨ (fx_i h (a + 2) 3).toInt = 0) ∧ (0 < (fx_i h (q + 15) p).toInt → fx_i h (a + 2) 2 = fx_i h (q + 15) p ∧ fx_i h (a + 2) 3 = fx_i h (q + 16) p)) ∧
  mpOk h q p ∧ (0 ≤ (fx_i h (q + 10) p).toInt ∧ (fx_i h (q + 10) p).toInt ≤ 9) ∧ (0 ≤ (fx_i h (q + 11) p).toInt ∧ (fx_i h (q + 11) p).toInt ≤ 16)
/-- what the class keeps as shown is what the Model finds -/
def SR (h : fx_H) (a q p : Nat) : Prop := rOk h (a + 3) ∧ (shE h q p → fx_i h (a + 3) 2 = 0 ∨ fx_i h (a + 3) 3 = 0) ∧ (¬ shE h q p → rIs h (a + 3) (shX h q p) (shY h q p) (shR h q p - shX h q p) (shB h q p - shY h q p))
def PR (h : fx_H) (a q p : Nat) : Prop := (fx_i h a 0 = 0 ↔ fx_i h (q + 7) p = 0) ∧ SR h a q p ∧ (¬ fx_i h a 0 = 0 → PE h a q p)
/-- the two look at the same cells -/
theorem PR_congr {h k : fx_H} {a b q p r : Nat} (e0 : ∀ j, j < 8 → fx_i k b j = fx_i h a j) (e1 : ∀ j, j < 96 → fx_i k (b + 1) j = fx_i h (a + 1) j) (e2 : ∀ j, j < 4 → fx_i k (b + 2) j = fx_i h (a + 2) j) (e3 : ∀ j, j < 4 → fx_i k (b + 3) j = fx_i h (a + 3) j)
    (f : ∀ o, 7 ≤ o → o ≤ 16 → fx_i k (q + o) r = fx_i h (q + o) p) (f17 : ∀ j, j < 96 → fx_i k (q + 17) (96 * r + j) = fx_i h (q + 17) (96 * p + j)) (fc : fx_i k (q + 3) (r % 10) = fx_i h (q + 3) (p % 10) ∧ fx_i k (q + 4) (r % 10) = fx_i h (q + 4) (p % 10)) (hp : PR h a q p) : PR k b q r := by
  have g7 := f 7 (by decide) (by decide)
  have g8 := f 8 (by decide) (by decide)
  have g9 := f 9 (by decide) (by decide)
  have g10 := f 10 (by decide) (by decide)
  have g11 := f 11 (by decide) (by decide)
  have g12 := f 12 (by decide) (by decide)
  have g13 := f 13 (by decide) (by decide)
  have g14 := f 14 (by decide) (by decide)
  have g15 := f 15 (by decide) (by decide)
  have g16 := f 16 (by decide) (by decide)
  have x1 : shX k q r = shX h q p := by unfold shX; rw [g8, g13]
  have x2 : shY k q r = shY h q p := by unfold shY; rw [g9, g14]
  have x3 : shR k q r = shR h q p := by unfold shR; rw [g8, g13, g15]
  have x4 : shB k q r = shB h q p := by unfold shB; rw [g9, g14, g16]
  have x5 : shE k q r ↔ shE h q p := by unfold shE; rw [g7, g12, x1, x2, x3, x4]
  have x6 : mpOk h q p → mpOk k q r := by
    unfold mpOk
    rw [g8, g9, g13, g14, g15, g16, fc.1, fc.2]
    exact id
  obtain ⟨p1, ⟨p2, p3, p4⟩, p5⟩ := hp
  refine ⟨by rw [e0 0 (by decide), g7]; exact p1, ⟨?_, ?_, ?_⟩, ?_⟩
  · exact rOk_of (fun j hj => e3 j hj) p2
  · rw [x5, e3 2 (by decide), e3 3 (by decide)]
    exact p3
  · rw [x5]
    unfold rIs
    rw [e3 0 (by decide), e3 1 (by decide), e3 2 (by decide), e3 3 (by decide), x1, x2, x3, x4]
    exact p4
  · rw [e0 0 (by decide)]
    intro h0
    obtain ⟨q1, q2, q3, q4, q5⟩ := p5 h0
    refine ⟨?_, ?_, ?_, x6 q4, ?_⟩
    · rw [e0 1 (by decide), e0 2 (by decide), e0 3 (by decide), e0 4 (by decide), e0 5 (by decide), e0 6 (by decide), e0 7 (by decide), g8, g9, g10, g11, g12, fc.1, fc.2]
      exact q1
    · intro j hj
      rw [e1 j hj, f17 j hj]
      exact q2 j hj
    · rw [e2 0 (by decide), e2 1 (by decide), e2 2 (by decide), e2 3 (by decide), g13, g14, g15, g16]
      exact q3
    · rw [g10, g11]
      exact q5
theorem PR_has {h : fx_H} {a q p : Nat} (hp : PR h a q p) (x y : Int32) : (¬ rHas h (a + 3) x y = 0) ↔ (¬ shE h q p ∧ (shX h q p ≤ x.toInt ∧ x.toInt < shR h q p) ∧ shY h q p ≤ y.toInt ∧ y.toInt < shB h q p) := by
  obtain ⟨-, ⟨h1, h2, h3⟩, -⟩ := hp
  obtain ⟨o1, o2, o3, o4⟩ := h1
  have t3 : (fx_i h (a + 3) 0 + fx_i h (a + 3) 2).toInt = _ := iz_add (by omega)
  have t4 : (fx_i h (a + 3) 1 + fx_i h (a + 3) 3).toInt = _ := iz_add (by omega)
  have e : (¬ rHas h (a + 3) x y = 0) ↔ ((fx_i h (a + 3) 0).toInt ≤ x.toInt ∧ x.toInt < (fx_i h (a + 3) 0).toInt + (fx_i h (a + 3) 2).toInt ∧ (fx_i h (a + 3) 1).toInt ≤ y.toInt ∧ y.toInt < (fx_i h (a + 3) 1).toInt + (fx_i h (a + 3) 3).toInt) := by
    unfold rHas
    split <;> rename_i z <;> rw [iz_lt, iz_lt, iz_le, iz_le, t3, t4] at z
    · exact ⟨fun _ => by omega, fun _ => by decide⟩
    · exact ⟨fun w => absurd rfl w, fun w => by omega⟩
  rw [e]
  by_cases he : shE h q p
  · have e0 : (0 : Int32).toInt = 0 := rfl
    rcases h2 he with z | z
    · rw [z, e0]
      exact ⟨fun w => by omega, fun w => absurd he w.1⟩
    · rw [z, e0]
      exact ⟨fun w => by omega, fun w => absurd he w.1⟩
  · obtain ⟨r1, r2, r3, r4⟩ := h3 he
    rw [r1, r2, r3, r4]
    exact ⟨fun w => ⟨he, by omega, by omega⟩, fun w => by omega⟩
theorem shE_there {h : fx_H} {q p : Nat} (he : ¬ shE h q p) : ¬ fx_i h (q + 7) p = 0 := fun z => he (Or.inl z)
/-- the pixel that both show -/
theorem PR_color {h : fx_H} {a q p : Nat} (hp9 : p < 30) (hcr : mCR h q) (hp : PR h a q p) (x y : Int32) (hh : ¬ rHas h (a + 3) x y = 0) :
    vp_in (pIx h a x y) 96 ∧ pColor h a x y = v_MO_pixelOf h q (nI p) x y ∧ 0 ≤ (pColor h a x y).toInt ∧ (pColor h a x y).toInt ≤ 65535 := by
  obtain ⟨he, hx, hy⟩ := (PR_has hp x y).mp hh
  have ht := shE_there he
  obtain ⟨p1, p2, p5⟩ := hp
  obtain ⟨⟨c1, c2, c3, c4, -⟩, q2, -, q4, -⟩ := p5 (fun z => ht (p1.mp z))
  obtain ⟨⟨u0, u1, v0, v1⟩, m1, m2⟩ := pix_ix h q p hp9 hcr q4 x y hx hy
  obtain ⟨b1, b2⟩ := hcr (p % 10) (by omega)
  have px1 := q4.1
  have py1 := q4.2.1
  have ep : (nI p).toNatClampNeg = p := nI_clamp (by omega)
  have eq : (nI (p % 10)).toNatClampNeg = p % 10 := nI_clamp (by omega)
  have t1 : (y - fx_i h (q + 9) p).toInt = _ := iz_sub (by omega)
  have t2 : ((y - fx_i h (q + 9) p) * fx_i h (q + 3) (p % 10)).toInt = (fx_i h (q + 3) (p % 10)).toInt * (y.toInt - (fx_i h (q + 9) p).toInt) := by
    rw [iz_mul (by rw [t1, Int.mul_comm]; omega), t1, Int.mul_comm]
  unfold pColor v_MO_pixelOf
  rw [p10 p hp9, ep, eq]
  have e1 : pIx h a x y = (y - fx_i h (q + 9) p) * fx_i h (q + 3) (p % 10) + x - fx_i h (q + 8) p := by unfold pIx; rw [c1, c3, c4]
  generalize (fx_i h (q + 3) (p % 10)).toInt * (y.toInt - (fx_i h (q + 9) p).toInt) = cv at *
  have t3 : ((y - fx_i h (q + 9) p) * fx_i h (q + 3) (p % 10) + x).toInt = cv + x.toInt := by rw [iz_add (by rw [t2]; omega), t2]
  have t4 : (pIx h a x y).toInt = cv + (x.toInt - (fx_i h (q + 8) p).toInt) := by rw [e1, iz_sub (by rw [t3]; omega), t3]; omega
  have n1 := iz_nn (a := pIx h a x y) (by omega)
  have n2 := iz_nn (a := 96 * nI p + fx_i h (q + 3) (p % 10) * (y - fx_i h (q + 9) p) + x - fx_i h (q + 8) p) (by rw [m2]; omega)
  have n3 : (96 * nI p + fx_i h (q + 3) (p % 10) * (y - fx_i h (q + 9) p) + x - fx_i h (q + 8) p).toNatClampNeg = 96 * p + (pIx h a x y).toNatClampNeg := by
    have : ((96 * nI p + fx_i h (q + 3) (p % 10) * (y - fx_i h (q + 9) p) + x - fx_i h (q + 8) p).toNatClampNeg : Int) = ((96 * p + (pIx h a x y).toNatClampNeg : Nat) : Int) := by
      rw [n2, m2]
      omega
    omega
  have n4 : (pIx h a x y).toNatClampNeg < 96 := by omega
  refine ⟨iz_in (by omega) (by omega), ?_, (q2 _ n4).2⟩
  rw [(q2 _ n4).1]
  exact congrArg (fx_i h (q + 17)) n3.symm
theorem PR_sOk {h : fx_H} {a q p : Nat} (hp9 : p < 30) (hcr : mCR h q) (hp : PR h a q p) : sOk h a := ⟨hp.2.1.1, fun x y hh => (PR_color hp9 hcr hp x y hh).1⟩
/-! ===== colors ===== -/
def isCol (c : Int32) : Prop := 0 ≤ c.toInt ∧ c.toInt ≤ 65535
theorem iz_nat {a : Int32} (h : 0 ≤ a.toInt) : (a.toBitVec.toNat : Int) = a.toInt := by
  have h1 := Int32.toInt_lt a
  have h2 : a.toInt = if 2 * a.toBitVec.toNat < 2 ^ 32 then (a.toBitVec.toNat : Int) else (a.toBitVec.toNat : Int) - (2 ^ 32 : Nat) := BitVec.toInt_eq_toNat_cond a.toBitVec
  have h3 := a.toBitVec.isLt
  split at h2 <;> omega
theorem iz_of {n : Nat} (h : n < 2 ^ 31) (a : Int32) (e : a.toBitVec.toNat = n) : a.toInt = n := by
  have h2 : a.toInt = a.toBitVec.toInt := rfl
  rw [h2, BitVec.toInt_eq_toNat_cond, e, if_pos (by omega)]
theorem smod32 : ∀ k, k < 32 → (Int32.ofNat k).toBitVec.smod 32 = BitVec.ofNat 32 k := by decide +kernel
theorem shr_nat {c : Int32} (k : Nat) (hk : k < 32) (hc : 0 ≤ c.toInt) : (c >>> (Int32.ofNat k)).toBitVec.toNat = c.toBitVec.toNat >>> k := by
  have h0 : (c >>> (Int32.ofNat k)).toBitVec = c.toBitVec.sshiftRight' ((Int32.ofNat k).toBitVec.smod 32) := rfl
  have h1 := smod32 k hk
  have h2 : c.toBitVec.msb = false := by
    have := iz_nat hc
    have h3 := Int32.toInt_lt c
    rw [BitVec.msb_eq_false_iff_two_mul_lt]
    omega
  have h4 : c.toBitVec.sshiftRight' (BitVec.ofNat 32 k) = c.toBitVec.sshiftRight (BitVec.ofNat 32 k).toNat := rfl
  rw [h0, h1, h4, BitVec.sshiftRight_eq_of_msb_false h2, BitVec.toNat_ushiftRight, BitVec.toNat_ofNat, Nat.mod_eq_of_lt (by omega)]
theorem and_nat (a b : Int32) : (a &&& b).toBitVec.toNat = a.toBitVec.toNat &&& b.toBitVec.toNat := rfl
theorem iz_bv {a b : Int32} (h : a.toBitVec.toNat = b.toBitVec.toNat) : a = b := Int32.toBitVec_inj.mp (BitVec.eq_of_toNat_eq h)
theorem e11 : ((11 : Int32) &&& 31) = Int32.ofNat 11 := by decide +kernel
theorem e5 : ((5 : Int32) &&& 31) = Int32.ofNat 5 := by decide +kernel
theorem e0' : ((0 : Int32) &&& 31) = Int32.ofNat 0 := by decide +kernel
theorem col_nat {c : Int32} (hc : isCol c) : c.toBitVec.toNat ≤ 65535 := by
  have := iz_nat hc.1
  have := hc.2
  omega
theorem c11 {c : Int32} (hc : isCol c) : (c >>> ((11 : Int32) &&& 31)) &&& 31 = c >>> ((11 : Int32) &&& 31) := by
  have h1 := col_nat hc
  have e31 : (31 : Int32).toBitVec.toNat = 2 ^ 5 - 1 := rfl
  refine iz_bv ?_
  rw [and_nat, e11, shr_nat 11 (by decide) hc.1, e31, Nat.and_two_pow_sub_one_eq_mod, Nat.shiftRight_eq_div_pow]
  exact Nat.mod_eq_of_lt (by omega)
theorem c00 {c : Int32} (hc : isCol c) : c >>> ((0 : Int32) &&& 31) = c := by
  refine iz_bv ?_
  rw [e0', shr_nat 0 (by decide) hc.1]
  rfl
theorem s00 (c : Int32) : c <<< ((0 : Int32) &&& 31) = c := by
  have h0 : (c <<< ((0 : Int32) &&& 31)).toBitVec = c.toBitVec <<< (((0 : Int32) &&& 31).toBitVec.smod 32) := rfl
  have h1 : ((0 : Int32) &&& 31).toBitVec.smod 32 = 0#32 := by decide +kernel
  refine iz_bv ?_
  rw [h0, h1]
  simp
/-- both mix alike -/
theorem mix_eq (h : fx_H) {o b : Int32} (a : Int32) (ho : isCol o) (hb : isCol b) : v_MO_mixed h o b a = jM o b a := by
  unfold v_MO_mixed v_MO_part jM jP
  rw [c11 ho, c11 hb, c00 ho, c00 hb, s00]
/-- a part lies in 0 .. m -/
theorem jP_rg {x y a : Int32} {m : Int} (hm : 0 ≤ m ∧ m ≤ 63) (hx : 0 ≤ x.toInt ∧ x.toInt ≤ m) (hy : 0 ≤ y.toInt ∧ y.toInt ≤ m) (ha : 0 ≤ a.toInt ∧ a.toInt ≤ 16) : 0 ≤ (jP x y a).toInt ∧ (jP x y a).toInt ≤ m := by
  have e16 : (16 : Int32).toInt = 16 := rfl
  have h1 : (16 - a).toInt = 16 - a.toInt := by rw [iz_sub (by rw [e16]; omega), e16]
  have b1 : 0 ≤ a.toInt * x.toInt ∧ a.toInt * x.toInt ≤ a.toInt * m := ⟨Int.mul_nonneg ha.1 hx.1, Int.mul_le_mul_of_nonneg_left hx.2 ha.1⟩
  have b2 : 0 ≤ (16 - a.toInt) * y.toInt ∧ (16 - a.toInt) * y.toInt ≤ (16 - a.toInt) * m := ⟨Int.mul_nonneg (by omega) hy.1, Int.mul_le_mul_of_nonneg_left hy.2 (by omega)⟩
  have b3 : a.toInt * m + (16 - a.toInt) * m = 16 * m := by rw [← Int.add_mul]; congr 1; omega
  have t1 : (a * x).toInt = a.toInt * x.toInt := iz_mul (by omega)
  have t2 : ((16 - a) * y).toInt = (16 - a.toInt) * y.toInt := by rw [iz_mul (by rw [h1]; omega), h1]
  have t3 : (a * x + (16 - a) * y).toInt = a.toInt * x.toInt + (16 - a.toInt) * y.toInt := by rw [iz_add (by rw [t1, t2]; omega), t1, t2]
  have t4 : (jP x y a).toInt = (a.toInt * x.toInt + (16 - a.toInt) * y.toInt) / 16 := by
    unfold jP
    rw [Int32.toInt_div, t3, e16, Int.tdiv_eq_ediv_of_nonneg (by omega), iz_bm (by omega)]
  rw [t4]
  omega
theorem shl_nat {c : Int32} (k : Nat) (hk : k < 32) (hc : 0 ≤ c.toInt) (h2 : c.toBitVec.toNat * 2 ^ k < 2 ^ 32) : (c <<< (Int32.ofNat k)).toBitVec.toNat = c.toBitVec.toNat * 2 ^ k := by
  have h0 : (c <<< (Int32.ofNat k)).toBitVec = c.toBitVec <<< ((Int32.ofNat k).toBitVec.smod 32) := rfl
  have h3 : (BitVec.ofNat 32 k).toNat = k := by rw [BitVec.toNat_ofNat]; exact Nat.mod_eq_of_lt (by omega)
  rw [h0, smod32 k hk, BitVec.shiftLeft_eq', BitVec.toNat_shiftLeft, h3, Nat.shiftLeft_eq, Nat.mod_eq_of_lt h2]
theorem and_rg {x : Int32} {k : Nat} (hk : k ≤ 6) (m : Int32) (hm : m.toBitVec.toNat = 2 ^ k - 1) : 0 ≤ (x &&& m).toInt ∧ (x &&& m).toInt ≤ 2 ^ k - 1 := by
  have h1 : (x &&& m).toBitVec.toNat ≤ 2 ^ k - 1 := by
    rw [and_nat, hm]
    exact Nat.and_le_right
  have h2 : (2 : Nat) ^ k ≤ 64 := Nat.pow_le_pow_right (n := 2) (by decide) hk
  have h3 : 0 < (2 : Nat) ^ k := Nat.pos_of_ne_zero (by simp)
  have h4 := iz_of (n := (x &&& m).toBitVec.toNat) (by omega) (x &&& m) rfl
  rw [h4]
  have h5 : ((2 ^ k : Nat) : Int) = (2 : Int) ^ k := by simp
  omega
theorem mix_col {o b a : Int32} (ho : isCol o) (hb : isCol b) (ha : 0 ≤ a.toInt ∧ a.toInt ≤ 16) : isCol (jM o b a) := by
  have o1 := col_nat ho
  have b1 := col_nat hb
  have r1 : ∀ {c : Int32}, isCol c → 0 ≤ (c >>> ((11 : Int32) &&& 31)).toInt ∧ (c >>> ((11 : Int32) &&& 31)).toInt ≤ 31 := by
    intro c hc
    have := col_nat hc
    rw [e11]
    have h1 := shr_nat 11 (by decide) hc.1
    rw [Nat.shiftRight_eq_div_pow] at h1
    have h2 := iz_of (n := c.toBitVec.toNat / 2 ^ 11) (by omega) _ h1
    omega
  have hr := jP_rg (m := 31) (by decide) (r1 ho) (r1 hb) ha
  have g1 := and_rg (x := o >>> ((5 : Int32) &&& 31)) (k := 6) (by decide) 63 rfl
  have g2 := and_rg (x := b >>> ((5 : Int32) &&& 31)) (k := 6) (by decide) 63 rfl
  have hg := jP_rg (m := 63) (by decide) g1 g2 ha
  have u1 := and_rg (x := o) (k := 5) (by decide) 31 rfl
  have u2 := and_rg (x := b) (k := 5) (by decide) 31 rfl
  have hu := jP_rg (m := 31) (by decide) u1 u2 ha
  unfold jM
  generalize jP (o >>> ((11 : Int32) &&& 31)) (b >>> ((11 : Int32) &&& 31)) a = R at *
  generalize jP (o >>> ((5 : Int32) &&& 31) &&& 63) (b >>> ((5 : Int32) &&& 31) &&& 63) a = G at *
  generalize jP (o &&& 31) (b &&& 31) a = U at *
  have nR := iz_nat hr.1
  have nG := iz_nat hg.1
  have nU := iz_nat hu.1
  have sR := shl_nat (c := R) 11 (by decide) hr.1 (by omega)
  have sG := shl_nat (c := G) 5 (by decide) hg.1 (by omega)
  have h1 : ((R <<< ((11 : Int32) &&& 31) ||| G <<< ((5 : Int32) &&& 31)) ||| U).toBitVec.toNat < 2 ^ 16 := by
    show ((R <<< ((11 : Int32) &&& 31)).toBitVec.toNat ||| (G <<< ((5 : Int32) &&& 31)).toBitVec.toNat) ||| U.toBitVec.toNat < 2 ^ 16
    rw [e11, e5, sR, sG]
    exact Nat.or_lt_two_pow (Nat.or_lt_two_pow (by omega) (by omega)) (by omega)
  have h2 := iz_of (n := _) (by omega) ((R <<< ((11 : Int32) &&& 31) ||| G <<< ((5 : Int32) &&& 31)) ||| U) rfl
  unfold isCol
  rw [h2]
  omega
