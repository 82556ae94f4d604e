/-! ===== put ===== -/
/-- the draft's pixel (x, y): both sides' numbers -/
theorem has_eq {k : fx_H} {q n : Nat} {c r x y : Int32} (hn : n < 10) (hc : (0 ≤ c.toInt ∧ c.toInt ≤ 12) ∧ 0 ≤ r.toInt ∧ r.toInt ≤ 8) (ec : fx_i k (q + 3) n = c) (er : fx_i k (q + 4) n = r) :
    ((¬ v_MO_has k q (nI n) x y = 0) ↔ ((0 ≤ x.toInt ∧ x.toInt < c.toInt) ∧ 0 ≤ y.toInt ∧ y.toInt < r.toInt)) ∧ ((¬ jW x 0 (c - 1) = 0 ∧ ¬ jW y 0 (r - 1) = 0) ↔ ((0 ≤ x.toInt ∧ x.toInt < c.toInt) ∧ 0 ≤ y.toInt ∧ y.toInt < r.toInt)) := by
  have a0 : (0 : Int32).toInt = 0 := rfl
  have a1 : (1 : Int32).toInt = 1 := rfl
  have cl : (nI n).toNatClampNeg = n := nI_clamp (by omega)
  constructor
  · constructor
    · intro z
      have := has_b z
      rw [cl, ec, er] at this
      exact this
    · intro z
      unfold v_MO_has
      rw [cl, ec, er, if_neg (by rw [iz_lt]; omega), if_neg (by rw [iz_le]; omega), if_neg (by rw [iz_lt]; omega), if_neg (by rw [iz_le]; omega)]
      decide
  · have t1 : (c - 1).toInt = c.toInt - 1 := by rw [iz_sub (by rw [a1]; omega), a1]
    have t2 : (r - 1).toInt = r.toInt - 1 := by rw [iz_sub (by rw [a1]; omega), a1]
    have k1 : ∀ v lo hi : Int32, (¬ jW v lo hi = 0) ↔ (lo.toInt ≤ v.toInt ∧ v.toInt ≤ hi.toInt) := by
      intro v lo hi
      unfold jW
      split <;> rename_i z <;> rw [iz_lt, iz_lt] at z
      · exact ⟨fun _ => by omega, fun _ => by decide⟩
      · exact ⟨fun w => absurd rfl w, fun w => by omega⟩
    rw [k1, k1, t1, t2, a0]
    exact ⟨fun z => by omega, fun z => by omega⟩
theorem put_ix {n : Nat} {c x y : Int32} {r : Int} (hn : n < 10) (hc : 0 ≤ c.toInt ∧ c.toInt ≤ 12) (hr : 0 ≤ r ∧ r ≤ 8) (hx : 0 ≤ x.toInt ∧ x.toInt < c.toInt) (hy : 0 ≤ y.toInt ∧ y.toInt < r) :
    vp_in (y * c + x) 96 ∧ vp_in (96 * nI n + c * y + x) 2880 ∧ (96 * nI n + c * y + x).toNatClampNeg = 96 * n + (y * c + x).toNatClampNeg := by
  have m1 := mul_bd hc hr hx hy
  have e0 : (96 : Int32).toInt = 96 := rfl
  have e1 : (nI n).toInt = n := nI_toInt (by omega)
  have t0 : (c * y).toInt = c.toInt * y.toInt := iz_mul (by omega)
  have t1 : (y * c).toInt = c.toInt * y.toInt := by rw [Int32.mul_comm]; exact t0
  generalize c.toInt * y.toInt = cv at *
  have t2 : (y * c + x).toInt = cv + x.toInt := by rw [iz_add (by rw [t1]; omega), t1]
  have t3 : (96 * nI n).toInt = 96 * (n : Int) := by rw [iz_mul (by rw [e0, e1]; omega), e0, e1]
  have t4 : (96 * nI n + c * y).toInt = 96 * (n : Int) + cv := by rw [iz_add (by rw [t3, t0]; omega), t3, t0]
  have t5 : (96 * nI n + c * y + x).toInt = 96 * (n : Int) + cv + x.toInt := by rw [iz_add (by rw [t4]; omega), t4]
  have n1 := iz_nn (a := y * c + x) (by omega)
  have n2 := iz_nn (a := 96 * nI n + c * y + x) (by omega)
  exact ⟨iz_in (by omega) (by omega), iz_in (by omega) (by omega), by omega⟩
theorem J_dims {h : fx_H} {w q f b : Nat} (hj : J h w q f b) {n : Nat} (hn : n < 10) (h0 : ¬ fx_i h (w + 49 + 4 * n) 0 = 0) : fx_i h (w + 49 + 4 * n) 1 = fx_i h (q + 3) n ∧ fx_i h (w + 49 + 4 * n) 2 = fx_i h (q + 4) n := by
  obtain ⟨-, -, -, pe⟩ := pre_there hj hn h0
  have nm : n % 10 = n := by omega
  have := pe.1
  rw [nm] at this
  exact ⟨this.1, this.2.1⟩
theorem pre_put {h : fx_H} {q : Nat} (hcr : mCR h q) (s x y co : Int32) : pre_MO_put h q s x y co := by
  have n1 : ¬ fx_i (fx_wi h q 0 (1 : Int32)) q 0 = 0 := by rw [w00]; decide
  have n2 : ¬ fx_i (fx_wi h q 0 (2 : Int32)) q 0 = 0 := by rw [w00]; decide
  refine ⟨fun _ z => absurd z n1, fun _ z => absurd z n1, fun z _ => mo_has_in z, fun _ _ _ z => absurd z n2, fun _ _ _ z => absurd z n2, fun z _ _ _ => mo_has_in z, fun z _ z2 _ => ?_, fun _ _ z => absurd z n1, fun _ _ z => absurd z n1⟩
  rw [wi_q _ _ _ _ _ _ (by decide)]
  exact fill_in (mo_has_in z) hcr z2
theorem A_put {h : fx_H} {w q f b : Nat} (hj : J h w q f b) (s x y co : Int32) :
    (¬ (v_DE_hasDraft h (w + 1) s) = 0 → ¬ (jW co 0 65535) = 0 → ¬ (jW x (0 : Int32) ((fx_i h (w + 1 + 48 + 4 * s.toNatClampNeg) 1) - (1 : Int32))) = 0 → ¬ (jW y (0 : Int32) ((fx_i h (w + 1 + 48 + 4 * s.toNatClampNeg) 2) - (1 : Int32))) = 0 → vp_in (y * fx_i h (w + 1 + 48 + 4 * s.toNatClampNeg) 1 + x) 96) ∧
    pre_MO_put (k_FS_put h w f b s x y co) q s x y co ∧ fx_i (k_MO_put (k_FS_put h w f b s x y co) q s x y co) q 0 = cod (o_FS_put h w f b s x y co) ∧ J (k_MO_put (k_FS_put h w f b s x y co) q s x y co) w q f b := by
  have hq := hj.at_
  have ea : w + 1 + 48 + 4 * s.toNatClampNeg = w + 49 + 4 * s.toNatClampNeg := by omega
  rw [ea]
  have n1 : ∀ k : fx_H, ¬ fx_i (fx_wi k q 0 (1 : Int32)) q 0 = 0 := fun k => by rw [w00]; decide
  have n2 : ∀ k : fx_H, ¬ fx_i (fx_wi k q 0 (2 : Int32)) q 0 = 0 := fun k => by rw [w00]; decide
  have hsk := J_ag (ag_sk h w q 1) hj
  by_cases hd : v_DE_hasDraft h (w + 1) s = 0
  · have e1 : k_FS_put h w f b s x y co = fx_sk h 1 := by unfold k_FS_put; rw [if_pos hd]
    have e2 : o_FS_put h w f b s x y co = .inr "java/lang/IllegalArgumentException" := by unfold o_FS_put; rw [if_pos hd]
    have e3 : v_MO_hasDraft (fx_sk h 1) q s = 0 := (hasDraft_iff hj (fun _ => rfl) (fun _ => rfl) s).trans hd
    have e4 : k_MO_put (fx_sk h 1) q s x y co = fx_wi (fx_sk h 1) q 0 1 := by unfold k_MO_put; rw [if_pos e3, if_neg (n1 _)]
    rw [e1, e2, e4]
    exact ⟨fun z => absurd hd z, pre_put hsk.cr s x y co, w00 _ _ _, J_w hsk 1⟩
  obtain ⟨hs, es, h0⟩ := draft_in hd
  rw [ea] at h0
  obtain ⟨d1, d2⟩ := J_dims hj hs h0
  obtain ⟨b1, b2⟩ := hj.cr _ hs
  by_cases hc : jW co 0 65535 = 0
  · have e1 : k_FS_put h w f b s x y co = fx_sk h 1 := by unfold k_FS_put; rw [if_neg hd, if_pos hc]
    have e2 : o_FS_put h w f b s x y co = .inr "java/lang/IllegalArgumentException" := by unfold o_FS_put; rw [if_neg hd, if_pos hc]
    have e3 : ¬ v_MO_hasDraft (fx_sk h 1) q s = 0 := fun z => hd ((hasDraft_iff hj (fun _ => rfl) (fun _ => rfl) s).symm.trans z)
    have e4 : k_MO_put (fx_sk h 1) q s x y co = fx_wi (fx_sk h 1) q 0 1 := by unfold k_MO_put; rw [if_neg e3, wi_jW, if_pos hc, if_neg (n1 _)]
    rw [e1, e2, e4]
    exact ⟨fun _ z => absurd hc z, pre_put hsk.cr s x y co, w00 _ _ _, J_w hsk 1⟩
  obtain ⟨q1, q2⟩ := has_eq (k := fx_sk h 1) (q := q) (x := x) (y := y) hs ⟨b1, b2⟩ rfl rfl
  rw [d1, d2]
  by_cases hh : (0 ≤ x.toInt ∧ x.toInt < (fx_i h (q + 3) s.toNatClampNeg).toInt) ∧ 0 ≤ y.toInt ∧ y.toInt < (fx_i h (q + 4) s.toNatClampNeg).toInt
  · obtain ⟨j1, j2⟩ := q2.mpr hh
    obtain ⟨i1, i2, i3⟩ := put_ix hs b1 b2 hh.1 hh.2
    have e1 : k_FS_put h w f b s x y co = fx_wi h (w + 49 + 4 * s.toNatClampNeg + 1) (y * fx_i h (q + 3) s.toNatClampNeg + x).toNatClampNeg co := by
      unfold k_FS_put
      rw [ea, d1, d2, if_neg hd, if_neg hc, if_neg j1, if_neg j2]
    have e2 : o_FS_put h w f b s x y co = .inl none := by
      unfold o_FS_put
      rw [ea, d1, d2, if_neg hd, if_neg hc, if_neg j1, if_neg j2]
    rw [e1, e2]
    generalize hn : s.toNatClampNeg = n at *
    generalize hY : fx_wi h (w + 49 + 4 * n + 1) (y * fx_i h (q + 3) n + x).toNatClampNeg co = Y
    have yo : ∀ a j, a ≠ w + 49 + 4 * n + 1 → fx_i Y a j = fx_i h a j := fun a j h1 => by rw [← hY, fx_i_wi, if_neg (fun z => h1 z.1)]
    have e3 : ¬ v_MO_hasDraft Y q s = 0 := by
      rw [hasDraft_iff hj (fun j => yo _ _ (by omega)) (fun j => yo _ _ (by omega)) s]
      exact hd
    have e5 : ¬ v_MO_has Y q s x y = 0 := by
      have := (has_eq (k := Y) (q := q) (x := x) (y := y) hs ⟨b1, b2⟩ (yo _ _ (by omega)) (yo _ _ (by omega))).1.mpr hh
      rw [← es] at this
      exact this
    have crY : mCR Y q := fun t ht => by rw [yo _ _ (by omega), yo _ _ (by omega)]; exact hj.cr t ht
    have e4 : k_MO_put Y q s x y co = fx_wi (fx_wi Y q 0 (0 : Int32)) (q + 17) (96 * n + (y * fx_i h (q + 3) n + x).toNatClampNeg) co := by
      unfold k_MO_put
      rw [if_neg e3, wi_jW, if_neg hc, if_neg e5, if_pos (w00 _ _ _), wi_q _ _ _ _ _ _ (by decide), hn, yo _ _ (by omega), ← i3, ← es]
    rw [e4]
    generalize hk : fx_wi (fx_wi Y q 0 (0 : Int32)) (q + 17) (96 * n + (y * fx_i h (q + 3) n + x).toNatClampNeg) co = k
    have lt := vp_in_lt i1
    generalize (y * fx_i h (q + 3) n + x).toNatClampNeg = i at *
    have kc : ∀ a j, a < q → fx_i k a j = fx_i Y a j := fun a j h1 => by rw [← hk, fx_i_wi, if_neg (fun z => by omega), fx_i_wi, if_neg (fun z => by omega)]
    have km : ∀ o j, 1 ≤ o → o ≠ 17 → fx_i k (q + o) j = fx_i h (q + o) j := fun o j h1 h2 => by rw [← hk, fx_i_wi, if_neg (fun z => by omega), fx_i_wi, if_neg (fun z => by omega), yo _ _ (by omega)]
    have d : DF h k w q n := by
      rw [← hk]
      refine DF_p hq (DF_f hq ?_ (Or.inl rfl)) (by omega)
      rw [← hY]
      exact DF_wi hq hs (DF_rf h w q n) (by omega)
    have bc := jW_b1 hc
    obtain ⟨t7, t1, t6, pe⟩ := pre_there hj hs h0
    have cd : ∀ j, fx_i k (w + 49 + 4 * n) j = fx_i h (w + 49 + 4 * n) j := fun j => (kc _ _ (by omega)).trans (yo _ _ (by omega))
    have cd2 : ∀ j, fx_i k (w + 49 + 4 * n + 2) j = fx_i h (w + 49 + 4 * n + 2) j := fun j => (kc _ _ (by omega)).trans (yo _ _ (by omega))
    have cd3 : ∀ j, fx_i k (w + 49 + 4 * n + 3) j = fx_i h (w + 49 + 4 * n + 3) j := fun j => (kc _ _ (by omega)).trans (yo _ _ (by omega))
    have hpe : PE k (w + 49 + 4 * n) q n := by
      obtain ⟨p1, p2, p3, p4, p5, p6⟩ := pe
      unfold PE mpOk at *
      simp only [cd, cd2, km 3 _ (by decide) (by decide), km 4 _ (by decide) (by decide), km 8 _ (by decide) (by decide), km 9 _ (by decide) (by decide), km 10 _ (by decide) (by decide), km 11 _ (by decide) (by decide), km 12 _ (by decide) (by decide), km 13 _ (by decide) (by decide), km 14 _ (by decide) (by decide), km 15 _ (by decide) (by decide), km 16 _ (by decide) (by decide)]
      refine ⟨p1, fun j hj9 => ?_, p3, p4, p5, p6⟩
      rw [kc _ _ (by omega), ← hY, ← hk, fx_i_wi, fx_i_wi]
      by_cases ej : j = i
      · subst ej
        rw [if_pos ⟨rfl, rfl⟩, if_pos ⟨rfl, rfl⟩]
        exact ⟨rfl, bc⟩
      · rw [if_neg (fun z => ej z.2), if_neg (fun z => by omega), fx_i_wi, if_neg (fun z => by omega), yo _ _ (by omega)]
        exact p2 j hj9
    refine ⟨fun _ _ _ _ => i1, pre_put crY s x y co, by rw [← hk, fx_i_wi, if_neg (fun z => by omega), w00]; rfl, J_edit hj hs h0 d (fun o h1 h2 => km o n h1 (by omega)) (fun j _ => cd j) ((kc _ _ (by omega)).trans (yo _ _ (by omega))) ((kc _ _ (by omega)).trans (yo _ _ (by omega))) ?_ hpe⟩
    obtain ⟨s1, s2, s3⟩ := (hj.pics n hs).1.2.1
    obtain ⟨x1, x2, x3, x4, x5⟩ := sh_congr (h := h) (k := k) (q := q) (p := n) (fun o g1 g2 => km o n (by omega) (by omega))
    refine ⟨rOk_of (fun j _ => cd3 j) s1, by rw [x5, cd3, cd3]; exact s2, ?_⟩
    unfold rIs at s3 ⊢
    rw [x5, x1, x2, x3, x4, cd3, cd3, cd3, cd3]
    exact s3
  · have jj : ¬ (¬ jW x 0 (fx_i h (q + 3) s.toNatClampNeg - 1) = 0 ∧ ¬ jW y 0 (fx_i h (q + 4) s.toNatClampNeg - 1) = 0) := fun z => hh (q2.mp z)
    have e12 : k_FS_put h w f b s x y co = fx_sk h 1 ∧ o_FS_put h w f b s x y co = .inr "java/lang/IndexOutOfBoundsException" := by
      unfold k_FS_put o_FS_put
      rw [ea, d1, d2, if_neg hd, if_neg hc, if_neg hd, if_neg hc]
      by_cases c1 : jW x 0 (fx_i h (q + 3) s.toNatClampNeg - 1) = 0
      · rw [if_pos c1, if_pos c1]; exact ⟨rfl, rfl⟩
      by_cases c2 : jW y 0 (fx_i h (q + 4) s.toNatClampNeg - 1) = 0
      · rw [if_neg c1, if_pos c2, if_neg c1, if_pos c2]; exact ⟨rfl, rfl⟩
      · exact absurd ⟨c1, c2⟩ jj
    have e3 : ¬ v_MO_hasDraft (fx_sk h 1) q s = 0 := fun z => hd ((hasDraft_iff hj (fun _ => rfl) (fun _ => rfl) s).symm.trans z)
    have e5 : v_MO_has (fx_sk h 1) q s x y = 0 := by
      refine Decidable.byContradiction fun z => hh (q1.mp ?_)
      rw [← es]
      exact z
    have e4 : k_MO_put (fx_sk h 1) q s x y co = fx_wi (fx_sk h 1) q 0 2 := by unfold k_MO_put; rw [if_neg e3, wi_jW, if_neg hc, if_pos e5, if_neg (n2 _)]
    rw [e12.1, e12.2, e4]
    exact ⟨fun _ _ z1 z2 => absurd ⟨z1, z2⟩ jj, pre_put hsk.cr s x y co, w00 _ _ _, J_w hsk 2⟩
