/-! ===== wanted ===== -/
/-- where the Model's show finds a pixel, the class's shown has it -/
theorem show_has {u : fx_H} {a q p : Nat} (hp : p < 30) (hpr : PR u a q p) (x y : Int32) :
    (¬ x < fx_i (k_MO_show u q (nI p)) q 38 ∧ ¬ fx_i (k_MO_show u q (nI p)) q 38 + fx_i (k_MO_show u q (nI p)) q 40 ≤ x ∧ ¬ y < fx_i (k_MO_show u q (nI p)) q 39 ∧ ¬ fx_i (k_MO_show u q (nI p)) q 39 + fx_i (k_MO_show u q (nI p)) q 41 ≤ y) ↔ ¬ rHas u (a + 3) x y = 0 := by
  have hk : ¬ fx_i u (q + 7) p = 0 → mpOk u q p := fun z => (hpr.2.2 (fun y => z (hpr.1.mp y))).2.2.2.1
  obtain ⟨v1, v2⟩ := show_v u q p hp hk
  rw [PR_has hpr]
  by_cases he : shE u q p
  · obtain ⟨e1, e2⟩ := v1 he
    rw [e1]
    constructor
    · rintro ⟨z1, z2, -⟩
      rw [iz_lt] at z1
      rw [iz_le, Int32.add_zero] at z2
      omega
    · exact fun z => absurd he z.1
  · obtain ⟨e1, e2, e3, e4⟩ := v2 he
    have hk2 := hk (shE_there he)
    obtain ⟨m1, m2, m3, m4, m5, m6, -⟩ := hk2
    have he' := he
    unfold shE at he'
    have g1 : ¬ shR u q p ≤ shX u q p := fun z => he' (Or.inr (Or.inr (Or.inl z)))
    have g2 : ¬ shB u q p ≤ shY u q p := fun z => he' (Or.inr (Or.inr (Or.inr z)))
    have bx : 0 ≤ shX u q p ∧ shR u q p ≤ 20 := by unfold shX shR; omega
    have by_ : 0 ≤ shY u q p ∧ shB u q p ≤ 10 := by unfold shY shB; omega
    have t1 : (fx_i (k_MO_show u q (nI p)) q 38 + fx_i (k_MO_show u q (nI p)) q 40).toInt = shR u q p := by rw [iz_add (by omega)]; omega
    have t2 : (fx_i (k_MO_show u q (nI p)) q 39 + fx_i (k_MO_show u q (nI p)) q 41).toInt = shB u q p := by rw [iz_add (by omega)]; omega
    rw [iz_lt, iz_lt, iz_le, iz_le, t1, t2, e1, e2]
    exact ⟨fun z => ⟨he, by omega, by omega⟩, fun z => by omega⟩
theorem pixelOf_show (u : fx_H) (q : Nat) (p' p x y : Int32) : v_MO_pixelOf (k_MO_show u q p') q p x y = v_MO_pixelOf u q p x y := by
  have e := mfr_show u q p'
  unfold v_MO_pixelOf
  rw [mfr_at e (by decide), mfr_at e (by decide), mfr_at e (by decide), mfr_at e (by decide)]
theorem pre_show (u : fx_H) (q : Nat) (p' p x y : Int32) (h : pre_MO_pixelOf u q p x y) : pre_MO_pixelOf (k_MO_show u q p') q p x y := by
  have e := mfr_show u q p'
  unfold pre_MO_pixelOf at h ⊢
  rw [mfr_at e (by decide), mfr_at e (by decide), mfr_at e (by decide)]
  exact h
theorem PR_pre {u : fx_H} {a q p : Nat} (hp : p < 30) (hcr : mCR u q) (hpr : PR u a q p) (x y : Int32) (hh : ¬ rHas u (a + 3) x y = 0) : pre_MO_pixelOf u q (nI p) x y := by
  obtain ⟨he, hx, hy⟩ := (PR_has hpr x y).mp hh
  have ht := shE_there he
  exact pix_pre u q p hp hcr (hpr.2.2 (fun z => ht (hpr.1.mp z))).2.2.2.1 x y hx hy
theorem nI_nn {p : Nat} (hp : p < 100) : ¬ nI p < 0 ∧ 0 ≤ nI p := by
  have a0 : (0 : Int32).toInt = 0 := rfl
  rw [iz_lt, iz_le, nI_toInt (by omega), a0]
  omega
/-- a pile's level against the Model -/
theorem PS_at {u : fx_H} {P q kd l : Nat} (hp : PS u P q kd) (hl : l < pH u P) : pU u P l < 10 ∧ v_MO_nth u q kd (nI l) = nI (kd + pU u P l) ∧ ¬ fx_i u (P + 3 + 4 * pU u P l) 0 = 0 := ⟨(hp.1.2.2 l (by have := hp.1.1; omega)).1, (hp.2.1 l hl).2, (hp.2.1 l hl).1⟩
theorem J_PR1 {u : fx_H} {w q f b : Nat} (hj : J u w q f b) {s : Nat} (hs : s < 10) : PR u (w + 3 + 3 + 4 * s) q (10 + s) := by
  have ea : w + 3 + 3 + 4 * s = w + 6 + 4 * s := by omega
  rw [ea]
  exact (hj.pics s hs).2.1
theorem J_PR2 {u : fx_H} {w q f b : Nat} (hj : J u w q f b) {s : Nat} (hs : s < 10) : PR u (w + 90 + 3 + 4 * s) q (20 + s) := by
  have ea : w + 90 + 3 + 4 * s = w + 93 + 4 * s := by omega
  rw [ea]
  exact (hj.pics s hs).2.2
theorem waPre_J {h : fx_H} {w q f b : Nat} (hj : J h w q f b) (x y : Int32) : waPre h q x y := by
  intro u m e hn c1 c2 c3 c4
  have hu : J u w q f b := J_ag (ag_mfr hj.at_ (mfr_m e (by decide) (by decide))) hj
  rcases nth_rg u q 10 m with z | ⟨p, p1, p2, p3, p4, p5⟩
  · rw [z] at hn
    exact absurd (by decide) hn
  · obtain ⟨s, rfl⟩ : ∃ s, p = 10 + s := ⟨p - 10, by omega⟩
    have hs : s < 10 := by omega
    rw [p5] at c1 c2 c3 c4 ⊢
    have hpr := J_PR1 hu hs
    refine pre_show _ _ _ _ _ _ (PR_pre (by omega) hu.cr hpr x y ((show_has (by omega) hpr x y).mp ⟨c1, c2, c3, c4⟩))
theorem J_alpha {u : fx_H} {a q p : Nat} (hpr : PR u a q p) (h0 : ¬ fx_i u a 0 = 0) : fx_i u a 6 = fx_i u (q + 11) p ∧ 0 ≤ (fx_i u (q + 11) p).toInt ∧ (fx_i u (q + 11) p).toInt ≤ 16 := by
  obtain ⟨p1, -, -, -, -, p6⟩ := hpr.2.2 h0
  exact ⟨p1.2.2.2.2.2.1, p6⟩
theorem wa_none {q : Nat} {x y : Int32} {c : Int32} {n : Nat} {u : fx_H} (hn : n ≤ 10) (hh : n = 10 ∨ v_MO_nth u q 10 (nI n) = -1) : waI q x y (c, nI n, u) = none := by
  unfold waI
  show (if (10 : Int32) ≤ nI n then none else _) = none
  by_cases z : (10 : Int32) ≤ nI n
  · rw [if_pos z]
  · rw [if_neg z]
    rcases hh with y | y
    · rw [y] at z
      exact absurd (by decide) z
    · show (if 0 ≤ v_MO_nth u q 10 (nI n) then _ else none) = none
      rw [y, if_neg (by decide)]
theorem cStep_congr {h u : fx_H} {P : Nat} {x y c : Int32} {l : Nat} (e : ∀ b, b < P + 43 → P ≤ b → ∀ j, fx_i u b j = fx_i h b j) (hl : pU h P l < 10) : cStep u P x y l c = cStep h P x y l c := by
  have eu : pU u P l = pU h P l := by unfold pU; rw [e _ (by omega) (by omega)]
  unfold cStep
  rw [eu]
  unfold pColor pIx rHas
  simp only [e (P + 3 + 4 * pU h P l) (by omega) (by omega), e (P + 3 + 4 * pU h P l + 1) (by omega) (by omega), e (P + 3 + 4 * pU h P l + 3) (by omega) (by omega)]
theorem wa_some {w q f b : Nat} {x y c : Int32} {n : Nat} {u : fx_H} (hu : J u w q f b) (hc : isCol c) (hn : n < pH u (w + 3)) : waI q x y (c, nI n, u) = some (cStep u (w + 3) x y n c, nI (n + 1), k_MO_show u q (nI (10 + pU u (w + 3) n))) ∧ isCol (cStep u (w + 3) x y n c) := by
  obtain ⟨s10, nth, th⟩ := PS_at hu.pileC hn
  have h10 := hu.pileC.1.1
  have hpr := J_PR1 hu s10
  have sh := show_has (by omega) hpr x y
  have e10 : ¬ (10 : Int32) ≤ nI n := by
    have a0 : (10 : Int32).toInt = 10 := rfl
    rw [iz_le, nI_toInt (by omega), a0]
    omega
  have e1 : nI n + Int32.ofInt 1 = nI (n + 1) := jz_i n
  obtain ⟨al1, al2⟩ := J_alpha hpr th
  have e11 : fx_i (k_MO_show u q (nI (10 + pU u (w + 3) n))) (q + 11) (10 + pU u (w + 3) n) = fx_i u (q + 11) (10 + pU u (w + 3) n) := mfr_at (mfr_show _ _ _) (by decide) _
  have ecl : (nI (10 + pU u (w + 3) n)).toNatClampNeg = 10 + pU u (w + 3) n := nI_clamp (by omega)
  unfold waI
  show (if (10 : Int32) ≤ nI n then none else if 0 ≤ v_MO_nth u q 10 (nI n) then _ else none) = _ ∧ _
  simp only [nth]
  rw [if_neg e10, if_pos (nI_nn (by omega)).2, e1, ecl, e11, pixelOf_show]
  by_cases hh : rHas u (w + 3 + 3 + 4 * pU u (w + 3) n + 3) x y = 0
  · have ec : cStep u (w + 3) x y n c = c := by unfold cStep; rw [if_pos hh]
    have nn : ¬ (¬ x < fx_i (k_MO_show u q (nI (10 + pU u (w + 3) n))) q 38 ∧ ¬ fx_i (k_MO_show u q (nI (10 + pU u (w + 3) n))) q 38 + fx_i (k_MO_show u q (nI (10 + pU u (w + 3) n))) q 40 ≤ x ∧ ¬ y < fx_i (k_MO_show u q (nI (10 + pU u (w + 3) n))) q 39 ∧ ¬ fx_i (k_MO_show u q (nI (10 + pU u (w + 3) n))) q 39 + fx_i (k_MO_show u q (nI (10 + pU u (w + 3) n))) q 41 ≤ y) := fun z => (sh.mp z) hh
    rw [ec]
    refine ⟨?_, hc⟩
    by_cases z1 : x < fx_i (k_MO_show u q (nI (10 + pU u (w + 3) n))) q 38
    · rw [if_pos z1]
    rw [if_neg z1]
    by_cases z2 : fx_i (k_MO_show u q (nI (10 + pU u (w + 3) n))) q 38 + fx_i (k_MO_show u q (nI (10 + pU u (w + 3) n))) q 40 ≤ x
    · rw [if_pos z2]
    rw [if_neg z2]
    by_cases z3 : y < fx_i (k_MO_show u q (nI (10 + pU u (w + 3) n))) q 39
    · rw [if_pos z3]
    rw [if_neg z3]
    by_cases z4 : fx_i (k_MO_show u q (nI (10 + pU u (w + 3) n))) q 39 + fx_i (k_MO_show u q (nI (10 + pU u (w + 3) n))) q 41 ≤ y
    · rw [if_pos z4]
    · exact absurd ⟨z1, z2, z3, z4⟩ nn
  · obtain ⟨z1, z2, z3, z4⟩ := sh.mpr hh
    obtain ⟨-, q2, q3⟩ := PR_color (by omega) hu.cr hpr x y hh
    have ec : cStep u (w + 3) x y n c = jM (pColor u (w + 3 + 3 + 4 * pU u (w + 3) n) x y) c (fx_i u (w + 3 + 3 + 4 * pU u (w + 3) n) 6) := by unfold cStep; rw [if_neg hh]
    rw [if_neg z1, if_neg z2, if_neg z3, if_neg z4, ec, ← q2, al1, mix_eq _ _ q3 hc]
    exact ⟨rfl, mix_col q3 hc al2⟩
theorem wa_lp {w q f b : Nat} {x y : Int32} : ∀ (m n : Nat) (c : Int32) (u : fx_H), n + m = 10 → J u w q f b → isCol c → n ≤ pH u (w + 3) → (lp (waI q x y) m (c, nI n, u)).1 = itg (fun l c => cStep u (w + 3) x y (n + l) c) c (pH u (w + 3) - n) ∧ mfr q [] [38, 39, 40, 41] u (lp (waI q x y) m (c, nI n, u)).2.2
  | 0, n, c, u, hm, hu, hc, hn => by
    have h10 := hu.pileC.1.1
    have e : pH u (w + 3) - n = 0 := by omega
    rw [lp_0, e]
    exact ⟨rfl, mfr_rf _ _ _ _⟩
  | m + 1, n, c, u, hm, hu, hc, hn => by
    have h10 := hu.pileC.1.1
    by_cases z : n < pH u (w + 3)
    · obtain ⟨e1, e2⟩ := wa_some (x := x) (y := y) hu hc z
      rw [lp_some e1]
      have em := mfr_show u q (nI (10 + pU u (w + 3) n))
      have hu' : J (k_MO_show u q (nI (10 + pU u (w + 3) n))) w q f b := J_ag (ag_mfr hu.at_ (mfr_m em (by decide) (by decide))) hu
      have eo : ∀ b, b < w + 3 + 43 → w + 3 ≤ b → ∀ j, fx_i (k_MO_show u q (nI (10 + pU u (w + 3) n))) b j = fx_i u b j := fun b g1 _ j => mfr_out em (by decide) (Or.inl (by have := hu.at_; omega)) j
      have ep : pH (k_MO_show u q (nI (10 + pU u (w + 3) n))) (w + 3) = pH u (w + 3) := by unfold pH; rw [eo _ (by omega) (by omega)]
      obtain ⟨i1, i2⟩ := wa_lp m (n + 1) (cStep u (w + 3) x y n c) (k_MO_show u q (nI (10 + pU u (w + 3) n))) (by omega) hu' e2 (by rw [ep]; omega)
      rw [ep] at i1
      refine ⟨?_, mfr_t em i2⟩
      rw [i1]
      have e3 : pH u (w + 3) - n = (pH u (w + 3) - (n + 1)) + 1 := by omega
      rw [e3]
      have key : ∀ (F : Nat → Int32 → Int32) (c0 : Int32) (k : Nat), itg F c0 (k + 1) = itg (fun l c => F (l + 1) c) (F 0 c0) k := by
        intro F c0 k
        induction k with
        | zero => rfl
        | succ k ih => rw [itg_s, ih, itg_s]
      rw [key]
      show itg _ (cStep u (w + 3) x y n c) _ = itg _ (cStep u (w + 3) x y (n + 0) c) _
      refine itg_congr _ _ _ _ (fun i c' hi => ?_)
      have e4 : n + 1 + i = n + (i + 1) := by omega
      rw [e4]
      exact cStep_congr eo (hu.pileC.1.2.2 _ (by omega)).1
    · have e0 : n = pH u (w + 3) := by omega
      have e : pH u (w + 3) - n = 0 := by omega
      have e1 := wa_none (q := q) (x := x) (y := y) (c := c) (n := n) (u := u) (by omega) (Or.inr (hu.pileC.2.2.1 n (by omega) (by omega)))
      rw [lp_none e1, e]
      exact ⟨rfl, mfr_rf _ _ _ _⟩
theorem A_wanted {h : fx_H} {w q f b : Nat} (hj : J h w q f b) (x y : Int32) : (pOk h (w + 1 + 2) ∧ ∀ s, s < 10 → sOk h (w + 1 + 2 + 3 + 4 * s)) ∧ waPre h q x y ∧ o_FS_wanted h w f b x y = .inl (some (v_MO_wanted h q x y)) ∧ J (k_MO_wanted h q x y) w q f b := by
  obtain ⟨k1, k2⟩ := jS_px (fx_wi h q 0 0) x y
  have hJ := J_w hj 0
  obtain ⟨l1, l2⟩ := wa_lp (q := q) (f := f) (b := b) (x := x) (y := y) 10 0 0 (fx_wi h q 0 (0 : Int32)) rfl hJ ⟨by decide, by decide⟩ (Nat.zero_le _)
  have e12 : w + 1 + 2 = w + 3 := by omega
  rw [e12]
  refine ⟨⟨hj.pileC.1, fun s hs => PR_sOk (p := 10 + s) (by omega) hj.cr (J_PR1 hj hs)⟩, waPre_J hj x y, ?_, ?_⟩
  · unfold o_FS_wanted v_MO_wanted
    rw [e12]
    by_cases z : jS x y = 0
    · rw [if_pos z, if_pos (k1.mp z)]
    · rw [if_neg z, if_neg (fun w => z (k1.mpr w))]
      have eo : ∀ b, b < w + 3 + 43 → w + 3 ≤ b → ∀ j, fx_i (fx_wi h q 0 (0 : Int32)) b j = fx_i h b j := fun b g1 _ j => by
        have := hj.at_
        rw [fx_i_wi, if_neg (fun z => by omega)]
      have ep : pH (fx_wi h q 0 (0 : Int32)) (w + 3) = pH h (w + 3) := by unfold pH; rw [eo _ (by omega) (by omega)]
      have e9 : (lp (waI q x y) 10 ((0 : Int32), (0 : Int32), fx_wi h q 0 (0 : Int32))).1 = v_PL_colorAt h (w + 3) x y := by
        refine Eq.trans l1 ?_
        rw [ep]
        unfold v_PL_colorAt
        refine itg_congr _ _ _ _ (fun i c' hi => ?_)
        have h10 := hj.pileC.1.1
        rw [Nat.zero_add]
        exact cStep_congr eo (hj.pileC.1.2.2 _ (by omega)).1
      rw [e9]
  · unfold k_MO_wanted
    by_cases z : v_MO_isPixel (fx_wi h q 0 (0 : Int32)) x y = 0
    · rw [if_pos z]; exact hJ
    · rw [if_neg z]
      exact J_ag (ag_mfr hj.at_ (mfr_m l2 (by decide) (by decide))) hJ
