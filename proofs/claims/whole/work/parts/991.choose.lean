/-! ===== begin: choosing the planes ===== -/
theorem fitM_congr {h k : fx_H} {q p : Nat} (f : ∀ o j, 7 ≤ o → o ≤ 16 → fx_i k (q + o) j = fx_i h (q + o) j) : fitM k q p ↔ fitM h q p := by
  have ab : ∀ x y, v_MO_isAbove k q x y = v_MO_isAbove h q x y := fun x y => by
    unfold v_MO_isAbove
    rw [f 10 _ (by decide) (by decide), f 10 _ (by decide) (by decide)]
  have sc : ∀ p, _ := fun p => sh_congr (h := h) (k := k) (q := q) (p := p) (fun o g1 g2 => f o p g1 g2)
  obtain ⟨y1, y2, y3, y4, y5⟩ := sc p
  unfold fitM
  rw [y1, y2, y3, y4, y5, f 11 _ (by decide) (by decide)]
  have ap : ∀ t, apart k q p t (shX h q p) (shY h q p) (shR h q p - shX h q p) (shB h q p - shY h q p) ↔ apart h q p t (shX h q p) (shY h q p) (shR h q p - shX h q p) (shB h q p - shY h q p) := fun t => by
    obtain ⟨x1, x2, x3, x4, x5⟩ := sc (20 + t)
    unfold apart
    rw [x1, x2, x3, x4, x5, f 7 _ (by decide) (by decide), ab]
  simp only [ap]
theorem isFit_congr {h k : fx_H} {n P l : Nat} (hk : pOk h P) (hl : l < pH h P) (e : ∀ y j, P ≤ y → y < P + 43 → fx_i k y j = fx_i h y j) : v_PN_isFit k n P l = v_PN_isFit h n P l := by
  have hH := hk.1
  have eU : ∀ i, pU k P i = pU h P i := fun i => by unfold pU; rw [e _ _ (by omega) (by omega)]
  have eH : pH k P = pH h P := by unfold pH; rw [e _ _ (by omega) (by omega)]
  have u10 := (hk.2.2 l (by omega)).1
  unfold v_PN_isFit
  have r3 : ∀ j, fx_i k (P + 3 + 4 * pU h P l + 3) j = fx_i h (P + 3 + 4 * pU h P l + 3) j := fun j => e _ _ (by omega) (by omega)
  have rEe : rE k (P + 3 + 4 * pU h P l + 3) = rE h (P + 3 + 4 * pU h P l + 3) := by unfold rE; simp only [r3]
  have sr : srch (fun i => decide (¬ rMeets k (P + 3 + 4 * pU h P l + 3) (P + 3 + 4 * pU h P i + 3) = 0)) (fun i => 0) 1 (l + 1) (pH h P - (l + 1)) = srch (fun i => decide (¬ rMeets h (P + 3 + 4 * pU h P l + 3) (P + 3 + 4 * pU h P i + 3) = 0)) (fun i => 0) 1 (l + 1) (pH h P - (l + 1)) := by
    refine srch_congr _ _ _ _ _ _ (fun i g1 g2 => ?_)
    have ui := (hk.2.2 i (by omega)).1
    have e2 : ∀ j, fx_i k (P + 3 + 4 * pU h P i + 3) j = fx_i h (P + 3 + 4 * pU h P i + 3) j := fun j => e _ _ (by omega) (by omega)
    show decide (¬ rMeets k (P + 3 + 4 * pU h P l + 3) (P + 3 + 4 * pU h P i + 3) = 0) = decide (¬ rMeets h (P + 3 + 4 * pU h P l + 3) (P + 3 + 4 * pU h P i + 3) = 0)
    rw [rMeets_congr (fun j _ => r3 j) (fun j _ => e2 j)]
  simp only [eU, eH]
  rw [sr, rEe, r3, r3, e _ 6 (by omega) (by omega)]
theorem chs_2 (n p L : Nat) (k : fx_H) : chs n p L 2 k = k := by
  cases L with
  | zero => rw [chs]
  | succ L => rw [chs, if_pos (by decide)]
theorem nine {i : Nat} (hi : i < 10) : (9 : Int32) - nI i = nI (9 - i) := by
  have e9 : (9 : Int32).toInt = 9 := rfl
  have ei : (nI i).toInt = i := nI_toInt (by omega)
  rw [iz_eq, iz_sub (by rw [e9, ei]; omega), e9, ei, nI_toInt (by omega)]
  omega
/-- the state of choosing: gv planes are given -/
def plI (a b : fx_H) (w q gv : Nat) (k : fx_H) (x : Int32 × fx_H) : Prop := gv ≤ 2 ∧ x.1 = nI gv ∧ mfr q [26] [38, 39, 40, 41] b x.2 ∧ (∀ y j, ¬ (w + 134 ≤ y ∧ y < w + 141) → fx_i k y j = fx_i a y j) ∧ (∀ j, j < 2 → JN (mixH q k x.2) w q j) ∧ ∀ j, gv ≤ j → j < 2 → fx_i x.2 (q + 26) j = -1
/-- one turn over the levels, both sides -/
theorem A_turn {a b : fx_H} {w q gv i : Nat} {k : fx_H} {x : Int32 × fx_H} (hq : w + 191 ≤ q) (hS : PS (mixH q a b) (w + 90) q 20) (hP : ∀ s, s < 10 → PR (mixH q a b) (w + 93 + 4 * s) q (20 + s)) (hcr : mCR (mixH q a b) q) (hi : i < 10) (hH : 9 - i < pH a (w + 90)) (hI : plI a b w q gv k x) :
    ∃ gv' k', chs (w + 133) (w + 90) (9 - i + 1) gv k = chs (w + 133) (w + 90) (9 - i) gv' k' ∧ plI a b w q gv' k' (cqO q i x) := by
  obtain ⟨g2, x1, hf, hc, hN, hm1⟩ := hI
  by_cases e2 : gv = 2
  · subst e2
    refine ⟨2, k, by rw [chs_2, chs_2], ?_⟩
    have : cqO q i x = x := cqO_no (b := x.2) (z := x.1) (Or.inr x1)
    rw [this]
    exact ⟨g2, x1, hf, hc, hN, hm1⟩
  have mo : ∀ o j, 0 < o → o ≠ 26 → fx_i x.2 (q + o) j = fx_i b (q + o) j := fun o j h1 h2 => mfr_at hf ⟨fun z => by simp only [List.mem_cons, List.mem_nil_iff, or_false] at z; omega, h1⟩ j
  have uc : ∀ y j, ¬ (w + 134 ≤ y ∧ y < w + 141) → y < q → fx_i (mixH q k x.2) y j = fx_i (mixH q a b) y j := fun y j h1 h2 => by rw [mix_c _ _ h2, mix_c _ _ h2, hc y j h1]
  have um : ∀ o j, 0 < o → o ≠ 26 → fx_i (mixH q k x.2) (q + o) j = fx_i (mixH q a b) (q + o) j := fun o j h1 h2 => by rw [mix_m, mix_m, mo o j h1 h2]
  have hS' : PS (mixH q k x.2) (w + 90) q 20 := PS_congr (by decide) (uc _ _ (by omega) (by omega)) (fun l _ => uc _ _ (by omega) (by omega)) (fun t ht => uc _ _ (by omega) (by omega)) (fun t _ => um 7 _ (by decide) (by decide)) (fun t _ => um 10 _ (by decide) (by decide)) hS
  have hP' : ∀ s, s < 10 → PR (mixH q k x.2) (w + 93 + 4 * s) q (20 + s) := fun s hs => PR_congr (fun j _ => uc _ _ (by omega) (by omega)) (fun j _ => uc _ _ (by omega) (by omega)) (fun j _ => uc _ _ (by omega) (by omega)) (fun j _ => uc _ _ (by omega) (by omega)) (fun o h1 h2 => um o _ (by omega) (by omega)) (fun j _ => um 17 _ (by decide) (by decide)) ⟨um 3 _ (by decide) (by decide), um 4 _ (by decide) (by decide)⟩ (hP s hs)
  have eHu : pH (mixH q k x.2) (w + 90) = pH a (w + 90) := by unfold pH; rw [uc _ _ (by omega) (by omega), mix_c _ _ (by omega)]
  have hl : 9 - i < pH (mixH q k x.2) (w + 90) := by rw [eHu]; exact hH
  obtain ⟨s10, nth, pr⟩ := PS_at hS' hl
  have fe := fit_eq (n := w + 133) hS' hP' hl
  have pk : pU (mixH q k x.2) (w + 90) (9 - i) = pU k (w + 90) (9 - i) := by unfold pU; rw [mix_c _ _ (by omega)]
  have fk : v_PN_isFit (mixH q k x.2) (w + 133) (w + 90) (9 - i) = v_PN_isFit k (w + 133) (w + 90) (9 - i) := by
    have ek : ∀ y j, y < q → fx_i k y j = fx_i (mixH q k x.2) y j := fun y j h => (mix_c _ _ h j).symm
    exact (isFit_congr hS'.1 hl (fun y j _ h => ek y j (by omega))).symm
  have nU : fx_i k (w + 90 + 2) (9 - i) = nI (pU k (w + 90) (9 - i)) := by
    have := (hS'.1.2.2 (9 - i) (by omega)).2
    rw [mix_c _ _ (by omega), pk] at this
    exact this
  rw [fk, pk] at fe
  rw [pk] at s10 nth pr
  have e93 : ∀ s, w + 90 + 3 + 4 * s = w + 93 + 4 * s := fun s => by omega
  rw [e93] at pr
  have nth' : v_MO_nth x.2 q 20 ((9 : Int32) - nI i) = nI (20 + pU k (w + 90) (9 - i)) := by
    rw [nine hi, ← nth]
    exact nth_congr (by decide) (fun t _ => (mix_m _ _ _ _).symm) (fun t _ => (mix_m _ _ _ _).symm) _
  have hpr := hP' _ s10
  have pe := hpr.2.2 pr
  have fm : fitM (mixH q k x.2) q (20 + pU k (w + 90) (9 - i)) ↔ fitM x.2 q (20 + pU k (w + 90) (9 - i)) := fitM_congr (fun o j _ _ => mix_m _ _ _ _)
  rw [fm] at fe
  have mpx : ∀ t, t < 10 → ¬ fx_i x.2 (q + 7) (20 + t) = 0 → mpOk x.2 q (20 + t) := fun t ht z => by
    have hp := hP' t ht
    have z2 : ¬ fx_i (mixH q k x.2) (w + 93 + 4 * t) 0 = 0 := fun e => z (by have := hp.1.mp e; rw [mix_m] at this; exact this)
    have := (hp.2.2 z2).2.2.2.1
    unfold mpOk at this ⊢
    simp only [mix_m] at this
    exact this
  have h7 : ¬ fx_i x.2 (q + 7) (20 + pU k (w + 90) (9 - i)) = 0 := fun z => pr (hpr.1.mpr (by rw [mix_m]; exact z))
  have ha := pe.2.2.2.2.2
  rw [mix_m] at ha
  have hz : ¬ x.1 = 2 := fun z => by
    rw [x1] at z
    exact e2 ((nI_eq (a := gv) (b := 2) (by omega) (by omega)).mp z)
  obtain ⟨k2, hk2, hres⟩ := cqO_v (b := x.2) (q := q) (p := 20 + pU k (w + 90) (9 - i)) (i := i) (z := x.1) (by omega) hi hz nth' h7 mpx (mpx _ s10 h7) ha
  have ex : cqO q i (x.1, x.2) = cqO q i x := rfl
  rw [ex] at hres
  have n2 : ¬ (2 : Int32) ≤ nI gv := by
    have : (2 : Int32).toInt = 2 := rfl
    rw [iz_le, this, nI_toInt (by omega)]
    omega
  have hk2' : mfr q [26] [38, 39, 40, 41] b k2 := mfr_t hf (mfr_m hk2 (fun o ho => by cases ho) (fun o ho => ho))
  have k2o : ∀ o j, 0 < o → fx_i k2 (q + o) j = fx_i x.2 (q + o) j := fun o j h => mfr_at hk2 ⟨fun z => (by cases z), h⟩ j
  have sok : ∀ s, s < 10 → sOk (mixH q k x.2) (w + 93 + 4 * s) := fun s hs => PR_sOk (by omega) (by
    have := hcr
    unfold mCR at this ⊢
    intro t ht
    rw [um 3 _ (by decide) (by decide), um 4 _ (by decide) (by decide)]
    exact this t ht) (hP' s hs)
  generalize hs9 : pU k (w + 90) (9 - i) = s at *
  rcases hres with ⟨hfit, er⟩ | ⟨hfit, er⟩
  · refine ⟨gv + 1, k_PN_give k (w + 133) gv (nI s) (w + 93 + 4 * s), ?_, ?_⟩
    · rw [chs, if_neg n2, if_neg (fe.mpr hfit), hs9, e93, nU]
    · rw [er, x1, nI_clamp (n := gv) (by omega)]
      obtain ⟨v1, v2, v3, v4, v5⟩ := give_v k (w + 133) gv (w + 93 + 4 * s) (nI s) (by omega) (Or.inl (by omega))
      generalize k_PN_give k (w + 133) gv (nI s) (w + 93 + 4 * s) = G at *
      have a1 : w + 133 + 1 = w + 134 := by omega
      have a3 : w + 133 + 3 + gv = w + 136 + gv := by omega
      have a6 : w + 133 + 6 + gv = w + 139 + gv := by omega
      rw [a1] at v1 v4
      simp only [a1] at v2
      rw [a3] at v4
      rw [a6] at v4
      simp only [a3] at v3
      simp only [a3, a6] at v5
      have e20 : nI (20 + s) - 20 = nI s := by
        have t20 : (20 : Int32).toInt = 20 := rfl
        have t1 : (nI (20 + s)).toInt = ((20 + s : Nat) : Int) := nI_toInt (by omega)
        rw [iz_eq, iz_sub (by rw [t1, t20]; omega), t1, t20, nI_toInt (by omega)]
        omega
      rw [e20]
      have M0 : fx_i (fx_wi k2 (q + 26) gv (nI s)) (q + 26) gv = nI s := by rw [fx_i_wi, if_pos ⟨rfl, rfl⟩]
      have M1 : ∀ j, j ≠ gv → fx_i (fx_wi k2 (q + 26) gv (nI s)) (q + 26) j = fx_i x.2 (q + 26) j := fun j g => by rw [fx_i_wi, if_neg (fun z => g z.2), k2o 26 _ (by decide)]
      have M2 : ∀ o j, 0 < o → o ≠ 26 → fx_i (fx_wi k2 (q + 26) gv (nI s)) (q + o) j = fx_i x.2 (q + o) j := fun o j g1 g2 => by rw [fx_i_wi, if_neg (fun z => by omega), k2o o _ g1]
      have M3 : mfr q [26] [38, 39, 40, 41] b (fx_wi k2 (q + 26) gv (nI s)) := mfr_wi hk2' (by decide)
      generalize fx_wi k2 (q + 26) gv (nI s) = M at *
      refine ⟨by omega, (nI_succ gv).symm, M3, fun y j g => by rw [v4 y j (by omega) (by omega) (by omega)]; exact hc y j g, fun j hj => ?_, fun j h1 h2 => ?_⟩
      · by_cases ej : j = gv
        · subst ej
          obtain ⟨y1, y2, y3, y4, y5⟩ := sh_congr (h := x.2) (k := mixH q G M) (q := q) (p := 20 + s) (fun o g1 g2 => by rw [mix_m, M2 o _ (by omega) (by omega)])
          refine ⟨by rw [mix_c _ _ (by omega), mix_m, v1, M0], Or.inr ⟨s, s10, by rw [mix_m, M0], fun z => hfit.2.1 (y5.mp z), fun i hi => ?_, ?_, fun r c hr hc9 => ?_⟩⟩
          · rw [mix_c _ _ (by omega), mix_c _ _ (by omega), v3 i hi, v4 _ _ (by omega) (by omega) (by omega)]
          · rw [y1, y2, y3, y4]
            exact hfit.2.2.1
          · rw [mix_c _ _ (by omega)] at hr hc9
            have pc : ∀ X Y : Int32, pColor (mixH q G M) (w + 93 + 4 * s) X Y = pColor G (w + 93 + 4 * s) X Y := fun X Y => by
              have g0 : ∀ j, fx_i (mixH q G M) (w + 93 + 4 * s) j = fx_i G (w + 93 + 4 * s) j := fun j => mix_c _ _ (by omega) j
              have g1 : ∀ j, fx_i (mixH q G M) (w + 93 + 4 * s + 1) j = fx_i G (w + 93 + 4 * s + 1) j := fun j => mix_c _ _ (by omega) j
              unfold pColor pIx
              simp only [g0, g1]
            have gj : ∀ i, fx_i (mixH q G M) (w + 136 + j) i = fx_i G (w + 136 + j) i := fun i => mix_c _ _ (by omega) i
            rw [gj, gj, gj, pc, mix_c _ _ (by omega)]
            exact v5 r c hr hc9
        · have vG : ∀ y i, y ≠ w + 134 → y ≠ w + 136 + gv → y ≠ w + 139 + gv → y < q → fx_i (mixH q G M) y i = fx_i (mixH q k x.2) y i := fun y i g1 g2 g3 g4 => by rw [mix_c _ _ g4, mix_c _ _ g4, v4 y i g1 g2 g3]
          exact JN_congr sok (by rw [mix_c _ _ (by omega), mix_c _ _ (by omega)]; exact v2 j ej) (by rw [mix_m, mix_m]; exact M1 j ej) (fun i => vG _ _ (by omega) (by omega) (by omega) (by omega)) (fun i => vG _ _ (by omega) (by omega) (by omega) (by omega)) (fun t ht i _ => vG _ _ (by omega) (by omega) (by omega) (by omega)) (fun t ht i _ => vG _ _ (by omega) (by omega) (by omega) (by omega)) (fun t ht i _ => vG _ _ (by omega) (by omega) (by omega) (by omega)) (fun t ht o h1 h2 => by rw [mix_m, mix_m, M2 o _ (by omega) (by omega)]) (hN j hj)
      · show fx_i M (q + 26) j = -1
        rw [M1 j (by omega)]
        exact hm1 j (by omega) h2
  · refine ⟨gv, k, ?_, ?_⟩
    · rw [chs, if_neg n2, if_pos (Classical.byContradiction fun z => hfit (fe.mp z))]
    · rw [er]
      refine ⟨g2, x1, hk2', hc, fun j hj => ?_, fun j h1 h2 => by rw [k2o 26 _ (by decide)]; exact hm1 j h1 h2⟩
      exact JN_congr sok (by rw [mix_c _ _ (by omega), mix_c _ _ (by omega)]) (by rw [mix_m, mix_m, k2o 26 _ (by decide)]) (fun j => by rw [mix_c _ _ (by omega), mix_c _ _ (by omega)]) (fun j => by rw [mix_c _ _ (by omega), mix_c _ _ (by omega)]) (fun s hs j _ => by rw [mix_c _ _ (by omega), mix_c _ _ (by omega)]) (fun s hs j _ => by rw [mix_c _ _ (by omega), mix_c _ _ (by omega)]) (fun s hs j _ => by rw [mix_c _ _ (by omega), mix_c _ _ (by omega)]) (fun s hs o h1 h2 => by rw [mix_m, mix_m, k2o o _ (by omega)]) (hN j hj)
