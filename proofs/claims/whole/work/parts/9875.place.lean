/-- as SR_show, where the Model's cells were written behind findShown -/
theorem SR_show' {X k : fx_H} {a q p : Nat} (e3 : ∀ j, j < 4 → fx_i k (a + 3) j = fx_i (pShow X a) (a + 3) j) (e0 : ∀ j, j < 8 → fx_i k a j = fx_i X a j) (e2 : ∀ j, j < 4 → fx_i k (a + 2) j = fx_i X (a + 2) j) (h0 : fx_i k a 0 = 0 ↔ fx_i k (q + 7) p = 0) (hpe : ¬ fx_i k a 0 = 0 → PE k a q p) : SR k a q p := by
  obtain ⟨v1, v2⟩ := pShow_v X a (fun z => by
    rw [← e0 0 (by decide)] at z
    obtain ⟨⟨-, -, g3, g4, -⟩, -, ⟨k0, k1, k2, k3, -⟩, ⟨m1, m2, m3, m4, -⟩, -⟩ := hpe z
    rw [← e0 3 (by decide), ← e0 4 (by decide), ← e2 0 (by decide), ← e2 1 (by decide), ← e2 2 (by decide), ← e2 3 (by decide), g3, g4, k0, k1]
    exact ⟨m1, m2, m3, m4, k2, k3⟩)
  unfold rIs at v1 v2
  rw [← e3 0 (by decide), ← e3 1 (by decide), ← e3 2 (by decide), ← e3 3 (by decide), ← e0 0 (by decide), ← e0 7 (by decide)] at v1 v2
  rw [← e0 3 (by decide), ← e0 4 (by decide), ← e2 0 (by decide), ← e2 1 (by decide), ← e2 2 (by decide), ← e2 3 (by decide)] at v2
  by_cases hz : fx_i k a 0 = 0 ∨ fx_i k a 7 = 0
  · obtain ⟨r0, r1, r2, r3⟩ := v1 hz
    have he : shE k q p := by
      by_cases z : fx_i k a 0 = 0
      · exact Or.inl (h0.mp z)
      · obtain ⟨⟨-, -, -, -, -, -, g7⟩, -⟩ := hpe z
        rcases hz with y | y
        · exact absurd y z
        · exact Or.inr (Or.inl (g7.mp y))
    refine ⟨⟨by omega, by omega, by omega, by omega⟩, fun _ => Or.inl (iz_eq.mpr r2), fun z => absurd he z⟩
  · obtain ⟨r0, r1, r2, r3⟩ := v2 hz
    have z : ¬ fx_i k a 0 = 0 := fun y => hz (Or.inl y)
    obtain ⟨⟨-, -, g3, g4, -, -, g7⟩, -, ⟨k0, k1, k2, k3, k4, k5⟩, ⟨m1, m2, m3, m4, m5, m6, m7, m8⟩, -⟩ := hpe z
    rw [g3, k0] at r0 r2
    rw [g4, k1] at r1 r3
    have hE : shE k q p ↔ (shR k q p ≤ shX k q p ∨ shB k q p ≤ shY k q p) := by
      unfold shE
      constructor
      · intro y
        rcases y with y | y | y
        · exact absurd (h0.mpr y) z
        · exact absurd (Or.inr (g7.mpr y)) hz
        · exact y
      · exact fun y => Or.inr (Or.inr y)
    clear v1 v2
    have o0 := mm1 r0 ⟨by clear r0 r1 r2 r3; omega, by clear r0 r1 r2 r3; omega⟩
    have o1 := mm1 r1 ⟨by clear r0 r1 r2 r3; omega, by clear r0 r1 r2 r3; omega⟩
    have o2 := mm2 r2 ⟨by clear r0 r1 r2 r3; omega, by clear r0 r1 r2 r3; omega⟩ ⟨k2.1, by clear r0 r1 r2 r3; omega⟩ (by decide)
    have o3 := mm2 r3 ⟨by clear r0 r1 r2 r3; omega, by clear r0 r1 r2 r3; omega⟩ ⟨k3.1, by clear r0 r1 r2 r3; omega⟩ (by decide)
    unfold SR rIs
    rw [hE]
    unfold shR shX shB shY
    refine ⟨⟨o0, o1, o2, o3⟩, fun y => ?_, fun y => ?_⟩
    · by_cases w0 : (fx_i k (q + 15) p).toInt = 0
      · rcases k4 w0 with w1 | w1
        · rw [w1] at r2
          exact Or.inl (iz_eq.mpr (mm3 r2))
        · rw [w1] at r3
          exact Or.inr (iz_eq.mpr (mm3 r3))
      · obtain ⟨w1, w2⟩ := k5 (by clear r0 r1 r2 r3 y; omega)
        rw [w1] at r2
        rw [w2] at r3
        rcases y with y | y
        · exact Or.inl (iz_eq.mpr (mm4 r2 y))
        · exact Or.inr (iz_eq.mpr (mm4 r3 y))
    · by_cases w0 : (fx_i k (q + 15) p).toInt = 0
      · exact absurd (Or.inl (by rw [w0]; exact mm6)) y
      · obtain ⟨w1, w2⟩ := k5 (by clear r0 r1 r2 r3 y; omega)
        rw [w1] at r2
        rw [w2] at r3
        exact ⟨r0, r1, mm5 r2 (fun z => y (Or.inl z)), mm5 r3 (fun z => y (Or.inr z))⟩
/-- a draft that stays there is edited -/
theorem J_edit {h k : fx_H} {w q f b s : Nat} (hj : J h w q f b) (hs : s < 10) (h0 : ¬ fx_i h (w + 49 + 4 * s) 0 = 0) (d : DF h k w q s) (m : ∀ o, 1 ≤ o → o ≤ 7 → fx_i k (q + o) s = fx_i h (q + o) s) (c : ∀ j, j < 3 → fx_i k (w + 49 + 4 * s) j = fx_i h (w + 49 + 4 * s) j) (c46 : fx_i k (w + 46) s = fx_i h (w + 46) s) (c6 : fx_i k (w + 1) 6 = fx_i h (w + 1) 6)
    (hsr : SR k (w + 49 + 4 * s) q s) (hpe : PE k (w + 49 + 4 * s) q s) : J k w q f b := by
  obtain ⟨t7, -⟩ := pre_there hj hs h0
  have ma : ∀ o, 1 ≤ o → o ≤ 7 → ∀ t, fx_i k (q + o) t = fx_i h (q + o) t := fun o h1 h2 t => by
    by_cases e : t = s
    · rw [e]; exact m o h1 h2
    · exact d.m o h1 (by omega) t e
  refine J_draft hj hs d ⟨?_, hsr, fun _ => hpe⟩ ?_ ?_ ?_ (Or.inl ⟨m 3 (by decide) (by decide), m 4 (by decide) (by decide)⟩)
  · rw [c 0 (by decide), m 7 (by decide) (by decide)]
    exact (hj.pics s hs).1.1
  · exact JS_congr c46 (d.c _ (by omega) (by omega) (by omega) (by omega) (by omega) _ (by omega) (by omega)) (c 1 (by decide)) (c 2 (by decide)) m (ma 7 (by decide) (by decide) _) (ma 7 (by decide) (by decide) _) (hj.num s hs)
  · rw [c6, fp_congr (fun t _ => ma 1 (by decide) (by decide) t) (fun t _ => ma 3 (by decide) (by decide) t) (fun t _ => ma 4 (by decide) (by decide) t)]
    exact hj.free
  · intro t ht
    rw [ma 3 (by decide) (by decide) t, ma 4 (by decide) (by decide) t]
    exact hj.cr t ht
theorem wi_jW (h : fx_H) (v lo hi : Int32) : v_MO_within h v lo hi = jW v lo hi := by
  unfold v_MO_within jW
  by_cases c1 : v < lo
  · rw [if_pos c1, if_neg (fun z => z.1 c1)]
  · rw [if_neg c1]
    by_cases c2 : hi < v
    · rw [if_pos c2, if_neg (fun z => z.2 c2)]
    · rw [if_neg c2, if_pos ⟨c1, c2⟩]
theorem jW_b1 {v lo hi : Int32} (hw : ¬ jW v lo hi = 0) : lo.toInt ≤ v.toInt ∧ v.toInt ≤ hi.toInt := by
  unfold jW at hw
  split at hw
  · rename_i z
    rw [iz_lt, iz_lt] at z
    omega
  · exact absurd rfl hw
/-! ===== place ===== -/
theorem pre_place (h : fx_H) (q : Nat) (s x y od al vi : Int32) : pre_MO_place h q s x y od al vi := by
  have n1 : ¬ fx_i (fx_wi h q 0 (1 : Int32)) q 0 = 0 := by rw [w00]; decide
  exact ⟨fun _ z => absurd z n1, fun _ _ z => absurd z n1, fun _ _ _ z => absurd z n1, fun _ _ _ _ z => absurd z n1, fun _ _ _ _ _ z => absurd z n1, fun z _ _ _ _ _ => vp_up (mo_has_in z) (by decide)⟩
def plOk (x y od al : Int32) : Prop := ¬ jW x (-20) 30 = 0 ∧ ¬ jW y (-20) 30 = 0 ∧ ¬ jW od 0 9 = 0 ∧ ¬ jW al 0 16 = 0
theorem k_place_0 {h : fx_H} {q : Nat} {s x y od al vi : Int32} (hd : v_MO_hasDraft h q s = 0 ∨ ¬ plOk x y od al) : k_MO_place h q s x y od al vi = fx_wi h q 0 1 := by
  have n1 : ¬ fx_i (fx_wi h q 0 (1 : Int32)) q 0 = 0 := by rw [w00]; decide
  unfold k_MO_place
  simp only [wi_jW, if_neg n1]
  unfold plOk at hd
  by_cases c0 : v_MO_hasDraft h q s = 0
  · rw [if_pos c0]
  by_cases c1 : jW x (-20) 30 = 0
  · rw [if_neg c0, if_pos c1]
  by_cases c2 : jW y (-20) 30 = 0
  · rw [if_neg c0, if_neg c1, if_pos c2]
  by_cases c3 : jW od 0 9 = 0
  · rw [if_neg c0, if_neg c1, if_neg c2, if_pos c3]
  by_cases c4 : jW al 0 16 = 0
  · rw [if_neg c0, if_neg c1, if_neg c2, if_neg c3, if_pos c4]
  · rcases hd with z | z
    · exact absurd z c0
    · exact absurd ⟨c1, c2, c3, c4⟩ z
theorem k_place_1 {h : fx_H} {q : Nat} {s x y od al vi : Int32} (hd : ¬ v_MO_hasDraft h q s = 0) (hp : plOk x y od al) : k_MO_place h q s x y od al vi = fx_wi (fx_wi (fx_wi (fx_wi (fx_wi (fx_wi h q 0 (0 : Int32)) (q + 8) s.toNatClampNeg x) (q + 9) s.toNatClampNeg y) (q + 10) s.toNatClampNeg od) (q + 11) s.toNatClampNeg al) (q + 12) s.toNatClampNeg vi := by
  obtain ⟨c1, c2, c3, c4⟩ := hp
  unfold k_MO_place
  simp only [wi_jW]
  rw [if_neg hd, if_neg c1, if_neg c2, if_neg c3, if_neg c4, if_pos (w00 _ _ _)]
theorem A_place {h : fx_H} {w q f b : Nat} (hj : J h w q f b) (s x y od al vi : Int32) : fx_i (k_MO_place (k_FS_place h w f b s x y od al vi) q s x y od al vi) q 0 = cod (o_FS_place h w f b s x y od al vi) ∧ J (k_MO_place (k_FS_place h w f b s x y od al vi) q s x y od al vi) w q f b := by
  have hq := hj.at_
  by_cases hd : v_DE_hasDraft h (w + 1) s = 0 ∨ ¬ plOk x y od al
  · have e12 : k_FS_place h w f b s x y od al vi = fx_sk h 1 ∧ o_FS_place h w f b s x y od al vi = .inr "java/lang/IllegalArgumentException" := by
      unfold k_FS_place o_FS_place
      unfold plOk at hd
      by_cases c0 : v_DE_hasDraft h (w + 1) s = 0
      · rw [if_pos c0, if_pos c0]; exact ⟨rfl, rfl⟩
      by_cases c1 : jW x (-20) 30 = 0
      · rw [if_neg c0, if_pos c1, if_neg c0, if_pos c1]; exact ⟨rfl, rfl⟩
      by_cases c2 : jW y (-20) 30 = 0
      · rw [if_neg c0, if_neg c1, if_pos c2, if_neg c0, if_neg c1, if_pos c2]; exact ⟨rfl, rfl⟩
      by_cases c3 : jW od 0 9 = 0
      · rw [if_neg c0, if_neg c1, if_neg c2, if_pos c3, if_neg c0, if_neg c1, if_neg c2, if_pos c3]; exact ⟨rfl, rfl⟩
      by_cases c4 : jW al 0 16 = 0
      · rw [if_neg c0, if_neg c1, if_neg c2, if_neg c3, if_pos c4, if_neg c0, if_neg c1, if_neg c2, if_neg c3, if_pos c4]; exact ⟨rfl, rfl⟩
      · rcases hd with z | z
        · exact absurd z c0
        · exact absurd ⟨c1, c2, c3, c4⟩ z
    have e3 : v_MO_hasDraft (fx_sk h 1) q s = 0 ∨ ¬ plOk x y od al := hd.imp (fun z => (hasDraft_iff hj (fun _ => rfl) (fun _ => rfl) s).trans z) id
    rw [e12.1, e12.2, k_place_0 e3]
    exact ⟨w00 _ _ _, J_w (J_ag (ag_sk h w q 1) hj) 1⟩
  · have hd1 : ¬ v_DE_hasDraft h (w + 1) s = 0 := fun z => hd (Or.inl z)
    have hp : plOk x y od al := Classical.byContradiction fun z => hd (Or.inr z)
    obtain ⟨c1, c2, c3, c4⟩ := hp
    obtain ⟨hs, es, h0⟩ := draft_in hd1
    have ea : w + 1 + 48 + 4 * s.toNatClampNeg = w + 49 + 4 * s.toNatClampNeg := by omega
    rw [ea] at h0
    obtain ⟨t7, t1, t6, pe⟩ := pre_there hj hs h0
    have e1 : k_FS_place h w f b s x y od al vi = pShow (fx_wi (fx_wi (fx_wi (fx_wi (fx_wi h (w + 49 + 4 * s.toNatClampNeg) 3 x) (w + 49 + 4 * s.toNatClampNeg) 4 y) (w + 49 + 4 * s.toNatClampNeg) 5 od) (w + 49 + 4 * s.toNatClampNeg) 6 al) (w + 49 + 4 * s.toNatClampNeg) 7 vi) (w + 49 + 4 * s.toNatClampNeg) := by
      unfold k_FS_place
      rw [if_neg hd1, if_neg c1, if_neg c2, if_neg c3, if_neg c4, ea]
    have e2 : o_FS_place h w f b s x y od al vi = .inl none := by
      unfold o_FS_place
      rw [if_neg hd1, if_neg c1, if_neg c2, if_neg c3, if_neg c4]
    rw [e1, e2]
    generalize hn : s.toNatClampNeg = n at *
    generalize hX : fx_wi (fx_wi (fx_wi (fx_wi (fx_wi h (w + 49 + 4 * n) 3 x) (w + 49 + 4 * n) 4 y) (w + 49 + 4 * n) 5 od) (w + 49 + 4 * n) 6 al) (w + 49 + 4 * n) 7 vi = X
    have xo : ∀ a j, a ≠ w + 49 + 4 * n → fx_i X a j = fx_i h a j := fun a j h1 => by rw [← hX]; simp [fx_i_wi, h1]
    have eo : ∀ a j, a ≠ w + 49 + 4 * n → a ≠ w + 49 + 4 * n + 3 → fx_i (pShow X (w + 49 + 4 * n)) a j = fx_i h a j := fun a j h1 h2 => (pShow_o _ _ _ _ h2).trans (xo a j h1)
    have e3 : ¬ v_MO_hasDraft (pShow X (w + 49 + 4 * n)) q s = 0 := by
      rw [hasDraft_iff hj (fun j => eo _ _ (by omega) (by omega)) (fun j => eo _ _ (by omega) (by omega)) s]
      exact hd1
    rw [k_place_1 e3 ⟨c1, c2, c3, c4⟩, hn]
    generalize hk : fx_wi (fx_wi (fx_wi (fx_wi (fx_wi (fx_wi (pShow X (w + 49 + 4 * n)) q 0 (0 : Int32)) (q + 8) n x) (q + 9) n y) (q + 10) n od) (q + 11) n al) (q + 12) n vi = k
    have kc : ∀ a j, a < q → fx_i k a j = fx_i (pShow X (w + 49 + 4 * n)) a j := fun a j h1 => by
      have g : ∀ o, ¬ a = q + o := fun o z => by omega
      have g0 : ¬ a = q := fun z => by omega
      rw [← hk]
      simp [fx_i_wi, g, g0]
    have kcx : ∀ a j, a < q → a ≠ w + 49 + 4 * n + 3 → fx_i k a j = fx_i X a j := fun a j h1 h2 => (kc a j h1).trans (pShow_o _ _ _ _ h2)
    have km : ∀ o j, 1 ≤ o → o ≤ 37 → (o < 8 ∨ 12 < o) → fx_i k (q + o) j = fx_i h (q + o) j := fun o j h1 h2 h3 => by
      rw [← hk, fx_i_wi, if_neg (fun z => by omega), fx_i_wi, if_neg (fun z => by omega), fx_i_wi, if_neg (fun z => by omega), fx_i_wi, if_neg (fun z => by omega), fx_i_wi, if_neg (fun z => by omega), fx_i_wi, if_neg (fun z => by omega), eo _ _ (by omega) (by omega)]
    have d : DF h k w q n := by
      rw [← hk]
      refine DF_m hq (DF_m hq (DF_m hq (DF_m hq (DF_m hq (DF_f hq ?_ (Or.inl rfl)) (by decide)) (by decide)) (by decide)) (by decide)) (by decide)
      refine DF_sh hq hs ?_
      rw [← hX]
      exact DF_wi hq hs (DF_wi hq hs (DF_wi hq hs (DF_wi hq hs (DF_wi hq hs (DF_rf h w q n) (by omega)) (by omega)) (by omega)) (by omega)) (by omega)
    have v8 : fx_i k (q + 8) n = x := by rw [← hk]; simp [fx_i_wi]
    have v9 : fx_i k (q + 9) n = y := by rw [← hk]; simp [fx_i_wi]
    have v10 : fx_i k (q + 10) n = od := by rw [← hk]; simp [fx_i_wi]
    have v11 : fx_i k (q + 11) n = al := by rw [← hk]; simp [fx_i_wi]
    have v12 : fx_i k (q + 12) n = vi := by rw [← hk]; simp [fx_i_wi]
    have x0 : ∀ j, j < 3 → fx_i k (w + 49 + 4 * n) j = fx_i h (w + 49 + 4 * n) j := fun j h1 => by
      rw [kcx _ _ (by omega) (by omega), ← hX]
      have g : ∀ i, 3 ≤ i → ¬ j = i := fun i h2 z => by omega
      simp [fx_i_wi, g]
    have x3 : fx_i k (w + 49 + 4 * n) 3 = x := by rw [kcx _ _ (by omega) (by omega), ← hX]; simp [fx_i_wi]
    have x4 : fx_i k (w + 49 + 4 * n) 4 = y := by rw [kcx _ _ (by omega) (by omega), ← hX]; simp [fx_i_wi]
    have x5 : fx_i k (w + 49 + 4 * n) 5 = od := by rw [kcx _ _ (by omega) (by omega), ← hX]; simp [fx_i_wi]
    have x6 : fx_i k (w + 49 + 4 * n) 6 = al := by rw [kcx _ _ (by omega) (by omega), ← hX]; simp [fx_i_wi]
    have x7 : fx_i k (w + 49 + 4 * n) 7 = vi := by rw [kcx _ _ (by omega) (by omega), ← hX]; simp [fx_i_wi]
    have nm : n % 10 = n := by omega
    have b1 := jW_b1 c1
    have b2 := jW_b1 c2
    have b3 := jW_b1 c3
    have b4 := jW_b1 c4
    have hpe : PE k (w + 49 + 4 * n) q n := by
      obtain ⟨p1, p2, p3, p4, p5, p6⟩ := pe
      refine ⟨?_, fun j hj9 => ?_, ?_, ?_, ?_, ?_⟩
      · rw [x0 1 (by decide), x0 2 (by decide), x3, x4, x5, x6, x7, v8, v9, v10, v11, v12, km 3 _ (by decide) (by decide) (by decide), km 4 _ (by decide) (by decide) (by decide)]
        exact ⟨p1.1, p1.2.1, rfl, rfl, rfl, rfl, Iff.rfl⟩
      · rw [kcx _ _ (by omega) (by omega), xo _ _ (by omega), km 17 _ (by decide) (by decide) (by decide)]
        exact p2 j hj9
      · rw [kcx (w + 49 + 4 * n + 2) 0 (by omega) (by omega), xo (w + 49 + 4 * n + 2) 0 (by omega), kcx (w + 49 + 4 * n + 2) 1 (by omega) (by omega), xo (w + 49 + 4 * n + 2) 1 (by omega), kcx (w + 49 + 4 * n + 2) 2 (by omega) (by omega), xo (w + 49 + 4 * n + 2) 2 (by omega), kcx (w + 49 + 4 * n + 2) 3 (by omega) (by omega), xo (w + 49 + 4 * n + 2) 3 (by omega), km 13 _ (by decide) (by decide) (by decide), km 14 _ (by decide) (by decide) (by decide), km 15 _ (by decide) (by decide) (by decide), km 16 _ (by decide) (by decide) (by decide)]
        exact p3
      · obtain ⟨-, -, m3, m4, m5, m6, m7, m8⟩ := p4
        unfold mpOk
        rw [v8, v9, km 13 _ (by decide) (by decide) (by decide), km 14 _ (by decide) (by decide) (by decide), km 15 _ (by decide) (by decide) (by decide), km 16 _ (by decide) (by decide) (by decide), km 3 _ (by decide) (by decide) (by decide), km 4 _ (by decide) (by decide) (by decide)]
        exact ⟨b1, b2, m3, m4, m5, m6, m7, m8⟩
      · rw [v10]; exact b3
      · rw [v11]; exact b4
    refine ⟨by rw [← hk]; simp [fx_i_wi]; rfl, J_edit hj hs h0 d (fun o h1 h2 => km o n h1 (by omega) (by omega)) x0 ((kcx _ _ (by omega) (by omega)).trans (xo _ _ (by omega))) ((kcx _ _ (by omega) (by omega)).trans (xo _ _ (by omega))) ?_ hpe⟩
    refine SR_show' (X := X) (fun j _ => kc _ _ (by omega)) (fun j _ => kcx _ _ (by omega) (by omega)) (fun j _ => kcx _ _ (by omega) (by omega)) ?_ (fun _ => hpe)
    rw [x0 0 (by decide), km 7 _ (by decide) (by decide) (by decide)]
    exact (hj.pics n hs).1.1
