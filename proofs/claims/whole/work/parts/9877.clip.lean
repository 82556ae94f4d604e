/-! ===== clip ===== -/
def clX (x : Int32) : Int32 := if x ≤ 0 then 0 else x
def clR (c x cs : Int32) : Int32 := if c ≤ x + cs then c else x + cs
def clE (c r x y cs rs : Int32) : Prop := clR c x cs - clX x ≤ 0 ∨ clR r y rs - clX y ≤ 0
theorem k_clip_0 {h : fx_H} {q : Nat} {s x y cs rs : Int32} (hd : v_MO_hasDraft h q s = 0 ∨ v_MO_isArea h x y cs rs = 0) : k_MO_clip h q s x y cs rs = fx_wi h q 0 1 := by
  unfold k_MO_clip
  by_cases c0 : v_MO_hasDraft h q s = 0
  · rw [if_pos c0]
  · rcases hd with z | z
    · exact absurd z c0
    · rw [if_neg c0, if_pos z]
def CLk (h : fx_H) (q n : Nat) (X Y R B : Int32) : fx_H := fx_wi (fx_wi (fx_wi (fx_wi (fx_wi h q 0 (0 : Int32)) (q + 13) n X) (q + 14) n Y) (q + 15) n (R - X)) (q + 16) n (B - Y)
def CL (h : fx_H) (q n : Nat) (X Y R B : Int32) : fx_H := if R - X ≤ 0 then fx_wi (fx_wi (CLk h q n X Y R B) (q + 15) n 0) (q + 16) n 0 else if B - Y ≤ 0 then fx_wi (fx_wi (CLk h q n X Y R B) (q + 15) n 0) (q + 16) n 0 else CLk h q n X Y R B
set_option maxHeartbeats 4000000 in
theorem k_clip_1 {h : fx_H} {q : Nat} {s x y cs rs : Int32} (hd : ¬ v_MO_hasDraft h q s = 0) (ha : ¬ v_MO_isArea h x y cs rs = 0) :
    k_MO_clip h q s x y cs rs = CL h q s.toNatClampNeg (clX x) (clX y) (clR (fx_i h (q + 3) s.toNatClampNeg) x cs) (clR (fx_i h (q + 4) s.toNatClampNeg) y rs) := by
  have g : ∀ c, 0 < c → ¬ q + c = q := fun c hc z => by omega
  have w3 : fx_i (fx_wi h q 0 (0 : Int32)) (q + 3) s.toNatClampNeg = fx_i h (q + 3) s.toNatClampNeg := wi_q _ _ _ _ _ _ (by decide)
  have w4 : fx_i (fx_wi h q 0 (0 : Int32)) (q + 4) s.toNatClampNeg = fx_i h (q + 4) s.toNatClampNeg := wi_q _ _ _ _ _ _ (by decide)
  have s13 : ∀ (k : fx_H) (v v' : Int32), fx_i (fx_wi (fx_wi k (q + 13) s.toNatClampNeg v) (q + 14) s.toNatClampNeg v') (q + 13) s.toNatClampNeg = v := fun k v v' => by simp [fx_i_wi]
  have s14 : ∀ (k : fx_H) (v v' : Int32), fx_i (fx_wi (fx_wi k (q + 14) s.toNatClampNeg v) (q + 15) s.toNatClampNeg v') (q + 14) s.toNatClampNeg = v := fun k v v' => by simp [fx_i_wi]
  have s15 : ∀ (k : fx_H) (v v' : Int32), fx_i (fx_wi (fx_wi k (q + 15) s.toNatClampNeg v) (q + 16) s.toNatClampNeg v') (q + 15) s.toNatClampNeg = v := fun k v v' => by simp [fx_i_wi]
  have s16 : ∀ (k : fx_H) (v : Int32), fx_i (fx_wi k (q + 16) s.toNatClampNeg v) (q + 16) s.toNatClampNeg = v := fun k v => by simp [fx_i_wi]
  unfold k_MO_clip CL CLk clX clR
  rw [if_neg hd, if_neg ha, w3, w4]
  by_cases a1 : fx_i h (q + 3) s.toNatClampNeg ≤ x + cs
  · rw [if_pos a1, if_pos a1]
    by_cases a2 : fx_i h (q + 4) s.toNatClampNeg ≤ y + rs
    · rw [if_pos a2, if_pos a2]
      by_cases a3 : x ≤ 0
      · rw [if_pos a3, if_pos a3]
        by_cases a4 : y ≤ 0
        · rw [if_pos a4, if_pos a4]; simp only [s13, s14, s15, s16]
        · rw [if_neg a4, if_neg a4]; simp only [s13, s14, s15, s16]
      · rw [if_neg a3, if_neg a3]
        by_cases a4 : y ≤ 0
        · rw [if_pos a4, if_pos a4]; simp only [s13, s14, s15, s16]
        · rw [if_neg a4, if_neg a4]; simp only [s13, s14, s15, s16]
    · rw [if_neg a2, if_neg a2]
      by_cases a3 : x ≤ 0
      · rw [if_pos a3, if_pos a3]
        by_cases a4 : y ≤ 0
        · rw [if_pos a4, if_pos a4]; simp only [s13, s14, s15, s16]
        · rw [if_neg a4, if_neg a4]; simp only [s13, s14, s15, s16]
      · rw [if_neg a3, if_neg a3]
        by_cases a4 : y ≤ 0
        · rw [if_pos a4, if_pos a4]; simp only [s13, s14, s15, s16]
        · rw [if_neg a4, if_neg a4]; simp only [s13, s14, s15, s16]
  · rw [if_neg a1, if_neg a1]
    by_cases a2 : fx_i h (q + 4) s.toNatClampNeg ≤ y + rs
    · rw [if_pos a2, if_pos a2]
      by_cases a3 : x ≤ 0
      · rw [if_pos a3, if_pos a3]
        by_cases a4 : y ≤ 0
        · rw [if_pos a4, if_pos a4]; simp only [s13, s14, s15, s16]
        · rw [if_neg a4, if_neg a4]; simp only [s13, s14, s15, s16]
      · rw [if_neg a3, if_neg a3]
        by_cases a4 : y ≤ 0
        · rw [if_pos a4, if_pos a4]; simp only [s13, s14, s15, s16]
        · rw [if_neg a4, if_neg a4]; simp only [s13, s14, s15, s16]
    · rw [if_neg a2, if_neg a2]
      by_cases a3 : x ≤ 0
      · rw [if_pos a3, if_pos a3]
        by_cases a4 : y ≤ 0
        · rw [if_pos a4, if_pos a4]; simp only [s13, s14, s15, s16]
        · rw [if_neg a4, if_neg a4]; simp only [s13, s14, s15, s16]
      · rw [if_neg a3, if_neg a3]
        by_cases a4 : y ≤ 0
        · rw [if_pos a4, if_pos a4]; simp only [s13, s14, s15, s16]
        · rw [if_neg a4, if_neg a4]; simp only [s13, s14, s15, s16]
theorem CL_v (h : fx_H) (q n : Nat) (X Y R B : Int32) : fx_i (CL h q n X Y R B) (q + 13) n = X ∧ fx_i (CL h q n X Y R B) (q + 14) n = Y ∧
    ((R - X ≤ 0 ∨ B - Y ≤ 0) → fx_i (CL h q n X Y R B) (q + 15) n = 0 ∧ fx_i (CL h q n X Y R B) (q + 16) n = 0) ∧ (¬ (R - X ≤ 0 ∨ B - Y ≤ 0) → fx_i (CL h q n X Y R B) (q + 15) n = R - X ∧ fx_i (CL h q n X Y R B) (q + 16) n = B - Y) := by
  unfold CL CLk
  by_cases c1 : R - X ≤ 0
  · rw [if_pos c1]
    exact ⟨by simp [fx_i_wi], by simp [fx_i_wi], fun _ => ⟨by simp [fx_i_wi], by simp [fx_i_wi]⟩, fun z => absurd (Or.inl c1) z⟩
  · rw [if_neg c1]
    by_cases c2 : B - Y ≤ 0
    · rw [if_pos c2]
      exact ⟨by simp [fx_i_wi], by simp [fx_i_wi], fun _ => ⟨by simp [fx_i_wi], by simp [fx_i_wi]⟩, fun z => absurd (Or.inr c2) z⟩
    · rw [if_neg c2]
      exact ⟨by simp [fx_i_wi], by simp [fx_i_wi], fun z => absurd z (by rintro (z | z) <;> contradiction), fun _ => ⟨by simp [fx_i_wi], by simp [fx_i_wi]⟩⟩
theorem clip_v {h : fx_H} {q n : Nat} {s x y cs rs : Int32} (hn : s.toNatClampNeg = n) (hd : ¬ v_MO_hasDraft h q s = 0) (ha : ¬ v_MO_isArea h x y cs rs = 0) :
    fx_i (k_MO_clip h q s x y cs rs) (q + 13) n = clX x ∧ fx_i (k_MO_clip h q s x y cs rs) (q + 14) n = clX y ∧
    (clE (fx_i h (q + 3) n) (fx_i h (q + 4) n) x y cs rs → fx_i (k_MO_clip h q s x y cs rs) (q + 15) n = 0 ∧ fx_i (k_MO_clip h q s x y cs rs) (q + 16) n = 0) ∧
    (¬ clE (fx_i h (q + 3) n) (fx_i h (q + 4) n) x y cs rs → fx_i (k_MO_clip h q s x y cs rs) (q + 15) n = clR (fx_i h (q + 3) n) x cs - clX x ∧ fx_i (k_MO_clip h q s x y cs rs) (q + 16) n = clR (fx_i h (q + 4) n) y rs - clX y) := by
  rw [k_clip_1 hd ha, hn]
  exact CL_v h q n _ _ _ _
theorem mfr_CL (h : fx_H) (q n : Nat) (X Y R B : Int32) : mfr q [13, 14, 15, 16] [0] h (CL h q n X Y R B) := by
  have h1 : mfr q [13, 14, 15, 16] [0] h (CLk h q n X Y R B) := mfr_wi (mfr_wi (mfr_wi (mfr_wi (mfr_wf (mfr_rf _ _ _ _) (by decide)) (by decide)) (by decide)) (by decide)) (by decide)
  unfold CL
  repeat' split
  all_goals first | exact h1 | exact mfr_wi (mfr_wi h1 (by decide)) (by decide)
theorem clip_at {h : fx_H} {q : Nat} {s x y cs rs : Int32} (hd : ¬ v_MO_hasDraft h q s = 0) (ha : ¬ v_MO_isArea h x y cs rs = 0) (o j : Nat) (ho : 13 ≤ o ∧ o ≤ 16) (hj : j ≠ s.toNatClampNeg) : fx_i (k_MO_clip h q s x y cs rs) (q + o) j = fx_i h (q + o) j := by
  rw [k_clip_1 hd ha]
  unfold CL CLk
  have g : ¬ q + o = q := fun z => by omega
  repeat' split
  all_goals simp [fx_i_wi, hj]
  all_goals omega
theorem clip_0 {h : fx_H} {q : Nat} {s x y cs rs : Int32} (hd : ¬ v_MO_hasDraft h q s = 0) (ha : ¬ v_MO_isArea h x y cs rs = 0) : fx_i (k_MO_clip h q s x y cs rs) q 0 = 0 := by
  have g : ∀ c, 0 < c → ¬ q = q + c := fun c hc z => by omega
  rw [k_clip_1 hd ha]
  unfold CL CLk
  repeat' split
  all_goals simp [fx_i_wi, g]
theorem area_jA (h : fx_H) (x y cs rs : Int32) : v_MO_isArea h x y cs rs = jA x y cs rs := by
  unfold v_MO_isArea jA
  simp only [wi_jW]
  by_cases c1 : jW x (-20) 30 = 0
  · rw [if_pos c1, if_pos (Or.inl c1)]
  by_cases c2 : jW y (-20) 30 = 0
  · rw [if_neg c1, if_pos c2, if_pos (Or.inr (Or.inl c2))]
  by_cases c3 : jW cs 0 30 = 0
  · rw [if_neg c1, if_neg c2, if_pos c3, if_pos (Or.inr (Or.inr (Or.inl c3)))]
  by_cases c4 : jW rs 0 30 = 0
  · rw [if_neg c1, if_neg c2, if_neg c3, if_pos c4, if_pos (Or.inr (Or.inr (Or.inr c4)))]
  · rw [if_neg c1, if_neg c2, if_neg c3, if_neg c4, if_neg (fun z => by rcases z with z | z | z | z <;> contradiction)]
theorem jmx (x y : Int32) : (jmax x y).toInt = max x.toInt y.toInt := by unfold jmax; split <;> rename_i z <;> rw [iz_lt] at z <;> omega
theorem jmn (x y : Int32) : (jmin x y).toInt = min x.toInt y.toInt := by unfold jmin; split <;> rename_i z <;> rw [iz_lt] at z <;> omega
/-- both sides' clip, in numbers -/
theorem clip_n {c x cs : Int32} (hc : 0 ≤ c.toInt ∧ c.toInt ≤ 12) (hx : -20 ≤ x.toInt ∧ x.toInt ≤ 30) (hcs : 0 ≤ cs.toInt ∧ cs.toInt ≤ 30) :
    jmax x 0 = clX x ∧ (clX x).toInt = max x.toInt 0 ∧ (clR c x cs - clX x).toInt = min (x.toInt + cs.toInt) c.toInt - max x.toInt 0 ∧ (jmax (jmin (x + cs) c - jmax x 0) 0).toInt = max (min (x.toInt + cs.toInt) c.toInt - max x.toInt 0) 0 := by
  have e0 : (0 : Int32).toInt = 0 := rfl
  have t1 : (x + cs).toInt = x.toInt + cs.toInt := iz_add (by omega)
  have a1 : (clX x).toInt = max x.toInt 0 := by unfold clX; split <;> rename_i z <;> rw [iz_le] at z <;> omega
  have a2 : (clR c x cs).toInt = min (x.toInt + cs.toInt) c.toInt := by unfold clR; split <;> rename_i z <;> rw [iz_le, t1] at z <;> omega
  have a3 : jmax x 0 = clX x := iz_eq.mpr (by rw [jmx, a1, e0])
  have a4 : (jmin (x + cs) c).toInt = min (x.toInt + cs.toInt) c.toInt := by rw [jmn, t1]
  refine ⟨a3, a1, by rw [iz_sub (by omega), a2, a1], ?_⟩
  rw [jmx, a3, iz_sub (by omega), a4, a1, e0]
theorem A_clip {h : fx_H} {w q f b : Nat} (hj : J h w q f b) (s x y cs rs : Int32) : fx_i (k_MO_clip (k_FS_clip h w f b s x y cs rs) q s x y cs rs) q 0 = cod (o_FS_clip h w f b s x y cs rs) ∧ J (k_MO_clip (k_FS_clip h w f b s x y cs rs) q s x y cs rs) w q f b := by
  have hq := hj.at_
  have ea : w + 1 + 48 + 4 * s.toNatClampNeg = w + 49 + 4 * s.toNatClampNeg := by omega
  by_cases hd : v_DE_hasDraft h (w + 1) s = 0 ∨ jA x y cs rs = 0
  · have e12 : k_FS_clip h w f b s x y cs rs = fx_sk h 1 ∧ o_FS_clip h w f b s x y cs rs = .inr "java/lang/IllegalArgumentException" := by
      unfold k_FS_clip o_FS_clip
      by_cases c0 : v_DE_hasDraft h (w + 1) s = 0
      · rw [if_pos c0, if_pos c0]; exact ⟨rfl, rfl⟩
      · rcases hd with z | z
        · exact absurd z c0
        · rw [if_neg c0, if_pos z, if_neg c0, if_pos z]; exact ⟨rfl, rfl⟩
    have e3 : v_MO_hasDraft (fx_sk h 1) q s = 0 ∨ v_MO_isArea (fx_sk h 1) x y cs rs = 0 := hd.imp (fun z => (hasDraft_iff hj (fun _ => rfl) (fun _ => rfl) s).trans z) (fun z => (area_jA _ _ _ _ _).trans z)
    rw [e12.1, e12.2, k_clip_0 e3]
    exact ⟨w00 _ _ _, J_w (J_ag (ag_sk h w q 1) hj) 1⟩
  · have hd1 : ¬ v_DE_hasDraft h (w + 1) s = 0 := fun z => hd (Or.inl z)
    have ha1 : ¬ jA x y cs rs = 0 := fun z => hd (Or.inr z)
    obtain ⟨hs, es, h0⟩ := draft_in hd1
    rw [ea] at h0
    obtain ⟨t7, t1, t6, pe⟩ := pre_there hj hs h0
    obtain ⟨d1, d2⟩ := J_dims hj hs h0
    obtain ⟨b1, b2⟩ := hj.cr _ hs
    obtain ⟨r1, r2, r3, r4⟩ := ar_b (h := h) (by rw [area_jA]; exact ha1)
    have e1 : k_FS_clip h w f b s x y cs rs = pShow (rcut (rset h (w + 49 + 4 * s.toNatClampNeg + 2) x y cs rs) (w + 49 + 4 * s.toNatClampNeg + 2) (fx_i h (q + 3) s.toNatClampNeg) (fx_i h (q + 4) s.toNatClampNeg)) (w + 49 + 4 * s.toNatClampNeg) := by
      unfold k_FS_clip
      rw [if_neg hd1, if_neg ha1, ea, rset_o _ _ _ _ _ _ _ _ (by omega), rset_o _ _ _ _ _ _ _ _ (by omega), d1, d2]
    have e2 : o_FS_clip h w f b s x y cs rs = .inl none := by
      unfold o_FS_clip
      rw [if_neg hd1, if_neg ha1]
    rw [e1, e2]
    generalize hn : s.toNatClampNeg = n at *
    generalize hX : rcut (rset h (w + 49 + 4 * n + 2) x y cs rs) (w + 49 + 4 * n + 2) (fx_i h (q + 3) n) (fx_i h (q + 4) n) = X
    obtain ⟨v0, v1, v2, v3⟩ := rset_v h (w + 49 + 4 * n + 2) x y cs rs
    have xv : fx_i X (w + 49 + 4 * n + 2) 0 = jmax x 0 ∧ fx_i X (w + 49 + 4 * n + 2) 1 = jmax y 0 ∧ fx_i X (w + 49 + 4 * n + 2) 2 = jmax (jmin (x + cs) (fx_i h (q + 3) n) - jmax x 0) 0 ∧ fx_i X (w + 49 + 4 * n + 2) 3 = jmax (jmin (y + rs) (fx_i h (q + 4) n) - jmax y 0) 0 := by
      have := rset_v (rset h (w + 49 + 4 * n + 2) x y cs rs) (w + 49 + 4 * n + 2) (jmax x 0) (jmax y 0) (jmax (jmin (x + cs) (fx_i h (q + 3) n) - jmax x 0) 0) (jmax (jmin (y + rs) (fx_i h (q + 4) n) - jmax y 0) 0)
      rw [← hX]
      unfold rcut
      rw [v0, v1, v2, v3]
      exact this
    have xo : ∀ a j, a ≠ w + 49 + 4 * n + 2 → fx_i X a j = fx_i h a j := fun a j h1 => by rw [← hX]; unfold rcut; rw [rset_o _ _ _ _ _ _ _ _ h1, rset_o _ _ _ _ _ _ _ _ h1]
    have eo : ∀ a j, a ≠ w + 49 + 4 * n + 2 → a ≠ w + 49 + 4 * n + 3 → fx_i (pShow X (w + 49 + 4 * n)) a j = fx_i h a j := fun a j h1 h2 => (pShow_o _ _ _ _ h2).trans (xo a j h1)
    have e3 : ¬ v_MO_hasDraft (pShow X (w + 49 + 4 * n)) q s = 0 := by
      rw [hasDraft_iff hj (fun j => eo _ _ (by omega) (by omega)) (fun j => eo _ _ (by omega) (by omega)) s]
      exact hd1
    have e4 : ¬ v_MO_isArea (pShow X (w + 49 + 4 * n)) x y cs rs = 0 := by rw [area_jA]; exact ha1
    obtain ⟨c1, c2, c3, c4⟩ := clip_v hn e3 e4
    have hm : mfr q [13, 14, 15, 16] [0] (pShow X (w + 49 + 4 * n)) (k_MO_clip (pShow X (w + 49 + 4 * n)) q s x y cs rs) := by rw [k_clip_1 e3 e4]; exact mfr_CL _ _ _ _ _ _ _
    have hat := fun o j => clip_at e3 e4 o j
    have h00 := clip_0 e3 e4
    rw [hn] at hat
    rw [eo (q + 3) n (by omega) (by omega), eo (q + 4) n (by omega) (by omega)] at c3 c4
    generalize k_MO_clip (pShow X (w + 49 + 4 * n)) q s x y cs rs = k at *
    have kc : ∀ a j, a < q → fx_i k a j = fx_i (pShow X (w + 49 + 4 * n)) a j := fun a j h1 => mfr_out hm (by decide) (Or.inl h1) j
    have kcx : ∀ a j, a < q → a ≠ w + 49 + 4 * n + 3 → fx_i k a j = fx_i X a j := fun a j h1 h2 => (kc a j h1).trans (pShow_o _ _ _ _ h2)
    have km : ∀ o j, 1 ≤ o → o ≤ 37 → (o < 13 ∨ 16 < o) → fx_i k (q + o) j = fx_i h (q + o) j := fun o j h1 h2 h3 => (mfr_at hm ⟨fun z => by simp only [List.mem_cons, List.mem_nil_iff, or_false] at z; omega, by omega⟩ j).trans (eo _ _ (by omega) (by omega))
    have d : DF h k w q n := by
      refine ⟨fun a h1 h2 h3 h4 h5 j h6 h7 => (kcx _ _ (by omega) (by omega)).trans (xo _ _ (by omega)), fun o h1 h2 j h3 => ?_, fun j _ => km 17 j (by decide) (by decide) (by decide), fun o h1 h2 h3 j => km o j (by omega) (by omega) (by omega), fun j h1 h2 => (mfr_f hm (fun z => by simp only [List.mem_cons, List.mem_nil_iff, or_false] at z; omega)).trans (eo _ _ (by omega) (by omega))⟩
      by_cases h9 : 13 ≤ o
      · exact (hat o j ⟨h9, h2⟩ h3).trans (eo _ _ (by omega) (by omega))
      · exact km o j (by omega) (by omega) (by omega)
    obtain ⟨n1, n2, n3, n4⟩ := clip_n b1 r1 r3
    obtain ⟨p1, p2, p3, p4⟩ := clip_n (c := fx_i h (q + 4) n) ⟨b2.1, by omega⟩ r2 r4
    have cd : ∀ j, fx_i k (w + 49 + 4 * n) j = fx_i h (w + 49 + 4 * n) j := fun j => (kcx _ _ (by omega) (by omega)).trans (xo _ _ (by omega))
    have k0 : fx_i k (w + 49 + 4 * n + 2) 0 = clX x := by rw [kcx _ _ (by omega) (by omega), xv.1, n1]
    have k1 : fx_i k (w + 49 + 4 * n + 2) 1 = clX y := by rw [kcx _ _ (by omega) (by omega), xv.2.1, p1]
    have k2 : (fx_i k (w + 49 + 4 * n + 2) 2).toInt = max (min (x.toInt + cs.toInt) (fx_i h (q + 3) n).toInt - max x.toInt 0) 0 := by rw [kcx _ _ (by omega) (by omega), xv.2.2.1, n4]
    have k3 : (fx_i k (w + 49 + 4 * n + 2) 3).toInt = max (min (y.toInt + rs.toInt) (fx_i h (q + 4) n).toInt - max y.toInt 0) 0 := by rw [kcx _ _ (by omega) (by omega), xv.2.2.2, p4]
    have e0 : (0 : Int32).toInt = 0 := rfl
    have nm : n % 10 = n := by omega
    have hE : clE (fx_i h (q + 3) n) (fx_i h (q + 4) n) x y cs rs ↔ (min (x.toInt + cs.toInt) (fx_i h (q + 3) n).toInt - max x.toInt 0 ≤ 0 ∨ min (y.toInt + rs.toInt) (fx_i h (q + 4) n).toInt - max y.toInt 0 ≤ 0) := by
      unfold clE
      rw [iz_le, iz_le, n3, p3, e0]
    have clips : (∃ W H : Int, (fx_i k (q + 15) n).toInt = W ∧ (fx_i k (q + 16) n).toInt = H ∧ ((W = 0 ∧ H = 0 ∧ ((fx_i k (w + 49 + 4 * n + 2) 2).toInt = 0 ∨ (fx_i k (w + 49 + 4 * n + 2) 3).toInt = 0)) ∨ (0 < W ∧ 0 < H ∧ max x.toInt 0 + W ≤ (fx_i h (q + 3) n).toInt ∧ max y.toInt 0 + H ≤ (fx_i h (q + 4) n).toInt ∧ (fx_i k (w + 49 + 4 * n + 2) 2).toInt = W ∧ (fx_i k (w + 49 + 4 * n + 2) 3).toInt = H))) := by
      by_cases z : clE (fx_i h (q + 3) n) (fx_i h (q + 4) n) x y cs rs
      · obtain ⟨z1, z2⟩ := c3 z
        refine ⟨0, 0, by rw [z1]; rfl, by rw [z2]; rfl, Or.inl ⟨rfl, rfl, ?_⟩⟩
        rw [hE] at z
        rw [k2, k3]
        clear k2 k3 n2 n3 n4 p2 p3 p4
        omega
      · obtain ⟨z1, z2⟩ := c4 z
        rw [hE] at z
        refine ⟨_, _, by rw [z1, n3], by rw [z2, p3], Or.inr ?_⟩
        rw [k2, k3]
        clear k2 k3 n2 n3 n4 p2 p3 p4
        omega
    obtain ⟨W, H, w1, w2, w3⟩ := clips
    have bx : 0 ≤ max x.toInt 0 ∧ max x.toInt 0 ≤ 30 := by clear k2 k3 n2 n3 n4 p2 p3 p4 hE; omega
    have by_ : 0 ≤ max y.toInt 0 ∧ max y.toInt 0 ≤ 30 := by clear k2 k3 n2 n3 n4 p2 p3 p4 hE; omega
    have q2 : 0 ≤ (fx_i k (w + 49 + 4 * n + 2) 2).toInt ∧ (fx_i k (w + 49 + 4 * n + 2) 2).toInt ≤ 12 := by rw [k2]; clear k2 k3 n2 n3 n4 p2 p3 p4 hE w3; omega
    have q3 : 0 ≤ (fx_i k (w + 49 + 4 * n + 2) 3).toInt ∧ (fx_i k (w + 49 + 4 * n + 2) 3).toInt ≤ 8 := by rw [k3]; clear k2 k3 n2 n3 n4 p2 p3 p4 hE w3; omega
    clear k2 k3 n3 n4 p3 p4 hE c3 c4
    have hpe : PE k (w + 49 + 4 * n) q n := by
      obtain ⟨p1, p2', p3', p4', p5, p6⟩ := pe
      refine ⟨?_, fun j hj9 => ?_, ?_, ?_, ?_, ?_⟩
      · simp only [cd, km 3 _ (by decide) (by decide) (by decide), km 4 _ (by decide) (by decide) (by decide), km 8 _ (by decide) (by decide) (by decide), km 9 _ (by decide) (by decide) (by decide), km 10 _ (by decide) (by decide) (by decide), km 11 _ (by decide) (by decide) (by decide), km 12 _ (by decide) (by decide) (by decide)]
        exact p1
      · rw [kcx _ _ (by omega) (by omega), xo _ _ (by omega), km 17 _ (by decide) (by decide) (by decide)]
        exact p2' j hj9
      · rw [k0, k1, c1, c2, w1]
        refine ⟨rfl, rfl, q2, q3, fun z => ?_, fun z => ?_⟩
        · rcases w3 with w3 | w3
          · exact w3.2.2
          · omega
        · rcases w3 with w3 | w3
          · omega
          · exact ⟨iz_eq.mpr (by rw [w3.2.2.2.2.1, w1]), iz_eq.mpr (by rw [w3.2.2.2.2.2, w2])⟩
      · obtain ⟨m1, m2, -⟩ := p4'
        unfold mpOk
        rw [c1, c2, w1, w2, n2, p2, nm, km 8 _ (by decide) (by decide) (by decide), km 9 _ (by decide) (by decide) (by decide), km 3 _ (by decide) (by decide) (by decide), km 4 _ (by decide) (by decide) (by decide)]
        refine ⟨m1, m2, bx, by_, ?_, ?_, ?_, ?_⟩
        · rcases w3 with w3 | w3 <;> omega
        · rcases w3 with w3 | w3 <;> omega
        · rcases w3 with w3 | w3 <;> omega
        · intro z
          rcases w3 with w3 | w3
          · omega
          · exact ⟨w3.2.2.1, w3.2.2.2.1⟩
      · rw [km 10 _ (by decide) (by decide) (by decide)]; exact p5
      · rw [km 11 _ (by decide) (by decide) (by decide)]; exact p6
    refine ⟨by rw [h00]; rfl, J_edit hj hs h0 d (fun o h1 h2 => km o n h1 (by omega) (by omega)) (fun j _ => cd j) ((kcx _ _ (by omega) (by omega)).trans (xo _ _ (by omega))) ((kcx _ _ (by omega) (by omega)).trans (xo _ _ (by omega))) ?_ hpe⟩
    refine SR_show' (X := X) (fun j _ => kc _ _ (by omega)) (fun j _ => kcx _ _ (by omega) (by omega)) (fun j _ => kcx _ _ (by omega) (by omega)) ?_ (fun _ => hpe)
    rw [cd, km 7 _ (by decide) (by decide) (by decide)]
    exact (hj.pics n hs).1.1
