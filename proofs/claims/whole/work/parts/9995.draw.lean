/-! ===== draw ===== -/
theorem out_hole {lo hi : Nat} (h : fx_H) (c f b : Nat) (n : Int32) (hc : lo ≤ c ∧ c < hi) (hb : lo ≤ b + 2 ∧ b + 2 < hi) : fx_out lo hi h (k_CO_startHole h c f b n) := by
  unfold k_CO_startHole
  have h1 : fx_out lo hi h (fx_wi (fx_wi h c 9 n) c 10 (-1 : Int32)) := fx_out_t (fx_out_wi _ _ _ _ _ _ hc) (fx_out_wi _ _ _ _ _ _ hc)
  split
  · exact h1
  · exact fx_out_t h1 (fx_out_t (fx_out_wi _ _ _ _ _ _ hb) (fx_out_wi _ _ _ _ _ _ hc))
theorem out_post {lo hi : Nat} (P : fx_H) (c f b e st : Nat) (hc : lo ≤ c ∧ c < hi) (hb : lo ≤ b + 2 ∧ b + 2 < hi) : fx_out lo hi P (post P c f b e st) := by
  unfold post
  have h1 := fx_out_wi lo hi P c 10 (v_CO_nextLevel P c f b e st) hc
  split
  · exact fx_out_t h1 (out_hole _ _ _ _ _ hc hb)
  · exact h1
theorem out_makeStep {lo hi : Nat} (h : fx_H) (c f b : Nat) (hc : lo ≤ c ∧ c < hi) (hb : lo ≤ b + 1 ∧ b + 2 < hi) : fx_out lo hi h (k_CO_makeStep h c f b) := by
  rw [step_form]
  split
  · exact fx_out_t (fx_out_on (kBl_on _ _ _) (by omega)) (out_post _ _ _ _ _ _ hc (by omega))
  · exact fx_out_t (fx_out_on (kPt_on _ _ _ _) (by omega)) (out_post _ _ _ _ _ _ hc (by omega))
theorem out_mkH {lo hi : Nat} (c f b : Nat) (hc : lo ≤ c ∧ c < hi) (hb : lo ≤ b + 1 ∧ b + 2 < hi) : ∀ (n : Nat) (h : fx_H), fx_out lo hi h (mkH c f b n h)
  | 0, h => by rw [mkH]; exact fx_out_rf _ _ _
  | n + 1, h => by
    rw [mkH]
    split
    · exact fx_out_t (out_makeStep h c f b hc hb) (out_mkH c f b hc hb n _)
    · exact fx_out_rf _ _ _
theorem mfr_drL (q : Nat) (n : Int32) (k : Nat) (y : Int32 × fx_H) : mfr q [20, 21] [22, 31, 32, 38, 39, 40, 41] y.2 (lp (drI q n) k y).2 := by
  refine lp_inv (fun z => mfr q [20, 21] [22, 31, 32, 38, 39, 40, 41] y.2 z.2) (drI q n) (fun x z hx hz => ?_) k y (mfr_rf _ _ _ _)
  unfold drI at hz
  split at hz
  · cases hz
  · split at hz
    · cases hz
      exact mfr_t hx (mfr_make _ _)
    · cases hz
/-- J of a heap from J of the mixture that says the same -/
theorem J_mix {a k : fx_H} {w q f b : Nat} (hj : J (mixH q a k) w q f b) (e : ∀ y j, y < q → fx_i k y j = fx_i a y j) : J k w q f b := by
  have hq := hj.at_
  refine J_ag ⟨fun y h1 h2 _ _ j => ?_, fun o _ _ _ _ j => ?_, fun j _ _ => ?_⟩ hj
  · rw [mix_c _ _ (by omega), e y j (by omega)]
  · rw [mix_m]
  · rw [mix_q]
theorem mix_J {a k : fx_H} {w q f b : Nat} (hj : J a w q f b) (e : ∀ y j, q ≤ y → y < q + 38 → fx_i k y j = fx_i a y j) (v : Int32) : J (mixH q a (fx_wi k q 0 v)) w q f b := by
  have hq := hj.at_
  refine J_ag ⟨fun y h1 h2 _ _ j => ?_, fun o h1 _ _ _ j => ?_, fun j h1 _ => ?_⟩ hj
  · rw [mix_c _ _ (by omega)]
  · rw [mix_m, fx_i_wi, if_neg (fun z => by omega), e _ _ (by omega) (by omega)]
  · rw [mix_q, fx_i_wi, if_neg (fun z => h1 z.2), e _ _ (by omega) (by omega)]
/-- draw -/
theorem A_draw {h K : fx_H} {w q f b : Nat} (hj : J h w q f b) (x : Int32) (eK1 : ∀ y j, y < q + 38 → fx_i K y j = fx_i (k_FS_draw h w f b x) y j) :
    (¬ (jW x (0 : Int32) (200 : Int32)) = 0 → mkP (w + 89) f b x.toNatClampNeg h) ∧ (¬ (jW x (0 : Int32) (200 : Int32)) = 0 → bgP h (w + 89) (w + 1) f b ∧ mkP (w + 89) f b x.toNatClampNeg (k_CO_begin h (w + 89) (w + 1) f b)) ∧
    mCl K q ∧ mOk2 K q ∧ vp_in (fx_i K q 23) 2 ∧ dI w q f b (fx_wi K q 0 0) ∧ dI w q f b (k_MO_findStep (k_MO_begin (fx_wi K q 0 0) q) q) ∧
    fx_i (k_MO_draw K q x) q 0 = cod (o_FS_draw h w f b x) ∧ (∀ v, o_FS_draw h w f b x = .inl (some v) → v = v_MO_draw K q x) ∧ J (k_MO_draw K q x) w q f b := by
  have hq := hj.at_
  have hb : 0 ≤ b + 1 ∧ b + 2 < q := by
    rcases hj.mem with z | z
    · omega
    · omega
  have hH : J (mixH q h h) w q f b := J_ag ⟨fun y h1 h2 _ _ j => mix_c _ _ (by omega) _, fun o _ _ _ _ j => mix_m _ _ _ _, fun j _ _ => mix_q _ _ _⟩ hj
  obtain ⟨G, O, -⟩ := A_begin hH
  have oM : ∀ n k, ∀ y j, q ≤ y → fx_i (mkH (w + 89) f b n k) y j = fx_i k y j := fun n k y j hy => (out_mkH (lo := 0) (hi := q) (w + 89) f b (by omega) hb n k).2 y (by omega) j
  have o1 : ∀ y j, q ≤ y → y < q + 38 → fx_i K y j = fx_i h y j := fun y j hy hy2 => by
    rw [eK1 y j hy2]
    unfold k_FS_draw
    repeat' split
    · rfl
    · exact oM _ _ y j hy
    · exact oM _ _ y j hy
    · rw [oM _ _ y j hy]; exact O y j hy
    · exact oM _ _ y j hy
  have J0 := mix_J hj o1 0
  obtain ⟨-, -, J1⟩ := A_begin J0
  refine ⟨fun c => ?_, fun c => ?_, fun s hs hz => ?_, fun m hm => ?_, ?_, ⟨_, J0⟩, ⟨_, J1⟩, ?_⟩
  · rw [← wi_jW h] at c
    exact (A_steps (dr_200 c) _ 0 h _ hH (by have := dr_n c; have a0 : (0 : Int32).toInt = 0 := rfl; omega)).1
  · rw [← wi_jW h] at c
    exact ⟨G, (A_steps (dr_200 c) _ 0 _ _ J1 (by have := dr_n c; have a0 : (0 : Int32).toInt = 0 := rfl; omega)).1⟩
  · rw [o1 _ _ (by omega) (by omega)] at hz ⊢
    exact ((hj.num s hs).2.1 hz).2.1
  · rw [o1 _ _ (by omega) (by omega)]
    exact (hj.miss m hm).2.2.1
  · rw [o1 _ _ (by omega) (by omega)]
    rcases hj.mem with z | z
    · rw [z.1]; unfold vp_in; decide
    · rw [z.1]; unfold vp_in; decide
  by_cases c : jW x 0 200 = 0
  · have e2 : o_FS_draw h w f b x = .inr "java/lang/IllegalArgumentException" := by unfold o_FS_draw; rw [if_pos c]
    have e3 : k_MO_draw K q x = fx_wi K q 0 1 := by unfold k_MO_draw; rw [wi_jW, if_pos c]
    have e1 : k_FS_draw h w f b x = fx_sk h 1 := by unfold k_FS_draw; rw [if_pos c]
    rw [e2, e3]
    refine ⟨w00 _ _ _, fun v z => (by cases z), J_w (J_ag ⟨fun y h1 h2 _ _ j => ?_, fun o _ _ _ _ j => o1 _ _ (by omega) (by omega), fun j _ _ => o1 _ _ (by omega) (by omega)⟩ hj) 1⟩
    rw [eK1 y j (by omega), e1]
    rfl
  have cw : ¬ v_MO_within h x 0 200 = 0 := by rw [wi_jW]; exact c
  have h200 := dr_200 cw
  have hN : ((0 : Nat) : Int) + x.toNatClampNeg = x.toInt := by have := dr_n cw; have a0 : (0 : Int32).toInt = 0 := rfl; omega
  have e6 : fx_i h (w + 89) 6 = fx_i h q 22 := hj.comp.1
  have e5 : fx_i h (w + 1) 5 = fx_i h q 19 := hj.desk.2.1
  have e7 : fx_i h (w + 89) 7 = fx_i h q 20 := hj.desk.2.2.1
  have n0 : nI 0 = 0 := rfl
  have lt : ∀ k, mfr q [1, 7, 8, 9, 10, 11, 12, 13, 14, 15, 16, 17, 19, 20, 21, 22, 23, 24, 25, 26, 27, 28, 29, 30, 31] [0, 20, 22, 31, 32, 38, 39, 40, 41] K k → ∀ y j, y < q → fx_i k y j = fx_i K y j := fun k e y j hy => mfr_out e (by decide) (Or.inl hy) j
  -- the end of the three ways
  have way : ∀ a u, J (mixH q a u) w q f b → mfr q [1, 7, 8, 9, 10, 11, 12, 13, 14, 15, 16, 17, 19, 20, 21, 22, 23, 24, 25, 26, 27, 28, 29, 30, 31] [0, 20, 22, 31, 32, 38, 39, 40, 41] K u → fx_i u q 0 = 0 → k_FS_draw h w f b x = mkH (w + 89) f b x.toNatClampNeg a → fx_i (lp (drI q x) x.toNatClampNeg (0, u)).2 q 0 = 0 ∧ nI (mkC (w + 89) f b x.toNatClampNeg a) = (lp (drI q x) x.toNatClampNeg (0, u)).1 ∧ J (lp (drI q x) x.toNatClampNeg (0, u)).2 w q f b := fun a u hju hm hu ek => by
    obtain ⟨-, s2, s3⟩ := A_steps h200 x.toNatClampNeg 0 a u hju hN
    rw [n0] at s2 s3
    have m1 := mfr_drL q x x.toNatClampNeg ((0 : Int32), u)
    refine ⟨?_, ?_, ?_⟩
    · rw [mfr_f m1 (by decide)]; exact hu
    · rw [s2, Nat.zero_add]
    · refine J_mix s3 (fun y j hy => ?_)
      rw [← ek, ← eK1 y j (by omega), ← lt u hm y j hy]
      exact mfr_out m1 (by decide) (Or.inl hy) j
  have w0' : fx_i (fx_wi K q 0 0) q 0 = 0 := w00 _ _ _
  have m0 : mfr q [1, 7, 8, 9, 10, 11, 12, 13, 14, 15, 16, 17, 19, 20, 21, 22, 23, 24, 25, 26, 27, 28, 29, 30, 31] [0, 20, 22, 31, 32, 38, 39, 40, 41] K (fx_wi K q 0 0) := mfr_wf (mfr_rf _ _ _ _) (by decide)
  have mB := mfr_begin (fx_wi K q 0 0) q
  have mF := mfr_findStep (k_MO_begin (fx_wi K q 0 0) q) q
  have w1' : fx_i (k_MO_findStep (k_MO_begin (fx_wi K q 0 0) q) q) q 0 = 0 := by rw [mfr_f mF (by decide), mfr_f mB (by decide)]; exact w0'
  have m1 := mfr_t m0 (mfr_t (mfr_m mB (by decide) (by decide)) (mfr_m mF (by decide) (by decide)))
  have r22 : fx_i (fx_wi K q 0 0) q 22 = fx_i h q 22 := by rw [w0 _ _ _ _ (by decide), o1 _ _ (Nat.le_refl _) (by omega)]
  have r19 : fx_i (fx_wi K q 0 0) q 19 = fx_i h q 19 := by rw [w0 _ _ _ _ (by decide), o1 _ _ (Nat.le_refl _) (by omega)]
  have r20 : fx_i (fx_wi K q 0 0) q 20 = fx_i h q 20 := by rw [w0 _ _ _ _ (by decide), o1 _ _ (Nat.le_refl _) (by omega)]
  unfold k_MO_draw v_MO_draw o_FS_draw
  rw [wi_jW, if_neg c, if_neg c, if_neg c, r22, r19, r20, e6, e5, e7]
  have x0 : x = 0 ↔ x ≤ 0 := by
    have := wi_b cw
    have a0 : (0 : Int32).toInt = 0 := rfl
    rw [Int32.le_iff_toInt_le, iz_eq]
    omega
  by_cases c1 : x = 0
  · have eK : k_FS_draw h w f b x = mkH (w + 89) f b x.toNatClampNeg h := by unfold k_FS_draw; rw [if_neg c, if_pos c1]
    obtain ⟨t1, t2, t3⟩ := way h _ J0 m0 w0' eK
    rw [if_pos c1, if_pos (x0.mp c1), if_pos (x0.mp c1)]
    split
    · exact ⟨t1, fun v hv => by cases hv; exact t2, t3⟩
    · exact ⟨t1, fun v hv => by cases hv; exact t2, t3⟩
  rw [if_neg c1, if_neg (fun z => c1 (x0.mpr z)), if_neg (fun z => c1 (x0.mpr z))]
  by_cases c2 : fx_i h q 22 = 0
  · by_cases c3 : fx_i h q 19 ≤ fx_i h q 20
    · have eK : k_FS_draw h w f b x = mkH (w + 89) f b x.toNatClampNeg h := by unfold k_FS_draw; rw [if_neg c, if_neg c1, e6, if_pos c2, e5, e7, if_pos c3]
      obtain ⟨t1, t2, t3⟩ := way h _ J0 m0 w0' eK
      rw [if_pos c2, if_pos c2, if_pos c2, if_pos c3, if_pos c3, if_pos c3]
      exact ⟨t1, fun v hv => by cases hv; exact t2, t3⟩
    · have eK : k_FS_draw h w f b x = mkH (w + 89) f b x.toNatClampNeg (k_CO_begin h (w + 89) (w + 1) f b) := by unfold k_FS_draw; rw [if_neg c, if_neg c1, e6, if_pos c2, e5, e7, if_neg c3]
      obtain ⟨t1, t2, t3⟩ := way _ _ J1 m1 w1' eK
      rw [if_pos c2, if_pos c2, if_pos c2, if_neg c3, if_neg c3, if_neg c3]
      exact ⟨t1, fun v hv => by cases hv; exact t2, t3⟩
  · have eK : k_FS_draw h w f b x = mkH (w + 89) f b x.toNatClampNeg h := by unfold k_FS_draw; rw [if_neg c, if_neg c1, e6, if_neg c2]
    obtain ⟨t1, t2, t3⟩ := way h _ J0 m0 w0' eK
    rw [if_neg c2, if_neg c2, if_neg c2]
    exact ⟨t1, fun v hv => by cases hv; exact t2, t3⟩
