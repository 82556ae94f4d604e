/-! ===== what holds between two calls ===== -/
/-- what holds between two calls: the swapper at w, the Model at q, the row for an answer at z -/
def LI (h : fx_H) (w q z f b : Nat) : Prop := isF h w f b ∧ isM h q ∧ J h w q f b ∧ fx_s h z = some (.inr (2, 1)) ∧ q + 38 ≤ z
theorem LI_kx {h k : fx_H} {w q z f b : Nat} (I : LI h w q z f b) (e : kx h k) (hj : J k w q f b) : LI k w q z f b :=
  ⟨isF_kp (kx_kp e _ _) I.1, isM_kp (kx_kp e _ _) I.2.1, hj, (e.1 z).trans I.2.2.2.1, I.2.2.2.2⟩
/-- the heap behind a wrapper: the answer is put aside -/
def outH (z : Nat) (O : fx_O) (k : fx_H) : fx_H := match O with
  | .inl (some v) => ph z v k
  | _ => k
/-- how a call with an answer ends; how one without ends -/
def OA (O : fx_O) : Prop := (∃ v, O = .inl (some v)) ∨ O = .inr "java/lang/IllegalArgumentException" ∨ O = .inr "java/lang/IllegalStateException"
theorem kx_ph (z : Nat) (v : Int32) (k : fx_H) : kx k (ph z v k) := ⟨fun _ => rfl, fun _ _ => rfl⟩
theorem kx_out (z : Nat) (O : fx_O) (k : fx_H) : kx k (outH z O k) := by
  unfold outH
  split
  · exact kx_ph _ _ _
  · exact ⟨fun _ => rfl, fun _ _ => rfl⟩
theorem ph_z (z : Nat) (v : Int32) (k : fx_H) : fx_i (ph z v k) z 0 = v := by unfold ph; rw [fx_i_wi, if_pos ⟨rfl, rfl⟩]
theorem cod_0 {O : fx_O} (hO : OA O) (h : cod O = 0) : ∃ v, O = .inl (some v) := by
  rcases hO with hv | rfl | rfl
  · exact hv
  · exact absurd h (by decide)
  · exact absurd h (by decide)
theorem L_out {h k : fx_H} {w q z f b : Nat} {O : fx_O} (kM : fx_H → fx_H) (vM : fx_H → Int32) (I : LI h w q z f b) (hO : OA O) (hk : kx h k) (hm : ∀ u, kx u (kM u)) (hp : ∀ v, vM (ph z v k) = vM k ∧ kM (ph z v k) = ph z v (kM k)) (hc : fx_i (kM k) q 0 = cod O) (ha : ∀ v, O = .inl (some v) → v = vM k) (hJ : J (kM k) w q f b) :
    isM (outH z O k) q ∧ fx_i (kM (outH z O k)) q 0 = cod O ∧ (cod O = 0 → fx_i (kM (outH z O k)) z 0 = vM (outH z O k)) ∧ LI (kM (outH z O k)) w q z f b := by
  have hz := I.2.2.2.2
  have k1 := kx_t hk (kx_out z O k)
  refine ⟨isM_kp (kx_kp k1 _ _) I.2.1, ?_⟩
  have k2 := kx_t k1 (hm (outH z O k))
  rcases hO with ⟨v, rfl⟩ | rfl | rfl
  · have e : outH z (.inl (some v)) k = ph z v k := rfl
    rw [e] at k2 ⊢
    rw [(hp v).2] at k2 ⊢
    rw [(hp v).1]
    exact ⟨(ph_i v _ _ (by omega)).trans hc, fun _ => (ph_z z v _).trans (ha v rfl), LI_kx I k2 (J_ph hz v hJ)⟩
  · exact ⟨hc, fun y => absurd y (by decide), LI_kx I k2 hJ⟩
  · exact ⟨hc, fun y => absurd y (by decide), LI_kx I k2 hJ⟩
theorem OA_surface (h : fx_H) (w f b : Nat) (cl cs rs : Int32) : OA (o_FS_surface h w f b cl cs rs) := by
  unfold o_FS_surface
  repeat' split
  all_goals first | exact Or.inr (Or.inl rfl) | exact Or.inr (Or.inr rfl) | exact Or.inl ⟨_, rfl⟩
theorem OA_fill (h : fx_H) (w f b : Nat) (s x y cs rs co : Int32) : OA (o_FS_fill h w f b s x y cs rs co) := by
  unfold o_FS_fill
  repeat' split
  all_goals first | exact Or.inr (Or.inl rfl) | exact Or.inr (Or.inr rfl) | exact Or.inl ⟨_, rfl⟩
theorem OA_copy (h : fx_H) (w f b : Nat) (fr to_ x y cs rs tx ty : Int32) : OA (o_FS_copy h w f b fr to_ x y cs rs tx ty) := by
  unfold o_FS_copy
  repeat' split
  all_goals first | exact Or.inr (Or.inl rfl) | exact Or.inr (Or.inr rfl) | exact Or.inl ⟨_, rfl⟩
theorem OA_commit (h : fx_H) (w f b : Nat) (cl : Int32) : OA (o_FS_commit h w f b cl) := by
  unfold o_FS_commit
  repeat' split
  all_goals first | exact Or.inr (Or.inl rfl) | exact Or.inr (Or.inr rfl) | exact Or.inl ⟨_, rfl⟩
theorem OA_draw (h : fx_H) (w f b : Nat) (x : Int32) : OA (o_FS_draw h w f b x) := by
  unfold o_FS_draw
  repeat' split
  all_goals first | exact Or.inr (Or.inl rfl) | exact Or.inr (Or.inr rfl) | exact Or.inl ⟨_, rfl⟩
/-- IllegalArgumentException alone -/
def O1 (O : fx_O) : Prop := ∀ E, O = .inr E → E = "java/lang/IllegalArgumentException"
def OV (O : fx_O) : Prop := O = .inl none ∨ O = .inr "java/lang/IllegalArgumentException" ∨ O = .inr "java/lang/IndexOutOfBoundsException"
theorem O1_fill (h : fx_H) (w f b : Nat) (s x y cs rs co : Int32) : O1 (o_FS_fill h w f b s x y cs rs co) := by
  intro E
  unfold o_FS_fill
  repeat' split
  all_goals (intro e; cases e; try rfl)
theorem O1_copy (h : fx_H) (w f b : Nat) (fr to_ x y cs rs tx ty : Int32) : O1 (o_FS_copy h w f b fr to_ x y cs rs tx ty) := by
  intro E
  unfold o_FS_copy
  repeat' split
  all_goals (intro e; cases e; try rfl)
theorem O1_draw (h : fx_H) (w f b : Nat) (x : Int32) : O1 (o_FS_draw h w f b x) := by
  intro E
  unfold o_FS_draw
  repeat' split
  all_goals (intro e; cases e; try rfl)
theorem OV_destroy (h : fx_H) (w f b : Nat) (s : Int32) : OV (o_FS_destroy h w f b s) ∧ O1 (o_FS_destroy h w f b s) := by
  unfold o_FS_destroy
  refine ⟨?_, ?_⟩
  · repeat' split
    all_goals first | exact Or.inl rfl | exact Or.inr (Or.inl rfl) | exact Or.inr (Or.inr rfl)
  · intro E
    repeat' split
    all_goals (intro e; cases e; try rfl)
theorem OV_place (h : fx_H) (w f b : Nat) (s x y od al vi : Int32) : OV (o_FS_place h w f b s x y od al vi) ∧ O1 (o_FS_place h w f b s x y od al vi) := by
  unfold o_FS_place
  refine ⟨?_, ?_⟩
  · repeat' split
    all_goals first | exact Or.inl rfl | exact Or.inr (Or.inl rfl) | exact Or.inr (Or.inr rfl)
  · intro E
    repeat' split
    all_goals (intro e; cases e; try rfl)
theorem OV_clip (h : fx_H) (w f b : Nat) (s x y cs rs : Int32) : OV (o_FS_clip h w f b s x y cs rs) ∧ O1 (o_FS_clip h w f b s x y cs rs) := by
  unfold o_FS_clip
  refine ⟨?_, ?_⟩
  · repeat' split
    all_goals first | exact Or.inl rfl | exact Or.inr (Or.inl rfl) | exact Or.inr (Or.inr rfl)
  · intro E
    repeat' split
    all_goals (intro e; cases e; try rfl)
theorem OV_put (h : fx_H) (w f b : Nat) (s x y co : Int32) : OV (o_FS_put h w f b s x y co) := by
  unfold o_FS_put
  repeat' split
  all_goals first | exact Or.inl rfl | exact Or.inr (Or.inl rfl) | exact Or.inr (Or.inr rfl)
/-- scan leaves alone what lies behind the swapper -/
theorem o_scan {h : fx_H} {w f b : Nat} {a : Nat} (ha : w + 191 ≤ a) (j : Nat) : fx_i (k_FS_scan h w f b) a j = fx_i h a j := by
  have e1 : ∀ n, fx_i (k_BE_endFrame h (w + 175) n) a j = fx_i h a j := fun n => by
    unfold k_BE_endFrame
    rw [fx_i_wi, if_neg (by omega), fx_i_wi, if_neg (by omega), fx_i_wi, if_neg (by omega), fx_i_cp, if_neg (by omega)]
  unfold k_FS_scan
  repeat' split
  · rw [(become_v (by omega)).1 a j (by omega)]
    unfold k_CO_swap
    rw [fx_i_wi, if_neg (by omega), fx_i_wi, if_neg (by omega), fx_i_wr, fx_i_wr, e1]
  · exact e1 _
  · unfold k_BE_scanRow
    rw [fx_i_wi, if_neg (by omega), (mixInto_on _ _ _ _).2 _ (by omega), fx_i_cp, if_neg (by omega)]
/-- scan, both -/
theorem L_scan {h : fx_H} {w q z f b : Nat} (I : LI h w q z f b) : ((¬ (10 : Int32) ≤ (fx_i h (w + 175) 3) → (0 ≤ (fx_i h (w + 175) 3).toInt ∧ (fx_i h (w + 175) 3).toInt ≤ 9)) ∧ (¬ (10 : Int32) ≤ (fx_i h (w + 175) 3) → (∀ i, i < 2 → mixOk h (w + 175 + 1) (fx_i h (w + 175) 3) i))) ∧ isM (k_FS_scan h w f b) q ∧ lkPre (k_FS_scan h w f b) q ∧ (fx_i (k_FS_scan h w f b) q 22 = 2 → chPre (k_FS_scan h w f b) q) ∧ o_FS_scan h w f b = .inl (some (v_MO_scan (k_FS_scan h w f b) q)) ∧ ∃ f' b', LI (k_MO_scan (k_FS_scan h w f b) q) w q z f' b' := by
  have hj := I.2.2.1
  have hq := hj.at_
  have lk : lkPre (k_FS_scan h w f b) q := lkPre_J hj (fun o _ _ j => o_scan (by omega) j) (o_scan (by omega) _)
  have ch : fx_i (k_FS_scan h w f b) q 22 = 2 → chPre (k_FS_scan h w f b) q := fun _ => chPre_J hj (fun o _ _ j => o_scan (by omega) j)
  have e6 := hj.comp.1
  by_cases c1 : (10 : Int32) ≤ fx_i h (w + 175) 3
  · by_cases c2 : fx_i h q 22 = 2
    · obtain ⟨F, S, R⟩ := isF_scan2 (f := f) (b := b) ⟨c1, e6.trans c2⟩ I.1
      obtain ⟨a1, a2⟩ := A_scanSwap hj c1 c2
      have km : kp q (q + 38) h (k_FS_scan h w f b) := fun a h1 h2 => ⟨S a, fun j => R a j (by omega)⟩
      have x2 := kx_sm (sm_MO_scan (k_FS_scan h w f b) q)
      refine ⟨⟨fun z => absurd c1 z, fun z => absurd c1 z⟩, isM_kp km I.2.1, lk, ch, a1, b, f, isF_kp (kx_kp x2 _ _) F, isM_kp (kx_kp x2 _ _) (isM_kp km I.2.1), a2, (x2.1 z).trans ((S z).trans I.2.2.2.1), I.2.2.2.2⟩
    · have x1 := kx_FS_scan1 (h := h) (w := w) (f := f) (b := b) (fun z => c2 (e6.symm.trans z.2))
      have x2 := kx_sm (sm_MO_scan (k_FS_scan h w f b) q)
      obtain ⟨a1, a2⟩ := A_scanEnd hj c1 c2
      exact ⟨⟨fun z => absurd c1 z, fun z => absurd c1 z⟩, isM_kp (kx_kp x1 _ _) I.2.1, lk, ch, a1, f, b, LI_kx I (kx_t x1 x2) a2⟩
  · have x1 := kx_FS_scan1 (h := h) (w := w) (f := f) (b := b) (fun z => c1 z.1)
    have x2 := kx_sm (sm_MO_scan (k_FS_scan h w f b) q)
    obtain ⟨p1, p2, a1, a2⟩ := A_scanRow hj c1
    exact ⟨⟨fun _ => p1, fun _ => p2⟩, isM_kp (kx_kp x1 _ _) I.2.1, lk, ch, a1, f, b, LI_kx I (kx_t x1 x2) a2⟩
theorem z_draw {K : fx_H} {q z : Nat} (hz : q + 38 ≤ z) (x : Int32) (j : Nat) : fx_i (k_MO_draw K q x) z j = fx_i K z j := by
  have e0 : ∀ v, fx_i (fx_wi K q 0 v) z j = fx_i K z j := fun v => by rw [fx_i_wi, if_neg (by omega)]
  have e1 : ∀ u : fx_H, fx_i (lp (drI q x) x.toNatClampNeg (0, u)).2 z j = fx_i u z j := fun u => mfr_out (mfr_drL q x x.toNatClampNeg (0, u)) (by decide) (Or.inr hz) j
  unfold k_MO_draw
  repeat' split
  all_goals first | exact e0 _ | exact (e1 _).trans (e0 _) | exact (e1 _).trans ((mfr_out (mfr_findStep _ _) (by decide) (Or.inr hz) j).trans ((mfr_out (mfr_begin _ _) (by decide) (Or.inr hz) j).trans (e0 _)))
