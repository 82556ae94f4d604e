/-! ===== shapes and references stay ===== -/
/-- shapes and references stay -/
def kx (h k : fx_H) : Prop := (∀ a, fx_s k a = fx_s h a) ∧ ∀ a j, fx_r k a j = fx_r h a j
theorem kx_sm {h k : fx_H} (e : fx_sm h k) : kx h k := ⟨fun a => fx_sm_s e a, fun a j => fx_sm_r e a j⟩
theorem kx_sk (h : fx_H) (n : Nat) : kx h (fx_sk h n) := ⟨fun _ => rfl, fun _ _ => rfl⟩
theorem kx_t {h k l : fx_H} (a : kx h k) (b : kx k l) : kx h l := ⟨fun x => (b.1 x).trans (a.1 x), fun x j => (b.2 x j).trans (a.2 x j)⟩
theorem kx_kp {h k : fx_H} (e : kx h k) (lo hi : Nat) : kp lo hi h k := fun a _ _ => ⟨e.1 a, e.2 a⟩
theorem sm_pRemove (h : fx_H) (p : Nat) : fx_sm h (pRemove h p) := fx_sm_t (h' := fx_wi h p 0 0) rfl (sm_pShow _ _)
theorem sm_fl3 (h : fx_H) (w f b : Nat) (s x y cs rs co : Int32) : fx_sm h (fl3 h w f b s x y cs rs co) := by
  unfold fl3
  refine fx_sm_t (h' := fl2 h w f b s x y cs rs co) ?_ (kOv_on _ _ _ _).1
  unfold fl2 fl1
  exact fx_sm_t (sm_rset _ _ _ _ _ _) (sm_cut _ _ _ _)
theorem sm_cy7 (h : fx_H) (w f b : Nat) (fr to_ x y cs rs tx ty : Int32) : fx_sm h (cy7 h w f b fr to_ x y cs rs tx ty) := by
  have a1 : fx_sm h (cy1 h w f b fr to_ x y cs rs tx ty) := by unfold cy1; exact sm_rset _ _ _ _ _ _
  have a2 : fx_sm (cy1 h w f b fr to_ x y cs rs tx ty) (cy2 h w f b fr to_ x y cs rs tx ty) := by unfold cy2; exact sm_cut _ _ _ _
  have a3 : fx_sm (cy2 h w f b fr to_ x y cs rs tx ty) (cy3 h w f b fr to_ x y cs rs tx ty) := by unfold cy3; exact sm_shift _ _ _ _
  have a4 : fx_sm (cy3 h w f b fr to_ x y cs rs tx ty) (cy4 h w f b fr to_ x y cs rs tx ty) := by unfold cy4; exact sm_cut _ _ _ _
  have a5 : fx_sm (cy4 h w f b fr to_ x y cs rs tx ty) (cy5 h w f b fr to_ x y cs rs tx ty) := by unfold cy5; exact sm_pCopy _ _ _
  have a6 : fx_sm (cy5 h w f b fr to_ x y cs rs tx ty) (cy6 h w f b fr to_ x y cs rs tx ty) := by unfold cy6; exact fx_sm_t (sm_wi _ _ _ _) (sm_wi _ _ _ _)
  have a7 : fx_sm (cy6 h w f b fr to_ x y cs rs tx ty) (cy7 h w f b fr to_ x y cs rs tx ty) := by unfold cy7; exact (kLy_on _ _ _ _).1
  exact fx_sm_t a1 (fx_sm_t a2 (fx_sm_t a3 (fx_sm_t a4 (fx_sm_t a5 (fx_sm_t a6 a7)))))
theorem sm_BE_scanRow (h : fx_H) (e m : Nat) : fx_sm h (k_BE_scanRow h e m) := by
  unfold k_BE_scanRow
  exact fx_sm_t (fx_sm_t (h' := fx_cp h (m + 1) (e + 9) ((fx_i h e 3) * (20 : Int32)).toNatClampNeg ((fx_i h e 3) * (20 : Int32)).toNatClampNeg (20 : Int32).toNatClampNeg) rfl (mixInto_on _ _ _ _).1) (sm_wi _ _ _ _)
theorem lp_P {σ : Type} (P : Nat → σ → Prop) (B : σ → Option σ) (hP : ∀ m y z, P m y → B y = some z → ∃ m', m = m' + 1 ∧ P m' z) : ∀ (n m : Nat) (y : σ), P m y → ∃ m', P m' (lp B n y)
  | 0, m, y, h => ⟨m, by rw [lp_0]; exact h⟩
  | n + 1, m, y, h => by
    cases e : B y with
    | none => exact ⟨m, by rw [lp_none e]; exact h⟩
    | some z =>
      obtain ⟨m', -, h'⟩ := hP m y z h e
      rw [lp_some e]
      exact lp_P P B hP n m' z h'
theorem kx_FS_surface (h : fx_H) (w f b : Nat) (cl cs rs : Int32) : kx h (k_FS_surface h w f b cl cs rs) := by
  unfold k_FS_surface
  repeat' split
  all_goals first | exact kx_sk h 1 | exact kx_sm (sm_DE_open _ _ _ _ _ _)
theorem kx_FS_destroy (h : fx_H) (w f b : Nat) (s : Int32) : kx h (k_FS_destroy h w f b s) := by
  unfold k_FS_destroy
  repeat' split
  all_goals first | exact kx_sk h 1 | exact kx_sm (sm_pRemove _ _)
theorem kx_FS_place (h : fx_H) (w f b : Nat) (s x y od al vi : Int32) : kx h (k_FS_place h w f b s x y od al vi) := by
  unfold k_FS_place
  repeat' split
  all_goals first | exact kx_sk h 1 | exact kx_sm (fx_sm_t (h' := fx_wi (fx_wi (fx_wi (fx_wi (fx_wi h _ 3 x) _ 4 y) _ 5 od) _ 6 al) _ 7 vi) rfl (sm_pShow _ _))
theorem kx_FS_clip (h : fx_H) (w f b : Nat) (s x y cs rs : Int32) : kx h (k_FS_clip h w f b s x y cs rs) := by
  unfold k_FS_clip
  repeat' split
  all_goals first | exact kx_sk h 1 | exact kx_sm (fx_sm_t (fx_sm_t (sm_rset _ _ _ _ _ _) (sm_cut _ _ _ _)) (sm_pShow _ _))
theorem kx_FS_put (h : fx_H) (w f b : Nat) (s x y co : Int32) : kx h (k_FS_put h w f b s x y co) := by
  unfold k_FS_put
  repeat' split
  all_goals first | exact kx_sk h 1 | exact kx_sm (sm_wi _ _ _ _)
theorem kx_FS_fill (h : fx_H) (w f b : Nat) (s x y cs rs co : Int32) : kx h (k_FS_fill h w f b s x y cs rs co) := by
  unfold k_FS_fill
  repeat' split
  all_goals first | exact kx_sk h 1 | exact kx_sm (sm_fl3 _ _ _ _ _ _ _ _ _ _)
theorem kx_FS_copy (h : fx_H) (w f b : Nat) (fr to_ x y cs rs tx ty : Int32) : kx h (k_FS_copy h w f b fr to_ x y cs rs tx ty) := by
  unfold k_FS_copy
  repeat' split
  all_goals first | exact kx_sk h 1 | exact kx_sm (sm_cy7 _ _ _ _ _ _ _ _ _ _ _ _)
theorem kx_FS_commit (h : fx_H) (w f b : Nat) (cl : Int32) : kx h (k_FS_commit h w f b cl) := by
  unfold k_FS_commit
  repeat' split
  all_goals first | exact kx_sk h 1 | exact kx_sm (sm_DE_commitAll _ _ _)
theorem kx_FS_draw (h : fx_H) (w f b : Nat) (x : Int32) : kx h (k_FS_draw h w f b x) := by
  unfold k_FS_draw
  repeat' split
  all_goals first | exact kx_sk h 1 | exact kx_sm (sm_mkH _ _ _ _ _) | exact kx_sm (fx_sm_t (sm_CO_begin _ _ _ _ _) (sm_mkH _ _ _ _ _))
theorem sm_MO_destroy (h : fx_H) (q : Nat) (s : Int32) : fx_sm h (k_MO_destroy h q s) := by
  unfold k_MO_destroy
  repeat' split
  all_goals rfl
theorem sm_MO_place (h : fx_H) (q : Nat) (s x y od al vi : Int32) : fx_sm h (k_MO_place h q s x y od al vi) := by
  unfold k_MO_place
  repeat' split
  all_goals rfl
theorem sm_MO_put (h : fx_H) (q : Nat) (s x y co : Int32) : fx_sm h (k_MO_put h q s x y co) := by
  unfold k_MO_put
  repeat' split
  all_goals rfl
theorem wi_2 (h : fx_H) (a k : Nat) (v : Int32) : (fx_wi h a k v).2 = h.2 := rfl
theorem sm_MO_clip (h : fx_H) (q : Nat) (s x y cs rs : Int32) : fx_sm h (k_MO_clip h q s x y cs rs) := by
  show (k_MO_clip h q s x y cs rs).2 = h.2
  unfold k_MO_clip
  simp only [apply_ite (fun x : fx_H => x.2), wi_2, ite_self]
theorem sm_su18 (h : fx_H) (q : Nat) (cl cs rs : Int32) : fx_sm h (su18 h q cl cs rs) := rfl
theorem sm_MO_surface (h : fx_H) (q : Nat) (cl cs rs : Int32) : fx_sm h (k_MO_surface h q cl cs rs) := by
  unfold k_MO_surface
  repeat' split
  all_goals first | with_reducible rfl | exact sm_wi _ _ _ _ | exact fx_sm_t (sm_wi _ _ _ _) (sm_wi _ _ _ _) | exact fx_sm_t (sm_su18 _ _ _ _ _) (fx_sm_it (fun n k => by unfold b_MO_surface; exact sm_wi _ _ _ _) _ 96)
theorem sm_MO_fill (h : fx_H) (q : Nat) (s x y cs rs co : Int32) : fx_sm h (k_MO_fill h q s x y cs rs co) := by
  unfold k_MO_fill
  repeat' split
  all_goals first | exact sm_wi _ _ _ _ | exact fx_sm_t (sm_wi h q 0 0) (sm_its (fun y : Int32 × fx_H => y.2) (fiO q s x y cs co) (0, fx_wi h q 0 0) (fun n z => (on_fiO q s x y cs co n z).1) _)
theorem sm_MO_copy (h : fx_H) (q : Nat) (fr to_ x y cs rs tx ty : Int32) : fx_sm h (k_MO_copy h q fr to_ x y cs rs tx ty) := by
  unfold k_MO_copy
  repeat' split
  all_goals first | exact sm_wi _ _ _ _ | exact fx_sm_t (fx_sm_t (sm_wi h q 0 0) (fx_sm_it (fun n k => by unfold b_MO_copy; exact sm_wi _ _ _ _) _ 96)) (sm_its (fun y : Int32 × fx_H => y.2) (cpO q fr to_ x y cs tx ty) (0, it (b_MO_copy q fr) (fx_wi h q 0 0) 96) (fun n z => (on_cpO q fr to_ x y cs tx ty n z).1) _)
theorem sm_MO_commit (h : fx_H) (q : Nat) (cl : Int32) : fx_sm h (k_MO_commit h q cl) := by
  unfold k_MO_commit
  repeat' split
  all_goals first | exact sm_wi _ _ _ _ | exact fx_sm_t (fx_sm_t (fx_sm_t (sm_wi h q 0 0) (fx_sm_it (sm_b_MO_commit q cl) _ 10)) (sm_wi _ _ _ _)) (sm_wi _ _ _ _)
theorem sm_MO_draw (h : fx_H) (q : Nat) (n : Int32) : fx_sm h (k_MO_draw h q n) := by
  unfold k_MO_draw
  repeat' split
  all_goals first | exact sm_wi _ _ _ _ | exact fx_sm_t (sm_wi h q 0 0) (mfr_drL q n _ (0, fx_wi h q 0 0)).1 | exact fx_sm_t (sm_wi h q 0 0) (fx_sm_t (mfr_begin _ _).1 (fx_sm_t (mfr_findStep _ _).1 (mfr_drL q n _ (0, k_MO_findStep (k_MO_begin (fx_wi h q 0 0) q) q)).1))
theorem sm_MO_scan (h : fx_H) (q : Nat) : fx_sm h (k_MO_scan h q) := by
  unfold k_MO_scan
  repeat' split
  all_goals first | exact fx_sm_t (fx_sm_t (sm_wi h q 0 0) (sm_wi _ _ _ _)) (fx_sm_t (mfr_look _ _).1 (mfr_change _ _).1) | exact fx_sm_t (fx_sm_t (sm_wi h q 0 0) (sm_wi _ _ _ _)) (mfr_look _ _).1 | exact fx_sm_t (sm_wi h q 0 0) (sm_wi _ _ _ _)
theorem sm_MO_seen (h : fx_H) (q : Nat) (x y : Int32) : fx_sm h (k_MO_seen h q x y) := by
  unfold k_MO_seen
  repeat' split
  all_goals exact sm_wi _ _ _ _
theorem sm_MO_count (h : fx_H) (q : Nat) (z : Int32) : fx_sm h (k_MO_count h q z) := by
  unfold k_MO_count
  repeat' split
  all_goals exact sm_wi _ _ _ _
theorem sm_MO_missed (h : fx_H) (q : Nat) (i z : Int32) : fx_sm h (k_MO_missed h q i z) := by
  unfold k_MO_missed
  repeat' split
  all_goals exact sm_wi _ _ _ _
theorem sm_MO_plane (h : fx_H) (q : Nat) (i : Int32) : fx_sm h (k_MO_plane h q i) := by
  unfold k_MO_plane
  repeat' split
  all_goals exact sm_wi _ _ _ _
theorem sm_MO_wanted (h : fx_H) (q : Nat) (x y : Int32) : fx_sm h (k_MO_wanted h q x y) := by
  unfold k_MO_wanted
  split
  · exact sm_wi _ _ _ _
  · obtain ⟨m, h1, -⟩ := lp_P _ (waI q x y) (hP_waI h q x y) 10 10 ((0 : Int32), (0 : Int32), fx_wi h q 0 (0 : Int32)) ⟨sm_wi _ _ _ _, mfr_wf (mfr_rf _ _ _ _) (by decide), 0, rfl, rfl⟩
    exact h1
/-- scan, the memories stay -/
theorem kx_FS_scan1 {h : fx_H} {w f b : Nat} (hs : ¬ ((10 : Int32) ≤ fx_i h (w + 175) 3 ∧ fx_i h (w + 89) 6 = 2)) : kx h (k_FS_scan h w f b) := by
  unfold k_FS_scan
  have e : fx_i (k_BE_endFrame h (w + 175) (fx_i h (w + 89) 8)) (w + 89) 6 = fx_i h (w + 89) 6 := by
    unfold k_BE_endFrame
    rw [fx_i_wi, if_neg (by omega), fx_i_wi, if_neg (by omega), fx_i_wi, if_neg (by omega), fx_i_cp, if_neg (by omega)]
  rw [e]
  by_cases c1 : (10 : Int32) ≤ fx_i h (w + 175) 3
  · rw [if_pos c1, if_neg (fun z => hs ⟨c1, z⟩)]
    exact kx_sm (sm_BE_endFrame _ _ _)
  · rw [if_neg c1]
    exact kx_sm (sm_BE_scanRow _ _ _)
/-- scan, the memories exchanged -/
theorem isF_scan2 {h : fx_H} {w f b : Nat} (hs : (10 : Int32) ≤ fx_i h (w + 175) 3 ∧ fx_i h (w + 89) 6 = 2) (hF : isF h w f b) : isF (k_FS_scan h w f b) w b f ∧ (∀ a, fx_s (k_FS_scan h w f b) a = fx_s h a) ∧ ∀ a j, a ≠ w + 89 → fx_r (k_FS_scan h w f b) a j = fx_r h a j := by
  have e : fx_i (k_BE_endFrame h (w + 175) (fx_i h (w + 89) 8)) (w + 89) 6 = fx_i h (w + 89) 6 := by
    unfold k_BE_endFrame
    rw [fx_i_wi, if_neg (by omega), fx_i_wi, if_neg (by omega), fx_i_wi, if_neg (by omega), fx_i_cp, if_neg (by omega)]
  unfold k_FS_scan
  rw [e, if_pos hs.1, if_pos hs.2]
  obtain ⟨k1, e1⟩ : ∃ k, k = k_BE_endFrame h (w + 175) (fx_i h (w + 89) 8) := ⟨_, rfl⟩
  have x1 : kx h k1 := by rw [e1]; exact kx_sm (sm_BE_endFrame _ _ _)
  rw [← e1]
  obtain ⟨k2, e2⟩ : ∃ k, k = k_CO_swap k1 (w + 89) f b := ⟨_, rfl⟩
  have s2 : ∀ a, fx_s k2 a = fx_s k1 a := fun a => by rw [e2]; rfl
  have r2 : ∀ a j, ¬ (a = w + 89 ∧ (j = 4 ∨ j = 5)) → fx_r k2 a j = fx_r k1 a j := fun a j hj => by
    rw [e2]
    unfold k_CO_swap
    rw [fx_r_wi, fx_r_wi, fx_r_wr, if_neg (by omega), fx_r_wr, if_neg (by omega)]
  have r4 : fx_r k2 (w + 89) 4 = some b := by
    rw [e2]
    unfold k_CO_swap
    rw [fx_r_wi, fx_r_wi, fx_r_wr, if_neg (by omega), fx_r_wr, if_pos ⟨rfl, rfl⟩]
  have r5 : fx_r k2 (w + 89) 5 = some f := by
    rw [e2]
    unfold k_CO_swap
    rw [fx_r_wi, fx_r_wi, fx_r_wr, if_pos ⟨rfl, rfl⟩]
  rw [← e2]
  have x3 : kx k2 (k_PN_become k2 (w + 175 + 1) (w + 89 + 44)) := kx_sm (sm_PN_become _ _ _)
  generalize k_PN_become k2 (w + 175 + 1) (w + 89 + 44) = k3 at *
  clear e1 e2 e
  have S : ∀ a, fx_s k3 a = fx_s h a := fun a => ((x3.1 a).trans (s2 a)).trans (x1.1 a)
  have R : ∀ a j, ¬ (a = w + 89 ∧ (j = 4 ∨ j = 5)) → fx_r k3 a j = fx_r h a j := fun a j hj => ((x3.2 a j).trans (r2 a j hj)).trans (x1.2 a j)
  have K : ∀ lo hi, (hi ≤ w + 89 ∨ w + 90 ≤ lo) → kp lo hi h k3 := fun lo hi hh a h1 h2 => ⟨S a, fun j => R a j (by omega)⟩
  obtain ⟨a1, a2, a3, a4, a5, a6, a7, a8, a9, a10, a11⟩ := hF
  obtain ⟨c1, c2, c3, c4, c5, c6, c7, c8, c9, c10, c11, c12, c13, c14, c15⟩ := a5
  have hfb : w + 90 ≤ f ∧ w + 90 ≤ b := by omega
  refine ⟨⟨(S _).trans a1, (R _ _ (by omega)).trans a2, isD_kp (K _ _ (by omega)) a3, (R _ _ (by omega)).trans a4, ⟨(S _).trans c1, (R _ _ (by omega)).trans c2, isL_kp (K _ _ (by omega)) c3, (R _ _ (by omega)).trans c4, isN_kp (K _ _ (by omega)) c5, (R _ _ (by omega)).trans c6, (S _).trans c7, (R _ _ (by omega)).trans c8, (S _).trans c9, (x3.2 _ _).trans r4, isE_kp (K _ _ (by omega)) c13, (x3.2 _ _).trans r5, isE_kp (K _ _ (by omega)) c11, fun s hs => ⟨(R _ _ (by omega)).trans (c14 s hs).1, (S _).trans (c14 s hs).2⟩, by omega⟩, (R _ _ (by omega)).trans a6, isB_kp (K _ _ (by omega)) a7, (R _ _ (by omega)).trans a8, (S _).trans a9, (R _ _ (by omega)).trans a10, isP_kp (K _ _ (by omega)) a11⟩, S, fun a j ha => R a j (by omega)⟩
