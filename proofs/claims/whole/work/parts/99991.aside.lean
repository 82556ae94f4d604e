/-! ===== a number aside: the Model does not see it ===== -/
/-- a number put into a cell that the Model doesn't look at -/
def ph (z : Nat) (v : Int32) (h : fx_H) : fx_H := fx_wi h z 0 v
theorem ph_i {z a : Nat} (v : Int32) (h : fx_H) (j : Nat) (ha : a < z) : fx_i (ph z v h) a j = fx_i h a j := by
  unfold ph
  rw [fx_i_wi, if_neg (fun e => by omega)]
theorem ph_w {z a : Nat} (v : Int32) (h : fx_H) (j : Nat) (x : Int32) (ha : a < z) : fx_wi (ph z v h) a j x = ph z v (fx_wi h a j x) := by
  unfold ph fx_wi
  refine Prod.ext ?_ rfl
  funext b i
  show (if b = a ∧ i = j then x else if b = z ∧ i = 0 then v else h.1 b i) = if b = z ∧ i = 0 then v else if b = a ∧ i = j then x else h.1 b i
  by_cases c1 : b = a ∧ i = j
  · rw [if_pos c1, if_neg (fun c2 => by omega), if_pos c1]
  · rw [if_neg c1, if_neg c1]
theorem ph_it {z : Nat} {v : Int32} {f : Nat → fx_H → fx_H} (hf : ∀ n k, f n (ph z v k) = ph z v (f n k)) (h : fx_H) : ∀ n, it f (ph z v h) n = ph z v (it f h n)
  | 0 => by rw [it_0, it_0]
  | n + 1 => by rw [it_s, it_s, ph_it hf h n, hf]
def ph2 (z : Nat) (v : Int32) (y : Int32 × fx_H) : Int32 × fx_H := (y.1, ph z v y.2)
theorem ph_its {z : Nat} {v : Int32} {f : Nat → Int32 × fx_H → Int32 × fx_H} (hf : ∀ n y, f n (ph2 z v y) = ph2 z v (f n y)) (y : Int32 × fx_H) : ∀ n, its f (ph2 z v y) n = ph2 z v (its f y n)
  | 0 => by rw [its_0, its_0]
  | n + 1 => by rw [its_s, its_s, ph_its hf y n, hf]
theorem ph_draft {z q : Nat} (hz : q + 38 ≤ z) (v : Int32) (h : fx_H) (s : Int32) : v_MO_hasDraft (ph z v h) q s = v_MO_hasDraft h q s := by
  unfold v_MO_hasDraft
  rw [ph_i v h _ (by omega), ph_i v h _ (by omega)]
theorem ph_has {z q : Nat} (hz : q + 38 ≤ z) (v : Int32) (h : fx_H) (s x y : Int32) : v_MO_has (ph z v h) q s x y = v_MO_has h q s x y := by
  unfold v_MO_has
  rw [ph_i v h _ (by omega), ph_i v h _ (by omega)]
theorem ph_fiI {z q : Nat} (hz : q + 38 ≤ z) (v : Int32) (s x y co : Int32) (j n : Nat) (u : Int32 × fx_H) : fiI q s x y co j n (ph2 z v u) = ph2 z v (fiI q s x y co j n u) := by
  unfold fiI ph2
  simp only [ph_has hz]
  rw [ph_i v u.2 _ (by omega), ph_w v u.2 _ _ (by omega)]
  (repeat' split) <;> rfl
theorem ph_fiO {z q : Nat} (hz : q + 38 ≤ z) (v : Int32) (s x y cs co : Int32) (n : Nat) (u : Int32 × fx_H) : fiO q s x y cs co n (ph2 z v u) = ph2 z v (fiO q s x y cs co n u) := by
  have e := ph_its (f := fiI q s x y co n) (ph_fiI hz v s x y co n) u cs.toNatClampNeg
  unfold fiO
  show ((its (fiI q s x y co n) (ph2 z v u) cs.toNatClampNeg).1, (its (fiI q s x y co n) (ph2 z v u) cs.toNatClampNeg).2) = _
  rw [e]
theorem ph_fill {z q : Nat} (hz : q + 38 ≤ z) (v : Int32) (h : fx_H) (s x y cs rs co : Int32) : v_MO_fill (ph z v h) q s x y cs rs co = v_MO_fill h q s x y cs rs co ∧ k_MO_fill (ph z v h) q s x y cs rs co = ph z v (k_MO_fill h q s x y cs rs co) := by
  have e := ph_its (f := fiO q s x y cs co) (ph_fiO hz v s x y cs co) (0, fx_wi h q 0 0) rs.toNatClampNeg
  have e0 : ph2 z v ((0 : Int32), fx_wi h q 0 0) = (0, fx_wi (ph z v h) q 0 0) := by rw [ph_w v h _ _ (by omega)]; rfl
  rw [e0] at e
  have a1 : ∀ a b c d, v_MO_isArea (ph z v h) a b c d = v_MO_isArea h a b c d := fun _ _ _ _ => rfl
  have a2 : ∀ a b c, v_MO_within (ph z v h) a b c = v_MO_within h a b c := fun _ _ _ => rfl
  unfold v_MO_fill k_MO_fill
  rw [ph_draft hz, a1, a2, e, ph_w v h _ _ (by omega)]
  refine ⟨rfl, ?_⟩
  repeat' split
  all_goals rfl
theorem ph_cpI {z q : Nat} (hz : q + 38 ≤ z) (v : Int32) (fr to_ x y tx ty : Int32) (j n : Nat) (u : Int32 × fx_H) : cpI q fr to_ x y tx ty j n (ph2 z v u) = ph2 z v (cpI q fr to_ x y tx ty j n u) := by
  unfold cpI ph2
  simp only [ph_has hz]
  rw [ph_i v u.2 _ (by omega), ph_i v u.2 _ (by omega), ph_i v u.2 _ (by omega), ph_w v u.2 _ _ (by omega)]
  repeat' split
  all_goals rfl
theorem ph_cpO {z q : Nat} (hz : q + 38 ≤ z) (v : Int32) (fr to_ x y cs tx ty : Int32) (n : Nat) (u : Int32 × fx_H) : cpO q fr to_ x y cs tx ty n (ph2 z v u) = ph2 z v (cpO q fr to_ x y cs tx ty n u) := by
  have e := ph_its (f := cpI q fr to_ x y tx ty n) (ph_cpI hz v fr to_ x y tx ty n) u cs.toNatClampNeg
  unfold cpO
  show ((its (cpI q fr to_ x y tx ty n) (ph2 z v u) cs.toNatClampNeg).1, (its (cpI q fr to_ x y tx ty n) (ph2 z v u) cs.toNatClampNeg).2) = _
  rw [e]
theorem ph_bcp {z q : Nat} (hz : q + 38 ≤ z) (v : Int32) (fr : Int32) (n : Nat) (k : fx_H) : b_MO_copy q fr n (ph z v k) = ph z v (b_MO_copy q fr n k) := by
  unfold b_MO_copy
  rw [ph_i v k _ (by omega), ph_w v k _ _ (by omega)]
theorem ph_copy {z q : Nat} (hz : q + 38 ≤ z) (v : Int32) (h : fx_H) (fr to_ x y cs rs tx ty : Int32) : v_MO_copy (ph z v h) q fr to_ x y cs rs tx ty = v_MO_copy h q fr to_ x y cs rs tx ty ∧ k_MO_copy (ph z v h) q fr to_ x y cs rs tx ty = ph z v (k_MO_copy h q fr to_ x y cs rs tx ty) := by
  have e := ph_its (f := cpO q fr to_ x y cs tx ty) (ph_cpO hz v fr to_ x y cs tx ty) (0, it (b_MO_copy q fr) (fx_wi h q 0 0) 96) rs.toNatClampNeg
  have e0 : ph2 z v ((0 : Int32), it (b_MO_copy q fr) (fx_wi h q 0 0) 96) = (0, it (b_MO_copy q fr) (fx_wi (ph z v h) q 0 0) 96) := by
    rw [ph_w v h _ _ (by omega), ph_it (ph_bcp hz v fr)]; rfl
  rw [e0] at e
  have a1 : ∀ a b c d, v_MO_isArea (ph z v h) a b c d = v_MO_isArea h a b c d := fun _ _ _ _ => rfl
  have a2 : ∀ a b c, v_MO_within (ph z v h) a b c = v_MO_within h a b c := fun _ _ _ => rfl
  have a3 : v_MO_isCopy (ph z v h) q fr to_ tx ty = v_MO_isCopy h q fr to_ tx ty := by
    unfold v_MO_isCopy
    rw [ph_draft hz, ph_draft hz, a2, a2, ph_i v h _ (by omega), ph_i v h _ (by omega)]
  unfold v_MO_copy k_MO_copy
  rw [a3, a1, e, ph_w v h _ _ (by omega)]
  refine ⟨rfl, ?_⟩
  repeat' split
  all_goals rfl
theorem ph_cp1 {z q : Nat} (hz : q + 38 ≤ z) (v : Int32) (k : fx_H) (a t : Int32) : k_MO_copyPicture (ph z v k) q a t = ph z v (k_MO_copyPicture k q a t) := by
  have s : ∀ (m : fx_H) o (x y : Nat), o < 38 → fx_wi (ph z v m) (q + o) x (fx_i (ph z v m) (q + o) y) = ph z v (fx_wi m (q + o) x (fx_i m (q + o) y)) := fun m o x y ho => by rw [ph_i v m _ (by omega), ph_w v m _ _ (by omega)]
  have c1 : cq1 (ph z v k) q a t = ph z v (cq1 k q a t) := s _ 7 _ _ (by decide)
  have c2 : cq2 (ph z v k) q a t = ph z v (cq2 k q a t) := by unfold cq2; rw [c1]; exact s _ 8 _ _ (by decide)
  have c3 : cq3 (ph z v k) q a t = ph z v (cq3 k q a t) := by unfold cq3; rw [c2]; exact s _ 9 _ _ (by decide)
  have c4 : cq4 (ph z v k) q a t = ph z v (cq4 k q a t) := by unfold cq4; rw [c3]; exact s _ 10 _ _ (by decide)
  have c5 : cq5 (ph z v k) q a t = ph z v (cq5 k q a t) := by unfold cq5; rw [c4]; exact s _ 11 _ _ (by decide)
  have c6 : cq6 (ph z v k) q a t = ph z v (cq6 k q a t) := by unfold cq6; rw [c5]; exact s _ 12 _ _ (by decide)
  have c7 : cq7 (ph z v k) q a t = ph z v (cq7 k q a t) := by unfold cq7; rw [c6]; exact s _ 13 _ _ (by decide)
  have c8 : cq8 (ph z v k) q a t = ph z v (cq8 k q a t) := by unfold cq8; rw [c7]; exact s _ 14 _ _ (by decide)
  have c9 : cq9 (ph z v k) q a t = ph z v (cq9 k q a t) := by unfold cq9; rw [c8]; exact s _ 15 _ _ (by decide)
  have c10 : cq10 (ph z v k) q a t = ph z v (cq10 k q a t) := by unfold cq10; rw [c9]; exact s _ 16 _ _ (by decide)
  unfold k_MO_copyPicture
  rw [c10]
  exact ph_it (fun n m => by unfold b_MO_copyPicture; exact s _ 17 _ _ (by decide)) _ 96
theorem ph_bcm {z q : Nat} (hz : q + 38 ≤ z) (v : Int32) (cl : Int32) (n : Nat) (k : fx_H) : b_MO_commit q cl n (ph z v k) = ph z v (b_MO_commit q cl n k) := by
  unfold b_MO_commit
  rw [ph_i v k _ (by omega), ph_i v k _ (by omega), ph_cp1 hz, ph_i v _ _ (by omega), ph_w v _ _ _ (by omega)]
  repeat' split
  all_goals rfl
theorem ph_commit {z q : Nat} (hz : q + 38 ≤ z) (v : Int32) (h : fx_H) (cl : Int32) : v_MO_commit (ph z v h) q cl = v_MO_commit h q cl ∧ k_MO_commit (ph z v h) q cl = ph z v (k_MO_commit h q cl) := by
  have a2 : ∀ a b c, v_MO_within (ph z v h) a b c = v_MO_within h a b c := fun _ _ _ => rfl
  unfold v_MO_commit k_MO_commit
  have hq : q < z := by omega
  have h19 : q + 19 < z := by omega
  simp only [a2, ph_i v _ _ hq, ph_w v _ _ _ hq, ph_it (ph_bcm hz v cl), ph_w v _ _ _ h19]
  refine ⟨trivial, ?_⟩
  repeat' split
  all_goals rfl
theorem ph_surface {z q : Nat} (hz : q + 38 ≤ z) (v : Int32) (h : fx_H) (cl cs rs : Int32) : v_MO_surface (ph z v h) q cl cs rs = v_MO_surface h q cl cs rs ∧ k_MO_surface (ph z v h) q cl cs rs = ph z v (k_MO_surface h q cl cs rs) := by
  have a2 : ∀ a b c, v_MO_within (ph z v h) a b c = v_MO_within h a b c := fun _ _ _ => rfl
  have ff : ∀ n i (k : fx_H), ffree (ph z v k) q i n = ffree k q i n := fun n => by
    induction n with
    | zero => intro i k; rfl
    | succ n ih => intro i k; unfold ffree; rw [ph_i v k _ (by omega), ih]
  have sf : sfree (ph z v h) q = sfree h q := by
    unfold sfree
    rw [ph_w v h _ _ (by omega), ff]
  have fp : v_MO_freePixels (fx_wi (ph z v h) q 0 0) q = v_MO_freePixels (fx_wi h q 0 0) q := by
    rw [ph_w v h _ _ (by omega)]
    exact fp_congr (fun s _ => ph_i v _ _ (by omega)) (fun s _ => ph_i v _ _ (by omega)) (fun s _ => ph_i v _ _ (by omega))
  have s1 : su1 (ph z v h) q cl cs rs = ph z v (su1 h q cl cs rs) := by unfold su1; rw [sf, ph_w v h _ _ (by omega), ph_w v _ _ _ (by omega)]
  have s2 : su2 (ph z v h) q cl cs rs = ph z v (su2 h q cl cs rs) := by unfold su2; rw [sf, s1, ph_w v _ _ _ (by omega)]
  have s3 : su3 (ph z v h) q cl cs rs = ph z v (su3 h q cl cs rs) := by unfold su3; rw [sf, s2, ph_w v _ _ _ (by omega)]
  have s4 : su4 (ph z v h) q cl cs rs = ph z v (su4 h q cl cs rs) := by unfold su4; rw [sf, s3, ph_w v _ _ _ (by omega)]
  have s5 : su5 (ph z v h) q cl cs rs = ph z v (su5 h q cl cs rs) := by unfold su5; rw [sf, s4, ph_w v _ _ _ (by omega)]
  have s6 : su6 (ph z v h) q cl cs rs = ph z v (su6 h q cl cs rs) := by unfold su6; rw [sf, s5, ph_w v _ _ _ (by omega)]
  have s7 : su7 (ph z v h) q cl cs rs = ph z v (su7 h q cl cs rs) := by unfold su7; rw [sf, s6, ph_w v _ _ _ (by omega)]
  have s8 : su8 (ph z v h) q cl cs rs = ph z v (su8 h q cl cs rs) := by unfold su8; rw [sf, s7, ph_w v _ _ _ (by omega)]
  have s9 : su9 (ph z v h) q cl cs rs = ph z v (su9 h q cl cs rs) := by unfold su9; rw [sf, s8, ph_w v _ _ _ (by omega)]
  have s10 : su10 (ph z v h) q cl cs rs = ph z v (su10 h q cl cs rs) := by unfold su10; rw [sf, s9, ph_w v _ _ _ (by omega)]
  have s11 : su11 (ph z v h) q cl cs rs = ph z v (su11 h q cl cs rs) := by unfold su11; rw [sf, s10, ph_w v _ _ _ (by omega)]
  have s12 : su12 (ph z v h) q cl cs rs = ph z v (su12 h q cl cs rs) := by unfold su12; rw [sf, s11, ph_w v _ _ _ (by omega)]
  have s13 : su13 (ph z v h) q cl cs rs = ph z v (su13 h q cl cs rs) := by unfold su13; rw [sf, s12, ph_w v _ _ _ (by omega)]
  have s14 : su14 (ph z v h) q cl cs rs = ph z v (su14 h q cl cs rs) := by unfold su14; rw [sf, s13, ph_w v _ _ _ (by omega)]
  have s15 : su15 (ph z v h) q cl cs rs = ph z v (su15 h q cl cs rs) := by unfold su15; rw [sf, s14, ph_w v _ _ _ (by omega)]
  have s16 : su16 (ph z v h) q cl cs rs = ph z v (su16 h q cl cs rs) := by unfold su16; rw [sf, s15, ph_w v _ _ _ (by omega)]
  have s17 : su17 (ph z v h) q cl cs rs = ph z v (su17 h q cl cs rs) := by unfold su17; rw [sf, s16, ph_w v _ _ _ (by omega)]
  have s18 : su18 (ph z v h) q cl cs rs = ph z v (su18 h q cl cs rs) := by unfold su18; rw [sf, s17, ph_w v _ _ _ (by omega)]
  unfold v_MO_surface k_MO_surface
  rw [a2, a2, a2, sf, fp]
  refine ⟨rfl, ?_⟩
  have e : it (b_MO_surface (ph z v h) q) (su18 (ph z v h) q cl cs rs) 96 = ph z v (it (b_MO_surface h q) (su18 h q cl cs rs) 96) := by
    rw [s18]
    have eb : b_MO_surface (ph z v h) q = b_MO_surface h q := by funext i k; unfold b_MO_surface; rw [sf]
    rw [eb]
    exact ph_it (fun n m => by unfold b_MO_surface; rw [ph_w v _ _ _ (by omega)]) _ 96
  simp only [e, ph_w v h _ _ (show q < z by omega), ph_w v (fx_wi h q 0 0) _ _ (show q < z by omega)]
  repeat' split
  all_goals rfl
theorem J_ph {h : fx_H} {w q f b z : Nat} (hz : q + 38 ≤ z) (v : Int32) (hj : J h w q f b) : J (ph z v h) w q f b := by
  have hq := hj.at_
  exact J_ag ⟨fun a _ _ _ _ j => ph_i v h j (by omega), fun o _ _ _ _ j => ph_i v h j (by omega), fun j _ _ => ph_i v h j (by omega)⟩ hj
