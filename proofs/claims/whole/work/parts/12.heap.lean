/-! ===== fields and arrays ===== -/
/-- the own'th class's pool entry idx is the field k of the class ci; final or not -/
def fx_fw (own : String) (idx ci k : Nat) (fin : Bool) : Prop := ∃ (C : String) (T : u_T) (N : Nat) (ty : Nat → FieldType), fx_cl[ci]? = some (C, T, N) ∧ (∀ w ∈ u_ws C T N, w ∈ fx_tb) ∧ k < N ∧ Cond.fieldLink own idx (T k).1 (T k).2.1 (T k).2.2.1 ∈ fx_tb ∧
  (∀ j, j < N → parseFieldDescriptor (T j).2.2.1 = some (ty j)) ∧ (∀ a, a < N → ∀ b, b < N → a ≠ b → (T a).2.1 ≠ (T b).2.1) ∧ (T k).2.2.2 = fin ∧ (fin = true → (T k).1 = own) ∧ (fx_fk ci k = 0 → ty k = .int) ∧ (fx_fk ci k = 1 → ty k = .boolean) ∧ (fx_fk ci k = 2 → (ty k).isReference = true) ∧ fx_fk ci k < 3
def fx_fg (own : String) (idx ci k : Nat) : Prop := ∃ (C : String) (T : u_T) (N : Nat), fx_cl[ci]? = some (C, T, N) ∧ (∀ w ∈ u_ws C T N, w ∈ fx_tb) ∧ k < N ∧ Cond.fieldLink own idx (T k).1 (T k).2.1 (T k).2.2.1 ∈ fx_tb
theorem fx_fg_of {own : String} {idx ci k : Nat} {fin : Bool} (h : fx_fw own idx ci k fin) : fx_fg own idx ci k := by
  obtain ⟨C, T, N, ty, h1, h2, h3, h4, -⟩ := h
  exact ⟨C, T, N, h1, h2, h3, h4⟩
theorem fx_c_kept {g : fx_G} {h h' : fx_H} {H H' : Heap} {b : Nat} {x : Nat ⊕ (Nat × Nat)} (hc : fx_c g h H b x) (hi : ∀ k, fx_i h' b k = fx_i h b k) (hr : ∀ k, fx_r h' b k = fx_r h b k) (hH : H'[b]? = H[b]?) : fx_c g h' H' b x := by
  have e1 : fx_i h' b = fx_i h b := funext hi
  have e2 : fx_r h' b = fx_r h b := funext hr
  cases x with
  | inl ci =>
    obtain ⟨⟨r, h1, h2⟩, h3⟩ := hc
    have ev : fx_v h' ci b = fx_v h ci b := by
      funext k
      simp only [fx_v, hi, hr]
    refine ⟨⟨r, h1, ?_⟩, fun k hk => by rw [hi]; exact h3 k hk⟩
    rw [ev]
    exact h2.kept hH
  | inr q =>
    obtain ⟨ak, n⟩ := q
    obtain ⟨h1, h2⟩ := hc
    have ea : fx_ar h' b ak = fx_ar h b ak := by
      unfold fx_ar
      rw [e1, e2]
    exact ⟨by rw [hH, ea]; exact h1, fun hk k => by rw [hi]; exact h2 hk k⟩
theorem fx_R_upd {g : fx_G} {h h' : fx_H} {H H' : Heap} {a : Nat} (hR : fx_R g h H) (hn : fx_n h' = fx_n h) (hs : ∀ b, fx_s h' b = fx_s h b) (hi : ∀ b, b ≠ a → ∀ k, fx_i h' b k = fx_i h b k) (hr : ∀ b, b ≠ a → ∀ k, fx_r h' b k = fx_r h b k)
    (hb : fx_b g ≤ a) (e2 : H'.size = H.size) (e3 : ∀ q, q ≠ a → H'[q]? = H[q]?) (hx : ∀ x, fx_s h a = some x → fx_c g h' H' a x) : fx_R g h' H' := by
  obtain ⟨r1, r2, r3, r4⟩ := hR
  refine ⟨by rw [e2, hn]; exact r1, by rw [hn]; exact r2, fun q hq => ?_, fun b x hbx => ?_⟩
  · rw [e3 q (Nat.ne_of_lt (Nat.lt_of_lt_of_le hq hb))]
    exact r3 q hq
  · rw [hs] at hbx
    obtain ⟨k1, k2, k3⟩ := r4 b x hbx
    refine ⟨k1, by rw [hn]; exact k2, ?_⟩
    by_cases hba : b = a
    · subst hba
      exact hx x hbx
    · exact fx_c_kept k3 (hi b hba) (hr b hba) (e3 b hba)
theorem fx_R_new {g : fx_G} {h : fx_H} {H H' : Heap} {x : Nat ⊕ (Nat × Nat)} (hR : fx_R g h H) (e2 : H'.size = H.size + 1) (e3 : ∀ q, q < H.size → H'[q]? = H[q]?) (hx : fx_c g (fx_nw h x) H' (fx_n h) x) : fx_R g (fx_nw h x) H' := by
  obtain ⟨r1, r2, r3, r4⟩ := hR
  refine ⟨by rw [e2, r1]; rfl, Nat.le_trans r2 (Nat.le_succ _), fun q hq => ?_, fun b y hby => ?_⟩
  · rw [e3 q (by rw [r1]; exact Nat.lt_of_lt_of_le hq r2)]
    exact r3 q hq
  · rw [fx_s_nw] at hby
    by_cases hb : b = fx_n h
    · rw [if_pos hb] at hby
      cases hby
      subst hb
      exact ⟨r2, Nat.lt_succ_self _, hx⟩
    · rw [if_neg hb] at hby
      obtain ⟨k1, k2, k3⟩ := r4 b y hby
      refine ⟨k1, Nat.lt_succ_of_lt k2, fx_c_kept k3 (fun k => ?_) (fun k => ?_) (e3 b (by rw [r1]; exact k2))⟩
      · rw [fx_i_nw, if_neg hb]
      · rw [fx_r_nw, if_neg hb]
theorem fx_R_skip {g : fx_G} {h : fx_H} {H H' : Heap} {n : Nat} (hR : fx_R g h H) (e2 : H'.size = H.size + n) (e3 : ∀ q, q < H.size → H'[q]? = H[q]?) : fx_R g (fx_sk h n) H' := by
  obtain ⟨r1, r2, r3, r4⟩ := hR
  refine ⟨by rw [e2, r1]; rfl, Nat.le_trans r2 (Nat.le_add_right _ _), fun q hq => ?_, fun b y hby => ?_⟩
  · rw [e3 q (by rw [r1]; exact Nat.lt_of_lt_of_le hq r2)]
    exact r3 q hq
  · obtain ⟨k1, k2, k3⟩ := r4 b y hby
    exact ⟨k1, Nat.lt_of_lt_of_le k2 (Nat.le_add_right _ _), fx_c_kept k3 (fun _ => rfl) (fun _ => rfl) (e3 b (by rw [r1]; exact k2))⟩
section FXH
variable {g : fx_G} {M : fx_M} {pc : Nat} {lv : List (Nat × Value)} {st : List Value} {h : fx_H} {Q : fx_O → fx_H → Prop} {mc ms : Nat}
theorem fx_getv (ok : fx_ok g) {idx ci a k : Nat} (hf : fx_fg (fx_y M).cls idx ci k) (hs : fx_s h a = some (.inl ci)) (d : decode (fx_cc M) pc = .ok (.getfield idx, 3)) (K : fx_X g M (pc + 3) lv (fx_v h ci a k :: st) h Q mc ms) : fx_X g M pc lv (.ref a :: st) h Q mc ms := by
  intro p e R s m args below meth c F H locs cells slots ls hR hL hc hs' hl
  obtain ⟨C, T, N, hcl, hin, hk, hlk⟩ := hf
  have hW := F.2.2.2.2.2.1
  obtain ⟨⟨r, h1, cell, q1, q2, q3, q4⟩, -⟩ := (hR.2.2.2 a _ hs).2.2
  have hr : r = (C, T, N) := Option.some.inj (h1.symm.trans hcl)
  subst hr
  have hts : ∀ w ∈ u_ws C T N, w.before args s = true := fun w hw => fx_word ok (hin w hw) (fx_lay hw) hW
  obtain ⟨hS, hfc, kC, hkC, hkind⟩ := fx_Kn ok hW hcl
  obtain ⟨cf, kf, fi, f, hi, hsl⟩ := hS k hk
  refine W.getf F.1 F.2.1 F.2.2.2.2.2.2.1 (fx_word ok hlk rfl hW) hi (u_facts hfc hkC (u_lays hts (fun w hw => hw) hk) hi).1 q1 (by rw [q3]; exact fun h => by cases h) (v := fx_v h ci a k) ?_ rfl rfl d (K p e R s m args below meth c F H locs cells slots ls hR hL hc hs' hl)
  rw [hsl, q4 k hk]
theorem fx_geti (ok : fx_ok g) {idx ci a k : Nat} (hf : fx_fg (fx_y M).cls idx ci k) (hs : fx_s h a = some (.inl ci)) (d : decode (fx_cc M) pc = .ok (.getfield idx, 3)) (hk : fx_fk ci k ≠ 2) (K : fx_X g M (pc + 3) lv (.int (fx_i h a k) :: st) h Q mc ms) : fx_X g M pc lv (.ref a :: st) h Q mc ms := by
  refine fx_getv ok hf hs d ?_
  rw [fx_v, if_neg hk]
  exact K
theorem fx_getr (ok : fx_ok g) {idx ci a k b : Nat} (hf : fx_fg (fx_y M).cls idx ci k) (hs : fx_s h a = some (.inl ci)) (d : decode (fx_cc M) pc = .ok (.getfield idx, 3)) (hk : fx_fk ci k = 2) (hb : fx_r h a k = some b) (K : fx_X g M (pc + 3) lv (.ref b :: st) h Q mc ms) : fx_X g M pc lv (.ref a :: st) h Q mc ms := by
  refine fx_getv ok hf hs d ?_
  rw [fx_v, if_pos hk, hb]
  exact K
/-- a store into a field, in general: h' says what is there then -/
theorem fx_putv (ok : fx_ok g) {idx ci a k : Nat} {fin : Bool} {v : Value} {h' : fx_H} (hf : fx_fw (fx_y M).cls idx ci k fin) (hs : fx_s h a = some (.inl ci)) (hfin : fin = true → (fx_y M).name = "<init>") (d : decode (fx_cc M) pc = .ok (.putfield idx, 3))
    (hty : ∀ ty : FieldType, (fx_fk ci k = 0 → ty = .int) → (fx_fk ci k = 1 → ty = .boolean) → (fx_fk ci k = 2 → ty.isReference = true) → narrow ty v = v ∧ fits ty v = true)
    (hn' : fx_n h' = fx_n h) (hs' : ∀ b, fx_s h' b = fx_s h b) (hi' : ∀ b, b ≠ a → ∀ j, fx_i h' b j = fx_i h b j) (hr' : ∀ b, b ≠ a → ∀ j, fx_r h' b j = fx_r h b j) (hv : fx_v h' ci a k = v) (hv' : ∀ j, j ≠ k → fx_v h' ci a j = fx_v h ci a j) (hb' : (∀ j, fx_fk ci j = 1 → fx_i h a j = 0 ∨ fx_i h a j = 1) → ∀ j, fx_fk ci j = 1 → fx_i h' a j = 0 ∨ fx_i h' a j = 1)
    (K : fx_X g M (pc + 3) lv st h' Q mc ms) : fx_X g M pc lv (v :: .ref a :: st) h Q mc ms := by
  intro p e R s m args below meth c F H locs cells slots ls hR hL hc hs9 hl
  obtain ⟨C, T, N, ty, hcl, hin, hk, hlk, hty0, hnm, hfl, hdecl, ht0, ht1, ht2, -⟩ := hf
  have hW := F.2.2.2.2.2.1
  obtain ⟨hba, -, hcell⟩ := hR.2.2.2 a _ hs
  obtain ⟨⟨r, h1, cell, q1, q2, q3, q4⟩, hbool⟩ := hcell
  have hr : r = (C, T, N) := Option.some.inj (h1.symm.trans hcl)
  subst hr
  have hts : ∀ w ∈ u_ws C T N, w.before args s = true := fun w hw => fx_word ok (hin w hw) (fx_lay hw) hW
  have hKn := fx_Kn ok hW hcl
  have hap : ∀ x y, x < N → y < N → x ≠ y → ((fx_D g).2 ci) x ≠ ((fx_D g).2 ci) y := by
    intro x y hx hy hne
    obtain ⟨_, _, _, fa, hia, ea⟩ := hKn.1 x hx
    obtain ⟨_, _, _, fb, hib, eb⟩ := hKn.1 y hy
    rw [← ea, ← eb]
    refine u_apart (u_lays hts (fun w hw => hw) hx) (u_lays hts (fun w hw => hw) hy) hia hib ?_
    rw [(State.fieldFound?_type hia (hty0 x hx)).1, (State.fieldFound?_type hib (hty0 y hy)).1]
    exact hnm x hx y hy hne
  obtain ⟨hS, hfc, kC, hkC, hkind⟩ := hKn
  obtain ⟨cf, kf, fi, f, hi, hsl⟩ := hS k hk
  obtain ⟨hnar, hfit⟩ := hty (ty k) ht0 ht1 ht2
  have hlay := hts _ (u_in_lay hk)
  unfold u_lay at hlay
  have hst := (u_facts hfc hkC (u_lays hts (fun w hw => hw) hk) hi).1
  have fin9 : ∀ H' : Heap, H'[a]? = some (cell.setSlot f.slot v) → H'.size = H.size → (∀ q, q ≠ a → H'[q]? = H[q]?) → W p (fx_l g) e R s m args below meth c H' (locs ++ [⟨a, f.slot⟩]) cells slots (fx_E g Q R s below) (F0 m (pc + 3) ls st) := by
    intro H' e1 e2 e3
    refine K p e R s m args below meth c F H' _ cells slots ls ?_ (t_lc hL hba) hc hs9 hl
    refine fx_R_upd hR hn' hs' hi' hr' hba e2 e3 (fun x hx => ?_)
    cases hs.symm.trans hx
    rw [hsl] at e1
    refine ⟨⟨(C, T, N), hcl, t_OB.to (V := updV (fx_v h ci a) k v) ⟨_, e1, q2, q3, t_set q4 hap hk v⟩ (fun j _ => ?_)⟩, hb' hbool⟩
    by_cases hj : j = k
    · subst hj
      simp only [updV, if_pos]
      exact hv.symm
    · simp only [updV, if_neg hj]
      exact (hv' j hj).symm
  cases fin with
  | false =>
    rw [if_neg (by rw [hfl]; decide)] at hlay
    have h6 := u_store hfc hkC hkind hlay hi (hty0 k hk) hnar hfit
    exact W.putK F.1 F.2.1 (f := f) ⟨F.2.2.2.2.2.2.1, fx_word ok hlk rfl hW, ⟨_, _, _, hi⟩, hst⟩ (by rw [q2]; exact h6) q1 q3 (by rw [hsl]; exact k2_hasslot (q4 k hk)) rfl rfl d fin9
  | true =>
    rw [if_pos hfl] at hlay
    have hcf : m.cls = cf := by
      obtain ⟨_, _, c', _, _, _, -, -, hf', -, -, -, hown2, -⟩ := Cond.laysFinal_spec hlay
      have e1 : c' = cf := by have := hi.symm.trans hf'; simp at this; exact this.1.symm
      rw [hdecl rfl] at hown2
      rw [← e1]; exact Option.some.inj (F.2.2.2.2.2.2.1.symm.trans hown2)
    have h6 := u_fits hfc hkC hkind (Or.inr hlay) hi (hty0 k hk) hnar hfit
    exact W.putFinK F.1 F.2.1 F.2.2.2.2.2.2.1 (fx_word ok hlk rfl hW) hi hst hcf (F.2.2.2.2.2.2.2.1.trans (hfin rfl)) (by rw [q2]; exact h6) q1 q3 (by rw [hsl]; exact k2_hasslot (q4 k hk)) rfl rfl d fin9
theorem fx_nb {x : Int32} (h : x = 0 ∨ x = 1) : narrow .boolean (.int x) = .int x ∧ fits .boolean (.int x) = true := by
  rcases h with rfl | rfl <;> decide
theorem fx_puti (ok : fx_ok g) {idx ci a k : Nat} {fin : Bool} {x : Int32} (hf : fx_fw (fx_y M).cls idx ci k fin) (hs : fx_s h a = some (.inl ci)) (hfin : fin = true → (fx_y M).name = "<init>") (d : decode (fx_cc M) pc = .ok (.putfield idx, 3)) (hk : fx_fk ci k = 0 ∨ (fx_fk ci k = 1 ∧ (x = 0 ∨ x = 1)))
    (K : fx_X g M (pc + 3) lv st (fx_wi h a k x) Q mc ms) : fx_X g M pc lv (.int x :: .ref a :: st) h Q mc ms := by
  have hk2 : fx_fk ci k ≠ 2 := by omega
  refine fx_putv ok (h' := fx_wi h a k x) hf hs hfin d (fun ty t0 t1 _ => ?_) rfl (fun _ => rfl) (fun b hb j => ?_) (fun _ _ _ => rfl) ?_ (fun j hj => ?_) (fun hb j hj => ?_) K
  · rcases hk with hk | ⟨hk, hx⟩
    · rw [t0 hk]
      exact ⟨rfl, rfl⟩
    · rw [t1 hk]
      exact fx_nb hx
  · rw [fx_i_wi, if_neg (fun z => hb z.1)]
  · rw [fx_v, if_neg hk2, fx_i_wi, if_pos ⟨rfl, rfl⟩]
  · have e9 : fx_i (fx_wi h a k x) a j = fx_i h a j := by rw [fx_i_wi, if_neg (fun z => hj z.2)]
    simp only [fx_v, e9, fx_r_wi]
  · rw [fx_i_wi]
    by_cases hjk : j = k
    · rw [if_pos ⟨rfl, hjk⟩]
      subst hjk
      rcases hk with hk | ⟨_, hx⟩
      · omega
      · exact hx
    · rw [if_neg (fun z => hjk z.2)]
      exact hb j hj
theorem fx_putr (ok : fx_ok g) {idx ci a k b : Nat} {fin : Bool} (hf : fx_fw (fx_y M).cls idx ci k fin) (hs : fx_s h a = some (.inl ci)) (hfin : fin = true → (fx_y M).name = "<init>") (d : decode (fx_cc M) pc = .ok (.putfield idx, 3)) (hk : fx_fk ci k = 2)
    (K : fx_X g M (pc + 3) lv st (fx_wr h a k (some b)) Q mc ms) : fx_X g M pc lv (.ref b :: .ref a :: st) h Q mc ms := by
  refine fx_putv ok (h' := fx_wr h a k (some b)) hf hs hfin d (fun ty _ _ t2 => ?_) rfl (fun _ => rfl) (fun _ _ _ => rfl) (fun b hb j => ?_) ?_ (fun j hj => ?_) (fun hb j hj => hb j hj) K
  · have := t2 hk
    cases ty <;> first | exact ⟨rfl, rfl⟩ | cases this
  · rw [fx_r_wr, if_neg (fun z => hb z.1)]
  · rw [fx_v, if_pos hk, fx_r_wr, if_pos ⟨rfl, rfl⟩]
    rfl
  · have e9 : fx_r (fx_wr h a k (some b)) a j = fx_r h a j := by rw [fx_r_wr, if_neg (fun z => hj z.2)]
    simp only [fx_v, e9, fx_i_wr]
theorem fx_in {i : Int32} {n : Nat} (hin : vp_in i n) : i.toNatClampNeg < n := Nat.not_le.mp fun q => hin (Or.inr q)
theorem fx_iaload (ok : fx_ok g) {a n : Nat} {i : Int32} (hs : fx_s h a = some (.inr (0, n))) (hin : vp_in i n) (d : decode (fx_cc M) pc = .ok (.iaload, 1)) (K : fx_X g M (pc + 1) lv (.int (fx_i h a i.toNatClampNeg) :: st) h Q mc ms) : fx_X g M pc lv (.int i :: .ref a :: st) h Q mc ms := by
  intro p e R s m args below meth c F H locs cells slots ls hR hL hc hs' hl
  obtain ⟨hcell, -⟩ := (hR.2.2.2 a _ hs).2.2
  exact W.iald (v := .int (fx_i h a i.toNatClampNeg)) F.1 F.2.1 hcell ((fx_Ty ok F.2.2.2.2.2.1 (ak := 0) rfl).1 n (fun j => .int (fx_i h a j))) (fun q => by cases q) (by show ¬ (i < 0 ∨ (arrV _ _ _).slots.size ≤ _); rw [arrV_size]; exact hin) (by show (arrV _ _ _).slots[_]? = _; rw [arrV_read _ _ (fx_in hin)]) rfl rfl d (K p e R s m args below meth c F H locs cells slots ls hR hL hc hs' hl)
theorem fx_baload (ok : fx_ok g) {a n : Nat} {i : Int32} (hs : fx_s h a = some (.inr (1, n))) (hin : vp_in i n) (d : decode (fx_cc M) pc = .ok (.baload, 1)) (K : fx_X g M (pc + 1) lv (.int (fx_i h a i.toNatClampNeg) :: st) h Q mc ms) : fx_X g M pc lv (.int i :: .ref a :: st) h Q mc ms := by
  intro p e R s m args below meth c F H locs cells slots ls hR hL hc hs' hl
  obtain ⟨hcell, -⟩ := (hR.2.2.2 a _ hs).2.2
  exact W.zald (v := .int (fx_i h a i.toNatClampNeg)) F.1 F.2.1 hcell ((fx_Ty ok F.2.2.2.2.2.1 (ak := 1) rfl).1 n (fun j => .int (fx_i h a j))) (fun q => by cases q) (by show ¬ (i < 0 ∨ (arrV _ _ _).slots.size ≤ _); rw [arrV_size]; exact hin) (by show (arrV _ _ _).slots[_]? = _; rw [arrV_read _ _ (fx_in hin)]) rfl rfl d (K p e R s m args below meth c F H locs cells slots ls hR hL hc hs' hl)
theorem fx_laload (ok : fx_ok g) {a n : Nat} {i : Int32} (hs : fx_s h a = some (.inr (2, n))) (hin : vp_in i n) (d : decode (fx_cc M) pc = .ok (.laload, 1)) (K : fx_X g M (pc + 1) lv (.long (fx_i h a i.toNatClampNeg).toInt64 :: st) h Q mc ms) : fx_X g M pc lv (.int i :: .ref a :: st) h Q mc ms := by
  intro p e R s m args below meth c F H locs cells slots ls hR hL hc hs' hl
  obtain ⟨hcell, -⟩ := (hR.2.2.2 a _ hs).2.2
  exact W.lald (v := .long (fx_i h a i.toNatClampNeg).toInt64) F.1 F.2.1 hcell ((fx_Ty ok F.2.2.2.2.2.1 (ak := 2) rfl).1 n (fun j => .long (fx_i h a j).toInt64)) (fun q => by cases q) (by show ¬ (i < 0 ∨ (arrV _ _ _).slots.size ≤ _); rw [arrV_size]; exact hin) (by show (arrV _ _ _).slots[_]? = _; rw [arrV_read _ _ (fx_in hin)]) rfl rfl d (K p e R s m args below meth c F H locs cells slots ls hR hL hc hs' hl)
theorem fx_aaload (ok : fx_ok g) {a n ak b : Nat} {ty : FieldType} {i : Int32} (hs : fx_s h a = some (.inr (ak, n))) (hak : 3 ≤ ak) (hty : fx_tys[ak]? = some ty) (hrf : ty.isReference = true) (hin : vp_in i n) (hb : fx_r h a i.toNatClampNeg = some b) (d : decode (fx_cc M) pc = .ok (.aaload, 1)) (K : fx_X g M (pc + 1) lv (.ref b :: st) h Q mc ms) : fx_X g M pc lv (.int i :: .ref a :: st) h Q mc ms := by
  intro p e R s m args below meth c F H locs cells slots ls hR hL hc hs' hl
  obtain ⟨hcell, -⟩ := (hR.2.2.2 a _ hs).2.2
  have ea : fx_ar h a ak = .inr (.inr (.inr (.inr (fx_r h a)))) := by
    rw [fx_ar, if_neg (by omega), if_neg (by omega)]
  rw [ea] at hcell
  exact W.aald (v := .ref b) F.1 F.2.1 hcell ((fx_Ty ok F.2.2.2.2.2.1 hty).1 n (fun j => va_rf (fx_r h a j))) hrf (fun q => by cases q) (by show ¬ (i < 0 ∨ (arrV _ _ _).slots.size ≤ _); rw [arrV_size]; exact hin) (by show (arrV _ _ _).slots[_]? = _; rw [arrV_read _ _ (fx_in hin), hb]; rfl) rfl rfl d (K p e R s m args below meth c F H locs cells slots ls hR hL hc hs' hl)
theorem fx_alen (ok : fx_ok g) {a n ak : Nat} {ty : FieldType} {v : Int32} (hs : fx_s h a = some (.inr (ak, n))) (hty : fx_tys[ak]? = some ty) (hv : Int32.ofNat n = v) (d : decode (fx_cc M) pc = .ok (.arraylength, 1)) (K : fx_X g M (pc + 1) lv (.int v :: st) h Q mc ms) : fx_X g M pc lv (.ref a :: st) h Q mc ms := by
  intro p e R s m args below meth c F H locs cells slots ls hR hL hc hs' hl
  subst hv
  obtain ⟨hcell, -⟩ := (hR.2.2.2 a _ hs).2.2
  have h1 := (fx_Ty ok F.2.2.2.2.2.1 hty).1 n
  have hk := K p e R s m args below meth c F H locs cells slots ls hR hL hc hs' hl
  rcases hx : fx_ar h a ak with f | f | f | f | f
  · rw [hx, vp_cell_i] at hcell
    exact W.alen (n := Int32.ofNat n) F.1 F.2.1 hcell (h1 _) (by rw [arrV_size] <;> rfl) rfl rfl d hk
  · rw [hx, vp_cell_l] at hcell
    exact W.alen (n := Int32.ofNat n) F.1 F.2.1 hcell (h1 _) (by rw [arrV_size] <;> rfl) rfl rfl d hk
  · rw [hx, vp_cell_f] at hcell
    exact W.alen (n := Int32.ofNat n) F.1 F.2.1 hcell (h1 _) (by rw [arrV_size] <;> rfl) rfl rfl d hk
  · rw [hx, vp_cell_d] at hcell
    exact W.alen (n := Int32.ofNat n) F.1 F.2.1 hcell (h1 _) (by rw [arrV_size] <;> rfl) rfl rfl d hk
  · rw [hx, vp_cell_q] at hcell
    exact W.alen (n := Int32.ofNat n) F.1 F.2.1 hcell (h1 _) (by rw [arrV_size] <;> rfl) rfl rfl d hk
/-- an array's cell behind a store of an int -/
theorem fx_R_ast {H H' : Heap} {a n j : Nat} {x : Int32} {ak : Nat} (hR : fx_R g h H) (hs : fx_s h a = some (.inr (ak, n))) (hak : ak < 2) (hx : ak = 1 → x = 0 ∨ x = 1) (e1 : H'[a]? = some ((arrV (fx_dA g ak) n (fun i => .int (fx_i h a i))).setSlot j (.int x))) (e2 : H'.size = H.size) (e3 : ∀ q, q ≠ a → H'[q]? = H[q]?) : fx_R g (fx_wi h a j x) H' := by
  obtain ⟨hba, -, -, hbool⟩ := hR.2.2.2 a _ hs
  refine fx_R_upd hR rfl (fun _ => rfl) (fun b hb k => ?_) (fun _ _ _ => rfl) hba e2 e3 (fun y hy => ?_)
  · rw [fx_i_wi, if_neg (fun z => hb z.1)]
  · cases hs.symm.trans hy
    have ei : ∀ k, fx_i (fx_wi h a j x) a k = if k = j then x else fx_i h a k := by
      intro k
      rw [fx_i_wi]
      by_cases hk : k = j
      · rw [if_pos ⟨rfl, hk⟩, if_pos hk]
      · rw [if_neg (fun z => hk z.2), if_neg hk]
    refine ⟨?_, fun h1 k => ?_⟩
    · rw [e1, fx_ar, if_pos hak, vp_cell_i, arrV_store]
      congr 2
      funext k
      rw [ei]
      by_cases hk : k = j
      · simp [updV, hk]
      · simp [updV, hk]
    · rw [ei]
      by_cases hk : k = j
      · rw [if_pos hk]; exact hx h1
      · rw [if_neg hk]; exact hbool h1 k
theorem fx_iastore (ok : fx_ok g) {a n : Nat} {i x : Int32} (hs : fx_s h a = some (.inr (0, n))) (hin : vp_in i n) (d : decode (fx_cc M) pc = .ok (.iastore, 1)) (K : fx_X g M (pc + 1) lv st (fx_wi h a i.toNatClampNeg x) Q mc ms) : fx_X g M pc lv (.int x :: .int i :: .ref a :: st) h Q mc ms := by
  intro p e R s m args below meth c F H locs cells slots ls hR hL hc hs' hl
  obtain ⟨hba, -, hcell, -⟩ := hR.2.2.2 a _ hs
  refine W.iast F.1 F.2.1 hcell ((fx_Ty ok F.2.2.2.2.2.1 (ak := 0) rfl).1 n (fun j => .int (fx_i h a j))) (fun q => by cases q) (by show ¬ (i < 0 ∨ (arrV _ _ _).slots.size ≤ _); rw [arrV_size]; exact hin) rfl rfl d fun H1 e1 z oq => ?_
  exact K p e R s m args below meth c F H1 _ cells slots ls (fx_R_ast hR hs (by decide) (fun q => by cases q) e1 z oq) (t_lc hL hba) hc hs' hl
theorem fx_bastore (ok : fx_ok g) {a n : Nat} {i x : Int32} (hs : fx_s h a = some (.inr (1, n))) (hx : x = 0 ∨ x = 1) (hin : vp_in i n) (d : decode (fx_cc M) pc = .ok (.bastore, 1)) (K : fx_X g M (pc + 1) lv st (fx_wi h a i.toNatClampNeg x) Q mc ms) : fx_X g M pc lv (.int x :: .int i :: .ref a :: st) h Q mc ms := by
  intro p e R s m args below meth c F H locs cells slots ls hR hL hc hs' hl
  obtain ⟨hba, -, hcell, -⟩ := hR.2.2.2 a _ hs
  refine W.zast F.1 F.2.1 hcell ((fx_Ty ok F.2.2.2.2.2.1 (ak := 1) rfl).1 n (fun j => .int (fx_i h a j))) (fun q => by cases q) (by show ¬ (i < 0 ∨ (arrV _ _ _).slots.size ≤ _); rw [arrV_size]; exact hin) rfl rfl d fun H1 e1 z oq => ?_
  rw [(fx_nb hx).1] at e1
  exact K p e R s m args below meth c F H1 _ cells slots ls (fx_R_ast hR hs (by decide) (fun _ => hx) e1 z oq) (t_lc hL hba) hc hs' hl
theorem fx_lastore (ok : fx_ok g) {a n : Nat} {i x : Int32} (hs : fx_s h a = some (.inr (2, n))) (hin : vp_in i n) (d : decode (fx_cc M) pc = .ok (.lastore, 1)) (K : fx_X g M (pc + 1) lv st (fx_wi h a i.toNatClampNeg x) Q mc ms) : fx_X g M pc lv (.long x.toInt64 :: .int i :: .ref a :: st) h Q mc ms := by
  intro p e R s m args below meth c F H locs cells slots ls hR hL hc hs' hl
  obtain ⟨hba, -, hcell, -⟩ := hR.2.2.2 a _ hs
  refine W.last F.1 F.2.1 hcell ((fx_Ty ok F.2.2.2.2.2.1 (ak := 2) rfl).1 n (fun j => .long (fx_i h a j).toInt64)) (fun q => by cases q) (by show ¬ (i < 0 ∨ (arrV _ _ _).slots.size ≤ _); rw [arrV_size]; exact hin) rfl rfl d fun H1 e1 z oq => ?_
  refine K p e R s m args below meth c F H1 _ cells slots ls (fx_R_upd hR rfl (fun _ => rfl) (fun b hb k => ?_) (fun _ _ _ => rfl) hba z oq (fun y hy => ?_)) (t_lc hL hba) hc hs' hl
  · rw [fx_i_wi, if_neg (fun z => hb z.1)]
  · cases hs.symm.trans hy
    refine ⟨?_, fun q => by cases q⟩
    rw [e1]
    show some ((arrV (fx_dA g 2) n (fun j => .long (fx_i h a j).toInt64)).setSlot _ _) = some (arrV (fx_dA g 2) n (fun j => .long (fx_i (fx_wi h a i.toNatClampNeg x) a j).toInt64))
    rw [arrV_store]
    congr 2
    funext k
    rw [fx_i_wi]
    by_cases hk : k = i.toNatClampNeg
    · simp [updV, hk]
    · simp [updV, hk]
end FXH
