/-! ===== the heap as functions: ints, references, shapes, the next address ===== -/
abbrev fx_H : Type := (Nat → Nat → Int32) × (Nat → Nat → Option Nat) × (Nat → Option (Nat ⊕ (Nat × Nat))) × Nat
def fx_i (h : fx_H) (a k : Nat) : Int32 := h.1 a k
def fx_r (h : fx_H) (a k : Nat) : Option Nat := h.2.1 a k
def fx_s (h : fx_H) (a : Nat) : Option (Nat ⊕ (Nat × Nat)) := h.2.2.1 a
def fx_n (h : fx_H) : Nat := h.2.2.2
def fx_wi (h : fx_H) (a k : Nat) (v : Int32) : fx_H := (fun b j => if b = a ∧ j = k then v else h.1 b j, h.2)
def fx_wr (h : fx_H) (a k : Nat) (v : Option Nat) : fx_H := (h.1, fun b j => if b = a ∧ j = k then v else h.2.1 b j, h.2.2)
def fx_nw (h : fx_H) (x : Nat ⊕ (Nat × Nat)) : fx_H := (fun b j => if b = h.2.2.2 then 0 else h.1 b j, fun b j => if b = h.2.2.2 then none else h.2.1 b j, fun b => if b = h.2.2.2 then some x else h.2.2.1 b, h.2.2.2 + 1)
def fx_sk (h : fx_H) (n : Nat) : fx_H := (h.1, h.2.1, h.2.2.1, h.2.2.2 + n)
/-- System.arraycopy of ints -/
def fx_cp (h : fx_H) (a b sp dp n : Nat) : fx_H := (fun q j => if q = b then va_cpy (h.1 a) (h.1 b) sp dp n j else h.1 q j, h.2)
theorem fx_i_wi (h : fx_H) (a k b j : Nat) (v : Int32) : fx_i (fx_wi h a k v) b j = if b = a ∧ j = k then v else fx_i h b j := rfl
theorem fx_r_wi (h : fx_H) (a k b j : Nat) (v : Int32) : fx_r (fx_wi h a k v) b j = fx_r h b j := rfl
theorem fx_s_wi (h : fx_H) (a k b : Nat) (v : Int32) : fx_s (fx_wi h a k v) b = fx_s h b := rfl
theorem fx_n_wi (h : fx_H) (a k : Nat) (v : Int32) : fx_n (fx_wi h a k v) = fx_n h := rfl
theorem fx_r_wr (h : fx_H) (a k b j : Nat) (v : Option Nat) : fx_r (fx_wr h a k v) b j = if b = a ∧ j = k then v else fx_r h b j := rfl
theorem fx_i_wr (h : fx_H) (a k b j : Nat) (v : Option Nat) : fx_i (fx_wr h a k v) b j = fx_i h b j := rfl
theorem fx_s_wr (h : fx_H) (a k b : Nat) (v : Option Nat) : fx_s (fx_wr h a k v) b = fx_s h b := rfl
theorem fx_n_wr (h : fx_H) (a k : Nat) (v : Option Nat) : fx_n (fx_wr h a k v) = fx_n h := rfl
theorem fx_i_nw (h : fx_H) (x : Nat ⊕ (Nat × Nat)) (b j : Nat) : fx_i (fx_nw h x) b j = if b = fx_n h then 0 else fx_i h b j := rfl
theorem fx_r_nw (h : fx_H) (x : Nat ⊕ (Nat × Nat)) (b j : Nat) : fx_r (fx_nw h x) b j = if b = fx_n h then none else fx_r h b j := rfl
theorem fx_s_nw (h : fx_H) (x : Nat ⊕ (Nat × Nat)) (b : Nat) : fx_s (fx_nw h x) b = if b = fx_n h then some x else fx_s h b := rfl
theorem fx_n_nw (h : fx_H) (x : Nat ⊕ (Nat × Nat)) : fx_n (fx_nw h x) = fx_n h + 1 := rfl
theorem fx_i_sk (h : fx_H) (n b j : Nat) : fx_i (fx_sk h n) b j = fx_i h b j := rfl
theorem fx_r_sk (h : fx_H) (n b j : Nat) : fx_r (fx_sk h n) b j = fx_r h b j := rfl
theorem fx_s_sk (h : fx_H) (n b : Nat) : fx_s (fx_sk h n) b = fx_s h b := rfl
theorem fx_n_sk (h : fx_H) (n : Nat) : fx_n (fx_sk h n) = fx_n h + n := rfl
theorem fx_i_cp (h : fx_H) (a b sp dp n q j : Nat) : fx_i (fx_cp h a b sp dp n) q j = if q = b then va_cpy (fx_i h a) (fx_i h b) sp dp n j else fx_i h q j := rfl
theorem fx_r_cp (h : fx_H) (a b sp dp n q j : Nat) : fx_r (fx_cp h a b sp dp n) q j = fx_r h q j := rfl
theorem fx_s_cp (h : fx_H) (a b sp dp n q : Nat) : fx_s (fx_cp h a b sp dp n) q = fx_s h q := rfl
theorem fx_n_cp (h : fx_H) (a b sp dp n : Nat) : fx_n (fx_cp h a b sp dp n) = fx_n h := rfl
/-! ===== the fixed point of view: launch, the law's first state and arguments, the classes' numbers and slots, the arrays' classes ===== -/
abbrev fx_G : Type := Launch × State × Array Value × va_G × (Nat → ClassId)
abbrev fx_l (g : fx_G) : Launch := g.1
abbrev fx_s0 (g : fx_G) : State := g.2.1
abbrev fx_a0 (g : fx_G) : Array Value := g.2.2.1
abbrev fx_D (g : fx_G) : va_G := g.2.2.2.1
abbrev fx_dA (g : fx_G) : Nat → ClassId := g.2.2.2.2
abbrev fx_b (g : fx_G) : Nat := g.2.1.heap.size
/-- what a slot of an object holds -/
def fx_v (h : fx_H) (ci a k : Nat) : Value := if fx_fk ci k = 2 then va_rf (fx_r h a k) else .int (fx_i h a k)
def fx_ar (h : fx_H) (a ak : Nat) : (Nat → Int32) ⊕ (Nat → Int64) ⊕ (Nat → UInt32) ⊕ (Nat → UInt64) ⊕ (Nat → Option Nat) := if ak < 2 then .inl (fx_i h a) else if ak = 2 then .inr (.inl (fun j => (fx_i h a j).toInt64)) else .inr (.inr (.inr (.inr (fx_r h a))))
def fx_c (g : fx_G) (h : fx_H) (H : Heap) (a : Nat) (x : Nat ⊕ (Nat × Nat)) : Prop := match x with
  | .inl ci => (∃ r : vw_C, fx_cl[ci]? = some r ∧ t_OB a ((fx_D g).1 ci) r.2.2 ((fx_D g).2 ci) H (fx_v h ci a)) ∧ ∀ k, fx_fk ci k = 1 → fx_i h a k = 0 ∨ fx_i h a k = 1
  | .inr (ak, n) => H[a]? = some (vp_cell (fx_dA g ak) (n, fx_ar h a ak)) ∧ (ak = 1 → ∀ k, fx_i h a k = 0 ∨ fx_i h a k = 1)
/-- the machine's heap H is what h says -/
def fx_R (g : fx_G) (h : fx_H) (H : Heap) : Prop := H.size = fx_n h ∧ fx_b g ≤ fx_n h ∧ (∀ q : Nat, q < fx_b g → H[q]? = (fx_s0 g).heap[q]?) ∧ ∀ (a : Nat) (x : Nat ⊕ (Nat × Nat)), fx_s h a = some x → fx_b g ≤ a ∧ a < fx_n h ∧ fx_c g h H a x
/-- what is given of the start -/
def fx_ok (g : fx_G) : Prop := (fx_l g).stackTraces = false ∧ (∀ w ∈ fx_tb, w.before (fx_a0 g) (fx_s0 g) = true) ∧ (∀ (c : Nat) (q : vw_C), fx_cl[c]? = some q → u_Kn (fx_s0 g) q.1 q.2.1 q.2.2 ((fx_D g).1 c) ((fx_D g).2 c)) ∧ ∀ (ak : Nat) (ty : FieldType), fx_tys[ak]? = some ty → ArrOfT (fx_s0 g) (fx_dA g ak) ty ∧ va_RA (fx_s0 g) (fx_dA g ak) ty
/-- a method: its name, its bytes, its locals, its answer's type, how many frames its calls nest and how many words they take, its table of handlers -/
abbrev fx_M : Type := MethodName × ByteArray × Nat × Option FieldType × (Nat × Nat) × List (Nat × Nat × Nat × Nat)
abbrev fx_y (M : fx_M) : MethodName := M.1
abbrev fx_cc (M : fx_M) : ByteArray := M.2.1
abbrev fx_ml (M : fx_M) : Nat := M.2.2.1
abbrev fx_rt (M : fx_M) : Option FieldType := M.2.2.2.1
abbrev fx_lv (M : fx_M) : Nat := M.2.2.2.2.1.1
abbrev fx_lw (M : fx_M) : Nat := M.2.2.2.2.1.2
abbrev fx_hd (M : fx_M) : List (Nat × Nat × Nat × Nat) := M.2.2.2.2.2
def fx_cw (M : fx_M) : Cond := match fx_hd M with
  | [] => .code (fx_y M) (fx_cc M) (fx_ml M) (fx_rt M)
  | _ :: _ => .codeWith (fx_y M) (fx_cc M) (fx_ml M) (fx_rt M) (fx_hd M)
def fx_rows (c : Code) : List (Nat × Nat × Nat × Nat) := c.exceptionTable.toList.map (fun h => (h.startPc, h.endPc, h.handlerPc, h.catchType))
/-- how a method ends: an int, nothing, or an exception of the class of that name -/
abbrev fx_O : Type := Option Int32 ⊕ String
def fx_oc (U t : State) (o : Outcome) (o' : fx_O) : Prop := match o' with
  | .inl v => o = .returned (v.map Value.int)
  | .inr E => ∃ (q : Addr) (ce : Cell), o = .threw q ∧ t.heap[q]? = some ce ∧ ce.vm = .none ∧ U.vm.findClass E = some ce.cls
def fx_P (g : fx_G) (Q : fx_O → fx_H → Prop) (mc ms : Nat) (U : State) (o : Outcome) (t : State) : Prop :=
  ∃ L : List Loc, U.WarmedH t.vm ∧ U.sameButNew ({ t with vm := U.vm } : State) L mc ms ∧ (∀ z ∈ L, fx_b g ≤ z.base) ∧ ∃ (o' : fx_O) (h' : fx_H), Q o' h' ∧ fx_R g h' t.heap ∧ fx_oc U t o o'
def fx_rm (M : fx_M) (mc ms : Nat) : Room := { frames := fx_lv M, cells := mc, slots := ms, locals := fx_lw M }
/-- a method's contract: from the heap h, with the arguments as, it ends so that Q; at most mc cells of ms slots are new -/
def fx_C (g : fx_G) (M : fx_M) (as : List Value) (h : fx_H) (Q : fx_O → fx_H → Prop) (mc ms : Nat) : Prop :=
  MetFree (fx_l g) (fx_y M) (headSpec [fx_cw M] (fx_rm M mc ms)) (fun a U => a = as.toArray ∧ (fx_s0 g).WarmedH U.vm ∧ fx_R g h U.heap) (fun _ _ _ _ _ => True) (fun _ U o t => fx_P g Q mc ms U o t)
/-- what holds of a frame of the method M -/
def fx_F (g : fx_G) (M : fx_M) (p : Program) (R : Room) (s : State) (m : MethodId) (meth : Method) (c : Code) : Prop :=
  p.tables.exec = Jvm.exec ∧ c.code = fx_cc M ∧ c.maxLocals = fx_ml M ∧ meth.sig.returnType = fx_rt M ∧ meth.locks = false ∧ (fx_s0 g).WarmedH s.vm ∧ s.vm.findClass (fx_y M).cls = some m.cls ∧ meth.name = (fx_y M).name ∧ fx_rows c = fx_hd M ∧ fx_lv M ≤ R.frames ∧ fx_lw M ≤ R.locals
def fx_E (g : fx_G) (Q : fx_O → fx_H → Prop) (R : Room) (s : State) (below : List Frame) : State → Prop := fun t => ∃ o, t.status = .running ∧ Ended t below o ∧ fx_P g Q R.cells R.slots s o t
/-- the method M stands at pc with locals lv, stack st, heap h, and may still make mc cells of ms slots: it comes to its end with Q -/
def fx_X (g : fx_G) (M : fx_M) (pc : Nat) (lv : List (Nat × Value)) (st : List Value) (h : fx_H) (Q : fx_O → fx_H → Prop) (mc ms : Nat) : Prop :=
  ∀ (p : Program) (e : Env) (R : Room) (s : State) (m : MethodId) (args : Array Value) (below : List Frame) (meth : Method) (c : Code), fx_F g M p R s m meth c →
  ∀ (H : Heap) (locs : List Loc) (cells slots : Nat) (ls : Array Slot), fx_R g h H → (∀ z ∈ locs, fx_b g ≤ z.base) → cells + mc ≤ R.cells → slots + ms ≤ R.slots → lv_has ls (fx_ml M) lv →
  W p (fx_l g) e R s m args below meth c H locs cells slots (fx_E g Q R s below) (F0 m pc ls st)
/-! ===== words ===== -/
theorem fx_word {g : fx_G} (ok : fx_ok g) {w : Cond} (hw : w ∈ fx_tb) (hg : goodWord w = true) {args : Array Value} {s : State} (hW : (fx_s0 g).WarmedH s.vm) : w.before args s = true := word_at hW (good_of_word hg) (ok.2.1 w hw)
theorem fx_Kn {g : fx_G} (ok : fx_ok g) {s : State} (hW : (fx_s0 g).WarmedH s.vm) {ci : Nat} {q : vw_C} (hq : fx_cl[ci]? = some q) : u_Kn s q.1 q.2.1 q.2.2 ((fx_D g).1 ci) ((fx_D g).2 ci) := u_Kn_moved hW.alike (ok.2.2.1 ci q hq)
theorem fx_Ty {g : fx_G} (ok : fx_ok g) {s : State} (hW : (fx_s0 g).WarmedH s.vm) {ak : Nat} {ty : FieldType} (hq : fx_tys[ak]? = some ty) : ArrOfT s (fx_dA g ak) ty ∧ va_RA s (fx_dA g ak) ty := ⟨arrOfT_moved hW.alike (ok.2.2.2 ak ty hq).1, (ok.2.2.2 ak ty hq).2.moved hW.alike⟩
theorem fx_lay {C : String} {T : u_T} {N : Nat} {w : Cond} (h : w ∈ u_ws C T N) : goodWord w = true := by
  obtain ⟨k, -, rfl⟩ := List.mem_map.mp h
  unfold u_lay
  split <;> rfl
theorem fx_cw_spec {M : fx_M} {s : State} {args : Array Value} {m : MethodId} (hn : s.methodNamed? (fx_y M) = some m) (h : (fx_cw M).before args s = true) :
    ∃ meth c, s.vm.method? m = some meth ∧ meth.code = some c ∧ c.code = fx_cc M ∧ c.maxLocals = fx_ml M ∧ meth.sig.returnType = fx_rt M ∧ meth.locks = false ∧ fx_rows c = fx_hd M ∧ parseMethodDescriptor (fx_y M).desc = some meth.sig := by
  obtain ⟨y, cc, ml, rt, lev, hd⟩ := M
  cases hd with
  | nil =>
    obtain ⟨meth, c, h1, h2, h3, h4, h5, h6, h7, h8⟩ := Cond.code_spec hn (show (Cond.code y cc ml rt).before args s = true from h)
    refine ⟨meth, c, h1, h2, h3, h4, h5, h6, ?_, h8⟩
    have h9 : c.exceptionTable = #[] := Array.isEmpty_iff.mp h7
    show fx_rows c = []
    rw [fx_rows, h9]
    rfl
  | cons a l =>
    have h' : (Cond.codeWith y cc ml rt (a :: l)).before args s = true := h
    have hn' : s.methodNamed? y = some m := hn
    simp only [Cond.before, Cond.holds, Cond.value, hn', Option.bind_some] at h'
    cases hm : s.vm.method? m with
    | none => simp [hm] at h'
    | some meth =>
      simp only [hm, Option.map_some, beq_iff_eq, Option.some.injEq, Bool.and_eq_true, decide_eq_true_eq, Bool.not_eq_true'] at h'
      obtain ⟨⟨⟨hc, hr⟩, hl⟩, hsig⟩ := h'
      cases hcode : meth.code with
      | none => simp [hcode] at hc
      | some c =>
        simp only [hcode, Option.any_some, Bool.and_eq_true, decide_eq_true_eq, beq_iff_eq] at hc
        exact ⟨meth, c, rfl, hcode, hc.1.1.1, hc.1.1.2, hr, hl, hc.1.2, hsig⟩
/-! ===== a contract out of a walk ===== -/
theorem fx_body {g : fx_G} {M : fx_M} {as : List Value} {h : fx_H} {Q : fx_O → fx_H → Prop} {mc ms : Nat} (hp : plainName (fx_y M).cls = true) (ha : (lg_sl as).length ≤ fx_ml M)
    (k : fx_X g M 0 (lv_args 0 as) [] h Q mc ms) : fx_C g M as h Q mc ms := by
  refine MetFree.of_bodyS (code := fx_cc M) (maxLocals := fx_ml M) (ret := fx_rt M) hp ?_ ?_
  · intro args s m hpre hn
    have hw : (fx_cw M).before args s = true := atoms_spec (ws := [fx_cw M]) hpre _ List.mem_cons_self
    obtain ⟨meth, c, h1, h2, h3, h4, h5, h6, -, -⟩ := fx_cw_spec hn hw
    exact ⟨meth, c, h1, h2, h3, h4, h5, h6⟩
  · intro p e s m args below meth c s₁ B hml hP _
    obtain ⟨rfl, hW, hR⟩ := hP
    have X := Stand.of_body B
    have hw : (fx_cw M).before as.toArray s = true := atoms_spec (ws := [fx_cw M]) B.pre _ List.mem_cons_self
    obtain ⟨meth', c', h1, h2, -, -, -, -, h7, -⟩ := fx_cw_spec B.named hw
    cases h1.symm.trans B.method
    cases h2.symm.trans X.code
    have hh0 : s₁.heap = s.heap := by rw [B.state]; rfl
    have hl := lv_entry as ha
    have F : fx_F g M p (headSpec [fx_cw M] (fx_rm M mc ms)).room s m meth c :=
      ⟨B.exec, B.bytes, hml, B.returns, B.notSynchronized, hW, findClass_of_methodNamed B.named, (name_of_methodNamed B.named B.method).1, h7, Nat.le_refl _, Nat.le_refl _⟩
    obtain ⟨t, st, o, hrun, hend, hpost⟩ := k p e _ s m as.toArray below meth c F s.heap [] 0 0 _ hR (fun z hz => nomatch hz) (by rw [Nat.zero_add]; exact Nat.le_refl _) (by rw [Nat.zero_add]; exact Nat.le_refl _) hl s₁ hh0 X
    rw [← lg_entry_eq] at st
    exact ⟨t, o, st, hrun, hend, hpost⟩
theorem fx_C_mono {g : fx_G} {M : fx_M} {as : List Value} {h : fx_H} {Q Q' : fx_O → fx_H → Prop} {mc ms : Nat} (hC : fx_C g M as h Q mc ms) (hq : ∀ o k, Q o k → Q' o k) : fx_C g M as h Q' mc ms := by
  intro p e a1 a2 a3 s m args below a4 a5 a6 a7
  obtain ⟨n, o, b1, b2, b3, L, c1, c2, c3, o', h', c4, c5⟩ := hC p e a1 a2 a3 s m args below a4 a5 a6 a7
  exact ⟨n, o, b1, b2, b3, L, c1, c2, c3, o', h', hq _ _ c4, c5⟩
theorem fx_X_mono {g : fx_G} {M : fx_M} {pc : Nat} {lv : List (Nat × Value)} {st : List Value} {h : fx_H} {Q Q' : fx_O → fx_H → Prop} {mc ms : Nat} (hC : fx_X g M pc lv st h Q mc ms) (hq : ∀ o k, Q o k → Q' o k) : fx_X g M pc lv st h Q' mc ms := by
  intro p e R s m args below meth c F H locs cells slots ls hR hL hc hs hl T hT X
  obtain ⟨t, st, o, b2, b3, L, c1, c2, c3, o', h', c4, c5⟩ := hC p e R s m args below meth c F H locs cells slots ls hR hL hc hs hl T hT X
  exact ⟨t, st, o, b2, b3, L, c1, c2, c3, o', h', hq _ _ c4, c5⟩
