/-! ===== what is made: objects, arrays, exceptions ===== -/
section FXN
variable {g : fx_G} {M M' : fx_M} {pc : Nat} {lv : List (Nat × Value)} {st : List Value} {h : fx_H} {Q : fx_O → fx_H → Prop} {mc ms : Nat}
theorem fx_new (ok : fx_ok g) {idx ci N : Nat} {C : String} {T : u_T} {ty : Nat → FieldType} (hcl : fx_cl[ci]? = some (C, T, N)) (hin : ∀ w ∈ u_ws C T N, w ∈ fx_tb) (hty : ∀ j, j < N → parseFieldDescriptor (T j).2.2.1 = some (ty j))
    (hfk : ∀ j, j < N → (fx_fk ci j ≠ 2 → defaultValue (ty j) = .int 0) ∧ (fx_fk ci j = 2 → defaultValue (ty j) = .null)) (hlk : Cond.classLink (fx_y M).cls idx C ∈ fx_tb) (hinst : Cond.instantiable C N ∈ fx_tb) (hini : Cond.initialized C ∈ fx_tb)
    (d : decode (fx_cc M) pc = .ok (.new idx, 3)) (K : fx_X g M (pc + 3) lv (.ref (fx_n h) :: st) (fx_nw h (.inl ci)) Q mc ms) : fx_X g M pc lv st h Q (mc + 1) (ms + N) := by
  intro p e R s m args below meth c F H locs cells slots ls hR hL hc hs hl
  have hW := F.2.2.2.2.2.1
  have hKn := fx_Kn ok hW hcl
  have hts : ∀ w ∈ u_ws C T N, w.before args s = true := fun w hw => fx_word ok (hin w hw) (fx_lay hw) hW
  refine W.newcK F.1 F.2.1 F.2.2.2.2.2.2.1 (fx_word ok hlk (by first | rfl | simp [goodWord, Cond.onTables, Cond.keeps, Cond.steady]) hW) (fx_word ok hinst (by first | rfl | simp [goodWord, Cond.onTables, Cond.keeps, Cond.steady]) hW) (fx_word ok hini (by first | rfl | simp [goodWord, Cond.onTables, Cond.keeps, Cond.steady]) hW) rfl d (by omega) (by omega) hKn.2.1 hR.1 fun H1 kC hkC e1 z1 o1 => ?_
  refine K p e R s m args below meth c F H1 locs (cells + 1) (slots + N) ls ?_ hL (by omega) (by omega) hl
  refine fx_R_new hR (by rw [z1, hR.1]) (fun q hq => o1 q (by rw [← hR.1]; exact hq)) ⟨⟨(C, T, N), hcl, (u_born ty hts (fun w hw => hw) hKn hkC e1 hty).to (fun j hj => ?_)⟩, fun k _ => Or.inl ?_⟩
  · rw [fx_v, fx_i_nw, fx_r_nw, if_pos rfl, if_pos rfl]
    by_cases h2 : fx_fk ci j = 2
    · rw [if_pos h2]
      exact (hfk j hj).2 h2
    · rw [if_neg h2]
      exact (hfk j hj).1 h2
  · rw [fx_i_nw, if_pos rfl]
theorem fx_newa (ok : fx_ok g) {atype : ArrayType} {ak N : Nat} {n : Int32} (hak : fx_tys[ak]? = some (newarray.typeOf atype)) (hak3 : ak < 3) (hdf : ak < 2 → defaultValue (newarray.typeOf atype) = .int 0) (hdl : ak = 2 → defaultValue (newarray.typeOf atype) = .long 0) (hprim : ∀ C, newarray.typeOf atype ≠ .object C) (harr : Cond.arrayClass (newarray.typeOf atype) ∈ fx_tb)
    (hn : ¬ n < 0) (hN : n.toNatClampNeg = N) (hby : N * componentBytes (newarray.typeOf atype) ≤ 536870912) (d : decode (fx_cc M) pc = .ok (.newarray atype, 2)) (K : fx_X g M (pc + 2) lv (.ref (fx_n h) :: st) (fx_nw h (.inr (ak, N))) Q mc ms) : fx_X g M pc lv (.int n :: st) h Q (mc + 1) (ms + N) := by
  intro p e R s m args below meth c F H locs cells slots ls hR hL hc hs hl
  have hW := F.2.2.2.2.2.1
  refine va_newaK F.1 F.2.1 (fx_word ok harr rfl hW) rfl d rfl hn hN hby (by omega) (by omega) hR.1 fun H1 cA e1 z1 o1 _ hNm => ?_
  have hcA : cA = fx_dA g ak := by
    have h2 := (fx_Ty ok hW hak).2
    cases hx : newarray.typeOf atype with
    | object C => exact absurd hx (hprim C)
    | _ => rw [hx] at h2 hNm; exact Option.some.inj (hNm.symm.trans h2)
  subst hcA
  refine K p e R s m args below meth c F H1 locs (cells + 1) (slots + N) ls ?_ hL (by omega) (by omega) hl
  refine fx_R_new hR (by rw [z1, hR.1]) (fun q hq => o1 q (by rw [← hR.1]; exact hq)) ⟨?_, fun _ k => Or.inl (by rw [fx_i_nw, if_pos rfl])⟩
  rw [e1]
  by_cases h2 : ak < 2
  · rw [fx_ar, if_pos h2, vp_cell_i, hdf h2]
    congr 2
    funext k
    rw [fx_i_nw, if_pos rfl]
  · have h3 : ak = 2 := by omega
    rw [fx_ar, if_neg h2, if_pos h3, vp_cell_l, hdl h3]
    congr 2
    funext k
    rw [fx_i_nw, if_pos rfl]
    rfl
theorem fx_anew (ok : fx_ok g) {idx ak N : Nat} {C : String} {n : Int32} (hak : fx_tys[ak]? = some (.object C)) (hak3 : 3 ≤ ak) (hlk : Cond.classLink (fx_y M).cls idx C ∈ fx_tb) (hov : ∀ (args : Array Value) (s : State), (fx_s0 g).WarmedH s.vm → (Cond.arrayOver (.object C)).before args s = true)
    (hn : ¬ n < 0) (hN : n.toNatClampNeg = N) (hby : N * 4 ≤ 536870912) (d : decode (fx_cc M) pc = .ok (.anewarray idx, 3)) (K : fx_X g M (pc + 3) lv (.ref (fx_n h) :: st) (fx_nw h (.inr (ak, N))) Q mc ms) : fx_X g M pc lv (.int n :: st) h Q (mc + 1) (ms + N) := by
  intro p e R s m args below meth c F H locs cells slots ls hR hL hc hs hl
  have hW := F.2.2.2.2.2.1
  subst hN
  refine W.anew F.1 F.2.1 F.2.2.2.2.2.2.1 (fx_word ok hlk (by first | rfl | simp [goodWord, Cond.onTables, Cond.keeps, Cond.steady]) hW) (hov _ _ hW) rfl d rfl hn hby (by omega) (by omega) fun cA kA comp h1 h2 h3 h4 => ?_
  have hcA : cA = fx_dA g ak := by
    obtain ⟨kA', comp', -, -, -, h9⟩ := (fx_Ty ok hW hak).2
    exact Option.some.inj (h1.symm.trans h9)
  subst hcA
  rw [hR.1]
  refine K p e R s m args below meth c F _ locs (cells + 1) (slots + n.toNatClampNeg) ls ?_ hL (by omega) (by omega) hl
  refine fx_R_new hR (by simp) (fun q hq => by rw [Array.getElem?_push, if_neg (Nat.ne_of_lt hq)]) ⟨?_, fun z => by omega⟩
  rw [fx_ar, if_neg (by omega), if_neg (by omega), vp_cell_q, ← hR.1, Array.getElem?_push, if_pos rfl, arrV_new]
  congr 2
  funext k
  rw [fx_r_nw, if_pos hR.1]
  rfl
theorem fx_aastore (ok : fx_ok g) {a b n ak ci : Nat} {q : vw_C} {i : Int32} (hs : fx_s h a = some (.inr (ak, n))) (hak3 : 3 ≤ ak) (hty : fx_tys[ak]? = some (.object q.1)) (hb : fx_s h b = some (.inl ci)) (hq : fx_cl[ci]? = some q) (hin : vp_in i n) (d : decode (fx_cc M) pc = .ok (.aastore, 1))
    (K : fx_X g M (pc + 1) lv st (fx_wr h a i.toNatClampNeg (some b)) Q mc ms) : fx_X g M pc lv (.ref b :: .int i :: .ref a :: st) h Q mc ms := by
  intro p e R s m args below meth c F H locs cells slots ls hR hL hc hs' hl
  have hW := F.2.2.2.2.2.1
  obtain ⟨hba, -, hcell, -⟩ := hR.2.2.2 a _ hs
  have ea : fx_ar h a ak = .inr (.inr (.inr (.inr (fx_r h a)))) := by
    rw [fx_ar, if_neg (by omega), if_neg (by omega)]
  rw [ea] at hcell
  obtain ⟨⟨r, r1, cellV, g1, g2, g3, -⟩, -⟩ := (hR.2.2.2 b _ hb).2.2
  have hcls := (fx_Kn ok hW hq).2
  obtain ⟨kA, comp, k1, k2, k3, -⟩ := (fx_Ty ok hW hty).2
  have hcomp : comp = (fx_D g).1 ci := Option.some.inj (k3.symm.trans hcls.1)
  subst hcomp
  obtain ⟨kC, hkC, -⟩ := hcls.2
  have h0 : ¬ i < 0 := fun q => hin (Or.inl q)
  refine W.aast F.1 F.2.1 hcell (fun q h => by cases h) (fun h => by cases h) k1 k2 rfl hkC ⟨h0, by show _ < (arrV _ _ _).slots.size; rw [arrV_size]; exact fx_in hin⟩ g1 (fun q h => by rw [g3] at h; cases h) (by rw [g2]; exact hkC) (by rw [g2]; exact va_assign hcls) rfl rfl d fun H1 e1 z oq => ?_
  refine K p e R s m args below meth c F H1 _ cells slots ls (fx_R_upd hR rfl (fun _ => rfl) (fun _ _ _ => rfl) (fun b' hb' k => ?_) hba z oq (fun y hy => ?_)) (t_lc hL hba) hc hs' hl
  · rw [fx_r_wr, if_neg (fun z => hb' z.1)]
  · cases hs.symm.trans hy
    refine ⟨?_, fun z => by omega⟩
    rw [e1, fx_ar, if_neg (by omega), if_neg (by omega), vp_cell_q, vp_cell_q, arrV_store]
    congr 2
    funext k
    rw [fx_r_wr]
    by_cases hk : k = i.toNatClampNeg
    · simp [updV, hk, va_rf]
    · simp [updV, hk]
/-! words that speak of statics -/
theorem fx_laysS (ok : fx_ok g) {C n d : String} (hw : Cond.laysStatic C n d ∈ fx_tb) {s : State} (hW : (fx_s0 g).WarmedH s.vm) (hH : ∀ q : Nat, q < fx_b g → s.heap[q]? = (fx_s0 g).heap[q]?) {args : Array Value} : (Cond.laysStatic C n d).before args s = true := by
  obtain ⟨c, k, i, f, a, cell, hc, hi, hst, ha, hcell, hs, hcls, hlt, hty⟩ := Cond.laysStatic_spec (ok.2.1 _ hw)
  obtain ⟨k', hi', hek⟩ := State.fieldFound?_setVm hW.alike hi
  have hlt9 : a < fx_b g := (Array.getElem?_eq_some_iff.mp hcell).1
  exact Cond.laysStatic_of (s := s) (by rw [hW.alike.findClass]; exact hc) hi' hst (by rw [hek]; exact ha) (by rw [hH a hlt9]; exact hcell) hs hcls hlt (by rw [hek]; exact hty)
theorem fx_isRef {C n d : String} {v : Value} {A : Nat → Prop} {s : State} {args : Array Value} (hz : va_Z C n d v A s s.heap) (hv : v.isRef = true) : (Cond.isRef (.static C n d)).before args s = true := by
  obtain ⟨cf, kf, fi, f, a, cell, h1, h2, h3, h4, h5, h6, h7, -⟩ := hz
  have he : (Term.static C n d).eval args s none [] s = some v := by
    simp [Term.eval, State.fieldNamed?, h1, h2, h4, h5, h6, h7]
  simp only [Cond.before, Cond.holds, Cond.value, he]
  cases v <;> simp_all [Value.isRef]
theorem fx_isRefS (ok : fx_ok g) {C n d : String} (hl : Cond.laysStatic C n d ∈ fx_tb) (hi : Cond.initialized C ∈ fx_tb) (hw : Cond.isRef (.static C n d) ∈ fx_tb) {s : State} (hW : (fx_s0 g).WarmedH s.vm) (hH : ∀ q : Nat, q < fx_b g → s.heap[q]? = (fx_s0 g).heap[q]?) {args : Array Value} : (Cond.isRef (.static C n d)).before args s = true := by
  have h0 : va_Zq C n d (fun q => fx_b g ≤ q) (fx_s0 g) (fx_s0 g).heap := va_Zqof (ok.2.1 _ hl) (ok.2.1 _ hi) (ok.2.1 _ hw) (fun a ha => Nat.not_le.mpr ha)
  have h1 : va_Zq C n d (fun q => fx_b g ≤ q) s s.heap := (h0.moved hW.alike).kept (fun a ha _ => hH a ha)
  rcases h1 with h1 | ⟨t, h1⟩
  · exact fx_isRef h1 rfl
  · exact fx_isRef h1 rfl
theorem fx_cast (ok : fx_ok g) {A B : String} (hw : Cond.castable A B ∈ fx_tb) {s : State} (hW : (fx_s0 g).WarmedH s.vm) {args : Array Value} : (Cond.castable A B).before args s = true := by
  obtain ⟨c3, c4, hc3, hc4, hasg⟩ := Cond.castable_spec (ok.2.1 _ hw)
  have h1 : s.vm.findClass A = some c3 := by rw [hW.alike.findClass]; exact hc3
  have h2 : s.vm.findClass B = some c4 := by rw [hW.alike.findClass]; exact hc4
  have h3 : s.vm.assignable c3 c4 = true := by rw [hW.alike.assignable]; exact hasg
  simp [Cond.before, Cond.holds, Cond.value, h1, h2, h3]
/-- the words of 'throw new E()', each in the tables, and how it is carried to a later state -/
def fx_tw (w : Cond) : Prop := w ∈ fx_tb ∧ (goodWord w = true ∨ (∃ A B, w = .castable A B) ∨ (∃ C n d, w = .laysStatic C n d) ∨ ∃ C n d, w = .isRef (.static C n d) ∧ Cond.laysStatic C n d ∈ fx_tb ∧ Cond.initialized C ∈ fx_tb)
theorem fx_tw_at (ok : fx_ok g) {w : Cond} (hw : fx_tw w) {s : State} (hW : (fx_s0 g).WarmedH s.vm) (hH : ∀ q : Nat, q < fx_b g → s.heap[q]? = (fx_s0 g).heap[q]?) {args : Array Value} : w.before args s = true := by
  obtain ⟨h1, h2 | ⟨A, B, rfl⟩ | ⟨C, n, d, rfl⟩ | ⟨C, n, d, rfl, h3, h4⟩⟩ := hw
  · exact fx_word ok h1 h2 hW
  · exact fx_cast ok h1 hW
  · exact fx_laysS ok h1 hW hH
  · exact fx_isRefS ok h3 h4 h1 hW hH
/-- the same frame, as if its method had been called in the heap of now -/
theorem fx_here {p : Program} {l : Launch} {e : Env} {R R' : Room} {s T : State} {m : MethodId} {args : Array Value} {below : List Frame} {meth : Method} {c : Code} {locs : List Loc} {cells slots : Nat} (X : Stand p l e R s m args below meth c T locs cells slots)
    (h1 : R'.frames ≤ R.frames) (h2 : R'.locals ≤ R.locals) (h3 : cells + R'.cells ≤ R.cells) (h4 : slots + R'.slots ≤ R.slots) : Stand p l e R' ((T.setVm s.vm).setFrames (.invoking m args :: below)) m args below meth c T [] 0 0 := by
  have htop : (T.setVm s.vm).topJava?.isSome := X.here.top
  have hF : ((T.setVm s.vm).setFrames (.invoking m args :: below)).frames = .invoking m args :: below := State.frames_setFrames _ (State.cur_lt_of_top htop)
  obtain ⟨g0, hg0⟩ := Option.isSome_iff_exists.mp htop
  obtain ⟨r, hr⟩ := State.topJava?_eq_some.mp hg0
  have hlim : e.platform.stackLimits (T.setVm s.vm).me = e.platform.stackLimits s.me := X.limits
  have hbyt : (T.setVm s.vm).me.stackBytes = s.me.stackBytes := X.bytes
  have hnil : T.heap.toList.drop T.heap.size = [] := List.drop_eq_nil_of_le (Nat.le_of_eq Array.length_toList)
  refine ⟨X.admits, X.cas, X.clock, hF, ?_, X.hears, X.method, X.code, X.here, X.tail, X.warmed, by rw [State.stackLimits_setFrames]; rfl, by rw [State.stackBytes_setFrames]; rfl, ?_⟩
  · have hU : ((T.setVm s.vm).setFrames (.invoking m args :: below)).localsInUse = s.localsInUse := by
      rw [State.localsInUse_invoking hF (meth := meth) (c := c) X.method X.code, State.localsInUse_invoking X.frames X.method X.code]
    have hroom := X.room
    simp only [State.hasRoom, Bool.and_eq_true, decide_eq_true_eq] at hroom ⊢
    obtain ⟨⟨⟨⟨k1, k2, k3, k4, k5, k6⟩, k7⟩, k8⟩, k9⟩ := hroom
    rw [X.frames, List.length_cons] at k2 k3
    have q1 := X.heapSize
    have q2 := X.used
    simp only [hF, hU, List.length_cons, State.stackLimits_setFrames, State.stackBytes_setFrames, hlim, hbyt]
    refine ⟨⟨⟨⟨by omega, by omega, by omega, by omega, by omega, k6⟩, ?_⟩, ?_⟩, X.book⟩
    · show T.heap.size + R'.cells ≤ e.platform.maxCells
      omega
    · show T.slotsUsed + R'.slots ≤ e.platform.maxSlots
      omega
  · refine ⟨?_, Nat.le_refl _, Nat.le_refl _, ?_, ?_, fun a c9 h9 => ⟨c9, h9, rfl, rfl, fun _ _ => rfl⟩⟩
    · obtain ⟨t, ht, -⟩ := State.frames_cons hr
      show T.setVm s.vm = { ((T.setVm s.vm).setFrames (.invoking m args :: below)).setFrames (T.setVm s.vm).frames with heap := T.heap, slotsUsed := T.slotsUsed }
      rw [State.setFrames_setFrames, State.setFrames_self ht]
      rfl
    · show T.slotsUsed = T.slotsUsed + ((T.heap.toList.drop T.heap.size).map (·.slots.size)).sum
      rw [hnil]; rfl
    · show ((T.heap.toList.drop T.heap.size).map (·.slots.size)).sum ≤ 0
      rw [hnil]; exact Nat.le_refl _
theorem fx_same0 {s U : State} {k n : Nat} (h : s.sameButNew ({ U with vm := s.vm } : State) [] k n) : ∀ q : Nat, q < s.heap.size → U.heap[q]? = s.heap[q]? := by
  obtain ⟨-, -, -, -, -, h6⟩ := h
  intro q hq
  obtain ⟨c9, e1, e2, e3, e4⟩ := h6 q _ (Array.getElem?_eq_getElem hq)
  have hs : c9.slots = (s.heap[q]).slots := Array.ext_getElem? fun i => e4 i (fun hm => nomatch hm)
  have h9 : c9 = s.heap[q] := by
    rw [hs] at e2
    exact e2
  have e5 : U.heap[q]? = some c9 := e1
  rw [e5, h9, Array.getElem?_eq_getElem hq]
theorem fx_throw0 (ok : fx_ok g) {ik ic : Nat} {cls : String} {names : List String} (hcls : Bundle.fit cls = true) (hnames : ∀ n ∈ names, Bundle.fit n = true) (hk : Cond.classLink (fx_y M).cls ik cls ∈ fx_tb) (hini : Cond.initialized cls ∈ fx_tb)
    (hat : ∀ w ∈ Bundle.ownAtoms0 (fx_y M).cls ic cls names, fx_tw w) (d0 : decode (fx_cc M) pc = .ok (.new ik, 3)) (d3 : decode (fx_cc M) (pc + 3) = .ok (.dup, 1)) (d4 : decode (fx_cc M) (pc + 4) = .ok (.invokespecial ic, 3)) (d7 : decode (fx_cc M) (pc + 7) = .ok (.athrow, 1))
    (hfr : names.length + 3 < fx_lv M) (hlo : (st.map fun v => v.category).sum + (13 * (names.length + 1) + 42) ≤ fx_lw M) (hh : fx_hd M = []) (hq : Q (.inr cls) (fx_sk h 1)) : fx_X g M pc lv st h Q (mc + 1) (ms + 6) := by
  intro p e R s m args below meth c F H locs cells slots ls hR hL hc hs hl T hT X
  have hW := F.2.2.2.2.2.1
  have hF1 := F.2.2.2.2.2.2.2.2.2.1
  have hF2 := F.2.2.2.2.2.2.2.2.2.2
  have hown := F.2.2.2.2.2.2.1
  have htr : e.platform.stackTraces = false := (show e.platform.stackTraces = (fx_l g).stackTraces by rw [X.admits.platform]).trans ok.1
  have Y := fx_here X (R' := { frames := R.frames, cells := 1, slots := 6, locals := R.locals }) (Nat.le_refl _) (Nat.le_refl _) (show cells + 1 ≤ R.cells by omega) (show slots + 6 ≤ R.slots by omega)
  obtain ⟨s', hA⟩ : ∃ z, z = (T.setVm s.vm).setFrames (.invoking m args :: below) := ⟨_, rfl⟩
  rw [← hA] at Y
  have hvm : s'.vm = s.vm := by rw [hA]; rfl
  have hhp : s'.heap = H := by rw [hA]; exact hT
  have hW' : (fx_s0 g).WarmedH s'.vm := by rw [hvm]; exact hW
  have hH' : ∀ q : Nat, q < fx_b g → s'.heap[q]? = (fx_s0 g).heap[q]? := by rw [hhp]; exact hR.2.2.1
  have hwd : ∀ w ∈ Bundle.ownAtoms0 (fx_y M).cls ic cls names, w.before args s' = true := fun w hw => fx_tw_at ok (hat w hw) hW' hH'
  have hown' : s'.vm.findClass (fx_y M).cls = some m.cls := by rw [hvm]; exact hown
  have hins : (Cond.instantiable cls 6).before args s' = true := hwd _ (by simp [Bundle.ownAtoms0])
  obtain ⟨vm₁, cX, kX, hfX, hkX, -, -, X₁, st1⟩ := Y.newCold F.1 (own := (fx_y M).cls) (C := cls) (index := ik) (n := 6) hown' (fx_word ok hk (by first | rfl | simp [goodWord, Cond.onTables, Cond.keeps, Cond.steady]) hW') hins (fx_word ok hini (by first | rfl | simp [goodWord, Cond.onTables, Cond.keeps, Cond.steady]) hW')
    (g := F0 m pc ls st) rfl (by rw [F.2.1]; exact d0) (Nat.le_refl _) (Nat.le_refl _)
  generalize hT1 : (T.setVm vm₁).pushCell { cls := cX, slots := kX.instanceTypes.map defaultValue, vm := .none } = T1 at X₁ st1
  have hcellA : T1.heap[T.heap.size]? = some (freshCell cX kX) := by rw [← hT1]; exact State.heap_pushCell_size _ _
  have d3' : decode c.code (pc + 3) = .ok (.dup, 1) := by rw [F.2.1]; exact d3
  have hcat : (Value.ref T.heap.size).category = 1 := rfl
  have hrows : fx_rows c = [] := F.2.2.2.2.2.2.2.2.1.trans hh
  have hout : ∀ x ∈ c.exceptionTable.toList, covers x (pc + 7) = false := by
    intro x hx
    have h9 : (x.startPc, x.endPc, x.handlerPc, x.catchType) ∈ fx_rows c := List.mem_map.mpr ⟨x, hx, rfl⟩
    rw [hrows] at h9
    exact nomatch h9
  have hsz : ls.size = c.maxLocals := hl.1.trans F.2.2.1.symm
  obtain ⟨U, hsteps, hrun, hend, hW9, hsame, ce, hce, hO⟩ := X₁.ctorThrow0 F.1 htr (own := (fx_y M).cls) (cls := cls) (names := names) (ic := ic) hown' hcls hnames hwd (fun x hx => nomatch hx) hfX hkX hcellA (by rw [hhp, hT]; exact Nat.le_refl _)
    (g := { method := m, pc := pc + 4, locals := ls, stack := .ref T.heap.size :: .ref T.heap.size :: st, locked := none }) rfl hsz rfl rfl (rest := st) rfl
    (by rw [F.2.1]; exact d4) (by rw [F.2.1]; exact d7) hout (show names.length + 3 < R.frames by omega) (by simp only [List.map_cons, List.sum_cons, hcat]; show 2 * 0 + _ + _ ≤ R.locals; omega) F.2.2.2.2.1
  have f2 := fx_same0 hsame
  have f1 : U.heap.size = H.size + 1 := by
    have a1 : U.heap.size ≤ s'.heap.size + (0 + 1) := hsame.2.2.1
    have a2 : T.heap.size < U.heap.size := (Array.getElem?_eq_some_iff.mp hce).1
    rw [hhp] at a1
    rw [hT] at a2
    omega
  rw [hhp] at f2
  have hWs : s.WarmedH U.vm := by
    have h9 : s'.WarmedH U.vm := hW9
    have h8 : s.WarmedH s'.vm := by rw [hvm]; exact State.WarmedH.refl s
    exact State.WarmedH.trans h8 h9
  have hcl : s.vm.findClass cls = some ce.cls := by
    have h9 := hO.cls
    rw [hvm] at h9
    exact h9
  have hall : s.sameButNew ({ U with vm := s.vm } : State) locs R.cells R.slots := by
    subst hA
    obtain ⟨e1, e2⟩ := hsame
    rw [State.setFrames_setFrames] at e1
    have h2 : (T.setVm s.vm).sameButNew ({ U with vm := s.vm } : State) [] (0 + 1) (0 + 6) := ⟨e1, e2⟩
    have h3 := X.same.trans h2
    rw [List.append_nil] at h3
    exact h3.mono (by omega) (by omega)
  refine ⟨U, ?_, .threw T.heap.size, hrun, hend, locs, hWs, hall, hL, .inr cls, fx_sk h 1, hq, fx_R_skip hR f1 f2, T.heap.size, ce, rfl, hce, hO.vm, hcl⟩
  refine st1 _ ?_
  show Steps p.tables e below (T1.setTop { method := m, pc := pc + 3, locals := ls, stack := .ref T.heap.size :: st, locked := none }) _
  jvm_step X₁.here [X₁.here.top, F.1, d3', Value.category]
  exact hsteps
end FXN
