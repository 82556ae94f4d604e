/-! ===== how a method ends; calls ===== -/
section FXC
variable {g : fx_G} {M M' : fx_M} {pc : Nat} {lv : List (Nat × Value)} {st : List Value} {h : fx_H} {Q : fx_O → fx_H → Prop} {mc ms : Nat}
theorem fx_of_MQ {p : Program} {e : Env} {R : Room} {s : State} {m : MethodId} {args : Array Value} {below : List Frame} {meth : Method} {c : Code} {H : Heap} {locs : List Loc} {cells slots : Nat} {gf : JFrame}
    (hw : W p (fx_l g) e R s m args below meth c H locs R.cells R.slots (MQ below (fun _ U o t => ∃ (o' : fx_O) (h' : fx_H), Q o' h' ∧ fx_R g h' t.heap ∧ fx_oc U t o o') args s R.cells R.slots (fun q => fx_b g ≤ q)) gf) (hc : cells ≤ R.cells) (hs : slots ≤ R.slots) :
    W p (fx_l g) e R s m args below meth c H locs cells slots (fx_E g Q R s below) gf := by
  intro T hT X
  obtain ⟨t, st, o, h1, h2, h3, L, ⟨h4, h5, h6⟩, h7⟩ := W.widen hc hs hw T hT X
  exact ⟨t, st, o, h1, h2, L, h5, h6, h7, h3⟩
theorem fx_ireturn {x : Int32} (hr : fx_rt M = some .int) (d : decode (fx_cc M) pc = .ok (.ireturn, 1)) (hq : Q (.inl (some x)) h) : fx_X g M pc lv [.int x] h Q mc ms := by
  intro p e R s m args below meth c F H locs cells slots ls hR hL hc hs hl
  exact fx_of_MQ (W.iret F.1 F.2.1 (F.2.2.2.1.trans hr) (fun t ht _ => ⟨.inl (some x), h, hq, by rw [ht]; exact hR, rfl⟩) hL d F.2.2.2.2.1) (Nat.le_trans (Nat.le_add_right _ _) hc) (Nat.le_trans (Nat.le_add_right _ _) hs)
theorem fx_zreturn {x : Int32} (hr : fx_rt M = some .boolean) (hx : x = 0 ∨ x = 1) (d : decode (fx_cc M) pc = .ok (.ireturn, 1)) (hq : Q (.inl (some x)) h) : fx_X g M pc lv [.int x] h Q mc ms := by
  intro p e R s m args below meth c F H locs cells slots ls hR hL hc hs hl
  exact fx_of_MQ (W.zret F.1 F.2.1 (F.2.2.2.1.trans hr) (fx_nb hx).1 (fun t ht _ => ⟨.inl (some x), h, hq, by rw [ht]; exact hR, rfl⟩) hL d F.2.2.2.2.1) (Nat.le_trans (Nat.le_add_right _ _) hc) (Nat.le_trans (Nat.le_add_right _ _) hs)
theorem fx_vreturn (hr : fx_rt M = none) (d : decode (fx_cc M) pc = .ok (.return_, 1)) (hq : Q (.inl none) h) : fx_X g M pc lv [] h Q mc ms := by
  intro p e R s m args below meth c F H locs cells slots ls hR hL hc hs hl
  exact fx_of_MQ (W.vret F.1 F.2.1 (F.2.2.2.1.trans hr) (fun t ht _ => ⟨.inl none, h, hq, by rw [ht]; exact hR, rfl⟩) hL d F.2.2.2.2.1) (Nat.le_trans (Nat.le_add_right _ _) hc) (Nat.le_trans (Nat.le_add_right _ _) hs)
theorem fx_ldc (ok : fx_ok g) {idx : Nat} {v : Int32} (hk : Cond.constant (fx_y M).cls idx v ∈ fx_tb) (d : decode (fx_cc M) pc = .ok (.ldc idx, 2)) (K : fx_X g M (pc + 2) lv (.int v :: st) h Q mc ms) : fx_X g M pc lv st h Q mc ms := by
  intro p e R s m args below meth c F H locs cells slots ls hR hL hc hs hl
  exact W.ldc F.1 F.2.1 F.2.2.2.2.2.2.1 (fx_word ok hk (by first | rfl | simp [goodWord, Cond.onTables, Cond.keeps, Cond.steady]) F.2.2.2.2.2.1) rfl d (K p e R s m args below meth c F H locs cells slots ls hR hL hc hs hl)
theorem fx_lcmp {x y : Int64} (d : decode (fx_cc M) pc = .ok (.lcmp, 1)) (K : fx_X g M (pc + 1) lv (.int (lg_cmp x y) :: st) h Q mc ms) : fx_X g M pc lv (.long y :: .long x :: st) h Q mc ms := by
  intro p e R s m args below meth c F H locs cells slots ls hR hL hc hs hl
  exact W.lcmp F.1 F.2.1 d (K p e R s m args below meth c F H locs cells slots ls hR hL hc hs hl)
/-- an exception of the class E has come over the frame of M at pc -/
def fx_T (g : fx_G) (M : fx_M) (pc : Nat) (lv : List (Nat × Value)) (E : String) (h : fx_H) (Q : fx_O → fx_H → Prop) (mc ms : Nat) : Prop :=
  ∀ (p : Program) (e : Env) (R : Room) (s : State) (m : MethodId) (args : Array Value) (below : List Frame) (meth : Method) (c : Code), fx_F g M p R s m meth c →
  ∀ (H : Heap) (locs : List Loc) (cells slots : Nat) (ls : Array Slot) (rest : List Value) (q : Addr) (ce : Cell), fx_R g h H → (∀ z ∈ locs, fx_b g ≤ z.base) → cells + mc ≤ R.cells → slots + ms ≤ R.slots → lv_has ls (fx_ml M) lv →
  H[q]? = some ce → ce.vm = .none → s.vm.findClass E = some ce.cls → ∀ T : State, T.heap = H → Stand p (fx_l g) e R s m args below meth c T locs cells slots →
  ∃ t, Steps p.tables e below ((T.setTop (F0 m pc ls rest)).pushFrame (.throwing q)) t ∧ fx_E g Q R s below t
theorem fx_T_out {E : String} (hh : fx_hd M = []) (hq : Q (.inr E) h) : fx_T g M pc lv E h Q mc ms := by
  intro p e R s m args below meth c F H locs cells slots ls rest q ce hR hL hc hs hl hce hv hcl T hT X
  have hrows : fx_rows c = [] := F.2.2.2.2.2.2.2.2.1.trans hh
  have hout : ∀ x ∈ c.exceptionTable.toList, covers x pc = false := by
    intro x hx
    have h9 : (x.startPc, x.endPc, x.handlerPc, x.catchType) ∈ fx_rows c := List.mem_map.mpr ⟨x, hx, rfl⟩
    rw [hrows] at h9
    exact nomatch h9
  obtain ⟨st1, hrun, hend, hW, hsm⟩ := X.leaveThrown q (g := F0 m pc ls rest) rfl rfl rfl hout F.2.2.2.2.1
  refine ⟨_, st1, .threw q, hrun, hend, locs, hW, hsm.mono (Nat.le_trans (Nat.le_add_right _ _) hc) (Nat.le_trans (Nat.le_add_right _ _) hs), hL, .inr E, h, hq, ?_, q, ce, rfl, ?_, hv, hcl⟩
  · show fx_R g h T.heap
    rw [hT]; exact hR
  · show T.heap[q]? = some ce
    rw [hT]; exact hce
/-- the instruction at pc calls M' with as, and leaves rest of the stack st -/
def fx_Site (g : fx_G) (M M' : fx_M) (pc : Nat) (h : fx_H) (as rest st : List Value) : Prop :=
  ∀ (p : Program) (e : Env) (R : Room) (s : State) (m : MethodId) (args : Array Value) (below : List Frame) (meth : Method) (c : Code), fx_F g M p R s m meth c →
  ∀ (H : Heap) (locs : List Loc) (cells slots : Nat) (ls : Array Slot), fx_R g h H → ls.size = c.maxLocals → ∀ T : State, T.heap = H → Stand p (fx_l g) e R s m args below meth c T locs cells slots →
  ∃ (vm₁ : Vm) (mk : MethodId) (ig : Instr), Stand p (fx_l g) e R s m args below meth c (T.setVm vm₁) locs cells slots ∧ (T.setVm vm₁).methodNamed? (fx_y M') = some mk ∧ decode c.code pc = .ok (ig, 3) ∧
    ∀ target, Steps p.tables e below (doInvoke e ((T.setVm vm₁).setTop (F0 m pc ls rest)) [] mk as.toArray).1 target → Steps p.tables e below (T.setTop (F0 m pc ls st)) target
theorem fx_named {s : State} {args : Array Value} (hw : (fx_cw M).before args s = true) : ∃ m, s.methodNamed? (fx_y M) = some m := by
  obtain ⟨y, cc, ml, rt, lev, hd⟩ := M
  cases hd with
  | nil => exact Cond.code_named (show (Cond.code y cc ml rt).before args s = true from hw)
  | cons a l =>
    have hw' : (Cond.codeWith y cc ml rt (a :: l)).before args s = true := hw
    show ∃ m, s.methodNamed? y = some m
    cases hn : s.methodNamed? y with
    | some m => exact ⟨m, rfl⟩
    | none => simp [Cond.before, Cond.holds, Cond.value, hn] at hw'
theorem fx_gcw : goodWord (fx_cw M) = true := by
  obtain ⟨y, cc, ml, rt, lev, hd⟩ := M
  cases hd <;> first | rfl | simp [fx_cw, goodWord, Cond.onTables, Cond.keeps, Cond.steady]
/-- the call itself: it comes back, or throws -/
theorem fx_back (ok : fx_ok g) {as : List Value} {Q' : fx_O → fx_H → Prop} {mc' ms' : Nat} (hC : fx_C g M' as h Q' mc' ms') (hcw : fx_cw M' ∈ fx_tb) (hini : Cond.initialized (fx_y M').cls ∈ fx_tb)
    {p : Program} {e : Env} {R : Room} {s : State} {m : MethodId} {sargs : Array Value} {below : List Frame} {meth : Method} {c : Code} {T : State} {locs : List Loc} {cells slots : Nat} (X : Stand p (fx_l g) e R s m sargs below meth c T locs cells slots) (hWs : (fx_s0 g).WarmedH s.vm) (hR : fx_R g h T.heap)
    {gf : JFrame} (hg : gf.method = m) (hsz : gf.locals.size = c.maxLocals) {ig : Instr} {len : Nat} (hd : decode c.code gf.pc = .ok (ig, len)) {mk : MethodId} (hn : T.methodNamed? (fx_y M') = some mk)
    (hfr : fx_lv M' + 1 ≤ R.frames) (hlo : 2 * gf.monitorRoom + (gf.stack.map fun v => v.category).sum + (fx_ml M' + 11) + fx_lw M' ≤ R.locals) (hc : cells + mc' ≤ R.cells) (hs : slots + ms' ≤ R.slots) :
    ∃ (B : State) (L : List Loc), Stand p (fx_l g) e R s m sargs below meth c B (locs ++ L) (cells + mc') (slots + ms') ∧ (∀ z ∈ L, fx_b g ≤ z.base) ∧ ∃ (o' : fx_O) (h' : fx_H), Q' o' h' ∧ fx_R g h' B.heap ∧
      ((∃ v : Option Int32, o' = .inl v ∧ Steps p.tables e below (doInvoke e (T.setTop gf) [] mk as.toArray).1 (B.setTop { gf with pc := gf.pc + len, stack := (v.map Value.int).toList ++ gf.stack })) ∨
       (∃ (E : String) (q : Addr) (ce : Cell), o' = .inr E ∧ B.heap[q]? = some ce ∧ ce.vm = .none ∧ s.vm.findClass E = some ce.cls ∧ Steps p.tables e below (doInvoke e (T.setTop gf) [] mk as.toArray).1 ((B.setTop gf).pushFrame (.throwing q)))) := by
  have hWT : (fx_s0 g).WarmedH T.vm := State.WarmedH.trans hWs X.warmed
  have hcode : (fx_cw M').before as.toArray T = true := fx_word ok hcw fx_gcw hWT
  have hpre : (headSpec [fx_cw M'] (fx_rm M' mc' ms')).pre.before as.toArray T = true := atoms_intro fun w hw => by
    rw [List.mem_singleton.mp hw]
    exact hcode
  obtain ⟨methY, cY, hmY, hcY, -, hlY, -, -, -, -⟩ := fx_cw_spec hn hcode
  obtain ⟨kY, hkY, -⟩ := className_of_methodNamed hn
  have hinitY : kY.init = .initialized := Cond.initialized_spec (args := as.toArray) (findClass_of_methodNamed hn) hkY (fx_word ok hini (by first | rfl | simp [goodWord, Cond.onTables, Cond.keeps, Cond.steady]) hWT)
  have hh : At T gf.method c below := by rw [hg]; exact X.here
  have happ : (headSpec [fx_cw M'] (fx_rm M' mc' ms')).appliesLoose (fx_y M') e.platform (T.calling gf mk as.toArray) = true :=
    Spec.appliesLoose_calling (g := gf) hh hd hn hkY hinitY
      (X.room_calling (g := gf) (R' := (headSpec [fx_cw M'] (fx_rm M' mc' ms')).room) hsz hmY hcY hfr (by rw [hlY]; exact hlo) hc hs) hpre
  obtain ⟨mid, hmid⟩ := hh.above
  have hfr9 : (T.setTop gf).frames = (.java gf :: mid) ++ below := by rw [State.frames_setTop' gf hh.top, hmid]; rfl
  obtain ⟨o, s₂, hsteps, -, hend, hq⟩ := Steps.callFree hC p X.admits X.cas X.clock (acts := []) hfr9 happ ⟨rfl, hWT, hR⟩ trivial
  have hq' : fx_P g Q' mc' ms' (T.calling gf mk as.toArray) o s₂ := hq
  obtain ⟨L, hW₂, hsm, hL, o', h', hQ, hR', hoc⟩ := hq'
  rw [State.frames_setTop' gf hh.top] at hend
  obtain ⟨g₀, hg0⟩ := Option.isSome_iff_exists.mp hh.top
  obtain ⟨r, hr⟩ := State.topJava?_eq_some.mp hg0
  have hr' : (({ T with heap := s₂.heap, slotsUsed := s₂.slotsUsed } : State).setVm s₂.vm).frames = .java g₀ :: r := hr
  obtain ⟨e2, q2, q3, q4, q5, q6⟩ := id hsm
  have e3 : s₂ = ({ (T.calling gf mk as.toArray).setFrames s₂.frames with heap := s₂.heap, slotsUsed := s₂.slotsUsed } : State).setVm s₂.vm := by
    have : s₂ = ({ s₂ with vm := (T.calling gf mk as.toArray).vm } : State).setVm s₂.vm := rfl
    rw [e2] at this
    exact this
  have hW' : T.WarmedH s₂.vm := hW₂
  have hsame : T.sameButNew ({ T with heap := s₂.heap, slotsUsed := s₂.slotsUsed } : State) L mc' ms' := by
    refine ⟨?_, q2, q3, q4, q5, q6⟩
    obtain ⟨t, ht, -⟩ := State.frames_cons hr
    show ({ T with heap := s₂.heap, slotsUsed := s₂.slotsUsed } : State) = { T.setFrames T.frames with heap := s₂.heap, slotsUsed := s₂.slotsUsed }
    rw [State.setFrames_self ht]
  have XB : Stand p (fx_l g) e R s m sargs below meth c (({ T with heap := s₂.heap, slotsUsed := s₂.slotsUsed } : State).setVm s₂.vm) (locs ++ L) (cells + mc') (slots + ms') :=
    ⟨X.admits, X.cas, X.clock, X.frames, X.room, X.hears, X.method, X.code, (X.here.setHeapUsed s₂.heap s₂.slotsUsed).setVm hW'.alike, X.tail, State.WarmedH.trans X.warmed hW', X.limits, X.bytes, X.same.trans (hsame.setVm s.vm)⟩
  refine ⟨_, L, XB, hL, o', h', hQ, hR', ?_⟩
  cases o' with
  | inl v =>
    refine Or.inl ⟨v, rfl, ?_⟩
    have hoc' : o = .returned (v.map Value.int) := hoc
    subst hoc'
    obtain ⟨c₂, i₂, len₂, hc₂, hd₂, hf₂⟩ := hend
    have hcc : c₂ = c := by
      have h1 : s₂.code? gf.method = T.code? gf.method := by
        rw [State.code?_eq, State.code?_eq, hW'.alike.method?]
      exact Option.some.inj (hc₂.symm.trans (h1.trans hh.code))
    subst hcc
    have hlen : len₂ = len := by rw [hd] at hd₂; cases hd₂; rfl
    subst hlen
    have hs₂ : s₂ = (({ T with heap := s₂.heap, slotsUsed := s₂.slotsUsed } : State).setVm s₂.vm).setTop { gf with pc := gf.pc + len₂, stack := (v.map Value.int).toList ++ gf.stack } := by
      refine e3.trans ?_
      rw [hf₂, State.calling_eq hh.top, State.setFrames_setFrames, State.setTop_of_frames _ hr', hr]
      rfl
    rw [← hs₂]
    exact hsteps
  | inr E =>
    obtain ⟨q, ce, rfl, hce, hcv, hcl⟩ := hoc
    have hcl' : s.vm.findClass E = some ce.cls := by
      have h1 : T.vm.findClass E = some ce.cls := hcl
      rw [X.warmed.alike.findClass] at h1
      exact h1
    refine Or.inr ⟨E, q, ce, rfl, hce, hcv, hcl', ?_⟩
    have hf₂ : s₂.frames = .throwing q :: .java gf :: T.frames.tail := hend
    have hs₂ : s₂ = ((({ T with heap := s₂.heap, slotsUsed := s₂.slotsUsed } : State).setVm s₂.vm).setTop gf).pushFrame (.throwing q) := by
      refine e3.trans ?_
      rw [hf₂, State.calling_eq hh.top, State.setFrames_setFrames, State.pushFrame, State.frames_setTop _ hr', State.setTop_of_frames _ hr', State.setFrames_setFrames, hr]
      rfl
    rw [← hs₂]
    exact hsteps
theorem fx_call (ok : fx_ok g) {as st' : List Value} {Q' : fx_O → fx_H → Prop} {mc' ms' : Nat} (hC : fx_C g M' as h Q' mc' ms') (S : fx_Site g M M' pc h as st st') (hcw : fx_cw M' ∈ fx_tb) (hini : Cond.initialized (fx_y M').cls ∈ fx_tb)
    (hlev : fx_lv M' + 1 ≤ fx_lv M) (hlo : (st.map fun v => v.category).sum + (fx_ml M' + 11) + fx_lw M' ≤ fx_lw M)
    (kr : ∀ (v : Option Int32) (h' : fx_H), Q' (.inl v) h' → fx_X g M (pc + 3) lv ((v.map Value.int).toList ++ st) h' Q mc ms) (kx : ∀ (E : String) (h' : fx_H), Q' (.inr E) h' → fx_T g M pc lv E h' Q mc ms) : fx_X g M pc lv st' h Q (mc' + mc) (ms' + ms) := by
  intro p e R s m args below meth c F H locs cells slots ls hR hL hc hs hl T hT X
  have hsz : ls.size = c.maxLocals := hl.1.trans F.2.2.1.symm
  have hF1 := F.2.2.2.2.2.2.2.2.2.1
  have hF2 := F.2.2.2.2.2.2.2.2.2.2
  obtain ⟨vm₁, mk, ig, X₁, hn, hd, hgo⟩ := S p e R s m args below meth c F H locs cells slots ls hR hsz T hT X
  obtain ⟨B, L, XB, hLB, o', h', hQ, hRB, hend⟩ := fx_back ok hC hcw hini X₁ F.2.2.2.2.2.1 (show fx_R g h T.heap by rw [hT]; exact hR) (gf := F0 m pc ls st) rfl hsz hd hn (by omega) (by show 2 * 0 + (st.map fun v => v.category).sum + _ + _ ≤ _; omega) (by omega) (by omega)
  have hL' : ∀ z ∈ locs ++ L, fx_b g ≤ z.base := fun z hz => (List.mem_append.mp hz).elim (hL z) (hLB z)
  rcases hend with ⟨v, rfl, st9⟩ | ⟨E, q, ce, rfl, hce, hcv, hcl, st9⟩
  · obtain ⟨t, a1, b1⟩ := kr v h' hQ p e R s m args below meth c F B.heap (locs ++ L) (cells + mc') (slots + ms') ls hRB hL' (by omega) (by omega) hl B rfl XB
    exact ⟨t, hgo _ (st9.trans a1), b1⟩
  · obtain ⟨t, a1, b1⟩ := kx E h' hQ p e R s m args below meth c F B.heap (locs ++ L) (cells + mc') (slots + ms') ls st q ce hRB hL' (by omega) (by omega) hl hce hcv hcl B rfl XB
    exact ⟨t, hgo _ (st9.trans a1), b1⟩
/-- the words of a call -/
def fx_mw (own : String) (idx n : Nat) (M' : fx_M) : Prop := fx_cw M' ∈ fx_tb ∧ Cond.initialized (fx_y M').cls ∈ fx_tb ∧ ((fx_y M').cls ≠ "java/lang/invoke/MethodHandle" ∧ (fx_y M').cls ≠ "java/lang/invoke/VarHandle") ∧ (parseMethodDescriptor (fx_y M').desc).map (fun d => d.parameters.length) = some n ∧ Cond.methodLink own idx (fx_y M') ∈ fx_tb
theorem fx_siteS (ok : fx_ok g) {idx : Nat} {as : List Value} (hm : fx_mw (fx_y M).cls idx as.length M') (hst : Cond.static (fx_y M') ∈ fx_tb) (d : decode (fx_cc M) pc = .ok (.invokestatic idx, 3)) : fx_Site g M M' pc h as st (as.reverse ++ st) := by
  intro p e R s m args below meth c F H locs cells slots ls hR hsz T hT X
  obtain ⟨hcw, hini, hy, hlen, hlk⟩ := hm
  have hW := F.2.2.2.2.2.1
  have hcode : (fx_cw M').before args s = true := fx_word ok hcw fx_gcw hW
  obtain ⟨mk, hnamed⟩ := fx_named hcode
  obtain ⟨methM, cM, hmethM, -, -, -, -, -, -, hsigM⟩ := fx_cw_spec hnamed hcode
  have hstatic : methM.isStatic = true := Cond.static_spec (args := args) hnamed hmethM (fx_word ok hst (by first | rfl | simp [goodWord, Cond.onTables, Cond.keeps, Cond.steady]) hW)
  obtain ⟨kP, hkP, -⟩ := className_of_methodNamed hnamed
  have hinitP : kP.init = .initialized := Cond.initialized_spec (args := args) (findClass_of_methodNamed hnamed) hkP (fx_word ok hini (by first | rfl | simp [goodWord, Cond.onTables, Cond.keeps, Cond.steady]) hW)
  have hlen' : as.length = methM.sig.parameters.length := by
    rw [hsigM] at hlen
    exact (Option.some.inj hlen).symm
  have d' : decode c.code pc = .ok (.invokestatic idx, 3) := by rw [F.2.1]; exact d
  obtain ⟨vm₁, X₁, hstep₁⟩ := X.invokestatic F.1 F.2.2.2.2.2.2.1 (fx_word ok hlk (by first | rfl | simp [goodWord, Cond.onTables, Cond.keeps, Cond.steady]) hW) hnamed hmethM hstatic hkP hinitP hy (g := F0 m pc ls (as.reverse ++ st)) rfl (argsL := as) (rest := st) hlen' rfl d'
  exact ⟨vm₁, mk, _, X₁, X₁.named hnamed, d', fun target h => hstep₁ _ fun acts => by rw [doInvoke_state]; exact h⟩
theorem fx_siteV (ok : fx_ok g) {idx b ci : Nat} {as : List Value} {q : vw_C} (hm : fx_mw (fx_y M).cls idx as.length M') (hin : Cond.instanceMethod (fx_y M') ∈ fx_tb) (hse : Cond.selects (fx_y M').cls (fx_y M') (fx_y M') ∈ fx_tb) (hs : fx_s h b = some (.inl ci)) (hq : fx_cl[ci]? = some q) (hqc : q.1 = (fx_y M').cls)
    (d : decode (fx_cc M) pc = .ok (.invokevirtual idx, 3)) : fx_Site g M M' pc h (.ref b :: as) st (as.reverse ++ .ref b :: st) := by
  intro p e R s m args below meth c F H locs cells slots ls hR hsz T hT X
  obtain ⟨hcw, hini, hy, hlen, hlk⟩ := hm
  have hW := F.2.2.2.2.2.1
  have hcode : (fx_cw M').before args s = true := fx_word ok hcw fx_gcw hW
  obtain ⟨mk, methM, hnamed, hmethM, hstM, habM⟩ := Cond.instanceMethod_spec (args := args) (fx_word ok hin (by first | rfl | simp [goodWord, Cond.onTables, Cond.keeps, Cond.steady]) hW)
  obtain ⟨methM', cM, hmethM', -, -, -, -, -, -, hsigM⟩ := fx_cw_spec hnamed hcode
  cases hmethM.symm.trans hmethM'
  obtain ⟨⟨r, h1, cellB, q1, q2, q3, -⟩, -⟩ := (hR.2.2.2 b _ hs).2.2
  cases Option.some.inj (h1.symm.trans hq)
  have hKn := fx_Kn ok hW hq
  have hcls : s.vm.findClass (fx_y M').cls = some cellB.cls := by
    rw [q2, ← hqc]
    exact hKn.2.1
  obtain ⟨c2, r2, m2, p1, p2, p3, p4, kP, hkP, hkPi⟩ := Cond.selects_spec (args := args) (fx_word ok hse (by first | rfl | simp [goodWord, Cond.onTables, Cond.keeps, Cond.steady]) hW)
  cases hcls.symm.trans p1
  cases (State.methodFound?_of_named hnamed hy).symm.trans p2
  cases hnamed.symm.trans p3
  have hselP : selectMethod e.platform s.vm cellB.cls mk = .method mk := by rw [Launch.admits_selectMethod X.admits]; exact p4
  have hlen' : as.length = methM.sig.parameters.length := by
    rw [hsigM] at hlen
    exact (Option.some.inj hlen).symm
  have d' : decode c.code pc = .ok (.invokevirtual idx, 3) := by rw [F.2.1]; exact d
  obtain ⟨vm₁, X₁, hstep₁⟩ := X.invokevirtual F.1 F.2.2.2.2.2.2.1 (fx_word ok hlk (by first | rfl | simp [goodWord, Cond.onTables, Cond.keeps, Cond.steady]) hW) hnamed hmethM hstM hkP hkPi hy (a := b) (cell := cellB) (by rw [hT]; exact q1)
    (fun z hz => by rw [q3] at hz; cases hz) hselP hmethM habM hkP hkPi (g := F0 m pc ls (as.reverse ++ .ref b :: st)) rfl (argsL := as) (rest := st) hlen' rfl d'
  exact ⟨vm₁, mk, _, X₁, X₁.named hnamed, d', fun target h => hstep₁ _ fun acts => by rw [doInvoke_state]; exact h⟩
theorem fx_siteI (ok : fx_ok g) {idx b : Nat} {as : List Value} (hm : fx_mw (fx_y M).cls idx as.length M') (hin : Cond.instanceMethod (fx_y M') ∈ fx_tb) (hnm : (fx_y M').name = "<init>") (hh : fx_hd M' = []) (hrt : fx_rt M' = none)
    (d : decode (fx_cc M) pc = .ok (.invokespecial idx, 3)) : fx_Site g M M' pc h (.ref b :: as) st (as.reverse ++ .ref b :: st) := by
  intro p e R s m args below meth c F H locs cells slots ls hR hsz T hT X
  obtain ⟨hcw, hini, hy, hlen, hlk⟩ := hm
  have hW := F.2.2.2.2.2.1
  have hcode : (Cond.code (fx_y M') (fx_cc M') (fx_ml M') none).before args s = true := by
    have h9 : (fx_cw M').before args s = true := fx_word ok hcw fx_gcw hW
    rw [fx_cw, hh] at h9
    rw [← hrt]
    exact h9
  have hpl : e.platform.magicAccessors = ({} : Platform).magicAccessors := by rw [X.admits.platform]
  have d' : decode c.code pc = .ok (.invokespecial idx, 3) := by rw [F.2.1]; exact d
  obtain ⟨mk, methM, cM, kP, vm₁, hnamed, hmethM, hcodeM, -, hlocalsM, -, hkP, -, hW₁, hstep₁⟩ := Steps.initColdArgs (e := e) X.here F.1 X.warmed hpl F.2.2.2.2.2.2.1 hnm hy (fx_word ok hlk (by first | rfl | simp [goodWord, Cond.onTables, Cond.keeps, Cond.steady]) hW) (fx_word ok hin (by first | rfl | simp [goodWord, Cond.onTables, Cond.keeps, Cond.steady]) hW) hcode (f := F0 m pc ls (as.reverse ++ .ref b :: st)) rfl
    (argsL := as) (rest := st) (fun sig hsig => by rw [hsig] at hlen; exact (Option.some.inj hlen).symm) rfl d'
  have X₁ := X.noted hW₁
  exact ⟨vm₁, mk, _, X₁, X₁.named hnamed, d', fun target h => hstep₁ _ fun acts => by rw [doInvoke_state]; exact h⟩
end FXC
