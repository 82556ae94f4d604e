/-! ===== what FrameSwapper throws ===== -/
section FXN
variable {g : fx_G} {M M' : fx_M} {pc : Nat} {lv : List (Nat × Value)} {st : List Value} {h : fx_H} {Q : fx_O → fx_H → Prop} {mc ms : Nat}
theorem fx_decl (ok : fx_ok g) {x : MethodName} (hw : Cond.declares x ∈ fx_tb) {s : State} (hW : (fx_s0 g).WarmedH s.vm) {args : Array Value} : (Cond.declares x).before args s = true := by
  have h0 := ok.2.1 _ hw
  have h1 : (Cond.declares x).before args ((fx_s0 g).setVm s.vm) = true := by
    simp only [Cond.before, Cond.holds, Cond.value, State.vm_setVm, arm_named_setVm hW.alike] at h0 ⊢
    exact h0
  exact h1
def fx_tx (w : Cond) : Prop := fx_tw w ∨ (w ∈ fx_tb ∧ ∃ x, w = .declares x)
theorem fx_tx_at (ok : fx_ok g) {w : Cond} (hw : fx_tx w) {s : State} (hW : (fx_s0 g).WarmedH s.vm) (hH : ∀ q : Nat, q < fx_b g → s.heap[q]? = (fx_s0 g).heap[q]?) {args : Array Value} : w.before args s = true := by
  rcases hw with hw | ⟨h1, x, rfl⟩
  · exact fx_tw_at ok hw hW hH
  · exact fx_decl ok h1 hW

theorem fx_throw1 (ok : fx_ok g) {ik ic : Nat} {cls : String} {names : List String} (hcls : Bundle.fit cls = true) (hnames : ∀ n ∈ names, Bundle.fit n = true) (hk : Cond.classLink (fx_y M).cls ik cls ∈ fx_tb) (hini : Cond.initialized cls ∈ fx_tb)
    (hat : ∀ w ∈ Bundle.ownAtoms0 (fx_y M).cls ic cls names, fx_tx w) (d0 : decode (fx_cc M) pc = .ok (.new ik, 3)) (d3 : decode (fx_cc M) (pc + 3) = .ok (.dup, 1)) (d4 : decode (fx_cc M) (pc + 4) = .ok (.invokespecial ic, 3)) (d7 : decode (fx_cc M) (pc + 7) = .ok (.athrow, 1))
    (hfr : names.length + 3 < fx_lv M) (hlo : (st.map fun v => v.category).sum + (13 * (names.length + 1) + 42) ≤ fx_lw M) (hh : fx_hd M = []) (hq : Q (.inr cls) (fx_sk h 1)) : fx_X g M pc lv st h Q (mc + 1) (ms + 6) := by
  intro p e R s m args below meth c F H locs cells slots ls hR hL hc hs hl T hT X
  have hW := F.2.2.2.2.2.1
  have hF1 := F.2.2.2.2.2.2.2.2.2.1
  have hF2 := F.2.2.2.2.2.2.2.2.2.2
  have hown := F.2.2.2.2.2.2.1
  have htr : e.platform.stackTraces = false := (show e.platform.stackTraces = (fx_l g).stackTraces by rw [X.admits.platform]).trans ok.1
  have Y := fx_here X (R' := { frames := R.frames, cells := 1, slots := 6, locals := R.locals }) (Nat.le_refl _) (Nat.le_refl _) (show cells + 1 ≤ R.cells by omega) (show slots + 6 ≤ R.slots by omega)
  obtain ⟨s', hA⟩ : ∃ z, z = (T.setVm s.vm).setFrames (.invoking m args :: below) := ⟨_, rfl⟩
  rw [← hA] at Y
  have hvm : s'.vm = s.vm := by rw [hA]; rfl
  have hhp : s'.heap = H := by rw [hA]; exact hT
  have hW' : (fx_s0 g).WarmedH s'.vm := by rw [hvm]; exact hW
  have hH' : ∀ q : Nat, q < fx_b g → s'.heap[q]? = (fx_s0 g).heap[q]? := by rw [hhp]; exact hR.2.2.1
  have hwd : ∀ w ∈ Bundle.ownAtoms0 (fx_y M).cls ic cls names, w.before args s' = true := fun w hw => fx_tx_at ok (hat w hw) hW' hH'
  have hown' : s'.vm.findClass (fx_y M).cls = some m.cls := by rw [hvm]; exact hown
  have hins : (Cond.instantiable cls 6).before args s' = true := hwd _ (by simp [Bundle.ownAtoms0])
  obtain ⟨vm₁, cX, kX, hfX, hkX, -, -, X₁, st1⟩ := Y.newCold F.1 (own := (fx_y M).cls) (C := cls) (index := ik) (n := 6) hown' (fx_word ok hk (by first | rfl | simp [goodWord, Cond.onTables, Cond.keeps, Cond.steady]) hW') hins (fx_word ok hini (by first | rfl | simp [goodWord, Cond.onTables, Cond.keeps, Cond.steady]) hW')
    (g := F0 m pc ls st) rfl (by rw [F.2.1]; exact d0) (Nat.le_refl _) (Nat.le_refl _)
  generalize hT1 : (T.setVm vm₁).pushCell { cls := cX, slots := kX.instanceTypes.map defaultValue, vm := .none } = T1 at X₁ st1
  have hcellA : T1.heap[T.heap.size]? = some (freshCell cX kX) := by rw [← hT1]; exact State.heap_pushCell_size _ _
  have d3' : decode c.code (pc + 3) = .ok (.dup, 1) := by rw [F.2.1]; exact d3
  have hcat : (Value.ref T.heap.size).category = 1 := rfl
  have hrows : fx_rows c = [] := F.2.2.2.2.2.2.2.2.1.trans hh
  have hout : ∀ x ∈ c.exceptionTable.toList, covers x (pc + 7) = false := by
    intro x hx
    have h9 : (x.startPc, x.endPc, x.handlerPc, x.catchType) ∈ fx_rows c := List.mem_map.mpr ⟨x, hx, rfl⟩
    rw [hrows] at h9
    exact nomatch h9
  have hsz : ls.size = c.maxLocals := hl.1.trans F.2.2.1.symm
  obtain ⟨U, hsteps, hrun, hend, hW9, hsame, ce, hce, hO⟩ := X₁.ctorThrow0 F.1 htr (own := (fx_y M).cls) (cls := cls) (names := names) (ic := ic) hown' hcls hnames hwd (fun x hx => nomatch hx) hfX hkX hcellA (by rw [hhp, hT]; exact Nat.le_refl _)
    (g := { method := m, pc := pc + 4, locals := ls, stack := .ref T.heap.size :: .ref T.heap.size :: st, locked := none }) rfl hsz rfl rfl (rest := st) rfl
    (by rw [F.2.1]; exact d4) (by rw [F.2.1]; exact d7) hout (show names.length + 3 < R.frames by omega) (by simp only [List.map_cons, List.sum_cons, hcat]; show 2 * 0 + _ + _ ≤ R.locals; omega) F.2.2.2.2.1
  have f2 := fx_same0 hsame
  have f1 : U.heap.size = H.size + 1 := by
    have a1 : U.heap.size ≤ s'.heap.size + (0 + 1) := hsame.2.2.1
    have a2 : T.heap.size < U.heap.size := (Array.getElem?_eq_some_iff.mp hce).1
    rw [hhp] at a1
    rw [hT] at a2
    omega
  rw [hhp] at f2
  have hWs : s.WarmedH U.vm := by
    have h9 : s'.WarmedH U.vm := hW9
    have h8 : s.WarmedH s'.vm := by rw [hvm]; exact State.WarmedH.refl s
    exact State.WarmedH.trans h8 h9
  have hcl : s.vm.findClass cls = some ce.cls := by
    have h9 := hO.cls
    rw [hvm] at h9
    exact h9
  have hall : s.sameButNew ({ U with vm := s.vm } : State) locs R.cells R.slots := by
    subst hA
    obtain ⟨e1, e2⟩ := hsame
    rw [State.setFrames_setFrames] at e1
    have h2 : (T.setVm s.vm).sameButNew ({ U with vm := s.vm } : State) [] (0 + 1) (0 + 6) := ⟨e1, e2⟩
    have h3 := X.same.trans h2
    rw [List.append_nil] at h3
    exact h3.mono (by omega) (by omega)
  refine ⟨U, ?_, .threw T.heap.size, hrun, hend, locs, hWs, hall, hL, .inr cls, fx_sk h 1, hq, fx_R_skip hR f1 f2, T.heap.size, ce, rfl, hce, hO.vm, hcl⟩
  refine st1 _ ?_
  show Steps p.tables e below (T1.setTop { method := m, pc := pc + 3, locals := ls, stack := .ref T.heap.size :: st, locked := none }) _
  jvm_step X₁.here [X₁.here.top, F.1, d3', Value.category]
  exact hsteps
end FXN
def twB (w : Cond) : Bool := fx_tb.contains w && (goodWord w || match w with
  | .castable _ _ => true
  | .laysStatic _ _ _ => true
  | .isRef (.static C n d) => fx_tb.contains (.laysStatic C n d) && fx_tb.contains (.initialized C)
  | .declares _ => true
  | _ => false)
theorem tw_of {w : Cond} (h : twB w = true) : fx_tx w := by
  unfold twB at h
  rw [Bool.and_eq_true, Bool.or_eq_true] at h
  obtain ⟨h1, h2⟩ := h
  have hm := List.contains_iff_mem.mp h1
  rcases h2 with h2 | h2
  · exact Or.inl ⟨hm, Or.inl h2⟩
  · split at h2
    · exact Or.inl ⟨hm, Or.inr (Or.inl ⟨_, _, rfl⟩)⟩
    · exact Or.inl ⟨hm, Or.inr (Or.inr (Or.inl ⟨_, _, _, rfl⟩))⟩
    · rw [Bool.and_eq_true] at h2
      exact Or.inl ⟨hm, Or.inr (Or.inr (Or.inr ⟨_, _, _, rfl, List.contains_iff_mem.mp h2.1, List.contains_iff_mem.mp h2.2⟩))⟩
    · exact Or.inr ⟨hm, _, rfl⟩
    · exact absurd h2 (by decide)
theorem tw_IA : ∀ w ∈ Bundle.ownAtoms0 "FrameSwapper" 256 "java/lang/IllegalArgumentException" ["java/lang/RuntimeException", "java/lang/Exception"], fx_tx w := fun w hw => tw_of (List.all_eq_true.mp (show (Bundle.ownAtoms0 "FrameSwapper" 256 "java/lang/IllegalArgumentException" ["java/lang/RuntimeException", "java/lang/Exception"]).all twB = true by decide +kernel) w hw)
theorem ki_IA : Cond.initialized "java/lang/IllegalArgumentException" ∈ fx_tb := fx_m1 15 (by decide +kernel)
theorem kf_IA : Bundle.fit "java/lang/IllegalArgumentException" = true := by decide +kernel
theorem tw_IS : ∀ w ∈ Bundle.ownAtoms0 "FrameSwapper" 66 "java/lang/IllegalStateException" ["java/lang/RuntimeException", "java/lang/Exception"], fx_tx w := fun w hw => tw_of (List.all_eq_true.mp (show (Bundle.ownAtoms0 "FrameSwapper" 66 "java/lang/IllegalStateException" ["java/lang/RuntimeException", "java/lang/Exception"]).all twB = true by decide +kernel) w hw)
theorem ki_IS : Cond.initialized "java/lang/IllegalStateException" ∈ fx_tb := fx_m1 16 (by decide +kernel)
theorem kf_IS : Bundle.fit "java/lang/IllegalStateException" = true := by decide +kernel
theorem tw_IO : ∀ w ∈ Bundle.ownAtoms0 "FrameSwapper" 128 "java/lang/IndexOutOfBoundsException" ["java/lang/RuntimeException", "java/lang/Exception"], fx_tx w := fun w hw => tw_of (List.all_eq_true.mp (show (Bundle.ownAtoms0 "FrameSwapper" 128 "java/lang/IndexOutOfBoundsException" ["java/lang/RuntimeException", "java/lang/Exception"]).all twB = true by decide +kernel) w hw)
theorem ki_IO : Cond.initialized "java/lang/IndexOutOfBoundsException" ∈ fx_tb := fx_m1 19 (by decide +kernel)
theorem kf_IO : Bundle.fit "java/lang/IndexOutOfBoundsException" = true := by decide +kernel
theorem kf_N : ∀ n ∈ ["java/lang/RuntimeException", "java/lang/Exception"], Bundle.fit n = true := by decide +kernel
theorem cq_demand1 {g : fx_G} (ok : fx_ok g) (h : fx_H) (x : Int32) (hx : ¬ x = 0) : fx_C g mq_FS_demand [.int x] h (fx_is none h) 0 0 := by
  refine fx_body (by decide +kernel) (Nat.le_of_ble_eq_true rfl) ?_
  show fx_X g mq_FS_demand 0 [(0, .int x)] [] h _ 0 0
  refine fx_iload_n 0 dq_FS_demand_0 rfl rfl ?_
  refine fx_if_ne (tgt := 12) dq_FS_demand_1 (by decide) (fun _ => ?_) (fun hc => absurd hc hx)
  exact fx_vreturn rfl dq_FS_demand_12 ⟨rfl, rfl⟩
theorem cq_demand0 {g : fx_G} (ok : fx_ok g) (h : fx_H) (x : Int32) (hx : x = 0) : fx_C g mq_FS_demand [.int x] h (fx_th "java/lang/IllegalArgumentException" (fx_sk h 1)) 1 6 := by
  refine fx_body (by decide +kernel) (Nat.le_of_ble_eq_true rfl) ?_
  show fx_X g mq_FS_demand 0 [(0, .int x)] [] h _ 1 6
  refine fx_iload_n 0 dq_FS_demand_0 rfl rfl ?_
  refine fx_if_ne (tgt := 12) dq_FS_demand_1 (by decide) (fun hc => absurd hx hc) (fun _ => ?_)
  exact fx_throw1 ok (mc := 0) (ms := 0) kf_IA kf_N lk_FS_254 ki_IA tw_IA dq_FS_demand_4 dq_FS_demand_7 dq_FS_demand_8 dq_FS_demand_11 (by decide) (Nat.le_of_ble_eq_true rfl) rfl ⟨rfl, rfl⟩
