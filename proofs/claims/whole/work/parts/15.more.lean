/-! ===== Object(), Math, System.arraycopy; calls across the nest ===== -/
section FXO
variable {g : fx_G} {M M' : fx_M} {pc : Nat} {lv : List (Nat × Value)} {st : List Value} {h : fx_H} {Q : fx_O → fx_H → Prop} {mc ms : Nat}
theorem fx_objInit (ok : fx_ok g) {idx a : Nat} (hlk : Cond.methodLink (fx_y M).cls idx Lib.objectInit ∈ fx_tb) (hin : Cond.instanceMethod Lib.objectInit ∈ fx_tb) (hcd : Cond.code Lib.objectInit ⟨#[0xb1]⟩ 1 none ∈ fx_tb) (hlev : 1 ≤ fx_lv M) (hlo : (st.map fun v => v.category).sum + 12 ≤ fx_lw M)
    (d : decode (fx_cc M) pc = .ok (.invokespecial idx, 3)) (K : fx_X g M (pc + 3) lv st h Q mc ms) : fx_X g M pc lv (.ref a :: st) h Q mc ms := by
  intro p e R s m args below meth c F H locs cells slots ls hR hL hc hs hl
  have hW := F.2.2.2.2.2.1
  have hF1 := F.2.2.2.2.2.2.2.2.2.1
  have hF2 := F.2.2.2.2.2.2.2.2.2.2
  exact W.objInit F.1 F.2.1 F.2.2.2.2.2.2.1 (fx_word ok hlk (by first | rfl | simp [goodWord, Cond.onTables, Cond.keeps, Cond.steady]) hW) (fx_word ok hin (by first | rfl | simp [goodWord, Cond.onTables, Cond.keeps, Cond.steady]) hW) (fx_word ok hcd (by first | rfl | simp [goodWord, Cond.onTables, Cond.keeps, Cond.steady]) hW) rfl (hl.1.trans F.2.2.1.symm) rfl d (by omega) (by show 2 * 0 + _ + 12 ≤ _; omega) (K p e R s m args below meth c F H locs cells slots ls hR hL hc hs hl)
theorem fx_mmax (ok : fx_ok g) {idx : Nat} {x y : Int32} (hlk : Cond.methodLink (fx_y M).cls idx Lib.Math.max.name ∈ fx_tb) (hst : Cond.static Lib.Math.max.name ∈ fx_tb) (hini : Cond.initialized "java/lang/Math" ∈ fx_tb) (hcd : Cond.code Lib.Math.max.name Lib.Math.max.code 2 (some .int) ∈ fx_tb) (hlev : 1 ≤ fx_lv M) (hlo : (st.map fun v => v.category).sum + 13 ≤ fx_lw M)
    (d : decode (fx_cc M) pc = .ok (.invokestatic idx, 3)) (K : fx_X g M (pc + 3) lv (.int (if x < y then y else x) :: st) h Q mc ms) : fx_X g M pc lv (.int y :: .int x :: st) h Q mc ms := by
  intro p e R s m args below meth c F H locs cells slots ls hR hL hc hs hl
  have hW := F.2.2.2.2.2.1
  have hF1 := F.2.2.2.2.2.2.2.2.2.1
  have hF2 := F.2.2.2.2.2.2.2.2.2.2
  exact va_mmax F.1 F.2.1 (F.2.2.1.trans hl.1.symm) F.2.2.2.2.2.2.1 (fx_word ok hlk (by first | rfl | simp [goodWord, Cond.onTables, Cond.keeps, Cond.steady]) hW) (fx_word ok hst (by first | rfl | simp [goodWord, Cond.onTables, Cond.keeps, Cond.steady]) hW) (fx_word ok hini (by first | rfl | simp [goodWord, Cond.onTables, Cond.keeps, Cond.steady]) hW) (fx_word ok hcd (by first | rfl | simp [goodWord, Cond.onTables, Cond.keeps, Cond.steady]) hW) (by omega) (by omega) (by omega) (by omega) d (K p e R s m args below meth c F H locs cells slots ls hR hL hc hs hl)
theorem fx_mmin (ok : fx_ok g) {idx : Nat} {x y : Int32} (hlk : Cond.methodLink (fx_y M).cls idx Lib.Math.min.name ∈ fx_tb) (hst : Cond.static Lib.Math.min.name ∈ fx_tb) (hini : Cond.initialized "java/lang/Math" ∈ fx_tb) (hcd : Cond.code Lib.Math.min.name Lib.Math.min.code 2 (some .int) ∈ fx_tb) (hlev : 1 ≤ fx_lv M) (hlo : (st.map fun v => v.category).sum + 13 ≤ fx_lw M)
    (d : decode (fx_cc M) pc = .ok (.invokestatic idx, 3)) (K : fx_X g M (pc + 3) lv (.int (if y < x then y else x) :: st) h Q mc ms) : fx_X g M pc lv (.int y :: .int x :: st) h Q mc ms := by
  intro p e R s m args below meth c F H locs cells slots ls hR hL hc hs hl
  have hW := F.2.2.2.2.2.1
  have hF1 := F.2.2.2.2.2.2.2.2.2.1
  have hF2 := F.2.2.2.2.2.2.2.2.2.2
  exact va_mmin F.1 F.2.1 (F.2.2.1.trans hl.1.symm) F.2.2.2.2.2.2.1 (fx_word ok hlk (by first | rfl | simp [goodWord, Cond.onTables, Cond.keeps, Cond.steady]) hW) (fx_word ok hst (by first | rfl | simp [goodWord, Cond.onTables, Cond.keeps, Cond.steady]) hW) (fx_word ok hini (by first | rfl | simp [goodWord, Cond.onTables, Cond.keeps, Cond.steady]) hW) (fx_word ok hcd (by first | rfl | simp [goodWord, Cond.onTables, Cond.keeps, Cond.steady]) hW) (by omega) (by omega) (by omega) (by omega) d (K p e R s m args below meth c F H locs cells slots ls hR hL hc hs hl)
theorem fx_nn {z : Int32} (hz : ¬ z < 0) : z.toInt = (z.toNatClampNeg : Int) := by
  have hz0 : (0 : Int) ≤ z.toInt := by
    have := Int32.not_lt.mp hz
    simpa using Int32.le_iff_toInt_le.mp this
  show z.toInt = ((z.toInt.toNat : Nat) : Int)
  omega
theorem fx_copy (ok : fx_ok g) {idx a b n0 n1 : Nat} {sp dp n : Int32} (hlk : Cond.methodLink (fx_y M).cls idx arraycopyName ∈ fx_tb) (hnat : Cond.native arraycopyName ∈ fx_tb) (hst : Cond.static arraycopyName ∈ fx_tb) (hini : Cond.initialized "java/lang/System" ∈ fx_tb)
    (ha : fx_s h a = some (.inr (0, n0))) (hb : fx_s h b = some (.inr (0, n1))) (h1 : ¬ sp < 0) (h2 : ¬ dp < 0) (h3 : ¬ n < 0) (h4 : sp.toNatClampNeg + n.toNatClampNeg ≤ n0) (h5 : dp.toNatClampNeg + n.toNatClampNeg ≤ n1) (hlev : 1 ≤ fx_lv M) (hlo : (st.map fun v => v.category).sum + (nativeFrameWords "java/lang/System" "arraycopy" 5 + 11) ≤ fx_lw M)
    (d : decode (fx_cc M) pc = .ok (.invokestatic idx, 3)) (K : fx_X g M (pc + 3) lv st (fx_cp h a b sp.toNatClampNeg dp.toNatClampNeg n.toNatClampNeg) Q mc ms) : fx_X g M pc lv (.int n :: .int dp :: .ref b :: .int sp :: .ref a :: st) h Q mc ms := by
  intro p e R s m args below meth c F H locs cells slots ls hR hL hc hs hl T hT X
  have hW := F.2.2.2.2.2.1
  have hF1 := F.2.2.2.2.2.2.2.2.2.1
  have hF2 := F.2.2.2.2.2.2.2.2.2.2
  have hc0 : H[a]? = some (vp_cell (fx_dA g 0) (n0, .inl (fx_i h a))) := (hR.2.2.2 a _ ha).2.2.1
  have hc1 : H[b]? = some (vp_cell (fx_dA g 0) (n1, .inl (fx_i h b))) := (hR.2.2.2 b _ hb).2.2.1
  have hbb := (hR.2.2.2 b _ hb).1
  obtain ⟨-, k0, hk0, cm0, hkk0⟩ := (fx_Ty ok hW (ak := 0) rfl).1 n0 (fun j => .int (fx_i h a j))
  obtain ⟨-, k1, hk1, cm1, hkk1⟩ := (fx_Ty ok hW (ak := 0) rfl).1 n1 (fun j => .int (fx_i h b j))
  obtain ⟨vm', X', step⟩ := X.arraycopy F.1 F.2.2.2.2.2.2.1 (fx_word ok hlk (by first | rfl | simp [goodWord, Cond.onTables, Cond.keeps, Cond.steady]) hW) (fx_word ok hnat (by first | rfl | simp [goodWord, Cond.onTables, Cond.keeps, Cond.steady]) hW) (fx_word ok hst (by first | rfl | simp [goodWord, Cond.onTables, Cond.keeps, Cond.steady]) hW) (fx_word ok hini (by first | rfl | simp [goodWord, Cond.onTables, Cond.keeps, Cond.steady]) hW)
    (src := a) (dst := b) (cs := vp_cell (fx_dA g 0) (n0, .inl (fx_i h a))) (cd := vp_cell (fx_dA g 0) (n1, .inl (fx_i h b))) (srcPos := sp) (destPos := dp) (n := n) (by rw [hT]; exact hc0) (by rw [hT]; exact hc1)
    (fun _ h => by cases h) (fun _ h => by cases h) (fun h => by cases h) (fun h => by cases h) hk0 hk1 hkk0 hkk1 (by simp [refKind]) h1 h2 h3
    (by rw [fx_nn h1, fx_nn h3]; show ¬ _ > ((arrV (fx_dA g 0) n0 (fun j => .int (fx_i h a j))).slots.size : Int); rw [arrV_size]; omega)
    (by rw [fx_nn h2, fx_nn h3]; show ¬ _ > ((arrV (fx_dA g 0) n1 (fun j => .int (fx_i h b j))).slots.size : Int); rw [arrV_size]; omega)
    (fun vm₁ _ i hi => by
      have e9 : (vp_cell (fx_dA g 0) (n0, .inl (fx_i h a))).slots.getD (sp.toNatClampNeg + i) .null = .int (fx_i h a (sp.toNatClampNeg + i)) := by
        show (arrV (fx_dA g 0) n0 (fun j => .int (fx_i h a j))).slots.getD _ _ = _
        rw [Array.getD_eq_getD_getElem?, arrV_read _ _ (by omega)]
        rfl
      refine ⟨?_, ?_⟩
      · rw [e9]
        rfl
      · rw [e9]
        exact trivial)
    (g := F0 m pc ls (.int n :: .int dp :: .ref b :: .int sp :: .ref a :: st)) rfl (hl.1.trans F.2.2.1.symm) (rest := st) rfl (by rw [F.2.1]; exact d) (by omega) (by show 2 * 0 + _ + _ ≤ _; omega)
  have e1 : copied (vp_cell (fx_dA g 0) (n0, .inl (fx_i h a))) (vp_cell (fx_dA g 0) (n1, .inl (fx_i h b))) sp dp n = vp_cell (fx_dA g 0) (n1, .inl (va_cpy (fx_i h a) (fx_i h b) sp.toNatClampNeg dp.toNatClampNeg n.toNatClampNeg)) := va_copied (fun z => .int z) (fx_dA g 0) (fx_dA g 0) (fx_i h a) (fx_i h b) h4
  rw [e1] at X' step
  have hlt : b < H.size := (Array.getElem?_eq_some_iff.mp hc1).1
  have hheap : ((T.setVm vm').setCell b (vp_cell (fx_dA g 0) (n1, .inl (va_cpy (fx_i h a) (fx_i h b) sp.toNatClampNeg dp.toNatClampNeg n.toNatClampNeg)))).heap = H.setIfInBounds b (vp_cell (fx_dA g 0) (n1, .inl (va_cpy (fx_i h a) (fx_i h b) sp.toNatClampNeg dp.toNatClampNeg n.toNatClampNeg))) := by rw [← hT]; rfl
  have hR' : fx_R g (fx_cp h a b sp.toNatClampNeg dp.toNatClampNeg n.toNatClampNeg) (H.setIfInBounds b (vp_cell (fx_dA g 0) (n1, .inl (va_cpy (fx_i h a) (fx_i h b) sp.toNatClampNeg dp.toNatClampNeg n.toNatClampNeg)))) := by
    refine fx_R_upd hR rfl (fun _ => rfl) (fun q hq k => ?_) (fun _ _ _ => rfl) hbb (by simp) (fun q hq => by simp [Array.getElem?_setIfInBounds, Ne.symm hq]) (fun x hx => ?_)
    · rw [fx_i_cp, if_neg hq]
    · cases hb.symm.trans hx
      refine ⟨?_, fun z => by cases z⟩
      have e2 : fx_ar (fx_cp h a b sp.toNatClampNeg dp.toNatClampNeg n.toNatClampNeg) b 0 = .inl (va_cpy (fx_i h a) (fx_i h b) sp.toNatClampNeg dp.toNatClampNeg n.toNatClampNeg) := by
        rw [fx_ar, if_pos (by decide)]
        congr 1
        funext k
        rw [fx_i_cp, if_pos rfl]
      rw [e2]
      simp [Array.getElem?_setIfInBounds, hlt]
  obtain ⟨t, a1, b1⟩ := K p e R s m args below meth c F _ _ cells slots ls hR' (fun z hz => by
      rcases List.mem_append.mp hz with h | h
      · exact hL z h
      · obtain ⟨y, -, hy⟩ := List.mem_map.mp h
        rw [← hy]
        exact hbb) hc hs hl _ hheap X'
  exact ⟨t, step t a1, b1⟩
/-- the words of a call across the nest -/
def fx_mn (own : String) (idx n : Nat) (M' : fx_M) (host : String) : Prop := fx_cw M' ∈ fx_tb ∧ Cond.initialized (fx_y M').cls ∈ fx_tb ∧ ((fx_y M').cls ≠ "java/lang/invoke/MethodHandle" ∧ (fx_y M').cls ≠ "java/lang/invoke/VarHandle") ∧ (parseMethodDescriptor (fx_y M').desc).map (fun d => d.parameters.length) = some n ∧ Cond.methodLinkNest own idx (fx_y M') host ∈ fx_tb
theorem fx_nest (ok : fx_ok g) {own host : String} {idx : Nat} {y : MethodName} (hlk : Cond.methodLinkNest own idx y host ∈ fx_tb) {s : State} (hW : (fx_s0 g).WarmedH s.vm) {args : Array Value} : (Cond.methodLinkNest own idx y host).before args s = true := va_Nw.use rfl (va_Nw.warmM hW (va_Nw.of rfl (ok.2.1 _ hlk)))
theorem fx_siteSN (ok : fx_ok g) {idx : Nat} {host : String} {as : List Value} (hm : fx_mn (fx_y M).cls idx as.length M' host) (hst : Cond.static (fx_y M') ∈ fx_tb) (d : decode (fx_cc M) pc = .ok (.invokestatic idx, 3)) : fx_Site g M M' pc h as st (as.reverse ++ st) := by
  intro p e R s m args below meth c F H locs cells slots ls hR hsz T hT X
  obtain ⟨hcw, hini, hy, hlen, hlk⟩ := hm
  have hW := F.2.2.2.2.2.1
  have hcode : (fx_cw M').before args s = true := fx_word ok hcw fx_gcw hW
  obtain ⟨mk, hnamed⟩ := fx_named hcode
  obtain ⟨methM, cM, hmethM, -, -, -, -, -, -, hsigM⟩ := fx_cw_spec hnamed hcode
  have hstatic : methM.isStatic = true := Cond.static_spec (args := args) hnamed hmethM (fx_word ok hst (by first | rfl | simp [goodWord, Cond.onTables, Cond.keeps, Cond.steady]) hW)
  obtain ⟨kP, hkP, -⟩ := className_of_methodNamed hnamed
  have hinitP : kP.init = .initialized := Cond.initialized_spec (args := args) (findClass_of_methodNamed hnamed) hkP (fx_word ok hini (by first | rfl | simp [goodWord, Cond.onTables, Cond.keeps, Cond.steady]) hW)
  have hlen' : as.length = methM.sig.parameters.length := by
    rw [hsigM] at hlen
    exact (Option.some.inj hlen).symm
  have d' : decode c.code pc = .ok (.invokestatic idx, 3) := by rw [F.2.1]; exact d
  obtain ⟨vm₁, X₁, hstep₁⟩ := X.invokestaticNest F.1 F.2.2.2.2.2.2.1 (fx_nest ok hlk hW) hnamed hmethM hstatic hkP hinitP hy (g := F0 m pc ls (as.reverse ++ st)) rfl (argsL := as) (rest := st) hlen' rfl d'
  exact ⟨vm₁, mk, _, X₁, X₁.named hnamed, d', fun target h => hstep₁ _ fun acts => by rw [doInvoke_state]; exact h⟩
theorem fx_siteVN (ok : fx_ok g) {idx b ci : Nat} {host : String} {as : List Value} {q : vw_C} (hm : fx_mn (fx_y M).cls idx as.length M' host) (hin : Cond.instanceMethod (fx_y M') ∈ fx_tb) (hse : Cond.selects (fx_y M').cls (fx_y M') (fx_y M') ∈ fx_tb) (hs : fx_s h b = some (.inl ci)) (hq : fx_cl[ci]? = some q) (hqc : q.1 = (fx_y M').cls)
    (d : decode (fx_cc M) pc = .ok (.invokevirtual idx, 3)) : fx_Site g M M' pc h (.ref b :: as) st (as.reverse ++ .ref b :: st) := by
  intro p e R s m args below meth c F H locs cells slots ls hR hsz T hT X
  obtain ⟨hcw, hini, hy, hlen, hlk⟩ := hm
  have hW := F.2.2.2.2.2.1
  have hcode : (fx_cw M').before args s = true := fx_word ok hcw fx_gcw hW
  obtain ⟨mk, methM, hnamed, hmethM, hstM, habM⟩ := Cond.instanceMethod_spec (args := args) (fx_word ok hin (by first | rfl | simp [goodWord, Cond.onTables, Cond.keeps, Cond.steady]) hW)
  obtain ⟨methM', cM, hmethM', -, -, -, -, -, -, hsigM⟩ := fx_cw_spec hnamed hcode
  cases hmethM.symm.trans hmethM'
  obtain ⟨⟨r, h1, cellB, q1, q2, q3, -⟩, -⟩ := (hR.2.2.2 b _ hs).2.2
  cases Option.some.inj (h1.symm.trans hq)
  have hKn := fx_Kn ok hW hq
  have hcls : s.vm.findClass (fx_y M').cls = some cellB.cls := by
    rw [q2, ← hqc]
    exact hKn.2.1
  obtain ⟨c2, r2, m2, p1, p2, p3, p4, kP, hkP, hkPi⟩ := Cond.selects_spec (args := args) (fx_word ok hse (by first | rfl | simp [goodWord, Cond.onTables, Cond.keeps, Cond.steady]) hW)
  cases hcls.symm.trans p1
  cases (State.methodFound?_of_named hnamed hy).symm.trans p2
  cases hnamed.symm.trans p3
  have hselP : selectMethod e.platform s.vm cellB.cls mk = .method mk := by rw [Launch.admits_selectMethod X.admits]; exact p4
  have hlen' : as.length = methM.sig.parameters.length := by
    rw [hsigM] at hlen
    exact (Option.some.inj hlen).symm
  have d' : decode c.code pc = .ok (.invokevirtual idx, 3) := by rw [F.2.1]; exact d
  obtain ⟨vm₁, X₁, hstep₁⟩ := X.invokevirtualNest F.1 F.2.2.2.2.2.2.1 (fx_nest ok hlk hW) hnamed hmethM hstM hkP hkPi hy (a := b) (cell := cellB) (by rw [hT]; exact q1)
    (fun z hz => by rw [q3] at hz; cases hz) hselP hmethM habM hkP hkPi (g := F0 m pc ls (as.reverse ++ .ref b :: st)) rfl (argsL := as) (rest := st) hlen' rfl d'
  exact ⟨vm₁, mk, _, X₁, X₁.named hnamed, d', fun target h => hstep₁ _ fun acts => by rw [doInvoke_state]; exact h⟩
theorem fx_siteIN (ok : fx_ok g) {idx b : Nat} {host : String} {as : List Value} (hm : fx_mn (fx_y M).cls idx as.length M' host) (hin : Cond.instanceMethod (fx_y M') ∈ fx_tb) (hnm : (fx_y M').name = "<init>") (hh : fx_hd M' = []) (hrt : fx_rt M' = none)
    (d : decode (fx_cc M) pc = .ok (.invokespecial idx, 3)) : fx_Site g M M' pc h (.ref b :: as) st (as.reverse ++ .ref b :: st) := by
  intro p e R s m args below meth c F H locs cells slots ls hR hsz T hT X
  obtain ⟨hcw, hini, hy, hlen, hlk⟩ := hm
  have hW := F.2.2.2.2.2.1
  have hcode : (Cond.code (fx_y M') (fx_cc M') (fx_ml M') none).before args s = true := by
    have h9 : (fx_cw M').before args s = true := fx_word ok hcw fx_gcw hW
    rw [fx_cw, hh] at h9
    rw [← hrt]
    exact h9
  have hpl : e.platform.magicAccessors = ({} : Platform).magicAccessors := by rw [X.admits.platform]
  have d' : decode c.code pc = .ok (.invokespecial idx, 3) := by rw [F.2.1]; exact d
  obtain ⟨mk, methM, cM, kP, vm₁, hnamed, hmethM, hcodeM, -, hlocalsM, -, hkP, -, hW₁, hstep₁⟩ := Steps.initColdArgsNest (e := e) X.here F.1 X.warmed hpl F.2.2.2.2.2.2.1 hnm hy (fx_nest ok hlk hW) (fx_word ok hin (by first | rfl | simp [goodWord, Cond.onTables, Cond.keeps, Cond.steady]) hW) hcode (f := F0 m pc ls (as.reverse ++ .ref b :: st)) rfl
    (argsL := as) (rest := st) (fun sig hsig => by rw [hsig] at hlen; exact (Option.some.inj hlen).symm) rfl d'
  have X₁ := X.noted hW₁
  exact ⟨vm₁, mk, _, X₁, X₁.named hnamed, d', fun target h => hstep₁ _ fun acts => by rw [doInvoke_state]; exact h⟩
end FXO
