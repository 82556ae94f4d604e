/-! ===== catching by name; constants by a wide index; switches; calls by their arity ===== -/
section FXS
variable {g : fx_G} {M M' : fx_M} {pc : Nat} {lv : List (Nat × Value)} {st : List Value} {h k : fx_H} {Q : fx_O → fx_H → Prop} {mc ms mc' ms' : Nat} {x : Int32}
theorem fx_T_catch (ok : fx_ok g) {E name : String} {pre' suf' : List (Nat × Nat × Nat × Nat)} {a b hp ct : Nat} (hh : fx_hd M = pre' ++ (a, b, hp, ct) :: suf') (hab : a ≤ pc ∧ pc < b) (h0 : ct ≠ 0) (hlk : Cond.classLink (fx_y M).cls ct name ∈ fx_tb) (hcast : Cond.castable E name ∈ fx_tb)
    (hpass : ∀ r ∈ pre', ¬ (r.1 ≤ pc ∧ pc < r.2.1) ∨ (r.2.2.2 ≠ 0 ∧ ∃ nm, Cond.classLink (fx_y M).cls r.2.2.2 nm ∈ fx_tb ∧ Cond.not (.castable E nm) ∈ fx_tb)) (K : ∀ q, fx_X g M hp lv [.ref q] h Q mc ms) : fx_T g M pc lv E h Q mc ms := by
  intro p e R s m args below meth c F H locs cells slots ls rest q ce hR hL hc hs hl hce hv hcl T hT X
  have hW := F.2.2.2.2.2.1
  have hown := F.2.2.2.2.2.2.1
  have hpl : e.platform.magicAccessors = ({} : Platform).magicAccessors := by rw [X.admits.platform]
  have hrows : c.exceptionTable.toList.map (fun h => (h.startPc, h.endPc, h.handlerPc, h.catchType)) = pre' ++ (a, b, hp, ct) :: suf' := F.2.2.2.2.2.2.2.2.1.trans hh
  obtain ⟨l1, l2, hsplit, h1, h2⟩ := List.map_eq_append_iff.mp hrows
  obtain ⟨y, l3, hl2, hy, h3⟩ := List.map_eq_cons_iff.mp h2
  subst hl2
  simp only [Prod.mk.injEq] at hy
  obtain ⟨y1, y2, y3, y4⟩ := hy
  obtain ⟨c3, c4, hc3, hc4, hasg⟩ := Cond.castable_spec (args := args) (fx_cast ok hcast hW)
  cases Option.some.inj (hc3.symm.trans hcl)
  obtain ⟨c5, hc5, hcl5⟩ := Cond.classLink_spec hown (fx_word ok hlk (by first | rfl | simp [goodWord, Cond.onTables, Cond.keeps, Cond.steady]) hW (args := args)) e.platform hpl
  cases Option.some.inj (hc4.symm.trans hc5)
  obtain ⟨kc, hkc, -⟩ := Vm.findClass_spec hcl
  obtain ⟨vm', X', st'⟩ := fx_caught X q (gf := F0 m pc ls rest) rfl (by rw [hT]; exact hce) hv ⟨kc, hkc⟩ l1 y l3 hsplit (fun z hz => by
      have hz' : (z.startPc, z.endPc, z.handlerPc, z.catchType) ∈ pre' := by
        rw [← h1]
        exact List.mem_map.mpr ⟨z, hz, rfl⟩
      rcases hpass _ hz' with h9 | ⟨h9, nm, hn1, hn2⟩
      · refine Or.inl ?_
        have h8 : ¬ (z.startPc ≤ pc ∧ pc < z.endPc) := h9
        simp only [covers]
        simpa using h8
      · obtain ⟨a8, b8, g1, g2, g3⟩ := (va_Nc.of (ok.2.1 _ hn2)).moved hW.alike
        cases Option.some.inj (g1.symm.trans hcl)
        obtain ⟨c6, hc6, hcl6⟩ := Cond.classLink_spec hown (fx_word ok hn1 (by first | rfl | simp [goodWord, Cond.onTables, Cond.keeps, Cond.steady]) hW (args := args)) e.platform hpl
        cases Option.some.inj (g2.symm.trans hc6)
        exact Or.inr ⟨h9, _, hcl6, g3⟩) (by simp only [covers]; rw [y1, y2]; simpa using hab) (by rw [y4]; exact h0) (by rw [y4]; exact hcl5) hasg
  rw [y3] at st'
  obtain ⟨t, a1, b1⟩ := K q p e R s m args below meth c F H locs cells slots ls hR hL hc hs hl (T.setVm vm') hT X'
  exact ⟨t, st' t a1, b1⟩
theorem fx_ldc_w (ok : fx_ok g) {idx : Nat} {v : Int32} (hk : Cond.constant (fx_y M).cls idx v ∈ fx_tb) (d : decode (fx_cc M) pc = .ok (.ldc_w idx, 3)) (K : fx_X g M (pc + 3) lv (.int v :: st) h Q mc ms) : fx_X g M pc lv st h Q mc ms := by
  intro p e R s m args below meth c F H locs cells slots ls hR hL hc hs hl T hT X
  obtain ⟨t, a1, b1⟩ := K p e R s m args below meth c F H locs cells slots ls hR hL hc hs hl T hT X
  refine ⟨t, ?_, b1⟩
  obtain ⟨kc, cf, bytes, hkc, hcf, hcp, hb⟩ := Cond.constant_spec F.2.2.2.2.2.2.1 (fx_word ok hk (by first | rfl | simp [goodWord, Cond.onTables, Cond.keeps, Cond.steady]) F.2.2.2.2.2.1 (args := args))
  obtain ⟨k', hk', he⟩ := X.warmed.alike.2.2 _ _ hkc
  have d' : decode c.code pc = .ok (.ldc_w idx, 3) := by rw [F.2.1]; exact d
  jvm_step X.here [F.1, d', ldc_w.wp_int (s := T) (f := F0 m pc ls st) X.here.top hk' (by rw [he]; exact hcf) hcp, hb]
  exact a1
theorem fx_tsIn {dflt lo hi off : Int} {offs : Array Int} {len tgt : Nat} (d : decode (fx_cc M) pc = .ok (.tableswitch dflt lo hi offs, len)) (h1 : ¬ x.toInt < lo) (h2 : ¬ hi < x.toInt) (ho : offs[(x.toInt - lo).toNat]? = some off) (ht : (pc : Int) + off = (tgt : Int)) (K : fx_X g M tgt lv st h Q mc ms) : fx_X g M pc lv (.int x :: st) h Q mc ms := by
  intro p e R s m args below meth c F H locs cells slots ls hR hL hc hs hl
  exact lv_tableIn F.1 F.2.1 d h1 h2 ho ht (K p e R s m args below meth c F H locs cells slots ls hR hL hc hs hl)
theorem fx_tsOut {dflt lo hi : Int} {offs : Array Int} {len tgt : Nat} (d : decode (fx_cc M) pc = .ok (.tableswitch dflt lo hi offs, len)) (h1 : x.toInt < lo ∨ hi < x.toInt) (ht : (pc : Int) + dflt = (tgt : Int)) (K : fx_X g M tgt lv st h Q mc ms) : fx_X g M pc lv (.int x :: st) h Q mc ms := by
  intro p e R s m args below meth c F H locs cells slots ls hR hL hc hs hl
  exact lv_tableOut F.1 F.2.1 d h1 ht (K p e R s m args below meth c F H locs cells slots ls hR hL hc hs hl)
theorem fx_widen {mc2 ms2 : Nat} (h1 : mc ≤ mc2) (h2 : ms ≤ ms2) (K : fx_X g M pc lv st h Q mc ms) : fx_X g M pc lv st h Q mc2 ms2 := by
  intro p e R s m args below meth c F H locs cells slots ls hR hL hc hs hl
  exact K p e R s m args below meth c F H locs cells slots ls hR hL (by omega) (by omega) hl
abbrev fx_is (v : Option Int32) (k : fx_H) : fx_O → fx_H → Prop := fun o h' => o = .inl v ∧ h' = k
abbrev fx_th (E : String) (k : fx_H) : fx_O → fx_H → Prop := fun o h' => o = .inr E ∧ h' = k
theorem fx_callR (ok : fx_ok g) {as st' : List Value} {v : Option Int32} (hC : fx_C g M' as h (fx_is v k) mc' ms') (S : fx_Site g M M' pc h as st st') (hcw : fx_cw M' ∈ fx_tb) (hini : Cond.initialized (fx_y M').cls ∈ fx_tb) (hlv : fx_lv M' + 1 ≤ fx_lv M) (hlo : (st.map fun v => v.category).sum + (fx_ml M' + 11) + fx_lw M' ≤ fx_lw M)
    (K : fx_X g M (pc + 3) lv ((v.map Value.int).toList ++ st) k Q mc ms) : fx_X g M pc lv st' h Q (mc' + mc) (ms' + ms) :=
  fx_call ok hC S hcw hini hlv hlo (fun v' h' hq => by obtain ⟨e1, rfl⟩ := hq; cases e1; exact K) (fun E h' hq => by cases hq.1)
theorem fx_callR0 (ok : fx_ok g) {as st' : List Value} {v : Option Int32} (hC : fx_C g M' as h (fx_is v k) 0 0) (S : fx_Site g M M' pc h as st st') (hcw : fx_cw M' ∈ fx_tb) (hini : Cond.initialized (fx_y M').cls ∈ fx_tb) (hlv : fx_lv M' + 1 ≤ fx_lv M) (hlo : (st.map fun v => v.category).sum + (fx_ml M' + 11) + fx_lw M' ≤ fx_lw M)
    (K : fx_X g M (pc + 3) lv ((v.map Value.int).toList ++ st) k Q mc ms) : fx_X g M pc lv st' h Q mc ms := by
  have h9 := fx_callR ok hC S hcw hini hlv hlo K
  rw [Nat.zero_add, Nat.zero_add] at h9
  exact h9
theorem fx_callT (ok : fx_ok g) {as st' : List Value} {E : String} (hC : fx_C g M' as h (fx_th E k) mc' ms') (S : fx_Site g M M' pc h as st st') (hcw : fx_cw M' ∈ fx_tb) (hini : Cond.initialized (fx_y M').cls ∈ fx_tb) (hlv : fx_lv M' + 1 ≤ fx_lv M) (hlo : (st.map fun v => v.category).sum + (fx_ml M' + 11) + fx_lw M' ≤ fx_lw M)
    (K : fx_T g M pc lv E k Q mc ms) : fx_X g M pc lv st' h Q (mc' + mc) (ms' + ms) :=
  fx_call ok hC S hcw hini hlv hlo (fun v' h' hq => by cases hq.1) (fun E' h' hq => by obtain ⟨e1, rfl⟩ := hq; cases e1; exact K)
/-- the words of a static call, of a call on an object, of a constructor -/
abbrev fx_wS (own : String) (idx n : Nat) (M' : fx_M) : Prop := fx_mw own idx n M' ∧ Cond.static (fx_y M') ∈ fx_tb
abbrev fx_wV (own : String) (idx n : Nat) (M' : fx_M) (ci : Nat) : Prop := fx_mw own idx n M' ∧ Cond.instanceMethod (fx_y M') ∈ fx_tb ∧ Cond.selects (fx_y M').cls (fx_y M') (fx_y M') ∈ fx_tb ∧ ∃ q : vw_C, fx_cl[ci]? = some q ∧ q.1 = (fx_y M').cls
abbrev fx_wI (own : String) (idx n : Nat) (M' : fx_M) : Prop := fx_mw own idx n M' ∧ Cond.instanceMethod (fx_y M') ∈ fx_tb ∧ (fx_y M').name = "<init>" ∧ fx_hd M' = [] ∧ fx_rt M' = none
abbrev fx_wN (own : String) (idx n : Nat) (M' : fx_M) (host : String) : Prop := fx_mn own idx n M' host ∧ Cond.instanceMethod (fx_y M') ∈ fx_tb ∧ (fx_y M').name = "<init>" ∧ fx_hd M' = [] ∧ fx_rt M' = none
abbrev fx_wSN (own : String) (idx n : Nat) (M' : fx_M) (host : String) : Prop := fx_mn own idx n M' host ∧ Cond.static (fx_y M') ∈ fx_tb
theorem fx_Si0 (ok : fx_ok g) {idx : Nat} (w : fx_wS (fx_y M).cls idx 0 M') (hC : fx_C g M' ([] : List Value) h (fx_is (some x) k) 0 0) (hlv : fx_lv M' + 1 ≤ fx_lv M) (hlo : (st.map fun v => v.category).sum + (fx_ml M' + 11) + fx_lw M' ≤ fx_lw M) (d : decode (fx_cc M) pc = .ok (.invokestatic idx, 3))
    (K : fx_X g M (pc + 3) lv (.int x :: st) k Q mc ms) : fx_X g M pc lv (st) h Q mc ms :=
  fx_callR0 ok hC (fx_siteS ok (as := []) w.1 w.2 d) w.1.1 w.1.2.1 hlv hlo K
theorem fx_Sv0 (ok : fx_ok g) {idx : Nat} (w : fx_wS (fx_y M).cls idx 0 M') (hC : fx_C g M' ([] : List Value) h (fx_is none k) 0 0) (hlv : fx_lv M' + 1 ≤ fx_lv M) (hlo : (st.map fun v => v.category).sum + (fx_ml M' + 11) + fx_lw M' ≤ fx_lw M) (d : decode (fx_cc M) pc = .ok (.invokestatic idx, 3))
    (K : fx_X g M (pc + 3) lv st k Q mc ms) : fx_X g M pc lv (st) h Q mc ms :=
  fx_callR0 ok hC (fx_siteS ok (as := []) w.1 w.2 d) w.1.1 w.1.2.1 hlv hlo K
theorem fx_Sa0 (ok : fx_ok g) {idx : Nat} (w : fx_wS (fx_y M).cls idx 0 M') (hC : fx_C g M' ([] : List Value) h (fx_is none k) mc' ms') (hlv : fx_lv M' + 1 ≤ fx_lv M) (hlo : (st.map fun v => v.category).sum + (fx_ml M' + 11) + fx_lw M' ≤ fx_lw M) (d : decode (fx_cc M) pc = .ok (.invokestatic idx, 3))
    (K : fx_X g M (pc + 3) lv st k Q mc ms) : fx_X g M pc lv (st) h Q (mc' + mc) (ms' + ms) :=
  fx_callR ok hC (fx_siteS ok (as := []) w.1 w.2 d) w.1.1 w.1.2.1 hlv hlo K
theorem fx_Sb0 (ok : fx_ok g) {idx : Nat} (w : fx_wS (fx_y M).cls idx 0 M') (hC : fx_C g M' ([] : List Value) h (fx_is (some x) k) mc' ms') (hlv : fx_lv M' + 1 ≤ fx_lv M) (hlo : (st.map fun v => v.category).sum + (fx_ml M' + 11) + fx_lw M' ≤ fx_lw M) (d : decode (fx_cc M) pc = .ok (.invokestatic idx, 3))
    (K : fx_X g M (pc + 3) lv (.int x :: st) k Q mc ms) : fx_X g M pc lv (st) h Q (mc' + mc) (ms' + ms) :=
  fx_callR ok hC (fx_siteS ok (as := []) w.1 w.2 d) w.1.1 w.1.2.1 hlv hlo K
theorem fx_St0 (ok : fx_ok g) {idx : Nat} (w : fx_wS (fx_y M).cls idx 0 M') {E : String} (hC : fx_C g M' ([] : List Value) h (fx_th E k) mc' ms') (hlv : fx_lv M' + 1 ≤ fx_lv M) (hlo : (st.map fun v => v.category).sum + (fx_ml M' + 11) + fx_lw M' ≤ fx_lw M) (d : decode (fx_cc M) pc = .ok (.invokestatic idx, 3))
    (K : fx_T g M pc lv E k Q mc ms) : fx_X g M pc lv (st) h Q (mc' + mc) (ms' + ms) :=
  fx_callT ok hC (fx_siteS ok (as := []) w.1 w.2 d) w.1.1 w.1.2.1 hlv hlo K
theorem fx_Vi0 (ok : fx_ok g) {idx : Nat} {b ci : Nat} (w : fx_wV (fx_y M).cls idx 0 M' ci) (hb : fx_s h b = some (.inl ci)) (hC : fx_C g M' (Value.ref b :: []) h (fx_is (some x) k) 0 0) (hlv : fx_lv M' + 1 ≤ fx_lv M) (hlo : (st.map fun v => v.category).sum + (fx_ml M' + 11) + fx_lw M' ≤ fx_lw M) (d : decode (fx_cc M) pc = .ok (.invokevirtual idx, 3))
    (K : fx_X g M (pc + 3) lv (.int x :: st) k Q mc ms) : fx_X g M pc lv (Value.ref b :: st) h Q mc ms := by
  obtain ⟨q, hq, hqc⟩ := w.2.2.2
  exact fx_callR0 ok hC (fx_siteV ok (as := []) w.1 w.2.1 w.2.2.1 hb hq hqc d) w.1.1 w.1.2.1 hlv hlo K
theorem fx_Vv0 (ok : fx_ok g) {idx : Nat} {b ci : Nat} (w : fx_wV (fx_y M).cls idx 0 M' ci) (hb : fx_s h b = some (.inl ci)) (hC : fx_C g M' (Value.ref b :: []) h (fx_is none k) 0 0) (hlv : fx_lv M' + 1 ≤ fx_lv M) (hlo : (st.map fun v => v.category).sum + (fx_ml M' + 11) + fx_lw M' ≤ fx_lw M) (d : decode (fx_cc M) pc = .ok (.invokevirtual idx, 3))
    (K : fx_X g M (pc + 3) lv st k Q mc ms) : fx_X g M pc lv (Value.ref b :: st) h Q mc ms := by
  obtain ⟨q, hq, hqc⟩ := w.2.2.2
  exact fx_callR0 ok hC (fx_siteV ok (as := []) w.1 w.2.1 w.2.2.1 hb hq hqc d) w.1.1 w.1.2.1 hlv hlo K
theorem fx_Va0 (ok : fx_ok g) {idx : Nat} {b ci : Nat} (w : fx_wV (fx_y M).cls idx 0 M' ci) (hb : fx_s h b = some (.inl ci)) (hC : fx_C g M' (Value.ref b :: []) h (fx_is none k) mc' ms') (hlv : fx_lv M' + 1 ≤ fx_lv M) (hlo : (st.map fun v => v.category).sum + (fx_ml M' + 11) + fx_lw M' ≤ fx_lw M) (d : decode (fx_cc M) pc = .ok (.invokevirtual idx, 3))
    (K : fx_X g M (pc + 3) lv st k Q mc ms) : fx_X g M pc lv (Value.ref b :: st) h Q (mc' + mc) (ms' + ms) := by
  obtain ⟨q, hq, hqc⟩ := w.2.2.2
  exact fx_callR ok hC (fx_siteV ok (as := []) w.1 w.2.1 w.2.2.1 hb hq hqc d) w.1.1 w.1.2.1 hlv hlo K
theorem fx_Vb0 (ok : fx_ok g) {idx : Nat} {b ci : Nat} (w : fx_wV (fx_y M).cls idx 0 M' ci) (hb : fx_s h b = some (.inl ci)) (hC : fx_C g M' (Value.ref b :: []) h (fx_is (some x) k) mc' ms') (hlv : fx_lv M' + 1 ≤ fx_lv M) (hlo : (st.map fun v => v.category).sum + (fx_ml M' + 11) + fx_lw M' ≤ fx_lw M) (d : decode (fx_cc M) pc = .ok (.invokevirtual idx, 3))
    (K : fx_X g M (pc + 3) lv (.int x :: st) k Q mc ms) : fx_X g M pc lv (Value.ref b :: st) h Q (mc' + mc) (ms' + ms) := by
  obtain ⟨q, hq, hqc⟩ := w.2.2.2
  exact fx_callR ok hC (fx_siteV ok (as := []) w.1 w.2.1 w.2.2.1 hb hq hqc d) w.1.1 w.1.2.1 hlv hlo K
theorem fx_Vt0 (ok : fx_ok g) {idx : Nat} {b ci : Nat} (w : fx_wV (fx_y M).cls idx 0 M' ci) (hb : fx_s h b = some (.inl ci)) {E : String} (hC : fx_C g M' (Value.ref b :: []) h (fx_th E k) mc' ms') (hlv : fx_lv M' + 1 ≤ fx_lv M) (hlo : (st.map fun v => v.category).sum + (fx_ml M' + 11) + fx_lw M' ≤ fx_lw M) (d : decode (fx_cc M) pc = .ok (.invokevirtual idx, 3))
    (K : fx_T g M pc lv E k Q mc ms) : fx_X g M pc lv (Value.ref b :: st) h Q (mc' + mc) (ms' + ms) := by
  obtain ⟨q, hq, hqc⟩ := w.2.2.2
  exact fx_callT ok hC (fx_siteV ok (as := []) w.1 w.2.1 w.2.2.1 hb hq hqc d) w.1.1 w.1.2.1 hlv hlo K
theorem fx_Si1 (ok : fx_ok g) {idx : Nat} {a1 : Value} (w : fx_wS (fx_y M).cls idx 1 M') (hC : fx_C g M' ([a1] : List Value) h (fx_is (some x) k) 0 0) (hlv : fx_lv M' + 1 ≤ fx_lv M) (hlo : (st.map fun v => v.category).sum + (fx_ml M' + 11) + fx_lw M' ≤ fx_lw M) (d : decode (fx_cc M) pc = .ok (.invokestatic idx, 3))
    (K : fx_X g M (pc + 3) lv (.int x :: st) k Q mc ms) : fx_X g M pc lv (a1 :: st) h Q mc ms :=
  fx_callR0 ok hC (fx_siteS ok (as := [a1]) w.1 w.2 d) w.1.1 w.1.2.1 hlv hlo K
theorem fx_Sv1 (ok : fx_ok g) {idx : Nat} {a1 : Value} (w : fx_wS (fx_y M).cls idx 1 M') (hC : fx_C g M' ([a1] : List Value) h (fx_is none k) 0 0) (hlv : fx_lv M' + 1 ≤ fx_lv M) (hlo : (st.map fun v => v.category).sum + (fx_ml M' + 11) + fx_lw M' ≤ fx_lw M) (d : decode (fx_cc M) pc = .ok (.invokestatic idx, 3))
    (K : fx_X g M (pc + 3) lv st k Q mc ms) : fx_X g M pc lv (a1 :: st) h Q mc ms :=
  fx_callR0 ok hC (fx_siteS ok (as := [a1]) w.1 w.2 d) w.1.1 w.1.2.1 hlv hlo K
theorem fx_Sa1 (ok : fx_ok g) {idx : Nat} {a1 : Value} (w : fx_wS (fx_y M).cls idx 1 M') (hC : fx_C g M' ([a1] : List Value) h (fx_is none k) mc' ms') (hlv : fx_lv M' + 1 ≤ fx_lv M) (hlo : (st.map fun v => v.category).sum + (fx_ml M' + 11) + fx_lw M' ≤ fx_lw M) (d : decode (fx_cc M) pc = .ok (.invokestatic idx, 3))
    (K : fx_X g M (pc + 3) lv st k Q mc ms) : fx_X g M pc lv (a1 :: st) h Q (mc' + mc) (ms' + ms) :=
  fx_callR ok hC (fx_siteS ok (as := [a1]) w.1 w.2 d) w.1.1 w.1.2.1 hlv hlo K
theorem fx_Sb1 (ok : fx_ok g) {idx : Nat} {a1 : Value} (w : fx_wS (fx_y M).cls idx 1 M') (hC : fx_C g M' ([a1] : List Value) h (fx_is (some x) k) mc' ms') (hlv : fx_lv M' + 1 ≤ fx_lv M) (hlo : (st.map fun v => v.category).sum + (fx_ml M' + 11) + fx_lw M' ≤ fx_lw M) (d : decode (fx_cc M) pc = .ok (.invokestatic idx, 3))
    (K : fx_X g M (pc + 3) lv (.int x :: st) k Q mc ms) : fx_X g M pc lv (a1 :: st) h Q (mc' + mc) (ms' + ms) :=
  fx_callR ok hC (fx_siteS ok (as := [a1]) w.1 w.2 d) w.1.1 w.1.2.1 hlv hlo K
theorem fx_St1 (ok : fx_ok g) {idx : Nat} {a1 : Value} (w : fx_wS (fx_y M).cls idx 1 M') {E : String} (hC : fx_C g M' ([a1] : List Value) h (fx_th E k) mc' ms') (hlv : fx_lv M' + 1 ≤ fx_lv M) (hlo : (st.map fun v => v.category).sum + (fx_ml M' + 11) + fx_lw M' ≤ fx_lw M) (d : decode (fx_cc M) pc = .ok (.invokestatic idx, 3))
    (K : fx_T g M pc lv E k Q mc ms) : fx_X g M pc lv (a1 :: st) h Q (mc' + mc) (ms' + ms) :=
  fx_callT ok hC (fx_siteS ok (as := [a1]) w.1 w.2 d) w.1.1 w.1.2.1 hlv hlo K
theorem fx_Vi1 (ok : fx_ok g) {idx : Nat} {b ci : Nat} {a1 : Value} (w : fx_wV (fx_y M).cls idx 1 M' ci) (hb : fx_s h b = some (.inl ci)) (hC : fx_C g M' (Value.ref b :: [a1]) h (fx_is (some x) k) 0 0) (hlv : fx_lv M' + 1 ≤ fx_lv M) (hlo : (st.map fun v => v.category).sum + (fx_ml M' + 11) + fx_lw M' ≤ fx_lw M) (d : decode (fx_cc M) pc = .ok (.invokevirtual idx, 3))
    (K : fx_X g M (pc + 3) lv (.int x :: st) k Q mc ms) : fx_X g M pc lv (a1 :: Value.ref b :: st) h Q mc ms := by
  obtain ⟨q, hq, hqc⟩ := w.2.2.2
  exact fx_callR0 ok hC (fx_siteV ok (as := [a1]) w.1 w.2.1 w.2.2.1 hb hq hqc d) w.1.1 w.1.2.1 hlv hlo K
theorem fx_Vv1 (ok : fx_ok g) {idx : Nat} {b ci : Nat} {a1 : Value} (w : fx_wV (fx_y M).cls idx 1 M' ci) (hb : fx_s h b = some (.inl ci)) (hC : fx_C g M' (Value.ref b :: [a1]) h (fx_is none k) 0 0) (hlv : fx_lv M' + 1 ≤ fx_lv M) (hlo : (st.map fun v => v.category).sum + (fx_ml M' + 11) + fx_lw M' ≤ fx_lw M) (d : decode (fx_cc M) pc = .ok (.invokevirtual idx, 3))
    (K : fx_X g M (pc + 3) lv st k Q mc ms) : fx_X g M pc lv (a1 :: Value.ref b :: st) h Q mc ms := by
  obtain ⟨q, hq, hqc⟩ := w.2.2.2
  exact fx_callR0 ok hC (fx_siteV ok (as := [a1]) w.1 w.2.1 w.2.2.1 hb hq hqc d) w.1.1 w.1.2.1 hlv hlo K
theorem fx_Va1 (ok : fx_ok g) {idx : Nat} {b ci : Nat} {a1 : Value} (w : fx_wV (fx_y M).cls idx 1 M' ci) (hb : fx_s h b = some (.inl ci)) (hC : fx_C g M' (Value.ref b :: [a1]) h (fx_is none k) mc' ms') (hlv : fx_lv M' + 1 ≤ fx_lv M) (hlo : (st.map fun v => v.category).sum + (fx_ml M' + 11) + fx_lw M' ≤ fx_lw M) (d : decode (fx_cc M) pc = .ok (.invokevirtual idx, 3))
    (K : fx_X g M (pc + 3) lv st k Q mc ms) : fx_X g M pc lv (a1 :: Value.ref b :: st) h Q (mc' + mc) (ms' + ms) := by
  obtain ⟨q, hq, hqc⟩ := w.2.2.2
  exact fx_callR ok hC (fx_siteV ok (as := [a1]) w.1 w.2.1 w.2.2.1 hb hq hqc d) w.1.1 w.1.2.1 hlv hlo K
theorem fx_Vb1 (ok : fx_ok g) {idx : Nat} {b ci : Nat} {a1 : Value} (w : fx_wV (fx_y M).cls idx 1 M' ci) (hb : fx_s h b = some (.inl ci)) (hC : fx_C g M' (Value.ref b :: [a1]) h (fx_is (some x) k) mc' ms') (hlv : fx_lv M' + 1 ≤ fx_lv M) (hlo : (st.map fun v => v.category).sum + (fx_ml M' + 11) + fx_lw M' ≤ fx_lw M) (d : decode (fx_cc M) pc = .ok (.invokevirtual idx, 3))
    (K : fx_X g M (pc + 3) lv (.int x :: st) k Q mc ms) : fx_X g M pc lv (a1 :: Value.ref b :: st) h Q (mc' + mc) (ms' + ms) := by
  obtain ⟨q, hq, hqc⟩ := w.2.2.2
  exact fx_callR ok hC (fx_siteV ok (as := [a1]) w.1 w.2.1 w.2.2.1 hb hq hqc d) w.1.1 w.1.2.1 hlv hlo K
theorem fx_Vt1 (ok : fx_ok g) {idx : Nat} {b ci : Nat} {a1 : Value} (w : fx_wV (fx_y M).cls idx 1 M' ci) (hb : fx_s h b = some (.inl ci)) {E : String} (hC : fx_C g M' (Value.ref b :: [a1]) h (fx_th E k) mc' ms') (hlv : fx_lv M' + 1 ≤ fx_lv M) (hlo : (st.map fun v => v.category).sum + (fx_ml M' + 11) + fx_lw M' ≤ fx_lw M) (d : decode (fx_cc M) pc = .ok (.invokevirtual idx, 3))
    (K : fx_T g M pc lv E k Q mc ms) : fx_X g M pc lv (a1 :: Value.ref b :: st) h Q (mc' + mc) (ms' + ms) := by
  obtain ⟨q, hq, hqc⟩ := w.2.2.2
  exact fx_callT ok hC (fx_siteV ok (as := [a1]) w.1 w.2.1 w.2.2.1 hb hq hqc d) w.1.1 w.1.2.1 hlv hlo K
theorem fx_Si2 (ok : fx_ok g) {idx : Nat} {a1 a2 : Value} (w : fx_wS (fx_y M).cls idx 2 M') (hC : fx_C g M' ([a1, a2] : List Value) h (fx_is (some x) k) 0 0) (hlv : fx_lv M' + 1 ≤ fx_lv M) (hlo : (st.map fun v => v.category).sum + (fx_ml M' + 11) + fx_lw M' ≤ fx_lw M) (d : decode (fx_cc M) pc = .ok (.invokestatic idx, 3))
    (K : fx_X g M (pc + 3) lv (.int x :: st) k Q mc ms) : fx_X g M pc lv (a2 :: a1 :: st) h Q mc ms :=
  fx_callR0 ok hC (fx_siteS ok (as := [a1, a2]) w.1 w.2 d) w.1.1 w.1.2.1 hlv hlo K
theorem fx_Sv2 (ok : fx_ok g) {idx : Nat} {a1 a2 : Value} (w : fx_wS (fx_y M).cls idx 2 M') (hC : fx_C g M' ([a1, a2] : List Value) h (fx_is none k) 0 0) (hlv : fx_lv M' + 1 ≤ fx_lv M) (hlo : (st.map fun v => v.category).sum + (fx_ml M' + 11) + fx_lw M' ≤ fx_lw M) (d : decode (fx_cc M) pc = .ok (.invokestatic idx, 3))
    (K : fx_X g M (pc + 3) lv st k Q mc ms) : fx_X g M pc lv (a2 :: a1 :: st) h Q mc ms :=
  fx_callR0 ok hC (fx_siteS ok (as := [a1, a2]) w.1 w.2 d) w.1.1 w.1.2.1 hlv hlo K
theorem fx_Sa2 (ok : fx_ok g) {idx : Nat} {a1 a2 : Value} (w : fx_wS (fx_y M).cls idx 2 M') (hC : fx_C g M' ([a1, a2] : List Value) h (fx_is none k) mc' ms') (hlv : fx_lv M' + 1 ≤ fx_lv M) (hlo : (st.map fun v => v.category).sum + (fx_ml M' + 11) + fx_lw M' ≤ fx_lw M) (d : decode (fx_cc M) pc = .ok (.invokestatic idx, 3))
    (K : fx_X g M (pc + 3) lv st k Q mc ms) : fx_X g M pc lv (a2 :: a1 :: st) h Q (mc' + mc) (ms' + ms) :=
  fx_callR ok hC (fx_siteS ok (as := [a1, a2]) w.1 w.2 d) w.1.1 w.1.2.1 hlv hlo K
theorem fx_Sb2 (ok : fx_ok g) {idx : Nat} {a1 a2 : Value} (w : fx_wS (fx_y M).cls idx 2 M') (hC : fx_C g M' ([a1, a2] : List Value) h (fx_is (some x) k) mc' ms') (hlv : fx_lv M' + 1 ≤ fx_lv M) (hlo : (st.map fun v => v.category).sum + (fx_ml M' + 11) + fx_lw M' ≤ fx_lw M) (d : decode (fx_cc M) pc = .ok (.invokestatic idx, 3))
    (K : fx_X g M (pc + 3) lv (.int x :: st) k Q mc ms) : fx_X g M pc lv (a2 :: a1 :: st) h Q (mc' + mc) (ms' + ms) :=
  fx_callR ok hC (fx_siteS ok (as := [a1, a2]) w.1 w.2 d) w.1.1 w.1.2.1 hlv hlo K
theorem fx_St2 (ok : fx_ok g) {idx : Nat} {a1 a2 : Value} (w : fx_wS (fx_y M).cls idx 2 M') {E : String} (hC : fx_C g M' ([a1, a2] : List Value) h (fx_th E k) mc' ms') (hlv : fx_lv M' + 1 ≤ fx_lv M) (hlo : (st.map fun v => v.category).sum + (fx_ml M' + 11) + fx_lw M' ≤ fx_lw M) (d : decode (fx_cc M) pc = .ok (.invokestatic idx, 3))
    (K : fx_T g M pc lv E k Q mc ms) : fx_X g M pc lv (a2 :: a1 :: st) h Q (mc' + mc) (ms' + ms) :=
  fx_callT ok hC (fx_siteS ok (as := [a1, a2]) w.1 w.2 d) w.1.1 w.1.2.1 hlv hlo K
theorem fx_Vi2 (ok : fx_ok g) {idx : Nat} {b ci : Nat} {a1 a2 : Value} (w : fx_wV (fx_y M).cls idx 2 M' ci) (hb : fx_s h b = some (.inl ci)) (hC : fx_C g M' (Value.ref b :: [a1, a2]) h (fx_is (some x) k) 0 0) (hlv : fx_lv M' + 1 ≤ fx_lv M) (hlo : (st.map fun v => v.category).sum + (fx_ml M' + 11) + fx_lw M' ≤ fx_lw M) (d : decode (fx_cc M) pc = .ok (.invokevirtual idx, 3))
    (K : fx_X g M (pc + 3) lv (.int x :: st) k Q mc ms) : fx_X g M pc lv (a2 :: a1 :: Value.ref b :: st) h Q mc ms := by
  obtain ⟨q, hq, hqc⟩ := w.2.2.2
  exact fx_callR0 ok hC (fx_siteV ok (as := [a1, a2]) w.1 w.2.1 w.2.2.1 hb hq hqc d) w.1.1 w.1.2.1 hlv hlo K
theorem fx_Vv2 (ok : fx_ok g) {idx : Nat} {b ci : Nat} {a1 a2 : Value} (w : fx_wV (fx_y M).cls idx 2 M' ci) (hb : fx_s h b = some (.inl ci)) (hC : fx_C g M' (Value.ref b :: [a1, a2]) h (fx_is none k) 0 0) (hlv : fx_lv M' + 1 ≤ fx_lv M) (hlo : (st.map fun v => v.category).sum + (fx_ml M' + 11) + fx_lw M' ≤ fx_lw M) (d : decode (fx_cc M) pc = .ok (.invokevirtual idx, 3))
    (K : fx_X g M (pc + 3) lv st k Q mc ms) : fx_X g M pc lv (a2 :: a1 :: Value.ref b :: st) h Q mc ms := by
  obtain ⟨q, hq, hqc⟩ := w.2.2.2
  exact fx_callR0 ok hC (fx_siteV ok (as := [a1, a2]) w.1 w.2.1 w.2.2.1 hb hq hqc d) w.1.1 w.1.2.1 hlv hlo K
theorem fx_Va2 (ok : fx_ok g) {idx : Nat} {b ci : Nat} {a1 a2 : Value} (w : fx_wV (fx_y M).cls idx 2 M' ci) (hb : fx_s h b = some (.inl ci)) (hC : fx_C g M' (Value.ref b :: [a1, a2]) h (fx_is none k) mc' ms') (hlv : fx_lv M' + 1 ≤ fx_lv M) (hlo : (st.map fun v => v.category).sum + (fx_ml M' + 11) + fx_lw M' ≤ fx_lw M) (d : decode (fx_cc M) pc = .ok (.invokevirtual idx, 3))
    (K : fx_X g M (pc + 3) lv st k Q mc ms) : fx_X g M pc lv (a2 :: a1 :: Value.ref b :: st) h Q (mc' + mc) (ms' + ms) := by
  obtain ⟨q, hq, hqc⟩ := w.2.2.2
  exact fx_callR ok hC (fx_siteV ok (as := [a1, a2]) w.1 w.2.1 w.2.2.1 hb hq hqc d) w.1.1 w.1.2.1 hlv hlo K
theorem fx_Vb2 (ok : fx_ok g) {idx : Nat} {b ci : Nat} {a1 a2 : Value} (w : fx_wV (fx_y M).cls idx 2 M' ci) (hb : fx_s h b = some (.inl ci)) (hC : fx_C g M' (Value.ref b :: [a1, a2]) h (fx_is (some x) k) mc' ms') (hlv : fx_lv M' + 1 ≤ fx_lv M) (hlo : (st.map fun v => v.category).sum + (fx_ml M' + 11) + fx_lw M' ≤ fx_lw M) (d : decode (fx_cc M) pc = .ok (.invokevirtual idx, 3))
    (K : fx_X g M (pc + 3) lv (.int x :: st) k Q mc ms) : fx_X g M pc lv (a2 :: a1 :: Value.ref b :: st) h Q (mc' + mc) (ms' + ms) := by
  obtain ⟨q, hq, hqc⟩ := w.2.2.2
  exact fx_callR ok hC (fx_siteV ok (as := [a1, a2]) w.1 w.2.1 w.2.2.1 hb hq hqc d) w.1.1 w.1.2.1 hlv hlo K
theorem fx_Vt2 (ok : fx_ok g) {idx : Nat} {b ci : Nat} {a1 a2 : Value} (w : fx_wV (fx_y M).cls idx 2 M' ci) (hb : fx_s h b = some (.inl ci)) {E : String} (hC : fx_C g M' (Value.ref b :: [a1, a2]) h (fx_th E k) mc' ms') (hlv : fx_lv M' + 1 ≤ fx_lv M) (hlo : (st.map fun v => v.category).sum + (fx_ml M' + 11) + fx_lw M' ≤ fx_lw M) (d : decode (fx_cc M) pc = .ok (.invokevirtual idx, 3))
    (K : fx_T g M pc lv E k Q mc ms) : fx_X g M pc lv (a2 :: a1 :: Value.ref b :: st) h Q (mc' + mc) (ms' + ms) := by
  obtain ⟨q, hq, hqc⟩ := w.2.2.2
  exact fx_callT ok hC (fx_siteV ok (as := [a1, a2]) w.1 w.2.1 w.2.2.1 hb hq hqc d) w.1.1 w.1.2.1 hlv hlo K
theorem fx_Si3 (ok : fx_ok g) {idx : Nat} {a1 a2 a3 : Value} (w : fx_wS (fx_y M).cls idx 3 M') (hC : fx_C g M' ([a1, a2, a3] : List Value) h (fx_is (some x) k) 0 0) (hlv : fx_lv M' + 1 ≤ fx_lv M) (hlo : (st.map fun v => v.category).sum + (fx_ml M' + 11) + fx_lw M' ≤ fx_lw M) (d : decode (fx_cc M) pc = .ok (.invokestatic idx, 3))
    (K : fx_X g M (pc + 3) lv (.int x :: st) k Q mc ms) : fx_X g M pc lv (a3 :: a2 :: a1 :: st) h Q mc ms :=
  fx_callR0 ok hC (fx_siteS ok (as := [a1, a2, a3]) w.1 w.2 d) w.1.1 w.1.2.1 hlv hlo K
theorem fx_Sv3 (ok : fx_ok g) {idx : Nat} {a1 a2 a3 : Value} (w : fx_wS (fx_y M).cls idx 3 M') (hC : fx_C g M' ([a1, a2, a3] : List Value) h (fx_is none k) 0 0) (hlv : fx_lv M' + 1 ≤ fx_lv M) (hlo : (st.map fun v => v.category).sum + (fx_ml M' + 11) + fx_lw M' ≤ fx_lw M) (d : decode (fx_cc M) pc = .ok (.invokestatic idx, 3))
    (K : fx_X g M (pc + 3) lv st k Q mc ms) : fx_X g M pc lv (a3 :: a2 :: a1 :: st) h Q mc ms :=
  fx_callR0 ok hC (fx_siteS ok (as := [a1, a2, a3]) w.1 w.2 d) w.1.1 w.1.2.1 hlv hlo K
theorem fx_Sa3 (ok : fx_ok g) {idx : Nat} {a1 a2 a3 : Value} (w : fx_wS (fx_y M).cls idx 3 M') (hC : fx_C g M' ([a1, a2, a3] : List Value) h (fx_is none k) mc' ms') (hlv : fx_lv M' + 1 ≤ fx_lv M) (hlo : (st.map fun v => v.category).sum + (fx_ml M' + 11) + fx_lw M' ≤ fx_lw M) (d : decode (fx_cc M) pc = .ok (.invokestatic idx, 3))
    (K : fx_X g M (pc + 3) lv st k Q mc ms) : fx_X g M pc lv (a3 :: a2 :: a1 :: st) h Q (mc' + mc) (ms' + ms) :=
  fx_callR ok hC (fx_siteS ok (as := [a1, a2, a3]) w.1 w.2 d) w.1.1 w.1.2.1 hlv hlo K
theorem fx_Sb3 (ok : fx_ok g) {idx : Nat} {a1 a2 a3 : Value} (w : fx_wS (fx_y M).cls idx 3 M') (hC : fx_C g M' ([a1, a2, a3] : List Value) h (fx_is (some x) k) mc' ms') (hlv : fx_lv M' + 1 ≤ fx_lv M) (hlo : (st.map fun v => v.category).sum + (fx_ml M' + 11) + fx_lw M' ≤ fx_lw M) (d : decode (fx_cc M) pc = .ok (.invokestatic idx, 3))
    (K : fx_X g M (pc + 3) lv (.int x :: st) k Q mc ms) : fx_X g M pc lv (a3 :: a2 :: a1 :: st) h Q (mc' + mc) (ms' + ms) :=
  fx_callR ok hC (fx_siteS ok (as := [a1, a2, a3]) w.1 w.2 d) w.1.1 w.1.2.1 hlv hlo K
theorem fx_St3 (ok : fx_ok g) {idx : Nat} {a1 a2 a3 : Value} (w : fx_wS (fx_y M).cls idx 3 M') {E : String} (hC : fx_C g M' ([a1, a2, a3] : List Value) h (fx_th E k) mc' ms') (hlv : fx_lv M' + 1 ≤ fx_lv M) (hlo : (st.map fun v => v.category).sum + (fx_ml M' + 11) + fx_lw M' ≤ fx_lw M) (d : decode (fx_cc M) pc = .ok (.invokestatic idx, 3))
    (K : fx_T g M pc lv E k Q mc ms) : fx_X g M pc lv (a3 :: a2 :: a1 :: st) h Q (mc' + mc) (ms' + ms) :=
  fx_callT ok hC (fx_siteS ok (as := [a1, a2, a3]) w.1 w.2 d) w.1.1 w.1.2.1 hlv hlo K
theorem fx_Vi3 (ok : fx_ok g) {idx : Nat} {b ci : Nat} {a1 a2 a3 : Value} (w : fx_wV (fx_y M).cls idx 3 M' ci) (hb : fx_s h b = some (.inl ci)) (hC : fx_C g M' (Value.ref b :: [a1, a2, a3]) h (fx_is (some x) k) 0 0) (hlv : fx_lv M' + 1 ≤ fx_lv M) (hlo : (st.map fun v => v.category).sum + (fx_ml M' + 11) + fx_lw M' ≤ fx_lw M) (d : decode (fx_cc M) pc = .ok (.invokevirtual idx, 3))
    (K : fx_X g M (pc + 3) lv (.int x :: st) k Q mc ms) : fx_X g M pc lv (a3 :: a2 :: a1 :: Value.ref b :: st) h Q mc ms := by
  obtain ⟨q, hq, hqc⟩ := w.2.2.2
  exact fx_callR0 ok hC (fx_siteV ok (as := [a1, a2, a3]) w.1 w.2.1 w.2.2.1 hb hq hqc d) w.1.1 w.1.2.1 hlv hlo K
theorem fx_Vv3 (ok : fx_ok g) {idx : Nat} {b ci : Nat} {a1 a2 a3 : Value} (w : fx_wV (fx_y M).cls idx 3 M' ci) (hb : fx_s h b = some (.inl ci)) (hC : fx_C g M' (Value.ref b :: [a1, a2, a3]) h (fx_is none k) 0 0) (hlv : fx_lv M' + 1 ≤ fx_lv M) (hlo : (st.map fun v => v.category).sum + (fx_ml M' + 11) + fx_lw M' ≤ fx_lw M) (d : decode (fx_cc M) pc = .ok (.invokevirtual idx, 3))
    (K : fx_X g M (pc + 3) lv st k Q mc ms) : fx_X g M pc lv (a3 :: a2 :: a1 :: Value.ref b :: st) h Q mc ms := by
  obtain ⟨q, hq, hqc⟩ := w.2.2.2
  exact fx_callR0 ok hC (fx_siteV ok (as := [a1, a2, a3]) w.1 w.2.1 w.2.2.1 hb hq hqc d) w.1.1 w.1.2.1 hlv hlo K
theorem fx_Va3 (ok : fx_ok g) {idx : Nat} {b ci : Nat} {a1 a2 a3 : Value} (w : fx_wV (fx_y M).cls idx 3 M' ci) (hb : fx_s h b = some (.inl ci)) (hC : fx_C g M' (Value.ref b :: [a1, a2, a3]) h (fx_is none k) mc' ms') (hlv : fx_lv M' + 1 ≤ fx_lv M) (hlo : (st.map fun v => v.category).sum + (fx_ml M' + 11) + fx_lw M' ≤ fx_lw M) (d : decode (fx_cc M) pc = .ok (.invokevirtual idx, 3))
    (K : fx_X g M (pc + 3) lv st k Q mc ms) : fx_X g M pc lv (a3 :: a2 :: a1 :: Value.ref b :: st) h Q (mc' + mc) (ms' + ms) := by
  obtain ⟨q, hq, hqc⟩ := w.2.2.2
  exact fx_callR ok hC (fx_siteV ok (as := [a1, a2, a3]) w.1 w.2.1 w.2.2.1 hb hq hqc d) w.1.1 w.1.2.1 hlv hlo K
theorem fx_Vb3 (ok : fx_ok g) {idx : Nat} {b ci : Nat} {a1 a2 a3 : Value} (w : fx_wV (fx_y M).cls idx 3 M' ci) (hb : fx_s h b = some (.inl ci)) (hC : fx_C g M' (Value.ref b :: [a1, a2, a3]) h (fx_is (some x) k) mc' ms') (hlv : fx_lv M' + 1 ≤ fx_lv M) (hlo : (st.map fun v => v.category).sum + (fx_ml M' + 11) + fx_lw M' ≤ fx_lw M) (d : decode (fx_cc M) pc = .ok (.invokevirtual idx, 3))
    (K : fx_X g M (pc + 3) lv (.int x :: st) k Q mc ms) : fx_X g M pc lv (a3 :: a2 :: a1 :: Value.ref b :: st) h Q (mc' + mc) (ms' + ms) := by
  obtain ⟨q, hq, hqc⟩ := w.2.2.2
  exact fx_callR ok hC (fx_siteV ok (as := [a1, a2, a3]) w.1 w.2.1 w.2.2.1 hb hq hqc d) w.1.1 w.1.2.1 hlv hlo K
theorem fx_Vt3 (ok : fx_ok g) {idx : Nat} {b ci : Nat} {a1 a2 a3 : Value} (w : fx_wV (fx_y M).cls idx 3 M' ci) (hb : fx_s h b = some (.inl ci)) {E : String} (hC : fx_C g M' (Value.ref b :: [a1, a2, a3]) h (fx_th E k) mc' ms') (hlv : fx_lv M' + 1 ≤ fx_lv M) (hlo : (st.map fun v => v.category).sum + (fx_ml M' + 11) + fx_lw M' ≤ fx_lw M) (d : decode (fx_cc M) pc = .ok (.invokevirtual idx, 3))
    (K : fx_T g M pc lv E k Q mc ms) : fx_X g M pc lv (a3 :: a2 :: a1 :: Value.ref b :: st) h Q (mc' + mc) (ms' + ms) := by
  obtain ⟨q, hq, hqc⟩ := w.2.2.2
  exact fx_callT ok hC (fx_siteV ok (as := [a1, a2, a3]) w.1 w.2.1 w.2.2.1 hb hq hqc d) w.1.1 w.1.2.1 hlv hlo K
theorem fx_Si4 (ok : fx_ok g) {idx : Nat} {a1 a2 a3 a4 : Value} (w : fx_wS (fx_y M).cls idx 4 M') (hC : fx_C g M' ([a1, a2, a3, a4] : List Value) h (fx_is (some x) k) 0 0) (hlv : fx_lv M' + 1 ≤ fx_lv M) (hlo : (st.map fun v => v.category).sum + (fx_ml M' + 11) + fx_lw M' ≤ fx_lw M) (d : decode (fx_cc M) pc = .ok (.invokestatic idx, 3))
    (K : fx_X g M (pc + 3) lv (.int x :: st) k Q mc ms) : fx_X g M pc lv (a4 :: a3 :: a2 :: a1 :: st) h Q mc ms :=
  fx_callR0 ok hC (fx_siteS ok (as := [a1, a2, a3, a4]) w.1 w.2 d) w.1.1 w.1.2.1 hlv hlo K
theorem fx_Sv4 (ok : fx_ok g) {idx : Nat} {a1 a2 a3 a4 : Value} (w : fx_wS (fx_y M).cls idx 4 M') (hC : fx_C g M' ([a1, a2, a3, a4] : List Value) h (fx_is none k) 0 0) (hlv : fx_lv M' + 1 ≤ fx_lv M) (hlo : (st.map fun v => v.category).sum + (fx_ml M' + 11) + fx_lw M' ≤ fx_lw M) (d : decode (fx_cc M) pc = .ok (.invokestatic idx, 3))
    (K : fx_X g M (pc + 3) lv st k Q mc ms) : fx_X g M pc lv (a4 :: a3 :: a2 :: a1 :: st) h Q mc ms :=
  fx_callR0 ok hC (fx_siteS ok (as := [a1, a2, a3, a4]) w.1 w.2 d) w.1.1 w.1.2.1 hlv hlo K
theorem fx_Sa4 (ok : fx_ok g) {idx : Nat} {a1 a2 a3 a4 : Value} (w : fx_wS (fx_y M).cls idx 4 M') (hC : fx_C g M' ([a1, a2, a3, a4] : List Value) h (fx_is none k) mc' ms') (hlv : fx_lv M' + 1 ≤ fx_lv M) (hlo : (st.map fun v => v.category).sum + (fx_ml M' + 11) + fx_lw M' ≤ fx_lw M) (d : decode (fx_cc M) pc = .ok (.invokestatic idx, 3))
    (K : fx_X g M (pc + 3) lv st k Q mc ms) : fx_X g M pc lv (a4 :: a3 :: a2 :: a1 :: st) h Q (mc' + mc) (ms' + ms) :=
  fx_callR ok hC (fx_siteS ok (as := [a1, a2, a3, a4]) w.1 w.2 d) w.1.1 w.1.2.1 hlv hlo K
theorem fx_Sb4 (ok : fx_ok g) {idx : Nat} {a1 a2 a3 a4 : Value} (w : fx_wS (fx_y M).cls idx 4 M') (hC : fx_C g M' ([a1, a2, a3, a4] : List Value) h (fx_is (some x) k) mc' ms') (hlv : fx_lv M' + 1 ≤ fx_lv M) (hlo : (st.map fun v => v.category).sum + (fx_ml M' + 11) + fx_lw M' ≤ fx_lw M) (d : decode (fx_cc M) pc = .ok (.invokestatic idx, 3))
    (K : fx_X g M (pc + 3) lv (.int x :: st) k Q mc ms) : fx_X g M pc lv (a4 :: a3 :: a2 :: a1 :: st) h Q (mc' + mc) (ms' + ms) :=
  fx_callR ok hC (fx_siteS ok (as := [a1, a2, a3, a4]) w.1 w.2 d) w.1.1 w.1.2.1 hlv hlo K
theorem fx_St4 (ok : fx_ok g) {idx : Nat} {a1 a2 a3 a4 : Value} (w : fx_wS (fx_y M).cls idx 4 M') {E : String} (hC : fx_C g M' ([a1, a2, a3, a4] : List Value) h (fx_th E k) mc' ms') (hlv : fx_lv M' + 1 ≤ fx_lv M) (hlo : (st.map fun v => v.category).sum + (fx_ml M' + 11) + fx_lw M' ≤ fx_lw M) (d : decode (fx_cc M) pc = .ok (.invokestatic idx, 3))
    (K : fx_T g M pc lv E k Q mc ms) : fx_X g M pc lv (a4 :: a3 :: a2 :: a1 :: st) h Q (mc' + mc) (ms' + ms) :=
  fx_callT ok hC (fx_siteS ok (as := [a1, a2, a3, a4]) w.1 w.2 d) w.1.1 w.1.2.1 hlv hlo K
theorem fx_Vi4 (ok : fx_ok g) {idx : Nat} {b ci : Nat} {a1 a2 a3 a4 : Value} (w : fx_wV (fx_y M).cls idx 4 M' ci) (hb : fx_s h b = some (.inl ci)) (hC : fx_C g M' (Value.ref b :: [a1, a2, a3, a4]) h (fx_is (some x) k) 0 0) (hlv : fx_lv M' + 1 ≤ fx_lv M) (hlo : (st.map fun v => v.category).sum + (fx_ml M' + 11) + fx_lw M' ≤ fx_lw M) (d : decode (fx_cc M) pc = .ok (.invokevirtual idx, 3))
    (K : fx_X g M (pc + 3) lv (.int x :: st) k Q mc ms) : fx_X g M pc lv (a4 :: a3 :: a2 :: a1 :: Value.ref b :: st) h Q mc ms := by
  obtain ⟨q, hq, hqc⟩ := w.2.2.2
  exact fx_callR0 ok hC (fx_siteV ok (as := [a1, a2, a3, a4]) w.1 w.2.1 w.2.2.1 hb hq hqc d) w.1.1 w.1.2.1 hlv hlo K
theorem fx_Vv4 (ok : fx_ok g) {idx : Nat} {b ci : Nat} {a1 a2 a3 a4 : Value} (w : fx_wV (fx_y M).cls idx 4 M' ci) (hb : fx_s h b = some (.inl ci)) (hC : fx_C g M' (Value.ref b :: [a1, a2, a3, a4]) h (fx_is none k) 0 0) (hlv : fx_lv M' + 1 ≤ fx_lv M) (hlo : (st.map fun v => v.category).sum + (fx_ml M' + 11) + fx_lw M' ≤ fx_lw M) (d : decode (fx_cc M) pc = .ok (.invokevirtual idx, 3))
    (K : fx_X g M (pc + 3) lv st k Q mc ms) : fx_X g M pc lv (a4 :: a3 :: a2 :: a1 :: Value.ref b :: st) h Q mc ms := by
  obtain ⟨q, hq, hqc⟩ := w.2.2.2
  exact fx_callR0 ok hC (fx_siteV ok (as := [a1, a2, a3, a4]) w.1 w.2.1 w.2.2.1 hb hq hqc d) w.1.1 w.1.2.1 hlv hlo K
theorem fx_Va4 (ok : fx_ok g) {idx : Nat} {b ci : Nat} {a1 a2 a3 a4 : Value} (w : fx_wV (fx_y M).cls idx 4 M' ci) (hb : fx_s h b = some (.inl ci)) (hC : fx_C g M' (Value.ref b :: [a1, a2, a3, a4]) h (fx_is none k) mc' ms') (hlv : fx_lv M' + 1 ≤ fx_lv M) (hlo : (st.map fun v => v.category).sum + (fx_ml M' + 11) + fx_lw M' ≤ fx_lw M) (d : decode (fx_cc M) pc = .ok (.invokevirtual idx, 3))
    (K : fx_X g M (pc + 3) lv st k Q mc ms) : fx_X g M pc lv (a4 :: a3 :: a2 :: a1 :: Value.ref b :: st) h Q (mc' + mc) (ms' + ms) := by
  obtain ⟨q, hq, hqc⟩ := w.2.2.2
  exact fx_callR ok hC (fx_siteV ok (as := [a1, a2, a3, a4]) w.1 w.2.1 w.2.2.1 hb hq hqc d) w.1.1 w.1.2.1 hlv hlo K
theorem fx_Vb4 (ok : fx_ok g) {idx : Nat} {b ci : Nat} {a1 a2 a3 a4 : Value} (w : fx_wV (fx_y M).cls idx 4 M' ci) (hb : fx_s h b = some (.inl ci)) (hC : fx_C g M' (Value.ref b :: [a1, a2, a3, a4]) h (fx_is (some x) k) mc' ms') (hlv : fx_lv M' + 1 ≤ fx_lv M) (hlo : (st.map fun v => v.category).sum + (fx_ml M' + 11) + fx_lw M' ≤ fx_lw M) (d : decode (fx_cc M) pc = .ok (.invokevirtual idx, 3))
    (K : fx_X g M (pc + 3) lv (.int x :: st) k Q mc ms) : fx_X g M pc lv (a4 :: a3 :: a2 :: a1 :: Value.ref b :: st) h Q (mc' + mc) (ms' + ms) := by
  obtain ⟨q, hq, hqc⟩ := w.2.2.2
  exact fx_callR ok hC (fx_siteV ok (as := [a1, a2, a3, a4]) w.1 w.2.1 w.2.2.1 hb hq hqc d) w.1.1 w.1.2.1 hlv hlo K
theorem fx_Vt4 (ok : fx_ok g) {idx : Nat} {b ci : Nat} {a1 a2 a3 a4 : Value} (w : fx_wV (fx_y M).cls idx 4 M' ci) (hb : fx_s h b = some (.inl ci)) {E : String} (hC : fx_C g M' (Value.ref b :: [a1, a2, a3, a4]) h (fx_th E k) mc' ms') (hlv : fx_lv M' + 1 ≤ fx_lv M) (hlo : (st.map fun v => v.category).sum + (fx_ml M' + 11) + fx_lw M' ≤ fx_lw M) (d : decode (fx_cc M) pc = .ok (.invokevirtual idx, 3))
    (K : fx_T g M pc lv E k Q mc ms) : fx_X g M pc lv (a4 :: a3 :: a2 :: a1 :: Value.ref b :: st) h Q (mc' + mc) (ms' + ms) := by
  obtain ⟨q, hq, hqc⟩ := w.2.2.2
  exact fx_callT ok hC (fx_siteV ok (as := [a1, a2, a3, a4]) w.1 w.2.1 w.2.2.1 hb hq hqc d) w.1.1 w.1.2.1 hlv hlo K
theorem fx_Si5 (ok : fx_ok g) {idx : Nat} {a1 a2 a3 a4 a5 : Value} (w : fx_wS (fx_y M).cls idx 5 M') (hC : fx_C g M' ([a1, a2, a3, a4, a5] : List Value) h (fx_is (some x) k) 0 0) (hlv : fx_lv M' + 1 ≤ fx_lv M) (hlo : (st.map fun v => v.category).sum + (fx_ml M' + 11) + fx_lw M' ≤ fx_lw M) (d : decode (fx_cc M) pc = .ok (.invokestatic idx, 3))
    (K : fx_X g M (pc + 3) lv (.int x :: st) k Q mc ms) : fx_X g M pc lv (a5 :: a4 :: a3 :: a2 :: a1 :: st) h Q mc ms :=
  fx_callR0 ok hC (fx_siteS ok (as := [a1, a2, a3, a4, a5]) w.1 w.2 d) w.1.1 w.1.2.1 hlv hlo K
theorem fx_Sv5 (ok : fx_ok g) {idx : Nat} {a1 a2 a3 a4 a5 : Value} (w : fx_wS (fx_y M).cls idx 5 M') (hC : fx_C g M' ([a1, a2, a3, a4, a5] : List Value) h (fx_is none k) 0 0) (hlv : fx_lv M' + 1 ≤ fx_lv M) (hlo : (st.map fun v => v.category).sum + (fx_ml M' + 11) + fx_lw M' ≤ fx_lw M) (d : decode (fx_cc M) pc = .ok (.invokestatic idx, 3))
    (K : fx_X g M (pc + 3) lv st k Q mc ms) : fx_X g M pc lv (a5 :: a4 :: a3 :: a2 :: a1 :: st) h Q mc ms :=
  fx_callR0 ok hC (fx_siteS ok (as := [a1, a2, a3, a4, a5]) w.1 w.2 d) w.1.1 w.1.2.1 hlv hlo K
theorem fx_Sa5 (ok : fx_ok g) {idx : Nat} {a1 a2 a3 a4 a5 : Value} (w : fx_wS (fx_y M).cls idx 5 M') (hC : fx_C g M' ([a1, a2, a3, a4, a5] : List Value) h (fx_is none k) mc' ms') (hlv : fx_lv M' + 1 ≤ fx_lv M) (hlo : (st.map fun v => v.category).sum + (fx_ml M' + 11) + fx_lw M' ≤ fx_lw M) (d : decode (fx_cc M) pc = .ok (.invokestatic idx, 3))
    (K : fx_X g M (pc + 3) lv st k Q mc ms) : fx_X g M pc lv (a5 :: a4 :: a3 :: a2 :: a1 :: st) h Q (mc' + mc) (ms' + ms) :=
  fx_callR ok hC (fx_siteS ok (as := [a1, a2, a3, a4, a5]) w.1 w.2 d) w.1.1 w.1.2.1 hlv hlo K
theorem fx_Sb5 (ok : fx_ok g) {idx : Nat} {a1 a2 a3 a4 a5 : Value} (w : fx_wS (fx_y M).cls idx 5 M') (hC : fx_C g M' ([a1, a2, a3, a4, a5] : List Value) h (fx_is (some x) k) mc' ms') (hlv : fx_lv M' + 1 ≤ fx_lv M) (hlo : (st.map fun v => v.category).sum + (fx_ml M' + 11) + fx_lw M' ≤ fx_lw M) (d : decode (fx_cc M) pc = .ok (.invokestatic idx, 3))
    (K : fx_X g M (pc + 3) lv (.int x :: st) k Q mc ms) : fx_X g M pc lv (a5 :: a4 :: a3 :: a2 :: a1 :: st) h Q (mc' + mc) (ms' + ms) :=
  fx_callR ok hC (fx_siteS ok (as := [a1, a2, a3, a4, a5]) w.1 w.2 d) w.1.1 w.1.2.1 hlv hlo K
theorem fx_St5 (ok : fx_ok g) {idx : Nat} {a1 a2 a3 a4 a5 : Value} (w : fx_wS (fx_y M).cls idx 5 M') {E : String} (hC : fx_C g M' ([a1, a2, a3, a4, a5] : List Value) h (fx_th E k) mc' ms') (hlv : fx_lv M' + 1 ≤ fx_lv M) (hlo : (st.map fun v => v.category).sum + (fx_ml M' + 11) + fx_lw M' ≤ fx_lw M) (d : decode (fx_cc M) pc = .ok (.invokestatic idx, 3))
    (K : fx_T g M pc lv E k Q mc ms) : fx_X g M pc lv (a5 :: a4 :: a3 :: a2 :: a1 :: st) h Q (mc' + mc) (ms' + ms) :=
  fx_callT ok hC (fx_siteS ok (as := [a1, a2, a3, a4, a5]) w.1 w.2 d) w.1.1 w.1.2.1 hlv hlo K
theorem fx_Vi5 (ok : fx_ok g) {idx : Nat} {b ci : Nat} {a1 a2 a3 a4 a5 : Value} (w : fx_wV (fx_y M).cls idx 5 M' ci) (hb : fx_s h b = some (.inl ci)) (hC : fx_C g M' (Value.ref b :: [a1, a2, a3, a4, a5]) h (fx_is (some x) k) 0 0) (hlv : fx_lv M' + 1 ≤ fx_lv M) (hlo : (st.map fun v => v.category).sum + (fx_ml M' + 11) + fx_lw M' ≤ fx_lw M) (d : decode (fx_cc M) pc = .ok (.invokevirtual idx, 3))
    (K : fx_X g M (pc + 3) lv (.int x :: st) k Q mc ms) : fx_X g M pc lv (a5 :: a4 :: a3 :: a2 :: a1 :: Value.ref b :: st) h Q mc ms := by
  obtain ⟨q, hq, hqc⟩ := w.2.2.2
  exact fx_callR0 ok hC (fx_siteV ok (as := [a1, a2, a3, a4, a5]) w.1 w.2.1 w.2.2.1 hb hq hqc d) w.1.1 w.1.2.1 hlv hlo K
theorem fx_Vv5 (ok : fx_ok g) {idx : Nat} {b ci : Nat} {a1 a2 a3 a4 a5 : Value} (w : fx_wV (fx_y M).cls idx 5 M' ci) (hb : fx_s h b = some (.inl ci)) (hC : fx_C g M' (Value.ref b :: [a1, a2, a3, a4, a5]) h (fx_is none k) 0 0) (hlv : fx_lv M' + 1 ≤ fx_lv M) (hlo : (st.map fun v => v.category).sum + (fx_ml M' + 11) + fx_lw M' ≤ fx_lw M) (d : decode (fx_cc M) pc = .ok (.invokevirtual idx, 3))
    (K : fx_X g M (pc + 3) lv st k Q mc ms) : fx_X g M pc lv (a5 :: a4 :: a3 :: a2 :: a1 :: Value.ref b :: st) h Q mc ms := by
  obtain ⟨q, hq, hqc⟩ := w.2.2.2
  exact fx_callR0 ok hC (fx_siteV ok (as := [a1, a2, a3, a4, a5]) w.1 w.2.1 w.2.2.1 hb hq hqc d) w.1.1 w.1.2.1 hlv hlo K
theorem fx_Va5 (ok : fx_ok g) {idx : Nat} {b ci : Nat} {a1 a2 a3 a4 a5 : Value} (w : fx_wV (fx_y M).cls idx 5 M' ci) (hb : fx_s h b = some (.inl ci)) (hC : fx_C g M' (Value.ref b :: [a1, a2, a3, a4, a5]) h (fx_is none k) mc' ms') (hlv : fx_lv M' + 1 ≤ fx_lv M) (hlo : (st.map fun v => v.category).sum + (fx_ml M' + 11) + fx_lw M' ≤ fx_lw M) (d : decode (fx_cc M) pc = .ok (.invokevirtual idx, 3))
    (K : fx_X g M (pc + 3) lv st k Q mc ms) : fx_X g M pc lv (a5 :: a4 :: a3 :: a2 :: a1 :: Value.ref b :: st) h Q (mc' + mc) (ms' + ms) := by
  obtain ⟨q, hq, hqc⟩ := w.2.2.2
  exact fx_callR ok hC (fx_siteV ok (as := [a1, a2, a3, a4, a5]) w.1 w.2.1 w.2.2.1 hb hq hqc d) w.1.1 w.1.2.1 hlv hlo K
theorem fx_Vb5 (ok : fx_ok g) {idx : Nat} {b ci : Nat} {a1 a2 a3 a4 a5 : Value} (w : fx_wV (fx_y M).cls idx 5 M' ci) (hb : fx_s h b = some (.inl ci)) (hC : fx_C g M' (Value.ref b :: [a1, a2, a3, a4, a5]) h (fx_is (some x) k) mc' ms') (hlv : fx_lv M' + 1 ≤ fx_lv M) (hlo : (st.map fun v => v.category).sum + (fx_ml M' + 11) + fx_lw M' ≤ fx_lw M) (d : decode (fx_cc M) pc = .ok (.invokevirtual idx, 3))
    (K : fx_X g M (pc + 3) lv (.int x :: st) k Q mc ms) : fx_X g M pc lv (a5 :: a4 :: a3 :: a2 :: a1 :: Value.ref b :: st) h Q (mc' + mc) (ms' + ms) := by
  obtain ⟨q, hq, hqc⟩ := w.2.2.2
  exact fx_callR ok hC (fx_siteV ok (as := [a1, a2, a3, a4, a5]) w.1 w.2.1 w.2.2.1 hb hq hqc d) w.1.1 w.1.2.1 hlv hlo K
theorem fx_Vt5 (ok : fx_ok g) {idx : Nat} {b ci : Nat} {a1 a2 a3 a4 a5 : Value} (w : fx_wV (fx_y M).cls idx 5 M' ci) (hb : fx_s h b = some (.inl ci)) {E : String} (hC : fx_C g M' (Value.ref b :: [a1, a2, a3, a4, a5]) h (fx_th E k) mc' ms') (hlv : fx_lv M' + 1 ≤ fx_lv M) (hlo : (st.map fun v => v.category).sum + (fx_ml M' + 11) + fx_lw M' ≤ fx_lw M) (d : decode (fx_cc M) pc = .ok (.invokevirtual idx, 3))
    (K : fx_T g M pc lv E k Q mc ms) : fx_X g M pc lv (a5 :: a4 :: a3 :: a2 :: a1 :: Value.ref b :: st) h Q (mc' + mc) (ms' + ms) := by
  obtain ⟨q, hq, hqc⟩ := w.2.2.2
  exact fx_callT ok hC (fx_siteV ok (as := [a1, a2, a3, a4, a5]) w.1 w.2.1 w.2.2.1 hb hq hqc d) w.1.1 w.1.2.1 hlv hlo K
theorem fx_Si6 (ok : fx_ok g) {idx : Nat} {a1 a2 a3 a4 a5 a6 : Value} (w : fx_wS (fx_y M).cls idx 6 M') (hC : fx_C g M' ([a1, a2, a3, a4, a5, a6] : List Value) h (fx_is (some x) k) 0 0) (hlv : fx_lv M' + 1 ≤ fx_lv M) (hlo : (st.map fun v => v.category).sum + (fx_ml M' + 11) + fx_lw M' ≤ fx_lw M) (d : decode (fx_cc M) pc = .ok (.invokestatic idx, 3))
    (K : fx_X g M (pc + 3) lv (.int x :: st) k Q mc ms) : fx_X g M pc lv (a6 :: a5 :: a4 :: a3 :: a2 :: a1 :: st) h Q mc ms :=
  fx_callR0 ok hC (fx_siteS ok (as := [a1, a2, a3, a4, a5, a6]) w.1 w.2 d) w.1.1 w.1.2.1 hlv hlo K
theorem fx_Sv6 (ok : fx_ok g) {idx : Nat} {a1 a2 a3 a4 a5 a6 : Value} (w : fx_wS (fx_y M).cls idx 6 M') (hC : fx_C g M' ([a1, a2, a3, a4, a5, a6] : List Value) h (fx_is none k) 0 0) (hlv : fx_lv M' + 1 ≤ fx_lv M) (hlo : (st.map fun v => v.category).sum + (fx_ml M' + 11) + fx_lw M' ≤ fx_lw M) (d : decode (fx_cc M) pc = .ok (.invokestatic idx, 3))
    (K : fx_X g M (pc + 3) lv st k Q mc ms) : fx_X g M pc lv (a6 :: a5 :: a4 :: a3 :: a2 :: a1 :: st) h Q mc ms :=
  fx_callR0 ok hC (fx_siteS ok (as := [a1, a2, a3, a4, a5, a6]) w.1 w.2 d) w.1.1 w.1.2.1 hlv hlo K
theorem fx_Sa6 (ok : fx_ok g) {idx : Nat} {a1 a2 a3 a4 a5 a6 : Value} (w : fx_wS (fx_y M).cls idx 6 M') (hC : fx_C g M' ([a1, a2, a3, a4, a5, a6] : List Value) h (fx_is none k) mc' ms') (hlv : fx_lv M' + 1 ≤ fx_lv M) (hlo : (st.map fun v => v.category).sum + (fx_ml M' + 11) + fx_lw M' ≤ fx_lw M) (d : decode (fx_cc M) pc = .ok (.invokestatic idx, 3))
    (K : fx_X g M (pc + 3) lv st k Q mc ms) : fx_X g M pc lv (a6 :: a5 :: a4 :: a3 :: a2 :: a1 :: st) h Q (mc' + mc) (ms' + ms) :=
  fx_callR ok hC (fx_siteS ok (as := [a1, a2, a3, a4, a5, a6]) w.1 w.2 d) w.1.1 w.1.2.1 hlv hlo K
theorem fx_Sb6 (ok : fx_ok g) {idx : Nat} {a1 a2 a3 a4 a5 a6 : Value} (w : fx_wS (fx_y M).cls idx 6 M') (hC : fx_C g M' ([a1, a2, a3, a4, a5, a6] : List Value) h (fx_is (some x) k) mc' ms') (hlv : fx_lv M' + 1 ≤ fx_lv M) (hlo : (st.map fun v => v.category).sum + (fx_ml M' + 11) + fx_lw M' ≤ fx_lw M) (d : decode (fx_cc M) pc = .ok (.invokestatic idx, 3))
    (K : fx_X g M (pc + 3) lv (.int x :: st) k Q mc ms) : fx_X g M pc lv (a6 :: a5 :: a4 :: a3 :: a2 :: a1 :: st) h Q (mc' + mc) (ms' + ms) :=
  fx_callR ok hC (fx_siteS ok (as := [a1, a2, a3, a4, a5, a6]) w.1 w.2 d) w.1.1 w.1.2.1 hlv hlo K
theorem fx_St6 (ok : fx_ok g) {idx : Nat} {a1 a2 a3 a4 a5 a6 : Value} (w : fx_wS (fx_y M).cls idx 6 M') {E : String} (hC : fx_C g M' ([a1, a2, a3, a4, a5, a6] : List Value) h (fx_th E k) mc' ms') (hlv : fx_lv M' + 1 ≤ fx_lv M) (hlo : (st.map fun v => v.category).sum + (fx_ml M' + 11) + fx_lw M' ≤ fx_lw M) (d : decode (fx_cc M) pc = .ok (.invokestatic idx, 3))
    (K : fx_T g M pc lv E k Q mc ms) : fx_X g M pc lv (a6 :: a5 :: a4 :: a3 :: a2 :: a1 :: st) h Q (mc' + mc) (ms' + ms) :=
  fx_callT ok hC (fx_siteS ok (as := [a1, a2, a3, a4, a5, a6]) w.1 w.2 d) w.1.1 w.1.2.1 hlv hlo K
theorem fx_Vi6 (ok : fx_ok g) {idx : Nat} {b ci : Nat} {a1 a2 a3 a4 a5 a6 : Value} (w : fx_wV (fx_y M).cls idx 6 M' ci) (hb : fx_s h b = some (.inl ci)) (hC : fx_C g M' (Value.ref b :: [a1, a2, a3, a4, a5, a6]) h (fx_is (some x) k) 0 0) (hlv : fx_lv M' + 1 ≤ fx_lv M) (hlo : (st.map fun v => v.category).sum + (fx_ml M' + 11) + fx_lw M' ≤ fx_lw M) (d : decode (fx_cc M) pc = .ok (.invokevirtual idx, 3))
    (K : fx_X g M (pc + 3) lv (.int x :: st) k Q mc ms) : fx_X g M pc lv (a6 :: a5 :: a4 :: a3 :: a2 :: a1 :: Value.ref b :: st) h Q mc ms := by
  obtain ⟨q, hq, hqc⟩ := w.2.2.2
  exact fx_callR0 ok hC (fx_siteV ok (as := [a1, a2, a3, a4, a5, a6]) w.1 w.2.1 w.2.2.1 hb hq hqc d) w.1.1 w.1.2.1 hlv hlo K
theorem fx_Vv6 (ok : fx_ok g) {idx : Nat} {b ci : Nat} {a1 a2 a3 a4 a5 a6 : Value} (w : fx_wV (fx_y M).cls idx 6 M' ci) (hb : fx_s h b = some (.inl ci)) (hC : fx_C g M' (Value.ref b :: [a1, a2, a3, a4, a5, a6]) h (fx_is none k) 0 0) (hlv : fx_lv M' + 1 ≤ fx_lv M) (hlo : (st.map fun v => v.category).sum + (fx_ml M' + 11) + fx_lw M' ≤ fx_lw M) (d : decode (fx_cc M) pc = .ok (.invokevirtual idx, 3))
    (K : fx_X g M (pc + 3) lv st k Q mc ms) : fx_X g M pc lv (a6 :: a5 :: a4 :: a3 :: a2 :: a1 :: Value.ref b :: st) h Q mc ms := by
  obtain ⟨q, hq, hqc⟩ := w.2.2.2
  exact fx_callR0 ok hC (fx_siteV ok (as := [a1, a2, a3, a4, a5, a6]) w.1 w.2.1 w.2.2.1 hb hq hqc d) w.1.1 w.1.2.1 hlv hlo K
theorem fx_Va6 (ok : fx_ok g) {idx : Nat} {b ci : Nat} {a1 a2 a3 a4 a5 a6 : Value} (w : fx_wV (fx_y M).cls idx 6 M' ci) (hb : fx_s h b = some (.inl ci)) (hC : fx_C g M' (Value.ref b :: [a1, a2, a3, a4, a5, a6]) h (fx_is none k) mc' ms') (hlv : fx_lv M' + 1 ≤ fx_lv M) (hlo : (st.map fun v => v.category).sum + (fx_ml M' + 11) + fx_lw M' ≤ fx_lw M) (d : decode (fx_cc M) pc = .ok (.invokevirtual idx, 3))
    (K : fx_X g M (pc + 3) lv st k Q mc ms) : fx_X g M pc lv (a6 :: a5 :: a4 :: a3 :: a2 :: a1 :: Value.ref b :: st) h Q (mc' + mc) (ms' + ms) := by
  obtain ⟨q, hq, hqc⟩ := w.2.2.2
  exact fx_callR ok hC (fx_siteV ok (as := [a1, a2, a3, a4, a5, a6]) w.1 w.2.1 w.2.2.1 hb hq hqc d) w.1.1 w.1.2.1 hlv hlo K
theorem fx_Vb6 (ok : fx_ok g) {idx : Nat} {b ci : Nat} {a1 a2 a3 a4 a5 a6 : Value} (w : fx_wV (fx_y M).cls idx 6 M' ci) (hb : fx_s h b = some (.inl ci)) (hC : fx_C g M' (Value.ref b :: [a1, a2, a3, a4, a5, a6]) h (fx_is (some x) k) mc' ms') (hlv : fx_lv M' + 1 ≤ fx_lv M) (hlo : (st.map fun v => v.category).sum + (fx_ml M' + 11) + fx_lw M' ≤ fx_lw M) (d : decode (fx_cc M) pc = .ok (.invokevirtual idx, 3))
    (K : fx_X g M (pc + 3) lv (.int x :: st) k Q mc ms) : fx_X g M pc lv (a6 :: a5 :: a4 :: a3 :: a2 :: a1 :: Value.ref b :: st) h Q (mc' + mc) (ms' + ms) := by
  obtain ⟨q, hq, hqc⟩ := w.2.2.2
  exact fx_callR ok hC (fx_siteV ok (as := [a1, a2, a3, a4, a5, a6]) w.1 w.2.1 w.2.2.1 hb hq hqc d) w.1.1 w.1.2.1 hlv hlo K
theorem fx_Vt6 (ok : fx_ok g) {idx : Nat} {b ci : Nat} {a1 a2 a3 a4 a5 a6 : Value} (w : fx_wV (fx_y M).cls idx 6 M' ci) (hb : fx_s h b = some (.inl ci)) {E : String} (hC : fx_C g M' (Value.ref b :: [a1, a2, a3, a4, a5, a6]) h (fx_th E k) mc' ms') (hlv : fx_lv M' + 1 ≤ fx_lv M) (hlo : (st.map fun v => v.category).sum + (fx_ml M' + 11) + fx_lw M' ≤ fx_lw M) (d : decode (fx_cc M) pc = .ok (.invokevirtual idx, 3))
    (K : fx_T g M pc lv E k Q mc ms) : fx_X g M pc lv (a6 :: a5 :: a4 :: a3 :: a2 :: a1 :: Value.ref b :: st) h Q (mc' + mc) (ms' + ms) := by
  obtain ⟨q, hq, hqc⟩ := w.2.2.2
  exact fx_callT ok hC (fx_siteV ok (as := [a1, a2, a3, a4, a5, a6]) w.1 w.2.1 w.2.2.1 hb hq hqc d) w.1.1 w.1.2.1 hlv hlo K
theorem fx_Si7 (ok : fx_ok g) {idx : Nat} {a1 a2 a3 a4 a5 a6 a7 : Value} (w : fx_wS (fx_y M).cls idx 7 M') (hC : fx_C g M' ([a1, a2, a3, a4, a5, a6, a7] : List Value) h (fx_is (some x) k) 0 0) (hlv : fx_lv M' + 1 ≤ fx_lv M) (hlo : (st.map fun v => v.category).sum + (fx_ml M' + 11) + fx_lw M' ≤ fx_lw M) (d : decode (fx_cc M) pc = .ok (.invokestatic idx, 3))
    (K : fx_X g M (pc + 3) lv (.int x :: st) k Q mc ms) : fx_X g M pc lv (a7 :: a6 :: a5 :: a4 :: a3 :: a2 :: a1 :: st) h Q mc ms :=
  fx_callR0 ok hC (fx_siteS ok (as := [a1, a2, a3, a4, a5, a6, a7]) w.1 w.2 d) w.1.1 w.1.2.1 hlv hlo K
theorem fx_Sv7 (ok : fx_ok g) {idx : Nat} {a1 a2 a3 a4 a5 a6 a7 : Value} (w : fx_wS (fx_y M).cls idx 7 M') (hC : fx_C g M' ([a1, a2, a3, a4, a5, a6, a7] : List Value) h (fx_is none k) 0 0) (hlv : fx_lv M' + 1 ≤ fx_lv M) (hlo : (st.map fun v => v.category).sum + (fx_ml M' + 11) + fx_lw M' ≤ fx_lw M) (d : decode (fx_cc M) pc = .ok (.invokestatic idx, 3))
    (K : fx_X g M (pc + 3) lv st k Q mc ms) : fx_X g M pc lv (a7 :: a6 :: a5 :: a4 :: a3 :: a2 :: a1 :: st) h Q mc ms :=
  fx_callR0 ok hC (fx_siteS ok (as := [a1, a2, a3, a4, a5, a6, a7]) w.1 w.2 d) w.1.1 w.1.2.1 hlv hlo K
theorem fx_Sa7 (ok : fx_ok g) {idx : Nat} {a1 a2 a3 a4 a5 a6 a7 : Value} (w : fx_wS (fx_y M).cls idx 7 M') (hC : fx_C g M' ([a1, a2, a3, a4, a5, a6, a7] : List Value) h (fx_is none k) mc' ms') (hlv : fx_lv M' + 1 ≤ fx_lv M) (hlo : (st.map fun v => v.category).sum + (fx_ml M' + 11) + fx_lw M' ≤ fx_lw M) (d : decode (fx_cc M) pc = .ok (.invokestatic idx, 3))
    (K : fx_X g M (pc + 3) lv st k Q mc ms) : fx_X g M pc lv (a7 :: a6 :: a5 :: a4 :: a3 :: a2 :: a1 :: st) h Q (mc' + mc) (ms' + ms) :=
  fx_callR ok hC (fx_siteS ok (as := [a1, a2, a3, a4, a5, a6, a7]) w.1 w.2 d) w.1.1 w.1.2.1 hlv hlo K
theorem fx_Sb7 (ok : fx_ok g) {idx : Nat} {a1 a2 a3 a4 a5 a6 a7 : Value} (w : fx_wS (fx_y M).cls idx 7 M') (hC : fx_C g M' ([a1, a2, a3, a4, a5, a6, a7] : List Value) h (fx_is (some x) k) mc' ms') (hlv : fx_lv M' + 1 ≤ fx_lv M) (hlo : (st.map fun v => v.category).sum + (fx_ml M' + 11) + fx_lw M' ≤ fx_lw M) (d : decode (fx_cc M) pc = .ok (.invokestatic idx, 3))
    (K : fx_X g M (pc + 3) lv (.int x :: st) k Q mc ms) : fx_X g M pc lv (a7 :: a6 :: a5 :: a4 :: a3 :: a2 :: a1 :: st) h Q (mc' + mc) (ms' + ms) :=
  fx_callR ok hC (fx_siteS ok (as := [a1, a2, a3, a4, a5, a6, a7]) w.1 w.2 d) w.1.1 w.1.2.1 hlv hlo K
theorem fx_St7 (ok : fx_ok g) {idx : Nat} {a1 a2 a3 a4 a5 a6 a7 : Value} (w : fx_wS (fx_y M).cls idx 7 M') {E : String} (hC : fx_C g M' ([a1, a2, a3, a4, a5, a6, a7] : List Value) h (fx_th E k) mc' ms') (hlv : fx_lv M' + 1 ≤ fx_lv M) (hlo : (st.map fun v => v.category).sum + (fx_ml M' + 11) + fx_lw M' ≤ fx_lw M) (d : decode (fx_cc M) pc = .ok (.invokestatic idx, 3))
    (K : fx_T g M pc lv E k Q mc ms) : fx_X g M pc lv (a7 :: a6 :: a5 :: a4 :: a3 :: a2 :: a1 :: st) h Q (mc' + mc) (ms' + ms) :=
  fx_callT ok hC (fx_siteS ok (as := [a1, a2, a3, a4, a5, a6, a7]) w.1 w.2 d) w.1.1 w.1.2.1 hlv hlo K
theorem fx_Vi7 (ok : fx_ok g) {idx : Nat} {b ci : Nat} {a1 a2 a3 a4 a5 a6 a7 : Value} (w : fx_wV (fx_y M).cls idx 7 M' ci) (hb : fx_s h b = some (.inl ci)) (hC : fx_C g M' (Value.ref b :: [a1, a2, a3, a4, a5, a6, a7]) h (fx_is (some x) k) 0 0) (hlv : fx_lv M' + 1 ≤ fx_lv M) (hlo : (st.map fun v => v.category).sum + (fx_ml M' + 11) + fx_lw M' ≤ fx_lw M) (d : decode (fx_cc M) pc = .ok (.invokevirtual idx, 3))
    (K : fx_X g M (pc + 3) lv (.int x :: st) k Q mc ms) : fx_X g M pc lv (a7 :: a6 :: a5 :: a4 :: a3 :: a2 :: a1 :: Value.ref b :: st) h Q mc ms := by
  obtain ⟨q, hq, hqc⟩ := w.2.2.2
  exact fx_callR0 ok hC (fx_siteV ok (as := [a1, a2, a3, a4, a5, a6, a7]) w.1 w.2.1 w.2.2.1 hb hq hqc d) w.1.1 w.1.2.1 hlv hlo K
theorem fx_Vv7 (ok : fx_ok g) {idx : Nat} {b ci : Nat} {a1 a2 a3 a4 a5 a6 a7 : Value} (w : fx_wV (fx_y M).cls idx 7 M' ci) (hb : fx_s h b = some (.inl ci)) (hC : fx_C g M' (Value.ref b :: [a1, a2, a3, a4, a5, a6, a7]) h (fx_is none k) 0 0) (hlv : fx_lv M' + 1 ≤ fx_lv M) (hlo : (st.map fun v => v.category).sum + (fx_ml M' + 11) + fx_lw M' ≤ fx_lw M) (d : decode (fx_cc M) pc = .ok (.invokevirtual idx, 3))
    (K : fx_X g M (pc + 3) lv st k Q mc ms) : fx_X g M pc lv (a7 :: a6 :: a5 :: a4 :: a3 :: a2 :: a1 :: Value.ref b :: st) h Q mc ms := by
  obtain ⟨q, hq, hqc⟩ := w.2.2.2
  exact fx_callR0 ok hC (fx_siteV ok (as := [a1, a2, a3, a4, a5, a6, a7]) w.1 w.2.1 w.2.2.1 hb hq hqc d) w.1.1 w.1.2.1 hlv hlo K
theorem fx_Va7 (ok : fx_ok g) {idx : Nat} {b ci : Nat} {a1 a2 a3 a4 a5 a6 a7 : Value} (w : fx_wV (fx_y M).cls idx 7 M' ci) (hb : fx_s h b = some (.inl ci)) (hC : fx_C g M' (Value.ref b :: [a1, a2, a3, a4, a5, a6, a7]) h (fx_is none k) mc' ms') (hlv : fx_lv M' + 1 ≤ fx_lv M) (hlo : (st.map fun v => v.category).sum + (fx_ml M' + 11) + fx_lw M' ≤ fx_lw M) (d : decode (fx_cc M) pc = .ok (.invokevirtual idx, 3))
    (K : fx_X g M (pc + 3) lv st k Q mc ms) : fx_X g M pc lv (a7 :: a6 :: a5 :: a4 :: a3 :: a2 :: a1 :: Value.ref b :: st) h Q (mc' + mc) (ms' + ms) := by
  obtain ⟨q, hq, hqc⟩ := w.2.2.2
  exact fx_callR ok hC (fx_siteV ok (as := [a1, a2, a3, a4, a5, a6, a7]) w.1 w.2.1 w.2.2.1 hb hq hqc d) w.1.1 w.1.2.1 hlv hlo K
theorem fx_Vb7 (ok : fx_ok g) {idx : Nat} {b ci : Nat} {a1 a2 a3 a4 a5 a6 a7 : Value} (w : fx_wV (fx_y M).cls idx 7 M' ci) (hb : fx_s h b = some (.inl ci)) (hC : fx_C g M' (Value.ref b :: [a1, a2, a3, a4, a5, a6, a7]) h (fx_is (some x) k) mc' ms') (hlv : fx_lv M' + 1 ≤ fx_lv M) (hlo : (st.map fun v => v.category).sum + (fx_ml M' + 11) + fx_lw M' ≤ fx_lw M) (d : decode (fx_cc M) pc = .ok (.invokevirtual idx, 3))
    (K : fx_X g M (pc + 3) lv (.int x :: st) k Q mc ms) : fx_X g M pc lv (a7 :: a6 :: a5 :: a4 :: a3 :: a2 :: a1 :: Value.ref b :: st) h Q (mc' + mc) (ms' + ms) := by
  obtain ⟨q, hq, hqc⟩ := w.2.2.2
  exact fx_callR ok hC (fx_siteV ok (as := [a1, a2, a3, a4, a5, a6, a7]) w.1 w.2.1 w.2.2.1 hb hq hqc d) w.1.1 w.1.2.1 hlv hlo K
theorem fx_Vt7 (ok : fx_ok g) {idx : Nat} {b ci : Nat} {a1 a2 a3 a4 a5 a6 a7 : Value} (w : fx_wV (fx_y M).cls idx 7 M' ci) (hb : fx_s h b = some (.inl ci)) {E : String} (hC : fx_C g M' (Value.ref b :: [a1, a2, a3, a4, a5, a6, a7]) h (fx_th E k) mc' ms') (hlv : fx_lv M' + 1 ≤ fx_lv M) (hlo : (st.map fun v => v.category).sum + (fx_ml M' + 11) + fx_lw M' ≤ fx_lw M) (d : decode (fx_cc M) pc = .ok (.invokevirtual idx, 3))
    (K : fx_T g M pc lv E k Q mc ms) : fx_X g M pc lv (a7 :: a6 :: a5 :: a4 :: a3 :: a2 :: a1 :: Value.ref b :: st) h Q (mc' + mc) (ms' + ms) := by
  obtain ⟨q, hq, hqc⟩ := w.2.2.2
  exact fx_callT ok hC (fx_siteV ok (as := [a1, a2, a3, a4, a5, a6, a7]) w.1 w.2.1 w.2.2.1 hb hq hqc d) w.1.1 w.1.2.1 hlv hlo K
theorem fx_Si8 (ok : fx_ok g) {idx : Nat} {a1 a2 a3 a4 a5 a6 a7 a8 : Value} (w : fx_wS (fx_y M).cls idx 8 M') (hC : fx_C g M' ([a1, a2, a3, a4, a5, a6, a7, a8] : List Value) h (fx_is (some x) k) 0 0) (hlv : fx_lv M' + 1 ≤ fx_lv M) (hlo : (st.map fun v => v.category).sum + (fx_ml M' + 11) + fx_lw M' ≤ fx_lw M) (d : decode (fx_cc M) pc = .ok (.invokestatic idx, 3))
    (K : fx_X g M (pc + 3) lv (.int x :: st) k Q mc ms) : fx_X g M pc lv (a8 :: a7 :: a6 :: a5 :: a4 :: a3 :: a2 :: a1 :: st) h Q mc ms :=
  fx_callR0 ok hC (fx_siteS ok (as := [a1, a2, a3, a4, a5, a6, a7, a8]) w.1 w.2 d) w.1.1 w.1.2.1 hlv hlo K
theorem fx_Sv8 (ok : fx_ok g) {idx : Nat} {a1 a2 a3 a4 a5 a6 a7 a8 : Value} (w : fx_wS (fx_y M).cls idx 8 M') (hC : fx_C g M' ([a1, a2, a3, a4, a5, a6, a7, a8] : List Value) h (fx_is none k) 0 0) (hlv : fx_lv M' + 1 ≤ fx_lv M) (hlo : (st.map fun v => v.category).sum + (fx_ml M' + 11) + fx_lw M' ≤ fx_lw M) (d : decode (fx_cc M) pc = .ok (.invokestatic idx, 3))
    (K : fx_X g M (pc + 3) lv st k Q mc ms) : fx_X g M pc lv (a8 :: a7 :: a6 :: a5 :: a4 :: a3 :: a2 :: a1 :: st) h Q mc ms :=
  fx_callR0 ok hC (fx_siteS ok (as := [a1, a2, a3, a4, a5, a6, a7, a8]) w.1 w.2 d) w.1.1 w.1.2.1 hlv hlo K
theorem fx_Sa8 (ok : fx_ok g) {idx : Nat} {a1 a2 a3 a4 a5 a6 a7 a8 : Value} (w : fx_wS (fx_y M).cls idx 8 M') (hC : fx_C g M' ([a1, a2, a3, a4, a5, a6, a7, a8] : List Value) h (fx_is none k) mc' ms') (hlv : fx_lv M' + 1 ≤ fx_lv M) (hlo : (st.map fun v => v.category).sum + (fx_ml M' + 11) + fx_lw M' ≤ fx_lw M) (d : decode (fx_cc M) pc = .ok (.invokestatic idx, 3))
    (K : fx_X g M (pc + 3) lv st k Q mc ms) : fx_X g M pc lv (a8 :: a7 :: a6 :: a5 :: a4 :: a3 :: a2 :: a1 :: st) h Q (mc' + mc) (ms' + ms) :=
  fx_callR ok hC (fx_siteS ok (as := [a1, a2, a3, a4, a5, a6, a7, a8]) w.1 w.2 d) w.1.1 w.1.2.1 hlv hlo K
theorem fx_Sb8 (ok : fx_ok g) {idx : Nat} {a1 a2 a3 a4 a5 a6 a7 a8 : Value} (w : fx_wS (fx_y M).cls idx 8 M') (hC : fx_C g M' ([a1, a2, a3, a4, a5, a6, a7, a8] : List Value) h (fx_is (some x) k) mc' ms') (hlv : fx_lv M' + 1 ≤ fx_lv M) (hlo : (st.map fun v => v.category).sum + (fx_ml M' + 11) + fx_lw M' ≤ fx_lw M) (d : decode (fx_cc M) pc = .ok (.invokestatic idx, 3))
    (K : fx_X g M (pc + 3) lv (.int x :: st) k Q mc ms) : fx_X g M pc lv (a8 :: a7 :: a6 :: a5 :: a4 :: a3 :: a2 :: a1 :: st) h Q (mc' + mc) (ms' + ms) :=
  fx_callR ok hC (fx_siteS ok (as := [a1, a2, a3, a4, a5, a6, a7, a8]) w.1 w.2 d) w.1.1 w.1.2.1 hlv hlo K
theorem fx_St8 (ok : fx_ok g) {idx : Nat} {a1 a2 a3 a4 a5 a6 a7 a8 : Value} (w : fx_wS (fx_y M).cls idx 8 M') {E : String} (hC : fx_C g M' ([a1, a2, a3, a4, a5, a6, a7, a8] : List Value) h (fx_th E k) mc' ms') (hlv : fx_lv M' + 1 ≤ fx_lv M) (hlo : (st.map fun v => v.category).sum + (fx_ml M' + 11) + fx_lw M' ≤ fx_lw M) (d : decode (fx_cc M) pc = .ok (.invokestatic idx, 3))
    (K : fx_T g M pc lv E k Q mc ms) : fx_X g M pc lv (a8 :: a7 :: a6 :: a5 :: a4 :: a3 :: a2 :: a1 :: st) h Q (mc' + mc) (ms' + ms) :=
  fx_callT ok hC (fx_siteS ok (as := [a1, a2, a3, a4, a5, a6, a7, a8]) w.1 w.2 d) w.1.1 w.1.2.1 hlv hlo K
theorem fx_Vi8 (ok : fx_ok g) {idx : Nat} {b ci : Nat} {a1 a2 a3 a4 a5 a6 a7 a8 : Value} (w : fx_wV (fx_y M).cls idx 8 M' ci) (hb : fx_s h b = some (.inl ci)) (hC : fx_C g M' (Value.ref b :: [a1, a2, a3, a4, a5, a6, a7, a8]) h (fx_is (some x) k) 0 0) (hlv : fx_lv M' + 1 ≤ fx_lv M) (hlo : (st.map fun v => v.category).sum + (fx_ml M' + 11) + fx_lw M' ≤ fx_lw M) (d : decode (fx_cc M) pc = .ok (.invokevirtual idx, 3))
    (K : fx_X g M (pc + 3) lv (.int x :: st) k Q mc ms) : fx_X g M pc lv (a8 :: a7 :: a6 :: a5 :: a4 :: a3 :: a2 :: a1 :: Value.ref b :: st) h Q mc ms := by
  obtain ⟨q, hq, hqc⟩ := w.2.2.2
  exact fx_callR0 ok hC (fx_siteV ok (as := [a1, a2, a3, a4, a5, a6, a7, a8]) w.1 w.2.1 w.2.2.1 hb hq hqc d) w.1.1 w.1.2.1 hlv hlo K
theorem fx_Vv8 (ok : fx_ok g) {idx : Nat} {b ci : Nat} {a1 a2 a3 a4 a5 a6 a7 a8 : Value} (w : fx_wV (fx_y M).cls idx 8 M' ci) (hb : fx_s h b = some (.inl ci)) (hC : fx_C g M' (Value.ref b :: [a1, a2, a3, a4, a5, a6, a7, a8]) h (fx_is none k) 0 0) (hlv : fx_lv M' + 1 ≤ fx_lv M) (hlo : (st.map fun v => v.category).sum + (fx_ml M' + 11) + fx_lw M' ≤ fx_lw M) (d : decode (fx_cc M) pc = .ok (.invokevirtual idx, 3))
    (K : fx_X g M (pc + 3) lv st k Q mc ms) : fx_X g M pc lv (a8 :: a7 :: a6 :: a5 :: a4 :: a3 :: a2 :: a1 :: Value.ref b :: st) h Q mc ms := by
  obtain ⟨q, hq, hqc⟩ := w.2.2.2
  exact fx_callR0 ok hC (fx_siteV ok (as := [a1, a2, a3, a4, a5, a6, a7, a8]) w.1 w.2.1 w.2.2.1 hb hq hqc d) w.1.1 w.1.2.1 hlv hlo K
theorem fx_Va8 (ok : fx_ok g) {idx : Nat} {b ci : Nat} {a1 a2 a3 a4 a5 a6 a7 a8 : Value} (w : fx_wV (fx_y M).cls idx 8 M' ci) (hb : fx_s h b = some (.inl ci)) (hC : fx_C g M' (Value.ref b :: [a1, a2, a3, a4, a5, a6, a7, a8]) h (fx_is none k) mc' ms') (hlv : fx_lv M' + 1 ≤ fx_lv M) (hlo : (st.map fun v => v.category).sum + (fx_ml M' + 11) + fx_lw M' ≤ fx_lw M) (d : decode (fx_cc M) pc = .ok (.invokevirtual idx, 3))
    (K : fx_X g M (pc + 3) lv st k Q mc ms) : fx_X g M pc lv (a8 :: a7 :: a6 :: a5 :: a4 :: a3 :: a2 :: a1 :: Value.ref b :: st) h Q (mc' + mc) (ms' + ms) := by
  obtain ⟨q, hq, hqc⟩ := w.2.2.2
  exact fx_callR ok hC (fx_siteV ok (as := [a1, a2, a3, a4, a5, a6, a7, a8]) w.1 w.2.1 w.2.2.1 hb hq hqc d) w.1.1 w.1.2.1 hlv hlo K
theorem fx_Vb8 (ok : fx_ok g) {idx : Nat} {b ci : Nat} {a1 a2 a3 a4 a5 a6 a7 a8 : Value} (w : fx_wV (fx_y M).cls idx 8 M' ci) (hb : fx_s h b = some (.inl ci)) (hC : fx_C g M' (Value.ref b :: [a1, a2, a3, a4, a5, a6, a7, a8]) h (fx_is (some x) k) mc' ms') (hlv : fx_lv M' + 1 ≤ fx_lv M) (hlo : (st.map fun v => v.category).sum + (fx_ml M' + 11) + fx_lw M' ≤ fx_lw M) (d : decode (fx_cc M) pc = .ok (.invokevirtual idx, 3))
    (K : fx_X g M (pc + 3) lv (.int x :: st) k Q mc ms) : fx_X g M pc lv (a8 :: a7 :: a6 :: a5 :: a4 :: a3 :: a2 :: a1 :: Value.ref b :: st) h Q (mc' + mc) (ms' + ms) := by
  obtain ⟨q, hq, hqc⟩ := w.2.2.2
  exact fx_callR ok hC (fx_siteV ok (as := [a1, a2, a3, a4, a5, a6, a7, a8]) w.1 w.2.1 w.2.2.1 hb hq hqc d) w.1.1 w.1.2.1 hlv hlo K
theorem fx_Vt8 (ok : fx_ok g) {idx : Nat} {b ci : Nat} {a1 a2 a3 a4 a5 a6 a7 a8 : Value} (w : fx_wV (fx_y M).cls idx 8 M' ci) (hb : fx_s h b = some (.inl ci)) {E : String} (hC : fx_C g M' (Value.ref b :: [a1, a2, a3, a4, a5, a6, a7, a8]) h (fx_th E k) mc' ms') (hlv : fx_lv M' + 1 ≤ fx_lv M) (hlo : (st.map fun v => v.category).sum + (fx_ml M' + 11) + fx_lw M' ≤ fx_lw M) (d : decode (fx_cc M) pc = .ok (.invokevirtual idx, 3))
    (K : fx_T g M pc lv E k Q mc ms) : fx_X g M pc lv (a8 :: a7 :: a6 :: a5 :: a4 :: a3 :: a2 :: a1 :: Value.ref b :: st) h Q (mc' + mc) (ms' + ms) := by
  obtain ⟨q, hq, hqc⟩ := w.2.2.2
  exact fx_callT ok hC (fx_siteV ok (as := [a1, a2, a3, a4, a5, a6, a7, a8]) w.1 w.2.1 w.2.2.1 hb hq hqc d) w.1.1 w.1.2.1 hlv hlo K
theorem fx_Si9 (ok : fx_ok g) {idx : Nat} {a1 a2 a3 a4 a5 a6 a7 a8 a9 : Value} (w : fx_wS (fx_y M).cls idx 9 M') (hC : fx_C g M' ([a1, a2, a3, a4, a5, a6, a7, a8, a9] : List Value) h (fx_is (some x) k) 0 0) (hlv : fx_lv M' + 1 ≤ fx_lv M) (hlo : (st.map fun v => v.category).sum + (fx_ml M' + 11) + fx_lw M' ≤ fx_lw M) (d : decode (fx_cc M) pc = .ok (.invokestatic idx, 3))
    (K : fx_X g M (pc + 3) lv (.int x :: st) k Q mc ms) : fx_X g M pc lv (a9 :: a8 :: a7 :: a6 :: a5 :: a4 :: a3 :: a2 :: a1 :: st) h Q mc ms :=
  fx_callR0 ok hC (fx_siteS ok (as := [a1, a2, a3, a4, a5, a6, a7, a8, a9]) w.1 w.2 d) w.1.1 w.1.2.1 hlv hlo K
theorem fx_Sv9 (ok : fx_ok g) {idx : Nat} {a1 a2 a3 a4 a5 a6 a7 a8 a9 : Value} (w : fx_wS (fx_y M).cls idx 9 M') (hC : fx_C g M' ([a1, a2, a3, a4, a5, a6, a7, a8, a9] : List Value) h (fx_is none k) 0 0) (hlv : fx_lv M' + 1 ≤ fx_lv M) (hlo : (st.map fun v => v.category).sum + (fx_ml M' + 11) + fx_lw M' ≤ fx_lw M) (d : decode (fx_cc M) pc = .ok (.invokestatic idx, 3))
    (K : fx_X g M (pc + 3) lv st k Q mc ms) : fx_X g M pc lv (a9 :: a8 :: a7 :: a6 :: a5 :: a4 :: a3 :: a2 :: a1 :: st) h Q mc ms :=
  fx_callR0 ok hC (fx_siteS ok (as := [a1, a2, a3, a4, a5, a6, a7, a8, a9]) w.1 w.2 d) w.1.1 w.1.2.1 hlv hlo K
theorem fx_Sa9 (ok : fx_ok g) {idx : Nat} {a1 a2 a3 a4 a5 a6 a7 a8 a9 : Value} (w : fx_wS (fx_y M).cls idx 9 M') (hC : fx_C g M' ([a1, a2, a3, a4, a5, a6, a7, a8, a9] : List Value) h (fx_is none k) mc' ms') (hlv : fx_lv M' + 1 ≤ fx_lv M) (hlo : (st.map fun v => v.category).sum + (fx_ml M' + 11) + fx_lw M' ≤ fx_lw M) (d : decode (fx_cc M) pc = .ok (.invokestatic idx, 3))
    (K : fx_X g M (pc + 3) lv st k Q mc ms) : fx_X g M pc lv (a9 :: a8 :: a7 :: a6 :: a5 :: a4 :: a3 :: a2 :: a1 :: st) h Q (mc' + mc) (ms' + ms) :=
  fx_callR ok hC (fx_siteS ok (as := [a1, a2, a3, a4, a5, a6, a7, a8, a9]) w.1 w.2 d) w.1.1 w.1.2.1 hlv hlo K
theorem fx_Sb9 (ok : fx_ok g) {idx : Nat} {a1 a2 a3 a4 a5 a6 a7 a8 a9 : Value} (w : fx_wS (fx_y M).cls idx 9 M') (hC : fx_C g M' ([a1, a2, a3, a4, a5, a6, a7, a8, a9] : List Value) h (fx_is (some x) k) mc' ms') (hlv : fx_lv M' + 1 ≤ fx_lv M) (hlo : (st.map fun v => v.category).sum + (fx_ml M' + 11) + fx_lw M' ≤ fx_lw M) (d : decode (fx_cc M) pc = .ok (.invokestatic idx, 3))
    (K : fx_X g M (pc + 3) lv (.int x :: st) k Q mc ms) : fx_X g M pc lv (a9 :: a8 :: a7 :: a6 :: a5 :: a4 :: a3 :: a2 :: a1 :: st) h Q (mc' + mc) (ms' + ms) :=
  fx_callR ok hC (fx_siteS ok (as := [a1, a2, a3, a4, a5, a6, a7, a8, a9]) w.1 w.2 d) w.1.1 w.1.2.1 hlv hlo K
theorem fx_St9 (ok : fx_ok g) {idx : Nat} {a1 a2 a3 a4 a5 a6 a7 a8 a9 : Value} (w : fx_wS (fx_y M).cls idx 9 M') {E : String} (hC : fx_C g M' ([a1, a2, a3, a4, a5, a6, a7, a8, a9] : List Value) h (fx_th E k) mc' ms') (hlv : fx_lv M' + 1 ≤ fx_lv M) (hlo : (st.map fun v => v.category).sum + (fx_ml M' + 11) + fx_lw M' ≤ fx_lw M) (d : decode (fx_cc M) pc = .ok (.invokestatic idx, 3))
    (K : fx_T g M pc lv E k Q mc ms) : fx_X g M pc lv (a9 :: a8 :: a7 :: a6 :: a5 :: a4 :: a3 :: a2 :: a1 :: st) h Q (mc' + mc) (ms' + ms) :=
  fx_callT ok hC (fx_siteS ok (as := [a1, a2, a3, a4, a5, a6, a7, a8, a9]) w.1 w.2 d) w.1.1 w.1.2.1 hlv hlo K
theorem fx_Vi9 (ok : fx_ok g) {idx : Nat} {b ci : Nat} {a1 a2 a3 a4 a5 a6 a7 a8 a9 : Value} (w : fx_wV (fx_y M).cls idx 9 M' ci) (hb : fx_s h b = some (.inl ci)) (hC : fx_C g M' (Value.ref b :: [a1, a2, a3, a4, a5, a6, a7, a8, a9]) h (fx_is (some x) k) 0 0) (hlv : fx_lv M' + 1 ≤ fx_lv M) (hlo : (st.map fun v => v.category).sum + (fx_ml M' + 11) + fx_lw M' ≤ fx_lw M) (d : decode (fx_cc M) pc = .ok (.invokevirtual idx, 3))
    (K : fx_X g M (pc + 3) lv (.int x :: st) k Q mc ms) : fx_X g M pc lv (a9 :: a8 :: a7 :: a6 :: a5 :: a4 :: a3 :: a2 :: a1 :: Value.ref b :: st) h Q mc ms := by
  obtain ⟨q, hq, hqc⟩ := w.2.2.2
  exact fx_callR0 ok hC (fx_siteV ok (as := [a1, a2, a3, a4, a5, a6, a7, a8, a9]) w.1 w.2.1 w.2.2.1 hb hq hqc d) w.1.1 w.1.2.1 hlv hlo K
theorem fx_Vv9 (ok : fx_ok g) {idx : Nat} {b ci : Nat} {a1 a2 a3 a4 a5 a6 a7 a8 a9 : Value} (w : fx_wV (fx_y M).cls idx 9 M' ci) (hb : fx_s h b = some (.inl ci)) (hC : fx_C g M' (Value.ref b :: [a1, a2, a3, a4, a5, a6, a7, a8, a9]) h (fx_is none k) 0 0) (hlv : fx_lv M' + 1 ≤ fx_lv M) (hlo : (st.map fun v => v.category).sum + (fx_ml M' + 11) + fx_lw M' ≤ fx_lw M) (d : decode (fx_cc M) pc = .ok (.invokevirtual idx, 3))
    (K : fx_X g M (pc + 3) lv st k Q mc ms) : fx_X g M pc lv (a9 :: a8 :: a7 :: a6 :: a5 :: a4 :: a3 :: a2 :: a1 :: Value.ref b :: st) h Q mc ms := by
  obtain ⟨q, hq, hqc⟩ := w.2.2.2
  exact fx_callR0 ok hC (fx_siteV ok (as := [a1, a2, a3, a4, a5, a6, a7, a8, a9]) w.1 w.2.1 w.2.2.1 hb hq hqc d) w.1.1 w.1.2.1 hlv hlo K
theorem fx_Va9 (ok : fx_ok g) {idx : Nat} {b ci : Nat} {a1 a2 a3 a4 a5 a6 a7 a8 a9 : Value} (w : fx_wV (fx_y M).cls idx 9 M' ci) (hb : fx_s h b = some (.inl ci)) (hC : fx_C g M' (Value.ref b :: [a1, a2, a3, a4, a5, a6, a7, a8, a9]) h (fx_is none k) mc' ms') (hlv : fx_lv M' + 1 ≤ fx_lv M) (hlo : (st.map fun v => v.category).sum + (fx_ml M' + 11) + fx_lw M' ≤ fx_lw M) (d : decode (fx_cc M) pc = .ok (.invokevirtual idx, 3))
    (K : fx_X g M (pc + 3) lv st k Q mc ms) : fx_X g M pc lv (a9 :: a8 :: a7 :: a6 :: a5 :: a4 :: a3 :: a2 :: a1 :: Value.ref b :: st) h Q (mc' + mc) (ms' + ms) := by
  obtain ⟨q, hq, hqc⟩ := w.2.2.2
  exact fx_callR ok hC (fx_siteV ok (as := [a1, a2, a3, a4, a5, a6, a7, a8, a9]) w.1 w.2.1 w.2.2.1 hb hq hqc d) w.1.1 w.1.2.1 hlv hlo K
theorem fx_Vb9 (ok : fx_ok g) {idx : Nat} {b ci : Nat} {a1 a2 a3 a4 a5 a6 a7 a8 a9 : Value} (w : fx_wV (fx_y M).cls idx 9 M' ci) (hb : fx_s h b = some (.inl ci)) (hC : fx_C g M' (Value.ref b :: [a1, a2, a3, a4, a5, a6, a7, a8, a9]) h (fx_is (some x) k) mc' ms') (hlv : fx_lv M' + 1 ≤ fx_lv M) (hlo : (st.map fun v => v.category).sum + (fx_ml M' + 11) + fx_lw M' ≤ fx_lw M) (d : decode (fx_cc M) pc = .ok (.invokevirtual idx, 3))
    (K : fx_X g M (pc + 3) lv (.int x :: st) k Q mc ms) : fx_X g M pc lv (a9 :: a8 :: a7 :: a6 :: a5 :: a4 :: a3 :: a2 :: a1 :: Value.ref b :: st) h Q (mc' + mc) (ms' + ms) := by
  obtain ⟨q, hq, hqc⟩ := w.2.2.2
  exact fx_callR ok hC (fx_siteV ok (as := [a1, a2, a3, a4, a5, a6, a7, a8, a9]) w.1 w.2.1 w.2.2.1 hb hq hqc d) w.1.1 w.1.2.1 hlv hlo K
theorem fx_Vt9 (ok : fx_ok g) {idx : Nat} {b ci : Nat} {a1 a2 a3 a4 a5 a6 a7 a8 a9 : Value} (w : fx_wV (fx_y M).cls idx 9 M' ci) (hb : fx_s h b = some (.inl ci)) {E : String} (hC : fx_C g M' (Value.ref b :: [a1, a2, a3, a4, a5, a6, a7, a8, a9]) h (fx_th E k) mc' ms') (hlv : fx_lv M' + 1 ≤ fx_lv M) (hlo : (st.map fun v => v.category).sum + (fx_ml M' + 11) + fx_lw M' ≤ fx_lw M) (d : decode (fx_cc M) pc = .ok (.invokevirtual idx, 3))
    (K : fx_T g M pc lv E k Q mc ms) : fx_X g M pc lv (a9 :: a8 :: a7 :: a6 :: a5 :: a4 :: a3 :: a2 :: a1 :: Value.ref b :: st) h Q (mc' + mc) (ms' + ms) := by
  obtain ⟨q, hq, hqc⟩ := w.2.2.2
  exact fx_callT ok hC (fx_siteV ok (as := [a1, a2, a3, a4, a5, a6, a7, a8, a9]) w.1 w.2.1 w.2.2.1 hb hq hqc d) w.1.1 w.1.2.1 hlv hlo K
theorem fx_Ia0 (ok : fx_ok g) {idx : Nat} {b : Nat} (w : fx_wI (fx_y M).cls idx 0 M') (hC : fx_C g M' (Value.ref b :: []) h (fx_is none k) mc' ms') (hlv : fx_lv M' + 1 ≤ fx_lv M) (hlo : (st.map fun v => v.category).sum + (fx_ml M' + 11) + fx_lw M' ≤ fx_lw M) (d : decode (fx_cc M) pc = .ok (.invokespecial idx, 3))
    (K : fx_X g M (pc + 3) lv st k Q mc ms) : fx_X g M pc lv (Value.ref b :: st) h Q (mc' + mc) (ms' + ms) :=
  fx_callR ok hC (fx_siteI ok (as := []) w.1 w.2.1 w.2.2.1 w.2.2.2.1 w.2.2.2.2 d) w.1.1 w.1.2.1 hlv hlo K
theorem fx_Na0 (ok : fx_ok g) {idx : Nat} {b : Nat} {host : String} (w : fx_wN (fx_y M).cls idx 0 M' host) (hC : fx_C g M' (Value.ref b :: []) h (fx_is none k) mc' ms') (hlv : fx_lv M' + 1 ≤ fx_lv M) (hlo : (st.map fun v => v.category).sum + (fx_ml M' + 11) + fx_lw M' ≤ fx_lw M) (d : decode (fx_cc M) pc = .ok (.invokespecial idx, 3))
    (K : fx_X g M (pc + 3) lv st k Q mc ms) : fx_X g M pc lv (Value.ref b :: st) h Q (mc' + mc) (ms' + ms) :=
  fx_callR ok hC (fx_siteIN ok (as := []) w.1 w.2.1 w.2.2.1 w.2.2.2.1 w.2.2.2.2 d) w.1.1 w.1.2.1 hlv hlo K
theorem fx_Mi3 (ok : fx_ok g) {idx : Nat} {a1 a2 a3 : Value} {host : String} (w : fx_wSN (fx_y M).cls idx 3 M' host) (hC : fx_C g M' ([a1, a2, a3] : List Value) h (fx_is (some x) k) 0 0) (hlv : fx_lv M' + 1 ≤ fx_lv M) (hlo : (st.map fun v => v.category).sum + (fx_ml M' + 11) + fx_lw M' ≤ fx_lw M) (d : decode (fx_cc M) pc = .ok (.invokestatic idx, 3))
    (K : fx_X g M (pc + 3) lv (.int x :: st) k Q mc ms) : fx_X g M pc lv (a3 :: a2 :: a1 :: st) h Q mc ms :=
  fx_callR0 ok hC (fx_siteSN ok (as := [a1, a2, a3]) w.1 w.2 d) w.1.1 w.1.2.1 hlv hlo K
end FXS
