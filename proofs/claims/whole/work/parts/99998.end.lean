/-! ===== the claim out of the walk ===== -/
def lw_P (b : Addr) (xs : List Int32) (args : Array Value) (s : State) : Prop := args = #[.ref b] ∧ s.IntsAt b xs ∧ xs.length ≤ 4608 ∧ (Jvm.Cond.and given_1 narrow_1).before args s = true
def lw_Q (_ : Array Value) (s : State) (o : Outcome) (t : State) : Prop := o = .returned (some (.int 1)) ∧ Framed s o t [] 601024 7293034
theorem lw_new {s t : State} {L : List Loc} {k n : Nat} (h : s.sameButNew t L k n) (hL : ∀ z ∈ L, s.heap.size ≤ z.base) : s.sameButNew t [] k n := by
  obtain ⟨h1, h2, h3, h4, h5, h6⟩ := h
  refine ⟨h1, h2, h3, h4, h5, fun a c hc => ?_⟩
  obtain ⟨c', g1, g2, g3, g4⟩ := h6 a c hc
  refine ⟨c', g1, g2, g3, fun i _ => g4 i (fun z => ?_)⟩
  have e1 : s.heap.size ≤ a := hL _ z
  exact absurd (Array.getElem?_eq_some_iff.mp hc).1 (Nat.not_lt.mpr e1)
theorem lw_cls {s : State} {args : Array Value} (hall : ∀ w ∈ fx_tb, w.before args s = true) : ∃ D : va_G, ∀ (c : Nat) (q : vw_C), fx_cl[c]? = some q → u_Kn s q.1 q.2.1 q.2.2 (D.1 c) (D.2 c) := by
  have key : ∀ q ∈ fx_cl, ∃ (cC : ClassId) (iS : Nat → Nat), u_Kn s q.1 q.2.1 q.2.2 cC iS := by
    unfold fx_cl
    refine List.forall_mem_cons.mpr ⟨u_known hall lq_FS (hall _ ko_FS), ?_⟩
    refine List.forall_mem_cons.mpr ⟨u_known hall lq_RE (hall _ ko_RE), ?_⟩
    refine List.forall_mem_cons.mpr ⟨u_known hall lq_PI (hall _ ko_PI), ?_⟩
    refine List.forall_mem_cons.mpr ⟨u_known hall lq_PL (hall _ ko_PL), ?_⟩
    refine List.forall_mem_cons.mpr ⟨u_known hall lq_DE (hall _ ko_DE), ?_⟩
    refine List.forall_mem_cons.mpr ⟨u_known hall lq_MI (hall _ ko_MI), ?_⟩
    refine List.forall_mem_cons.mpr ⟨u_known hall lq_ME (hall _ ko_ME), ?_⟩
    refine List.forall_mem_cons.mpr ⟨u_known hall lq_PN (hall _ ko_PN), ?_⟩
    refine List.forall_mem_cons.mpr ⟨u_known hall lq_CO (hall _ ko_CO), ?_⟩
    refine List.forall_mem_cons.mpr ⟨u_known hall lq_BE (hall _ ko_BE), ?_⟩
    refine List.forall_mem_cons.mpr ⟨u_known hall lq_MO (hall _ ko_MO), ?_⟩
    exact fun q hq => absurd hq List.not_mem_nil
  have all : ∀ c : Nat, ∃ (cC : ClassId) (iS : Nat → Nat), ∀ q : vw_C, fx_cl[c]? = some q → u_Kn s q.1 q.2.1 q.2.2 cC iS := fun c => by
    cases h : fx_cl[c]? with
    | none => exact ⟨0, fun _ => 0, fun q hq => by cases hq⟩
    | some q =>
      obtain ⟨cC, iS, hk⟩ := key q (List.mem_of_getElem? h)
      exact ⟨cC, iS, fun q' hq => by cases hq; exact hk⟩
  exact ⟨(fun c => Classical.choose (all c), fun c => Classical.choose (Classical.choose_spec (all c))), fun c q hq => Classical.choose_spec (Classical.choose_spec (all c)) q hq⟩
/-- the class of the rows of rows of ints -/
theorem lw_over {args : Array Value} {s : State} {t : FieldType} (h : (Cond.arrayOver (.array t)).before args s = true) : ∃ comp c k, s.vm.classes[c]? = some k ∧ k.kind = .array comp (.array t) ∧ s.vm.findClass ("[" ++ (FieldType.array t).toString) = some c := by
  simp only [Cond.before, Cond.holds, Cond.value, beq_iff_eq] at h
  cases hc : s.vm.findClass (FieldType.array t).toString with
  | none => simp [hc] at h
  | some comp =>
    simp only [hc, Option.bind_some, Option.bind_eq_some_iff, Option.map_eq_some_iff] at h
    obtain ⟨c, hi, k, hk, hb⟩ := h
    obtain ⟨hlt, hp, -⟩ := Array.findIdx?_eq_some_iff_getElem.mp hi
    have hkk : s.vm.classes[c] = k := (Array.getElem?_eq_some_iff.mp hk).2
    rw [hkk] at hp
    cases hkind : k.kind with
    | array component ty =>
      rw [hkind] at hb hp
      simp at hb hp
      exact ⟨comp, c, k, hk, by rw [hkind, hp, hb.1], hb.2⟩
    | _ => rw [hkind] at hb; simp at hb
theorem lw_arr {s : State} {args : Array Value} (hall : ∀ w ∈ fx_tb, w.before args s = true) : ∃ dA : Nat → ClassId, ∀ (ak : Nat) (ty : FieldType), fx_tys[ak]? = some ty → ArrOfT s (dA ak) ty ∧ va_RA s (dA ak) ty := by
  have prim : ∀ ty, Cond.arrayClass ty ∈ fx_tb → (∀ C, ty ≠ .object C) → ∃ cA, ArrOfT s cA ty ∧ va_RA s cA ty := fun ty hw hn => by
    obtain ⟨cA, kA, comp, h1, h2, h3⟩ := Cond.arrayClass_spec (hall _ hw)
    refine ⟨cA, fun n z => ⟨fun k h => (by cases h), kA, h2, comp, h3⟩, ?_⟩
    cases ty with
    | object C => exact absurd rfl (hn C)
    | _ => exact h1
  have obj : ∀ C, Cond.arrayOver (.object C) ∈ fx_tb → ∃ cA, ArrOfT s cA (.object C) ∧ va_RA s cA (.object C) := fun C hw => by
    obtain ⟨comp, cA, kA, h1, -, h2, h3, h4⟩ := Cond.arrayOver_spec (hall _ hw)
    exact ⟨cA, fun n z => ⟨fun k h => (by cases h), kA, h2, comp, h3⟩, kA, comp, h2, h3, h1, h4⟩
  have arr : ∃ cA, ArrOfT s cA (.array .int) ∧ va_RA s cA (.array .int) := by
    obtain ⟨comp, cA, kA, h2, h3, h4⟩ := lw_over (hall _ kv_I)
    exact ⟨cA, fun n z => ⟨fun k h => (by cases h), kA, h2, comp, h3⟩, h4⟩
  have key : ∀ ty ∈ fx_tys, ∃ cA, ArrOfT s cA ty ∧ va_RA s cA ty := by
    unfold fx_tys
    refine List.forall_mem_cons.mpr ⟨prim _ ka_int (fun C h => by cases h), ?_⟩
    refine List.forall_mem_cons.mpr ⟨prim _ ka_boolean (fun C h => by cases h), ?_⟩
    refine List.forall_mem_cons.mpr ⟨prim _ ka_long (fun C h => by cases h), ?_⟩
    refine List.forall_mem_cons.mpr ⟨obj _ kv_PI, ?_⟩
    refine List.forall_mem_cons.mpr ⟨obj _ kv_RE, ?_⟩
    refine List.forall_mem_cons.mpr ⟨arr, ?_⟩
    exact fun q hq => absurd hq List.not_mem_nil
  have all : ∀ k : Nat, ∃ cA : ClassId, ∀ ty, fx_tys[k]? = some ty → ArrOfT s cA ty ∧ va_RA s cA ty := fun k => by
    cases h : fx_tys[k]? with
    | none => exact ⟨0, fun q hq => by cases hq⟩
    | some ty =>
      obtain ⟨cA, hk⟩ := key ty (List.mem_of_getElem? h)
      exact ⟨cA, fun q' hq => by cases hq; exact hk⟩
  exact ⟨fun k => Classical.choose (all k), fun k ty hk => Classical.choose_spec (all k) ty hk⟩
set_option maxHeartbeats 4000000 in
theorem lw_walk (l : Launch) (hst : l.stackTraces = false) (b : Addr) (xs : List Int32) : MetFree l x (headSpec (Jvm.Cond.code x code maxLocals ret :: tables_1) room_1) (lw_P b xs) (fun _ _ _ _ _ => True) lw_Q := by
  refine MetFree.of_bodyS (code := code) (maxLocals := maxLocals) (ret := ret) (by decide) ?_ ?_
  · intro args s m h hn
    obtain ⟨meth, c, h1, h2, h3, h4, h5, h6, -, -⟩ := Cond.code_spec hn (atoms_spec (ws := Jvm.Cond.code x code maxLocals ret :: tables_1) h _ List.mem_cons_self)
    exact ⟨meth, c, h1, h2, h3, h4, h5, h6⟩
  · intro p e s m args below meth c s₁ B hml0 hP _
    obtain ⟨rfl, hx, hbd, hgv⟩ := hP
    obtain ⟨scr, harrAt, hlist, hof, hsmall⟩ := hx
    obtain ⟨hcb, hkn, -, -⟩ := State.arrayAt?_spec harrAt
    have hts0 : ∀ c ∈ (Jvm.Cond.code x code maxLocals ret :: tables_1), c.before #[Value.ref b] s = true := atoms_spec (ws := Jvm.Cond.code x code maxLocals ret :: tables_1) B.pre
    have hts : ∀ w ∈ lw_tbl, w.before #[Value.ref b] s = true := k2_hts_sels lw_privs (fun w hw => hts0 w (List.mem_cons_of_mem _ hw)) lw_privs_ok
    have hfl := flat_of_before _ hgv
    have hex : ∀ w ∈ fx_ex, w.before #[Value.ref b] s = true := by
      unfold fx_ex
      refine List.forall_mem_cons.mpr ⟨hfl _ (by decide +kernel), ?_⟩
      refine List.forall_mem_cons.mpr ⟨hfl _ (by decide +kernel), ?_⟩
      refine List.forall_mem_cons.mpr ⟨hfl _ (by decide +kernel), ?_⟩
      refine List.forall_mem_cons.mpr ⟨hfl _ (by decide +kernel), ?_⟩
      exact fun q hq => absurd hq List.not_mem_nil
    have hall : ∀ w ∈ fx_tb, w.before #[Value.ref b] s = true := fun w hw => by
      rcases List.mem_append.mp hw with h | h
      · exact hts w h
      · exact hex w h
    have hsz : scr.slots.size = xs.length := by rw [← Array.length_toList, hlist, List.length_map]
    have hval : ∀ j : Nat, j < xs.length → scr.slots[j]? = some (.int (xs.getD j 0)) := fun j hj => by
      rw [← Array.getElem?_toList, hlist]
      simp [hj]
    have hbl : b < s.heap.size := (Array.getElem?_eq_some_iff.mp hcb).1
    have hX : va_X b xs.length (fun j => xs.getD j 0) s s.heap := ⟨scr, hcb, hof, hkn, hsz, hval⟩
    obtain ⟨D, hD⟩ := lw_cls hall
    obtain ⟨dA, hdA⟩ := lw_arr hall
    have ok : fx_ok ((l, s, #[Value.ref b], D, dA) : fx_G) := ⟨hst, hall, hD, hdA⟩
    have X := Stand.of_body B
    have hw : (fx_cw mq_LA_law).before #[Value.ref b] s = true := hts0 _ List.mem_cons_self
    obtain ⟨meth', c', h1, h2, -, -, -, -, h7, -⟩ := fx_cw_spec (M := mq_LA_law) B.named hw
    cases h1.symm.trans B.method
    cases h2.symm.trans X.code
    have hh0 : s₁.heap = s.heap := by rw [B.state]; rfl
    have hl := lv_entry [Value.ref b] (n := 7) (Nat.le_of_ble_eq_true rfl)
    have F : fx_F ((l, s, #[Value.ref b], D, dA) : fx_G) mq_LA_law p room_1 s m meth c :=
      ⟨B.exec, B.bytes, hml0, B.returns, B.notSynchronized, State.WarmedH.refl s, findClass_of_methodNamed B.named, (name_of_methodNamed B.named B.method).1, h7, Nat.le_refl _, Nat.le_refl _⟩
    have hR : fx_R ((l, s, #[Value.ref b], D, dA) : fx_G) ((fun _ _ => 0, fun _ _ => none, fun _ => none, s.heap.size) : fx_H) s.heap := ⟨rfl, Nat.le_refl _, fun _ _ => rfl, fun a y hy => by cases hy⟩
    obtain ⟨t, st, o, hrun, hend, L, g1, g2, g3, o', h', g4, -, g6⟩ := la_law ok hX hbl hbd _ p e room_1 s m #[Value.ref b] below meth c F s.heap [] 0 0 _ hR (fun z hz => nomatch hz) (by rw [Nat.zero_add]; exact Nat.le_refl _) (by rw [Nat.zero_add]; exact Nat.le_refl _) hl s₁ hh0 X
    rw [← lg_entry_eq] at st
    have ho : o = .returned (some (.int 1)) := by
      have e4 : o' = .inl (some 1) := g4
      subst e4
      exact g6
    exact ⟨t, o, st, hrun, hend, ho, ⟨_, ho⟩, g1, lw_new g2 g3⟩
theorem lw_pre_spec {args : Array Value} {s : State} (h : (Jvm.Cond.and given_1 narrow_1).before args s = true) (hr : rest_1_c.before args s = true) : ∃ (b : Addr) (xs : List Int32), lw_P b xs args s := by
  have hs := flat_of_before _ h
  have hq := flat_of_before _ hr
  have hc : (Cond.count 1).before args s = true := hs _ (by decide +kernel)
  have harr : (Cond.arrayOf (.arg 0) .int).before args s = true := hs _ (by decide +kernel)
  have hle : (Cond.le (.length (.arg 0)) (.int 4608)).before args s = true := hs _ (by decide +kernel)
  have hlen : (Cond.isInt (.length (.arg 0))).before args s = true := hq _ (by decide +kernel)
  have hall : (Cond.all (.arg 0) (.isInt (.elem (.arg 0) (.index 0)))).before args s = true := hq _ (by decide +kernel)
  obtain ⟨b, xs, hb, hx⟩ := State.ints_of_pre rfl harr hlen hall
  have hsm : xs.length < 2 ^ 31 := hx.choose_spec.2.2.2
  have hev : (Term.length (.arg 0)).eval args s none [] s = some (.int xs.length.toInt32) := hx.length_eval hb
  have hv := Cond.le_ints hev (show (Term.int 4608).eval args s none [] s = some (.int 4608) from rfl)
  have hd : xs.length.toInt32 ≤ 4608 := by
    simpa [Cond.before, Cond.holds, hv] using hle
  have hN : xs.length ≤ 4608 := (Int32.ofNat_le_ofNat hsm (by decide)).mp (show Int32.ofNat xs.length ≤ Int32.ofNat 4608 from hd)
  exact ⟨b, xs, Cond.one_arg hc (show args[0]? = some (.ref b) from hb), hx, hN, h⟩
theorem lw_comes (l : Launch) (hst : l.stackTraces = false) : Comes l x (Jvm.Cond.code x code maxLocals ret :: tables_1) room_1 (fun tb e args s => Calls_1 tb e args s ∧ rest_1 tb e args s ∧ Pre_1 tb e args s)
    (fun _ _ args s o t => lw_Q args s o t) := by
  intro p e ha hc hk s m args below hf hfit hheap happ hpre
  obtain ⟨b, xs, hP⟩ := lw_pre_spec hpre.2.2 hpre.2.1
  obtain ⟨k, o, h1, h2, h3, hQ⟩ := lw_walk l hst b xs p e ha hc hk s m args below hf ((Spec.applies_iff_loose hf).mp happ).1 hP trivial
  exact ⟨k, o, h1, h2, h3, hQ⟩
theorem lw_frame {s t : State} {o : Outcome} {args : Array Value} (h : Framed s o t [] 601024 7293034) :
    Framed s o t (fieldLocs frame_1_writes args s ++ arrayLocs frame_1_arrays args s ++ staticLocs frame_1_statics s) 601024 7293034 := h
theorem lw_limb (L : Cond) (hL : ∀ (args : Array Value) (s t : State), L.after args s (.returned (some (.int 1))) t = true) :
    ArmFor flags0 classFile x code maxLocals ret World_1 tables_1 room_1 Calls_1 rest_1 Pre_1
      (fun tb e a s o t => postC L tb e a s o t ∧ Framed s o t (fieldLocs frame_1_writes a s ++ arrayLocs frame_1_arrays a s ++ staticLocs frame_1_statics s) 601024 7293034) := by
  intro l hfl _ _ p e ha hc hk s m args below hf hfit hheap happ hpre
  have hst : l.stackTraces = false := by
    rw [Launch.stackTraces, hfl]
    decide +kernel
  obtain ⟨k, o, h1, h2, h3, rfl, hF⟩ := lw_comes l hst p e ha hc hk s m args below hf hfit hheap happ hpre
  exact ⟨k, _, h1, h2, h3, hL args s _, lw_frame hF⟩
theorem i_vc : Claimed_1_1 ∧ Claimed_1_2 := ⟨lw_limb limb_1_1 (fun args s t => by simp [limb_1_1, Cond.after, Cond.holds, Cond.value]), lw_limb limb_1_2 (fun args s t => Cond.after_iff.mpr (by
  first | (rw [show limb_1_2 = Cond.eq .result (.int 1) from rfl, Cond.eq_ints (x := 1) (y := 1) rfl rfl]; simp; done) | (simp [limb_1_2, Cond.value, Term.eval]; done)))⟩
