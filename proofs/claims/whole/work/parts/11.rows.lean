/-! ===== locals, stack, arithmetic, branches ===== -/
def fx_st (i : Nat) (v : Value) (lv : List (Nat × Value)) : List (Nat × Value) := (i, v) :: lv.filter (fun q => !(q.1 == i) && !(q.1 + 1 == i && q.2.category == 2))
theorem fx_iconst {g : fx_G} {M : fx_M} {pc : Nat} {lv : List (Nat × Value)} {st : List Value} {h : fx_H} {Q : fx_O → fx_H → Prop} {mc ms : Nat} {n : Int} {v : Int32} (d : decode (fx_cc M) pc = .ok (.iconst n, 1)) (hv : Int32.ofInt n = v)
    (K : fx_X g M (pc + 1) lv (.int v :: st) h Q mc ms) : fx_X g M pc lv (st) h Q mc ms := by
  intro p e R s m args below meth c F H locs cells slots ls hR hL hc hs hl
  exact lv_iconst F.1 F.2.1 d hv (K p e R s m args below meth c F H locs cells slots ls hR hL hc hs hl)
theorem fx_bipush {g : fx_G} {M : fx_M} {pc : Nat} {lv : List (Nat × Value)} {st : List Value} {h : fx_H} {Q : fx_O → fx_H → Prop} {mc ms : Nat} {n : Int} {v : Int32} (d : decode (fx_cc M) pc = .ok (.bipush n, 2)) (hv : (Int8.ofInt n).toInt32 = v)
    (K : fx_X g M (pc + 2) lv (.int v :: st) h Q mc ms) : fx_X g M pc lv (st) h Q mc ms := by
  intro p e R s m args below meth c F H locs cells slots ls hR hL hc hs hl
  exact lv_bipush F.1 F.2.1 d hv (K p e R s m args below meth c F H locs cells slots ls hR hL hc hs hl)
theorem fx_sipush {g : fx_G} {M : fx_M} {pc : Nat} {lv : List (Nat × Value)} {st : List Value} {h : fx_H} {Q : fx_O → fx_H → Prop} {mc ms : Nat} {n : Int} {v : Int32} (d : decode (fx_cc M) pc = .ok (.sipush n, 3)) (hv : (Int16.ofInt n).toInt32 = v)
    (K : fx_X g M (pc + 3) lv (.int v :: st) h Q mc ms) : fx_X g M pc lv (st) h Q mc ms := by
  intro p e R s m args below meth c F H locs cells slots ls hR hL hc hs hl
  exact lv_sipush F.1 F.2.1 d hv (K p e R s m args below meth c F H locs cells slots ls hR hL hc hs hl)
theorem fx_iload_n {g : fx_G} {M : fx_M} {pc : Nat} {lv : List (Nat × Value)} {st : List Value} {h : fx_H} {Q : fx_O → fx_H → Prop} {mc ms : Nat} {j : Fin 4} {i : Nat} {x : Int32} (k : Nat) (d : decode (fx_cc M) pc = .ok (.iload_n j, 1)) (hi : (j : Nat) = i) (hk : lv[k]? = some (i, .int x))
    (K : fx_X g M (pc + 1) lv (.int x :: st) h Q mc ms) : fx_X g M pc lv (st) h Q mc ms := by
  intro p e R s m args below meth c F H locs cells slots ls hR hL hc hs hl
  exact lv_iload_n F.1 F.2.1 d hi (lv_at hl k hk) (K p e R s m args below meth c F H locs cells slots ls hR hL hc hs hl)
theorem fx_iload {g : fx_G} {M : fx_M} {pc : Nat} {lv : List (Nat × Value)} {st : List Value} {h : fx_H} {Q : fx_O → fx_H → Prop} {mc ms : Nat} {i : Nat} {x : Int32} (k : Nat) (d : decode (fx_cc M) pc = .ok (.iload i, 2)) (hk : lv[k]? = some (i, .int x))
    (K : fx_X g M (pc + 2) lv (.int x :: st) h Q mc ms) : fx_X g M pc lv (st) h Q mc ms := by
  intro p e R s m args below meth c F H locs cells slots ls hR hL hc hs hl
  exact lv_iload F.1 F.2.1 d (lv_at hl k hk) (K p e R s m args below meth c F H locs cells slots ls hR hL hc hs hl)
theorem fx_istore_n {g : fx_G} {M : fx_M} {pc : Nat} {lv : List (Nat × Value)} {st : List Value} {h : fx_H} {Q : fx_O → fx_H → Prop} {mc ms : Nat} {j : Fin 4} {i : Nat} {x : Int32} {lv' : List (Nat × Value)} (d : decode (fx_cc M) pc = .ok (.istore_n j, 1)) (hi : (j : Nat) = i) (hn : i < fx_ml M) (hv : fx_st i (Value.int x) lv = lv')
    (K : fx_X g M (pc + 1) lv' st h Q mc ms) : fx_X g M pc lv (.int x :: st) h Q mc ms := by
  intro p e R s m args below meth c F H locs cells slots ls hR hL hc hs hl
  exact lv_istore_n F.1 F.2.1 d hi hl hn hv (fun ls' hl' => (K p e R s m args below meth c F H locs cells slots ls' hR hL hc hs hl'))
theorem fx_istore {g : fx_G} {M : fx_M} {pc : Nat} {lv : List (Nat × Value)} {st : List Value} {h : fx_H} {Q : fx_O → fx_H → Prop} {mc ms : Nat} {i : Nat} {x : Int32} {lv' : List (Nat × Value)} (d : decode (fx_cc M) pc = .ok (.istore i, 2)) (hn : i < fx_ml M) (hv : fx_st i (Value.int x) lv = lv')
    (K : fx_X g M (pc + 2) lv' st h Q mc ms) : fx_X g M pc lv (.int x :: st) h Q mc ms := by
  intro p e R s m args below meth c F H locs cells slots ls hR hL hc hs hl
  exact lv_istore F.1 F.2.1 d hl hn hv (fun ls' hl' => (K p e R s m args below meth c F H locs cells slots ls' hR hL hc hs hl'))
theorem fx_aload_n {g : fx_G} {M : fx_M} {pc : Nat} {lv : List (Nat × Value)} {st : List Value} {h : fx_H} {Q : fx_O → fx_H → Prop} {mc ms : Nat} {j : Fin 4} {i : Nat} {x : Nat} (k : Nat) (d : decode (fx_cc M) pc = .ok (.aload_n j, 1)) (hi : (j : Nat) = i) (hk : lv[k]? = some (i, .ref x))
    (K : fx_X g M (pc + 1) lv (.ref x :: st) h Q mc ms) : fx_X g M pc lv (st) h Q mc ms := by
  intro p e R s m args below meth c F H locs cells slots ls hR hL hc hs hl
  exact lv_aload_n F.1 F.2.1 d hi (lv_at hl k hk) (K p e R s m args below meth c F H locs cells slots ls hR hL hc hs hl)
theorem fx_aload {g : fx_G} {M : fx_M} {pc : Nat} {lv : List (Nat × Value)} {st : List Value} {h : fx_H} {Q : fx_O → fx_H → Prop} {mc ms : Nat} {i : Nat} {x : Nat} (k : Nat) (d : decode (fx_cc M) pc = .ok (.aload i, 2)) (hk : lv[k]? = some (i, .ref x))
    (K : fx_X g M (pc + 2) lv (.ref x :: st) h Q mc ms) : fx_X g M pc lv (st) h Q mc ms := by
  intro p e R s m args below meth c F H locs cells slots ls hR hL hc hs hl
  exact lv_aload F.1 F.2.1 d (lv_at hl k hk) (K p e R s m args below meth c F H locs cells slots ls hR hL hc hs hl)
theorem fx_astore_n {g : fx_G} {M : fx_M} {pc : Nat} {lv : List (Nat × Value)} {st : List Value} {h : fx_H} {Q : fx_O → fx_H → Prop} {mc ms : Nat} {j : Fin 4} {i : Nat} {x : Nat} {lv' : List (Nat × Value)} (d : decode (fx_cc M) pc = .ok (.astore_n j, 1)) (hi : (j : Nat) = i) (hn : i < fx_ml M) (hv : fx_st i (Value.ref x) lv = lv')
    (K : fx_X g M (pc + 1) lv' st h Q mc ms) : fx_X g M pc lv (.ref x :: st) h Q mc ms := by
  intro p e R s m args below meth c F H locs cells slots ls hR hL hc hs hl
  exact lv_astore_n F.1 F.2.1 d hi hl hn hv (fun ls' hl' => (K p e R s m args below meth c F H locs cells slots ls' hR hL hc hs hl'))
theorem fx_astore {g : fx_G} {M : fx_M} {pc : Nat} {lv : List (Nat × Value)} {st : List Value} {h : fx_H} {Q : fx_O → fx_H → Prop} {mc ms : Nat} {i : Nat} {x : Nat} {lv' : List (Nat × Value)} (d : decode (fx_cc M) pc = .ok (.astore i, 2)) (hn : i < fx_ml M) (hv : fx_st i (Value.ref x) lv = lv')
    (K : fx_X g M (pc + 2) lv' st h Q mc ms) : fx_X g M pc lv (.ref x :: st) h Q mc ms := by
  intro p e R s m args below meth c F H locs cells slots ls hR hL hc hs hl
  exact lv_astore F.1 F.2.1 d hl hn hv (fun ls' hl' => (K p e R s m args below meth c F H locs cells slots ls' hR hL hc hs hl'))
theorem fx_iinc {g : fx_G} {M : fx_M} {pc : Nat} {lv : List (Nat × Value)} {st : List Value} {h : fx_H} {Q : fx_O → fx_H → Prop} {mc ms : Nat} {i : Nat} {n : Int} {x v : Int32} {lv' : List (Nat × Value)} (k : Nat) (d : decode (fx_cc M) pc = .ok (.iinc i n, 3)) (hk : lv[k]? = some (i, .int x)) (hx : x + Int32.ofInt n = v) (hn : i < fx_ml M) (hv : fx_st i (Value.int v) lv = lv')
    (K : fx_X g M (pc + 3) lv' st h Q mc ms) : fx_X g M pc lv st h Q mc ms := by
  intro p e R s m args below meth c F H locs cells slots ls hR hL hc hs hl
  exact lv_iinc F.1 F.2.1 d hl hk hx hn hv (fun ls' hl' => (K p e R s m args below meth c F H locs cells slots ls' hR hL hc hs hl'))
theorem fx_iadd {g : fx_G} {M : fx_M} {pc : Nat} {lv : List (Nat × Value)} {st : List Value} {h : fx_H} {Q : fx_O → fx_H → Prop} {mc ms : Nat} {x y : Int32} (d : decode (fx_cc M) pc = .ok (.iadd, 1))
    (K : fx_X g M (pc + 1) lv (.int (x + y) :: st) h Q mc ms) : fx_X g M pc lv (.int y :: .int x :: st) h Q mc ms := by
  intro p e R s m args below meth c F H locs cells slots ls hR hL hc hs hl
  exact lv_iadd F.1 F.2.1 d (K p e R s m args below meth c F H locs cells slots ls hR hL hc hs hl)
theorem fx_isub {g : fx_G} {M : fx_M} {pc : Nat} {lv : List (Nat × Value)} {st : List Value} {h : fx_H} {Q : fx_O → fx_H → Prop} {mc ms : Nat} {x y : Int32} (d : decode (fx_cc M) pc = .ok (.isub, 1))
    (K : fx_X g M (pc + 1) lv (.int (x - y) :: st) h Q mc ms) : fx_X g M pc lv (.int y :: .int x :: st) h Q mc ms := by
  intro p e R s m args below meth c F H locs cells slots ls hR hL hc hs hl
  exact lv_isub F.1 F.2.1 d (K p e R s m args below meth c F H locs cells slots ls hR hL hc hs hl)
theorem fx_imul {g : fx_G} {M : fx_M} {pc : Nat} {lv : List (Nat × Value)} {st : List Value} {h : fx_H} {Q : fx_O → fx_H → Prop} {mc ms : Nat} {x y : Int32} (d : decode (fx_cc M) pc = .ok (.imul, 1))
    (K : fx_X g M (pc + 1) lv (.int (x * y) :: st) h Q mc ms) : fx_X g M pc lv (.int y :: .int x :: st) h Q mc ms := by
  intro p e R s m args below meth c F H locs cells slots ls hR hL hc hs hl
  exact lv_imul F.1 F.2.1 d (K p e R s m args below meth c F H locs cells slots ls hR hL hc hs hl)
theorem fx_iand {g : fx_G} {M : fx_M} {pc : Nat} {lv : List (Nat × Value)} {st : List Value} {h : fx_H} {Q : fx_O → fx_H → Prop} {mc ms : Nat} {x y : Int32} (d : decode (fx_cc M) pc = .ok (.iand, 1))
    (K : fx_X g M (pc + 1) lv (.int (x &&& y) :: st) h Q mc ms) : fx_X g M pc lv (.int y :: .int x :: st) h Q mc ms := by
  intro p e R s m args below meth c F H locs cells slots ls hR hL hc hs hl
  exact lv_iand F.1 F.2.1 d (K p e R s m args below meth c F H locs cells slots ls hR hL hc hs hl)
theorem fx_ior {g : fx_G} {M : fx_M} {pc : Nat} {lv : List (Nat × Value)} {st : List Value} {h : fx_H} {Q : fx_O → fx_H → Prop} {mc ms : Nat} {x y : Int32} (d : decode (fx_cc M) pc = .ok (.ior, 1))
    (K : fx_X g M (pc + 1) lv (.int (x ||| y) :: st) h Q mc ms) : fx_X g M pc lv (.int y :: .int x :: st) h Q mc ms := by
  intro p e R s m args below meth c F H locs cells slots ls hR hL hc hs hl
  exact lv_ior F.1 F.2.1 d (K p e R s m args below meth c F H locs cells slots ls hR hL hc hs hl)
theorem fx_ishl {g : fx_G} {M : fx_M} {pc : Nat} {lv : List (Nat × Value)} {st : List Value} {h : fx_H} {Q : fx_O → fx_H → Prop} {mc ms : Nat} {x y : Int32} (d : decode (fx_cc M) pc = .ok (.ishl, 1))
    (K : fx_X g M (pc + 1) lv (.int (x <<< (y &&& 31)) :: st) h Q mc ms) : fx_X g M pc lv (.int y :: .int x :: st) h Q mc ms := by
  intro p e R s m args below meth c F H locs cells slots ls hR hL hc hs hl
  exact lv_ishl F.1 F.2.1 d (K p e R s m args below meth c F H locs cells slots ls hR hL hc hs hl)
theorem fx_ishr {g : fx_G} {M : fx_M} {pc : Nat} {lv : List (Nat × Value)} {st : List Value} {h : fx_H} {Q : fx_O → fx_H → Prop} {mc ms : Nat} {x y : Int32} (d : decode (fx_cc M) pc = .ok (.ishr, 1))
    (K : fx_X g M (pc + 1) lv (.int (x >>> (y &&& 31)) :: st) h Q mc ms) : fx_X g M pc lv (.int y :: .int x :: st) h Q mc ms := by
  intro p e R s m args below meth c F H locs cells slots ls hR hL hc hs hl
  exact lv_ishr F.1 F.2.1 d (K p e R s m args below meth c F H locs cells slots ls hR hL hc hs hl)
theorem fx_idiv {g : fx_G} {M : fx_M} {pc : Nat} {lv : List (Nat × Value)} {st : List Value} {h : fx_H} {Q : fx_O → fx_H → Prop} {mc ms : Nat} {x y : Int32} (d : decode (fx_cc M) pc = .ok (.idiv, 1)) (hne : ¬ y = 0)
    (K : fx_X g M (pc + 1) lv (.int (x / y) :: st) h Q mc ms) : fx_X g M pc lv (.int y :: .int x :: st) h Q mc ms := by
  intro p e R s m args below meth c F H locs cells slots ls hR hL hc hs hl
  exact lv_idiv F.1 F.2.1 d hne (K p e R s m args below meth c F H locs cells slots ls hR hL hc hs hl)
theorem fx_irem {g : fx_G} {M : fx_M} {pc : Nat} {lv : List (Nat × Value)} {st : List Value} {h : fx_H} {Q : fx_O → fx_H → Prop} {mc ms : Nat} {x y : Int32} (d : decode (fx_cc M) pc = .ok (.irem, 1)) (hne : ¬ y = 0)
    (K : fx_X g M (pc + 1) lv (.int (x - x / y * y) :: st) h Q mc ms) : fx_X g M pc lv (.int y :: .int x :: st) h Q mc ms := by
  intro p e R s m args below meth c F H locs cells slots ls hR hL hc hs hl
  exact lv_irem F.1 F.2.1 d hne (K p e R s m args below meth c F H locs cells slots ls hR hL hc hs hl)
theorem fx_i2l {g : fx_G} {M : fx_M} {pc : Nat} {lv : List (Nat × Value)} {st : List Value} {h : fx_H} {Q : fx_O → fx_H → Prop} {mc ms : Nat} {x : Int32} (d : decode (fx_cc M) pc = .ok (.i2l, 1))
    (K : fx_X g M (pc + 1) lv (.long x.toInt64 :: st) h Q mc ms) : fx_X g M pc lv (.int x :: st) h Q mc ms := by
  intro p e R s m args below meth c F H locs cells slots ls hR hL hc hs hl
  exact lv_i2l F.1 F.2.1 d rfl (K p e R s m args below meth c F H locs cells slots ls hR hL hc hs hl)
theorem fx_dup {g : fx_G} {M : fx_M} {pc : Nat} {lv : List (Nat × Value)} {st : List Value} {h : fx_H} {Q : fx_O → fx_H → Prop} {mc ms : Nat} {a : Value} (d : decode (fx_cc M) pc = .ok (.dup, 1)) (ha : a.category = 1)
    (K : fx_X g M (pc + 1) lv (a :: a :: st) h Q mc ms) : fx_X g M pc lv (a :: st) h Q mc ms := by
  intro p e R s m args below meth c F H locs cells slots ls hR hL hc hs hl
  exact lv_dup F.1 F.2.1 d ha (K p e R s m args below meth c F H locs cells slots ls hR hL hc hs hl)
theorem fx_pop {g : fx_G} {M : fx_M} {pc : Nat} {lv : List (Nat × Value)} {st : List Value} {h : fx_H} {Q : fx_O → fx_H → Prop} {mc ms : Nat} {a : Value} (d : decode (fx_cc M) pc = .ok (.pop, 1)) (ha : a.category = 1)
    (K : fx_X g M (pc + 1) lv (st) h Q mc ms) : fx_X g M pc lv (a :: st) h Q mc ms := by
  intro p e R s m args below meth c F H locs cells slots ls hR hL hc hs hl
  exact lv_pop F.1 F.2.1 d ha (K p e R s m args below meth c F H locs cells slots ls hR hL hc hs hl)
theorem fx_dup_x1 {g : fx_G} {M : fx_M} {pc : Nat} {lv : List (Nat × Value)} {st : List Value} {h : fx_H} {Q : fx_O → fx_H → Prop} {mc ms : Nat} {a b : Value} (d : decode (fx_cc M) pc = .ok (.dup_x1, 1)) (ha : a.category = 1) (hb : b.category = 1)
    (K : fx_X g M (pc + 1) lv (a :: b :: a :: st) h Q mc ms) : fx_X g M pc lv (a :: b :: st) h Q mc ms := by
  intro p e R s m args below meth c F H locs cells slots ls hR hL hc hs hl
  exact lv_dup_x1 F.1 F.2.1 d ha hb (K p e R s m args below meth c F H locs cells slots ls hR hL hc hs hl)
theorem fx_dup_x2 {g : fx_G} {M : fx_M} {pc : Nat} {lv : List (Nat × Value)} {st : List Value} {h : fx_H} {Q : fx_O → fx_H → Prop} {mc ms : Nat} {a b e : Value} (d : decode (fx_cc M) pc = .ok (.dup_x2, 1)) (ha : a.category = 1) (hb : b.category = 1) (he : e.category = 1)
    (K : fx_X g M (pc + 1) lv (a :: b :: e :: a :: st) h Q mc ms) : fx_X g M pc lv (a :: b :: e :: st) h Q mc ms := by
  intro p e R s m args below meth c F H locs cells slots ls hR hL hc hs hl
  exact lv_dup_x2 F.1 F.2.1 d ha hb he (K p e R s m args below meth c F H locs cells slots ls hR hL hc hs hl)
theorem fx_dup2 {g : fx_G} {M : fx_M} {pc : Nat} {lv : List (Nat × Value)} {st : List Value} {h : fx_H} {Q : fx_O → fx_H → Prop} {mc ms : Nat} {a b : Value} (d : decode (fx_cc M) pc = .ok (.dup2, 1)) (ha : a.category = 1) (hb : b.category = 1)
    (K : fx_X g M (pc + 1) lv (a :: b :: a :: b :: st) h Q mc ms) : fx_X g M pc lv (a :: b :: st) h Q mc ms := by
  intro p e R s m args below meth c F H locs cells slots ls hR hL hc hs hl
  exact lv_dup2_11 F.1 F.2.1 d ha hb (K p e R s m args below meth c F H locs cells slots ls hR hL hc hs hl)
theorem fx_if_eq {g : fx_G} {M : fx_M} {pc : Nat} {lv : List (Nat × Value)} {st : List Value} {h : fx_H} {Q : fx_O → fx_H → Prop} {mc ms : Nat} {x : Int32} {off : Int} {tgt : Nat} (d : decode (fx_cc M) pc = .ok (.ifCond .eq off, 3)) (ht : (pc : Int) + off = (tgt : Int))
    (Kt : x = 0 → fx_X g M tgt lv st h Q mc ms) (Kf : ¬ x = 0 → fx_X g M (pc + 3) lv st h Q mc ms) : fx_X g M pc lv (.int x :: st) h Q mc ms := by
  intro p e R s m args below meth c F H locs cells slots ls hR hL hc hs hl
  exact lv_if_eq F.1 F.2.1 d ht (fun hcc => Kt hcc p e R s m args below meth c F H locs cells slots ls hR hL hc hs hl) (fun hcc => Kf hcc p e R s m args below meth c F H locs cells slots ls hR hL hc hs hl)
theorem fx_icmp_eq {g : fx_G} {M : fx_M} {pc : Nat} {lv : List (Nat × Value)} {st : List Value} {h : fx_H} {Q : fx_O → fx_H → Prop} {mc ms : Nat} {x y : Int32} {off : Int} {tgt : Nat} (d : decode (fx_cc M) pc = .ok (.if_icmp .eq off, 3)) (ht : (pc : Int) + off = (tgt : Int))
    (Kt : x = y → fx_X g M tgt lv st h Q mc ms) (Kf : ¬ x = y → fx_X g M (pc + 3) lv st h Q mc ms) : fx_X g M pc lv (.int y :: .int x :: st) h Q mc ms := by
  intro p e R s m args below meth c F H locs cells slots ls hR hL hc hs hl
  exact lv_icmp_eq F.1 F.2.1 d ht (fun hcc => Kt hcc p e R s m args below meth c F H locs cells slots ls hR hL hc hs hl) (fun hcc => Kf hcc p e R s m args below meth c F H locs cells slots ls hR hL hc hs hl)
theorem fx_if_ne {g : fx_G} {M : fx_M} {pc : Nat} {lv : List (Nat × Value)} {st : List Value} {h : fx_H} {Q : fx_O → fx_H → Prop} {mc ms : Nat} {x : Int32} {off : Int} {tgt : Nat} (d : decode (fx_cc M) pc = .ok (.ifCond .ne off, 3)) (ht : (pc : Int) + off = (tgt : Int))
    (Kt : ¬ x = 0 → fx_X g M tgt lv st h Q mc ms) (Kf : x = 0 → fx_X g M (pc + 3) lv st h Q mc ms) : fx_X g M pc lv (.int x :: st) h Q mc ms := by
  intro p e R s m args below meth c F H locs cells slots ls hR hL hc hs hl
  exact lv_if_ne F.1 F.2.1 d ht (fun hcc => Kt hcc p e R s m args below meth c F H locs cells slots ls hR hL hc hs hl) (fun hcc => Kf hcc p e R s m args below meth c F H locs cells slots ls hR hL hc hs hl)
theorem fx_icmp_ne {g : fx_G} {M : fx_M} {pc : Nat} {lv : List (Nat × Value)} {st : List Value} {h : fx_H} {Q : fx_O → fx_H → Prop} {mc ms : Nat} {x y : Int32} {off : Int} {tgt : Nat} (d : decode (fx_cc M) pc = .ok (.if_icmp .ne off, 3)) (ht : (pc : Int) + off = (tgt : Int))
    (Kt : ¬ x = y → fx_X g M tgt lv st h Q mc ms) (Kf : x = y → fx_X g M (pc + 3) lv st h Q mc ms) : fx_X g M pc lv (.int y :: .int x :: st) h Q mc ms := by
  intro p e R s m args below meth c F H locs cells slots ls hR hL hc hs hl
  exact lv_icmp_ne F.1 F.2.1 d ht (fun hcc => Kt hcc p e R s m args below meth c F H locs cells slots ls hR hL hc hs hl) (fun hcc => Kf hcc p e R s m args below meth c F H locs cells slots ls hR hL hc hs hl)
theorem fx_if_lt {g : fx_G} {M : fx_M} {pc : Nat} {lv : List (Nat × Value)} {st : List Value} {h : fx_H} {Q : fx_O → fx_H → Prop} {mc ms : Nat} {x : Int32} {off : Int} {tgt : Nat} (d : decode (fx_cc M) pc = .ok (.ifCond .lt off, 3)) (ht : (pc : Int) + off = (tgt : Int))
    (Kt : x < 0 → fx_X g M tgt lv st h Q mc ms) (Kf : ¬ x < 0 → fx_X g M (pc + 3) lv st h Q mc ms) : fx_X g M pc lv (.int x :: st) h Q mc ms := by
  intro p e R s m args below meth c F H locs cells slots ls hR hL hc hs hl
  exact lv_if_lt F.1 F.2.1 d ht (fun hcc => Kt hcc p e R s m args below meth c F H locs cells slots ls hR hL hc hs hl) (fun hcc => Kf hcc p e R s m args below meth c F H locs cells slots ls hR hL hc hs hl)
theorem fx_icmp_lt {g : fx_G} {M : fx_M} {pc : Nat} {lv : List (Nat × Value)} {st : List Value} {h : fx_H} {Q : fx_O → fx_H → Prop} {mc ms : Nat} {x y : Int32} {off : Int} {tgt : Nat} (d : decode (fx_cc M) pc = .ok (.if_icmp .lt off, 3)) (ht : (pc : Int) + off = (tgt : Int))
    (Kt : x < y → fx_X g M tgt lv st h Q mc ms) (Kf : ¬ x < y → fx_X g M (pc + 3) lv st h Q mc ms) : fx_X g M pc lv (.int y :: .int x :: st) h Q mc ms := by
  intro p e R s m args below meth c F H locs cells slots ls hR hL hc hs hl
  exact lv_icmp_lt F.1 F.2.1 d ht (fun hcc => Kt hcc p e R s m args below meth c F H locs cells slots ls hR hL hc hs hl) (fun hcc => Kf hcc p e R s m args below meth c F H locs cells slots ls hR hL hc hs hl)
theorem fx_if_ge {g : fx_G} {M : fx_M} {pc : Nat} {lv : List (Nat × Value)} {st : List Value} {h : fx_H} {Q : fx_O → fx_H → Prop} {mc ms : Nat} {x : Int32} {off : Int} {tgt : Nat} (d : decode (fx_cc M) pc = .ok (.ifCond .ge off, 3)) (ht : (pc : Int) + off = (tgt : Int))
    (Kt : 0 ≤ x → fx_X g M tgt lv st h Q mc ms) (Kf : ¬ 0 ≤ x → fx_X g M (pc + 3) lv st h Q mc ms) : fx_X g M pc lv (.int x :: st) h Q mc ms := by
  intro p e R s m args below meth c F H locs cells slots ls hR hL hc hs hl
  exact lv_if_ge F.1 F.2.1 d ht (fun hcc => Kt hcc p e R s m args below meth c F H locs cells slots ls hR hL hc hs hl) (fun hcc => Kf hcc p e R s m args below meth c F H locs cells slots ls hR hL hc hs hl)
theorem fx_icmp_ge {g : fx_G} {M : fx_M} {pc : Nat} {lv : List (Nat × Value)} {st : List Value} {h : fx_H} {Q : fx_O → fx_H → Prop} {mc ms : Nat} {x y : Int32} {off : Int} {tgt : Nat} (d : decode (fx_cc M) pc = .ok (.if_icmp .ge off, 3)) (ht : (pc : Int) + off = (tgt : Int))
    (Kt : y ≤ x → fx_X g M tgt lv st h Q mc ms) (Kf : ¬ y ≤ x → fx_X g M (pc + 3) lv st h Q mc ms) : fx_X g M pc lv (.int y :: .int x :: st) h Q mc ms := by
  intro p e R s m args below meth c F H locs cells slots ls hR hL hc hs hl
  exact lv_icmp_ge F.1 F.2.1 d ht (fun hcc => Kt hcc p e R s m args below meth c F H locs cells slots ls hR hL hc hs hl) (fun hcc => Kf hcc p e R s m args below meth c F H locs cells slots ls hR hL hc hs hl)
theorem fx_if_gt {g : fx_G} {M : fx_M} {pc : Nat} {lv : List (Nat × Value)} {st : List Value} {h : fx_H} {Q : fx_O → fx_H → Prop} {mc ms : Nat} {x : Int32} {off : Int} {tgt : Nat} (d : decode (fx_cc M) pc = .ok (.ifCond .gt off, 3)) (ht : (pc : Int) + off = (tgt : Int))
    (Kt : 0 < x → fx_X g M tgt lv st h Q mc ms) (Kf : ¬ 0 < x → fx_X g M (pc + 3) lv st h Q mc ms) : fx_X g M pc lv (.int x :: st) h Q mc ms := by
  intro p e R s m args below meth c F H locs cells slots ls hR hL hc hs hl
  exact lv_if_gt F.1 F.2.1 d ht (fun hcc => Kt hcc p e R s m args below meth c F H locs cells slots ls hR hL hc hs hl) (fun hcc => Kf hcc p e R s m args below meth c F H locs cells slots ls hR hL hc hs hl)
theorem fx_icmp_gt {g : fx_G} {M : fx_M} {pc : Nat} {lv : List (Nat × Value)} {st : List Value} {h : fx_H} {Q : fx_O → fx_H → Prop} {mc ms : Nat} {x y : Int32} {off : Int} {tgt : Nat} (d : decode (fx_cc M) pc = .ok (.if_icmp .gt off, 3)) (ht : (pc : Int) + off = (tgt : Int))
    (Kt : y < x → fx_X g M tgt lv st h Q mc ms) (Kf : ¬ y < x → fx_X g M (pc + 3) lv st h Q mc ms) : fx_X g M pc lv (.int y :: .int x :: st) h Q mc ms := by
  intro p e R s m args below meth c F H locs cells slots ls hR hL hc hs hl
  exact lv_icmp_gt F.1 F.2.1 d ht (fun hcc => Kt hcc p e R s m args below meth c F H locs cells slots ls hR hL hc hs hl) (fun hcc => Kf hcc p e R s m args below meth c F H locs cells slots ls hR hL hc hs hl)
theorem fx_if_le {g : fx_G} {M : fx_M} {pc : Nat} {lv : List (Nat × Value)} {st : List Value} {h : fx_H} {Q : fx_O → fx_H → Prop} {mc ms : Nat} {x : Int32} {off : Int} {tgt : Nat} (d : decode (fx_cc M) pc = .ok (.ifCond .le off, 3)) (ht : (pc : Int) + off = (tgt : Int))
    (Kt : x ≤ 0 → fx_X g M tgt lv st h Q mc ms) (Kf : ¬ x ≤ 0 → fx_X g M (pc + 3) lv st h Q mc ms) : fx_X g M pc lv (.int x :: st) h Q mc ms := by
  intro p e R s m args below meth c F H locs cells slots ls hR hL hc hs hl
  exact lv_if_le F.1 F.2.1 d ht (fun hcc => Kt hcc p e R s m args below meth c F H locs cells slots ls hR hL hc hs hl) (fun hcc => Kf hcc p e R s m args below meth c F H locs cells slots ls hR hL hc hs hl)
theorem fx_icmp_le {g : fx_G} {M : fx_M} {pc : Nat} {lv : List (Nat × Value)} {st : List Value} {h : fx_H} {Q : fx_O → fx_H → Prop} {mc ms : Nat} {x y : Int32} {off : Int} {tgt : Nat} (d : decode (fx_cc M) pc = .ok (.if_icmp .le off, 3)) (ht : (pc : Int) + off = (tgt : Int))
    (Kt : x ≤ y → fx_X g M tgt lv st h Q mc ms) (Kf : ¬ x ≤ y → fx_X g M (pc + 3) lv st h Q mc ms) : fx_X g M pc lv (.int y :: .int x :: st) h Q mc ms := by
  intro p e R s m args below meth c F H locs cells slots ls hR hL hc hs hl
  exact lv_icmp_le F.1 F.2.1 d ht (fun hcc => Kt hcc p e R s m args below meth c F H locs cells slots ls hR hL hc hs hl) (fun hcc => Kf hcc p e R s m args below meth c F H locs cells slots ls hR hL hc hs hl)
theorem fx_goto {g : fx_G} {M : fx_M} {pc : Nat} {lv : List (Nat × Value)} {st : List Value} {h : fx_H} {Q : fx_O → fx_H → Prop} {mc ms : Nat} {off : Int} {tgt : Nat} (d : decode (fx_cc M) pc = .ok (.goto off, 3)) (ht : (pc : Int) + off = (tgt : Int)) (K : fx_X g M tgt lv st h Q mc ms) : fx_X g M pc lv st h Q mc ms := by
  intro p e R s m args below meth c F H locs cells slots ls hR hL hc hs hl
  exact lv_goto F.1 F.2.1 d ht (K p e R s m args below meth c F H locs cells slots ls hR hL hc hs hl)
theorem fx_sub {g : fx_G} {M : fx_M} {pc : Nat} {lv : List (Nat × Value)} {st : List Value} {h : fx_H} {Q : fx_O → fx_H → Prop} {mc ms : Nat} (ks : List Nat) {lv' : List (Nat × Value)} (hv : lv_pick lv ks = lv') (K : fx_X g M pc lv' st h Q mc ms) : fx_X g M pc lv st h Q mc ms := by
  intro p e R s m args below meth c F H locs cells slots ls hR hL hc hs hl
  exact K p e R s m args below meth c F H locs cells slots ls hR hL hc hs (lv_sub hl ks hv)
