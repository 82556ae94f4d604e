/-! ===== what stays: shapes, references, the next address ===== -/
def fx_sm (h h' : fx_H) : Prop := h'.2 = h.2
theorem fx_sm_s {h h' : fx_H} (e : fx_sm h h') (a : Nat) : fx_s h' a = fx_s h a := by unfold fx_s; rw [e]
theorem fx_sm_r {h h' : fx_H} (e : fx_sm h h') (a k : Nat) : fx_r h' a k = fx_r h a k := by unfold fx_r; rw [e]
theorem fx_sm_n {h h' : fx_H} (e : fx_sm h h') : fx_n h' = fx_n h := by unfold fx_n; rw [e]
theorem fx_sm_it {f : Nat → fx_H → fx_H} (hf : ∀ n k, fx_sm k (f n k)) (h : fx_H) (n : Nat) : fx_sm h (it f h n) := it_keep (fun k : fx_H => k.2) f h hf n
theorem fx_sm_t {h h' h'' : fx_H} (a : fx_sm h h') (b : fx_sm h' h'') : fx_sm h h'' := Eq.trans b a
theorem fx_have {g : fx_G} {M : fx_M} {pc : Nat} {lv : List (Nat × Value)} {st : List Value} {h : fx_H} {Q : fx_O → fx_H → Prop} {mc ms : Nat} {P : fx_H → Prop} (hP : P h) (K : P h → fx_X g M pc lv st h Q mc ms) : fx_X g M pc lv st h Q mc ms := K hP
/-- a step that writes ints of the cell q alone -/
def fx_on (q : Nat) (h h' : fx_H) : Prop := fx_sm h h' ∧ ∀ b, b ≠ q → ∀ j, fx_i h' b j = fx_i h b j
theorem fx_on_wi (h : fx_H) (q k : Nat) (v : Int32) : fx_on q h (fx_wi h q k v) := ⟨rfl, fun b hb j => by rw [fx_i_wi, if_neg (fun z => hb z.1)]⟩
theorem fx_on_rf (h : fx_H) (q : Nat) : fx_on q h h := ⟨rfl, fun _ _ _ => rfl⟩
theorem fx_on_t {q : Nat} {h h' h'' : fx_H} (a : fx_on q h h') (b : fx_on q h' h'') : fx_on q h h'' := ⟨fx_sm_t a.1 b.1, fun c hc j => (b.2 c hc j).trans (a.2 c hc j)⟩
theorem fx_on_it {q : Nat} {f : Nat → fx_H → fx_H} (hf : ∀ n k, fx_on q k (f n k)) (h : fx_H) (n : Nat) : fx_on q h (it f h n) := by
  induction n with
  | zero => rw [it_0]; exact fx_on_rf h q
  | succ n ih => rw [it_s]; exact fx_on_t ih (hf n _)
/-- small numbers of a rectangle -/
def rOk (h : fx_H) (a : Nat) : Prop := (-1000 ≤ (fx_i h a 0).toInt ∧ (fx_i h a 0).toInt ≤ 1000) ∧ (-1000 ≤ (fx_i h a 1).toInt ∧ (fx_i h a 1).toInt ≤ 1000) ∧ (0 ≤ (fx_i h a 2).toInt ∧ (fx_i h a 2).toInt ≤ 1000) ∧ (0 ≤ (fx_i h a 3).toInt ∧ (fx_i h a 3).toInt ≤ 1000)
theorem jz_ge {y n : Int32} {i : Nat} (hy : -1000 ≤ y.toInt ∧ y.toInt ≤ 1000) (hn : 0 ≤ n.toInt ∧ n.toInt ≤ 1000) (hi : i < n.toNatClampNeg) : ¬ y + n ≤ y + nI i := by
  have e := iz_nn hn.1
  rw [jz_le (by omega) (by omega) (by omega)]
  omega
theorem jz_end {y n : Int32} (hy : -1000 ≤ y.toInt ∧ y.toInt ≤ 1000) (hn : 0 ≤ n.toInt ∧ n.toInt ≤ 1000) : y + n ≤ y + nI n.toNatClampNeg := by
  have e := iz_nn hn.1
  rw [jz_le (by omega) (by omega) (by omega)]
  exact Nat.le_refl _
