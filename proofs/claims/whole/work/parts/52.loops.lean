/-! ===== loops ===== -/
section FXL
variable {g : fx_G} {M : fx_M} {pc : Nat} {lv : List (Nat × Value)} {st : List Value} {h h' : fx_H} {Q : fx_O → fx_H → Prop} {mc ms : Nat}
theorem fx_know {P : Prop} (hk : ∀ H, fx_R g h H → P) (K : P → fx_X g M pc lv st h Q mc ms) : fx_X g M pc lv st h Q mc ms := by
  intro p e R s m args below meth c F H locs cells slots ls hR hL hc hs hl
  exact K (hk H hR) p e R s m args below meth c F H locs cells slots ls hR hL hc hs hl
theorem fx_bk {a ci k : Nat} (hs : fx_s h a = some (.inl ci)) (hk : fx_fk ci k = 1) : ∀ H, fx_R g h H → (fx_i h a k = 0 ∨ fx_i h a k = 1) := fun H hR => (hR.2.2.2 a _ hs).2.2.2 k hk
theorem fx_bka {a n : Nat} (k : Nat) (hs : fx_s h a = some (.inr (1, n))) : ∀ H, fx_R g h H → (fx_i h a k = 0 ∨ fx_i h a k = 1) := fun H hR => (hR.2.2.2 a _ hs).2.2.2 rfl k
theorem fx_eqh (e : h = h') (K : fx_X g M pc lv st h' Q mc ms) : fx_X g M pc lv st h Q mc ms := by rw [e]; exact K
theorem fx_eqv {i : Nat} {v v' : Int32} (e : v = v') (K : fx_X g M pc ((i, .int v') :: lv) st h Q mc ms) : fx_X g M pc ((i, .int v) :: lv) st h Q mc ms := by rw [e]; exact K
theorem fx_eqt {v v' : Int32} (e : v = v') (K : fx_X g M pc lv (.int v' :: st) h Q mc ms) : fx_X g M pc lv (.int v :: st) h Q mc ms := by rw [e]; exact K
end FXL
theorem fx_up {σ : Type} (X P : Nat → σ → Prop) (N : Nat) (body : ∀ i s, i < N → P i s → (∀ s', P (i + 1) s' → X (i + 1) s') → X i s) (exit : ∀ s, P N s → X N s) : ∀ i s, i ≤ N → P i s → X i s := by
  have key : ∀ (m i : Nat) (s : σ), i + m = N → P i s → X i s := by
    intro m
    induction m with
    | zero =>
      intro i s hi hp
      have e : i = N := by omega
      subst e
      exact exit s hp
    | succ m ih =>
      intro i s hi hp
      exact body i s (by omega) hp (fun s' hp' => ih (i + 1) s' (by omega) hp')
  intro i s hi hp
  exact key (N - i) i s (by omega) hp
/-- f for 0, 1, .. n - 1, one behind the other -/
def it (f : Nat → fx_H → fx_H) (h : fx_H) : Nat → fx_H
  | 0 => h
  | n + 1 => f n (it f h n)
termination_by n => n
theorem it_0 (f : Nat → fx_H → fx_H) (h : fx_H) : it f h 0 = h := by rw [it]
theorem it_s (f : Nat → fx_H → fx_H) (h : fx_H) (n : Nat) : it f h (n + 1) = f n (it f h n) := by rw [it]
/-- what no step changes -/
theorem it_keep {α : Type} (F : fx_H → α) (f : Nat → fx_H → fx_H) (h : fx_H) (hf : ∀ n k, F (f n k) = F k) : ∀ n, F (it f h n) = F h
  | 0 => by rw [it_0]
  | n + 1 => by rw [it_s]; exact (hf n _).trans (it_keep F f h hf n)
theorem it_inv (P : Nat → fx_H → Prop) (f : Nat → fx_H → fx_H) (h : fx_H) (h0 : P 0 h) (N : Nat) (hf : ∀ n k, n < N → P n k → P (n + 1) (f n k)) : ∀ n, n ≤ N → P n (it f h n)
  | 0, _ => by rw [it_0]; exact h0
  | n + 1, hn => by rw [it_s]; exact hf n _ (by omega) (it_inv P f h h0 N hf n (by omega))
/-! a loop that does f for 0 .. N - 1 and nothing else -/
theorem fx_for {g : fx_G} {M : fx_M} {pc : Nat} {st : List Value} {Q : fx_O → fx_H → Prop} {mc ms : Nat} (lv : Nat → List (Nat × Value)) (f : Nat → fx_H → fx_H) (h : fx_H) (N : Nat)
    (body : ∀ i, i < N → fx_X g M pc (lv (i + 1)) st (f i (it f h i)) Q mc ms → fx_X g M pc (lv i) st (it f h i) Q mc ms) (exit : fx_X g M pc (lv N) st (it f h N) Q mc ms) : fx_X g M pc (lv 0) st h Q mc ms := by
  have h9 := fx_up (σ := Unit) (fun i _ => fx_X g M pc (lv i) st (it f h i) Q mc ms) (fun _ _ => True) N (fun i _ hi _ hk => body i hi (by rw [← it_s f h i]; exact hk () trivial)) (fun _ _ => exit) 0 () (Nat.zero_le _) trivial
  rw [it_0] at h9
  exact h9
/-! ints that count -/
theorem jz_0 (y : Int32) : y + nI 0 = y := by
  apply iz_eq.mpr
  rw [nI_0]
  simp
theorem jz_s (y : Int32) (i : Nat) : y + nI i + Int32.ofInt 1 = y + nI (i + 1) := by
  rw [nI_succ, Int32.add_assoc]
  rfl
theorem jz_i (i : Nat) : nI i + Int32.ofInt 1 = nI (i + 1) := by
  rw [nI_succ]
  rfl
theorem jz_ti {y : Int32} {i : Nat} (hy : -100000 ≤ y.toInt ∧ y.toInt ≤ 100000) (hi : i ≤ 100000) : (y + nI i).toInt = y.toInt + i := by
  have e : (nI i).toInt = i := nI_toInt (by omega)
  rw [iz_add (by rw [e]; omega), e]
theorem jz_le {y n : Int32} {i : Nat} (hy : -100000 ≤ y.toInt ∧ y.toInt ≤ 100000) (hn : 0 ≤ n.toInt ∧ n.toInt ≤ 100000) (hi : i ≤ 100000) : y + n ≤ y + nI i ↔ n.toNatClampNeg ≤ i := by
  have e := iz_nn hn.1
  rw [iz_le, jz_ti hy hi, iz_add (by omega)]
  omega
