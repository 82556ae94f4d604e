/-! ===== what is read and written where; loops that carry numbers ===== -/
/-- ints outside lo .. hi - 1 stay, and so do shapes, references -/
def fx_out (lo hi : Nat) (h k : fx_H) : Prop := fx_sm h k ∧ ∀ b, (b < lo ∨ hi ≤ b) → ∀ j, fx_i k b j = fx_i h b j
theorem fx_out_rf (lo hi : Nat) (h : fx_H) : fx_out lo hi h h := ⟨rfl, fun _ _ _ => rfl⟩
theorem fx_out_t {lo hi : Nat} {h k l : fx_H} (a : fx_out lo hi h k) (b : fx_out lo hi k l) : fx_out lo hi h l := ⟨fx_sm_t a.1 b.1, fun c hc j => (b.2 c hc j).trans (a.2 c hc j)⟩
theorem fx_out_wi (lo hi : Nat) (h : fx_H) (a k : Nat) (v : Int32) (ha : lo ≤ a ∧ a < hi) : fx_out lo hi h (fx_wi h a k v) := ⟨rfl, fun b hb j => by rw [fx_i_wi, if_neg (fun z => by omega)]⟩
theorem fx_out_on {lo hi a : Nat} {h k : fx_H} (e : fx_on a h k) (ha : lo ≤ a ∧ a < hi) : fx_out lo hi h k := ⟨e.1, fun b hb j => e.2 b (by omega) j⟩
theorem fx_out_m {lo hi lo' hi' : Nat} {h k : fx_H} (e : fx_out lo hi h k) (ha : lo' ≤ lo ∧ hi ≤ hi') : fx_out lo' hi' h k := ⟨e.1, fun b hb j => e.2 b (by omega) j⟩
theorem fx_out_it {lo hi : Nat} {f : Nat → fx_H → fx_H} (hf : ∀ n k, fx_out lo hi k (f n k)) (h : fx_H) (n : Nat) : fx_out lo hi h (it f h n) := by
  induction n with
  | zero => rw [it_0]; exact fx_out_rf lo hi h
  | succ n ih => rw [it_s]; exact fx_out_t ih (hf n _)
theorem fx_out_itn {lo hi : Nat} {f : Nat → fx_H → fx_H} (N : Nat) (hf : ∀ n k, n < N → fx_out lo hi k (f n k)) (h : fx_H) : ∀ n, n ≤ N → fx_out lo hi h (it f h n)
  | 0, _ => by rw [it_0]; exact fx_out_rf lo hi h
  | n + 1, hn => by rw [it_s]; exact fx_out_t (fx_out_itn N hf h n (by omega)) (hf n _ (by omega))
theorem fx_out_rset (lo hi : Nat) (h : fx_H) (a : Nat) (x y c r : Int32) (ha : lo ≤ a ∧ a < hi) : fx_out lo hi h (rset h a x y c r) :=
  fx_out_t (fx_out_wi lo hi h a 0 x ha) (fx_out_t (fx_out_wi lo hi _ a 1 y ha) (fx_out_t (fx_out_wi lo hi _ a 2 c ha) (fx_out_wi lo hi _ a 3 r ha)))
theorem fx_out_cp (lo hi : Nat) (h : fx_H) (a b i j n : Nat) (hb : lo ≤ b ∧ b < hi) : fx_out lo hi h (fx_cp h a b i j n) := ⟨rfl, fun c hc l => by rw [fx_i_cp, if_neg (fun z => by omega)]⟩
theorem fx_out_shift (lo hi : Nat) (h : fx_H) (a : Nat) (u v : Int32) (ha : lo ≤ a ∧ a < hi) : fx_out lo hi h (rshift h a u v) := fx_out_t (fx_out_wi lo hi _ a 0 _ ha) (fx_out_wi lo hi _ a 1 _ ha)
theorem fx_out_cut (lo hi : Nat) (h : fx_H) (a : Nat) (u v : Int32) (ha : lo ≤ a ∧ a < hi) : fx_out lo hi h (rcut h a u v) := fx_out_rset lo hi h a _ _ _ _ ha
theorem fx_out_grow (lo hi : Nat) (h : fx_H) (a b : Nat) (ha : lo ≤ a ∧ a < hi) : fx_out lo hi h (rGrow h a b) := fx_out_rset lo hi h a _ _ _ _ ha
theorem fx_out_pShow (lo hi : Nat) (h : fx_H) (p : Nat) (ha : lo ≤ p ∧ p + 4 ≤ hi) : fx_out lo hi h (pShow h p) := by
  unfold pShow
  split
  · exact fx_out_rset _ _ _ _ _ _ _ _ (by omega)
  · exact fx_out_t (fx_out_rset _ _ _ _ _ _ _ _ (by omega)) (fx_out_t (fx_out_shift _ _ _ _ _ _ (by omega)) (fx_out_cut _ _ _ _ _ _ (by omega)))
theorem fx_out_pCopy (lo hi : Nat) (h : fx_H) (p q : Nat) (ha : lo ≤ p ∧ p + 4 ≤ hi) : fx_out lo hi h (pCopy h p q) := by
  unfold pCopy
  refine fx_out_t ?_ (fx_out_rset _ _ _ _ _ _ _ _ (by omega))
  refine fx_out_t ?_ (fx_out_rset _ _ _ _ _ _ _ _ (by omega))
  refine fx_out_t ?_ (fx_out_cp _ _ _ _ _ _ _ _ (by omega))
  iterate 7 refine fx_out_t ?_ (fx_out_wi _ _ _ _ _ _ (by omega))
  exact fx_out_wi _ _ _ _ _ _ (by omega)
/-- f for 0, 1, .. n - 1 over any state -/
def itg {α : Type} (f : Nat → α → α) (a : α) : Nat → α
  | 0 => a
  | n + 1 => f n (itg f a n)
theorem itg_s {α : Type} (f : Nat → α → α) (a : α) (n : Nat) : itg f a (n + 1) = f n (itg f a n) := rfl
theorem itg_inv {α : Type} (P : Nat → α → Prop) (f : Nat → α → α) (a : α) (h0 : P 0 a) (N : Nat) (hf : ∀ n k, n < N → P n k → P (n + 1) (f n k)) : ∀ n, n ≤ N → P n (itg f a n)
  | 0, _ => h0
  | n + 1, hn => hf n _ (by omega) (itg_inv P f a h0 N hf n (by omega))
theorem fx_forv {g : fx_G} {M : fx_M} {pc : Nat} {st : List Value} {Q : fx_O → fx_H → Prop} {mc ms : Nat} (lv : Nat → List (Nat × Value)) (h : fx_H) (N : Nat)
    (body : ∀ i, i < N → fx_X g M pc (lv (i + 1)) st h Q mc ms → fx_X g M pc (lv i) st h Q mc ms) (exit : fx_X g M pc (lv N) st h Q mc ms) : fx_X g M pc (lv 0) st h Q mc ms :=
  fx_up (σ := Unit) (fun i _ => fx_X g M pc (lv i) st h Q mc ms) (fun _ _ => True) N (fun i _ hi _ hk => body i hi (hk () trivial)) (fun _ _ => exit) 0 () (Nat.zero_le _) trivial
/-! a pile's height and order -/
def pH (h : fx_H) (p : Nat) : Nat := (fx_i h p 2).toNatClampNeg
def pU (h : fx_H) (p l : Nat) : Nat := (fx_i h (p + 2) l).toNatClampNeg
def pOk (h : fx_H) (p : Nat) : Prop := pH h p ≤ 10 ∧ fx_i h p 2 = nI (pH h p) ∧ ∀ l, l < 10 → pU h p l < 10 ∧ fx_i h (p + 2) l = nI (pU h p l)
theorem pH_ge {h : fx_H} {p i : Nat} (hk : pOk h p) (hi : i < pH h p) : ¬ fx_i h p 2 ≤ nI i := by
  have := hk.1
  rw [hk.2.1]
  exact nI_ge hi (by omega)
theorem pH_le {h : fx_H} {p : Nat} (hk : pOk h p) : fx_i h p 2 ≤ nI (pH h p) := by
  have := hk.1
  exact iz_le.mpr (by rw [hk.2.1]; exact Int.le_refl _)
theorem pU_in {h : fx_H} {p l : Nat} (hk : pOk h p) (hl : l < 10) : vp_in (fx_i h (p + 2) l) 10 := by
  rw [(hk.2.2 l hl).2]
  exact vp_in_nI (hk.2.2 l hl).1 (by decide)
theorem pOk_out {lo hi p : Nat} {h k : fx_H} (e : fx_out lo hi h k) (hp : p + 3 ≤ lo ∨ hi ≤ p) (hk : pOk h p) : pOk k p := by
  have e1 : ∀ j, fx_i k p j = fx_i h p j := e.2 p (by omega)
  have e2 : ∀ j, fx_i k (p + 2) j = fx_i h (p + 2) j := e.2 (p + 2) (by omega)
  unfold pOk pH pU at hk ⊢
  simp only [e1, e2]
  exact hk
/-- what is shown of the picture q lies in its pixels -/
def sOk (h : fx_H) (q : Nat) : Prop := rOk h (q + 3) ∧ ∀ x y, ¬ rHas h (q + 3) x y = 0 → vp_in (pIx h q x y) 96
theorem rOk_of {h k : fx_H} {a b : Nat} (e : ∀ j, j < 4 → fx_i k b j = fx_i h a j) (ho : rOk h a) : rOk k b := by
  unfold rOk at ho ⊢
  rw [e 0 (by decide), e 1 (by decide), e 2 (by decide), e 3 (by decide)]
  exact ho
theorem sOk_out {lo hi q : Nat} {h k : fx_H} (e : fx_out lo hi h k) (hq : q + 4 ≤ lo ∨ hi ≤ q) (ho : sOk h q) : sOk k q := by
  have e1 : ∀ j, fx_i k q j = fx_i h q j := e.2 q (by omega)
  have e3 : ∀ j, fx_i k (q + 3) j = fx_i h (q + 3) j := e.2 (q + 3) (by omega)
  refine ⟨rOk_of (fun j _ => e3 j) ho.1, fun x y hh => ?_⟩
  have h9 := ho.2 x y (by unfold rHas at hh ⊢; simp only [e3] at hh; exact hh)
  unfold pIx at h9 ⊢
  simp only [e1]
  exact h9
theorem rHas_1 {h : fx_H} {a r c : Nat} (ho : rOk h a) (hr : r < (fx_i h a 3).toNatClampNeg) (hc : c < (fx_i h a 2).toNatClampNeg) : ¬ rHas h a (fx_i h a 0 + nI c) (fx_i h a 1 + nI r) = 0 := by
  have h2 := iz_nn ho.2.2.1.1
  have h3 := iz_nn ho.2.2.2.1
  have hx := ho.1
  have hy := ho.2.1
  have hw := ho.2.2.1
  have hh := ho.2.2.2
  have t1 := jz_ti (y := fx_i h a 0) (i := c) (by omega) (by omega)
  have t2 := jz_ti (y := fx_i h a 1) (i := r) (by omega) (by omega)
  have t3 : (fx_i h a 0 + fx_i h a 2).toInt = _ := iz_add (by omega)
  have t4 : (fx_i h a 1 + fx_i h a 3).toInt = _ := iz_add (by omega)
  unfold rHas
  rw [if_pos]
  · decide
  · rw [iz_lt, iz_lt, iz_le, iz_le, t1, t2, t3, t4]
    omega
theorem vp_in_lt {i : Int32} {n : Nat} (h : vp_in i n) : i.toNatClampNeg < n := fx_in h
