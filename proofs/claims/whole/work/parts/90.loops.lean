/-! ===== loops over any state ===== -/
def its {σ : Type} (f : Nat → σ → σ) (x : σ) : Nat → σ
  | 0 => x
  | n + 1 => f n (its f x n)
termination_by n => n
theorem its_0 {σ : Type} (f : Nat → σ → σ) (x : σ) : its f x 0 = x := by rw [its]
theorem its_s {σ : Type} (f : Nat → σ → σ) (x : σ) (n : Nat) : its f x (n + 1) = f n (its f x n) := by rw [its]
theorem its_inv {σ : Type} (P : Nat → σ → Prop) (f : Nat → σ → σ) (x : σ) (h0 : P 0 x) (N : Nat) (hf : ∀ n y, n < N → P n y → P (n + 1) (f n y)) : ∀ n, n ≤ N → P n (its f x n)
  | 0, _ => by rw [its_0]; exact h0
  | n + 1, hn => by rw [its_s]; exact hf n _ (by omega) (its_inv P f x h0 N hf n (by omega))
theorem sm_its {σ : Type} (hp : σ → fx_H) (f : Nat → σ → σ) (x : σ) (hf : ∀ n y, fx_sm (hp y) (hp (f n y))) (n : Nat) : fx_sm (hp x) (hp (its f x n)) :=
  its_inv (fun _ y => fx_sm (hp x) (hp y)) f x rfl n (fun i y _ hy => fx_sm_t hy (hf i y)) n (Nat.le_refl _)
theorem on_its {σ : Type} {a : Nat} (hp : σ → fx_H) (f : Nat → σ → σ) (x : σ) (hf : ∀ n y, fx_on a (hp y) (hp (f n y))) (n : Nat) : fx_on a (hp x) (hp (its f x n)) :=
  its_inv (fun _ y => fx_on a (hp x) (hp y)) f x (fx_on_rf _ _) n (fun i y _ hy => fx_on_t hy (hf i y)) n (Nat.le_refl _)
def lp {σ : Type} (B : σ → Option σ) : Nat → σ → σ
  | 0, x => x
  | n + 1, x => match B x with
    | none => x
    | some y => lp B n y
termination_by n => n
theorem lp_0 {σ : Type} (B : σ → Option σ) (x : σ) : lp B 0 x = x := by rw [lp]
theorem lp_none {σ : Type} {B : σ → Option σ} {x : σ} (h : B x = none) (n : Nat) : lp B n x = x := by
  cases n with
  | zero => rw [lp]
  | succ n => rw [lp, h]
theorem lp_some {σ : Type} {B : σ → Option σ} {x y : σ} (h : B x = some y) (n : Nat) : lp B (n + 1) x = lp B n y := by rw [lp, h]
theorem lp_inv {σ : Type} (P : σ → Prop) (B : σ → Option σ) (hP : ∀ x y, P x → B x = some y → P y) : ∀ (n : Nat) (x : σ), P x → P (lp B n x)
  | 0, x, h => by rw [lp_0]; exact h
  | n + 1, x, h => by
    cases e : B x with
    | none => rw [lp_none e]; exact h
    | some y => rw [lp_some e]; exact lp_inv P B hP n y (hP x y h e)
theorem jz_d0 (y : Int32) : y = y - nI 0 := by
  rw [nI_0]
  simp
theorem jz_ds (y : Int32) (i : Nat) : y - nI i + Int32.ofInt (-1) = y - nI (i + 1) := by
  rw [nI_succ, iz_eq]
  have e : (Int32.ofInt (-1)) = -1 := rfl
  have e2 : y - (nI i + 1) = y - nI i + -1 := by
    rw [Int32.sub_eq_add_neg y (nI i + 1), Int32.neg_add, Int32.sub_eq_add_neg (-nI i) 1, Int32.sub_eq_add_neg y (nI i), ← Int32.add_assoc]
  rw [e, e2]
theorem fx_fors {g : fx_G} {M : fx_M} {pc : Nat} {st : List Value} {Q : fx_O → fx_H → Prop} {mc ms : Nat} {σ : Type} (lv : Nat → σ → List (Nat × Value)) (hp : σ → fx_H) (f : Nat → σ → σ) (x : σ) (N : Nat)
    (body : ∀ i y, i < N → y = its f x i → fx_X g M pc (lv (i + 1) (f i y)) st (hp (f i y)) Q mc ms → fx_X g M pc (lv i y) st (hp y) Q mc ms) (exit : fx_X g M pc (lv N (its f x N)) st (hp (its f x N)) Q mc ms) : fx_X g M pc (lv 0 x) st (hp x) Q mc ms := by
  have h9 := fx_up (σ := Unit) (fun i _ => fx_X g M pc (lv i (its f x i)) st (hp (its f x i)) Q mc ms) (fun _ _ => True) N (fun i _ hi _ hk => body i _ hi rfl (by rw [← its_s f x i]; exact hk () trivial)) (fun _ _ => exit) 0 () (Nat.zero_le _) trivial
  rw [its_0] at h9
  exact h9
theorem fx_lp {g : fx_G} {M : fx_M} {pc ex : Nat} {st : List Value} {Q : fx_O → fx_H → Prop} {mc ms : Nat} {σ : Type} (lv : σ → List (Nat × Value)) (hp : σ → fx_H) (B : σ → Option σ) (P : Nat → σ → Prop) (x : σ) (n : Nat) (h0 : P n x)
    (hP : ∀ m y z, P m y → B y = some z → ∃ m', m = m' + 1 ∧ P m' z)
    (body : ∀ m y, P m y → (∀ z, B y = some z → fx_X g M pc (lv z) st (hp z) Q mc ms) → (B y = none → fx_X g M ex (lv y) st (hp y) Q mc ms) → (B y = none → y = lp B n x) → fx_X g M pc (lv y) st (hp y) Q mc ms)
    (exit : ∀ m, P m (lp B n x) → B (lp B n x) = none → fx_X g M ex (lv (lp B n x)) st (hp (lp B n x)) Q mc ms) : fx_X g M pc (lv x) st (hp x) Q mc ms := by
  have key : ∀ m y, P m y → lp B m y = lp B n x → fx_X g M pc (lv y) st (hp y) Q mc ms := by
    intro m
    induction m with
    | zero =>
      intro y hy he
      refine body 0 y hy (fun z hz => ?_) (fun hn => ?_) (fun hn => by rw [← he, lp_0])
      · obtain ⟨m', hm', -⟩ := hP 0 y z hy hz
        exact absurd hm' (by omega)
      · rw [lp_0] at he
        have h1 := exit 0
        rw [← he] at h1
        exact h1 hy hn
    | succ m ih =>
      intro y hy he
      refine body (m + 1) y hy (fun z hz => ?_) (fun hn => ?_) (fun hn => by rw [← he, lp_none hn])
      · obtain ⟨m', hm', hz'⟩ := hP (m + 1) y z hy hz
        have e : m = m' := by omega
        subst e
        exact ih z hz' (by rw [← he, lp_some hz])
      · rw [lp_none hn] at he
        have h1 := exit (m + 1)
        rw [← he] at h1
        exact h1 hy hn
  exact key n x h0 rfl
