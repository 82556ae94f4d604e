/-! ===== the first state keeps the invariant ===== -/
theorem PR_0 {k : fx_H} {a q p : Nat} (h0 : fx_i k a 0 = 0) (h7 : fx_i k (q + 7) p = 0) (h3 : ∀ j, j < 4 → fx_i k (a + 3) j = 0) : PR k a q p := by
  have z0 : (0 : Int32).toInt = 0 := rfl
  have hE : shE k q p := Or.inl h7
  refine ⟨⟨fun _ => h7, fun _ => h0⟩, ⟨?_, fun _ => Or.inl (h3 2 (by decide)), fun z => absurd hE z⟩, fun z => absurd h0 z⟩
  unfold rOk
  rw [h3 0 (by decide), h3 1 (by decide), h3 2 (by decide), h3 3 (by decide), z0]
  omega
theorem PS_0 {k : fx_H} {P q kd : Nat} (h2 : fx_i k P 2 = 0) (hu : ∀ l, l < 10 → fx_i k (P + 2) l = 0) (ht : ∀ t, t < 10 → fx_i k (P + 3 + 4 * t) 0 = 0) (h7 : ∀ t, t < 10 → fx_i k (q + 7) (kd + t) = 0) : PS k P q kd := by
  have e1 : pH k P = 0 := by unfold pH; rw [h2]; rfl
  have n0 : nI 0 = 0 := rfl
  refine ⟨⟨by omega, by rw [h2, e1]; rfl, fun l hl => ?_⟩, fun l hl => by omega, fun l _ _ => ?_, fun t h1 h2 => absurd (ht t h1) h2, fun l l' hl => by omega⟩
  · have : pU k P l = 0 := by unfold pU; rw [hu l hl]; rfl
    rw [this, hu l hl]
    exact ⟨by decide, rfl⟩
  · unfold v_MO_nth
    refine srch_none _ _ _ _ (fun p h1 h2 => ?_)
    obtain ⟨s, rfl⟩ : ∃ s, p = kd + s := ⟨p - kd, by omega⟩
    simp [h7 s (by omega)]
/-- the two, new -/
theorem J_first {k : fx_H} {w q : Nat} (hq : w + 191 ≤ q) (zF : ∀ a j, w ≤ a → a < w + 191 → ¬ exF w a j → fx_i k a j = 0) (f1 : fx_i k (w + 1) 6 = 300) (f2 : ∀ j, j < 10 → fx_i k (w + 46) j = -1) (f3 : ∀ j, j < 2 → fx_i k (w + 134) j = -1) (f4 : ∀ j, j < 2 → fx_i k (w + 177) j = -1)
    (zM : ∀ a j, q ≤ a → a < q + 38 → ¬ exM q a j → fx_i k a j = 0) (m1 : fx_i k q 23 = 1) (m2 : ∀ j, j < 2 → fx_i k (q + 26) j = -1) : J k w q (w + 143) (w + 154) := by
  have zf : ∀ a j, w ≤ a → a < w + 191 → ¬ (a = w + 1 ∧ j = 6) → a ≠ w + 46 → a ≠ w + 134 → a ≠ w + 177 → fx_i k a j = 0 := fun a j h1 h2 h3 h4 h5 h6 => zF a j h1 h2 (fun z => by
    rcases z with z | z | z | z
    · exact h3 z
    · exact h4 z.1
    · exact h5 z.1
    · exact h6 z.1)
  have zm : ∀ o j, 0 < o → o < 38 → o ≠ 26 → fx_i k (q + o) j = 0 := fun o j h1 h2 h3 => zM _ j (by omega) (by omega) (fun z => by
    rcases z with z | z
    · omega
    · omega)
  have zq : ∀ j, j ≠ 23 → fx_i k q j = 0 := fun j h => zM _ j (by omega) (by omega) (fun z => by
    rcases z with z | z
    · exact h z.2
    · omega)
  have z0 : (0 : Int32).toInt = 0 := rfl
  have c0 : (0 : Int32).toNatClampNeg = 0 := rfl
  refine J.mk
    (at_ := hq)
    (mem := Or.inl ⟨m1, rfl, rfl⟩)
    (pics := fun s hs => ⟨PR_0 (zf _ _ (by omega) (by omega) (by omega) (by omega) (by omega) (by omega)) (zm 7 _ (by decide) (by decide) (by decide)) (fun j _ => zf _ _ (by omega) (by omega) (by omega) (by omega) (by omega) (by omega)), PR_0 (zf _ _ (by omega) (by omega) (by omega) (by omega) (by omega) (by omega)) (zm 7 _ (by decide) (by decide) (by decide)) (fun j _ => zf _ _ (by omega) (by omega) (by omega) (by omega) (by omega) (by omega)), PR_0 (zf _ _ (by omega) (by omega) (by omega) (by omega) (by omega) (by omega)) (zm 7 _ (by decide) (by decide) (by decide)) (fun j _ => zf _ _ (by omega) (by omega) (by omega) (by omega) (by omega) (by omega))⟩)
    (pileC := PS_0 (zf _ _ (by omega) (by omega) (by omega) (by omega) (by omega) (by omega)) (fun l _ => zf _ _ (by omega) (by omega) (by omega) (by omega) (by omega) (by omega)) (fun t _ => zf _ _ (by omega) (by omega) (by omega) (by omega) (by omega) (by omega)) (fun t _ => zm 7 _ (by decide) (by decide) (by decide)))
    (pileT := PS_0 (zf _ _ (by omega) (by omega) (by omega) (by omega) (by omega) (by omega)) (fun l _ => zf _ _ (by omega) (by omega) (by omega) (by omega) (by omega) (by omega)) (fun t _ => zf _ _ (by omega) (by omega) (by omega) (by omega) (by omega) (by omega)) (fun t _ => zm 7 _ (by decide) (by decide) (by decide)))
    (cr := fun s _ => by rw [zm 3 _ (by decide) (by decide) (by decide), zm 4 _ (by decide) (by decide) (by decide), z0]; omega)
    (num := fun s hs => ?num)
    (desk := ?desk)
    (free := ?free)
    (miss := fun m hm => ?miss)
    (comp := ?comp)
    (plan := fun i hi => ⟨by rw [f3 i hi, m2 i hi], Or.inl (m2 i hi)⟩)
    (set_ := fun i hi => Or.inl ⟨f4 i hi, zm 34 _ (by decide) (by decide) (by decide), zm 35 _ (by decide) (by decide) (by decide)⟩)
    (beam := ?beam)
  case num =>
    have u1 : fx_i k (q + 1) s = 0 := zm 1 _ (by decide) (by decide) (by decide)
    refine ⟨⟨fun _ => u1, fun _ => f2 s hs⟩, fun z => absurd u1 z, ⟨fun _ => Or.inl u1, fun _ => zf _ _ (by omega) (by omega) (by omega) (by omega) (by omega) (by omega)⟩, fun _ => ⟨zm 7 _ (by decide) (by decide) (by decide), zm 7 _ (by decide) (by decide) (by decide), zm 7 _ (by decide) (by decide) (by decide)⟩, fun z => absurd u1 z⟩
  case desk =>
    refine ⟨fun c _ => ⟨fun _ => zm 19 _ (by decide) (by decide) (by decide), fun _ => zf _ _ (by omega) (by omega) (by omega) (by omega) (by omega) (by omega)⟩, ?_, ?_, ?_⟩
    · rw [zq 19 (by decide)]; exact zf _ _ (by omega) (by omega) (by omega) (by omega) (by omega) (by omega)
    · rw [zq 20 (by decide)]; exact zf _ _ (by omega) (by omega) (by omega) (by omega) (by omega) (by omega)
    · rw [zq 19 (by decide), zq 20 (by decide)]
      decide
  case free =>
    rw [f1]
    unfold v_MO_freePixels
    refine (itg_inv (fun _ x => x = 300) (fpS k q) 300 rfl 10 (fun n x _ hx => ?_) 10 (Nat.le_refl _)).symm
    unfold fpS
    rw [zm 1 n (by decide) (by decide) (by decide), if_pos rfl, hx]
    rfl
  case miss =>
    have e21 : fx_i k (q + 21) m = 0 := zm 21 _ (by decide) (by decide) (by decide)
    refine ⟨fun j hj => ?_, ?_, ?_, fun i hi => ?_⟩
    · rw [zf _ _ (by omega) (by omega) (by omega) (by omega) (by omega) (by omega), zm 20 _ (by decide) (by decide) (by decide)]
      exact ⟨rfl, by unfold isCol; rw [z0]; omega⟩
    · rw [e21]; exact zf _ _ (by omega) (by omega) (by omega) (by omega) (by omega) (by omega)
    · rw [e21, z0]; omega
    · rw [e21, c0] at hi; omega
  case comp =>
    have e22 : fx_i k q 22 = 0 := zq 22 (by decide)
    refine ⟨?_, Or.inl e22, ?_, fun z => by rw [e22] at z; exact absurd z (by decide)⟩
    · rw [e22]; exact zf _ _ (by omega) (by omega) (by omega) (by omega) (by omega) (by omega)
    · rw [zq 44 (by decide)]; exact zf _ _ (by omega) (by omega) (by omega) (by omega) (by omega) (by omega)
  case beam =>
    have e42 : fx_i k q 42 = 0 := zq 42 (by decide)
    have ez : ∀ a j, w + 175 ≤ a → a < w + 191 → a ≠ w + 177 → fx_i k a j = 0 := fun a j h1 h2 h3 => zf _ _ (by omega) (by omega) (by omega) (by omega) (by omega) h3
    refine ⟨by rw [e42, ez _ _ (by omega) (by omega) (by omega)], by rw [e42, z0]; omega, by rw [zq 43 (by decide), ez _ _ (by omega) (by omega) (by omega)], by rw [zq 45 (by decide), ez _ _ (by omega) (by omega) (by omega)], fun j _ => by rw [zm 37 _ (by decide) (by decide) (by decide), ez _ _ (by omega) (by omega) (by omega)], fun j hj => ?_⟩
    rw [e42, c0] at hj
    omega
/-- both made, one after the other, and then one more row -/
theorem A_first {h : fx_H} {w : Nat} (hn : fx_n h = w) : ∃ k, k = k_MO_init (fx_nw (k_FS_init (fx_nw h (.inl 0)) w) (.inl 10)) (w + 191) ∧ fx_n (fx_nw h (.inl 0)) = w + 1 ∧ fx_s (fx_nw h (.inl 0)) w = some (.inl 0) ∧ fx_n (k_FS_init (fx_nw h (.inl 0)) w) = w + 191 ∧ fx_n (fx_nw (k_FS_init (fx_nw h (.inl 0)) w) (.inl 10)) = w + 191 + 1 ∧ fx_s (fx_nw (k_FS_init (fx_nw h (.inl 0)) w) (.inl 10)) (w + 191) = some (.inl 10) ∧
    fx_n k = w + 229 ∧ isF k w (w + 143) (w + 154) ∧ isM k (w + 191) ∧ J k w (w + 191) (w + 143) (w + 154) := by
  have n0 : fx_n (fx_nw h (.inl 0)) = w + 1 := by rw [fx_n_nw, hn]
  have s0 : fx_s (fx_nw h (.inl 0)) w = some (.inl 0) := nw_s _ _ hn
  have n1 := n_FS_init n0
  have n2 : fx_n (fx_nw (k_FS_init (fx_nw h (.inl 0)) w) (.inl 10)) = w + 191 + 1 := by rw [fx_n_nw, n1]
  have s2 : fx_s (fx_nw (k_FS_init (fx_nw h (.inl 0)) w) (.inl 10)) (w + 191) = some (.inl 10) := nw_s _ _ n1
  obtain ⟨i1, i2, i3, i4, i5⟩ := is_MO_init n2 s2
  refine ⟨_, rfl, n0, s0, n1, n2, s2, by rw [i2], ?_, i1, ?_⟩
  · refine isF_kp (fun a h1 h2 => ?_) (is_FS_init n0 s0)
    refine ⟨(i3 a h2).1.trans ?_, fun j => ((i3 a h2).2.1 j).trans ?_⟩
    · rw [fx_s_nw, if_neg (by omega)]
    · rw [fx_r_nw, if_neg (by omega)]
  · have zF : zr w (exF w) (k_FS_init (fx_nw h (.inl 0)) w) := zr_FS (zr_nw _ (fun a j h1 h2 _ => by omega))
    have zM : zr (w + 191) (exM (w + 191)) (k_MO_init (fx_nw (k_FS_init (fx_nw h (.inl 0)) w) (.inl 10)) (w + 191)) := zr_MO (zr_nw _ (fun a j h1 h2 _ => by omega))
    obtain ⟨v1, v2, v3, v4⟩ := v_FS_init n0
    have tr : ∀ a j, a < w + 191 → fx_i (k_MO_init (fx_nw (k_FS_init (fx_nw h (.inl 0)) w) (.inl 10)) (w + 191)) a j = fx_i (k_FS_init (fx_nw h (.inl 0)) w) a j := fun a j ha => by
      rw [(i3 a ha).2.2 j, fx_i_nw, if_neg (by omega)]
    refine J_first (Nat.le_refl _) (fun a j h1 h2 h3 => ?_) ?_ (fun j hj => ?_) (fun j hj => ?_) (fun j hj => ?_) (fun a j h1 h2 h3 => zM a j h1 (by rw [i2]; exact h2) h3) i4 i5
    · rw [tr a j h2]; exact zF a j h1 (by rw [n1]; exact h2) h3
    · rw [tr _ _ (by omega)]; exact v1
    · rw [tr _ _ (by omega)]; exact v2 j hj
    · rw [tr _ _ (by omega)]; exact v3 j hj
    · rw [tr _ _ (by omega)]; exact v4 j hj
