/-! ===== calls that change one draft ===== -/
/-- h and k differ in the draft s alone -/
def DF (h k : fx_H) (w q s : Nat) : Prop := (∀ b, w ≤ b → b < w + 186 → b ≠ w + 141 → ¬ (w + 165 ≤ b ∧ b ≤ w + 174) → ¬ (w + 49 + 4 * s ≤ b ∧ b ≤ w + 52 + 4 * s) → ∀ j, ¬ (b = w + 46 ∧ j = s) → ¬ (b = w + 1 ∧ j = 6) → fx_i k b j = fx_i h b j) ∧ (∀ o, 1 ≤ o → o ≤ 16 → ∀ j, j ≠ s → fx_i k (q + o) j = fx_i h (q + o) j) ∧ (∀ j, ¬ (96 * s ≤ j ∧ j < 96 * s + 96) → fx_i k (q + 17) j = fx_i h (q + 17) j) ∧ (∀ o, 19 ≤ o → o ≤ 37 → ¬ (27 ≤ o ∧ o ≤ 31) → ∀ j, fx_i k (q + o) j = fx_i h (q + o) j) ∧ (∀ j, j ≠ 0 → ¬ (38 ≤ j ∧ j ≤ 41) → fx_i k q j = fx_i h q j)
theorem DF.c {h k : fx_H} {w q s : Nat} (d : DF h k w q s) : ∀ b, w ≤ b → b < w + 186 → b ≠ w + 141 → ¬ (w + 165 ≤ b ∧ b ≤ w + 174) → ¬ (w + 49 + 4 * s ≤ b ∧ b ≤ w + 52 + 4 * s) → ∀ j, ¬ (b = w + 46 ∧ j = s) → ¬ (b = w + 1 ∧ j = 6) → fx_i k b j = fx_i h b j := d.1
theorem DF.m {h k : fx_H} {w q s : Nat} (d : DF h k w q s) : ∀ o, 1 ≤ o → o ≤ 16 → ∀ j, j ≠ s → fx_i k (q + o) j = fx_i h (q + o) j := d.2.1
theorem DF.p {h k : fx_H} {w q s : Nat} (d : DF h k w q s) : ∀ j, ¬ (96 * s ≤ j ∧ j < 96 * s + 96) → fx_i k (q + 17) j = fx_i h (q + 17) j := d.2.2.1
theorem DF.n {h k : fx_H} {w q s : Nat} (d : DF h k w q s) : ∀ o, 19 ≤ o → o ≤ 37 → ¬ (27 ≤ o ∧ o ≤ 31) → ∀ j, fx_i k (q + o) j = fx_i h (q + o) j := d.2.2.2.1
theorem DF.f {h k : fx_H} {w q s : Nat} (d : DF h k w q s) : ∀ j, j ≠ 0 → ¬ (38 ≤ j ∧ j ≤ 41) → fx_i k q j = fx_i h q j := d.2.2.2.2
theorem PR_gone {h k : fx_H} {a q p : Nat} (e0 : fx_i k a 0 = fx_i h a 0) (e3 : ∀ j, j < 4 → fx_i k (a + 3) j = fx_i h (a + 3) j) (e7 : fx_i k (q + 7) p = fx_i h (q + 7) p) (h7 : fx_i h (q + 7) p = 0) (hp : PR h a q p) : PR k a q p := by
  obtain ⟨p1, ⟨p2, p3, p4⟩, p5⟩ := hp
  have hk : shE k q p := Or.inl (e7.trans h7)
  have h0 : fx_i k a 0 = 0 := e0.trans (p1.mpr h7)
  refine ⟨⟨fun _ => e7.trans h7, fun _ => h0⟩, ⟨rOk_of (fun j hj => e3 j hj) p2, fun _ => by rw [e3 2 (by decide), e3 3 (by decide)]; exact p3 (Or.inl h7), fun z => absurd hk z⟩, fun z => absurd h0 z⟩
theorem J_draft {h k : fx_H} {w q f b s : Nat} (hj : J h w q f b) (hs : s < 10) (d : DF h k w q s) (hpr : PR k (w + 49 + 4 * s) q s) (hjs : JS k w q s) (hfr : fx_i k (w + 1) 6 = v_MO_freePixels k q) (hcr : mCR k q)
    (hcol : (fx_i k (q + 3) s = fx_i h (q + 3) s ∧ fx_i k (q + 4) s = fx_i h (q + 4) s) ∨ (fx_i h (q + 7) (10 + s) = 0 ∧ fx_i h (q + 7) (20 + s) = 0)) : J k w q f b := by
  have hP := hj.pileT.1
  have hB := bk_2 hj.mem
  have cc : ∀ a, w ≤ a → a < w + 186 → a ≠ w + 141 → ¬ (w + 165 ≤ a ∧ a ≤ w + 174) → ¬ (w + 49 + 4 * s ≤ a ∧ a ≤ w + 52 + 4 * s) → a ≠ w + 46 → a ≠ w + 1 → ∀ j, fx_i k a j = fx_i h a j := fun a h1 h2 h3 h4 h5 h6 h7 j => d.c a h1 h2 h3 h4 h5 j (fun z => h6 z.1) (fun z => h7 z.1)
  have pc : ∀ a p, w ≤ a → a + 3 < w + 141 → (a + 3 < w + 46 ∨ w + 49 ≤ a) → w + 1 < a → (a + 3 < w + 49 + 4 * s ∨ w + 52 + 4 * s < a) → p < 30 → p ≠ s → (p % 10 = s → fx_i k (q + 3) s = fx_i h (q + 3) s ∧ fx_i k (q + 4) s = fx_i h (q + 4) s) → PR h a q p → PR k a q p := by
    intro a p h1 h2 h3 h4 h5 h6 h7 h8 hp
    refine PR_congr (fun j _ => cc _ (by omega) (by omega) (by omega) (by omega) (by omega) (by omega) (by omega) j) (fun j _ => cc _ (by omega) (by omega) (by omega) (by omega) (by omega) (by omega) (by omega) j) (fun j _ => cc _ (by omega) (by omega) (by omega) (by omega) (by omega) (by omega) (by omega) j) (fun j _ => cc _ (by omega) (by omega) (by omega) (by omega) (by omega) (by omega) (by omega) j) (fun o g1 g2 => d.m o (by omega) (by omega) _ h7) (fun j hj => d.p _ (by omega)) ?_ hp
    by_cases e : p % 10 = s
    · rw [e]
      exact h8 e
    · exact ⟨d.m 3 (by decide) (by decide) _ e, d.m 4 (by decide) (by decide) _ e⟩
  have pg : ∀ a p, w ≤ a → a + 3 < w + 141 → (a + 3 < w + 46 ∨ w + 49 ≤ a) → w + 1 < a → (a + 3 < w + 49 + 4 * s ∨ w + 52 + 4 * s < a) → p ≠ s → fx_i h (q + 7) p = 0 → PR h a q p → PR k a q p := by
    intro a p h1 h2 h3 h4 h5 h6 h7 hp
    exact PR_gone (cc _ (by omega) (by omega) (by omega) (by omega) (by omega) (by omega) (by omega) _) (fun j _ => cc _ (by omega) (by omega) (by omega) (by omega) (by omega) (by omega) (by omega) j) (d.m 7 (by decide) (by decide) _ h6) h7 hp
  have m7 : ∀ o, 1 ≤ o → o ≤ 16 → ∀ t, 10 ≤ t → fx_i k (q + o) t = fx_i h (q + o) t := fun o h1 h2 t ht => d.m o h1 h2 t (by omega)
  exact J.mk
    (at_ := hj.at_)
    (mem := by
      have := hj.mem
      unfold JW at this ⊢
      rw [d.f 23 (by decide) (by decide)]
      exact this)
    (pics := fun t ht => by
      obtain ⟨p1, p2, p3⟩ := hj.pics t ht
      by_cases e : t = s
      · subst e
        refine ⟨hpr, ?_, ?_⟩
        · rcases hcol with z | z
          · exact pc _ _ (by omega) (by omega) (by omega) (by omega) (by omega) (by omega) (by omega) (fun _ => z) p2
          · exact pg _ _ (by omega) (by omega) (by omega) (by omega) (by omega) (by omega) z.1 p2
        · rcases hcol with z | z
          · exact pc _ _ (by omega) (by omega) (by omega) (by omega) (by omega) (by omega) (by omega) (fun _ => z) p3
          · exact pg _ _ (by omega) (by omega) (by omega) (by omega) (by omega) (by omega) z.2 p3
      · exact ⟨pc _ _ (by omega) (by omega) (by omega) (by omega) (by omega) (by omega) e (fun z => absurd z (by omega)) p1, pc _ _ (by omega) (by omega) (by omega) (by omega) (by omega) (by omega) (by omega) (fun z => absurd z (by omega)) p2, pc _ _ (by omega) (by omega) (by omega) (by omega) (by omega) (by omega) (by omega) (fun z => absurd z (by omega)) p3⟩)
    (pileC := PS_congr (by decide) (cc _ (by omega) (by omega) (by omega) (by omega) (by omega) (by omega) (by omega) _) (fun l _ => cc _ (by omega) (by omega) (by omega) (by omega) (by omega) (by omega) (by omega) _) (fun t ht => cc _ (by omega) (by omega) (by omega) (by omega) (by omega) (by omega) (by omega) _) (fun t _ => m7 7 (by decide) (by decide) _ (by omega)) (fun t _ => m7 10 (by decide) (by decide) _ (by omega)) hj.pileC)
    (pileT := PS_congr (by decide) (cc _ (by omega) (by omega) (by omega) (by omega) (by omega) (by omega) (by omega) _) (fun l _ => cc _ (by omega) (by omega) (by omega) (by omega) (by omega) (by omega) (by omega) _) (fun t ht => cc _ (by omega) (by omega) (by omega) (by omega) (by omega) (by omega) (by omega) _) (fun t _ => m7 7 (by decide) (by decide) _ (by omega)) (fun t _ => m7 10 (by decide) (by decide) _ (by omega)) hj.pileT)
    (cr := hcr)
    (num := fun t ht => by
      by_cases e : t = s
      · subst e
        exact hjs
      · exact JS_congr (d.c _ (by omega) (by omega) (by omega) (by omega) (by omega) _ (by omega) (by omega)) (d.c _ (by omega) (by omega) (by omega) (by omega) (by omega) _ (by omega) (by omega)) (cc _ (by omega) (by omega) (by omega) (by omega) (by omega) (by omega) (by omega) _) (cc _ (by omega) (by omega) (by omega) (by omega) (by omega) (by omega) (by omega) _) (fun o h1 h2 => d.m o h1 (by omega) t e) (m7 7 (by decide) (by decide) _ (by omega)) (m7 7 (by decide) (by decide) _ (by omega)) (hj.num t ht))
    (desk := JD_congr (fun c _ => cc _ (by omega) (by omega) (by omega) (by omega) (by omega) (by omega) (by omega) _) (d.c _ (by omega) (by omega) (by omega) (by omega) (by omega) _ (by omega) (by omega)) (cc _ (by omega) (by omega) (by omega) (by omega) (by omega) (by omega) (by omega) _) (fun c _ => d.n 19 (by decide) (by decide) (by decide) _) (d.f _ (by decide) (by decide)) (d.f _ (by decide) (by decide)) hj.desk)
    (free := hfr)
    (miss := fun m hm => JM_congr (fun j _ => cc _ (by omega) (by omega) (by omega) (by omega) (by omega) (by omega) (by omega) _) (cc _ (by omega) (by omega) (by omega) (by omega) (by omega) (by omega) (by omega) _) (fun i hi j => cc _ (by omega) (by omega) (by omega) (by omega) (by omega) (by omega) (by omega) _) (fun j _ => d.n 20 (by decide) (by decide) (by decide) _) (d.n 21 (by decide) (by decide) (by decide) _) (fun o h1 h2 i _ => d.n o (by omega) (by omega) (by omega) _) (hj.miss m hm))
    (comp := JC_congr hP hB (fun m hm => (hj.miss m hm).2.2.1.2) (fun j _ => cc _ (by omega) (by omega) (by omega) (by omega) (by omega) (by omega) (by omega) _) (cc _ (by omega) (by omega) (by omega) (by omega) (by omega) (by omega) (by omega) _) (fun l _ => cc _ (by omega) (by omega) (by omega) (by omega) (by omega) (by omega) (by omega) _) (fun j _ => cc _ (by omega) (by omega) (by omega) (by omega) (by omega) (by omega) (by omega) _) (fun s hs j _ => cc _ (by omega) (by omega) (by omega) (by omega) (by omega) (by omega) (by omega) _) (fun m hm i hi j => cc _ (by omega) (by omega) (by omega) (by omega) (by omega) (by omega) (by omega) _) (fun m _ => d.n 21 (by decide) (by decide) (by decide) _) (d.f _ (by decide) (by decide)) (d.f _ (by decide) (by decide)) (d.f _ (by decide) (by decide)) (d.f _ (by decide) (by decide)) (d.f _ (by decide) (by decide)) hj.comp)
    (plan := fun i hi => JN_congr (JP_sOk hj.cr hj.pics) (cc _ (by omega) (by omega) (by omega) (by omega) (by omega) (by omega) (by omega) _) (d.n 26 (by decide) (by decide) (by decide) _) (fun j => cc _ (by omega) (by omega) (by omega) (by omega) (by omega) (by omega) (by omega) _) (fun j => cc _ (by omega) (by omega) (by omega) (by omega) (by omega) (by omega) (by omega) _) (fun s hs j _ => cc _ (by omega) (by omega) (by omega) (by omega) (by omega) (by omega) (by omega) _) (fun s hs j _ => cc _ (by omega) (by omega) (by omega) (by omega) (by omega) (by omega) (by omega) _) (fun s hs j _ => cc _ (by omega) (by omega) (by omega) (by omega) (by omega) (by omega) (by omega) _) (fun t _ o h1 h2 => m7 o (by omega) (by omega) _ (by omega)) (hj.plan i hi))
    (set_ := fun i hi => JT_congr (cc _ (by omega) (by omega) (by omega) (by omega) (by omega) (by omega) (by omega) _) (fun j => cc _ (by omega) (by omega) (by omega) (by omega) (by omega) (by omega) (by omega) _) (fun j => cc _ (by omega) (by omega) (by omega) (by omega) (by omega) (by omega) (by omega) _) (fun o h1 h2 j => d.n o (by omega) (by omega) (by omega) j) (hj.set_ i hi))
    (beam := JB_congr (fun j _ => cc _ (by omega) (by omega) (by omega) (by omega) (by omega) (by omega) (by omega) _) (fun j => cc _ (by omega) (by omega) (by omega) (by omega) (by omega) (by omega) (by omega) _) (fun j => cc _ (by omega) (by omega) (by omega) (by omega) (by omega) (by omega) (by omega) _) (fun j => d.n 37 (by decide) (by decide) (by decide) j) (fun o h1 h2 j => d.n o (by omega) (by omega) (by omega) j) (d.f _ (by decide) (by decide)) (d.f _ (by decide) (by decide)) (d.f _ (by decide) (by decide)) (d.f _ (by decide) (by decide)) (fun n _ => d.n 20 (by decide) (by decide) (by decide) _) hj.beam)
/-- both know the same drafts -/
theorem hasDraft_iff {h k : fx_H} {w q f b : Nat} (hj : J h w q f b) (e1 : ∀ j, fx_i k (q + 1) j = fx_i h (q + 1) j) (e7 : ∀ j, fx_i k (q + 7) j = fx_i h (q + 7) j) (s : Int32) : v_MO_hasDraft k q s = v_DE_hasDraft h (w + 1) s := by
  unfold v_MO_hasDraft v_DE_hasDraft
  by_cases c1 : s < 0
  · rw [if_pos c1, if_pos c1]
  rw [if_neg c1, if_neg c1]
  by_cases c2 : (10 : Int32) ≤ s
  · rw [if_pos c2, if_pos c2]
  rw [if_neg c2, if_neg c2, e1, e7]
  have hs : s.toNatClampNeg < 10 := vp_in_lt (jz_in c1 c2)
  have p1 := (hj.pics _ hs).1.1
  have ea : w + 1 + 48 + 4 * s.toNatClampNeg = w + 49 + 4 * s.toNatClampNeg := by omega
  rw [ea]
  by_cases c3 : fx_i h (q + 1) s.toNatClampNeg = 0
  · rw [if_pos c3, if_pos (p1.mpr ((hj.num _ hs).2.2.2.1 c3).1)]
  rw [if_neg c3]
  by_cases c4 : fx_i h (q + 7) s.toNatClampNeg = 0
  · rw [if_pos c4, if_pos (p1.mpr c4)]
  · rw [if_neg c4, if_neg (fun z => c4 (p1.mp z))]
theorem draft_in {h : fx_H} {d : Nat} {s : Int32} (hs : ¬ v_DE_hasDraft h d s = 0) : s.toNatClampNeg < 10 ∧ s = nI s.toNatClampNeg ∧ ¬ fx_i h (d + 48 + 4 * s.toNatClampNeg) 0 = 0 := by
  unfold v_DE_hasDraft at hs
  by_cases c1 : s < 0
  · rw [if_pos c1] at hs
    exact absurd rfl hs
  rw [if_neg c1] at hs
  by_cases c2 : (10 : Int32) ≤ s
  · rw [if_pos c2] at hs
    exact absurd rfl hs
  rw [if_neg c2] at hs
  have h1 := jz_in c1 c2
  obtain ⟨p, hp, e⟩ := vp_in_of h1 (by decide)
  refine ⟨vp_in_lt h1, ?_, fun z => hs (by rw [if_pos z])⟩
  rw [e, nI_clamp (by omega)]
theorem rset_v (h : fx_H) (a : Nat) (x y c r : Int32) : fx_i (rset h a x y c r) a 0 = x ∧ fx_i (rset h a x y c r) a 1 = y ∧ fx_i (rset h a x y c r) a 2 = c ∧ fx_i (rset h a x y c r) a 3 = r := by
  unfold rset
  simp [fx_i_wi]
theorem rset_o (h : fx_H) (a b j : Nat) (x y c r : Int32) (hb : b ≠ a) : fx_i (rset h a x y c r) b j = fx_i h b j := by
  unfold rset
  simp [fx_i_wi, hb]
theorem pShow_on (h : fx_H) (p : Nat) : fx_on (p + 3) h (pShow h p) := by
  unfold pShow
  split
  · exact ⟨rfl, fun b hb j => rset_o _ _ _ _ _ _ _ _ hb⟩
  · refine ⟨rfl, fun b hb j => ?_⟩
    unfold rcut rshift
    rw [rset_o _ _ _ _ _ _ _ _ hb, fx_i_wi, if_neg (fun z => hb z.1), fx_i_wi, if_neg (fun z => hb z.1), rset_o _ _ _ _ _ _ _ _ hb]
theorem pShow_o (h : fx_H) (p b j : Nat) (hb : b ≠ p + 3) : fx_i (pShow h p) b j = fx_i h b j := (pShow_on h p).2 b hb j
theorem mm1 {a z : Int} (e : z = max a 0) (h : -20 ≤ a ∧ a ≤ 60) : -1000 ≤ z ∧ z ≤ 1000 := by omega
theorem mm2 {a c m z : Int} (e : z = max (min (a + c) m - max a 0) 0) (h : -20 ≤ a ∧ a ≤ 60) (hc : 0 ≤ c ∧ c ≤ 30) (hm : 0 ≤ m ∧ m ≤ 20) : 0 ≤ z ∧ z ≤ 1000 := by omega
theorem mm3 {a m z : Int} (e : z = max (min (a + 0) m - max a 0) 0) : z = 0 := by omega
theorem mm4 {a c m z : Int} (e : z = max (min (a + c) m - max a 0) 0) (h : min (a + c) m ≤ max a 0) : z = 0 := by omega
theorem mm5 {a c m z : Int} (e : z = max (min (a + c) m - max a 0) 0) (h : ¬ min (a + c) m ≤ max a 0) : z = min (a + c) m - max a 0 := by omega
theorem mm6 {a m : Int} : min (a + 0) m ≤ max a 0 := by omega
/-- what becomes shown: empty, or the clip where it lies on the screen -/
theorem pShow_v (h : fx_H) (p : Nat) (hc : ¬ fx_i h p 0 = 0 → (-20 ≤ (fx_i h p 3).toInt ∧ (fx_i h p 3).toInt ≤ 30) ∧ (-20 ≤ (fx_i h p 4).toInt ∧ (fx_i h p 4).toInt ≤ 30) ∧ (0 ≤ (fx_i h (p + 2) 0).toInt ∧ (fx_i h (p + 2) 0).toInt ≤ 30) ∧ (0 ≤ (fx_i h (p + 2) 1).toInt ∧ (fx_i h (p + 2) 1).toInt ≤ 30) ∧ (0 ≤ (fx_i h (p + 2) 2).toInt ∧ (fx_i h (p + 2) 2).toInt ≤ 12) ∧ (0 ≤ (fx_i h (p + 2) 3).toInt ∧ (fx_i h (p + 2) 3).toInt ≤ 8)) :
    ((fx_i h p 0 = 0 ∨ fx_i h p 7 = 0) → rIs (pShow h p) (p + 3) 0 0 0 0) ∧
    (¬ (fx_i h p 0 = 0 ∨ fx_i h p 7 = 0) → rIs (pShow h p) (p + 3) (max ((fx_i h p 3).toInt + (fx_i h (p + 2) 0).toInt) 0) (max ((fx_i h p 4).toInt + (fx_i h (p + 2) 1).toInt) 0)
      (max (min ((fx_i h p 3).toInt + (fx_i h (p + 2) 0).toInt + (fx_i h (p + 2) 2).toInt) 20 - max ((fx_i h p 3).toInt + (fx_i h (p + 2) 0).toInt) 0) 0) (max (min ((fx_i h p 4).toInt + (fx_i h (p + 2) 1).toInt + (fx_i h (p + 2) 3).toInt) 10 - max ((fx_i h p 4).toInt + (fx_i h (p + 2) 1).toInt) 0) 0)) := by
  have e0 : (0 : Int32).toInt = 0 := rfl
  have e20 : (20 : Int32).toInt = 20 := rfl
  have e10 : (10 : Int32).toInt = 10 := rfl
  refine ⟨fun hz => ?_, fun hz => ?_⟩
  · unfold pShow rIs
    rw [if_pos hz]
    obtain ⟨a, b, c, d⟩ := rset_v h (p + 3) 0 0 0 0
    rw [a, b, c, d]
    exact ⟨rfl, rfl, rfl, rfl⟩
  · obtain ⟨c1, c2, c3, c4, c5, c6⟩ := hc (fun z => hz (Or.inl z))
    unfold pShow rIs
    rw [if_neg hz]
    unfold rcut
    obtain ⟨a, b, c, d⟩ := rset_v (rshift (rset h (p + 3) (fx_i h (p + 2) 0) (fx_i h (p + 2) 1) (fx_i h (p + 2) 2) (fx_i h (p + 2) 3)) (p + 3) (fx_i h p 3) (fx_i h p 4)) (p + 3) (jmax (fx_i (rshift (rset h (p + 3) (fx_i h (p + 2) 0) (fx_i h (p + 2) 1) (fx_i h (p + 2) 2) (fx_i h (p + 2) 3)) (p + 3) (fx_i h p 3) (fx_i h p 4)) (p + 3) 0) 0) (jmax (fx_i (rshift (rset h (p + 3) (fx_i h (p + 2) 0) (fx_i h (p + 2) 1) (fx_i h (p + 2) 2) (fx_i h (p + 2) 3)) (p + 3) (fx_i h p 3) (fx_i h p 4)) (p + 3) 1) 0)
      (jmax (jmin (fx_i (rshift (rset h (p + 3) (fx_i h (p + 2) 0) (fx_i h (p + 2) 1) (fx_i h (p + 2) 2) (fx_i h (p + 2) 3)) (p + 3) (fx_i h p 3) (fx_i h p 4)) (p + 3) 0 + fx_i (rshift (rset h (p + 3) (fx_i h (p + 2) 0) (fx_i h (p + 2) 1) (fx_i h (p + 2) 2) (fx_i h (p + 2) 3)) (p + 3) (fx_i h p 3) (fx_i h p 4)) (p + 3) 2) 20 - jmax (fx_i (rshift (rset h (p + 3) (fx_i h (p + 2) 0) (fx_i h (p + 2) 1) (fx_i h (p + 2) 2) (fx_i h (p + 2) 3)) (p + 3) (fx_i h p 3) (fx_i h p 4)) (p + 3) 0) 0) 0)
      (jmax (jmin (fx_i (rshift (rset h (p + 3) (fx_i h (p + 2) 0) (fx_i h (p + 2) 1) (fx_i h (p + 2) 2) (fx_i h (p + 2) 3)) (p + 3) (fx_i h p 3) (fx_i h p 4)) (p + 3) 1 + fx_i (rshift (rset h (p + 3) (fx_i h (p + 2) 0) (fx_i h (p + 2) 1) (fx_i h (p + 2) 2) (fx_i h (p + 2) 3)) (p + 3) (fx_i h p 3) (fx_i h p 4)) (p + 3) 3) 10 - jmax (fx_i (rshift (rset h (p + 3) (fx_i h (p + 2) 0) (fx_i h (p + 2) 1) (fx_i h (p + 2) 2) (fx_i h (p + 2) 3)) (p + 3) (fx_i h p 3) (fx_i h p 4)) (p + 3) 1) 0) 0)
    rw [a, b, c, d]
    obtain ⟨r0, r1, r2, r3⟩ := rset_v h (p + 3) (fx_i h (p + 2) 0) (fx_i h (p + 2) 1) (fx_i h (p + 2) 2) (fx_i h (p + 2) 3)
    have s0 : fx_i (rshift (rset h (p + 3) (fx_i h (p + 2) 0) (fx_i h (p + 2) 1) (fx_i h (p + 2) 2) (fx_i h (p + 2) 3)) (p + 3) (fx_i h p 3) (fx_i h p 4)) (p + 3) 0 = fx_i h (p + 2) 0 + fx_i h p 3 := by unfold rshift; simp [fx_i_wi, r0]
    have s1 : fx_i (rshift (rset h (p + 3) (fx_i h (p + 2) 0) (fx_i h (p + 2) 1) (fx_i h (p + 2) 2) (fx_i h (p + 2) 3)) (p + 3) (fx_i h p 3) (fx_i h p 4)) (p + 3) 1 = fx_i h (p + 2) 1 + fx_i h p 4 := by unfold rshift; simp [fx_i_wi, r1]
    have s2 : fx_i (rshift (rset h (p + 3) (fx_i h (p + 2) 0) (fx_i h (p + 2) 1) (fx_i h (p + 2) 2) (fx_i h (p + 2) 3)) (p + 3) (fx_i h p 3) (fx_i h p 4)) (p + 3) 2 = fx_i h (p + 2) 2 := by unfold rshift; simp [fx_i_wi, r2]
    have s3 : fx_i (rshift (rset h (p + 3) (fx_i h (p + 2) 0) (fx_i h (p + 2) 1) (fx_i h (p + 2) 2) (fx_i h (p + 2) 3)) (p + 3) (fx_i h p 3) (fx_i h p 4)) (p + 3) 3 = fx_i h (p + 2) 3 := by unfold rshift; simp [fx_i_wi, r3]
    rw [s0, s1, s2, s3]
    have t1 : (fx_i h (p + 2) 0 + fx_i h p 3).toInt = _ := iz_add (by omega)
    have t2 : (fx_i h (p + 2) 1 + fx_i h p 4).toInt = _ := iz_add (by omega)
    have t3 : (fx_i h (p + 2) 0 + fx_i h p 3 + fx_i h (p + 2) 2).toInt = _ := iz_add (by omega)
    have t4 : (fx_i h (p + 2) 1 + fx_i h p 4 + fx_i h (p + 2) 3).toInt = _ := iz_add (by omega)
    have mx : ∀ x y : Int32, (jmax x y).toInt = max x.toInt y.toInt := fun x y => by unfold jmax; split <;> rename_i z <;> rw [iz_lt] at z <;> omega
    have mn : ∀ x y : Int32, (jmin x y).toInt = min x.toInt y.toInt := fun x y => by unfold jmin; split <;> rename_i z <;> rw [iz_lt] at z <;> omega
    have m1 := mx (fx_i h (p + 2) 0 + fx_i h p 3) 0
    have m2 := mx (fx_i h (p + 2) 1 + fx_i h p 4) 0
    have m3 := mn (fx_i h (p + 2) 0 + fx_i h p 3 + fx_i h (p + 2) 2) 20
    have m4 := mn (fx_i h (p + 2) 1 + fx_i h p 4 + fx_i h (p + 2) 3) 10
    generalize jmax (fx_i h (p + 2) 0 + fx_i h p 3) 0 = X at *
    generalize jmax (fx_i h (p + 2) 1 + fx_i h p 4) 0 = Y at *
    generalize jmin (fx_i h (p + 2) 0 + fx_i h p 3 + fx_i h (p + 2) 2) 20 = R at *
    generalize jmin (fx_i h (p + 2) 1 + fx_i h p 4 + fx_i h (p + 2) 3) 10 = B at *
    have d1 : (R - X).toInt = R.toInt - X.toInt := iz_sub (by omega)
    have d2 : (B - Y).toInt = B.toInt - Y.toInt := iz_sub (by omega)
    rw [mx, mx, d1, d2, e0]
    omega
/-- findShown makes what the class shows what the Model finds -/
theorem SR_show {h : fx_H} {a q p : Nat} (hd : a + 3 < q) (h0 : fx_i h a 0 = 0 ↔ fx_i h (q + 7) p = 0) (hpe : ¬ fx_i h a 0 = 0 → PE h a q p) : SR (pShow h a) a q p := by
  have eo : ∀ b j, b ≠ a + 3 → fx_i (pShow h a) b j = fx_i h b j := fun b j hb => pShow_o h a b j hb
  obtain ⟨x1, x2, x3, x4, x5⟩ := sh_congr (h := h) (k := pShow h a) (q := q) (p := p) (fun o _ _ => eo _ _ (by omega))
  obtain ⟨v1, v2⟩ := pShow_v h a (fun z => by
    obtain ⟨⟨-, -, g3, g4, -⟩, -, ⟨k0, k1, k2, k3, -⟩, ⟨m1, m2, m3, m4, -⟩, -⟩ := hpe z
    rw [g3, g4, k0, k1]
    exact ⟨m1, m2, m3, m4, k2, k3⟩)
  by_cases hz : fx_i h a 0 = 0 ∨ fx_i h a 7 = 0
  · obtain ⟨r0, r1, r2, r3⟩ := v1 hz
    have he : shE h q p := by
      by_cases z : fx_i h a 0 = 0
      · exact Or.inl (h0.mp z)
      · obtain ⟨⟨-, -, -, -, -, -, g7⟩, -⟩ := hpe z
        rcases hz with y | y
        · exact absurd y z
        · exact Or.inr (Or.inl (g7.mp y))
    refine ⟨⟨by omega, by omega, by omega, by omega⟩, fun _ => Or.inl (iz_eq.mpr r2), fun z => absurd (x5.mpr he) z⟩
  · obtain ⟨r0, r1, r2, r3⟩ := v2 hz
    have z : ¬ fx_i h a 0 = 0 := fun y => hz (Or.inl y)
    obtain ⟨⟨-, -, g3, g4, -, -, g7⟩, -, ⟨k0, k1, k2, k3, k4, k5⟩, ⟨m1, m2, m3, m4, m5, m6, m7, m8⟩, -⟩ := hpe z
    rw [g3, k0] at r0 r2
    rw [g4, k1] at r1 r3
    have hE : shE h q p ↔ (shR h q p ≤ shX h q p ∨ shB h q p ≤ shY h q p) := by
      unfold shE
      constructor
      · intro y
        rcases y with y | y | y
        · exact absurd (h0.mpr y) z
        · exact absurd (Or.inr (g7.mpr y)) hz
        · exact y
      · exact fun y => Or.inr (Or.inr y)
    have o0 := mm1 r0 ⟨by clear r0 r1 r2 r3; omega, by clear r0 r1 r2 r3; omega⟩
    have o1 := mm1 r1 ⟨by clear r0 r1 r2 r3; omega, by clear r0 r1 r2 r3; omega⟩
    have o2 := mm2 r2 ⟨by clear r0 r1 r2 r3; omega, by clear r0 r1 r2 r3; omega⟩ ⟨k2.1, by clear r0 r1 r2 r3; omega⟩ (by decide)
    have o3 := mm2 r3 ⟨by clear r0 r1 r2 r3; omega, by clear r0 r1 r2 r3; omega⟩ ⟨k3.1, by clear r0 r1 r2 r3; omega⟩ (by decide)
    unfold SR rIs
    rw [x5, hE, x1, x2, x3, x4]
    unfold shR shX shB shY
    refine ⟨⟨o0, o1, o2, o3⟩, fun y => ?_, fun y => ?_⟩
    · by_cases w0 : (fx_i h (q + 15) p).toInt = 0
      · rcases k4 w0 with w1 | w1
        · rw [w1] at r2
          exact Or.inl (iz_eq.mpr (mm3 r2))
        · rw [w1] at r3
          exact Or.inr (iz_eq.mpr (mm3 r3))
      · obtain ⟨w1, w2⟩ := k5 (by clear r0 r1 r2 r3 y; omega)
        rw [w1] at r2
        rw [w2] at r3
        rcases y with y | y
        · exact Or.inl (iz_eq.mpr (mm4 r2 y))
        · exact Or.inr (iz_eq.mpr (mm4 r3 y))
    · by_cases w0 : (fx_i h (q + 15) p).toInt = 0
      · exact absurd (Or.inl (by rw [w0]; exact mm6)) y
      · obtain ⟨w1, w2⟩ := k5 (by clear r0 r1 r2 r3 y; omega)
        rw [w1] at r2
        rw [w2] at r3
        exact ⟨r0, r1, mm5 r2 (fun z => y (Or.inl z)), mm5 r3 (fun z => y (Or.inr z))⟩
theorem DF_rf (h : fx_H) (w q s : Nat) : DF h h w q s := ⟨fun _ _ _ _ _ _ _ _ _ => rfl, fun _ _ _ _ _ => rfl, fun _ _ => rfl, fun _ _ _ _ _ => rfl, fun _ _ _ => rfl⟩
theorem DF_t {h k l : fx_H} {w q s : Nat} (a : DF h k w q s) (b : DF k l w q s) : DF h l w q s :=
  ⟨fun c h1 h2 h3 h4 h5 j h6 h7 => (b.c c h1 h2 h3 h4 h5 j h6 h7).trans (a.c c h1 h2 h3 h4 h5 j h6 h7), fun o h1 h2 j h3 => (b.m o h1 h2 j h3).trans (a.m o h1 h2 j h3), fun j h1 => (b.p j h1).trans (a.p j h1), fun o h1 h2 h3 j => (b.n o h1 h2 h3 j).trans (a.n o h1 h2 h3 j), fun j h1 h2 => (b.f j h1 h2).trans (a.f j h1 h2)⟩
/-- a class cell of the draft, or scratch -/
theorem DF_on {h k l : fx_H} {w q s a : Nat} (hq : w + 191 ≤ q) (hs : s < 10) (d : DF h k w q s) (e : fx_on a k l) (ha : (w + 49 + 4 * s ≤ a ∧ a ≤ w + 52 + 4 * s) ∨ (w + 186 ≤ a ∧ a < w + 191)) : DF h l w q s :=
  DF_t d ⟨fun b h1 h2 _ _ h5 j _ _ => e.2 b (by omega) j, fun o h1 h2 j _ => e.2 _ (by omega) j, fun j _ => e.2 _ (by omega) j, fun o h1 h2 _ j => e.2 _ (by omega) j, fun j _ _ => e.2 _ (by omega) j⟩
theorem DF_wi {h k : fx_H} {w q s a j : Nat} {v : Int32} (hq : w + 191 ≤ q) (hs : s < 10) (d : DF h k w q s) (ha : (w + 49 + 4 * s ≤ a ∧ a ≤ w + 52 + 4 * s) ∨ (w + 186 ≤ a ∧ a < w + 191)) : DF h (fx_wi k a j v) w q s := DF_on hq hs d (fx_on_wi k a j v) ha
theorem DF_sh {h k : fx_H} {w q s : Nat} (hq : w + 191 ≤ q) (hs : s < 10) (d : DF h k w q s) : DF h (pShow k (w + 49 + 4 * s)) w q s := DF_on hq hs d (pShow_on k _) (by omega)
theorem DF_m {h k : fx_H} {w q s o : Nat} {v : Int32} (hq : w + 191 ≤ q) (d : DF h k w q s) (ho : 1 ≤ o ∧ o ≤ 16) : DF h (fx_wi k (q + o) s v) w q s :=
  DF_t d ⟨fun b h1 h2 _ _ _ j _ _ => by rw [fx_i_wi, if_neg (fun z => by omega)], fun o' h1 h2 j h3 => by rw [fx_i_wi, if_neg (fun z => h3 z.2)], fun j _ => by rw [fx_i_wi, if_neg (fun z => by omega)], fun o' h1 h2 _ j => by rw [fx_i_wi, if_neg (fun z => by omega)], fun j _ _ => by rw [fx_i_wi, if_neg (fun z => by omega)]⟩
theorem DF_p {h k : fx_H} {w q s i : Nat} {v : Int32} (hq : w + 191 ≤ q) (d : DF h k w q s) (hi : 96 * s ≤ i ∧ i < 96 * s + 96) : DF h (fx_wi k (q + 17) i v) w q s :=
  DF_t d ⟨fun b h1 h2 _ _ _ j _ _ => by rw [fx_i_wi, if_neg (fun z => by omega)], fun o' h1 h2 j h3 => by rw [fx_i_wi, if_neg (fun z => by omega)], fun j hj => by rw [fx_i_wi, if_neg (fun z => by omega)], fun o' h1 h2 _ j => by rw [fx_i_wi, if_neg (fun z => by omega)], fun j _ _ => by rw [fx_i_wi, if_neg (fun z => by omega)]⟩
theorem DF_f {h k : fx_H} {w q s j : Nat} {v : Int32} (hq : w + 191 ≤ q) (d : DF h k w q s) (hj : j = 0 ∨ (38 ≤ j ∧ j ≤ 41)) : DF h (fx_wi k q j v) w q s :=
  DF_t d ⟨fun b h1 h2 _ _ _ i _ _ => by rw [fx_i_wi, if_neg (fun z => by omega)], fun o' h1 h2 i h3 => by rw [fx_i_wi, if_neg (fun z => by omega)], fun i _ => by rw [fx_i_wi, if_neg (fun z => by omega)], fun o' h1 h2 _ i => by rw [fx_i_wi, if_neg (fun z => by omega)], fun i h1 h2 => by rw [fx_i_wi, if_neg (fun z => by omega)]⟩
/-! ===== destroy ===== -/
theorem k_destroy_0 {h : fx_H} {q : Nat} {s : Int32} (hd : v_MO_hasDraft h q s = 0) : k_MO_destroy h q s = fx_wi h q 0 1 := by
  unfold k_MO_destroy
  rw [if_pos hd, if_neg (by rw [w00]; decide)]
theorem k_destroy_1 {h : fx_H} {q : Nat} {s : Int32} (hd : ¬ v_MO_hasDraft h q s = 0) : k_MO_destroy h q s = fx_wi (fx_wi (fx_wi h q 0 (0 : Int32)) (q + 7) s.toNatClampNeg (0 : Int32)) (q + 5) s.toNatClampNeg (1 : Int32) := by
  unfold k_MO_destroy
  rw [if_neg hd, if_pos (by rw [w00])]
theorem pre_destroy (h : fx_H) (q : Nat) (s : Int32) : pre_MO_destroy h q s := by
  unfold pre_MO_destroy
  refine ⟨fun _ z => absurd z (by rw [w00]; decide), fun _ z => absurd z (by rw [w00]; decide), fun z _ => vp_up (mo_has_in z) (by decide), fun z _ => mo_has_in z⟩
theorem pre_there {h : fx_H} {w q f b : Nat} (hj : J h w q f b) {s : Nat} (hs : s < 10) (h0 : ¬ fx_i h (w + 49 + 4 * s) 0 = 0) : ¬ fx_i h (q + 7) s = 0 ∧ ¬ fx_i h (q + 1) s = 0 ∧ fx_i h (q + 6) s = 0 ∧ PE h (w + 49 + 4 * s) q s := by
  have p1 := (hj.pics s hs).1
  have t7 : ¬ fx_i h (q + 7) s = 0 := fun z => h0 (p1.1.mpr z)
  have t1 : ¬ fx_i h (q + 1) s = 0 := fun z => t7 ((hj.num s hs).2.2.2.1 z).1
  exact ⟨t7, t1, Decidable.byContradiction fun z => t7 ((hj.num s hs).2.2.2.2 t1 z).1, p1.2.2 h0⟩
theorem A_destroy {h : fx_H} {w q f b : Nat} (hj : J h w q f b) (s : Int32) : fx_i (k_MO_destroy (k_FS_destroy h w f b s) q s) q 0 = cod (o_FS_destroy h w f b s) ∧ J (k_MO_destroy (k_FS_destroy h w f b s) q s) w q f b := by
  have hq := hj.at_
  by_cases hd : v_DE_hasDraft h (w + 1) s = 0
  · have e1 : k_FS_destroy h w f b s = fx_sk h 1 := by unfold k_FS_destroy; rw [if_pos hd]
    have e2 : o_FS_destroy h w f b s = .inr "java/lang/IllegalArgumentException" := by unfold o_FS_destroy; rw [if_pos hd]
    have e3 : v_MO_hasDraft (fx_sk h 1) q s = 0 := (hasDraft_iff hj (fun _ => rfl) (fun _ => rfl) s).trans hd
    rw [e1, e2, k_destroy_0 e3]
    exact ⟨w00 _ _ _, J_w (J_ag (ag_sk h w q 1) hj) 1⟩
  · obtain ⟨hs, es, h0⟩ := draft_in hd
    have ea : w + 1 + 48 + 4 * s.toNatClampNeg = w + 49 + 4 * s.toNatClampNeg := by omega
    rw [ea] at h0
    obtain ⟨t7, t1, t6, -⟩ := pre_there hj hs h0
    have e1 : k_FS_destroy h w f b s = pRemove h (w + 49 + 4 * s.toNatClampNeg) := by unfold k_FS_destroy; rw [if_neg hd, ea]
    have e2 : o_FS_destroy h w f b s = .inl none := by unfold o_FS_destroy; rw [if_neg hd]
    have eo : ∀ a j, a ≠ w + 49 + 4 * s.toNatClampNeg → a ≠ w + 49 + 4 * s.toNatClampNeg + 3 → fx_i (pRemove h (w + 49 + 4 * s.toNatClampNeg)) a j = fx_i h a j := fun a j h1 h2 => by
      unfold pRemove
      rw [pShow_o _ _ _ _ h2, fx_i_wi, if_neg (fun z => h1 z.1)]
    have e3 : ¬ v_MO_hasDraft (pRemove h (w + 49 + 4 * s.toNatClampNeg)) q s = 0 := by
      rw [hasDraft_iff hj (fun j => eo _ _ (by omega) (by omega)) (fun j => eo _ _ (by omega) (by omega)) s]
      exact hd
    rw [e1, e2, k_destroy_1 e3]
    generalize hn : s.toNatClampNeg = n at *
    generalize hk : fx_wi (fx_wi (fx_wi (pRemove h (w + 49 + 4 * n)) q 0 (0 : Int32)) (q + 7) n (0 : Int32)) (q + 5) n (1 : Int32) = k
    have d : DF h k w q n := by
      rw [← hk]
      refine DF_m hq (DF_m hq (DF_f hq ?_ (Or.inl rfl)) (by decide)) (by decide)
      unfold pRemove
      exact DF_sh hq hs (DF_wi hq hs (DF_rf h w q n) (by omega))
    have k7 : fx_i k (q + 7) n = 0 := by rw [← hk, fx_i_wi, if_neg (fun z => by omega), fx_i_wi, if_pos ⟨rfl, rfl⟩]
    have k5 : fx_i k (q + 5) n = 1 := by rw [← hk, fx_i_wi, if_pos ⟨rfl, rfl⟩]
    have km : ∀ o j, 1 ≤ o → o ≤ 37 → o ≠ 5 → o ≠ 7 → fx_i k (q + o) j = fx_i h (q + o) j := fun o j h1 h2 h3 h4 => by rw [← hk, fx_i_wi, if_neg (fun z => by omega), fx_i_wi, if_neg (fun z => by omega), fx_i_wi, if_neg (fun z => by omega), eo _ _ (by omega) (by omega)]
    have kc : ∀ a j, a < q → fx_i k a j = fx_i (pRemove h (w + 49 + 4 * n)) a j := fun a j h1 => by rw [← hk, fx_i_wi, if_neg (fun z => by omega), fx_i_wi, if_neg (fun z => by omega), fx_i_wi, if_neg (fun z => by omega)]
    have kd0 : fx_i k (w + 49 + 4 * n) 0 = 0 := by
      rw [kc _ _ (by omega)]
      unfold pRemove
      rw [pShow_o _ _ _ _ (by omega), fx_i_wi, if_pos ⟨rfl, rfl⟩]
    have kdj : ∀ j, j ≠ 0 → fx_i k (w + 49 + 4 * n) j = fx_i h (w + 49 + 4 * n) j := fun j hj9 => by
      rw [kc _ _ (by omega)]
      unfold pRemove
      rw [pShow_o _ _ _ _ (by omega), fx_i_wi, if_neg (fun z => hj9 z.2)]
    have kr : rIs k (w + 49 + 4 * n + 3) 0 0 0 0 := by
      have := (pShow_v (fx_wi h (w + 49 + 4 * n) 0 0) (w + 49 + 4 * n) (fun z => absurd (by rw [fx_i_wi, if_pos ⟨rfl, rfl⟩]) z)).1 (Or.inl (by rw [fx_i_wi, if_pos ⟨rfl, rfl⟩]))
      unfold rIs at this ⊢
      rw [kc _ _ (by omega), kc _ _ (by omega), kc _ _ (by omega), kc _ _ (by omega)]
      exact this
    obtain ⟨r0, r1, r2, r3⟩ := kr
    refine ⟨by rw [← hk, fx_i_wi, if_neg (fun z => by omega), fx_i_wi, if_neg (fun z => by omega), w00]; rfl, J_draft hj hs d ?_ ?_ ?_ ?_ (Or.inl ⟨km 3 n (by decide) (by decide) (by decide) (by decide), km 4 n (by decide) (by decide) (by decide) (by decide)⟩)⟩
    · exact ⟨⟨fun _ => k7, fun _ => kd0⟩, ⟨⟨by omega, by omega, by omega, by omega⟩, fun _ => Or.inl (iz_eq.mpr r2), fun z => absurd (Or.inl k7) z⟩, fun z => absurd kd0 z⟩
    · obtain ⟨j1, j2, j3, j4, j5⟩ := hj.num n hs
      have d46 : ∀ j, fx_i k (w + 46) j = fx_i h (w + 46) j := fun j => (kc _ _ (by omega)).trans (eo _ _ (by omega) (by omega))
      have d47 : ∀ j, fx_i k (w + 47) j = fx_i h (w + 47) j := fun j => (kc _ _ (by omega)).trans (eo _ _ (by omega) (by omega))
      unfold JS
      rw [d46, d47, kdj 1 (by decide), kdj 2 (by decide), k7, k5, km 1 n (by decide) (by decide) (by decide) (by decide), km 2 n (by decide) (by decide) (by decide) (by decide), km 3 n (by decide) (by decide) (by decide) (by decide), km 4 n (by decide) (by decide) (by decide) (by decide), km 6 n (by decide) (by decide) (by decide) (by decide), d.m 7 (by decide) (by decide) (10 + n) (by omega), d.m 7 (by decide) (by decide) (20 + n) (by omega)]
      refine ⟨j1, fun z => ?_, j3, fun z => absurd z t1, fun _ z => absurd t6 z⟩
      obtain ⟨a1, a2, a3, a4, -⟩ := j2 z
      exact ⟨a1, a2, a3, a4, ⟨fun y => absurd y (by decide), fun y => absurd rfl y⟩⟩
    · rw [kc _ _ (by omega), eo _ _ (by omega) (by omega), fp_congr (fun s _ => km 1 s (by decide) (by decide) (by decide) (by decide)) (fun s _ => km 3 s (by decide) (by decide) (by decide) (by decide)) (fun s _ => km 4 s (by decide) (by decide) (by decide) (by decide))]
      exact hj.free
    · intro t ht
      rw [km 3 t (by decide) (by decide) (by decide) (by decide), km 4 t (by decide) (by decide) (by decide) (by decide)]
      exact hj.cr t ht
