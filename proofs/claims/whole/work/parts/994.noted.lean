/-! ===== begin: one turn of noting ===== -/
/-- one turn of noting the changes, both sides -/
theorem A_note {a b k m : fx_H} {w q f g i : Nat} (hq : w + 191 ≤ q) (hfg : (f = w + 143 ∧ g = w + 154) ∨ (f = w + 154 ∧ g = w + 143)) (hi : i < 10) (hI : ncJ a b k m w q) (hw2 : fx_i b (q + 31) i = 0 → wD a b q i (w + 165 + i)) (hw3 : ¬ fx_i b (q + 31) i = 0 → fx_i b (q + 29) i = 0) (hP : PR (mixH q a b) (w + 93 + 4 * i) q (20 + i))
    (hwas : fx_i a (w + 141) i = fx_i b (q + 31) i) (hhas : v_PN_has a (w + 133) (nI i) = v_MO_isPlane b q (nI i)) (hwait : v_DE_isWaiting a (w + 1) i = 0 ↔ (fx_i b (q + 1) i = 0 ∨ fx_i b (q + 19) (fx_i b (q + 2) i).toNatClampNeg = 0)) :
    ncJ a b (b_CO_noteChanges (w + 89) (w + 1) f g i k) (b3_MO_begin q i m) w q := by
  obtain ⟨n1, n1'⟩ := note_1 hfg hi hI hw2 hw3
  have hI0 := hI
  obtain ⟨-, -, hc, hf⟩ := hI0
  have mo : ∀ o j, 0 < o → ¬ (21 ≤ o ∧ o ≤ 25) → fx_i m (q + o) j = fx_i b (q + o) j := fun o j h h2 => mfr_at hf ⟨fun z => by simp only [List.mem_cons, List.mem_nil_iff, or_false] at z; omega, h⟩ j
  have a1 : w + 89 + 44 = w + 133 := by omega
  have a2 : w + 89 + 52 = w + 141 := by omega
  have a3 : w + 89 + 76 + i = w + 165 + i := by omega
  have a4 : w + 89 + 1 + 3 + 4 * i + 3 = w + 93 + 4 * i + 3 := by omega
  have e20 : (20 : Int32) + nI i = nI (20 + i) := nI_add 20 i
  have kw : v_DE_isWaiting k (w + 1) i = v_DE_isWaiting a (w + 1) i := by
    unfold v_DE_isWaiting
    rw [hc (w + 1 + 45) _ (by omega) (by omega), hc (w + 1 + 47) _ (by omega) (by omega)]
  have kh : v_PN_has k (w + 133) (nI i) = v_MO_isPlane b q (nI i) := (pnHas_congr (fun j _ => hc _ _ (by omega) (by omega)) _).trans hhas
  have ks : fx_i k (w + 141) i = fx_i b (q + 31) i := (hc _ _ (by omega) (by omega)).trans hwas
  have pl : ∀ T : fx_H, mfr q [21, 22, 23, 24, 25] [38, 39, 40, 41] b T → v_MO_isPlane T q (nI i) = v_MO_isPlane b q (nI i) := fun T hT => by
    unfold v_MO_isPlane
    rw [mfr_at hT (by decide), mfr_at hT (by decide)]
  have hfM : mfr q [21, 22, 23, 24, 25] [38, 39, 40, 41] b (k_MO_miss (mbC q i m) q) := by
    by_cases z : fx_i b (q + 31) i = 0
    · exact (n1 z).2.2.2
    · exact (n1' z).2.2.2
  have pm := pl m hf
  have pM := pl _ hfM
  unfold b_CO_noteChanges b3_MO_begin
  simp only [a1, a2, a3, a4, kw, kh, ks, e20, pm, pM, mo 1 _ (by decide) (by decide), mo 2 _ (by decide) (by decide), mo 19 _ (by decide) (by decide), mo 31 _ (by decide) (by decide)]
  have hX : ncJ a b (if fx_i b (q + 31) i = 0 then if v_MO_isPlane b q (nI i) = 0 then k_MI_add (k_MI_add (k_MI_add (k_MI_add k (f + 2) (w + 165 + i)) (g + 2) (w + 165 + i)) (f + 2) (w + 93 + 4 * i + 3)) (g + 2) (w + 93 + 4 * i + 3) else k_MI_add (k_MI_add k (f + 2) (w + 165 + i)) (g + 2) (w + 165 + i) else if v_MO_isPlane b q (nI i) = 0 then k_MI_add (k_MI_add k (f + 2) (w + 93 + 4 * i + 3)) (g + 2) (w + 93 + 4 * i + 3) else k) (if v_MO_isPlane b q (nI i) = 0 then k_MO_miss (k_MO_show (k_MO_miss (mbC q i m) q) q (nI (20 + i))) q else k_MO_miss (mbC q i m) q) w q := by
    by_cases z : fx_i b (q + 31) i = 0
    · rw [if_pos z]
      by_cases y : v_MO_isPlane b q (nI i) = 0
      · rw [if_pos y, if_pos y]
        exact note_2 hq hfg hi (n1 z) hP
      · rw [if_neg y, if_neg y]
        exact n1 z
    · rw [if_neg z]
      by_cases y : v_MO_isPlane b q (nI i) = 0
      · rw [if_pos y, if_pos y]
        exact note_2 hq hfg hi (n1' z) hP
      · rw [if_neg y, if_neg y]
        exact n1' z
  by_cases z : v_DE_isWaiting a (w + 1) i = 0
  · rw [if_pos z]
    have hcomm : (v_MO_isPlane b q (nI i) = fx_i b (q + 31) i) ↔ (fx_i b (q + 31) i = v_MO_isPlane b q (nI i)) := ⟨Eq.symm, Eq.symm⟩
    by_cases e : fx_i b (q + 31) i = v_MO_isPlane b q (nI i)
    · rw [if_pos e.symm]
      rcases hwait.mp z with y | y
      · rw [if_pos y, if_pos e]; exact hI
      · by_cases y2 : fx_i b (q + 1) i = 0
        · rw [if_pos y2, if_pos e]; exact hI
        · rw [if_neg y2, if_pos y, if_pos e]; exact hI
    · rw [if_neg (fun x => e x.symm)]
      rcases hwait.mp z with y | y
      · rw [if_pos y, if_neg e]; exact hX
      · by_cases y2 : fx_i b (q + 1) i = 0
        · rw [if_pos y2, if_neg e]; exact hX
        · rw [if_neg y2, if_pos y, if_neg e]; exact hX
  · rw [if_neg z]
    have y := fun x => z (hwait.mpr x)
    rw [if_neg (fun x => y (Or.inl x)), if_neg (fun x => y (Or.inr x))]
    exact hX
