-- one step of both sides
theorem step_form {a : fx_H} {c f b : Nat} : k_CO_makeStep a c f b = if fx_i a c 10 = -1 then post (kBl a b (b + 2 + 2 + cHole a c)) c f b (b + 2 + 2 + cHole a c) 0 else post (kPt a b (c + 1 + 3 + 4 * pU a (c + 1) (cL a c)) (b + 2 + 2 + cHole a c)) c f b (b + 2 + 2 + cHole a c) (cL a c + 1) := rfl



set_option maxHeartbeats 4000000 in
theorem A_step {a b : fx_H} {w q f bb : Nat} (hj : J (mixH q a b) w q f bb) (hs : fx_i b q 22 = 1) : stPre a (w + 89) bb ∧ mkPre b q ∧ J (mixH q (k_CO_makeStep a (w + 89) f bb) (k_MO_make b q)) w q f bb := by
  have hq := hj.at_
  obtain ⟨m, A, S, hm, em, ebb, e23, e31, e9, hA, hAs, h6, e32, e10, hS, h10, cK, hK14, ⟨hR, hBd9⟩, hlev⟩ := comp_v hj hs
  have cl : ∀ y j, y < q → fx_i (mixH q a b) y j = fx_i a y j := fun y j h => mix_c _ _ h j
  have cA : (nI A).toNatClampNeg = A := nI_clamp (by omega)
  have eH : cHole a (w + 89) = A := by unfold cHole; rw [e9, cA]
  have ee : bb + 2 + 2 + A = w + 143 + 11 * m + 4 + A := by omega
  have tS : (nI S).toInt = S := nI_toInt (by omega)
  have tA : (nI A).toInt = A := nI_toInt (by omega)
  have n1 : (-1 : Int32).toInt = -1 := rfl
  have a1 : (1 : Int32).toInt = 1 := rfl
  have tS1 : (nI S - 1).toInt = (S : Int) - 1 := by rw [iz_sub (by rw [tS, a1]; omega), tS, a1]
  have lv0 : fx_i a (w + 89) 10 = -1 ↔ S = 0 := by rw [e10, iz_eq, tS1, n1]; omega
  have lvS : S ≠ 0 → cL a (w + 89) = S - 1 ∧ fx_i a (w + 89) 10 = nI (S - 1) := fun z => by
    have : fx_i a (w + 89) 10 = nI (S - 1) := by rw [e10]; exact iz_eq.mpr (by rw [tS1, nI_toInt (by omega)]; omega)
    exact ⟨by unfold cL; rw [this]; exact nI_clamp (by omega), this⟩
  have hR0 : 0 ≤ hX b q ∧ 0 ≤ hY b q ∧ 0 ≤ hW b q ∧ 0 ≤ hH b q ∧ hX b q + hW b q ≤ 20 ∧ hY b q + hH b q ≤ 10 := by omega
  obtain ⟨hscr, -, -⟩ := rect_key hR hR0
  have e901 : w + 89 + 1 = w + 90 := by omega
  have pok : pOk a (w + 90) := by
    have := hj.pileT.1
    unfold pOk pH pU at this ⊢
    simp only [cl (w + 90) _ (by omega), cl (w + 90 + 2) _ (by omega)] at this
    exact this
  have sok : ∀ s, s < 10 → sOk a (w + 93 + 4 * s) := fun s h9 => by
    have := JP_sOk hj.cr hj.pics s h9
    refine ⟨rOk_of (fun j _ => (cl _ _ (by omega)).symm) this.1, fun x y hh => ?_⟩
    have h3 := this.2 x y (by unfold rHas at hh ⊢; simp only [cl (w + 93 + 4 * s + 3) _ (by omega)]; exact hh)
    unfold pIx at h3 ⊢
    simp only [cl (w + 93 + 4 * s) _ (by omega)] at h3
    exact h3
  have est : stPre a (w + 89) bb := by
    refine ⟨by rw [e9]; exact vp_in_nI (by omega) (by decide), by rw [eH, ee]; exact hscr, by rw [e901]; exact pok, fun s h9 => ?_, fun z => ?_⟩
    · have e : w + 89 + 1 + 3 + 4 * s = w + 93 + 4 * s := by omega
      rw [e]
      exact sok s h9
    · have z0 : S ≠ 0 := fun y => z (lv0.mpr y)
      obtain ⟨l1, l2⟩ := lvS z0
      rw [l1, e901]
      exact ⟨by omega, l2⟩
  have f13 : fx_i b q 32 = 0 ↔ S = 0 := by rw [e32, iz_eq, tS]; have : (0 : Int32).toInt = 0 := rfl; omega
  have first : vp_in (fx_i b q 23) 2 ∧ (fx_i b (q + 21) (fx_i b q 23).toNatClampNeg).toInt ≤ 6 ∧ 0 ≤ (fx_i b q 31).toInt ∧ 0 ≤ (fx_i b q 32).toInt ∧ (fx_i b q 32).toInt ≤ 10 := by
    rw [e23, nI_clamp (n := m) (by omega), e31, e32, tA, tS]
    exact ⟨vp_in_nI hm (by decide), h6, by omega, by omega, by omega⟩
  obtain ⟨mb1, mb2, mb3', mb4'⟩ := M_black (h := b) hm e23 hR0
  have mb3 : ∀ X Y : Int, (hX b q ≤ X ∧ X < hX b q + hW b q) ∧ hY b q ≤ Y ∧ Y < hY b q + hH b q → fx_i (its (bkO b q) b (fx_i b (q + 25) (mK b q).toNatClampNeg).toNatClampNeg) (q + 20) (200 * m + (20 * Y + X).toNat) = 0 := mb3'
  have mb4 : ∀ n, (∀ X Y : Int, (hX b q ≤ X ∧ X < hX b q + hW b q) ∧ hY b q ≤ Y ∧ Y < hY b q + hH b q → 200 * m + (20 * Y + X).toNat ≠ n) → fx_i (its (bkO b q) b (fx_i b (q + 25) (mK b q).toNatClampNeg).toNatClampNeg) (q + 20) n = fx_i b (q + 20) n := mb4'
  clear mb3' mb4'
  obtain ⟨j1, -⟩ := hj.miss m hm
  refine ⟨est, ?_⟩
  rw [step_form, eH, ee]
  by_cases z : S = 0
  · -- blacken
    obtain ⟨k1, k2, k3⟩ := C_black (Z := a) (m := bb) hR hR0
    rw [ebb] at k1 k2 k3
    have hz : fx_i b q 32 = 0 := f13.mpr z
    generalize hQ : its (bkO b q) b (fx_i b (q + 25) (mK b q).toNatClampNeg).toNatClampNeg = Q at *
    have hit : ∀ k, k < 200 → fx_i (kBl a (w + 143 + 11 * m) (w + 143 + 11 * m + 4 + A)) (w + 143 + 11 * m + 1) k = fx_i Q (q + 20) (200 * m + k) ∧ isCol (fx_i (kBl a (w + 143 + 11 * m) (w + 143 + 11 * m + 4 + A)) (w + 143 + 11 * m + 1) k) := by
      intro k hk
      have jk := j1 k hk
      rw [cl _ _ (by omega), mix_m] at jk
      by_cases hin : ∃ X Y : Int, ((hX b q ≤ X ∧ X < hX b q + hW b q) ∧ hY b q ≤ Y ∧ Y < hY b q + hH b q) ∧ (20 * Y + X).toNat = k
      · obtain ⟨X, Y, hXY, e⟩ := hin
        have q1 := mb3 X Y hXY
        have q2 := k2 (iz X) (iz Y) (by rw [iz_ti (by omega), iz_ti (by omega)]; exact hXY)
        rw [iz_ti (by omega), iz_ti (by omega), e] at q2
        rw [e] at q1
        rw [q1, q2]
        exact ⟨rfl, by decide, by decide⟩
      · rw [k3 k (fun X Y hXY e => hin ⟨X, Y, hXY, e⟩), mb4 (200 * m + k) (fun X Y hXY e => hin ⟨X, Y, hXY, by omega⟩)]
        exact jk
    obtain ⟨J1, em1⟩ := J_paint hj em k1 (mfr_m (mfr_on mb2 (by decide)) (by decide) (by decide)) (fun n hn => mb4 n (fun X Y hXY e => hn (by omega))) hit
    have P9 : ∀ y j, y ≠ w + 143 + 11 * m + 1 → fx_i (kBl a (w + 143 + 11 * m) (w + 143 + 11 * m + 4 + A)) y j = fx_i a y j := fun y j g => k1.2 y g j
    have Qq : ∀ j, fx_i Q q j = fx_i b q j := fun j => mb2.2 q (by omega) j
    have Qm : ∀ o j, 0 < o → o ≠ 20 → fx_i Q (q + o) j = fx_i b (q + o) j := fun o j g1 g2 => mb2.2 _ (by omega) j
    generalize hP : kBl a (w + 143 + 11 * m) (w + 143 + 11 * m + 4 + A) = P at *
    have eKQ : mK Q q = mK b q := by unfold mK; rw [Qq, Qq]
    have x1 : hX Q q = hX b q := by unfold hX; rw [eKQ, Qm 22 _ (by decide) (by decide)]
    have x2 : hY Q q = hY b q := by unfold hY; rw [eKQ, Qm 23 _ (by decide) (by decide)]
    have x3 : hW Q q = hW b q := by unfold hW; rw [eKQ, Qm 24 _ (by decide) (by decide)]
    have x4 : hH Q q = hH b q := by unfold hH; rw [eKQ, Qm 25 _ (by decide) (by decide)]
    have epH : pH P (w + 90) = pH a (w + 90) := by unfold pH; rw [P9 _ _ (by omega)]
    have nx := J_next (f := f) (bb := bb) J1 (by rw [Qq]; exact hs) hm em1 (by rw [Qq]; exact e23) (by rw [Qq]; exact e31) (by rw [P9 _ _ (by omega)]; exact e9) hA (by rw [Qm 21 _ (by decide) (by decide)]; exact hAs) (by rw [Qm 21 _ (by decide) (by decide)]; exact h6) (by rw [Qq]; exact e32) (S := S) (by rw [epH]; exact hS) (by rw [epH]; exact h10) (by unfold rIs at hR ⊢; rw [P9 _ _ (by omega), P9 _ _ (by omega), P9 _ _ (by omega), P9 _ _ (by omega), x1, x2, x3, x4]; exact hR) (by rw [x1, x2, x3, x4]; exact hBd9)
    have ek : k_MO_make b q = k_MO_findStep (fx_wi Q q 32 (nI (S + 1))) q := by
      unfold k_MO_make
      rw [if_pos hz, hQ, Qq, e32, ← nI_succ]
    refine ⟨⟨first, hK14, fun _ => mb1, fun y => absurd hz y⟩, ?_⟩
    rw [if_pos (lv0.mpr z), ebb, ek]
    rw [z] at nx ⊢
    rw [ebb] at nx
    rw [hP]
    exact nx
  · -- paint
    have hz : ¬ fx_i b q 32 = 0 := fun y => z (f13.mp y)
    obtain ⟨l1, l2⟩ := lvS z
    obtain ⟨g1, g2⟩ := hlev z
    have eS1 : fx_i b q 32 - 1 = nI (S - 1) := by rw [e32]; exact iz_eq.mpr (by rw [tS1, nI_toInt (by omega)]; omega)
    have lev := (lev_iff (f := f) (bb := bb) hj hm hA hR hBd9 (S - 1)).1 (by omega)
    obtain ⟨p, p30, pn, ppl, pmi⟩ := lev.mp ⟨g1, g2⟩
    have eph : pH (mixH q a b) (w + 90) = pH a (w + 90) := by unfold pH; rw [cl _ _ (by omega)]
    obtain ⟨s10, nth, th⟩ := PS_at hj.pileT (l := S - 1) (by rw [eph]; omega)
    have epu : pU (mixH q a b) (w + 90) (S - 1) = pU a (w + 90) (S - 1) := by unfold pU; rw [cl _ _ (by omega)]
    have en : v_MO_nth (mixH q a b) q 20 (nI (S - 1)) = v_MO_nth b q 20 (nI (S - 1)) := nth_congr (by decide) (fun t _ => mix_m _ _ _ _) (fun t _ => mix_m _ _ _ _) _
    rw [epu] at s10 nth th
    rw [en] at nth
    have ep : p = 20 + pU a (w + 90) (S - 1) := by rw [nth] at pn; exact ((nI_eq (by omega) (by omega)).mp pn).symm
    have epc : w + 89 + 1 + 3 + 4 * pU a (w + 89 + 1) (cL a (w + 89)) = w + 93 + 4 * pU a (w + 90) (S - 1) := by rw [l1, e901]
    rw [if_neg (fun y => z (lv0.mp y)), epc, l1]
    generalize pU a (w + 90) (S - 1) = s at *
    subst ep
    have e6 : w + 90 + 3 + 4 * s = w + 93 + 4 * s := by omega
    rw [e6] at th
    have hpr := (hj.pics s s10).2.2
    obtain ⟨y1, y2, y3, y4, y5⟩ := sh_congr (h := b) (k := mixH q a b) (q := q) (p := 20 + s) (fun o _ _ => mix_m _ _ _ _)
    have hmp : mpOk b q (20 + s) := by
      have := (hpr.2.2 th).2.2.2.1
      unfold mpOk at this ⊢
      simp only [mix_m] at this
      exact this
    have crb : mCR b q := by
      have := hj.cr
      unfold mCR at this ⊢
      simp only [mix_m] at this
      exact this
    obtain ⟨-, mv⟩ := meet_v (h := b) (q := q) (p := 20 + s) (n := nI (S - 1)) (by omega) nth ppl (fun _ => hmp) hR0
    obtain ⟨v1, v2, v3, v4⟩ := mv pmi
    have v1' : (fx_i (k_MO_meet b q (nI (S - 1))) q 38).toInt = max (shX b q (20 + s)) (hX b q) := v1
    have v2' : (fx_i (k_MO_meet b q (nI (S - 1))) q 39).toInt = max (shY b q (20 + s)) (hY b q) := v2
    have v3' : (fx_i (k_MO_meet b q (nI (S - 1))) q 40).toInt = min (shR b q (20 + s)) (hX b q + hW b q) - max (shX b q (20 + s)) (hX b q) := v3
    have v4' : (fx_i (k_MO_meet b q (nI (S - 1))) q 41).toInt = min (shB b q (20 + s)) (hY b q + hH b q) - max (shY b q (20 + s)) (hY b q) := v4
    clear v1 v2 v3 v4 mv
    have pm2 : max (shX b q (20 + s)) (hX b q) < min (shR b q (20 + s)) (hX b q + hW b q) ∧ max (shY b q (20 + s)) (hY b q) < min (shB b q (20 + s)) (hY b q + hH b q) := pmi.2
    have hne : ¬ shE b q (20 + s) := pmi.1
    have lm := mfr_meet b q (nI (S - 1))
    have lmm : ∀ o j, 0 < o → fx_i (k_MO_meet b q (nI (S - 1))) (q + o) j = fx_i b (q + o) j := fun o j g => mfr_at lm ⟨fun z => (by cases z), g⟩ j
    have lq : ∀ j, ¬ (38 ≤ j ∧ j ≤ 41) → fx_i (k_MO_meet b q (nI (S - 1))) q j = fx_i b q j := fun j g => mfr_f lm (fun z => by simp only [List.mem_cons, List.mem_nil_iff, or_false] at z; omega)
    generalize hL : k_MO_meet b q (nI (S - 1)) = L at *
    have inM : ∀ X Y : Int, (((fx_i L q 38).toInt ≤ X ∧ X < (fx_i L q 38).toInt + (fx_i L q 40).toInt) ∧ (fx_i L q 39).toInt ≤ Y ∧ Y < (fx_i L q 39).toInt + (fx_i L q 41).toInt) ↔ (((hX b q ≤ X ∧ X < hX b q + hW b q) ∧ hY b q ≤ Y ∧ Y < hY b q + hH b q) ∧ (shX b q (20 + s) ≤ X ∧ X < shR b q (20 + s)) ∧ shY b q (20 + s) ≤ Y ∧ Y < shB b q (20 + s)) := fun X Y => by rw [v1', v2', v3', v4']; omega
    have ppx : ∀ X Y : Int32, ((fx_i L q 38).toInt ≤ X.toInt ∧ X.toInt < (fx_i L q 38).toInt + (fx_i L q 40).toInt) ∧ (fx_i L q 39).toInt ≤ Y.toInt ∧ Y.toInt < (fx_i L q 39).toInt + (fx_i L q 41).toInt → pre_MO_pixelOf b q (nI (20 + s)) X Y := fun X Y hXY => by
      have := (inM X.toInt Y.toInt).mp hXY
      exact pix_pre b q (20 + s) (by omega) crb hmp X Y this.2.1 this.2.2
    obtain ⟨mp1, mp2, mp3, mp4⟩ := M_paint (h := L) (q := q) (m := m) (p := 20 + s) hm (by omega) (by rw [lq 23 (by decide)]; exact e23) (by rw [v1', v2', v3', v4']; omega) (fun X Y hXY => (pixelOf_m (fun o g1 g2 j => lmm o j (by omega)) _ _ _).2 (ppx X Y hXY))
    generalize hQ : k_MO_paint L q (nI (20 + s)) = Q at *
    obtain ⟨k1, k2, k3⟩ := C_paint (Z := a) (m := bb) (p := w + 93 + 4 * s) hR hR0
    rw [ebb] at k1 k2 k3
    have ehas : ∀ X Y : Int32, (¬ rHas a (w + 93 + 4 * s + 3) X Y = 0) ↔ ((shX b q (20 + s) ≤ X.toInt ∧ X.toInt < shR b q (20 + s)) ∧ shY b q (20 + s) ≤ Y.toInt ∧ Y.toInt < shB b q (20 + s)) := fun X Y => by
      have := PR_has hpr X Y
      rw [y1, y2, y3, y4, y5] at this
      have e : rHas (mixH q a b) (w + 93 + 4 * s + 3) X Y = rHas a (w + 93 + 4 * s + 3) X Y := by unfold rHas; simp only [cl (w + 93 + 4 * s + 3) _ (by omega)]
      rw [e] at this
      exact this.trans ⟨fun y => y.2, fun y => ⟨hne, y⟩⟩
    have ecol : ∀ X Y : Int32, ¬ rHas a (w + 93 + 4 * s + 3) X Y = 0 → pColor a (w + 93 + 4 * s) X Y = v_MO_pixelOf b q (nI (20 + s)) X Y ∧ isCol (pColor a (w + 93 + 4 * s) X Y) := fun X Y hh => by
      have e : rHas (mixH q a b) (w + 93 + 4 * s + 3) X Y = rHas a (w + 93 + 4 * s + 3) X Y := by unfold rHas; simp only [cl (w + 93 + 4 * s + 3) _ (by omega)]
      have := PR_color (by omega) hj.cr hpr X Y (by rw [e]; exact hh)
      have e2 : pColor (mixH q a b) (w + 93 + 4 * s) X Y = pColor a (w + 93 + 4 * s) X Y := by unfold pColor pIx; simp only [cl (w + 93 + 4 * s) _ (by omega), cl (w + 93 + 4 * s + 1) _ (by omega)]
      have e3 : v_MO_pixelOf (mixH q a b) q (nI (20 + s)) X Y = v_MO_pixelOf b q (nI (20 + s)) X Y := (pixelOf_m (fun o _ _ j => mix_m _ _ _ _) _ _ _).1
      rw [e2, e3] at this
      exact this.2
    obtain ⟨al1, al2⟩ := J_alpha hpr th
    rw [cl _ _ (by omega), mix_m] at al1
    rw [mix_m] at al2
    have hit : ∀ k, k < 200 → fx_i (kPt a (w + 143 + 11 * m) (w + 93 + 4 * s) (w + 143 + 11 * m + 4 + A)) (w + 143 + 11 * m + 1) k = fx_i Q (q + 20) (200 * m + k) ∧ isCol (fx_i (kPt a (w + 143 + 11 * m) (w + 93 + 4 * s) (w + 143 + 11 * m + 4 + A)) (w + 143 + 11 * m + 1) k) := by
      intro k hk
      have jk := j1 k hk
      rw [cl _ _ (by omega), mix_m] at jk
      by_cases hin : ∃ X Y : Int32, (((hX b q ≤ X.toInt ∧ X.toInt < hX b q + hW b q) ∧ hY b q ≤ Y.toInt ∧ Y.toInt < hY b q + hH b q) ∧ ¬ rHas a (w + 93 + 4 * s + 3) X Y = 0) ∧ (20 * Y.toInt + X.toInt).toNat = k
      · obtain ⟨X, Y, ⟨hXY, hh⟩, e⟩ := hin
        have q2 := k2 X Y hXY hh
        have q1 := mp3 X Y ((inM _ _).mpr ⟨hXY, (ehas X Y).mp hh⟩)
        obtain ⟨c1, c2⟩ := ecol X Y hh
        rw [e] at q1 q2
        rw [(pixelOf_m (fun o _ _ j => lmm o j (by omega)) _ _ _).1, lmm 20 _ (by decide), lmm 11 _ (by decide), ← c1, ← jk.1, mix_eq _ _ c2 jk.2, ← al1] at q1
        rw [q1, q2]
        refine ⟨rfl, mix_col c2 jk.2 ?_⟩
        rw [al1]
        exact al2
      · rw [k3 k (fun X Y hXY hh e => hin ⟨X, Y, ⟨hXY, hh⟩, e⟩), mp4 (200 * m + k) (fun X Y hXY e => ?_), lmm 20 _ (by decide)]
        · exact jk
        · have w1 := (inM X Y).mp hXY
          have tX : (iz X).toInt = X := iz_ti (by omega)
          have tY : (iz Y).toInt = Y := iz_ti (by omega)
          exact hin ⟨iz X, iz Y, ⟨by rw [tX, tY]; exact w1.1, (ehas _ _).mpr (by rw [tX, tY]; exact w1.2)⟩, by rw [tX, tY]; omega⟩
    have hfr : mfr q [20] [38, 39, 40, 41] b Q := mfr_t (mfr_m lm (by decide) (by decide)) (mfr_m (mfr_on mp2 (by decide)) (by decide) (by decide))
    obtain ⟨J1, em1⟩ := J_paint hj em k1 hfr (fun n hn => (mp4 n (fun X Y hXY e => hn (by
      have w1 := ((inM X Y).mp hXY).1
      omega))).trans (lmm 20 n (by decide))) hit
    have P9 : ∀ y j, y ≠ w + 143 + 11 * m + 1 → fx_i (kPt a (w + 143 + 11 * m) (w + 93 + 4 * s) (w + 143 + 11 * m + 4 + A)) y j = fx_i a y j := fun y j g => k1.2 y g j
    have Qq : ∀ j, ¬ (38 ≤ j ∧ j ≤ 41) → fx_i Q q j = fx_i b q j := fun j g => mfr_f hfr (fun z => by simp only [List.mem_cons, List.mem_nil_iff, or_false] at z; omega)
    have Qm : ∀ o j, 0 < o → o ≠ 20 → fx_i Q (q + o) j = fx_i b (q + o) j := fun o j g1 g2 => mfr_at hfr ⟨fun z => by simp only [List.mem_cons, List.mem_nil_iff, or_false] at z; omega, g1⟩ j
    generalize hP : kPt a (w + 143 + 11 * m) (w + 93 + 4 * s) (w + 143 + 11 * m + 4 + A) = P at *
    have eKQ : mK Q q = mK b q := by unfold mK; rw [Qq 23 (by decide), Qq 31 (by decide)]
    have x1 : hX Q q = hX b q := by unfold hX; rw [eKQ, Qm 22 _ (by decide) (by decide)]
    have x2 : hY Q q = hY b q := by unfold hY; rw [eKQ, Qm 23 _ (by decide) (by decide)]
    have x3 : hW Q q = hW b q := by unfold hW; rw [eKQ, Qm 24 _ (by decide) (by decide)]
    have x4 : hH Q q = hH b q := by unfold hH; rw [eKQ, Qm 25 _ (by decide) (by decide)]
    have epH : pH P (w + 90) = pH a (w + 90) := by unfold pH; rw [P9 _ _ (by omega)]
    have nx := J_next (f := f) (bb := bb) J1 (by rw [Qq 22 (by decide)]; exact hs) hm em1 (by rw [Qq 23 (by decide)]; exact e23) (by rw [Qq 31 (by decide)]; exact e31) (by rw [P9 _ _ (by omega)]; exact e9) hA (by rw [Qm 21 _ (by decide) (by decide)]; exact hAs) (by rw [Qm 21 _ (by decide) (by decide)]; exact h6) (by rw [Qq 32 (by decide)]; exact e32) (S := S) (by rw [epH]; exact hS) (by rw [epH]; exact h10) (by unfold rIs at hR ⊢; rw [P9 _ _ (by omega), P9 _ _ (by omega), P9 _ _ (by omega), P9 _ _ (by omega), x1, x2, x3, x4]; exact hR) (by rw [x1, x2, x3, x4]; exact hBd9)
    have eL32 : fx_i L q 32 - 1 = nI (S - 1) := by rw [lq 32 (by decide)]; exact eS1
    have eLn : v_MO_nth L q 20 (nI (S - 1)) = nI (20 + s) := by
      rw [nth_congr (h := b) (by decide) (fun t _ => lmm 7 _ (by decide)) (fun t _ => lmm 10 _ (by decide))]
      exact nth
    have ek : k_MO_make b q = k_MO_findStep (fx_wi Q q 32 (nI (S + 1))) q := by
      unfold k_MO_make
      rw [if_neg hz, eS1, hL, eL32, eLn, hQ, Qq 32 (by decide), e32, ← nI_succ]
    refine ⟨⟨first, hK14, fun y => absurd y hz, fun _ => ?_⟩, ?_⟩
    · rw [eS1, hL, eL32, eLn]
      exact mp1
    · have eS : S - 1 + 1 = S := by omega
      rw [eS, ebb, ek]
      rw [ebb] at nx
      rw [hP]
      exact nx
