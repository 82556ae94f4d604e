/-! ===== the Model: clip ===== -/
theorem mo_has_in {h : fx_H} {q : Nat} {s : Int32} (hs : ¬ v_MO_hasDraft h q s = 0) : vp_in s 10 := by
  unfold v_MO_hasDraft at hs
  by_cases h1 : s < 0
  · rw [if_pos h1] at hs
    exact absurd rfl hs
  · by_cases h2 : (10 : Int32) ≤ s
    · rw [if_neg h1, if_pos h2] at hs
      exact absurd rfl hs
    · exact jz_in h1 h2
def k_MO_clip (h : fx_H) (q : Nat) (s x y cs rs : Int32) : fx_H := if (v_MO_hasDraft h q s) = 0 then fx_wi h q 0 (1 : Int32) else if (v_MO_isArea h x y cs rs) = 0 then fx_wi h q 0 (1 : Int32) else if (fx_i (fx_wi h q 0 (0 : Int32)) (q + 3) s.toNatClampNeg) ≤ (x + cs) then if (fx_i (fx_wi h q 0 (0 : Int32)) (q + 4) s.toNatClampNeg) ≤ (y + rs) then if x ≤ 0 then if y ≤ 0 then if (fx_i (fx_wi (fx_wi (fx_wi (fx_wi (fx_wi h q 0 (0 : Int32)) (q + 13) s.toNatClampNeg (0 : Int32)) (q + 14) s.toNatClampNeg (0 : Int32)) (q + 15) s.toNatClampNeg ((fx_i (fx_wi h q 0 (0 : Int32)) (q + 3) s.toNatClampNeg) - (fx_i (fx_wi (fx_wi (fx_wi h q 0 (0 : Int32)) (q + 13) s.toNatClampNeg (0 : Int32)) (q + 14) s.toNatClampNeg (0 : Int32)) (q + 13) s.toNatClampNeg))) (q + 16) s.toNatClampNeg ((fx_i (fx_wi h q 0 (0 : Int32)) (q + 4) s.toNatClampNeg) - (fx_i (fx_wi (fx_wi (fx_wi (fx_wi h q 0 (0 : Int32)) (q + 13) s.toNatClampNeg (0 : Int32)) (q + 14) s.toNatClampNeg (0 : Int32)) (q + 15) s.toNatClampNeg ((fx_i (fx_wi h q 0 (0 : Int32)) (q + 3) s.toNatClampNeg) - (fx_i (fx_wi (fx_wi (fx_wi h q 0 (0 : Int32)) (q + 13) s.toNatClampNeg (0 : Int32)) (q + 14) s.toNatClampNeg (0 : Int32)) (q + 13) s.toNatClampNeg))) (q + 14) s.toNatClampNeg))) (q + 15) s.toNatClampNeg) ≤ 0 then fx_wi (fx_wi (fx_wi (fx_wi (fx_wi (fx_wi (fx_wi h q 0 (0 : Int32)) (q + 13) s.toNatClampNeg (0 : Int32)) (q + 14) s.toNatClampNeg (0 : Int32)) (q + 15) s.toNatClampNeg ((fx_i (fx_wi h q 0 (0 : Int32)) (q + 3) s.toNatClampNeg) - (fx_i (fx_wi (fx_wi (fx_wi h q 0 (0 : Int32)) (q + 13) s.toNatClampNeg (0 : Int32)) (q + 14) s.toNatClampNeg (0 : Int32)) (q + 13) s.toNatClampNeg))) (q + 16) s.toNatClampNeg ((fx_i (fx_wi h q 0 (0 : Int32)) (q + 4) s.toNatClampNeg) - (fx_i (fx_wi (fx_wi (fx_wi (fx_wi h q 0 (0 : Int32)) (q + 13) s.toNatClampNeg (0 : Int32)) (q + 14) s.toNatClampNeg (0 : Int32)) (q + 15) s.toNatClampNeg ((fx_i (fx_wi h q 0 (0 : Int32)) (q + 3) s.toNatClampNeg) - (fx_i (fx_wi (fx_wi (fx_wi h q 0 (0 : Int32)) (q + 13) s.toNatClampNeg (0 : Int32)) (q + 14) s.toNatClampNeg (0 : Int32)) (q + 13) s.toNatClampNeg))) (q + 14) s.toNatClampNeg))) (q + 15) s.toNatClampNeg (0 : Int32)) (q + 16) s.toNatClampNeg (0 : Int32) else if (fx_i (fx_wi (fx_wi (fx_wi (fx_wi (fx_wi h q 0 (0 : Int32)) (q + 13) s.toNatClampNeg (0 : Int32)) (q + 14) s.toNatClampNeg (0 : Int32)) (q + 15) s.toNatClampNeg ((fx_i (fx_wi h q 0 (0 : Int32)) (q + 3) s.toNatClampNeg) - (fx_i (fx_wi (fx_wi (fx_wi h q 0 (0 : Int32)) (q + 13) s.toNatClampNeg (0 : Int32)) (q + 14) s.toNatClampNeg (0 : Int32)) (q + 13) s.toNatClampNeg))) (q + 16) s.toNatClampNeg ((fx_i (fx_wi h q 0 (0 : Int32)) (q + 4) s.toNatClampNeg) - (fx_i (fx_wi (fx_wi (fx_wi (fx_wi h q 0 (0 : Int32)) (q + 13) s.toNatClampNeg (0 : Int32)) (q + 14) s.toNatClampNeg (0 : Int32)) (q + 15) s.toNatClampNeg ((fx_i (fx_wi h q 0 (0 : Int32)) (q + 3) s.toNatClampNeg) - (fx_i (fx_wi (fx_wi (fx_wi h q 0 (0 : Int32)) (q + 13) s.toNatClampNeg (0 : Int32)) (q + 14) s.toNatClampNeg (0 : Int32)) (q + 13) s.toNatClampNeg))) (q + 14) s.toNatClampNeg))) (q + 16) s.toNatClampNeg) ≤ 0 then fx_wi (fx_wi (fx_wi (fx_wi (fx_wi (fx_wi (fx_wi h q 0 (0 : Int32)) (q + 13) s.toNatClampNeg (0 : Int32)) (q + 14) s.toNatClampNeg (0 : Int32)) (q + 15) s.toNatClampNeg ((fx_i (fx_wi h q 0 (0 : Int32)) (q + 3) s.toNatClampNeg) - (fx_i (fx_wi (fx_wi (fx_wi h q 0 (0 : Int32)) (q + 13) s.toNatClampNeg (0 : Int32)) (q + 14) s.toNatClampNeg (0 : Int32)) (q + 13) s.toNatClampNeg))) (q + 16) s.toNatClampNeg ((fx_i (fx_wi h q 0 (0 : Int32)) (q + 4) s.toNatClampNeg) - (fx_i (fx_wi (fx_wi (fx_wi (fx_wi h q 0 (0 : Int32)) (q + 13) s.toNatClampNeg (0 : Int32)) (q + 14) s.toNatClampNeg (0 : Int32)) (q + 15) s.toNatClampNeg ((fx_i (fx_wi h q 0 (0 : Int32)) (q + 3) s.toNatClampNeg) - (fx_i (fx_wi (fx_wi (fx_wi h q 0 (0 : Int32)) (q + 13) s.toNatClampNeg (0 : Int32)) (q + 14) s.toNatClampNeg (0 : Int32)) (q + 13) s.toNatClampNeg))) (q + 14) s.toNatClampNeg))) (q + 15) s.toNatClampNeg (0 : Int32)) (q + 16) s.toNatClampNeg (0 : Int32) else fx_wi (fx_wi (fx_wi (fx_wi (fx_wi h q 0 (0 : Int32)) (q + 13) s.toNatClampNeg (0 : Int32)) (q + 14) s.toNatClampNeg (0 : Int32)) (q + 15) s.toNatClampNeg ((fx_i (fx_wi h q 0 (0 : Int32)) (q + 3) s.toNatClampNeg) - (fx_i (fx_wi (fx_wi (fx_wi h q 0 (0 : Int32)) (q + 13) s.toNatClampNeg (0 : Int32)) (q + 14) s.toNatClampNeg (0 : Int32)) (q + 13) s.toNatClampNeg))) (q + 16) s.toNatClampNeg ((fx_i (fx_wi h q 0 (0 : Int32)) (q + 4) s.toNatClampNeg) - (fx_i (fx_wi (fx_wi (fx_wi (fx_wi h q 0 (0 : Int32)) (q + 13) s.toNatClampNeg (0 : Int32)) (q + 14) s.toNatClampNeg (0 : Int32)) (q + 15) s.toNatClampNeg ((fx_i (fx_wi h q 0 (0 : Int32)) (q + 3) s.toNatClampNeg) - (fx_i (fx_wi (fx_wi (fx_wi h q 0 (0 : Int32)) (q + 13) s.toNatClampNeg (0 : Int32)) (q + 14) s.toNatClampNeg (0 : Int32)) (q + 13) s.toNatClampNeg))) (q + 14) s.toNatClampNeg)) else if (fx_i (fx_wi (fx_wi (fx_wi (fx_wi (fx_wi h q 0 (0 : Int32)) (q + 13) s.toNatClampNeg (0 : Int32)) (q + 14) s.toNatClampNeg y) (q + 15) s.toNatClampNeg ((fx_i (fx_wi h q 0 (0 : Int32)) (q + 3) s.toNatClampNeg) - (fx_i (fx_wi (fx_wi (fx_wi h q 0 (0 : Int32)) (q + 13) s.toNatClampNeg (0 : Int32)) (q + 14) s.toNatClampNeg y) (q + 13) s.toNatClampNeg))) (q + 16) s.toNatClampNeg ((fx_i (fx_wi h q 0 (0 : Int32)) (q + 4) s.toNatClampNeg) - (fx_i (fx_wi (fx_wi (fx_wi (fx_wi h q 0 (0 : Int32)) (q + 13) s.toNatClampNeg (0 : Int32)) (q + 14) s.toNatClampNeg y) (q + 15) s.toNatClampNeg ((fx_i (fx_wi h q 0 (0 : Int32)) (q + 3) s.toNatClampNeg) - (fx_i (fx_wi (fx_wi (fx_wi h q 0 (0 : Int32)) (q + 13) s.toNatClampNeg (0 : Int32)) (q + 14) s.toNatClampNeg y) (q + 13) s.toNatClampNeg))) (q + 14) s.toNatClampNeg))) (q + 15) s.toNatClampNeg) ≤ 0 then fx_wi (fx_wi (fx_wi (fx_wi (fx_wi (fx_wi (fx_wi h q 0 (0 : Int32)) (q + 13) s.toNatClampNeg (0 : Int32)) (q + 14) s.toNatClampNeg y) (q + 15) s.toNatClampNeg ((fx_i (fx_wi h q 0 (0 : Int32)) (q + 3) s.toNatClampNeg) - (fx_i (fx_wi (fx_wi (fx_wi h q 0 (0 : Int32)) (q + 13) s.toNatClampNeg (0 : Int32)) (q + 14) s.toNatClampNeg y) (q + 13) s.toNatClampNeg))) (q + 16) s.toNatClampNeg ((fx_i (fx_wi h q 0 (0 : Int32)) (q + 4) s.toNatClampNeg) - (fx_i (fx_wi (fx_wi (fx_wi (fx_wi h q 0 (0 : Int32)) (q + 13) s.toNatClampNeg (0 : Int32)) (q + 14) s.toNatClampNeg y) (q + 15) s.toNatClampNeg ((fx_i (fx_wi h q 0 (0 : Int32)) (q + 3) s.toNatClampNeg) - (fx_i (fx_wi (fx_wi (fx_wi h q 0 (0 : Int32)) (q + 13) s.toNatClampNeg (0 : Int32)) (q + 14) s.toNatClampNeg y) (q + 13) s.toNatClampNeg))) (q + 14) s.toNatClampNeg))) (q + 15) s.toNatClampNeg (0 : Int32)) (q + 16) s.toNatClampNeg (0 : Int32) else if (fx_i (fx_wi (fx_wi (fx_wi (fx_wi (fx_wi h q 0 (0 : Int32)) (q + 13) s.toNatClampNeg (0 : Int32)) (q + 14) s.toNatClampNeg y) (q + 15) s.toNatClampNeg ((fx_i (fx_wi h q 0 (0 : Int32)) (q + 3) s.toNatClampNeg) - (fx_i (fx_wi (fx_wi (fx_wi h q 0 (0 : Int32)) (q + 13) s.toNatClampNeg (0 : Int32)) (q + 14) s.toNatClampNeg y) (q + 13) s.toNatClampNeg))) (q + 16) s.toNatClampNeg ((fx_i (fx_wi h q 0 (0 : Int32)) (q + 4) s.toNatClampNeg) - (fx_i (fx_wi (fx_wi (fx_wi (fx_wi h q 0 (0 : Int32)) (q + 13) s.toNatClampNeg (0 : Int32)) (q + 14) s.toNatClampNeg y) (q + 15) s.toNatClampNeg ((fx_i (fx_wi h q 0 (0 : Int32)) (q + 3) s.toNatClampNeg) - (fx_i (fx_wi (fx_wi (fx_wi h q 0 (0 : Int32)) (q + 13) s.toNatClampNeg (0 : Int32)) (q + 14) s.toNatClampNeg y) (q + 13) s.toNatClampNeg))) (q + 14) s.toNatClampNeg))) (q + 16) s.toNatClampNeg) ≤ 0 then fx_wi (fx_wi (fx_wi (fx_wi (fx_wi (fx_wi (fx_wi h q 0 (0 : Int32)) (q + 13) s.toNatClampNeg (0 : Int32)) (q + 14) s.toNatClampNeg y) (q + 15) s.toNatClampNeg ((fx_i (fx_wi h q 0 (0 : Int32)) (q + 3) s.toNatClampNeg) - (fx_i (fx_wi (fx_wi (fx_wi h q 0 (0 : Int32)) (q + 13) s.toNatClampNeg (0 : Int32)) (q + 14) s.toNatClampNeg y) (q + 13) s.toNatClampNeg))) (q + 16) s.toNatClampNeg ((fx_i (fx_wi h q 0 (0 : Int32)) (q + 4) s.toNatClampNeg) - (fx_i (fx_wi (fx_wi (fx_wi (fx_wi h q 0 (0 : Int32)) (q + 13) s.toNatClampNeg (0 : Int32)) (q + 14) s.toNatClampNeg y) (q + 15) s.toNatClampNeg ((fx_i (fx_wi h q 0 (0 : Int32)) (q + 3) s.toNatClampNeg) - (fx_i (fx_wi (fx_wi (fx_wi h q 0 (0 : Int32)) (q + 13) s.toNatClampNeg (0 : Int32)) (q + 14) s.toNatClampNeg y) (q + 13) s.toNatClampNeg))) (q + 14) s.toNatClampNeg))) (q + 15) s.toNatClampNeg (0 : Int32)) (q + 16) s.toNatClampNeg (0 : Int32) else fx_wi (fx_wi (fx_wi (fx_wi (fx_wi h q 0 (0 : Int32)) (q + 13) s.toNatClampNeg (0 : Int32)) (q + 14) s.toNatClampNeg y) (q + 15) s.toNatClampNeg ((fx_i (fx_wi h q 0 (0 : Int32)) (q + 3) s.toNatClampNeg) - (fx_i (fx_wi (fx_wi (fx_wi h q 0 (0 : Int32)) (q + 13) s.toNatClampNeg (0 : Int32)) (q + 14) s.toNatClampNeg y) (q + 13) s.toNatClampNeg))) (q + 16) s.toNatClampNeg ((fx_i (fx_wi h q 0 (0 : Int32)) (q + 4) s.toNatClampNeg) - (fx_i (fx_wi (fx_wi (fx_wi (fx_wi h q 0 (0 : Int32)) (q + 13) s.toNatClampNeg (0 : Int32)) (q + 14) s.toNatClampNeg y) (q + 15) s.toNatClampNeg ((fx_i (fx_wi h q 0 (0 : Int32)) (q + 3) s.toNatClampNeg) - (fx_i (fx_wi (fx_wi (fx_wi h q 0 (0 : Int32)) (q + 13) s.toNatClampNeg (0 : Int32)) (q + 14) s.toNatClampNeg y) (q + 13) s.toNatClampNeg))) (q + 14) s.toNatClampNeg)) else if y ≤ 0 then if (fx_i (fx_wi (fx_wi (fx_wi (fx_wi (fx_wi h q 0 (0 : Int32)) (q + 13) s.toNatClampNeg x) (q + 14) s.toNatClampNeg (0 : Int32)) (q + 15) s.toNatClampNeg ((fx_i (fx_wi h q 0 (0 : Int32)) (q + 3) s.toNatClampNeg) - (fx_i (fx_wi (fx_wi (fx_wi h q 0 (0 : Int32)) (q + 13) s.toNatClampNeg x) (q + 14) s.toNatClampNeg (0 : Int32)) (q + 13) s.toNatClampNeg))) (q + 16) s.toNatClampNeg ((fx_i (fx_wi h q 0 (0 : Int32)) (q + 4) s.toNatClampNeg) - (fx_i (fx_wi (fx_wi (fx_wi (fx_wi h q 0 (0 : Int32)) (q + 13) s.toNatClampNeg x) (q + 14) s.toNatClampNeg (0 : Int32)) (q + 15) s.toNatClampNeg ((fx_i (fx_wi h q 0 (0 : Int32)) (q + 3) s.toNatClampNeg) - (fx_i (fx_wi (fx_wi (fx_wi h q 0 (0 : Int32)) (q + 13) s.toNatClampNeg x) (q + 14) s.toNatClampNeg (0 : Int32)) (q + 13) s.toNatClampNeg))) (q + 14) s.toNatClampNeg))) (q + 15) s.toNatClampNeg) ≤ 0 then fx_wi (fx_wi (fx_wi (fx_wi (fx_wi (fx_wi (fx_wi h q 0 (0 : Int32)) (q + 13) s.toNatClampNeg x) (q + 14) s.toNatClampNeg (0 : Int32)) (q + 15) s.toNatClampNeg ((fx_i (fx_wi h q 0 (0 : Int32)) (q + 3) s.toNatClampNeg) - (fx_i (fx_wi (fx_wi (fx_wi h q 0 (0 : Int32)) (q + 13) s.toNatClampNeg x) (q + 14) s.toNatClampNeg (0 : Int32)) (q + 13) s.toNatClampNeg))) (q + 16) s.toNatClampNeg ((fx_i (fx_wi h q 0 (0 : Int32)) (q + 4) s.toNatClampNeg) - (fx_i (fx_wi (fx_wi (fx_wi (fx_wi h q 0 (0 : Int32)) (q + 13) s.toNatClampNeg x) (q + 14) s.toNatClampNeg (0 : Int32)) (q + 15) s.toNatClampNeg ((fx_i (fx_wi h q 0 (0 : Int32)) (q + 3) s.toNatClampNeg) - (fx_i (fx_wi (fx_wi (fx_wi h q 0 (0 : Int32)) (q + 13) s.toNatClampNeg x) (q + 14) s.toNatClampNeg (0 : Int32)) (q + 13) s.toNatClampNeg))) (q + 14) s.toNatClampNeg))) (q + 15) s.toNatClampNeg (0 : Int32)) (q + 16) s.toNatClampNeg (0 : Int32) else if (fx_i (fx_wi (fx_wi (fx_wi (fx_wi (fx_wi h q 0 (0 : Int32)) (q + 13) s.toNatClampNeg x) (q + 14) s.toNatClampNeg (0 : Int32)) (q + 15) s.toNatClampNeg ((fx_i (fx_wi h q 0 (0 : Int32)) (q + 3) s.toNatClampNeg) - (fx_i (fx_wi (fx_wi (fx_wi h q 0 (0 : Int32)) (q + 13) s.toNatClampNeg x) (q + 14) s.toNatClampNeg (0 : Int32)) (q + 13) s.toNatClampNeg))) (q + 16) s.toNatClampNeg ((fx_i (fx_wi h q 0 (0 : Int32)) (q + 4) s.toNatClampNeg) - (fx_i (fx_wi (fx_wi (fx_wi (fx_wi h q 0 (0 : Int32)) (q + 13) s.toNatClampNeg x) (q + 14) s.toNatClampNeg (0 : Int32)) (q + 15) s.toNatClampNeg ((fx_i (fx_wi h q 0 (0 : Int32)) (q + 3) s.toNatClampNeg) - (fx_i (fx_wi (fx_wi (fx_wi h q 0 (0 : Int32)) (q + 13) s.toNatClampNeg x) (q + 14) s.toNatClampNeg (0 : Int32)) (q + 13) s.toNatClampNeg))) (q + 14) s.toNatClampNeg))) (q + 16) s.toNatClampNeg) ≤ 0 then fx_wi (fx_wi (fx_wi (fx_wi (fx_wi (fx_wi (fx_wi h q 0 (0 : Int32)) (q + 13) s.toNatClampNeg x) (q + 14) s.toNatClampNeg (0 : Int32)) (q + 15) s.toNatClampNeg ((fx_i (fx_wi h q 0 (0 : Int32)) (q + 3) s.toNatClampNeg) - (fx_i (fx_wi (fx_wi (fx_wi h q 0 (0 : Int32)) (q + 13) s.toNatClampNeg x) (q + 14) s.toNatClampNeg (0 : Int32)) (q + 13) s.toNatClampNeg))) (q + 16) s.toNatClampNeg ((fx_i (fx_wi h q 0 (0 : Int32)) (q + 4) s.toNatClampNeg) - (fx_i (fx_wi (fx_wi (fx_wi (fx_wi h q 0 (0 : Int32)) (q + 13) s.toNatClampNeg x) (q + 14) s.toNatClampNeg (0 : Int32)) (q + 15) s.toNatClampNeg ((fx_i (fx_wi h q 0 (0 : Int32)) (q + 3) s.toNatClampNeg) - (fx_i (fx_wi (fx_wi (fx_wi h q 0 (0 : Int32)) (q + 13) s.toNatClampNeg x) (q + 14) s.toNatClampNeg (0 : Int32)) (q + 13) s.toNatClampNeg))) (q + 14) s.toNatClampNeg))) (q + 15) s.toNatClampNeg (0 : Int32)) (q + 16) s.toNatClampNeg (0 : Int32) else fx_wi (fx_wi (fx_wi (fx_wi (fx_wi h q 0 (0 : Int32)) (q + 13) s.toNatClampNeg x) (q + 14) s.toNatClampNeg (0 : Int32)) (q + 15) s.toNatClampNeg ((fx_i (fx_wi h q 0 (0 : Int32)) (q + 3) s.toNatClampNeg) - (fx_i (fx_wi (fx_wi (fx_wi h q 0 (0 : Int32)) (q + 13) s.toNatClampNeg x) (q + 14) s.toNatClampNeg (0 : Int32)) (q + 13) s.toNatClampNeg))) (q + 16) s.toNatClampNeg ((fx_i (fx_wi h q 0 (0 : Int32)) (q + 4) s.toNatClampNeg) - (fx_i (fx_wi (fx_wi (fx_wi (fx_wi h q 0 (0 : Int32)) (q + 13) s.toNatClampNeg x) (q + 14) s.toNatClampNeg (0 : Int32)) (q + 15) s.toNatClampNeg ((fx_i (fx_wi h q 0 (0 : Int32)) (q + 3) s.toNatClampNeg) - (fx_i (fx_wi (fx_wi (fx_wi h q 0 (0 : Int32)) (q + 13) s.toNatClampNeg x) (q + 14) s.toNatClampNeg (0 : Int32)) (q + 13) s.toNatClampNeg))) (q + 14) s.toNatClampNeg)) else if (fx_i (fx_wi (fx_wi (fx_wi (fx_wi (fx_wi h q 0 (0 : Int32)) (q + 13) s.toNatClampNeg x) (q + 14) s.toNatClampNeg y) (q + 15) s.toNatClampNeg ((fx_i (fx_wi h q 0 (0 : Int32)) (q + 3) s.toNatClampNeg) - (fx_i (fx_wi (fx_wi (fx_wi h q 0 (0 : Int32)) (q + 13) s.toNatClampNeg x) (q + 14) s.toNatClampNeg y) (q + 13) s.toNatClampNeg))) (q + 16) s.toNatClampNeg ((fx_i (fx_wi h q 0 (0 : Int32)) (q + 4) s.toNatClampNeg) - (fx_i (fx_wi (fx_wi (fx_wi (fx_wi h q 0 (0 : Int32)) (q + 13) s.toNatClampNeg x) (q + 14) s.toNatClampNeg y) (q + 15) s.toNatClampNeg ((fx_i (fx_wi h q 0 (0 : Int32)) (q + 3) s.toNatClampNeg) - (fx_i (fx_wi (fx_wi (fx_wi h q 0 (0 : Int32)) (q + 13) s.toNatClampNeg x) (q + 14) s.toNatClampNeg y) (q + 13) s.toNatClampNeg))) (q + 14) s.toNatClampNeg))) (q + 15) s.toNatClampNeg) ≤ 0 then fx_wi (fx_wi (fx_wi (fx_wi (fx_wi (fx_wi (fx_wi h q 0 (0 : Int32)) (q + 13) s.toNatClampNeg x) (q + 14) s.toNatClampNeg y) (q + 15) s.toNatClampNeg ((fx_i (fx_wi h q 0 (0 : Int32)) (q + 3) s.toNatClampNeg) - (fx_i (fx_wi (fx_wi (fx_wi h q 0 (0 : Int32)) (q + 13) s.toNatClampNeg x) (q + 14) s.toNatClampNeg y) (q + 13) s.toNatClampNeg))) (q + 16) s.toNatClampNeg ((fx_i (fx_wi h q 0 (0 : Int32)) (q + 4) s.toNatClampNeg) - (fx_i (fx_wi (fx_wi (fx_wi (fx_wi h q 0 (0 : Int32)) (q + 13) s.toNatClampNeg x) (q + 14) s.toNatClampNeg y) (q + 15) s.toNatClampNeg ((fx_i (fx_wi h q 0 (0 : Int32)) (q + 3) s.toNatClampNeg) - (fx_i (fx_wi (fx_wi (fx_wi h q 0 (0 : Int32)) (q + 13) s.toNatClampNeg x) (q + 14) s.toNatClampNeg y) (q + 13) s.toNatClampNeg))) (q + 14) s.toNatClampNeg))) (q + 15) s.toNatClampNeg (0 : Int32)) (q + 16) s.toNatClampNeg (0 : Int32) else if (fx_i (fx_wi (fx_wi (fx_wi (fx_wi (fx_wi h q 0 (0 : Int32)) (q + 13) s.toNatClampNeg x) (q + 14) s.toNatClampNeg y) (q + 15) s.toNatClampNeg ((fx_i (fx_wi h q 0 (0 : Int32)) (q + 3) s.toNatClampNeg) - (fx_i (fx_wi (fx_wi (fx_wi h q 0 (0 : Int32)) (q + 13) s.toNatClampNeg x) (q + 14) s.toNatClampNeg y) (q + 13) s.toNatClampNeg))) (q + 16) s.toNatClampNeg ((fx_i (fx_wi h q 0 (0 : Int32)) (q + 4) s.toNatClampNeg) - (fx_i (fx_wi (fx_wi (fx_wi (fx_wi h q 0 (0 : Int32)) (q + 13) s.toNatClampNeg x) (q + 14) s.toNatClampNeg y) (q + 15) s.toNatClampNeg ((fx_i (fx_wi h q 0 (0 : Int32)) (q + 3) s.toNatClampNeg) - (fx_i (fx_wi (fx_wi (fx_wi h q 0 (0 : Int32)) (q + 13) s.toNatClampNeg x) (q + 14) s.toNatClampNeg y) (q + 13) s.toNatClampNeg))) (q + 14) s.toNatClampNeg))) (q + 16) s.toNatClampNeg) ≤ 0 then fx_wi (fx_wi (fx_wi (fx_wi (fx_wi (fx_wi (fx_wi h q 0 (0 : Int32)) (q + 13) s.toNatClampNeg x) (q + 14) s.toNatClampNeg y) (q + 15) s.toNatClampNeg ((fx_i (fx_wi h q 0 (0 : Int32)) (q + 3) s.toNatClampNeg) - (fx_i (fx_wi (fx_wi (fx_wi h q 0 (0 : Int32)) (q + 13) s.toNatClampNeg x) (q + 14) s.toNatClampNeg y) (q + 13) s.toNatClampNeg))) (q + 16) s.toNatClampNeg ((fx_i (fx_wi h q 0 (0 : Int32)) (q + 4) s.toNatClampNeg) - (fx_i (fx_wi (fx_wi (fx_wi (fx_wi h q 0 (0 : Int32)) (q + 13) s.toNatClampNeg x) (q + 14) s.toNatClampNeg y) (q + 15) s.toNatClampNeg ((fx_i (fx_wi h q 0 (0 : Int32)) (q + 3) s.toNatClampNeg) - (fx_i (fx_wi (fx_wi (fx_wi h q 0 (0 : Int32)) (q + 13) s.toNatClampNeg x) (q + 14) s.toNatClampNeg y) (q + 13) s.toNatClampNeg))) (q + 14) s.toNatClampNeg))) (q + 15) s.toNatClampNeg (0 : Int32)) (q + 16) s.toNatClampNeg (0 : Int32) else fx_wi (fx_wi (fx_wi (fx_wi (fx_wi h q 0 (0 : Int32)) (q + 13) s.toNatClampNeg x) (q + 14) s.toNatClampNeg y) (q + 15) s.toNatClampNeg ((fx_i (fx_wi h q 0 (0 : Int32)) (q + 3) s.toNatClampNeg) - (fx_i (fx_wi (fx_wi (fx_wi h q 0 (0 : Int32)) (q + 13) s.toNatClampNeg x) (q + 14) s.toNatClampNeg y) (q + 13) s.toNatClampNeg))) (q + 16) s.toNatClampNeg ((fx_i (fx_wi h q 0 (0 : Int32)) (q + 4) s.toNatClampNeg) - (fx_i (fx_wi (fx_wi (fx_wi (fx_wi h q 0 (0 : Int32)) (q + 13) s.toNatClampNeg x) (q + 14) s.toNatClampNeg y) (q + 15) s.toNatClampNeg ((fx_i (fx_wi h q 0 (0 : Int32)) (q + 3) s.toNatClampNeg) - (fx_i (fx_wi (fx_wi (fx_wi h q 0 (0 : Int32)) (q + 13) s.toNatClampNeg x) (q + 14) s.toNatClampNeg y) (q + 13) s.toNatClampNeg))) (q + 14) s.toNatClampNeg)) else if x ≤ 0 then if y ≤ 0 then if (fx_i (fx_wi (fx_wi (fx_wi (fx_wi (fx_wi h q 0 (0 : Int32)) (q + 13) s.toNatClampNeg (0 : Int32)) (q + 14) s.toNatClampNeg (0 : Int32)) (q + 15) s.toNatClampNeg ((fx_i (fx_wi h q 0 (0 : Int32)) (q + 3) s.toNatClampNeg) - (fx_i (fx_wi (fx_wi (fx_wi h q 0 (0 : Int32)) (q + 13) s.toNatClampNeg (0 : Int32)) (q + 14) s.toNatClampNeg (0 : Int32)) (q + 13) s.toNatClampNeg))) (q + 16) s.toNatClampNeg ((y + rs) - (fx_i (fx_wi (fx_wi (fx_wi (fx_wi h q 0 (0 : Int32)) (q + 13) s.toNatClampNeg (0 : Int32)) (q + 14) s.toNatClampNeg (0 : Int32)) (q + 15) s.toNatClampNeg ((fx_i (fx_wi h q 0 (0 : Int32)) (q + 3) s.toNatClampNeg) - (fx_i (fx_wi (fx_wi (fx_wi h q 0 (0 : Int32)) (q + 13) s.toNatClampNeg (0 : Int32)) (q + 14) s.toNatClampNeg (0 : Int32)) (q + 13) s.toNatClampNeg))) (q + 14) s.toNatClampNeg))) (q + 15) s.toNatClampNeg) ≤ 0 then fx_wi (fx_wi (fx_wi (fx_wi (fx_wi (fx_wi (fx_wi h q 0 (0 : Int32)) (q + 13) s.toNatClampNeg (0 : Int32)) (q + 14) s.toNatClampNeg (0 : Int32)) (q + 15) s.toNatClampNeg ((fx_i (fx_wi h q 0 (0 : Int32)) (q + 3) s.toNatClampNeg) - (fx_i (fx_wi (fx_wi (fx_wi h q 0 (0 : Int32)) (q + 13) s.toNatClampNeg (0 : Int32)) (q + 14) s.toNatClampNeg (0 : Int32)) (q + 13) s.toNatClampNeg))) (q + 16) s.toNatClampNeg ((y + rs) - (fx_i (fx_wi (fx_wi (fx_wi (fx_wi h q 0 (0 : Int32)) (q + 13) s.toNatClampNeg (0 : Int32)) (q + 14) s.toNatClampNeg (0 : Int32)) (q + 15) s.toNatClampNeg ((fx_i (fx_wi h q 0 (0 : Int32)) (q + 3) s.toNatClampNeg) - (fx_i (fx_wi (fx_wi (fx_wi h q 0 (0 : Int32)) (q + 13) s.toNatClampNeg (0 : Int32)) (q + 14) s.toNatClampNeg (0 : Int32)) (q + 13) s.toNatClampNeg))) (q + 14) s.toNatClampNeg))) (q + 15) s.toNatClampNeg (0 : Int32)) (q + 16) s.toNatClampNeg (0 : Int32) else if (fx_i (fx_wi (fx_wi (fx_wi (fx_wi (fx_wi h q 0 (0 : Int32)) (q + 13) s.toNatClampNeg (0 : Int32)) (q + 14) s.toNatClampNeg (0 : Int32)) (q + 15) s.toNatClampNeg ((fx_i (fx_wi h q 0 (0 : Int32)) (q + 3) s.toNatClampNeg) - (fx_i (fx_wi (fx_wi (fx_wi h q 0 (0 : Int32)) (q + 13) s.toNatClampNeg (0 : Int32)) (q + 14) s.toNatClampNeg (0 : Int32)) (q + 13) s.toNatClampNeg))) (q + 16) s.toNatClampNeg ((y + rs) - (fx_i (fx_wi (fx_wi (fx_wi (fx_wi h q 0 (0 : Int32)) (q + 13) s.toNatClampNeg (0 : Int32)) (q + 14) s.toNatClampNeg (0 : Int32)) (q + 15) s.toNatClampNeg ((fx_i (fx_wi h q 0 (0 : Int32)) (q + 3) s.toNatClampNeg) - (fx_i (fx_wi (fx_wi (fx_wi h q 0 (0 : Int32)) (q + 13) s.toNatClampNeg (0 : Int32)) (q + 14) s.toNatClampNeg (0 : Int32)) (q + 13) s.toNatClampNeg))) (q + 14) s.toNatClampNeg))) (q + 16) s.toNatClampNeg) ≤ 0 then fx_wi (fx_wi (fx_wi (fx_wi (fx_wi (fx_wi (fx_wi h q 0 (0 : Int32)) (q + 13) s.toNatClampNeg (0 : Int32)) (q + 14) s.toNatClampNeg (0 : Int32)) (q + 15) s.toNatClampNeg ((fx_i (fx_wi h q 0 (0 : Int32)) (q + 3) s.toNatClampNeg) - (fx_i (fx_wi (fx_wi (fx_wi h q 0 (0 : Int32)) (q + 13) s.toNatClampNeg (0 : Int32)) (q + 14) s.toNatClampNeg (0 : Int32)) (q + 13) s.toNatClampNeg))) (q + 16) s.toNatClampNeg ((y + rs) - (fx_i (fx_wi (fx_wi (fx_wi (fx_wi h q 0 (0 : Int32)) (q + 13) s.toNatClampNeg (0 : Int32)) (q + 14) s.toNatClampNeg (0 : Int32)) (q + 15) s.toNatClampNeg ((fx_i (fx_wi h q 0 (0 : Int32)) (q + 3) s.toNatClampNeg) - (fx_i (fx_wi (fx_wi (fx_wi h q 0 (0 : Int32)) (q + 13) s.toNatClampNeg (0 : Int32)) (q + 14) s.toNatClampNeg (0 : Int32)) (q + 13) s.toNatClampNeg))) (q + 14) s.toNatClampNeg))) (q + 15) s.toNatClampNeg (0 : Int32)) (q + 16) s.toNatClampNeg (0 : Int32) else fx_wi (fx_wi (fx_wi (fx_wi (fx_wi h q 0 (0 : Int32)) (q + 13) s.toNatClampNeg (0 : Int32)) (q + 14) s.toNatClampNeg (0 : Int32)) (q + 15) s.toNatClampNeg ((fx_i (fx_wi h q 0 (0 : Int32)) (q + 3) s.toNatClampNeg) - (fx_i (fx_wi (fx_wi (fx_wi h q 0 (0 : Int32)) (q + 13) s.toNatClampNeg (0 : Int32)) (q + 14) s.toNatClampNeg (0 : Int32)) (q + 13) s.toNatClampNeg))) (q + 16) s.toNatClampNeg ((y + rs) - (fx_i (fx_wi (fx_wi (fx_wi (fx_wi h q 0 (0 : Int32)) (q + 13) s.toNatClampNeg (0 : Int32)) (q + 14) s.toNatClampNeg (0 : Int32)) (q + 15) s.toNatClampNeg ((fx_i (fx_wi h q 0 (0 : Int32)) (q + 3) s.toNatClampNeg) - (fx_i (fx_wi (fx_wi (fx_wi h q 0 (0 : Int32)) (q + 13) s.toNatClampNeg (0 : Int32)) (q + 14) s.toNatClampNeg (0 : Int32)) (q + 13) s.toNatClampNeg))) (q + 14) s.toNatClampNeg)) else if (fx_i (fx_wi (fx_wi (fx_wi (fx_wi (fx_wi h q 0 (0 : Int32)) (q + 13) s.toNatClampNeg (0 : Int32)) (q + 14) s.toNatClampNeg y) (q + 15) s.toNatClampNeg ((fx_i (fx_wi h q 0 (0 : Int32)) (q + 3) s.toNatClampNeg) - (fx_i (fx_wi (fx_wi (fx_wi h q 0 (0 : Int32)) (q + 13) s.toNatClampNeg (0 : Int32)) (q + 14) s.toNatClampNeg y) (q + 13) s.toNatClampNeg))) (q + 16) s.toNatClampNeg ((y + rs) - (fx_i (fx_wi (fx_wi (fx_wi (fx_wi h q 0 (0 : Int32)) (q + 13) s.toNatClampNeg (0 : Int32)) (q + 14) s.toNatClampNeg y) (q + 15) s.toNatClampNeg ((fx_i (fx_wi h q 0 (0 : Int32)) (q + 3) s.toNatClampNeg) - (fx_i (fx_wi (fx_wi (fx_wi h q 0 (0 : Int32)) (q + 13) s.toNatClampNeg (0 : Int32)) (q + 14) s.toNatClampNeg y) (q + 13) s.toNatClampNeg))) (q + 14) s.toNatClampNeg))) (q + 15) s.toNatClampNeg) ≤ 0 then fx_wi (fx_wi (fx_wi (fx_wi (fx_wi (fx_wi (fx_wi h q 0 (0 : Int32)) (q + 13) s.toNatClampNeg (0 : Int32)) (q + 14) s.toNatClampNeg y) (q + 15) s.toNatClampNeg ((fx_i (fx_wi h q 0 (0 : Int32)) (q + 3) s.toNatClampNeg) - (fx_i (fx_wi (fx_wi (fx_wi h q 0 (0 : Int32)) (q + 13) s.toNatClampNeg (0 : Int32)) (q + 14) s.toNatClampNeg y) (q + 13) s.toNatClampNeg))) (q + 16) s.toNatClampNeg ((y + rs) - (fx_i (fx_wi (fx_wi (fx_wi (fx_wi h q 0 (0 : Int32)) (q + 13) s.toNatClampNeg (0 : Int32)) (q + 14) s.toNatClampNeg y) (q + 15) s.toNatClampNeg ((fx_i (fx_wi h q 0 (0 : Int32)) (q + 3) s.toNatClampNeg) - (fx_i (fx_wi (fx_wi (fx_wi h q 0 (0 : Int32)) (q + 13) s.toNatClampNeg (0 : Int32)) (q + 14) s.toNatClampNeg y) (q + 13) s.toNatClampNeg))) (q + 14) s.toNatClampNeg))) (q + 15) s.toNatClampNeg (0 : Int32)) (q + 16) s.toNatClampNeg (0 : Int32) else if (fx_i (fx_wi (fx_wi (fx_wi (fx_wi (fx_wi h q 0 (0 : Int32)) (q + 13) s.toNatClampNeg (0 : Int32)) (q + 14) s.toNatClampNeg y) (q + 15) s.toNatClampNeg ((fx_i (fx_wi h q 0 (0 : Int32)) (q + 3) s.toNatClampNeg) - (fx_i (fx_wi (fx_wi (fx_wi h q 0 (0 : Int32)) (q + 13) s.toNatClampNeg (0 : Int32)) (q + 14) s.toNatClampNeg y) (q + 13) s.toNatClampNeg))) (q + 16) s.toNatClampNeg ((y + rs) - (fx_i (fx_wi (fx_wi (fx_wi (fx_wi h q 0 (0 : Int32)) (q + 13) s.toNatClampNeg (0 : Int32)) (q + 14) s.toNatClampNeg y) (q + 15) s.toNatClampNeg ((fx_i (fx_wi h q 0 (0 : Int32)) (q + 3) s.toNatClampNeg) - (fx_i (fx_wi (fx_wi (fx_wi h q 0 (0 : Int32)) (q + 13) s.toNatClampNeg (0 : Int32)) (q + 14) s.toNatClampNeg y) (q + 13) s.toNatClampNeg))) (q + 14) s.toNatClampNeg))) (q + 16) s.toNatClampNeg) ≤ 0 then fx_wi (fx_wi (fx_wi (fx_wi (fx_wi (fx_wi (fx_wi h q 0 (0 : Int32)) (q + 13) s.toNatClampNeg (0 : Int32)) (q + 14) s.toNatClampNeg y) (q + 15) s.toNatClampNeg ((fx_i (fx_wi h q 0 (0 : Int32)) (q + 3) s.toNatClampNeg) - (fx_i (fx_wi (fx_wi (fx_wi h q 0 (0 : Int32)) (q + 13) s.toNatClampNeg (0 : Int32)) (q + 14) s.toNatClampNeg y) (q + 13) s.toNatClampNeg))) (q + 16) s.toNatClampNeg ((y + rs) - (fx_i (fx_wi (fx_wi (fx_wi (fx_wi h q 0 (0 : Int32)) (q + 13) s.toNatClampNeg (0 : Int32)) (q + 14) s.toNatClampNeg y) (q + 15) s.toNatClampNeg ((fx_i (fx_wi h q 0 (0 : Int32)) (q + 3) s.toNatClampNeg) - (fx_i (fx_wi (fx_wi (fx_wi h q 0 (0 : Int32)) (q + 13) s.toNatClampNeg (0 : Int32)) (q + 14) s.toNatClampNeg y) (q + 13) s.toNatClampNeg))) (q + 14) s.toNatClampNeg))) (q + 15) s.toNatClampNeg (0 : Int32)) (q + 16) s.toNatClampNeg (0 : Int32) else fx_wi (fx_wi (fx_wi (fx_wi (fx_wi h q 0 (0 : Int32)) (q + 13) s.toNatClampNeg (0 : Int32)) (q + 14) s.toNatClampNeg y) (q + 15) s.toNatClampNeg ((fx_i (fx_wi h q 0 (0 : Int32)) (q + 3) s.toNatClampNeg) - (fx_i (fx_wi (fx_wi (fx_wi h q 0 (0 : Int32)) (q + 13) s.toNatClampNeg (0 : Int32)) (q + 14) s.toNatClampNeg y) (q + 13) s.toNatClampNeg))) (q + 16) s.toNatClampNeg ((y + rs) - (fx_i (fx_wi (fx_wi (fx_wi (fx_wi h q 0 (0 : Int32)) (q + 13) s.toNatClampNeg (0 : Int32)) (q + 14) s.toNatClampNeg y) (q + 15) s.toNatClampNeg ((fx_i (fx_wi h q 0 (0 : Int32)) (q + 3) s.toNatClampNeg) - (fx_i (fx_wi (fx_wi (fx_wi h q 0 (0 : Int32)) (q + 13) s.toNatClampNeg (0 : Int32)) (q + 14) s.toNatClampNeg y) (q + 13) s.toNatClampNeg))) (q + 14) s.toNatClampNeg)) else if y ≤ 0 then if (fx_i (fx_wi (fx_wi (fx_wi (fx_wi (fx_wi h q 0 (0 : Int32)) (q + 13) s.toNatClampNeg x) (q + 14) s.toNatClampNeg (0 : Int32)) (q + 15) s.toNatClampNeg ((fx_i (fx_wi h q 0 (0 : Int32)) (q + 3) s.toNatClampNeg) - (fx_i (fx_wi (fx_wi (fx_wi h q 0 (0 : Int32)) (q + 13) s.toNatClampNeg x) (q + 14) s.toNatClampNeg (0 : Int32)) (q + 13) s.toNatClampNeg))) (q + 16) s.toNatClampNeg ((y + rs) - (fx_i (fx_wi (fx_wi (fx_wi (fx_wi h q 0 (0 : Int32)) (q + 13) s.toNatClampNeg x) (q + 14) s.toNatClampNeg (0 : Int32)) (q + 15) s.toNatClampNeg ((fx_i (fx_wi h q 0 (0 : Int32)) (q + 3) s.toNatClampNeg) - (fx_i (fx_wi (fx_wi (fx_wi h q 0 (0 : Int32)) (q + 13) s.toNatClampNeg x) (q + 14) s.toNatClampNeg (0 : Int32)) (q + 13) s.toNatClampNeg))) (q + 14) s.toNatClampNeg))) (q + 15) s.toNatClampNeg) ≤ 0 then fx_wi (fx_wi (fx_wi (fx_wi (fx_wi (fx_wi (fx_wi h q 0 (0 : Int32)) (q + 13) s.toNatClampNeg x) (q + 14) s.toNatClampNeg (0 : Int32)) (q + 15) s.toNatClampNeg ((fx_i (fx_wi h q 0 (0 : Int32)) (q + 3) s.toNatClampNeg) - (fx_i (fx_wi (fx_wi (fx_wi h q 0 (0 : Int32)) (q + 13) s.toNatClampNeg x) (q + 14) s.toNatClampNeg (0 : Int32)) (q + 13) s.toNatClampNeg))) (q + 16) s.toNatClampNeg ((y + rs) - (fx_i (fx_wi (fx_wi (fx_wi (fx_wi h q 0 (0 : Int32)) (q + 13) s.toNatClampNeg x) (q + 14) s.toNatClampNeg (0 : Int32)) (q + 15) s.toNatClampNeg ((fx_i (fx_wi h q 0 (0 : Int32)) (q + 3) s.toNatClampNeg) - (fx_i (fx_wi (fx_wi (fx_wi h q 0 (0 : Int32)) (q + 13) s.toNatClampNeg x) (q + 14) s.toNatClampNeg (0 : Int32)) (q + 13) s.toNatClampNeg))) (q + 14) s.toNatClampNeg))) (q + 15) s.toNatClampNeg (0 : Int32)) (q + 16) s.toNatClampNeg (0 : Int32) else if (fx_i (fx_wi (fx_wi (fx_wi (fx_wi (fx_wi h q 0 (0 : Int32)) (q + 13) s.toNatClampNeg x) (q + 14) s.toNatClampNeg (0 : Int32)) (q + 15) s.toNatClampNeg ((fx_i (fx_wi h q 0 (0 : Int32)) (q + 3) s.toNatClampNeg) - (fx_i (fx_wi (fx_wi (fx_wi h q 0 (0 : Int32)) (q + 13) s.toNatClampNeg x) (q + 14) s.toNatClampNeg (0 : Int32)) (q + 13) s.toNatClampNeg))) (q + 16) s.toNatClampNeg ((y + rs) - (fx_i (fx_wi (fx_wi (fx_wi (fx_wi h q 0 (0 : Int32)) (q + 13) s.toNatClampNeg x) (q + 14) s.toNatClampNeg (0 : Int32)) (q + 15) s.toNatClampNeg ((fx_i (fx_wi h q 0 (0 : Int32)) (q + 3) s.toNatClampNeg) - (fx_i (fx_wi (fx_wi (fx_wi h q 0 (0 : Int32)) (q + 13) s.toNatClampNeg x) (q + 14) s.toNatClampNeg (0 : Int32)) (q + 13) s.toNatClampNeg))) (q + 14) s.toNatClampNeg))) (q + 16) s.toNatClampNeg) ≤ 0 then fx_wi (fx_wi (fx_wi (fx_wi (fx_wi (fx_wi (fx_wi h q 0 (0 : Int32)) (q + 13) s.toNatClampNeg x) (q + 14) s.toNatClampNeg (0 : Int32)) (q + 15) s.toNatClampNeg ((fx_i (fx_wi h q 0 (0 : Int32)) (q + 3) s.toNatClampNeg) - (fx_i (fx_wi (fx_wi (fx_wi h q 0 (0 : Int32)) (q + 13) s.toNatClampNeg x) (q + 14) s.toNatClampNeg (0 : Int32)) (q + 13) s.toNatClampNeg))) (q + 16) s.toNatClampNeg ((y + rs) - (fx_i (fx_wi (fx_wi (fx_wi (fx_wi h q 0 (0 : Int32)) (q + 13) s.toNatClampNeg x) (q + 14) s.toNatClampNeg (0 : Int32)) (q + 15) s.toNatClampNeg ((fx_i (fx_wi h q 0 (0 : Int32)) (q + 3) s.toNatClampNeg) - (fx_i (fx_wi (fx_wi (fx_wi h q 0 (0 : Int32)) (q + 13) s.toNatClampNeg x) (q + 14) s.toNatClampNeg (0 : Int32)) (q + 13) s.toNatClampNeg))) (q + 14) s.toNatClampNeg))) (q + 15) s.toNatClampNeg (0 : Int32)) (q + 16) s.toNatClampNeg (0 : Int32) else fx_wi (fx_wi (fx_wi (fx_wi (fx_wi h q 0 (0 : Int32)) (q + 13) s.toNatClampNeg x) (q + 14) s.toNatClampNeg (0 : Int32)) (q + 15) s.toNatClampNeg ((fx_i (fx_wi h q 0 (0 : Int32)) (q + 3) s.toNatClampNeg) - (fx_i (fx_wi (fx_wi (fx_wi h q 0 (0 : Int32)) (q + 13) s.toNatClampNeg x) (q + 14) s.toNatClampNeg (0 : Int32)) (q + 13) s.toNatClampNeg))) (q + 16) s.toNatClampNeg ((y + rs) - (fx_i (fx_wi (fx_wi (fx_wi (fx_wi h q 0 (0 : Int32)) (q + 13) s.toNatClampNeg x) (q + 14) s.toNatClampNeg (0 : Int32)) (q + 15) s.toNatClampNeg ((fx_i (fx_wi h q 0 (0 : Int32)) (q + 3) s.toNatClampNeg) - (fx_i (fx_wi (fx_wi (fx_wi h q 0 (0 : Int32)) (q + 13) s.toNatClampNeg x) (q + 14) s.toNatClampNeg (0 : Int32)) (q + 13) s.toNatClampNeg))) (q + 14) s.toNatClampNeg)) else if (fx_i (fx_wi (fx_wi (fx_wi (fx_wi (fx_wi h q 0 (0 : Int32)) (q + 13) s.toNatClampNeg x) (q + 14) s.toNatClampNeg y) (q + 15) s.toNatClampNeg ((fx_i (fx_wi h q 0 (0 : Int32)) (q + 3) s.toNatClampNeg) - (fx_i (fx_wi (fx_wi (fx_wi h q 0 (0 : Int32)) (q + 13) s.toNatClampNeg x) (q + 14) s.toNatClampNeg y) (q + 13) s.toNatClampNeg))) (q + 16) s.toNatClampNeg ((y + rs) - (fx_i (fx_wi (fx_wi (fx_wi (fx_wi h q 0 (0 : Int32)) (q + 13) s.toNatClampNeg x) (q + 14) s.toNatClampNeg y) (q + 15) s.toNatClampNeg ((fx_i (fx_wi h q 0 (0 : Int32)) (q + 3) s.toNatClampNeg) - (fx_i (fx_wi (fx_wi (fx_wi h q 0 (0 : Int32)) (q + 13) s.toNatClampNeg x) (q + 14) s.toNatClampNeg y) (q + 13) s.toNatClampNeg))) (q + 14) s.toNatClampNeg))) (q + 15) s.toNatClampNeg) ≤ 0 then fx_wi (fx_wi (fx_wi (fx_wi (fx_wi (fx_wi (fx_wi h q 0 (0 : Int32)) (q + 13) s.toNatClampNeg x) (q + 14) s.toNatClampNeg y) (q + 15) s.toNatClampNeg ((fx_i (fx_wi h q 0 (0 : Int32)) (q + 3) s.toNatClampNeg) - (fx_i (fx_wi (fx_wi (fx_wi h q 0 (0 : Int32)) (q + 13) s.toNatClampNeg x) (q + 14) s.toNatClampNeg y) (q + 13) s.toNatClampNeg))) (q + 16) s.toNatClampNeg ((y + rs) - (fx_i (fx_wi (fx_wi (fx_wi (fx_wi h q 0 (0 : Int32)) (q + 13) s.toNatClampNeg x) (q + 14) s.toNatClampNeg y) (q + 15) s.toNatClampNeg ((fx_i (fx_wi h q 0 (0 : Int32)) (q + 3) s.toNatClampNeg) - (fx_i (fx_wi (fx_wi (fx_wi h q 0 (0 : Int32)) (q + 13) s.toNatClampNeg x) (q + 14) s.toNatClampNeg y) (q + 13) s.toNatClampNeg))) (q + 14) s.toNatClampNeg))) (q + 15) s.toNatClampNeg (0 : Int32)) (q + 16) s.toNatClampNeg (0 : Int32) else if (fx_i (fx_wi (fx_wi (fx_wi (fx_wi (fx_wi h q 0 (0 : Int32)) (q + 13) s.toNatClampNeg x) (q + 14) s.toNatClampNeg y) (q + 15) s.toNatClampNeg ((fx_i (fx_wi h q 0 (0 : Int32)) (q + 3) s.toNatClampNeg) - (fx_i (fx_wi (fx_wi (fx_wi h q 0 (0 : Int32)) (q + 13) s.toNatClampNeg x) (q + 14) s.toNatClampNeg y) (q + 13) s.toNatClampNeg))) (q + 16) s.toNatClampNeg ((y + rs) - (fx_i (fx_wi (fx_wi (fx_wi (fx_wi h q 0 (0 : Int32)) (q + 13) s.toNatClampNeg x) (q + 14) s.toNatClampNeg y) (q + 15) s.toNatClampNeg ((fx_i (fx_wi h q 0 (0 : Int32)) (q + 3) s.toNatClampNeg) - (fx_i (fx_wi (fx_wi (fx_wi h q 0 (0 : Int32)) (q + 13) s.toNatClampNeg x) (q + 14) s.toNatClampNeg y) (q + 13) s.toNatClampNeg))) (q + 14) s.toNatClampNeg))) (q + 16) s.toNatClampNeg) ≤ 0 then fx_wi (fx_wi (fx_wi (fx_wi (fx_wi (fx_wi (fx_wi h q 0 (0 : Int32)) (q + 13) s.toNatClampNeg x) (q + 14) s.toNatClampNeg y) (q + 15) s.toNatClampNeg ((fx_i (fx_wi h q 0 (0 : Int32)) (q + 3) s.toNatClampNeg) - (fx_i (fx_wi (fx_wi (fx_wi h q 0 (0 : Int32)) (q + 13) s.toNatClampNeg x) (q + 14) s.toNatClampNeg y) (q + 13) s.toNatClampNeg))) (q + 16) s.toNatClampNeg ((y + rs) - (fx_i (fx_wi (fx_wi (fx_wi (fx_wi h q 0 (0 : Int32)) (q + 13) s.toNatClampNeg x) (q + 14) s.toNatClampNeg y) (q + 15) s.toNatClampNeg ((fx_i (fx_wi h q 0 (0 : Int32)) (q + 3) s.toNatClampNeg) - (fx_i (fx_wi (fx_wi (fx_wi h q 0 (0 : Int32)) (q + 13) s.toNatClampNeg x) (q + 14) s.toNatClampNeg y) (q + 13) s.toNatClampNeg))) (q + 14) s.toNatClampNeg))) (q + 15) s.toNatClampNeg (0 : Int32)) (q + 16) s.toNatClampNeg (0 : Int32) else fx_wi (fx_wi (fx_wi (fx_wi (fx_wi h q 0 (0 : Int32)) (q + 13) s.toNatClampNeg x) (q + 14) s.toNatClampNeg y) (q + 15) s.toNatClampNeg ((fx_i (fx_wi h q 0 (0 : Int32)) (q + 3) s.toNatClampNeg) - (fx_i (fx_wi (fx_wi (fx_wi h q 0 (0 : Int32)) (q + 13) s.toNatClampNeg x) (q + 14) s.toNatClampNeg y) (q + 13) s.toNatClampNeg))) (q + 16) s.toNatClampNeg ((y + rs) - (fx_i (fx_wi (fx_wi (fx_wi (fx_wi h q 0 (0 : Int32)) (q + 13) s.toNatClampNeg x) (q + 14) s.toNatClampNeg y) (q + 15) s.toNatClampNeg ((fx_i (fx_wi h q 0 (0 : Int32)) (q + 3) s.toNatClampNeg) - (fx_i (fx_wi (fx_wi (fx_wi h q 0 (0 : Int32)) (q + 13) s.toNatClampNeg x) (q + 14) s.toNatClampNeg y) (q + 13) s.toNatClampNeg))) (q + 14) s.toNatClampNeg)) else if (fx_i (fx_wi h q 0 (0 : Int32)) (q + 4) s.toNatClampNeg) ≤ (y + rs) then if x ≤ 0 then if y ≤ 0 then if (fx_i (fx_wi (fx_wi (fx_wi (fx_wi (fx_wi h q 0 (0 : Int32)) (q + 13) s.toNatClampNeg (0 : Int32)) (q + 14) s.toNatClampNeg (0 : Int32)) (q + 15) s.toNatClampNeg ((x + cs) - (fx_i (fx_wi (fx_wi (fx_wi h q 0 (0 : Int32)) (q + 13) s.toNatClampNeg (0 : Int32)) (q + 14) s.toNatClampNeg (0 : Int32)) (q + 13) s.toNatClampNeg))) (q + 16) s.toNatClampNeg ((fx_i (fx_wi h q 0 (0 : Int32)) (q + 4) s.toNatClampNeg) - (fx_i (fx_wi (fx_wi (fx_wi (fx_wi h q 0 (0 : Int32)) (q + 13) s.toNatClampNeg (0 : Int32)) (q + 14) s.toNatClampNeg (0 : Int32)) (q + 15) s.toNatClampNeg ((x + cs) - (fx_i (fx_wi (fx_wi (fx_wi h q 0 (0 : Int32)) (q + 13) s.toNatClampNeg (0 : Int32)) (q + 14) s.toNatClampNeg (0 : Int32)) (q + 13) s.toNatClampNeg))) (q + 14) s.toNatClampNeg))) (q + 15) s.toNatClampNeg) ≤ 0 then fx_wi (fx_wi (fx_wi (fx_wi (fx_wi (fx_wi (fx_wi h q 0 (0 : Int32)) (q + 13) s.toNatClampNeg (0 : Int32)) (q + 14) s.toNatClampNeg (0 : Int32)) (q + 15) s.toNatClampNeg ((x + cs) - (fx_i (fx_wi (fx_wi (fx_wi h q 0 (0 : Int32)) (q + 13) s.toNatClampNeg (0 : Int32)) (q + 14) s.toNatClampNeg (0 : Int32)) (q + 13) s.toNatClampNeg))) (q + 16) s.toNatClampNeg ((fx_i (fx_wi h q 0 (0 : Int32)) (q + 4) s.toNatClampNeg) - (fx_i (fx_wi (fx_wi (fx_wi (fx_wi h q 0 (0 : Int32)) (q + 13) s.toNatClampNeg (0 : Int32)) (q + 14) s.toNatClampNeg (0 : Int32)) (q + 15) s.toNatClampNeg ((x + cs) - (fx_i (fx_wi (fx_wi (fx_wi h q 0 (0 : Int32)) (q + 13) s.toNatClampNeg (0 : Int32)) (q + 14) s.toNatClampNeg (0 : Int32)) (q + 13) s.toNatClampNeg))) (q + 14) s.toNatClampNeg))) (q + 15) s.toNatClampNeg (0 : Int32)) (q + 16) s.toNatClampNeg (0 : Int32) else if (fx_i (fx_wi (fx_wi (fx_wi (fx_wi (fx_wi h q 0 (0 : Int32)) (q + 13) s.toNatClampNeg (0 : Int32)) (q + 14) s.toNatClampNeg (0 : Int32)) (q + 15) s.toNatClampNeg ((x + cs) - (fx_i (fx_wi (fx_wi (fx_wi h q 0 (0 : Int32)) (q + 13) s.toNatClampNeg (0 : Int32)) (q + 14) s.toNatClampNeg (0 : Int32)) (q + 13) s.toNatClampNeg))) (q + 16) s.toNatClampNeg ((fx_i (fx_wi h q 0 (0 : Int32)) (q + 4) s.toNatClampNeg) - (fx_i (fx_wi (fx_wi (fx_wi (fx_wi h q 0 (0 : Int32)) (q + 13) s.toNatClampNeg (0 : Int32)) (q + 14) s.toNatClampNeg (0 : Int32)) (q + 15) s.toNatClampNeg ((x + cs) - (fx_i (fx_wi (fx_wi (fx_wi h q 0 (0 : Int32)) (q + 13) s.toNatClampNeg (0 : Int32)) (q + 14) s.toNatClampNeg (0 : Int32)) (q + 13) s.toNatClampNeg))) (q + 14) s.toNatClampNeg))) (q + 16) s.toNatClampNeg) ≤ 0 then fx_wi (fx_wi (fx_wi (fx_wi (fx_wi (fx_wi (fx_wi h q 0 (0 : Int32)) (q + 13) s.toNatClampNeg (0 : Int32)) (q + 14) s.toNatClampNeg (0 : Int32)) (q + 15) s.toNatClampNeg ((x + cs) - (fx_i (fx_wi (fx_wi (fx_wi h q 0 (0 : Int32)) (q + 13) s.toNatClampNeg (0 : Int32)) (q + 14) s.toNatClampNeg (0 : Int32)) (q + 13) s.toNatClampNeg))) (q + 16) s.toNatClampNeg ((fx_i (fx_wi h q 0 (0 : Int32)) (q + 4) s.toNatClampNeg) - (fx_i (fx_wi (fx_wi (fx_wi (fx_wi h q 0 (0 : Int32)) (q + 13) s.toNatClampNeg (0 : Int32)) (q + 14) s.toNatClampNeg (0 : Int32)) (q + 15) s.toNatClampNeg ((x + cs) - (fx_i (fx_wi (fx_wi (fx_wi h q 0 (0 : Int32)) (q + 13) s.toNatClampNeg (0 : Int32)) (q + 14) s.toNatClampNeg (0 : Int32)) (q + 13) s.toNatClampNeg))) (q + 14) s.toNatClampNeg))) (q + 15) s.toNatClampNeg (0 : Int32)) (q + 16) s.toNatClampNeg (0 : Int32) else fx_wi (fx_wi (fx_wi (fx_wi (fx_wi h q 0 (0 : Int32)) (q + 13) s.toNatClampNeg (0 : Int32)) (q + 14) s.toNatClampNeg (0 : Int32)) (q + 15) s.toNatClampNeg ((x + cs) - (fx_i (fx_wi (fx_wi (fx_wi h q 0 (0 : Int32)) (q + 13) s.toNatClampNeg (0 : Int32)) (q + 14) s.toNatClampNeg (0 : Int32)) (q + 13) s.toNatClampNeg))) (q + 16) s.toNatClampNeg ((fx_i (fx_wi h q 0 (0 : Int32)) (q + 4) s.toNatClampNeg) - (fx_i (fx_wi (fx_wi (fx_wi (fx_wi h q 0 (0 : Int32)) (q + 13) s.toNatClampNeg (0 : Int32)) (q + 14) s.toNatClampNeg (0 : Int32)) (q + 15) s.toNatClampNeg ((x + cs) - (fx_i (fx_wi (fx_wi (fx_wi h q 0 (0 : Int32)) (q + 13) s.toNatClampNeg (0 : Int32)) (q + 14) s.toNatClampNeg (0 : Int32)) (q + 13) s.toNatClampNeg))) (q + 14) s.toNatClampNeg)) else if (fx_i (fx_wi (fx_wi (fx_wi (fx_wi (fx_wi h q 0 (0 : Int32)) (q + 13) s.toNatClampNeg (0 : Int32)) (q + 14) s.toNatClampNeg y) (q + 15) s.toNatClampNeg ((x + cs) - (fx_i (fx_wi (fx_wi (fx_wi h q 0 (0 : Int32)) (q + 13) s.toNatClampNeg (0 : Int32)) (q + 14) s.toNatClampNeg y) (q + 13) s.toNatClampNeg))) (q + 16) s.toNatClampNeg ((fx_i (fx_wi h q 0 (0 : Int32)) (q + 4) s.toNatClampNeg) - (fx_i (fx_wi (fx_wi (fx_wi (fx_wi h q 0 (0 : Int32)) (q + 13) s.toNatClampNeg (0 : Int32)) (q + 14) s.toNatClampNeg y) (q + 15) s.toNatClampNeg ((x + cs) - (fx_i (fx_wi (fx_wi (fx_wi h q 0 (0 : Int32)) (q + 13) s.toNatClampNeg (0 : Int32)) (q + 14) s.toNatClampNeg y) (q + 13) s.toNatClampNeg))) (q + 14) s.toNatClampNeg))) (q + 15) s.toNatClampNeg) ≤ 0 then fx_wi (fx_wi (fx_wi (fx_wi (fx_wi (fx_wi (fx_wi h q 0 (0 : Int32)) (q + 13) s.toNatClampNeg (0 : Int32)) (q + 14) s.toNatClampNeg y) (q + 15) s.toNatClampNeg ((x + cs) - (fx_i (fx_wi (fx_wi (fx_wi h q 0 (0 : Int32)) (q + 13) s.toNatClampNeg (0 : Int32)) (q + 14) s.toNatClampNeg y) (q + 13) s.toNatClampNeg))) (q + 16) s.toNatClampNeg ((fx_i (fx_wi h q 0 (0 : Int32)) (q + 4) s.toNatClampNeg) - (fx_i (fx_wi (fx_wi (fx_wi (fx_wi h q 0 (0 : Int32)) (q + 13) s.toNatClampNeg (0 : Int32)) (q + 14) s.toNatClampNeg y) (q + 15) s.toNatClampNeg ((x + cs) - (fx_i (fx_wi (fx_wi (fx_wi h q 0 (0 : Int32)) (q + 13) s.toNatClampNeg (0 : Int32)) (q + 14) s.toNatClampNeg y) (q + 13) s.toNatClampNeg))) (q + 14) s.toNatClampNeg))) (q + 15) s.toNatClampNeg (0 : Int32)) (q + 16) s.toNatClampNeg (0 : Int32) else if (fx_i (fx_wi (fx_wi (fx_wi (fx_wi (fx_wi h q 0 (0 : Int32)) (q + 13) s.toNatClampNeg (0 : Int32)) (q + 14) s.toNatClampNeg y) (q + 15) s.toNatClampNeg ((x + cs) - (fx_i (fx_wi (fx_wi (fx_wi h q 0 (0 : Int32)) (q + 13) s.toNatClampNeg (0 : Int32)) (q + 14) s.toNatClampNeg y) (q + 13) s.toNatClampNeg))) (q + 16) s.toNatClampNeg ((fx_i (fx_wi h q 0 (0 : Int32)) (q + 4) s.toNatClampNeg) - (fx_i (fx_wi (fx_wi (fx_wi (fx_wi h q 0 (0 : Int32)) (q + 13) s.toNatClampNeg (0 : Int32)) (q + 14) s.toNatClampNeg y) (q + 15) s.toNatClampNeg ((x + cs) - (fx_i (fx_wi (fx_wi (fx_wi h q 0 (0 : Int32)) (q + 13) s.toNatClampNeg (0 : Int32)) (q + 14) s.toNatClampNeg y) (q + 13) s.toNatClampNeg))) (q + 14) s.toNatClampNeg))) (q + 16) s.toNatClampNeg) ≤ 0 then fx_wi (fx_wi (fx_wi (fx_wi (fx_wi (fx_wi (fx_wi h q 0 (0 : Int32)) (q + 13) s.toNatClampNeg (0 : Int32)) (q + 14) s.toNatClampNeg y) (q + 15) s.toNatClampNeg ((x + cs) - (fx_i (fx_wi (fx_wi (fx_wi h q 0 (0 : Int32)) (q + 13) s.toNatClampNeg (0 : Int32)) (q + 14) s.toNatClampNeg y) (q + 13) s.toNatClampNeg))) (q + 16) s.toNatClampNeg ((fx_i (fx_wi h q 0 (0 : Int32)) (q + 4) s.toNatClampNeg) - (fx_i (fx_wi (fx_wi (fx_wi (fx_wi h q 0 (0 : Int32)) (q + 13) s.toNatClampNeg (0 : Int32)) (q + 14) s.toNatClampNeg y) (q + 15) s.toNatClampNeg ((x + cs) - (fx_i (fx_wi (fx_wi (fx_wi h q 0 (0 : Int32)) (q + 13) s.toNatClampNeg (0 : Int32)) (q + 14) s.toNatClampNeg y) (q + 13) s.toNatClampNeg))) (q + 14) s.toNatClampNeg))) (q + 15) s.toNatClampNeg (0 : Int32)) (q + 16) s.toNatClampNeg (0 : Int32) else fx_wi (fx_wi (fx_wi (fx_wi (fx_wi h q 0 (0 : Int32)) (q + 13) s.toNatClampNeg (0 : Int32)) (q + 14) s.toNatClampNeg y) (q + 15) s.toNatClampNeg ((x + cs) - (fx_i (fx_wi (fx_wi (fx_wi h q 0 (0 : Int32)) (q + 13) s.toNatClampNeg (0 : Int32)) (q + 14) s.toNatClampNeg y) (q + 13) s.toNatClampNeg))) (q + 16) s.toNatClampNeg ((fx_i (fx_wi h q 0 (0 : Int32)) (q + 4) s.toNatClampNeg) - (fx_i (fx_wi (fx_wi (fx_wi (fx_wi h q 0 (0 : Int32)) (q + 13) s.toNatClampNeg (0 : Int32)) (q + 14) s.toNatClampNeg y) (q + 15) s.toNatClampNeg ((x + cs) - (fx_i (fx_wi (fx_wi (fx_wi h q 0 (0 : Int32)) (q + 13) s.toNatClampNeg (0 : Int32)) (q + 14) s.toNatClampNeg y) (q + 13) s.toNatClampNeg))) (q + 14) s.toNatClampNeg)) else if y ≤ 0 then if (fx_i (fx_wi (fx_wi (fx_wi (fx_wi (fx_wi h q 0 (0 : Int32)) (q + 13) s.toNatClampNeg x) (q + 14) s.toNatClampNeg (0 : Int32)) (q + 15) s.toNatClampNeg ((x + cs) - (fx_i (fx_wi (fx_wi (fx_wi h q 0 (0 : Int32)) (q + 13) s.toNatClampNeg x) (q + 14) s.toNatClampNeg (0 : Int32)) (q + 13) s.toNatClampNeg))) (q + 16) s.toNatClampNeg ((fx_i (fx_wi h q 0 (0 : Int32)) (q + 4) s.toNatClampNeg) - (fx_i (fx_wi (fx_wi (fx_wi (fx_wi h q 0 (0 : Int32)) (q + 13) s.toNatClampNeg x) (q + 14) s.toNatClampNeg (0 : Int32)) (q + 15) s.toNatClampNeg ((x + cs) - (fx_i (fx_wi (fx_wi (fx_wi h q 0 (0 : Int32)) (q + 13) s.toNatClampNeg x) (q + 14) s.toNatClampNeg (0 : Int32)) (q + 13) s.toNatClampNeg))) (q + 14) s.toNatClampNeg))) (q + 15) s.toNatClampNeg) ≤ 0 then fx_wi (fx_wi (fx_wi (fx_wi (fx_wi (fx_wi (fx_wi h q 0 (0 : Int32)) (q + 13) s.toNatClampNeg x) (q + 14) s.toNatClampNeg (0 : Int32)) (q + 15) s.toNatClampNeg ((x + cs) - (fx_i (fx_wi (fx_wi (fx_wi h q 0 (0 : Int32)) (q + 13) s.toNatClampNeg x) (q + 14) s.toNatClampNeg (0 : Int32)) (q + 13) s.toNatClampNeg))) (q + 16) s.toNatClampNeg ((fx_i (fx_wi h q 0 (0 : Int32)) (q + 4) s.toNatClampNeg) - (fx_i (fx_wi (fx_wi (fx_wi (fx_wi h q 0 (0 : Int32)) (q + 13) s.toNatClampNeg x) (q + 14) s.toNatClampNeg (0 : Int32)) (q + 15) s.toNatClampNeg ((x + cs) - (fx_i (fx_wi (fx_wi (fx_wi h q 0 (0 : Int32)) (q + 13) s.toNatClampNeg x) (q + 14) s.toNatClampNeg (0 : Int32)) (q + 13) s.toNatClampNeg))) (q + 14) s.toNatClampNeg))) (q + 15) s.toNatClampNeg (0 : Int32)) (q + 16) s.toNatClampNeg (0 : Int32) else if (fx_i (fx_wi (fx_wi (fx_wi (fx_wi (fx_wi h q 0 (0 : Int32)) (q + 13) s.toNatClampNeg x) (q + 14) s.toNatClampNeg (0 : Int32)) (q + 15) s.toNatClampNeg ((x + cs) - (fx_i (fx_wi (fx_wi (fx_wi h q 0 (0 : Int32)) (q + 13) s.toNatClampNeg x) (q + 14) s.toNatClampNeg (0 : Int32)) (q + 13) s.toNatClampNeg))) (q + 16) s.toNatClampNeg ((fx_i (fx_wi h q 0 (0 : Int32)) (q + 4) s.toNatClampNeg) - (fx_i (fx_wi (fx_wi (fx_wi (fx_wi h q 0 (0 : Int32)) (q + 13) s.toNatClampNeg x) (q + 14) s.toNatClampNeg (0 : Int32)) (q + 15) s.toNatClampNeg ((x + cs) - (fx_i (fx_wi (fx_wi (fx_wi h q 0 (0 : Int32)) (q + 13) s.toNatClampNeg x) (q + 14) s.toNatClampNeg (0 : Int32)) (q + 13) s.toNatClampNeg))) (q + 14) s.toNatClampNeg))) (q + 16) s.toNatClampNeg) ≤ 0 then fx_wi (fx_wi (fx_wi (fx_wi (fx_wi (fx_wi (fx_wi h q 0 (0 : Int32)) (q + 13) s.toNatClampNeg x) (q + 14) s.toNatClampNeg (0 : Int32)) (q + 15) s.toNatClampNeg ((x + cs) - (fx_i (fx_wi (fx_wi (fx_wi h q 0 (0 : Int32)) (q + 13) s.toNatClampNeg x) (q + 14) s.toNatClampNeg (0 : Int32)) (q + 13) s.toNatClampNeg))) (q + 16) s.toNatClampNeg ((fx_i (fx_wi h q 0 (0 : Int32)) (q + 4) s.toNatClampNeg) - (fx_i (fx_wi (fx_wi (fx_wi (fx_wi h q 0 (0 : Int32)) (q + 13) s.toNatClampNeg x) (q + 14) s.toNatClampNeg (0 : Int32)) (q + 15) s.toNatClampNeg ((x + cs) - (fx_i (fx_wi (fx_wi (fx_wi h q 0 (0 : Int32)) (q + 13) s.toNatClampNeg x) (q + 14) s.toNatClampNeg (0 : Int32)) (q + 13) s.toNatClampNeg))) (q + 14) s.toNatClampNeg))) (q + 15) s.toNatClampNeg (0 : Int32)) (q + 16) s.toNatClampNeg (0 : Int32) else fx_wi (fx_wi (fx_wi (fx_wi (fx_wi h q 0 (0 : Int32)) (q + 13) s.toNatClampNeg x) (q + 14) s.toNatClampNeg (0 : Int32)) (q + 15) s.toNatClampNeg ((x + cs) - (fx_i (fx_wi (fx_wi (fx_wi h q 0 (0 : Int32)) (q + 13) s.toNatClampNeg x) (q + 14) s.toNatClampNeg (0 : Int32)) (q + 13) s.toNatClampNeg))) (q + 16) s.toNatClampNeg ((fx_i (fx_wi h q 0 (0 : Int32)) (q + 4) s.toNatClampNeg) - (fx_i (fx_wi (fx_wi (fx_wi (fx_wi h q 0 (0 : Int32)) (q + 13) s.toNatClampNeg x) (q + 14) s.toNatClampNeg (0 : Int32)) (q + 15) s.toNatClampNeg ((x + cs) - (fx_i (fx_wi (fx_wi (fx_wi h q 0 (0 : Int32)) (q + 13) s.toNatClampNeg x) (q + 14) s.toNatClampNeg (0 : Int32)) (q + 13) s.toNatClampNeg))) (q + 14) s.toNatClampNeg)) else if (fx_i (fx_wi (fx_wi (fx_wi (fx_wi (fx_wi h q 0 (0 : Int32)) (q + 13) s.toNatClampNeg x) (q + 14) s.toNatClampNeg y) (q + 15) s.toNatClampNeg ((x + cs) - (fx_i (fx_wi (fx_wi (fx_wi h q 0 (0 : Int32)) (q + 13) s.toNatClampNeg x) (q + 14) s.toNatClampNeg y) (q + 13) s.toNatClampNeg))) (q + 16) s.toNatClampNeg ((fx_i (fx_wi h q 0 (0 : Int32)) (q + 4) s.toNatClampNeg) - (fx_i (fx_wi (fx_wi (fx_wi (fx_wi h q 0 (0 : Int32)) (q + 13) s.toNatClampNeg x) (q + 14) s.toNatClampNeg y) (q + 15) s.toNatClampNeg ((x + cs) - (fx_i (fx_wi (fx_wi (fx_wi h q 0 (0 : Int32)) (q + 13) s.toNatClampNeg x) (q + 14) s.toNatClampNeg y) (q + 13) s.toNatClampNeg))) (q + 14) s.toNatClampNeg))) (q + 15) s.toNatClampNeg) ≤ 0 then fx_wi (fx_wi (fx_wi (fx_wi (fx_wi (fx_wi (fx_wi h q 0 (0 : Int32)) (q + 13) s.toNatClampNeg x) (q + 14) s.toNatClampNeg y) (q + 15) s.toNatClampNeg ((x + cs) - (fx_i (fx_wi (fx_wi (fx_wi h q 0 (0 : Int32)) (q + 13) s.toNatClampNeg x) (q + 14) s.toNatClampNeg y) (q + 13) s.toNatClampNeg))) (q + 16) s.toNatClampNeg ((fx_i (fx_wi h q 0 (0 : Int32)) (q + 4) s.toNatClampNeg) - (fx_i (fx_wi (fx_wi (fx_wi (fx_wi h q 0 (0 : Int32)) (q + 13) s.toNatClampNeg x) (q + 14) s.toNatClampNeg y) (q + 15) s.toNatClampNeg ((x + cs) - (fx_i (fx_wi (fx_wi (fx_wi h q 0 (0 : Int32)) (q + 13) s.toNatClampNeg x) (q + 14) s.toNatClampNeg y) (q + 13) s.toNatClampNeg))) (q + 14) s.toNatClampNeg))) (q + 15) s.toNatClampNeg (0 : Int32)) (q + 16) s.toNatClampNeg (0 : Int32) else if (fx_i (fx_wi (fx_wi (fx_wi (fx_wi (fx_wi h q 0 (0 : Int32)) (q + 13) s.toNatClampNeg x) (q + 14) s.toNatClampNeg y) (q + 15) s.toNatClampNeg ((x + cs) - (fx_i (fx_wi (fx_wi (fx_wi h q 0 (0 : Int32)) (q + 13) s.toNatClampNeg x) (q + 14) s.toNatClampNeg y) (q + 13) s.toNatClampNeg))) (q + 16) s.toNatClampNeg ((fx_i (fx_wi h q 0 (0 : Int32)) (q + 4) s.toNatClampNeg) - (fx_i (fx_wi (fx_wi (fx_wi (fx_wi h q 0 (0 : Int32)) (q + 13) s.toNatClampNeg x) (q + 14) s.toNatClampNeg y) (q + 15) s.toNatClampNeg ((x + cs) - (fx_i (fx_wi (fx_wi (fx_wi h q 0 (0 : Int32)) (q + 13) s.toNatClampNeg x) (q + 14) s.toNatClampNeg y) (q + 13) s.toNatClampNeg))) (q + 14) s.toNatClampNeg))) (q + 16) s.toNatClampNeg) ≤ 0 then fx_wi (fx_wi (fx_wi (fx_wi (fx_wi (fx_wi (fx_wi h q 0 (0 : Int32)) (q + 13) s.toNatClampNeg x) (q + 14) s.toNatClampNeg y) (q + 15) s.toNatClampNeg ((x + cs) - (fx_i (fx_wi (fx_wi (fx_wi h q 0 (0 : Int32)) (q + 13) s.toNatClampNeg x) (q + 14) s.toNatClampNeg y) (q + 13) s.toNatClampNeg))) (q + 16) s.toNatClampNeg ((fx_i (fx_wi h q 0 (0 : Int32)) (q + 4) s.toNatClampNeg) - (fx_i (fx_wi (fx_wi (fx_wi (fx_wi h q 0 (0 : Int32)) (q + 13) s.toNatClampNeg x) (q + 14) s.toNatClampNeg y) (q + 15) s.toNatClampNeg ((x + cs) - (fx_i (fx_wi (fx_wi (fx_wi h q 0 (0 : Int32)) (q + 13) s.toNatClampNeg x) (q + 14) s.toNatClampNeg y) (q + 13) s.toNatClampNeg))) (q + 14) s.toNatClampNeg))) (q + 15) s.toNatClampNeg (0 : Int32)) (q + 16) s.toNatClampNeg (0 : Int32) else fx_wi (fx_wi (fx_wi (fx_wi (fx_wi h q 0 (0 : Int32)) (q + 13) s.toNatClampNeg x) (q + 14) s.toNatClampNeg y) (q + 15) s.toNatClampNeg ((x + cs) - (fx_i (fx_wi (fx_wi (fx_wi h q 0 (0 : Int32)) (q + 13) s.toNatClampNeg x) (q + 14) s.toNatClampNeg y) (q + 13) s.toNatClampNeg))) (q + 16) s.toNatClampNeg ((fx_i (fx_wi h q 0 (0 : Int32)) (q + 4) s.toNatClampNeg) - (fx_i (fx_wi (fx_wi (fx_wi (fx_wi h q 0 (0 : Int32)) (q + 13) s.toNatClampNeg x) (q + 14) s.toNatClampNeg y) (q + 15) s.toNatClampNeg ((x + cs) - (fx_i (fx_wi (fx_wi (fx_wi h q 0 (0 : Int32)) (q + 13) s.toNatClampNeg x) (q + 14) s.toNatClampNeg y) (q + 13) s.toNatClampNeg))) (q + 14) s.toNatClampNeg)) else if x ≤ 0 then if y ≤ 0 then if (fx_i (fx_wi (fx_wi (fx_wi (fx_wi (fx_wi h q 0 (0 : Int32)) (q + 13) s.toNatClampNeg (0 : Int32)) (q + 14) s.toNatClampNeg (0 : Int32)) (q + 15) s.toNatClampNeg ((x + cs) - (fx_i (fx_wi (fx_wi (fx_wi h q 0 (0 : Int32)) (q + 13) s.toNatClampNeg (0 : Int32)) (q + 14) s.toNatClampNeg (0 : Int32)) (q + 13) s.toNatClampNeg))) (q + 16) s.toNatClampNeg ((y + rs) - (fx_i (fx_wi (fx_wi (fx_wi (fx_wi h q 0 (0 : Int32)) (q + 13) s.toNatClampNeg (0 : Int32)) (q + 14) s.toNatClampNeg (0 : Int32)) (q + 15) s.toNatClampNeg ((x + cs) - (fx_i (fx_wi (fx_wi (fx_wi h q 0 (0 : Int32)) (q + 13) s.toNatClampNeg (0 : Int32)) (q + 14) s.toNatClampNeg (0 : Int32)) (q + 13) s.toNatClampNeg))) (q + 14) s.toNatClampNeg))) (q + 15) s.toNatClampNeg) ≤ 0 then fx_wi (fx_wi (fx_wi (fx_wi (fx_wi (fx_wi (fx_wi h q 0 (0 : Int32)) (q + 13) s.toNatClampNeg (0 : Int32)) (q + 14) s.toNatClampNeg (0 : Int32)) (q + 15) s.toNatClampNeg ((x + cs) - (fx_i (fx_wi (fx_wi (fx_wi h q 0 (0 : Int32)) (q + 13) s.toNatClampNeg (0 : Int32)) (q + 14) s.toNatClampNeg (0 : Int32)) (q + 13) s.toNatClampNeg))) (q + 16) s.toNatClampNeg ((y + rs) - (fx_i (fx_wi (fx_wi (fx_wi (fx_wi h q 0 (0 : Int32)) (q + 13) s.toNatClampNeg (0 : Int32)) (q + 14) s.toNatClampNeg (0 : Int32)) (q + 15) s.toNatClampNeg ((x + cs) - (fx_i (fx_wi (fx_wi (fx_wi h q 0 (0 : Int32)) (q + 13) s.toNatClampNeg (0 : Int32)) (q + 14) s.toNatClampNeg (0 : Int32)) (q + 13) s.toNatClampNeg))) (q + 14) s.toNatClampNeg))) (q + 15) s.toNatClampNeg (0 : Int32)) (q + 16) s.toNatClampNeg (0 : Int32) else if (fx_i (fx_wi (fx_wi (fx_wi (fx_wi (fx_wi h q 0 (0 : Int32)) (q + 13) s.toNatClampNeg (0 : Int32)) (q + 14) s.toNatClampNeg (0 : Int32)) (q + 15) s.toNatClampNeg ((x + cs) - (fx_i (fx_wi (fx_wi (fx_wi h q 0 (0 : Int32)) (q + 13) s.toNatClampNeg (0 : Int32)) (q + 14) s.toNatClampNeg (0 : Int32)) (q + 13) s.toNatClampNeg))) (q + 16) s.toNatClampNeg ((y + rs) - (fx_i (fx_wi (fx_wi (fx_wi (fx_wi h q 0 (0 : Int32)) (q + 13) s.toNatClampNeg (0 : Int32)) (q + 14) s.toNatClampNeg (0 : Int32)) (q + 15) s.toNatClampNeg ((x + cs) - (fx_i (fx_wi (fx_wi (fx_wi h q 0 (0 : Int32)) (q + 13) s.toNatClampNeg (0 : Int32)) (q + 14) s.toNatClampNeg (0 : Int32)) (q + 13) s.toNatClampNeg))) (q + 14) s.toNatClampNeg))) (q + 16) s.toNatClampNeg) ≤ 0 then fx_wi (fx_wi (fx_wi (fx_wi (fx_wi (fx_wi (fx_wi h q 0 (0 : Int32)) (q + 13) s.toNatClampNeg (0 : Int32)) (q + 14) s.toNatClampNeg (0 : Int32)) (q + 15) s.toNatClampNeg ((x + cs) - (fx_i (fx_wi (fx_wi (fx_wi h q 0 (0 : Int32)) (q + 13) s.toNatClampNeg (0 : Int32)) (q + 14) s.toNatClampNeg (0 : Int32)) (q + 13) s.toNatClampNeg))) (q + 16) s.toNatClampNeg ((y + rs) - (fx_i (fx_wi (fx_wi (fx_wi (fx_wi h q 0 (0 : Int32)) (q + 13) s.toNatClampNeg (0 : Int32)) (q + 14) s.toNatClampNeg (0 : Int32)) (q + 15) s.toNatClampNeg ((x + cs) - (fx_i (fx_wi (fx_wi (fx_wi h q 0 (0 : Int32)) (q + 13) s.toNatClampNeg (0 : Int32)) (q + 14) s.toNatClampNeg (0 : Int32)) (q + 13) s.toNatClampNeg))) (q + 14) s.toNatClampNeg))) (q + 15) s.toNatClampNeg (0 : Int32)) (q + 16) s.toNatClampNeg (0 : Int32) else fx_wi (fx_wi (fx_wi (fx_wi (fx_wi h q 0 (0 : Int32)) (q + 13) s.toNatClampNeg (0 : Int32)) (q + 14) s.toNatClampNeg (0 : Int32)) (q + 15) s.toNatClampNeg ((x + cs) - (fx_i (fx_wi (fx_wi (fx_wi h q 0 (0 : Int32)) (q + 13) s.toNatClampNeg (0 : Int32)) (q + 14) s.toNatClampNeg (0 : Int32)) (q + 13) s.toNatClampNeg))) (q + 16) s.toNatClampNeg ((y + rs) - (fx_i (fx_wi (fx_wi (fx_wi (fx_wi h q 0 (0 : Int32)) (q + 13) s.toNatClampNeg (0 : Int32)) (q + 14) s.toNatClampNeg (0 : Int32)) (q + 15) s.toNatClampNeg ((x + cs) - (fx_i (fx_wi (fx_wi (fx_wi h q 0 (0 : Int32)) (q + 13) s.toNatClampNeg (0 : Int32)) (q + 14) s.toNatClampNeg (0 : Int32)) (q + 13) s.toNatClampNeg))) (q + 14) s.toNatClampNeg)) else if (fx_i (fx_wi (fx_wi (fx_wi (fx_wi (fx_wi h q 0 (0 : Int32)) (q + 13) s.toNatClampNeg (0 : Int32)) (q + 14) s.toNatClampNeg y) (q + 15) s.toNatClampNeg ((x + cs) - (fx_i (fx_wi (fx_wi (fx_wi h q 0 (0 : Int32)) (q + 13) s.toNatClampNeg (0 : Int32)) (q + 14) s.toNatClampNeg y) (q + 13) s.toNatClampNeg))) (q + 16) s.toNatClampNeg ((y + rs) - (fx_i (fx_wi (fx_wi (fx_wi (fx_wi h q 0 (0 : Int32)) (q + 13) s.toNatClampNeg (0 : Int32)) (q + 14) s.toNatClampNeg y) (q + 15) s.toNatClampNeg ((x + cs) - (fx_i (fx_wi (fx_wi (fx_wi h q 0 (0 : Int32)) (q + 13) s.toNatClampNeg (0 : Int32)) (q + 14) s.toNatClampNeg y) (q + 13) s.toNatClampNeg))) (q + 14) s.toNatClampNeg))) (q + 15) s.toNatClampNeg) ≤ 0 then fx_wi (fx_wi (fx_wi (fx_wi (fx_wi (fx_wi (fx_wi h q 0 (0 : Int32)) (q + 13) s.toNatClampNeg (0 : Int32)) (q + 14) s.toNatClampNeg y) (q + 15) s.toNatClampNeg ((x + cs) - (fx_i (fx_wi (fx_wi (fx_wi h q 0 (0 : Int32)) (q + 13) s.toNatClampNeg (0 : Int32)) (q + 14) s.toNatClampNeg y) (q + 13) s.toNatClampNeg))) (q + 16) s.toNatClampNeg ((y + rs) - (fx_i (fx_wi (fx_wi (fx_wi (fx_wi h q 0 (0 : Int32)) (q + 13) s.toNatClampNeg (0 : Int32)) (q + 14) s.toNatClampNeg y) (q + 15) s.toNatClampNeg ((x + cs) - (fx_i (fx_wi (fx_wi (fx_wi h q 0 (0 : Int32)) (q + 13) s.toNatClampNeg (0 : Int32)) (q + 14) s.toNatClampNeg y) (q + 13) s.toNatClampNeg))) (q + 14) s.toNatClampNeg))) (q + 15) s.toNatClampNeg (0 : Int32)) (q + 16) s.toNatClampNeg (0 : Int32) else if (fx_i (fx_wi (fx_wi (fx_wi (fx_wi (fx_wi h q 0 (0 : Int32)) (q + 13) s.toNatClampNeg (0 : Int32)) (q + 14) s.toNatClampNeg y) (q + 15) s.toNatClampNeg ((x + cs) - (fx_i (fx_wi (fx_wi (fx_wi h q 0 (0 : Int32)) (q + 13) s.toNatClampNeg (0 : Int32)) (q + 14) s.toNatClampNeg y) (q + 13) s.toNatClampNeg))) (q + 16) s.toNatClampNeg ((y + rs) - (fx_i (fx_wi (fx_wi (fx_wi (fx_wi h q 0 (0 : Int32)) (q + 13) s.toNatClampNeg (0 : Int32)) (q + 14) s.toNatClampNeg y) (q + 15) s.toNatClampNeg ((x + cs) - (fx_i (fx_wi (fx_wi (fx_wi h q 0 (0 : Int32)) (q + 13) s.toNatClampNeg (0 : Int32)) (q + 14) s.toNatClampNeg y) (q + 13) s.toNatClampNeg))) (q + 14) s.toNatClampNeg))) (q + 16) s.toNatClampNeg) ≤ 0 then fx_wi (fx_wi (fx_wi (fx_wi (fx_wi (fx_wi (fx_wi h q 0 (0 : Int32)) (q + 13) s.toNatClampNeg (0 : Int32)) (q + 14) s.toNatClampNeg y) (q + 15) s.toNatClampNeg ((x + cs) - (fx_i (fx_wi (fx_wi (fx_wi h q 0 (0 : Int32)) (q + 13) s.toNatClampNeg (0 : Int32)) (q + 14) s.toNatClampNeg y) (q + 13) s.toNatClampNeg))) (q + 16) s.toNatClampNeg ((y + rs) - (fx_i (fx_wi (fx_wi (fx_wi (fx_wi h q 0 (0 : Int32)) (q + 13) s.toNatClampNeg (0 : Int32)) (q + 14) s.toNatClampNeg y) (q + 15) s.toNatClampNeg ((x + cs) - (fx_i (fx_wi (fx_wi (fx_wi h q 0 (0 : Int32)) (q + 13) s.toNatClampNeg (0 : Int32)) (q + 14) s.toNatClampNeg y) (q + 13) s.toNatClampNeg))) (q + 14) s.toNatClampNeg))) (q + 15) s.toNatClampNeg (0 : Int32)) (q + 16) s.toNatClampNeg (0 : Int32) else fx_wi (fx_wi (fx_wi (fx_wi (fx_wi h q 0 (0 : Int32)) (q + 13) s.toNatClampNeg (0 : Int32)) (q + 14) s.toNatClampNeg y) (q + 15) s.toNatClampNeg ((x + cs) - (fx_i (fx_wi (fx_wi (fx_wi h q 0 (0 : Int32)) (q + 13) s.toNatClampNeg (0 : Int32)) (q + 14) s.toNatClampNeg y) (q + 13) s.toNatClampNeg))) (q + 16) s.toNatClampNeg ((y + rs) - (fx_i (fx_wi (fx_wi (fx_wi (fx_wi h q 0 (0 : Int32)) (q + 13) s.toNatClampNeg (0 : Int32)) (q + 14) s.toNatClampNeg y) (q + 15) s.toNatClampNeg ((x + cs) - (fx_i (fx_wi (fx_wi (fx_wi h q 0 (0 : Int32)) (q + 13) s.toNatClampNeg (0 : Int32)) (q + 14) s.toNatClampNeg y) (q + 13) s.toNatClampNeg))) (q + 14) s.toNatClampNeg)) else if y ≤ 0 then if (fx_i (fx_wi (fx_wi (fx_wi (fx_wi (fx_wi h q 0 (0 : Int32)) (q + 13) s.toNatClampNeg x) (q + 14) s.toNatClampNeg (0 : Int32)) (q + 15) s.toNatClampNeg ((x + cs) - (fx_i (fx_wi (fx_wi (fx_wi h q 0 (0 : Int32)) (q + 13) s.toNatClampNeg x) (q + 14) s.toNatClampNeg (0 : Int32)) (q + 13) s.toNatClampNeg))) (q + 16) s.toNatClampNeg ((y + rs) - (fx_i (fx_wi (fx_wi (fx_wi (fx_wi h q 0 (0 : Int32)) (q + 13) s.toNatClampNeg x) (q + 14) s.toNatClampNeg (0 : Int32)) (q + 15) s.toNatClampNeg ((x + cs) - (fx_i (fx_wi (fx_wi (fx_wi h q 0 (0 : Int32)) (q + 13) s.toNatClampNeg x) (q + 14) s.toNatClampNeg (0 : Int32)) (q + 13) s.toNatClampNeg))) (q + 14) s.toNatClampNeg))) (q + 15) s.toNatClampNeg) ≤ 0 then fx_wi (fx_wi (fx_wi (fx_wi (fx_wi (fx_wi (fx_wi h q 0 (0 : Int32)) (q + 13) s.toNatClampNeg x) (q + 14) s.toNatClampNeg (0 : Int32)) (q + 15) s.toNatClampNeg ((x + cs) - (fx_i (fx_wi (fx_wi (fx_wi h q 0 (0 : Int32)) (q + 13) s.toNatClampNeg x) (q + 14) s.toNatClampNeg (0 : Int32)) (q + 13) s.toNatClampNeg))) (q + 16) s.toNatClampNeg ((y + rs) - (fx_i (fx_wi (fx_wi (fx_wi (fx_wi h q 0 (0 : Int32)) (q + 13) s.toNatClampNeg x) (q + 14) s.toNatClampNeg (0 : Int32)) (q + 15) s.toNatClampNeg ((x + cs) - (fx_i (fx_wi (fx_wi (fx_wi h q 0 (0 : Int32)) (q + 13) s.toNatClampNeg x) (q + 14) s.toNatClampNeg (0 : Int32)) (q + 13) s.toNatClampNeg))) (q + 14) s.toNatClampNeg))) (q + 15) s.toNatClampNeg (0 : Int32)) (q + 16) s.toNatClampNeg (0 : Int32) else if (fx_i (fx_wi (fx_wi (fx_wi (fx_wi (fx_wi h q 0 (0 : Int32)) (q + 13) s.toNatClampNeg x) (q + 14) s.toNatClampNeg (0 : Int32)) (q + 15) s.toNatClampNeg ((x + cs) - (fx_i (fx_wi (fx_wi (fx_wi h q 0 (0 : Int32)) (q + 13) s.toNatClampNeg x) (q + 14) s.toNatClampNeg (0 : Int32)) (q + 13) s.toNatClampNeg))) (q + 16) s.toNatClampNeg ((y + rs) - (fx_i (fx_wi (fx_wi (fx_wi (fx_wi h q 0 (0 : Int32)) (q + 13) s.toNatClampNeg x) (q + 14) s.toNatClampNeg (0 : Int32)) (q + 15) s.toNatClampNeg ((x + cs) - (fx_i (fx_wi (fx_wi (fx_wi h q 0 (0 : Int32)) (q + 13) s.toNatClampNeg x) (q + 14) s.toNatClampNeg (0 : Int32)) (q + 13) s.toNatClampNeg))) (q + 14) s.toNatClampNeg))) (q + 16) s.toNatClampNeg) ≤ 0 then fx_wi (fx_wi (fx_wi (fx_wi (fx_wi (fx_wi (fx_wi h q 0 (0 : Int32)) (q + 13) s.toNatClampNeg x) (q + 14) s.toNatClampNeg (0 : Int32)) (q + 15) s.toNatClampNeg ((x + cs) - (fx_i (fx_wi (fx_wi (fx_wi h q 0 (0 : Int32)) (q + 13) s.toNatClampNeg x) (q + 14) s.toNatClampNeg (0 : Int32)) (q + 13) s.toNatClampNeg))) (q + 16) s.toNatClampNeg ((y + rs) - (fx_i (fx_wi (fx_wi (fx_wi (fx_wi h q 0 (0 : Int32)) (q + 13) s.toNatClampNeg x) (q + 14) s.toNatClampNeg (0 : Int32)) (q + 15) s.toNatClampNeg ((x + cs) - (fx_i (fx_wi (fx_wi (fx_wi h q 0 (0 : Int32)) (q + 13) s.toNatClampNeg x) (q + 14) s.toNatClampNeg (0 : Int32)) (q + 13) s.toNatClampNeg))) (q + 14) s.toNatClampNeg))) (q + 15) s.toNatClampNeg (0 : Int32)) (q + 16) s.toNatClampNeg (0 : Int32) else fx_wi (fx_wi (fx_wi (fx_wi (fx_wi h q 0 (0 : Int32)) (q + 13) s.toNatClampNeg x) (q + 14) s.toNatClampNeg (0 : Int32)) (q + 15) s.toNatClampNeg ((x + cs) - (fx_i (fx_wi (fx_wi (fx_wi h q 0 (0 : Int32)) (q + 13) s.toNatClampNeg x) (q + 14) s.toNatClampNeg (0 : Int32)) (q + 13) s.toNatClampNeg))) (q + 16) s.toNatClampNeg ((y + rs) - (fx_i (fx_wi (fx_wi (fx_wi (fx_wi h q 0 (0 : Int32)) (q + 13) s.toNatClampNeg x) (q + 14) s.toNatClampNeg (0 : Int32)) (q + 15) s.toNatClampNeg ((x + cs) - (fx_i (fx_wi (fx_wi (fx_wi h q 0 (0 : Int32)) (q + 13) s.toNatClampNeg x) (q + 14) s.toNatClampNeg (0 : Int32)) (q + 13) s.toNatClampNeg))) (q + 14) s.toNatClampNeg)) else if (fx_i (fx_wi (fx_wi (fx_wi (fx_wi (fx_wi h q 0 (0 : Int32)) (q + 13) s.toNatClampNeg x) (q + 14) s.toNatClampNeg y) (q + 15) s.toNatClampNeg ((x + cs) - (fx_i (fx_wi (fx_wi (fx_wi h q 0 (0 : Int32)) (q + 13) s.toNatClampNeg x) (q + 14) s.toNatClampNeg y) (q + 13) s.toNatClampNeg))) (q + 16) s.toNatClampNeg ((y + rs) - (fx_i (fx_wi (fx_wi (fx_wi (fx_wi h q 0 (0 : Int32)) (q + 13) s.toNatClampNeg x) (q + 14) s.toNatClampNeg y) (q + 15) s.toNatClampNeg ((x + cs) - (fx_i (fx_wi (fx_wi (fx_wi h q 0 (0 : Int32)) (q + 13) s.toNatClampNeg x) (q + 14) s.toNatClampNeg y) (q + 13) s.toNatClampNeg))) (q + 14) s.toNatClampNeg))) (q + 15) s.toNatClampNeg) ≤ 0 then fx_wi (fx_wi (fx_wi (fx_wi (fx_wi (fx_wi (fx_wi h q 0 (0 : Int32)) (q + 13) s.toNatClampNeg x) (q + 14) s.toNatClampNeg y) (q + 15) s.toNatClampNeg ((x + cs) - (fx_i (fx_wi (fx_wi (fx_wi h q 0 (0 : Int32)) (q + 13) s.toNatClampNeg x) (q + 14) s.toNatClampNeg y) (q + 13) s.toNatClampNeg))) (q + 16) s.toNatClampNeg ((y + rs) - (fx_i (fx_wi (fx_wi (fx_wi (fx_wi h q 0 (0 : Int32)) (q + 13) s.toNatClampNeg x) (q + 14) s.toNatClampNeg y) (q + 15) s.toNatClampNeg ((x + cs) - (fx_i (fx_wi (fx_wi (fx_wi h q 0 (0 : Int32)) (q + 13) s.toNatClampNeg x) (q + 14) s.toNatClampNeg y) (q + 13) s.toNatClampNeg))) (q + 14) s.toNatClampNeg))) (q + 15) s.toNatClampNeg (0 : Int32)) (q + 16) s.toNatClampNeg (0 : Int32) else if (fx_i (fx_wi (fx_wi (fx_wi (fx_wi (fx_wi h q 0 (0 : Int32)) (q + 13) s.toNatClampNeg x) (q + 14) s.toNatClampNeg y) (q + 15) s.toNatClampNeg ((x + cs) - (fx_i (fx_wi (fx_wi (fx_wi h q 0 (0 : Int32)) (q + 13) s.toNatClampNeg x) (q + 14) s.toNatClampNeg y) (q + 13) s.toNatClampNeg))) (q + 16) s.toNatClampNeg ((y + rs) - (fx_i (fx_wi (fx_wi (fx_wi (fx_wi h q 0 (0 : Int32)) (q + 13) s.toNatClampNeg x) (q + 14) s.toNatClampNeg y) (q + 15) s.toNatClampNeg ((x + cs) - (fx_i (fx_wi (fx_wi (fx_wi h q 0 (0 : Int32)) (q + 13) s.toNatClampNeg x) (q + 14) s.toNatClampNeg y) (q + 13) s.toNatClampNeg))) (q + 14) s.toNatClampNeg))) (q + 16) s.toNatClampNeg) ≤ 0 then fx_wi (fx_wi (fx_wi (fx_wi (fx_wi (fx_wi (fx_wi h q 0 (0 : Int32)) (q + 13) s.toNatClampNeg x) (q + 14) s.toNatClampNeg y) (q + 15) s.toNatClampNeg ((x + cs) - (fx_i (fx_wi (fx_wi (fx_wi h q 0 (0 : Int32)) (q + 13) s.toNatClampNeg x) (q + 14) s.toNatClampNeg y) (q + 13) s.toNatClampNeg))) (q + 16) s.toNatClampNeg ((y + rs) - (fx_i (fx_wi (fx_wi (fx_wi (fx_wi h q 0 (0 : Int32)) (q + 13) s.toNatClampNeg x) (q + 14) s.toNatClampNeg y) (q + 15) s.toNatClampNeg ((x + cs) - (fx_i (fx_wi (fx_wi (fx_wi h q 0 (0 : Int32)) (q + 13) s.toNatClampNeg x) (q + 14) s.toNatClampNeg y) (q + 13) s.toNatClampNeg))) (q + 14) s.toNatClampNeg))) (q + 15) s.toNatClampNeg (0 : Int32)) (q + 16) s.toNatClampNeg (0 : Int32) else fx_wi (fx_wi (fx_wi (fx_wi (fx_wi h q 0 (0 : Int32)) (q + 13) s.toNatClampNeg x) (q + 14) s.toNatClampNeg y) (q + 15) s.toNatClampNeg ((x + cs) - (fx_i (fx_wi (fx_wi (fx_wi h q 0 (0 : Int32)) (q + 13) s.toNatClampNeg x) (q + 14) s.toNatClampNeg y) (q + 13) s.toNatClampNeg))) (q + 16) s.toNatClampNeg ((y + rs) - (fx_i (fx_wi (fx_wi (fx_wi (fx_wi h q 0 (0 : Int32)) (q + 13) s.toNatClampNeg x) (q + 14) s.toNatClampNeg y) (q + 15) s.toNatClampNeg ((x + cs) - (fx_i (fx_wi (fx_wi (fx_wi h q 0 (0 : Int32)) (q + 13) s.toNatClampNeg x) (q + 14) s.toNatClampNeg y) (q + 13) s.toNatClampNeg))) (q + 14) s.toNatClampNeg))
set_option maxRecDepth 100000 in
set_option maxHeartbeats 600000 in
theorem c_MO_clip {g : fx_G} (ok : fx_ok g) (h : fx_H) (q : Nat) (s x y cs rs : Int32) (hm : isM h q) : fx_C g mq_MO_clip [.ref q, .int s, .int x, .int y, .int cs, .int rs] h (fx_is none (k_MO_clip h q s x y cs rs)) 0 0 := by
  refine fx_body (by decide +kernel) (Nat.le_of_ble_eq_true rfl) ?_
  show fx_X g mq_MO_clip 0 [(0, .ref q), (1, .int s), (2, .int x), (3, .int y), (4, .int cs), (5, .int rs)] [] h _ 0 0
  refine fx_aload_n 0 dq_MO_clip_0 rfl rfl ?_
  refine fx_aload_n 0 dq_MO_clip_1 rfl rfl ?_
  refine fx_iload_n 1 dq_MO_clip_2 rfl rfl ?_
  refine fx_Vi1 ok sq_MO_137 hm.1 (c_MO_hasDraft ok h q s (by exact hm)) (by decide) (Nat.le_of_ble_eq_true rfl) dq_MO_clip_3 ?_
  refine fx_if_eq (tgt := 25) dq_MO_clip_6 (by decide) (fun hc6 => ?_) (fun hc6 => ?_)
  · -- 6: jump
    refine fx_iconst (v := 1) dq_MO_clip_25 (by decide) ?_
    refine fx_puti ok fp_MO_126 hm.1 (by decide) dq_MO_clip_26 (Or.inl (by decide)) ?_
    refine fx_aload_n 0 dq_MO_clip_29 rfl rfl ?_
    refine fx_geti ok fq_MO_126 hm.1 dq_MO_clip_30 (by decide) ?_
    refine fx_eqt (v' := (1 : Int32)) (by rw [fx_i_wi, if_pos ⟨rfl, rfl⟩]) ?_
    refine fx_if_eq (tgt := 37) dq_MO_clip_33 (by decide) (fun hc33 => absurd hc33 (by decide)) (fun hc33 => ?_)
    exact fx_vreturn rfl dq_MO_clip_36 ⟨rfl, by rw [k_MO_clip, if_pos hc6]⟩
  · -- 6: fall
    refine fx_iload_n 2 dq_MO_clip_9 rfl rfl ?_
    refine fx_iload_n 3 dq_MO_clip_10 rfl rfl ?_
    refine fx_iload 4 dq_MO_clip_11 rfl ?_
    refine fx_iload 5 dq_MO_clip_13 rfl ?_
    refine fx_Si4 ok sq_MO_153 (c_MO_isArea ok h x y cs rs ) (by decide) (Nat.le_of_ble_eq_true rfl) dq_MO_clip_15 ?_
    refine fx_if_eq (tgt := 25) dq_MO_clip_18 (by decide) (fun hc18 => ?_) (fun hc18 => ?_)
    · -- 18: jump
      refine fx_iconst (v := 1) dq_MO_clip_25 (by decide) ?_
      refine fx_puti ok fp_MO_126 hm.1 (by decide) dq_MO_clip_26 (Or.inl (by decide)) ?_
      refine fx_aload_n 0 dq_MO_clip_29 rfl rfl ?_
      refine fx_geti ok fq_MO_126 hm.1 dq_MO_clip_30 (by decide) ?_
      refine fx_eqt (v' := (1 : Int32)) (by rw [fx_i_wi, if_pos ⟨rfl, rfl⟩]) ?_
      refine fx_if_eq (tgt := 37) dq_MO_clip_33 (by decide) (fun hc33 => absurd hc33 (by decide)) (fun hc33 => ?_)
      exact fx_vreturn rfl dq_MO_clip_36 ⟨rfl, by rw [k_MO_clip, if_neg hc6, if_pos hc18]⟩
    · -- 18: fall
      refine fx_iconst (v := 0) dq_MO_clip_21 (by decide) ?_
      refine fx_goto (tgt := 26) dq_MO_clip_22 (by decide) ?_
      refine fx_puti ok fp_MO_126 hm.1 (by decide) dq_MO_clip_26 (Or.inl (by decide)) ?_
      refine fx_aload_n 0 dq_MO_clip_29 rfl rfl ?_
      refine fx_geti ok fq_MO_126 hm.1 dq_MO_clip_30 (by decide) ?_
      refine fx_eqt (v' := (0 : Int32)) (by rw [fx_i_wi, if_pos ⟨rfl, rfl⟩]) ?_
      refine fx_if_eq (tgt := 37) dq_MO_clip_33 (by decide) (fun hc33 => ?_) (fun hc33 => absurd (by decide) hc33)
      refine fx_iload_n 2 dq_MO_clip_37 rfl rfl ?_
      refine fx_iload 4 dq_MO_clip_38 rfl ?_
      refine fx_iadd dq_MO_clip_40 ?_
      refine fx_aload_n 0 dq_MO_clip_41 rfl rfl ?_
      refine fx_getr ok fq_MO_17 hm.1 dq_MO_clip_42 (by decide) (mo_columns hm).1 ?_
      refine fx_iload_n 1 dq_MO_clip_45 rfl rfl ?_
      refine fx_iaload ok (mo_columns hm).2 (mo_has_in hc6) dq_MO_clip_46 ?_
      refine fx_icmp_ge (tgt := 57) dq_MO_clip_47 (by decide) (fun hc47 => ?_) (fun hc47 => ?_)
      · -- 47: jump
        refine fx_aload_n 0 dq_MO_clip_57 rfl rfl ?_
        refine fx_getr ok fq_MO_17 hm.1 dq_MO_clip_58 (by decide) (mo_columns hm).1 ?_
        refine fx_iload_n 1 dq_MO_clip_61 rfl rfl ?_
        refine fx_iaload ok (mo_columns hm).2 (mo_has_in hc6) dq_MO_clip_62 ?_
        refine fx_istore dq_MO_clip_63 (by decide) rfl ?_
        refine fx_iload_n 4 dq_MO_clip_65 rfl rfl ?_
        refine fx_iload 6 dq_MO_clip_66 rfl ?_
        refine fx_iadd dq_MO_clip_68 ?_
        refine fx_aload_n 1 dq_MO_clip_69 rfl rfl ?_
        refine fx_getr ok fq_MO_20 hm.1 dq_MO_clip_70 (by decide) (mo_rows hm).1 ?_
        refine fx_iload_n 2 dq_MO_clip_73 rfl rfl ?_
        refine fx_iaload ok (mo_rows hm).2 (mo_has_in hc6) dq_MO_clip_74 ?_
        refine fx_icmp_ge (tgt := 85) dq_MO_clip_75 (by decide) (fun hc75 => ?_) (fun hc75 => ?_)
        · -- 75: jump
          refine fx_aload_n 1 dq_MO_clip_85 rfl rfl ?_
          refine fx_getr ok fq_MO_20 hm.1 dq_MO_clip_86 (by decide) (mo_rows hm).1 ?_
          refine fx_iload_n 2 dq_MO_clip_89 rfl rfl ?_
          refine fx_iaload ok (mo_rows hm).2 (mo_has_in hc6) dq_MO_clip_90 ?_
          refine fx_istore dq_MO_clip_91 (by decide) rfl ?_
          refine fx_aload_n 2 dq_MO_clip_93 rfl rfl ?_
          refine fx_getr ok fq_MO_47 hm.1 dq_MO_clip_94 (by decide) (mo_cx hm).1 ?_
          refine fx_iload_n 3 dq_MO_clip_97 rfl rfl ?_
          refine fx_iload_n 4 dq_MO_clip_98 rfl rfl ?_
          refine fx_if_le (tgt := 106) dq_MO_clip_99 (by decide) (fun hc99 => ?_) (fun hc99 => ?_)
          · -- 99: jump
            refine fx_iconst (v := 0) dq_MO_clip_106 (by decide) ?_
            refine fx_iastore ok (mo_cx hm).2 (vp_up (mo_has_in hc6) (by decide)) dq_MO_clip_107 ?_
            refine fx_aload_n 2 dq_MO_clip_108 rfl rfl ?_
            refine fx_getr ok fq_MO_50 hm.1 dq_MO_clip_109 (by decide) (mo_cy hm).1 ?_
            refine fx_iload_n 3 dq_MO_clip_112 rfl rfl ?_
            refine fx_iload_n 5 dq_MO_clip_113 rfl rfl ?_
            refine fx_if_le (tgt := 121) dq_MO_clip_114 (by decide) (fun hc114 => ?_) (fun hc114 => ?_)
            · -- 114: jump
              refine fx_iconst (v := 0) dq_MO_clip_121 (by decide) ?_
              refine fx_iastore ok (mo_cy hm).2 (vp_up (mo_has_in hc6) (by decide)) dq_MO_clip_122 ?_
              refine fx_aload_n 2 dq_MO_clip_123 rfl rfl ?_
              refine fx_getr ok fq_MO_53 hm.1 dq_MO_clip_124 (by decide) (mo_cw hm).1 ?_
              refine fx_iload_n 3 dq_MO_clip_127 rfl rfl ?_
              refine fx_iload 1 dq_MO_clip_128 rfl ?_
              refine fx_aload_n 2 dq_MO_clip_130 rfl rfl ?_
              refine fx_getr ok fq_MO_47 hm.1 dq_MO_clip_131 (by decide) (mo_cx hm).1 ?_
              refine fx_iload_n 3 dq_MO_clip_134 rfl rfl ?_
              refine fx_iaload ok (mo_cx hm).2 (vp_up (mo_has_in hc6) (by decide)) dq_MO_clip_135 ?_
              refine fx_isub dq_MO_clip_136 ?_
              refine fx_iastore ok (mo_cw hm).2 (vp_up (mo_has_in hc6) (by decide)) dq_MO_clip_137 ?_
              refine fx_aload_n 2 dq_MO_clip_138 rfl rfl ?_
              refine fx_getr ok fq_MO_56 hm.1 dq_MO_clip_139 (by decide) (mo_ch hm).1 ?_
              refine fx_iload_n 3 dq_MO_clip_142 rfl rfl ?_
              refine fx_iload 0 dq_MO_clip_143 rfl ?_
              refine fx_aload_n 2 dq_MO_clip_145 rfl rfl ?_
              refine fx_getr ok fq_MO_50 hm.1 dq_MO_clip_146 (by decide) (mo_cy hm).1 ?_
              refine fx_iload_n 3 dq_MO_clip_149 rfl rfl ?_
              refine fx_iaload ok (mo_cy hm).2 (vp_up (mo_has_in hc6) (by decide)) dq_MO_clip_150 ?_
              refine fx_isub dq_MO_clip_151 ?_
              refine fx_iastore ok (mo_ch hm).2 (vp_up (mo_has_in hc6) (by decide)) dq_MO_clip_152 ?_
              refine fx_aload_n 2 dq_MO_clip_153 rfl rfl ?_
              refine fx_getr ok fq_MO_53 hm.1 dq_MO_clip_154 (by decide) (mo_cw hm).1 ?_
              refine fx_iload_n 3 dq_MO_clip_157 rfl rfl ?_
              refine fx_iaload ok (mo_cw hm).2 (vp_up (mo_has_in hc6) (by decide)) dq_MO_clip_158 ?_
              refine fx_if_le (tgt := 172) dq_MO_clip_159 (by decide) (fun hc159 => ?_) (fun hc159 => ?_)
              · -- 159: jump
                refine fx_aload_n 2 dq_MO_clip_172 rfl rfl ?_
                refine fx_getr ok fq_MO_53 hm.1 dq_MO_clip_173 (by decide) (mo_cw hm).1 ?_
                refine fx_iload_n 3 dq_MO_clip_176 rfl rfl ?_
                refine fx_iconst (v := 0) dq_MO_clip_177 (by decide) ?_
                refine fx_iastore ok (mo_cw hm).2 (vp_up (mo_has_in hc6) (by decide)) dq_MO_clip_178 ?_
                refine fx_aload_n 2 dq_MO_clip_179 rfl rfl ?_
                refine fx_getr ok fq_MO_56 hm.1 dq_MO_clip_180 (by decide) (mo_ch hm).1 ?_
                refine fx_iload_n 3 dq_MO_clip_183 rfl rfl ?_
                refine fx_iconst (v := 0) dq_MO_clip_184 (by decide) ?_
                refine fx_iastore ok (mo_ch hm).2 (vp_up (mo_has_in hc6) (by decide)) dq_MO_clip_185 ?_
                exact fx_vreturn rfl dq_MO_clip_186 ⟨rfl, by rw [k_MO_clip, if_neg hc6, if_neg hc18, if_pos hc47, if_pos hc75, if_pos hc99, if_pos hc114, if_pos hc159]⟩
              · -- 159: fall
                refine fx_aload_n 2 dq_MO_clip_162 rfl rfl ?_
                refine fx_getr ok fq_MO_56 hm.1 dq_MO_clip_163 (by decide) (mo_ch hm).1 ?_
                refine fx_iload_n 3 dq_MO_clip_166 rfl rfl ?_
                refine fx_iaload ok (mo_ch hm).2 (vp_up (mo_has_in hc6) (by decide)) dq_MO_clip_167 ?_
                refine fx_if_le (tgt := 172) dq_MO_clip_168 (by decide) (fun hc168 => ?_) (fun hc168 => ?_)
                · -- 168: jump
                  refine fx_aload_n 2 dq_MO_clip_172 rfl rfl ?_
                  refine fx_getr ok fq_MO_53 hm.1 dq_MO_clip_173 (by decide) (mo_cw hm).1 ?_
                  refine fx_iload_n 3 dq_MO_clip_176 rfl rfl ?_
                  refine fx_iconst (v := 0) dq_MO_clip_177 (by decide) ?_
                  refine fx_iastore ok (mo_cw hm).2 (vp_up (mo_has_in hc6) (by decide)) dq_MO_clip_178 ?_
                  refine fx_aload_n 2 dq_MO_clip_179 rfl rfl ?_
                  refine fx_getr ok fq_MO_56 hm.1 dq_MO_clip_180 (by decide) (mo_ch hm).1 ?_
                  refine fx_iload_n 3 dq_MO_clip_183 rfl rfl ?_
                  refine fx_iconst (v := 0) dq_MO_clip_184 (by decide) ?_
                  refine fx_iastore ok (mo_ch hm).2 (vp_up (mo_has_in hc6) (by decide)) dq_MO_clip_185 ?_
                  exact fx_vreturn rfl dq_MO_clip_186 ⟨rfl, by rw [k_MO_clip, if_neg hc6, if_neg hc18, if_pos hc47, if_pos hc75, if_pos hc99, if_pos hc114, if_neg hc159, if_pos hc168]⟩
                · -- 168: fall
                  exact fx_vreturn rfl dq_MO_clip_171 ⟨rfl, by rw [k_MO_clip, if_neg hc6, if_neg hc18, if_pos hc47, if_pos hc75, if_pos hc99, if_pos hc114, if_neg hc159, if_neg hc168]⟩
            · -- 114: fall
              refine fx_iload_n 5 dq_MO_clip_117 rfl rfl ?_
              refine fx_goto (tgt := 122) dq_MO_clip_118 (by decide) ?_
              refine fx_iastore ok (mo_cy hm).2 (vp_up (mo_has_in hc6) (by decide)) dq_MO_clip_122 ?_
              refine fx_aload_n 2 dq_MO_clip_123 rfl rfl ?_
              refine fx_getr ok fq_MO_53 hm.1 dq_MO_clip_124 (by decide) (mo_cw hm).1 ?_
              refine fx_iload_n 3 dq_MO_clip_127 rfl rfl ?_
              refine fx_iload 1 dq_MO_clip_128 rfl ?_
              refine fx_aload_n 2 dq_MO_clip_130 rfl rfl ?_
              refine fx_getr ok fq_MO_47 hm.1 dq_MO_clip_131 (by decide) (mo_cx hm).1 ?_
              refine fx_iload_n 3 dq_MO_clip_134 rfl rfl ?_
              refine fx_iaload ok (mo_cx hm).2 (vp_up (mo_has_in hc6) (by decide)) dq_MO_clip_135 ?_
              refine fx_isub dq_MO_clip_136 ?_
              refine fx_iastore ok (mo_cw hm).2 (vp_up (mo_has_in hc6) (by decide)) dq_MO_clip_137 ?_
              refine fx_aload_n 2 dq_MO_clip_138 rfl rfl ?_
              refine fx_getr ok fq_MO_56 hm.1 dq_MO_clip_139 (by decide) (mo_ch hm).1 ?_
              refine fx_iload_n 3 dq_MO_clip_142 rfl rfl ?_
              refine fx_iload 0 dq_MO_clip_143 rfl ?_
              refine fx_aload_n 2 dq_MO_clip_145 rfl rfl ?_
              refine fx_getr ok fq_MO_50 hm.1 dq_MO_clip_146 (by decide) (mo_cy hm).1 ?_
              refine fx_iload_n 3 dq_MO_clip_149 rfl rfl ?_
              refine fx_iaload ok (mo_cy hm).2 (vp_up (mo_has_in hc6) (by decide)) dq_MO_clip_150 ?_
              refine fx_isub dq_MO_clip_151 ?_
              refine fx_iastore ok (mo_ch hm).2 (vp_up (mo_has_in hc6) (by decide)) dq_MO_clip_152 ?_
              refine fx_aload_n 2 dq_MO_clip_153 rfl rfl ?_
              refine fx_getr ok fq_MO_53 hm.1 dq_MO_clip_154 (by decide) (mo_cw hm).1 ?_
              refine fx_iload_n 3 dq_MO_clip_157 rfl rfl ?_
              refine fx_iaload ok (mo_cw hm).2 (vp_up (mo_has_in hc6) (by decide)) dq_MO_clip_158 ?_
              refine fx_if_le (tgt := 172) dq_MO_clip_159 (by decide) (fun hc159 => ?_) (fun hc159 => ?_)
              · -- 159: jump
                refine fx_aload_n 2 dq_MO_clip_172 rfl rfl ?_
                refine fx_getr ok fq_MO_53 hm.1 dq_MO_clip_173 (by decide) (mo_cw hm).1 ?_
                refine fx_iload_n 3 dq_MO_clip_176 rfl rfl ?_
                refine fx_iconst (v := 0) dq_MO_clip_177 (by decide) ?_
                refine fx_iastore ok (mo_cw hm).2 (vp_up (mo_has_in hc6) (by decide)) dq_MO_clip_178 ?_
                refine fx_aload_n 2 dq_MO_clip_179 rfl rfl ?_
                refine fx_getr ok fq_MO_56 hm.1 dq_MO_clip_180 (by decide) (mo_ch hm).1 ?_
                refine fx_iload_n 3 dq_MO_clip_183 rfl rfl ?_
                refine fx_iconst (v := 0) dq_MO_clip_184 (by decide) ?_
                refine fx_iastore ok (mo_ch hm).2 (vp_up (mo_has_in hc6) (by decide)) dq_MO_clip_185 ?_
                exact fx_vreturn rfl dq_MO_clip_186 ⟨rfl, by rw [k_MO_clip, if_neg hc6, if_neg hc18, if_pos hc47, if_pos hc75, if_pos hc99, if_neg hc114, if_pos hc159]⟩
              · -- 159: fall
                refine fx_aload_n 2 dq_MO_clip_162 rfl rfl ?_
                refine fx_getr ok fq_MO_56 hm.1 dq_MO_clip_163 (by decide) (mo_ch hm).1 ?_
                refine fx_iload_n 3 dq_MO_clip_166 rfl rfl ?_
                refine fx_iaload ok (mo_ch hm).2 (vp_up (mo_has_in hc6) (by decide)) dq_MO_clip_167 ?_
                refine fx_if_le (tgt := 172) dq_MO_clip_168 (by decide) (fun hc168 => ?_) (fun hc168 => ?_)
                · -- 168: jump
                  refine fx_aload_n 2 dq_MO_clip_172 rfl rfl ?_
                  refine fx_getr ok fq_MO_53 hm.1 dq_MO_clip_173 (by decide) (mo_cw hm).1 ?_
                  refine fx_iload_n 3 dq_MO_clip_176 rfl rfl ?_
                  refine fx_iconst (v := 0) dq_MO_clip_177 (by decide) ?_
                  refine fx_iastore ok (mo_cw hm).2 (vp_up (mo_has_in hc6) (by decide)) dq_MO_clip_178 ?_
                  refine fx_aload_n 2 dq_MO_clip_179 rfl rfl ?_
                  refine fx_getr ok fq_MO_56 hm.1 dq_MO_clip_180 (by decide) (mo_ch hm).1 ?_
                  refine fx_iload_n 3 dq_MO_clip_183 rfl rfl ?_
                  refine fx_iconst (v := 0) dq_MO_clip_184 (by decide) ?_
                  refine fx_iastore ok (mo_ch hm).2 (vp_up (mo_has_in hc6) (by decide)) dq_MO_clip_185 ?_
                  exact fx_vreturn rfl dq_MO_clip_186 ⟨rfl, by rw [k_MO_clip, if_neg hc6, if_neg hc18, if_pos hc47, if_pos hc75, if_pos hc99, if_neg hc114, if_neg hc159, if_pos hc168]⟩
                · -- 168: fall
                  exact fx_vreturn rfl dq_MO_clip_171 ⟨rfl, by rw [k_MO_clip, if_neg hc6, if_neg hc18, if_pos hc47, if_pos hc75, if_pos hc99, if_neg hc114, if_neg hc159, if_neg hc168]⟩
          · -- 99: fall
            refine fx_iload_n 4 dq_MO_clip_102 rfl rfl ?_
            refine fx_goto (tgt := 107) dq_MO_clip_103 (by decide) ?_
            refine fx_iastore ok (mo_cx hm).2 (vp_up (mo_has_in hc6) (by decide)) dq_MO_clip_107 ?_
            refine fx_aload_n 2 dq_MO_clip_108 rfl rfl ?_
            refine fx_getr ok fq_MO_50 hm.1 dq_MO_clip_109 (by decide) (mo_cy hm).1 ?_
            refine fx_iload_n 3 dq_MO_clip_112 rfl rfl ?_
            refine fx_iload_n 5 dq_MO_clip_113 rfl rfl ?_
            refine fx_if_le (tgt := 121) dq_MO_clip_114 (by decide) (fun hc114 => ?_) (fun hc114 => ?_)
            · -- 114: jump
              refine fx_iconst (v := 0) dq_MO_clip_121 (by decide) ?_
              refine fx_iastore ok (mo_cy hm).2 (vp_up (mo_has_in hc6) (by decide)) dq_MO_clip_122 ?_
              refine fx_aload_n 2 dq_MO_clip_123 rfl rfl ?_
              refine fx_getr ok fq_MO_53 hm.1 dq_MO_clip_124 (by decide) (mo_cw hm).1 ?_
              refine fx_iload_n 3 dq_MO_clip_127 rfl rfl ?_
              refine fx_iload 1 dq_MO_clip_128 rfl ?_
              refine fx_aload_n 2 dq_MO_clip_130 rfl rfl ?_
              refine fx_getr ok fq_MO_47 hm.1 dq_MO_clip_131 (by decide) (mo_cx hm).1 ?_
              refine fx_iload_n 3 dq_MO_clip_134 rfl rfl ?_
              refine fx_iaload ok (mo_cx hm).2 (vp_up (mo_has_in hc6) (by decide)) dq_MO_clip_135 ?_
              refine fx_isub dq_MO_clip_136 ?_
              refine fx_iastore ok (mo_cw hm).2 (vp_up (mo_has_in hc6) (by decide)) dq_MO_clip_137 ?_
              refine fx_aload_n 2 dq_MO_clip_138 rfl rfl ?_
              refine fx_getr ok fq_MO_56 hm.1 dq_MO_clip_139 (by decide) (mo_ch hm).1 ?_
              refine fx_iload_n 3 dq_MO_clip_142 rfl rfl ?_
              refine fx_iload 0 dq_MO_clip_143 rfl ?_
              refine fx_aload_n 2 dq_MO_clip_145 rfl rfl ?_
              refine fx_getr ok fq_MO_50 hm.1 dq_MO_clip_146 (by decide) (mo_cy hm).1 ?_
              refine fx_iload_n 3 dq_MO_clip_149 rfl rfl ?_
              refine fx_iaload ok (mo_cy hm).2 (vp_up (mo_has_in hc6) (by decide)) dq_MO_clip_150 ?_
              refine fx_isub dq_MO_clip_151 ?_
              refine fx_iastore ok (mo_ch hm).2 (vp_up (mo_has_in hc6) (by decide)) dq_MO_clip_152 ?_
              refine fx_aload_n 2 dq_MO_clip_153 rfl rfl ?_
              refine fx_getr ok fq_MO_53 hm.1 dq_MO_clip_154 (by decide) (mo_cw hm).1 ?_
              refine fx_iload_n 3 dq_MO_clip_157 rfl rfl ?_
              refine fx_iaload ok (mo_cw hm).2 (vp_up (mo_has_in hc6) (by decide)) dq_MO_clip_158 ?_
              refine fx_if_le (tgt := 172) dq_MO_clip_159 (by decide) (fun hc159 => ?_) (fun hc159 => ?_)
              · -- 159: jump
                refine fx_aload_n 2 dq_MO_clip_172 rfl rfl ?_
                refine fx_getr ok fq_MO_53 hm.1 dq_MO_clip_173 (by decide) (mo_cw hm).1 ?_
                refine fx_iload_n 3 dq_MO_clip_176 rfl rfl ?_
                refine fx_iconst (v := 0) dq_MO_clip_177 (by decide) ?_
                refine fx_iastore ok (mo_cw hm).2 (vp_up (mo_has_in hc6) (by decide)) dq_MO_clip_178 ?_
                refine fx_aload_n 2 dq_MO_clip_179 rfl rfl ?_
                refine fx_getr ok fq_MO_56 hm.1 dq_MO_clip_180 (by decide) (mo_ch hm).1 ?_
                refine fx_iload_n 3 dq_MO_clip_183 rfl rfl ?_
                refine fx_iconst (v := 0) dq_MO_clip_184 (by decide) ?_
                refine fx_iastore ok (mo_ch hm).2 (vp_up (mo_has_in hc6) (by decide)) dq_MO_clip_185 ?_
                exact fx_vreturn rfl dq_MO_clip_186 ⟨rfl, by rw [k_MO_clip, if_neg hc6, if_neg hc18, if_pos hc47, if_pos hc75, if_neg hc99, if_pos hc114, if_pos hc159]⟩
              · -- 159: fall
                refine fx_aload_n 2 dq_MO_clip_162 rfl rfl ?_
                refine fx_getr ok fq_MO_56 hm.1 dq_MO_clip_163 (by decide) (mo_ch hm).1 ?_
                refine fx_iload_n 3 dq_MO_clip_166 rfl rfl ?_
                refine fx_iaload ok (mo_ch hm).2 (vp_up (mo_has_in hc6) (by decide)) dq_MO_clip_167 ?_
                refine fx_if_le (tgt := 172) dq_MO_clip_168 (by decide) (fun hc168 => ?_) (fun hc168 => ?_)
                · -- 168: jump
                  refine fx_aload_n 2 dq_MO_clip_172 rfl rfl ?_
                  refine fx_getr ok fq_MO_53 hm.1 dq_MO_clip_173 (by decide) (mo_cw hm).1 ?_
                  refine fx_iload_n 3 dq_MO_clip_176 rfl rfl ?_
                  refine fx_iconst (v := 0) dq_MO_clip_177 (by decide) ?_
                  refine fx_iastore ok (mo_cw hm).2 (vp_up (mo_has_in hc6) (by decide)) dq_MO_clip_178 ?_
                  refine fx_aload_n 2 dq_MO_clip_179 rfl rfl ?_
                  refine fx_getr ok fq_MO_56 hm.1 dq_MO_clip_180 (by decide) (mo_ch hm).1 ?_
                  refine fx_iload_n 3 dq_MO_clip_183 rfl rfl ?_
                  refine fx_iconst (v := 0) dq_MO_clip_184 (by decide) ?_
                  refine fx_iastore ok (mo_ch hm).2 (vp_up (mo_has_in hc6) (by decide)) dq_MO_clip_185 ?_
                  exact fx_vreturn rfl dq_MO_clip_186 ⟨rfl, by rw [k_MO_clip, if_neg hc6, if_neg hc18, if_pos hc47, if_pos hc75, if_neg hc99, if_pos hc114, if_neg hc159, if_pos hc168]⟩
                · -- 168: fall
                  exact fx_vreturn rfl dq_MO_clip_171 ⟨rfl, by rw [k_MO_clip, if_neg hc6, if_neg hc18, if_pos hc47, if_pos hc75, if_neg hc99, if_pos hc114, if_neg hc159, if_neg hc168]⟩
            · -- 114: fall
              refine fx_iload_n 5 dq_MO_clip_117 rfl rfl ?_
              refine fx_goto (tgt := 122) dq_MO_clip_118 (by decide) ?_
              refine fx_iastore ok (mo_cy hm).2 (vp_up (mo_has_in hc6) (by decide)) dq_MO_clip_122 ?_
              refine fx_aload_n 2 dq_MO_clip_123 rfl rfl ?_
              refine fx_getr ok fq_MO_53 hm.1 dq_MO_clip_124 (by decide) (mo_cw hm).1 ?_
              refine fx_iload_n 3 dq_MO_clip_127 rfl rfl ?_
              refine fx_iload 1 dq_MO_clip_128 rfl ?_
              refine fx_aload_n 2 dq_MO_clip_130 rfl rfl ?_
              refine fx_getr ok fq_MO_47 hm.1 dq_MO_clip_131 (by decide) (mo_cx hm).1 ?_
              refine fx_iload_n 3 dq_MO_clip_134 rfl rfl ?_
              refine fx_iaload ok (mo_cx hm).2 (vp_up (mo_has_in hc6) (by decide)) dq_MO_clip_135 ?_
              refine fx_isub dq_MO_clip_136 ?_
              refine fx_iastore ok (mo_cw hm).2 (vp_up (mo_has_in hc6) (by decide)) dq_MO_clip_137 ?_
              refine fx_aload_n 2 dq_MO_clip_138 rfl rfl ?_
              refine fx_getr ok fq_MO_56 hm.1 dq_MO_clip_139 (by decide) (mo_ch hm).1 ?_
              refine fx_iload_n 3 dq_MO_clip_142 rfl rfl ?_
              refine fx_iload 0 dq_MO_clip_143 rfl ?_
              refine fx_aload_n 2 dq_MO_clip_145 rfl rfl ?_
              refine fx_getr ok fq_MO_50 hm.1 dq_MO_clip_146 (by decide) (mo_cy hm).1 ?_
              refine fx_iload_n 3 dq_MO_clip_149 rfl rfl ?_
              refine fx_iaload ok (mo_cy hm).2 (vp_up (mo_has_in hc6) (by decide)) dq_MO_clip_150 ?_
              refine fx_isub dq_MO_clip_151 ?_
              refine fx_iastore ok (mo_ch hm).2 (vp_up (mo_has_in hc6) (by decide)) dq_MO_clip_152 ?_
              refine fx_aload_n 2 dq_MO_clip_153 rfl rfl ?_
              refine fx_getr ok fq_MO_53 hm.1 dq_MO_clip_154 (by decide) (mo_cw hm).1 ?_
              refine fx_iload_n 3 dq_MO_clip_157 rfl rfl ?_
              refine fx_iaload ok (mo_cw hm).2 (vp_up (mo_has_in hc6) (by decide)) dq_MO_clip_158 ?_
              refine fx_if_le (tgt := 172) dq_MO_clip_159 (by decide) (fun hc159 => ?_) (fun hc159 => ?_)
              · -- 159: jump
                refine fx_aload_n 2 dq_MO_clip_172 rfl rfl ?_
                refine fx_getr ok fq_MO_53 hm.1 dq_MO_clip_173 (by decide) (mo_cw hm).1 ?_
                refine fx_iload_n 3 dq_MO_clip_176 rfl rfl ?_
                refine fx_iconst (v := 0) dq_MO_clip_177 (by decide) ?_
                refine fx_iastore ok (mo_cw hm).2 (vp_up (mo_has_in hc6) (by decide)) dq_MO_clip_178 ?_
                refine fx_aload_n 2 dq_MO_clip_179 rfl rfl ?_
                refine fx_getr ok fq_MO_56 hm.1 dq_MO_clip_180 (by decide) (mo_ch hm).1 ?_
                refine fx_iload_n 3 dq_MO_clip_183 rfl rfl ?_
                refine fx_iconst (v := 0) dq_MO_clip_184 (by decide) ?_
                refine fx_iastore ok (mo_ch hm).2 (vp_up (mo_has_in hc6) (by decide)) dq_MO_clip_185 ?_
                exact fx_vreturn rfl dq_MO_clip_186 ⟨rfl, by rw [k_MO_clip, if_neg hc6, if_neg hc18, if_pos hc47, if_pos hc75, if_neg hc99, if_neg hc114, if_pos hc159]⟩
              · -- 159: fall
                refine fx_aload_n 2 dq_MO_clip_162 rfl rfl ?_
                refine fx_getr ok fq_MO_56 hm.1 dq_MO_clip_163 (by decide) (mo_ch hm).1 ?_
                refine fx_iload_n 3 dq_MO_clip_166 rfl rfl ?_
                refine fx_iaload ok (mo_ch hm).2 (vp_up (mo_has_in hc6) (by decide)) dq_MO_clip_167 ?_
                refine fx_if_le (tgt := 172) dq_MO_clip_168 (by decide) (fun hc168 => ?_) (fun hc168 => ?_)
                · -- 168: jump
                  refine fx_aload_n 2 dq_MO_clip_172 rfl rfl ?_
                  refine fx_getr ok fq_MO_53 hm.1 dq_MO_clip_173 (by decide) (mo_cw hm).1 ?_
                  refine fx_iload_n 3 dq_MO_clip_176 rfl rfl ?_
                  refine fx_iconst (v := 0) dq_MO_clip_177 (by decide) ?_
                  refine fx_iastore ok (mo_cw hm).2 (vp_up (mo_has_in hc6) (by decide)) dq_MO_clip_178 ?_
                  refine fx_aload_n 2 dq_MO_clip_179 rfl rfl ?_
                  refine fx_getr ok fq_MO_56 hm.1 dq_MO_clip_180 (by decide) (mo_ch hm).1 ?_
                  refine fx_iload_n 3 dq_MO_clip_183 rfl rfl ?_
                  refine fx_iconst (v := 0) dq_MO_clip_184 (by decide) ?_
                  refine fx_iastore ok (mo_ch hm).2 (vp_up (mo_has_in hc6) (by decide)) dq_MO_clip_185 ?_
                  exact fx_vreturn rfl dq_MO_clip_186 ⟨rfl, by rw [k_MO_clip, if_neg hc6, if_neg hc18, if_pos hc47, if_pos hc75, if_neg hc99, if_neg hc114, if_neg hc159, if_pos hc168]⟩
                · -- 168: fall
                  exact fx_vreturn rfl dq_MO_clip_171 ⟨rfl, by rw [k_MO_clip, if_neg hc6, if_neg hc18, if_pos hc47, if_pos hc75, if_neg hc99, if_neg hc114, if_neg hc159, if_neg hc168]⟩
        · -- 75: fall
          refine fx_iload_n 4 dq_MO_clip_78 rfl rfl ?_
          refine fx_iload 6 dq_MO_clip_79 rfl ?_
          refine fx_iadd dq_MO_clip_81 ?_
          refine fx_goto (tgt := 91) dq_MO_clip_82 (by decide) ?_
          refine fx_istore dq_MO_clip_91 (by decide) rfl ?_
          refine fx_aload_n 2 dq_MO_clip_93 rfl rfl ?_
          refine fx_getr ok fq_MO_47 hm.1 dq_MO_clip_94 (by decide) (mo_cx hm).1 ?_
          refine fx_iload_n 3 dq_MO_clip_97 rfl rfl ?_
          refine fx_iload_n 4 dq_MO_clip_98 rfl rfl ?_
          refine fx_if_le (tgt := 106) dq_MO_clip_99 (by decide) (fun hc99 => ?_) (fun hc99 => ?_)
          · -- 99: jump
            refine fx_iconst (v := 0) dq_MO_clip_106 (by decide) ?_
            refine fx_iastore ok (mo_cx hm).2 (vp_up (mo_has_in hc6) (by decide)) dq_MO_clip_107 ?_
            refine fx_aload_n 2 dq_MO_clip_108 rfl rfl ?_
            refine fx_getr ok fq_MO_50 hm.1 dq_MO_clip_109 (by decide) (mo_cy hm).1 ?_
            refine fx_iload_n 3 dq_MO_clip_112 rfl rfl ?_
            refine fx_iload_n 5 dq_MO_clip_113 rfl rfl ?_
            refine fx_if_le (tgt := 121) dq_MO_clip_114 (by decide) (fun hc114 => ?_) (fun hc114 => ?_)
            · -- 114: jump
              refine fx_iconst (v := 0) dq_MO_clip_121 (by decide) ?_
              refine fx_iastore ok (mo_cy hm).2 (vp_up (mo_has_in hc6) (by decide)) dq_MO_clip_122 ?_
              refine fx_aload_n 2 dq_MO_clip_123 rfl rfl ?_
              refine fx_getr ok fq_MO_53 hm.1 dq_MO_clip_124 (by decide) (mo_cw hm).1 ?_
              refine fx_iload_n 3 dq_MO_clip_127 rfl rfl ?_
              refine fx_iload 1 dq_MO_clip_128 rfl ?_
              refine fx_aload_n 2 dq_MO_clip_130 rfl rfl ?_
              refine fx_getr ok fq_MO_47 hm.1 dq_MO_clip_131 (by decide) (mo_cx hm).1 ?_
              refine fx_iload_n 3 dq_MO_clip_134 rfl rfl ?_
              refine fx_iaload ok (mo_cx hm).2 (vp_up (mo_has_in hc6) (by decide)) dq_MO_clip_135 ?_
              refine fx_isub dq_MO_clip_136 ?_
              refine fx_iastore ok (mo_cw hm).2 (vp_up (mo_has_in hc6) (by decide)) dq_MO_clip_137 ?_
              refine fx_aload_n 2 dq_MO_clip_138 rfl rfl ?_
              refine fx_getr ok fq_MO_56 hm.1 dq_MO_clip_139 (by decide) (mo_ch hm).1 ?_
              refine fx_iload_n 3 dq_MO_clip_142 rfl rfl ?_
              refine fx_iload 0 dq_MO_clip_143 rfl ?_
              refine fx_aload_n 2 dq_MO_clip_145 rfl rfl ?_
              refine fx_getr ok fq_MO_50 hm.1 dq_MO_clip_146 (by decide) (mo_cy hm).1 ?_
              refine fx_iload_n 3 dq_MO_clip_149 rfl rfl ?_
              refine fx_iaload ok (mo_cy hm).2 (vp_up (mo_has_in hc6) (by decide)) dq_MO_clip_150 ?_
              refine fx_isub dq_MO_clip_151 ?_
              refine fx_iastore ok (mo_ch hm).2 (vp_up (mo_has_in hc6) (by decide)) dq_MO_clip_152 ?_
              refine fx_aload_n 2 dq_MO_clip_153 rfl rfl ?_
              refine fx_getr ok fq_MO_53 hm.1 dq_MO_clip_154 (by decide) (mo_cw hm).1 ?_
              refine fx_iload_n 3 dq_MO_clip_157 rfl rfl ?_
              refine fx_iaload ok (mo_cw hm).2 (vp_up (mo_has_in hc6) (by decide)) dq_MO_clip_158 ?_
              refine fx_if_le (tgt := 172) dq_MO_clip_159 (by decide) (fun hc159 => ?_) (fun hc159 => ?_)
              · -- 159: jump
                refine fx_aload_n 2 dq_MO_clip_172 rfl rfl ?_
                refine fx_getr ok fq_MO_53 hm.1 dq_MO_clip_173 (by decide) (mo_cw hm).1 ?_
                refine fx_iload_n 3 dq_MO_clip_176 rfl rfl ?_
                refine fx_iconst (v := 0) dq_MO_clip_177 (by decide) ?_
                refine fx_iastore ok (mo_cw hm).2 (vp_up (mo_has_in hc6) (by decide)) dq_MO_clip_178 ?_
                refine fx_aload_n 2 dq_MO_clip_179 rfl rfl ?_
                refine fx_getr ok fq_MO_56 hm.1 dq_MO_clip_180 (by decide) (mo_ch hm).1 ?_
                refine fx_iload_n 3 dq_MO_clip_183 rfl rfl ?_
                refine fx_iconst (v := 0) dq_MO_clip_184 (by decide) ?_
                refine fx_iastore ok (mo_ch hm).2 (vp_up (mo_has_in hc6) (by decide)) dq_MO_clip_185 ?_
                exact fx_vreturn rfl dq_MO_clip_186 ⟨rfl, by rw [k_MO_clip, if_neg hc6, if_neg hc18, if_pos hc47, if_neg hc75, if_pos hc99, if_pos hc114, if_pos hc159]⟩
              · -- 159: fall
                refine fx_aload_n 2 dq_MO_clip_162 rfl rfl ?_
                refine fx_getr ok fq_MO_56 hm.1 dq_MO_clip_163 (by decide) (mo_ch hm).1 ?_
                refine fx_iload_n 3 dq_MO_clip_166 rfl rfl ?_
                refine fx_iaload ok (mo_ch hm).2 (vp_up (mo_has_in hc6) (by decide)) dq_MO_clip_167 ?_
                refine fx_if_le (tgt := 172) dq_MO_clip_168 (by decide) (fun hc168 => ?_) (fun hc168 => ?_)
                · -- 168: jump
                  refine fx_aload_n 2 dq_MO_clip_172 rfl rfl ?_
                  refine fx_getr ok fq_MO_53 hm.1 dq_MO_clip_173 (by decide) (mo_cw hm).1 ?_
                  refine fx_iload_n 3 dq_MO_clip_176 rfl rfl ?_
                  refine fx_iconst (v := 0) dq_MO_clip_177 (by decide) ?_
                  refine fx_iastore ok (mo_cw hm).2 (vp_up (mo_has_in hc6) (by decide)) dq_MO_clip_178 ?_
                  refine fx_aload_n 2 dq_MO_clip_179 rfl rfl ?_
                  refine fx_getr ok fq_MO_56 hm.1 dq_MO_clip_180 (by decide) (mo_ch hm).1 ?_
                  refine fx_iload_n 3 dq_MO_clip_183 rfl rfl ?_
                  refine fx_iconst (v := 0) dq_MO_clip_184 (by decide) ?_
                  refine fx_iastore ok (mo_ch hm).2 (vp_up (mo_has_in hc6) (by decide)) dq_MO_clip_185 ?_
                  exact fx_vreturn rfl dq_MO_clip_186 ⟨rfl, by rw [k_MO_clip, if_neg hc6, if_neg hc18, if_pos hc47, if_neg hc75, if_pos hc99, if_pos hc114, if_neg hc159, if_pos hc168]⟩
                · -- 168: fall
                  exact fx_vreturn rfl dq_MO_clip_171 ⟨rfl, by rw [k_MO_clip, if_neg hc6, if_neg hc18, if_pos hc47, if_neg hc75, if_pos hc99, if_pos hc114, if_neg hc159, if_neg hc168]⟩
            · -- 114: fall
              refine fx_iload_n 5 dq_MO_clip_117 rfl rfl ?_
              refine fx_goto (tgt := 122) dq_MO_clip_118 (by decide) ?_
              refine fx_iastore ok (mo_cy hm).2 (vp_up (mo_has_in hc6) (by decide)) dq_MO_clip_122 ?_
              refine fx_aload_n 2 dq_MO_clip_123 rfl rfl ?_
              refine fx_getr ok fq_MO_53 hm.1 dq_MO_clip_124 (by decide) (mo_cw hm).1 ?_
              refine fx_iload_n 3 dq_MO_clip_127 rfl rfl ?_
              refine fx_iload 1 dq_MO_clip_128 rfl ?_
              refine fx_aload_n 2 dq_MO_clip_130 rfl rfl ?_
              refine fx_getr ok fq_MO_47 hm.1 dq_MO_clip_131 (by decide) (mo_cx hm).1 ?_
              refine fx_iload_n 3 dq_MO_clip_134 rfl rfl ?_
              refine fx_iaload ok (mo_cx hm).2 (vp_up (mo_has_in hc6) (by decide)) dq_MO_clip_135 ?_
              refine fx_isub dq_MO_clip_136 ?_
              refine fx_iastore ok (mo_cw hm).2 (vp_up (mo_has_in hc6) (by decide)) dq_MO_clip_137 ?_
              refine fx_aload_n 2 dq_MO_clip_138 rfl rfl ?_
              refine fx_getr ok fq_MO_56 hm.1 dq_MO_clip_139 (by decide) (mo_ch hm).1 ?_
              refine fx_iload_n 3 dq_MO_clip_142 rfl rfl ?_
              refine fx_iload 0 dq_MO_clip_143 rfl ?_
              refine fx_aload_n 2 dq_MO_clip_145 rfl rfl ?_
              refine fx_getr ok fq_MO_50 hm.1 dq_MO_clip_146 (by decide) (mo_cy hm).1 ?_
              refine fx_iload_n 3 dq_MO_clip_149 rfl rfl ?_
              refine fx_iaload ok (mo_cy hm).2 (vp_up (mo_has_in hc6) (by decide)) dq_MO_clip_150 ?_
              refine fx_isub dq_MO_clip_151 ?_
              refine fx_iastore ok (mo_ch hm).2 (vp_up (mo_has_in hc6) (by decide)) dq_MO_clip_152 ?_
              refine fx_aload_n 2 dq_MO_clip_153 rfl rfl ?_
              refine fx_getr ok fq_MO_53 hm.1 dq_MO_clip_154 (by decide) (mo_cw hm).1 ?_
              refine fx_iload_n 3 dq_MO_clip_157 rfl rfl ?_
              refine fx_iaload ok (mo_cw hm).2 (vp_up (mo_has_in hc6) (by decide)) dq_MO_clip_158 ?_
              refine fx_if_le (tgt := 172) dq_MO_clip_159 (by decide) (fun hc159 => ?_) (fun hc159 => ?_)
              · -- 159: jump
                refine fx_aload_n 2 dq_MO_clip_172 rfl rfl ?_
                refine fx_getr ok fq_MO_53 hm.1 dq_MO_clip_173 (by decide) (mo_cw hm).1 ?_
                refine fx_iload_n 3 dq_MO_clip_176 rfl rfl ?_
                refine fx_iconst (v := 0) dq_MO_clip_177 (by decide) ?_
                refine fx_iastore ok (mo_cw hm).2 (vp_up (mo_has_in hc6) (by decide)) dq_MO_clip_178 ?_
                refine fx_aload_n 2 dq_MO_clip_179 rfl rfl ?_
                refine fx_getr ok fq_MO_56 hm.1 dq_MO_clip_180 (by decide) (mo_ch hm).1 ?_
                refine fx_iload_n 3 dq_MO_clip_183 rfl rfl ?_
                refine fx_iconst (v := 0) dq_MO_clip_184 (by decide) ?_
                refine fx_iastore ok (mo_ch hm).2 (vp_up (mo_has_in hc6) (by decide)) dq_MO_clip_185 ?_
                exact fx_vreturn rfl dq_MO_clip_186 ⟨rfl, by rw [k_MO_clip, if_neg hc6, if_neg hc18, if_pos hc47, if_neg hc75, if_pos hc99, if_neg hc114, if_pos hc159]⟩
              · -- 159: fall
                refine fx_aload_n 2 dq_MO_clip_162 rfl rfl ?_
                refine fx_getr ok fq_MO_56 hm.1 dq_MO_clip_163 (by decide) (mo_ch hm).1 ?_
                refine fx_iload_n 3 dq_MO_clip_166 rfl rfl ?_
                refine fx_iaload ok (mo_ch hm).2 (vp_up (mo_has_in hc6) (by decide)) dq_MO_clip_167 ?_
                refine fx_if_le (tgt := 172) dq_MO_clip_168 (by decide) (fun hc168 => ?_) (fun hc168 => ?_)
                · -- 168: jump
                  refine fx_aload_n 2 dq_MO_clip_172 rfl rfl ?_
                  refine fx_getr ok fq_MO_53 hm.1 dq_MO_clip_173 (by decide) (mo_cw hm).1 ?_
                  refine fx_iload_n 3 dq_MO_clip_176 rfl rfl ?_
                  refine fx_iconst (v := 0) dq_MO_clip_177 (by decide) ?_
                  refine fx_iastore ok (mo_cw hm).2 (vp_up (mo_has_in hc6) (by decide)) dq_MO_clip_178 ?_
                  refine fx_aload_n 2 dq_MO_clip_179 rfl rfl ?_
                  refine fx_getr ok fq_MO_56 hm.1 dq_MO_clip_180 (by decide) (mo_ch hm).1 ?_
                  refine fx_iload_n 3 dq_MO_clip_183 rfl rfl ?_
                  refine fx_iconst (v := 0) dq_MO_clip_184 (by decide) ?_
                  refine fx_iastore ok (mo_ch hm).2 (vp_up (mo_has_in hc6) (by decide)) dq_MO_clip_185 ?_
                  exact fx_vreturn rfl dq_MO_clip_186 ⟨rfl, by rw [k_MO_clip, if_neg hc6, if_neg hc18, if_pos hc47, if_neg hc75, if_pos hc99, if_neg hc114, if_neg hc159, if_pos hc168]⟩
                · -- 168: fall
                  exact fx_vreturn rfl dq_MO_clip_171 ⟨rfl, by rw [k_MO_clip, if_neg hc6, if_neg hc18, if_pos hc47, if_neg hc75, if_pos hc99, if_neg hc114, if_neg hc159, if_neg hc168]⟩
          · -- 99: fall
            refine fx_iload_n 4 dq_MO_clip_102 rfl rfl ?_
            refine fx_goto (tgt := 107) dq_MO_clip_103 (by decide) ?_
            refine fx_iastore ok (mo_cx hm).2 (vp_up (mo_has_in hc6) (by decide)) dq_MO_clip_107 ?_
            refine fx_aload_n 2 dq_MO_clip_108 rfl rfl ?_
            refine fx_getr ok fq_MO_50 hm.1 dq_MO_clip_109 (by decide) (mo_cy hm).1 ?_
            refine fx_iload_n 3 dq_MO_clip_112 rfl rfl ?_
            refine fx_iload_n 5 dq_MO_clip_113 rfl rfl ?_
            refine fx_if_le (tgt := 121) dq_MO_clip_114 (by decide) (fun hc114 => ?_) (fun hc114 => ?_)
            · -- 114: jump
              refine fx_iconst (v := 0) dq_MO_clip_121 (by decide) ?_
              refine fx_iastore ok (mo_cy hm).2 (vp_up (mo_has_in hc6) (by decide)) dq_MO_clip_122 ?_
              refine fx_aload_n 2 dq_MO_clip_123 rfl rfl ?_
              refine fx_getr ok fq_MO_53 hm.1 dq_MO_clip_124 (by decide) (mo_cw hm).1 ?_
              refine fx_iload_n 3 dq_MO_clip_127 rfl rfl ?_
              refine fx_iload 1 dq_MO_clip_128 rfl ?_
              refine fx_aload_n 2 dq_MO_clip_130 rfl rfl ?_
              refine fx_getr ok fq_MO_47 hm.1 dq_MO_clip_131 (by decide) (mo_cx hm).1 ?_
              refine fx_iload_n 3 dq_MO_clip_134 rfl rfl ?_
              refine fx_iaload ok (mo_cx hm).2 (vp_up (mo_has_in hc6) (by decide)) dq_MO_clip_135 ?_
              refine fx_isub dq_MO_clip_136 ?_
              refine fx_iastore ok (mo_cw hm).2 (vp_up (mo_has_in hc6) (by decide)) dq_MO_clip_137 ?_
              refine fx_aload_n 2 dq_MO_clip_138 rfl rfl ?_
              refine fx_getr ok fq_MO_56 hm.1 dq_MO_clip_139 (by decide) (mo_ch hm).1 ?_
              refine fx_iload_n 3 dq_MO_clip_142 rfl rfl ?_
              refine fx_iload 0 dq_MO_clip_143 rfl ?_
              refine fx_aload_n 2 dq_MO_clip_145 rfl rfl ?_
              refine fx_getr ok fq_MO_50 hm.1 dq_MO_clip_146 (by decide) (mo_cy hm).1 ?_
              refine fx_iload_n 3 dq_MO_clip_149 rfl rfl ?_
              refine fx_iaload ok (mo_cy hm).2 (vp_up (mo_has_in hc6) (by decide)) dq_MO_clip_150 ?_
              refine fx_isub dq_MO_clip_151 ?_
              refine fx_iastore ok (mo_ch hm).2 (vp_up (mo_has_in hc6) (by decide)) dq_MO_clip_152 ?_
              refine fx_aload_n 2 dq_MO_clip_153 rfl rfl ?_
              refine fx_getr ok fq_MO_53 hm.1 dq_MO_clip_154 (by decide) (mo_cw hm).1 ?_
              refine fx_iload_n 3 dq_MO_clip_157 rfl rfl ?_
              refine fx_iaload ok (mo_cw hm).2 (vp_up (mo_has_in hc6) (by decide)) dq_MO_clip_158 ?_
              refine fx_if_le (tgt := 172) dq_MO_clip_159 (by decide) (fun hc159 => ?_) (fun hc159 => ?_)
              · -- 159: jump
                refine fx_aload_n 2 dq_MO_clip_172 rfl rfl ?_
                refine fx_getr ok fq_MO_53 hm.1 dq_MO_clip_173 (by decide) (mo_cw hm).1 ?_
                refine fx_iload_n 3 dq_MO_clip_176 rfl rfl ?_
                refine fx_iconst (v := 0) dq_MO_clip_177 (by decide) ?_
                refine fx_iastore ok (mo_cw hm).2 (vp_up (mo_has_in hc6) (by decide)) dq_MO_clip_178 ?_
                refine fx_aload_n 2 dq_MO_clip_179 rfl rfl ?_
                refine fx_getr ok fq_MO_56 hm.1 dq_MO_clip_180 (by decide) (mo_ch hm).1 ?_
                refine fx_iload_n 3 dq_MO_clip_183 rfl rfl ?_
                refine fx_iconst (v := 0) dq_MO_clip_184 (by decide) ?_
                refine fx_iastore ok (mo_ch hm).2 (vp_up (mo_has_in hc6) (by decide)) dq_MO_clip_185 ?_
                exact fx_vreturn rfl dq_MO_clip_186 ⟨rfl, by rw [k_MO_clip, if_neg hc6, if_neg hc18, if_pos hc47, if_neg hc75, if_neg hc99, if_pos hc114, if_pos hc159]⟩
              · -- 159: fall
                refine fx_aload_n 2 dq_MO_clip_162 rfl rfl ?_
                refine fx_getr ok fq_MO_56 hm.1 dq_MO_clip_163 (by decide) (mo_ch hm).1 ?_
                refine fx_iload_n 3 dq_MO_clip_166 rfl rfl ?_
                refine fx_iaload ok (mo_ch hm).2 (vp_up (mo_has_in hc6) (by decide)) dq_MO_clip_167 ?_
                refine fx_if_le (tgt := 172) dq_MO_clip_168 (by decide) (fun hc168 => ?_) (fun hc168 => ?_)
                · -- 168: jump
                  refine fx_aload_n 2 dq_MO_clip_172 rfl rfl ?_
                  refine fx_getr ok fq_MO_53 hm.1 dq_MO_clip_173 (by decide) (mo_cw hm).1 ?_
                  refine fx_iload_n 3 dq_MO_clip_176 rfl rfl ?_
                  refine fx_iconst (v := 0) dq_MO_clip_177 (by decide) ?_
                  refine fx_iastore ok (mo_cw hm).2 (vp_up (mo_has_in hc6) (by decide)) dq_MO_clip_178 ?_
                  refine fx_aload_n 2 dq_MO_clip_179 rfl rfl ?_
                  refine fx_getr ok fq_MO_56 hm.1 dq_MO_clip_180 (by decide) (mo_ch hm).1 ?_
                  refine fx_iload_n 3 dq_MO_clip_183 rfl rfl ?_
                  refine fx_iconst (v := 0) dq_MO_clip_184 (by decide) ?_
                  refine fx_iastore ok (mo_ch hm).2 (vp_up (mo_has_in hc6) (by decide)) dq_MO_clip_185 ?_
                  exact fx_vreturn rfl dq_MO_clip_186 ⟨rfl, by rw [k_MO_clip, if_neg hc6, if_neg hc18, if_pos hc47, if_neg hc75, if_neg hc99, if_pos hc114, if_neg hc159, if_pos hc168]⟩
                · -- 168: fall
                  exact fx_vreturn rfl dq_MO_clip_171 ⟨rfl, by rw [k_MO_clip, if_neg hc6, if_neg hc18, if_pos hc47, if_neg hc75, if_neg hc99, if_pos hc114, if_neg hc159, if_neg hc168]⟩
            · -- 114: fall
              refine fx_iload_n 5 dq_MO_clip_117 rfl rfl ?_
              refine fx_goto (tgt := 122) dq_MO_clip_118 (by decide) ?_
              refine fx_iastore ok (mo_cy hm).2 (vp_up (mo_has_in hc6) (by decide)) dq_MO_clip_122 ?_
              refine fx_aload_n 2 dq_MO_clip_123 rfl rfl ?_
              refine fx_getr ok fq_MO_53 hm.1 dq_MO_clip_124 (by decide) (mo_cw hm).1 ?_
              refine fx_iload_n 3 dq_MO_clip_127 rfl rfl ?_
              refine fx_iload 1 dq_MO_clip_128 rfl ?_
              refine fx_aload_n 2 dq_MO_clip_130 rfl rfl ?_
              refine fx_getr ok fq_MO_47 hm.1 dq_MO_clip_131 (by decide) (mo_cx hm).1 ?_
              refine fx_iload_n 3 dq_MO_clip_134 rfl rfl ?_
              refine fx_iaload ok (mo_cx hm).2 (vp_up (mo_has_in hc6) (by decide)) dq_MO_clip_135 ?_
              refine fx_isub dq_MO_clip_136 ?_
              refine fx_iastore ok (mo_cw hm).2 (vp_up (mo_has_in hc6) (by decide)) dq_MO_clip_137 ?_
              refine fx_aload_n 2 dq_MO_clip_138 rfl rfl ?_
              refine fx_getr ok fq_MO_56 hm.1 dq_MO_clip_139 (by decide) (mo_ch hm).1 ?_
              refine fx_iload_n 3 dq_MO_clip_142 rfl rfl ?_
              refine fx_iload 0 dq_MO_clip_143 rfl ?_
              refine fx_aload_n 2 dq_MO_clip_145 rfl rfl ?_
              refine fx_getr ok fq_MO_50 hm.1 dq_MO_clip_146 (by decide) (mo_cy hm).1 ?_
              refine fx_iload_n 3 dq_MO_clip_149 rfl rfl ?_
              refine fx_iaload ok (mo_cy hm).2 (vp_up (mo_has_in hc6) (by decide)) dq_MO_clip_150 ?_
              refine fx_isub dq_MO_clip_151 ?_
              refine fx_iastore ok (mo_ch hm).2 (vp_up (mo_has_in hc6) (by decide)) dq_MO_clip_152 ?_
              refine fx_aload_n 2 dq_MO_clip_153 rfl rfl ?_
              refine fx_getr ok fq_MO_53 hm.1 dq_MO_clip_154 (by decide) (mo_cw hm).1 ?_
              refine fx_iload_n 3 dq_MO_clip_157 rfl rfl ?_
              refine fx_iaload ok (mo_cw hm).2 (vp_up (mo_has_in hc6) (by decide)) dq_MO_clip_158 ?_
              refine fx_if_le (tgt := 172) dq_MO_clip_159 (by decide) (fun hc159 => ?_) (fun hc159 => ?_)
              · -- 159: jump
                refine fx_aload_n 2 dq_MO_clip_172 rfl rfl ?_
                refine fx_getr ok fq_MO_53 hm.1 dq_MO_clip_173 (by decide) (mo_cw hm).1 ?_
                refine fx_iload_n 3 dq_MO_clip_176 rfl rfl ?_
                refine fx_iconst (v := 0) dq_MO_clip_177 (by decide) ?_
                refine fx_iastore ok (mo_cw hm).2 (vp_up (mo_has_in hc6) (by decide)) dq_MO_clip_178 ?_
                refine fx_aload_n 2 dq_MO_clip_179 rfl rfl ?_
                refine fx_getr ok fq_MO_56 hm.1 dq_MO_clip_180 (by decide) (mo_ch hm).1 ?_
                refine fx_iload_n 3 dq_MO_clip_183 rfl rfl ?_
                refine fx_iconst (v := 0) dq_MO_clip_184 (by decide) ?_
                refine fx_iastore ok (mo_ch hm).2 (vp_up (mo_has_in hc6) (by decide)) dq_MO_clip_185 ?_
                exact fx_vreturn rfl dq_MO_clip_186 ⟨rfl, by rw [k_MO_clip, if_neg hc6, if_neg hc18, if_pos hc47, if_neg hc75, if_neg hc99, if_neg hc114, if_pos hc159]⟩
              · -- 159: fall
                refine fx_aload_n 2 dq_MO_clip_162 rfl rfl ?_
                refine fx_getr ok fq_MO_56 hm.1 dq_MO_clip_163 (by decide) (mo_ch hm).1 ?_
                refine fx_iload_n 3 dq_MO_clip_166 rfl rfl ?_
                refine fx_iaload ok (mo_ch hm).2 (vp_up (mo_has_in hc6) (by decide)) dq_MO_clip_167 ?_
                refine fx_if_le (tgt := 172) dq_MO_clip_168 (by decide) (fun hc168 => ?_) (fun hc168 => ?_)
                · -- 168: jump
                  refine fx_aload_n 2 dq_MO_clip_172 rfl rfl ?_
                  refine fx_getr ok fq_MO_53 hm.1 dq_MO_clip_173 (by decide) (mo_cw hm).1 ?_
                  refine fx_iload_n 3 dq_MO_clip_176 rfl rfl ?_
                  refine fx_iconst (v := 0) dq_MO_clip_177 (by decide) ?_
                  refine fx_iastore ok (mo_cw hm).2 (vp_up (mo_has_in hc6) (by decide)) dq_MO_clip_178 ?_
                  refine fx_aload_n 2 dq_MO_clip_179 rfl rfl ?_
                  refine fx_getr ok fq_MO_56 hm.1 dq_MO_clip_180 (by decide) (mo_ch hm).1 ?_
                  refine fx_iload_n 3 dq_MO_clip_183 rfl rfl ?_
                  refine fx_iconst (v := 0) dq_MO_clip_184 (by decide) ?_
                  refine fx_iastore ok (mo_ch hm).2 (vp_up (mo_has_in hc6) (by decide)) dq_MO_clip_185 ?_
                  exact fx_vreturn rfl dq_MO_clip_186 ⟨rfl, by rw [k_MO_clip, if_neg hc6, if_neg hc18, if_pos hc47, if_neg hc75, if_neg hc99, if_neg hc114, if_neg hc159, if_pos hc168]⟩
                · -- 168: fall
                  exact fx_vreturn rfl dq_MO_clip_171 ⟨rfl, by rw [k_MO_clip, if_neg hc6, if_neg hc18, if_pos hc47, if_neg hc75, if_neg hc99, if_neg hc114, if_neg hc159, if_neg hc168]⟩
      · -- 47: fall
        refine fx_iload_n 2 dq_MO_clip_50 rfl rfl ?_
        refine fx_iload 4 dq_MO_clip_51 rfl ?_
        refine fx_iadd dq_MO_clip_53 ?_
        refine fx_goto (tgt := 63) dq_MO_clip_54 (by decide) ?_
        refine fx_istore dq_MO_clip_63 (by decide) rfl ?_
        refine fx_iload_n 4 dq_MO_clip_65 rfl rfl ?_
        refine fx_iload 6 dq_MO_clip_66 rfl ?_
        refine fx_iadd dq_MO_clip_68 ?_
        refine fx_aload_n 1 dq_MO_clip_69 rfl rfl ?_
        refine fx_getr ok fq_MO_20 hm.1 dq_MO_clip_70 (by decide) (mo_rows hm).1 ?_
        refine fx_iload_n 2 dq_MO_clip_73 rfl rfl ?_
        refine fx_iaload ok (mo_rows hm).2 (mo_has_in hc6) dq_MO_clip_74 ?_
        refine fx_icmp_ge (tgt := 85) dq_MO_clip_75 (by decide) (fun hc75 => ?_) (fun hc75 => ?_)
        · -- 75: jump
          refine fx_aload_n 1 dq_MO_clip_85 rfl rfl ?_
          refine fx_getr ok fq_MO_20 hm.1 dq_MO_clip_86 (by decide) (mo_rows hm).1 ?_
          refine fx_iload_n 2 dq_MO_clip_89 rfl rfl ?_
          refine fx_iaload ok (mo_rows hm).2 (mo_has_in hc6) dq_MO_clip_90 ?_
          refine fx_istore dq_MO_clip_91 (by decide) rfl ?_
          refine fx_aload_n 2 dq_MO_clip_93 rfl rfl ?_
          refine fx_getr ok fq_MO_47 hm.1 dq_MO_clip_94 (by decide) (mo_cx hm).1 ?_
          refine fx_iload_n 3 dq_MO_clip_97 rfl rfl ?_
          refine fx_iload_n 4 dq_MO_clip_98 rfl rfl ?_
          refine fx_if_le (tgt := 106) dq_MO_clip_99 (by decide) (fun hc99 => ?_) (fun hc99 => ?_)
          · -- 99: jump
            refine fx_iconst (v := 0) dq_MO_clip_106 (by decide) ?_
            refine fx_iastore ok (mo_cx hm).2 (vp_up (mo_has_in hc6) (by decide)) dq_MO_clip_107 ?_
            refine fx_aload_n 2 dq_MO_clip_108 rfl rfl ?_
            refine fx_getr ok fq_MO_50 hm.1 dq_MO_clip_109 (by decide) (mo_cy hm).1 ?_
            refine fx_iload_n 3 dq_MO_clip_112 rfl rfl ?_
            refine fx_iload_n 5 dq_MO_clip_113 rfl rfl ?_
            refine fx_if_le (tgt := 121) dq_MO_clip_114 (by decide) (fun hc114 => ?_) (fun hc114 => ?_)
            · -- 114: jump
              refine fx_iconst (v := 0) dq_MO_clip_121 (by decide) ?_
              refine fx_iastore ok (mo_cy hm).2 (vp_up (mo_has_in hc6) (by decide)) dq_MO_clip_122 ?_
              refine fx_aload_n 2 dq_MO_clip_123 rfl rfl ?_
              refine fx_getr ok fq_MO_53 hm.1 dq_MO_clip_124 (by decide) (mo_cw hm).1 ?_
              refine fx_iload_n 3 dq_MO_clip_127 rfl rfl ?_
              refine fx_iload 1 dq_MO_clip_128 rfl ?_
              refine fx_aload_n 2 dq_MO_clip_130 rfl rfl ?_
              refine fx_getr ok fq_MO_47 hm.1 dq_MO_clip_131 (by decide) (mo_cx hm).1 ?_
              refine fx_iload_n 3 dq_MO_clip_134 rfl rfl ?_
              refine fx_iaload ok (mo_cx hm).2 (vp_up (mo_has_in hc6) (by decide)) dq_MO_clip_135 ?_
              refine fx_isub dq_MO_clip_136 ?_
              refine fx_iastore ok (mo_cw hm).2 (vp_up (mo_has_in hc6) (by decide)) dq_MO_clip_137 ?_
              refine fx_aload_n 2 dq_MO_clip_138 rfl rfl ?_
              refine fx_getr ok fq_MO_56 hm.1 dq_MO_clip_139 (by decide) (mo_ch hm).1 ?_
              refine fx_iload_n 3 dq_MO_clip_142 rfl rfl ?_
              refine fx_iload 0 dq_MO_clip_143 rfl ?_
              refine fx_aload_n 2 dq_MO_clip_145 rfl rfl ?_
              refine fx_getr ok fq_MO_50 hm.1 dq_MO_clip_146 (by decide) (mo_cy hm).1 ?_
              refine fx_iload_n 3 dq_MO_clip_149 rfl rfl ?_
              refine fx_iaload ok (mo_cy hm).2 (vp_up (mo_has_in hc6) (by decide)) dq_MO_clip_150 ?_
              refine fx_isub dq_MO_clip_151 ?_
              refine fx_iastore ok (mo_ch hm).2 (vp_up (mo_has_in hc6) (by decide)) dq_MO_clip_152 ?_
              refine fx_aload_n 2 dq_MO_clip_153 rfl rfl ?_
              refine fx_getr ok fq_MO_53 hm.1 dq_MO_clip_154 (by decide) (mo_cw hm).1 ?_
              refine fx_iload_n 3 dq_MO_clip_157 rfl rfl ?_
              refine fx_iaload ok (mo_cw hm).2 (vp_up (mo_has_in hc6) (by decide)) dq_MO_clip_158 ?_
              refine fx_if_le (tgt := 172) dq_MO_clip_159 (by decide) (fun hc159 => ?_) (fun hc159 => ?_)
              · -- 159: jump
                refine fx_aload_n 2 dq_MO_clip_172 rfl rfl ?_
                refine fx_getr ok fq_MO_53 hm.1 dq_MO_clip_173 (by decide) (mo_cw hm).1 ?_
                refine fx_iload_n 3 dq_MO_clip_176 rfl rfl ?_
                refine fx_iconst (v := 0) dq_MO_clip_177 (by decide) ?_
                refine fx_iastore ok (mo_cw hm).2 (vp_up (mo_has_in hc6) (by decide)) dq_MO_clip_178 ?_
                refine fx_aload_n 2 dq_MO_clip_179 rfl rfl ?_
                refine fx_getr ok fq_MO_56 hm.1 dq_MO_clip_180 (by decide) (mo_ch hm).1 ?_
                refine fx_iload_n 3 dq_MO_clip_183 rfl rfl ?_
                refine fx_iconst (v := 0) dq_MO_clip_184 (by decide) ?_
                refine fx_iastore ok (mo_ch hm).2 (vp_up (mo_has_in hc6) (by decide)) dq_MO_clip_185 ?_
                exact fx_vreturn rfl dq_MO_clip_186 ⟨rfl, by rw [k_MO_clip, if_neg hc6, if_neg hc18, if_neg hc47, if_pos hc75, if_pos hc99, if_pos hc114, if_pos hc159]⟩
              · -- 159: fall
                refine fx_aload_n 2 dq_MO_clip_162 rfl rfl ?_
                refine fx_getr ok fq_MO_56 hm.1 dq_MO_clip_163 (by decide) (mo_ch hm).1 ?_
                refine fx_iload_n 3 dq_MO_clip_166 rfl rfl ?_
                refine fx_iaload ok (mo_ch hm).2 (vp_up (mo_has_in hc6) (by decide)) dq_MO_clip_167 ?_
                refine fx_if_le (tgt := 172) dq_MO_clip_168 (by decide) (fun hc168 => ?_) (fun hc168 => ?_)
                · -- 168: jump
                  refine fx_aload_n 2 dq_MO_clip_172 rfl rfl ?_
                  refine fx_getr ok fq_MO_53 hm.1 dq_MO_clip_173 (by decide) (mo_cw hm).1 ?_
                  refine fx_iload_n 3 dq_MO_clip_176 rfl rfl ?_
                  refine fx_iconst (v := 0) dq_MO_clip_177 (by decide) ?_
                  refine fx_iastore ok (mo_cw hm).2 (vp_up (mo_has_in hc6) (by decide)) dq_MO_clip_178 ?_
                  refine fx_aload_n 2 dq_MO_clip_179 rfl rfl ?_
                  refine fx_getr ok fq_MO_56 hm.1 dq_MO_clip_180 (by decide) (mo_ch hm).1 ?_
                  refine fx_iload_n 3 dq_MO_clip_183 rfl rfl ?_
                  refine fx_iconst (v := 0) dq_MO_clip_184 (by decide) ?_
                  refine fx_iastore ok (mo_ch hm).2 (vp_up (mo_has_in hc6) (by decide)) dq_MO_clip_185 ?_
                  exact fx_vreturn rfl dq_MO_clip_186 ⟨rfl, by rw [k_MO_clip, if_neg hc6, if_neg hc18, if_neg hc47, if_pos hc75, if_pos hc99, if_pos hc114, if_neg hc159, if_pos hc168]⟩
                · -- 168: fall
                  exact fx_vreturn rfl dq_MO_clip_171 ⟨rfl, by rw [k_MO_clip, if_neg hc6, if_neg hc18, if_neg hc47, if_pos hc75, if_pos hc99, if_pos hc114, if_neg hc159, if_neg hc168]⟩
            · -- 114: fall
              refine fx_iload_n 5 dq_MO_clip_117 rfl rfl ?_
              refine fx_goto (tgt := 122) dq_MO_clip_118 (by decide) ?_
              refine fx_iastore ok (mo_cy hm).2 (vp_up (mo_has_in hc6) (by decide)) dq_MO_clip_122 ?_
              refine fx_aload_n 2 dq_MO_clip_123 rfl rfl ?_
              refine fx_getr ok fq_MO_53 hm.1 dq_MO_clip_124 (by decide) (mo_cw hm).1 ?_
              refine fx_iload_n 3 dq_MO_clip_127 rfl rfl ?_
              refine fx_iload 1 dq_MO_clip_128 rfl ?_
              refine fx_aload_n 2 dq_MO_clip_130 rfl rfl ?_
              refine fx_getr ok fq_MO_47 hm.1 dq_MO_clip_131 (by decide) (mo_cx hm).1 ?_
              refine fx_iload_n 3 dq_MO_clip_134 rfl rfl ?_
              refine fx_iaload ok (mo_cx hm).2 (vp_up (mo_has_in hc6) (by decide)) dq_MO_clip_135 ?_
              refine fx_isub dq_MO_clip_136 ?_
              refine fx_iastore ok (mo_cw hm).2 (vp_up (mo_has_in hc6) (by decide)) dq_MO_clip_137 ?_
              refine fx_aload_n 2 dq_MO_clip_138 rfl rfl ?_
              refine fx_getr ok fq_MO_56 hm.1 dq_MO_clip_139 (by decide) (mo_ch hm).1 ?_
              refine fx_iload_n 3 dq_MO_clip_142 rfl rfl ?_
              refine fx_iload 0 dq_MO_clip_143 rfl ?_
              refine fx_aload_n 2 dq_MO_clip_145 rfl rfl ?_
              refine fx_getr ok fq_MO_50 hm.1 dq_MO_clip_146 (by decide) (mo_cy hm).1 ?_
              refine fx_iload_n 3 dq_MO_clip_149 rfl rfl ?_
              refine fx_iaload ok (mo_cy hm).2 (vp_up (mo_has_in hc6) (by decide)) dq_MO_clip_150 ?_
              refine fx_isub dq_MO_clip_151 ?_
              refine fx_iastore ok (mo_ch hm).2 (vp_up (mo_has_in hc6) (by decide)) dq_MO_clip_152 ?_
              refine fx_aload_n 2 dq_MO_clip_153 rfl rfl ?_
              refine fx_getr ok fq_MO_53 hm.1 dq_MO_clip_154 (by decide) (mo_cw hm).1 ?_
              refine fx_iload_n 3 dq_MO_clip_157 rfl rfl ?_
              refine fx_iaload ok (mo_cw hm).2 (vp_up (mo_has_in hc6) (by decide)) dq_MO_clip_158 ?_
              refine fx_if_le (tgt := 172) dq_MO_clip_159 (by decide) (fun hc159 => ?_) (fun hc159 => ?_)
              · -- 159: jump
                refine fx_aload_n 2 dq_MO_clip_172 rfl rfl ?_
                refine fx_getr ok fq_MO_53 hm.1 dq_MO_clip_173 (by decide) (mo_cw hm).1 ?_
                refine fx_iload_n 3 dq_MO_clip_176 rfl rfl ?_
                refine fx_iconst (v := 0) dq_MO_clip_177 (by decide) ?_
                refine fx_iastore ok (mo_cw hm).2 (vp_up (mo_has_in hc6) (by decide)) dq_MO_clip_178 ?_
                refine fx_aload_n 2 dq_MO_clip_179 rfl rfl ?_
                refine fx_getr ok fq_MO_56 hm.1 dq_MO_clip_180 (by decide) (mo_ch hm).1 ?_
                refine fx_iload_n 3 dq_MO_clip_183 rfl rfl ?_
                refine fx_iconst (v := 0) dq_MO_clip_184 (by decide) ?_
                refine fx_iastore ok (mo_ch hm).2 (vp_up (mo_has_in hc6) (by decide)) dq_MO_clip_185 ?_
                exact fx_vreturn rfl dq_MO_clip_186 ⟨rfl, by rw [k_MO_clip, if_neg hc6, if_neg hc18, if_neg hc47, if_pos hc75, if_pos hc99, if_neg hc114, if_pos hc159]⟩
              · -- 159: fall
                refine fx_aload_n 2 dq_MO_clip_162 rfl rfl ?_
                refine fx_getr ok fq_MO_56 hm.1 dq_MO_clip_163 (by decide) (mo_ch hm).1 ?_
                refine fx_iload_n 3 dq_MO_clip_166 rfl rfl ?_
                refine fx_iaload ok (mo_ch hm).2 (vp_up (mo_has_in hc6) (by decide)) dq_MO_clip_167 ?_
                refine fx_if_le (tgt := 172) dq_MO_clip_168 (by decide) (fun hc168 => ?_) (fun hc168 => ?_)
                · -- 168: jump
                  refine fx_aload_n 2 dq_MO_clip_172 rfl rfl ?_
                  refine fx_getr ok fq_MO_53 hm.1 dq_MO_clip_173 (by decide) (mo_cw hm).1 ?_
                  refine fx_iload_n 3 dq_MO_clip_176 rfl rfl ?_
                  refine fx_iconst (v := 0) dq_MO_clip_177 (by decide) ?_
                  refine fx_iastore ok (mo_cw hm).2 (vp_up (mo_has_in hc6) (by decide)) dq_MO_clip_178 ?_
                  refine fx_aload_n 2 dq_MO_clip_179 rfl rfl ?_
                  refine fx_getr ok fq_MO_56 hm.1 dq_MO_clip_180 (by decide) (mo_ch hm).1 ?_
                  refine fx_iload_n 3 dq_MO_clip_183 rfl rfl ?_
                  refine fx_iconst (v := 0) dq_MO_clip_184 (by decide) ?_
                  refine fx_iastore ok (mo_ch hm).2 (vp_up (mo_has_in hc6) (by decide)) dq_MO_clip_185 ?_
                  exact fx_vreturn rfl dq_MO_clip_186 ⟨rfl, by rw [k_MO_clip, if_neg hc6, if_neg hc18, if_neg hc47, if_pos hc75, if_pos hc99, if_neg hc114, if_neg hc159, if_pos hc168]⟩
                · -- 168: fall
                  exact fx_vreturn rfl dq_MO_clip_171 ⟨rfl, by rw [k_MO_clip, if_neg hc6, if_neg hc18, if_neg hc47, if_pos hc75, if_pos hc99, if_neg hc114, if_neg hc159, if_neg hc168]⟩
          · -- 99: fall
            refine fx_iload_n 4 dq_MO_clip_102 rfl rfl ?_
            refine fx_goto (tgt := 107) dq_MO_clip_103 (by decide) ?_
            refine fx_iastore ok (mo_cx hm).2 (vp_up (mo_has_in hc6) (by decide)) dq_MO_clip_107 ?_
            refine fx_aload_n 2 dq_MO_clip_108 rfl rfl ?_
            refine fx_getr ok fq_MO_50 hm.1 dq_MO_clip_109 (by decide) (mo_cy hm).1 ?_
            refine fx_iload_n 3 dq_MO_clip_112 rfl rfl ?_
            refine fx_iload_n 5 dq_MO_clip_113 rfl rfl ?_
            refine fx_if_le (tgt := 121) dq_MO_clip_114 (by decide) (fun hc114 => ?_) (fun hc114 => ?_)
            · -- 114: jump
              refine fx_iconst (v := 0) dq_MO_clip_121 (by decide) ?_
              refine fx_iastore ok (mo_cy hm).2 (vp_up (mo_has_in hc6) (by decide)) dq_MO_clip_122 ?_
              refine fx_aload_n 2 dq_MO_clip_123 rfl rfl ?_
              refine fx_getr ok fq_MO_53 hm.1 dq_MO_clip_124 (by decide) (mo_cw hm).1 ?_
              refine fx_iload_n 3 dq_MO_clip_127 rfl rfl ?_
              refine fx_iload 1 dq_MO_clip_128 rfl ?_
              refine fx_aload_n 2 dq_MO_clip_130 rfl rfl ?_
              refine fx_getr ok fq_MO_47 hm.1 dq_MO_clip_131 (by decide) (mo_cx hm).1 ?_
              refine fx_iload_n 3 dq_MO_clip_134 rfl rfl ?_
              refine fx_iaload ok (mo_cx hm).2 (vp_up (mo_has_in hc6) (by decide)) dq_MO_clip_135 ?_
              refine fx_isub dq_MO_clip_136 ?_
              refine fx_iastore ok (mo_cw hm).2 (vp_up (mo_has_in hc6) (by decide)) dq_MO_clip_137 ?_
              refine fx_aload_n 2 dq_MO_clip_138 rfl rfl ?_
              refine fx_getr ok fq_MO_56 hm.1 dq_MO_clip_139 (by decide) (mo_ch hm).1 ?_
              refine fx_iload_n 3 dq_MO_clip_142 rfl rfl ?_
              refine fx_iload 0 dq_MO_clip_143 rfl ?_
              refine fx_aload_n 2 dq_MO_clip_145 rfl rfl ?_
              refine fx_getr ok fq_MO_50 hm.1 dq_MO_clip_146 (by decide) (mo_cy hm).1 ?_
              refine fx_iload_n 3 dq_MO_clip_149 rfl rfl ?_
              refine fx_iaload ok (mo_cy hm).2 (vp_up (mo_has_in hc6) (by decide)) dq_MO_clip_150 ?_
              refine fx_isub dq_MO_clip_151 ?_
              refine fx_iastore ok (mo_ch hm).2 (vp_up (mo_has_in hc6) (by decide)) dq_MO_clip_152 ?_
              refine fx_aload_n 2 dq_MO_clip_153 rfl rfl ?_
              refine fx_getr ok fq_MO_53 hm.1 dq_MO_clip_154 (by decide) (mo_cw hm).1 ?_
              refine fx_iload_n 3 dq_MO_clip_157 rfl rfl ?_
              refine fx_iaload ok (mo_cw hm).2 (vp_up (mo_has_in hc6) (by decide)) dq_MO_clip_158 ?_
              refine fx_if_le (tgt := 172) dq_MO_clip_159 (by decide) (fun hc159 => ?_) (fun hc159 => ?_)
              · -- 159: jump
                refine fx_aload_n 2 dq_MO_clip_172 rfl rfl ?_
                refine fx_getr ok fq_MO_53 hm.1 dq_MO_clip_173 (by decide) (mo_cw hm).1 ?_
                refine fx_iload_n 3 dq_MO_clip_176 rfl rfl ?_
                refine fx_iconst (v := 0) dq_MO_clip_177 (by decide) ?_
                refine fx_iastore ok (mo_cw hm).2 (vp_up (mo_has_in hc6) (by decide)) dq_MO_clip_178 ?_
                refine fx_aload_n 2 dq_MO_clip_179 rfl rfl ?_
                refine fx_getr ok fq_MO_56 hm.1 dq_MO_clip_180 (by decide) (mo_ch hm).1 ?_
                refine fx_iload_n 3 dq_MO_clip_183 rfl rfl ?_
                refine fx_iconst (v := 0) dq_MO_clip_184 (by decide) ?_
                refine fx_iastore ok (mo_ch hm).2 (vp_up (mo_has_in hc6) (by decide)) dq_MO_clip_185 ?_
                exact fx_vreturn rfl dq_MO_clip_186 ⟨rfl, by rw [k_MO_clip, if_neg hc6, if_neg hc18, if_neg hc47, if_pos hc75, if_neg hc99, if_pos hc114, if_pos hc159]⟩
              · -- 159: fall
                refine fx_aload_n 2 dq_MO_clip_162 rfl rfl ?_
                refine fx_getr ok fq_MO_56 hm.1 dq_MO_clip_163 (by decide) (mo_ch hm).1 ?_
                refine fx_iload_n 3 dq_MO_clip_166 rfl rfl ?_
                refine fx_iaload ok (mo_ch hm).2 (vp_up (mo_has_in hc6) (by decide)) dq_MO_clip_167 ?_
                refine fx_if_le (tgt := 172) dq_MO_clip_168 (by decide) (fun hc168 => ?_) (fun hc168 => ?_)
                · -- 168: jump
                  refine fx_aload_n 2 dq_MO_clip_172 rfl rfl ?_
                  refine fx_getr ok fq_MO_53 hm.1 dq_MO_clip_173 (by decide) (mo_cw hm).1 ?_
                  refine fx_iload_n 3 dq_MO_clip_176 rfl rfl ?_
                  refine fx_iconst (v := 0) dq_MO_clip_177 (by decide) ?_
                  refine fx_iastore ok (mo_cw hm).2 (vp_up (mo_has_in hc6) (by decide)) dq_MO_clip_178 ?_
                  refine fx_aload_n 2 dq_MO_clip_179 rfl rfl ?_
                  refine fx_getr ok fq_MO_56 hm.1 dq_MO_clip_180 (by decide) (mo_ch hm).1 ?_
                  refine fx_iload_n 3 dq_MO_clip_183 rfl rfl ?_
                  refine fx_iconst (v := 0) dq_MO_clip_184 (by decide) ?_
                  refine fx_iastore ok (mo_ch hm).2 (vp_up (mo_has_in hc6) (by decide)) dq_MO_clip_185 ?_
                  exact fx_vreturn rfl dq_MO_clip_186 ⟨rfl, by rw [k_MO_clip, if_neg hc6, if_neg hc18, if_neg hc47, if_pos hc75, if_neg hc99, if_pos hc114, if_neg hc159, if_pos hc168]⟩
                · -- 168: fall
                  exact fx_vreturn rfl dq_MO_clip_171 ⟨rfl, by rw [k_MO_clip, if_neg hc6, if_neg hc18, if_neg hc47, if_pos hc75, if_neg hc99, if_pos hc114, if_neg hc159, if_neg hc168]⟩
            · -- 114: fall
              refine fx_iload_n 5 dq_MO_clip_117 rfl rfl ?_
              refine fx_goto (tgt := 122) dq_MO_clip_118 (by decide) ?_
              refine fx_iastore ok (mo_cy hm).2 (vp_up (mo_has_in hc6) (by decide)) dq_MO_clip_122 ?_
              refine fx_aload_n 2 dq_MO_clip_123 rfl rfl ?_
              refine fx_getr ok fq_MO_53 hm.1 dq_MO_clip_124 (by decide) (mo_cw hm).1 ?_
              refine fx_iload_n 3 dq_MO_clip_127 rfl rfl ?_
              refine fx_iload 1 dq_MO_clip_128 rfl ?_
              refine fx_aload_n 2 dq_MO_clip_130 rfl rfl ?_
              refine fx_getr ok fq_MO_47 hm.1 dq_MO_clip_131 (by decide) (mo_cx hm).1 ?_
              refine fx_iload_n 3 dq_MO_clip_134 rfl rfl ?_
              refine fx_iaload ok (mo_cx hm).2 (vp_up (mo_has_in hc6) (by decide)) dq_MO_clip_135 ?_
              refine fx_isub dq_MO_clip_136 ?_
              refine fx_iastore ok (mo_cw hm).2 (vp_up (mo_has_in hc6) (by decide)) dq_MO_clip_137 ?_
              refine fx_aload_n 2 dq_MO_clip_138 rfl rfl ?_
              refine fx_getr ok fq_MO_56 hm.1 dq_MO_clip_139 (by decide) (mo_ch hm).1 ?_
              refine fx_iload_n 3 dq_MO_clip_142 rfl rfl ?_
              refine fx_iload 0 dq_MO_clip_143 rfl ?_
              refine fx_aload_n 2 dq_MO_clip_145 rfl rfl ?_
              refine fx_getr ok fq_MO_50 hm.1 dq_MO_clip_146 (by decide) (mo_cy hm).1 ?_
              refine fx_iload_n 3 dq_MO_clip_149 rfl rfl ?_
              refine fx_iaload ok (mo_cy hm).2 (vp_up (mo_has_in hc6) (by decide)) dq_MO_clip_150 ?_
              refine fx_isub dq_MO_clip_151 ?_
              refine fx_iastore ok (mo_ch hm).2 (vp_up (mo_has_in hc6) (by decide)) dq_MO_clip_152 ?_
              refine fx_aload_n 2 dq_MO_clip_153 rfl rfl ?_
              refine fx_getr ok fq_MO_53 hm.1 dq_MO_clip_154 (by decide) (mo_cw hm).1 ?_
              refine fx_iload_n 3 dq_MO_clip_157 rfl rfl ?_
              refine fx_iaload ok (mo_cw hm).2 (vp_up (mo_has_in hc6) (by decide)) dq_MO_clip_158 ?_
              refine fx_if_le (tgt := 172) dq_MO_clip_159 (by decide) (fun hc159 => ?_) (fun hc159 => ?_)
              · -- 159: jump
                refine fx_aload_n 2 dq_MO_clip_172 rfl rfl ?_
                refine fx_getr ok fq_MO_53 hm.1 dq_MO_clip_173 (by decide) (mo_cw hm).1 ?_
                refine fx_iload_n 3 dq_MO_clip_176 rfl rfl ?_
                refine fx_iconst (v := 0) dq_MO_clip_177 (by decide) ?_
                refine fx_iastore ok (mo_cw hm).2 (vp_up (mo_has_in hc6) (by decide)) dq_MO_clip_178 ?_
                refine fx_aload_n 2 dq_MO_clip_179 rfl rfl ?_
                refine fx_getr ok fq_MO_56 hm.1 dq_MO_clip_180 (by decide) (mo_ch hm).1 ?_
                refine fx_iload_n 3 dq_MO_clip_183 rfl rfl ?_
                refine fx_iconst (v := 0) dq_MO_clip_184 (by decide) ?_
                refine fx_iastore ok (mo_ch hm).2 (vp_up (mo_has_in hc6) (by decide)) dq_MO_clip_185 ?_
                exact fx_vreturn rfl dq_MO_clip_186 ⟨rfl, by rw [k_MO_clip, if_neg hc6, if_neg hc18, if_neg hc47, if_pos hc75, if_neg hc99, if_neg hc114, if_pos hc159]⟩
              · -- 159: fall
                refine fx_aload_n 2 dq_MO_clip_162 rfl rfl ?_
                refine fx_getr ok fq_MO_56 hm.1 dq_MO_clip_163 (by decide) (mo_ch hm).1 ?_
                refine fx_iload_n 3 dq_MO_clip_166 rfl rfl ?_
                refine fx_iaload ok (mo_ch hm).2 (vp_up (mo_has_in hc6) (by decide)) dq_MO_clip_167 ?_
                refine fx_if_le (tgt := 172) dq_MO_clip_168 (by decide) (fun hc168 => ?_) (fun hc168 => ?_)
                · -- 168: jump
                  refine fx_aload_n 2 dq_MO_clip_172 rfl rfl ?_
                  refine fx_getr ok fq_MO_53 hm.1 dq_MO_clip_173 (by decide) (mo_cw hm).1 ?_
                  refine fx_iload_n 3 dq_MO_clip_176 rfl rfl ?_
                  refine fx_iconst (v := 0) dq_MO_clip_177 (by decide) ?_
                  refine fx_iastore ok (mo_cw hm).2 (vp_up (mo_has_in hc6) (by decide)) dq_MO_clip_178 ?_
                  refine fx_aload_n 2 dq_MO_clip_179 rfl rfl ?_
                  refine fx_getr ok fq_MO_56 hm.1 dq_MO_clip_180 (by decide) (mo_ch hm).1 ?_
                  refine fx_iload_n 3 dq_MO_clip_183 rfl rfl ?_
                  refine fx_iconst (v := 0) dq_MO_clip_184 (by decide) ?_
                  refine fx_iastore ok (mo_ch hm).2 (vp_up (mo_has_in hc6) (by decide)) dq_MO_clip_185 ?_
                  exact fx_vreturn rfl dq_MO_clip_186 ⟨rfl, by rw [k_MO_clip, if_neg hc6, if_neg hc18, if_neg hc47, if_pos hc75, if_neg hc99, if_neg hc114, if_neg hc159, if_pos hc168]⟩
                · -- 168: fall
                  exact fx_vreturn rfl dq_MO_clip_171 ⟨rfl, by rw [k_MO_clip, if_neg hc6, if_neg hc18, if_neg hc47, if_pos hc75, if_neg hc99, if_neg hc114, if_neg hc159, if_neg hc168]⟩
        · -- 75: fall
          refine fx_iload_n 4 dq_MO_clip_78 rfl rfl ?_
          refine fx_iload 6 dq_MO_clip_79 rfl ?_
          refine fx_iadd dq_MO_clip_81 ?_
          refine fx_goto (tgt := 91) dq_MO_clip_82 (by decide) ?_
          refine fx_istore dq_MO_clip_91 (by decide) rfl ?_
          refine fx_aload_n 2 dq_MO_clip_93 rfl rfl ?_
          refine fx_getr ok fq_MO_47 hm.1 dq_MO_clip_94 (by decide) (mo_cx hm).1 ?_
          refine fx_iload_n 3 dq_MO_clip_97 rfl rfl ?_
          refine fx_iload_n 4 dq_MO_clip_98 rfl rfl ?_
          refine fx_if_le (tgt := 106) dq_MO_clip_99 (by decide) (fun hc99 => ?_) (fun hc99 => ?_)
          · -- 99: jump
            refine fx_iconst (v := 0) dq_MO_clip_106 (by decide) ?_
            refine fx_iastore ok (mo_cx hm).2 (vp_up (mo_has_in hc6) (by decide)) dq_MO_clip_107 ?_
            refine fx_aload_n 2 dq_MO_clip_108 rfl rfl ?_
            refine fx_getr ok fq_MO_50 hm.1 dq_MO_clip_109 (by decide) (mo_cy hm).1 ?_
            refine fx_iload_n 3 dq_MO_clip_112 rfl rfl ?_
            refine fx_iload_n 5 dq_MO_clip_113 rfl rfl ?_
            refine fx_if_le (tgt := 121) dq_MO_clip_114 (by decide) (fun hc114 => ?_) (fun hc114 => ?_)
            · -- 114: jump
              refine fx_iconst (v := 0) dq_MO_clip_121 (by decide) ?_
              refine fx_iastore ok (mo_cy hm).2 (vp_up (mo_has_in hc6) (by decide)) dq_MO_clip_122 ?_
              refine fx_aload_n 2 dq_MO_clip_123 rfl rfl ?_
              refine fx_getr ok fq_MO_53 hm.1 dq_MO_clip_124 (by decide) (mo_cw hm).1 ?_
              refine fx_iload_n 3 dq_MO_clip_127 rfl rfl ?_
              refine fx_iload 1 dq_MO_clip_128 rfl ?_
              refine fx_aload_n 2 dq_MO_clip_130 rfl rfl ?_
              refine fx_getr ok fq_MO_47 hm.1 dq_MO_clip_131 (by decide) (mo_cx hm).1 ?_
              refine fx_iload_n 3 dq_MO_clip_134 rfl rfl ?_
              refine fx_iaload ok (mo_cx hm).2 (vp_up (mo_has_in hc6) (by decide)) dq_MO_clip_135 ?_
              refine fx_isub dq_MO_clip_136 ?_
              refine fx_iastore ok (mo_cw hm).2 (vp_up (mo_has_in hc6) (by decide)) dq_MO_clip_137 ?_
              refine fx_aload_n 2 dq_MO_clip_138 rfl rfl ?_
              refine fx_getr ok fq_MO_56 hm.1 dq_MO_clip_139 (by decide) (mo_ch hm).1 ?_
              refine fx_iload_n 3 dq_MO_clip_142 rfl rfl ?_
              refine fx_iload 0 dq_MO_clip_143 rfl ?_
              refine fx_aload_n 2 dq_MO_clip_145 rfl rfl ?_
              refine fx_getr ok fq_MO_50 hm.1 dq_MO_clip_146 (by decide) (mo_cy hm).1 ?_
              refine fx_iload_n 3 dq_MO_clip_149 rfl rfl ?_
              refine fx_iaload ok (mo_cy hm).2 (vp_up (mo_has_in hc6) (by decide)) dq_MO_clip_150 ?_
              refine fx_isub dq_MO_clip_151 ?_
              refine fx_iastore ok (mo_ch hm).2 (vp_up (mo_has_in hc6) (by decide)) dq_MO_clip_152 ?_
              refine fx_aload_n 2 dq_MO_clip_153 rfl rfl ?_
              refine fx_getr ok fq_MO_53 hm.1 dq_MO_clip_154 (by decide) (mo_cw hm).1 ?_
              refine fx_iload_n 3 dq_MO_clip_157 rfl rfl ?_
              refine fx_iaload ok (mo_cw hm).2 (vp_up (mo_has_in hc6) (by decide)) dq_MO_clip_158 ?_
              refine fx_if_le (tgt := 172) dq_MO_clip_159 (by decide) (fun hc159 => ?_) (fun hc159 => ?_)
              · -- 159: jump
                refine fx_aload_n 2 dq_MO_clip_172 rfl rfl ?_
                refine fx_getr ok fq_MO_53 hm.1 dq_MO_clip_173 (by decide) (mo_cw hm).1 ?_
                refine fx_iload_n 3 dq_MO_clip_176 rfl rfl ?_
                refine fx_iconst (v := 0) dq_MO_clip_177 (by decide) ?_
                refine fx_iastore ok (mo_cw hm).2 (vp_up (mo_has_in hc6) (by decide)) dq_MO_clip_178 ?_
                refine fx_aload_n 2 dq_MO_clip_179 rfl rfl ?_
                refine fx_getr ok fq_MO_56 hm.1 dq_MO_clip_180 (by decide) (mo_ch hm).1 ?_
                refine fx_iload_n 3 dq_MO_clip_183 rfl rfl ?_
                refine fx_iconst (v := 0) dq_MO_clip_184 (by decide) ?_
                refine fx_iastore ok (mo_ch hm).2 (vp_up (mo_has_in hc6) (by decide)) dq_MO_clip_185 ?_
                exact fx_vreturn rfl dq_MO_clip_186 ⟨rfl, by rw [k_MO_clip, if_neg hc6, if_neg hc18, if_neg hc47, if_neg hc75, if_pos hc99, if_pos hc114, if_pos hc159]⟩
              · -- 159: fall
                refine fx_aload_n 2 dq_MO_clip_162 rfl rfl ?_
                refine fx_getr ok fq_MO_56 hm.1 dq_MO_clip_163 (by decide) (mo_ch hm).1 ?_
                refine fx_iload_n 3 dq_MO_clip_166 rfl rfl ?_
                refine fx_iaload ok (mo_ch hm).2 (vp_up (mo_has_in hc6) (by decide)) dq_MO_clip_167 ?_
                refine fx_if_le (tgt := 172) dq_MO_clip_168 (by decide) (fun hc168 => ?_) (fun hc168 => ?_)
                · -- 168: jump
                  refine fx_aload_n 2 dq_MO_clip_172 rfl rfl ?_
                  refine fx_getr ok fq_MO_53 hm.1 dq_MO_clip_173 (by decide) (mo_cw hm).1 ?_
                  refine fx_iload_n 3 dq_MO_clip_176 rfl rfl ?_
                  refine fx_iconst (v := 0) dq_MO_clip_177 (by decide) ?_
                  refine fx_iastore ok (mo_cw hm).2 (vp_up (mo_has_in hc6) (by decide)) dq_MO_clip_178 ?_
                  refine fx_aload_n 2 dq_MO_clip_179 rfl rfl ?_
                  refine fx_getr ok fq_MO_56 hm.1 dq_MO_clip_180 (by decide) (mo_ch hm).1 ?_
                  refine fx_iload_n 3 dq_MO_clip_183 rfl rfl ?_
                  refine fx_iconst (v := 0) dq_MO_clip_184 (by decide) ?_
                  refine fx_iastore ok (mo_ch hm).2 (vp_up (mo_has_in hc6) (by decide)) dq_MO_clip_185 ?_
                  exact fx_vreturn rfl dq_MO_clip_186 ⟨rfl, by rw [k_MO_clip, if_neg hc6, if_neg hc18, if_neg hc47, if_neg hc75, if_pos hc99, if_pos hc114, if_neg hc159, if_pos hc168]⟩
                · -- 168: fall
                  exact fx_vreturn rfl dq_MO_clip_171 ⟨rfl, by rw [k_MO_clip, if_neg hc6, if_neg hc18, if_neg hc47, if_neg hc75, if_pos hc99, if_pos hc114, if_neg hc159, if_neg hc168]⟩
            · -- 114: fall
              refine fx_iload_n 5 dq_MO_clip_117 rfl rfl ?_
              refine fx_goto (tgt := 122) dq_MO_clip_118 (by decide) ?_
              refine fx_iastore ok (mo_cy hm).2 (vp_up (mo_has_in hc6) (by decide)) dq_MO_clip_122 ?_
              refine fx_aload_n 2 dq_MO_clip_123 rfl rfl ?_
              refine fx_getr ok fq_MO_53 hm.1 dq_MO_clip_124 (by decide) (mo_cw hm).1 ?_
              refine fx_iload_n 3 dq_MO_clip_127 rfl rfl ?_
              refine fx_iload 1 dq_MO_clip_128 rfl ?_
              refine fx_aload_n 2 dq_MO_clip_130 rfl rfl ?_
              refine fx_getr ok fq_MO_47 hm.1 dq_MO_clip_131 (by decide) (mo_cx hm).1 ?_
              refine fx_iload_n 3 dq_MO_clip_134 rfl rfl ?_
              refine fx_iaload ok (mo_cx hm).2 (vp_up (mo_has_in hc6) (by decide)) dq_MO_clip_135 ?_
              refine fx_isub dq_MO_clip_136 ?_
              refine fx_iastore ok (mo_cw hm).2 (vp_up (mo_has_in hc6) (by decide)) dq_MO_clip_137 ?_
              refine fx_aload_n 2 dq_MO_clip_138 rfl rfl ?_
              refine fx_getr ok fq_MO_56 hm.1 dq_MO_clip_139 (by decide) (mo_ch hm).1 ?_
              refine fx_iload_n 3 dq_MO_clip_142 rfl rfl ?_
              refine fx_iload 0 dq_MO_clip_143 rfl ?_
              refine fx_aload_n 2 dq_MO_clip_145 rfl rfl ?_
              refine fx_getr ok fq_MO_50 hm.1 dq_MO_clip_146 (by decide) (mo_cy hm).1 ?_
              refine fx_iload_n 3 dq_MO_clip_149 rfl rfl ?_
              refine fx_iaload ok (mo_cy hm).2 (vp_up (mo_has_in hc6) (by decide)) dq_MO_clip_150 ?_
              refine fx_isub dq_MO_clip_151 ?_
              refine fx_iastore ok (mo_ch hm).2 (vp_up (mo_has_in hc6) (by decide)) dq_MO_clip_152 ?_
              refine fx_aload_n 2 dq_MO_clip_153 rfl rfl ?_
              refine fx_getr ok fq_MO_53 hm.1 dq_MO_clip_154 (by decide) (mo_cw hm).1 ?_
              refine fx_iload_n 3 dq_MO_clip_157 rfl rfl ?_
              refine fx_iaload ok (mo_cw hm).2 (vp_up (mo_has_in hc6) (by decide)) dq_MO_clip_158 ?_
              refine fx_if_le (tgt := 172) dq_MO_clip_159 (by decide) (fun hc159 => ?_) (fun hc159 => ?_)
              · -- 159: jump
                refine fx_aload_n 2 dq_MO_clip_172 rfl rfl ?_
                refine fx_getr ok fq_MO_53 hm.1 dq_MO_clip_173 (by decide) (mo_cw hm).1 ?_
                refine fx_iload_n 3 dq_MO_clip_176 rfl rfl ?_
                refine fx_iconst (v := 0) dq_MO_clip_177 (by decide) ?_
                refine fx_iastore ok (mo_cw hm).2 (vp_up (mo_has_in hc6) (by decide)) dq_MO_clip_178 ?_
                refine fx_aload_n 2 dq_MO_clip_179 rfl rfl ?_
                refine fx_getr ok fq_MO_56 hm.1 dq_MO_clip_180 (by decide) (mo_ch hm).1 ?_
                refine fx_iload_n 3 dq_MO_clip_183 rfl rfl ?_
                refine fx_iconst (v := 0) dq_MO_clip_184 (by decide) ?_
                refine fx_iastore ok (mo_ch hm).2 (vp_up (mo_has_in hc6) (by decide)) dq_MO_clip_185 ?_
                exact fx_vreturn rfl dq_MO_clip_186 ⟨rfl, by rw [k_MO_clip, if_neg hc6, if_neg hc18, if_neg hc47, if_neg hc75, if_pos hc99, if_neg hc114, if_pos hc159]⟩
              · -- 159: fall
                refine fx_aload_n 2 dq_MO_clip_162 rfl rfl ?_
                refine fx_getr ok fq_MO_56 hm.1 dq_MO_clip_163 (by decide) (mo_ch hm).1 ?_
                refine fx_iload_n 3 dq_MO_clip_166 rfl rfl ?_
                refine fx_iaload ok (mo_ch hm).2 (vp_up (mo_has_in hc6) (by decide)) dq_MO_clip_167 ?_
                refine fx_if_le (tgt := 172) dq_MO_clip_168 (by decide) (fun hc168 => ?_) (fun hc168 => ?_)
                · -- 168: jump
                  refine fx_aload_n 2 dq_MO_clip_172 rfl rfl ?_
                  refine fx_getr ok fq_MO_53 hm.1 dq_MO_clip_173 (by decide) (mo_cw hm).1 ?_
                  refine fx_iload_n 3 dq_MO_clip_176 rfl rfl ?_
                  refine fx_iconst (v := 0) dq_MO_clip_177 (by decide) ?_
                  refine fx_iastore ok (mo_cw hm).2 (vp_up (mo_has_in hc6) (by decide)) dq_MO_clip_178 ?_
                  refine fx_aload_n 2 dq_MO_clip_179 rfl rfl ?_
                  refine fx_getr ok fq_MO_56 hm.1 dq_MO_clip_180 (by decide) (mo_ch hm).1 ?_
                  refine fx_iload_n 3 dq_MO_clip_183 rfl rfl ?_
                  refine fx_iconst (v := 0) dq_MO_clip_184 (by decide) ?_
                  refine fx_iastore ok (mo_ch hm).2 (vp_up (mo_has_in hc6) (by decide)) dq_MO_clip_185 ?_
                  exact fx_vreturn rfl dq_MO_clip_186 ⟨rfl, by rw [k_MO_clip, if_neg hc6, if_neg hc18, if_neg hc47, if_neg hc75, if_pos hc99, if_neg hc114, if_neg hc159, if_pos hc168]⟩
                · -- 168: fall
                  exact fx_vreturn rfl dq_MO_clip_171 ⟨rfl, by rw [k_MO_clip, if_neg hc6, if_neg hc18, if_neg hc47, if_neg hc75, if_pos hc99, if_neg hc114, if_neg hc159, if_neg hc168]⟩
          · -- 99: fall
            refine fx_iload_n 4 dq_MO_clip_102 rfl rfl ?_
            refine fx_goto (tgt := 107) dq_MO_clip_103 (by decide) ?_
            refine fx_iastore ok (mo_cx hm).2 (vp_up (mo_has_in hc6) (by decide)) dq_MO_clip_107 ?_
            refine fx_aload_n 2 dq_MO_clip_108 rfl rfl ?_
            refine fx_getr ok fq_MO_50 hm.1 dq_MO_clip_109 (by decide) (mo_cy hm).1 ?_
            refine fx_iload_n 3 dq_MO_clip_112 rfl rfl ?_
            refine fx_iload_n 5 dq_MO_clip_113 rfl rfl ?_
            refine fx_if_le (tgt := 121) dq_MO_clip_114 (by decide) (fun hc114 => ?_) (fun hc114 => ?_)
            · -- 114: jump
              refine fx_iconst (v := 0) dq_MO_clip_121 (by decide) ?_
              refine fx_iastore ok (mo_cy hm).2 (vp_up (mo_has_in hc6) (by decide)) dq_MO_clip_122 ?_
              refine fx_aload_n 2 dq_MO_clip_123 rfl rfl ?_
              refine fx_getr ok fq_MO_53 hm.1 dq_MO_clip_124 (by decide) (mo_cw hm).1 ?_
              refine fx_iload_n 3 dq_MO_clip_127 rfl rfl ?_
              refine fx_iload 1 dq_MO_clip_128 rfl ?_
              refine fx_aload_n 2 dq_MO_clip_130 rfl rfl ?_
              refine fx_getr ok fq_MO_47 hm.1 dq_MO_clip_131 (by decide) (mo_cx hm).1 ?_
              refine fx_iload_n 3 dq_MO_clip_134 rfl rfl ?_
              refine fx_iaload ok (mo_cx hm).2 (vp_up (mo_has_in hc6) (by decide)) dq_MO_clip_135 ?_
              refine fx_isub dq_MO_clip_136 ?_
              refine fx_iastore ok (mo_cw hm).2 (vp_up (mo_has_in hc6) (by decide)) dq_MO_clip_137 ?_
              refine fx_aload_n 2 dq_MO_clip_138 rfl rfl ?_
              refine fx_getr ok fq_MO_56 hm.1 dq_MO_clip_139 (by decide) (mo_ch hm).1 ?_
              refine fx_iload_n 3 dq_MO_clip_142 rfl rfl ?_
              refine fx_iload 0 dq_MO_clip_143 rfl ?_
              refine fx_aload_n 2 dq_MO_clip_145 rfl rfl ?_
              refine fx_getr ok fq_MO_50 hm.1 dq_MO_clip_146 (by decide) (mo_cy hm).1 ?_
              refine fx_iload_n 3 dq_MO_clip_149 rfl rfl ?_
              refine fx_iaload ok (mo_cy hm).2 (vp_up (mo_has_in hc6) (by decide)) dq_MO_clip_150 ?_
              refine fx_isub dq_MO_clip_151 ?_
              refine fx_iastore ok (mo_ch hm).2 (vp_up (mo_has_in hc6) (by decide)) dq_MO_clip_152 ?_
              refine fx_aload_n 2 dq_MO_clip_153 rfl rfl ?_
              refine fx_getr ok fq_MO_53 hm.1 dq_MO_clip_154 (by decide) (mo_cw hm).1 ?_
              refine fx_iload_n 3 dq_MO_clip_157 rfl rfl ?_
              refine fx_iaload ok (mo_cw hm).2 (vp_up (mo_has_in hc6) (by decide)) dq_MO_clip_158 ?_
              refine fx_if_le (tgt := 172) dq_MO_clip_159 (by decide) (fun hc159 => ?_) (fun hc159 => ?_)
              · -- 159: jump
                refine fx_aload_n 2 dq_MO_clip_172 rfl rfl ?_
                refine fx_getr ok fq_MO_53 hm.1 dq_MO_clip_173 (by decide) (mo_cw hm).1 ?_
                refine fx_iload_n 3 dq_MO_clip_176 rfl rfl ?_
                refine fx_iconst (v := 0) dq_MO_clip_177 (by decide) ?_
                refine fx_iastore ok (mo_cw hm).2 (vp_up (mo_has_in hc6) (by decide)) dq_MO_clip_178 ?_
                refine fx_aload_n 2 dq_MO_clip_179 rfl rfl ?_
                refine fx_getr ok fq_MO_56 hm.1 dq_MO_clip_180 (by decide) (mo_ch hm).1 ?_
                refine fx_iload_n 3 dq_MO_clip_183 rfl rfl ?_
                refine fx_iconst (v := 0) dq_MO_clip_184 (by decide) ?_
                refine fx_iastore ok (mo_ch hm).2 (vp_up (mo_has_in hc6) (by decide)) dq_MO_clip_185 ?_
                exact fx_vreturn rfl dq_MO_clip_186 ⟨rfl, by rw [k_MO_clip, if_neg hc6, if_neg hc18, if_neg hc47, if_neg hc75, if_neg hc99, if_pos hc114, if_pos hc159]⟩
              · -- 159: fall
                refine fx_aload_n 2 dq_MO_clip_162 rfl rfl ?_
                refine fx_getr ok fq_MO_56 hm.1 dq_MO_clip_163 (by decide) (mo_ch hm).1 ?_
                refine fx_iload_n 3 dq_MO_clip_166 rfl rfl ?_
                refine fx_iaload ok (mo_ch hm).2 (vp_up (mo_has_in hc6) (by decide)) dq_MO_clip_167 ?_
                refine fx_if_le (tgt := 172) dq_MO_clip_168 (by decide) (fun hc168 => ?_) (fun hc168 => ?_)
                · -- 168: jump
                  refine fx_aload_n 2 dq_MO_clip_172 rfl rfl ?_
                  refine fx_getr ok fq_MO_53 hm.1 dq_MO_clip_173 (by decide) (mo_cw hm).1 ?_
                  refine fx_iload_n 3 dq_MO_clip_176 rfl rfl ?_
                  refine fx_iconst (v := 0) dq_MO_clip_177 (by decide) ?_
                  refine fx_iastore ok (mo_cw hm).2 (vp_up (mo_has_in hc6) (by decide)) dq_MO_clip_178 ?_
                  refine fx_aload_n 2 dq_MO_clip_179 rfl rfl ?_
                  refine fx_getr ok fq_MO_56 hm.1 dq_MO_clip_180 (by decide) (mo_ch hm).1 ?_
                  refine fx_iload_n 3 dq_MO_clip_183 rfl rfl ?_
                  refine fx_iconst (v := 0) dq_MO_clip_184 (by decide) ?_
                  refine fx_iastore ok (mo_ch hm).2 (vp_up (mo_has_in hc6) (by decide)) dq_MO_clip_185 ?_
                  exact fx_vreturn rfl dq_MO_clip_186 ⟨rfl, by rw [k_MO_clip, if_neg hc6, if_neg hc18, if_neg hc47, if_neg hc75, if_neg hc99, if_pos hc114, if_neg hc159, if_pos hc168]⟩
                · -- 168: fall
                  exact fx_vreturn rfl dq_MO_clip_171 ⟨rfl, by rw [k_MO_clip, if_neg hc6, if_neg hc18, if_neg hc47, if_neg hc75, if_neg hc99, if_pos hc114, if_neg hc159, if_neg hc168]⟩
            · -- 114: fall
              refine fx_iload_n 5 dq_MO_clip_117 rfl rfl ?_
              refine fx_goto (tgt := 122) dq_MO_clip_118 (by decide) ?_
              refine fx_iastore ok (mo_cy hm).2 (vp_up (mo_has_in hc6) (by decide)) dq_MO_clip_122 ?_
              refine fx_aload_n 2 dq_MO_clip_123 rfl rfl ?_
              refine fx_getr ok fq_MO_53 hm.1 dq_MO_clip_124 (by decide) (mo_cw hm).1 ?_
              refine fx_iload_n 3 dq_MO_clip_127 rfl rfl ?_
              refine fx_iload 1 dq_MO_clip_128 rfl ?_
              refine fx_aload_n 2 dq_MO_clip_130 rfl rfl ?_
              refine fx_getr ok fq_MO_47 hm.1 dq_MO_clip_131 (by decide) (mo_cx hm).1 ?_
              refine fx_iload_n 3 dq_MO_clip_134 rfl rfl ?_
              refine fx_iaload ok (mo_cx hm).2 (vp_up (mo_has_in hc6) (by decide)) dq_MO_clip_135 ?_
              refine fx_isub dq_MO_clip_136 ?_
              refine fx_iastore ok (mo_cw hm).2 (vp_up (mo_has_in hc6) (by decide)) dq_MO_clip_137 ?_
              refine fx_aload_n 2 dq_MO_clip_138 rfl rfl ?_
              refine fx_getr ok fq_MO_56 hm.1 dq_MO_clip_139 (by decide) (mo_ch hm).1 ?_
              refine fx_iload_n 3 dq_MO_clip_142 rfl rfl ?_
              refine fx_iload 0 dq_MO_clip_143 rfl ?_
              refine fx_aload_n 2 dq_MO_clip_145 rfl rfl ?_
              refine fx_getr ok fq_MO_50 hm.1 dq_MO_clip_146 (by decide) (mo_cy hm).1 ?_
              refine fx_iload_n 3 dq_MO_clip_149 rfl rfl ?_
              refine fx_iaload ok (mo_cy hm).2 (vp_up (mo_has_in hc6) (by decide)) dq_MO_clip_150 ?_
              refine fx_isub dq_MO_clip_151 ?_
              refine fx_iastore ok (mo_ch hm).2 (vp_up (mo_has_in hc6) (by decide)) dq_MO_clip_152 ?_
              refine fx_aload_n 2 dq_MO_clip_153 rfl rfl ?_
              refine fx_getr ok fq_MO_53 hm.1 dq_MO_clip_154 (by decide) (mo_cw hm).1 ?_
              refine fx_iload_n 3 dq_MO_clip_157 rfl rfl ?_
              refine fx_iaload ok (mo_cw hm).2 (vp_up (mo_has_in hc6) (by decide)) dq_MO_clip_158 ?_
              refine fx_if_le (tgt := 172) dq_MO_clip_159 (by decide) (fun hc159 => ?_) (fun hc159 => ?_)
              · -- 159: jump
                refine fx_aload_n 2 dq_MO_clip_172 rfl rfl ?_
                refine fx_getr ok fq_MO_53 hm.1 dq_MO_clip_173 (by decide) (mo_cw hm).1 ?_
                refine fx_iload_n 3 dq_MO_clip_176 rfl rfl ?_
                refine fx_iconst (v := 0) dq_MO_clip_177 (by decide) ?_
                refine fx_iastore ok (mo_cw hm).2 (vp_up (mo_has_in hc6) (by decide)) dq_MO_clip_178 ?_
                refine fx_aload_n 2 dq_MO_clip_179 rfl rfl ?_
                refine fx_getr ok fq_MO_56 hm.1 dq_MO_clip_180 (by decide) (mo_ch hm).1 ?_
                refine fx_iload_n 3 dq_MO_clip_183 rfl rfl ?_
                refine fx_iconst (v := 0) dq_MO_clip_184 (by decide) ?_
                refine fx_iastore ok (mo_ch hm).2 (vp_up (mo_has_in hc6) (by decide)) dq_MO_clip_185 ?_
                exact fx_vreturn rfl dq_MO_clip_186 ⟨rfl, by rw [k_MO_clip, if_neg hc6, if_neg hc18, if_neg hc47, if_neg hc75, if_neg hc99, if_neg hc114, if_pos hc159]⟩
              · -- 159: fall
                refine fx_aload_n 2 dq_MO_clip_162 rfl rfl ?_
                refine fx_getr ok fq_MO_56 hm.1 dq_MO_clip_163 (by decide) (mo_ch hm).1 ?_
                refine fx_iload_n 3 dq_MO_clip_166 rfl rfl ?_
                refine fx_iaload ok (mo_ch hm).2 (vp_up (mo_has_in hc6) (by decide)) dq_MO_clip_167 ?_
                refine fx_if_le (tgt := 172) dq_MO_clip_168 (by decide) (fun hc168 => ?_) (fun hc168 => ?_)
                · -- 168: jump
                  refine fx_aload_n 2 dq_MO_clip_172 rfl rfl ?_
                  refine fx_getr ok fq_MO_53 hm.1 dq_MO_clip_173 (by decide) (mo_cw hm).1 ?_
                  refine fx_iload_n 3 dq_MO_clip_176 rfl rfl ?_
                  refine fx_iconst (v := 0) dq_MO_clip_177 (by decide) ?_
                  refine fx_iastore ok (mo_cw hm).2 (vp_up (mo_has_in hc6) (by decide)) dq_MO_clip_178 ?_
                  refine fx_aload_n 2 dq_MO_clip_179 rfl rfl ?_
                  refine fx_getr ok fq_MO_56 hm.1 dq_MO_clip_180 (by decide) (mo_ch hm).1 ?_
                  refine fx_iload_n 3 dq_MO_clip_183 rfl rfl ?_
                  refine fx_iconst (v := 0) dq_MO_clip_184 (by decide) ?_
                  refine fx_iastore ok (mo_ch hm).2 (vp_up (mo_has_in hc6) (by decide)) dq_MO_clip_185 ?_
                  exact fx_vreturn rfl dq_MO_clip_186 ⟨rfl, by rw [k_MO_clip, if_neg hc6, if_neg hc18, if_neg hc47, if_neg hc75, if_neg hc99, if_neg hc114, if_neg hc159, if_pos hc168]⟩
                · -- 168: fall
                  exact fx_vreturn rfl dq_MO_clip_171 ⟨rfl, by rw [k_MO_clip, if_neg hc6, if_neg hc18, if_neg hc47, if_neg hc75, if_neg hc99, if_neg hc114, if_neg hc159, if_neg hc168]⟩
