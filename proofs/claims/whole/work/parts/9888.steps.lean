/-! ===== the steps ===== -/
/-- the steps of both, at most k -/
theorem A_steps {w q f bb : Nat} {n : Int32} (hn : n.toInt ≤ 200) : ∀ (k m : Nat) (a b : fx_H), J (mixH q a b) w q f bb → (m : Int) + k = n.toInt → mkP (w + 89) f bb k a ∧ (lp (drI q n) k (nI m, b)).1 = nI (m + mkC (w + 89) f bb k a) ∧ J (mixH q (mkH (w + 89) f bb k a) (lp (drI q n) k (nI m, b)).2) w q f bb
  | 0, m, a, b, hj, _ => ⟨trivial, by rw [lp_0, mkC, Nat.add_zero], by rw [lp_0, mkH]; exact hj⟩
  | k + 1, m, a, b, hj, hm => by
    have hq := hj.at_
    have e6 : fx_i a (w + 89) 6 = fx_i b q 22 := by
      have := hj.comp.1
      rw [mix_c _ _ (by omega), mix_q] at this
      exact this
    have hlt : ¬ n ≤ nI m := by rw [iz_le, nI_toInt (by omega)]; omega
    rw [mkP, mkC, mkH]
    by_cases hs : fx_i b q 22 = 1
    · have e : drI q n (nI m, b) = some (nI m + Int32.ofInt 1, k_MO_make b q) := by unfold drI; rw [if_neg hlt, if_pos hs]
      obtain ⟨s1, s2, s3⟩ := A_step hj hs
      rw [lp_some e, if_pos (e6.trans hs), if_pos (e6.trans hs)]
      have e1 : nI m + Int32.ofInt 1 = nI (m + 1) := (nI_succ m).symm
      rw [e1]
      obtain ⟨r1, r2, r3⟩ := A_steps hn k (m + 1) _ _ s3 (by omega)
      refine ⟨fun _ => ⟨s1, r1⟩, ?_, r3⟩
      rw [r2]
      congr 1
      omega
    · have e : drI q n (nI m, b) = none := by unfold drI; rw [if_neg hlt, if_neg hs]
      have n6 : ¬ fx_i a (w + 89) 6 = 1 := fun y => hs (e6.symm.trans y)
      rw [lp_none e, if_neg n6, if_neg n6]
      exact ⟨fun y => absurd y n6, by rw [Nat.add_zero], hj⟩
/-- what Model's draw keeps while it makes steps -/
def dI (w q f bb : Nat) (u : fx_H) : Prop := ∃ a, J (mixH q a u) w q f bb
theorem dI_step {w q f bb : Nat} (u : fx_H) (hi : dI w q f bb u) (hs : fx_i u q 22 = 1) : mkPre u q ∧ dI w q f bb (k_MO_make u q) := by
  obtain ⟨a, hj⟩ := hi
  obtain ⟨-, s2, s3⟩ := A_step hj hs
  exact ⟨s2, _, s3⟩
