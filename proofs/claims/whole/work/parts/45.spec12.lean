/-! ===== who comes is one who is left ===== -/
theorem cmn_ok {ro : Int → Int} {left R : Int} : ∀ (f : Nat) (r v : Int), f = (R - r).toNat → 0 ≤ r → r ≤ R → 0 ≤ v → v < das_ ro left R.toNat - das_ ro left r.toNat → 0 ≤ cmn_ ro left R f r v ∧ cmn_ ro left R f r v < R ∧ left / 2 ^ (cmn_ ro left R f r v).toNat % 2 = 1
  | 0, r, v, hf, h0, h1, h2, h3 => by
    have e : r = R := by omega
    rw [e] at h3; omega
  | f + 1, r, v, hf, h0, h1, h2, h3 => by
    rw [cmn_s]
    by_cases c : v < (if left / 2 ^ r.toNat % 2 = 1 then ro (31 + 4 * r + 1) else 0)
    · rw [if_pos c]
      by_cases d : left / 2 ^ r.toNat % 2 = 1
      · exact ⟨h0, by omega, d⟩
      · rw [if_neg d] at c; omega
    · rw [if_neg c]
      refine cmn_ok f (r + 1) _ (by omega) (by omega) (by omega) (by omega) ?_
      rw [das_s h0]; omega
