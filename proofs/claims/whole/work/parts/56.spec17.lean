/-! ===== a plan with minutes left on every seat: where rows and columns come to the same there is one ===== -/
def PX_ (lf : Int → Int) (S : Int) : Prop := ∃ p : Nat, p < 256 ∧ vb_ S S p = true ∧ ∀ r, 0 ≤ r → r < S → 0 < lf (4 * r + dg_ S p r)
theorem px2 {lf : Int → Int} (p : Nat) (hp : p < 256) (hv : vb_ 2 2 p = true) {x0 x1 : Int} (e0 : 4 * 0 + dg_ 2 p 0 = x0) (e1 : 4 * 1 + dg_ 2 p 1 = x1) (h0 : 0 < lf x0) (h1 : 0 < lf x1) : PX_ lf 2 := by
  refine ⟨p, hp, hv, fun r r0 r1 => ?_⟩
  have h : r = 0 ∨ r = 1 := by omega
  rcases h with rfl | rfl
  · rw [e0]; exact h0
  · rw [e1]; exact h1
def BK2_ (lf : Int → Int) (m : Int) : Prop := 0 < m ∧ 0 ≤ lf 0 ∧ 0 ≤ lf 1 ∧ 0 ≤ lf 4 ∧ 0 ≤ lf 5 ∧ lf 0 + lf 1 = m ∧ lf 4 + lf 5 = m ∧ lf 0 + lf 4 = m ∧ lf 1 + lf 5 = m
theorem q2_1 {lf : Int → Int} (h0 : 0 < lf 0) (h5 : 0 < lf 5) : PX_ lf 2 := px2 1 (by decide) (by decide) (x0 := 0) (x1 := 5) (by decide) (by decide) h0 h5
theorem q2_4 {lf : Int → Int} (h1 : 0 < lf 1) (h4 : 0 < lf 4) : PX_ lf 2 := px2 4 (by decide) (by decide) (x0 := 1) (x1 := 4) (by decide) (by decide) h1 h4
theorem z2_1_01 {lf : Int → Int} {m : Int} (H : BK2_ lf m) (h4 : lf 4 ≤ 0) (h5 : lf 5 ≤ 0) : False := by unfold BK2_ at H; omega
theorem z2_01_1 {lf : Int → Int} {m : Int} (H : BK2_ lf m) (h1 : lf 1 ≤ 0) (h5 : lf 5 ≤ 0) : False := by unfold BK2_ at H; omega
theorem z2_01_0 {lf : Int → Int} {m : Int} (H : BK2_ lf m) (h0 : lf 0 ≤ 0) (h4 : lf 4 ≤ 0) : False := by unfold BK2_ at H; omega
theorem z2_0_01 {lf : Int → Int} {m : Int} (H : BK2_ lf m) (h0 : lf 0 ≤ 0) (h1 : lf 1 ≤ 0) : False := by unfold BK2_ at H; omega
set_option maxHeartbeats 4000000 in
theorem bk2 {lf : Int → Int} {m : Int} (H : BK2_ lf m) : PX_ lf 2 := by
  rcases Int.lt_or_le 0 (lf 0) with h0 | h0
  · rcases Int.lt_or_le 0 (lf 5) with h5 | h5
    · exact q2_1 h0 h5
    · rcases Int.lt_or_le 0 (lf 1) with h1 | h1
      · rcases Int.lt_or_le 0 (lf 4) with h4 | h4
        · exact q2_4 h1 h4
        · exact (z2_1_01 H h4 h5).elim
      · exact (z2_01_1 H h1 h5).elim
  · rcases Int.lt_or_le 0 (lf 1) with h1 | h1
    · rcases Int.lt_or_le 0 (lf 4) with h4 | h4
      · exact q2_4 h1 h4
      · exact (z2_01_0 H h0 h4).elim
    · exact (z2_0_01 H h0 h1).elim
theorem px3 {lf : Int → Int} (p : Nat) (hp : p < 256) (hv : vb_ 3 3 p = true) {x0 x1 x2 : Int} (e0 : 4 * 0 + dg_ 3 p 0 = x0) (e1 : 4 * 1 + dg_ 3 p 1 = x1) (e2 : 4 * 2 + dg_ 3 p 2 = x2) (h0 : 0 < lf x0) (h1 : 0 < lf x1) (h2 : 0 < lf x2) : PX_ lf 3 := by
  refine ⟨p, hp, hv, fun r r0 r1 => ?_⟩
  have h : r = 0 ∨ r = 1 ∨ r = 2 := by omega
  rcases h with rfl | rfl | rfl
  · rw [e0]; exact h0
  · rw [e1]; exact h1
  · rw [e2]; exact h2
def BK3_ (lf : Int → Int) (m : Int) : Prop := 0 < m ∧ 0 ≤ lf 0 ∧ 0 ≤ lf 1 ∧ 0 ≤ lf 2 ∧ 0 ≤ lf 4 ∧ 0 ≤ lf 5 ∧ 0 ≤ lf 6 ∧ 0 ≤ lf 8 ∧ 0 ≤ lf 9 ∧ 0 ≤ lf 10 ∧ lf 0 + lf 1 + lf 2 = m ∧ lf 4 + lf 5 + lf 6 = m ∧ lf 8 + lf 9 + lf 10 = m ∧ lf 0 + lf 4 + lf 8 = m ∧ lf 1 + lf 5 + lf 9 = m ∧ lf 2 + lf 6 + lf 10 = m
theorem q3_6 {lf : Int → Int} (h0 : 0 < lf 0) (h5 : 0 < lf 5) (h10 : 0 < lf 10) : PX_ lf 3 := px3 6 (by decide) (by decide) (x0 := 0) (x1 := 5) (x2 := 10) (by decide) (by decide) (by decide) h0 h5 h10
theorem q3_9 {lf : Int → Int} (h0 : 0 < lf 0) (h6 : 0 < lf 6) (h9 : 0 < lf 9) : PX_ lf 3 := px3 9 (by decide) (by decide) (x0 := 0) (x1 := 6) (x2 := 9) (by decide) (by decide) (by decide) h0 h6 h9
theorem q3_24 {lf : Int → Int} (h1 : 0 < lf 1) (h6 : 0 < lf 6) (h8 : 0 < lf 8) : PX_ lf 3 := px3 24 (by decide) (by decide) (x0 := 1) (x1 := 6) (x2 := 8) (by decide) (by decide) (by decide) h1 h6 h8
theorem q3_36 {lf : Int → Int} (h2 : 0 < lf 2) (h5 : 0 < lf 5) (h8 : 0 < lf 8) : PX_ lf 3 := px3 36 (by decide) (by decide) (x0 := 2) (x1 := 5) (x2 := 8) (by decide) (by decide) (by decide) h2 h5 h8
theorem z3_02_12 {lf : Int → Int} {m : Int} (H : BK3_ lf m) (h1 : lf 1 ≤ 0) (h2 : lf 2 ≤ 0) (h9 : lf 9 ≤ 0) (h10 : lf 10 ≤ 0) : False := by unfold BK3_ at H; omega
theorem z3_2_012 {lf : Int → Int} {m : Int} (H : BK3_ lf m) (h8 : lf 8 ≤ 0) (h9 : lf 9 ≤ 0) (h10 : lf 10 ≤ 0) : False := by unfold BK3_ at H; omega
theorem q3_33 {lf : Int → Int} (h2 : 0 < lf 2) (h4 : 0 < lf 4) (h9 : 0 < lf 9) : PX_ lf 3 := px3 33 (by decide) (by decide) (x0 := 2) (x1 := 4) (x2 := 9) (by decide) (by decide) (by decide) h2 h4 h9
theorem z3_12_02 {lf : Int → Int} {m : Int} (H : BK3_ lf m) (h4 : lf 4 ≤ 0) (h6 : lf 6 ≤ 0) (h8 : lf 8 ≤ 0) (h10 : lf 10 ≤ 0) : False := by unfold BK3_ at H; omega
theorem z3_012_2 {lf : Int → Int} {m : Int} (H : BK3_ lf m) (h2 : lf 2 ≤ 0) (h6 : lf 6 ≤ 0) (h10 : lf 10 ≤ 0) : False := by unfold BK3_ at H; omega
theorem q3_18 {lf : Int → Int} (h1 : 0 < lf 1) (h4 : 0 < lf 4) (h10 : 0 < lf 10) : PX_ lf 3 := px3 18 (by decide) (by decide) (x0 := 1) (x1 := 4) (x2 := 10) (by decide) (by decide) (by decide) h1 h4 h10
theorem z3_12_01 {lf : Int → Int} {m : Int} (H : BK3_ lf m) (h4 : lf 4 ≤ 0) (h5 : lf 5 ≤ 0) (h8 : lf 8 ≤ 0) (h9 : lf 9 ≤ 0) : False := by unfold BK3_ at H; omega
theorem z3_012_1 {lf : Int → Int} {m : Int} (H : BK3_ lf m) (h1 : lf 1 ≤ 0) (h5 : lf 5 ≤ 0) (h9 : lf 9 ≤ 0) : False := by unfold BK3_ at H; omega
theorem z3_12_12 {lf : Int → Int} {m : Int} (H : BK3_ lf m) (h5 : lf 5 ≤ 0) (h6 : lf 6 ≤ 0) (h9 : lf 9 ≤ 0) (h10 : lf 10 ≤ 0) : False := by unfold BK3_ at H; omega
theorem z3_01_12 {lf : Int → Int} {m : Int} (H : BK3_ lf m) (h1 : lf 1 ≤ 0) (h2 : lf 2 ≤ 0) (h5 : lf 5 ≤ 0) (h6 : lf 6 ≤ 0) : False := by unfold BK3_ at H; omega
theorem z3_1_012 {lf : Int → Int} {m : Int} (H : BK3_ lf m) (h4 : lf 4 ≤ 0) (h5 : lf 5 ≤ 0) (h6 : lf 6 ≤ 0) : False := by unfold BK3_ at H; omega
theorem z3_02_02 {lf : Int → Int} {m : Int} (H : BK3_ lf m) (h0 : lf 0 ≤ 0) (h2 : lf 2 ≤ 0) (h8 : lf 8 ≤ 0) (h10 : lf 10 ≤ 0) : False := by unfold BK3_ at H; omega
theorem z3_01_02 {lf : Int → Int} {m : Int} (H : BK3_ lf m) (h0 : lf 0 ≤ 0) (h2 : lf 2 ≤ 0) (h4 : lf 4 ≤ 0) (h6 : lf 6 ≤ 0) : False := by unfold BK3_ at H; omega
theorem z3_012_0 {lf : Int → Int} {m : Int} (H : BK3_ lf m) (h0 : lf 0 ≤ 0) (h4 : lf 4 ≤ 0) (h8 : lf 8 ≤ 0) : False := by unfold BK3_ at H; omega
theorem z3_02_01 {lf : Int → Int} {m : Int} (H : BK3_ lf m) (h0 : lf 0 ≤ 0) (h1 : lf 1 ≤ 0) (h8 : lf 8 ≤ 0) (h9 : lf 9 ≤ 0) : False := by unfold BK3_ at H; omega
theorem z3_01_01 {lf : Int → Int} {m : Int} (H : BK3_ lf m) (h0 : lf 0 ≤ 0) (h1 : lf 1 ≤ 0) (h4 : lf 4 ≤ 0) (h5 : lf 5 ≤ 0) : False := by unfold BK3_ at H; omega
theorem z3_0_012 {lf : Int → Int} {m : Int} (H : BK3_ lf m) (h0 : lf 0 ≤ 0) (h1 : lf 1 ≤ 0) (h2 : lf 2 ≤ 0) : False := by unfold BK3_ at H; omega
set_option maxHeartbeats 4000000 in
theorem bk3 {lf : Int → Int} {m : Int} (H : BK3_ lf m) : PX_ lf 3 := by
  rcases Int.lt_or_le 0 (lf 0) with h0 | h0
  · rcases Int.lt_or_le 0 (lf 5) with h5 | h5
    · rcases Int.lt_or_le 0 (lf 10) with h10 | h10
      · exact q3_6 h0 h5 h10
      · rcases Int.lt_or_le 0 (lf 6) with h6 | h6
        · rcases Int.lt_or_le 0 (lf 9) with h9 | h9
          · exact q3_9 h0 h6 h9
          · rcases Int.lt_or_le 0 (lf 8) with h8 | h8
            · rcases Int.lt_or_le 0 (lf 1) with h1 | h1
              · exact q3_24 h1 h6 h8
              · rcases Int.lt_or_le 0 (lf 2) with h2 | h2
                · exact q3_36 h2 h5 h8
                · exact (z3_02_12 H h1 h2 h9 h10).elim
            · exact (z3_2_012 H h8 h9 h10).elim
        · rcases Int.lt_or_le 0 (lf 2) with h2 | h2
          · rcases Int.lt_or_le 0 (lf 8) with h8 | h8
            · exact q3_36 h2 h5 h8
            · rcases Int.lt_or_le 0 (lf 4) with h4 | h4
              · rcases Int.lt_or_le 0 (lf 9) with h9 | h9
                · exact q3_33 h2 h4 h9
                · exact (z3_2_012 H h8 h9 h10).elim
              · exact (z3_12_02 H h4 h6 h8 h10).elim
          · exact (z3_012_2 H h2 h6 h10).elim
    · rcases Int.lt_or_le 0 (lf 6) with h6 | h6
      · rcases Int.lt_or_le 0 (lf 9) with h9 | h9
        · exact q3_9 h0 h6 h9
        · rcases Int.lt_or_le 0 (lf 1) with h1 | h1
          · rcases Int.lt_or_le 0 (lf 8) with h8 | h8
            · exact q3_24 h1 h6 h8
            · rcases Int.lt_or_le 0 (lf 4) with h4 | h4
              · rcases Int.lt_or_le 0 (lf 10) with h10 | h10
                · exact q3_18 h1 h4 h10
                · exact (z3_2_012 H h8 h9 h10).elim
              · exact (z3_12_01 H h4 h5 h8 h9).elim
          · exact (z3_012_1 H h1 h5 h9).elim
      · rcases Int.lt_or_le 0 (lf 4) with h4 | h4
        · rcases Int.lt_or_le 0 (lf 1) with h1 | h1
          · rcases Int.lt_or_le 0 (lf 10) with h10 | h10
            · exact q3_18 h1 h4 h10
            · rcases Int.lt_or_le 0 (lf 2) with h2 | h2
              · rcases Int.lt_or_le 0 (lf 9) with h9 | h9
                · exact q3_33 h2 h4 h9
                · exact (z3_12_12 H h5 h6 h9 h10).elim
              · exact (z3_012_2 H h2 h6 h10).elim
          · rcases Int.lt_or_le 0 (lf 2) with h2 | h2
            · rcases Int.lt_or_le 0 (lf 9) with h9 | h9
              · exact q3_33 h2 h4 h9
              · exact (z3_012_1 H h1 h5 h9).elim
            · exact (z3_01_12 H h1 h2 h5 h6).elim
        · exact (z3_1_012 H h4 h5 h6).elim
  · rcases Int.lt_or_le 0 (lf 1) with h1 | h1
    · rcases Int.lt_or_le 0 (lf 4) with h4 | h4
      · rcases Int.lt_or_le 0 (lf 10) with h10 | h10
        · exact q3_18 h1 h4 h10
        · rcases Int.lt_or_le 0 (lf 6) with h6 | h6
          · rcases Int.lt_or_le 0 (lf 8) with h8 | h8
            · exact q3_24 h1 h6 h8
            · rcases Int.lt_or_le 0 (lf 2) with h2 | h2
              · rcases Int.lt_or_le 0 (lf 9) with h9 | h9
                · exact q3_33 h2 h4 h9
                · exact (z3_2_012 H h8 h9 h10).elim
              · exact (z3_02_02 H h0 h2 h8 h10).elim
          · rcases Int.lt_or_le 0 (lf 2) with h2 | h2
            · rcases Int.lt_or_le 0 (lf 9) with h9 | h9
              · exact q3_33 h2 h4 h9
              · rcases Int.lt_or_le 0 (lf 5) with h5 | h5
                · rcases Int.lt_or_le 0 (lf 8) with h8 | h8
                  · exact q3_36 h2 h5 h8
                  · exact (z3_2_012 H h8 h9 h10).elim
                · exact (z3_12_12 H h5 h6 h9 h10).elim
            · exact (z3_012_2 H h2 h6 h10).elim
      · rcases Int.lt_or_le 0 (lf 8) with h8 | h8
        · rcases Int.lt_or_le 0 (lf 6) with h6 | h6
          · exact q3_24 h1 h6 h8
          · rcases Int.lt_or_le 0 (lf 2) with h2 | h2
            · rcases Int.lt_or_le 0 (lf 5) with h5 | h5
              · exact q3_36 h2 h5 h8
              · exact (z3_1_012 H h4 h5 h6).elim
            · exact (z3_01_02 H h0 h2 h4 h6).elim
        · exact (z3_012_0 H h0 h4 h8).elim
    · rcases Int.lt_or_le 0 (lf 2) with h2 | h2
      · rcases Int.lt_or_le 0 (lf 4) with h4 | h4
        · rcases Int.lt_or_le 0 (lf 9) with h9 | h9
          · exact q3_33 h2 h4 h9
          · rcases Int.lt_or_le 0 (lf 5) with h5 | h5
            · rcases Int.lt_or_le 0 (lf 8) with h8 | h8
              · exact q3_36 h2 h5 h8
              · exact (z3_02_01 H h0 h1 h8 h9).elim
            · exact (z3_012_1 H h1 h5 h9).elim
        · rcases Int.lt_or_le 0 (lf 5) with h5 | h5
          · rcases Int.lt_or_le 0 (lf 8) with h8 | h8
            · exact q3_36 h2 h5 h8
            · exact (z3_012_0 H h0 h4 h8).elim
          · exact (z3_01_01 H h0 h1 h4 h5).elim
      · exact (z3_0_012 H h0 h1 h2).elim
theorem px4 {lf : Int → Int} (p : Nat) (hp : p < 256) (hv : vb_ 4 4 p = true) {x0 x1 x2 x3 : Int} (e0 : 4 * 0 + dg_ 4 p 0 = x0) (e1 : 4 * 1 + dg_ 4 p 1 = x1) (e2 : 4 * 2 + dg_ 4 p 2 = x2) (e3 : 4 * 3 + dg_ 4 p 3 = x3) (h0 : 0 < lf x0) (h1 : 0 < lf x1) (h2 : 0 < lf x2) (h3 : 0 < lf x3) : PX_ lf 4 := by
  refine ⟨p, hp, hv, fun r r0 r1 => ?_⟩
  have h : r = 0 ∨ r = 1 ∨ r = 2 ∨ r = 3 := by omega
  rcases h with rfl | rfl | rfl | rfl
  · rw [e0]; exact h0
  · rw [e1]; exact h1
  · rw [e2]; exact h2
  · rw [e3]; exact h3
def BK4_ (lf : Int → Int) (m : Int) : Prop := 0 < m ∧ 0 ≤ lf 0 ∧ 0 ≤ lf 1 ∧ 0 ≤ lf 2 ∧ 0 ≤ lf 3 ∧ 0 ≤ lf 4 ∧ 0 ≤ lf 5 ∧ 0 ≤ lf 6 ∧ 0 ≤ lf 7 ∧ 0 ≤ lf 8 ∧ 0 ≤ lf 9 ∧ 0 ≤ lf 10 ∧ 0 ≤ lf 11 ∧ 0 ≤ lf 12 ∧ 0 ≤ lf 13 ∧ 0 ≤ lf 14 ∧ 0 ≤ lf 15 ∧ lf 0 + lf 1 + lf 2 + lf 3 = m ∧ lf 4 + lf 5 + lf 6 + lf 7 = m ∧ lf 8 + lf 9 + lf 10 + lf 11 = m ∧ lf 12 + lf 13 + lf 14 + lf 15 = m ∧ lf 0 + lf 4 + lf 8 + lf 12 = m ∧ lf 1 + lf 5 + lf 9 + lf 13 = m ∧ lf 2 + lf 6 + lf 10 + lf 14 = m ∧ lf 3 + lf 7 + lf 11 + lf 15 = m
theorem q4_27 {lf : Int → Int} (h0 : 0 < lf 0) (h5 : 0 < lf 5) (h10 : 0 < lf 10) (h15 : 0 < lf 15) : PX_ lf 4 := px4 27 (by decide) (by decide) (x0 := 0) (x1 := 5) (x2 := 10) (x3 := 15) (by decide) (by decide) (by decide) (by decide) h0 h5 h10 h15
theorem q4_30 {lf : Int → Int} (h0 : 0 < lf 0) (h5 : 0 < lf 5) (h11 : 0 < lf 11) (h14 : 0 < lf 14) : PX_ lf 4 := px4 30 (by decide) (by decide) (x0 := 0) (x1 := 5) (x2 := 11) (x3 := 14) (by decide) (by decide) (by decide) (by decide) h0 h5 h11 h14
theorem q4_45 {lf : Int → Int} (h0 : 0 < lf 0) (h6 : 0 < lf 6) (h11 : 0 < lf 11) (h13 : 0 < lf 13) : PX_ lf 4 := px4 45 (by decide) (by decide) (x0 := 0) (x1 := 6) (x2 := 11) (x3 := 13) (by decide) (by decide) (by decide) (by decide) h0 h6 h11 h13
theorem q4_57 {lf : Int → Int} (h0 : 0 < lf 0) (h7 : 0 < lf 7) (h10 : 0 < lf 10) (h13 : 0 < lf 13) : PX_ lf 4 := px4 57 (by decide) (by decide) (x0 := 0) (x1 := 7) (x2 := 10) (x3 := 13) (by decide) (by decide) (by decide) (by decide) h0 h7 h10 h13
theorem q4_141 {lf : Int → Int} (h2 : 0 < lf 2) (h4 : 0 < lf 4) (h11 : 0 < lf 11) (h13 : 0 < lf 13) : PX_ lf 4 := px4 141 (by decide) (by decide) (x0 := 2) (x1 := 4) (x2 := 11) (x3 := 13) (by decide) (by decide) (by decide) (by decide) h2 h4 h11 h13
theorem q4_156 {lf : Int → Int} (h2 : 0 < lf 2) (h5 : 0 < lf 5) (h11 : 0 < lf 11) (h12 : 0 < lf 12) : PX_ lf 4 := px4 156 (by decide) (by decide) (x0 := 2) (x1 := 5) (x2 := 11) (x3 := 12) (by decide) (by decide) (by decide) (by decide) h2 h5 h11 h12
theorem z4_13_023 {lf : Int → Int} {m : Int} (H : BK4_ lf m) (h4 : lf 4 ≤ 0) (h6 : lf 6 ≤ 0) (h7 : lf 7 ≤ 0) (h12 : lf 12 ≤ 0) (h14 : lf 14 ≤ 0) (h15 : lf 15 ≤ 0) : False := by unfold BK4_ at H; omega
theorem q4_201 {lf : Int → Int} (h3 : 0 < lf 3) (h4 : 0 < lf 4) (h10 : 0 < lf 10) (h13 : 0 < lf 13) : PX_ lf 4 := px4 201 (by decide) (by decide) (x0 := 3) (x1 := 4) (x2 := 10) (x3 := 13) (by decide) (by decide) (by decide) (by decide) h3 h4 h10 h13
theorem q4_216 {lf : Int → Int} (h3 : 0 < lf 3) (h5 : 0 < lf 5) (h10 : 0 < lf 10) (h12 : 0 < lf 12) : PX_ lf 4 := px4 216 (by decide) (by decide) (x0 := 3) (x1 := 5) (x2 := 10) (x3 := 12) (by decide) (by decide) (by decide) (by decide) h3 h5 h10 h12
theorem z4_013_23 {lf : Int → Int} {m : Int} (H : BK4_ lf m) (h2 : lf 2 ≤ 0) (h3 : lf 3 ≤ 0) (h6 : lf 6 ≤ 0) (h7 : lf 7 ≤ 0) (h14 : lf 14 ≤ 0) (h15 : lf 15 ≤ 0) : False := by unfold BK4_ at H; omega
theorem q4_108 {lf : Int → Int} (h1 : 0 < lf 1) (h6 : 0 < lf 6) (h11 : 0 < lf 11) (h12 : 0 < lf 12) : PX_ lf 4 := px4 108 (by decide) (by decide) (x0 := 1) (x1 := 6) (x2 := 11) (x3 := 12) (by decide) (by decide) (by decide) (by decide) h1 h6 h11 h12
theorem q4_120 {lf : Int → Int} (h1 : 0 < lf 1) (h7 : 0 < lf 7) (h10 : 0 < lf 10) (h12 : 0 < lf 12) : PX_ lf 4 := px4 120 (by decide) (by decide) (x0 := 1) (x1 := 7) (x2 := 10) (x3 := 12) (by decide) (by decide) (by decide) (by decide) h1 h7 h10 h12
theorem z4_03_123 {lf : Int → Int} {m : Int} (H : BK4_ lf m) (h1 : lf 1 ≤ 0) (h2 : lf 2 ≤ 0) (h3 : lf 3 ≤ 0) (h13 : lf 13 ≤ 0) (h14 : lf 14 ≤ 0) (h15 : lf 15 ≤ 0) : False := by unfold BK4_ at H; omega
theorem z4_3_0123 {lf : Int → Int} {m : Int} (H : BK4_ lf m) (h12 : lf 12 ≤ 0) (h13 : lf 13 ≤ 0) (h14 : lf 14 ≤ 0) (h15 : lf 15 ≤ 0) : False := by unfold BK4_ at H; omega
theorem q4_54 {lf : Int → Int} (h0 : 0 < lf 0) (h7 : 0 < lf 7) (h9 : 0 < lf 9) (h14 : 0 < lf 14) : PX_ lf 4 := px4 54 (by decide) (by decide) (x0 := 0) (x1 := 7) (x2 := 9) (x3 := 14) (by decide) (by decide) (by decide) (by decide) h0 h7 h9 h14
theorem q4_114 {lf : Int → Int} (h1 : 0 < lf 1) (h7 : 0 < lf 7) (h8 : 0 < lf 8) (h14 : 0 < lf 14) : PX_ lf 4 := px4 114 (by decide) (by decide) (x0 := 1) (x1 := 7) (x2 := 8) (x3 := 14) (by decide) (by decide) (by decide) (by decide) h1 h7 h8 h14
theorem z4_23_013 {lf : Int → Int} {m : Int} (H : BK4_ lf m) (h8 : lf 8 ≤ 0) (h9 : lf 9 ≤ 0) (h11 : lf 11 ≤ 0) (h12 : lf 12 ≤ 0) (h13 : lf 13 ≤ 0) (h15 : lf 15 ≤ 0) : False := by unfold BK4_ at H; omega
theorem q4_210 {lf : Int → Int} (h3 : 0 < lf 3) (h5 : 0 < lf 5) (h8 : 0 < lf 8) (h14 : 0 < lf 14) : PX_ lf 4 := px4 210 (by decide) (by decide) (x0 := 3) (x1 := 5) (x2 := 8) (x3 := 14) (by decide) (by decide) (by decide) (by decide) h3 h5 h8 h14
theorem z4_023_13 {lf : Int → Int} {m : Int} (H : BK4_ lf m) (h1 : lf 1 ≤ 0) (h3 : lf 3 ≤ 0) (h9 : lf 9 ≤ 0) (h11 : lf 11 ≤ 0) (h13 : lf 13 ≤ 0) (h15 : lf 15 ≤ 0) : False := by unfold BK4_ at H; omega
theorem q4_180 {lf : Int → Int} (h2 : 0 < lf 2) (h7 : 0 < lf 7) (h9 : 0 < lf 9) (h12 : 0 < lf 12) : PX_ lf 4 := px4 180 (by decide) (by decide) (x0 := 2) (x1 := 7) (x2 := 9) (x3 := 12) (by decide) (by decide) (by decide) (by decide) h2 h7 h9 h12
theorem q4_198 {lf : Int → Int} (h3 : 0 < lf 3) (h4 : 0 < lf 4) (h9 : 0 < lf 9) (h14 : 0 < lf 14) : PX_ lf 4 := px4 198 (by decide) (by decide) (x0 := 3) (x1 := 4) (x2 := 9) (x3 := 14) (by decide) (by decide) (by decide) (by decide) h3 h4 h9 h14
theorem q4_225 {lf : Int → Int} (h3 : 0 < lf 3) (h6 : 0 < lf 6) (h8 : 0 < lf 8) (h13 : 0 < lf 13) : PX_ lf 4 := px4 225 (by decide) (by decide) (x0 := 3) (x1 := 6) (x2 := 8) (x3 := 13) (by decide) (by decide) (by decide) (by decide) h3 h6 h8 h13
theorem z4_123_03 {lf : Int → Int} {m : Int} (H : BK4_ lf m) (h4 : lf 4 ≤ 0) (h7 : lf 7 ≤ 0) (h8 : lf 8 ≤ 0) (h11 : lf 11 ≤ 0) (h12 : lf 12 ≤ 0) (h15 : lf 15 ≤ 0) : False := by unfold BK4_ at H; omega
theorem z4_0123_3 {lf : Int → Int} {m : Int} (H : BK4_ lf m) (h3 : lf 3 ≤ 0) (h7 : lf 7 ≤ 0) (h11 : lf 11 ≤ 0) (h15 : lf 15 ≤ 0) : False := by unfold BK4_ at H; omega
theorem q4_39 {lf : Int → Int} (h0 : 0 < lf 0) (h6 : 0 < lf 6) (h9 : 0 < lf 9) (h15 : 0 < lf 15) : PX_ lf 4 := px4 39 (by decide) (by decide) (x0 := 0) (x1 := 6) (x2 := 9) (x3 := 15) (by decide) (by decide) (by decide) (by decide) h0 h6 h9 h15
theorem q4_99 {lf : Int → Int} (h1 : 0 < lf 1) (h6 : 0 < lf 6) (h8 : 0 < lf 8) (h15 : 0 < lf 15) : PX_ lf 4 := px4 99 (by decide) (by decide) (x0 := 1) (x1 := 6) (x2 := 8) (x3 := 15) (by decide) (by decide) (by decide) (by decide) h1 h6 h8 h15
theorem z4_23_012 {lf : Int → Int} {m : Int} (H : BK4_ lf m) (h8 : lf 8 ≤ 0) (h9 : lf 9 ≤ 0) (h10 : lf 10 ≤ 0) (h12 : lf 12 ≤ 0) (h13 : lf 13 ≤ 0) (h14 : lf 14 ≤ 0) : False := by unfold BK4_ at H; omega
theorem q4_147 {lf : Int → Int} (h2 : 0 < lf 2) (h5 : 0 < lf 5) (h8 : 0 < lf 8) (h15 : 0 < lf 15) : PX_ lf 4 := px4 147 (by decide) (by decide) (x0 := 2) (x1 := 5) (x2 := 8) (x3 := 15) (by decide) (by decide) (by decide) (by decide) h2 h5 h8 h15
theorem z4_023_12 {lf : Int → Int} {m : Int} (H : BK4_ lf m) (h1 : lf 1 ≤ 0) (h2 : lf 2 ≤ 0) (h9 : lf 9 ≤ 0) (h10 : lf 10 ≤ 0) (h13 : lf 13 ≤ 0) (h14 : lf 14 ≤ 0) : False := by unfold BK4_ at H; omega
theorem q4_228 {lf : Int → Int} (h3 : 0 < lf 3) (h6 : 0 < lf 6) (h9 : 0 < lf 9) (h12 : 0 < lf 12) : PX_ lf 4 := px4 228 (by decide) (by decide) (x0 := 3) (x1 := 6) (x2 := 9) (x3 := 12) (by decide) (by decide) (by decide) (by decide) h3 h6 h9 h12
theorem q4_135 {lf : Int → Int} (h2 : 0 < lf 2) (h4 : 0 < lf 4) (h9 : 0 < lf 9) (h15 : 0 < lf 15) : PX_ lf 4 := px4 135 (by decide) (by decide) (x0 := 2) (x1 := 4) (x2 := 9) (x3 := 15) (by decide) (by decide) (by decide) (by decide) h2 h4 h9 h15
theorem q4_177 {lf : Int → Int} (h2 : 0 < lf 2) (h7 : 0 < lf 7) (h8 : 0 < lf 8) (h13 : 0 < lf 13) : PX_ lf 4 := px4 177 (by decide) (by decide) (x0 := 2) (x1 := 7) (x2 := 8) (x3 := 13) (by decide) (by decide) (by decide) (by decide) h2 h7 h8 h13
theorem z4_123_02 {lf : Int → Int} {m : Int} (H : BK4_ lf m) (h4 : lf 4 ≤ 0) (h6 : lf 6 ≤ 0) (h8 : lf 8 ≤ 0) (h10 : lf 10 ≤ 0) (h12 : lf 12 ≤ 0) (h14 : lf 14 ≤ 0) : False := by unfold BK4_ at H; omega
theorem z4_0123_2 {lf : Int → Int} {m : Int} (H : BK4_ lf m) (h2 : lf 2 ≤ 0) (h6 : lf 6 ≤ 0) (h10 : lf 10 ≤ 0) (h14 : lf 14 ≤ 0) : False := by unfold BK4_ at H; omega
theorem z4_23_023 {lf : Int → Int} {m : Int} (H : BK4_ lf m) (h8 : lf 8 ≤ 0) (h10 : lf 10 ≤ 0) (h11 : lf 11 ≤ 0) (h12 : lf 12 ≤ 0) (h14 : lf 14 ≤ 0) (h15 : lf 15 ≤ 0) : False := by unfold BK4_ at H; omega
theorem z4_023_23 {lf : Int → Int} {m : Int} (H : BK4_ lf m) (h2 : lf 2 ≤ 0) (h3 : lf 3 ≤ 0) (h10 : lf 10 ≤ 0) (h11 : lf 11 ≤ 0) (h14 : lf 14 ≤ 0) (h15 : lf 15 ≤ 0) : False := by unfold BK4_ at H; omega
theorem z4_12_023 {lf : Int → Int} {m : Int} (H : BK4_ lf m) (h4 : lf 4 ≤ 0) (h6 : lf 6 ≤ 0) (h7 : lf 7 ≤ 0) (h8 : lf 8 ≤ 0) (h10 : lf 10 ≤ 0) (h11 : lf 11 ≤ 0) : False := by unfold BK4_ at H; omega
theorem z4_012_23 {lf : Int → Int} {m : Int} (H : BK4_ lf m) (h2 : lf 2 ≤ 0) (h3 : lf 3 ≤ 0) (h6 : lf 6 ≤ 0) (h7 : lf 7 ≤ 0) (h10 : lf 10 ≤ 0) (h11 : lf 11 ≤ 0) : False := by unfold BK4_ at H; omega
theorem z4_123_23 {lf : Int → Int} {m : Int} (H : BK4_ lf m) (h6 : lf 6 ≤ 0) (h7 : lf 7 ≤ 0) (h10 : lf 10 ≤ 0) (h11 : lf 11 ≤ 0) (h14 : lf 14 ≤ 0) (h15 : lf 15 ≤ 0) : False := by unfold BK4_ at H; omega
theorem z4_23_123 {lf : Int → Int} {m : Int} (H : BK4_ lf m) (h9 : lf 9 ≤ 0) (h10 : lf 10 ≤ 0) (h11 : lf 11 ≤ 0) (h13 : lf 13 ≤ 0) (h14 : lf 14 ≤ 0) (h15 : lf 15 ≤ 0) : False := by unfold BK4_ at H; omega
theorem z4_02_123 {lf : Int → Int} {m : Int} (H : BK4_ lf m) (h1 : lf 1 ≤ 0) (h2 : lf 2 ≤ 0) (h3 : lf 3 ≤ 0) (h9 : lf 9 ≤ 0) (h10 : lf 10 ≤ 0) (h11 : lf 11 ≤ 0) : False := by unfold BK4_ at H; omega
theorem z4_2_0123 {lf : Int → Int} {m : Int} (H : BK4_ lf m) (h8 : lf 8 ≤ 0) (h9 : lf 9 ≤ 0) (h10 : lf 10 ≤ 0) (h11 : lf 11 ≤ 0) : False := by unfold BK4_ at H; omega
theorem q4_78 {lf : Int → Int} (h1 : 0 < lf 1) (h4 : 0 < lf 4) (h11 : 0 < lf 11) (h14 : 0 < lf 14) : PX_ lf 4 := px4 78 (by decide) (by decide) (x0 := 1) (x1 := 4) (x2 := 11) (x3 := 14) (by decide) (by decide) (by decide) (by decide) h1 h4 h11 h14
theorem z4_13_013 {lf : Int → Int} {m : Int} (H : BK4_ lf m) (h4 : lf 4 ≤ 0) (h5 : lf 5 ≤ 0) (h7 : lf 7 ≤ 0) (h12 : lf 12 ≤ 0) (h13 : lf 13 ≤ 0) (h15 : lf 15 ≤ 0) : False := by unfold BK4_ at H; omega
theorem z4_013_13 {lf : Int → Int} {m : Int} (H : BK4_ lf m) (h1 : lf 1 ≤ 0) (h3 : lf 3 ≤ 0) (h5 : lf 5 ≤ 0) (h7 : lf 7 ≤ 0) (h13 : lf 13 ≤ 0) (h15 : lf 15 ≤ 0) : False := by unfold BK4_ at H; omega
theorem z4_12_013 {lf : Int → Int} {m : Int} (H : BK4_ lf m) (h4 : lf 4 ≤ 0) (h5 : lf 5 ≤ 0) (h7 : lf 7 ≤ 0) (h8 : lf 8 ≤ 0) (h9 : lf 9 ≤ 0) (h11 : lf 11 ≤ 0) : False := by unfold BK4_ at H; omega
theorem q4_75 {lf : Int → Int} (h1 : 0 < lf 1) (h4 : 0 < lf 4) (h10 : 0 < lf 10) (h15 : 0 < lf 15) : PX_ lf 4 := px4 75 (by decide) (by decide) (x0 := 1) (x1 := 4) (x2 := 10) (x3 := 15) (by decide) (by decide) (by decide) (by decide) h1 h4 h10 h15
theorem z4_012_13 {lf : Int → Int} {m : Int} (H : BK4_ lf m) (h1 : lf 1 ≤ 0) (h3 : lf 3 ≤ 0) (h5 : lf 5 ≤ 0) (h7 : lf 7 ≤ 0) (h9 : lf 9 ≤ 0) (h11 : lf 11 ≤ 0) : False := by unfold BK4_ at H; omega
theorem z4_123_13 {lf : Int → Int} {m : Int} (H : BK4_ lf m) (h5 : lf 5 ≤ 0) (h7 : lf 7 ≤ 0) (h9 : lf 9 ≤ 0) (h11 : lf 11 ≤ 0) (h13 : lf 13 ≤ 0) (h15 : lf 15 ≤ 0) : False := by unfold BK4_ at H; omega
theorem z4_123_01 {lf : Int → Int} {m : Int} (H : BK4_ lf m) (h4 : lf 4 ≤ 0) (h5 : lf 5 ≤ 0) (h8 : lf 8 ≤ 0) (h9 : lf 9 ≤ 0) (h12 : lf 12 ≤ 0) (h13 : lf 13 ≤ 0) : False := by unfold BK4_ at H; omega
theorem z4_0123_1 {lf : Int → Int} {m : Int} (H : BK4_ lf m) (h1 : lf 1 ≤ 0) (h5 : lf 5 ≤ 0) (h9 : lf 9 ≤ 0) (h13 : lf 13 ≤ 0) : False := by unfold BK4_ at H; omega
theorem z4_13_012 {lf : Int → Int} {m : Int} (H : BK4_ lf m) (h4 : lf 4 ≤ 0) (h5 : lf 5 ≤ 0) (h6 : lf 6 ≤ 0) (h12 : lf 12 ≤ 0) (h13 : lf 13 ≤ 0) (h14 : lf 14 ≤ 0) : False := by unfold BK4_ at H; omega
theorem z4_013_12 {lf : Int → Int} {m : Int} (H : BK4_ lf m) (h1 : lf 1 ≤ 0) (h2 : lf 2 ≤ 0) (h5 : lf 5 ≤ 0) (h6 : lf 6 ≤ 0) (h13 : lf 13 ≤ 0) (h14 : lf 14 ≤ 0) : False := by unfold BK4_ at H; omega
theorem z4_12_012 {lf : Int → Int} {m : Int} (H : BK4_ lf m) (h4 : lf 4 ≤ 0) (h5 : lf 5 ≤ 0) (h6 : lf 6 ≤ 0) (h8 : lf 8 ≤ 0) (h9 : lf 9 ≤ 0) (h10 : lf 10 ≤ 0) : False := by unfold BK4_ at H; omega
theorem z4_012_12 {lf : Int → Int} {m : Int} (H : BK4_ lf m) (h1 : lf 1 ≤ 0) (h2 : lf 2 ≤ 0) (h5 : lf 5 ≤ 0) (h6 : lf 6 ≤ 0) (h9 : lf 9 ≤ 0) (h10 : lf 10 ≤ 0) : False := by unfold BK4_ at H; omega
theorem z4_123_12 {lf : Int → Int} {m : Int} (H : BK4_ lf m) (h5 : lf 5 ≤ 0) (h6 : lf 6 ≤ 0) (h9 : lf 9 ≤ 0) (h10 : lf 10 ≤ 0) (h13 : lf 13 ≤ 0) (h14 : lf 14 ≤ 0) : False := by unfold BK4_ at H; omega
theorem z4_13_123 {lf : Int → Int} {m : Int} (H : BK4_ lf m) (h5 : lf 5 ≤ 0) (h6 : lf 6 ≤ 0) (h7 : lf 7 ≤ 0) (h13 : lf 13 ≤ 0) (h14 : lf 14 ≤ 0) (h15 : lf 15 ≤ 0) : False := by unfold BK4_ at H; omega
theorem z4_12_123 {lf : Int → Int} {m : Int} (H : BK4_ lf m) (h5 : lf 5 ≤ 0) (h6 : lf 6 ≤ 0) (h7 : lf 7 ≤ 0) (h9 : lf 9 ≤ 0) (h10 : lf 10 ≤ 0) (h11 : lf 11 ≤ 0) : False := by unfold BK4_ at H; omega
theorem z4_01_123 {lf : Int → Int} {m : Int} (H : BK4_ lf m) (h1 : lf 1 ≤ 0) (h2 : lf 2 ≤ 0) (h3 : lf 3 ≤ 0) (h5 : lf 5 ≤ 0) (h6 : lf 6 ≤ 0) (h7 : lf 7 ≤ 0) : False := by unfold BK4_ at H; omega
theorem z4_1_0123 {lf : Int → Int} {m : Int} (H : BK4_ lf m) (h4 : lf 4 ≤ 0) (h5 : lf 5 ≤ 0) (h6 : lf 6 ≤ 0) (h7 : lf 7 ≤ 0) : False := by unfold BK4_ at H; omega
theorem z4_03_023 {lf : Int → Int} {m : Int} (H : BK4_ lf m) (h0 : lf 0 ≤ 0) (h2 : lf 2 ≤ 0) (h3 : lf 3 ≤ 0) (h12 : lf 12 ≤ 0) (h14 : lf 14 ≤ 0) (h15 : lf 15 ≤ 0) : False := by unfold BK4_ at H; omega
theorem z4_023_03 {lf : Int → Int} {m : Int} (H : BK4_ lf m) (h0 : lf 0 ≤ 0) (h3 : lf 3 ≤ 0) (h8 : lf 8 ≤ 0) (h11 : lf 11 ≤ 0) (h12 : lf 12 ≤ 0) (h15 : lf 15 ≤ 0) : False := by unfold BK4_ at H; omega
theorem z4_023_02 {lf : Int → Int} {m : Int} (H : BK4_ lf m) (h0 : lf 0 ≤ 0) (h2 : lf 2 ≤ 0) (h8 : lf 8 ≤ 0) (h10 : lf 10 ≤ 0) (h12 : lf 12 ≤ 0) (h14 : lf 14 ≤ 0) : False := by unfold BK4_ at H; omega
theorem z4_02_023 {lf : Int → Int} {m : Int} (H : BK4_ lf m) (h0 : lf 0 ≤ 0) (h2 : lf 2 ≤ 0) (h3 : lf 3 ≤ 0) (h8 : lf 8 ≤ 0) (h10 : lf 10 ≤ 0) (h11 : lf 11 ≤ 0) : False := by unfold BK4_ at H; omega
theorem z4_013_03 {lf : Int → Int} {m : Int} (H : BK4_ lf m) (h0 : lf 0 ≤ 0) (h3 : lf 3 ≤ 0) (h4 : lf 4 ≤ 0) (h7 : lf 7 ≤ 0) (h12 : lf 12 ≤ 0) (h15 : lf 15 ≤ 0) : False := by unfold BK4_ at H; omega
theorem z4_013_02 {lf : Int → Int} {m : Int} (H : BK4_ lf m) (h0 : lf 0 ≤ 0) (h2 : lf 2 ≤ 0) (h4 : lf 4 ≤ 0) (h6 : lf 6 ≤ 0) (h12 : lf 12 ≤ 0) (h14 : lf 14 ≤ 0) : False := by unfold BK4_ at H; omega
theorem z4_01_023 {lf : Int → Int} {m : Int} (H : BK4_ lf m) (h0 : lf 0 ≤ 0) (h2 : lf 2 ≤ 0) (h3 : lf 3 ≤ 0) (h4 : lf 4 ≤ 0) (h6 : lf 6 ≤ 0) (h7 : lf 7 ≤ 0) : False := by unfold BK4_ at H; omega
theorem z4_012_03 {lf : Int → Int} {m : Int} (H : BK4_ lf m) (h0 : lf 0 ≤ 0) (h3 : lf 3 ≤ 0) (h4 : lf 4 ≤ 0) (h7 : lf 7 ≤ 0) (h8 : lf 8 ≤ 0) (h11 : lf 11 ≤ 0) : False := by unfold BK4_ at H; omega
theorem z4_012_02 {lf : Int → Int} {m : Int} (H : BK4_ lf m) (h0 : lf 0 ≤ 0) (h2 : lf 2 ≤ 0) (h4 : lf 4 ≤ 0) (h6 : lf 6 ≤ 0) (h8 : lf 8 ≤ 0) (h10 : lf 10 ≤ 0) : False := by unfold BK4_ at H; omega
theorem z4_0123_0 {lf : Int → Int} {m : Int} (H : BK4_ lf m) (h0 : lf 0 ≤ 0) (h4 : lf 4 ≤ 0) (h8 : lf 8 ≤ 0) (h12 : lf 12 ≤ 0) : False := by unfold BK4_ at H; omega
theorem z4_03_013 {lf : Int → Int} {m : Int} (H : BK4_ lf m) (h0 : lf 0 ≤ 0) (h1 : lf 1 ≤ 0) (h3 : lf 3 ≤ 0) (h12 : lf 12 ≤ 0) (h13 : lf 13 ≤ 0) (h15 : lf 15 ≤ 0) : False := by unfold BK4_ at H; omega
theorem z4_02_013 {lf : Int → Int} {m : Int} (H : BK4_ lf m) (h0 : lf 0 ≤ 0) (h1 : lf 1 ≤ 0) (h3 : lf 3 ≤ 0) (h8 : lf 8 ≤ 0) (h9 : lf 9 ≤ 0) (h11 : lf 11 ≤ 0) : False := by unfold BK4_ at H; omega
theorem z4_023_01 {lf : Int → Int} {m : Int} (H : BK4_ lf m) (h0 : lf 0 ≤ 0) (h1 : lf 1 ≤ 0) (h8 : lf 8 ≤ 0) (h9 : lf 9 ≤ 0) (h12 : lf 12 ≤ 0) (h13 : lf 13 ≤ 0) : False := by unfold BK4_ at H; omega
theorem z4_013_01 {lf : Int → Int} {m : Int} (H : BK4_ lf m) (h0 : lf 0 ≤ 0) (h1 : lf 1 ≤ 0) (h4 : lf 4 ≤ 0) (h5 : lf 5 ≤ 0) (h12 : lf 12 ≤ 0) (h13 : lf 13 ≤ 0) : False := by unfold BK4_ at H; omega
theorem z4_01_013 {lf : Int → Int} {m : Int} (H : BK4_ lf m) (h0 : lf 0 ≤ 0) (h1 : lf 1 ≤ 0) (h3 : lf 3 ≤ 0) (h4 : lf 4 ≤ 0) (h5 : lf 5 ≤ 0) (h7 : lf 7 ≤ 0) : False := by unfold BK4_ at H; omega
theorem z4_012_01 {lf : Int → Int} {m : Int} (H : BK4_ lf m) (h0 : lf 0 ≤ 0) (h1 : lf 1 ≤ 0) (h4 : lf 4 ≤ 0) (h5 : lf 5 ≤ 0) (h8 : lf 8 ≤ 0) (h9 : lf 9 ≤ 0) : False := by unfold BK4_ at H; omega
theorem z4_03_012 {lf : Int → Int} {m : Int} (H : BK4_ lf m) (h0 : lf 0 ≤ 0) (h1 : lf 1 ≤ 0) (h2 : lf 2 ≤ 0) (h12 : lf 12 ≤ 0) (h13 : lf 13 ≤ 0) (h14 : lf 14 ≤ 0) : False := by unfold BK4_ at H; omega
theorem z4_02_012 {lf : Int → Int} {m : Int} (H : BK4_ lf m) (h0 : lf 0 ≤ 0) (h1 : lf 1 ≤ 0) (h2 : lf 2 ≤ 0) (h8 : lf 8 ≤ 0) (h9 : lf 9 ≤ 0) (h10 : lf 10 ≤ 0) : False := by unfold BK4_ at H; omega
theorem z4_01_012 {lf : Int → Int} {m : Int} (H : BK4_ lf m) (h0 : lf 0 ≤ 0) (h1 : lf 1 ≤ 0) (h2 : lf 2 ≤ 0) (h4 : lf 4 ≤ 0) (h5 : lf 5 ≤ 0) (h6 : lf 6 ≤ 0) : False := by unfold BK4_ at H; omega
theorem z4_0_0123 {lf : Int → Int} {m : Int} (H : BK4_ lf m) (h0 : lf 0 ≤ 0) (h1 : lf 1 ≤ 0) (h2 : lf 2 ≤ 0) (h3 : lf 3 ≤ 0) : False := by unfold BK4_ at H; omega
set_option maxHeartbeats 4000000 in
theorem bk4 {lf : Int → Int} {m : Int} (H : BK4_ lf m) : PX_ lf 4 := by
  rcases Int.lt_or_le 0 (lf 0) with h0 | h0
  · rcases Int.lt_or_le 0 (lf 5) with h5 | h5
    · rcases Int.lt_or_le 0 (lf 10) with h10 | h10
      · rcases Int.lt_or_le 0 (lf 15) with h15 | h15
        · exact q4_27 h0 h5 h10 h15
        · rcases Int.lt_or_le 0 (lf 11) with h11 | h11
          · rcases Int.lt_or_le 0 (lf 14) with h14 | h14
            · exact q4_30 h0 h5 h11 h14
            · rcases Int.lt_or_le 0 (lf 13) with h13 | h13
              · rcases Int.lt_or_le 0 (lf 6) with h6 | h6
                · exact q4_45 h0 h6 h11 h13
                · rcases Int.lt_or_le 0 (lf 7) with h7 | h7
                  · exact q4_57 h0 h7 h10 h13
                  · rcases Int.lt_or_le 0 (lf 2) with h2 | h2
                    · rcases Int.lt_or_le 0 (lf 4) with h4 | h4
                      · exact q4_141 h2 h4 h11 h13
                      · rcases Int.lt_or_le 0 (lf 12) with h12 | h12
                        · exact q4_156 h2 h5 h11 h12
                        · exact (z4_13_023 H h4 h6 h7 h12 h14 h15).elim
                    · rcases Int.lt_or_le 0 (lf 3) with h3 | h3
                      · rcases Int.lt_or_le 0 (lf 4) with h4 | h4
                        · exact q4_201 h3 h4 h10 h13
                        · rcases Int.lt_or_le 0 (lf 12) with h12 | h12
                          · exact q4_216 h3 h5 h10 h12
                          · exact (z4_13_023 H h4 h6 h7 h12 h14 h15).elim
                      · exact (z4_013_23 H h2 h3 h6 h7 h14 h15).elim
              · rcases Int.lt_or_le 0 (lf 12) with h12 | h12
                · rcases Int.lt_or_le 0 (lf 2) with h2 | h2
                  · exact q4_156 h2 h5 h11 h12
                  · rcases Int.lt_or_le 0 (lf 3) with h3 | h3
                    · exact q4_216 h3 h5 h10 h12
                    · rcases Int.lt_or_le 0 (lf 1) with h1 | h1
                      · rcases Int.lt_or_le 0 (lf 6) with h6 | h6
                        · exact q4_108 h1 h6 h11 h12
                        · rcases Int.lt_or_le 0 (lf 7) with h7 | h7
                          · exact q4_120 h1 h7 h10 h12
                          · exact (z4_013_23 H h2 h3 h6 h7 h14 h15).elim
                      · exact (z4_03_123 H h1 h2 h3 h13 h14 h15).elim
                · exact (z4_3_0123 H h12 h13 h14 h15).elim
          · rcases Int.lt_or_le 0 (lf 7) with h7 | h7
            · rcases Int.lt_or_le 0 (lf 13) with h13 | h13
              · exact q4_57 h0 h7 h10 h13
              · rcases Int.lt_or_le 0 (lf 14) with h14 | h14
                · rcases Int.lt_or_le 0 (lf 9) with h9 | h9
                  · exact q4_54 h0 h7 h9 h14
                  · rcases Int.lt_or_le 0 (lf 1) with h1 | h1
                    · rcases Int.lt_or_le 0 (lf 8) with h8 | h8
                      · exact q4_114 h1 h7 h8 h14
                      · rcases Int.lt_or_le 0 (lf 12) with h12 | h12
                        · exact q4_120 h1 h7 h10 h12
                        · exact (z4_23_013 H h8 h9 h11 h12 h13 h15).elim
                    · rcases Int.lt_or_le 0 (lf 3) with h3 | h3
                      · rcases Int.lt_or_le 0 (lf 8) with h8 | h8
                        · exact q4_210 h3 h5 h8 h14
                        · rcases Int.lt_or_le 0 (lf 12) with h12 | h12
                          · exact q4_216 h3 h5 h10 h12
                          · exact (z4_23_013 H h8 h9 h11 h12 h13 h15).elim
                      · exact (z4_023_13 H h1 h3 h9 h11 h13 h15).elim
                · rcases Int.lt_or_le 0 (lf 12) with h12 | h12
                  · rcases Int.lt_or_le 0 (lf 1) with h1 | h1
                    · exact q4_120 h1 h7 h10 h12
                    · rcases Int.lt_or_le 0 (lf 3) with h3 | h3
                      · exact q4_216 h3 h5 h10 h12
                      · rcases Int.lt_or_le 0 (lf 2) with h2 | h2
                        · rcases Int.lt_or_le 0 (lf 9) with h9 | h9
                          · exact q4_180 h2 h7 h9 h12
                          · exact (z4_023_13 H h1 h3 h9 h11 h13 h15).elim
                        · exact (z4_03_123 H h1 h2 h3 h13 h14 h15).elim
                  · exact (z4_3_0123 H h12 h13 h14 h15).elim
            · rcases Int.lt_or_le 0 (lf 3) with h3 | h3
              · rcases Int.lt_or_le 0 (lf 12) with h12 | h12
                · exact q4_216 h3 h5 h10 h12
                · rcases Int.lt_or_le 0 (lf 4) with h4 | h4
                  · rcases Int.lt_or_le 0 (lf 13) with h13 | h13
                    · exact q4_201 h3 h4 h10 h13
                    · rcases Int.lt_or_le 0 (lf 14) with h14 | h14
                      · rcases Int.lt_or_le 0 (lf 9) with h9 | h9
                        · exact q4_198 h3 h4 h9 h14
                        · rcases Int.lt_or_le 0 (lf 8) with h8 | h8
                          · exact q4_210 h3 h5 h8 h14
                          · exact (z4_23_013 H h8 h9 h11 h12 h13 h15).elim
                      · exact (z4_3_0123 H h12 h13 h14 h15).elim
                  · rcases Int.lt_or_le 0 (lf 8) with h8 | h8
                    · rcases Int.lt_or_le 0 (lf 14) with h14 | h14
                      · exact q4_210 h3 h5 h8 h14
                      · rcases Int.lt_or_le 0 (lf 6) with h6 | h6
                        · rcases Int.lt_or_le 0 (lf 13) with h13 | h13
                          · exact q4_225 h3 h6 h8 h13
                          · exact (z4_3_0123 H h12 h13 h14 h15).elim
                        · exact (z4_13_023 H h4 h6 h7 h12 h14 h15).elim
                    · exact (z4_123_03 H h4 h7 h8 h11 h12 h15).elim
              · exact (z4_0123_3 H h3 h7 h11 h15).elim
      · rcases Int.lt_or_le 0 (lf 11) with h11 | h11
        · rcases Int.lt_or_le 0 (lf 14) with h14 | h14
          · exact q4_30 h0 h5 h11 h14
          · rcases Int.lt_or_le 0 (lf 6) with h6 | h6
            · rcases Int.lt_or_le 0 (lf 13) with h13 | h13
              · exact q4_45 h0 h6 h11 h13
              · rcases Int.lt_or_le 0 (lf 15) with h15 | h15
                · rcases Int.lt_or_le 0 (lf 9) with h9 | h9
                  · exact q4_39 h0 h6 h9 h15
                  · rcases Int.lt_or_le 0 (lf 1) with h1 | h1
                    · rcases Int.lt_or_le 0 (lf 8) with h8 | h8
                      · exact q4_99 h1 h6 h8 h15
                      · rcases Int.lt_or_le 0 (lf 12) with h12 | h12
                        · exact q4_108 h1 h6 h11 h12
                        · exact (z4_23_012 H h8 h9 h10 h12 h13 h14).elim
                    · rcases Int.lt_or_le 0 (lf 2) with h2 | h2
                      · rcases Int.lt_or_le 0 (lf 8) with h8 | h8
                        · exact q4_147 h2 h5 h8 h15
                        · rcases Int.lt_or_le 0 (lf 12) with h12 | h12
                          · exact q4_156 h2 h5 h11 h12
                          · exact (z4_23_012 H h8 h9 h10 h12 h13 h14).elim
                      · exact (z4_023_12 H h1 h2 h9 h10 h13 h14).elim
                · rcases Int.lt_or_le 0 (lf 12) with h12 | h12
                  · rcases Int.lt_or_le 0 (lf 1) with h1 | h1
                    · exact q4_108 h1 h6 h11 h12
                    · rcases Int.lt_or_le 0 (lf 2) with h2 | h2
                      · exact q4_156 h2 h5 h11 h12
                      · rcases Int.lt_or_le 0 (lf 3) with h3 | h3
                        · rcases Int.lt_or_le 0 (lf 9) with h9 | h9
                          · exact q4_228 h3 h6 h9 h12
                          · exact (z4_023_12 H h1 h2 h9 h10 h13 h14).elim
                        · exact (z4_03_123 H h1 h2 h3 h13 h14 h15).elim
                  · exact (z4_3_0123 H h12 h13 h14 h15).elim
            · rcases Int.lt_or_le 0 (lf 2) with h2 | h2
              · rcases Int.lt_or_le 0 (lf 12) with h12 | h12
                · exact q4_156 h2 h5 h11 h12
                · rcases Int.lt_or_le 0 (lf 4) with h4 | h4
                  · rcases Int.lt_or_le 0 (lf 13) with h13 | h13
                    · exact q4_141 h2 h4 h11 h13
                    · rcases Int.lt_or_le 0 (lf 15) with h15 | h15
                      · rcases Int.lt_or_le 0 (lf 9) with h9 | h9
                        · exact q4_135 h2 h4 h9 h15
                        · rcases Int.lt_or_le 0 (lf 8) with h8 | h8
                          · exact q4_147 h2 h5 h8 h15
                          · exact (z4_23_012 H h8 h9 h10 h12 h13 h14).elim
                      · exact (z4_3_0123 H h12 h13 h14 h15).elim
                  · rcases Int.lt_or_le 0 (lf 8) with h8 | h8
                    · rcases Int.lt_or_le 0 (lf 15) with h15 | h15
                      · exact q4_147 h2 h5 h8 h15
                      · rcases Int.lt_or_le 0 (lf 7) with h7 | h7
                        · rcases Int.lt_or_le 0 (lf 13) with h13 | h13
                          · exact q4_177 h2 h7 h8 h13
                          · exact (z4_3_0123 H h12 h13 h14 h15).elim
                        · exact (z4_13_023 H h4 h6 h7 h12 h14 h15).elim
                    · exact (z4_123_02 H h4 h6 h8 h10 h12 h14).elim
              · exact (z4_0123_2 H h2 h6 h10 h14).elim
        · rcases Int.lt_or_le 0 (lf 9) with h9 | h9
          · rcases Int.lt_or_le 0 (lf 6) with h6 | h6
            · rcases Int.lt_or_le 0 (lf 15) with h15 | h15
              · exact q4_39 h0 h6 h9 h15
              · rcases Int.lt_or_le 0 (lf 7) with h7 | h7
                · rcases Int.lt_or_le 0 (lf 14) with h14 | h14
                  · exact q4_54 h0 h7 h9 h14
                  · rcases Int.lt_or_le 0 (lf 2) with h2 | h2
                    · rcases Int.lt_or_le 0 (lf 12) with h12 | h12
                      · exact q4_180 h2 h7 h9 h12
                      · rcases Int.lt_or_le 0 (lf 8) with h8 | h8
                        · rcases Int.lt_or_le 0 (lf 13) with h13 | h13
                          · exact q4_177 h2 h7 h8 h13
                          · exact (z4_3_0123 H h12 h13 h14 h15).elim
                        · exact (z4_23_023 H h8 h10 h11 h12 h14 h15).elim
                    · rcases Int.lt_or_le 0 (lf 3) with h3 | h3
                      · rcases Int.lt_or_le 0 (lf 12) with h12 | h12
                        · exact q4_228 h3 h6 h9 h12
                        · rcases Int.lt_or_le 0 (lf 8) with h8 | h8
                          · rcases Int.lt_or_le 0 (lf 13) with h13 | h13
                            · exact q4_225 h3 h6 h8 h13
                            · exact (z4_3_0123 H h12 h13 h14 h15).elim
                          · exact (z4_23_023 H h8 h10 h11 h12 h14 h15).elim
                      · exact (z4_023_23 H h2 h3 h10 h11 h14 h15).elim
                · rcases Int.lt_or_le 0 (lf 3) with h3 | h3
                  · rcases Int.lt_or_le 0 (lf 12) with h12 | h12
                    · exact q4_228 h3 h6 h9 h12
                    · rcases Int.lt_or_le 0 (lf 4) with h4 | h4
                      · rcases Int.lt_or_le 0 (lf 14) with h14 | h14
                        · exact q4_198 h3 h4 h9 h14
                        · rcases Int.lt_or_le 0 (lf 8) with h8 | h8
                          · rcases Int.lt_or_le 0 (lf 13) with h13 | h13
                            · exact q4_225 h3 h6 h8 h13
                            · exact (z4_3_0123 H h12 h13 h14 h15).elim
                          · exact (z4_23_023 H h8 h10 h11 h12 h14 h15).elim
                      · rcases Int.lt_or_le 0 (lf 8) with h8 | h8
                        · rcases Int.lt_or_le 0 (lf 14) with h14 | h14
                          · exact q4_210 h3 h5 h8 h14
                          · rcases Int.lt_or_le 0 (lf 13) with h13 | h13
                            · exact q4_225 h3 h6 h8 h13
                            · exact (z4_3_0123 H h12 h13 h14 h15).elim
                        · exact (z4_123_03 H h4 h7 h8 h11 h12 h15).elim
                  · exact (z4_0123_3 H h3 h7 h11 h15).elim
            · rcases Int.lt_or_le 0 (lf 14) with h14 | h14
              · rcases Int.lt_or_le 0 (lf 7) with h7 | h7
                · exact q4_54 h0 h7 h9 h14
                · rcases Int.lt_or_le 0 (lf 3) with h3 | h3
                  · rcases Int.lt_or_le 0 (lf 4) with h4 | h4
                    · exact q4_198 h3 h4 h9 h14
                    · rcases Int.lt_or_le 0 (lf 8) with h8 | h8
                      · exact q4_210 h3 h5 h8 h14
                      · exact (z4_12_023 H h4 h6 h7 h8 h10 h11).elim
                  · rcases Int.lt_or_le 0 (lf 2) with h2 | h2
                    · rcases Int.lt_or_le 0 (lf 15) with h15 | h15
                      · rcases Int.lt_or_le 0 (lf 4) with h4 | h4
                        · exact q4_135 h2 h4 h9 h15
                        · rcases Int.lt_or_le 0 (lf 8) with h8 | h8
                          · exact q4_147 h2 h5 h8 h15
                          · exact (z4_12_023 H h4 h6 h7 h8 h10 h11).elim
                      · exact (z4_0123_3 H h3 h7 h11 h15).elim
                    · exact (z4_012_23 H h2 h3 h6 h7 h10 h11).elim
              · rcases Int.lt_or_le 0 (lf 2) with h2 | h2
                · rcases Int.lt_or_le 0 (lf 4) with h4 | h4
                  · rcases Int.lt_or_le 0 (lf 15) with h15 | h15
                    · exact q4_135 h2 h4 h9 h15
                    · rcases Int.lt_or_le 0 (lf 7) with h7 | h7
                      · rcases Int.lt_or_le 0 (lf 12) with h12 | h12
                        · exact q4_180 h2 h7 h9 h12
                        · rcases Int.lt_or_le 0 (lf 8) with h8 | h8
                          · rcases Int.lt_or_le 0 (lf 13) with h13 | h13
                            · exact q4_177 h2 h7 h8 h13
                            · exact (z4_3_0123 H h12 h13 h14 h15).elim
                          · exact (z4_23_023 H h8 h10 h11 h12 h14 h15).elim
                      · exact (z4_123_23 H h6 h7 h10 h11 h14 h15).elim
                  · rcases Int.lt_or_le 0 (lf 8) with h8 | h8
                    · rcases Int.lt_or_le 0 (lf 15) with h15 | h15
                      · exact q4_147 h2 h5 h8 h15
                      · rcases Int.lt_or_le 0 (lf 7) with h7 | h7
                        · rcases Int.lt_or_le 0 (lf 13) with h13 | h13
                          · exact q4_177 h2 h7 h8 h13
                          · rcases Int.lt_or_le 0 (lf 12) with h12 | h12
                            · exact q4_180 h2 h7 h9 h12
                            · exact (z4_3_0123 H h12 h13 h14 h15).elim
                        · exact (z4_123_23 H h6 h7 h10 h11 h14 h15).elim
                    · rcases Int.lt_or_le 0 (lf 7) with h7 | h7
                      · rcases Int.lt_or_le 0 (lf 12) with h12 | h12
                        · exact q4_180 h2 h7 h9 h12
                        · exact (z4_123_02 H h4 h6 h8 h10 h12 h14).elim
                      · exact (z4_12_023 H h4 h6 h7 h8 h10 h11).elim
                · exact (z4_0123_2 H h2 h6 h10 h14).elim
          · rcases Int.lt_or_le 0 (lf 8) with h8 | h8
            · rcases Int.lt_or_le 0 (lf 2) with h2 | h2
              · rcases Int.lt_or_le 0 (lf 15) with h15 | h15
                · exact q4_147 h2 h5 h8 h15
                · rcases Int.lt_or_le 0 (lf 7) with h7 | h7
                  · rcases Int.lt_or_le 0 (lf 13) with h13 | h13
                    · exact q4_177 h2 h7 h8 h13
                    · rcases Int.lt_or_le 0 (lf 14) with h14 | h14
                      · rcases Int.lt_or_le 0 (lf 1) with h1 | h1
                        · exact q4_114 h1 h7 h8 h14
                        · rcases Int.lt_or_le 0 (lf 3) with h3 | h3
                          · exact q4_210 h3 h5 h8 h14
                          · exact (z4_023_13 H h1 h3 h9 h11 h13 h15).elim
                      · exact (z4_23_123 H h9 h10 h11 h13 h14 h15).elim
                  · rcases Int.lt_or_le 0 (lf 3) with h3 | h3
                    · rcases Int.lt_or_le 0 (lf 14) with h14 | h14
                      · exact q4_210 h3 h5 h8 h14
                      · rcases Int.lt_or_le 0 (lf 6) with h6 | h6
                        · rcases Int.lt_or_le 0 (lf 13) with h13 | h13
                          · exact q4_225 h3 h6 h8 h13
                          · exact (z4_23_123 H h9 h10 h11 h13 h14 h15).elim
                        · exact (z4_123_23 H h6 h7 h10 h11 h14 h15).elim
                    · exact (z4_0123_3 H h3 h7 h11 h15).elim
              · rcases Int.lt_or_le 0 (lf 3) with h3 | h3
                · rcases Int.lt_or_le 0 (lf 14) with h14 | h14
                  · exact q4_210 h3 h5 h8 h14
                  · rcases Int.lt_or_le 0 (lf 6) with h6 | h6
                    · rcases Int.lt_or_le 0 (lf 13) with h13 | h13
                      · exact q4_225 h3 h6 h8 h13
                      · rcases Int.lt_or_le 0 (lf 1) with h1 | h1
                        · rcases Int.lt_or_le 0 (lf 15) with h15 | h15
                          · exact q4_99 h1 h6 h8 h15
                          · exact (z4_23_123 H h9 h10 h11 h13 h14 h15).elim
                        · exact (z4_023_12 H h1 h2 h9 h10 h13 h14).elim
                    · exact (z4_0123_2 H h2 h6 h10 h14).elim
                · rcases Int.lt_or_le 0 (lf 1) with h1 | h1
                  · rcases Int.lt_or_le 0 (lf 6) with h6 | h6
                    · rcases Int.lt_or_le 0 (lf 15) with h15 | h15
                      · exact q4_99 h1 h6 h8 h15
                      · rcases Int.lt_or_le 0 (lf 7) with h7 | h7
                        · rcases Int.lt_or_le 0 (lf 14) with h14 | h14
                          · exact q4_114 h1 h7 h8 h14
                          · exact (z4_023_23 H h2 h3 h10 h11 h14 h15).elim
                        · exact (z4_0123_3 H h3 h7 h11 h15).elim
                    · rcases Int.lt_or_le 0 (lf 7) with h7 | h7
                      · rcases Int.lt_or_le 0 (lf 14) with h14 | h14
                        · exact q4_114 h1 h7 h8 h14
                        · exact (z4_0123_2 H h2 h6 h10 h14).elim
                      · exact (z4_012_23 H h2 h3 h6 h7 h10 h11).elim
                  · exact (z4_02_123 H h1 h2 h3 h9 h10 h11).elim
            · exact (z4_2_0123 H h8 h9 h10 h11).elim
    · rcases Int.lt_or_le 0 (lf 6) with h6 | h6
      · rcases Int.lt_or_le 0 (lf 9) with h9 | h9
        · rcases Int.lt_or_le 0 (lf 15) with h15 | h15
          · exact q4_39 h0 h6 h9 h15
          · rcases Int.lt_or_le 0 (lf 11) with h11 | h11
            · rcases Int.lt_or_le 0 (lf 13) with h13 | h13
              · exact q4_45 h0 h6 h11 h13
              · rcases Int.lt_or_le 0 (lf 14) with h14 | h14
                · rcases Int.lt_or_le 0 (lf 7) with h7 | h7
                  · exact q4_54 h0 h7 h9 h14
                  · rcases Int.lt_or_le 0 (lf 1) with h1 | h1
                    · rcases Int.lt_or_le 0 (lf 4) with h4 | h4
                      · exact q4_78 h1 h4 h11 h14
                      · rcases Int.lt_or_le 0 (lf 12) with h12 | h12
                        · exact q4_108 h1 h6 h11 h12
                        · exact (z4_13_013 H h4 h5 h7 h12 h13 h15).elim
                    · rcases Int.lt_or_le 0 (lf 3) with h3 | h3
                      · rcases Int.lt_or_le 0 (lf 4) with h4 | h4
                        · exact q4_198 h3 h4 h9 h14
                        · rcases Int.lt_or_le 0 (lf 12) with h12 | h12
                          · exact q4_228 h3 h6 h9 h12
                          · exact (z4_13_013 H h4 h5 h7 h12 h13 h15).elim
                      · exact (z4_013_13 H h1 h3 h5 h7 h13 h15).elim
                · rcases Int.lt_or_le 0 (lf 12) with h12 | h12
                  · rcases Int.lt_or_le 0 (lf 1) with h1 | h1
                    · exact q4_108 h1 h6 h11 h12
                    · rcases Int.lt_or_le 0 (lf 3) with h3 | h3
                      · exact q4_228 h3 h6 h9 h12
                      · rcases Int.lt_or_le 0 (lf 2) with h2 | h2
                        · rcases Int.lt_or_le 0 (lf 7) with h7 | h7
                          · exact q4_180 h2 h7 h9 h12
                          · exact (z4_013_13 H h1 h3 h5 h7 h13 h15).elim
                        · exact (z4_03_123 H h1 h2 h3 h13 h14 h15).elim
                  · exact (z4_3_0123 H h12 h13 h14 h15).elim
            · rcases Int.lt_or_le 0 (lf 7) with h7 | h7
              · rcases Int.lt_or_le 0 (lf 14) with h14 | h14
                · exact q4_54 h0 h7 h9 h14
                · rcases Int.lt_or_le 0 (lf 13) with h13 | h13
                  · rcases Int.lt_or_le 0 (lf 10) with h10 | h10
                    · exact q4_57 h0 h7 h10 h13
                    · rcases Int.lt_or_le 0 (lf 2) with h2 | h2
                      · rcases Int.lt_or_le 0 (lf 8) with h8 | h8
                        · exact q4_177 h2 h7 h8 h13
                        · rcases Int.lt_or_le 0 (lf 12) with h12 | h12
                          · exact q4_180 h2 h7 h9 h12
                          · exact (z4_23_023 H h8 h10 h11 h12 h14 h15).elim
                      · rcases Int.lt_or_le 0 (lf 3) with h3 | h3
                        · rcases Int.lt_or_le 0 (lf 8) with h8 | h8
                          · exact q4_225 h3 h6 h8 h13
                          · rcases Int.lt_or_le 0 (lf 12) with h12 | h12
                            · exact q4_228 h3 h6 h9 h12
                            · exact (z4_23_023 H h8 h10 h11 h12 h14 h15).elim
                        · exact (z4_023_23 H h2 h3 h10 h11 h14 h15).elim
                  · rcases Int.lt_or_le 0 (lf 12) with h12 | h12
                    · rcases Int.lt_or_le 0 (lf 2) with h2 | h2
                      · exact q4_180 h2 h7 h9 h12
                      · rcases Int.lt_or_le 0 (lf 3) with h3 | h3
                        · exact q4_228 h3 h6 h9 h12
                        · rcases Int.lt_or_le 0 (lf 1) with h1 | h1
                          · rcases Int.lt_or_le 0 (lf 10) with h10 | h10
                            · exact q4_120 h1 h7 h10 h12
                            · exact (z4_023_23 H h2 h3 h10 h11 h14 h15).elim
                          · exact (z4_03_123 H h1 h2 h3 h13 h14 h15).elim
                    · exact (z4_3_0123 H h12 h13 h14 h15).elim
              · rcases Int.lt_or_le 0 (lf 3) with h3 | h3
                · rcases Int.lt_or_le 0 (lf 12) with h12 | h12
                  · exact q4_228 h3 h6 h9 h12
                  · rcases Int.lt_or_le 0 (lf 4) with h4 | h4
                    · rcases Int.lt_or_le 0 (lf 14) with h14 | h14
                      · exact q4_198 h3 h4 h9 h14
                      · rcases Int.lt_or_le 0 (lf 13) with h13 | h13
                        · rcases Int.lt_or_le 0 (lf 10) with h10 | h10
                          · exact q4_201 h3 h4 h10 h13
                          · rcases Int.lt_or_le 0 (lf 8) with h8 | h8
                            · exact q4_225 h3 h6 h8 h13
                            · exact (z4_23_023 H h8 h10 h11 h12 h14 h15).elim
                        · exact (z4_3_0123 H h12 h13 h14 h15).elim
                    · rcases Int.lt_or_le 0 (lf 8) with h8 | h8
                      · rcases Int.lt_or_le 0 (lf 13) with h13 | h13
                        · exact q4_225 h3 h6 h8 h13
                        · exact (z4_13_013 H h4 h5 h7 h12 h13 h15).elim
                      · exact (z4_123_03 H h4 h7 h8 h11 h12 h15).elim
                · exact (z4_0123_3 H h3 h7 h11 h15).elim
        · rcases Int.lt_or_le 0 (lf 13) with h13 | h13
          · rcases Int.lt_or_le 0 (lf 11) with h11 | h11
            · exact q4_45 h0 h6 h11 h13
            · rcases Int.lt_or_le 0 (lf 10) with h10 | h10
              · rcases Int.lt_or_le 0 (lf 7) with h7 | h7
                · exact q4_57 h0 h7 h10 h13
                · rcases Int.lt_or_le 0 (lf 3) with h3 | h3
                  · rcases Int.lt_or_le 0 (lf 4) with h4 | h4
                    · exact q4_201 h3 h4 h10 h13
                    · rcases Int.lt_or_le 0 (lf 8) with h8 | h8
                      · exact q4_225 h3 h6 h8 h13
                      · exact (z4_12_013 H h4 h5 h7 h8 h9 h11).elim
                  · rcases Int.lt_or_le 0 (lf 1) with h1 | h1
                    · rcases Int.lt_or_le 0 (lf 15) with h15 | h15
                      · rcases Int.lt_or_le 0 (lf 4) with h4 | h4
                        · exact q4_75 h1 h4 h10 h15
                        · rcases Int.lt_or_le 0 (lf 8) with h8 | h8
                          · exact q4_99 h1 h6 h8 h15
                          · exact (z4_12_013 H h4 h5 h7 h8 h9 h11).elim
                      · exact (z4_0123_3 H h3 h7 h11 h15).elim
                    · exact (z4_012_13 H h1 h3 h5 h7 h9 h11).elim
              · rcases Int.lt_or_le 0 (lf 8) with h8 | h8
                · rcases Int.lt_or_le 0 (lf 3) with h3 | h3
                  · exact q4_225 h3 h6 h8 h13
                  · rcases Int.lt_or_le 0 (lf 1) with h1 | h1
                    · rcases Int.lt_or_le 0 (lf 15) with h15 | h15
                      · exact q4_99 h1 h6 h8 h15
                      · rcases Int.lt_or_le 0 (lf 7) with h7 | h7
                        · rcases Int.lt_or_le 0 (lf 14) with h14 | h14
                          · exact q4_114 h1 h7 h8 h14
                          · rcases Int.lt_or_le 0 (lf 2) with h2 | h2
                            · exact q4_177 h2 h7 h8 h13
                            · exact (z4_023_23 H h2 h3 h10 h11 h14 h15).elim
                        · exact (z4_0123_3 H h3 h7 h11 h15).elim
                    · rcases Int.lt_or_le 0 (lf 2) with h2 | h2
                      · rcases Int.lt_or_le 0 (lf 7) with h7 | h7
                        · exact q4_177 h2 h7 h8 h13
                        · exact (z4_012_13 H h1 h3 h5 h7 h9 h11).elim
                      · exact (z4_02_123 H h1 h2 h3 h9 h10 h11).elim
                · exact (z4_2_0123 H h8 h9 h10 h11).elim
          · rcases Int.lt_or_le 0 (lf 1) with h1 | h1
            · rcases Int.lt_or_le 0 (lf 8) with h8 | h8
              · rcases Int.lt_or_le 0 (lf 15) with h15 | h15
                · exact q4_99 h1 h6 h8 h15
                · rcases Int.lt_or_le 0 (lf 11) with h11 | h11
                  · rcases Int.lt_or_le 0 (lf 12) with h12 | h12
                    · exact q4_108 h1 h6 h11 h12
                    · rcases Int.lt_or_le 0 (lf 14) with h14 | h14
                      · rcases Int.lt_or_le 0 (lf 4) with h4 | h4
                        · exact q4_78 h1 h4 h11 h14
                        · rcases Int.lt_or_le 0 (lf 7) with h7 | h7
                          · exact q4_114 h1 h7 h8 h14
                          · exact (z4_13_013 H h4 h5 h7 h12 h13 h15).elim
                      · exact (z4_3_0123 H h12 h13 h14 h15).elim
                  · rcases Int.lt_or_le 0 (lf 7) with h7 | h7
                    · rcases Int.lt_or_le 0 (lf 14) with h14 | h14
                      · exact q4_114 h1 h7 h8 h14
                      · rcases Int.lt_or_le 0 (lf 10) with h10 | h10
                        · rcases Int.lt_or_le 0 (lf 12) with h12 | h12
                          · exact q4_120 h1 h7 h10 h12
                          · exact (z4_3_0123 H h12 h13 h14 h15).elim
                        · exact (z4_23_123 H h9 h10 h11 h13 h14 h15).elim
                    · exact (z4_123_13 H h5 h7 h9 h11 h13 h15).elim
              · rcases Int.lt_or_le 0 (lf 11) with h11 | h11
                · rcases Int.lt_or_le 0 (lf 12) with h12 | h12
                  · exact q4_108 h1 h6 h11 h12
                  · rcases Int.lt_or_le 0 (lf 4) with h4 | h4
                    · rcases Int.lt_or_le 0 (lf 14) with h14 | h14
                      · exact q4_78 h1 h4 h11 h14
                      · rcases Int.lt_or_le 0 (lf 10) with h10 | h10
                        · rcases Int.lt_or_le 0 (lf 15) with h15 | h15
                          · exact q4_75 h1 h4 h10 h15
                          · exact (z4_3_0123 H h12 h13 h14 h15).elim
                        · exact (z4_23_012 H h8 h9 h10 h12 h13 h14).elim
                    · exact (z4_123_01 H h4 h5 h8 h9 h12 h13).elim
                · rcases Int.lt_or_le 0 (lf 10) with h10 | h10
                  · rcases Int.lt_or_le 0 (lf 4) with h4 | h4
                    · rcases Int.lt_or_le 0 (lf 15) with h15 | h15
                      · exact q4_75 h1 h4 h10 h15
                      · rcases Int.lt_or_le 0 (lf 7) with h7 | h7
                        · rcases Int.lt_or_le 0 (lf 12) with h12 | h12
                          · exact q4_120 h1 h7 h10 h12
                          · exact (z4_23_013 H h8 h9 h11 h12 h13 h15).elim
                        · exact (z4_123_13 H h5 h7 h9 h11 h13 h15).elim
                    · rcases Int.lt_or_le 0 (lf 7) with h7 | h7
                      · rcases Int.lt_or_le 0 (lf 12) with h12 | h12
                        · exact q4_120 h1 h7 h10 h12
                        · exact (z4_123_01 H h4 h5 h8 h9 h12 h13).elim
                      · exact (z4_12_013 H h4 h5 h7 h8 h9 h11).elim
                  · exact (z4_2_0123 H h8 h9 h10 h11).elim
            · exact (z4_0123_1 H h1 h5 h9 h13).elim
      · rcases Int.lt_or_le 0 (lf 7) with h7 | h7
        · rcases Int.lt_or_le 0 (lf 9) with h9 | h9
          · rcases Int.lt_or_le 0 (lf 14) with h14 | h14
            · exact q4_54 h0 h7 h9 h14
            · rcases Int.lt_or_le 0 (lf 10) with h10 | h10
              · rcases Int.lt_or_le 0 (lf 13) with h13 | h13
                · exact q4_57 h0 h7 h10 h13
                · rcases Int.lt_or_le 0 (lf 1) with h1 | h1
                  · rcases Int.lt_or_le 0 (lf 12) with h12 | h12
                    · exact q4_120 h1 h7 h10 h12
                    · rcases Int.lt_or_le 0 (lf 4) with h4 | h4
                      · rcases Int.lt_or_le 0 (lf 15) with h15 | h15
                        · exact q4_75 h1 h4 h10 h15
                        · exact (z4_3_0123 H h12 h13 h14 h15).elim
                      · exact (z4_13_012 H h4 h5 h6 h12 h13 h14).elim
                  · rcases Int.lt_or_le 0 (lf 2) with h2 | h2
                    · rcases Int.lt_or_le 0 (lf 12) with h12 | h12
                      · exact q4_180 h2 h7 h9 h12
                      · rcases Int.lt_or_le 0 (lf 4) with h4 | h4
                        · rcases Int.lt_or_le 0 (lf 15) with h15 | h15
                          · exact q4_135 h2 h4 h9 h15
                          · exact (z4_3_0123 H h12 h13 h14 h15).elim
                        · exact (z4_13_012 H h4 h5 h6 h12 h13 h14).elim
                    · exact (z4_013_12 H h1 h2 h5 h6 h13 h14).elim
              · rcases Int.lt_or_le 0 (lf 2) with h2 | h2
                · rcases Int.lt_or_le 0 (lf 12) with h12 | h12
                  · exact q4_180 h2 h7 h9 h12
                  · rcases Int.lt_or_le 0 (lf 4) with h4 | h4
                    · rcases Int.lt_or_le 0 (lf 15) with h15 | h15
                      · exact q4_135 h2 h4 h9 h15
                      · rcases Int.lt_or_le 0 (lf 13) with h13 | h13
                        · rcases Int.lt_or_le 0 (lf 11) with h11 | h11
                          · exact q4_141 h2 h4 h11 h13
                          · rcases Int.lt_or_le 0 (lf 8) with h8 | h8
                            · exact q4_177 h2 h7 h8 h13
                            · exact (z4_23_023 H h8 h10 h11 h12 h14 h15).elim
                        · exact (z4_3_0123 H h12 h13 h14 h15).elim
                    · rcases Int.lt_or_le 0 (lf 8) with h8 | h8
                      · rcases Int.lt_or_le 0 (lf 13) with h13 | h13
                        · exact q4_177 h2 h7 h8 h13
                        · exact (z4_13_012 H h4 h5 h6 h12 h13 h14).elim
                      · exact (z4_123_02 H h4 h6 h8 h10 h12 h14).elim
                · exact (z4_0123_2 H h2 h6 h10 h14).elim
          · rcases Int.lt_or_le 0 (lf 13) with h13 | h13
            · rcases Int.lt_or_le 0 (lf 10) with h10 | h10
              · exact q4_57 h0 h7 h10 h13
              · rcases Int.lt_or_le 0 (lf 2) with h2 | h2
                · rcases Int.lt_or_le 0 (lf 8) with h8 | h8
                  · exact q4_177 h2 h7 h8 h13
                  · rcases Int.lt_or_le 0 (lf 4) with h4 | h4
                    · rcases Int.lt_or_le 0 (lf 11) with h11 | h11
                      · exact q4_141 h2 h4 h11 h13
                      · exact (z4_2_0123 H h8 h9 h10 h11).elim
                    · exact (z4_12_012 H h4 h5 h6 h8 h9 h10).elim
                · rcases Int.lt_or_le 0 (lf 1) with h1 | h1
                  · rcases Int.lt_or_le 0 (lf 14) with h14 | h14
                    · rcases Int.lt_or_le 0 (lf 8) with h8 | h8
                      · exact q4_114 h1 h7 h8 h14
                      · rcases Int.lt_or_le 0 (lf 4) with h4 | h4
                        · rcases Int.lt_or_le 0 (lf 11) with h11 | h11
                          · exact q4_78 h1 h4 h11 h14
                          · exact (z4_2_0123 H h8 h9 h10 h11).elim
                        · exact (z4_12_012 H h4 h5 h6 h8 h9 h10).elim
                    · exact (z4_0123_2 H h2 h6 h10 h14).elim
                  · exact (z4_012_12 H h1 h2 h5 h6 h9 h10).elim
            · rcases Int.lt_or_le 0 (lf 1) with h1 | h1
              · rcases Int.lt_or_le 0 (lf 8) with h8 | h8
                · rcases Int.lt_or_le 0 (lf 14) with h14 | h14
                  · exact q4_114 h1 h7 h8 h14
                  · rcases Int.lt_or_le 0 (lf 10) with h10 | h10
                    · rcases Int.lt_or_le 0 (lf 12) with h12 | h12
                      · exact q4_120 h1 h7 h10 h12
                      · rcases Int.lt_or_le 0 (lf 4) with h4 | h4
                        · rcases Int.lt_or_le 0 (lf 15) with h15 | h15
                          · exact q4_75 h1 h4 h10 h15
                          · exact (z4_3_0123 H h12 h13 h14 h15).elim
                        · exact (z4_13_012 H h4 h5 h6 h12 h13 h14).elim
                    · exact (z4_123_12 H h5 h6 h9 h10 h13 h14).elim
                · rcases Int.lt_or_le 0 (lf 10) with h10 | h10
                  · rcases Int.lt_or_le 0 (lf 12) with h12 | h12
                    · exact q4_120 h1 h7 h10 h12
                    · rcases Int.lt_or_le 0 (lf 4) with h4 | h4
                      · rcases Int.lt_or_le 0 (lf 15) with h15 | h15
                        · exact q4_75 h1 h4 h10 h15
                        · rcases Int.lt_or_le 0 (lf 11) with h11 | h11
                          · rcases Int.lt_or_le 0 (lf 14) with h14 | h14
                            · exact q4_78 h1 h4 h11 h14
                            · exact (z4_3_0123 H h12 h13 h14 h15).elim
                          · exact (z4_23_013 H h8 h9 h11 h12 h13 h15).elim
                      · exact (z4_123_01 H h4 h5 h8 h9 h12 h13).elim
                  · rcases Int.lt_or_le 0 (lf 4) with h4 | h4
                    · rcases Int.lt_or_le 0 (lf 11) with h11 | h11
                      · rcases Int.lt_or_le 0 (lf 14) with h14 | h14
                        · exact q4_78 h1 h4 h11 h14
                        · exact (z4_123_12 H h5 h6 h9 h10 h13 h14).elim
                      · exact (z4_2_0123 H h8 h9 h10 h11).elim
                    · exact (z4_12_012 H h4 h5 h6 h8 h9 h10).elim
              · exact (z4_0123_1 H h1 h5 h9 h13).elim
        · rcases Int.lt_or_le 0 (lf 4) with h4 | h4
          · rcases Int.lt_or_le 0 (lf 1) with h1 | h1
            · rcases Int.lt_or_le 0 (lf 10) with h10 | h10
              · rcases Int.lt_or_le 0 (lf 15) with h15 | h15
                · exact q4_75 h1 h4 h10 h15
                · rcases Int.lt_or_le 0 (lf 11) with h11 | h11
                  · rcases Int.lt_or_le 0 (lf 14) with h14 | h14
                    · exact q4_78 h1 h4 h11 h14
                    · rcases Int.lt_or_le 0 (lf 13) with h13 | h13
                      · rcases Int.lt_or_le 0 (lf 2) with h2 | h2
                        · exact q4_141 h2 h4 h11 h13
                        · rcases Int.lt_or_le 0 (lf 3) with h3 | h3
                          · exact q4_201 h3 h4 h10 h13
                          · exact (z4_013_23 H h2 h3 h6 h7 h14 h15).elim
                      · exact (z4_13_123 H h5 h6 h7 h13 h14 h15).elim
                  · rcases Int.lt_or_le 0 (lf 3) with h3 | h3
                    · rcases Int.lt_or_le 0 (lf 13) with h13 | h13
                      · exact q4_201 h3 h4 h10 h13
                      · rcases Int.lt_or_le 0 (lf 9) with h9 | h9
                        · rcases Int.lt_or_le 0 (lf 14) with h14 | h14
                          · exact q4_198 h3 h4 h9 h14
                          · exact (z4_13_123 H h5 h6 h7 h13 h14 h15).elim
                        · exact (z4_123_13 H h5 h7 h9 h11 h13 h15).elim
                    · exact (z4_0123_3 H h3 h7 h11 h15).elim
              · rcases Int.lt_or_le 0 (lf 11) with h11 | h11
                · rcases Int.lt_or_le 0 (lf 14) with h14 | h14
                  · exact q4_78 h1 h4 h11 h14
                  · rcases Int.lt_or_le 0 (lf 2) with h2 | h2
                    · rcases Int.lt_or_le 0 (lf 13) with h13 | h13
                      · exact q4_141 h2 h4 h11 h13
                      · rcases Int.lt_or_le 0 (lf 9) with h9 | h9
                        · rcases Int.lt_or_le 0 (lf 15) with h15 | h15
                          · exact q4_135 h2 h4 h9 h15
                          · exact (z4_13_123 H h5 h6 h7 h13 h14 h15).elim
                        · exact (z4_123_12 H h5 h6 h9 h10 h13 h14).elim
                    · exact (z4_0123_2 H h2 h6 h10 h14).elim
                · rcases Int.lt_or_le 0 (lf 9) with h9 | h9
                  · rcases Int.lt_or_le 0 (lf 2) with h2 | h2
                    · rcases Int.lt_or_le 0 (lf 15) with h15 | h15
                      · exact q4_135 h2 h4 h9 h15
                      · rcases Int.lt_or_le 0 (lf 3) with h3 | h3
                        · rcases Int.lt_or_le 0 (lf 14) with h14 | h14
                          · exact q4_198 h3 h4 h9 h14
                          · exact (z4_123_23 H h6 h7 h10 h11 h14 h15).elim
                        · exact (z4_0123_3 H h3 h7 h11 h15).elim
                    · rcases Int.lt_or_le 0 (lf 3) with h3 | h3
                      · rcases Int.lt_or_le 0 (lf 14) with h14 | h14
                        · exact q4_198 h3 h4 h9 h14
                        · exact (z4_0123_2 H h2 h6 h10 h14).elim
                      · exact (z4_012_23 H h2 h3 h6 h7 h10 h11).elim
                  · exact (z4_12_123 H h5 h6 h7 h9 h10 h11).elim
            · rcases Int.lt_or_le 0 (lf 2) with h2 | h2
              · rcases Int.lt_or_le 0 (lf 9) with h9 | h9
                · rcases Int.lt_or_le 0 (lf 15) with h15 | h15
                  · exact q4_135 h2 h4 h9 h15
                  · rcases Int.lt_or_le 0 (lf 11) with h11 | h11
                    · rcases Int.lt_or_le 0 (lf 13) with h13 | h13
                      · exact q4_141 h2 h4 h11 h13
                      · rcases Int.lt_or_le 0 (lf 3) with h3 | h3
                        · rcases Int.lt_or_le 0 (lf 14) with h14 | h14
                          · exact q4_198 h3 h4 h9 h14
                          · exact (z4_13_123 H h5 h6 h7 h13 h14 h15).elim
                        · exact (z4_013_13 H h1 h3 h5 h7 h13 h15).elim
                    · rcases Int.lt_or_le 0 (lf 3) with h3 | h3
                      · rcases Int.lt_or_le 0 (lf 14) with h14 | h14
                        · exact q4_198 h3 h4 h9 h14
                        · rcases Int.lt_or_le 0 (lf 10) with h10 | h10
                          · rcases Int.lt_or_le 0 (lf 13) with h13 | h13
                            · exact q4_201 h3 h4 h10 h13
                            · exact (z4_13_123 H h5 h6 h7 h13 h14 h15).elim
                          · exact (z4_123_23 H h6 h7 h10 h11 h14 h15).elim
                      · exact (z4_0123_3 H h3 h7 h11 h15).elim
                · rcases Int.lt_or_le 0 (lf 13) with h13 | h13
                  · rcases Int.lt_or_le 0 (lf 11) with h11 | h11
                    · exact q4_141 h2 h4 h11 h13
                    · rcases Int.lt_or_le 0 (lf 3) with h3 | h3
                      · rcases Int.lt_or_le 0 (lf 10) with h10 | h10
                        · exact q4_201 h3 h4 h10 h13
                        · exact (z4_12_123 H h5 h6 h7 h9 h10 h11).elim
                      · exact (z4_012_13 H h1 h3 h5 h7 h9 h11).elim
                  · exact (z4_0123_1 H h1 h5 h9 h13).elim
              · rcases Int.lt_or_le 0 (lf 3) with h3 | h3
                · rcases Int.lt_or_le 0 (lf 9) with h9 | h9
                  · rcases Int.lt_or_le 0 (lf 14) with h14 | h14
                    · exact q4_198 h3 h4 h9 h14
                    · rcases Int.lt_or_le 0 (lf 10) with h10 | h10
                      · rcases Int.lt_or_le 0 (lf 13) with h13 | h13
                        · exact q4_201 h3 h4 h10 h13
                        · exact (z4_013_12 H h1 h2 h5 h6 h13 h14).elim
                      · exact (z4_0123_2 H h2 h6 h10 h14).elim
                  · rcases Int.lt_or_le 0 (lf 10) with h10 | h10
                    · rcases Int.lt_or_le 0 (lf 13) with h13 | h13
                      · exact q4_201 h3 h4 h10 h13
                      · exact (z4_0123_1 H h1 h5 h9 h13).elim
                    · exact (z4_012_12 H h1 h2 h5 h6 h9 h10).elim
                · exact (z4_01_123 H h1 h2 h3 h5 h6 h7).elim
          · exact (z4_1_0123 H h4 h5 h6 h7).elim
  · rcases Int.lt_or_le 0 (lf 1) with h1 | h1
    · rcases Int.lt_or_le 0 (lf 4) with h4 | h4
      · rcases Int.lt_or_le 0 (lf 10) with h10 | h10
        · rcases Int.lt_or_le 0 (lf 15) with h15 | h15
          · exact q4_75 h1 h4 h10 h15
          · rcases Int.lt_or_le 0 (lf 11) with h11 | h11
            · rcases Int.lt_or_le 0 (lf 14) with h14 | h14
              · exact q4_78 h1 h4 h11 h14
              · rcases Int.lt_or_le 0 (lf 12) with h12 | h12
                · rcases Int.lt_or_le 0 (lf 6) with h6 | h6
                  · exact q4_108 h1 h6 h11 h12
                  · rcases Int.lt_or_le 0 (lf 7) with h7 | h7
                    · exact q4_120 h1 h7 h10 h12
                    · rcases Int.lt_or_le 0 (lf 2) with h2 | h2
                      · rcases Int.lt_or_le 0 (lf 13) with h13 | h13
                        · exact q4_141 h2 h4 h11 h13
                        · rcases Int.lt_or_le 0 (lf 5) with h5 | h5
                          · exact q4_156 h2 h5 h11 h12
                          · exact (z4_13_123 H h5 h6 h7 h13 h14 h15).elim
                      · rcases Int.lt_or_le 0 (lf 3) with h3 | h3
                        · rcases Int.lt_or_le 0 (lf 13) with h13 | h13
                          · exact q4_201 h3 h4 h10 h13
                          · rcases Int.lt_or_le 0 (lf 5) with h5 | h5
                            · exact q4_216 h3 h5 h10 h12
                            · exact (z4_13_123 H h5 h6 h7 h13 h14 h15).elim
                        · exact (z4_013_23 H h2 h3 h6 h7 h14 h15).elim
                · rcases Int.lt_or_le 0 (lf 13) with h13 | h13
                  · rcases Int.lt_or_le 0 (lf 2) with h2 | h2
                    · exact q4_141 h2 h4 h11 h13
                    · rcases Int.lt_or_le 0 (lf 3) with h3 | h3
                      · exact q4_201 h3 h4 h10 h13
                      · exact (z4_03_023 H h0 h2 h3 h12 h14 h15).elim
                  · exact (z4_3_0123 H h12 h13 h14 h15).elim
            · rcases Int.lt_or_le 0 (lf 7) with h7 | h7
              · rcases Int.lt_or_le 0 (lf 12) with h12 | h12
                · exact q4_120 h1 h7 h10 h12
                · rcases Int.lt_or_le 0 (lf 8) with h8 | h8
                  · rcases Int.lt_or_le 0 (lf 14) with h14 | h14
                    · exact q4_114 h1 h7 h8 h14
                    · rcases Int.lt_or_le 0 (lf 13) with h13 | h13
                      · rcases Int.lt_or_le 0 (lf 2) with h2 | h2
                        · exact q4_177 h2 h7 h8 h13
                        · rcases Int.lt_or_le 0 (lf 3) with h3 | h3
                          · exact q4_201 h3 h4 h10 h13
                          · exact (z4_03_023 H h0 h2 h3 h12 h14 h15).elim
                      · exact (z4_3_0123 H h12 h13 h14 h15).elim
                  · rcases Int.lt_or_le 0 (lf 3) with h3 | h3
                    · rcases Int.lt_or_le 0 (lf 13) with h13 | h13
                      · exact q4_201 h3 h4 h10 h13
                      · rcases Int.lt_or_le 0 (lf 9) with h9 | h9
                        · rcases Int.lt_or_le 0 (lf 14) with h14 | h14
                          · exact q4_198 h3 h4 h9 h14
                          · exact (z4_3_0123 H h12 h13 h14 h15).elim
                        · exact (z4_23_013 H h8 h9 h11 h12 h13 h15).elim
                    · exact (z4_023_03 H h0 h3 h8 h11 h12 h15).elim
              · rcases Int.lt_or_le 0 (lf 3) with h3 | h3
                · rcases Int.lt_or_le 0 (lf 13) with h13 | h13
                  · exact q4_201 h3 h4 h10 h13
                  · rcases Int.lt_or_le 0 (lf 9) with h9 | h9
                    · rcases Int.lt_or_le 0 (lf 14) with h14 | h14
                      · exact q4_198 h3 h4 h9 h14
                      · rcases Int.lt_or_le 0 (lf 12) with h12 | h12
                        · rcases Int.lt_or_le 0 (lf 5) with h5 | h5
                          · exact q4_216 h3 h5 h10 h12
                          · rcases Int.lt_or_le 0 (lf 6) with h6 | h6
                            · exact q4_228 h3 h6 h9 h12
                            · exact (z4_13_123 H h5 h6 h7 h13 h14 h15).elim
                        · exact (z4_3_0123 H h12 h13 h14 h15).elim
                    · rcases Int.lt_or_le 0 (lf 5) with h5 | h5
                      · rcases Int.lt_or_le 0 (lf 12) with h12 | h12
                        · exact q4_216 h3 h5 h10 h12
                        · rcases Int.lt_or_le 0 (lf 8) with h8 | h8
                          · rcases Int.lt_or_le 0 (lf 14) with h14 | h14
                            · exact q4_210 h3 h5 h8 h14
                            · exact (z4_3_0123 H h12 h13 h14 h15).elim
                          · exact (z4_23_013 H h8 h9 h11 h12 h13 h15).elim
                      · exact (z4_123_13 H h5 h7 h9 h11 h13 h15).elim
                · exact (z4_0123_3 H h3 h7 h11 h15).elim
        · rcases Int.lt_or_le 0 (lf 11) with h11 | h11
          · rcases Int.lt_or_le 0 (lf 14) with h14 | h14
            · exact q4_78 h1 h4 h11 h14
            · rcases Int.lt_or_le 0 (lf 6) with h6 | h6
              · rcases Int.lt_or_le 0 (lf 12) with h12 | h12
                · exact q4_108 h1 h6 h11 h12
                · rcases Int.lt_or_le 0 (lf 8) with h8 | h8
                  · rcases Int.lt_or_le 0 (lf 15) with h15 | h15
                    · exact q4_99 h1 h6 h8 h15
                    · rcases Int.lt_or_le 0 (lf 13) with h13 | h13
                      · rcases Int.lt_or_le 0 (lf 2) with h2 | h2
                        · exact q4_141 h2 h4 h11 h13
                        · rcases Int.lt_or_le 0 (lf 3) with h3 | h3
                          · exact q4_225 h3 h6 h8 h13
                          · exact (z4_03_023 H h0 h2 h3 h12 h14 h15).elim
                      · exact (z4_3_0123 H h12 h13 h14 h15).elim
                  · rcases Int.lt_or_le 0 (lf 2) with h2 | h2
                    · rcases Int.lt_or_le 0 (lf 13) with h13 | h13
                      · exact q4_141 h2 h4 h11 h13
                      · rcases Int.lt_or_le 0 (lf 9) with h9 | h9
                        · rcases Int.lt_or_le 0 (lf 15) with h15 | h15
                          · exact q4_135 h2 h4 h9 h15
                          · exact (z4_3_0123 H h12 h13 h14 h15).elim
                        · exact (z4_23_012 H h8 h9 h10 h12 h13 h14).elim
                    · exact (z4_023_02 H h0 h2 h8 h10 h12 h14).elim
              · rcases Int.lt_or_le 0 (lf 2) with h2 | h2
                · rcases Int.lt_or_le 0 (lf 13) with h13 | h13
                  · exact q4_141 h2 h4 h11 h13
                  · rcases Int.lt_or_le 0 (lf 9) with h9 | h9
                    · rcases Int.lt_or_le 0 (lf 15) with h15 | h15
                      · exact q4_135 h2 h4 h9 h15
                      · rcases Int.lt_or_le 0 (lf 12) with h12 | h12
                        · rcases Int.lt_or_le 0 (lf 5) with h5 | h5
                          · exact q4_156 h2 h5 h11 h12
                          · rcases Int.lt_or_le 0 (lf 7) with h7 | h7
                            · exact q4_180 h2 h7 h9 h12
                            · exact (z4_13_123 H h5 h6 h7 h13 h14 h15).elim
                        · exact (z4_3_0123 H h12 h13 h14 h15).elim
                    · rcases Int.lt_or_le 0 (lf 5) with h5 | h5
                      · rcases Int.lt_or_le 0 (lf 12) with h12 | h12
                        · exact q4_156 h2 h5 h11 h12
                        · rcases Int.lt_or_le 0 (lf 8) with h8 | h8
                          · rcases Int.lt_or_le 0 (lf 15) with h15 | h15
                            · exact q4_147 h2 h5 h8 h15
                            · exact (z4_3_0123 H h12 h13 h14 h15).elim
                          · exact (z4_23_012 H h8 h9 h10 h12 h13 h14).elim
                      · exact (z4_123_12 H h5 h6 h9 h10 h13 h14).elim
                · exact (z4_0123_2 H h2 h6 h10 h14).elim
          · rcases Int.lt_or_le 0 (lf 8) with h8 | h8
            · rcases Int.lt_or_le 0 (lf 6) with h6 | h6
              · rcases Int.lt_or_le 0 (lf 15) with h15 | h15
                · exact q4_99 h1 h6 h8 h15
                · rcases Int.lt_or_le 0 (lf 7) with h7 | h7
                  · rcases Int.lt_or_le 0 (lf 14) with h14 | h14
                    · exact q4_114 h1 h7 h8 h14
                    · rcases Int.lt_or_le 0 (lf 2) with h2 | h2
                      · rcases Int.lt_or_le 0 (lf 13) with h13 | h13
                        · exact q4_177 h2 h7 h8 h13
                        · rcases Int.lt_or_le 0 (lf 9) with h9 | h9
                          · rcases Int.lt_or_le 0 (lf 12) with h12 | h12
                            · exact q4_180 h2 h7 h9 h12
                            · exact (z4_3_0123 H h12 h13 h14 h15).elim
                          · exact (z4_23_123 H h9 h10 h11 h13 h14 h15).elim
                      · rcases Int.lt_or_le 0 (lf 3) with h3 | h3
                        · rcases Int.lt_or_le 0 (lf 13) with h13 | h13
                          · exact q4_225 h3 h6 h8 h13
                          · rcases Int.lt_or_le 0 (lf 9) with h9 | h9
                            · rcases Int.lt_or_le 0 (lf 12) with h12 | h12
                              · exact q4_228 h3 h6 h9 h12
                              · exact (z4_3_0123 H h12 h13 h14 h15).elim
                            · exact (z4_23_123 H h9 h10 h11 h13 h14 h15).elim
                        · exact (z4_023_23 H h2 h3 h10 h11 h14 h15).elim
                  · rcases Int.lt_or_le 0 (lf 3) with h3 | h3
                    · rcases Int.lt_or_le 0 (lf 13) with h13 | h13
                      · exact q4_225 h3 h6 h8 h13
                      · rcases Int.lt_or_le 0 (lf 9) with h9 | h9
                        · rcases Int.lt_or_le 0 (lf 14) with h14 | h14
                          · exact q4_198 h3 h4 h9 h14
                          · rcases Int.lt_or_le 0 (lf 12) with h12 | h12
                            · exact q4_228 h3 h6 h9 h12
                            · exact (z4_3_0123 H h12 h13 h14 h15).elim
                        · rcases Int.lt_or_le 0 (lf 5) with h5 | h5
                          · rcases Int.lt_or_le 0 (lf 14) with h14 | h14
                            · exact q4_210 h3 h5 h8 h14
                            · exact (z4_23_123 H h9 h10 h11 h13 h14 h15).elim
                          · exact (z4_123_13 H h5 h7 h9 h11 h13 h15).elim
                    · exact (z4_0123_3 H h3 h7 h11 h15).elim
              · rcases Int.lt_or_le 0 (lf 14) with h14 | h14
                · rcases Int.lt_or_le 0 (lf 7) with h7 | h7
                  · exact q4_114 h1 h7 h8 h14
                  · rcases Int.lt_or_le 0 (lf 3) with h3 | h3
                    · rcases Int.lt_or_le 0 (lf 9) with h9 | h9
                      · exact q4_198 h3 h4 h9 h14
                      · rcases Int.lt_or_le 0 (lf 5) with h5 | h5
                        · exact q4_210 h3 h5 h8 h14
                        · exact (z4_12_123 H h5 h6 h7 h9 h10 h11).elim
                    · rcases Int.lt_or_le 0 (lf 2) with h2 | h2
                      · rcases Int.lt_or_le 0 (lf 15) with h15 | h15
                        · rcases Int.lt_or_le 0 (lf 9) with h9 | h9
                          · exact q4_135 h2 h4 h9 h15
                          · rcases Int.lt_or_le 0 (lf 5) with h5 | h5
                            · exact q4_147 h2 h5 h8 h15
                            · exact (z4_12_123 H h5 h6 h7 h9 h10 h11).elim
                        · exact (z4_0123_3 H h3 h7 h11 h15).elim
                      · exact (z4_012_23 H h2 h3 h6 h7 h10 h11).elim
                · rcases Int.lt_or_le 0 (lf 2) with h2 | h2
                  · rcases Int.lt_or_le 0 (lf 9) with h9 | h9
                    · rcases Int.lt_or_le 0 (lf 15) with h15 | h15
                      · exact q4_135 h2 h4 h9 h15
                      · rcases Int.lt_or_le 0 (lf 7) with h7 | h7
                        · rcases Int.lt_or_le 0 (lf 13) with h13 | h13
                          · exact q4_177 h2 h7 h8 h13
                          · rcases Int.lt_or_le 0 (lf 12) with h12 | h12
                            · exact q4_180 h2 h7 h9 h12
                            · exact (z4_3_0123 H h12 h13 h14 h15).elim
                        · exact (z4_123_23 H h6 h7 h10 h11 h14 h15).elim
                    · rcases Int.lt_or_le 0 (lf 5) with h5 | h5
                      · rcases Int.lt_or_le 0 (lf 15) with h15 | h15
                        · exact q4_147 h2 h5 h8 h15
                        · rcases Int.lt_or_le 0 (lf 7) with h7 | h7
                          · rcases Int.lt_or_le 0 (lf 13) with h13 | h13
                            · exact q4_177 h2 h7 h8 h13
                            · exact (z4_23_123 H h9 h10 h11 h13 h14 h15).elim
                          · exact (z4_123_23 H h6 h7 h10 h11 h14 h15).elim
                      · rcases Int.lt_or_le 0 (lf 7) with h7 | h7
                        · rcases Int.lt_or_le 0 (lf 13) with h13 | h13
                          · exact q4_177 h2 h7 h8 h13
                          · exact (z4_123_12 H h5 h6 h9 h10 h13 h14).elim
                        · exact (z4_12_123 H h5 h6 h7 h9 h10 h11).elim
                  · exact (z4_0123_2 H h2 h6 h10 h14).elim
            · rcases Int.lt_or_le 0 (lf 9) with h9 | h9
              · rcases Int.lt_or_le 0 (lf 2) with h2 | h2
                · rcases Int.lt_or_le 0 (lf 15) with h15 | h15
                  · exact q4_135 h2 h4 h9 h15
                  · rcases Int.lt_or_le 0 (lf 7) with h7 | h7
                    · rcases Int.lt_or_le 0 (lf 12) with h12 | h12
                      · exact q4_180 h2 h7 h9 h12
                      · rcases Int.lt_or_le 0 (lf 3) with h3 | h3
                        · rcases Int.lt_or_le 0 (lf 14) with h14 | h14
                          · exact q4_198 h3 h4 h9 h14
                          · exact (z4_23_023 H h8 h10 h11 h12 h14 h15).elim
                        · exact (z4_023_03 H h0 h3 h8 h11 h12 h15).elim
                    · rcases Int.lt_or_le 0 (lf 3) with h3 | h3
                      · rcases Int.lt_or_le 0 (lf 14) with h14 | h14
                        · exact q4_198 h3 h4 h9 h14
                        · rcases Int.lt_or_le 0 (lf 6) with h6 | h6
                          · rcases Int.lt_or_le 0 (lf 12) with h12 | h12
                            · exact q4_228 h3 h6 h9 h12
                            · exact (z4_23_023 H h8 h10 h11 h12 h14 h15).elim
                          · exact (z4_123_23 H h6 h7 h10 h11 h14 h15).elim
                      · exact (z4_0123_3 H h3 h7 h11 h15).elim
                · rcases Int.lt_or_le 0 (lf 3) with h3 | h3
                  · rcases Int.lt_or_le 0 (lf 14) with h14 | h14
                    · exact q4_198 h3 h4 h9 h14
                    · rcases Int.lt_or_le 0 (lf 6) with h6 | h6
                      · rcases Int.lt_or_le 0 (lf 12) with h12 | h12
                        · exact q4_228 h3 h6 h9 h12
                        · exact (z4_023_02 H h0 h2 h8 h10 h12 h14).elim
                      · exact (z4_0123_2 H h2 h6 h10 h14).elim
                  · exact (z4_02_023 H h0 h2 h3 h8 h10 h11).elim
              · exact (z4_2_0123 H h8 h9 h10 h11).elim
      · rcases Int.lt_or_le 0 (lf 8) with h8 | h8
        · rcases Int.lt_or_le 0 (lf 6) with h6 | h6
          · rcases Int.lt_or_le 0 (lf 15) with h15 | h15
            · exact q4_99 h1 h6 h8 h15
            · rcases Int.lt_or_le 0 (lf 12) with h12 | h12
              · rcases Int.lt_or_le 0 (lf 11) with h11 | h11
                · exact q4_108 h1 h6 h11 h12
                · rcases Int.lt_or_le 0 (lf 7) with h7 | h7
                  · rcases Int.lt_or_le 0 (lf 14) with h14 | h14
                    · exact q4_114 h1 h7 h8 h14
                    · rcases Int.lt_or_le 0 (lf 10) with h10 | h10
                      · exact q4_120 h1 h7 h10 h12
                      · rcases Int.lt_or_le 0 (lf 2) with h2 | h2
                        · rcases Int.lt_or_le 0 (lf 13) with h13 | h13
                          · exact q4_177 h2 h7 h8 h13
                          · rcases Int.lt_or_le 0 (lf 9) with h9 | h9
                            · exact q4_180 h2 h7 h9 h12
                            · exact (z4_23_123 H h9 h10 h11 h13 h14 h15).elim
                        · rcases Int.lt_or_le 0 (lf 3) with h3 | h3
                          · rcases Int.lt_or_le 0 (lf 13) with h13 | h13
                            · exact q4_225 h3 h6 h8 h13
                            · rcases Int.lt_or_le 0 (lf 9) with h9 | h9
                              · exact q4_228 h3 h6 h9 h12
                              · exact (z4_23_123 H h9 h10 h11 h13 h14 h15).elim
                          · exact (z4_023_23 H h2 h3 h10 h11 h14 h15).elim
                  · rcases Int.lt_or_le 0 (lf 3) with h3 | h3
                    · rcases Int.lt_or_le 0 (lf 13) with h13 | h13
                      · exact q4_225 h3 h6 h8 h13
                      · rcases Int.lt_or_le 0 (lf 9) with h9 | h9
                        · exact q4_228 h3 h6 h9 h12
                        · rcases Int.lt_or_le 0 (lf 5) with h5 | h5
                          · rcases Int.lt_or_le 0 (lf 14) with h14 | h14
                            · exact q4_210 h3 h5 h8 h14
                            · rcases Int.lt_or_le 0 (lf 10) with h10 | h10
                              · exact q4_216 h3 h5 h10 h12
                              · exact (z4_23_123 H h9 h10 h11 h13 h14 h15).elim
                          · exact (z4_123_13 H h5 h7 h9 h11 h13 h15).elim
                    · exact (z4_0123_3 H h3 h7 h11 h15).elim
              · rcases Int.lt_or_le 0 (lf 7) with h7 | h7
                · rcases Int.lt_or_le 0 (lf 14) with h14 | h14
                  · exact q4_114 h1 h7 h8 h14
                  · rcases Int.lt_or_le 0 (lf 13) with h13 | h13
                    · rcases Int.lt_or_le 0 (lf 2) with h2 | h2
                      · exact q4_177 h2 h7 h8 h13
                      · rcases Int.lt_or_le 0 (lf 3) with h3 | h3
                        · exact q4_225 h3 h6 h8 h13
                        · exact (z4_03_023 H h0 h2 h3 h12 h14 h15).elim
                    · exact (z4_3_0123 H h12 h13 h14 h15).elim
                · rcases Int.lt_or_le 0 (lf 3) with h3 | h3
                  · rcases Int.lt_or_le 0 (lf 13) with h13 | h13
                    · exact q4_225 h3 h6 h8 h13
                    · rcases Int.lt_or_le 0 (lf 5) with h5 | h5
                      · rcases Int.lt_or_le 0 (lf 14) with h14 | h14
                        · exact q4_210 h3 h5 h8 h14
                        · exact (z4_3_0123 H h12 h13 h14 h15).elim
                      · exact (z4_13_013 H h4 h5 h7 h12 h13 h15).elim
                  · exact (z4_013_03 H h0 h3 h4 h7 h12 h15).elim
          · rcases Int.lt_or_le 0 (lf 7) with h7 | h7
            · rcases Int.lt_or_le 0 (lf 14) with h14 | h14
              · exact q4_114 h1 h7 h8 h14
              · rcases Int.lt_or_le 0 (lf 10) with h10 | h10
                · rcases Int.lt_or_le 0 (lf 12) with h12 | h12
                  · exact q4_120 h1 h7 h10 h12
                  · rcases Int.lt_or_le 0 (lf 2) with h2 | h2
                    · rcases Int.lt_or_le 0 (lf 13) with h13 | h13
                      · exact q4_177 h2 h7 h8 h13
                      · rcases Int.lt_or_le 0 (lf 5) with h5 | h5
                        · rcases Int.lt_or_le 0 (lf 15) with h15 | h15
                          · exact q4_147 h2 h5 h8 h15
                          · exact (z4_3_0123 H h12 h13 h14 h15).elim
                        · exact (z4_13_012 H h4 h5 h6 h12 h13 h14).elim
                    · exact (z4_013_02 H h0 h2 h4 h6 h12 h14).elim
                · rcases Int.lt_or_le 0 (lf 2) with h2 | h2
                  · rcases Int.lt_or_le 0 (lf 13) with h13 | h13
                    · exact q4_177 h2 h7 h8 h13
                    · rcases Int.lt_or_le 0 (lf 5) with h5 | h5
                      · rcases Int.lt_or_le 0 (lf 15) with h15 | h15
                        · exact q4_147 h2 h5 h8 h15
                        · rcases Int.lt_or_le 0 (lf 12) with h12 | h12
                          · rcases Int.lt_or_le 0 (lf 11) with h11 | h11
                            · exact q4_156 h2 h5 h11 h12
                            · rcases Int.lt_or_le 0 (lf 9) with h9 | h9
                              · exact q4_180 h2 h7 h9 h12
                              · exact (z4_23_123 H h9 h10 h11 h13 h14 h15).elim
                          · exact (z4_3_0123 H h12 h13 h14 h15).elim
                      · rcases Int.lt_or_le 0 (lf 9) with h9 | h9
                        · rcases Int.lt_or_le 0 (lf 12) with h12 | h12
                          · exact q4_180 h2 h7 h9 h12
                          · exact (z4_13_012 H h4 h5 h6 h12 h13 h14).elim
                        · exact (z4_123_12 H h5 h6 h9 h10 h13 h14).elim
                  · exact (z4_0123_2 H h2 h6 h10 h14).elim
            · rcases Int.lt_or_le 0 (lf 5) with h5 | h5
              · rcases Int.lt_or_le 0 (lf 2) with h2 | h2
                · rcases Int.lt_or_le 0 (lf 15) with h15 | h15
                  · exact q4_147 h2 h5 h8 h15
                  · rcases Int.lt_or_le 0 (lf 11) with h11 | h11
                    · rcases Int.lt_or_le 0 (lf 12) with h12 | h12
                      · exact q4_156 h2 h5 h11 h12
                      · rcases Int.lt_or_le 0 (lf 3) with h3 | h3
                        · rcases Int.lt_or_le 0 (lf 14) with h14 | h14
                          · exact q4_210 h3 h5 h8 h14
                          · exact (z4_13_023 H h4 h6 h7 h12 h14 h15).elim
                        · exact (z4_013_03 H h0 h3 h4 h7 h12 h15).elim
                    · rcases Int.lt_or_le 0 (lf 3) with h3 | h3
                      · rcases Int.lt_or_le 0 (lf 14) with h14 | h14
                        · exact q4_210 h3 h5 h8 h14
                        · rcases Int.lt_or_le 0 (lf 10) with h10 | h10
                          · rcases Int.lt_or_le 0 (lf 12) with h12 | h12
                            · exact q4_216 h3 h5 h10 h12
                            · exact (z4_13_023 H h4 h6 h7 h12 h14 h15).elim
                          · exact (z4_123_23 H h6 h7 h10 h11 h14 h15).elim
                      · exact (z4_0123_3 H h3 h7 h11 h15).elim
                · rcases Int.lt_or_le 0 (lf 3) with h3 | h3
                  · rcases Int.lt_or_le 0 (lf 14) with h14 | h14
                    · exact q4_210 h3 h5 h8 h14
                    · rcases Int.lt_or_le 0 (lf 10) with h10 | h10
                      · rcases Int.lt_or_le 0 (lf 12) with h12 | h12
                        · exact q4_216 h3 h5 h10 h12
                        · exact (z4_013_02 H h0 h2 h4 h6 h12 h14).elim
                      · exact (z4_0123_2 H h2 h6 h10 h14).elim
                  · exact (z4_01_023 H h0 h2 h3 h4 h6 h7).elim
              · exact (z4_1_0123 H h4 h5 h6 h7).elim
        · rcases Int.lt_or_le 0 (lf 12) with h12 | h12
          · rcases Int.lt_or_le 0 (lf 6) with h6 | h6
            · rcases Int.lt_or_le 0 (lf 11) with h11 | h11
              · exact q4_108 h1 h6 h11 h12
              · rcases Int.lt_or_le 0 (lf 7) with h7 | h7
                · rcases Int.lt_or_le 0 (lf 10) with h10 | h10
                  · exact q4_120 h1 h7 h10 h12
                  · rcases Int.lt_or_le 0 (lf 9) with h9 | h9
                    · rcases Int.lt_or_le 0 (lf 2) with h2 | h2
                      · exact q4_180 h2 h7 h9 h12
                      · rcases Int.lt_or_le 0 (lf 3) with h3 | h3
                        · exact q4_228 h3 h6 h9 h12
                        · exact (z4_02_023 H h0 h2 h3 h8 h10 h11).elim
                    · exact (z4_2_0123 H h8 h9 h10 h11).elim
                · rcases Int.lt_or_le 0 (lf 3) with h3 | h3
                  · rcases Int.lt_or_le 0 (lf 9) with h9 | h9
                    · exact q4_228 h3 h6 h9 h12
                    · rcases Int.lt_or_le 0 (lf 5) with h5 | h5
                      · rcases Int.lt_or_le 0 (lf 10) with h10 | h10
                        · exact q4_216 h3 h5 h10 h12
                        · exact (z4_2_0123 H h8 h9 h10 h11).elim
                      · exact (z4_12_013 H h4 h5 h7 h8 h9 h11).elim
                  · exact (z4_012_03 H h0 h3 h4 h7 h8 h11).elim
            · rcases Int.lt_or_le 0 (lf 7) with h7 | h7
              · rcases Int.lt_or_le 0 (lf 10) with h10 | h10
                · exact q4_120 h1 h7 h10 h12
                · rcases Int.lt_or_le 0 (lf 2) with h2 | h2
                  · rcases Int.lt_or_le 0 (lf 9) with h9 | h9
                    · exact q4_180 h2 h7 h9 h12
                    · rcases Int.lt_or_le 0 (lf 5) with h5 | h5
                      · rcases Int.lt_or_le 0 (lf 11) with h11 | h11
                        · exact q4_156 h2 h5 h11 h12
                        · exact (z4_2_0123 H h8 h9 h10 h11).elim
                      · exact (z4_12_012 H h4 h5 h6 h8 h9 h10).elim
                  · exact (z4_012_02 H h0 h2 h4 h6 h8 h10).elim
              · rcases Int.lt_or_le 0 (lf 5) with h5 | h5
                · rcases Int.lt_or_le 0 (lf 2) with h2 | h2
                  · rcases Int.lt_or_le 0 (lf 11) with h11 | h11
                    · exact q4_156 h2 h5 h11 h12
                    · rcases Int.lt_or_le 0 (lf 3) with h3 | h3
                      · rcases Int.lt_or_le 0 (lf 10) with h10 | h10
                        · exact q4_216 h3 h5 h10 h12
                        · exact (z4_12_023 H h4 h6 h7 h8 h10 h11).elim
                      · exact (z4_012_03 H h0 h3 h4 h7 h8 h11).elim
                  · rcases Int.lt_or_le 0 (lf 3) with h3 | h3
                    · rcases Int.lt_or_le 0 (lf 10) with h10 | h10
                      · exact q4_216 h3 h5 h10 h12
                      · exact (z4_012_02 H h0 h2 h4 h6 h8 h10).elim
                    · exact (z4_01_023 H h0 h2 h3 h4 h6 h7).elim
                · exact (z4_1_0123 H h4 h5 h6 h7).elim
          · exact (z4_0123_0 H h0 h4 h8 h12).elim
    · rcases Int.lt_or_le 0 (lf 2) with h2 | h2
      · rcases Int.lt_or_le 0 (lf 4) with h4 | h4
        · rcases Int.lt_or_le 0 (lf 9) with h9 | h9
          · rcases Int.lt_or_le 0 (lf 15) with h15 | h15
            · exact q4_135 h2 h4 h9 h15
            · rcases Int.lt_or_le 0 (lf 11) with h11 | h11
              · rcases Int.lt_or_le 0 (lf 13) with h13 | h13
                · exact q4_141 h2 h4 h11 h13
                · rcases Int.lt_or_le 0 (lf 5) with h5 | h5
                  · rcases Int.lt_or_le 0 (lf 12) with h12 | h12
                    · exact q4_156 h2 h5 h11 h12
                    · rcases Int.lt_or_le 0 (lf 3) with h3 | h3
                      · rcases Int.lt_or_le 0 (lf 14) with h14 | h14
                        · exact q4_198 h3 h4 h9 h14
                        · exact (z4_3_0123 H h12 h13 h14 h15).elim
                      · exact (z4_03_013 H h0 h1 h3 h12 h13 h15).elim
                  · rcases Int.lt_or_le 0 (lf 7) with h7 | h7
                    · rcases Int.lt_or_le 0 (lf 12) with h12 | h12
                      · exact q4_180 h2 h7 h9 h12
                      · rcases Int.lt_or_le 0 (lf 3) with h3 | h3
                        · rcases Int.lt_or_le 0 (lf 14) with h14 | h14
                          · exact q4_198 h3 h4 h9 h14
                          · exact (z4_3_0123 H h12 h13 h14 h15).elim
                        · exact (z4_03_013 H h0 h1 h3 h12 h13 h15).elim
                    · rcases Int.lt_or_le 0 (lf 3) with h3 | h3
                      · rcases Int.lt_or_le 0 (lf 14) with h14 | h14
                        · exact q4_198 h3 h4 h9 h14
                        · rcases Int.lt_or_le 0 (lf 6) with h6 | h6
                          · rcases Int.lt_or_le 0 (lf 12) with h12 | h12
                            · exact q4_228 h3 h6 h9 h12
                            · exact (z4_3_0123 H h12 h13 h14 h15).elim
                          · exact (z4_13_123 H h5 h6 h7 h13 h14 h15).elim
                      · exact (z4_013_13 H h1 h3 h5 h7 h13 h15).elim
              · rcases Int.lt_or_le 0 (lf 7) with h7 | h7
                · rcases Int.lt_or_le 0 (lf 12) with h12 | h12
                  · exact q4_180 h2 h7 h9 h12
                  · rcases Int.lt_or_le 0 (lf 8) with h8 | h8
                    · rcases Int.lt_or_le 0 (lf 13) with h13 | h13
                      · exact q4_177 h2 h7 h8 h13
                      · rcases Int.lt_or_le 0 (lf 3) with h3 | h3
                        · rcases Int.lt_or_le 0 (lf 14) with h14 | h14
                          · exact q4_198 h3 h4 h9 h14
                          · exact (z4_3_0123 H h12 h13 h14 h15).elim
                        · exact (z4_03_013 H h0 h1 h3 h12 h13 h15).elim
                    · rcases Int.lt_or_le 0 (lf 3) with h3 | h3
                      · rcases Int.lt_or_le 0 (lf 14) with h14 | h14
                        · exact q4_198 h3 h4 h9 h14
                        · rcases Int.lt_or_le 0 (lf 10) with h10 | h10
                          · rcases Int.lt_or_le 0 (lf 13) with h13 | h13
                            · exact q4_201 h3 h4 h10 h13
                            · exact (z4_3_0123 H h12 h13 h14 h15).elim
                          · exact (z4_23_023 H h8 h10 h11 h12 h14 h15).elim
                      · exact (z4_023_03 H h0 h3 h8 h11 h12 h15).elim
                · rcases Int.lt_or_le 0 (lf 3) with h3 | h3
                  · rcases Int.lt_or_le 0 (lf 14) with h14 | h14
                    · exact q4_198 h3 h4 h9 h14
                    · rcases Int.lt_or_le 0 (lf 10) with h10 | h10
                      · rcases Int.lt_or_le 0 (lf 13) with h13 | h13
                        · exact q4_201 h3 h4 h10 h13
                        · rcases Int.lt_or_le 0 (lf 12) with h12 | h12
                          · rcases Int.lt_or_le 0 (lf 5) with h5 | h5
                            · exact q4_216 h3 h5 h10 h12
                            · rcases Int.lt_or_le 0 (lf 6) with h6 | h6
                              · exact q4_228 h3 h6 h9 h12
                              · exact (z4_13_123 H h5 h6 h7 h13 h14 h15).elim
                          · exact (z4_3_0123 H h12 h13 h14 h15).elim
                      · rcases Int.lt_or_le 0 (lf 6) with h6 | h6
                        · rcases Int.lt_or_le 0 (lf 12) with h12 | h12
                          · exact q4_228 h3 h6 h9 h12
                          · rcases Int.lt_or_le 0 (lf 8) with h8 | h8
                            · rcases Int.lt_or_le 0 (lf 13) with h13 | h13
                              · exact q4_225 h3 h6 h8 h13
                              · exact (z4_3_0123 H h12 h13 h14 h15).elim
                            · exact (z4_23_023 H h8 h10 h11 h12 h14 h15).elim
                        · exact (z4_123_23 H h6 h7 h10 h11 h14 h15).elim
                  · exact (z4_0123_3 H h3 h7 h11 h15).elim
          · rcases Int.lt_or_le 0 (lf 13) with h13 | h13
            · rcases Int.lt_or_le 0 (lf 11) with h11 | h11
              · exact q4_141 h2 h4 h11 h13
              · rcases Int.lt_or_le 0 (lf 8) with h8 | h8
                · rcases Int.lt_or_le 0 (lf 7) with h7 | h7
                  · exact q4_177 h2 h7 h8 h13
                  · rcases Int.lt_or_le 0 (lf 5) with h5 | h5
                    · rcases Int.lt_or_le 0 (lf 15) with h15 | h15
                      · exact q4_147 h2 h5 h8 h15
                      · rcases Int.lt_or_le 0 (lf 3) with h3 | h3
                        · rcases Int.lt_or_le 0 (lf 10) with h10 | h10
                          · exact q4_201 h3 h4 h10 h13
                          · rcases Int.lt_or_le 0 (lf 14) with h14 | h14
                            · exact q4_210 h3 h5 h8 h14
                            · rcases Int.lt_or_le 0 (lf 6) with h6 | h6
                              · exact q4_225 h3 h6 h8 h13
                              · exact (z4_123_23 H h6 h7 h10 h11 h14 h15).elim
                        · exact (z4_0123_3 H h3 h7 h11 h15).elim
                    · rcases Int.lt_or_le 0 (lf 3) with h3 | h3
                      · rcases Int.lt_or_le 0 (lf 10) with h10 | h10
                        · exact q4_201 h3 h4 h10 h13
                        · rcases Int.lt_or_le 0 (lf 6) with h6 | h6
                          · exact q4_225 h3 h6 h8 h13
                          · exact (z4_12_123 H h5 h6 h7 h9 h10 h11).elim
                      · exact (z4_012_13 H h1 h3 h5 h7 h9 h11).elim
                · rcases Int.lt_or_le 0 (lf 3) with h3 | h3
                  · rcases Int.lt_or_le 0 (lf 10) with h10 | h10
                    · exact q4_201 h3 h4 h10 h13
                    · exact (z4_2_0123 H h8 h9 h10 h11).elim
                  · exact (z4_02_013 H h0 h1 h3 h8 h9 h11).elim
            · rcases Int.lt_or_le 0 (lf 5) with h5 | h5
              · rcases Int.lt_or_le 0 (lf 8) with h8 | h8
                · rcases Int.lt_or_le 0 (lf 15) with h15 | h15
                  · exact q4_147 h2 h5 h8 h15
                  · rcases Int.lt_or_le 0 (lf 11) with h11 | h11
                    · rcases Int.lt_or_le 0 (lf 12) with h12 | h12
                      · exact q4_156 h2 h5 h11 h12
                      · rcases Int.lt_or_le 0 (lf 3) with h3 | h3
                        · rcases Int.lt_or_le 0 (lf 14) with h14 | h14
                          · exact q4_210 h3 h5 h8 h14
                          · exact (z4_3_0123 H h12 h13 h14 h15).elim
                        · exact (z4_03_013 H h0 h1 h3 h12 h13 h15).elim
                    · rcases Int.lt_or_le 0 (lf 3) with h3 | h3
                      · rcases Int.lt_or_le 0 (lf 14) with h14 | h14
                        · exact q4_210 h3 h5 h8 h14
                        · rcases Int.lt_or_le 0 (lf 10) with h10 | h10
                          · rcases Int.lt_or_le 0 (lf 12) with h12 | h12
                            · exact q4_216 h3 h5 h10 h12
                            · exact (z4_3_0123 H h12 h13 h14 h15).elim
                          · exact (z4_23_123 H h9 h10 h11 h13 h14 h15).elim
                      · exact (z4_023_13 H h1 h3 h9 h11 h13 h15).elim
                · rcases Int.lt_or_le 0 (lf 12) with h12 | h12
                  · rcases Int.lt_or_le 0 (lf 11) with h11 | h11
                    · exact q4_156 h2 h5 h11 h12
                    · rcases Int.lt_or_le 0 (lf 3) with h3 | h3
                      · rcases Int.lt_or_le 0 (lf 10) with h10 | h10
                        · exact q4_216 h3 h5 h10 h12
                        · exact (z4_2_0123 H h8 h9 h10 h11).elim
                      · exact (z4_02_013 H h0 h1 h3 h8 h9 h11).elim
                  · exact (z4_023_01 H h0 h1 h8 h9 h12 h13).elim
              · exact (z4_0123_1 H h1 h5 h9 h13).elim
        · rcases Int.lt_or_le 0 (lf 8) with h8 | h8
          · rcases Int.lt_or_le 0 (lf 5) with h5 | h5
            · rcases Int.lt_or_le 0 (lf 15) with h15 | h15
              · exact q4_147 h2 h5 h8 h15
              · rcases Int.lt_or_le 0 (lf 12) with h12 | h12
                · rcases Int.lt_or_le 0 (lf 11) with h11 | h11
                  · exact q4_156 h2 h5 h11 h12
                  · rcases Int.lt_or_le 0 (lf 7) with h7 | h7
                    · rcases Int.lt_or_le 0 (lf 13) with h13 | h13
                      · exact q4_177 h2 h7 h8 h13
                      · rcases Int.lt_or_le 0 (lf 9) with h9 | h9
                        · exact q4_180 h2 h7 h9 h12
                        · rcases Int.lt_or_le 0 (lf 3) with h3 | h3
                          · rcases Int.lt_or_le 0 (lf 14) with h14 | h14
                            · exact q4_210 h3 h5 h8 h14
                            · rcases Int.lt_or_le 0 (lf 10) with h10 | h10
                              · exact q4_216 h3 h5 h10 h12
                              · exact (z4_23_123 H h9 h10 h11 h13 h14 h15).elim
                          · exact (z4_023_13 H h1 h3 h9 h11 h13 h15).elim
                    · rcases Int.lt_or_le 0 (lf 3) with h3 | h3
                      · rcases Int.lt_or_le 0 (lf 14) with h14 | h14
                        · exact q4_210 h3 h5 h8 h14
                        · rcases Int.lt_or_le 0 (lf 10) with h10 | h10
                          · exact q4_216 h3 h5 h10 h12
                          · rcases Int.lt_or_le 0 (lf 6) with h6 | h6
                            · rcases Int.lt_or_le 0 (lf 13) with h13 | h13
                              · exact q4_225 h3 h6 h8 h13
                              · rcases Int.lt_or_le 0 (lf 9) with h9 | h9
                                · exact q4_228 h3 h6 h9 h12
                                · exact (z4_23_123 H h9 h10 h11 h13 h14 h15).elim
                            · exact (z4_123_23 H h6 h7 h10 h11 h14 h15).elim
                      · exact (z4_0123_3 H h3 h7 h11 h15).elim
                · rcases Int.lt_or_le 0 (lf 7) with h7 | h7
                  · rcases Int.lt_or_le 0 (lf 13) with h13 | h13
                    · exact q4_177 h2 h7 h8 h13
                    · rcases Int.lt_or_le 0 (lf 3) with h3 | h3
                      · rcases Int.lt_or_le 0 (lf 14) with h14 | h14
                        · exact q4_210 h3 h5 h8 h14
                        · exact (z4_3_0123 H h12 h13 h14 h15).elim
                      · exact (z4_03_013 H h0 h1 h3 h12 h13 h15).elim
                  · rcases Int.lt_or_le 0 (lf 3) with h3 | h3
                    · rcases Int.lt_or_le 0 (lf 14) with h14 | h14
                      · exact q4_210 h3 h5 h8 h14
                      · rcases Int.lt_or_le 0 (lf 6) with h6 | h6
                        · rcases Int.lt_or_le 0 (lf 13) with h13 | h13
                          · exact q4_225 h3 h6 h8 h13
                          · exact (z4_3_0123 H h12 h13 h14 h15).elim
                        · exact (z4_13_023 H h4 h6 h7 h12 h14 h15).elim
                    · exact (z4_013_03 H h0 h3 h4 h7 h12 h15).elim
            · rcases Int.lt_or_le 0 (lf 7) with h7 | h7
              · rcases Int.lt_or_le 0 (lf 13) with h13 | h13
                · exact q4_177 h2 h7 h8 h13
                · rcases Int.lt_or_le 0 (lf 9) with h9 | h9
                  · rcases Int.lt_or_le 0 (lf 12) with h12 | h12
                    · exact q4_180 h2 h7 h9 h12
                    · exact (z4_013_01 H h0 h1 h4 h5 h12 h13).elim
                  · exact (z4_0123_1 H h1 h5 h9 h13).elim
              · rcases Int.lt_or_le 0 (lf 3) with h3 | h3
                · rcases Int.lt_or_le 0 (lf 6) with h6 | h6
                  · rcases Int.lt_or_le 0 (lf 13) with h13 | h13
                    · exact q4_225 h3 h6 h8 h13
                    · rcases Int.lt_or_le 0 (lf 9) with h9 | h9
                      · rcases Int.lt_or_le 0 (lf 12) with h12 | h12
                        · exact q4_228 h3 h6 h9 h12
                        · exact (z4_013_01 H h0 h1 h4 h5 h12 h13).elim
                      · exact (z4_0123_1 H h1 h5 h9 h13).elim
                  · exact (z4_1_0123 H h4 h5 h6 h7).elim
                · exact (z4_01_013 H h0 h1 h3 h4 h5 h7).elim
          · rcases Int.lt_or_le 0 (lf 12) with h12 | h12
            · rcases Int.lt_or_le 0 (lf 5) with h5 | h5
              · rcases Int.lt_or_le 0 (lf 11) with h11 | h11
                · exact q4_156 h2 h5 h11 h12
                · rcases Int.lt_or_le 0 (lf 7) with h7 | h7
                  · rcases Int.lt_or_le 0 (lf 9) with h9 | h9
                    · exact q4_180 h2 h7 h9 h12
                    · rcases Int.lt_or_le 0 (lf 3) with h3 | h3
                      · rcases Int.lt_or_le 0 (lf 10) with h10 | h10
                        · exact q4_216 h3 h5 h10 h12
                        · exact (z4_2_0123 H h8 h9 h10 h11).elim
                      · exact (z4_02_013 H h0 h1 h3 h8 h9 h11).elim
                  · rcases Int.lt_or_le 0 (lf 3) with h3 | h3
                    · rcases Int.lt_or_le 0 (lf 10) with h10 | h10
                      · exact q4_216 h3 h5 h10 h12
                      · rcases Int.lt_or_le 0 (lf 6) with h6 | h6
                        · rcases Int.lt_or_le 0 (lf 9) with h9 | h9
                          · exact q4_228 h3 h6 h9 h12
                          · exact (z4_2_0123 H h8 h9 h10 h11).elim
                        · exact (z4_12_023 H h4 h6 h7 h8 h10 h11).elim
                    · exact (z4_012_03 H h0 h3 h4 h7 h8 h11).elim
              · rcases Int.lt_or_le 0 (lf 9) with h9 | h9
                · rcases Int.lt_or_le 0 (lf 7) with h7 | h7
                  · exact q4_180 h2 h7 h9 h12
                  · rcases Int.lt_or_le 0 (lf 3) with h3 | h3
                    · rcases Int.lt_or_le 0 (lf 6) with h6 | h6
                      · exact q4_228 h3 h6 h9 h12
                      · exact (z4_1_0123 H h4 h5 h6 h7).elim
                    · exact (z4_01_013 H h0 h1 h3 h4 h5 h7).elim
                · exact (z4_012_01 H h0 h1 h4 h5 h8 h9).elim
            · exact (z4_0123_0 H h0 h4 h8 h12).elim
      · rcases Int.lt_or_le 0 (lf 3) with h3 | h3
        · rcases Int.lt_or_le 0 (lf 4) with h4 | h4
          · rcases Int.lt_or_le 0 (lf 9) with h9 | h9
            · rcases Int.lt_or_le 0 (lf 14) with h14 | h14
              · exact q4_198 h3 h4 h9 h14
              · rcases Int.lt_or_le 0 (lf 10) with h10 | h10
                · rcases Int.lt_or_le 0 (lf 13) with h13 | h13
                  · exact q4_201 h3 h4 h10 h13
                  · rcases Int.lt_or_le 0 (lf 12) with h12 | h12
                    · rcases Int.lt_or_le 0 (lf 5) with h5 | h5
                      · exact q4_216 h3 h5 h10 h12
                      · rcases Int.lt_or_le 0 (lf 6) with h6 | h6
                        · exact q4_228 h3 h6 h9 h12
                        · exact (z4_013_12 H h1 h2 h5 h6 h13 h14).elim
                    · exact (z4_03_012 H h0 h1 h2 h12 h13 h14).elim
                · rcases Int.lt_or_le 0 (lf 6) with h6 | h6
                  · rcases Int.lt_or_le 0 (lf 12) with h12 | h12
                    · exact q4_228 h3 h6 h9 h12
                    · rcases Int.lt_or_le 0 (lf 8) with h8 | h8
                      · rcases Int.lt_or_le 0 (lf 13) with h13 | h13
                        · exact q4_225 h3 h6 h8 h13
                        · exact (z4_03_012 H h0 h1 h2 h12 h13 h14).elim
                      · exact (z4_023_02 H h0 h2 h8 h10 h12 h14).elim
                  · exact (z4_0123_2 H h2 h6 h10 h14).elim
            · rcases Int.lt_or_le 0 (lf 10) with h10 | h10
              · rcases Int.lt_or_le 0 (lf 13) with h13 | h13
                · exact q4_201 h3 h4 h10 h13
                · rcases Int.lt_or_le 0 (lf 5) with h5 | h5
                  · rcases Int.lt_or_le 0 (lf 12) with h12 | h12
                    · exact q4_216 h3 h5 h10 h12
                    · rcases Int.lt_or_le 0 (lf 8) with h8 | h8
                      · rcases Int.lt_or_le 0 (lf 14) with h14 | h14
                        · exact q4_210 h3 h5 h8 h14
                        · exact (z4_03_012 H h0 h1 h2 h12 h13 h14).elim
                      · exact (z4_023_01 H h0 h1 h8 h9 h12 h13).elim
                  · exact (z4_0123_1 H h1 h5 h9 h13).elim
              · rcases Int.lt_or_le 0 (lf 8) with h8 | h8
                · rcases Int.lt_or_le 0 (lf 5) with h5 | h5
                  · rcases Int.lt_or_le 0 (lf 14) with h14 | h14
                    · exact q4_210 h3 h5 h8 h14
                    · rcases Int.lt_or_le 0 (lf 6) with h6 | h6
                      · rcases Int.lt_or_le 0 (lf 13) with h13 | h13
                        · exact q4_225 h3 h6 h8 h13
                        · exact (z4_023_12 H h1 h2 h9 h10 h13 h14).elim
                      · exact (z4_0123_2 H h2 h6 h10 h14).elim
                  · rcases Int.lt_or_le 0 (lf 6) with h6 | h6
                    · rcases Int.lt_or_le 0 (lf 13) with h13 | h13
                      · exact q4_225 h3 h6 h8 h13
                      · exact (z4_0123_1 H h1 h5 h9 h13).elim
                    · exact (z4_012_12 H h1 h2 h5 h6 h9 h10).elim
                · exact (z4_02_012 H h0 h1 h2 h8 h9 h10).elim
          · rcases Int.lt_or_le 0 (lf 5) with h5 | h5
            · rcases Int.lt_or_le 0 (lf 8) with h8 | h8
              · rcases Int.lt_or_le 0 (lf 14) with h14 | h14
                · exact q4_210 h3 h5 h8 h14
                · rcases Int.lt_or_le 0 (lf 10) with h10 | h10
                  · rcases Int.lt_or_le 0 (lf 12) with h12 | h12
                    · exact q4_216 h3 h5 h10 h12
                    · rcases Int.lt_or_le 0 (lf 6) with h6 | h6
                      · rcases Int.lt_or_le 0 (lf 13) with h13 | h13
                        · exact q4_225 h3 h6 h8 h13
                        · exact (z4_03_012 H h0 h1 h2 h12 h13 h14).elim
                      · exact (z4_013_02 H h0 h2 h4 h6 h12 h14).elim
                  · rcases Int.lt_or_le 0 (lf 6) with h6 | h6
                    · rcases Int.lt_or_le 0 (lf 13) with h13 | h13
                      · exact q4_225 h3 h6 h8 h13
                      · rcases Int.lt_or_le 0 (lf 9) with h9 | h9
                        · rcases Int.lt_or_le 0 (lf 12) with h12 | h12
                          · exact q4_228 h3 h6 h9 h12
                          · exact (z4_03_012 H h0 h1 h2 h12 h13 h14).elim
                        · exact (z4_023_12 H h1 h2 h9 h10 h13 h14).elim
                    · exact (z4_0123_2 H h2 h6 h10 h14).elim
              · rcases Int.lt_or_le 0 (lf 12) with h12 | h12
                · rcases Int.lt_or_le 0 (lf 10) with h10 | h10
                  · exact q4_216 h3 h5 h10 h12
                  · rcases Int.lt_or_le 0 (lf 6) with h6 | h6
                    · rcases Int.lt_or_le 0 (lf 9) with h9 | h9
                      · exact q4_228 h3 h6 h9 h12
                      · exact (z4_02_012 H h0 h1 h2 h8 h9 h10).elim
                    · exact (z4_012_02 H h0 h2 h4 h6 h8 h10).elim
                · exact (z4_0123_0 H h0 h4 h8 h12).elim
            · rcases Int.lt_or_le 0 (lf 6) with h6 | h6
              · rcases Int.lt_or_le 0 (lf 8) with h8 | h8
                · rcases Int.lt_or_le 0 (lf 13) with h13 | h13
                  · exact q4_225 h3 h6 h8 h13
                  · rcases Int.lt_or_le 0 (lf 9) with h9 | h9
                    · rcases Int.lt_or_le 0 (lf 12) with h12 | h12
                      · exact q4_228 h3 h6 h9 h12
                      · exact (z4_013_01 H h0 h1 h4 h5 h12 h13).elim
                    · exact (z4_0123_1 H h1 h5 h9 h13).elim
                · rcases Int.lt_or_le 0 (lf 9) with h9 | h9
                  · rcases Int.lt_or_le 0 (lf 12) with h12 | h12
                    · exact q4_228 h3 h6 h9 h12
                    · exact (z4_0123_0 H h0 h4 h8 h12).elim
                  · exact (z4_012_01 H h0 h1 h4 h5 h8 h9).elim
              · exact (z4_01_012 H h0 h1 h2 h4 h5 h6).elim
        · exact (z4_0_0123 H h0 h1 h2 h3).elim
/-! ===== pieces ===== -/
/-- sums of a row, of a column -/
def rsm_ (lf : Int → Int) (k : Int) : Nat → Int
  | 0 => 0
  | e + 1 => rsm_ lf k e + lf (4 * k + (e : Int))
def csm_ (lf : Int → Int) (k : Int) : Nat → Int
  | 0 => 0
  | e + 1 => csm_ lf k e + lf (4 * (e : Int) + k)
def adl_ (lf : Int → Int) (S m : Int) : Prop := ∀ k, 0 ≤ k → k < S → rsm_ lf k S.toNat = m ∧ csm_ lf k S.toNat = m
theorem rsm_acr {f : Int → Int} {k : Int} : ∀ n : Nat, acr_ f k n = rsm_ (fun x => f (14 + x)) k n
  | 0 => rfl
  | n + 1 => by unfold acr_ rsm_; rw [rsm_acr n, show 14 + 4 * k + (n : Int) = 14 + (4 * k + n) by omega]
theorem csm_dwn {f : Int → Int} {k : Int} : ∀ n : Nat, dwn_ f k n = csm_ (fun x => f (14 + x)) k n
  | 0 => rfl
  | n + 1 => by unfold dwn_ csm_; rw [csm_dwn n, show 14 + 4 * (n : Int) + k = 14 + (4 * (n : Int) + k) by omega]
theorem adu_e {f : Int → Int} {S m : Int} : ∀ {n : Nat}, adu_ f S m n → ∀ k, 0 ≤ k → k < (n : Int) → acr_ f k S.toNat = m ∧ dwn_ f k S.toNat = m
  | 0, _, k, h0, h1 => by omega
  | n + 1, h, k, h0, h1 => by
    by_cases c : k = (n : Int)
    · rw [c]; exact h.2
    · exact adu_e h.1 k h0 (by omega)
theorem adl_of {f : Int → Int} {S m : Int} (h : adu_ f S m S.toNat) : adl_ (fun x => f (14 + x)) S m := fun k k0 k1 => by
  have := adu_e h k k0 (by omega)
  rw [rsm_acr, csm_dwn] at this; exact this
theorem rsm_cg {f g : Int → Int} {k : Int} : ∀ n : Nat, (∀ e, 0 ≤ e → e < (n : Int) → f (4 * k + e) = g (4 * k + e)) → rsm_ f k n = rsm_ g k n
  | 0, _ => rfl
  | n + 1, h => by unfold rsm_; rw [rsm_cg n (fun e e0 e1 => h e e0 (by omega)), h n (by omega) (by omega)]
theorem csm_cg {f g : Int → Int} {k : Int} : ∀ n : Nat, (∀ e, 0 ≤ e → e < (n : Int) → f (4 * e + k) = g (4 * e + k)) → csm_ f k n = csm_ g k n
  | 0, _ => rfl
  | n + 1, h => by unfold csm_; rw [csm_cg n (fun e e0 e1 => h e e0 (by omega)), h n (by omega) (by omega)]
theorem adl_cg {f g : Int → Int} {S m : Int} (hS : S ≤ 4) (h : ∀ x, 0 ≤ x → x < 16 → f x = g x) (ha : adl_ f S m) : adl_ g S m := fun k k0 k1 => by
  have := ha k k0 k1
  rw [rsm_cg (g := g) S.toNat (fun e e0 e1 => h _ (by omega) (by omega)), csm_cg (g := g) S.toNat (fun e e0 e1 => h _ (by omega) (by omega))] at this
  exact this
/-- some plan has minutes left on each seat -/
theorem bkh_ {lf : Int → Int} {S m : Int} (hS : 2 ≤ S ∧ S ≤ 4) (hn : ∀ x, 0 ≤ x → x < 16 → 0 ≤ lf x) (ha : adl_ lf S m) (hm : 0 < m) : PX_ lf S := by
  have h3 : S = 2 ∨ S = 3 ∨ S = 4 := by omega
  have N := fun x h0 h1 => hn x h0 h1
  rcases h3 with rfl | rfl | rfl
  · have a0 := ha 0 (by omega) (by omega)
    have a1 := ha 1 (by omega) (by omega)
    simp only [show (2 : Int).toNat = 2 from rfl, rsm_, csm_] at a0 a1
    simp only [Int.zero_add, Int.add_zero, Int.mul_zero, Int.mul_one, Int.natCast_zero, Int.natCast_one, show ((0 : Nat) : Int) = 0 from rfl, show ((1 : Nat) : Int) = 1 from rfl] at a0 a1
    exact bk2 ⟨hm, (N 0 (by omega) (by omega)), (N 1 (by omega) (by omega)), (N 4 (by omega) (by omega)), (N 5 (by omega) (by omega)), a0.1, a1.1, a0.2, a1.2⟩
  · have a0 := ha 0 (by omega) (by omega)
    have a1 := ha 1 (by omega) (by omega)
    have a2 := ha 2 (by omega) (by omega)
    simp only [show (3 : Int).toNat = 3 from rfl, rsm_, csm_] at a0 a1 a2
    simp only [Int.zero_add, Int.add_zero, Int.mul_zero, Int.mul_one, show ((0 : Nat) : Int) = 0 from rfl, show ((1 : Nat) : Int) = 1 from rfl, show ((2 : Nat) : Int) = 2 from rfl] at a0 a1 a2
    exact bk3 ⟨hm, (N 0 (by omega) (by omega)), (N 1 (by omega) (by omega)), (N 2 (by omega) (by omega)), (N 4 (by omega) (by omega)), (N 5 (by omega) (by omega)), (N 6 (by omega) (by omega)), (N 8 (by omega) (by omega)), (N 9 (by omega) (by omega)), (N 10 (by omega) (by omega)), a0.1, a1.1, a2.1, a0.2, a1.2, a2.2⟩
  · have a0 := ha 0 (by omega) (by omega)
    have a1 := ha 1 (by omega) (by omega)
    have a2 := ha 2 (by omega) (by omega)
    have a3 := ha 3 (by omega) (by omega)
    simp only [show (4 : Int).toNat = 4 from rfl, rsm_, csm_] at a0 a1 a2 a3
    simp only [Int.zero_add, Int.add_zero, Int.mul_zero, Int.mul_one, show ((0 : Nat) : Int) = 0 from rfl, show ((1 : Nat) : Int) = 1 from rfl, show ((2 : Nat) : Int) = 2 from rfl, show ((3 : Nat) : Int) = 3 from rfl] at a0 a1 a2 a3
    exact bk4 ⟨hm, (N 0 (by omega) (by omega)), (N 1 (by omega) (by omega)), (N 2 (by omega) (by omega)), (N 3 (by omega) (by omega)), (N 4 (by omega) (by omega)), (N 5 (by omega) (by omega)), (N 6 (by omega) (by omega)), (N 7 (by omega) (by omega)), (N 8 (by omega) (by omega)), (N 9 (by omega) (by omega)), (N 10 (by omega) (by omega)), (N 11 (by omega) (by omega)), (N 12 (by omega) (by omega)), (N 13 (by omega) (by omega)), (N 14 (by omega) (by omega)), (N 15 (by omega) (by omega)), a0.1, a1.1, a2.1, a3.1, a0.2, a1.2, a2.2, a3.2⟩

