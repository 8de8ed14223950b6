theorem pair_mark0 {G : GT_} (hC : okC_ G) (hM : okM_ G) {h : PH_} (I0 : INVE_ h) (m : Int) (h1 : ir_ m) : PAI_ G yX11_mark cX11_mark 3 (some .boolean) 4 [rr_ G 0, ii_ m, ii_ 0] yX12_mark cX12_mark 3 (some .boolean) 2 [rr_ G mo_, ii_ m, ii_ 0] h := by
  obtain ⟨o, o2, tt, t2, un, Z, I⟩ := I0
  have oo := I.1.1
  have ot := I.1.2.2.2.1
  have L := I.2.1.1
  have LT := I.2.1.2.2.1
  have HC := I.2.2.2.2.1.1
  have hj := I.2.2.2.2.1.2.1
  have i6 := I.2.2.2.2.2.1
  have j13 := I.2.2.2.2.2.2.2.2.2.2
  have R := RI_of I
  have rf := R.1.2.1
  refine ⟨_, d_mark hC h I.2.2.2.2.2.2.2.1.2.2.1 m 0 h1 (by decide) (by have := i6.2.1.1; omega) (fun k hk => (I.2.2.2.2.2.2.1 k hk).2.1), fun z1 g1 q1 => ?_⟩
  skip
  have C1 : ∀ i, 1000 ≤ i → g1 i = h i := (by
    rcases q1 with q1 | q1 | q1 | q1
    · exact fun i _ => (by rw [q1.2.1])
    · exact fun i hi => q1.2.2.2.1 i (by simp; omega)
    · exact absurd q1.2.1 (by decide)
    · exact absurd q1.2.1 (by decide))
  have R1 := RI_mv R C1
  have rf1 := R1.1.2.1
  refine ⟨_, c_mark0 hM g1 R1.2.2.2.1 m h1 (fun k k0 k1 => R1.2.2.2.2.2.2 k k0 k1), fun z2 g2 q2 => ?_⟩
  have e := C1 mRoads (by decide)
  have i10 := I.2.2.2.2.2.2.2.1
  have i9 := I.2.2.2.2.2.2.1
  have r3 : 0 ≤ h mRoads 2 ∧ h mRoads 2 ≤ h mRoads 0 ∧ h mRoads 0 ≤ 4 := ⟨rf.2.1.1, rf.2.1.2, rf.1.2⟩
  obtain ⟨q2a, q2⟩ := q2
  rw [C1 mState (by decide), C1 mIsMarked (by decide)] at q2
  have G : ∀ i, i < 1000 → g2 i = g1 i := fun i hi => q2a i (fun u => by have := (show ∀ i ∈ [mState, mo_, mIsMarked], 1000 ≤ i by decide) i u; omega)
  have B : ∀ i, 1000 ≤ i → i ∉ [mState, mo_, mIsMarked] → g2 i = h i := fun i hi hn => by rw [q2a i hn, C1 i hi]
  rcases q1 with ⟨x1, x2, x3⟩ | ⟨x1, -, x3, xf, x4, xm⟩ | q1 | q1
  · rcases q2 with ⟨y1, y2, y5, y3, y4⟩ | ⟨y1, y2, y3, y4, y5⟩
    · exact absurd y1 x1
    · exact ⟨by rw [x3, y2], INVE_s (h1 := g1) I (L := []) (by rw [← x2]; exact off_rf) (by simp) (by rw [← x2]; exact HC.2.2) (by rw [← x2]; exact j13) (M := [mState, mo_]) (fun i hi => by
        by_cases c : i = mIsMarked
        · rw [c, y5, C1 mIsMarked (by decide)]
        · exact q2a i (by simp at hi ⊢; exact ⟨hi.1, hi.2, c⟩)) (by decide) (fun x _ => by rw [y3, C1 mState (by decide)]) (fun k hk => by rw [y4]; exact if_neg (by omega))⟩
  · rcases q2 with ⟨y1, y2, y5, y3, y4⟩ | ⟨y1, y2, y3, y4, y5⟩
    · have A : ∀ i, i < 1000 → (i < (50 + 7 * m.toNat) ∨ (50 + 7 * m.toNat) + 6 < i) → g2 i = h i := fun i hi hn => by rw [G i hi]; exact xf i (by simp; omega)
      have K : ∀ k, k ≠ 0 → k ≠ 28 → g2 mo_ k = h mo_ k := fun k k0 k28 => by rw [y4, C1 mo_ (by decide)]; exact if_neg k0
      have K28 : g2 mo_ 28 = h mo_ 28 := by rw [y4, C1 mo_ (by decide)]; exact if_neg (by decide)
      have S : ∀ x, (x < 80 * (1 + m) ∨ 80 * (1 + m) + 80 ≤ x) → g2 mState x = h mState x := fun x hx => by rw [y3]; unfold cpy_; rw [if_neg (by omega)]
      refine ⟨by rw [x3, y2], ⟨o, o2, tt, t2, un, Z, I.1, I2_mv I.2.1 (fun k k9 k10 => by rw [A 0 (by decide) (by omega)]), I3_mv I.2.2.1 (by rw [A 1 (by decide) (by omega)]) (A 2 (by decide) (by omega)) (B mTape (by decide) (by decide)) (K 2 (by decide) (by decide)), I4_mv I.2.2.2.1 (B _ (by decide) (by decide)) (B _ (by decide) (by decide)) (B _ (by decide) (by decide)) (B _ (by decide) (by decide)) (B _ (by decide) (by decide)) (K 18 (by decide) (by decide)) (B _ (by decide) (by decide)) (B _ (by decide) (by decide)), I5_mv I.2.2.2.2.1 (B _ (by decide) (by decide)) (fun k hk => A _ (by omega) (by omega)), I6_mv i6 rf (B _ (by decide) (by decide)) (fun i h0 h1 => A i (by omega) (by omega)) (fun x x0 x1' => S x (by omega)), fun mm m4 => ?_, I10_mv i10 rf (B _ (by decide) (by decide)) (by rw [A 0 (by decide) (by omega)]) (by rw [A 0 (by decide) (by omega)]) K28 (fun i h0 h1 => A i (by omega) (by omega)) (A 49 (by decide) (by omega)) (fun x x0 x1' => S x (by omega)), (by rw [B mRoads (by decide) (by decide), B mLines (by decide) (by decide)]; exact TLD_cg I.2.2.2.2.2.2.2.2.1 (A _ (by omega) (by omega)) (A _ (by omega) (by omega)) (A _ (by omega) (by omega))), smb_mv I.2.2.2.2.2.2.2.2.2.1 (A 150 (by decide) (by omega)), I13_mv j13 (B _ (by decide) (by decide)) (A _ (by decide) (by omega)) (A _ (by decide) (by omega)) (A _ (by decide) (by omega)) (A _ (by decide) (by omega))⟩⟩
      by_cases c : mm = m.toNat
      · subst c
        have mi : ((m.toNat : Nat) : Int) = m := by omega
        rw [mi, y5, G (50 + 7 * m.toNat) (by omega)]
        refine ⟨⟨by rw [x4]; exact (if_pos rfl).symm, Or.inr (if_pos rfl)⟩, by rw [xm.1]; have := i6.2.1.1; omega, fun _ => ?_⟩
        rw [B mRoads (by decide) (by decide)]
        refine MOM_cp i6 r3 (h' := g2) (m := (50 + 7 * m.toNat)) ?_ (fun x x0 x1' => ?_)
        · unfold MCP_ at *
          rw [G (50 + 7 * m.toNat) (by omega), G ((50 + 7 * m.toNat) + 1) (by omega), G ((50 + 7 * m.toNat) + 2) (by omega), G ((50 + 7 * m.toNat) + 3) (by omega), G ((50 + 7 * m.toNat) + 4) (by omega), G ((50 + 7 * m.toNat) + 5) (by omega), G ((50 + 7 * m.toNat) + 6) (by omega)]
          exact xm
        · show g2 mState (80 * (1 + m) + x) = _
          rw [y3]; unfold cpy_; rw [if_pos (by omega)]; congr 1; omega
      · have q := i9 mm m4
        have ne : (mm : Int) ≠ m := by omega
        have em : g2 mIsMarked (mm : Int) = h mIsMarked (mm : Int) := by rw [y5]; exact if_neg ne
        rw [em, A (50 + 7 * mm) (by omega) (by omega), B mRoads (by decide) (by decide)]
        exact ⟨q.1, q.2.1, fun u => MOM_cp (q.2.2 u) r3 (MCP_rf (fun k hk => A _ (by omega) (by omega))) (fun x x0 x1' => S _ (by omega))⟩
    · exact absurd x1 y1
  · exact absurd q1.2.1 (by decide)
  · exact absurd q1.2.1 (by decide)

theorem pair_mark1 {G : GT_} (hC : okC_ G) (hM : okM_ G) {h : PH_} (I0 : INVE_ h) (m : Int) (h1 : ir_ m) : PAI_ G yX11_mark cX11_mark 3 (some .boolean) 4 [rr_ G 0, ii_ m, ii_ 1] yX12_mark cX12_mark 3 (some .boolean) 2 [rr_ G mo_, ii_ m, ii_ 1] h := by
  obtain ⟨o, o2, tt, t2, un, Z, I⟩ := I0
  have oo := I.1.1
  have ot := I.1.2.2.2.1
  have L := I.2.1.1
  have LT := I.2.1.2.2.1
  have HC := I.2.2.2.2.1.1
  have hj := I.2.2.2.2.1.2.1
  have i6 := I.2.2.2.2.2.1
  have j13 := I.2.2.2.2.2.2.2.2.2.2
  have R := RI_of I
  have rf := R.1.2.1
  refine ⟨_, d_mark hC h I.2.2.2.2.2.2.2.1.2.2.1 m 1 h1 (by decide) (by have := i6.2.1.1; omega) (fun k hk => (I.2.2.2.2.2.2.1 k hk).2.1), fun z1 g1 q1 => ?_⟩
  skip
  have C1 : ∀ i, 1000 ≤ i → g1 i = h i := (by
    rcases q1 with q1 | q1 | q1 | q1
    · exact fun i _ => (by rw [q1.2.1])
    · exact absurd q1.2.1 (by decide)
    · exact fun i _ => (by rw [q1.2.2.2.1])
    · exact fun i hi => q1.2.2.2.2.1 i (by simp; omega))
  have R1 := RI_mv R C1
  have rf1 := R1.1.2.1
  refine ⟨_, c_mark1 hM g1 R1.2.2.2.1 m h1 (fun k k0 k1 => R1.2.2.2.2.2.2 k k0 k1), fun z2 g2 q2 => ?_⟩
  have e := C1 mRoads (by decide)
  have i10 := I.2.2.2.2.2.2.2.1
  have i9 := I.2.2.2.2.2.2.1
  have r3 : 0 ≤ h mRoads 2 ∧ h mRoads 2 ≤ h mRoads 0 ∧ h mRoads 0 ≤ 4 := ⟨rf.2.1.1, rf.2.1.2, rf.1.2⟩
  obtain ⟨q2a, q2⟩ := q2
  rw [C1 mState (by decide), C1 mIsMarked (by decide)] at q2
  have G : ∀ i, i < 1000 → g2 i = g1 i := fun i hi => q2a i (fun u => by have := (show ∀ i ∈ [mState, mo_, mIsMarked], 1000 ≤ i by decide) i u; omega)
  have B : ∀ i, 1000 ≤ i → i ∉ [mState, mo_, mIsMarked] → g2 i = h i := fun i hi hn => by rw [q2a i hn, C1 i hi]
  rcases q1 with ⟨x1, x2, x3⟩ | q1 | ⟨x1, -, x4, x2, x3⟩ | ⟨x1, -, x4, x3, xf, xk, x9, xm⟩
  · rcases q2 with ⟨y1, y6, y2, y5, y3, y4⟩ | ⟨y1, y2, y3, y4, y5⟩
    · exact absurd y1 x1
    · exact ⟨by rw [x3, y2], INVE_s (h1 := g1) I (L := []) (by rw [← x2]; exact off_rf) (by simp) (by rw [← x2]; exact HC.2.2) (by rw [← x2]; exact j13) (M := [mState, mo_]) (fun i hi => by
        by_cases c : i = mIsMarked
        · rw [c, y5, C1 mIsMarked (by decide)]
        · exact q2a i (by simp at hi ⊢; exact ⟨hi.1, hi.2, c⟩)) (by decide) (fun x _ => by rw [y3, C1 mState (by decide)]) (fun k hk => by rw [y4]; exact if_neg (by omega))⟩
  · exact absurd q1.2.1 (by decide)
  · have q := (i9 m.toNat (by omega)).1
    rw [show ((m.toNat : Nat) : Int) = m by omega] at q
    rcases q2 with ⟨y1, y6, y2, y5, y3, y4⟩ | ⟨y1, y2, y3, y4, y5⟩
    · exfalso; omega
    · exact ⟨by rw [x3, y2], INVE_s (h1 := g1) I (L := []) (by rw [← x2]; exact off_rf) (by simp) (by rw [← x2]; exact HC.2.2) (by rw [← x2]; exact j13) (M := [mState, mo_]) (fun i hi => by
        by_cases c : i = mIsMarked
        · rw [c, y5, C1 mIsMarked (by decide)]
        · exact q2a i (by simp at hi ⊢; exact ⟨hi.1, hi.2, c⟩)) (by decide) (fun x _ => by rw [y3, C1 mState (by decide)]) (fun k hk => by rw [y4]; exact if_neg (by omega))⟩
  · have q := i9 m.toNat (by omega)
    rw [show ((m.toNat : Nat) : Int) = m by omega] at q
    rcases q2 with ⟨y1, y6, y2, y5, y3, y4⟩ | ⟨y1, y2, y3, y4, y5⟩
    · have A : ∀ i, i < 1000 → (i ≠ 0 ∧ (i < 42 ∨ 48 < i)) → g2 i = h i := fun i hi hn => by rw [G i hi]; exact xf i (by simp; omega)
      have K : ∀ k, k ≠ 0 → k ≠ 28 → g2 mo_ k = h mo_ k := fun k k0 k28 => by rw [y4, C1 mo_ (by decide)]; exact (if_neg k28).trans (if_neg k0)
      have K28 : g2 mo_ 28 = 0 := by rw [y4]; exact if_pos rfl
      have S : ∀ x, 80 ≤ x → g2 mState x = h mState x := fun x hx => by rw [y3]; unfold cpy_; rw [if_neg (by omega)]
      have eM : g2 mIsMarked = h mIsMarked := by
        rw [y5]; funext k; unfold ob_
        by_cases c : k = m
        · rw [if_pos c, c, y6]
        · rw [if_neg c]
      refine ⟨by rw [x3, y2], ⟨o, o2, tt, t2, un, Z, I.1, I2_mv I.2.1 (fun k k9 k10 => by rw [G 0 (by decide)]; exact xk k k9), I3_mv I.2.2.1 (by rw [A 1 (by decide) (by omega)]) (A 2 (by decide) (by omega)) (B mTape (by decide) (by decide)) (K 2 (by decide) (by decide)), I4_mv I.2.2.2.1 (B _ (by decide) (by decide)) (B _ (by decide) (by decide)) (B _ (by decide) (by decide)) (B _ (by decide) (by decide)) (B _ (by decide) (by decide)) (K 18 (by decide) (by decide)) (B _ (by decide) (by decide)) (B _ (by decide) (by decide)), I5_mv I.2.2.2.2.1 (B _ (by decide) (by decide)) (fun k hk => A _ (by omega) (by omega)), ?_, I9_mv i9 rf (B _ (by decide) (by decide)) eM (fun i h0 h1 => A i (by omega) (by omega)) (fun x x0 x1' => S x (by omega)), ?_, (by rw [B mRoads (by decide) (by decide), B mLines (by decide) (by decide)]; exact TLD_cg I.2.2.2.2.2.2.2.2.1 (A _ (by omega) (by omega)) (A _ (by omega) (by omega)) (A _ (by omega) (by omega))), smb_mv I.2.2.2.2.2.2.2.2.2.1 (A 150 (by decide) (by omega)), I13_mv j13 (B _ (by decide) (by decide)) (A _ (by decide) (by omega)) (A _ (by decide) (by omega)) (A _ (by decide) (by omega)) (A _ (by decide) (by omega))⟩⟩
      · unfold I6_
        rw [B mRoads (by decide) (by decide)]
        refine MOM_cp (q.2.2 y6) r3 (h' := g2) (m := 42) ?_ (fun x x0 x1' => ?_)
        · unfold MCP_ at *
          rw [G 42 (by decide), G (42 + 1) (by decide), G (42 + 2) (by decide), G (42 + 3) (by decide), G (42 + 4) (by decide), G (42 + 5) (by decide), G (42 + 6) (by decide)]
          exact xm
        · show g2 mState x = h mState (80 * (1 + m) + x)
          rw [y3]; unfold cpy_; rw [if_pos (by omega)]; congr 1; omega
      · refine ⟨⟨by rw [G 0 (by decide), x9, K28], by rw [K28]; decide⟩, ⟨by rw [G 0 (by decide), xk 10 (by decide)]; exact i10.2.1.1, i10.2.1.2⟩, AR_mv i10.2.2.1 (A 49 (by decide) (by omega)) (A 78 (by decide) (by omega)), fun j hj => ?_⟩
        rw [K28] at hj; exfalso; omega
    · exact absurd ⟨x1, by omega⟩ y1

