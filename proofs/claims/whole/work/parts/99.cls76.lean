theorem pair_see0 {G : GT_} (hC : okC_ G) (hM : okM_ G) {h : PH_} (I0 : INVE_ h) (r s t : Int) (h1 : ir_ r) (h2 : ir_ s) (h3 : ir_ t) : PAI_ G yX11_see cX11_see 5 (some .boolean) 2 [rr_ G 0, ii_ r, ii_ s, ii_ t, ii_ 0] yX12_see cX12_see 6 (some .boolean) 3 [rr_ G mo_, ii_ r, ii_ s, ii_ t, ii_ 0] h := by
  obtain ⟨o, o2, tt, t2, un, Z, I⟩ := I0
  have oo := I.1.1
  have ot := I.1.2.2.2.1
  have L := I.2.1.1
  have LT := I.2.1.2.2.1
  have HC := I.2.2.2.2.1.1
  have hj := I.2.2.2.2.1.2.1
  have i6 := I.2.2.2.2.2.1
  have j13 := I.2.2.2.2.2.2.2.2.2.2
  have R := RI_of I
  have rf := R.1.2.1
  refine ⟨_, d_see hC h o oo L _ HC.1 (by have := i6.2.2.1; omega) r s t 0 h1 h2 h3 (by decide), fun z1 g1 q1 => ?_⟩
  skip
  have C1 : ∀ i, 1000 ≤ i → g1 i = h i := (by rcases q1 with q1 | q1; exact fun i _ => (by rw [q1.2.1]); exact fun i hi => q1.2.2.1 i (by simp <;> omega))
  have R1 := RI_mv R C1
  have rf1 := R1.1.2.1
  refine ⟨_, c_see hM g1 rf1.1 rf1.2.1 rf1.2.2.1 R1.2.2.2.2.1.2.2.2.2.2.1 r s t 0 h1 h2 h3 (by decide), fun z2 g2 q2 => ?_⟩
  have e := C1 mRoads (by decide)
  obtain ⟨f2, k2, q2⟩ := q2
  rw [e, C1 mState (by decide)] at q2
  have n5 := i6.2.2.1
  rcases q1 with ⟨x1, x2, x3⟩ | ⟨x1, x3, f1, k1, x5, x6, x7, x8, x9, x10⟩
  · rcases q2 with ⟨y1, y2, y3⟩ | ⟨y1, y2, y3⟩
    · exfalso; omega
    · refine ⟨by rw [x3, y2], INVE_s I (L := []) (by rw [← x2]; exact off_rf) (by simp) (by rw [← x2]; exact HC.2.2) (by rw [← x2]; exact j13) f2 (by decide) (fun x _ => by rw [y3, C1 mState (by decide)]) (fun k hk => by rw [k2]; exact if_neg (by omega))⟩
  · rcases q2 with ⟨y1, y2, y3⟩ | ⟨y1, y2, y3⟩
    · have A : ∀ i, i < 1000 → i ≠ 42 → i ≠ 48 → g2 i = h i := fun i hi n0 n1 => by rw [f2 i (fun u => by have := (show ∀ i ∈ [mState, mo_], 1000 ≤ i by decide) i u; omega), f1 i (by simp <;> omega)]
      have B : ∀ i, 1000 ≤ i → i ≠ mState → i ≠ mo_ → g2 i = h i := fun i hi n0 n1 => by rw [f2 i (by simp; exact ⟨n0, n1⟩), C1 i hi]
      have K : ∀ k, k ≠ 0 → g2 mo_ k = h mo_ k := fun k k0 => by rw [k2, C1 mo_ (by decide)]; exact if_neg k0
      have S : ∀ x, x < 30 ∨ 72 ≤ x → g2 mState x = h mState x := fun x hx => by rw [y3]; unfold see_ ob_; rw [if_neg (by omega), if_neg (by omega), if_neg (by omega), if_neg (by omega), if_neg (by omega)]
      have C2 : g2 42 = g1 42 ∧ g2 48 = g1 48 := ⟨f2 42 (by decide), f2 48 (by decide)⟩
      refine ⟨by rw [x3, y2], o, o2, tt, t2, un, Z, I.1, I2_mv I.2.1 (fun k _ _ => by rw [A 0 (by decide) (by decide) (by decide)]), I3_mv I.2.2.1 (by rw [A 1 (by decide) (by decide) (by decide)]) (A 2 (by decide) (by decide) (by decide)) (B mTape (by decide) (by decide) (by decide)) (K 2 (by decide)), I4_mv I.2.2.2.1 (B _ (by decide) (by decide) (by decide)) (B _ (by decide) (by decide) (by decide)) (B _ (by decide) (by decide) (by decide)) (B _ (by decide) (by decide) (by decide)) (B _ (by decide) (by decide) (by decide)) (K 18 (by decide)) (B _ (by decide) (by decide) (by decide)) (B _ (by decide) (by decide) (by decide)), I5_mv I.2.2.2.2.1 (B _ (by decide) (by decide) (by decide)) (fun k hk => A _ (by omega) (by omega) (by omega)), ?_, I9_mv I.2.2.2.2.2.2.1 rf (B _ (by decide) (by decide) (by decide)) (B _ (by decide) (by decide) (by decide)) (fun i h0 h1 => A i (by omega) (by omega) (by omega)) (fun x x0 x1 => S x (by omega)), I10_mv I.2.2.2.2.2.2.2.1 rf (B _ (by decide) (by decide) (by decide)) (by rw [A 0 (by decide) (by decide) (by decide)]) (by rw [A 0 (by decide) (by decide) (by decide)]) (K 28 (by decide)) (fun i h0 h1 => A i (by omega) (by omega) (by omega)) (A 49 (by decide) (by decide) (by decide)) (fun x x0 _ => S x (by omega)), (by rw [B mRoads (by decide) (by decide) (by decide), B mLines (by decide) (by decide) (by decide)]; exact TLD_cg I.2.2.2.2.2.2.2.2.1 (A _ (by omega) (by omega) (by omega)) (A _ (by omega) (by omega) (by omega)) (A _ (by omega) (by omega) (by omega))), smb_mv I.2.2.2.2.2.2.2.2.2.1 (A 150 (by decide) (by decide) (by decide)), I13_mv j13 (B _ (by decide) (by decide) (by decide)) (A _ (by decide) (by decide) (by decide)) (A _ (by decide) (by decide) (by decide)) (A _ (by decide) (by decide) (by decide)) (A _ (by decide) (by decide) (by decide))⟩
      unfold I6_
      rw [B mRoads (by decide) (by decide) (by decide)]
      obtain ⟨a, ⟨b1, b2, b3⟩, ⟨c1, c2, c3⟩⟩ := i6
      have v30 : g2 mState 30 = h mState 30 + 1 := by rw [y3]; unfold see_ ob_; rw [if_pos rfl]
      refine ⟨SEC_cg a (by have := rf.1; have := rf.2.1; omega) (fun k k0 k1 => by rw [Int.zero_add]; exact S k (by omega)) (by rw [A 43 (by decide) (by decide) (by decide)]) (fun r _ _ => by rw [A 44 (by decide) (by decide) (by decide)]) (fun r _ _ => by rw [A 45 (by decide) (by decide) (by decide)]) (fun r _ _ => by rw [A 46 (by decide) (by decide) (by decide)]), ⟨?_, fun x x0 x1 => ?_, fun u i j i0 i1 j0 j1 => ?_⟩, ⟨?_, fun x x0 x1 => ?_, fun k k0 k1 => ?_⟩⟩
      · rw [C2.1, k1 3 (by decide), S 13 (by decide)]; exact b1
      · rw [A 47 (by decide) (by decide) (by decide), S (14 + x) (by omega)]; exact b2 x x0 x1
      · rw [S 13 (by decide)] at u
        rw [A 47 (by decide) (by decide) (by decide), S _ (by have := rf.1; have := rf.2.1; omega)]; exact b3 u i j i0 i1 j0 j1
      · rw [C2.1, x5, v30]; omega
      · rw [v30] at x1
        rw [C2.2, y3]
        unfold see_ ob_
        rw [if_neg (show ¬ 31 + x = 30 by omega)]
        by_cases d3 : x = 4 * h mState 30 + 3
        · rw [if_pos (by omega), d3, ← n5.1]; exact x10
        · rw [if_neg (by omega)]
          by_cases d2 : x = 4 * h mState 30 + 2
          · rw [if_pos (by omega), d2, ← n5.1]; exact x9
          · rw [if_neg (by omega)]
            by_cases d1 : x = 4 * h mState 30 + 1
            · rw [if_pos (by omega), d1, ← n5.1]; exact x8
            · rw [if_neg (by omega)]
              by_cases d0 : x = 4 * h mState 30
              · rw [if_pos (by omega), d0, ← n5.1]; exact x7
              · rw [if_neg (by omega), x6 x (by omega)]; exact c2 x x0 (by omega)
      · rw [v30] at k1
        rw [y3]
        unfold see_ ob_
        rw [if_neg (show ¬ 31 + 4 * k = 30 by omega), if_neg (by omega), if_neg (by omega), if_neg (by omega)]
        by_cases d0 : k = h mState 30
        · rw [if_pos (by omega)]; exact x1.1
        · rw [if_neg (by omega)]; exact c3 k k0 (by omega)
    · exfalso; omega

theorem pair_see1 {G : GT_} (hC : okC_ G) (hM : okM_ G) {h : PH_} (I0 : INVE_ h) (r s t : Int) (h1 : ir_ r) (h2 : ir_ s) (h3 : ir_ t) : PAI_ G yX11_see cX11_see 5 (some .boolean) 2 [rr_ G 0, ii_ r, ii_ s, ii_ t, ii_ 1] yX12_see cX12_see 6 (some .boolean) 3 [rr_ G mo_, ii_ r, ii_ s, ii_ t, ii_ 1] h := by
  obtain ⟨o, o2, tt, t2, un, Z, I⟩ := I0
  have oo := I.1.1
  have ot := I.1.2.2.2.1
  have L := I.2.1.1
  have LT := I.2.1.2.2.1
  have HC := I.2.2.2.2.1.1
  have hj := I.2.2.2.2.1.2.1
  have i6 := I.2.2.2.2.2.1
  have j13 := I.2.2.2.2.2.2.2.2.2.2
  have R := RI_of I
  have rf := R.1.2.1
  refine ⟨_, d_see hC h o oo L _ HC.1 (by have := i6.2.2.1; omega) r s t 1 h1 h2 h3 (by decide), fun z1 g1 q1 => ?_⟩
  skip
  have C1 : ∀ i, 1000 ≤ i → g1 i = h i := (by rcases q1 with q1 | q1; exact fun i _ => (by rw [q1.2.1]); exact fun i hi => q1.2.2.1 i (by simp <;> omega))
  have R1 := RI_mv R C1
  have rf1 := R1.1.2.1
  refine ⟨_, c_see hM g1 rf1.1 rf1.2.1 rf1.2.2.1 R1.2.2.2.2.1.2.2.2.2.2.1 r s t 1 h1 h2 h3 (by decide), fun z2 g2 q2 => ?_⟩
  have e := C1 mRoads (by decide)
  obtain ⟨f2, k2, q2⟩ := q2
  rw [e, C1 mState (by decide)] at q2
  have n5 := i6.2.2.1
  rcases q1 with ⟨x1, x2, x3⟩ | ⟨x1, x3, f1, k1, x5, x6, x7, x8, x9, x10⟩
  · rcases q2 with ⟨y1, y2, y3⟩ | ⟨y1, y2, y3⟩
    · exfalso; omega
    · refine ⟨by rw [x3, y2], INVE_s I (L := []) (by rw [← x2]; exact off_rf) (by simp) (by rw [← x2]; exact HC.2.2) (by rw [← x2]; exact j13) f2 (by decide) (fun x _ => by rw [y3, C1 mState (by decide)]) (fun k hk => by rw [k2]; exact if_neg (by omega))⟩
  · rcases q2 with ⟨y1, y2, y3⟩ | ⟨y1, y2, y3⟩
    · have A : ∀ i, i < 1000 → i ≠ 42 → i ≠ 48 → g2 i = h i := fun i hi n0 n1 => by rw [f2 i (fun u => by have := (show ∀ i ∈ [mState, mo_], 1000 ≤ i by decide) i u; omega), f1 i (by simp <;> omega)]
      have B : ∀ i, 1000 ≤ i → i ≠ mState → i ≠ mo_ → g2 i = h i := fun i hi n0 n1 => by rw [f2 i (by simp; exact ⟨n0, n1⟩), C1 i hi]
      have K : ∀ k, k ≠ 0 → g2 mo_ k = h mo_ k := fun k k0 => by rw [k2, C1 mo_ (by decide)]; exact if_neg k0
      have S : ∀ x, x < 30 ∨ 72 ≤ x → g2 mState x = h mState x := fun x hx => by rw [y3]; unfold see_ ob_; rw [if_neg (by omega), if_neg (by omega), if_neg (by omega), if_neg (by omega), if_neg (by omega)]
      have C2 : g2 42 = g1 42 ∧ g2 48 = g1 48 := ⟨f2 42 (by decide), f2 48 (by decide)⟩
      refine ⟨by rw [x3, y2], o, o2, tt, t2, un, Z, I.1, I2_mv I.2.1 (fun k _ _ => by rw [A 0 (by decide) (by decide) (by decide)]), I3_mv I.2.2.1 (by rw [A 1 (by decide) (by decide) (by decide)]) (A 2 (by decide) (by decide) (by decide)) (B mTape (by decide) (by decide) (by decide)) (K 2 (by decide)), I4_mv I.2.2.2.1 (B _ (by decide) (by decide) (by decide)) (B _ (by decide) (by decide) (by decide)) (B _ (by decide) (by decide) (by decide)) (B _ (by decide) (by decide) (by decide)) (B _ (by decide) (by decide) (by decide)) (K 18 (by decide)) (B _ (by decide) (by decide) (by decide)) (B _ (by decide) (by decide) (by decide)), I5_mv I.2.2.2.2.1 (B _ (by decide) (by decide) (by decide)) (fun k hk => A _ (by omega) (by omega) (by omega)), ?_, I9_mv I.2.2.2.2.2.2.1 rf (B _ (by decide) (by decide) (by decide)) (B _ (by decide) (by decide) (by decide)) (fun i h0 h1 => A i (by omega) (by omega) (by omega)) (fun x x0 x1 => S x (by omega)), I10_mv I.2.2.2.2.2.2.2.1 rf (B _ (by decide) (by decide) (by decide)) (by rw [A 0 (by decide) (by decide) (by decide)]) (by rw [A 0 (by decide) (by decide) (by decide)]) (K 28 (by decide)) (fun i h0 h1 => A i (by omega) (by omega) (by omega)) (A 49 (by decide) (by decide) (by decide)) (fun x x0 _ => S x (by omega)), (by rw [B mRoads (by decide) (by decide) (by decide), B mLines (by decide) (by decide) (by decide)]; exact TLD_cg I.2.2.2.2.2.2.2.2.1 (A _ (by omega) (by omega) (by omega)) (A _ (by omega) (by omega) (by omega)) (A _ (by omega) (by omega) (by omega))), smb_mv I.2.2.2.2.2.2.2.2.2.1 (A 150 (by decide) (by decide) (by decide)), I13_mv j13 (B _ (by decide) (by decide) (by decide)) (A _ (by decide) (by decide) (by decide)) (A _ (by decide) (by decide) (by decide)) (A _ (by decide) (by decide) (by decide)) (A _ (by decide) (by decide) (by decide))⟩
      unfold I6_
      rw [B mRoads (by decide) (by decide) (by decide)]
      obtain ⟨a, ⟨b1, b2, b3⟩, ⟨c1, c2, c3⟩⟩ := i6
      have v30 : g2 mState 30 = h mState 30 + 1 := by rw [y3]; unfold see_ ob_; rw [if_pos rfl]
      refine ⟨SEC_cg a (by have := rf.1; have := rf.2.1; omega) (fun k k0 k1 => by rw [Int.zero_add]; exact S k (by omega)) (by rw [A 43 (by decide) (by decide) (by decide)]) (fun r _ _ => by rw [A 44 (by decide) (by decide) (by decide)]) (fun r _ _ => by rw [A 45 (by decide) (by decide) (by decide)]) (fun r _ _ => by rw [A 46 (by decide) (by decide) (by decide)]), ⟨?_, fun x x0 x1 => ?_, fun u i j i0 i1 j0 j1 => ?_⟩, ⟨?_, fun x x0 x1 => ?_, fun k k0 k1 => ?_⟩⟩
      · rw [C2.1, k1 3 (by decide), S 13 (by decide)]; exact b1
      · rw [A 47 (by decide) (by decide) (by decide), S (14 + x) (by omega)]; exact b2 x x0 x1
      · rw [S 13 (by decide)] at u
        rw [A 47 (by decide) (by decide) (by decide), S _ (by have := rf.1; have := rf.2.1; omega)]; exact b3 u i j i0 i1 j0 j1
      · rw [C2.1, x5, v30]; omega
      · rw [v30] at x1
        rw [C2.2, y3]
        unfold see_ ob_
        rw [if_neg (show ¬ 31 + x = 30 by omega)]
        by_cases d3 : x = 4 * h mState 30 + 3
        · rw [if_pos (by omega), d3, ← n5.1]; exact x10
        · rw [if_neg (by omega)]
          by_cases d2 : x = 4 * h mState 30 + 2
          · rw [if_pos (by omega), d2, ← n5.1]; exact x9
          · rw [if_neg (by omega)]
            by_cases d1 : x = 4 * h mState 30 + 1
            · rw [if_pos (by omega), d1, ← n5.1]; exact x8
            · rw [if_neg (by omega)]
              by_cases d0 : x = 4 * h mState 30
              · rw [if_pos (by omega), d0, ← n5.1]; exact x7
              · rw [if_neg (by omega), x6 x (by omega)]; exact c2 x x0 (by omega)
      · rw [v30] at k1
        rw [y3]
        unfold see_ ob_
        rw [if_neg (show ¬ 31 + 4 * k = 30 by omega), if_neg (by omega), if_neg (by omega), if_neg (by omega)]
        by_cases d0 : k = h mState 30
        · rw [if_pos (by omega)]; exact x1.1
        · rw [if_neg (by omega)]; exact c3 k k0 (by omega)
    · exfalso; omega

