theorem pair_sit {G : GT_} (hC : okC_ G) (hM : okM_ G) {h : PH_} (I0 : INVE_ h) (r s : Int) (h1 : ir_ r) (h2 : ir_ s) : PAI_ G yX11_sit cX11_sit 3 (some .int) 4 [rr_ G 0, ii_ r, ii_ s] yX12_sit cX12_sit 3 (some .int) 3 [rr_ G mo_, ii_ r, ii_ s] h := by
  obtain ⟨o, o2, tt, t2, un, Z, I⟩ := I0
  have oo := I.1.1
  have ot := I.1.2.2.2.1
  have L := I.2.1.1
  have LT := I.2.1.2.2.1
  have HC := I.2.2.2.2.1.1
  have hj := I.2.2.2.2.1.2.1
  have i6 := I.2.2.2.2.2.1
  have j13 := I.2.2.2.2.2.2.2.2.2.2
  have R := RI_of I
  have rf := R.1.2.1
  refine ⟨_, d_sit hC h o oo L _ HC.1 I.2.2.2.2.2.2.2.1.2.2.1 un I.2.2.2.2.2.2.2.1.2.1.2 I.2.2.2.2.2.2.2.1.2.1.1 (by have := I.2.2.2.2.2.2.2.1.1; omega) (fun e f g e0 e1 f0 f1 ef g0 he hf => i6.1.2.2.1 e f e0 e1 f0 f1 ef (by have he : h 44 e = g := he; show 0 ≤ h 44 e; omega) (by show h 44 e = h 44 f; rw [he, hf])) r s h1 h2, fun z1 g1 q1 => ?_⟩
  have C1' : ∀ hx, REM_ un h hx → ∀ i, 1000 ≤ i → hx i = h i := fun hx rr i hi => rr.1 i (by have := I.2.2.2.2.2.2.2.1.2.1.2; simp; omega)
  have C1 : ∀ i, 1000 ≤ i → g1 i = h i := (by
    rcases q1 with q1 | ⟨_, hx, rr, ex, _⟩
    · exact fun i _ => (by rw [q1.2.1])
    · exact fun i hi => by rw [ex, sc_off (by omega), C1' hx rr i hi])
  have R1 := RI_mv R C1
  have rf1 := R1.1.2.1
  refine ⟨_, c_sit hM g1 rf1.1 rf1.2.1 R1.2.2.2.1 r s h1 h2, fun z2 g2 q2 => ?_⟩
  have e := C1 mRoads (by decide)
  have i10 := I.2.2.2.2.2.2.2.1
  have R4 : 0 ≤ h mRoads 2 ∧ h mRoads 2 ≤ 4 := by have := rf.1; have := rf.2.1; omega
  have sec := i6.1
  obtain ⟨q2a, q2⟩ := q2
  rw [e, C1 mState (by decide)] at q2
  have hm : h mState (1 + r) = h 44 r ∨ ¬ (0 ≤ r ∧ r < h mRoads 2) := by
    by_cases c : 0 ≤ r ∧ r < h mRoads 2
    · have q : h 44 r = h mState (1 + r) := (sec.2.1 r c.1 (by omega)).1 c.2
      exact Or.inl q.symm
    · exact Or.inr c
  rcases q1 with ⟨x1, x2, x3⟩ | ⟨x1, hx, rr, ex, tq⟩
  · rcases q2 with ⟨y1, y2, y3, y4⟩ | ⟨y1, y2, y3, y4⟩
    · exfalso
      rcases hm with hm | hm
      · exact x1 ⟨y1.1, y1.2.1, by rw [← hm]; exact y1.2.2⟩
      · exact hm y1.1
    · exact ⟨by rw [x3, y2], INVE_s I (L := []) (by rw [← x2]; exact off_rf) (by simp) (by rw [← x2]; exact HC.2.2) (by rw [← x2]; exact j13) q2a (by decide) (fun x _ => by rw [y3, C1 mState (by decide)]) (fun k hk => by rw [y4]; exact if_neg (by omega))⟩
  · rcases q2 with ⟨y1, y2, y3, y4⟩ | ⟨y1, y2, y3, y4⟩
    · have m28 : g1 mo_ 28 = h mo_ 28 := by rw [C1 mo_ (by decide)]
      rw [m28] at y2 y3 y4
      have hxo := rr.1
      have un16 := i10.2.1.2
      have A1 : ∀ i, i < 1000 → (i ≠ 0 ∧ i ≠ 43 ∧ i ≠ 44 ∧ i ≠ 45 ∧ i ≠ 46 ∧ ¬ (78 ≤ i ∧ i ≤ 142) ∧ i ≠ o + 10 ∧ i ≠ o + 11 ∧ i ≠ o + 15) → g1 i = h i := fun i hi hn => by rw [ex, sc_off (by omega), hxo i (by simp; omega)]
      have A : ∀ i, i < 1000 → (i ≠ 0 ∧ i ≠ 43 ∧ i ≠ 44 ∧ i ≠ 45 ∧ i ≠ 46 ∧ ¬ (78 ≤ i ∧ i ≤ 142) ∧ i ≠ o + 10 ∧ i ≠ o + 11 ∧ i ≠ o + 15) → g2 i = h i := fun i hi hn => by rw [q2a i (fun u => by have := (show ∀ i ∈ [mState, mo_], 1000 ≤ i by decide) i u; omega)]; exact A1 i hi hn
      have B : ∀ i, 1000 ≤ i → i ∉ [mState, mo_] → g2 i = h i := fun i hi hn => by rw [q2a i hn, C1 i hi]
      have K : ∀ k, k ≠ 0 → k ≠ 28 → g2 mo_ k = h mo_ k := fun k k0 k28 => by rw [y4, C1 mo_ (by decide)]; exact (if_neg k28).trans (if_neg k0)
      have u16 := i10.1
      have kl : ∀ x, x < 400 → kep_ (h mState) (h mo_ 28) x = h mState x := fun x hx => kep_lo i10.1.2 hx
      have seck : SEC_ (h mRoads) (kep_ (h mState) (h mo_ 28)) 0 (h 44) (h 45) (h 46) (h 43 3) := SEC_cg sec R4.2 (fun k k0 k1 => kl _ (by omega)) rfl (fun _ _ _ => rfl) (fun _ _ _ => rfl) (fun _ _ _ => rfl)
      have wz := SEC_who seck R4 x1.1 x1.2.1.1 x1.2.2 tq
      have tk := SEC_take seck R4 rf.1.2 x1.1 x1.2.1 x1.2.2 tq
      have wfe : who_ (fun e => kep_ (h mState) (h mo_ 28) (1 + e)) s (h mRoads 2).toNat = who_ (fun e => kep_ (h mState) (h mo_ 28) (0 + 1 + e)) s (h mRoads 2).toNat := rfl
      have zb := who_b (fun e => kep_ (h mState) (h mo_ 28) (1 + e)) s (h mRoads 2).toNat
      have S : ∀ x, 5 ≤ x → x < 400 → g2 mState x = h mState x := fun x x0 x1' => by
        rw [y3]; unfold sit_
        rw [if_neg (by omega), if_neg (by rw [y2]; omega)]; exact kl x x1'
      have S2 : ∀ x, 400 ≤ x → x < 1680 → g2 mState x = kep_ (h mState) (h mo_ 28) x := fun x x0 _ => by
        rw [y3]; unfold sit_
        rw [if_neg (by omega), if_neg (by rw [y2]; omega)]
      have G : ∀ i, i < 1000 → i ≠ 44 → g2 i = hx i := fun i hi h44 => by rw [q2a i (fun u => by have := (show ∀ i ∈ [mState, mo_], 1000 ≤ i by decide) i u; omega), ex, sc_off h44]
      have g44 : g2 44 = tkf_ (h 44) r s z1 := by rw [q2a 44 (by decide), ex, sc_at]
      refine ⟨by rw [y2, wfe]; exact wz, ⟨o, o2, tt, t2, (un + 1) % 16, Z, I.1, I2_mv I.2.1 (fun k k9 k10 => (by rw [G 0 (by decide) (by decide)]; exact rr.2.1 k k9 k10)), I3_mv I.2.2.1 (by rw [A 1 (by decide) (by omega)]) (A 2 (by decide) (by omega)) (B mTape (by decide) (by decide)) (K 2 (by decide) (by decide)), I4_mv I.2.2.2.1 (B _ (by decide) (by decide)) (B _ (by decide) (by decide)) (B _ (by decide) (by decide)) (B _ (by decide) (by decide)) (B _ (by decide) (by decide)) (K 18 (by decide) (by decide)) (B _ (by decide) (by decide)) (B _ (by decide) (by decide)), I5_mv I.2.2.2.2.1 (B _ (by decide) (by decide)) (fun k hk => by rw [G _ (by omega) (by omega)]; exact hxo _ (by simp; omega)), ?_, I9_mv I.2.2.2.2.2.2.1 rf (B _ (by decide) (by decide)) (B _ (by decide) (by decide)) (fun i h0 h1 => A i (by omega) (by omega)) (fun x x0 x1 => S x (by omega) (by omega)), ?_, (by rw [B mRoads (by decide) (by decide), B mLines (by decide) (by decide)]; exact TLD_cg I.2.2.2.2.2.2.2.2.1 (A _ (by omega) (by omega)) (A _ (by omega) (by omega)) (A _ (by omega) (by omega))), smb_mv I.2.2.2.2.2.2.2.2.2.1 (A 150 (by decide) (by omega)), I13_mv j13 (B _ (by decide) (by decide)) (A _ (by decide) (by omega)) (A _ (by decide) (by omega)) (A _ (by decide) (by omega)) (A _ (by decide) (by omega))⟩⟩
      · unfold I6_
        rw [B mRoads (by decide) (by decide)]
        obtain ⟨a, ⟨b1, b2, b3⟩, ⟨c1, c2, c3⟩⟩ := i6
        refine ⟨?_, ⟨?_, fun x x0 x1 => ?_, fun u i j i0 i1 j0 j1 => ?_⟩, ⟨?_, fun x x0 x1 => ?_, fun k k0 k1 => ?_⟩⟩
        · rw [y3, y2, wfe]
          show SEC_ _ _ 0 (g2 44) (g2 45) (g2 46) (g2 43 3)
          rw [g44, G 45 (by decide) (by decide), G 46 (by decide) (by decide), G 43 (by decide) (by decide), hxo 45 (by simp; omega), hxo 46 (by simp; omega), hxo 43 (by simp; omega)]
          exact tk
        · rw [A 42 (by decide) (by omega), S 13 (by decide) (by decide)]; exact b1
        · rw [A 47 (by decide) (by omega), S _ (by omega) (by omega)]; exact b2 x x0 x1
        · rw [S 13 (by decide) (by decide)] at u
          rw [A 47 (by decide) (by omega), S _ (by have := rf.1; have := rf.2.1; omega) (by have := rf.1; have := rf.2.1; omega)]; exact b3 u i j i0 i1 j0 j1
        · rw [A 42 (by decide) (by omega), S 30 (by decide) (by decide)]; exact c1
        · rw [S 30 (by decide) (by decide)] at x1
          rw [A 48 (by decide) (by omega), S _ (by omega) (by omega)]; exact c2 x x0 x1
        · rw [S 30 (by decide) (by decide)] at k1
          rw [S _ (by omega) (by omega)]; exact c3 k k0 k1
      · exact I10_keep i10 i6 rf rr (fun i h0 h1 => G i (by omega) (by omega)) (G 49 (by decide) (by decide)) (by rw [G 0 (by decide) (by decide)]) (by rw [G 0 (by decide) (by decide)]) (B mRoads (by decide) (by decide)) (by rw [y4]; exact if_pos rfl) S2
    · exfalso
      rcases hm with hm | hm
      · exact y1 ⟨x1.1, x1.2.1, by rw [hm]; exact x1.2.2⟩
      · exact hm x1.1

