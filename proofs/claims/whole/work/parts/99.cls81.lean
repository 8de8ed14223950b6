/-! ===== told: journey and shares ===== -/
theorem tpo_z {f : Int → Int} {n : Int} (h : n = 0) : tpo_ (f, n) := by
  subst h
  exact ⟨⟨Int.le_refl 0, show (0 : Int) ≤ 1000 by decide⟩, fun k k0 k1 => by have k1 : k < 0 := k1; omega⟩
theorem jq_r {nm : NM_} {f : Int → Int} {R K S : Int} {L : JL_} (H : CNM_ nm f R K) (J : jqo_ nm S L) {q : Int × Int} (hq : q ∈ L) : (0 ≤ q.1 ∧ q.1 < R ∧ 0 ≤ q.2 ∧ q.2 < S) ∨ q.1 = -1 := by
  rcases J q hq with ⟨a, b, c, d, w, hw⟩ | ⟨a, -⟩
  · rcases fnd_m (nm := nm) (w := w) with u | u
    · omega
    · have x := (H.2.2.1 _ u).2
      rw [hw] at x
      have x : 0 ≤ q.1 ∧ q.1 < R ∧ f q.1 = _ ∨ q.1 = 20 ∧ _ := x
      rcases x with x | x
      · exact Or.inl ⟨a, x.2.1, c, by omega⟩
      · omega
  · exact Or.inr a

theorem pair_journey {G : GT_} (hC : okC_ G) (hM : okM_ G) {h : PH_} (I0 : INVE_ h)  : PAI_ G yX11_journey cX11_journey 3 (some .int) 10 [rr_ G 0] yX12_journey cX12_journey 5 (some .int) 6 [rr_ G mo_] h := by
  obtain ⟨o, o2, tt, t2, un, Z, I⟩ := I0
  have oo := I.1.1
  have ot := I.1.2.2.2.1
  have L := I.2.1.1
  have LT := I.2.1.2.2.1
  have HC := I.2.2.2.2.1.1
  have hj := I.2.2.2.2.1.2.1
  have i6 := I.2.2.2.2.2.1
  have j13 := I.2.2.2.2.2.2.2.2.2.2
  have R := RI_of I
  have rf := R.1.2.1
  refine ⟨_, d_journey hC h o oo L tt ot LT t2 I.1.2.2.2.2.1 I.2.1.2.2.2 (h mTape) (h mo_ 2) (I3_ct I.2.2.1) Z (by have zr := I.2.2.2.1.1.1; rw [← zr 2 (by decide) (by decide) (by decide), ← zr 3 (by decide) (by decide) (by decide)]; exact I.2.2.2.2.1.2.2.1) (by have zr := I.2.2.2.1.1.1; rw [← zr 2 (by decide) (by decide) (by decide)]; exact ⟨HC.1.1.2.2.1, by have := rf.1; have := rf.2.1; omega⟩) (by have zr := I.2.2.2.1.1.1; rw [← zr 0 (by decide) (by decide) (by decide)]; exact ⟨HC.1.1.1, rf.1⟩), fun z1 g1 q1 => ?_⟩
  obtain ⟨t1, q1⟩ := q1
  have ot2 := I.1.2.2.2.2.1
  have tne := I.1.2.2.2.2.2
  have C1 : ∀ i, 1000 ≤ i → g1 i = h i := (by
    rcases q1 with q1 | ⟨L1, _, _, f1, _⟩
    · exact fun i hi => q1.2.2 i (by simp [JFR_]; omega)
    · exact fun i hi => f1 i (by simp [JFR_]; omega))
  have R1 := RI_mv R C1
  have rf1 := R1.1.2.1
  refine ⟨_, c_journey hM g1 R1.2.2.1 R1.2.1 rf1.1 Z.2.1 R1.1.1.2.1, fun z2 g2 q2 => ?_⟩
  have e := C1 mRoads (by decide)
  have zr := I.2.2.2.1.1.1
  obtain ⟨⟨f2, k2⟩, q2, t0, t2'⟩ := q2
  rw [e, C1 mTape (by decide), C1 mo_ (by decide), zr 0 (by decide) (by decide) (by decide)] at q2
  rcases q1 with ⟨x1, x2, f1⟩ | ⟨L1, x1, x2, f1, y4, y5, y0, x3, x4, x5⟩
  · rw [x1] at q2
    have q2 : z2 = z1 ∧ 0 < z1 ∧ ∀ x, x < 45 → g2 mLines x = g1 mLines x := q2
    have A1 : ∀ i, i < 1000 → (i ≠ 0 ∧ i ≠ 1 ∧ i ≠ 3 ∧ i ≠ t2 ∧ i ≠ t2 + 1 ∧ i ≠ t2 + 2) → g1 i = h i := fun i hi hn => f1 i (by simp [JFR_]; omega)
    have A : ∀ i, i < 1000 → (i ≠ 0 ∧ i ≠ 1 ∧ i ≠ 3 ∧ i ≠ t2 ∧ i ≠ t2 + 1 ∧ i ≠ t2 + 2) → g2 i = h i := fun i hi hn => by rw [f2 i (fun u => by have := (show ∀ i ∈ [mSort, mPlace, mValue, mLines, mo_], 1000 ≤ i by decide) i u; omega)]; exact A1 i hi hn
    have B : ∀ i, 1000 ≤ i → i ∉ [mSort, mPlace, mValue, mLines, mo_] → g2 i = h i := fun i hi hn => by rw [f2 i hn, C1 i hi]
    have K : ∀ k, k ≠ 0 → k ≠ 2 → k ≠ 3 → k ≠ 7 → k ≠ 8 → g2 mo_ k = h mo_ k := fun k k0 k2' k3 k7 k8 => by rw [k2 k k0 k2' k3 k7 k8, C1 mo_ (by decide)]
    have i3 := I.2.2.1
    have n3 : I3_ g2 := ⟨by rw [A 2 (by decide) (by omega), B mTape (by decide) (by decide)]; exact i3.1, by rw [t2', f2 1 (by decide)]; exact t1, tpo_z t2'⟩
    have K0 : ∀ k, k ≠ 4 → k ≠ 5 → g2 0 k = h 0 k := fun k _ _ => by rw [f2 0 (by decide), f1 0 (by simp [JFR_]; omega)]
    refine ⟨q2.1.symm, ⟨o, o2, tt, t2, un, Z, I.1, I2_mv I.2.1 (fun k _ _ => by rw [f2 0 (by decide), f1 0 (by simp [JFR_]; omega)]), n3, I4_mv I.2.2.2.1 (B _ (by decide) (by decide)) (B _ (by decide) (by decide)) (B _ (by decide) (by decide)) (B _ (by decide) (by decide)) (B _ (by decide) (by decide)) (K 18 (by decide) (by decide) (by decide) (by decide) (by decide)) (B _ (by decide) (by decide)) (B _ (by decide) (by decide)), I5_mv I.2.2.2.2.1 (B _ (by decide) (by decide)) (fun k hk => A _ (by omega) (by omega)), I6_mv i6 rf (B _ (by decide) (by decide)) (fun i h0 h1 => A i (by omega) (by omega)) (fun x _ _ => by rw [B mState (by decide) (by decide)]), I9_mv I.2.2.2.2.2.2.1 rf (B _ (by decide) (by decide)) (B _ (by decide) (by decide)) (fun i h0 h1 => A i (by omega) (by omega)) (fun x x0 x1 => by rw [B mState (by decide) (by decide)]), I10_mv I.2.2.2.2.2.2.2.1 rf (B _ (by decide) (by decide)) (K0 9 (by decide) (by decide)) (K0 10 (by decide) (by decide)) (K 28 (by decide) (by decide) (by decide) (by decide) (by decide)) (fun i h0 h1 => A i (by omega) (by omega)) (A 49 (by decide) (by omega)) (fun x x0 x1 => by rw [B mState (by decide) (by decide)]), ?_, smb_mv I.2.2.2.2.2.2.2.2.2.1 (A 150 (by decide) (by omega)), I13_mv j13 (B _ (by decide) (by decide)) (A _ (by decide) (by omega)) (A _ (by decide) (by omega)) (A _ (by decide) (by omega)) (A _ (by decide) (by omega))⟩⟩
    rw [B mRoads (by decide) (by decide)]
    exact TLD_cg (TLD_rq (fun _ _ _ => rfl) (fun x x0 x1 => by rw [q2.2.2 x x1, C1 mLines (by decide)]) I.2.2.2.2.2.2.2.2.1) (A _ (by omega) (by omega)) (A _ (by omega) (by omega)) (A _ (by omega) (by omega))
  · rw [x1] at q2
    have q2 : z2 = 0 ∧ g2 mLines 0 = (L1.length : Int) ∧ L1.length ≤ 20 ∧ jla_ (g2 mLines) 1 L1 ∧ jqo_ Z.2.1 (Z.1 0) L1 := q2
    have A1 : ∀ i, i < 1000 → (i ≠ 0 ∧ i ≠ 1 ∧ i ≠ 3 ∧ i ≠ t2 ∧ i ≠ t2 + 1 ∧ i ≠ t2 + 2) → g1 i = h i := fun i hi hn => f1 i (by simp [JFR_]; omega)
    have A : ∀ i, i < 1000 → (i ≠ 0 ∧ i ≠ 1 ∧ i ≠ 3 ∧ i ≠ t2 ∧ i ≠ t2 + 1 ∧ i ≠ t2 + 2) → g2 i = h i := fun i hi hn => by rw [f2 i (fun u => by have := (show ∀ i ∈ [mSort, mPlace, mValue, mLines, mo_], 1000 ≤ i by decide) i u; omega)]; exact A1 i hi hn
    have B : ∀ i, 1000 ≤ i → i ∉ [mSort, mPlace, mValue, mLines, mo_] → g2 i = h i := fun i hi hn => by rw [f2 i hn, C1 i hi]
    have K : ∀ k, k ≠ 0 → k ≠ 2 → k ≠ 3 → k ≠ 7 → k ≠ 8 → g2 mo_ k = h mo_ k := fun k k0 k2' k3 k7 k8 => by rw [k2 k k0 k2' k3 k7 k8, C1 mo_ (by decide)]
    have i3 := I.2.2.1
    have n3 : I3_ g2 := ⟨by rw [A 2 (by decide) (by omega), B mTape (by decide) (by decide)]; exact i3.1, by rw [t2', f2 1 (by decide)]; exact t1, tpo_z t2'⟩
    have G : ∀ i, i < 1000 → g2 i = g1 i := fun i hi => f2 i (fun u => by have := (show ∀ i ∈ [mSort, mPlace, mValue, mLines, mo_], 1000 ≤ i by decide) i u; omega)
    have K0 : ∀ k, k ≠ 4 → k ≠ 5 → g2 0 k = h 0 k := fun k k4 k5 => by rw [f2 0 (by decide)]; exact y0 k k4 k5
    refine ⟨x2.trans q2.1.symm, ⟨o, o2, t2, tt, un, Z, ⟨oo, I.1.2.1, I.1.2.2.1, ot2, ot, fun u => tne u.symm⟩, ⟨(K0 2 (by decide) (by decide)).trans I.2.1.1, (K0 3 (by decide) (by decide)).trans I.2.1.2.1, by rw [f2 0 (by decide)]; exact y4, by rw [f2 0 (by decide)]; exact y5⟩, n3, I4_mv I.2.2.2.1 (B _ (by decide) (by decide)) (B _ (by decide) (by decide)) (B _ (by decide) (by decide)) (B _ (by decide) (by decide)) (B _ (by decide) (by decide)) (K 18 (by decide) (by decide) (by decide) (by decide) (by decide)) (B _ (by decide) (by decide)) (B _ (by decide) (by decide)), I5_mv I.2.2.2.2.1 (B _ (by decide) (by decide)) (fun k hk => A _ (by omega) (by omega)), I6_mv i6 rf (B _ (by decide) (by decide)) (fun i h0 h1 => A i (by omega) (by omega)) (fun x _ _ => by rw [B mState (by decide) (by decide)]), I9_mv I.2.2.2.2.2.2.1 rf (B _ (by decide) (by decide)) (B _ (by decide) (by decide)) (fun i h0 h1 => A i (by omega) (by omega)) (fun x x0 x1 => by rw [B mState (by decide) (by decide)]), I10_mv I.2.2.2.2.2.2.2.1 rf (B _ (by decide) (by decide)) (K0 9 (by decide) (by decide)) (K0 10 (by decide) (by decide)) (K 28 (by decide) (by decide) (by decide) (by decide) (by decide)) (fun i h0 h1 => A i (by omega) (by omega)) (A 49 (by decide) (by omega)) (fun x x0 x1 => by rw [B mState (by decide) (by decide)]), ?_, smb_mv I.2.2.2.2.2.2.2.2.2.1 (A 150 (by decide) (by omega)), I13_mv j13 (B _ (by decide) (by decide)) (A _ (by decide) (by omega)) (A _ (by decide) (by omega)) (A _ (by decide) (by omega)) (A _ (by decide) (by omega))⟩⟩
    rw [B mRoads (by decide) (by decide)]
    refine ⟨⟨?_, ?_⟩, fun k k0 k1 => ?_⟩
    · rw [G t2 (by omega), x3, q2.2.1]
    · rw [q2.2.1]; omega
    · rw [q2.2.1] at k1
      have hj : k.toNat < L1.length := by omega
      have a := x5 k.toNat hj
      have b := q2.2.2.2.1 k.toNat hj
      rw [tn_c k0] at a b
      have m : L1.getD k.toNat (0, 0) ∈ L1 := by
        rw [List.getD_eq_getElem?_getD, List.getElem?_eq_getElem hj]
        exact List.getElem_mem _
      have r := jq_r I.2.2.2.2.1.2.2.1 q2.2.2.2.2 m
      rw [G (t2 + 1) (by omega), G (t2 + 2) (by omega), a.1, a.2, b.1, show 2 + 2 * k = 1 + 1 + 2 * k by omega, b.2, zr 0 (by decide) (by decide) (by decide)]
      exact ⟨rfl, rfl, r⟩

theorem pair_shares {G : GT_} (hC : okC_ G) (hM : okM_ G) {h : PH_} (I0 : INVE_ h)  : PAI_ G yX11_shares cX11_shares 2 (some .int) 10 [rr_ G 0] yX12_shares cX12_shares 3 (some .int) 6 [rr_ G mo_] h := by
  obtain ⟨o, o2, tt, t2, un, Z, I⟩ := I0
  have oo := I.1.1
  have ot := I.1.2.2.2.1
  have L := I.2.1.1
  have LT := I.2.1.2.2.1
  have HC := I.2.2.2.2.1.1
  have hj := I.2.2.2.2.1.2.1
  have i6 := I.2.2.2.2.2.1
  have j13 := I.2.2.2.2.2.2.2.2.2.2
  have R := RI_of I
  have rf := R.1.2.1
  refine ⟨_, d_shares hC h o oo L (h mTape) (h mo_ 2) (I3_ct I.2.2.1) (h mRoads 0) (h mRoads 2) ⟨HC.1.1.1, rf.1⟩ ⟨HC.1.1.2.2.1, by have := rf.1; have := rf.2.1; omega⟩ I.2.2.2.2.2.2.2.2.2.1, fun z1 g1 q1 => ?_⟩
  obtain ⟨t1, sm, q1⟩ := q1
  have C1 : ∀ i, 1000 ≤ i → g1 i = h i := (by
    rcases q1 with q1 | ⟨L1, _, _, f1, _⟩
    · exact fun i hi => q1.2.2 i (by simp; omega)
    · exact fun i hi => f1 i (by simp; omega))
  have R1 := RI_mv R C1
  have rf1 := R1.1.2.1
  refine ⟨_, c_shares hM g1 R1.2.2.1 R1.2.1 rf1.1 rf1.2.1 (by rw [C1 mReadShares (by decide)]; exact I.2.2.2.1.2.2), fun z2 g2 q2 => ?_⟩
  have e := C1 mRoads (by decide)
  obtain ⟨⟨f2, k2⟩, q2, t0, t2', rsb⟩ := q2
  rw [e, C1 mTape (by decide), C1 mo_ (by decide)] at q2
  rcases q1 with ⟨x1, x2, f1⟩ | ⟨f, x1, x2, f1, y3, yk, x3, x4⟩
  · rw [x1] at q2
    have q2 : z2 = z1 ∧ 0 < z1 ∧ g2 mState = g1 mState := q2
    have A1 : ∀ i, i < 1000 → (i ≠ 1 ∧ i ≠ 3 ∧ i ≠ 150) → g1 i = h i := fun i hi hn => f1 i (by simp; omega)
    have A : ∀ i, i < 1000 → (i ≠ 1 ∧ i ≠ 3 ∧ i ≠ 150) → g2 i = h i := fun i hi hn => by rw [f2 i (fun u => by have := (show ∀ i ∈ [mSort, mPlace, mValue, mReadShares, mState, mo_], 1000 ≤ i by decide) i u; omega)]; exact A1 i hi hn
    have B : ∀ i, 1000 ≤ i → i ∉ [mSort, mPlace, mValue, mReadShares, mState, mo_] → g2 i = h i := fun i hi hn => by rw [f2 i hn, C1 i hi]
    have K : ∀ k, k ≠ 0 → k ≠ 2 → k ≠ 3 → k ≠ 7 → k ≠ 8 → g2 mo_ k = h mo_ k := fun k k0 k2' k3 k7 k8 => by rw [k2 k k0 k2' k3 k7 k8, C1 mo_ (by decide)]
    have i3 := I.2.2.1
    have n3 : I3_ g2 := ⟨by rw [A 2 (by decide) (by omega), B mTape (by decide) (by decide)]; exact i3.1, by rw [t2', f2 1 (by decide)]; exact t1, tpo_z t2'⟩
    have S : ∀ x, 30 ≤ x → g2 mState x = h mState x := fun x _ => by rw [q2.2.2, C1 mState (by decide)]
    refine ⟨q2.1.symm, ⟨o, o2, tt, t2, un, Z, I.1, I2_mv I.2.1 (fun k _ _ => by rw [A 0 (by decide) (by omega)]), n3, ⟨NR_cg I.2.2.2.1.1 (B _ (by decide) (by decide)) (B _ (by decide) (by decide)) (B _ (by decide) (by decide)) (B _ (by decide) (by decide)) (B _ (by decide) (by decide)) (K 18 (by decide) (by decide) (by decide) (by decide) (by decide)), fun w hw => by rw [B mWords (by decide) (by decide)]; exact I.2.2.2.1.2.1 w hw, rsb⟩, I5_mv I.2.2.2.2.1 (B _ (by decide) (by decide)) (fun k hk => A _ (by omega) (by omega)), I6_mv i6 rf (B _ (by decide) (by decide)) (fun i h0 h1 => A i (by omega) (by omega)) (fun x _ _ => by rw [q2.2.2, C1 mState (by decide)]), I9_mv I.2.2.2.2.2.2.1 rf (B _ (by decide) (by decide)) (B _ (by decide) (by decide)) (fun i h0 h1 => A i (by omega) (by omega)) (fun x x0 x1 => S x (by omega)), I10_mv I.2.2.2.2.2.2.2.1 rf (B _ (by decide) (by decide)) (by rw [A 0 (by decide) (by omega)]) (by rw [A 0 (by decide) (by omega)]) (K 28 (by decide) (by decide) (by decide) (by decide) (by decide)) (fun i h0 h1 => A i (by omega) (by omega)) (A 49 (by decide) (by omega)) (fun x x0 x1 => S x (by omega)), (by rw [B mRoads (by decide) (by decide), B mLines (by decide) (by decide)]; exact TLD_cg I.2.2.2.2.2.2.2.2.1 (A _ (by omega) (by omega)) (A _ (by omega) (by omega)) (A _ (by omega) (by omega))), (fun k k0 k1 => by rw [f2 150 (by decide)]; exact sm k k0 k1), I13_mv j13 (B _ (by decide) (by decide)) (A _ (by decide) (by omega)) (A _ (by decide) (by omega)) (A _ (by decide) (by omega)) (A _ (by decide) (by omega))⟩⟩
  · rw [x1] at q2
    have q2 : z2 = 0 ∧ g2 mState 13 = 1 ∧ (∀ i j, 0 ≤ i → i < h mRoads 2 → 0 ≤ j → j < h mRoads 0 → g2 mState (14 + (4 * i + j)) = f (4 * i + j)) ∧ (∀ x, x < 13 ∨ 30 ≤ x → g2 mState x = g1 mState x) ∧ ∀ k, 0 ≤ k → k < 16 → 0 ≤ g2 mState (14 + k) ∧ g2 mState (14 + k) ≤ 99 := q2
    obtain ⟨q2a, q2b, q2c, q2d, q2e⟩ := q2
    have A1 : ∀ i, i < 1000 → (i ≠ 1 ∧ i ≠ 3 ∧ i ≠ 150 ∧ i ≠ 47 ∧ i ≠ 42) → g1 i = h i := fun i hi hn => f1 i (by simp; omega)
    have A : ∀ i, i < 1000 → (i ≠ 1 ∧ i ≠ 3 ∧ i ≠ 150 ∧ i ≠ 47 ∧ i ≠ 42) → g2 i = h i := fun i hi hn => by rw [f2 i (fun u => by have := (show ∀ i ∈ [mSort, mPlace, mValue, mReadShares, mState, mo_], 1000 ≤ i by decide) i u; omega)]; exact A1 i hi hn
    have B : ∀ i, 1000 ≤ i → i ∉ [mSort, mPlace, mValue, mReadShares, mState, mo_] → g2 i = h i := fun i hi hn => by rw [f2 i hn, C1 i hi]
    have K : ∀ k, k ≠ 0 → k ≠ 2 → k ≠ 3 → k ≠ 7 → k ≠ 8 → g2 mo_ k = h mo_ k := fun k k0 k2' k3 k7 k8 => by rw [k2 k k0 k2' k3 k7 k8, C1 mo_ (by decide)]
    have i3 := I.2.2.1
    have n3 : I3_ g2 := ⟨by rw [A 2 (by decide) (by omega), B mTape (by decide) (by decide)]; exact i3.1, by rw [t2', f2 1 (by decide)]; exact t1, tpo_z t2'⟩
    have S : ∀ x, x < 13 ∨ 30 ≤ x → g2 mState x = h mState x := fun x hx => by rw [q2d x hx, C1 mState (by decide)]
    have G : ∀ i, i < 1000 → g2 i = g1 i := fun i hi => f2 i (fun u => by have := (show ∀ i ∈ [mSort, mPlace, mValue, mReadShares, mState, mo_], 1000 ≤ i by decide) i u; omega)
    refine ⟨x2.trans q2a.symm, ⟨o, o2, tt, t2, un, Z, I.1, I2_mv I.2.1 (fun k _ _ => by rw [A 0 (by decide) (by omega)]), n3, ⟨NR_cg I.2.2.2.1.1 (B _ (by decide) (by decide)) (B _ (by decide) (by decide)) (B _ (by decide) (by decide)) (B _ (by decide) (by decide)) (B _ (by decide) (by decide)) (K 18 (by decide) (by decide) (by decide) (by decide) (by decide)), fun w hw => by rw [B mWords (by decide) (by decide)]; exact I.2.2.2.1.2.1 w hw, rsb⟩, I5_mv I.2.2.2.2.1 (B _ (by decide) (by decide)) (fun k hk => A _ (by omega) (by omega)), ?_, I9_mv I.2.2.2.2.2.2.1 rf (B _ (by decide) (by decide)) (B _ (by decide) (by decide)) (fun i h0 h1 => A i (by omega) (by omega)) (fun x x0 x1 => S x (by omega)), I10_mv I.2.2.2.2.2.2.2.1 rf (B _ (by decide) (by decide)) (by rw [A 0 (by decide) (by omega)]) (by rw [A 0 (by decide) (by omega)]) (K 28 (by decide) (by decide) (by decide) (by decide) (by decide)) (fun i h0 h1 => A i (by omega) (by omega)) (A 49 (by decide) (by omega)) (fun x x0 x1 => S x (by omega)), (by rw [B mRoads (by decide) (by decide), B mLines (by decide) (by decide)]; exact TLD_cg I.2.2.2.2.2.2.2.2.1 (A _ (by omega) (by omega)) (A _ (by omega) (by omega)) (A _ (by omega) (by omega))), (fun k k0 k1 => by rw [f2 150 (by decide)]; exact sm k k0 k1), I13_mv j13 (B _ (by decide) (by decide)) (A _ (by decide) (by omega)) (A _ (by decide) (by omega)) (A _ (by decide) (by omega)) (A _ (by decide) (by omega))⟩⟩
    unfold I6_
    rw [B mRoads (by decide) (by decide)]
    obtain ⟨a, ⟨b1, b2, b3⟩, ⟨c1, c2, c3⟩⟩ := i6
    refine ⟨SEC_cg a (by have := rf.1; have := rf.2.1; omega) (fun k k0 k1 => by rw [Int.zero_add]; exact S k (by omega)) (by rw [A 43 (by decide) (by decide)]) (fun r _ _ => by rw [A 44 (by decide) (by decide)]) (fun r _ _ => by rw [A 45 (by decide) (by decide)]) (fun r _ _ => by rw [A 46 (by decide) (by decide)]), ⟨?_, fun x x0 x1 => ?_, fun u i j i0 i1 j0 j1 => ?_⟩, ⟨?_, fun x x0 x1 => ?_, fun k k0 k1 => ?_⟩⟩
    · rw [G 42 (by decide), y3, q2b]; exact ⟨rfl, Or.inr rfl⟩
    · rw [G 47 (by decide)]; exact ⟨x4 x x0 x1, q2e x x0 x1⟩
    · rw [G 47 (by decide), q2c i j i0 i1 j0 j1]
      exact x3 i j i0 j0 j1 (Or.inl i1)
    · rw [G 42 (by decide), yk 5 (by decide), S 30 (by decide)]; exact c1
    · rw [S 30 (by decide)] at x1
      rw [A 48 (by decide) (by decide), S _ (by omega)]; exact c2 x x0 x1
    · rw [S 30 (by decide)] at k1
      rw [S _ (by omega)]; exact c3 k k0 k1

