theorem I5_w {o : Nat} {Z : ZT_} {h h' : PH_} (ho : is6_ o) (H : I5_ o Z h) (e0 : h' mRoads = h mRoads) (e : ∀ k, k ≤ 15 → k ≠ 10 → k ≠ 11 → k ≠ 15 → h' (o + k) = h (o + k)) (m : CWM_ (h mRoads) (zP_ Z) h' o) : I5_ o Z h' := by
  obtain ⟨⟨a1, a2, a3⟩, b, c, d, f⟩ := H
  have e00 : h' o = h o := e 0 (by omega) (by omega) (by omega) (by omega)
  have E := fun k (h1 : k ≤ 15) (h2 : k ≠ 10 ∧ k ≠ 11 ∧ k ≠ 15) => e k h1 h2.1 h2.2.1 h2.2.2
  refine ⟨⟨?_, ?_, ?_⟩, ?_, ?_, ?_, ?_⟩
  · rw [e0]; exact CRD_cg a1 (fun k _ => congrFun e00 k) (E 1 (by omega) (by decide)) (E 3 (by omega) (by decide)) (E 4 (by omega) (by decide)) (E 5 (by omega) (by decide)) (E 6 (by omega) (by decide)) (E 7 (by omega) (by decide))
  · rw [e0]; exact CLP_cg a2 (E 9 (by omega) (by decide)) (E 12 (by omega) (by decide)) (E 13 (by omega) (by decide)) (E 8 (by omega) (by decide))
  · rw [e0]; exact m
  · rw [e0]; exact CPL_cg b e00 (E 14 (by omega) (by decide))
  · rw [e0, E 2 (by omega) (by decide)]; exact c
  · rw [e0, e00]; exact d
  · rw [e0]; exact fun k k0 k1 => CLA_mv (f k k0 k1) (E 9 (by omega) (by decide)) (E 12 (by omega) (by decide)) (E 13 (by omega) (by decide)) (by rw [E 8 (by omega) (by decide)])
theorem drv_hi {ro f si : Int → Int} {P : List (Int × Int)} {x : Int} (hR : 0 ≤ ro 2 ∧ ro 2 ≤ 4) (hx : 13 ≤ x) : drv_ ro P f si 0 x = f x := by
  unfold drv_ ob_ dr2_ dr1_
  rw [if_neg (by omega), if_neg (by omega), if_neg (by omega)]

theorem pair_drive {G : GT_} (hC : okC_ G) (hM : okM_ G) {h : PH_} (I0 : INVE_ h)  : PAI_ G yX11_drive cX11_drive 1 (some .int) 6 [rr_ G 0] yX12_drive cX12_drive 1 (some .int) 6 [rr_ G mo_] h := by
  obtain ⟨o, o2, tt, t2, un, Z, I⟩ := I0
  have oo := I.1.1
  have ot := I.1.2.2.2.1
  have L := I.2.1.1
  have LT := I.2.1.2.2.1
  have HC := I.2.2.2.2.1.1
  have hj := I.2.2.2.2.1.2.1
  have i6 := I.2.2.2.2.2.1
  have j13 := I.2.2.2.2.2.2.2.2.2.2
  have R := RI_of I
  have rf := R.1.2.1
  refine ⟨_, d_drive hC h o oo L _ _ HC I.2.2.2.2.2.2.2.1.2.2.1 un I.2.2.2.2.2.2.2.1.2.1.2 I.2.2.2.2.2.2.2.1.2.1.1 (by have := I.2.2.2.2.2.2.2.1.1; omega) (fun r r0 r1 => by have x := (i6.1.2.1 r r0 (by have := rf.1; have := rf.2.1; omega)).2.2.1; have x1 : -1 ≤ h 44 r := x.1; have x2 : h 44 r < h mRoads 0 := x.2; have := rf.1; omega) (by have x := i6.1.1; have x : h 43 3 = h mState 0 ∧ 0 ≤ h 43 3 ∧ h 43 3 ≤ h mRoads 1 := x; have := rf.2.2.1; omega) (fun r r0 r1 => by have x := i6.1.2.2.2.2.1 r r0 r1; have x : h 46 r = h mState (0 + 9 + r) := x; have y := i6.1.2.2.2.2.2 r r0 (by have := rf.1; have := rf.2.1; omega); have z : h 43 3 = h mState 0 ∧ 0 ≤ h 43 3 ∧ h 43 3 ≤ h mRoads 1 := i6.1.1; have y1 : -(1000 * h 43 3) ≤ h mState (0 + 9 + r) := y.1; have y2 : h mState (0 + 9 + r) ≤ 9999 + 1000 * h 43 3 := y.2; have := rf.2.2.1; omega), fun z1 g1 q1 => ?_⟩
  have C1' : ∀ hx, REM_ un h hx → ∀ i, 1000 ≤ i → hx i = h i := fun hx rr i hi => rr.1 i (by have := I.2.2.2.2.2.2.2.1.2.1.2; simp; omega)
  have C1 : ∀ i, 1000 ≤ i → g1 i = h i := (by
    rcases q1 with q1 | ⟨_, hx, rr, ex, _⟩
    · exact fun i _ => (by rw [q1.2.1])
    · exact fun i hi => by rw [ex i (by simp <;> omega), C1' hx rr i hi])
  have R1 := RI_mv R C1
  have rf1 := R1.1.2.1
  refine ⟨_, c_drive hM g1 rf1.1 rf1.2.1 (zP_ Z) R1.1.2.2.1 R1.2.2.2.1 (fun r r0 r1 => (R1.2.2.2.2.1.2.1 r r0 (by have := rf1.1; have := rf1.2.1; omega)).2) rf1.2.2.2.2.1 rf1.2.2.1.2 R1.2.2.2.2.1.1.1 R1.2.2.2.2.1.2.2.1, fun z2 g2 q2 => ?_⟩
  have e := C1 mRoads (by decide)
  have i10 := I.2.2.2.2.2.2.2.1
  have R4 : 0 ≤ h mRoads 2 ∧ h mRoads 2 ≤ 4 := by have := rf.1; have := rf.2.1; omega
  have sec := i6.1
  obtain ⟨q2a, q2⟩ := q2
  rw [e, C1 mState (by decide)] at q2
  have mm := SEC_mdr sec R4
  rcases q1 with ⟨x1, x2, x3⟩ | ⟨x1, hx, rr, ex, mx, nx, ax, tx, zx⟩
  · rcases q2 with ⟨y1, y2, y3, y4⟩ | ⟨y1, y2, y3, y4⟩
    · exact absurd (mm.mpr y1) x1
    · exact ⟨by rw [x3, y2], INVE_s I (L := []) (by rw [← x2]; exact off_rf) (by simp) (by rw [← x2]; exact HC.2.2) (by rw [← x2]; exact j13) q2a (by decide) (fun x _ => by rw [y3, C1 mState (by decide)]) (fun k hk => by rw [y4]; exact if_neg (by omega))⟩
  · rcases q2 with ⟨y1, y3, y2, y4⟩ | ⟨y1, y2, y3, y4⟩
    · have m28 : g1 mo_ 28 = h mo_ 28 := by rw [C1 mo_ (by decide)]
      rw [m28] at y3 y4
      have hxo := rr.1
      have un16 := i10.2.1.2
      have A1 : ∀ i, i < 1000 → (i ≠ 0 ∧ i ≠ 43 ∧ i ≠ 44 ∧ i ≠ 45 ∧ i ≠ 46 ∧ ¬ (78 ≤ i ∧ i ≤ 142) ∧ i ≠ o + 10 ∧ i ≠ o + 11 ∧ i ≠ o + 15) → g1 i = h i := fun i hi hn => by rw [ex i (by simp; omega), hxo i (by simp; omega)]
      have A : ∀ i, i < 1000 → (i ≠ 0 ∧ i ≠ 43 ∧ i ≠ 44 ∧ i ≠ 45 ∧ i ≠ 46 ∧ ¬ (78 ≤ i ∧ i ≤ 142) ∧ i ≠ o + 10 ∧ i ≠ o + 11 ∧ i ≠ o + 15) → g2 i = h i := fun i hi hn => by rw [q2a i (fun u => by have := (show ∀ i ∈ [mState, mo_, mSits, mFacts, mPile], 1000 ≤ i by decide) i u; omega)]; exact A1 i hi hn
      have B : ∀ i, 1000 ≤ i → i ∉ [mState, mo_, mSits, mFacts, mPile] → g2 i = h i := fun i hi hn => by rw [q2a i hn, C1 i hi]
      have K : ∀ k, k ≠ 0 → k ≠ 28 → g2 mo_ k = h mo_ k := fun k k0 k28 => by rw [y4, C1 mo_ (by decide)]; exact (if_neg k28).trans (if_neg k0)
      have u16 := i10.1
      have kl : ∀ x, x < 400 → kep_ (h mState) (h mo_ 28) x = h mState x := fun x hx => kep_lo i10.1.2 hx
      have seck : SEC_ (h mRoads) (kep_ (h mState) (h mo_ 28)) 0 (h 44) (h 45) (h 46) (h 43 3) := SEC_cg sec R4.2 (fun k k0 k1 => kl _ (by omega)) rfl (fun _ _ _ => rfl) (fun _ _ _ => rfl) (fun _ _ _ => rfl)
      have mk := (SEC_mdr seck R4).mp x1
      have go := SEC_go (P := zP_ Z) (ah' := g1 45) (to' := g1 46) seck R4 rf.2.2.2.2.1 mk ax tx
      have de : drv_ (h mRoads) (zP_ Z) (kep_ (h mState) (h mo_ 28)) (fun r => h mState (1 + r)) 0 = drv_ (h mRoads) (zP_ Z) (kep_ (h mState) (h mo_ 28)) (fun r => kep_ (h mState) (h mo_ 28) (0 + 1 + r)) 0 := drv_cg2 (fun r r0 r1 => by show h mState (1 + r) = kep_ (h mState) (h mo_ 28) (0 + 1 + r); rw [kl (0 + 1 + r) (by omega), Int.zero_add])
      have S : ∀ x, 13 ≤ x → x < 400 → g2 mState x = h mState x := fun x x0 x1' => by
        rw [y3, drv_hi R4 x0]; exact kl x x1'
      have S2 : ∀ x, 400 ≤ x → x < 1680 → g2 mState x = kep_ (h mState) (h mo_ 28) x := fun x x0 _ => by rw [y3, drv_hi R4 (by omega)]
      have G : ∀ i, i < 1000 → g2 i = g1 i := fun i hi => q2a i (fun u => by have := (show ∀ i ∈ [mState, mo_, mSits, mFacts, mPile], 1000 ≤ i by decide) i u; omega)
      have Gx : ∀ i, i < 1000 → (i ≠ 43 ∧ i ≠ 45 ∧ i ≠ 46 ∧ i ≠ o + 10 ∧ i ≠ o + 11 ∧ i ≠ o + 15) → g2 i = hx i := fun i hi hn => by rw [G i hi]; exact ex i (by simp; omega)
      have z0 : g2 mState 0 = h 43 3 + 1 := by
        rw [y3, de]; exact go.1.1.symm
      refine ⟨by rw [zx, nx, y2, z0], ⟨o, o2, tt, t2, (un + 1) % 16, Z, I.1, I2_mv I.2.1 (fun k k9 k10 => (by rw [Gx 0 (by decide) (by omega)]; exact rr.2.1 k k9 k10)), I3_mv I.2.2.1 (by rw [A 1 (by decide) (by omega)]) (A 2 (by decide) (by omega)) (B mTape (by decide) (by decide)) (K 2 (by decide) (by decide)), I4_mv I.2.2.2.1 (B _ (by decide) (by decide)) (B _ (by decide) (by decide)) (B _ (by decide) (by decide)) (B _ (by decide) (by decide)) (B _ (by decide) (by decide)) (K 18 (by decide) (by decide)) (B _ (by decide) (by decide)) (B _ (by decide) (by decide)), I5_w oo I.2.2.2.2.1 (B _ (by decide) (by decide)) (fun k hk k10 k11 k15 => by rw [Gx _ (by omega) (by omega)]; exact hxo _ (by simp; omega)) (by unfold CWM_; rw [G _ (by omega)]; exact mx), ?_, I9_mv I.2.2.2.2.2.2.1 rf (B _ (by decide) (by decide)) (B _ (by decide) (by decide)) (fun i h0 h1 => A i (by omega) (by omega)) (fun x x0 x1 => S x (by omega) (by omega)), ?_, (by rw [B mRoads (by decide) (by decide), B mLines (by decide) (by decide)]; exact TLD_cg I.2.2.2.2.2.2.2.2.1 (A _ (by omega) (by omega)) (A _ (by omega) (by omega)) (A _ (by omega) (by omega))), smb_mv I.2.2.2.2.2.2.2.2.2.1 (A 150 (by decide) (by omega)), I13_mv j13 (B _ (by decide) (by decide)) (A _ (by decide) (by omega)) (A _ (by decide) (by omega)) (A _ (by decide) (by omega)) (A _ (by decide) (by omega))⟩⟩
      · unfold I6_
        rw [B mRoads (by decide) (by decide)]
        obtain ⟨a, ⟨b1, b2, b3⟩, ⟨c1, c2, c3⟩⟩ := i6
        refine ⟨?_, ⟨?_, fun x x0 x1 => ?_, fun u i j i0 i1 j0 j1 => ?_⟩, ⟨?_, fun x x0 x1 => ?_, fun k k0 k1 => ?_⟩⟩
        · rw [y3, de]
          show SEC_ _ _ 0 (g2 44) (g2 45) (g2 46) (g2 43 3)
          rw [Gx 44 (by decide) (by omega), hxo 44 (by simp; omega), G 45 (by decide), G 46 (by decide), G 43 (by decide), nx]
          exact go
        · rw [A 42 (by decide) (by omega), S 13 (by decide) (by decide)]; exact b1
        · rw [A 47 (by decide) (by omega), S _ (by omega) (by omega)]; exact b2 x x0 x1
        · rw [S 13 (by decide) (by decide)] at u
          rw [A 47 (by decide) (by omega), S _ (by have := rf.1; have := rf.2.1; omega) (by have := rf.1; have := rf.2.1; omega)]; exact b3 u i j i0 i1 j0 j1
        · rw [A 42 (by decide) (by omega), S 30 (by decide) (by decide)]; exact c1
        · rw [S 30 (by decide) (by decide)] at x1
          rw [A 48 (by decide) (by omega), S _ (by omega) (by omega)]; exact c2 x x0 x1
        · rw [S 30 (by decide) (by decide)] at k1
          rw [S _ (by omega) (by omega)]; exact c3 k k0 k1
      · exact I10_keep i10 i6 rf rr (fun i h0 h1 => Gx i (by omega) (by omega)) (Gx 49 (by decide) (by omega)) (by rw [Gx 0 (by decide) (by omega)]) (by rw [Gx 0 (by decide) (by omega)]) (B mRoads (by decide) (by decide)) (by rw [y4]; exact if_pos rfl) S2
    · exact absurd (mm.mp x1) y1

theorem pair_undo {G : GT_} (hC : okC_ G) (hM : okM_ G) {h : PH_} (I0 : INVE_ h)  : PAI_ G yX11_undo cX11_undo 1 (some .boolean) 3 [rr_ G 0] yX12_undo cX12_undo 1 (some .boolean) 2 [rr_ G mo_] h := by
  obtain ⟨o, o2, tt, t2, un, Z, I⟩ := I0
  have oo := I.1.1
  have ot := I.1.2.2.2.1
  have L := I.2.1.1
  have LT := I.2.1.2.2.1
  have HC := I.2.2.2.2.1.1
  have hj := I.2.2.2.2.1.2.1
  have i6 := I.2.2.2.2.2.1
  have j13 := I.2.2.2.2.2.2.2.2.2.2
  have R := RI_of I
  have rf := R.1.2.1
  refine ⟨_, d_undo hC h I.2.2.2.2.2.2.2.1.2.2.1 un I.2.2.2.2.2.2.2.1.2.1.2 I.2.2.2.2.2.2.2.1.2.1.1 (by have := I.2.2.2.2.2.2.2.1.1; omega), fun z1 g1 q1 => ?_⟩
  skip
  have C1 : ∀ i, 1000 ≤ i → g1 i = h i := (by
    rcases q1 with q1 | q1
    · exact fun i _ => (by rw [q1.2.1])
    · exact fun i hi => q1.2.2.1 i (by simp; omega))
  have R1 := RI_mv R C1
  have rf1 := R1.1.2.1
  refine ⟨_, c_undo hM g1 R1.2.2.2.1, fun z2 g2 q2 => ?_⟩
  have e := C1 mRoads (by decide)
  have i10 := I.2.2.2.2.2.2.2.1
  have R4 : 0 ≤ h mRoads 2 ∧ h mRoads 2 ≤ 4 := by have := rf.1; have := rf.2.1; omega
  have sec := i6.1
  obtain ⟨q2a, q2⟩ := q2
  have m28 : g1 mo_ 28 = h mo_ 28 := by rw [C1 mo_ (by decide)]
  rw [m28, C1 mState (by decide)] at q2
  rcases q1 with ⟨x1, x2, x3⟩ | ⟨x1, x3, rr⟩
  · rcases q2 with ⟨y1, y2, y3, y4⟩ | ⟨y1, y2, y3, y4⟩
    · exact ⟨by rw [x3, y2], INVE_s I (L := []) (by rw [← x2]; exact off_rf) (by simp) (by rw [← x2]; exact HC.2.2) (by rw [← x2]; exact j13) q2a (by decide) (fun x _ => by rw [y3, C1 mState (by decide)]) (fun k hk => by rw [y4]; exact if_neg (by omega))⟩
    · exfalso; have := i10.1.1; omega
  · rcases q2 with ⟨y1, y2, y3, y4⟩ | ⟨y1, y2, y3, y4⟩
    · exfalso; have := i10.1.1; omega
    · have hxo := rr.1
      have un16 := i10.2.1.2
      have A1 : ∀ i, i < 1000 → (i ≠ 0 ∧ i ≠ 43 ∧ i ≠ 44 ∧ i ≠ 45 ∧ i ≠ 46 ∧ ¬ (78 ≤ i ∧ i ≤ 142) ∧ i ≠ o + 10 ∧ i ≠ o + 11 ∧ i ≠ o + 15) → g1 i = h i := fun i hi hn => hxo i (by simp; omega)
      have A : ∀ i, i < 1000 → (i ≠ 0 ∧ i ≠ 43 ∧ i ≠ 44 ∧ i ≠ 45 ∧ i ≠ 46 ∧ ¬ (78 ≤ i ∧ i ≤ 142) ∧ i ≠ o + 10 ∧ i ≠ o + 11 ∧ i ≠ o + 15) → g2 i = h i := fun i hi hn => by rw [q2a i (fun u => by have := (show ∀ i ∈ [mState, mo_], 1000 ≤ i by decide) i u; omega)]; exact A1 i hi hn
      have B : ∀ i, 1000 ≤ i → i ∉ [mState, mo_] → g2 i = h i := fun i hi hn => by rw [q2a i hn, C1 i hi]
      have K : ∀ k, k ≠ 0 → k ≠ 28 → g2 mo_ k = h mo_ k := fun k k0 k28 => by rw [y4, C1 mo_ (by decide)]; exact (if_neg k28).trans (if_neg k0)
      have u16 := i10.1
      have S : ∀ x, 13 ≤ x → x < 400 → g2 mState x = h mState x := fun x x0 x1' => by
        rw [y3]; unfold cpy_; rw [if_neg (by omega)]
      have S2 : ∀ x, 400 ≤ x → x < 1680 → g2 mState x = h mState x := fun x x0 _ => by
        rw [y3]; unfold cpy_; rw [if_neg (by omega)]
      have G : ∀ i, i < 1000 → g2 i = g1 i := fun i hi => q2a i (fun u => by have := (show ∀ i ∈ [mState, mo_], 1000 ≤ i by decide) i u; omega)
      have us0 : usl_ un 0 = 79 + 4 * ((un + 15) % 16) := by unfold usl_; omega
      have d0 := i10.2.2.2 0 (by omega)
      rw [us0] at d0
      have e28 : g2 mo_ 28 = h mo_ 28 - 1 := by rw [y4]; exact if_pos rfl
      refine ⟨by rw [x3, y2], ⟨o, o2, tt, t2, (un + 15) % 16, Z, I.1, I2_mv I.2.1 (fun k k9 k10 => (by rw [G 0 (by decide)]; exact rr.2.1 k k9 k10)), I3_mv I.2.2.1 (by rw [A 1 (by decide) (by omega)]) (A 2 (by decide) (by omega)) (B mTape (by decide) (by decide)) (K 2 (by decide) (by decide)), I4_mv I.2.2.2.1 (B _ (by decide) (by decide)) (B _ (by decide) (by decide)) (B _ (by decide) (by decide)) (B _ (by decide) (by decide)) (B _ (by decide) (by decide)) (K 18 (by decide) (by decide)) (B _ (by decide) (by decide)) (B _ (by decide) (by decide)), I5_mv I.2.2.2.2.1 (B _ (by decide) (by decide)) (fun k hk => by rw [G _ (by omega)]; exact hxo _ (by simp; omega)), ?_, I9_mv I.2.2.2.2.2.2.1 rf (B _ (by decide) (by decide)) (B _ (by decide) (by decide)) (fun i h0 h1 => A i (by omega) (by omega)) (fun x x0 x1 => S x (by omega) (by omega)), ?_, (by rw [B mRoads (by decide) (by decide), B mLines (by decide) (by decide)]; exact TLD_cg I.2.2.2.2.2.2.2.2.1 (A _ (by omega) (by omega)) (A _ (by omega) (by omega)) (A _ (by omega) (by omega))), smb_mv I.2.2.2.2.2.2.2.2.2.1 (A 150 (by decide) (by omega)), I13_mv j13 (B _ (by decide) (by decide)) (A _ (by decide) (by omega)) (A _ (by decide) (by omega)) (A _ (by decide) (by omega)) (A _ (by decide) (by omega))⟩⟩
      · unfold I6_
        rw [B mRoads (by decide) (by decide)]
        obtain ⟨a, ⟨b1, b2, b3⟩, ⟨c1, c2, c3⟩⟩ := i6
        refine ⟨?_, ⟨?_, fun x x0 x1 => ?_, fun u i j i0 i1 j0 j1 => ?_⟩, ⟨?_, fun x x0 x1 => ?_, fun k k0 k1 => ?_⟩⟩
        · show SEC_ _ _ 0 (g2 44) (g2 45) (g2 46) (g2 43 3)
          rw [G 44 (by decide), G 45 (by decide), G 46 (by decide), G 43 (by decide)]
          have sc := rr.2.2.2.2
          refine SEC_cg d0 R4.2 (fun k k0 k1 => ?_) sc.1 (fun r r0 r1 => (sc.2 r r0 r1).1) (fun r r0 r1 => (sc.2 r r0 (by omega)).2.1) (fun r r0 r1 => (sc.2 r r0 (by omega)).2.2)
          rw [y3]; unfold cpy_; rw [if_pos (by omega)]; congr 1; omega
        · rw [A 42 (by decide) (by omega), S 13 (by decide) (by decide)]; exact b1
        · rw [A 47 (by decide) (by omega), S _ (by omega) (by omega)]; exact b2 x x0 x1
        · rw [S 13 (by decide) (by decide)] at u
          rw [A 47 (by decide) (by omega), S _ (by have := rf.1; have := rf.2.1; omega) (by have := rf.1; have := rf.2.1; omega)]; exact b3 u i j i0 i1 j0 j1
        · rw [A 42 (by decide) (by omega), S 30 (by decide) (by decide)]; exact c1
        · rw [S 30 (by decide) (by decide)] at x1
          rw [A 48 (by decide) (by omega), S _ (by omega) (by omega)]; exact c2 x x0 x1
        · rw [S 30 (by decide) (by decide)] at k1
          rw [S _ (by omega) (by omega)]; exact c3 k k0 k1
      · refine ⟨⟨by rw [G 0 (by decide), rr.2.2.2.1, e28, i10.1.1], by rw [e28]; omega⟩, ⟨by rw [G 0 (by decide)]; exact rr.2.2.1, by omega⟩, AR_mv i10.2.2.1 (A 49 (by decide) (by omega)) (by rw [G 78 (by decide)]; exact hxo 78 (by decide)), fun j hj => ?_⟩
        rw [e28] at hj ⊢
        have us : usl_ ((un + 15) % 16) j = usl_ un (j + 1) := by unfold usl_; omega
        have ub := usl_b un (j + 1)
        have dj := i10.2.2.2 (j + 1) (by omega)
        rw [B mRoads (by decide) (by decide), us, G (usl_ un (j + 1) + 1) (by omega), G (usl_ un (j + 1) + 2) (by omega), G (usl_ un (j + 1) + 3) (by omega), G (usl_ un (j + 1)) (by omega), hxo (usl_ un (j + 1) + 1) (by simp; omega), hxo (usl_ un (j + 1) + 2) (by simp; omega), hxo (usl_ un (j + 1) + 3) (by simp; omega), hxo (usl_ un (j + 1)) (by simp; omega)]
        exact SEC_cg dj R4.2 (fun k k0 k1 => by rw [S2 _ (by omega) (by omega)]; congr 1; omega) rfl (fun _ _ _ => rfl) (fun _ _ _ => rfl) (fun _ _ _ => rfl)

