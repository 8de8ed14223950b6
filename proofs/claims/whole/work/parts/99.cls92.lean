/-! ===== how it begins ===== -/
def Z0_ : ZT_ := (ob_ ro0_ 0 2, [], none, [], 0)
/-- what the two objects hold once they are made, before the class's first road is cleared -/
def RAW_ (h : PH_) : Prop := (h 0 2 = 4 ∧ h 0 3 = 20 ∧ h 0 4 = 36 ∧ h 0 5 = 39 ∧ h 0 10 = 0) ∧ AR_ h ∧ (h 1 2 = 0 ∧ h 2 = h mTape ∧ h mo_ 2 = 0 ∧ h mo_ 18 = 0) ∧ (∀ m : Nat, m < 4 → h (50 + 7 * m) 3 = 0) ∧ (∀ x, 0 ≤ x → x < 16 → h 47 x = 0 ∧ h 150 x = 0 ∧ h mReadShares x = 0 ∧ h mState (14 + x) = 0) ∧ wds_ h
def CLR_ (o : Nat) (h h' : PH_) : Prop := off_ [o, o + 6, o + 7, o + 8, o + 12, o + 13, o + 15] h h' ∧ (h' o 0 = 2 ∧ h' o 1 = 0 ∧ h' o 2 = 0 ∧ h' o 3 = 0 ∧ h' o 4 = 0 ∧ h' o 5 = 0 ∧ h' o 6 = 0 ∧ h' o 7 = 0) ∧ h' (o + 8) 3 = 0 ∧ (∀ r, 0 ≤ r → r < 4 → h' (o + 6) r = 0 ∧ h' (o + 7) r = 0) ∧ (∀ k, 0 ≤ k → k < 5 → h' (o + 12) k = 0 ∧ h' (o + 13) k = 0) ∧ (∀ x, 0 ≤ x → x < 192 → h' (o + 15) x = -1)
theorem CLR_z {h h1 : PH_} (q : CLR_ 4 h h1) : CZ_ Z0_ h1 4 0 := by
  have c : CL0_ h1 4 := q.2
  have e : up_ h1 4 0 2 = h1 := by
    funext i x
    rw [up_ap]
    by_cases u : i = 4 ∧ x = 0
    · rw [if_pos u, u.1, u.2]; exact c.1.1.symm
    · rw [if_neg u]
  have z := CZ_0 (a := 0) (show is6_ 4 by decide) c (show (2 : Int) ≤ 2 ∧ (2 : Int) ≤ 4 by decide)
  rw [e] at z
  exact z
theorem INVE_0 {h h1 h2 h3 h4 h5 : PH_} (R : RAW_ h) (q1 : CLR_ 4 h h1) (br : BRD_ (ob_ ro0_ 0 2) 4 36 h1 h2) (q3 : off_ [mRoads] h2 h3) (q3' : ∀ k, 0 ≤ k → k < 80 → h3 mRoads (0 + k) = ro0_ k) (e4 : h4 = up_ h3 mRoads 0 2) (f5 : off_ [mState, mLines, mIsMarked, mo_] h4 h5) (ms : h5 mState = bgn_ (h4 mRoads) (h4 mState)) (ml : h5 mLines = ob_ (h4 mLines) 0 0) (mm : h5 mo_ = ob_ (h4 mo_) 28 0) (mk : ∀ m, 0 ≤ m → m < 4 → h5 mIsMarked m = 0) : INVE_ h5 := by
  obtain ⟨⟨r2, r3, r4, r5, r10⟩, rA, ⟨t1, t2, t3, t4⟩, r9, rz, rw_⟩ := R
  have cz := CLR_z q1
  have f1 : off_ [4, 10, 11, 12, 16, 17, 19] h h1 := q1.1
  have z6 : is6_ 4 := by decide
  have z10 : is10_ 36 := by decide
  have G : ∀ i, i < 1000 → h5 i = h2 i := fun i hi => by
    rw [f5 i (fun u => by have := (show ∀ i ∈ [mState, mLines, mIsMarked, mo_], 1000 ≤ i by decide) i u; omega), e4, up_off (scne hi), q3 i (by simp only [List.mem_singleton]; exact scne hi)]
  have H2 : ∀ i, 1000 ≤ i → h2 i = h i := fun i hi => by
    rw [br.1 i (by simp; omega), f1 i (by simp; omega)]
  have B : ∀ i, 1000 ≤ i → i ∉ [mState, mLines, mIsMarked, mo_, mRoads] → h5 i = h i := fun i hi hn => by
    simp only [List.mem_cons, not_or] at hn
    rw [f5 i (by simp only [List.mem_cons, not_or]; exact ⟨hn.1, hn.2.1, hn.2.2.1, hn.2.2.2.1, List.not_mem_nil⟩), e4, up_off hn.2.2.2.2.1, q3 i (by simp only [List.mem_singleton]; exact hn.2.2.2.2.1)]
    exact H2 i hi
  have h4o : ∀ i, i ≠ mRoads → h4 i = h2 i := fun i hi => by rw [e4, up_off hi, q3 i (by simp only [List.mem_singleton]; exact hi)]
  have eR5 : h5 mRoads = h4 mRoads := f5 _ (by decide)
  have eR : ∀ k, 0 ≤ k → k < 80 → h5 mRoads k = ob_ ro0_ 0 2 k := fun k k0 k1 => by
    rw [eR5, e4, up_at]
    unfold ob_
    by_cases c : k = 0
    · rw [if_pos c, if_pos c]
    · rw [if_neg c, if_neg c]
      have := q3' k k0 k1
      rw [Int.zero_add] at this; exact this
  have mo5 : ∀ k, k ≠ 28 → h5 mo_ k = h mo_ k := fun k hk => by
    rw [mm]; unfold ob_; rw [if_neg hk, h4o mo_ (by decide), H2 mo_ (by decide)]
  have m28 : h5 mo_ 28 = 0 := by rw [mm]; exact if_pos rfl
  have nr : NR_ Z0_ h5 := by
    refine ⟨fun k k0 k1 _ => eR k k0 k1, ⟨by rw [mo5 18 (by decide), t4]; rfl, Nat.zero_le _, fun i hi => absurd hi (Nat.not_lt_zero _)⟩, ?_, fun j hj => absurd hj (Nat.not_lt_zero _), zk_0 (by decide)⟩
    show h5 mRoads 5 = -1
    rw [eR 5 (by decide) (by decide)]; rfl
  have j5 : I5_ 4 Z0_ h5 := I5_new z6 z10 cz br nr G
  have ms' : h5 mState = bgn_ (h5 mRoads) (h2 mState) := by rw [ms, eR5, h4o mState (by decide)]
  have j6 : I6_ h5 := I6_new z6 z10 cz br nr G ms' (fun x x0 x1 => by
    have q := rz x x0 x1
    rw [br.1 47 (by decide), f1 47 (by decide), H2 mState (by decide), q.1, q.2.2.2]
    decide)
  obtain ⟨bf, bk, bp, bj, bm, bs, bM, bt, b9, b0⟩ := br
  have A : ∀ i, i < 1000 → i ∉ [0, 4, 10, 11, 12, 16, 17, 18, 19, 149, 151, 42, 43, 44, 45, 46, 50, 57, 64, 71, 36] → h5 i = h i := fun i hi hn => by
    rw [G i hi, bf i (fun u => hn (by simp at u ⊢; omega)), f1 i (fun u => hn (by simp at u ⊢; omega))]
  have g0 : ∀ k, k ≠ 9 → h5 0 k = h 0 k := fun k hk => by rw [G 0 (by decide), b0 k hk, f1 0 (by decide)]
  have e11 : h5 151 11 = 0 := by rw [G 151 (by decide)]; exact bj.2.2.1
  refine ⟨4, 20, 36, 39, 0, Z0_, ⟨z6, by decide, by decide, z10, by decide, by decide⟩, ⟨?_, ?_, ?_, ?_⟩, ⟨?_, ?_, ?_⟩, ⟨nr, fun w hw => ?_, fun k k0 k1 => ?_⟩, j5, j6, fun m m4 => ?_, ⟨⟨?_, by rw [m28]; decide⟩, ⟨?_, by decide⟩, AR_mv rA (A 49 (by decide) (by decide)) (A 78 (by decide) (by decide)), fun j hj => by rw [m28] at hj; omega⟩, ⟨⟨?_, ?_⟩, fun k k0 k1 => ?_⟩, fun k k0 k1 => ?_, ⟨by rw [G 151 (by decide)]; exact bj.1, Or.inl (by rw [G 151 (by decide)]; exact bj.2.1), ⟨by rw [e11]; decide, fun m w m0 m1 u => by rw [e11, Int.zero_ediv] at u; exact absurd u (by decide)⟩, Or.inl (by rw [G 151 (by decide)]; exact bj.2.2.2.1), Or.inl (by rw [G 151 (by decide)]; exact bj.2.2.2.2)⟩⟩
  · rw [g0 2 (by decide)]; exact r2
  · rw [g0 3 (by decide)]; exact r3
  · rw [g0 4 (by decide)]; exact r4
  · rw [g0 5 (by decide)]; exact r5
  · rw [A 2 (by decide) (by decide), B mTape (by decide) (by decide)]; exact t2
  · rw [A 1 (by decide) (by decide), mo5 2 (by decide), t1, t3]
  · exact tpo_z ((mo5 2 (by decide)).trans t3)
  · rw [B mWords (by decide) (by decide)]; exact rw_ w hw
  · rw [B mReadShares (by decide) (by decide), (rz k k0 k1).2.2.1]; decide
  · have mz := mk (m : Int) (by omega) (by omega)
    refine ⟨⟨by rw [G _ (by omega), (bM m m4).1, mz], Or.inl mz⟩, Or.inl ?_, fun u => by rw [mz] at u; exact absurd u (by decide)⟩
    rw [G _ (by omega), (bM m m4).2 3 (by decide), f1 _ (by simp; omega)]
    exact r9 m m4
  · rw [G 0 (by decide), b9, m28]
  · rw [g0 10 (by decide)]; exact r10
  · rw [G 36 (by decide), bt, ml]; rfl
  · rw [ml]; exact ⟨Int.le_refl 0, show (0 : Int) ≤ 20 by decide⟩
  · rw [ml] at k1; have k1 : k < 0 := k1; omega
  · rw [A 150 (by decide) (by decide), (rz k k0 k1).2.1]; decide

