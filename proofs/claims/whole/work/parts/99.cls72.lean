/-! ===== what holds of both objects between two calls ===== -/
def zP_ (Z : ZT_) : CO_ := Z.2.2.1.getD []
def zQ_ (Z : ZT_) : Int → CO_ := fun k => Z.2.2.2.1.getD k.toNat []
def RF_ (ro : Int → Int) : Prop := (2 ≤ ro 0 ∧ ro 0 ≤ 4) ∧ (0 ≤ ro 2 ∧ ro 2 ≤ ro 0) ∧ (0 ≤ ro 1 ∧ ro 1 ≤ 4) ∧ (0 ≤ ro 3 ∧ ro 3 ≤ 4) ∧ (0 ≤ ro 4 ∧ ro 4 ≤ 99) ∧ (∀ r, 0 ≤ r → r < 4 → 0 ≤ ro (31 + 4 * r + 2) ∧ ro (31 + 4 * r + 2) ≤ 9999) ∧ (∀ r, 0 ≤ r → r < ro 2 → 1 ≤ ro (31 + 4 * r + 1) ∧ ro (31 + 4 * r + 1) ≤ 9) ∧ (∀ t, 0 ≤ t → t < ro 1 → 1 ≤ ro (11 + 5 * t) ∧ ro (11 + 5 * t) ≤ 99)
def RW_ (Z : ZT_) (h : PH_) : Prop := (0 ≤ h mRoads 5 → law_ (h mOp) (h mArg) (h mRoads 5) (zP_ Z)) ∧ (∀ k, 0 ≤ k → k < h mRoads 3 → law_ (h mOp) (h mArg) (h mRoads (6 + k)) (zQ_ Z k) ∧ lw3_ (zQ_ Z k))
theorem NR_f {Z : ZT_} {h : PH_} (H : NR_ Z h) : RF_ (h mRoads) ∧ RW_ Z h := by
  obtain ⟨e, -, hW, hQ, zk⟩ := H
  obtain ⟨⟨b0, b1, b2, b3, b4, -⟩, br, bt, -, ⟨-, lq, -⟩, -, -, bq⟩ := zk
  have e0 := e 0 (by decide) (by decide) (by decide)
  have e1 := e 1 (by decide) (by decide) (by decide)
  have e2 := e 2 (by decide) (by decide) (by decide)
  have e3 := e 3 (by decide) (by decide) (by decide)
  have e4 := e 4 (by decide) (by decide) (by decide)
  refine ⟨?_, ?_, ?_⟩
  · unfold RF_
    rw [e0, e1, e2, e3, e4]
    refine ⟨b0, b2, b1, b3, b4, fun r r0 r1 => ?_, fun r r0 r1 => ?_, fun t t0 t1 => ?_⟩
    · rw [e _ (by omega) (by omega) (by omega)]; exact (br r r0 r1).2.2.1
    · rw [e _ (by omega) (by omega) (by omega)]; exact (br r r0 (by omega)).2.1 r1
    · rw [e _ (by omega) (by omega) (by omega)]; exact (bt t t0 t1).1
  · intro u
    unfold zP_
    cases hw : Z.2.2.1 with
    | none => rw [hw] at hW; have hW : h mRoads 5 = -1 := hW; omega
    | some P => rw [hw] at hW; exact hW.2.1
  · intro k k0 k1
    rw [e3] at k1
    have l := hQ k.toNat (by omega)
    rw [tn_c k0] at l
    refine ⟨l.1, fun q hq q2 => ?_⟩
    have m : zQ_ Z k ∈ Z.2.2.2.1 := by
      unfold zQ_
      rw [List.getD_eq_getElem?_getD, List.getElem?_eq_getElem (show k.toNat < Z.2.2.2.1.length by omega)]
      exact List.getElem_mem _
    have w := ((bq _ m).1 q hq).2.1 q2
    omega
/-- a moment of the class is a state of the reference -/
def MOM_ (ro f : Int → Int) (h : PH_) (m : Nat) : Prop := SEC_ ro f 0 (h (m + 2)) (h (m + 3)) (h (m + 4)) (h (m + 1) 3) ∧ ((h m 3 = f 13 ∧ (f 13 = 0 ∨ f 13 = 1)) ∧ (∀ x, 0 ≤ x → x < 16 → (0 ≤ h (m + 5) x ∧ h (m + 5) x ≤ 99) ∧ (0 ≤ f (14 + x) ∧ f (14 + x) ≤ 99)) ∧ (f 13 = 1 → ∀ i j, 0 ≤ i → i < ro 2 → 0 ≤ j → j < ro 0 → h (m + 5) (4 * i + j) = f (14 + (4 * i + j)))) ∧ ((h m 5 = f 30 ∧ 0 ≤ f 30 ∧ f 30 ≤ 10) ∧ (∀ x, 0 ≤ x → x < 4 * f 30 → h (m + 6) x = f (31 + x)) ∧ (∀ k, 0 ≤ k → k < f 30 → 0 ≤ f (31 + 4 * k) ∧ f (31 + 4 * k) < ro 2))
theorem MOM_cp {ro f g : Int → Int} {h h' : PH_} {m p : Nat} (H : MOM_ ro f h p) (hR : 0 ≤ ro 2 ∧ ro 2 ≤ ro 0 ∧ ro 0 ≤ 4) (e : MCP_ h h' m p) (hg : ∀ x, 0 ≤ x → x < 80 → g x = f x) : MOM_ ro g h' m := by
  obtain ⟨a, ⟨b1, b2, b3⟩, ⟨c1, c2, c3⟩⟩ := H
  obtain ⟨e1, e2, e3, e4, e5, e6⟩ := e
  refine ⟨SEC_cg a (by omega) (fun k k0 k1 => by rw [Int.zero_add]; exact hg k k0 (by omega)) e3 (fun r r0 r1 => (e4 r r0 r1).1) (fun r r0 r1 => (e4 r r0 (by omega)).2.1) (fun r r0 r1 => (e4 r r0 (by omega)).2.2), ⟨?_, fun x x0 x1 => ?_, fun u i j i0 i1 j0 j1 => ?_⟩, ⟨?_, fun x x0 x1 => ?_, fun k k0 k1 => ?_⟩⟩
  · rw [e1, hg 13 (by decide) (by decide)]; exact b1
  · rw [e5 x x0 x1, hg (14 + x) (by omega) (by omega)]; exact b2 x x0 x1
  · rw [hg 13 (by decide) (by decide)] at u
    rw [e5 _ (by omega) (by omega), hg _ (by omega) (by omega)]; exact b3 u i j i0 i1 j0 j1
  · rw [e2, hg 30 (by decide) (by decide)]; exact c1
  · rw [hg 30 (by decide) (by decide)] at x1
    rw [e6 x x0 (by omega), hg _ (by omega) (by omega)]; exact c2 x x0 x1
  · rw [hg 30 (by decide) (by decide)] at k1
    rw [hg _ (by omega) (by omega)]; exact c3 k k0 k1
theorem MCP_rf {h h' : PH_} {m : Nat} (e : ∀ k, k ≤ 6 → h' (m + k) = h (m + k)) : MCP_ h h' m m := by
  unfold MCP_
  rw [show h' m = h m from e 0 (by omega), e 1 (by omega), e 2 (by omega), e 3 (by omega), e 4 (by omega), e 5 (by omega), e 6 (by omega)]
  exact ⟨rfl, rfl, rfl, fun _ _ _ => ⟨rfl, rfl, rfl⟩, fun _ _ _ => rfl, fun _ _ _ => rfl⟩
def I1_ (o o2 t t2 : Nat) : Prop := is6_ o ∧ is6_ o2 ∧ o ≠ o2 ∧ is10_ t ∧ is10_ t2 ∧ t ≠ t2
def I2_ (o o2 t t2 : Nat) (h : PH_) : Prop := h 0 2 = (o : Int) ∧ h 0 3 = (o2 : Int) ∧ h 0 4 = (t : Int) ∧ h 0 5 = (t2 : Int)
def I3_ (h : PH_) : Prop := h 2 = h mTape ∧ h 1 2 = h mo_ 2 ∧ tpo_ (h mTape, h mo_ 2)
def RSB_ (h : PH_) : Prop := ∀ k, 0 ≤ k → k < 16 → 0 ≤ h mReadShares k ∧ h mReadShares k ≤ 99
def I4_ (Z : ZT_) (h : PH_) : Prop := NR_ Z h ∧ wds_ h ∧ RSB_ h
def I5_ (o : Nat) (Z : ZT_) (h : PH_) : Prop := CLD_ (h mRoads) (zP_ Z) h o ∧ CPL_ (h mRoads) h o ∧ CNM_ Z.2.1 (h (o + 2)) (h mRoads 2) (h mRoads 3) ∧ h o 3 = h mRoads 3 ∧ ∀ k, 0 ≤ k → k < h mRoads 3 → CLA_ h o k (zQ_ Z k)
def I6_ (h : PH_) : Prop := MOM_ (h mRoads) (h mState) h 42
def I9_ (h : PH_) : Prop := ∀ m : Nat, m < 4 → (h (50 + 7 * m) 4 = h mIsMarked (m : Int) ∧ (h mIsMarked (m : Int) = 0 ∨ h mIsMarked (m : Int) = 1)) ∧ (h (50 + 7 * m) 3 = 0 ∨ h (50 + 7 * m) 3 = 1) ∧ (h mIsMarked (m : Int) = 1 → MOM_ (h mRoads) (fun x => h mState (80 * (1 + (m : Int)) + x)) h (50 + 7 * m))
def usl_ (un j : Nat) : Nat := 79 + 4 * ((un + 15 - j) % 16)
def I10_ (un : Nat) (h : PH_) : Prop := (h 0 9 = h mo_ 28 ∧ 0 ≤ h mo_ 28 ∧ h mo_ 28 ≤ 16) ∧ (h 0 10 = (un : Int) ∧ un < 16) ∧ AR_ h ∧ ∀ j : Nat, (j : Int) < h mo_ 28 → SEC_ (h mRoads) (h mState) (400 + 80 * (h mo_ 28 - 1 - j)) (h (usl_ un j + 1)) (h (usl_ un j + 2)) (h (usl_ un j + 3)) (h (usl_ un j) 3)
def I13_ (o : Nat) (Z : ZT_) (h : PH_) : Prop := h 151 0 = (o : Int) ∧ (h 151 1 = 0 ∨ h 151 1 = 1 ∧ CJG_ (h mRoads) (zP_ Z) h ∧ CJL_ (h mRoads) (zP_ Z) h 0) ∧ jca_ (h mRoads) (zP_ Z) h ∧ (h 151 13 = 0 ∨ h 151 13 = aft_ (h mRoads) (skb_ (h mRoads) (zP_ Z) 0 12) 20 1 (pas_ (h mRoads))) ∧ (h 151 16 = -2147483648 ∨ jls_ h (skb_ (h mRoads) (zP_ Z) 2 12 (pas_ (h mRoads))))
def INV_ (o o2 t t2 un : Nat) (Z : ZT_) (h : PH_) : Prop := I1_ o o2 t t2 ∧ I2_ o o2 t t2 h ∧ I3_ h ∧ I4_ Z h ∧ I5_ o Z h ∧ I6_ h ∧ I9_ h ∧ I10_ un h ∧ TLD_ (h mRoads) (h mLines) h t ∧ smb_ h ∧ I13_ o Z h
/-- what the reference's methods ask of its cells -/
def SB_ (ro f : Int → Int) : Prop := (0 ≤ f 0 ∧ f 0 ≤ ro 1) ∧ (∀ r, 0 ≤ r → r < 4 → -1 ≤ f (1 + r) ∧ f (1 + r) ≤ 3) ∧ (∀ r, 0 ≤ r → r < 4 → -1000000 ≤ f (9 + r) ∧ f (9 + r) ≤ 1000000) ∧ (f 13 = 0 ∨ f 13 = 1) ∧ (∀ x, 0 ≤ x → x < 16 → 0 ≤ f (14 + x) ∧ f (14 + x) ≤ 99) ∧ (0 ≤ f 30 ∧ f 30 ≤ 10) ∧ (∀ k, 0 ≤ k → k < f 30 → 0 ≤ f (31 + 4 * k) ∧ f (31 + 4 * k) < ro 2)
def LB_ (ro li : Int → Int) : Prop := (0 ≤ li 0 ∧ li 0 ≤ 20) ∧ ∀ k, 0 ≤ k → k < li 0 → 0 ≤ li (1 + 2 * k) → li (1 + 2 * k) < ro 2 ∧ 0 ≤ li (2 + 2 * k) ∧ li (2 + 2 * k) ≤ 3
def RI_ (Z : ZT_) (h : PH_) : Prop := (NR_ Z h ∧ RF_ (h mRoads) ∧ RW_ Z h) ∧ wds_ h ∧ tpo_ (h mTape, h mo_ 2) ∧ (0 ≤ h mo_ 28 ∧ h mo_ 28 ≤ 16) ∧ SB_ (h mRoads) (h mState) ∧ LB_ (h mRoads) (h mLines) ∧ ∀ k, 0 ≤ k → k < 4 → h mIsMarked k = 0 ∨ h mIsMarked k = 1
theorem NR_cg {Z : ZT_} {h h' : PH_} (H : NR_ Z h) (e1 : h' mRoads = h mRoads) (e2 : h' mOp = h mOp) (e3 : h' mArg = h mArg) (e4 : h' mNames = h mNames) (e5 : h' mNameOf = h mNameOf) (e6 : h' mo_ 18 = h mo_ 18) : NR_ Z h' := by
  obtain ⟨a, b, c, d, f⟩ := H
  refine ⟨by rw [e1]; exact a, by rw [e4, e5, e6]; exact b, ?_, ?_, f⟩
  · cases hw : Z.2.2.1 with
    | none => rw [hw] at c; show h' mRoads 5 = -1; rw [e1]; exact c
    | some P => rw [hw] at c; show 0 ≤ h' mRoads 5 ∧ law2_ (h' mOp) (h' mArg) (h' mRoads 5) P; rw [e1, e2, e3]; exact c
  · unfold QN_ at *; rw [e1, e2, e3]; exact d
theorem RW_cg {Z : ZT_} {h h' : PH_} (H : RW_ Z h) (e1 : h' mRoads = h mRoads) (e2 : h' mOp = h mOp) (e3 : h' mArg = h mArg) : RW_ Z h' := by unfold RW_ at *; rw [e1, e2, e3]; exact H
theorem RI_mv {Z : ZT_} {h h' : PH_} (H : RI_ Z h) (e : ∀ i, 1000 ≤ i → h' i = h i) : RI_ Z h' := by
  obtain ⟨⟨a1, a2, a3⟩, b, c, d, f, g, k⟩ := H
  refine ⟨⟨NR_cg a1 (e _ (by decide)) (e _ (by decide)) (e _ (by decide)) (e _ (by decide)) (e _ (by decide)) (by rw [e mo_ (by decide)]), by rw [e mRoads (by decide)]; exact a2, RW_cg a3 (e _ (by decide)) (e _ (by decide)) (e _ (by decide))⟩, ?_, ?_, ?_, ?_, ?_, ?_⟩
  · unfold wds_ at *; rw [e mWords (by decide)]; exact b
  · rw [e mTape (by decide), e mo_ (by decide)]; exact c
  · rw [e mo_ (by decide)]; exact d
  · rw [e mRoads (by decide), e mState (by decide)]; exact f
  · rw [e mRoads (by decide), e mLines (by decide)]; exact g
  · rw [e mIsMarked (by decide)]; exact k
theorem MOM_b {ro f : Int → Int} {h : PH_} {m : Nat} (H : MOM_ ro f h m) (hT : ro 1 ≤ 4) : SB_ ro f := by
  obtain ⟨⟨a0, a1, a2, a3, a4, a5⟩, ⟨b1, b2, b3⟩, ⟨c1, c2, c3⟩⟩ := H
  refine ⟨by rw [← a0.1]; exact a0.2, fun r r0 r1 => ?_, fun r r0 r1 => ?_, b1.2, fun x x0 x1 => (b2 x x0 x1).2, c1.2, c3⟩
  · exact (a1 r r0 r1).2.2.2
  · have x := a5 r r0 r1
    have x1 : -(1000 * h (m + 1) 3) ≤ f (9 + r) := x.1
    have x2 : f (9 + r) ≤ 9999 + 1000 * h (m + 1) 3 := x.2
    omega
theorem RI_of {o o2 t t2 un : Nat} {Z : ZT_} {h : PH_} (H : INV_ o o2 t t2 un Z h) : RI_ Z h := by
  obtain ⟨i1, i2, i3, i4, i5, i6, i9, i10, i11, -, -⟩ := H
  have f := NR_f i4.1
  refine ⟨⟨i4.1, f⟩, i4.2.1, i3.2.2, i10.1.2, MOM_b i6 f.1.2.2.1.2, ⟨i11.1.2, fun k k0 k1 u => ?_⟩, fun k k0 k1 => ?_⟩
  · have q := (i11.2 k k0 k1).2.2
    have s := f.1.1
    omega
  · have q := (i9 k.toNat (by omega)).1.2
    rw [tn_c k0] at q; exact q
/-- calls that write on scratch cells alone -/
def CSC_ (o : Nat) : List Nat := [143, 144, 145, 146, 147, 148, 149, 151, 152, 153, 154, 155, 156, 157, 158, 159, 160, 161, 162, 163, 164, 165, 166, 167, 168, 169, 170, 171, 172, o + 10, o + 11, o + 15]
def RSC_ : List Nat := [mo_, mState, mSits, mFacts, mPile, mTotals, mSeatsThen, mLawfuls, mWorths, mChanges, mPasts, mMoves, mRow, mBestRow, mBestTotals, mLeft, mPieces, mHas, mPrices, mCalledPlans]
theorem RSC_lo : ∀ i ∈ RSC_, 1000 ≤ i := by decide
theorem I13_mv {o : Nat} {Z : ZT_} {h h' : PH_} (H : I13_ o Z h) (e0 : h' mRoads = h mRoads) (e1 : h' 151 = h 151) (e2 : h' 153 = h 153) (e3 : h' 154 = h 154) (e4 : h' 160 = h 160) : I13_ o Z h' := by
  obtain ⟨a, b, c, d, f⟩ := H
  refine ⟨by rw [e1]; exact a, ?_, ?_, by rw [e0, e1]; exact d, ?_⟩
  · unfold CJG_ CJL_ at *; rw [e0, e1, e2, e3]; exact b
  · rw [e0]; exact jca_cg c (by rw [e1]) e4
  · rw [e0, e1]
    rcases f with f | f
    · exact Or.inl f
    · refine Or.inr ?_
      generalize skb_ (h mRoads) (zP_ Z) 2 12 (pas_ (h mRoads)) = B at *
      cases B with
      | none => show h' 151 16 = _; rw [e1]; exact f
      | some q => show h' 151 16 = _ ∧ _; rw [e1]; exact f
theorem INV_s {o o2 t t2 un : Nat} {Z : ZT_} {h h1 h2 : PH_} (I : INV_ o o2 t t2 un Z h) (f1 : off_ (CSC_ o) h h1) (m1 : CWM_ (h mRoads) (zP_ Z) h1 o) (j1 : I13_ o Z h1) (f2 : off_ RSC_ h1 h2) (s2 : ∀ x, x < 1680 → h2 mState x = h1 mState x) (k2 : ∀ k, k = 2 ∨ k = 18 ∨ k = 28 → h2 mo_ k = h1 mo_ k) : INV_ o o2 t t2 un Z h2 := by
  obtain ⟨i1, i2, i3, i4, i5, i6, i9, i10, i11, i12, i13⟩ := I
  have oo := i1.1
  have oo2 := i1.2.1
  have ot := i1.2.2.2.1
  have A : ∀ i, i < 143 → i ≠ o + 10 → i ≠ o + 11 → i ≠ o + 15 → h2 i = h i := fun i h0 h10 h11 h15 => by
    rw [f2 i (fun u => by have := RSC_lo i u; omega), f1 i (by simp [CSC_]; omega)]
  have A0 : ∀ i, i < 4 ∨ 36 ≤ i ∧ i < 143 → h2 i = h i := fun i hi => A i (by omega) (by omega) (by omega) (by omega)
  have B : h2 150 = h 150 := by rw [f2 150 (fun u => absurd (RSC_lo 150 u) (by decide)), f1 150 (by simp [CSC_]; omega)]
  have C : ∀ i, 1000 ≤ i → i ∉ RSC_ → h2 i = h i := fun i h0 hn => by rw [f2 i hn, f1 i (by simp [CSC_]; omega)]
  have C1 : ∀ i, 1000 ≤ i → h1 i = h i := fun i h0 => f1 i (by simp [CSC_]; omega)
  have eR : h2 mRoads = h mRoads := C _ (by decide) (by decide)
  have eS : ∀ x, x < 1680 → h2 mState x = h mState x := fun x hx => by rw [s2 x hx, C1 mState (by decide)]
  have eM : ∀ k, k = 2 ∨ k = 18 ∨ k = 28 → h2 mo_ k = h mo_ k := fun k hk => by rw [k2 k hk, C1 mo_ (by decide)]
  have J : ∀ i, 151 ≤ i → i ≤ 172 → h2 i = h1 i := fun i h0 h3 => f2 i (fun u => by have := RSC_lo i u; omega)
  have rf := (NR_f i4.1).1
  have r4 : 0 ≤ h mRoads 2 ∧ h mRoads 2 ≤ h mRoads 0 ∧ h mRoads 0 ≤ 4 := ⟨rf.2.1.1, rf.2.1.2, rf.1.2⟩
  refine ⟨i1, ?_, ?_, ⟨NR_cg i4.1 eR (C _ (by decide) (by decide)) (C _ (by decide) (by decide)) (C _ (by decide) (by decide)) (C _ (by decide) (by decide)) (eM 18 (by decide)), ?_, ?_⟩, ⟨?_, ?_, ?_, ?_, ?_⟩, ?_, fun m m4 => ?_, ⟨?_, ?_, ⟨?_, ?_⟩, fun j hj => ?_⟩, ?_, ?_, ?_⟩
  · unfold I2_ at *; rw [A0 0 (by omega)]; exact i2
  · unfold I3_ at *; rw [A0 2 (by omega), A0 1 (by omega), C mTape (by decide) (by decide), eM 2 (by decide)]; exact i3
  · intro w hw; rw [C mWords (by decide) (by decide)]; exact i4.2.1 w hw
  · intro k k0 k1; rw [C mReadShares (by decide) (by decide)]; exact i4.2.2 k k0 k1
  · rw [eR]
    have w1 : CLD_ (h mRoads) (zP_ Z) h1 o := CLD_w i5.1 oo f1 (by intro i hi; simp [CSC_] at hi; omega) m1
    exact CLD_off w1 oo f2 (fun i hi => by have := RSC_lo i hi; omega)
  · rw [eR]; exact CPL_cg i5.2.1 (A o (by omega) (by omega) (by omega) (by omega)) (A (o + 14) (by omega) (by omega) (by omega) (by omega))
  · rw [eR, A (o + 2) (by omega) (by omega) (by omega) (by omega)]; exact i5.2.2.1
  · rw [eR, A o (by omega) (by omega) (by omega) (by omega)]; exact i5.2.2.2.1
  · rw [eR]; exact fun k k0 k1 => CLA_mv (i5.2.2.2.2 k k0 k1) (A _ (by omega) (by omega) (by omega) (by omega)) (A _ (by omega) (by omega) (by omega) (by omega)) (A _ (by omega) (by omega) (by omega) (by omega)) (by rw [A _ (by omega) (by omega) (by omega) (by omega)])
  · unfold I6_; rw [eR]
    exact MOM_cp i6 r4 (MCP_rf (fun k hk => A0 _ (by omega))) (fun x x0 x1 => eS x (by omega))
  · have q := i9 m m4
    rw [A0 (50 + 7 * m) (by omega), C mIsMarked (by decide) (by decide), eR]
    exact ⟨q.1, q.2.1, fun u => MOM_cp (q.2.2 u) r4 (MCP_rf (fun k hk => A0 _ (by omega))) (fun x x0 x1 => eS _ (by omega))⟩
  · rw [A0 0 (by omega), eM 28 (by decide)]; exact i10.1
  · rw [A0 0 (by omega)]; exact i10.2.1
  · rw [A0 49 (by omega)]; exact i10.2.2.1.1
  · rw [A0 78 (by omega)]; exact i10.2.2.1.2
  · rw [eM 28 (by decide)] at hj ⊢
    have q := i10.2.2.2 j hj
    have ub : 79 ≤ usl_ un j ∧ usl_ un j + 3 < 143 := by unfold usl_; omega
    have u16 := i10.1
    rw [eR, A0 (usl_ un j + 1) (by omega), A0 (usl_ un j + 2) (by omega), A0 (usl_ un j + 3) (by omega), A0 (usl_ un j) (by omega)]
    exact SEC_cg q (by omega) (fun k k0 k1 => eS _ (by omega)) rfl (fun _ _ _ => rfl) (fun _ _ _ => rfl) (fun _ _ _ => rfl)
  · rw [eR, C mLines (by decide) (by decide)]
    exact TLD_cg i11 (A0 _ (by omega)) (A0 _ (by omega)) (A0 _ (by omega))
  · unfold smb_ at *; rw [B]; exact i12
  · exact I13_mv j1 (f2 _ (by decide)) (J _ (by decide) (by decide)) (J _ (by decide) (by decide)) (J _ (by decide) (by decide)) (J _ (by decide) (by decide))

