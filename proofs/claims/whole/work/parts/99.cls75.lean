/-! ===== calls that change what is ===== -/
theorem I2_mv {o o2 t t2 : Nat} {h h' : PH_} (H : I2_ o o2 t t2 h) (e : ∀ k, k ≠ 9 → k ≠ 10 → h' 0 k = h 0 k) : I2_ o o2 t t2 h' := by
  unfold I2_ at *; rw [e 2 (by decide) (by decide), e 3 (by decide) (by decide), e 4 (by decide) (by decide), e 5 (by decide) (by decide)]; exact H
theorem I3_mv {h h' : PH_} (H : I3_ h) (e1 : h' 1 2 = h 1 2) (e2 : h' 2 = h 2) (e3 : h' mTape = h mTape) (e4 : h' mo_ 2 = h mo_ 2) : I3_ h' := by unfold I3_ at *; rw [e1, e2, e3, e4]; exact H
theorem I4_mv {Z : ZT_} {h h' : PH_} (H : I4_ Z h) (e1 : h' mRoads = h mRoads) (e2 : h' mOp = h mOp) (e3 : h' mArg = h mArg) (e4 : h' mNames = h mNames) (e5 : h' mNameOf = h mNameOf) (e6 : h' mo_ 18 = h mo_ 18) (e7 : h' mWords = h mWords) (e8 : h' mReadShares = h mReadShares) : I4_ Z h' := ⟨NR_cg H.1 e1 e2 e3 e4 e5 e6, fun w hw => by rw [e7]; exact H.2.1 w hw, fun k k0 k1 => by rw [e8]; exact H.2.2 k k0 k1⟩
theorem I5_mv {o : Nat} {Z : ZT_} {h h' : PH_} (H : I5_ o Z h) (e0 : h' mRoads = h mRoads) (e : ∀ k, k ≤ 15 → h' (o + k) = h (o + k)) : I5_ o Z h' := by
  obtain ⟨⟨a1, a2, a3⟩, b, c, d, f⟩ := H
  have e00 : h' o = h o := e 0 (by omega)
  refine ⟨⟨?_, ?_, ?_⟩, ?_, ?_, ?_, ?_⟩
  · rw [e0]; exact CRD_cg a1 (fun k _ => congrFun e00 k) (e 1 (by omega)) (e 3 (by omega)) (e 4 (by omega)) (e 5 (by omega)) (e 6 (by omega)) (e 7 (by omega))
  · rw [e0]; exact CLP_cg a2 (e 9 (by omega)) (e 12 (by omega)) (e 13 (by omega)) (e 8 (by omega))
  · unfold CWM_; rw [e0, e 15 (by omega)]; exact a3
  · rw [e0]; exact CPL_cg b e00 (e 14 (by omega))
  · rw [e0, e 2 (by omega)]; exact c
  · rw [e0, e00]; exact d
  · rw [e0]; exact fun k k0 k1 => CLA_mv (f k k0 k1) (e 9 (by omega)) (e 12 (by omega)) (e 13 (by omega)) (by rw [e 8 (by omega)])
theorem I6_mv {h h' : PH_} (H : I6_ h) (rf : RF_ (h mRoads)) (e0 : h' mRoads = h mRoads) (e : ∀ i, 42 ≤ i → i ≤ 48 → h' i = h i) (s : ∀ x, 0 ≤ x → x < 80 → h' mState x = h mState x) : I6_ h' := by
  unfold I6_; rw [e0]
  exact MOM_cp H ⟨rf.2.1.1, rf.2.1.2, rf.1.2⟩ (MCP_rf (fun k hk => e _ (by omega) (by omega))) s
theorem I9_mv {h h' : PH_} (H : I9_ h) (rf : RF_ (h mRoads)) (e0 : h' mRoads = h mRoads) (eM : h' mIsMarked = h mIsMarked) (e : ∀ i, 50 ≤ i → i ≤ 77 → h' i = h i) (s : ∀ x, 80 ≤ x → x < 400 → h' mState x = h mState x) : I9_ h' := fun m m4 => by
  have q := H m m4
  rw [e _ (by omega) (by omega), eM, e0]
  exact ⟨q.1, q.2.1, fun u => MOM_cp (q.2.2 u) ⟨rf.2.1.1, rf.2.1.2, rf.1.2⟩ (MCP_rf (fun k hk => e _ (by omega) (by omega))) (fun x x0 x1 => s _ (by omega) (by omega))⟩
theorem AR_mv {h h' : PH_} (H : AR_ h) (e1 : h' 49 = h 49) (e2 : h' 78 = h 78) : AR_ h' := by unfold AR_ at *; rw [e1, e2]; exact H
theorem usl_b (un j : Nat) : 79 ≤ usl_ un j ∧ usl_ un j + 3 < 143 := by unfold usl_; omega
theorem I10_mv {un : Nat} {h h' : PH_} (H : I10_ un h) (rf : RF_ (h mRoads)) (e0 : h' mRoads = h mRoads) (e9 : h' 0 9 = h 0 9) (e10 : h' 0 10 = h 0 10) (e28 : h' mo_ 28 = h mo_ 28) (e : ∀ i, 78 ≤ i → i ≤ 142 → h' i = h i) (e49 : h' 49 = h 49) (s : ∀ x, 400 ≤ x → x < 1680 → h' mState x = h mState x) : I10_ un h' := by
  obtain ⟨a, b, c, d⟩ := H
  refine ⟨by rw [e9, e28]; exact a, by rw [e10]; exact b, AR_mv c e49 (e 78 (by decide) (by decide)), fun j hj => ?_⟩
  rw [e28] at hj ⊢
  have ub := usl_b un j
  rw [e0, e (usl_ un j + 1) (by omega) (by omega), e (usl_ un j + 2) (by omega) (by omega), e (usl_ un j + 3) (by omega) (by omega), e (usl_ un j) (by omega) (by omega)]
  exact SEC_cg (d j hj) (by have := rf.1; have := rf.2.1; omega) (fun k k0 k1 => s _ (by omega) (by omega)) rfl (fun _ _ _ => rfl) (fun _ _ _ => rfl) (fun _ _ _ => rfl)
theorem smb_mv {h h' : PH_} (H : smb_ h) (e : h' 150 = h 150) : smb_ h' := by unfold smb_ at *; rw [e]; exact H
/-- what is, is kept for undo -/
theorem I10_keep {un : Nat} {h h1 h2 : PH_} (H : I10_ un h) (i6 : I6_ h) (rf : RF_ (h mRoads)) (r : REM_ un h h1) (e : ∀ i, 78 ≤ i → i ≤ 142 → h2 i = h1 i) (e49 : h2 49 = h1 49) (e9 : h2 0 9 = h1 0 9) (e10 : h2 0 10 = h1 0 10) (e0 : h2 mRoads = h mRoads) (e28 : h2 mo_ 28 = if h mo_ 28 = 16 then 16 else h mo_ 28 + 1) (s : ∀ x, 400 ≤ x → x < 1680 → h2 mState x = kep_ (h mState) (h mo_ 28) x) : I10_ ((un + 1) % 16) h2 := by
  obtain ⟨⟨a1, a2⟩, ⟨b1, b2⟩, c, d⟩ := H
  obtain ⟨r1, r2, r3, r4, r5⟩ := r
  have R4 : h mRoads 2 ≤ 4 := by have := rf.1; have := rf.2.1; omega
  refine ⟨⟨?_, ?_⟩, ⟨by rw [e10, r3], by omega⟩, ?_, fun j hj => ?_⟩
  · rw [e9, r4, e28, a1]; split <;> split <;> omega
  · rw [e28]; split <;> omega
  · exact AR_mv c (by rw [e49, r1 49 (by simp; omega)]) (by rw [e 78 (by decide) (by decide), r1 78 (by simp; omega)])
  · have ub := usl_b ((un + 1) % 16) j
    rw [e0, e (usl_ ((un + 1) % 16) j + 1) (by omega) (by omega), e (usl_ ((un + 1) % 16) j + 2) (by omega) (by omega), e (usl_ ((un + 1) % 16) j + 3) (by omega) (by omega), e (usl_ ((un + 1) % 16) j) (by omega) (by omega)]
    rw [e28] at hj ⊢
    by_cases j0 : j = 0
    · subst j0
      have us : usl_ ((un + 1) % 16) 0 = 79 + 4 * un := by unfold usl_; omega
      rw [us]
      refine SEC_cg i6.1 R4 (fun k k0 k1 => ?_) r5.1 (fun r r0 r1 => (r5.2 r r0 r1).1) (fun r r0 r1 => (r5.2 r r0 (by omega)).2.1) (fun r r0 r1 => (r5.2 r r0 (by omega)).2.2)
      rw [s _ (by split <;> omega) (by split <;> omega)]
      unfold kep_
      by_cases u : h mo_ 28 = 16
      · rw [if_pos u, if_pos u, if_pos (by omega)]; congr 1; omega
      · rw [if_neg u, if_neg u, if_pos (by omega)]; congr 1; omega
    · have us : usl_ ((un + 1) % 16) j = usl_ un (j - 1) := by unfold usl_; split at hj <;> omega
      have ne : usl_ un (j - 1) ≠ 79 + 4 * un := by unfold usl_; split at hj <;> omega
      have nb := usl_b un (j - 1)
      have n4 : ∃ q, usl_ un (j - 1) = 79 + 4 * q := ⟨_, rfl⟩
      obtain ⟨q, hq⟩ := n4
      rw [us, r1 (usl_ un (j - 1) + 1) (by simp; omega), r1 (usl_ un (j - 1) + 2) (by simp; omega), r1 (usl_ un (j - 1) + 3) (by simp; omega), r1 (usl_ un (j - 1)) (by simp; omega)]
      refine SEC_cg (d (j - 1) (by split at hj <;> omega)) R4 (fun k k0 k1 => ?_) rfl (fun _ _ _ => rfl) (fun _ _ _ => rfl) (fun _ _ _ => rfl)
      rw [s _ (by split at hj <;> split <;> omega) (by split at hj <;> split <;> omega)]
      unfold kep_
      by_cases u : h mo_ 28 = 16
      · rw [if_pos u] at hj
        rw [if_pos u, if_pos u, if_neg (by omega)]
        unfold shf_
        rw [if_pos (by omega)]; congr 1; omega
      · rw [if_neg u] at hj
        rw [if_neg u, if_neg u, if_neg (by omega)]; congr 1; omega
theorem kep_lo {f : Int → Int} {u x : Int} (hu : 0 ≤ u ∧ u ≤ 16) (hx : x < 400) : kep_ f u x = f x := by
  unfold kep_ shf_
  by_cases c : u = 16
  · rw [if_pos c, if_neg (by omega), if_neg (by omega)]
  · rw [if_neg c, if_neg (by omega)]
theorem I3_ct {h : PH_} (H : I3_ h) : CTP_ (h mTape) (h mo_ 2) h := by
  obtain ⟨a, b, c⟩ := H
  refine ⟨b, c.1, fun k k0 k1 => ⟨by rw [a], ?_⟩⟩
  have q := c.2 k k0 k1
  have q : gsn_ (h mTape k) := q
  unfold gsn_ at q
  omega

theorem pair_feed {G : GT_} (hC : okC_ G) (hM : okM_ G) {h : PH_} (I0 : INVE_ h) (a b c : Int) (ha : lr_ a) (hb : lr_ b) (hc : lr_ c) : PAI_ G yX11_feed cX11_feed 7 (some .int) 2 [rr_ G 0, ll_ a, ll_ b, ll_ c] yX12_feed cX12_feed 7 (some .int) 2 [rr_ G mo_, ll_ a, ll_ b, ll_ c] h := by
  obtain ⟨o, o2, tt, t2, un, Z, I⟩ := I0
  have oo := I.1.1
  have ot := I.1.2.2.2.1
  have L := I.2.1.1
  have LT := I.2.1.2.2.1
  have HC := I.2.2.2.2.1.1
  have hj := I.2.2.2.2.1.2.1
  have i6 := I.2.2.2.2.2.1
  have j13 := I.2.2.2.2.2.2.2.2.2.2
  have R := RI_of I
  have rf := R.1.2.1
  refine ⟨_, d_feed hC h a b c ha hb hc (by have x := I.2.2.1; rw [x.1, x.2.1]; exact x.2.2), fun z1 g1 q1 => ?_⟩
  obtain ⟨f1, k1, p1, w1⟩ := q1
  have C1 : ∀ i, 1000 ≤ i → g1 i = h i := fun i hi => f1 i (by simp <;> omega)
  have R1 := RI_mv R C1
  have rf1 := R1.1.2.1
  refine ⟨_, c_feed hM g1 a b c ha hb hc R1.2.2.1, fun z2 g2 q2 => ?_⟩
  have e := C1 mRoads (by decide)
  have i3 := I.2.2.1
  obtain ⟨f2, k2, x0, p2, w2⟩ := q2
  rw [C1 mTape (by decide), C1 mo_ (by decide)] at p2 w2
  rw [i3.1, i3.2.1] at p1 w1
  have A : ∀ i, i < 1000 → i ≠ 1 → i ≠ 2 → g2 i = h i := fun i hi i1 i2 => by rw [f2 i (by intro u; simp only [List.mem_cons, List.not_mem_nil, or_false] at u; rcases u with u | u <;> rw [u] at hi <;> exact absurd hi (by decide)), f1 i (by simp; exact ⟨i1, i2⟩)]
  have B : ∀ i, 1000 ≤ i → i ≠ mTape → i ≠ mo_ → g2 i = h i := fun i hi i1 i2 => by rw [f2 i (by simp; exact ⟨i1, i2⟩), C1 i hi]
  have K : ∀ k, k ≠ 0 → k ≠ 2 → g2 mo_ k = h mo_ k := fun k k0 k2' => by rw [k2 k k0 k2', C1 mo_ (by decide)]
  have g12 : g2 1 2 = g1 1 2 ∧ g2 2 = g1 2 := ⟨by rw [f2 1 (by decide)], f2 2 (by decide)⟩
  refine ⟨by rw [w1, w2], o, o2, tt, t2, un, Z, I.1, I2_mv I.2.1 (fun k _ _ => by rw [A 0 (by decide) (by decide) (by decide)]), ⟨?_, ?_, ?_⟩, I4_mv I.2.2.2.1 (B _ (by decide) (by decide) (by decide)) (B _ (by decide) (by decide) (by decide)) (B _ (by decide) (by decide) (by decide)) (B _ (by decide) (by decide) (by decide)) (B _ (by decide) (by decide) (by decide)) (K 18 (by decide) (by decide)) (B _ (by decide) (by decide) (by decide)) (B _ (by decide) (by decide) (by decide)), I5_mv I.2.2.2.2.1 (B _ (by decide) (by decide) (by decide)) (fun k hk => A _ (by omega) (by omega) (by omega)), I6_mv i6 rf (B _ (by decide) (by decide) (by decide)) (fun i h0 h1 => A i (by omega) (by omega) (by omega)) (fun x _ _ => by rw [B mState (by decide) (by decide) (by decide)]), I9_mv I.2.2.2.2.2.2.1 rf (B _ (by decide) (by decide) (by decide)) (B _ (by decide) (by decide) (by decide)) (fun i h0 h1 => A i (by omega) (by omega) (by omega)) (fun x _ _ => by rw [B mState (by decide) (by decide) (by decide)]), I10_mv I.2.2.2.2.2.2.2.1 rf (B _ (by decide) (by decide) (by decide)) (by rw [A 0 (by decide) (by decide) (by decide)]) (by rw [A 0 (by decide) (by decide) (by decide)]) (K 28 (by decide) (by decide)) (fun i h0 h1 => A i (by omega) (by omega) (by omega)) (A 49 (by decide) (by decide) (by decide)) (fun x _ _ => by rw [B mState (by decide) (by decide) (by decide)]), ?_, smb_mv I.2.2.2.2.2.2.2.2.2.1 (A 150 (by decide) (by decide) (by decide)), I13_mv j13 (B _ (by decide) (by decide) (by decide)) (A _ (by decide) (by decide) (by decide)) (A _ (by decide) (by decide) (by decide)) (A _ (by decide) (by decide) (by decide)) (A _ (by decide) (by decide) (by decide))⟩
  · rw [g12.2]; exact (congrArg Prod.fst p1).trans (congrArg Prod.fst p2).symm
  · rw [g12.1]; exact (congrArg Prod.snd p1).trans (congrArg Prod.snd p2).symm
  · rw [p2]; exact ly8_o (ly8_o (ly8_o i3.2.2 8) 8) 8
  · rw [B mRoads (by decide) (by decide) (by decide), B mLines (by decide) (by decide) (by decide)]
    exact TLD_cg I.2.2.2.2.2.2.2.2.1 (A _ (by omega) (by omega) (by omega)) (A _ (by omega) (by omega) (by omega)) (A _ (by omega) (by omega) (by omega))

