/-! ===== a road told ===== -/
def rez_ (ro ro' : Int → Int) : Prop := ∀ x, 0 ≤ x → x < 80 → ¬ (5 ≤ x ∧ x ≤ 9) → ro' x = ro x
section REZ
variable {ro ro' : Int → Int}
theorem may_rz (E : rez_ ro ro') {r s : Int} (hr : 0 ≤ r ∧ r < 4) : may_ ro' r s ↔ may_ ro r s := by
  unfold may_; rw [E _ (by omega) (by omega) (by omega), E (31 + 4 * r) (by omega) (by omega) (by omega), E 0 (by omega) (by omega) (by omega)]
theorem lwt_rz (E : rez_ ro ro') {si : Int → Int} {r : Int} (hr : 0 ≤ r ∧ r < 4) : ∀ n : Nat, n ≤ 4 → (lwt_ ro' si r n ↔ lwt_ ro si r n)
  | 0, _ => Iff.rfl
  | n + 1, hn => by
    show (lwt_ ro' si r n ∧ (ro' (47 + 4 * r + n) = 0 ∨ ¬ bes_ (ro' 10) (si r) (si n))) ↔ (lwt_ ro si r n ∧ (ro (47 + 4 * r + n) = 0 ∨ ¬ bes_ (ro 10) (si r) (si n)))
    rw [lwt_rz E hr n (by omega), E _ (by omega) (by omega) (by omega), E 10 (by omega) (by omega) (by omega)]
theorem lwf_rz (E : rez_ ro ro') {si : Int → Int} : ∀ n : Nat, n ≤ 4 → (lwf_ ro' si n ↔ lwf_ ro si n)
  | 0, _ => Iff.rfl
  | n + 1, hn => by
    show (lwf_ ro' si n ∧ may_ ro' n (si n) ∧ lwt_ ro' si n n) ↔ (lwf_ ro si n ∧ may_ ro n (si n) ∧ lwt_ ro si n n)
    rw [lwf_rz E n (by omega), may_rz E (by omega), lwt_rz E (by omega) n (by omega)]
theorem lpl_rz (E : rez_ ro ro') (h2 : ro 2 ≤ 4) {p : Int} : lpl_ ro' p ↔ lpl_ ro p := by
  unfold lpl_ lp1_; rw [E 0 (by omega) (by omega) (by omega), E 2 (by omega) (by omega) (by omega), lwf_rz E _ (by omega)]
theorem lpn_rz (E : rez_ ro ro') (h2 : ro 2 ≤ 4) : ∀ n : Nat, lpn_ ro' n = lpn_ ro n
  | 0 => rfl
  | n + 1 => by
    show lpn_ ro' n ++ if_ (lpl_ ro' n) [(n : Int)] [] = lpn_ ro n ++ if_ (lpl_ ro n) [(n : Int)] []
    rw [lpn_rz E h2 n]
    by_cases c : lpl_ ro n
    · rw [if_t c, if_t ((lpl_rz E h2).mpr c)]
    · rw [if_f c, if_f (fun u => c ((lpl_rz E h2).mp u))]
theorem CRD_rz (E : rez_ ro ro') {h : PH_} {o : Nat} (H : CRD_ ro h o) : CRD_ ro' h o := by
  obtain ⟨a, b, c, d, f⟩ := H
  unfold CRD_
  rw [E 0 (by omega) (by omega) (by omega), E 1 (by omega) (by omega) (by omega), E 2 (by omega) (by omega) (by omega), E 4 (by omega) (by omega) (by omega), E 10 (by omega) (by omega) (by omega)]
  refine ⟨a, b, fun t w t0 t1 w0 w1 => ?_, fun r r0 r1 => ?_, fun r x r0 r1 x0 x1 => ?_⟩
  · rw [E _ (by omega) (by omega) (by omega)]; exact c t w t0 t1 w0 w1
  · rw [E _ (by omega) (by omega) (by omega), E (31 + 4 * r + 1) (by omega) (by omega) (by omega), E (31 + 4 * r + 2) (by omega) (by omega) (by omega), E (31 + 4 * r + 3) (by omega) (by omega) (by omega)]; exact d r r0 r1
  · rw [E _ (by omega) (by omega) (by omega)]; exact f r x r0 r1 x0 x1
theorem CPL_rz (E : rez_ ro ro') (h2 : ro 2 ≤ 4) {h : PH_} {o : Nat} (H : CPL_ ro h o) : CPL_ ro' h o := by unfold CPL_ at *; rw [lpn_rz E h2]; exact H
end REZ
theorem cod_ct {o r o2 r2 : Int → Int} : ∀ {P : CO_} {i : Int}, cod_ o r i P → (∀ x, i ≤ x → x ≤ i + P.length → o2 x = o x ∧ r2 x = r x) → cod_ o2 r2 i P
  | [], i, h, e => by show o2 i = 0; rw [(e i (by omega) (by show i ≤ i + ((0 : Nat) : Int); omega)).1]; exact h
  | q :: P, i, h, e => by
    have e0 := e i (by omega) (by omega)
    obtain ⟨h1, h2, h3, h4, h5⟩ := h
    exact ⟨e0.1.trans h1, e0.2.trans h2, h3, h4, cod_ct h5 (fun x x0 x1 => e x (by omega) (by rw [List.length_cons]; omega))⟩
theorem law2_cg {o r o2 r2 : Int → Int} {i : Int} {P : CO_} (H : law2_ o r i P) (e : ∀ x, x < 1100 → o2 x = o x ∧ r2 x = r x) : law2_ o2 r2 i P :=
  ⟨⟨cod_ct H.1.1 (fun x _ x1 => e x (by have := H.2; omega)), H.1.2⟩, H.2⟩
theorem NR_rq {Z : ZT_} {h h' : PH_} (H : NR_ Z h) (E : req_ (h mRoads) (h' mRoads)) (e2 : ∀ x, x < 1100 → h' mOp x = h mOp x ∧ h' mArg x = h mArg x) (e4 : h' mNames = h mNames) (e5 : h' mNameOf = h mNameOf) (e6 : h' mo_ 18 = h mo_ 18) : NR_ Z h' := by
  obtain ⟨a, b, c, d, f⟩ := H
  refine ⟨fun k k0 k1 k5 => (E k k0 k1).trans (a k k0 k1 k5), by rw [e4, e5, e6]; exact b, ?_, fun j hj => ?_, f⟩
  · cases hw : Z.2.2.1 with
    | none => rw [hw] at c; show h' mRoads 5 = -1; rw [E 5 (by decide) (by decide)]; exact c
    | some P =>
      rw [hw] at c
      show 0 ≤ h' mRoads 5 ∧ law2_ (h' mOp) (h' mArg) (h' mRoads 5) P
      rw [E 5 (by decide) (by decide)]
      exact ⟨c.1, law2_cg c.2 e2⟩
  · have l := f.2.2.2.2.1.2.1
    have l4 := f.1.2.2.2.1
    rw [E _ (by omega) (by omega)]
    exact law2_cg (d j hj) e2
theorem scne {i : Nat} (hi : i < 1000) : i ≠ mRoads := fun u => by rw [u] at hi; exact absurd hi (by decide)
theorem I5_rq {o : Nat} {Z : ZT_} {h : PH_} {f : Int → Int} (ho : is6_ o) (rf : RF_ (h mRoads)) (E : req_ (h mRoads) f) (H : I5_ o Z h) : I5_ o Z (sc_ h mRoads f) := by
  have e : ∀ i, i < 1000 → sc_ h mRoads f i = h i := fun i hi => sc_off (scne hi)
  obtain ⟨a, b, c, d, g⟩ := H
  unfold I5_
  rw [sc_at]
  refine ⟨CLD_off (CLD_rq E a) ho (off_sce rfl) (by intro i hi; rw [List.mem_singleton.mp hi]; decide), CPL_cg (CPL_rq E (by have := rf.1; have := rf.2.1; omega) b) (e o (by omega)) (e (o + 14) (by omega)), ?_, ?_, fun k k0 k1 => ?_⟩
  · rw [E 2 (by decide) (by decide), E 3 (by decide) (by decide), e (o + 2) (by omega)]; exact c
  · rw [E 3 (by decide) (by decide), e o (by omega)]; exact d
  · rw [E 3 (by decide) (by decide)] at k1
    exact CLA_mv (g k k0 k1) (e _ (by omega)) (e _ (by omega)) (e _ (by omega)) (by rw [e _ (by omega)])
theorem MOM_sc {ro f : Int → Int} {h : PH_} {m : Nat} (hm : m < 900) {q : Int → Int} (hR : 0 ≤ q 2 ∧ q 2 ≤ q 0 ∧ q 0 ≤ 4) (E : req_ ro q) (H : MOM_ ro f h m) : MOM_ q f (sc_ h mRoads q) m :=
  MOM_cp (MOM_rq E H) hR (MCP_rf (fun k hk => sc_off (scne (by omega)))) (fun _ _ _ => rfl)
theorem I6_rq {h : PH_} {f : Int → Int} (hR : 0 ≤ f 2 ∧ f 2 ≤ f 0 ∧ f 0 ≤ 4) (E : req_ (h mRoads) f) (H : I6_ h) : I6_ (sc_ h mRoads f) := by
  unfold I6_
  rw [sc_at, sc_off (show mState ≠ mRoads by decide)]
  exact MOM_sc (by decide) hR E H
theorem I9_rq {h : PH_} {f : Int → Int} (hR : 0 ≤ f 2 ∧ f 2 ≤ f 0 ∧ f 0 ≤ 4) (E : req_ (h mRoads) f) (H : I9_ h) : I9_ (sc_ h mRoads f) := fun m m4 => by
  have q := H m m4
  rw [sc_at, sc_off (show mState ≠ mRoads by decide), sc_off (show mIsMarked ≠ mRoads by decide), sc_off (scne (show 50 + 7 * m < 1000 by omega))]
  exact ⟨q.1, q.2.1, fun u => MOM_sc (by omega) hR E (q.2.2 u)⟩
theorem I10_rq {un : Nat} {h : PH_} {f : Int → Int} (E : req_ (h mRoads) f) (H : I10_ un h) : I10_ un (sc_ h mRoads f) := by
  obtain ⟨a, b, c, d⟩ := H
  unfold I10_
  rw [sc_at, sc_off (show mState ≠ mRoads by decide), sc_off (show mo_ ≠ mRoads by decide), sc_off (scne (show 0 < 1000 by decide))]
  refine ⟨a, b, AR_mv c (sc_off (by decide)) (sc_off (by decide)), fun j hj => ?_⟩
  have ub := usl_b un j
  rw [sc_off (scne (show usl_ un j + 1 < 1000 by omega)), sc_off (scne (show usl_ un j + 2 < 1000 by omega)), sc_off (scne (show usl_ un j + 3 < 1000 by omega)), sc_off (scne (show usl_ un j < 1000 by omega))]
  exact SEC_rq E (d j hj)
theorem bgn_v {ro f : Int → Int} : bgn_ ro f 0 = 0 ∧ (∀ r, 0 ≤ r → r < 4 → bgn_ ro f (1 + r) = -1 ∧ bgn_ ro f (5 + r) = -1 ∧ bgn_ ro f (9 + r) = ro (31 + 4 * r + 2)) ∧ bgn_ ro f 13 = 0 ∧ bgn_ ro f 30 = 0 ∧ ∀ x, 13 < x → x ≠ 30 → bgn_ ro f x = f x := by
  refine ⟨rfl, fun r r0 r1 => ⟨?_, ?_, ?_⟩, rfl, rfl, fun x x0 x1 => ?_⟩
  · unfold bgn_ sta_; rw [if_neg (by omega), if_neg (by omega), if_pos (by omega)]
  · unfold bgn_ sta_; rw [if_neg (by omega), if_neg (by omega), if_neg (by omega), if_pos (by omega)]
  · unfold bgn_ sta_; rw [if_neg (by omega), if_neg (by omega), if_neg (by omega), if_neg (by omega), if_pos (by omega)]; congr 1; omega
  · unfold bgn_ sta_; rw [if_neg (by omega), if_neg (by omega), if_neg (by omega), if_neg (by omega), if_neg (by omega)]
/-- a road begun is a state of the reference -/
theorem I5_new {o t a : Nat} {Z : ZT_} {h1 g1 g2 : PH_} (ho : is6_ o) (ot : is10_ t) (cz : CZ_ Z h1 o a) (br : BRD_ Z.1 o t h1 g1) (nr : NR_ Z g2) (G : ∀ i, i < 1000 → g2 i = g1 i) : I5_ o Z g2 := by
  obtain ⟨c1, ⟨c2a, -, c2c⟩, c3, c4, c5, c6, c7, c8⟩ := cz
  obtain ⟨bf, bk, bp, bj, bm, bs, bM, bt, b9, b0⟩ := br
  have rf2 := (NR_f nr).1
  have E5 : rez_ Z.1 (g2 mRoads) := nr.1
  have h2 : Z.1 2 ≤ 4 := by have := c8.1; omega
  have GO : ∀ k, k ≤ 15 → k ≠ 0 → k ≠ 14 → g2 (o + k) = h1 (o + k) := fun k hk k0 k14 => by rw [G _ (by omega), bf _ (by simp; omega)]
  have GO0 : ∀ k, k ≠ 7 → g2 o k = h1 o k := fun k k7 => by rw [G _ (by omega)]; exact bk k k7
  have e2 := E5 2 (by decide) (by decide) (by decide)
  have e3 := E5 3 (by decide) (by decide) (by decide)
  refine ⟨⟨CRD_cg (CRD_rz E5 c1) GO0 (GO 1 (by decide) (by decide) (by decide)) (GO 3 (by decide) (by decide) (by decide)) (GO 4 (by decide) (by decide) (by decide)) (GO 5 (by decide) (by decide) (by decide)) (GO 6 (by decide) (by decide) (by decide)) (GO 7 (by decide) (by decide) (by decide)), ?_, ?_⟩, CPL_cg (CPL_rz E5 h2 bp) (G _ (by omega)) (G _ (by omega)), ?_, ?_, fun k k0 k1 => ?_⟩
  · have wn := nr.2.2.1
    have cw := c5.1
    unfold zP_
    cases hW : Z.2.2.1 with
    | none =>
      rw [hW] at wn cw
      have wn : g2 mRoads 5 = -1 := wn
      have cw : h1 (o + 13) 4 ≤ h1 (o + 12) 4 := cw
      exact ⟨fun _ => by rw [GO 13 (by decide) (by decide) (by decide), GO 12 (by decide) (by decide) (by decide)]; exact cw, fun u => by omega⟩
    | some P =>
      rw [hW] at wn cw
      have wn : 0 ≤ g2 mRoads 5 ∧ _ := wn
      have cw : CLA_ h1 o 4 P ∧ 1 ≤ P.length := cw
      exact ⟨fun u => by omega, fun _ => CLA_mv cw.1 (GO 9 (by decide) (by decide) (by decide)) (GO 12 (by decide) (by decide) (by decide)) (GO 13 (by decide) (by decide) (by decide)) (by rw [GO 8 (by decide) (by decide) (by decide)])⟩
  · intro t r s q t0 t1 r0 r1 s0 s1 q0 q1
    have := rf2.1
    have := rf2.2.1
    rw [GO 15 (by decide) (by decide) (by decide)]
    exact Or.inl (c7 _ (by omega) (by omega))
  · rw [e2, e3, GO 2 (by decide) (by decide) (by decide)]; exact c4
  · rw [e3, GO0 3 (by decide)]; exact c2a
  · rw [e3] at k1
    have l := c8.2.2.2.2.1.2.1
    have q := c5.2 k.toNat (by omega)
    rw [tn_c k0] at q
    exact CLA_mv q (GO 9 (by decide) (by decide) (by decide)) (GO 12 (by decide) (by decide) (by decide)) (GO 13 (by decide) (by decide) (by decide)) (by rw [GO 8 (by decide) (by decide) (by decide)])
theorem I6_new {o t a : Nat} {Z : ZT_} {h1 g1 g2 : PH_} (ho : is6_ o) (ot : is10_ t) (cz : CZ_ Z h1 o a) (br : BRD_ Z.1 o t h1 g1) (nr : NR_ Z g2) (G : ∀ i, i < 1000 → g2 i = g1 i) (ms : g2 mState = bgn_ (g2 mRoads) (g1 mState)) (b47 : ∀ x, 0 ≤ x → x < 16 → (0 ≤ g1 47 x ∧ g1 47 x ≤ 99) ∧ (0 ≤ g1 mState (14 + x) ∧ g1 mState (14 + x) ≤ 99)) : I6_ g2 := by
  obtain ⟨bf, bk, bp, bj, bm, bs, bM, bt, b9, b0⟩ := br
  have rf2 := (NR_f nr).1
  have c1 := cz.1
  obtain ⟨v0, vr, v13, v30, vx⟩ := bgn_v (ro := g2 mRoads) (f := g1 mState)
  have e43 : g2 43 3 = 0 := by rw [G 43 (by decide)]; exact bm.2.2
  have e44 : ∀ r, 0 ≤ r → r < 4 → g2 44 r = -1 ∧ g2 45 r = -1 ∧ g2 46 r = h1 (o + 5) r := fun r r0 r1 => by rw [G 44 (by decide), G 45 (by decide), G 46 (by decide)]; exact bs r r0 r1
  unfold I6_ MOM_
  rw [ms]
  refine ⟨?_, ⟨?_, fun x x0 x1 => ?_, fun u => ?_⟩, ⟨?_, fun x x0 x1 => ?_, fun k k0 k1 => ?_⟩⟩
  · show SEC_ _ _ 0 (g2 44) (g2 45) (g2 46) (g2 43 3)
    unfold SEC_
    rw [e43]
    refine ⟨⟨v0.symm, by decide, rf2.2.2.1.1⟩, fun r r0 r1 => ?_, fun e g e0 e1 g0 g1 eg he => ?_, fun r r0 r1 => ?_, fun r r0 r1 => ?_, fun r r0 r1 => ?_⟩
    · rw [(e44 r r0 r1).1, show (0 : Int) + 1 + r = 1 + r by omega, (vr r r0 r1).1]
      have := rf2.1
      exact ⟨fun _ => rfl, fun _ => rfl, by omega, by decide⟩
    · rw [(e44 e e0 e1).1] at he; exact absurd he (by decide)
    · have r4 : r < 4 := by have := rf2.1; have := rf2.2.1; omega
      rw [(e44 r r0 r4).2.1, show (0 : Int) + 5 + r = 5 + r by omega, (vr r r0 r4).2.1]
      exact ⟨rfl, fun u => absurd u (by decide), fun _ => rfl⟩
    · have r4 : r < 4 := by have := rf2.1; have := rf2.2.1; omega
      rw [(e44 r r0 r4).2.2, show (0 : Int) + 9 + r = 9 + r by omega, (vr r r0 r4).2.2, nr.1 _ (by omega) (by omega) (by omega)]
      rw [nr.1 2 (by decide) (by decide) (by decide)] at r1
      exact (c1.2.2.2.1 r r0 r1).2.2.1
    · rw [show (0 : Int) + 9 + r = 9 + r by omega, (vr r r0 r1).2.2]
      have := rf2.2.2.2.2.2.1 r r0 r1
      omega
  · rw [G 42 (by decide), v13]; exact ⟨bm.1, Or.inl rfl⟩
  · rw [G 47 (by decide), vx _ (by omega) (by omega)]; exact b47 x x0 x1
  · rw [v13] at u; exact absurd u (by decide)
  · rw [G 42 (by decide), v30]; exact ⟨bm.2.1, by decide, by decide⟩
  · rw [v30] at x1; omega
  · rw [v30] at k1; omega

theorem pair_road {G : GT_} (hC : okC_ G) (hM : okM_ G) {h : PH_} (I0 : INVE_ h)  : PAI_ G yX11_road cX11_road 3 (some .int) 46 [rr_ G 0] yX12_road cX12_road 2 (some .int) 36 [rr_ G mo_] h := by
  obtain ⟨o, o2, tt, t2, un, Z, I⟩ := I0
  have oo := I.1.1
  have ot := I.1.2.2.2.1
  have L := I.2.1.1
  have LT := I.2.1.2.2.1
  have HC := I.2.2.2.2.1.1
  have hj := I.2.2.2.2.1.2.1
  have i6 := I.2.2.2.2.2.1
  have j13 := I.2.2.2.2.2.2.2.2.2.2
  have R := RI_of I
  have rf := R.1.2.1
  refine ⟨_, d_road hC h o oo L o2 I.1.2.1 I.2.1.2.1 tt ot LT I.2.2.2.2.2.2.2.1.2.2.1 (h mTape) (h mo_ 2) (I3_ct I.2.2.1), fun z1 g1 q1 => ?_⟩
  have oo2 := I.1.2.1
  have one := I.1.2.2.1
  have C1 : ∀ i, 1000 ≤ i → g1 i = h i := (by
    rcases q1 with q1 | ⟨Z1, a1, h1, _, _, f1, _, _, _, _, _, _, br⟩
    · exact fun i hi => q1.2.2.1 i (by simp [RLD_]; omega)
    · exact fun i hi => by rw [br.1 i (by simp; omega), f1 i (by simp [RLD_]; omega)])
  have R1 := RI_mv R C1
  have rf1 := R1.1.2.1
  refine ⟨_, c_road hM g1 R1.2.2.1 R1.2.1, fun z2 g2 q2 => ?_⟩
  have i10 := I.2.2.2.2.2.2.2.1
  have i9 := I.2.2.2.2.2.2.1
  obtain ⟨q2, t0, t2'⟩ := q2
  rw [C1 mTape (by decide), C1 mo_ (by decide)] at q2
  rcases q1 with ⟨x1, x2, f1, t1⟩ | ⟨Z1, a1, h1, x1, x2, f1, t1, cz, a2, l2, l3, k0, br⟩
  · rw [x1] at q2
    have q2 : z2 = z1 ∧ 0 < z1 ∧ prs_ g1 g2 := q2
    obtain ⟨q2a, q2b, f2, k2, r2, p2⟩ := q2
    rw [C1 mRoads (by decide)] at r2
    rw [C1 mOp (by decide), C1 mArg (by decide)] at p2
    have E : req_ (h mRoads) (g2 mRoads) := fun x _ hx => r2 x hx
    have A : ∀ i, i < 1000 → (i ≠ 1 ∧ i ≠ 3 ∧ ¬ (o2 ≤ i ∧ i ≤ o2 + 15)) → g2 i = h i := fun i hi hn => by rw [f2 i (fun u => by have := (show ∀ i ∈ [mSort, mPlace, mValue, mRoads, mOp, mArg, mReadNames, mReadNameOf, mo_], 1000 ≤ i by decide) i u; omega)]; exact f1 i (by simp [RLD_]; omega)
    have B : ∀ i, 1000 ≤ i → i ∉ [mSort, mPlace, mValue, mRoads, mOp, mArg, mReadNames, mReadNameOf, mo_] → g2 i = h i := fun i hi hn => by rw [f2 i hn, C1 i hi]
    have K : ∀ k, k = 18 ∨ k = 28 → g2 mo_ k = h mo_ k := fun k hk => by rw [k2 k (by omega) (by omega) (by omega) (by omega) (by omega) (by omega) (by omega) (by omega) (by omega) (by omega), C1 mo_ (by decide)]
    have n3 : I3_ g2 := ⟨by rw [A 2 (by decide) (by omega), B mTape (by decide) (by decide)]; exact I.2.2.1.1, by rw [t2', f2 1 (by decide)]; exact t1, tpo_z t2'⟩
    have nr : NR_ Z g2 := NR_rq I.2.2.2.1.1 E p2 (B _ (by decide) (by decide)) (B _ (by decide) (by decide)) (K 18 (by decide))
    have rf2 := (NR_f nr).1
    have hR : 0 ≤ g2 mRoads 2 ∧ g2 mRoads 2 ≤ g2 mRoads 0 ∧ g2 mRoads 0 ≤ 4 := ⟨rf2.2.1.1, rf2.2.1.2, rf2.1.2⟩
    obtain ⟨hs, ehs⟩ : ∃ hs, hs = sc_ h mRoads (g2 mRoads) := ⟨_, rfl⟩
    have j5 : I5_ o Z hs := by rw [ehs]; exact I5_rq oo rf E I.2.2.2.2.1
    have j6 : I6_ hs := by rw [ehs]; exact I6_rq hR E i6
    have j9 : I9_ hs := by rw [ehs]; exact I9_rq hR E i9
    have j10 : I10_ un hs := by rw [ehs]; exact I10_rq E i10
    have s0 : g2 mRoads = hs mRoads := by rw [ehs, sc_at]
    have rfs : RF_ (hs mRoads) := by rw [← s0]; exact rf2
    have SA : ∀ i, i < 1000 → (i ≠ 1 ∧ i ≠ 3 ∧ ¬ (o2 ≤ i ∧ i ≤ o2 + 15)) → g2 i = hs i := fun i hi hn => by rw [ehs, sc_off (scne hi)]; exact A i hi hn
    have SB : ∀ i, 1000 ≤ i → i ∉ [mSort, mPlace, mValue, mRoads, mOp, mArg, mReadNames, mReadNameOf, mo_] → g2 i = hs i := fun i hi hn => by rw [ehs, sc_off (fun u => hn (by rw [u]; decide))]; exact B i hi hn
    have sm : hs mo_ = h mo_ := by rw [ehs, sc_off (by decide)]
    refine ⟨q2a.symm, o, o2, tt, t2, un, Z, I.1, I2_mv I.2.1 (fun k _ _ => by rw [A 0 (by decide) (by omega)]), n3, ⟨nr, fun w hw => by rw [B mWords (by decide) (by decide)]; exact I.2.2.2.1.2.1 w hw, fun k k0 k1 => by rw [B mReadShares (by decide) (by decide)]; exact I.2.2.2.1.2.2 k k0 k1⟩, I5_mv j5 s0 (fun k hk => SA _ (by omega) (by omega)), I6_mv j6 rfs s0 (fun i h0 h1 => SA i (by omega) (by omega)) (fun x _ _ => by rw [SB mState (by decide) (by decide)]), I9_mv j9 rfs s0 (SB _ (by decide) (by decide)) (fun i h0 h1 => SA i (by omega) (by omega)) (fun x x0 x1 => by rw [SB mState (by decide) (by decide)]), I10_mv j10 rfs s0 (by rw [SA 0 (by decide) (by omega)]) (by rw [SA 0 (by decide) (by omega)]) (by rw [sm]; exact K 28 (by decide)) (fun i h0 h1 => SA i (by omega) (by omega)) (SA 49 (by decide) (by omega)) (fun x x0 x1 => by rw [SB mState (by decide) (by decide)]), ?_, smb_mv I.2.2.2.2.2.2.2.2.2.1 (A 150 (by decide) (by omega)), I13_rq E rf j13 (A _ (by decide) (by omega)) (A _ (by decide) (by omega)) (A _ (by decide) (by omega)) (A _ (by decide) (by omega))⟩
    rw [B mLines (by decide) (by decide)]
    exact TLD_cg (TLD_rq E (fun _ _ _ => rfl) I.2.2.2.2.2.2.2.2.1) (A _ (by omega) (by omega)) (A _ (by omega) (by omega)) (A _ (by omega) (by omega))
  · rw [x1] at q2
    have q2 : z2 = 0 ∧ off_ OL_ g1 g2 ∧ _ := q2
    obtain ⟨q2a, f2, k2, nr, ms, ml, m28, mk⟩ := q2
    have G : ∀ i, i < 1000 → g2 i = g1 i := fun i hi => f2 i (fun u => by have := (show ∀ i ∈ OL_, 1000 ≤ i by decide) i u; omega)
    have B : ∀ i, 1000 ≤ i → i ∉ OL_ → g2 i = h i := fun i hi hn => by rw [f2 i hn, C1 i hi]
    have j5 := I5_new oo2 ot cz br nr G
    have g47 : g1 47 = h 47 := by rw [br.1 47 (by simp; omega), f1 47 (by simp [RLD_]; omega)]
    have j6 := I6_new oo2 ot cz br nr G ms (fun x x0 x1 => by rw [g47, C1 mState (by decide)]; exact i6.2.1.2.1 x x0 x1)
    obtain ⟨bf, bk, bp, bj, bm, bs, bM, bt, b9, b0⟩ := br
    have A : ∀ i, i < 1000 → (i ≠ 0 ∧ i ≠ 1 ∧ i ≠ 3 ∧ ¬ (o2 ≤ i ∧ i ≤ o2 + 15) ∧ i ∉ [149, 151, 42, 43, 44, 45, 46, 50, 57, 64, 71, tt]) → g2 i = h i := fun i hi hn => by
      have hn2 := hn.2.2.2.2
      simp at hn2
      rw [G i hi, bf i (by simp; omega), f1 i (by simp [RLD_]; omega)]
    have g0 : ∀ k, k ≠ 2 → k ≠ 3 → k ≠ 9 → g2 0 k = h 0 k := fun k u2 u3 u9 => by rw [G 0 (by decide), b0 k u9]; exact k0 k u2 u3
    have e11 : g2 151 11 = 0 := by rw [G 151 (by decide)]; exact bj.2.2.1
    refine ⟨x2.trans q2a.symm, o2, o, tt, t2, un, Z1, ⟨oo2, oo, fun u => one u.symm, ot, I.1.2.2.2.2⟩, ⟨?_, ?_, (g0 4 (by decide) (by decide) (by decide)).trans LT, (g0 5 (by decide) (by decide) (by decide)).trans I.2.1.2.2.2⟩, ⟨?_, ?_, tpo_z t2'⟩, ⟨nr, fun w hw => by rw [B mWords (by decide) (by decide)]; exact I.2.2.2.1.2.1 w hw, fun k k0 k1 => by rw [B mReadShares (by decide) (by decide)]; exact I.2.2.2.1.2.2 k k0 k1⟩, j5, j6, fun m m4 => ?_, ⟨⟨?_, by rw [m28]; decide⟩, ⟨(g0 10 (by decide) (by decide) (by decide)).trans i10.2.1.1, i10.2.1.2⟩, AR_mv i10.2.2.1 (A 49 (by decide) (by simp; omega)) (A 78 (by decide) (by simp; omega)), fun j hj => by rw [m28] at hj; omega⟩, ⟨⟨?_, ?_⟩, fun k k0 k1 => ?_⟩, smb_mv I.2.2.2.2.2.2.2.2.2.1 (A 150 (by decide) (by simp; omega)), ⟨by rw [G 151 (by decide)]; exact bj.1, Or.inl (by rw [G 151 (by decide)]; exact bj.2.1), ⟨by rw [e11]; decide, fun m w m0 m1 u => by rw [e11, Int.zero_ediv] at u; exact absurd u (by decide)⟩, Or.inl (by rw [G 151 (by decide)]; exact bj.2.2.2.1), Or.inl (by rw [G 151 (by decide)]; exact bj.2.2.2.2)⟩⟩
    · rw [G 0 (by decide), b0 2 (by decide)]; exact l2
    · rw [G 0 (by decide), b0 3 (by decide)]; exact l3
    · rw [A 2 (by decide) (by simp; omega), B mTape (by decide) (by decide)]; exact I.2.2.1.1
    · rw [t2', G 1 (by decide), bf 1 (by simp; omega)]; exact t1
    · have mz := mk (m : Int) (by omega) (by omega)
      have q := i9 m m4
      refine ⟨⟨by rw [G _ (by omega), (bM m m4).1, mz], Or.inl mz⟩, ?_, fun u => by rw [mz] at u; exact absurd u (by decide)⟩
      rw [G _ (by omega), (bM m m4).2 3 (by decide), f1 _ (by simp [RLD_]; omega)]
      exact q.2.1
    · rw [G 0 (by decide), b9, m28]
    · rw [G tt (by omega), bt, ml]; rfl
    · rw [ml]; exact ⟨Int.le_refl 0, show (0 : Int) ≤ 20 by decide⟩
    · rw [ml] at k1; have k1 : k < 0 := k1; omega

