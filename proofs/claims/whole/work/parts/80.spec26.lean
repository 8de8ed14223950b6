/-! ===== a road read as a whole ===== -/
theorem twl_ok {tp : Int → Int} {n p : Int} (hp : 0 ≤ p) : tso_ tp n p = 1 → lok2_ (twl_ tp n p) ∧ (twl_ tp n p).length ≤ 8 := fun h => by
  unfold tso_ at h
  by_cases c0 : n ≤ p
  · rw [if_t c0] at h; omega
  rw [if_f c0] at h
  by_cases c1 : let_ (tp p)
  · rw [if_t c1] at h
    have t8 : ten_ tp n p - p ≤ 8 := by
      by_cases q : ten_ tp n p - p ≤ 8
      · exact q
      · rw [if_neg q] at h; omega
    have te : ten_ tp n p = rnx_ let_ tp n p := by unfold ten_; rw [if_f c0, if_t c1]
    have rb := rnx_b (Q := let_) (tp := tp) (n := n) (k := p) (by omega)
    unfold twl_
    have w := wls_ok (tp := tp) (ten_ tp n p - p).toNat p (fun x x0 x1 => rb.2.2.2 x x0 (by omega))
    exact ⟨w.1, by rw [w.2]; omega⟩
  · rw [if_f c1] at h
    by_cases c2 : dig_ (tp p)
    · rw [if_t c2] at h; split at h <;> omega
    · rw [if_f c2] at h
      by_cases c3 : sof_ (tp p)
      · rw [if_t c3] at h; omega
      · rw [if_f c3] at h; omega
theorem tnu_ok {tp : Int → Int} {n p : Int} (hp : 0 ≤ p) : tso_ tp n p = 2 → 0 ≤ tnu_ tp n p ∧ tnu_ tp n p ≤ 9999 := fun h => by
  unfold tso_ at h
  by_cases c0 : n ≤ p
  · rw [if_t c0] at h; omega
  rw [if_f c0] at h
  by_cases c1 : let_ (tp p)
  · rw [if_t c1] at h; split at h <;> omega
  · rw [if_f c1] at h
    by_cases c2 : dig_ (tp p)
    · rw [if_t c2] at h
      have t4 : ten_ tp n p - p ≤ 4 := by
        by_cases q : ten_ tp n p - p ≤ 4
        · exact q
        · rw [if_neg q] at h; omega
      have te : ten_ tp n p = rnx_ dig_ tp n p := by unfold ten_; rw [if_f c0, if_f c1, if_t c2]
      have rb := rnx_b (Q := dig_) (tp := tp) (n := n) (k := p) (by omega)
      unfold tnu_
      rw [if_t c2]
      have nb := nus_b (tp := tp) (k := p) (ten_ tp n p - p).toNat (fun x x0 x1 => rb.2.2.2 x x0 (by omega))
      have p1 := p10 (n := (ten_ tp n p - p).toNat) (by omega)
      omega
    · rw [if_f c2] at h
      by_cases c3 : sof_ (tp p)
      · rw [if_t c3] at h; omega
      · rw [if_f c3] at h; omega
theorem tk_wf {tp : Int → Int} {n : Int} (hn : 0 ≤ n) : wfk_ (tk_ tp n) := fun i => by
  have b := tkp_b (tp := tp) hn i
  have r := rnx_b (Q := bla_) (tp := tp) (n := n) (k := tkp_ tp n i) b.2
  have p0 : 0 ≤ tpl_ tp n (tkp_ tp n i) := by show 0 ≤ rnx_ bla_ tp n (tkp_ tp n i); omega
  exact ⟨twl_ok p0, tnu_ok p0⟩
/-- a law stands where the road says -/
def law2_ (op ar : Int → Int) (i : Int) (P : CO_) : Prop := law_ op ar i P ∧ i + P.length < 1100
def WN_ (h : PH_) : Option CO_ → Prop
  | none => h mRoads 5 = -1
  | some P => 0 ≤ h mRoads 5 ∧ law2_ (h mOp) (h mArg) (h mRoads 5) P
def QN_ (h : PH_) (Q : List CO_) : Prop := ∀ j : Nat, j < Q.length → law2_ (h mOp) (h mArg) (h mRoads (6 + (j : Int))) (Q.getD j [])
/-- the road in use -/
def NR_ (Z : ZT_) (h : PH_) : Prop := (∀ k, 0 ≤ k → k < 80 → ¬ (5 ≤ k ∧ k ≤ 9) → h mRoads k = Z.1 k) ∧ nmr_ (h mo_ 18) (h mNames) (h mNameOf) Z.2.1 ∧ WN_ h Z.2.2.1 ∧ QN_ h Z.2.2.2.1 ∧ zok_ Z
/-- what no fault changes -/
def prs_ (h h' : PH_) : Prop := off_ [mSort, mPlace, mValue, mRoads, mOp, mArg, mReadNames, mReadNameOf, mo_] h h' ∧ (∀ k, k ≠ 0 → k ≠ 2 → k ≠ 3 → k ≠ 7 → k ≠ 8 → k ≠ 13 → k ≠ 19 → k ≠ 20 → k ≠ 21 → k ≠ 22 → h' mo_ k = h mo_ k) ∧ (∀ x, x < 80 → h' mRoads x = h mRoads x) ∧ (∀ x, x < 1100 → h' mOp x = h mOp x ∧ h' mArg x = h mArg x)
theorem prs_F {a b c : PH_} (h1 : prs_ a b) (h2 : FRL_ b c) : prs_ a c := ⟨off_tr h1.1 (off_mo h2.1 (by decide)), fun k k0 k2 k3 k7 k8 k13 k19 k20 k21 k22 => (h2.2.1 k k7 k8 k13 k19 k20 k21 k22).trans (h1.2.1 k k0 k2 k3 k7 k8 k13 k19 k20 k21 k22), fun x hx => (h2.2.2.1 x hx).trans (h1.2.2.1 x hx), fun x hx => ⟨(h2.2.2.2 x hx).1.trans (h1.2.2.2 x hx).1, (h2.2.2.2 x hx).2.trans (h1.2.2.2 x hx).2⟩⟩
def OL_ : List Nat := [mSort, mPlace, mValue, mRoads, mOp, mArg, mReadNames, mReadNameOf, mNames, mNameOf, mState, mLines, mIsMarked, mo_]
/-- what a road's reading does -/
def RO_ (h : PH_) (z : Int) (h' : PH_) : RE_ ZT_ → Prop
  | .error e => z = e ∧ 0 < e ∧ prs_ h h'
  | .ok Z => z = 0 ∧ off_ OL_ h h' ∧ (∀ k, k ≠ 0 → k ≠ 2 → k ≠ 3 → k ≠ 7 → k ≠ 8 → k ≠ 13 → k ≠ 18 → k ≠ 19 → k ≠ 20 → k ≠ 21 → k ≠ 22 → k ≠ 28 → h' mo_ k = h mo_ k) ∧ NR_ Z h' ∧ h' mState = bgn_ (h' mRoads) (h mState) ∧ h' mLines = ob_ (h mLines) 0 0 ∧ h' mo_ 28 = 0 ∧ ∀ m, 0 ≤ m → m < 4 → h' mIsMarked m = 0
theorem cod_sh {o r o2 r2 : Int → Int} : ∀ {P : CO_} {i : Int}, cod_ o r (1100 + i) P → (∀ x, i ≤ x → x ≤ i + P.length → o2 x = o (1100 + x) ∧ r2 x = r (1100 + x)) → cod_ o2 r2 i P
  | [], i, h, e => by show o2 i = 0; rw [(e i (by omega) (by show i ≤ i + ((0 : Nat) : Int); omega)).1]; exact h
  | q :: P, i, h, e => by
    have e0 := e i (by omega) (by omega)
    obtain ⟨h1, h2, h3, h4, h5⟩ := h
    rw [Int.add_assoc] at h5
    exact ⟨e0.1.trans h1, e0.2.trans h2, h3, h4, cod_sh h5 (fun x x0 x1 => e x (by omega) (by rw [List.length_cons]; omega))⟩
theorem law_sh {h h' : PH_} {i m : Int} {P : CO_} (H : lwr_ h i P) (hw : wfc_ m P) (hc : h mo_ 13 ≤ 1000) (e : ∀ x, 0 ≤ x → x < h mo_ 13 → h' mOp x = h mOp (1100 + x) ∧ h' mArg x = h mArg (1100 + x)) : law2_ (h' mOp) (h' mArg) i P := by
  obtain ⟨h1, h2, h3⟩ := H
  exact ⟨⟨cod_sh h2 (fun x x0 x1 => e x (by omega) (by omega)), ⟨h1, by omega⟩, by have := hw.2.1; omega, hw.2.2.1⟩, by omega⟩
theorem rlp_0 {tk : Nat → TK_} {f : Nat} {Z : ZT_} {a : Nat} (h : (tk a).1 = 0) : rlp_ tk f Z a = .ok Z := by
  cases f with
  | zero => rfl
  | succ f => show if_ _ _ _ = _; rw [if_t h]
theorem rlp_s {tk : Nat → TK_} {f : Nat} {Z : ZT_} {a : Nat} (h : ¬ (tk a).1 = 0) : rlp_ tk (f + 1) Z a = bd_ (lin_ tk Z a) (fun q => bd_ (tks2_ tk 59 q.2) (fun b => rlp_ tk f q.1 b)) := by
  show if_ _ _ _ = _; rw [if_f h]
theorem zk_0 {S : Int} (hS : 2 ≤ S ∧ S ≤ 4) : zk_ (ob_ ro0_ 0 S) [] none [] 0 := by
  have g : ∀ x, x ≠ 0 → x ≠ 5 → ob_ ro0_ 0 S x = 0 := fun x h1 h2 => by unfold ob_ ro0_; rw [if_neg h1, if_neg h2]
  have g0 : ob_ ro0_ 0 S 0 = S := rfl
  unfold zk_
  rw [g0, g 1 (by decide) (by decide), g 2 (by decide) (by decide), g 3 (by decide) (by decide), g 4 (by decide) (by decide), g 10 (by decide) (by decide)]
  refine ⟨⟨hS, by omega, by omega, by omega, by omega, by omega⟩, fun r r0 r1 => ?_, fun t t0 t1 => by omega, fun x x0 x1 => Or.inl (g x (by omega) (by omega)), ⟨rfl, rfl, Or.inl rfl⟩, fun q hq => (by cases hq), fun P e => (by cases e), fun P hP => (by cases hP)⟩
  unfold rok_
  rw [g 2 (by decide) (by decide), g _ (by omega) (by omega), g _ (by omega) (by omega), g _ (by omega) (by omega), g _ (by omega) (by omega)]
  omega
def rst2_ (tk : Nat → TK_) (N : Nat) (R : RE_ ZT_) (hq : PH_) : Prop := (∃ (Z : ZT_) (a fu : Nat), R = rlp_ tk fu Z a ∧ ZR_ tk N Z hq a ∧ N < fu + a) ∨ (∃ e, R = .error e ∧ RPE_ tk N hq e)
theorem rst2_7 {tk : Nat → TK_} {N : Nat} {R : RE_ ZT_} {hq : PH_} (H : rst2_ tk N R hq) : (0 ≤ hq mo_ 7 ∧ hq mo_ 7 ≤ N) ∧ N ≤ 1000 ∧ (0 ≤ hq mPlace (hq mo_ 7) ∧ hq mPlace (hq mo_ 7) ≤ 1000) ∧ (0 ≤ hq mo_ 8 ∧ hq mo_ 8 < 2147483648) := by
  rcases H with ⟨Z, a, fu, h1, h2, h3⟩ | ⟨e, h1, h2⟩
  · have q := RP_7 (X := .ok a) h2.1; exact ⟨q.1, q.2.1, q.2.2.1, q.2.2.2.2⟩
  · have q := RP_7 (X := .error e) h2; exact ⟨q.1, q.2.1, q.2.2.1, q.2.2.2.2⟩
theorem ZR_at {tk : Nat → TK_} {N : Nat} {Z : ZT_} {h h' : PH_} {a b : Nat} (H : ZR_ tk N Z h a) (f : fr7_ h h') (R : RPO_ tk N h' b) (hab : a ≤ b) : ZR_ tk N Z h' b := by
  have := ZR_kp (ro := Z.1) (ft := Z.2.2.2.2) H R hab (f.1 mOp (by decide)) (f.1 mArg (by decide)) (f.2 13 (by decide) (by decide)) (f.1 mReadNames (by decide)) (f.1 mReadNameOf (by decide)) (f.2 19 (by decide) (by decide)) ((f.2 20 (by decide) (by decide)).trans H.2.2.2.2.2.1) (fun x _ _ => by rw [f.1 mRoads (by decide)]) (roA_m H.2.1 (f.1 mRoads (by decide))) H.2.2.2.2.2.2.2
  exact this
/-- a line and its end -/
theorem rst2_go {tk : Nat → TK_} {N fu : Nat} {R : RE_ ZT_} {Z : ZT_} {a : Nat} {hq h1 h2 : PH_} (e0 : R = rlp_ tk (fu + 1) Z a) (hn : ¬ (tk a).1 = 0) (H : ZR_ tk N Z hq a) (hf : N < fu + 1 + a) (hl : LP_ tk N h1 (lin_ tk Z a)) (hz : ∀ q, lin_ tk Z a = .ok q → a < q.2) (f : fr7_ h1 h2) (r : ∀ X, RP_ tk N h1 X → RP_ tk N h2 (bd_ X (tks2_ tk 59))) : rst2_ tk N R h2 ∧ ((a : Int) < h2 mo_ 7 ∨ 0 < h2 mo_ 8) := by
  rw [rlp_s hn] at e0
  cases hx : lin_ tk Z a with
  | error e =>
    rw [hx] at hl
    have r1 := r (.error e) hl
    rw [bd_e hx] at e0
    have r2 : RPE_ tk N h2 e := r1
    exact ⟨Or.inr ⟨e, e0, r2⟩, Or.inr (by have := r2.2.2; omega)⟩
  | ok q =>
    rw [hx] at hl
    have hl : ZR_ tk N q.1 h1 q.2 := hl
    have qa := hz q hx
    have r1 := r (.ok q.2) hl.1
    rw [bd_o hx] at e0
    have r1 : RP_ tk N h2 (tks2_ tk 59 q.2) := r1
    cases hs : tks2_ tk 59 q.2 with
    | error e =>
      rw [hs] at r1
      have r2 : RPE_ tk N h2 e := r1
      have e0 : R = bd_ (tks2_ tk 59 q.2) (fun b => rlp_ tk fu q.1 b) := e0
      rw [bd_e hs] at e0
      exact ⟨Or.inr ⟨e, e0, r2⟩, Or.inr (by have := r2.2.2; omega)⟩
    | ok b =>
      rw [hs] at r1
      have r2 : RPO_ tk N h2 b := r1
      have e0 : R = bd_ (tks2_ tk 59 q.2) (fun b => rlp_ tk fu q.1 b) := e0
      rw [bd_o hs] at e0
      have sb := (tks2_o hs).1
      exact ⟨Or.inl ⟨q.1, b, fu, e0, ZR_at hl f r2 (by omega), by omega⟩, Or.inl (by have := r2.2.1; omega)⟩
theorem lin_z {tk : Nat → TK_} {Z : ZT_} {a : Nat} (hw : wfk_ tk) (hz : zok_ Z) {q : ZT_ × Nat} (h : lin_ tk Z a = .ok q) (hq : q.2 ≤ 1000) : a < q.2 := by
  unfold lin_ at h
  by_cases c1 : isW_ (tk a) 1
  · rw [if_t c1] at h; exact (sln_z hz h).2.1
  rw [if_f c1] at h
  by_cases c2 : isW_ (tk a) 3
  · rw [if_t c2] at h; exact (rln_z hw hz h).2
  rw [if_f c2] at h
  by_cases c3 : isW_ (tk a) 6
  · rw [if_t c3] at h; exact (aln_z hz h).2
  rw [if_f c3] at h
  by_cases c4 : isW_ (tk a) 7
  · rw [if_t c4] at h; exact (vln_z hz h).2
  rw [if_f c4] at h
  by_cases c5 : isW_ (tk a) 8
  · rw [if_t c5] at h; exact (gln_z hz h).2
  rw [if_f c5] at h
  by_cases c6 : isW_ (tk a) 9
  · rw [if_t c6] at h; exact (fln_z hz h).2
  rw [if_f c6] at h
  by_cases c7 : isW_ (tk a) 10
  · rw [if_t c7] at h; exact (wln_z hw hz hq h).2
  rw [if_f c7] at h
  by_cases c8 : isW_ (tk a) 11
  · rw [if_t c8] at h; exact (uln_z hw hz hq h).2
  rw [if_f c8] at h; cases h
