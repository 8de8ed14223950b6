/-! ===== call by call: the same answer, and it holds again ===== -/
def INVE_ (h : PH_) : Prop := ∃ (o o2 t t2 un : Nat) (Z : ZT_), INV_ o o2 t t2 un Z h
def PAI_ (G : GT_) (y1 : MethodName) (c1 : ByteArray) (m1 : Nat) (r1 : Option FieldType) (d1 : Nat) (a1 : List Value) (y2 : MethodName) (c2 : ByteArray) (m2 : Nat) (r2 : Option FieldType) (d2 : Nat) (a2 : List Value) (h : PH_) : Prop :=
  ∃ Q1 : Int → PH_ → Prop, PC G y1 c1 m1 r1 d1 a1 h (qi_ Q1) ∧ ∀ z1 h1, Q1 z1 h1 → ∃ Q2 : Int → PH_ → Prop, PC G y2 c2 m2 r2 d2 a2 h1 (qi_ Q2) ∧ ∀ z2 h2, Q2 z2 h2 → z1 = z2 ∧ INVE_ h2
def PAL_ (G : GT_) (y1 : MethodName) (c1 : ByteArray) (m1 : Nat) (r1 : Option FieldType) (d1 : Nat) (a1 : List Value) (y2 : MethodName) (c2 : ByteArray) (m2 : Nat) (r2 : Option FieldType) (d2 : Nat) (a2 : List Value) (h : PH_) : Prop :=
  ∃ Q1 : Int → PH_ → Prop, PC G y1 c1 m1 r1 d1 a1 h (ql_ Q1) ∧ ∀ z1 h1, Q1 z1 h1 → ∃ Q2 : Int → PH_ → Prop, PC G y2 c2 m2 r2 d2 a2 h1 (ql_ Q2) ∧ ∀ z2 h2, Q2 z2 h2 → z1 = z2 ∧ INVE_ h2
theorem INVE_s {o o2 t t2 un : Nat} {Z : ZT_} {h h1 h2 : PH_} (I : INV_ o o2 t t2 un Z h) {L M : List Nat} (f1 : off_ L h h1) (hL : ∀ i ∈ L, i ∈ CSC_ o) (m1 : CWM_ (h mRoads) (zP_ Z) h1 o) (j1 : I13_ o Z h1) (f2 : off_ M h1 h2) (hM : ∀ i ∈ M, i ∈ RSC_) (s2 : ∀ x, x < 1680 → h2 mState x = h1 mState x) (k2 : ∀ k, k = 2 ∨ k = 18 ∨ k = 28 → h2 mo_ k = h1 mo_ k) : INVE_ h2 :=
  ⟨o, o2, t, t2, un, Z, INV_s I (off_mo f1 hL) m1 j1 (off_mo f2 hM) s2 k2⟩
theorem I13_f {o : Nat} {Z : ZT_} {h h1 : PH_} (H : I13_ o Z h) {L : List Nat} (f : off_ L h h1) (hL : ∀ i ∈ L, i ≠ 151 ∧ i ≠ 153 ∧ i ≠ 154 ∧ i ≠ 160 ∧ i < 1000) : I13_ o Z h1 :=
  I13_mv H (f _ (fun u => absurd (hL _ u).2.2.2.2 (by decide))) (f _ (fun u => (hL _ u).1 rfl)) (f _ (fun u => (hL _ u).2.1 rfl)) (f _ (fun u => (hL _ u).2.2.1 rfl)) (f _ (fun u => (hL _ u).2.2.2.1 rfl))
theorem cnt_lpn (ro : Int → Int) : ∀ n : Nat, cnt_ ro n = ((lpn_ ro n).length : Int)
  | 0 => rfl
  | n + 1 => by
    unfold cnt_ lpn_
    rw [cnt_lpn ro n, List.length_append]
    by_cases c : lpl_ ro n
    · rw [if_t c, if_t c]; rfl
    · rw [if_f c, if_f c]; rfl
theorem csn_csi {f g : Int → Int} : ∀ n : Nat, (∀ r, 0 ≤ r → r < (n : Int) → g r = f (1 + r) ∧ -1 ≤ g r) → csn_ g n = csi_ f n
  | 0, _ => rfl
  | n + 1, h => by
    have e := h n (by omega) (by omega)
    unfold csn_ csi_
    rw [csn_csi n (fun r r0 r1 => h r r0 (by omega)), ← e.1]
    congr 1
    by_cases c : g n = -1
    · rw [if_pos c, if_neg (by omega)]
    · rw [if_neg c, if_pos (by omega)]

set_option maxHeartbeats 4000000 in
set_option maxRecDepth 100000 in
theorem d_plans {G : GT_} (hC : okC_ G) (h : PH_) (o : Nat) (ho : is6_ o) (hL : h 0 2 = (o : Int)) : PC G yX11_plans cX11_plans 1 (some .int) 1 [rr_ G 0] h (qi_ (fun z h' => h = h' ∧ z = h o 7)) := by
  have hL_h := hL
  refine PC.of (lv := [some (rr_ G 0)]) (by decide +kernel) (Nat.le_of_ble_eq_true rfl) rfl rfl ?_
  refine pw_aload_n (z := 0) (pc := 0) dX11_plans_0 rfl rfl ?_
  refine pw_gD (x := 2) (r := o) (pc := 1) dX11_plans_1 fX11_28 (hC 0 (by decide)) (show kd_ 0 = 21 by decide +kernel) rfl rfl hL_h ?_
  refine pw_gI (x := 7) (pc := 4) dX11_plans_4 fX11_201 (hC _ (by omega)) (kd6_0 ho) rfl rfl (fun r4 => ?_)
  exact pw_iret (pc := 7) dX11_plans_7 (by first | omega) (⟨rfl, rfl⟩)

theorem pair_stretch {G : GT_} (hC : okC_ G) (hM : okM_ G) {h : PH_} (I0 : INVE_ h) (t w : Int) (h1 : ir_ t) (h2 : ir_ w) : PAI_ G yX11_stretch cX11_stretch 3 (some .int) 2 [rr_ G 0, ii_ t, ii_ w] yX12_stretch cX12_stretch 3 (some .int) 3 [rr_ G mo_, ii_ t, ii_ w] h := by
  obtain ⟨o, o2, tt, t2, un, Z, I⟩ := I0
  have oo := I.1.1
  have ot := I.1.2.2.2.1
  have L := I.2.1.1
  have LT := I.2.1.2.2.1
  have HC := I.2.2.2.2.1.1
  have hj := I.2.2.2.2.1.2.1
  have i6 := I.2.2.2.2.2.1
  have j13 := I.2.2.2.2.2.2.2.2.2.2
  have R := RI_of I
  have rf := R.1.2.1
  refine ⟨_, d_stretch hC h o oo L _ HC.1 t w h1 h2, fun z1 g1 q1 => ?_⟩
  obtain ⟨rfl, w1⟩ := q1
  have C1 : ∀ i, 1000 ≤ i → h i = h i := fun i _ => rfl
  have R1 := RI_mv R C1
  have rf1 := R1.1.2.1
  refine ⟨_, c_stretch hM h rf1.1 rf1.2.1 rf1.2.2.1 t w h1 h2, fun z2 g2 q2 => ?_⟩
  exact ⟨by rw [w1, q2.2], INVE_s I (L := []) off_rf (by simp) HC.2.2 j13 (M := [mo_]) (by rw [q2.1]; exact off_up off_rf (by simp)) (by decide) (fun x _ => by rw [q2.1, up_off (by decide)]) (fun k hk => by rw [q2.1, up_at, if_neg (by omega)])⟩

theorem pair_lawful {G : GT_} (hC : okC_ G) (hM : okM_ G) {h : PH_} (I0 : INVE_ h) (p : Int) (hp : ir_ p) : PAI_ G yX11_lawful cX11_lawful 2 (some .int) 5 [rr_ G 0, ii_ p] yX12_lawful cX12_lawful 2 (some .int) 5 [rr_ G mo_, ii_ p] h := by
  obtain ⟨o, o2, tt, t2, un, Z, I⟩ := I0
  have oo := I.1.1
  have ot := I.1.2.2.2.1
  have L := I.2.1.1
  have LT := I.2.1.2.2.1
  have HC := I.2.2.2.2.1.1
  have hj := I.2.2.2.2.1.2.1
  have i6 := I.2.2.2.2.2.1
  have j13 := I.2.2.2.2.2.2.2.2.2.2
  have R := RI_of I
  have rf := R.1.2.1
  refine ⟨_, d_lawful hC h o oo L _ HC.1 p hp, fun z1 g1 q1 => ?_⟩
  obtain ⟨f1, w1⟩ := q1
  have C1 : ∀ i, 1000 ≤ i → g1 i = h i := fun i hi => f1 i (by simp <;> omega)
  have R1 := RI_mv R C1
  have rf1 := R1.1.2.1
  refine ⟨_, c_lawful hM g1 rf1.1 rf1.2.1 p hp, fun z2 g2 q2 => ?_⟩
  have e := C1 mRoads (by decide)
  exact ⟨by rw [w1, q2.2.2, e], INVE_s I f1 (by simp [CSC_] <;> omega) (CLD_off HC oo f1 (by simp)).2.2 (I13_f j13 f1 (by simp)) q2.1.1 (by decide) (fun x _ => by rw [q2.1.1 mState (by decide)]) (fun k hk => q2.1.2 k (by simp <;> omega))⟩

theorem pair_plans {G : GT_} (hC : okC_ G) (hM : okM_ G) {h : PH_} (I0 : INVE_ h)  : PAI_ G yX11_plans cX11_plans 1 (some .int) 1 [rr_ G 0] yX12_plans cX12_plans 3 (some .int) 5 [rr_ G mo_] h := by
  obtain ⟨o, o2, tt, t2, un, Z, I⟩ := I0
  have oo := I.1.1
  have ot := I.1.2.2.2.1
  have L := I.2.1.1
  have LT := I.2.1.2.2.1
  have HC := I.2.2.2.2.1.1
  have hj := I.2.2.2.2.1.2.1
  have i6 := I.2.2.2.2.2.1
  have j13 := I.2.2.2.2.2.2.2.2.2.2
  have R := RI_of I
  have rf := R.1.2.1
  refine ⟨_, d_plans hC h o oo L, fun z1 g1 q1 => ?_⟩
  obtain ⟨rfl, w1⟩ := q1
  have C1 : ∀ i, 1000 ≤ i → h i = h i := fun i _ => rfl
  have R1 := RI_mv R C1
  have rf1 := R1.1.2.1
  refine ⟨_, c_plans hM h rf1.1 rf1.2.1, fun z2 g2 q2 => ?_⟩
  exact ⟨by rw [w1, q2.2.2, hj.1]; exact (cnt_lpn _ 256).symm, INVE_s I (L := []) off_rf (by simp) HC.2.2 j13 q2.1.1 (by decide) (fun x _ => by rw [q2.1.1 mState (by decide)]) (fun k hk => q2.1.2 k (by simp <;> omega))⟩

theorem pair_worth {G : GT_} (hC : okC_ G) (hM : okM_ G) {h : PH_} (I0 : INVE_ h) (p r t : Int) (hp : ir_ p) (h1 : ir_ r) (h2 : ir_ t) : PAI_ G yX11_worth cX11_worth 4 (some .int) 5 [rr_ G 0, ii_ p, ii_ r, ii_ t] yX12_worth cX12_worth 4 (some .int) 4 [rr_ G mo_, ii_ p, ii_ r, ii_ t] h := by
  obtain ⟨o, o2, tt, t2, un, Z, I⟩ := I0
  have oo := I.1.1
  have ot := I.1.2.2.2.1
  have L := I.2.1.1
  have LT := I.2.1.2.2.1
  have HC := I.2.2.2.2.1.1
  have hj := I.2.2.2.2.1.2.1
  have i6 := I.2.2.2.2.2.1
  have j13 := I.2.2.2.2.2.2.2.2.2.2
  have R := RI_of I
  have rf := R.1.2.1
  refine ⟨_, d_worth hC h o oo L _ _ HC p r t hp h1 h2, fun z1 g1 q1 => ?_⟩
  obtain ⟨f1, m1, w1⟩ := q1
  have C1 : ∀ i, 1000 ≤ i → g1 i = h i := fun i hi => f1 i (by simp <;> omega)
  have R1 := RI_mv R C1
  have rf1 := R1.1.2.1
  refine ⟨_, c_worth hM g1 rf1.1 rf1.2.1 rf1.2.2.1 (zP_ Z) R1.1.2.2.1 p r t hp h1 h2, fun z2 g2 q2 => ?_⟩
  have e := C1 mRoads (by decide)
  exact ⟨by rw [w1, q2.2.2, e], INVE_s I f1 (by simp [CSC_] <;> omega) m1 (I13_f j13 f1 (by simp <;> omega)) q2.1.1 (by decide) (fun x _ => by rw [q2.1.1 mState (by decide)]) (fun k hk => q2.1.2 k (by simp <;> omega))⟩

theorem pair_toffees {G : GT_} (hC : okC_ G) (hM : okM_ G) {h : PH_} (I0 : INVE_ h) (t w : Int) (h1 : ir_ t) (h2 : ir_ w) : PAI_ G yX11_toffees cX11_toffees 4 (some .int) 6 [rr_ G 0, ii_ t, ii_ w] yX12_toffees cX12_toffees 9 (some .int) 5 [rr_ G mo_, ii_ t, ii_ w] h := by
  obtain ⟨o, o2, tt, t2, un, Z, I⟩ := I0
  have oo := I.1.1
  have ot := I.1.2.2.2.1
  have L := I.2.1.1
  have LT := I.2.1.2.2.1
  have HC := I.2.2.2.2.1.1
  have hj := I.2.2.2.2.1.2.1
  have i6 := I.2.2.2.2.2.1
  have j13 := I.2.2.2.2.2.2.2.2.2.2
  have R := RI_of I
  have rf := R.1.2.1
  refine ⟨_, d_toffees hC h o oo L _ _ HC t w h1 h2, fun z1 g1 q1 => ?_⟩
  obtain ⟨f1, m1, w1⟩ := q1
  have C1 : ∀ i, 1000 ≤ i → g1 i = h i := fun i hi => f1 i (by simp <;> omega)
  have R1 := RI_mv R C1
  have rf1 := R1.1.2.1
  refine ⟨_, c_toffees hM g1 rf1.1 rf1.2.1 rf1.2.2.1 (zP_ Z) R1.1.2.2.1 t w h1 h2, fun z2 g2 q2 => ?_⟩
  have e := C1 mRoads (by decide)
  exact ⟨by rw [w1, q2.2.2.2, e], INVE_s I f1 (by simp [CSC_] <;> omega) m1 (I13_f j13 f1 (by simp <;> omega)) q2.1 (by decide) (fun x _ => by rw [q2.1 mState (by decide)]) (fun k hk => q2.2.1 k (by omega))⟩

theorem pair_door {G : GT_} (hC : okC_ G) (hM : okM_ G) {h : PH_} (I0 : INVE_ h) (t r s w : Int) (h1 : ir_ t) (h2 : ir_ r) (h3 : ir_ s) (h4 : ir_ w) : PAL_ G yX11_door cX11_door 6 (some .long) 11 [rr_ G 0, ii_ t, ii_ r, ii_ s, ii_ w] yX12_door cX12_door 5 (some .long) 10 [rr_ G mo_, ii_ t, ii_ r, ii_ s, ii_ w] h := by
  obtain ⟨o, o2, tt, t2, un, Z, I⟩ := I0
  have oo := I.1.1
  have ot := I.1.2.2.2.1
  have L := I.2.1.1
  have LT := I.2.1.2.2.1
  have HC := I.2.2.2.2.1.1
  have hj := I.2.2.2.2.1.2.1
  have i6 := I.2.2.2.2.2.1
  have j13 := I.2.2.2.2.2.2.2.2.2.2
  have R := RI_of I
  have rf := R.1.2.1
  refine ⟨_, d_door hC h o oo L _ HC.1 rf.2.2.2.2.2.2.1 t r s w h1 h2 h3 h4, fun z1 g1 q1 => ?_⟩
  obtain ⟨f1, w1⟩ := q1
  have C1 : ∀ i, 1000 ≤ i → g1 i = h i := fun i hi => f1 i (by simp <;> omega)
  have R1 := RI_mv R C1
  have rf1 := R1.1.2.1
  refine ⟨_, c_door hM g1 rf1.1 rf1.2.1 rf1.2.2.1 rf1.2.2.2.2.2.2.1 t r s w h1 h2 h3 h4, fun z2 g2 q2 => ?_⟩
  have e := C1 mRoads (by decide)
  exact ⟨by rw [w1, q2.2.2.2, e], INVE_s I f1 (by simp [CSC_] <;> omega) (CLD_off HC oo f1 (by simp)).2.2 (I13_f j13 f1 (by simp)) q2.1 (by decide) (fun x _ => by rw [q2.1 mState (by decide)]) (fun k hk => q2.2.1 k (by omega) (by omega) (by omega))⟩

theorem pair_years {G : GT_} (hC : okC_ G) (hM : okM_ G) {h : PH_} (I0 : INVE_ h) (sd jn w : Int) (h1 : ir_ sd) (h2 : ir_ jn) (h3 : ir_ w) : PAI_ G yX11_years cX11_years 5 (some .int) 7 [rr_ G 0, ii_ sd, ii_ jn, ii_ w] yX12_years cX12_years 6 (some .int) 6 [rr_ G mo_, ii_ sd, ii_ jn, ii_ w] h := by
  obtain ⟨o, o2, tt, t2, un, Z, I⟩ := I0
  have oo := I.1.1
  have ot := I.1.2.2.2.1
  have L := I.2.1.1
  have LT := I.2.1.2.2.1
  have HC := I.2.2.2.2.1.1
  have hj := I.2.2.2.2.1.2.1
  have i6 := I.2.2.2.2.2.1
  have j13 := I.2.2.2.2.2.2.2.2.2.2
  have R := RI_of I
  have rf := R.1.2.1
  refine ⟨_, d_years hC h o oo L _ _ HC rf.2.2.2.2.2.2.1 (fun r r0 r1 => rf.2.2.2.2.2.1 r r0 (by have := rf.1; have := rf.2.1; omega)) sd jn w h1 h2 h3, fun z1 g1 q1 => ?_⟩
  obtain ⟨f1, m1, w1⟩ := q1
  have C1 : ∀ i, 1000 ≤ i → g1 i = h i := fun i hi => f1 i (by simp <;> omega)
  have R1 := RI_mv R C1
  have rf1 := R1.1.2.1
  refine ⟨_, c_years hM g1 rf1.1 rf1.2.1 rf1.2.2.1 rf1.2.2.2.2.2.1 rf1.2.2.2.2.2.2.1 (zP_ Z) R1.1.2.2.1 sd jn w h1 h2 h3, fun z2 g2 q2 => ?_⟩
  have e := C1 mRoads (by decide)
  exact ⟨by rw [w1, q2.2.2.2, e], INVE_s I f1 (by simp [CSC_] <;> omega) m1 (I13_f j13 f1 (by simp <;> omega)) q2.1 (by decide) (fun x _ => by rw [q2.1 mState (by decide)]) (fun k hk => q2.2.1 k (by omega) (by omega) (by omega))⟩

theorem pair_fits {G : GT_} (hC : okC_ G) (hM : okM_ G) {h : PH_} (I0 : INVE_ h) (w : Int) (h1 : ir_ w) : PAI_ G yX11_fits cX11_fits 3 (some .int) 6 [rr_ G 0, ii_ w] yX12_fits cX12_fits 3 (some .int) 10 [rr_ G mo_, ii_ w] h := by
  obtain ⟨o, o2, tt, t2, un, Z, I⟩ := I0
  have oo := I.1.1
  have ot := I.1.2.2.2.1
  have L := I.2.1.1
  have LT := I.2.1.2.2.1
  have HC := I.2.2.2.2.1.1
  have hj := I.2.2.2.2.1.2.1
  have i6 := I.2.2.2.2.2.1
  have j13 := I.2.2.2.2.2.2.2.2.2.2
  have R := RI_of I
  have rf := R.1.2.1
  refine ⟨_, d_fits hC h o oo L _ HC.1 hj (h mState) ⟨i6.2.2.1, i6.2.2.2.1, i6.2.2.2.2⟩ w h1, fun z1 g1 q1 => ?_⟩
  obtain ⟨f1, w1⟩ := q1
  have C1 : ∀ i, 1000 ≤ i → g1 i = h i := fun i hi => f1 i (by simp <;> omega)
  have R1 := RI_mv R C1
  have rf1 := R1.1.2.1
  refine ⟨_, c_fits hM g1 rf1.1 rf1.2.1 rf1.2.2.1 (zP_ Z) R1.1.2.2.1 (by have := R1.2.2.2.2.1.2.2.2.2.2.1; omega) R1.2.2.2.2.1.2.2.2.2.2.2 w h1, fun z2 g2 q2 => ?_⟩
  have e := C1 mRoads (by decide)
  have e2 := C1 mState (by decide)
  exact ⟨by rw [w1, q2.2.2.2, e, e2], INVE_s I f1 (by simp [CSC_] <;> omega) (CLD_off HC oo f1 (by simp)).2.2 (I13_f j13 f1 (by simp)) q2.1 (by decide) (fun x _ => by rw [q2.1 mState (by decide)]) (fun k hk => q2.2.1 k (by omega) (by omega) (by omega) (by omega) (by omega))⟩

theorem pair_called {G : GT_} (hC : okC_ G) (hM : okM_ G) {h : PH_} (I0 : INVE_ h) (k w : Int) (h1 : ir_ k) (h2 : ir_ w) : PAI_ G yX11_called cX11_called 4 (some .int) 7 [rr_ G 0, ii_ k, ii_ w] yX12_called cX12_called 3 (some .int) 6 [rr_ G mo_, ii_ k, ii_ w] h := by
  obtain ⟨o, o2, tt, t2, un, Z, I⟩ := I0
  have oo := I.1.1
  have ot := I.1.2.2.2.1
  have L := I.2.1.1
  have LT := I.2.1.2.2.1
  have HC := I.2.2.2.2.1.1
  have hj := I.2.2.2.2.1.2.1
  have i6 := I.2.2.2.2.2.1
  have j13 := I.2.2.2.2.2.2.2.2.2.2
  have R := RI_of I
  have rf := R.1.2.1
  refine ⟨_, d_called hC h o oo L _ _ HC (fun r r0 r1 => rf.2.2.2.2.2.1 r r0 (by have := rf.1; have := rf.2.1; omega)) (zQ_ Z) ⟨I.2.2.2.2.1.2.2.2.1, rf.2.2.2.1⟩ (fun k k0 k1 => ⟨I.2.2.2.2.1.2.2.2.2 k k0 k1, (R.1.2.2.2 k k0 k1).2⟩) k w h1 h2, fun z1 g1 q1 => ?_⟩
  obtain ⟨f1, m1, w1⟩ := q1
  have C1 : ∀ i, 1000 ≤ i → g1 i = h i := fun i hi => f1 i (by simp <;> omega)
  have R1 := RI_mv R C1
  have rf1 := R1.1.2.1
  refine ⟨_, c_called hM g1 rf1.1 rf1.2.1 rf1.2.2.1 rf1.2.2.2.2.1 rf1.2.2.2.2.2.1 (zP_ Z) R1.1.2.2.1 (zQ_ Z) rf1.2.2.2.1 R1.1.2.2.2 k w h1 h2, fun z2 g2 q2 => ?_⟩
  have e := C1 mRoads (by decide)
  exact ⟨by rw [w1, q2.2.2.2, e], INVE_s I f1 (by simp [CSC_] <;> omega) m1 (I13_f j13 f1 (by simp <;> omega)) q2.1 (by decide) (fun x _ => by rw [q2.1 mState (by decide)]) (fun k hk => q2.2.1 k (by omega))⟩

theorem pair_fairest {G : GT_} (hC : okC_ G) (hM : okM_ G) {h : PH_} (I0 : INVE_ h)  : PAI_ G yX11_fairest cX11_fairest 5 (some .int) 7 [rr_ G 0] yX12_fairest cX12_fairest 5 (some .int) 6 [rr_ G mo_] h := by
  obtain ⟨o, o2, tt, t2, un, Z, I⟩ := I0
  have oo := I.1.1
  have ot := I.1.2.2.2.1
  have L := I.2.1.1
  have LT := I.2.1.2.2.1
  have HC := I.2.2.2.2.1.1
  have hj := I.2.2.2.2.1.2.1
  have i6 := I.2.2.2.2.2.1
  have j13 := I.2.2.2.2.2.2.2.2.2.2
  have R := RI_of I
  have rf := R.1.2.1
  refine ⟨_, d_fairest hC h o oo L _ _ HC (fun r r0 r1 => rf.2.2.2.2.2.1 r r0 (by have := rf.1; have := rf.2.1; omega)) (zQ_ Z) ⟨I.2.2.2.2.1.2.2.2.1, rf.2.2.2.1⟩ (fun k k0 k1 => ⟨I.2.2.2.2.1.2.2.2.2 k k0 k1, (R.1.2.2.2 k k0 k1).2⟩), fun z1 g1 q1 => ?_⟩
  obtain ⟨f1, m1, w1⟩ := q1
  have C1 : ∀ i, 1000 ≤ i → g1 i = h i := fun i hi => f1 i (by simp <;> omega)
  have R1 := RI_mv R C1
  have rf1 := R1.1.2.1
  refine ⟨_, c_fairest hM g1 rf1.1 rf1.2.1 rf1.2.2.1 rf1.2.2.2.2.1 rf1.2.2.2.2.2.1 (zP_ Z) R1.1.2.2.1 (zQ_ Z) rf1.2.2.2.1 R1.1.2.2.2, fun z2 g2 q2 => ?_⟩
  have e := C1 mRoads (by decide)
  exact ⟨by rw [w1, q2.2.2.2, e], INVE_s I f1 (by simp [CSC_] <;> omega) m1 (I13_f j13 f1 (by simp <;> omega)) q2.1 (by decide) (fun x _ => by rw [q2.1 mState (by decide)]) (fun k hk => q2.2.1 k (by omega))⟩

theorem pair_judged {G : GT_} (hC : okC_ G) (hM : okM_ G) {h : PH_} (I0 : INVE_ h) (q : Int) (hq : ir_ q) : PAI_ G yX11_judged cX11_judged 3 (some .int) 8 [rr_ G 0, ii_ q] yX12_judged cX12_judged 4 (some .int) 6 [rr_ G mo_, ii_ q] h := by
  obtain ⟨o, o2, tt, t2, un, Z, I⟩ := I0
  have oo := I.1.1
  have ot := I.1.2.2.2.1
  have L := I.2.1.1
  have LT := I.2.1.2.2.1
  have HC := I.2.2.2.2.1.1
  have hj := I.2.2.2.2.1.2.1
  have i6 := I.2.2.2.2.2.1
  have j13 := I.2.2.2.2.2.2.2.2.2.2
  have R := RI_of I
  have rf := R.1.2.1
  refine ⟨_, d_judged hC h o oo L tt ot LT _ _ HC rf.2.2.2.2.2.1 (h mLines) (h mState) I.2.2.2.2.2.2.2.2.1 q hq, fun z1 g1 q1 => ?_⟩
  obtain ⟨f1, m1, w1⟩ := q1
  have C1 : ∀ i, 1000 ≤ i → g1 i = h i := fun i hi => f1 i (by simp <;> omega)
  have R1 := RI_mv R C1
  have rf1 := R1.1.2.1
  refine ⟨_, c_judged hM g1 rf1.1 rf1.2.1 rf1.2.2.1 rf1.2.2.2.2.1 rf1.2.2.2.2.2.1 (zP_ Z) R1.1.2.2.1 R1.2.2.2.2.2.1 q hq, fun z2 g2 q2 => ?_⟩
  have e := C1 mRoads (by decide)
  have e2 := C1 mLines (by decide)
  have e3 := C1 mState (by decide)
  exact ⟨by rw [w1, q2.2.2.2, e, e2, e3], INVE_s I f1 (by simp [CSC_] <;> omega) m1 (I13_f j13 f1 (by simp <;> omega)) q2.1 (by decide) q2.2.2.1 (fun k hk => by rw [q2.2.1]; exact if_neg (by omega))⟩

theorem pair_count {G : GT_} (hC : okC_ G) (hM : okM_ G) {h : PH_} (I0 : INVE_ h) (w : Int) (h1 : ir_ w) : PAI_ G yX11_count cX11_count 2 (some .int) 2 [rr_ G 0, ii_ w] yX12_count cX12_count 4 (some .int) 2 [rr_ G mo_, ii_ w] h := by
  obtain ⟨o, o2, tt, t2, un, Z, I⟩ := I0
  have oo := I.1.1
  have ot := I.1.2.2.2.1
  have L := I.2.1.1
  have LT := I.2.1.2.2.1
  have HC := I.2.2.2.2.1.1
  have hj := I.2.2.2.2.1.2.1
  have i6 := I.2.2.2.2.2.1
  have j13 := I.2.2.2.2.2.2.2.2.2.2
  have R := RI_of I
  have rf := R.1.2.1
  refine ⟨_, d_count hC h o oo L _ HC.1 tt ot LT (by have := i6.2.1.1; omega) w h1, fun z1 g1 q1 => ?_⟩
  obtain ⟨rfl, w1⟩ := q1
  have C1 : ∀ i, 1000 ≤ i → h i = h i := fun i _ => rfl
  have R1 := RI_mv R C1
  have rf1 := R1.1.2.1
  refine ⟨_, c_count hM h rf1.1 rf1.2.1 w h1, fun z2 g2 q2 => ?_⟩
  refine ⟨?_, INVE_s I (L := []) off_rf (by simp) HC.2.2 j13 (M := [mo_]) (by rw [q2.1]; exact off_up off_rf (by simp)) (by decide) (fun x _ => by rw [q2.1, up_off (by decide)]) (fun k hk => by rw [q2.1, up_at, if_neg (by omega)])⟩
  have sec := i6.1
  have e1 : csn_ (h 44) (h mRoads 2).toNat = csi_ (h mState) (h mRoads 2).toNat := csn_csi _ (fun r r0 r1 => by
    have q := sec.2.1 r r0 (by have := rf.1; have := rf.2.1; omega)
    exact ⟨q.1 (by omega), q.2.2.1.1⟩)
  have e2 : h 43 3 = h mState 0 := sec.1.1
  rw [w1, q2.2, I.2.2.2.2.1.2.2.2.1, e2, e1, I.2.2.2.2.2.2.2.2.1.1.1, i6.2.1.1.1, i6.2.2.1.1, I.2.2.2.2.2.2.2.1.1.1, I.2.2.1.2.1]

