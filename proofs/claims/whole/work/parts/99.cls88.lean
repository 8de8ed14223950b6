/-! ===== the three that may throw ===== -/
def PAH_ (G : GT_) (y1 : MethodName) (c1 : ByteArray) (m1 : Nat) (hh : List (Nat × Nat × Nat × Nat)) (d1 : Nat) (a1 : List Value) (y2 : MethodName) (c2 : ByteArray) (m2 d2 : Nat) (a2 : List Value) (h : PH_) : Prop :=
  ∃ Q1 : Int → PH_ → Prop, PCH G y1 c1 m1 (some .int) hh d1 a1 h (qi_ Q1) ∧ ∀ z1 h1, Q1 z1 h1 → ∃ Q2 : Int → PH_ → Prop, PC G y2 c2 m2 (some .int) d2 a2 h1 (qi_ Q2) ∧ ∀ z2 h2, Q2 z2 h2 → h2 mo_ 0 = z1 ∧ (z1 = 0 ∧ h2 2000 0 = z2 ∨ z1 = 1) ∧ INVE_ h2
theorem INV_up {o o2 t t2 un : Nat} {Z : ZT_} {h : PH_} {z : Int} (I : INV_ o o2 t t2 un Z h) : INV_ o o2 t t2 un Z (up_ h 2000 0 z) := by
  have oo := I.1.1
  have ot := I.1.2.2.2.1
  have e : ∀ i, i ≠ 2000 → up_ h 2000 0 z i = h i := fun i hi => up_off hi
  have eR := e mRoads (by decide)
  have rf := (NR_f I.2.2.2.1.1).1
  refine ⟨I.1, I2_mv I.2.1 (fun k _ _ => by rw [e 0 (by decide)]), I3_mv I.2.2.1 (by rw [e 1 (by decide)]) (e 2 (by decide)) (e mTape (by decide)) (by rw [e mo_ (by decide)]), I4_mv I.2.2.2.1 eR (e _ (by decide)) (e _ (by decide)) (e _ (by decide)) (e _ (by decide)) (by rw [e mo_ (by decide)]) (e _ (by decide)) (e _ (by decide)), I5_mv I.2.2.2.2.1 eR (fun k hk => e _ (by omega)), I6_mv I.2.2.2.2.2.1 rf eR (fun i h0 h1 => e i (by omega)) (fun x _ _ => by rw [e mState (by decide)]), I9_mv I.2.2.2.2.2.2.1 rf eR (e _ (by decide)) (fun i h0 h1 => e i (by omega)) (fun x _ _ => by rw [e mState (by decide)]), I10_mv I.2.2.2.2.2.2.2.1 rf eR (by rw [e 0 (by decide)]) (by rw [e 0 (by decide)]) (by rw [e mo_ (by decide)]) (fun i h0 h1 => e i (by omega)) (e 49 (by decide)) (fun x _ _ => by rw [e mState (by decide)]), ?_, smb_mv I.2.2.2.2.2.2.2.2.2.1 (e 150 (by decide)), I13_mv I.2.2.2.2.2.2.2.2.2.2 eR (e _ (by decide)) (e _ (by decide)) (e _ (by decide)) (e _ (by decide))⟩
  rw [eR, e mLines (by decide)]
  exact TLD_cg I.2.2.2.2.2.2.2.2.1 (e _ (by omega)) (e _ (by omega)) (e _ (by omega))
/-- the class wrote on scratch alone -/
theorem INV_c {o o2 t t2 un : Nat} {Z : ZT_} {h h1 : PH_} (I : INV_ o o2 t t2 un Z h) {L : List Nat} (f1 : off_ L h h1) (hL : ∀ i ∈ L, i ∈ CSC_ o) (m1 : CWM_ (h mRoads) (zP_ Z) h1 o) (j1 : I13_ o Z h1) : INV_ o o2 t t2 un Z h1 :=
  INV_s I (off_mo f1 hL) m1 j1 off_rf (fun _ _ => rfl) (fun _ _ => rfl)
theorem INV_r {o o2 t t2 un : Nat} {Z : ZT_} {h h2 : PH_} (I : INV_ o o2 t t2 un Z h) {M : List Nat} (f2 : off_ M h h2) (hM : ∀ i ∈ M, i ∈ RSC_) (s2 : ∀ x, x < 1680 → h2 mState x = h mState x) (k2 : ∀ k, k = 2 ∨ k = 18 ∨ k = 28 → h2 mo_ k = h mo_ k) : INVE_ h2 :=
  ⟨o, o2, t, t2, un, Z, INV_s I off_rf I.2.2.2.2.1.1.2.2 I.2.2.2.2.2.2.2.2.2.2 (off_mo f2 hM) s2 k2⟩
theorem INV_t {o o2 t t2 un : Nat} {Z : ZT_} {h h2 : PH_} (I : INV_ o o2 t t2 un Z h) {z : Int} (e : h2 = up_ h mo_ 0 z) : INVE_ h2 :=
  INV_r I (M := [mo_]) (by rw [e]; exact off_up off_rf (by simp)) (by decide) (fun x _ => by rw [e, up_off (by decide)]) (fun k hk => by rw [e, up_at, if_neg (by omega)])
theorem skb_m0 {ro : Int → Int} {P : List (Int × Int)} {pa : Int → Int} (h1 : ro 1 = 0) : ∃ (mq : Int) (f tq : Int → Int), skb_ ro P 1 12 pa = some (-(sm_ pa 0 (ro 2).toNat), mq, f, tq) := by
  have e : vat_ 1 (trn_ (ro 2) pa) 0 (ro 2) = -(sm_ pa 0 (ro 2).toNat) := by
    show -(sm_ (trn_ (ro 2) pa) 0 (ro 2).toNat) = -(sm_ pa 0 (ro 2).toNat)
    rw [sm_cg (g := pa) (j := 0) (ro 2).toNat (fun r r0 r1 => by rw [Int.zero_add]; exact trn_at r0 (by omega))]
  unfold skb_
  rw [show (ro 1).toNat = 0 by omega]
  unfold gtr_ gth_ lok_
  rw [if_t (show bet_ 1 _ 0 none from trivial), e]
  exact ⟨_, _, _, rfl⟩

theorem pair_rider {G : GT_} (hC : okC_ G) (hM : okM_ G) (hO : 2000 ∈ gi_ G) (hX : gX_ G) {h : PH_} (I0 : INVE_ h) (r w : Int) (h1 : ir_ r) (h2 : ir_ w) : PAH_ G yL_rider cL_rider 5 [(0, 10, 13, 13)] 8 [rr_ G 0, ii_ r, ii_ w, rr_ G 2000] yX12_rider cX12_rider 3 3 [rr_ G mo_, ii_ r, ii_ w] h := by
  obtain ⟨o, o2, tt, t2, un, Z, I⟩ := I0
  have oo := I.1.1
  have ot := I.1.2.2.2.1
  have L := I.2.1.1
  have LT := I.2.1.2.2.1
  have HC := I.2.2.2.2.1.1
  have hj := I.2.2.2.2.1.2.1
  have i6 := I.2.2.2.2.2.1
  have j13 := I.2.2.2.2.2.2.2.2.2.2
  have R := RI_of I
  have rf := R.1.2.1
  refine ⟨_, l_rider hC hO hX h r w (d_rider hC h o oo L _ HC.1 hX r w h1 h2), fun z1 g1 q1 => ?_⟩
  rcases q1 with ⟨rfl, zz, k1, hz, ⟨rfl, p1, e1⟩, rfl⟩ | ⟨rfl, rfl, p1⟩
  · have I' := INV_up (z := zz) I
    have rf1 := (RI_of I').1.2.1
    refine ⟨_, c_rider hM _ rf1.1 rf1.2.1 r w h1 h2, fun z2 g2 q2 => ?_⟩
    have eR : up_ h 2000 0 zz mRoads = h mRoads := up_off (by decide)
    have eS : up_ h 2000 0 zz mState = h mState := up_off (by decide)
    rw [eR, eS] at q2
    rcases q2 with ⟨p2, e2, e3⟩ | ⟨p2, e2⟩
    · refine ⟨by rw [e2, up_same], Or.inl ⟨rfl, ?_⟩, INV_t I' e2⟩
      have s1 : h 44 r = h mState (0 + 1 + r) := (i6.1.2.1 r p1.1 (by have := rf.1; have := rf.2.1; omega)).1 p1.2
      have s2 : h 46 r = h mState (0 + 9 + r) := i6.1.2.2.2.2.1 r p1.1 p1.2
      rw [e2, up_off (by decide), up_same, e1, e3, s1, s2, show (0 : Int) + 1 + r = 1 + r by omega, show (0 : Int) + 9 + r = 9 + r by omega]
    · exact absurd p1 p2
  · have rf1 := (RI_of I).1.2.1
    refine ⟨_, c_rider hM _ rf1.1 rf1.2.1 r w h1 h2, fun z2 g2 q2 => ?_⟩
    rcases q2 with ⟨p2, e2, e3⟩ | ⟨p2, e2⟩
    · exact absurd p2 p1
    · exact ⟨by rw [e2, up_same], Or.inr rfl, INV_t I e2⟩

theorem pair_most {G : GT_} (hC : okC_ G) (hM : okM_ G) (hO : 2000 ∈ gi_ G) (hX : gX_ G) {h : PH_} (I0 : INVE_ h) (w : Int) (h1 : ir_ w) : PAH_ G yL_most cL_most 4 [(0, 9, 12, 13)] 10 [rr_ G 0, ii_ w, rr_ G 2000] yX12_most cX12_most 2 11 [rr_ G mo_, ii_ w] h := by
  obtain ⟨o, o2, tt, t2, un, Z, I⟩ := I0
  have oo := I.1.1
  have ot := I.1.2.2.2.1
  have L := I.2.1.1
  have LT := I.2.1.2.2.1
  have HC := I.2.2.2.2.1.1
  have hj := I.2.2.2.2.1.2.1
  have i6 := I.2.2.2.2.2.1
  have j13 := I.2.2.2.2.2.2.2.2.2.2
  have R := RI_of I
  have rf := R.1.2.1
  refine ⟨_, l_most hC hO hX h w (d_most hC h o oo L _ _ HC ⟨j13.1, hj⟩ j13.2.1 (fun r r0 r1 => rf.2.2.2.2.2.1 r r0 (by have := rf.1; have := rf.2.1; omega)) hX w h1), fun z1 g1 q1 => ?_⟩
  rcases q1 with ⟨rfl, zz, k1, hz, ⟨mc, f1, m1, kk, g1', e1⟩, rfl⟩ | ⟨rfl, rfl, p1⟩
  · have C1 : ∀ i, 1000 ≤ i → k1 i = h i := fun i hi => f1 i (by simp <;> omega)
    have eRk : k1 mRoads = h mRoads := C1 mRoads (by decide)
    have Ik := INV_c I f1 (by simp [CSC_] <;> omega) m1 (by
      unfold I13_
      rw [eRk]
      exact ⟨by rw [kk 0 (by decide)]; exact j13.1, Or.inr g1', jca_cg j13.2.2.1 (kk 11 (by decide)) (f1 160 (by simp <;> omega)), by rw [kk 13 (by decide)]; exact j13.2.2.2.1, by rw [kk 16 (by decide)]; exact j13.2.2.2.2.imp id (jls_mv4 (kk 16 (by decide)))⟩)
    have I' := INV_up (z := zz) Ik
    have R1 := RI_of I'
    have rf1 := R1.1.2.1
    refine ⟨_, c_most hM _ rf1.1 rf1.2.1 rf1.2.2.1 rf1.2.2.2.2.1 rf1.2.2.2.2.2.1 (zP_ Z) R1.1.2.2.1 w h1, fun z2 g2 q2 => ?_⟩
    obtain ⟨f2, k2, t2', e2⟩ := q2
    have eR : up_ k1 2000 0 zz mRoads = h mRoads := (up_off (by decide)).trans eRk
    rw [eR] at t2' e2
    have mv : mst_ (h mRoads) (zP_ Z) w = (0, zz) := by
      unfold mst_
      have r1 := rf.2.2.1
      rw [if_t (by omega), e1]
      by_cases c : h mRoads 1 = 0
      · obtain ⟨mq, f, tq, e⟩ := skb_m0 (P := zP_ Z) (pa := pas_ (h mRoads)) c
        rw [e, show w = -1 by omega, show (h mRoads 1).toNat = 0 by omega]
        show ((0 : Int), -(-(sm_ (pas_ (h mRoads)) 0 (h mRoads 2).toNat))) = (0, sm_ (pas_ (h mRoads)) 0 (h mRoads 2).toNat + 0)
        rw [Int.neg_neg, Int.add_zero]
      · obtain ⟨mq, tq, e⟩ := skb_mx (P := zP_ Z) (pa := pas_ (h mRoads)) rf.2.2.2.2.1 (by have := rf.1; have := rf.2.1; omega) rf.2.2.1 (by omega)
        rw [e]
        show ((0 : Int), if w < 0 then -(-(sm_ (pas_ (h mRoads)) 0 (h mRoads 2).toNat + srm_ (h mRoads) (zP_ Z) (h mRoads 1).toNat (-1))) else trn_ (h mRoads 1) (fun j => pL_ (h mRoads) (pth_ (h mRoads) (zP_ Z) j.toNat)) w) = _
        by_cases cw : w < 0
        · rw [if_pos cw, if_pos cw, Int.neg_neg]
        · rw [if_neg cw, if_neg cw, trn_at (by omega) (by omega)]
    rw [mv] at t2' e2
    exact ⟨t2', Or.inl ⟨rfl, by rw [f2 2000 (by decide), up_same]; exact e2.symm⟩, INV_r I' f2 (by decide) (fun x _ => by rw [f2 mState (by decide)]) (fun k hk => k2 k (by omega) (by omega) (by omega) (by omega) (by omega) (by omega) (by omega))⟩
  · have R1 := RI_of I
    have rf1 := R1.1.2.1
    refine ⟨_, c_most hM _ rf1.1 rf1.2.1 rf1.2.2.1 rf1.2.2.2.2.1 rf1.2.2.2.2.2.1 (zP_ Z) R1.1.2.2.1 w h1, fun z2 g2 q2 => ?_⟩
    obtain ⟨f2, k2, t2', e2⟩ := q2
    have mv : (mst_ (h mRoads) (zP_ Z) w).1 = 1 := by
      unfold mst_
      by_cases c : (-1 ≤ w ∧ w ≤ h mRoads 1 - 1) ∧ 0 < h mRoads 2
      · have := rf.2.2.1
        rw [if_t c, skb_no (by omega) (by omega)]; rfl
      · rw [if_f c]
    exact ⟨t2'.trans mv, Or.inr rfl, INV_r I f2 (by decide) (fun x _ => by rw [f2 mState (by decide)]) (fun k hk => k2 k (by omega) (by omega) (by omega) (by omega) (by omega) (by omega) (by omega))⟩

theorem pair_worst {G : GT_} (hC : okC_ G) (hM : okM_ G) (hO : 2000 ∈ gi_ G) (hX : gX_ G) {h : PH_} (I0 : INVE_ h)  : PAH_ G yL_worst cL_worst 3 [(0, 8, 11, 13)] 12 [rr_ G 0, rr_ G 2000] yX12_worst cX12_worst 1 11 [rr_ G mo_] h := by
  obtain ⟨o, o2, tt, t2, un, Z, I⟩ := I0
  have oo := I.1.1
  have ot := I.1.2.2.2.1
  have L := I.2.1.1
  have LT := I.2.1.2.2.1
  have HC := I.2.2.2.2.1.1
  have hj := I.2.2.2.2.1.2.1
  have i6 := I.2.2.2.2.2.1
  have j13 := I.2.2.2.2.2.2.2.2.2.2
  have R := RI_of I
  have rf := R.1.2.1
  refine ⟨_, l_worst hC hO hX h  (d_worst hC h o oo L _ _ HC ⟨j13.1, hj⟩ j13.2.1 (fun r r0 r1 => rf.2.2.2.2.2.1 r r0 (by have := rf.1; have := rf.2.1; omega)) hX j13.2.2.2.2), fun z1 g1 q1 => ?_⟩
  rcases q1 with ⟨rfl, zz, k1, hz, ⟨mc, f1, m1, kk, g1', jl, e1⟩, rfl⟩ | ⟨rfl, rfl, p1⟩
  · have C1 : ∀ i, 1000 ≤ i → k1 i = h i := fun i hi => f1 i (by simp <;> omega)
    have eRk : k1 mRoads = h mRoads := C1 mRoads (by decide)
    have Ik := INV_c I f1 (by simp [CSC_] <;> omega) m1 (by
      unfold I13_
      rw [eRk]
      exact ⟨by rw [kk 0 (by decide) (by decide)]; exact j13.1, Or.inr g1', jca_cg j13.2.2.1 (kk 11 (by decide) (by decide)) (f1 160 (by simp <;> omega)), by rw [kk 13 (by decide) (by decide)]; exact j13.2.2.2.1, Or.inr jl⟩)
    have I' := INV_up (z := zz) Ik
    have R1 := RI_of I'
    have rf1 := R1.1.2.1
    refine ⟨_, c_worst hM _ rf1.1 rf1.2.1 rf1.2.2.1 rf1.2.2.2.2.1 rf1.2.2.2.2.2.1 (zP_ Z) R1.1.2.2.1, fun z2 g2 q2 => ?_⟩
    obtain ⟨f2, k2, t2', e2⟩ := q2
    have eR : up_ k1 2000 0 zz mRoads = h mRoads := (up_off (by decide)).trans eRk
    rw [eR] at t2' e2
    have mv : wst_ (h mRoads) (zP_ Z) = (0, zz) := by
      unfold wst_
      rw [if_t mc.1, e1]
      obtain ⟨q, e⟩ := skb_is (ro := h mRoads) (P := zP_ Z) (so := 2) (pas_ (h mRoads)) rf.2.2.1 mc.2
      rw [e] at jl ⊢
      have jl : k1 151 16 = -q.1 ∧ _ := jl
      show ((0 : Int), -q.1) = _
      rw [jl.1]
    rw [mv] at t2' e2
    exact ⟨t2', Or.inl ⟨rfl, by rw [f2 2000 (by decide), up_same]; exact e2.symm⟩, INV_r I' f2 (by decide) (fun x _ => by rw [f2 mState (by decide)]) (fun k hk => k2 k (by omega) (by omega) (by omega) (by omega) (by omega) (by omega) (by omega))⟩
  · have R1 := RI_of I
    have rf1 := R1.1.2.1
    refine ⟨_, c_worst hM _ rf1.1 rf1.2.1 rf1.2.2.1 rf1.2.2.2.2.1 rf1.2.2.2.2.2.1 (zP_ Z) R1.1.2.2.1, fun z2 g2 q2 => ?_⟩
    obtain ⟨f2, k2, t2', e2⟩ := q2
    have mv : (wst_ (h mRoads) (zP_ Z)).1 = 1 := by
      unfold wst_
      by_cases c : 0 < h mRoads 2
      · have := rf.2.2.1
        rw [if_t c, skb_no (by omega) (by omega)]; rfl
      · rw [if_f c]
    exact ⟨t2'.trans mv, Or.inr rfl, INV_r I f2 (by decide) (fun x _ => by rw [f2 mState (by decide)]) (fun k hk => k2 k (by omega) (by omega) (by omega) (by omega) (by omega) (by omega) (by omega))⟩

