theorem lst_cg4 {lf lg si : Int → Int} : ∀ n : Nat, (∀ r, 0 ≤ r → r < (n : Int) → lf (4 * r + si r) = lg (4 * r + si r)) → lst_ lf si n = lst_ lg si n
  | 0, _ => rfl
  | n + 1, h => by unfold lst_; rw [lst_cg4 n (fun r r0 r1 => h r r0 (by omega)), h n (by omega) (by omega)]
theorem fs1_cg {Q Q' : Int → Prop} (h : ∀ p, Q p ↔ Q' p) : ∀ (f : Nat) (p : Int), fs1_ Q f p = fs1_ Q' f p
  | 0, _ => rfl
  | f + 1, p => by
    unfold fs1_
    by_cases c : Q p
    · rw [if_t c, if_t ((h p).mp c)]
    · rw [if_f c, if_f (fun u => c ((h p).mpr u)), fs1_cg h f]
theorem pcs_cg {S : Int} (hS : 2 ≤ S ∧ S ≤ 4) : ∀ (n : Nat) {lf lg : Int → Int} {m : Int}, piv_ S lf m → (∀ i j, 0 ≤ i → i < S → 0 ≤ j → j < S → lf (4 * i + j) = lg (4 * i + j)) → pcs_ S S n lf m = pcs_ S S n lg m
  | 0, _, _, _, _, _ => rfl
  | n + 1, lf, lg, m, hp, e => by
    unfold pcs_
    by_cases c : m ≤ 0
    · rw [if_pos c, if_pos c]
    · rw [if_neg c, if_neg c]
      have ps := piv_s hS hp (by omega)
      have el : ∀ p, vp_ok S S p → lst_ lf (dg_ S p) S.toNat = lst_ lg (dg_ S p) S.toNat := fun p hv => lst_cg4 _ (fun r r0 r1 => e r _ r0 (by omega) (dg_b S p r).1 (vp_dg hv ⟨r0, by omega⟩))
      have qe : ∀ p, pq_ S S lf p ↔ pq_ S S lg p := fun p => by
        unfold pq_
        constructor
        · rintro ⟨a, b⟩; exact ⟨a, by rw [← el p a]; exact b⟩
        · rintro ⟨a, b⟩; exact ⟨a, by rw [el p a]; exact b⟩
      have ep : pp0_ S S lg = pp0_ S S lf := (fs1_cg qe 256 0).symm
      have ev : pv0_ S S lg = pv0_ S S lf := by unfold pv0_; rw [ep]; exact (el _ ps.2.1.1).symm
      rw [ep, ev, pcs_cg hS n ps.2.2.2.1 (lg := pl0_ S S lg) (fun i j i0 i1 j0 j1 => ?_)]
      unfold pl0_ pcl_
      rw [ep, ev, e i j i0 i1 j0 j1]
theorem adu_of {f : Int → Int} {S m : Int} (h : adl_ (fun x => f (14 + x)) S m) : ∀ n : Nat, (n : Int) ≤ S → adu_ f S m n
  | 0, _ => trivial
  | n + 1, hn => by
    have q := h n (by omega) (by omega)
    exact ⟨adu_of h n (by omega), by rw [rsm_acr]; exact q.1, by rw [csm_dwn]; exact q.2⟩
theorem adl_cg4 {f g : Int → Int} {S m : Int} (hS : 0 ≤ S) (e : ∀ i j, 0 ≤ i → i < S → 0 ≤ j → j < S → f (4 * i + j) = g (4 * i + j)) (h : adl_ f S m) : adl_ g S m := fun k k0 k1 => by
  have q := h k k0 k1
  rw [← rsm_cg S.toNat (fun x x0 x1 => e k x k0 k1 x0 (by omega)), ← csm_cg S.toNat (fun x x0 x1 => e x k x0 (by omega) k0 k1)]
  exact q
theorem jls_mv4 {h h' : PH_} (e : h' 151 16 = h 151 16) : ∀ {B : BT_}, jls_ h B → jls_ h' B
  | none, H => by show h' 151 16 = _; rw [e]; exact H
  | some q, H => by show h' 151 16 = _ ∧ _; rw [e]; exact H
theorem skb_no {ro : Int → Int} {P : List (Int × Int)} {so mm : Int} {pa : Int → Int} (h1 : 0 < ro 1) (h2 : (lpn_ ro 256).length = 0) : skb_ ro P so mm pa = none := by
  unfold skb_ gtr_
  obtain ⟨n, e⟩ : ∃ n, (ro 1).toNat = n + 1 := ⟨(ro 1).toNat - 1, by omega⟩
  rw [e, h2]
  unfold gth_
  rfl
theorem aft_no {ro : Int → Int} {S : (Int → Int) → BT_} {n : Nat} {k : Int} {pa : Int → Int} (h : S pa = none) : aft_ ro S n k pa = -1 := by
  cases n with
  | zero => rfl
  | succ n => show (match S pa with | none => -1 | some q => _) = -1; rw [h]
theorem ans_evq {ro : Int → Int} {w : Int} (h : w < 2 + ro 1) : ∀ B : BT_, ans_ ro w B = evq_ w B
  | none => rfl
  | some q => by
    show (if w = 0 then q.1 else if w = 1 then q.2.1 else if w - 2 < ro 1 then q.2.2.1 (w - 2) else -1) = (if w = 0 then q.1 else if w = 1 then q.2.1 else q.2.2.1 (w - 2))
    rw [if_pos (show w - 2 < ro 1 by omega)]

theorem pair_evenest {G : GT_} (hC : okC_ G) (hM : okM_ G) {h : PH_} (I0 : INVE_ h) (m w : Int) (h1 : ir_ m) (h2 : ir_ w) : PAI_ G yX11_evenest cX11_evenest 4 (some .int) 10 [rr_ G 0, ii_ m, ii_ w] yX12_evenest cX12_evenest 3 (some .int) 11 [rr_ G mo_, ii_ m, ii_ w] h := by
  obtain ⟨o, o2, tt, t2, un, Z, I⟩ := I0
  have oo := I.1.1
  have ot := I.1.2.2.2.1
  have L := I.2.1.1
  have LT := I.2.1.2.2.1
  have HC := I.2.2.2.2.1.1
  have hj := I.2.2.2.2.1.2.1
  have i6 := I.2.2.2.2.2.1
  have j13 := I.2.2.2.2.2.2.2.2.2.2
  have R := RI_of I
  have rf := R.1.2.1
  refine ⟨_, d_evenest hC h o oo L _ _ HC ⟨j13.1, hj⟩ j13.2.1 (fun r r0 r1 => rf.2.2.2.2.2.1 r r0 (by have := rf.1; have := rf.2.1; omega)) j13.2.2.1 m w h1 h2, fun z1 g1 q1 => ?_⟩
  skip
  have C1 : ∀ i, 1000 ≤ i → g1 i = h i := (by rcases q1 with q1 | q1; exact fun i _ => (by rw [q1.1]); exact fun i hi => q1.2.1 i (by simp <;> omega))
  have R1 := RI_mv R C1
  have rf1 := R1.1.2.1
  refine ⟨_, c_evenest hM g1 rf1.1 rf1.2.1 rf1.2.2.1 rf1.2.2.2.2.1 rf1.2.2.2.2.2.1 (zP_ Z) R1.1.2.2.1 m w h1 h2, fun z2 g2 q2 => ?_⟩
  have e := C1 mRoads (by decide)
  have z2e := q2.2.2.2
  rw [e] at z2e
  rcases q1 with ⟨x1, x2, x3⟩ | ⟨x1, x2, x3, x4, x5, x6, x7, x8, x9⟩
  · refine ⟨by rw [x3, z2e]; unfold evn_; rw [if_f (by omega)], INVE_s I (L := []) (by rw [← x1]; exact off_rf) (by simp) (by rw [← x1]; exact HC.2.2) (by rw [← x1]; exact j13) q2.1 (by decide) (fun x _ => by rw [q2.1 mState (by decide)]) (fun k hk => q2.2.1 k (by omega) (by omega) (by omega) (by omega) (by omega) (by omega) (by omega))⟩
  · refine ⟨by rw [x9, z2e]; unfold evn_; rw [if_t (by omega)]; exact ans_evq (by omega) _, INVE_s I x2 (by simp [CSC_] <;> omega) x3 ?_ q2.1 (by decide) (fun x _ => by rw [q2.1 mState (by decide)]) (fun k hk => q2.2.1 k (by omega) (by omega) (by omega) (by omega) (by omega) (by omega) (by omega))⟩
    unfold I13_
    rw [e]
    exact ⟨by rw [x4]; exact j13.1, Or.inr x5, x6, by rw [x7]; exact j13.2.2.2.1, by rw [x8]; exact j13.2.2.2.2.imp id (jls_mv4 x8)⟩

theorem pair_after {G : GT_} (hC : okC_ G) (hM : okM_ G) {h : PH_} (I0 : INVE_ h)  : PAI_ G yX11_after cX11_after 1 (some .int) 11 [rr_ G 0] yX12_after cX12_after 3 (some .int) 11 [rr_ G mo_] h := by
  obtain ⟨o, o2, tt, t2, un, Z, I⟩ := I0
  have oo := I.1.1
  have ot := I.1.2.2.2.1
  have L := I.2.1.1
  have LT := I.2.1.2.2.1
  have HC := I.2.2.2.2.1.1
  have hj := I.2.2.2.2.1.2.1
  have i6 := I.2.2.2.2.2.1
  have j13 := I.2.2.2.2.2.2.2.2.2.2
  have R := RI_of I
  have rf := R.1.2.1
  refine ⟨_, d_after hC h o oo L _ _ HC ⟨j13.1, hj⟩ j13.2.1 (fun r r0 r1 => rf.2.2.2.2.2.1 r r0 (by have := rf.1; have := rf.2.1; omega)) j13.2.2.2.1, fun z1 g1 q1 => ?_⟩
  skip
  have C1 : ∀ i, 1000 ≤ i → g1 i = h i := (by rcases q1 with q1 | q1; exact fun i _ => (by rw [q1.1]); exact fun i hi => q1.2.1 i (by simp <;> omega))
  have R1 := RI_mv R C1
  have rf1 := R1.1.2.1
  refine ⟨_, c_after hM g1 rf1.1 rf1.2.1 rf1.2.2.1 rf1.2.2.2.2.1 rf1.2.2.2.2.2.1 (zP_ Z) R1.1.2.2.1, fun z2 g2 q2 => ?_⟩
  have e := C1 mRoads (by decide)
  have z2e := q2.2.2.2
  rw [e] at z2e
  rcases q1 with ⟨x1, x2, x3⟩ | ⟨x1, x2, x3, x4, x5, x6, x7, x8⟩
  · refine ⟨?_, INVE_s I (L := []) (by rw [← x1]; exact off_rf) (by simp) (by rw [← x1]; exact HC.2.2) (by rw [← x1]; exact j13) q2.1 (by decide) (fun x _ => by rw [q2.1 mState (by decide)]) (fun k hk => q2.2.1 k (by omega) (by omega) (by omega) (by omega) (by omega) (by omega) (by omega))⟩
    rw [x3, z2e]; unfold aftr_
    have r2 := rf.2.1.1
    have r1 := rf.2.2.1.1
    by_cases c : 0 < h mRoads 2
    · rw [if_t c, aft_no (skb_no (by omega) (by omega))]
    · rw [if_f c]
  · refine ⟨by rw [x8, z2e]; unfold aftr_; rw [if_t (by have := rf.2.1.1; omega)], INVE_s I x2 (by simp [CSC_] <;> omega) x3 ?_ q2.1 (by decide) (fun x _ => by rw [q2.1 mState (by decide)]) (fun k hk => q2.2.1 k (by omega) (by omega) (by omega) (by omega) (by omega) (by omega) (by omega))⟩
    unfold I13_
    rw [e]
    exact ⟨by rw [x4]; exact j13.1, Or.inr x5, jca_cg j13.2.2.1 x6.1 x6.2, Or.inr x7.1, by rw [x7.2]; exact j13.2.2.2.2.imp id (jls_mv4 x7.2)⟩

theorem pair_pieces {G : GT_} (hC : okC_ G) (hM : okM_ G) {h : PH_} (I0 : INVE_ h) (t w : Int) (h1 : ir_ t) (h2 : ir_ w) : PAI_ G yX11_pieces cX11_pieces 3 (some .int) 5 [rr_ G 0, ii_ t, ii_ w] yX12_pieces cX12_pieces 3 (some .int) 5 [rr_ G mo_, ii_ t, ii_ w] h := by
  obtain ⟨o, o2, tt, t2, un, Z, I⟩ := I0
  have oo := I.1.1
  have ot := I.1.2.2.2.1
  have L := I.2.1.1
  have LT := I.2.1.2.2.1
  have HC := I.2.2.2.2.1.1
  have hj := I.2.2.2.2.1.2.1
  have i6 := I.2.2.2.2.2.1
  have j13 := I.2.2.2.2.2.2.2.2.2.2
  have R := RI_of I
  have rf := R.1.2.1
  refine ⟨_, d_pieces hC h o oo L _ HC.1 (by have := i6.2.1.1; omega) (fun x x0 x1 => (i6.2.1.2.1 x x0 x1).1) rf.2.2.2.2.2.2.2 t w h1 h2, fun z1 g1 q1 => ?_⟩
  obtain ⟨f1, w1⟩ := q1
  have C1 : ∀ i, 1000 ≤ i → g1 i = h i := fun i hi => f1 i (by simp <;> omega)
  have R1 := RI_mv R C1
  have rf1 := R1.1.2.1
  refine ⟨_, c_pieces hM g1 rf1.1 rf1.2.1 rf1.2.2.1 rf1.2.2.2.2.2.2.2 R1.2.2.2.2.1.2.2.2.2.1 t w h1 h2, fun z2 g2 q2 => ?_⟩
  have e := C1 mRoads (by decide)
  have e2 := C1 mState (by decide)
  refine ⟨?_, INVE_s I f1 (by simp [CSC_] <;> omega) (CLD_off HC oo f1 (by simp)).2.2 (I13_f j13 f1 (by simp)) q2.1 (by decide) (fun x _ => by rw [q2.1 mState (by decide)]) (fun k hk => q2.2.1 k (by omega) (by omega))⟩
  have z2e := q2.2.2.2
  rw [e, e2] at z2e
  have sh := i6.2.1.1
  have S0 := rf.1
  have cp : h 42 3 = 1 → h mRoads 2 = h mRoads 0 → ∀ i j, 0 ≤ i → i < h mRoads 0 → 0 ≤ j → j < h mRoads 0 → h 47 (4 * i + j) = (fun x => h mState (14 + x)) (4 * i + j) := fun u v i j i0 i1 j0 j1 => i6.2.1.2.2 (by omega) i j i0 (by omega) j0 j1
  rw [z2e]; unfold pcr_
  rcases w1 with ⟨w1, w2⟩ | ⟨⟨w1, w2, w3, w4⟩, lf, w5, w6⟩
  · rw [w2, if_f]
    rintro ⟨u1, u2, u3, u4, u5⟩
    have s1 : h 42 3 = 1 := by omega
    exact w1 ⟨u1, s1, u4, adl_cg4 (by omega) (fun i j i0 i1 j0 j1 => (cp s1 u4 i j i0 i1 j0 j1).symm) (adl_of u5)⟩
  · have pv : piv_ (h mRoads 0) lf (h mRoads (11 + 5 * t)) := ⟨fun x x0 x1 => by rw [w5 x x0 x1]; exact (i6.2.1.2.1 x x0 x1).1, adl_cg4 (by omega) (fun i j i0 i1 j0 j1 => (w5 _ (by omega) (by omega)).symm) w4⟩
    have pe := pcs_cg S0 16 pv (lg := fun x => h mState (14 + x)) (fun i j i0 i1 j0 j1 => by rw [w5 _ (by omega) (by omega)]; exact cp w2 w3 i j i0 i1 j0 j1)
    rw [w6, pe]
    by_cases c : w < -1
    · rw [if_pos c, if_f (by omega)]
    · rw [if_neg c, if_t ⟨w1, by omega, by omega, w3, adu_of (adl_cg4 (by omega) (cp w2 w3) w4) _ (by omega)⟩]

