set_option maxHeartbeats 4000000 in
set_option maxRecDepth 100000 in
theorem c_seeks {G : GT_} (hM : okM_ G) (h : PH_) (hS : 2 ≤ h mRoads 0 ∧ h mRoads 0 ≤ 4) (hR1 : 1 ≤ h mRoads 2 ∧ h mRoads 2 ≤ h mRoads 0) (hT : 0 ≤ h mRoads 1 ∧ h mRoads 1 ≤ 4) (h4 : 0 ≤ h mRoads 4 ∧ h mRoads 4 ≤ 99) (P : List (Int × Int)) (hf : fpl_ (h mRoads) P h) (so mm : Int) (hso : 0 ≤ so ∧ so ≤ 2) (hmm : 0 ≤ mm ∧ mm ≤ 12) (hpa : ∀ r, 0 ≤ r → r < h mRoads 2 → -500000 ≤ h mPasts r ∧ h mPasts r ≤ 500000) : PC G yX12_seeks cX12_seeks 4 (some .boolean) 10 [rr_ G mo_, ii_ so, ii_ mm] h (qi_ (fun z h' => off_ [mMoves, mRow, mTotals, mBestRow, mBestTotals, mo_] h h' ∧ (∀ k, k ≠ 39 → k ≠ 40 → k ≠ 41 → k ≠ 42 → k ≠ 43 → h' mo_ k = h mo_ k) ∧ z = h' mo_ 41 ∧ bst_ (h mRoads 1) (h mRoads 2) h' (skb_ (h mRoads) P so mm (h mPasts)))) := by
  refine PC.of (lv := [some (rr_ G mo_), some (ii_ so), some (ii_ mm), none]) (by decide +kernel) (Nat.le_of_ble_eq_true rfl) rfl rfl ?_
  refine pw_aload_n (z := mo_) (pc := 0) dX12_seeks_0 rfl rfl ?_
  refine pw_iload_n (z := so) (pc := 1) dX12_seeks_1 rfl rfl ?_
  refine pw_pI (x := 39) (pc := 2) dX12_seeks_2 fX12_428 (im_mo_ hM) k_mo_ rfl rfl (by first | omega) ?_
  obtain ⟨g2, e2⟩ : ∃ x, x = up_ h mo_ 39 so := ⟨_, rfl⟩
  refine pw_heq e2 ?_
  refine pw_aload_n (z := mo_) (pc := 5) dX12_seeks_5 rfl rfl ?_
  refine pw_iload_n (z := mm) (pc := 6) dX12_seeks_6 rfl rfl ?_
  refine pw_pI (x := 40) (pc := 7) dX12_seeks_7 fX12_452 (im_mo_ hM) k_mo_ rfl rfl (by first | omega) ?_
  obtain ⟨g7, e7⟩ : ∃ x, x = up_ g2 mo_ 40 mm := ⟨_, rfl⟩
  refine pw_heq e7 ?_
  refine pw_aload_n (z := mo_) (pc := 10) dX12_seeks_10 rfl rfl ?_
  refine pw_iconst (pc := 11) dX12_seeks_11 ?_
  refine pw_pZ (x := 41) (pc := 12) dX12_seeks_12 fX12_437 (im_mo_ hM) k_mo_ rfl rfl (by first | omega) ?_
  obtain ⟨g12, e12⟩ : ∃ x, x = up_ g7 mo_ 41 0 := ⟨_, rfl⟩
  refine pw_heq e12 ?_
  refine pw_aload_n (z := mo_) (pc := 15) dX12_seeks_15 rfl rfl ?_
  refine pw_getR (r := mMoves) (pc := 16) dX12_seeks_16 fX12_155 (im_mo_ hM) k_mo_ rfl fr_mMoves ?_
  refine pw_iconst (pc := 19) dX12_seeks_19 ?_
  refine pw_iconst (pc := 20) dX12_seeks_20 ?_
  refine pw_iast (pc := 21) dX12_seeks_21 (im_mMoves hM) k_mMoves 5 l_mMoves (by first | omega) (by first | omega) (by first | omega) (by first | omega) ?_
  obtain ⟨g21, e21⟩ : ∃ x, x = up_ g12 mMoves 0 0 := ⟨_, rfl⟩
  refine pw_heq e21 ?_
  refine pw_iconst (pc := 22) dX12_seeks_22 ?_
  refine pw_istore_n (lv1 := [some (rr_ G mo_), some (ii_ so), some (ii_ mm), some (ii_ 0)]) (pc := 23) dX12_seeks_23 rfl (by decide) rfl rfl ?_
  have L24 : ∀ (nn : Nat) (r : Int) (a1 : PH_), (0 ≤ r ∧ r ≤ 4) → (off_ [mTotals] g21 a1) → (∀ x, 0 ≤ x → x < r → a1 mTotals x = h mPasts x) → ((4 - r + 1 : Int) ≤ nn) → PW G RX12 cX12_seeks 4 (some .boolean) (rm_ 10) 0 0 (zm_ G (qi_ (fun z h' => off_ [mMoves, mRow, mTotals, mBestRow, mBestTotals, mo_] h h' ∧ (∀ k, k ≠ 39 → k ≠ 40 → k ≠ 41 → k ≠ 42 → k ≠ 43 → h' mo_ k = h mo_ k) ∧ z = h' mo_ 41 ∧ bst_ (h mRoads 1) (h mRoads 2) h' (skb_ (h mRoads) P so mm (h mPasts))))) 24 [some (rr_ G mo_), some (ii_ so), some (ii_ mm), some (ii_ r)] [] a1 := by
    intro nn
    induction nn with
    | zero => intro r a1 bk bf bt ams; exfalso; omega
    | succ nn ih24 =>
      intro r a1 bk bf bt ams
      refine pw_iload_n (z := r) (pc := 24) dX12_seeks_24 rfl rfl ?_
      refine pw_iconst (pc := 25) dX12_seeks_25 ?_
      refine pw_icmp_ge (t := 47) (pc := 26) dX12_seeks_26 (by decide) (by first | omega) (by first | omega) (fun c26 => ?_) (fun c26 => ?_)
      · have q1 : a1 mRoads = h mRoads := by rw [bf mRoads (by decide), e21, up_off (by decide), e12, up_off (by decide), e7, up_off (by decide), e2, up_off (by decide)]
        have q2 : a1 mo_ = ob_ (ob_ (ob_ (h mo_) 39 so) 40 mm) 41 0 := by rw [bf mo_ (by decide), e21, up_off (by decide), e12, up_ob, e7, up_ob, e2, up_ob]
        have q3 : a1 mo_ 39 = so := by rw [q2]; rfl
        have q4 : a1 mo_ 40 = mm := by rw [q2]; rfl
        have q5 : a1 mMoves 0 = 0 := by rw [bf mMoves (by decide), e21, up_same]
        have ko : ∀ k, k ≠ 39 → k ≠ 40 → k ≠ 41 → a1 mo_ k = h mo_ k := fun k k1 k2 k3 => by rw [q2]; unfold ob_; rw [if_neg k3, if_neg k2, if_neg k1]
        have kf : off_ [mMoves, mRow, mTotals, mBestRow, mBestTotals, mo_] h a1 := off_tr (by rw [e21, e12, e7, e2]; exact off_up (off_up (off_up (off_up off_rf (by decide)) (by decide)) (by decide)) (by decide)) (off_mo bf (by decide))
        have r4 : r = 4 := by omega
        have pr : gpr_ P (h mRoads 1).toNat 0 a1 none := by
          refine ⟨by rw [q1]; exact hS, by rw [q1]; exact hR1, by rw [q1]; exact hT, by rw [q1]; exact h4, ?_, by rw [q1]; omega, by rw [q5]; omega, by rw [q4]; exact hmm, fun k k0 k1 => by omega, fun q q0 q1' => ?_, by show a1 mo_ 41 = 0; rw [q2]; rfl⟩
          · rw [q1]; exact fpl_mv (kf mLawfuls (by decide)) (kf mWorths (by decide)) (kf mChanges (by decide)) (ko 32 (by decide) (by decide) (by decide)) hf
          · rw [q1] at q1'; rw [show 4 * (0 : Int) + q = q by omega, bt q q0 (by omega)]; have := hpa q q0 q1'; omega
        refine pw_aload_n (z := mo_) (pc := 47) dX12_seeks_47 rfl rfl ?_
        refine pw_iconst (pc := 48) dX12_seeks_48 ?_
        refine pw_callV (c := 12) (o := mo_) (As := [ii_ 0]) (rest := []) (pc := 49) dX12_seeks_49 (c_goes hM P (h mRoads 1).toNat a1 0 none pr) lX12_455 mX12_goesThrough vX12_goesThrough (im_mo_ hM) k_mo_ rfl rfl rfl ⟨by show 5 + (h mRoads 1).toNat + 1 ≤ 10; omega, by show 19 + 5 + 60 * (5 + (h mRoads 1).toNat) ≤ 60 * 10; omega⟩ ⟨Nat.zero_le _, Nat.zero_le _⟩ (Nat.le_of_ble_eq_true rfl) (k_v (fun h49 q49 => ?_))
        obtain ⟨i1, i2, i3, i4, i5, i7⟩ := q49
        have b01 := bst_01 i7
        refine pw_aload_n (z := mo_) (pc := 52) dX12_seeks_52 rfl rfl ?_
        refine pw_gI (x := 41) (pc := 53) dX12_seeks_53 fX12_437 (im_mo_ hM) k_mo_ rfl rfl (fun r53 => ?_)
        exact pw_zret (pc := 56) dX12_seeks_56 (by first | omega) (by
                  refine ⟨off_tr kf i1, fun k k1 k2 k3 k4 k5 => by rw [i2 k k3 k4 k5]; exact ko k k1 k2 k3, rfl, ?_⟩
                  rw [q1, q3, q4, q5] at i7
                  unfold skb_
                  rw [gtr_cg (h mRoads 1).toNat (row' := a1 mRow) (tot' := fun r => a1 mTotals (4 * 0 + r)) (by omega) (fun j j0 j1 => by omega) (fun r r0 r1 => by show h mPasts r = a1 mTotals (4 * 0 + r); rw [show 4 * (0 : Int) + r = r by omega, bt r r0 (by omega)])]
                  exact i7)
      · refine pw_aload_n (z := mo_) (pc := 29) dX12_seeks_29 rfl rfl ?_
        refine pw_getR (r := mTotals) (pc := 30) dX12_seeks_30 fX12_152 (im_mo_ hM) k_mo_ rfl fr_mTotals ?_
        refine pw_iload_n (z := r) (pc := 33) dX12_seeks_33 rfl rfl ?_
        refine pw_aload_n (z := mo_) (pc := 34) dX12_seeks_34 rfl rfl ?_
        refine pw_getR (r := mPasts) (pc := 35) dX12_seeks_35 fX12_158 (im_mo_ hM) k_mo_ rfl fr_mPasts ?_
        refine pw_iload_n (z := r) (pc := 38) dX12_seeks_38 rfl rfl ?_
        refine pw_iald (pc := 39) dX12_seeks_39 (im_mPasts hM) k_mPasts 4 l_mPasts (by first | omega) (by first | omega) (by first | omega) (fun r39 => ?_)
        have n_a1_mPasts : a1 mPasts = h mPasts := (((((show a1 mPasts = g21 mPasts from (bf mPasts (by decide))).trans (show g21 mPasts = g12 mPasts from (by rw [e21]; exact up_off (by decide)))).trans (show g12 mPasts = g7 mPasts from (by rw [e12]; exact up_off (by decide)))).trans (show g7 mPasts = g2 mPasts from (by rw [e7]; exact up_off (by decide)))).trans (show g2 mPasts = h mPasts from (by rw [e2]; exact up_off (by decide))))
        rw [n_a1_mPasts] at r39 ⊢
        refine pw_iast (pc := 40) dX12_seeks_40 (im_mTotals hM) k_mTotals 20 l_mTotals (by first | omega | (simp only [n_a1_mPasts]; omega)) (by first | omega | (simp only [n_a1_mPasts]; omega)) (by first | omega | (simp only [n_a1_mPasts]; omega)) (by first | omega | (simp only [n_a1_mPasts]; omega)) ?_
        obtain ⟨g40, e40⟩ : ∃ x, x = up_ a1 mTotals r (h mPasts r) := ⟨_, rfl⟩
        refine pw_heq e40 ?_
        refine pw_iinc (z := r) (lv1 := [some (rr_ G mo_), some (ii_ so), some (ii_ mm), some (ii_ (r + 1))]) (pc := 41) dX12_seeks_41 rfl (by decide) rfl rfl ?_
        refine pw_goto (t := 24) (pc := 44) dX12_seeks_44 (by decide) ?_
        exact ih24 _ _ (by omega) (by rw [e40]; exact off_up bf (by decide)) (fun x x0 x1 => by rw [e40, up_at]; by_cases c : x = r; exact (by rw [if_pos c, c]); exact (by rw [if_neg c]; exact bt x x0 (by omega))) (by omega)
  exact L24 _ _ _ (by omega) (off_rf) (fun x _ _ => by omega) (Int.self_le_toNat _)

set_option maxHeartbeats 4000000 in
set_option maxRecDepth 100000 in
theorem c_evenest {G : GT_} (hM : okM_ G) (h : PH_) (hS : 2 ≤ h mRoads 0 ∧ h mRoads 0 ≤ 4) (hR : 0 ≤ h mRoads 2 ∧ h mRoads 2 ≤ h mRoads 0) (hT : 0 ≤ h mRoads 1 ∧ h mRoads 1 ≤ 4) (h4 : 0 ≤ h mRoads 4 ∧ h mRoads 4 ≤ 99) (hpa : ∀ r, 0 ≤ r → r < 4 → 0 ≤ h mRoads (31 + 4 * r + 2) ∧ h mRoads (31 + 4 * r + 2) ≤ 9999) (P : List (Int × Int)) (hw : 0 ≤ h mRoads 5 → law_ (h mOp) (h mArg) (h mRoads 5) P) (m w : Int) (h1 : ir_ m) (h2 : ir_ w) : PC G yX12_evenest cX12_evenest 3 (some .int) 11 [rr_ G mo_, ii_ m, ii_ w] h (qi_ (fun z h' => off_ [mLawfuls, mWorths, mChanges, mPasts, mSits, mFacts, mPile, mMoves, mRow, mTotals, mBestRow, mBestTotals, mo_] h h' ∧ (∀ k, k ≠ 0 → k ≠ 32 → k ≠ 39 → k ≠ 40 → k ≠ 41 → k ≠ 42 → k ≠ 43 → h' mo_ k = h mo_ k) ∧ h' mo_ 0 = 0 ∧ z = evn_ (h mRoads) P m w)) := by
  refine PC.of (lv := [some (rr_ G mo_), some (ii_ m), some (ii_ w)]) (by decide +kernel) (Nat.le_of_ble_eq_true rfl) rfl rfl ?_
  refine pw_aload_n (z := mo_) (pc := 0) dX12_evenest_0 rfl rfl ?_
  refine pw_iconst (pc := 1) dX12_evenest_1 ?_
  refine pw_pI (x := 0) (pc := 2) dX12_evenest_2 fX12_1 (im_mo_ hM) k_mo_ rfl rfl (by first | omega) ?_
  obtain ⟨g2, e2⟩ : ∃ x, x = up_ h mo_ 0 0 := ⟨_, rfl⟩
  refine pw_heq e2 ?_
  refine pw_aload_n (z := mo_) (pc := 5) dX12_evenest_5 rfl rfl ?_
  have n_g2_mRoads : g2 mRoads = h mRoads := (by rw [e2]; exact up_off (by decide))
  refine pw_callV (c := 12) (o := mo_) (As := []) (rest := []) (pc := 6) dX12_evenest_6 (c_findPlans hM g2 (by first | omega | (simp only [n_g2_mRoads]; omega)) (by first | omega | (simp only [n_g2_mRoads]; omega)) (by first | omega | (simp only [n_g2_mRoads]; omega)) P (by rw [e2, up_off (by decide), up_off (by decide), up_off (by decide)]; exact hw)) lX12_458 mX12_findPlans vX12_findPlans (im_mo_ hM) k_mo_ rfl rfl rfl (by decide) ⟨Nat.zero_le _, Nat.zero_le _⟩ (Nat.le_of_ble_eq_true rfl) (k_v (fun h6 q6 => ?_))
  obtain ⟨f6, o6, l6, p6⟩ := q6
  have n6 : h6 mRoads = h mRoads := by rw [f6 mRoads (by decide), e2, up_off (by decide)]
  rw [show g2 mRoads = h mRoads by rw [e2, up_off (by decide)]] at l6 p6
  refine pw_iload_n (z := m) (pc := 9) dX12_evenest_9 rfl rfl ?_
  refine pw_iconst (pc := 10) dX12_evenest_10 ?_
  refine pw_bipush (pc := 11) dX12_evenest_11 rfl ?_
  refine pw_callS (As := [ii_ m, ii_ 0, ii_ 12]) (rest := []) (pc := 13) dX12_evenest_13 (c_within h6 (m) (0) (12) (by first | omega | (simp only [n_g2_mRoads]; omega)) (by first | omega | (simp only [n_g2_mRoads]; omega)) (by first | omega | (simp only [n_g2_mRoads]; omega))) lX12_308 mX12_within sX12_within rfl rfl (by decide) ⟨Nat.zero_le _, Nat.zero_le _⟩ (Nat.le_of_ble_eq_true rfl) (k_i (fun z13 h13 y13 q13 => ?_))
  obtain ⟨rfl, ⟨rfl, p13⟩ | ⟨rfl, p13⟩⟩ := q13
  · refine pw_if_eq (t := 49) (pc := 16) dX12_evenest_16 (by decide) (by first | omega | (simp only [n_g2_mRoads]; omega)) (fun c16 => absurd c16 (by decide)) (fun _ => ?_)
    refine pw_iload_n (z := w) (pc := 19) dX12_evenest_19 rfl rfl ?_
    refine pw_iconst (pc := 20) dX12_evenest_20 ?_
    refine pw_iconst (pc := 21) dX12_evenest_21 ?_
    refine pw_aload_n (z := mo_) (pc := 22) dX12_evenest_22 rfl rfl ?_
    refine pw_callV (c := 12) (o := mo_) (As := []) (rest := [ii_ 1, ii_ 0, ii_ w]) (pc := 23) dX12_evenest_23 (c_stretches hM h6) lX12_368 mX12_stretches vX12_stretches (im_mo_ hM) k_mo_ rfl rfl rfl (by decide) ⟨Nat.zero_le _, Nat.zero_le _⟩ (Nat.le_of_ble_eq_true rfl) (k_i (fun z23 h23 y23 q23 => ?_))
    obtain ⟨rfl, rfl⟩ := q23
    have n_h6_mRoads : h6 mRoads = h mRoads := ((show h6 mRoads = g2 mRoads from (f6 mRoads (by decide))).trans (show g2 mRoads = h mRoads from (by rw [e2]; exact up_off (by decide))))
    rw [n_h6_mRoads] at y23 ⊢
    refine pw_iadd (pc := 26) dX12_evenest_26 ?_
    refine pw_callS (As := [ii_ w, ii_ 0, ii_ (1 + (h mRoads 1))]) (rest := []) (pc := 27) dX12_evenest_27 (c_within h6 (w) (0) (1 + (h mRoads 1)) (by first | omega | (simp only [n_g2_mRoads, n_h6_mRoads]; omega)) (by first | omega | (simp only [n_g2_mRoads, n_h6_mRoads]; omega)) (by first | omega | (simp only [n_g2_mRoads, n_h6_mRoads]; omega))) lX12_308 mX12_within sX12_within rfl rfl (by decide) ⟨Nat.zero_le _, Nat.zero_le _⟩ (Nat.le_of_ble_eq_true rfl) (k_i (fun z27 h27 y27 q27 => ?_))
    obtain ⟨rfl, ⟨rfl, p27⟩ | ⟨rfl, p27⟩⟩ := q27
    · simp -failIfUnchanged only [n_h6_mRoads] at p27
      refine pw_if_eq (t := 49) (pc := 30) dX12_evenest_30 (by decide) (by first | omega | (simp only [n_g2_mRoads, n_h6_mRoads]; omega)) (fun c30 => absurd c30 (by decide)) (fun _ => ?_)
      refine pw_aload_n (z := mo_) (pc := 33) dX12_evenest_33 rfl rfl ?_
      refine pw_callV (c := 12) (o := mo_) (As := []) (rest := []) (pc := 34) dX12_evenest_34 (c_riders hM h6) lX12_334 mX12_riders vX12_riders (im_mo_ hM) k_mo_ rfl rfl rfl (by decide) ⟨Nat.zero_le _, Nat.zero_le _⟩ (Nat.le_of_ble_eq_true rfl) (k_i (fun z34 h34 y34 q34 => ?_))
      obtain ⟨rfl, rfl⟩ := q34
      rw [n_h6_mRoads] at y34 ⊢
      refine pw_if_eq (t := 49) (pc := 37) dX12_evenest_37 (by decide) (by first | omega | (simp only [n_g2_mRoads, n_h6_mRoads]; omega)) (fun c37 => ?_) (fun c37 => ?_)
      · refine pw_iconst (pc := 49) dX12_evenest_49 ?_
        exact pw_iret (pc := 50) dX12_evenest_50 (by first | omega | (simp only [n_g2_mRoads, n_h6_mRoads]; omega)) (by
                  have k2 : off_ [mLawfuls, mWorths, mChanges, mPasts, mSits, mFacts, mPile, mMoves, mRow, mTotals, mBestRow, mBestTotals, mo_] h g2 := by rw [e2]; exact off_up off_rf (by decide)
                  have k6 : off_ [mLawfuls, mWorths, mChanges, mPasts, mSits, mFacts, mPile, mMoves, mRow, mTotals, mBestRow, mBestTotals, mo_] h h6 := off_tr k2 (off_mo f6 (by decide))
                  have k7 : ∀ k, k ≠ 0 → k ≠ 32 → h6 mo_ k = h mo_ k := fun k x0 x1 => by rw [o6 k x1, e2, up_at, if_neg x0]
                  have k8 : h6 mo_ 0 = 0 := by rw [o6 0 (by decide), e2, up_same]
                  first
                  | (refine ⟨off_tr k6 (off_mo f43 (by decide)), fun k x0 x1 x2 x3 x4 x5 x6 => by rw [o43 k x2 x3 x4 x5 x6]; exact k7 k x0 x1, by rw [o43 0 (by decide) (by decide) (by decide) (by decide) (by decide)]; exact k8, ?_⟩
                     rw [en]
                     cases BB with
                     | none => first | rfl | (exfalso; have b4 : h43 mo_ 41 = 0 := bs; omega)
                     | some q =>
                       obtain ⟨b1, b2, b3, b4, b5⟩ := bs
                       first
                       | (exfalso; omega)
                       | (show _ = (if w = 0 then q.1 else _); rw [if_pos (by omega)]; exact b2)
                       | (show _ = (if w = 0 then q.1 else if w = 1 then q.2.1 else q.2.2.1 (w - 2)); rw [if_neg (by omega), if_pos (by omega)]; exact b3)
                       | (show _ = (if w = 0 then q.1 else if w = 1 then q.2.1 else q.2.2.1 (w - 2)); rw [if_neg (by omega), if_neg (by omega)]; exact b4 (w - 2) (by omega) (by omega)))
                  | exact ⟨k6, fun k x0 x1 _ _ _ _ _ => k7 k x0 x1, k8, (if_f (fun c => by omega)).symm⟩)
      · refine pw_aload_n (z := mo_) (pc := 40) dX12_evenest_40 rfl rfl ?_
        refine pw_iconst (pc := 41) dX12_evenest_41 ?_
        refine pw_iload_n (z := m) (pc := 42) dX12_evenest_42 rfl rfl ?_
        refine pw_callV (c := 12) (o := mo_) (As := [ii_ 0, ii_ m]) (rest := []) (pc := 43) dX12_evenest_43 (c_seeks hM h6 (by rw [n6]; exact hS) (by rw [n6]; omega) (by rw [n6]; exact hT) (by rw [n6]; exact h4) P (by rw [n6]; exact l6) 0 m (by first | omega | (simp only [n_g2_mRoads, n_h6_mRoads]; omega)) (by first | omega | (simp only [n_g2_mRoads, n_h6_mRoads]; omega)) (fun r r0 r1 => by rw [n6] at r1; rw [p6 r r0 (by first | omega | (simp only [n_g2_mRoads, n_h6_mRoads]; omega))]; have := hpa r r0 (by first | omega | (simp only [n_g2_mRoads, n_h6_mRoads]; omega)); omega)) lX12_461 mX12_seeks vX12_seeks (im_mo_ hM) k_mo_ rfl rfl rfl (by decide) ⟨Nat.zero_le _, Nat.zero_le _⟩ (Nat.le_of_ble_eq_true rfl) (k_i (fun z43 h43 y43 q43 => ?_))
        obtain ⟨f43, o43, w43, bs⟩ := q43
        rw [n6, skb_cg (pb := pas_ (h mRoads)) hT.1 (fun r r0 r1 => p6 r r0 (by omega))] at bs
        have b01 := bst_01 bs
        have v42 := bst_v bs (fun q hq => skb_vb (by omega) h4 hT (fun r r0 r1 => by show -500000 ≤ h mRoads (31 + 4 * r + 2) ∧ h mRoads (31 + 4 * r + 2) ≤ 500000; have := hpa r r0 (by omega); omega) hq)
        have en : evn_ (h mRoads) P m w = evq_ w (skb_ (h mRoads) P 0 m (pas_ (h mRoads))) := if_t ⟨by omega, by omega, by omega⟩
        generalize skb_ (h mRoads) P 0 m (pas_ (h mRoads)) = BB at bs en
        refine pw_if_ne (t := 51) (pc := 46) dX12_evenest_46 (by decide) (by first | omega | (simp only [n_g2_mRoads, n_h6_mRoads]; omega)) (fun c46 => ?_) (fun c46 => ?_)
        · refine pw_iload_n (z := w) (pc := 51) dX12_evenest_51 rfl rfl ?_
          refine pw_if_ne (t := 62) (pc := 52) dX12_evenest_52 (by decide) (by first | omega | (simp only [n_g2_mRoads, n_h6_mRoads]; omega)) (fun c52 => ?_) (fun c52 => ?_)
          · refine pw_iload_n (z := w) (pc := 62) dX12_evenest_62 rfl rfl ?_
            refine pw_iconst (pc := 63) dX12_evenest_63 ?_
            refine pw_icmp_ne (t := 74) (pc := 64) dX12_evenest_64 (by decide) (by first | omega | (simp only [n_g2_mRoads, n_h6_mRoads]; omega)) (by first | omega | (simp only [n_g2_mRoads, n_h6_mRoads]; omega)) (fun c64 => ?_) (fun c64 => ?_)
            · refine pw_aload_n (z := mo_) (pc := 74) dX12_evenest_74 rfl rfl ?_
              refine pw_getR (r := mBestRow) (pc := 75) dX12_evenest_75 fX12_161 (im_mo_ hM) k_mo_ rfl fr_mBestRow ?_
              refine pw_iload_n (z := w) (pc := 78) dX12_evenest_78 rfl rfl ?_
              refine pw_iconst (pc := 79) dX12_evenest_79 ?_
              refine pw_isub (pc := 80) dX12_evenest_80 ?_
              refine pw_iald (pc := 81) dX12_evenest_81 (im_mBestRow hM) k_mBestRow 5 l_mBestRow (by first | omega | (simp only [n_g2_mRoads, n_h6_mRoads]; omega)) (by first | omega | (simp only [n_g2_mRoads, n_h6_mRoads]; omega)) (by first | omega | (simp only [n_g2_mRoads, n_h6_mRoads]; omega)) (fun r81 => ?_)
              exact pw_iret (pc := 82) dX12_evenest_82 (by first | omega | (simp only [n_g2_mRoads, n_h6_mRoads]; omega)) (by
                        have k2 : off_ [mLawfuls, mWorths, mChanges, mPasts, mSits, mFacts, mPile, mMoves, mRow, mTotals, mBestRow, mBestTotals, mo_] h g2 := by rw [e2]; exact off_up off_rf (by decide)
                        have k6 : off_ [mLawfuls, mWorths, mChanges, mPasts, mSits, mFacts, mPile, mMoves, mRow, mTotals, mBestRow, mBestTotals, mo_] h h6 := off_tr k2 (off_mo f6 (by decide))
                        have k7 : ∀ k, k ≠ 0 → k ≠ 32 → h6 mo_ k = h mo_ k := fun k x0 x1 => by rw [o6 k x1, e2, up_at, if_neg x0]
                        have k8 : h6 mo_ 0 = 0 := by rw [o6 0 (by decide), e2, up_same]
                        first
                        | (refine ⟨off_tr k6 (off_mo f43 (by decide)), fun k x0 x1 x2 x3 x4 x5 x6 => by rw [o43 k x2 x3 x4 x5 x6]; exact k7 k x0 x1, by rw [o43 0 (by decide) (by decide) (by decide) (by decide) (by decide)]; exact k8, ?_⟩
                           rw [en]
                           cases BB with
                           | none => first | rfl | (exfalso; have b4 : h43 mo_ 41 = 0 := bs; omega)
                           | some q =>
                             obtain ⟨b1, b2, b3, b4, b5⟩ := bs
                             first
                             | (exfalso; omega)
                             | (show _ = (if w = 0 then q.1 else _); rw [if_pos (by omega)]; exact b2)
                             | (show _ = (if w = 0 then q.1 else if w = 1 then q.2.1 else q.2.2.1 (w - 2)); rw [if_neg (by omega), if_pos (by omega)]; exact b3)
                             | (show _ = (if w = 0 then q.1 else if w = 1 then q.2.1 else q.2.2.1 (w - 2)); rw [if_neg (by omega), if_neg (by omega)]; exact b4 (w - 2) (by omega) (by omega)))
                        | exact ⟨k6, fun k x0 x1 _ _ _ _ _ => k7 k x0 x1, k8, (if_f (fun c => by omega)).symm⟩)
            · refine pw_aload_n (z := mo_) (pc := 67) dX12_evenest_67 rfl rfl ?_
              refine pw_gI (x := 43) (pc := 68) dX12_evenest_68 fX12_443 (im_mo_ hM) k_mo_ rfl rfl (fun r68 => ?_)
              refine pw_goto (t := 82) (pc := 71) dX12_evenest_71 (by decide) ?_
              exact pw_iret (pc := 82) dX12_evenest_82 (by first | omega | (simp only [n_g2_mRoads, n_h6_mRoads]; omega)) (by
                        have k2 : off_ [mLawfuls, mWorths, mChanges, mPasts, mSits, mFacts, mPile, mMoves, mRow, mTotals, mBestRow, mBestTotals, mo_] h g2 := by rw [e2]; exact off_up off_rf (by decide)
                        have k6 : off_ [mLawfuls, mWorths, mChanges, mPasts, mSits, mFacts, mPile, mMoves, mRow, mTotals, mBestRow, mBestTotals, mo_] h h6 := off_tr k2 (off_mo f6 (by decide))
                        have k7 : ∀ k, k ≠ 0 → k ≠ 32 → h6 mo_ k = h mo_ k := fun k x0 x1 => by rw [o6 k x1, e2, up_at, if_neg x0]
                        have k8 : h6 mo_ 0 = 0 := by rw [o6 0 (by decide), e2, up_same]
                        first
                        | (refine ⟨off_tr k6 (off_mo f43 (by decide)), fun k x0 x1 x2 x3 x4 x5 x6 => by rw [o43 k x2 x3 x4 x5 x6]; exact k7 k x0 x1, by rw [o43 0 (by decide) (by decide) (by decide) (by decide) (by decide)]; exact k8, ?_⟩
                           rw [en]
                           cases BB with
                           | none => first | rfl | (exfalso; have b4 : h43 mo_ 41 = 0 := bs; omega)
                           | some q =>
                             obtain ⟨b1, b2, b3, b4, b5⟩ := bs
                             first
                             | (exfalso; omega)
                             | (show _ = (if w = 0 then q.1 else _); rw [if_pos (by omega)]; exact b2)
                             | (show _ = (if w = 0 then q.1 else if w = 1 then q.2.1 else q.2.2.1 (w - 2)); rw [if_neg (by omega), if_pos (by omega)]; exact b3)
                             | (show _ = (if w = 0 then q.1 else if w = 1 then q.2.1 else q.2.2.1 (w - 2)); rw [if_neg (by omega), if_neg (by omega)]; exact b4 (w - 2) (by omega) (by omega)))
                        | exact ⟨k6, fun k x0 x1 _ _ _ _ _ => k7 k x0 x1, k8, (if_f (fun c => by omega)).symm⟩)
          · refine pw_aload_n (z := mo_) (pc := 55) dX12_evenest_55 rfl rfl ?_
            refine pw_gI (x := 42) (pc := 56) dX12_evenest_56 fX12_440 (im_mo_ hM) k_mo_ rfl rfl (fun r56 => ?_)
            refine pw_goto (t := 82) (pc := 59) dX12_evenest_59 (by decide) ?_
            exact pw_iret (pc := 82) dX12_evenest_82 (by first | omega | (simp only [n_g2_mRoads, n_h6_mRoads]; omega)) (by
                      have k2 : off_ [mLawfuls, mWorths, mChanges, mPasts, mSits, mFacts, mPile, mMoves, mRow, mTotals, mBestRow, mBestTotals, mo_] h g2 := by rw [e2]; exact off_up off_rf (by decide)
                      have k6 : off_ [mLawfuls, mWorths, mChanges, mPasts, mSits, mFacts, mPile, mMoves, mRow, mTotals, mBestRow, mBestTotals, mo_] h h6 := off_tr k2 (off_mo f6 (by decide))
                      have k7 : ∀ k, k ≠ 0 → k ≠ 32 → h6 mo_ k = h mo_ k := fun k x0 x1 => by rw [o6 k x1, e2, up_at, if_neg x0]
                      have k8 : h6 mo_ 0 = 0 := by rw [o6 0 (by decide), e2, up_same]
                      first
                      | (refine ⟨off_tr k6 (off_mo f43 (by decide)), fun k x0 x1 x2 x3 x4 x5 x6 => by rw [o43 k x2 x3 x4 x5 x6]; exact k7 k x0 x1, by rw [o43 0 (by decide) (by decide) (by decide) (by decide) (by decide)]; exact k8, ?_⟩
                         rw [en]
                         cases BB with
                         | none => first | rfl | (exfalso; have b4 : h43 mo_ 41 = 0 := bs; omega)
                         | some q =>
                           obtain ⟨b1, b2, b3, b4, b5⟩ := bs
                           first
                           | (exfalso; omega)
                           | (show _ = (if w = 0 then q.1 else _); rw [if_pos (by omega)]; exact b2)
                           | (show _ = (if w = 0 then q.1 else if w = 1 then q.2.1 else q.2.2.1 (w - 2)); rw [if_neg (by omega), if_pos (by omega)]; exact b3)
                           | (show _ = (if w = 0 then q.1 else if w = 1 then q.2.1 else q.2.2.1 (w - 2)); rw [if_neg (by omega), if_neg (by omega)]; exact b4 (w - 2) (by omega) (by omega)))
                      | exact ⟨k6, fun k x0 x1 _ _ _ _ _ => k7 k x0 x1, k8, (if_f (fun c => by omega)).symm⟩)
        · refine pw_iconst (pc := 49) dX12_evenest_49 ?_
          exact pw_iret (pc := 50) dX12_evenest_50 (by first | omega | (simp only [n_g2_mRoads, n_h6_mRoads]; omega)) (by
                    have k2 : off_ [mLawfuls, mWorths, mChanges, mPasts, mSits, mFacts, mPile, mMoves, mRow, mTotals, mBestRow, mBestTotals, mo_] h g2 := by rw [e2]; exact off_up off_rf (by decide)
                    have k6 : off_ [mLawfuls, mWorths, mChanges, mPasts, mSits, mFacts, mPile, mMoves, mRow, mTotals, mBestRow, mBestTotals, mo_] h h6 := off_tr k2 (off_mo f6 (by decide))
                    have k7 : ∀ k, k ≠ 0 → k ≠ 32 → h6 mo_ k = h mo_ k := fun k x0 x1 => by rw [o6 k x1, e2, up_at, if_neg x0]
                    have k8 : h6 mo_ 0 = 0 := by rw [o6 0 (by decide), e2, up_same]
                    first
                    | (refine ⟨off_tr k6 (off_mo f43 (by decide)), fun k x0 x1 x2 x3 x4 x5 x6 => by rw [o43 k x2 x3 x4 x5 x6]; exact k7 k x0 x1, by rw [o43 0 (by decide) (by decide) (by decide) (by decide) (by decide)]; exact k8, ?_⟩
                       rw [en]
                       cases BB with
                       | none => first | rfl | (exfalso; have b4 : h43 mo_ 41 = 0 := bs; omega)
                       | some q =>
                         obtain ⟨b1, b2, b3, b4, b5⟩ := bs
                         first
                         | (exfalso; omega)
                         | (show _ = (if w = 0 then q.1 else _); rw [if_pos (by omega)]; exact b2)
                         | (show _ = (if w = 0 then q.1 else if w = 1 then q.2.1 else q.2.2.1 (w - 2)); rw [if_neg (by omega), if_pos (by omega)]; exact b3)
                         | (show _ = (if w = 0 then q.1 else if w = 1 then q.2.1 else q.2.2.1 (w - 2)); rw [if_neg (by omega), if_neg (by omega)]; exact b4 (w - 2) (by omega) (by omega)))
                    | exact ⟨k6, fun k x0 x1 _ _ _ _ _ => k7 k x0 x1, k8, (if_f (fun c => by omega)).symm⟩)
    · simp -failIfUnchanged only [n_h6_mRoads] at p27
      refine pw_if_eq (t := 49) (pc := 30) dX12_evenest_30 (by decide) (by first | omega | (simp only [n_g2_mRoads, n_h6_mRoads]; omega)) (fun _ => ?_) (fun c30 => absurd c30 (by decide))
      refine pw_iconst (pc := 49) dX12_evenest_49 ?_
      exact pw_iret (pc := 50) dX12_evenest_50 (by first | omega | (simp only [n_g2_mRoads, n_h6_mRoads]; omega)) (by
                have k2 : off_ [mLawfuls, mWorths, mChanges, mPasts, mSits, mFacts, mPile, mMoves, mRow, mTotals, mBestRow, mBestTotals, mo_] h g2 := by rw [e2]; exact off_up off_rf (by decide)
                have k6 : off_ [mLawfuls, mWorths, mChanges, mPasts, mSits, mFacts, mPile, mMoves, mRow, mTotals, mBestRow, mBestTotals, mo_] h h6 := off_tr k2 (off_mo f6 (by decide))
                have k7 : ∀ k, k ≠ 0 → k ≠ 32 → h6 mo_ k = h mo_ k := fun k x0 x1 => by rw [o6 k x1, e2, up_at, if_neg x0]
                have k8 : h6 mo_ 0 = 0 := by rw [o6 0 (by decide), e2, up_same]
                first
                | (refine ⟨off_tr k6 (off_mo f43 (by decide)), fun k x0 x1 x2 x3 x4 x5 x6 => by rw [o43 k x2 x3 x4 x5 x6]; exact k7 k x0 x1, by rw [o43 0 (by decide) (by decide) (by decide) (by decide) (by decide)]; exact k8, ?_⟩
                   rw [en]
                   cases BB with
                   | none => first | rfl | (exfalso; have b4 : h43 mo_ 41 = 0 := bs; omega)
                   | some q =>
                     obtain ⟨b1, b2, b3, b4, b5⟩ := bs
                     first
                     | (exfalso; omega)
                     | (show _ = (if w = 0 then q.1 else _); rw [if_pos (by omega)]; exact b2)
                     | (show _ = (if w = 0 then q.1 else if w = 1 then q.2.1 else q.2.2.1 (w - 2)); rw [if_neg (by omega), if_pos (by omega)]; exact b3)
                     | (show _ = (if w = 0 then q.1 else if w = 1 then q.2.1 else q.2.2.1 (w - 2)); rw [if_neg (by omega), if_neg (by omega)]; exact b4 (w - 2) (by omega) (by omega)))
                | exact ⟨k6, fun k x0 x1 _ _ _ _ _ => k7 k x0 x1, k8, (if_f (fun c => by omega)).symm⟩)
  · refine pw_if_eq (t := 49) (pc := 16) dX12_evenest_16 (by decide) (by first | omega | (simp only [n_g2_mRoads]; omega)) (fun _ => ?_) (fun c16 => absurd c16 (by decide))
    refine pw_iconst (pc := 49) dX12_evenest_49 ?_
    exact pw_iret (pc := 50) dX12_evenest_50 (by first | omega | (simp only [n_g2_mRoads]; omega)) (by
              have k2 : off_ [mLawfuls, mWorths, mChanges, mPasts, mSits, mFacts, mPile, mMoves, mRow, mTotals, mBestRow, mBestTotals, mo_] h g2 := by rw [e2]; exact off_up off_rf (by decide)
              have k6 : off_ [mLawfuls, mWorths, mChanges, mPasts, mSits, mFacts, mPile, mMoves, mRow, mTotals, mBestRow, mBestTotals, mo_] h h6 := off_tr k2 (off_mo f6 (by decide))
              have k7 : ∀ k, k ≠ 0 → k ≠ 32 → h6 mo_ k = h mo_ k := fun k x0 x1 => by rw [o6 k x1, e2, up_at, if_neg x0]
              have k8 : h6 mo_ 0 = 0 := by rw [o6 0 (by decide), e2, up_same]
              first
              | (refine ⟨off_tr k6 (off_mo f43 (by decide)), fun k x0 x1 x2 x3 x4 x5 x6 => by rw [o43 k x2 x3 x4 x5 x6]; exact k7 k x0 x1, by rw [o43 0 (by decide) (by decide) (by decide) (by decide) (by decide)]; exact k8, ?_⟩
                 rw [en]
                 cases BB with
                 | none => first | rfl | (exfalso; have b4 : h43 mo_ 41 = 0 := bs; omega)
                 | some q =>
                   obtain ⟨b1, b2, b3, b4, b5⟩ := bs
                   first
                   | (exfalso; omega)
                   | (show _ = (if w = 0 then q.1 else _); rw [if_pos (by omega)]; exact b2)
                   | (show _ = (if w = 0 then q.1 else if w = 1 then q.2.1 else q.2.2.1 (w - 2)); rw [if_neg (by omega), if_pos (by omega)]; exact b3)
                   | (show _ = (if w = 0 then q.1 else if w = 1 then q.2.1 else q.2.2.1 (w - 2)); rw [if_neg (by omega), if_neg (by omega)]; exact b4 (w - 2) (by omega) (by omega)))
              | exact ⟨k6, fun k x0 x1 _ _ _ _ _ => k7 k x0 x1, k8, (if_f (fun c => by omega)).symm⟩)

set_option maxHeartbeats 4000000 in
set_option maxRecDepth 100000 in
theorem c_most {G : GT_} (hM : okM_ G) (h : PH_) (hS : 2 ≤ h mRoads 0 ∧ h mRoads 0 ≤ 4) (hR : 0 ≤ h mRoads 2 ∧ h mRoads 2 ≤ h mRoads 0) (hT : 0 ≤ h mRoads 1 ∧ h mRoads 1 ≤ 4) (h4 : 0 ≤ h mRoads 4 ∧ h mRoads 4 ≤ 99) (hpa : ∀ r, 0 ≤ r → r < 4 → 0 ≤ h mRoads (31 + 4 * r + 2) ∧ h mRoads (31 + 4 * r + 2) ≤ 9999) (P : List (Int × Int)) (hw : 0 ≤ h mRoads 5 → law_ (h mOp) (h mArg) (h mRoads 5) P) (w : Int) (h1 : ir_ w) : PC G yX12_most cX12_most 2 (some .int) 11 [rr_ G mo_, ii_ w] h (qi_ (fun z h' => off_ [mLawfuls, mWorths, mChanges, mPasts, mSits, mFacts, mPile, mMoves, mRow, mTotals, mBestRow, mBestTotals, mo_] h h' ∧ (∀ k, k ≠ 0 → k ≠ 32 → k ≠ 39 → k ≠ 40 → k ≠ 41 → k ≠ 42 → k ≠ 43 → h' mo_ k = h mo_ k) ∧ h' mo_ 0 = (mst_ (h mRoads) P w).1 ∧ z = (mst_ (h mRoads) P w).2)) := by
  refine PC.of (lv := [some (rr_ G mo_), some (ii_ w)]) (by decide +kernel) (Nat.le_of_ble_eq_true rfl) rfl rfl ?_
  refine pw_aload_n (z := mo_) (pc := 0) dX12_most_0 rfl rfl ?_
  refine pw_callV (c := 12) (o := mo_) (As := []) (rest := []) (pc := 1) dX12_most_1 (c_findPlans hM h (by first | omega) (by first | omega) (by first | omega) P hw) lX12_458 mX12_findPlans vX12_findPlans (im_mo_ hM) k_mo_ rfl rfl rfl (by decide) ⟨Nat.zero_le _, Nat.zero_le _⟩ (Nat.le_of_ble_eq_true rfl) (k_v (fun h1 q1 => ?_))
  obtain ⟨f1, o1, l1, p1⟩ := q1
  have n6 : h1 mRoads = h mRoads := f1 mRoads (by decide)
  refine pw_aload_n (z := mo_) (pc := 4) dX12_most_4 rfl rfl ?_
  refine pw_iload_n (z := w) (pc := 5) dX12_most_5 rfl rfl ?_
  refine pw_iconst (pc := 6) dX12_most_6 ?_
  refine pw_aload_n (z := mo_) (pc := 7) dX12_most_7 rfl rfl ?_
  refine pw_callV (c := 12) (o := mo_) (As := []) (rest := [ii_ (-1), ii_ w, rr_ G mo_]) (pc := 8) dX12_most_8 (c_stretches hM h1) lX12_368 mX12_stretches vX12_stretches (im_mo_ hM) k_mo_ rfl rfl rfl (by decide) ⟨Nat.zero_le _, Nat.zero_le _⟩ (Nat.le_of_ble_eq_true rfl) (k_i (fun z8 h8 y8 q8 => ?_))
  obtain ⟨rfl, rfl⟩ := q8
  have n_h1_mRoads : h1 mRoads = h mRoads := (f1 mRoads (by decide))
  rw [n_h1_mRoads] at y8 ⊢
  refine pw_iconst (pc := 11) dX12_most_11 ?_
  refine pw_isub (pc := 12) dX12_most_12 ?_
  refine pw_callS (As := [ii_ w, ii_ (-1), ii_ ((h mRoads 1) - 1)]) (rest := [rr_ G mo_]) (pc := 13) dX12_most_13 (c_within h1 (w) (-1) ((h mRoads 1) - 1) (by first | omega | (simp only [n_h1_mRoads]; omega)) (by first | omega | (simp only [n_h1_mRoads]; omega)) (by first | omega | (simp only [n_h1_mRoads]; omega))) lX12_308 mX12_within sX12_within rfl rfl (by decide) ⟨Nat.zero_le _, Nat.zero_le _⟩ (Nat.le_of_ble_eq_true rfl) (k_i (fun z13 h13 y13 q13 => ?_))
  obtain ⟨rfl, ⟨rfl, p13⟩ | ⟨rfl, p13⟩⟩ := q13
  · simp -failIfUnchanged only [n_h1_mRoads] at p13
    refine pw_if_eq (t := 40) (pc := 16) dX12_most_16 (by decide) (by first | omega | (simp only [n_h1_mRoads]; omega)) (fun c16 => absurd c16 (by decide)) (fun _ => ?_)
    refine pw_aload_n (z := mo_) (pc := 19) dX12_most_19 rfl rfl ?_
    refine pw_callV (c := 12) (o := mo_) (As := []) (rest := [rr_ G mo_]) (pc := 20) dX12_most_20 (c_riders hM h1) lX12_334 mX12_riders vX12_riders (im_mo_ hM) k_mo_ rfl rfl rfl (by decide) ⟨Nat.zero_le _, Nat.zero_le _⟩ (Nat.le_of_ble_eq_true rfl) (k_i (fun z20 h20 y20 q20 => ?_))
    obtain ⟨rfl, rfl⟩ := q20
    rw [n_h1_mRoads] at y20 ⊢
    refine pw_if_le (t := 40) (pc := 23) dX12_most_23 (by decide) (by first | omega | (simp only [n_h1_mRoads]; omega)) (fun c23 => ?_) (fun c23 => ?_)
    · refine pw_iconst (pc := 40) dX12_most_40 ?_
      refine pw_pI (x := 0) (pc := 41) dX12_most_41 fX12_1 (im_mo_ hM) k_mo_ rfl rfl (by first | omega | (simp only [n_h1_mRoads]; omega)) ?_
      obtain ⟨g41, e41⟩ : ∃ x, x = up_ h1 mo_ 0 1 := ⟨_, rfl⟩
      refine pw_heq e41 ?_
      refine pw_aload_n (z := mo_) (pc := 44) dX12_most_44 rfl rfl ?_
      refine pw_gI (x := 0) (pc := 45) dX12_most_45 fX12_1 (im_mo_ hM) k_mo_ rfl rfl (fun r45 => ?_)
      rw [show g41 mo_ 0 = 1 from by rw [e41, up_same]] at r45 ⊢
      refine pw_if_le (t := 55) (pc := 48) dX12_most_48 (by decide) (by first | omega | (simp only [n_h1_mRoads]; omega)) (fun c48 => absurd c48 (by decide)) (fun _ => ?_)
      refine pw_iconst (pc := 51) dX12_most_51 ?_
      refine pw_goto (t := 73) (pc := 52) dX12_most_52 (by decide) ?_
      exact pw_iret (pc := 73) dX12_most_73 (by first | omega | (simp only [n_h1_mRoads]; omega)) (by
                have k6 : off_ [mLawfuls, mWorths, mChanges, mPasts, mSits, mFacts, mPile, mMoves, mRow, mTotals, mBestRow, mBestTotals, mo_] h h1 := off_mo f1 (by decide)
                first
                | (refine ⟨by rw [e41]; exact off_up (off_tr k6 (off_mo f30 (by decide))) (by decide), fun k x0 x1 x2 x3 x4 x5 x6 => by rw [e41, up_at, if_neg x0, o30 k x2 x3 x4 x5 x6]; exact o1 k x1, ?_⟩
                   rw [en, e41, up_same]
                   cases BB with
                   | none => first | exact ⟨rfl, rfl⟩ | (exfalso; have b4 : h30 mo_ 41 = 0 := bs; omega)
                   | some q =>
                     obtain ⟨b1, b2, b3, b4, b5⟩ := bs
                     first
                     | (exfalso; omega)
                     | (refine ⟨rfl, ?_⟩; show _ = (if w < 0 then -q.1 else q.2.2.1 (w)); rw [if_pos (by omega), b2])
                     | (refine ⟨rfl, ?_⟩; show _ = (if w < 0 then -q.1 else q.2.2.1 (w)); rw [if_neg (by omega)]; exact b4 _ (by omega) (by omega)))
                | (refine ⟨by rw [e41]; exact off_up k6 (by decide), fun k x0 x1 _ _ _ _ _ => by rw [e41, up_at, if_neg x0]; exact o1 k x1, ?_⟩
                   rw [show mst_ (h mRoads) P w = if_ _ _ _ from rfl, if_f (fun c => by omega), e41, up_same]; exact ⟨rfl, rfl⟩))
    · refine pw_aload_n (z := mo_) (pc := 26) dX12_most_26 rfl rfl ?_
      refine pw_iconst (pc := 27) dX12_most_27 ?_
      refine pw_bipush (pc := 28) dX12_most_28 rfl ?_
      refine pw_callV (c := 12) (o := mo_) (As := [ii_ 1, ii_ 12]) (rest := [rr_ G mo_]) (pc := 30) dX12_most_30 (c_seeks hM h1 (by rw [n6]; exact hS) (by rw [n6]; omega) (by rw [n6]; exact hT) (by rw [n6]; exact h4) P (by rw [n6]; exact l1) 1 12 (by first | omega | (simp only [n_h1_mRoads]; omega)) (by first | omega | (simp only [n_h1_mRoads]; omega)) (fun r r0 r1 => by rw [n6] at r1; rw [p1 r r0 (by first | omega | (simp only [n_h1_mRoads]; omega))]; have := hpa r r0 (by first | omega | (simp only [n_h1_mRoads]; omega)); omega)) lX12_461 mX12_seeks vX12_seeks (im_mo_ hM) k_mo_ rfl rfl rfl (by decide) ⟨Nat.zero_le _, Nat.zero_le _⟩ (Nat.le_of_ble_eq_true rfl) (k_i (fun z30 h30 y30 q30 => ?_))
      obtain ⟨f30, o30, w30, bs⟩ := q30
      rw [n6, skb_cg (pb := pas_ (h mRoads)) hT.1 (fun r r0 r1 => p1 r r0 (by omega))] at bs
      have b01 := bst_01 bs
      have v42 := bst_v bs (fun q hq => skb_vb (by omega) h4 hT (fun r r0 r1 => by show -500000 ≤ h mRoads (31 + 4 * r + 2) ∧ h mRoads (31 + 4 * r + 2) ≤ 500000; have := hpa r r0 (by omega); omega) hq)
      have en : mst_ (h mRoads) P w = msq_ w (skb_ (h mRoads) P 1 12 (pas_ (h mRoads))) := if_t ⟨by omega, by omega⟩
      generalize skb_ (h mRoads) P 1 12 (pas_ (h mRoads)) = BB at bs en
      refine pw_if_eq (t := 40) (pc := 33) dX12_most_33 (by decide) (by first | omega | (simp only [n_h1_mRoads]; omega)) (fun c33 => ?_) (fun c33 => ?_)
      · refine pw_iconst (pc := 40) dX12_most_40 ?_
        refine pw_pI (x := 0) (pc := 41) dX12_most_41 fX12_1 (im_mo_ hM) k_mo_ rfl rfl (by first | omega | (simp only [n_h1_mRoads]; omega)) ?_
        obtain ⟨g41, e41⟩ : ∃ x, x = up_ h30 mo_ 0 1 := ⟨_, rfl⟩
        refine pw_heq e41 ?_
        refine pw_aload_n (z := mo_) (pc := 44) dX12_most_44 rfl rfl ?_
        refine pw_gI (x := 0) (pc := 45) dX12_most_45 fX12_1 (im_mo_ hM) k_mo_ rfl rfl (fun r45 => ?_)
        rw [show g41 mo_ 0 = 1 from by rw [e41, up_same]] at r45 ⊢
        refine pw_if_le (t := 55) (pc := 48) dX12_most_48 (by decide) (by first | omega | (simp only [n_h1_mRoads]; omega)) (fun c48 => absurd c48 (by decide)) (fun _ => ?_)
        refine pw_iconst (pc := 51) dX12_most_51 ?_
        refine pw_goto (t := 73) (pc := 52) dX12_most_52 (by decide) ?_
        exact pw_iret (pc := 73) dX12_most_73 (by first | omega | (simp only [n_h1_mRoads]; omega)) (by
                  have k6 : off_ [mLawfuls, mWorths, mChanges, mPasts, mSits, mFacts, mPile, mMoves, mRow, mTotals, mBestRow, mBestTotals, mo_] h h1 := off_mo f1 (by decide)
                  first
                  | (refine ⟨by rw [e41]; exact off_up (off_tr k6 (off_mo f30 (by decide))) (by decide), fun k x0 x1 x2 x3 x4 x5 x6 => by rw [e41, up_at, if_neg x0, o30 k x2 x3 x4 x5 x6]; exact o1 k x1, ?_⟩
                     rw [en, e41, up_same]
                     cases BB with
                     | none => first | exact ⟨rfl, rfl⟩ | (exfalso; have b4 : h30 mo_ 41 = 0 := bs; omega)
                     | some q =>
                       obtain ⟨b1, b2, b3, b4, b5⟩ := bs
                       first
                       | (exfalso; omega)
                       | (refine ⟨rfl, ?_⟩; show _ = (if w < 0 then -q.1 else q.2.2.1 (w)); rw [if_pos (by omega), b2])
                       | (refine ⟨rfl, ?_⟩; show _ = (if w < 0 then -q.1 else q.2.2.1 (w)); rw [if_neg (by omega)]; exact b4 _ (by omega) (by omega)))
                  | (refine ⟨by rw [e41]; exact off_up k6 (by decide), fun k x0 x1 _ _ _ _ _ => by rw [e41, up_at, if_neg x0]; exact o1 k x1, ?_⟩
                     rw [show mst_ (h mRoads) P w = if_ _ _ _ from rfl, if_f (fun c => by omega), e41, up_same]; exact ⟨rfl, rfl⟩))
      · refine pw_iconst (pc := 36) dX12_most_36 ?_
        refine pw_goto (t := 41) (pc := 37) dX12_most_37 (by decide) ?_
        refine pw_pI (x := 0) (pc := 41) dX12_most_41 fX12_1 (im_mo_ hM) k_mo_ rfl rfl (by first | omega | (simp only [n_h1_mRoads]; omega)) ?_
        obtain ⟨g41, e41⟩ : ∃ x, x = up_ h30 mo_ 0 0 := ⟨_, rfl⟩
        refine pw_heq e41 ?_
        refine pw_aload_n (z := mo_) (pc := 44) dX12_most_44 rfl rfl ?_
        refine pw_gI (x := 0) (pc := 45) dX12_most_45 fX12_1 (im_mo_ hM) k_mo_ rfl rfl (fun r45 => ?_)
        rw [show g41 mo_ 0 = 0 from by rw [e41, up_same]] at r45 ⊢
        refine pw_if_le (t := 55) (pc := 48) dX12_most_48 (by decide) (by first | omega | (simp only [n_h1_mRoads]; omega)) (fun _ => ?_) (fun c48 => absurd c48 (by decide))
        refine pw_iload_n (z := w) (pc := 55) dX12_most_55 rfl rfl ?_
        refine pw_if_ge (t := 67) (pc := 56) dX12_most_56 (by decide) (by first | omega | (simp only [n_h1_mRoads]; omega)) (fun c56 => ?_) (fun c56 => ?_)
        · refine pw_aload_n (z := mo_) (pc := 67) dX12_most_67 rfl rfl ?_
          refine pw_getR (r := mBestRow) (pc := 68) dX12_most_68 fX12_161 (im_mo_ hM) k_mo_ rfl fr_mBestRow ?_
          refine pw_iload_n (z := w) (pc := 71) dX12_most_71 rfl rfl ?_
          refine pw_iald (pc := 72) dX12_most_72 (im_mBestRow hM) k_mBestRow 5 l_mBestRow (by first | omega | (simp only [n_h1_mRoads]; omega)) (by first | omega | (simp only [n_h1_mRoads]; omega)) (by first | omega | (simp only [n_h1_mRoads]; omega)) (fun r72 => ?_)
          have n_g41_mBestRow : g41 mBestRow = h30 mBestRow := (by rw [e41]; exact up_off (by decide))
          rw [n_g41_mBestRow] at r72 ⊢
          exact pw_iret (pc := 73) dX12_most_73 (by first | omega | (simp only [n_g41_mBestRow, n_h1_mRoads]; omega)) (by
                    have k6 : off_ [mLawfuls, mWorths, mChanges, mPasts, mSits, mFacts, mPile, mMoves, mRow, mTotals, mBestRow, mBestTotals, mo_] h h1 := off_mo f1 (by decide)
                    first
                    | (refine ⟨by rw [e41]; exact off_up (off_tr k6 (off_mo f30 (by decide))) (by decide), fun k x0 x1 x2 x3 x4 x5 x6 => by rw [e41, up_at, if_neg x0, o30 k x2 x3 x4 x5 x6]; exact o1 k x1, ?_⟩
                       rw [en, e41, up_same]
                       cases BB with
                       | none => first | exact ⟨rfl, rfl⟩ | (exfalso; have b4 : h30 mo_ 41 = 0 := bs; omega)
                       | some q =>
                         obtain ⟨b1, b2, b3, b4, b5⟩ := bs
                         first
                         | (exfalso; omega)
                         | (refine ⟨rfl, ?_⟩; show _ = (if w < 0 then -q.1 else q.2.2.1 (w)); rw [if_pos (by omega), b2])
                         | (refine ⟨rfl, ?_⟩; show _ = (if w < 0 then -q.1 else q.2.2.1 (w)); rw [if_neg (by omega)]; exact b4 _ (by omega) (by omega)))
                    | (refine ⟨by rw [e41]; exact off_up k6 (by decide), fun k x0 x1 _ _ _ _ _ => by rw [e41, up_at, if_neg x0]; exact o1 k x1, ?_⟩
                       rw [show mst_ (h mRoads) P w = if_ _ _ _ from rfl, if_f (fun c => by omega), e41, up_same]; exact ⟨rfl, rfl⟩))
        · refine pw_aload_n (z := mo_) (pc := 59) dX12_most_59 rfl rfl ?_
          refine pw_gI (x := 42) (pc := 60) dX12_most_60 fX12_440 (im_mo_ hM) k_mo_ rfl rfl (fun r60 => ?_)
          have n_g41_mo__42 : g41 mo_ 42 = h30 mo_ 42 := (by rw [e41, up_at]; exact if_neg (by decide))
          rw [n_g41_mo__42] at r60 ⊢
          refine pw_ineg (pc := 63) dX12_most_63 ?_
          refine pw_goto (t := 73) (pc := 64) dX12_most_64 (by decide) ?_
          exact pw_iret (pc := 73) dX12_most_73 (by first | omega | (simp only [n_g41_mo__42, n_h1_mRoads]; omega)) (by
                    have k6 : off_ [mLawfuls, mWorths, mChanges, mPasts, mSits, mFacts, mPile, mMoves, mRow, mTotals, mBestRow, mBestTotals, mo_] h h1 := off_mo f1 (by decide)
                    first
                    | (refine ⟨by rw [e41]; exact off_up (off_tr k6 (off_mo f30 (by decide))) (by decide), fun k x0 x1 x2 x3 x4 x5 x6 => by rw [e41, up_at, if_neg x0, o30 k x2 x3 x4 x5 x6]; exact o1 k x1, ?_⟩
                       rw [en, e41, up_same]
                       cases BB with
                       | none => first | exact ⟨rfl, rfl⟩ | (exfalso; have b4 : h30 mo_ 41 = 0 := bs; omega)
                       | some q =>
                         obtain ⟨b1, b2, b3, b4, b5⟩ := bs
                         first
                         | (exfalso; omega)
                         | (refine ⟨rfl, ?_⟩; show _ = (if w < 0 then -q.1 else q.2.2.1 (w)); rw [if_pos (by omega), b2])
                         | (refine ⟨rfl, ?_⟩; show _ = (if w < 0 then -q.1 else q.2.2.1 (w)); rw [if_neg (by omega)]; exact b4 _ (by omega) (by omega)))
                    | (refine ⟨by rw [e41]; exact off_up k6 (by decide), fun k x0 x1 _ _ _ _ _ => by rw [e41, up_at, if_neg x0]; exact o1 k x1, ?_⟩
                       rw [show mst_ (h mRoads) P w = if_ _ _ _ from rfl, if_f (fun c => by omega), e41, up_same]; exact ⟨rfl, rfl⟩))
  · simp -failIfUnchanged only [n_h1_mRoads] at p13
    refine pw_if_eq (t := 40) (pc := 16) dX12_most_16 (by decide) (by first | omega | (simp only [n_h1_mRoads]; omega)) (fun _ => ?_) (fun c16 => absurd c16 (by decide))
    refine pw_iconst (pc := 40) dX12_most_40 ?_
    refine pw_pI (x := 0) (pc := 41) dX12_most_41 fX12_1 (im_mo_ hM) k_mo_ rfl rfl (by first | omega | (simp only [n_h1_mRoads]; omega)) ?_
    obtain ⟨g41, e41⟩ : ∃ x, x = up_ h1 mo_ 0 1 := ⟨_, rfl⟩
    refine pw_heq e41 ?_
    refine pw_aload_n (z := mo_) (pc := 44) dX12_most_44 rfl rfl ?_
    refine pw_gI (x := 0) (pc := 45) dX12_most_45 fX12_1 (im_mo_ hM) k_mo_ rfl rfl (fun r45 => ?_)
    rw [show g41 mo_ 0 = 1 from by rw [e41, up_same]] at r45 ⊢
    refine pw_if_le (t := 55) (pc := 48) dX12_most_48 (by decide) (by first | omega | (simp only [n_h1_mRoads]; omega)) (fun c48 => absurd c48 (by decide)) (fun _ => ?_)
    refine pw_iconst (pc := 51) dX12_most_51 ?_
    refine pw_goto (t := 73) (pc := 52) dX12_most_52 (by decide) ?_
    exact pw_iret (pc := 73) dX12_most_73 (by first | omega | (simp only [n_h1_mRoads]; omega)) (by
              have k6 : off_ [mLawfuls, mWorths, mChanges, mPasts, mSits, mFacts, mPile, mMoves, mRow, mTotals, mBestRow, mBestTotals, mo_] h h1 := off_mo f1 (by decide)
              first
              | (refine ⟨by rw [e41]; exact off_up (off_tr k6 (off_mo f30 (by decide))) (by decide), fun k x0 x1 x2 x3 x4 x5 x6 => by rw [e41, up_at, if_neg x0, o30 k x2 x3 x4 x5 x6]; exact o1 k x1, ?_⟩
                 rw [en, e41, up_same]
                 cases BB with
                 | none => first | exact ⟨rfl, rfl⟩ | (exfalso; have b4 : h30 mo_ 41 = 0 := bs; omega)
                 | some q =>
                   obtain ⟨b1, b2, b3, b4, b5⟩ := bs
                   first
                   | (exfalso; omega)
                   | (refine ⟨rfl, ?_⟩; show _ = (if w < 0 then -q.1 else q.2.2.1 (w)); rw [if_pos (by omega), b2])
                   | (refine ⟨rfl, ?_⟩; show _ = (if w < 0 then -q.1 else q.2.2.1 (w)); rw [if_neg (by omega)]; exact b4 _ (by omega) (by omega)))
              | (refine ⟨by rw [e41]; exact off_up k6 (by decide), fun k x0 x1 _ _ _ _ _ => by rw [e41, up_at, if_neg x0]; exact o1 k x1, ?_⟩
                 rw [show mst_ (h mRoads) P w = if_ _ _ _ from rfl, if_f (fun c => by omega), e41, up_same]; exact ⟨rfl, rfl⟩))

set_option maxHeartbeats 4000000 in
set_option maxRecDepth 100000 in
theorem c_worst {G : GT_} (hM : okM_ G) (h : PH_) (hS : 2 ≤ h mRoads 0 ∧ h mRoads 0 ≤ 4) (hR : 0 ≤ h mRoads 2 ∧ h mRoads 2 ≤ h mRoads 0) (hT : 0 ≤ h mRoads 1 ∧ h mRoads 1 ≤ 4) (h4 : 0 ≤ h mRoads 4 ∧ h mRoads 4 ≤ 99) (hpa : ∀ r, 0 ≤ r → r < 4 → 0 ≤ h mRoads (31 + 4 * r + 2) ∧ h mRoads (31 + 4 * r + 2) ≤ 9999) (P : List (Int × Int)) (hw : 0 ≤ h mRoads 5 → law_ (h mOp) (h mArg) (h mRoads 5) P) : PC G yX12_worst cX12_worst 1 (some .int) 11 [rr_ G mo_] h (qi_ (fun z h' => off_ [mLawfuls, mWorths, mChanges, mPasts, mSits, mFacts, mPile, mMoves, mRow, mTotals, mBestRow, mBestTotals, mo_] h h' ∧ (∀ k, k ≠ 0 → k ≠ 32 → k ≠ 39 → k ≠ 40 → k ≠ 41 → k ≠ 42 → k ≠ 43 → h' mo_ k = h mo_ k) ∧ h' mo_ 0 = (wst_ (h mRoads) P).1 ∧ z = (wst_ (h mRoads) P).2)) := by
  refine PC.of (lv := [some (rr_ G mo_)]) (by decide +kernel) (Nat.le_of_ble_eq_true rfl) rfl rfl ?_
  refine pw_aload_n (z := mo_) (pc := 0) dX12_worst_0 rfl rfl ?_
  refine pw_callV (c := 12) (o := mo_) (As := []) (rest := []) (pc := 1) dX12_worst_1 (c_findPlans hM h (by first | omega) (by first | omega) (by first | omega) P hw) lX12_458 mX12_findPlans vX12_findPlans (im_mo_ hM) k_mo_ rfl rfl rfl (by decide) ⟨Nat.zero_le _, Nat.zero_le _⟩ (Nat.le_of_ble_eq_true rfl) (k_v (fun h1 q1 => ?_))
  obtain ⟨f1, o1, l1, p1⟩ := q1
  have n6 : h1 mRoads = h mRoads := f1 mRoads (by decide)
  refine pw_aload_n (z := mo_) (pc := 4) dX12_worst_4 rfl rfl ?_
  refine pw_aload_n (z := mo_) (pc := 5) dX12_worst_5 rfl rfl ?_
  refine pw_callV (c := 12) (o := mo_) (As := []) (rest := [rr_ G mo_]) (pc := 6) dX12_worst_6 (c_riders hM h1) lX12_334 mX12_riders vX12_riders (im_mo_ hM) k_mo_ rfl rfl rfl (by decide) ⟨Nat.zero_le _, Nat.zero_le _⟩ (Nat.le_of_ble_eq_true rfl) (k_i (fun z6 h6 y6 q6 => ?_))
  obtain ⟨rfl, rfl⟩ := q6
  have n_h1_mRoads : h1 mRoads = h mRoads := (f1 mRoads (by decide))
  rw [n_h1_mRoads] at y6 ⊢
  refine pw_if_le (t := 26) (pc := 9) dX12_worst_9 (by decide) (by first | omega | (simp only [n_h1_mRoads]; omega)) (fun c9 => ?_) (fun c9 => ?_)
  · refine pw_iconst (pc := 26) dX12_worst_26 ?_
    refine pw_pI (x := 0) (pc := 27) dX12_worst_27 fX12_1 (im_mo_ hM) k_mo_ rfl rfl (by first | omega | (simp only [n_h1_mRoads]; omega)) ?_
    obtain ⟨g27, e27⟩ : ∃ x, x = up_ h1 mo_ 0 1 := ⟨_, rfl⟩
    refine pw_heq e27 ?_
    refine pw_aload_n (z := mo_) (pc := 30) dX12_worst_30 rfl rfl ?_
    refine pw_gI (x := 0) (pc := 31) dX12_worst_31 fX12_1 (im_mo_ hM) k_mo_ rfl rfl (fun r31 => ?_)
    rw [show g27 mo_ 0 = 1 from by rw [e27, up_same]] at r31 ⊢
    refine pw_if_le (t := 41) (pc := 34) dX12_worst_34 (by decide) (by first | omega | (simp only [n_h1_mRoads]; omega)) (fun c34 => absurd c34 (by decide)) (fun _ => ?_)
    refine pw_iconst (pc := 37) dX12_worst_37 ?_
    refine pw_goto (t := 46) (pc := 38) dX12_worst_38 (by decide) ?_
    exact pw_iret (pc := 46) dX12_worst_46 (by first | omega | (simp only [n_h1_mRoads]; omega)) (by
              have k6 : off_ [mLawfuls, mWorths, mChanges, mPasts, mSits, mFacts, mPile, mMoves, mRow, mTotals, mBestRow, mBestTotals, mo_] h h1 := off_mo f1 (by decide)
              first
              | (refine ⟨by rw [e27]; exact off_up (off_tr k6 (off_mo f16 (by decide))) (by decide), fun k x0 x1 x2 x3 x4 x5 x6 => by rw [e27, up_at, if_neg x0, o16 k x2 x3 x4 x5 x6]; exact o1 k x1, ?_⟩
                 rw [en, e27, up_same]
                 cases BB with
                 | none => first | exact ⟨rfl, rfl⟩ | (exfalso; have b4 : h16 mo_ 41 = 0 := bs; omega)
                 | some q =>
                   obtain ⟨b1, b2, b3, b4, b5⟩ := bs
                   first
                   | (exfalso; omega)
                   | (refine ⟨rfl, ?_⟩; show _ = (if (-1 : Int) < 0 then -q.1 else q.2.2.1 ((-1 : Int))); rw [if_pos (by omega), b2])
                   | (refine ⟨rfl, ?_⟩; show _ = (if (-1 : Int) < 0 then -q.1 else q.2.2.1 ((-1 : Int))); rw [if_neg (by omega)]; exact b4 _ (by omega) (by omega)))
              | (refine ⟨by rw [e27]; exact off_up k6 (by decide), fun k x0 x1 _ _ _ _ _ => by rw [e27, up_at, if_neg x0]; exact o1 k x1, ?_⟩
                 rw [show wst_ (h mRoads) P = if_ _ _ _ from rfl, if_f (fun c => by omega), e27, up_same]; exact ⟨rfl, rfl⟩))
  · refine pw_aload_n (z := mo_) (pc := 12) dX12_worst_12 rfl rfl ?_
    refine pw_iconst (pc := 13) dX12_worst_13 ?_
    refine pw_bipush (pc := 14) dX12_worst_14 rfl ?_
    refine pw_callV (c := 12) (o := mo_) (As := [ii_ 2, ii_ 12]) (rest := [rr_ G mo_]) (pc := 16) dX12_worst_16 (c_seeks hM h1 (by rw [n6]; exact hS) (by rw [n6]; omega) (by rw [n6]; exact hT) (by rw [n6]; exact h4) P (by rw [n6]; exact l1) 2 12 (by first | omega | (simp only [n_h1_mRoads]; omega)) (by first | omega | (simp only [n_h1_mRoads]; omega)) (fun r r0 r1 => by rw [n6] at r1; rw [p1 r r0 (by first | omega | (simp only [n_h1_mRoads]; omega))]; have := hpa r r0 (by first | omega | (simp only [n_h1_mRoads]; omega)); omega)) lX12_461 mX12_seeks vX12_seeks (im_mo_ hM) k_mo_ rfl rfl rfl (by decide) ⟨Nat.zero_le _, Nat.zero_le _⟩ (Nat.le_of_ble_eq_true rfl) (k_i (fun z16 h16 y16 q16 => ?_))
    obtain ⟨f16, o16, w16, bs⟩ := q16
    rw [n6, skb_cg (pb := pas_ (h mRoads)) hT.1 (fun r r0 r1 => p1 r r0 (by omega))] at bs
    have b01 := bst_01 bs
    have v42 := bst_v bs (fun q hq => skb_vb (by omega) h4 hT (fun r r0 r1 => by show -500000 ≤ h mRoads (31 + 4 * r + 2) ∧ h mRoads (31 + 4 * r + 2) ≤ 500000; have := hpa r r0 (by omega); omega) hq)
    have en : wst_ (h mRoads) P = msq_ (-1) (skb_ (h mRoads) P 2 12 (pas_ (h mRoads))) := if_t (by omega)
    generalize skb_ (h mRoads) P 2 12 (pas_ (h mRoads)) = BB at bs en
    refine pw_if_eq (t := 26) (pc := 19) dX12_worst_19 (by decide) (by first | omega | (simp only [n_h1_mRoads]; omega)) (fun c19 => ?_) (fun c19 => ?_)
    · refine pw_iconst (pc := 26) dX12_worst_26 ?_
      refine pw_pI (x := 0) (pc := 27) dX12_worst_27 fX12_1 (im_mo_ hM) k_mo_ rfl rfl (by first | omega | (simp only [n_h1_mRoads]; omega)) ?_
      obtain ⟨g27, e27⟩ : ∃ x, x = up_ h16 mo_ 0 1 := ⟨_, rfl⟩
      refine pw_heq e27 ?_
      refine pw_aload_n (z := mo_) (pc := 30) dX12_worst_30 rfl rfl ?_
      refine pw_gI (x := 0) (pc := 31) dX12_worst_31 fX12_1 (im_mo_ hM) k_mo_ rfl rfl (fun r31 => ?_)
      rw [show g27 mo_ 0 = 1 from by rw [e27, up_same]] at r31 ⊢
      refine pw_if_le (t := 41) (pc := 34) dX12_worst_34 (by decide) (by first | omega | (simp only [n_h1_mRoads]; omega)) (fun c34 => absurd c34 (by decide)) (fun _ => ?_)
      refine pw_iconst (pc := 37) dX12_worst_37 ?_
      refine pw_goto (t := 46) (pc := 38) dX12_worst_38 (by decide) ?_
      exact pw_iret (pc := 46) dX12_worst_46 (by first | omega | (simp only [n_h1_mRoads]; omega)) (by
                have k6 : off_ [mLawfuls, mWorths, mChanges, mPasts, mSits, mFacts, mPile, mMoves, mRow, mTotals, mBestRow, mBestTotals, mo_] h h1 := off_mo f1 (by decide)
                first
                | (refine ⟨by rw [e27]; exact off_up (off_tr k6 (off_mo f16 (by decide))) (by decide), fun k x0 x1 x2 x3 x4 x5 x6 => by rw [e27, up_at, if_neg x0, o16 k x2 x3 x4 x5 x6]; exact o1 k x1, ?_⟩
                   rw [en, e27, up_same]
                   cases BB with
                   | none => first | exact ⟨rfl, rfl⟩ | (exfalso; have b4 : h16 mo_ 41 = 0 := bs; omega)
                   | some q =>
                     obtain ⟨b1, b2, b3, b4, b5⟩ := bs
                     first
                     | (exfalso; omega)
                     | (refine ⟨rfl, ?_⟩; show _ = (if (-1 : Int) < 0 then -q.1 else q.2.2.1 ((-1 : Int))); rw [if_pos (by omega), b2])
                     | (refine ⟨rfl, ?_⟩; show _ = (if (-1 : Int) < 0 then -q.1 else q.2.2.1 ((-1 : Int))); rw [if_neg (by omega)]; exact b4 _ (by omega) (by omega)))
                | (refine ⟨by rw [e27]; exact off_up k6 (by decide), fun k x0 x1 _ _ _ _ _ => by rw [e27, up_at, if_neg x0]; exact o1 k x1, ?_⟩
                   rw [show wst_ (h mRoads) P = if_ _ _ _ from rfl, if_f (fun c => by omega), e27, up_same]; exact ⟨rfl, rfl⟩))
    · refine pw_iconst (pc := 22) dX12_worst_22 ?_
      refine pw_goto (t := 27) (pc := 23) dX12_worst_23 (by decide) ?_
      refine pw_pI (x := 0) (pc := 27) dX12_worst_27 fX12_1 (im_mo_ hM) k_mo_ rfl rfl (by first | omega | (simp only [n_h1_mRoads]; omega)) ?_
      obtain ⟨g27, e27⟩ : ∃ x, x = up_ h16 mo_ 0 0 := ⟨_, rfl⟩
      refine pw_heq e27 ?_
      refine pw_aload_n (z := mo_) (pc := 30) dX12_worst_30 rfl rfl ?_
      refine pw_gI (x := 0) (pc := 31) dX12_worst_31 fX12_1 (im_mo_ hM) k_mo_ rfl rfl (fun r31 => ?_)
      rw [show g27 mo_ 0 = 0 from by rw [e27, up_same]] at r31 ⊢
      refine pw_if_le (t := 41) (pc := 34) dX12_worst_34 (by decide) (by first | omega | (simp only [n_h1_mRoads]; omega)) (fun _ => ?_) (fun c34 => absurd c34 (by decide))
      refine pw_aload_n (z := mo_) (pc := 41) dX12_worst_41 rfl rfl ?_
      refine pw_gI (x := 42) (pc := 42) dX12_worst_42 fX12_440 (im_mo_ hM) k_mo_ rfl rfl (fun r42 => ?_)
      have n_g27_mo__42 : g27 mo_ 42 = h16 mo_ 42 := (by rw [e27, up_at]; exact if_neg (by decide))
      rw [n_g27_mo__42] at r42 ⊢
      refine pw_ineg (pc := 45) dX12_worst_45 ?_
      exact pw_iret (pc := 46) dX12_worst_46 (by first | omega | (simp only [n_g27_mo__42, n_h1_mRoads]; omega)) (by
                have k6 : off_ [mLawfuls, mWorths, mChanges, mPasts, mSits, mFacts, mPile, mMoves, mRow, mTotals, mBestRow, mBestTotals, mo_] h h1 := off_mo f1 (by decide)
                first
                | (refine ⟨by rw [e27]; exact off_up (off_tr k6 (off_mo f16 (by decide))) (by decide), fun k x0 x1 x2 x3 x4 x5 x6 => by rw [e27, up_at, if_neg x0, o16 k x2 x3 x4 x5 x6]; exact o1 k x1, ?_⟩
                   rw [en, e27, up_same]
                   cases BB with
                   | none => first | exact ⟨rfl, rfl⟩ | (exfalso; have b4 : h16 mo_ 41 = 0 := bs; omega)
                   | some q =>
                     obtain ⟨b1, b2, b3, b4, b5⟩ := bs
                     first
                     | (exfalso; omega)
                     | (refine ⟨rfl, ?_⟩; show _ = (if (-1 : Int) < 0 then -q.1 else q.2.2.1 ((-1 : Int))); rw [if_pos (by omega), b2])
                     | (refine ⟨rfl, ?_⟩; show _ = (if (-1 : Int) < 0 then -q.1 else q.2.2.1 ((-1 : Int))); rw [if_neg (by omega)]; exact b4 _ (by omega) (by omega)))
                | (refine ⟨by rw [e27]; exact off_up k6 (by decide), fun k x0 x1 _ _ _ _ _ => by rw [e27, up_at, if_neg x0]; exact o1 k x1, ?_⟩
                   rw [show wst_ (h mRoads) P = if_ _ _ _ from rfl, if_f (fun c => by omega), e27, up_same]; exact ⟨rfl, rfl⟩))

