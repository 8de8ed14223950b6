set_option maxHeartbeats 4000000 in
set_option maxRecDepth 100000 in
theorem c_rides {G : GT_} (hM : okM_ G) (h : PH_) (hS : 2 ≤ h mRoads 0 ∧ h mRoads 0 ≤ 4) (hR : 0 ≤ h mRoads 2 ∧ h mRoads 2 ≤ h mRoads 0) (hd : ∀ r, 0 ≤ r → r < h mRoads 2 → 1 ≤ h mRoads (31 + 4 * r + 1) ∧ h mRoads (31 + 4 * r + 1) ≤ 9) (P : List (Int × Int)) (hw : 0 ≤ h mRoads 5 → law_ (h mOp) (h mArg) (h mRoads 5) P) (hg : 0 ≤ h mo_ 58 ∧ h mo_ 58 < 2147483648) (hn : 0 ≤ h mo_ 59 ∧ h mo_ 59 ≤ 100000) (t : Int) (ht : 0 ≤ t ∧ t < 4) (hb : ∀ r, 0 ≤ r → r < h mRoads 2 → -500000 ≤ h mTotals r ∧ h mTotals r ≤ 500000) : PC G yX12_rides cX12_rides 6 none 5 [rr_ G mo_, ii_ t] h (qv_ (fun h' => off_ [mSits, mTotals, mFacts, mPile, mo_] h h' ∧ (∀ k, k ≠ 58 → k ≠ 59 → h' mo_ k = h mo_ k) ∧ h' mo_ 58 = (rdx_ (h mRoads) t (h mo_ 58) (h mo_ 59)).1 ∧ h' mo_ 59 = (rdx_ (h mRoads) t (h mo_ 58) (h mo_ 59)).2.2 ∧ (∀ r, 0 ≤ r → r < h mRoads 2 → h' mTotals r = h mTotals r + if (rdx_ (h mRoads) t (h mo_ 58) (h mo_ 59)).2.1 r < 0 then 0 else wsi_ (h mRoads) P (rdx_ (h mRoads) t (h mo_ 58) (h mo_ 59)).2.1 r t))) := by
  have bi := bx_i (h mRoads 2).toNat (by omega)
  have bj := bx_i (h mRoads 0).toNat (by omega)
  have pR : (2 : Int) ^ (h mRoads 2).toNat = ((2 ^ (h mRoads 2).toNat : Nat) : Int) := pc_
  have pS : (2 : Int) ^ (h mRoads 0).toNat = ((2 ^ (h mRoads 0).toNat : Nat) : Int) := pc_
  have qR := Nat.two_pow_pos (h mRoads 2).toNat
  have qS := Nat.two_pow_pos (h mRoads 0).toNat
  refine PC.of (lv := [some (rr_ G mo_), some (ii_ t), none, none, none, none]) (by decide +kernel) (Nat.le_of_ble_eq_true rfl) rfl rfl ?_
  refine pw_iconst (pc := 0) dX12_rides_0 ?_
  refine pw_aload_n (z := mo_) (pc := 1) dX12_rides_1 rfl rfl ?_
  refine pw_callV (c := 12) (o := mo_) (As := []) (rest := [ii_ 1]) (pc := 2) dX12_rides_2 (c_riders hM h) lX12_334 mX12_riders vX12_riders (im_mo_ hM) k_mo_ rfl rfl rfl (by decide) ⟨Nat.zero_le _, Nat.zero_le _⟩ (Nat.le_of_ble_eq_true rfl) (k_i (fun z2 h2 y2 q2 => ?_))
  obtain ⟨rfl, rfl⟩ := q2
  refine pw_ishl1 (pc := 5) dX12_rides_5 (by first | omega) ?_
  refine pw_iconst (pc := 6) dX12_rides_6 ?_
  refine pw_isub (pc := 7) dX12_rides_7 ?_
  refine pw_istore_n (lv1 := [some (rr_ G mo_), some (ii_ t), some (ii_ ((2 ^ (h mRoads 2).toNat) - 1)), none, none, none]) (pc := 8) dX12_rides_8 rfl (by decide) rfl rfl ?_
  refine pw_iconst (pc := 9) dX12_rides_9 ?_
  refine pw_aload_n (z := mo_) (pc := 10) dX12_rides_10 rfl rfl ?_
  refine pw_callV (c := 12) (o := mo_) (As := []) (rest := [ii_ 1]) (pc := 11) dX12_rides_11 (c_seats hM h) lX12_331 mX12_seats vX12_seats (im_mo_ hM) k_mo_ rfl rfl rfl (by decide) ⟨Nat.zero_le _, Nat.zero_le _⟩ (Nat.le_of_ble_eq_true rfl) (k_i (fun z11 h11 y11 q11 => ?_))
  obtain ⟨rfl, rfl⟩ := q11
  refine pw_ishl1 (pc := 14) dX12_rides_14 (by first | omega) ?_
  refine pw_iconst (pc := 15) dX12_rides_15 ?_
  refine pw_isub (pc := 16) dX12_rides_16 ?_
  refine pw_istore_n (lv1 := [some (rr_ G mo_), some (ii_ t), some (ii_ ((2 ^ (h mRoads 2).toNat) - 1)), some (ii_ ((2 ^ (h mRoads 0).toNat) - 1)), none, none]) (pc := 17) dX12_rides_17 rfl (by decide) rfl rfl ?_
  have L18 : ∀ (nn : Nat) (nn9 : Nat) (left : Int) (free : Int) (si : Int → Int) (hq : PH_), (0 ≤ left ∧ left < 2 ^ (h mRoads 2).toNat ∧ 0 ≤ free ∧ free ≤ 15) → (bcn_ left.toNat = nn9) → (off_ [mSits, mo_] h hq) → (∀ k, k ≠ 58 → k ≠ 59 → hq mo_ k = h mo_ k) → (0 ≤ hq mo_ 58 ∧ hq mo_ 58 < 2147483648) → (h mo_ 59 ≤ hq mo_ 59 ∧ hq mo_ 59 + nn9 ≤ h mo_ 59 + (h mRoads 2).toNat) → (∀ r, 0 ≤ r → r < h mRoads 2 → left / 2 ^ r.toNat % 2 = 0 → hq mSits r = si r ∧ -1 ≤ si r ∧ si r ≤ 3) → (rdl_ (h mRoads) t nn9 (hq mo_ 58) left free si (hq mo_ 59) = rdx_ (h mRoads) t (h mo_ 58) (h mo_ 59)) → ((left + 1 : Int) ≤ nn) → PW G RX12 cX12_rides 6 none (rm_ 5) 0 0 (zm_ G (qv_ (fun h' => off_ [mSits, mTotals, mFacts, mPile, mo_] h h' ∧ (∀ k, k ≠ 58 → k ≠ 59 → h' mo_ k = h mo_ k) ∧ h' mo_ 58 = (rdx_ (h mRoads) t (h mo_ 58) (h mo_ 59)).1 ∧ h' mo_ 59 = (rdx_ (h mRoads) t (h mo_ 58) (h mo_ 59)).2.2 ∧ (∀ r, 0 ≤ r → r < h mRoads 2 → h' mTotals r = h mTotals r + if (rdx_ (h mRoads) t (h mo_ 58) (h mo_ 59)).2.1 r < 0 then 0 else wsi_ (h mRoads) P (rdx_ (h mRoads) t (h mo_ 58) (h mo_ 59)).2.1 r t)))) 18 [some (rr_ G mo_), some (ii_ t), some (ii_ left), some (ii_ free), none, none] [] hq := by
    intro nn
    induction nn with
    | zero => intro nn9 left free si hq al ab af ao ag an asi ar ams; exfalso; omega
    | succ nn ih18 =>
      intro nn9 left free si hq al ab af ao ag an asi ar ams
      refine pw_iload_n (z := left) (pc := 18) dX12_rides_18 rfl rfl ?_
      refine pw_if_eq (t := 97) (pc := 19) dX12_rides_19 (by decide) (by first | omega) (fun c19 => ?_) (fun c19 => ?_)
      · have l0 : left = 0 := c19
        have nr : hq mRoads = h mRoads := af mRoads (by decide)
        have n0 : nn9 = 0 := by rw [← ab, l0]; rfl
        subst n0
        have X1 : rdx_ (h mRoads) t (h mo_ 58) (h mo_ 59) = (hq mo_ 58, si, hq mo_ 59) := by rw [← ar]; rfl
        have sd : ∀ r, 0 ≤ r → r < h mRoads 2 → hq mSits r = si r ∧ -1 ≤ si r ∧ si r ≤ 3 := fun r r0 r1 => asi r r0 r1 (by rw [l0, Int.zero_ediv]; rfl)
        refine pw_iconst (pc := 97) dX12_rides_97 ?_
        refine pw_istore (lv1 := [some (rr_ G mo_), some (ii_ t), some (ii_ left), some (ii_ free), some (ii_ 0), none]) (pc := 98) dX12_rides_98 (by decide) rfl rfl ?_
        have L100 : ∀ (nn : Nat) (r : Int) (b1 : PH_), (0 ≤ r ∧ r ≤ h mRoads 2) → (off_ [mTotals, mFacts, mPile] hq b1) → (∀ q, 0 ≤ q → q < h mRoads 2 → b1 mTotals q = h mTotals q + (if q < r then (if si q < 0 then 0 else wsi_ (h mRoads) P si q t) else 0)) → ((h mRoads 2 - r + 1 : Int) ≤ nn) → PW G RX12 cX12_rides 6 none (rm_ 5) 0 0 (zm_ G (qv_ (fun h' => off_ [mSits, mTotals, mFacts, mPile, mo_] h h' ∧ (∀ k, k ≠ 58 → k ≠ 59 → h' mo_ k = h mo_ k) ∧ h' mo_ 58 = (rdx_ (h mRoads) t (h mo_ 58) (h mo_ 59)).1 ∧ h' mo_ 59 = (rdx_ (h mRoads) t (h mo_ 58) (h mo_ 59)).2.2 ∧ (∀ r, 0 ≤ r → r < h mRoads 2 → h' mTotals r = h mTotals r + if (rdx_ (h mRoads) t (h mo_ 58) (h mo_ 59)).2.1 r < 0 then 0 else wsi_ (h mRoads) P (rdx_ (h mRoads) t (h mo_ 58) (h mo_ 59)).2.1 r t)))) 100 [some (rr_ G mo_), some (ii_ t), some (ii_ left), some (ii_ free), some (ii_ r), none] [] b1 := by
          intro nn
          induction nn with
          | zero => intro r b1 bk bf bt ams; exfalso; omega
          | succ nn ih100 =>
            intro r b1 bk bf bt ams
            refine pw_iload (z := r) (pc := 100) dX12_rides_100 rfl ?_
            refine pw_aload_n (z := mo_) (pc := 102) dX12_rides_102 rfl rfl ?_
            refine pw_callV (c := 12) (o := mo_) (As := []) (rest := [ii_ r]) (pc := 103) dX12_rides_103 (c_riders hM b1) lX12_334 mX12_riders vX12_riders (im_mo_ hM) k_mo_ rfl rfl rfl (by decide) ⟨Nat.zero_le _, Nat.zero_le _⟩ (Nat.le_of_ble_eq_true rfl) (k_i (fun z103 h103 y103 q103 => ?_))
            obtain ⟨rfl, rfl⟩ := q103
            have n_b1_mRoads : b1 mRoads = h mRoads := ((show b1 mRoads = hq mRoads from (bf mRoads (by decide))).trans (show hq mRoads = h mRoads from (af mRoads (by decide))))
            rw [n_b1_mRoads] at y103 ⊢
            refine pw_icmp_ge (t := 159) (pc := 106) dX12_rides_106 (by decide) (by first | omega | (simp only [n_b1_mRoads]; omega)) (by first | omega | (simp only [n_b1_mRoads]; omega)) (fun c106 => ?_) (fun c106 => ?_)
            · exact pw_vret (pc := 159) dX12_rides_159 (by
                        have rr : r = h mRoads 2 := by omega
                        rw [X1]
                        refine ⟨off_tr (off_mo af (by decide)) (off_mo bf (by decide)), fun k k1 k2 => by rw [bf mo_ (by decide)]; exact ao k k1 k2, by rw [bf mo_ (by decide)], by rw [bf mo_ (by decide)], fun q q0 q1 => ?_⟩
                        rw [bt q q0 q1, if_pos (by omega)])
            · have sr := sd r (by omega) (by omega)
              have hbr := hb r (by omega) (by omega)
              have nr1 : b1 mRoads = h mRoads := by rw [bf mRoads (by decide)]; exact nr
              have ns1 : b1 mSits = hq mSits := bf mSits (by decide)
              have nt1 : b1 mTotals r = h mTotals r := by rw [bt r (by omega) (by omega), if_neg (by omega), Int.add_zero]
              refine pw_aload_n (z := mo_) (pc := 109) dX12_rides_109 rfl rfl ?_
              refine pw_getR (r := mTotals) (pc := 110) dX12_rides_110 fX12_152 (im_mo_ hM) k_mo_ rfl fr_mTotals ?_
              refine pw_iload (z := r) (pc := 113) dX12_rides_113 rfl ?_
              refine pw_dup2 (pc := 115) dX12_rides_115 rfl rfl ?_
              refine pw_iald (pc := 116) dX12_rides_116 (im_mTotals hM) k_mTotals 20 l_mTotals (by first | omega | (simp only [n_b1_mRoads]; omega)) (by first | omega | (simp only [n_b1_mRoads]; omega)) (by first | omega | (simp only [n_b1_mRoads]; omega)) (fun r116 => ?_)
              have J151 : ∀ (v : Int) (b2 : PH_), (v = (if si r < 0 then 0 else wsi_ (h mRoads) P si r t) ∧ off_ [mTotals, mFacts, mPile] b1 b2) → (b2 mTotals = b1 mTotals) → (0 ≤ v ∧ v ≤ 999) → PW G RX12 cX12_rides 6 none (rm_ 5) 0 0 (zm_ G (qv_ (fun h' => off_ [mSits, mTotals, mFacts, mPile, mo_] h h' ∧ (∀ k, k ≠ 58 → k ≠ 59 → h' mo_ k = h mo_ k) ∧ h' mo_ 58 = (rdx_ (h mRoads) t (h mo_ 58) (h mo_ 59)).1 ∧ h' mo_ 59 = (rdx_ (h mRoads) t (h mo_ 58) (h mo_ 59)).2.2 ∧ (∀ r, 0 ≤ r → r < h mRoads 2 → h' mTotals r = h mTotals r + if (rdx_ (h mRoads) t (h mo_ 58) (h mo_ 59)).2.1 r < 0 then 0 else wsi_ (h mRoads) P (rdx_ (h mRoads) t (h mo_ 58) (h mo_ 59)).2.1 r t)))) 151 [some (rr_ G mo_), some (ii_ t), some (ii_ left), some (ii_ free), some (ii_ r), none] [ii_ v, ii_ (h mTotals r), ii_ r, rr_ G mTotals] b2 := by
                intro v b2 hv3 hv4 hv5
                refine pw_iadd (pc := 151) dX12_rides_151 ?_
                refine pw_iast (pc := 152) dX12_rides_152 (im_mTotals hM) k_mTotals 20 l_mTotals (by first | omega | (simp only [n_b1_mRoads]; omega)) (by first | omega | (simp only [n_b1_mRoads]; omega)) (by first | omega | (simp only [n_b1_mRoads]; omega)) (by first | omega | (simp only [n_b1_mRoads]; omega)) ?_
                obtain ⟨g152, e152⟩ : ∃ x, x = up_ b2 mTotals r ((h mTotals r) + v) := ⟨_, rfl⟩
                refine pw_heq e152 ?_
                refine pw_iinc (z := r) (lv1 := [some (rr_ G mo_), some (ii_ t), some (ii_ left), some (ii_ free), some (ii_ (r + 1)), none]) (pc := 153) dX12_rides_153 rfl (by decide) rfl rfl ?_
                refine pw_goto (t := 100) (pc := 156) dX12_rides_156 (by decide) ?_
                exact ih100 _ _ (by omega) (by first | (rw [e152]; exact off_up (off_tr bf hv3.2) (by decide))) (fun q q0 q1 => by
                          rw [e152, up_at]
                          by_cases c : q = r
                          · rw [if_pos c, c, if_pos (by omega), hv3.1]
                          · rw [if_neg c, hv4, bt q q0 q1]
                            by_cases c2 : q < r
                            · rw [if_pos c2, if_pos (show q < r + 1 by omega)]
                            · rw [if_neg c2, if_neg (show ¬ q < r + 1 by omega)]) (by omega)
              rw [nt1]
              refine pw_aload_n (z := mo_) (pc := 117) dX12_rides_117 rfl rfl ?_
              refine pw_getR (r := mSits) (pc := 118) dX12_rides_118 fX12_137 (im_mo_ hM) k_mo_ rfl fr_mSits ?_
              refine pw_iload (z := r) (pc := 121) dX12_rides_121 rfl ?_
              refine pw_iald (pc := 123) dX12_rides_123 (im_mSits hM) k_mSits 4 l_mSits (by first | omega | (simp only [n_b1_mRoads]; omega)) (by first | omega | (simp only [n_b1_mRoads]; omega)) (by first | omega | (simp only [n_b1_mRoads]; omega)) (fun r123 => ?_)
              have n_b1_mSits : b1 mSits = hq mSits := (bf mSits (by decide))
              rw [n_b1_mSits] at r123 ⊢
              refine pw_if_ge (t := 131) (pc := 124) dX12_rides_124 (by decide) (by first | omega | (simp only [n_b1_mRoads, n_b1_mSits]; omega)) (fun c124 => ?_) (fun c124 => ?_)
              · have sr0 : 0 ≤ hq mSits r := by omega
                refine pw_aload_n (z := mo_) (pc := 131) dX12_rides_131 rfl rfl ?_
                refine pw_iload (z := r) (pc := 132) dX12_rides_132 rfl ?_
                refine pw_aload_n (z := mo_) (pc := 134) dX12_rides_134 rfl rfl ?_
                refine pw_getR (r := mSits) (pc := 135) dX12_rides_135 fX12_137 (im_mo_ hM) k_mo_ rfl fr_mSits ?_
                refine pw_iload (z := r) (pc := 138) dX12_rides_138 rfl ?_
                refine pw_iald (pc := 140) dX12_rides_140 (im_mSits hM) k_mSits 4 l_mSits (by first | omega | (simp only [n_b1_mRoads, n_b1_mSits]; omega)) (by first | omega | (simp only [n_b1_mRoads, n_b1_mSits]; omega)) (by first | omega | (simp only [n_b1_mRoads, n_b1_mSits]; omega)) (fun r140 => ?_)
                rw [n_b1_mSits] at r140 ⊢
                refine pw_iload_n (z := t) (pc := 141) dX12_rides_141 rfl rfl ?_
                refine pw_aload_n (z := mo_) (pc := 142) dX12_rides_142 rfl rfl ?_
                refine pw_iload (z := r) (pc := 143) dX12_rides_143 rfl ?_
                refine pw_callV (c := 12) (o := mo_) (As := [ii_ r]) (rest := [ii_ t, ii_ (hq mSits r), ii_ r, rr_ G mo_, ii_ (h mTotals r), ii_ r, rr_ G mTotals]) (pc := 145) dX12_rides_145 (c_tipOf hM b1 (by rw [nr1]; omega) (by rw [nr1]; omega) (fun q q0 q1 => by rw [nr1] at q1; rw [ns1]; have := sd q q0 q1; omega) r (by rw [nr1]; omega) (by rw [ns1]; omega)) lX12_399 mX12_tipOf vX12_tipOf (im_mo_ hM) k_mo_ rfl rfl rfl (by decide) ⟨Nat.zero_le _, Nat.zero_le _⟩ (Nat.le_of_ble_eq_true rfl) (k_i (fun z145 h145 y145 q145 => ?_))
                obtain ⟨rfl, w145⟩ := q145
                rw [nr1, ns1] at w145
                have tn := tip_nn (h mRoads) (hq mSits) r (h mRoads 2).toNat
                refine pw_callV (c := 12) (o := mo_) (As := [ii_ r, ii_ (hq mSits r), ii_ t, ii_ z145]) (rest := [ii_ (h mTotals r), ii_ r, rr_ G mTotals]) (pc := 148) dX12_rides_148 (c_worthOn hM b1 (by rw [nr1]; omega) (by rw [nr1]; omega) P (by rw [nr1, bf mOp (by decide), bf mArg (by decide), af mOp (by decide), af mArg (by decide)]; exact hw) r (hq mSits r) t z145 (by first | omega | (simp only [n_b1_mRoads, n_b1_mSits]; omega)) (by first | omega | (simp only [n_b1_mRoads, n_b1_mSits]; omega)) (by first | omega | (simp only [n_b1_mRoads, n_b1_mSits]; omega)) (by first | omega | (simp only [n_b1_mRoads, n_b1_mSits]; omega))) lX12_402 mX12_worthOn vX12_worthOn (im_mo_ hM) k_mo_ rfl rfl rfl (by decide) ⟨Nat.zero_le _, Nat.zero_le _⟩ (Nat.le_of_ble_eq_true rfl) (k_i (fun z148 h148 y148 q148 => ?_))
                obtain ⟨f148, w148⟩ := q148
                rw [nr1] at w148
                have w149 : z148 = wsi_ (h mRoads) P si r t := by
                  rw [w148, w145, (sd r (by omega) (by omega)).1]; unfold wsi_
                  rw [tip_cg (ro := h mRoads) (si := hq mSits) (sj := si) (sd r (by omega) (by omega)).1 (fun e e0 e1 => (sd e e0 (by omega)).1)]
                have wb := wsi_b (h mRoads) P si r t
                exact J151 _ _ (by first | (rw [if_pos (by omega)]; exact ⟨rfl, off_rf⟩) | (rw [if_neg (by omega)]; exact ⟨w149, off_mo f148 (by decide)⟩)) (by first | rfl | exact f148 mTotals (by decide)) (by omega)
              · refine pw_iconst (pc := 127) dX12_rides_127 ?_
                refine pw_goto (t := 151) (pc := 128) dX12_rides_128 (by decide) ?_
                exact J151 _ _ (by first | (rw [if_pos (by omega)]; exact ⟨rfl, off_rf⟩) | (rw [if_neg (by omega)]; exact ⟨w149, off_mo f148 (by decide)⟩)) (by first | rfl | exact f148 mTotals (by decide)) (by omega)
        exact L100 _ _ _ (by omega) (off_rf) (fun q q0 q1 => by rw [if_neg (by omega), af mTotals (by decide), Int.add_zero]) (Int.self_le_toNat _)
      · have nr : hq mRoads = h mRoads := af mRoads (by decide)
        have ok := rwh_ok (ro := h mRoads) (left := left) (g := hq mo_ 58) (by omega) hd (by omega) c19
        obtain ⟨n, rfl⟩ : ∃ n, nn9 = n + 1 := ⟨nn9 - 1, by have := bx_z left.toNat (by omega); omega⟩
        refine pw_aload_n (z := mo_) (pc := 22) dX12_rides_22 rfl rfl ?_
        refine pw_iload_n (z := left) (pc := 23) dX12_rides_23 rfl rfl ?_
        refine pw_callV (c := 12) (o := mo_) (As := [ii_ left]) (rest := []) (pc := 24) dX12_rides_24 (c_comesNow hM hq (by rw [nr]; omega) (by rw [nr]; omega) (by rw [nr]; exact hd) ag left (by first | omega) (by rw [nr]; exact ok.1)) lX12_539 mX12_comesNow vX12_comesNow (im_mo_ hM) k_mo_ rfl rfl rfl (by decide) ⟨Nat.zero_le _, Nat.zero_le _⟩ (Nat.le_of_ble_eq_true rfl) (k_i (fun z24 h24 y24 q24 => ?_))
        obtain ⟨e24, w24⟩ := q24
        have f24 : off_ [mo_] hq h24 := by rw [e24]; exact off_up off_rf (by decide)
        rw [nr] at w24
        have w25 : z24 = rwh_ (h mRoads) left (hq mo_ 58) := w24
        rw [← w25] at ok
        refine pw_istore (lv1 := [some (rr_ G mo_), some (ii_ t), some (ii_ left), some (ii_ free), some (ii_ z24), none]) (pc := 27) dX12_rides_27 (by decide) rfl rfl ?_
        refine pw_aload_n (z := mo_) (pc := 29) dX12_rides_29 rfl rfl ?_
        refine pw_iload (z := z24) (pc := 30) dX12_rides_30 rfl ?_
        refine pw_iload_n (z := t) (pc := 32) dX12_rides_32 rfl rfl ?_
        refine pw_iload_n (z := free) (pc := 33) dX12_rides_33 rfl rfl ?_
        have n_h24_mRoads : h24 mRoads = h mRoads := ((show h24 mRoads = hq mRoads from (f24 mRoads (by decide))).trans (show hq mRoads = h mRoads from (af mRoads (by decide))))
        refine pw_callV (c := 12) (o := mo_) (As := [ii_ z24, ii_ t, ii_ free]) (rest := []) (pc := 34) dX12_rides_34 (c_takes hM h24 (by first | omega | (simp only [n_h24_mRoads]; omega)) (by first | omega | (simp only [n_h24_mRoads]; omega)) (z24) (t) (free) (by first | omega | (simp only [n_h24_mRoads]; omega)) (by first | omega | (simp only [n_h24_mRoads]; omega)) (by first | omega | (simp only [n_h24_mRoads]; omega))) lX12_488 mX12_takes vX12_takes (im_mo_ hM) k_mo_ rfl rfl rfl (by decide) ⟨Nat.zero_le _, Nat.zero_le _⟩ (Nat.le_of_ble_eq_true rfl) (k_i (fun z34 h34 y34 q34 => ?_))
        obtain ⟨rfl, w34⟩ := q34
        refine pw_istore (lv1 := [some (rr_ G mo_), some (ii_ t), some (ii_ left), some (ii_ free), some (ii_ z24), some (ii_ z34)]) (pc := 37) dX12_rides_37 (by decide) rfl rfl ?_
        have tb := tks_b (h mRoads) z24 t free (h mRoads 0).toNat
        have tf := tks_f (h mRoads) z24 t free (h mRoads 0).toNat
        rw [n_h24_mRoads] at w34
        rw [← w34] at tb tf
        have pz := p8_ (s := z24) (by omega)
        have ew : rst_ (h mRoads) t left free (hq mo_ 58) = z34 := by unfold rst_; rw [show rwh_ (h mRoads) left (hq mo_ 58) = z24 by rw [w24]; rfl]; exact w34.symm
        refine pw_aload_n (z := mo_) (pc := 39) dX12_rides_39 rfl rfl ?_
        refine pw_getR (r := mSits) (pc := 40) dX12_rides_40 fX12_137 (im_mo_ hM) k_mo_ rfl fr_mSits ?_
        refine pw_iload (z := z24) (pc := 43) dX12_rides_43 rfl ?_
        refine pw_iload (z := z34) (pc := 45) dX12_rides_45 rfl ?_
        refine pw_iast (pc := 47) dX12_rides_47 (im_mSits hM) k_mSits 4 l_mSits (by first | omega | (simp only [n_h24_mRoads]; omega)) (by first | omega | (simp only [n_h24_mRoads]; omega)) (by first | omega | (simp only [n_h24_mRoads]; omega)) (by first | omega | (simp only [n_h24_mRoads]; omega)) ?_
        obtain ⟨g47, e47⟩ : ∃ x, x = up_ h24 mSits z24 z34 := ⟨_, rfl⟩
        refine pw_heq e47 ?_
        have J64 : ∀ (v : Int), (v = (if z34 < 0 then free else -1 - 2 ^ z34.toNat) ∧ ir_ v) → PW G RX12 cX12_rides 6 none (rm_ 5) 0 0 (zm_ G (qv_ (fun h' => off_ [mSits, mTotals, mFacts, mPile, mo_] h h' ∧ (∀ k, k ≠ 58 → k ≠ 59 → h' mo_ k = h mo_ k) ∧ h' mo_ 58 = (rdx_ (h mRoads) t (h mo_ 58) (h mo_ 59)).1 ∧ h' mo_ 59 = (rdx_ (h mRoads) t (h mo_ 58) (h mo_ 59)).2.2 ∧ (∀ r, 0 ≤ r → r < h mRoads 2 → h' mTotals r = h mTotals r + if (rdx_ (h mRoads) t (h mo_ 58) (h mo_ 59)).2.1 r < 0 then 0 else wsi_ (h mRoads) P (rdx_ (h mRoads) t (h mo_ 58) (h mo_ 59)).2.1 r t)))) 64 [some (rr_ G mo_), some (ii_ t), some (ii_ left), some (ii_ free), some (ii_ z24), some (ii_ z34)] [ii_ v, ii_ free] g47 := by
          intro v hv
          refine pw_iandX (pc := 64) dX12_rides_64 (by first | omega | (simp only [n_h24_mRoads]; omega)) (by first | omega | (simp only [n_h24_mRoads]; omega)) (fun w64 r64 x64 v64 => ?_)
          have fw : w64 = (if z34 < 0 then free else free - 2 ^ z34.toNat) ∧ 0 ≤ w64 ∧ w64 ≤ 15 := by
            by_cases c : z34 < 0
            · rw [if_pos c] at hv ⊢
              have e := x64 (by omega) (by omega)
              rw [hv.1, Nat.and_self] at e; omega
            · rw [if_neg c] at hv ⊢
              have p9 := p8_ (s := z34) (by omega)
              have e0 := v64 (by omega) (by omega)
              rw [hv.1] at e0
              have e := bclr_ (l := free) (r := z34) (by omega) (by omega) (tf (by omega)) e0
              exact ⟨e.1, e.2.1, by omega⟩
          refine pw_istore_n (lv1 := [some (rr_ G mo_), some (ii_ t), some (ii_ left), some (ii_ w64), some (ii_ z24), some (ii_ z34)]) (pc := 65) dX12_rides_65 rfl (by decide) rfl rfl ?_
          refine pw_iload_n (z := left) (pc := 66) dX12_rides_66 rfl rfl ?_
          refine pw_iconst (pc := 67) dX12_rides_67 ?_
          refine pw_iload (z := z24) (pc := 68) dX12_rides_68 rfl ?_
          refine pw_ishl1 (pc := 70) dX12_rides_70 (by first | omega | (simp only [n_h24_mRoads]; omega)) ?_
          refine pw_iconst (pc := 71) dX12_rides_71 ?_
          refine pw_inot (pc := 72) dX12_rides_72 (by first | omega | (simp only [n_h24_mRoads]; omega)) ?_
          refine pw_iandX (pc := 73) dX12_rides_73 (by first | omega | (simp only [n_h24_mRoads]; omega)) (by first | omega | (simp only [n_h24_mRoads]; omega)) (fun w73 r73 x73 v73 => ?_)
          have bw := bclr_ (l := left) (r := z24) (by omega) (by omega) ok.2.2 (v73 (by omega) (by omega))
          refine pw_istore_n (lv1 := [some (rr_ G mo_), some (ii_ t), some (ii_ w73), some (ii_ w64), some (ii_ z24), some (ii_ z34)]) (pc := 74) dX12_rides_74 rfl (by decide) rfl rfl ?_
          have m59 : h24 mo_ 59 = hq mo_ 59 := by rw [e24, up_at, if_neg (by decide)]
          refine pw_aload_n (z := mo_) (pc := 75) dX12_rides_75 rfl rfl ?_
          refine pw_dup (pc := 76) dX12_rides_76 rfl ?_
          refine pw_gI (x := 59) (pc := 77) dX12_rides_77 fX12_542 (im_mo_ hM) k_mo_ rfl rfl (fun r77 => ?_)
          have n_g47_mo__59 : g47 mo_ 59 = h24 mo_ 59 := (by rw [e47, up_off (by decide)])
          rw [n_g47_mo__59] at r77 ⊢
          have J90 : ∀ (v9 : Int), (v9 = (if z34 < 0 then 1 else 0) ∧ 0 ≤ v9 ∧ v9 ≤ 1) → PW G RX12 cX12_rides 6 none (rm_ 5) 0 0 (zm_ G (qv_ (fun h' => off_ [mSits, mTotals, mFacts, mPile, mo_] h h' ∧ (∀ k, k ≠ 58 → k ≠ 59 → h' mo_ k = h mo_ k) ∧ h' mo_ 58 = (rdx_ (h mRoads) t (h mo_ 58) (h mo_ 59)).1 ∧ h' mo_ 59 = (rdx_ (h mRoads) t (h mo_ 58) (h mo_ 59)).2.2 ∧ (∀ r, 0 ≤ r → r < h mRoads 2 → h' mTotals r = h mTotals r + if (rdx_ (h mRoads) t (h mo_ 58) (h mo_ 59)).2.1 r < 0 then 0 else wsi_ (h mRoads) P (rdx_ (h mRoads) t (h mo_ 58) (h mo_ 59)).2.1 r t)))) 90 [some (rr_ G mo_), some (ii_ t), some (ii_ w73), some (ii_ w64), some (ii_ z24), some (ii_ z34)] [ii_ v9, ii_ (hq mo_ 59), rr_ G mo_] g47 := by
            intro v9 dv9
            refine pw_iadd (pc := 90) dX12_rides_90 ?_
            refine pw_pI (x := 59) (pc := 91) dX12_rides_91 fX12_542 (im_mo_ hM) k_mo_ rfl rfl (by first | omega | (simp only [n_g47_mo__59, n_h24_mRoads]; omega)) ?_
            obtain ⟨g91, e91⟩ : ∃ x, x = up_ g47 mo_ 59 ((hq mo_ 59) + v9) := ⟨_, rfl⟩
            refine pw_heq e91 ?_
            have m58 : g91 mo_ 58 = gn_ (hq mo_ 58) := by rw [e91, up_at, if_neg (by decide), e47, up_off (by decide), e24, up_same]
            have m60 : g91 mo_ 59 = hq mo_ 59 + v9 := by rw [e91, up_same]
            refine pw_goto (t := 18) (pc := 94) dX12_rides_94 (by decide) ?_
            refine pw_less (lv1 := [some (rr_ G mo_), some (ii_ t), some (ii_ w73), some (ii_ w64), none, none]) rfl (by intro i v; (match i with | 0 => simp | 1 => simp | 2 => simp | 3 => simp | 4 => simp | 5 => simp | n + 6 => simp)) ?_
            exact ih18 n _ _ (ob_ si (rwh_ (h mRoads) left (hq mo_ 58)) (rst_ (h mRoads) t left free (hq mo_ 58))) _ (by omega) (by rw [bw.1, show (left - 2 ^ z24.toNat).toNat = left.toNat - 2 ^ z24.toNat by rw [pc_]; omega]; have e1 := bx_n left.toNat (by omega) z24.toNat (by omega) (ib_.1.mp (by rw [tn_c al.1]; exact ok.2.2)); omega) (by rw [e91, e47]; exact off_up (off_up (off_tr af (off_mo f24 (by decide))) (by decide)) (by decide)) (fun k k1 k2 => by rw [e91, up_at, if_neg k2, e47, up_off (by decide), e24, up_at, if_neg k1]; exact ao k k1 k2) (by rw [m58]; exact gn_b _) (by rw [m60]; have := dv9.2; omega) (fun r r0 r1 hx => by
                      rw [bw.1] at hx
                      rw [e91, up_off (by decide), e47, up_at]
                      unfold ob_
                      rw [← w25]
                      by_cases c : r = z24
                      · rw [if_pos c, if_pos c, ew]; omega
                      · rw [if_neg c, if_neg c, f24 mSits (by decide)]
                        refine asi r r0 r1 ?_
                        have e1 := bx_o left.toNat (by omega) z24.toNat (by omega) r.toNat (by omega) (ib_.1.mp (by rw [tn_c al.1]; exact ok.2.2)) (by rw [show left - 2 ^ z24.toNat = ((left.toNat - 2 ^ z24.toNat : Nat) : Int) by rw [pc_]; have := bw.2.2; rw [pc_] at this; omega] at hx; exact ib_.2.mp hx)
                        rcases e1 with e1 | e1
                        · exfalso; omega
                        · rw [← tn_c al.1]; exact ib_.2.mpr e1) (by
                      rw [← ar, m58, m60, bw.1, fw.1, dv9.1]
                      show _ = rdl_ (h mRoads) t n (gn_ (hq mo_ 58)) (left - 2 ^ (rwh_ (h mRoads) left (hq mo_ 58)).toNat) (if rst_ (h mRoads) t left free (hq mo_ 58) < 0 then free else free - 2 ^ (rst_ (h mRoads) t left free (hq mo_ 58)).toNat) (ob_ si (rwh_ (h mRoads) left (hq mo_ 58)) (rst_ (h mRoads) t left free (hq mo_ 58))) (hq mo_ 59 + if rst_ (h mRoads) t left free (hq mo_ 58) < 0 then 1 else 0)
                      rw [← w25, ew]) (by omega)
          rw [m59]
          refine pw_iload (z := z34) (pc := 80) dX12_rides_80 rfl ?_
          refine pw_if_ge (t := 89) (pc := 82) dX12_rides_82 (by decide) (by first | omega | (simp only [n_g47_mo__59, n_h24_mRoads]; omega)) (fun c82 => ?_) (fun c82 => ?_)
          · refine pw_iconst (pc := 89) dX12_rides_89 ?_
            exact J90 _ (by first | (rw [if_pos (by omega)]; omega) | (rw [if_neg (by omega)]; omega))
          · refine pw_iconst (pc := 85) dX12_rides_85 ?_
            refine pw_goto (t := 90) (pc := 86) dX12_rides_86 (by decide) ?_
            exact J90 _ (by first | (rw [if_pos (by omega)]; omega) | (rw [if_neg (by omega)]; omega))
        refine pw_iload_n (z := free) (pc := 48) dX12_rides_48 rfl rfl ?_
        refine pw_iload (z := z34) (pc := 49) dX12_rides_49 rfl ?_
        refine pw_if_ge (t := 58) (pc := 51) dX12_rides_51 (by decide) (by first | omega | (simp only [n_h24_mRoads]; omega)) (fun c51 => ?_) (fun c51 => ?_)
        · have p9 := p8_ (s := z34) (by omega)
          refine pw_iconst (pc := 58) dX12_rides_58 ?_
          refine pw_iload (z := z34) (pc := 59) dX12_rides_59 rfl ?_
          refine pw_ishl1 (pc := 61) dX12_rides_61 (by first | omega | (simp only [n_h24_mRoads]; omega)) ?_
          refine pw_iconst (pc := 62) dX12_rides_62 ?_
          refine pw_inot (pc := 63) dX12_rides_63 (by first | omega | (simp only [n_h24_mRoads]; omega)) ?_
          exact J64 _ (by first | (rw [if_pos (by omega)]; exact ⟨rfl, by omega⟩) | (rw [if_neg (by omega)]; exact ⟨rfl, by omega⟩))
        · refine pw_iload_n (z := free) (pc := 54) dX12_rides_54 rfl rfl ?_
          refine pw_goto (t := 64) (pc := 55) dX12_rides_55 (by decide) ?_
          exact J64 _ (by first | (rw [if_pos (by omega)]; exact ⟨rfl, by omega⟩) | (rw [if_neg (by omega)]; exact ⟨rfl, by omega⟩))
  exact L18 _ (h mRoads 2).toNat _ _ (fun _ => -1) _ (by omega) (by rw [pR, show (((2 ^ (h mRoads 2).toNat : Nat) : Int) - 1).toNat = 2 ^ (h mRoads 2).toNat - 1 by omega]; exact bi.1) (off_rf) (fun _ _ _ => rfl) (hg) (by omega) (fun r r0 r1 hx => by exfalso; have e1 := bi.2.2 r.toNat (by omega); rw [pR, show (((2 ^ (h mRoads 2).toNat : Nat) : Int) - 1) = ((2 ^ (h mRoads 2).toNat - 1 : Nat) : Int) by omega] at hx; have e2 := ib_.2.mp hx; omega) (rfl) (Int.self_le_toNat _)

set_option maxHeartbeats 4000000 in
set_option maxRecDepth 100000 in
theorem c_years {G : GT_} (hM : okM_ G) (h : PH_) (hS : 2 ≤ h mRoads 0 ∧ h mRoads 0 ≤ 4) (hR : 0 ≤ h mRoads 2 ∧ h mRoads 2 ≤ h mRoads 0) (hT : 0 ≤ h mRoads 1 ∧ h mRoads 1 ≤ 4) (hpa : ∀ r, 0 ≤ r → r < 4 → 0 ≤ h mRoads (31 + 4 * r + 2) ∧ h mRoads (31 + 4 * r + 2) ≤ 9999) (hd : ∀ r, 0 ≤ r → r < h mRoads 2 → 1 ≤ h mRoads (31 + 4 * r + 1) ∧ h mRoads (31 + 4 * r + 1) ≤ 9) (P : List (Int × Int)) (hw : 0 ≤ h mRoads 5 → law_ (h mOp) (h mArg) (h mRoads 5) P) (sd jn w : Int) (h1 : ir_ sd) (h2 : ir_ jn) (h3 : ir_ w) : PC G yX12_years cX12_years 6 (some .int) 6 [rr_ G mo_, ii_ sd, ii_ jn, ii_ w] h (qi_ (fun z h' => off_ [mSits, mTotals, mFacts, mPile, mo_] h h' ∧ (∀ q, q ≠ 0 → q ≠ 58 → q ≠ 59 → h' mo_ q = h mo_ q) ∧ h' mo_ 0 = 0 ∧ z = yrs_ (h mRoads) P sd jn w)) := by
  refine PC.of (lv := [some (rr_ G mo_), some (ii_ sd), some (ii_ jn), some (ii_ w), none, none]) (by decide +kernel) (Nat.le_of_ble_eq_true rfl) rfl rfl ?_
  refine pw_aload_n (z := mo_) (pc := 0) dX12_years_0 rfl rfl ?_
  refine pw_iconst (pc := 1) dX12_years_1 ?_
  refine pw_pI (x := 0) (pc := 2) dX12_years_2 fX12_1 (im_mo_ hM) k_mo_ rfl rfl (by first | omega) ?_
  obtain ⟨g2, e2⟩ : ∃ x, x = up_ h mo_ 0 0 := ⟨_, rfl⟩
  refine pw_heq e2 ?_
  refine pw_iload_n (z := sd) (pc := 5) dX12_years_5 rfl rfl ?_
  refine pw_iconst (pc := 6) dX12_years_6 ?_
  refine pw_sipush (pc := 7) dX12_years_7 rfl ?_
  refine pw_callS (As := [ii_ sd, ii_ 0, ii_ 9999]) (rest := []) (pc := 10) dX12_years_10 (c_within g2 (sd) (0) (9999) (by first | omega) (by first | omega) (by first | omega)) lX12_308 mX12_within sX12_within rfl rfl (by decide) ⟨Nat.zero_le _, Nat.zero_le _⟩ (Nat.le_of_ble_eq_true rfl) (k_i (fun z10 h10 y10 q10 => ?_))
  obtain ⟨rfl, ⟨rfl, p10⟩ | ⟨rfl, p10⟩⟩ := q10
  · refine pw_if_eq (t := 42) (pc := 13) dX12_years_13 (by decide) (by first | omega) (fun c13 => absurd c13 (by decide)) (fun _ => ?_)
    refine pw_iload_n (z := jn) (pc := 16) dX12_years_16 rfl rfl ?_
    refine pw_iconst (pc := 17) dX12_years_17 ?_
    refine pw_bipush (pc := 18) dX12_years_18 rfl ?_
    refine pw_callS (As := [ii_ jn, ii_ 1, ii_ 60]) (rest := []) (pc := 20) dX12_years_20 (c_within g2 (jn) (1) (60) (by first | omega) (by first | omega) (by first | omega)) lX12_308 mX12_within sX12_within rfl rfl (by decide) ⟨Nat.zero_le _, Nat.zero_le _⟩ (Nat.le_of_ble_eq_true rfl) (k_i (fun z20 h20 y20 q20 => ?_))
    obtain ⟨rfl, ⟨rfl, p20⟩ | ⟨rfl, p20⟩⟩ := q20
    · refine pw_if_eq (t := 42) (pc := 23) dX12_years_23 (by decide) (by first | omega) (fun c23 => absurd c23 (by decide)) (fun _ => ?_)
      refine pw_iload_n (z := w) (pc := 26) dX12_years_26 rfl rfl ?_
      refine pw_iconst (pc := 27) dX12_years_27 ?_
      refine pw_iconst (pc := 28) dX12_years_28 ?_
      refine pw_callS (As := [ii_ w, ii_ 0, ii_ 1]) (rest := []) (pc := 29) dX12_years_29 (c_within g2 (w) (0) (1) (by first | omega) (by first | omega) (by first | omega)) lX12_308 mX12_within sX12_within rfl rfl (by decide) ⟨Nat.zero_le _, Nat.zero_le _⟩ (Nat.le_of_ble_eq_true rfl) (k_i (fun z29 h29 y29 q29 => ?_))
      obtain ⟨rfl, ⟨rfl, p29⟩ | ⟨rfl, p29⟩⟩ := q29
      · refine pw_if_eq (t := 42) (pc := 32) dX12_years_32 (by decide) (by first | omega) (fun c32 => absurd c32 (by decide)) (fun _ => ?_)
        refine pw_aload_n (z := mo_) (pc := 35) dX12_years_35 rfl rfl ?_
        refine pw_callV (c := 12) (o := mo_) (As := []) (rest := []) (pc := 36) dX12_years_36 (c_riders hM g2) lX12_334 mX12_riders vX12_riders (im_mo_ hM) k_mo_ rfl rfl rfl (by decide) ⟨Nat.zero_le _, Nat.zero_le _⟩ (Nat.le_of_ble_eq_true rfl) (k_i (fun z36 h36 y36 q36 => ?_))
        obtain ⟨rfl, rfl⟩ := q36
        have n_g2_mRoads : g2 mRoads = h mRoads := (by rw [e2]; exact up_off (by decide))
        rw [n_g2_mRoads] at y36 ⊢
        refine pw_if_ne (t := 44) (pc := 39) dX12_years_39 (by decide) (by first | omega | (simp only [n_g2_mRoads]; omega)) (fun c39 => ?_) (fun c39 => ?_)
        · have gd : (0 ≤ sd ∧ sd ≤ 9999) ∧ (1 ≤ jn ∧ jn ≤ 60) ∧ (0 ≤ w ∧ w ≤ 1) ∧ h mRoads 2 ≠ 0 := by omega
          have k0 : off_ [mSits, mTotals, mFacts, mPile, mo_] h g2 := by rw [e2]; exact off_up off_rf (by decide)
          refine pw_aload_n (z := mo_) (pc := 44) dX12_years_44 rfl rfl ?_
          refine pw_iload_n (z := sd) (pc := 45) dX12_years_45 rfl rfl ?_
          refine pw_i2l (pc := 46) dX12_years_46 (by first | omega | (simp only [n_g2_mRoads]; omega)) ?_
          refine pw_pJ (x := 58) (pc := 47) dX12_years_47 fX12_525 (im_mo_ hM) k_mo_ rfl rfl (by first | omega | (simp only [n_g2_mRoads]; omega)) ?_
          obtain ⟨g47, e47⟩ : ∃ x, x = up_ g2 mo_ 58 sd := ⟨_, rfl⟩
          refine pw_heq e47 ?_
          refine pw_aload_n (z := mo_) (pc := 50) dX12_years_50 rfl rfl ?_
          refine pw_iconst (pc := 51) dX12_years_51 ?_
          refine pw_pI (x := 59) (pc := 52) dX12_years_52 fX12_542 (im_mo_ hM) k_mo_ rfl rfl (by first | omega | (simp only [n_g2_mRoads]; omega)) ?_
          obtain ⟨g52, e52⟩ : ∃ x, x = up_ g47 mo_ 59 0 := ⟨_, rfl⟩
          refine pw_heq e52 ?_
          refine pw_iconst (pc := 55) dX12_years_55 ?_
          refine pw_istore (lv1 := [some (rr_ G mo_), some (ii_ sd), some (ii_ jn), some (ii_ w), some (ii_ 0), none]) (pc := 56) dX12_years_56 (by decide) rfl rfl ?_
          have L58 : ∀ (nn : Nat) (r : Int) (a1 : PH_), (0 ≤ r ∧ r ≤ h mRoads 2) → (off_ [mTotals] g52 a1) → (∀ q, 0 ≤ q → q < r → a1 mTotals q = h mRoads (31 + 4 * q + 2)) → ((h mRoads 2 - r + 1 : Int) ≤ nn) → PW G RX12 cX12_years 6 (some .int) (rm_ 6) 0 0 (zm_ G (qi_ (fun z h' => off_ [mSits, mTotals, mFacts, mPile, mo_] h h' ∧ (∀ q, q ≠ 0 → q ≠ 58 → q ≠ 59 → h' mo_ q = h mo_ q) ∧ h' mo_ 0 = 0 ∧ z = yrs_ (h mRoads) P sd jn w))) 58 [some (rr_ G mo_), some (ii_ sd), some (ii_ jn), some (ii_ w), some (ii_ r), none] [] a1 := by
            intro nn
            induction nn with
            | zero => intro r a1 ak af ad ams; exfalso; omega
            | succ nn ih58 =>
              intro r a1 ak af ad ams
              refine pw_iload (z := r) (pc := 58) dX12_years_58 rfl ?_
              refine pw_aload_n (z := mo_) (pc := 60) dX12_years_60 rfl rfl ?_
              refine pw_callV (c := 12) (o := mo_) (As := []) (rest := [ii_ r]) (pc := 61) dX12_years_61 (c_riders hM a1) lX12_334 mX12_riders vX12_riders (im_mo_ hM) k_mo_ rfl rfl rfl (by decide) ⟨Nat.zero_le _, Nat.zero_le _⟩ (Nat.le_of_ble_eq_true rfl) (k_i (fun z61 h61 y61 q61 => ?_))
              obtain ⟨rfl, rfl⟩ := q61
              have n_a1_mRoads : a1 mRoads = h mRoads := ((((show a1 mRoads = g52 mRoads from (af mRoads (by decide))).trans (show g52 mRoads = g47 mRoads from (by rw [e52]; exact up_off (by decide)))).trans (show g47 mRoads = g2 mRoads from (by rw [e47]; exact up_off (by decide)))).trans (show g2 mRoads = h mRoads from (by rw [e2]; exact up_off (by decide))))
              rw [n_a1_mRoads] at y61 ⊢
              refine pw_icmp_ge (t := 87) (pc := 64) dX12_years_64 (by decide) (by first | omega | (simp only [n_a1_mRoads, n_g2_mRoads]; omega)) (by first | omega | (simp only [n_a1_mRoads, n_g2_mRoads]; omega)) (fun c64 => ?_) (fun c64 => ?_)
              · have gf : off_ [mSits, mTotals, mFacts, mPile, mo_] h a1 := off_tr (by rw [e52, e47]; exact off_up (off_up k0 (by decide)) (by decide)) (off_mo af (by decide))
                have gm : a1 mo_ = ob_ (ob_ (ob_ (h mo_) 0 0) 58 sd) 59 0 := by rw [af mo_ (by decide), e52, up_ob, e47, up_ob, e2, up_ob]
                refine pw_iconst (pc := 87) dX12_years_87 ?_
                refine pw_istore (lv1 := [some (rr_ G mo_), some (ii_ sd), some (ii_ jn), some (ii_ w), some (ii_ 0), none]) (pc := 88) dX12_years_88 (by decide) rfl rfl ?_
                have L90 : ∀ (nn : Nat) (k : Int) (b1 : PH_), (0 ≤ k ∧ k ≤ jn) → (off_ [mSits, mTotals, mFacts, mPile, mo_] h b1) → (∀ q, q ≠ 0 → q ≠ 58 → q ≠ 59 → b1 mo_ q = h mo_ q) → (b1 mo_ 0 = 0) → (b1 mo_ 58 = (yk_ (h mRoads) P k.toNat (sd, 0, pas_ (h mRoads))).1 ∧ b1 mo_ 59 = (yk_ (h mRoads) P k.toNat (sd, 0, pas_ (h mRoads))).2.1 ∧ ∀ r, 0 ≤ r → r < h mRoads 2 → b1 mTotals r = (yk_ (h mRoads) P k.toNat (sd, 0, pas_ (h mRoads))).2.2 r) → ((0 ≤ b1 mo_ 58 ∧ b1 mo_ 58 < 2147483648) ∧ (0 ≤ b1 mo_ 59 ∧ b1 mo_ 59 ≤ 16 * k) ∧ ∀ r, 0 ≤ r → r < h mRoads 2 → 0 ≤ b1 mTotals r ∧ b1 mTotals r ≤ 9999 + 3996 * k) → ((jn - k + 1 : Int) ≤ nn) → PW G RX12 cX12_years 6 (some .int) (rm_ 6) 0 0 (zm_ G (qi_ (fun z h' => off_ [mSits, mTotals, mFacts, mPile, mo_] h h' ∧ (∀ q, q ≠ 0 → q ≠ 58 → q ≠ 59 → h' mo_ q = h mo_ q) ∧ h' mo_ 0 = 0 ∧ z = yrs_ (h mRoads) P sd jn w))) 90 [some (rr_ G mo_), some (ii_ sd), some (ii_ jn), some (ii_ w), some (ii_ k), none] [] b1 := by
                  intro nn
                  induction nn with
                  | zero => intro k b1 bk bf bo b0 bn bb ams; exfalso; omega
                  | succ nn ih90 =>
                    intro k b1 bk bf bo b0 bn bb ams
                    refine pw_iload (z := k) (pc := 90) dX12_years_90 rfl ?_
                    refine pw_iload_n (z := jn) (pc := 92) dX12_years_92 rfl rfl ?_
                    refine pw_icmp_ge (t := 126) (pc := 93) dX12_years_93 (by decide) (by first | omega | (simp only [n_a1_mRoads, n_g2_mRoads]; omega)) (by first | omega | (simp only [n_a1_mRoads, n_g2_mRoads]; omega)) (fun c93 => ?_) (fun c93 => ?_)
                    · have nb : b1 mRoads = h mRoads := bf mRoads (by decide)
                      have kj : k = jn := by omega
                      refine pw_iload_n (z := w) (pc := 126) dX12_years_126 rfl rfl ?_
                      refine pw_if_ne (t := 138) (pc := 127) dX12_years_127 (by decide) (by first | omega | (simp only [n_a1_mRoads, n_g2_mRoads]; omega)) (fun c127 => ?_) (fun c127 => ?_)
                      · refine pw_aload_n (z := mo_) (pc := 138) dX12_years_138 rfl rfl ?_
                        refine pw_gI (x := 59) (pc := 139) dX12_years_139 fX12_542 (im_mo_ hM) k_mo_ rfl rfl (fun r139 => ?_)
                        exact pw_iret (pc := 142) dX12_years_142 (by first | omega | (simp only [n_a1_mRoads, n_g2_mRoads]; omega)) (by
                                  first
                                  | exact ⟨by rw [e2]; exact off_up off_rf (by decide), fun q q0 q1 q2 => by rw [e2, up_at, if_neg q0], by rw [e2, up_same], by unfold yrs_; rw [if_f (by omega)]⟩
                                  | (refine ⟨bf, bo, b0, ?_⟩
                                     unfold yrs_
                                     rw [if_t gd, ← kj]
                                     first
                                     | (rw [if_pos (by omega), w132]; exact spr_cg (by omega) bn.2.2)
                                     | (rw [if_neg (by omega)]; exact bn.2.1)))
                      · refine pw_aload_n (z := mo_) (pc := 130) dX12_years_130 rfl rfl ?_
                        refine pw_iconst (pc := 131) dX12_years_131 ?_
                        refine pw_callV (c := 12) (o := mo_) (As := [ii_ 0]) (rest := []) (pc := 132) dX12_years_132 (c_spreadAt hM b1 (by rw [nb]; omega) (by rw [nb]; omega) (by rw [nb]; omega) 0 (by first | omega | (simp only [n_a1_mRoads, n_g2_mRoads]; omega)) (fun r r0 r1 => by rw [nb] at r1; have := bb.2.2 r r0 r1; rw [Int.zero_add]; omega)) lX12_431 mX12_spreadAt vX12_spreadAt (im_mo_ hM) k_mo_ rfl rfl rfl (by decide) ⟨Nat.zero_le _, Nat.zero_le _⟩ (Nat.le_of_ble_eq_true rfl) (k_i (fun z132 h132 y132 q132 => ?_))
                        obtain ⟨rfl, w132⟩ := q132
                        rw [nb] at w132
                        have sb := spr_bb (f := b1 mTotals) (R := h mRoads 2) (by omega) bb.2.2
                        refine pw_goto (t := 142) (pc := 135) dX12_years_135 (by decide) ?_
                        exact pw_iret (pc := 142) dX12_years_142 (by first | omega | (simp only [n_a1_mRoads, n_g2_mRoads]; omega)) (by
                                  first
                                  | exact ⟨by rw [e2]; exact off_up off_rf (by decide), fun q q0 q1 q2 => by rw [e2, up_at, if_neg q0], by rw [e2, up_same], by unfold yrs_; rw [if_f (by omega)]⟩
                                  | (refine ⟨bf, bo, b0, ?_⟩
                                     unfold yrs_
                                     rw [if_t gd, ← kj]
                                     first
                                     | (rw [if_pos (by omega), w132]; exact spr_cg (by omega) bn.2.2)
                                     | (rw [if_neg (by omega)]; exact bn.2.1)))
                    · refine pw_iconst (pc := 96) dX12_years_96 ?_
                      refine pw_istore (lv1 := [some (rr_ G mo_), some (ii_ sd), some (ii_ jn), some (ii_ w), some (ii_ k), some (ii_ 0)]) (pc := 97) dX12_years_97 (by decide) rfl rfl ?_
                      have L99 : ∀ (nn : Nat) (t : Int) (c1 : PH_), (0 ≤ t ∧ t ≤ h mRoads 1) → (off_ [mSits, mTotals, mFacts, mPile, mo_] h c1) → (∀ q, q ≠ 0 → q ≠ 58 → q ≠ 59 → c1 mo_ q = h mo_ q) → (c1 mo_ 0 = 0) → (c1 mo_ 58 = (yt_ (h mRoads) P t.toNat (yk_ (h mRoads) P k.toNat (sd, 0, pas_ (h mRoads)))).1 ∧ c1 mo_ 59 = (yt_ (h mRoads) P t.toNat (yk_ (h mRoads) P k.toNat (sd, 0, pas_ (h mRoads)))).2.1 ∧ ∀ r, 0 ≤ r → r < h mRoads 2 → c1 mTotals r = (yt_ (h mRoads) P t.toNat (yk_ (h mRoads) P k.toNat (sd, 0, pas_ (h mRoads)))).2.2 r) → ((0 ≤ c1 mo_ 58 ∧ c1 mo_ 58 < 2147483648) ∧ (0 ≤ c1 mo_ 59 ∧ c1 mo_ 59 ≤ 16 * k + 4 * t) ∧ ∀ r, 0 ≤ r → r < h mRoads 2 → 0 ≤ c1 mTotals r ∧ c1 mTotals r ≤ 9999 + 3996 * k + 999 * t) → ((h mRoads 1 - t + 1 : Int) ≤ nn) → PW G RX12 cX12_years 6 (some .int) (rm_ 6) 0 0 (zm_ G (qi_ (fun z h' => off_ [mSits, mTotals, mFacts, mPile, mo_] h h' ∧ (∀ q, q ≠ 0 → q ≠ 58 → q ≠ 59 → h' mo_ q = h mo_ q) ∧ h' mo_ 0 = 0 ∧ z = yrs_ (h mRoads) P sd jn w))) 99 [some (rr_ G mo_), some (ii_ sd), some (ii_ jn), some (ii_ w), some (ii_ k), some (ii_ t)] [] c1 := by
                        intro nn
                        induction nn with
                        | zero => intro t c1 ck cf co c0 cn cb ams; exfalso; omega
                        | succ nn ih99 =>
                          intro t c1 ck cf co c0 cn cb ams
                          refine pw_iload (z := t) (pc := 99) dX12_years_99 rfl ?_
                          refine pw_aload_n (z := mo_) (pc := 101) dX12_years_101 rfl rfl ?_
                          refine pw_callV (c := 12) (o := mo_) (As := []) (rest := [ii_ t]) (pc := 102) dX12_years_102 (c_stretches hM c1) lX12_368 mX12_stretches vX12_stretches (im_mo_ hM) k_mo_ rfl rfl rfl (by decide) ⟨Nat.zero_le _, Nat.zero_le _⟩ (Nat.le_of_ble_eq_true rfl) (k_i (fun z102 h102 y102 q102 => ?_))
                          obtain ⟨rfl, rfl⟩ := q102
                          have n_c1_mRoads : c1 mRoads = h mRoads := (cf mRoads (by decide))
                          rw [n_c1_mRoads] at y102 ⊢
                          refine pw_icmp_ge (t := 120) (pc := 105) dX12_years_105 (by decide) (by first | omega | (simp only [n_a1_mRoads, n_c1_mRoads, n_g2_mRoads]; omega)) (by first | omega | (simp only [n_a1_mRoads, n_c1_mRoads, n_g2_mRoads]; omega)) (fun c105 => ?_) (fun c105 => ?_)
                          · refine pw_iinc (z := k) (lv1 := [some (rr_ G mo_), some (ii_ sd), some (ii_ jn), some (ii_ w), some (ii_ (k + 1)), some (ii_ t)]) (pc := 120) dX12_years_120 rfl (by decide) rfl rfl ?_
                            refine pw_goto (t := 90) (pc := 123) dX12_years_123 (by decide) ?_
                            refine pw_less (lv1 := [some (rr_ G mo_), some (ii_ sd), some (ii_ jn), some (ii_ w), some (ii_ (k + 1)), none]) rfl (by intro i v; (match i with | 0 => simp | 1 => simp | 2 => simp | 3 => simp | 4 => simp | 5 => simp | n + 6 => simp)) ?_
                            exact ih90 _ _ (by omega) (cf) (co) (c0) (by rw [yk_s bk.1, ← show t = h mRoads 1 by omega]; exact cn) (⟨cb.1, by have := cb.2.1; omega, fun r r0 r1 => by have := cb.2.2 r r0 r1; omega⟩) (by omega)
                          · have nc : c1 mRoads = h mRoads := cf mRoads (by decide)
                            refine pw_aload_n (z := mo_) (pc := 108) dX12_years_108 rfl rfl ?_
                            refine pw_iload (z := t) (pc := 109) dX12_years_109 rfl ?_
                            refine pw_callV (c := 12) (o := mo_) (As := [ii_ t]) (rest := []) (pc := 111) dX12_years_111 (c_rides hM c1 (by rw [nc]; omega) (by rw [nc]; omega) (by rw [nc]; exact hd) P (by rw [nc, cf mOp (by decide), cf mArg (by decide)]; exact hw) cb.1 (by have := cb.2.1; omega) t (by first | omega | (simp only [n_a1_mRoads, n_c1_mRoads, n_g2_mRoads]; omega)) (fun r r0 r1 => by rw [nc] at r1; have := cb.2.2 r r0 r1; omega)) lX12_545 mX12_rides vX12_rides (im_mo_ hM) k_mo_ rfl rfl rfl (by decide) ⟨Nat.zero_le _, Nat.zero_le _⟩ (Nat.le_of_ble_eq_true rfl) (k_v (fun h111 q111 => ?_))
                            obtain ⟨f111, o111, g111, n111, t111⟩ := q111
                            rw [nc] at g111 n111 t111
                            rw [cn.1, cn.2.1] at g111 n111 t111
                            have rb := rdl_b (ro := h mRoads) (t := t) (h mRoads 2).toNat (yt_ (h mRoads) P t.toNat (yk_ (h mRoads) P k.toNat (sd, 0, pas_ (h mRoads)))).1 (2 ^ (h mRoads 2).toNat - 1) (2 ^ (h mRoads 0).toNat - 1) (fun _ => -1) (yt_ (h mRoads) P t.toNat (yk_ (h mRoads) P k.toNat (sd, 0, pas_ (h mRoads)))).2.1 (by rw [← cn.1]; exact cb.1)
                            have cb2 := cb.2.1
                            rw [cn.2.1] at cb2
                            refine pw_iinc (z := t) (lv1 := [some (rr_ G mo_), some (ii_ sd), some (ii_ jn), some (ii_ w), some (ii_ k), some (ii_ (t + 1))]) (pc := 114) dX12_years_114 rfl (by decide) rfl rfl ?_
                            refine pw_goto (t := 99) (pc := 117) dX12_years_117 (by decide) ?_
                            exact ih99 _ _ (by omega) (off_tr cf f111) (fun q q0 q1 q2 => by rw [o111 q q1 q2]; exact co q q0 q1 q2) (by rw [o111 0 (by decide) (by decide)]; exact c0) (by rw [yt_s ck.1]; exact ⟨g111, n111, fun r r0 r1 => by rw [t111 r r0 r1, cn.2.2 r r0 r1]; rfl⟩) (⟨by rw [g111]; exact rb.1, by rw [n111]; have r2 := rb.2; unfold rdx_; omega, fun r r0 r1 => by rw [t111 r r0 r1]; have c5 := cb.2.2 r r0 r1; have c6 := wsi_b (h mRoads) P (rdx_ (h mRoads) t (yt_ (h mRoads) P t.toNat (yk_ (h mRoads) P k.toNat (sd, 0, pas_ (h mRoads)))).1 (yt_ (h mRoads) P t.toNat (yk_ (h mRoads) P k.toNat (sd, 0, pas_ (h mRoads)))).2.1).2.1 r t; split <;> omega⟩) (by omega)
                      exact L99 _ _ _ (by omega) (bf) (bo) (b0) (bn) (⟨bb.1, by have := bb.2.1; omega, fun r r0 r1 => by have := bb.2.2 r r0 r1; omega⟩) (Int.self_le_toNat _)
                exact L90 _ _ _ (by omega) (gf) (fun q q0 q1 q2 => by rw [gm]; unfold ob_; rw [if_neg q2, if_neg q1, if_neg q0]) (by rw [gm]; rfl) (⟨by rw [gm]; rfl, by rw [gm]; rfl, fun r r0 r1 => ad r r0 (by omega)⟩) (⟨by rw [gm]; show 0 ≤ sd ∧ sd < _; omega, by rw [show a1 mo_ 59 = 0 by rw [gm]; rfl]; omega, fun r r0 r1 => by rw [ad r r0 (by omega)]; have := hpa r r0 (by omega); omega⟩) (Int.self_le_toNat _)
              · refine pw_aload_n (z := mo_) (pc := 67) dX12_years_67 rfl rfl ?_
                refine pw_getR (r := mTotals) (pc := 68) dX12_years_68 fX12_152 (im_mo_ hM) k_mo_ rfl fr_mTotals ?_
                refine pw_iload (z := r) (pc := 71) dX12_years_71 rfl ?_
                refine pw_aload_n (z := mo_) (pc := 73) dX12_years_73 rfl rfl ?_
                refine pw_iload (z := r) (pc := 74) dX12_years_74 rfl ?_
                refine pw_iconst (pc := 76) dX12_years_76 ?_
                refine pw_callV (c := 12) (o := mo_) (As := [ii_ r, ii_ 2]) (rest := [ii_ r, rr_ G mTotals]) (pc := 77) dX12_years_77 (c_riderOf hM a1 (r) (2) (by first | omega | (simp only [n_a1_mRoads, n_g2_mRoads]; omega)) (by first | omega | (simp only [n_a1_mRoads, n_g2_mRoads]; omega))) lX12_355 mX12_riderOf vX12_riderOf (im_mo_ hM) k_mo_ rfl rfl rfl (by decide) ⟨Nat.zero_le _, Nat.zero_le _⟩ (Nat.le_of_ble_eq_true rfl) (k_i (fun z77 h77 y77 q77 => ?_))
                obtain ⟨rfl, rfl⟩ := q77
                rw [n_a1_mRoads] at y77 ⊢
                refine pw_iast (pc := 80) dX12_years_80 (im_mTotals hM) k_mTotals 20 l_mTotals (by first | omega | (simp only [n_a1_mRoads, n_g2_mRoads]; omega)) (by first | omega | (simp only [n_a1_mRoads, n_g2_mRoads]; omega)) (by first | omega | (simp only [n_a1_mRoads, n_g2_mRoads]; omega)) (by first | omega | (simp only [n_a1_mRoads, n_g2_mRoads]; omega)) ?_
                obtain ⟨g80, e80⟩ : ∃ x, x = up_ a1 mTotals r (h mRoads (31 + 4 * (r) + (2))) := ⟨_, rfl⟩
                refine pw_heq e80 ?_
                refine pw_iinc (z := r) (lv1 := [some (rr_ G mo_), some (ii_ sd), some (ii_ jn), some (ii_ w), some (ii_ (r + 1)), none]) (pc := 81) dX12_years_81 rfl (by decide) rfl rfl ?_
                refine pw_goto (t := 58) (pc := 84) dX12_years_84 (by decide) ?_
                exact ih58 _ _ (by omega) (by rw [e80]; exact off_up af (by decide)) (fun q q0 q1 => by rw [e80, up_at]; by_cases c : q = r; exact (by rw [if_pos c, c]); exact (by rw [if_neg c]; exact ad q q0 (by omega))) (by omega)
          exact L58 _ _ _ (by omega) (off_rf) (fun q _ _ => by omega) (Int.self_le_toNat _)
        · refine pw_iconst (pc := 42) dX12_years_42 ?_
          exact pw_iret (pc := 43) dX12_years_43 (by first | omega | (simp only [n_g2_mRoads]; omega)) (by
                    first
                    | exact ⟨by rw [e2]; exact off_up off_rf (by decide), fun q q0 q1 q2 => by rw [e2, up_at, if_neg q0], by rw [e2, up_same], by unfold yrs_; rw [if_f (by omega)]⟩
                    | (refine ⟨bf, bo, b0, ?_⟩
                       unfold yrs_
                       rw [if_t gd, ← kj]
                       first
                       | (rw [if_pos (by omega), w132]; exact spr_cg (by omega) bn.2.2)
                       | (rw [if_neg (by omega)]; exact bn.2.1)))
      · refine pw_if_eq (t := 42) (pc := 32) dX12_years_32 (by decide) (by first | omega) (fun _ => ?_) (fun c32 => absurd c32 (by decide))
        refine pw_iconst (pc := 42) dX12_years_42 ?_
        exact pw_iret (pc := 43) dX12_years_43 (by first | omega) (by
                  first
                  | exact ⟨by rw [e2]; exact off_up off_rf (by decide), fun q q0 q1 q2 => by rw [e2, up_at, if_neg q0], by rw [e2, up_same], by unfold yrs_; rw [if_f (by omega)]⟩
                  | (refine ⟨bf, bo, b0, ?_⟩
                     unfold yrs_
                     rw [if_t gd, ← kj]
                     first
                     | (rw [if_pos (by omega), w132]; exact spr_cg (by omega) bn.2.2)
                     | (rw [if_neg (by omega)]; exact bn.2.1)))
    · refine pw_if_eq (t := 42) (pc := 23) dX12_years_23 (by decide) (by first | omega) (fun _ => ?_) (fun c23 => absurd c23 (by decide))
      refine pw_iconst (pc := 42) dX12_years_42 ?_
      exact pw_iret (pc := 43) dX12_years_43 (by first | omega) (by
                first
                | exact ⟨by rw [e2]; exact off_up off_rf (by decide), fun q q0 q1 q2 => by rw [e2, up_at, if_neg q0], by rw [e2, up_same], by unfold yrs_; rw [if_f (by omega)]⟩
                | (refine ⟨bf, bo, b0, ?_⟩
                   unfold yrs_
                   rw [if_t gd, ← kj]
                   first
                   | (rw [if_pos (by omega), w132]; exact spr_cg (by omega) bn.2.2)
                   | (rw [if_neg (by omega)]; exact bn.2.1)))
  · refine pw_if_eq (t := 42) (pc := 13) dX12_years_13 (by decide) (by first | omega) (fun _ => ?_) (fun c13 => absurd c13 (by decide))
    refine pw_iconst (pc := 42) dX12_years_42 ?_
    exact pw_iret (pc := 43) dX12_years_43 (by first | omega) (by
              first
              | exact ⟨by rw [e2]; exact off_up off_rf (by decide), fun q q0 q1 q2 => by rw [e2, up_at, if_neg q0], by rw [e2, up_same], by unfold yrs_; rw [if_f (by omega)]⟩
              | (refine ⟨bf, bo, b0, ?_⟩
                 unfold yrs_
                 rw [if_t gd, ← kj]
                 first
                 | (rw [if_pos (by omega), w132]; exact spr_cg (by omega) bn.2.2)
                 | (rw [if_neg (by omega)]; exact bn.2.1)))

