theorem aft_n {ro : Int → Int} {S : (Int → Int) → BT_} {f : Nat} {n : Int} {pa : Int → Int} (h : S pa = none) : aft_ ro S (f + 1) n pa = -1 := by unfold aft_; rw [h]
theorem aft_z {ro : Int → Int} {S : (Int → Int) → BT_} {f : Nat} {n : Int} {pa : Int → Int} {q : Int × Int × (Int → Int) × (Int → Int)} (h : S pa = some q) (h0 : q.1 = 0) : aft_ ro S (f + 1) n pa = n := by unfold aft_; rw [h]; exact if_pos h0
theorem aft_s {ro : Int → Int} {S : (Int → Int) → BT_} {f : Nat} {n : Int} {pa : Int → Int} {q : Int × Int × (Int → Int) × (Int → Int)} (h : S pa = some q) (h0 : q.1 ≠ 0) : aft_ ro S (f + 1) n pa = aft_ ro S f (n + 1) q.2.2.2 := by rw [aft_]; rw [h]; exact if_neg h0

set_option maxHeartbeats 4000000 in
set_option maxRecDepth 100000 in
theorem c_after {G : GT_} (hM : okM_ G) (h : PH_) (hS : 2 ≤ h mRoads 0 ∧ h mRoads 0 ≤ 4) (hR : 0 ≤ h mRoads 2 ∧ h mRoads 2 ≤ h mRoads 0) (hT : 0 ≤ h mRoads 1 ∧ h mRoads 1 ≤ 4) (h4 : 0 ≤ h mRoads 4 ∧ h mRoads 4 ≤ 99) (hpa : ∀ r, 0 ≤ r → r < 4 → 0 ≤ h mRoads (31 + 4 * r + 2) ∧ h mRoads (31 + 4 * r + 2) ≤ 9999) (P : List (Int × Int)) (hw : 0 ≤ h mRoads 5 → law_ (h mOp) (h mArg) (h mRoads 5) P) : PC G yX12_after cX12_after 3 (some .int) 11 [rr_ G mo_] h (qi_ (fun z h' => off_ [mLawfuls, mWorths, mChanges, mPasts, mSits, mFacts, mPile, mMoves, mRow, mTotals, mBestRow, mBestTotals, mo_] h h' ∧ (∀ k, k ≠ 0 → k ≠ 32 → k ≠ 39 → k ≠ 40 → k ≠ 41 → k ≠ 42 → k ≠ 43 → h' mo_ k = h mo_ k) ∧ h' mo_ 0 = 0 ∧ z = aftr_ (h mRoads) P)) := by
  refine PC.of (lv := [some (rr_ G mo_), none, none]) (by decide +kernel) (Nat.le_of_ble_eq_true rfl) rfl rfl ?_
  refine pw_aload_n (z := mo_) (pc := 0) dX12_after_0 rfl rfl ?_
  refine pw_iconst (pc := 1) dX12_after_1 ?_
  refine pw_pI (x := 0) (pc := 2) dX12_after_2 fX12_1 (im_mo_ hM) k_mo_ rfl rfl (by first | omega) ?_
  obtain ⟨g2, e2⟩ : ∃ x, x = up_ h mo_ 0 0 := ⟨_, rfl⟩
  refine pw_heq e2 ?_
  refine pw_aload_n (z := mo_) (pc := 5) dX12_after_5 rfl rfl ?_
  have n_g2_mRoads : g2 mRoads = h mRoads := (by rw [e2]; exact up_off (by decide))
  refine pw_callV (c := 12) (o := mo_) (As := []) (rest := []) (pc := 6) dX12_after_6 (c_findPlans hM g2 (by first | omega | (simp only [n_g2_mRoads]; omega)) (by first | omega | (simp only [n_g2_mRoads]; omega)) (by first | omega | (simp only [n_g2_mRoads]; omega)) P (by rw [e2, up_off (by decide), up_off (by decide), up_off (by decide)]; exact hw)) lX12_458 mX12_findPlans vX12_findPlans (im_mo_ hM) k_mo_ rfl rfl rfl (by decide) ⟨Nat.zero_le _, Nat.zero_le _⟩ (Nat.le_of_ble_eq_true rfl) (k_v (fun h6 q6 => ?_))
  obtain ⟨f6, o6, l6, p6⟩ := q6
  have n6 : h6 mRoads = h mRoads := by rw [f6 mRoads (by decide), e2, up_off (by decide)]
  rw [show g2 mRoads = h mRoads by rw [e2, up_off (by decide)]] at l6 p6
  refine pw_iconst (pc := 9) dX12_after_9 ?_
  refine pw_istore_n (lv1 := [some (rr_ G mo_), some (ii_ 1), none]) (pc := 10) dX12_after_10 rfl (by decide) rfl rfl ?_
  have L11 : ∀ (nn : Nat) (n : Int) (b1 : PH_), (1 ≤ n ∧ n ≤ 21) → (off_ [mLawfuls, mWorths, mChanges, mPasts, mSits, mFacts, mPile, mMoves, mRow, mTotals, mBestRow, mBestTotals, mo_] h b1) → (∀ k, k ≠ 0 → k ≠ 32 → k ≠ 39 → k ≠ 40 → k ≠ 41 → k ≠ 42 → k ≠ 43 → b1 mo_ k = h mo_ k) → (b1 mo_ 0 = 0) → (fpl_ (h mRoads) P b1) → (∀ r, 0 ≤ r → r < h mRoads 2 → -(10000 + 4400 * (n - 1)) ≤ b1 mPasts r ∧ b1 mPasts r ≤ 10000 + 4400 * (n - 1)) → (aft_ (h mRoads) (skb_ (h mRoads) P 0 12) (21 - n).toNat n (b1 mPasts) = aft_ (h mRoads) (skb_ (h mRoads) P 0 12) 20 1 (pas_ (h mRoads))) → ((21 - n + 1 : Int) ≤ nn) → PW G RX12 cX12_after 3 (some .int) (rm_ 11) 0 0 (zm_ G (qi_ (fun z h' => off_ [mLawfuls, mWorths, mChanges, mPasts, mSits, mFacts, mPile, mMoves, mRow, mTotals, mBestRow, mBestTotals, mo_] h h' ∧ (∀ k, k ≠ 0 → k ≠ 32 → k ≠ 39 → k ≠ 40 → k ≠ 41 → k ≠ 42 → k ≠ 43 → h' mo_ k = h mo_ k) ∧ h' mo_ 0 = 0 ∧ z = aftr_ (h mRoads) P))) 11 [some (rr_ G mo_), some (ii_ n), none] [] b1 := by
    intro nn
    induction nn with
    | zero => intro n b1 ak af ao a0 al ap ae ams; exfalso; omega
    | succ nn ih11 =>
      intro n b1 ak af ao a0 al ap ae ams
      have n5 : b1 mRoads = h mRoads := af mRoads (by decide)
      refine pw_iload_n (z := n) (pc := 11) dX12_after_11 rfl rfl ?_
      refine pw_bipush (pc := 12) dX12_after_12 rfl ?_
      refine pw_icmp_gt (t := 76) (pc := 14) dX12_after_14 (by decide) (by first | omega | (simp only [n_g2_mRoads]; omega)) (by first | omega | (simp only [n_g2_mRoads]; omega)) (fun c14 => ?_) (fun c14 => ?_)
      · refine pw_iconst (pc := 76) dX12_after_76 ?_
        exact pw_iret (pc := 77) dX12_after_77 (by first | omega | (simp only [n_g2_mRoads]; omega)) (by
                  refine ⟨af, ao, a0, ?_⟩
                  unfold aftr_
                  first
                  | (rw [if_f (by omega)]; done)
                  | (by_cases c : 0 < h mRoads 2
                     · rw [if_t c, ← ae, show (21 - n).toNat = 0 by omega]; rfl
                     · rw [if_f c]))
      · refine pw_aload_n (z := mo_) (pc := 17) dX12_after_17 rfl rfl ?_
        refine pw_callV (c := 12) (o := mo_) (As := []) (rest := []) (pc := 18) dX12_after_18 (c_riders hM b1) lX12_334 mX12_riders vX12_riders (im_mo_ hM) k_mo_ rfl rfl rfl (by decide) ⟨Nat.zero_le _, Nat.zero_le _⟩ (Nat.le_of_ble_eq_true rfl) (k_i (fun z18 h18 y18 q18 => ?_))
        obtain ⟨rfl, rfl⟩ := q18
        have n_b1_mRoads : b1 mRoads = h mRoads := (af mRoads (by decide))
        rw [n_b1_mRoads] at y18 ⊢
        refine pw_if_le (t := 76) (pc := 21) dX12_after_21 (by decide) (by first | omega | (simp only [n_b1_mRoads, n_g2_mRoads]; omega)) (fun c21 => ?_) (fun c21 => ?_)
        · refine pw_iconst (pc := 76) dX12_after_76 ?_
          exact pw_iret (pc := 77) dX12_after_77 (by first | omega | (simp only [n_b1_mRoads, n_g2_mRoads]; omega)) (by
                    refine ⟨af, ao, a0, ?_⟩
                    unfold aftr_
                    first
                    | (rw [if_f (by omega)]; done)
                    | (by_cases c : 0 < h mRoads 2
                       · rw [if_t c, ← ae, show (21 - n).toNat = 0 by omega]; rfl
                       · rw [if_f c]))
        · refine pw_aload_n (z := mo_) (pc := 24) dX12_after_24 rfl rfl ?_
          refine pw_iconst (pc := 25) dX12_after_25 ?_
          refine pw_bipush (pc := 26) dX12_after_26 rfl ?_
          refine pw_callV (c := 12) (o := mo_) (As := [ii_ 0, ii_ 12]) (rest := []) (pc := 28) dX12_after_28 (c_seeks hM b1 (by rw [n5]; exact hS) (by rw [n5]; omega) (by rw [n5]; exact hT) (by rw [n5]; exact h4) P (by rw [n5]; exact al) 0 12 (by first | omega | (simp only [n_b1_mRoads, n_g2_mRoads]; omega)) (by first | omega | (simp only [n_b1_mRoads, n_g2_mRoads]; omega)) (fun r r0 r1 => by rw [n5] at r1; have := ap r r0 r1; omega)) lX12_461 mX12_seeks vX12_seeks (im_mo_ hM) k_mo_ rfl rfl rfl (by decide) ⟨Nat.zero_le _, Nat.zero_le _⟩ (Nat.le_of_ble_eq_true rfl) (k_i (fun z28 h28 y28 q28 => ?_))
          obtain ⟨f28, o28, w28, bs⟩ := q28
          rw [n5] at bs
          have b01 := bst_01 bs
          refine pw_if_ne (t := 36) (pc := 31) dX12_after_31 (by decide) (by first | omega | (simp only [n_b1_mRoads, n_g2_mRoads]; omega)) (fun c31 => ?_) (fun c31 => ?_)
          · obtain ⟨q, hq⟩ : ∃ q, skb_ (h mRoads) P 0 12 (b1 mPasts) = some q := by
              cases e : skb_ (h mRoads) P 0 12 (b1 mPasts) with
              | none => exfalso; rw [e] at bs; have b4 : h28 mo_ 41 = 0 := bs; omega
              | some q => exact ⟨q, rfl⟩
            rw [hq] at bs
            obtain ⟨s1, s2, s3, s4, s5⟩ := bs
            have tl : (21 - n).toNat = (21 - (n + 1)).toNat + 1 := by omega
            rw [tl] at ae
            have nf : off_ [mLawfuls, mWorths, mChanges, mPasts, mSits, mFacts, mPile, mMoves, mRow, mTotals, mBestRow, mBestTotals, mo_] h h28 := off_tr af (off_mo f28 (by decide))
            have no : ∀ k, k ≠ 0 → k ≠ 32 → k ≠ 39 → k ≠ 40 → k ≠ 41 → k ≠ 42 → k ≠ 43 → h28 mo_ k = h mo_ k := fun k x0 x1 x2 x3 x4 x5 x6 => by rw [o28 k x2 x3 x4 x5 x6]; exact ao k x0 x1 x2 x3 x4 x5 x6
            have n0 : h28 mo_ 0 = 0 := by rw [o28 0 (by decide) (by decide) (by decide) (by decide) (by decide)]; exact a0
            refine pw_aload_n (z := mo_) (pc := 36) dX12_after_36 rfl rfl ?_
            refine pw_gI (x := 42) (pc := 37) dX12_after_37 fX12_440 (im_mo_ hM) k_mo_ rfl rfl (fun r37 => ?_)
            refine pw_if_ne (t := 45) (pc := 40) dX12_after_40 (by decide) (by first | omega | (simp only [n_b1_mRoads, n_g2_mRoads]; omega)) (fun c40 => ?_) (fun c40 => ?_)
            · refine pw_iconst (pc := 45) dX12_after_45 ?_
              refine pw_istore_n (lv1 := [some (rr_ G mo_), some (ii_ n), some (ii_ 0)]) (pc := 46) dX12_after_46 rfl (by decide) rfl rfl ?_
              have L47 : ∀ (nn : Nat) (r : Int) (c1 : PH_), (0 ≤ r ∧ r ≤ 4) → (off_ [mPasts] h28 c1) → (∀ x, 0 ≤ x → x < r → c1 mPasts x = h28 mBestTotals x) → ((4 - r + 1 : Int) ≤ nn) → PW G RX12 cX12_after 3 (some .int) (rm_ 11) 0 0 (zm_ G (qi_ (fun z h' => off_ [mLawfuls, mWorths, mChanges, mPasts, mSits, mFacts, mPile, mMoves, mRow, mTotals, mBestRow, mBestTotals, mo_] h h' ∧ (∀ k, k ≠ 0 → k ≠ 32 → k ≠ 39 → k ≠ 40 → k ≠ 41 → k ≠ 42 → k ≠ 43 → h' mo_ k = h mo_ k) ∧ h' mo_ 0 = 0 ∧ z = aftr_ (h mRoads) P))) 47 [some (rr_ G mo_), some (ii_ n), some (ii_ r)] [] c1 := by
                intro nn
                induction nn with
                | zero => intro r c1 ck cf ct ams; exfalso; omega
                | succ nn ih47 =>
                  intro r c1 ck cf ct ams
                  refine pw_iload_n (z := r) (pc := 47) dX12_after_47 rfl rfl ?_
                  refine pw_iconst (pc := 48) dX12_after_48 ?_
                  refine pw_icmp_ge (t := 70) (pc := 49) dX12_after_49 (by decide) (by first | omega | (simp only [n_b1_mRoads, n_g2_mRoads]; omega)) (by first | omega | (simp only [n_b1_mRoads, n_g2_mRoads]; omega)) (fun c49 => ?_) (fun c49 => ?_)
                  · refine pw_iinc (z := n) (lv1 := [some (rr_ G mo_), some (ii_ (n + 1)), some (ii_ r)]) (pc := 70) dX12_after_70 rfl (by decide) rfl rfl ?_
                    refine pw_goto (t := 11) (pc := 73) dX12_after_73 (by decide) ?_
                    refine pw_less (lv1 := [some (rr_ G mo_), some (ii_ (n + 1)), none]) rfl (by intro i v; (match i with | 0 => simp | 1 => simp | 2 => simp | n + 3 => simp)) ?_
                    exact ih11 _ _ (by omega) (off_tr nf (off_mo cf (by decide))) (fun k x0 x1 x2 x3 x4 x5 x6 => by rw [cf mo_ (by decide)]; exact no k x0 x1 x2 x3 x4 x5 x6) (by rw [cf mo_ (by decide)]; exact n0) (fpl_mv (by rw [cf mLawfuls (by decide), f28 mLawfuls (by decide)]) (by rw [cf mWorths (by decide), f28 mWorths (by decide)]) (by rw [cf mChanges (by decide), f28 mChanges (by decide)]) (by rw [cf mo_ (by decide), o28 32 (by decide) (by decide) (by decide) (by decide) (by decide)]) al) (fun x x0 x1 => by rw [ct x x0 (by omega), s5 x x0 x1]; exact skb_tb (D := 10000 + 4400 * (n - 1)) h4 hT (by omega) ap hq x x0 x1) (by rw [aft_cg hT.1 _ _ (fun x x0 x1 => (ct x x0 (by omega)).trans (s5 x x0 x1)), ← aft_s hq (by omega)]; exact ae) (by omega)
                  · refine pw_aload_n (z := mo_) (pc := 52) dX12_after_52 rfl rfl ?_
                    refine pw_getR (r := mPasts) (pc := 53) dX12_after_53 fX12_158 (im_mo_ hM) k_mo_ rfl fr_mPasts ?_
                    refine pw_iload_n (z := r) (pc := 56) dX12_after_56 rfl rfl ?_
                    refine pw_aload_n (z := mo_) (pc := 57) dX12_after_57 rfl rfl ?_
                    refine pw_getR (r := mBestTotals) (pc := 58) dX12_after_58 fX12_164 (im_mo_ hM) k_mo_ rfl fr_mBestTotals ?_
                    refine pw_iload_n (z := r) (pc := 61) dX12_after_61 rfl rfl ?_
                    refine pw_iald (pc := 62) dX12_after_62 (im_mBestTotals hM) k_mBestTotals 4 l_mBestTotals (by first | omega | (simp only [n_b1_mRoads, n_g2_mRoads]; omega)) (by first | omega | (simp only [n_b1_mRoads, n_g2_mRoads]; omega)) (by first | omega | (simp only [n_b1_mRoads, n_g2_mRoads]; omega)) (fun r62 => ?_)
                    have n_c1_mBestTotals : c1 mBestTotals = h28 mBestTotals := (cf mBestTotals (by decide))
                    rw [n_c1_mBestTotals] at r62 ⊢
                    refine pw_iast (pc := 63) dX12_after_63 (im_mPasts hM) k_mPasts 4 l_mPasts (by first | omega | (simp only [n_b1_mRoads, n_c1_mBestTotals, n_g2_mRoads]; omega)) (by first | omega | (simp only [n_b1_mRoads, n_c1_mBestTotals, n_g2_mRoads]; omega)) (by first | omega | (simp only [n_b1_mRoads, n_c1_mBestTotals, n_g2_mRoads]; omega)) (by first | omega | (simp only [n_b1_mRoads, n_c1_mBestTotals, n_g2_mRoads]; omega)) ?_
                    obtain ⟨g63, e63⟩ : ∃ x, x = up_ c1 mPasts r (h28 mBestTotals r) := ⟨_, rfl⟩
                    refine pw_heq e63 ?_
                    refine pw_iinc (z := r) (lv1 := [some (rr_ G mo_), some (ii_ n), some (ii_ (r + 1))]) (pc := 64) dX12_after_64 rfl (by decide) rfl rfl ?_
                    refine pw_goto (t := 47) (pc := 67) dX12_after_67 (by decide) ?_
                    exact ih47 _ _ (by omega) (by rw [e63]; exact off_up cf (by decide)) (fun x x0 x1 => by rw [e63, up_at]; by_cases c : x = r; exact (by rw [if_pos c, c]); exact (by rw [if_neg c]; exact ct x x0 (by omega))) (by omega)
              exact L47 _ _ _ (by omega) (off_rf) (fun x _ _ => by omega) (Int.self_le_toNat _)
            · refine pw_iload_n (z := n) (pc := 43) dX12_after_43 rfl rfl ?_
              exact pw_iret (pc := 44) dX12_after_44 (by first | omega | (simp only [n_b1_mRoads, n_g2_mRoads]; omega)) (⟨nf, no, n0, by unfold aftr_; rw [if_t (by omega), ← ae, aft_z hq (by omega)]⟩)
          · refine pw_iconst (pc := 34) dX12_after_34 ?_
            exact pw_iret (pc := 35) dX12_after_35 (by first | omega | (simp only [n_b1_mRoads, n_g2_mRoads]; omega)) (by
                      refine ⟨off_tr af (off_mo f28 (by decide)), fun k x0 x1 x2 x3 x4 x5 x6 => by rw [o28 k x2 x3 x4 x5 x6]; exact ao k x0 x1 x2 x3 x4 x5 x6, by rw [o28 0 (by decide) (by decide) (by decide) (by decide) (by decide)]; exact a0, ?_⟩
                      unfold aftr_
                      rw [if_t (by omega), ← ae, show (21 - n).toNat = (21 - (n + 1)).toNat + 1 by omega]
                      cases e : skb_ (h mRoads) P 0 12 (b1 mPasts) with
                      | none => exact (aft_n e).symm
                      | some q => exfalso; rw [e] at bs; have b4 : h28 mo_ 41 = 1 := bs.1; omega)
  exact L11 _ _ _ (by omega) (off_tr (by rw [e2]; exact off_up off_rf (by decide)) (off_mo f6 (by decide))) (fun k x0 x1 _ _ _ _ _ => by rw [o6 k x1, e2, up_at, if_neg x0]) (by rw [o6 0 (by decide), e2, up_same]) (l6) (fun r r0 r1 => by rw [p6 r r0 (by omega)]; have := hpa r r0 (by omega); omega) (aft_cg hT.1 20 1 (fun r r0 r1 => p6 r r0 (by omega))) (Int.self_le_toNat _)

