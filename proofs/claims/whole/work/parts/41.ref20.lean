set_option maxHeartbeats 4000000 in
set_option maxRecDepth 100000 in
theorem c_fit0 {G : GT_} (hM : okM_ G) (h : PH_) (P : List (Int × Int)) (t : Int) (s : Nat) (F : FT_) (hp : gfr_ P 0 t s h F) : PC G yX12_goesFitting cX12_goesFitting 5 none (5 + 0) [rr_ G mo_, ii_ t, ii_ (s : Int)] h (qv_ (fun h' => gfs_ 0 t s h F h')) := by
  obtain ⟨hS, hR, hT, hf, hm, hk, ht, hs, hrow, hF, hF24, hst⟩ := hp
  obtain ⟨F1, F2, F3, F4⟩ := hst
  have l24 := lpn_24 hS (by omega)
  obtain ⟨ok1, ok2, ok3⟩ := hF
  have tt : t = h mRoads 1 := by omega
  have f1 : F.1 ≤ 400000 := by have : (24 : Int) ^ 0 = 1 := rfl; omega
  refine PC.of (lv := [some (rr_ G mo_), some (ii_ t), some (ii_ (s : Int)), none, none]) (by decide +kernel) (Nat.le_of_ble_eq_true rfl) rfl rfl ?_
  refine pw_iload_n (z := t) (pc := 0) dX12_goesFitting_0 rfl rfl ?_
  refine pw_aload_n (z := mo_) (pc := 1) dX12_goesFitting_1 rfl rfl ?_
  refine pw_callV (c := 12) (o := mo_) (As := []) (rest := [ii_ t]) (pc := 2) dX12_goesFitting_2 (c_stretches hM h) lX12_368 mX12_stretches vX12_stretches (im_mo_ hM) k_mo_ rfl rfl rfl (by constructor <;> simp only [rm_] <;> omega) ⟨Nat.zero_le _, Nat.zero_le _⟩ (Nat.le_of_ble_eq_true rfl) (k_i (fun z2 h2 y2 q2 => ?_))
  obtain ⟨rfl, rfl⟩ := q2
  refine pw_icmp_ne (t := 76) (pc := 5) dX12_goesFitting_5 (by decide) (by first | omega) (by first | omega) (fun c5 => ?_) (fun c5 => ?_)
  · exfalso; omega
  · have J45 : ∀ (b1 : PH_), (off_ [mBestRow] h b1) → (F.1 = 0 ∧ (∀ x, 0 ≤ x → x < t → b1 mBestRow x = h mLawfuls (h mRow x)) ∨ F.1 ≠ 0 ∧ b1 = h) → PW G RX12 cX12_goesFitting 5 none (rm_ (5 + 0)) 0 0 (zm_ G (qv_ (fun h' => gfs_ 0 t s h F h'))) 45 [some (rr_ G mo_), some (ii_ t), some (ii_ (s : Int)), none, none] [] b1 := by
      intro b1 bf bd
      refine pw_aload_n (z := mo_) (pc := 45) dX12_goesFitting_45 rfl rfl ?_
      refine pw_dup (pc := 46) dX12_goesFitting_46 rfl ?_
      refine pw_gI (x := 55) (pc := 47) dX12_goesFitting_47 fX12_510 (im_mo_ hM) k_mo_ rfl rfl (fun r47 => ?_)
      have n_b1_mo__55 : b1 mo_ 55 = h mo_ 55 := (congrFun (bf mo_ (by decide)) 55)
      rw [n_b1_mo__55] at r47 ⊢
      refine pw_iconst (pc := 50) dX12_goesFitting_50 ?_
      refine pw_iadd (pc := 51) dX12_goesFitting_51 ?_
      refine pw_pI (x := 55) (pc := 52) dX12_goesFitting_52 fX12_510 (im_mo_ hM) k_mo_ rfl rfl (by first | omega | (simp only [n_b1_mo__55]; omega)) ?_
      obtain ⟨g52, e52⟩ : ∃ x, x = up_ b1 mo_ 55 ((h mo_ 55) + 1) := ⟨_, rfl⟩
      refine pw_heq e52 ?_
      refine pw_aload_n (z := mo_) (pc := 55) dX12_goesFitting_55 rfl rfl ?_
      refine pw_dup (pc := 56) dX12_goesFitting_56 rfl ?_
      refine pw_gI (x := 56) (pc := 57) dX12_goesFitting_57 fX12_513 (im_mo_ hM) k_mo_ rfl rfl (fun r57 => ?_)
      have n_g52_mo__56 : g52 mo_ 56 = h mo_ 56 := ((show g52 mo_ 56 = b1 mo_ 56 from (by rw [e52, up_at]; exact if_neg (by decide))).trans (show b1 mo_ 56 = h mo_ 56 from (congrFun (bf mo_ (by decide)) 56)))
      rw [n_g52_mo__56] at r57 ⊢
      refine pw_iload_n (z := (s : Int)) (pc := 60) dX12_goesFitting_60 rfl rfl ?_
      refine pw_iandX (pc := 61) dX12_goesFitting_61 (by first | omega | (simp only [n_b1_mo__55, n_g52_mo__56]; omega)) (by first | omega | (simp only [n_b1_mo__55, n_g52_mo__56]; omega)) (fun w61 r61 x61 v61 => ?_)
      refine pw_pI (x := 56) (pc := 62) dX12_goesFitting_62 fX12_513 (im_mo_ hM) k_mo_ rfl rfl (by first | omega | (simp only [n_b1_mo__55, n_g52_mo__56]; omega)) ?_
      obtain ⟨g62, e62⟩ : ∃ x, x = up_ g52 mo_ 56 w61 := ⟨_, rfl⟩
      refine pw_heq e62 ?_
      refine pw_aload_n (z := mo_) (pc := 65) dX12_goesFitting_65 rfl rfl ?_
      refine pw_dup (pc := 66) dX12_goesFitting_66 rfl ?_
      refine pw_gI (x := 57) (pc := 67) dX12_goesFitting_67 fX12_516 (im_mo_ hM) k_mo_ rfl rfl (fun r67 => ?_)
      have n_g62_mo__57 : g62 mo_ 57 = h mo_ 57 := (((show g62 mo_ 57 = g52 mo_ 57 from (by rw [e62, up_at]; exact if_neg (by decide))).trans (show g52 mo_ 57 = b1 mo_ 57 from (by rw [e52, up_at]; exact if_neg (by decide)))).trans (show b1 mo_ 57 = h mo_ 57 from (congrFun (bf mo_ (by decide)) 57)))
      rw [n_g62_mo__57] at r67 ⊢
      refine pw_iload_n (z := (s : Int)) (pc := 70) dX12_goesFitting_70 rfl rfl ?_
      refine pw_iorX (pc := 71) dX12_goesFitting_71 (by first | omega | (simp only [n_b1_mo__55, n_g52_mo__56, n_g62_mo__57]; omega)) (by first | omega | (simp only [n_b1_mo__55, n_g52_mo__56, n_g62_mo__57]; omega)) (fun w71 r71 x71 => ?_)
      refine pw_pI (x := 57) (pc := 72) dX12_goesFitting_72 fX12_516 (im_mo_ hM) k_mo_ rfl rfl (by first | omega | (simp only [n_b1_mo__55, n_g52_mo__56, n_g62_mo__57]; omega)) ?_
      obtain ⟨g72, e72⟩ : ∃ x, x = up_ g62 mo_ 57 w71 := ⟨_, rfl⟩
      refine pw_heq e72 ?_
      exact pw_vret (pc := 75) dX12_goesFitting_75 (by
                have gm : g72 mo_ = ob_ (ob_ (ob_ (h mo_) 55 (h mo_ 55 + 1)) 56 w61) 57 w71 := by rw [e72, up_ob, e62, up_ob, e52, up_ob, bf mo_ (by decide)]
                have gb : g72 mBestRow = b1 mBestRow := by rw [e72, up_off (by decide), e62, up_off (by decide), e52, up_off (by decide)]
                have gf : off_ [mSits, mRow, mBestRow, mo_] h g72 := by rw [e72, e62, e52]; exact off_up (off_up (off_up (off_mo bf (by decide)) (by decide)) (by decide)) (by decide)
                refine ⟨gf, fun k k1 k2 k3 => by rw [gm]; unfold ob_; rw [if_neg k3, if_neg k2, if_neg k1], fun x _ => by rw [e72, up_off (by decide), e62, up_off (by decide), e52, up_off (by decide), bf mRow (by decide)], ?_, ?_, ?_, ?_⟩
                · rw [gm]; show h mo_ 55 + 1 = F.1 + 1; rw [F1]
                · rw [gm]; show w61 = ((F.2.1 &&& s : Nat) : Int); rw [x61 (by omega) (by omega), F2, Int.toNat_natCast, Int.toNat_natCast]
                · rw [gm]; show w71 = ((F.2.2.1 ||| s : Nat) : Int); rw [x71 (by omega) (by omega), F3, Int.toNat_natCast, Int.toNat_natCast]
                · intro _ k k0 k1
                  rw [gb]
                  show _ = (if F.1 = 0 then trn_ (h mRoads 1) (fun k => pL_ (h mRoads) (h mRow k)) else F.2.2.2) k
                  rcases bd with ⟨d1, d2⟩ | ⟨d1, d2⟩
                  · have rk := hrow k k0 (by omega)
                    rw [if_pos d1, trn_at k0 k1, d2 k k0 (by omega), arr_at hf.2.1 rk.1 rk.2]; rfl
                  · rw [if_neg d1, d2]; exact F4 d1 k k0 k1)
    refine pw_aload_n (z := mo_) (pc := 8) dX12_goesFitting_8 rfl rfl ?_
    refine pw_gI (x := 55) (pc := 9) dX12_goesFitting_9 fX12_510 (im_mo_ hM) k_mo_ rfl rfl (fun r9 => ?_)
    refine pw_if_ne (t := 45) (pc := 12) dX12_goesFitting_12 (by decide) (by first | omega) (fun c12 => ?_) (fun c12 => ?_)
    · exact J45 _ (by first | exact af | exact off_rf) (by first | exact Or.inr ⟨by omega, rfl⟩ | exact Or.inl ⟨by omega, fun x x0 x1 => ad x x0 (by omega)⟩)
    · refine pw_iconst (pc := 15) dX12_goesFitting_15 ?_
      refine pw_istore_n (lv1 := [some (rr_ G mo_), some (ii_ t), some (ii_ (s : Int)), some (ii_ 0), none]) (pc := 16) dX12_goesFitting_16 rfl (by decide) rfl rfl ?_
      have L17 : ∀ (nn : Nat) (k : Int) (a1 : PH_), (0 ≤ k ∧ k ≤ t) → (off_ [mBestRow] h a1) → (∀ x, 0 ≤ x → x < k → a1 mBestRow x = h mLawfuls (h mRow x)) → ((t - k + 1 : Int) ≤ nn) → PW G RX12 cX12_goesFitting 5 none (rm_ (5 + 0)) 0 0 (zm_ G (qv_ (fun h' => gfs_ 0 t s h F h'))) 17 [some (rr_ G mo_), some (ii_ t), some (ii_ (s : Int)), some (ii_ k), none] [] a1 := by
        intro nn
        induction nn with
        | zero => intro k a1 ak af ad ams; exfalso; omega
        | succ nn ih17 =>
          intro k a1 ak af ad ams
          refine pw_iload_n (z := k) (pc := 17) dX12_goesFitting_17 rfl rfl ?_
          refine pw_iload_n (z := t) (pc := 18) dX12_goesFitting_18 rfl rfl ?_
          refine pw_icmp_ge (t := 45) (pc := 19) dX12_goesFitting_19 (by decide) (by first | omega) (by first | omega) (fun c19 => ?_) (fun c19 => ?_)
          · refine pw_less (lv1 := [some (rr_ G mo_), some (ii_ t), some (ii_ (s : Int)), none, none]) rfl (by intro i v; (match i with | 0 => simp | 1 => simp | 2 => simp | 3 => simp | 4 => simp | n + 5 => simp)) ?_
            exact J45 _ (by first | exact af | exact off_rf) (by first | exact Or.inr ⟨by omega, rfl⟩ | exact Or.inl ⟨by omega, fun x x0 x1 => ad x x0 (by omega)⟩)
          · have hrk := hrow k (by omega) (by omega)
            refine pw_aload_n (z := mo_) (pc := 22) dX12_goesFitting_22 rfl rfl ?_
            refine pw_getR (r := mBestRow) (pc := 23) dX12_goesFitting_23 fX12_161 (im_mo_ hM) k_mo_ rfl fr_mBestRow ?_
            refine pw_iload_n (z := k) (pc := 26) dX12_goesFitting_26 rfl rfl ?_
            refine pw_aload_n (z := mo_) (pc := 27) dX12_goesFitting_27 rfl rfl ?_
            refine pw_getR (r := mLawfuls) (pc := 28) dX12_goesFitting_28 fX12_140 (im_mo_ hM) k_mo_ rfl fr_mLawfuls ?_
            refine pw_aload_n (z := mo_) (pc := 31) dX12_goesFitting_31 rfl rfl ?_
            refine pw_getR (r := mRow) (pc := 32) dX12_goesFitting_32 fX12_149 (im_mo_ hM) k_mo_ rfl fr_mRow ?_
            refine pw_iload_n (z := k) (pc := 35) dX12_goesFitting_35 rfl rfl ?_
            refine pw_iald (pc := 36) dX12_goesFitting_36 (im_mRow hM) k_mRow 5 l_mRow (by first | omega) (by first | omega) (by first | omega) (fun r36 => ?_)
            have n_a1_mRow : a1 mRow = h mRow := (af mRow (by decide))
            rw [n_a1_mRow] at r36 ⊢
            refine pw_iald (pc := 37) dX12_goesFitting_37 (im_mLawfuls hM) k_mLawfuls 24 l_mLawfuls (by first | omega | (simp only [n_a1_mRow]; omega)) (by first | omega | (simp only [n_a1_mRow]; omega)) (by first | omega | (simp only [n_a1_mRow]; omega)) (fun r37 => ?_)
            have n_a1_mLawfuls : a1 mLawfuls = h mLawfuls := (af mLawfuls (by decide))
            rw [n_a1_mLawfuls] at r37 ⊢
            refine pw_iast (pc := 38) dX12_goesFitting_38 (im_mBestRow hM) k_mBestRow 5 l_mBestRow (by first | omega | (simp only [n_a1_mLawfuls, n_a1_mRow]; omega)) (by first | omega | (simp only [n_a1_mLawfuls, n_a1_mRow]; omega)) (by first | omega | (simp only [n_a1_mLawfuls, n_a1_mRow]; omega)) (by first | omega | (simp only [n_a1_mLawfuls, n_a1_mRow]; omega)) ?_
            obtain ⟨g38, e38⟩ : ∃ x, x = up_ a1 mBestRow k (h mLawfuls (h mRow k)) := ⟨_, rfl⟩
            refine pw_heq e38 ?_
            refine pw_iinc (z := k) (lv1 := [some (rr_ G mo_), some (ii_ t), some (ii_ (s : Int)), some (ii_ (k + 1)), none]) (pc := 39) dX12_goesFitting_39 rfl (by decide) rfl rfl ?_
            refine pw_goto (t := 17) (pc := 42) dX12_goesFitting_42 (by decide) ?_
            exact ih17 _ _ (by omega) (by rw [e38]; exact off_up af (by decide)) (fun x x0 x1 => by rw [e38, up_at]; by_cases c : x = k; exact (by rw [if_pos c, c]); exact (by rw [if_neg c]; exact ad x x0 (by omega))) (by omega)
      exact L17 _ _ _ (by omega) (off_rf) (fun x _ _ => by omega) (Int.self_le_toNat _)

set_option maxHeartbeats 1000000 in
set_option maxRecDepth 100000 in
theorem c_fitS {G : GT_} (hM : okM_ G) (h : PH_) (P : List (Int × Int)) (n : Nat) (IH : gfc_ G P n) (t : Int) (s : Nat) (F : FT_) (hp : gfr_ P (n + 1) t s h F) : PC G yX12_goesFitting cX12_goesFitting 5 none (5 + (n + 1)) [rr_ G mo_, ii_ t, ii_ (s : Int)] h (qv_ (fun h' => gfs_ (n + 1) t s h F h')) := by
  obtain ⟨hS, hR, hT, hf, hm, hk, ht, hs, hrow, hF, hF24, hst⟩ := hp
  obtain ⟨F1, F2, F3, F4⟩ := hst
  have l24 := lpn_24 hS (by omega)
  obtain ⟨ok1, ok2, ok3⟩ := hF
  have tt : h mRoads 1 - 1 - (n : Int) = t := by omega
  have tn4 : t ≤ 3 := by omega
  have p24 : (0 : Int) ≤ 24 ^ n := Int.pow_nonneg (by decide)
  have ps : (24 : Int) ^ (n + 1) = 24 * 24 ^ n := by rw [Int.pow_succ, Int.mul_comm]
  refine PC.of (lv := [some (rr_ G mo_), some (ii_ t), some (ii_ (s : Int)), none, none]) (by decide +kernel) (Nat.le_of_ble_eq_true rfl) rfl rfl ?_
  refine pw_iload_n (z := t) (pc := 0) dX12_goesFitting_0 rfl rfl ?_
  refine pw_aload_n (z := mo_) (pc := 1) dX12_goesFitting_1 rfl rfl ?_
  refine pw_callV (c := 12) (o := mo_) (As := []) (rest := [ii_ t]) (pc := 2) dX12_goesFitting_2 (c_stretches hM h) lX12_368 mX12_stretches vX12_stretches (im_mo_ hM) k_mo_ rfl rfl rfl (by constructor <;> simp only [rm_] <;> omega) ⟨Nat.zero_le _, Nat.zero_le _⟩ (Nat.le_of_ble_eq_true rfl) (k_i (fun z2 h2 y2 q2 => ?_))
  obtain ⟨rfl, rfl⟩ := q2
  refine pw_icmp_ne (t := 76) (pc := 5) dX12_goesFitting_5 (by decide) (by first | omega) (by first | omega) (fun c5 => ?_) (fun c5 => ?_)
  · refine pw_iconst (pc := 76) dX12_goesFitting_76 ?_
    refine pw_istore_n (lv1 := [some (rr_ G mo_), some (ii_ t), some (ii_ (s : Int)), some (ii_ 0), none]) (pc := 77) dX12_goesFitting_77 rfl (by decide) rfl rfl ?_
    have L78 : ∀ (nn : Nat) (k : Int) (a1 : PH_), (0 ≤ k ∧ k ≤ (lpn_ (h mRoads) 256).length) → (off_ [mSits, mRow, mBestRow, mo_] h a1) → (∀ x, x ≠ 55 → x ≠ 56 → x ≠ 57 → a1 mo_ x = h mo_ x) → (∀ x, x < t → a1 mRow x = h mRow x) → (fst_ (h mRoads 1) a1 ((List.range k.toNat).foldl (fun (F : FT_) (j : Nat) => if_ (sen_ (h mState) (dg_ (h mRoads 2) (pL_ (h mRoads) (j : Int))) t (h mState 30).toNat) (ftr_ (h mRoads) (h mState) n (ob_ (h mRow) t (j : Int)) (nst_ (pC_ (h mRoads)) (h mRow) t (j : Int) s) F) F) F)) → (fok_ ((List.range k.toNat).foldl (fun (F : FT_) (j : Nat) => if_ (sen_ (h mState) (dg_ (h mRoads 2) (pL_ (h mRoads) (j : Int))) t (h mState 30).toNat) (ftr_ (h mRoads) (h mState) n (ob_ (h mRow) t (j : Int)) (nst_ (pC_ (h mRoads)) (h mRow) t (j : Int) s) F) F) F) ∧ ((List.range k.toNat).foldl (fun (F : FT_) (j : Nat) => if_ (sen_ (h mState) (dg_ (h mRoads 2) (pL_ (h mRoads) (j : Int))) t (h mState 30).toNat) (ftr_ (h mRoads) (h mState) n (ob_ (h mRow) t (j : Int)) (nst_ (pC_ (h mRoads)) (h mRow) t (j : Int) s) F) F) F).1 ≤ F.1 + k * 24 ^ n) → ((((lpn_ (h mRoads) 256).length : Int) - k + 1 : Int) ≤ nn) → PW G RX12 cX12_goesFitting 5 none (rm_ (5 + (n + 1))) 0 0 (zm_ G (qv_ (fun h' => gfs_ (n + 1) t s h F h'))) 78 [some (rr_ G mo_), some (ii_ t), some (ii_ (s : Int)), some (ii_ k), none] [] a1 := by
      intro nn
      induction nn with
      | zero => intro k a1 ak af ao ar aF aB ams; exfalso; omega
      | succ nn ih78 =>
        intro k a1 ak af ao ar aF aB ams
        have n5 : a1 mRoads = h mRoads := af mRoads (by decide)
        have n6 : a1 mState = h mState := af mState (by decide)
        have o32 : a1 mo_ 32 = ((lpn_ (h mRoads) 256).length : Int) := by rw [ao 32 (by decide) (by decide) (by decide)]; exact hf.1
        have af5 : fpl_ (h mRoads) P a1 := fpl_mv (af mLawfuls (by decide)) (af mWorths (by decide)) (af mChanges (by decide)) (ao 32 (by decide) (by decide) (by decide)) hf
        refine pw_iload_n (z := k) (pc := 78) dX12_goesFitting_78 rfl rfl ?_
        refine pw_aload_n (z := mo_) (pc := 79) dX12_goesFitting_79 rfl rfl ?_
        refine pw_gI (x := 32) (pc := 80) dX12_goesFitting_80 fX12_422 (im_mo_ hM) k_mo_ rfl rfl (fun r80 => ?_)
        refine pw_icmp_ge (t := 168) (pc := 83) dX12_goesFitting_83 (by decide) (by first | omega) (by first | omega) (fun c83 => ?_) (fun c83 => ?_)
        · exact pw_vret (pc := 168) dX12_goesFitting_168 (by
                    refine ⟨af, ao, ar, ?_⟩
                    rw [ftr_s tt, show ((lpn_ (h mRoads) 256).length : Nat) = k.toNat by omega]
                    exact aF)
        · have kl : k < (lpn_ (h mRoads) 256).length := by omega
          have pk : h mLawfuls k = (lpn_ (h mRoads) 256).getD k.toNat 0 := arr_at hf.2.1 ak.1 kl
          have pm := lpn_mem (getD_mem (show k.toNat < (lpn_ (h mRoads) 256).length by omega))
          have J162 : ∀ (a2 : PH_), (off_ [mSits, mRow, mBestRow, mo_] h a2) → (∀ x, x ≠ 55 → x ≠ 56 → x ≠ 57 → a2 mo_ x = h mo_ x) → (∀ x, x < t → a2 mRow x = h mRow x) → (fst_ (h mRoads 1) a2 ((List.range (k + 1).toNat).foldl (fun (F : FT_) (j : Nat) => if_ (sen_ (h mState) (dg_ (h mRoads 2) (pL_ (h mRoads) (j : Int))) t (h mState 30).toNat) (ftr_ (h mRoads) (h mState) n (ob_ (h mRow) t (j : Int)) (nst_ (pC_ (h mRoads)) (h mRow) t (j : Int) s) F) F) F)) → (fok_ ((List.range (k + 1).toNat).foldl (fun (F : FT_) (j : Nat) => if_ (sen_ (h mState) (dg_ (h mRoads 2) (pL_ (h mRoads) (j : Int))) t (h mState 30).toNat) (ftr_ (h mRoads) (h mState) n (ob_ (h mRow) t (j : Int)) (nst_ (pC_ (h mRoads)) (h mRow) t (j : Int) s) F) F) F) ∧ ((List.range (k + 1).toNat).foldl (fun (F : FT_) (j : Nat) => if_ (sen_ (h mState) (dg_ (h mRoads 2) (pL_ (h mRoads) (j : Int))) t (h mState 30).toNat) (ftr_ (h mRoads) (h mState) n (ob_ (h mRow) t (j : Int)) (nst_ (pC_ (h mRoads)) (h mRow) t (j : Int) s) F) F) F).1 ≤ F.1 + (k + 1) * 24 ^ n) → PW G RX12 cX12_goesFitting 5 none (rm_ (5 + (n + 1))) 0 0 (zm_ G (qv_ (fun h' => gfs_ (n + 1) t s h F h'))) 162 [some (rr_ G mo_), some (ii_ t), some (ii_ (s : Int)), some (ii_ k), none] [] a2 := by
            intro a2 jf jo jr jF jB
            refine pw_iinc (z := k) (lv1 := [some (rr_ G mo_), some (ii_ t), some (ii_ (s : Int)), some (ii_ (k + 1)), none]) (pc := 162) dX12_goesFitting_162 rfl (by decide) rfl rfl ?_
            refine pw_goto (t := 78) (pc := 165) dX12_goesFitting_165 (by decide) ?_
            exact ih78 _ _ (by omega) (jf) (jo) (jr) (jF) (jB) (by omega)
          refine pw_aload_n (z := mo_) (pc := 86) dX12_goesFitting_86 rfl rfl ?_
          refine pw_aload_n (z := mo_) (pc := 87) dX12_goesFitting_87 rfl rfl ?_
          refine pw_getR (r := mLawfuls) (pc := 88) dX12_goesFitting_88 fX12_140 (im_mo_ hM) k_mo_ rfl fr_mLawfuls ?_
          refine pw_iload_n (z := k) (pc := 91) dX12_goesFitting_91 rfl rfl ?_
          refine pw_iald (pc := 92) dX12_goesFitting_92 (im_mLawfuls hM) k_mLawfuls 24 l_mLawfuls (by first | omega) (by first | omega) (by first | omega) (fun r92 => ?_)
          have n_a1_mLawfuls : a1 mLawfuls = h mLawfuls := (af mLawfuls (by decide))
          rw [n_a1_mLawfuls] at r92 ⊢
          refine pw_iload_n (z := t) (pc := 93) dX12_goesFitting_93 rfl rfl ?_
          refine pw_callV (c := 12) (o := mo_) (As := [ii_ (h mLawfuls k), ii_ t]) (rest := []) (pc := 94) dX12_goesFitting_94 (c_isAsSeen hM a1 (by rw [n5]; exact hS) (by rw [n5]; exact hR) (by rw [n6]; exact hm) (by rw [n6, n5]; exact hk) (h mLawfuls k) t (by rw [pk]; omega) (by first | omega | (simp only [n_a1_mLawfuls]; omega))) lX12_519 mX12_isAsSeen vX12_isAsSeen (im_mo_ hM) k_mo_ rfl rfl rfl (by constructor <;> simp only [rm_] <;> omega) ⟨Nat.zero_le _, Nat.zero_le _⟩ (Nat.le_of_ble_eq_true rfl) (k_i (fun z94 h94 y94 q94 => ?_))
          obtain ⟨f94, ⟨rfl, p94⟩ | ⟨rfl, p94⟩⟩ := q94
          · rw [n5, n6, show h mLawfuls k = pL_ (h mRoads) k from pk] at p94
            simp -failIfUnchanged only [n_a1_mLawfuls] at p94
            refine pw_if_eq (t := 162) (pc := 97) dX12_goesFitting_97 (by decide) (by first | omega | (simp only [n_a1_mLawfuls]; omega)) (fun c97 => absurd c97 (by decide)) (fun _ => ?_)
            refine pw_aload_n (z := mo_) (pc := 100) dX12_goesFitting_100 rfl rfl ?_
            refine pw_getR (r := mRow) (pc := 101) dX12_goesFitting_101 fX12_149 (im_mo_ hM) k_mo_ rfl fr_mRow ?_
            refine pw_iload_n (z := t) (pc := 104) dX12_goesFitting_104 rfl rfl ?_
            refine pw_iload_n (z := k) (pc := 105) dX12_goesFitting_105 rfl rfl ?_
            refine pw_iast (pc := 106) dX12_goesFitting_106 (im_mRow hM) k_mRow 5 l_mRow (by first | omega | (simp only [n_a1_mLawfuls]; omega)) (by first | omega | (simp only [n_a1_mLawfuls]; omega)) (by first | omega | (simp only [n_a1_mLawfuls]; omega)) (by first | omega | (simp only [n_a1_mLawfuls]; omega)) ?_
            obtain ⟨g106, e106⟩ : ∃ x, x = up_ h94 mRow t k := ⟨_, rfl⟩
            refine pw_heq e106 ?_
            have J159 : ∀ (w : Int), (w = ((nst_ (pC_ (h mRoads)) (h mRow) t k s : Nat) : Int)) → PW G RX12 cX12_goesFitting 5 none (rm_ (5 + (n + 1))) 0 0 (zm_ G (qv_ (fun h' => gfs_ (n + 1) t s h F h'))) 159 [some (rr_ G mo_), some (ii_ t), some (ii_ (s : Int)), some (ii_ k), none] [ii_ w, ii_ (t + 1), rr_ G mo_] g106 := by
              intro w hw
              have q1 : g106 mRoads = h mRoads := by rw [e106, up_off (by decide), f94 mRoads (by decide), n5]
              have q6 : g106 mState = h mState := by rw [e106, up_off (by decide), f94 mState (by decide), n6]
              have q7 : g106 mo_ = a1 mo_ := by rw [e106, up_off (by decide), f94 mo_ (by decide)]
              have kb : k * 24 ^ n ≤ 23 * 24 ^ n := Int.mul_le_mul_of_nonneg_right (by omega) p24
              have pr : gfr_ P n (t + 1) (nst_ (pC_ (h mRoads)) (h mRow) t k s) g106 ((List.range k.toNat).foldl (fun (F : FT_) (j : Nat) => if_ (sen_ (h mState) (dg_ (h mRoads 2) (pL_ (h mRoads) (j : Int))) t (h mState 30).toNat) (ftr_ (h mRoads) (h mState) n (ob_ (h mRow) t (j : Int)) (nst_ (pC_ (h mRoads)) (h mRow) t (j : Int) s) F) F) F) := by
                refine ⟨by rw [q1]; exact hS, by rw [q1]; exact hR, by rw [q1]; exact hT, ?_, by rw [q6]; exact hm, by rw [q6, q1]; exact hk, by rw [q1]; omega, nst_b tn4 hs, ?_, aB.1, by have := aB.2; omega, ?_⟩
                · rw [q1]; exact fpl_mv (by rw [e106, up_off (by decide), f94 mLawfuls (by decide)]) (by rw [e106, up_off (by decide), f94 mWorths (by decide)]) (by rw [e106, up_off (by decide), f94 mChanges (by decide)]) (by rw [q7]) af5
                · intro j j0 j1
                  rw [q1, e106, up_at]
                  by_cases c : j = t
                  · rw [if_pos c]; omega
                  · rw [if_neg c, f94 mRow (by decide), ar j (by omega)]; exact hrow j j0 (by omega)
                · rw [q1]; exact fst_mv (by rw [e106, up_off (by decide), f94 mBestRow (by decide)]) q7 aF
              rw [hw]
              refine pw_callV (c := 12) (o := mo_) (As := [ii_ (t + 1), ii_ ((nst_ (pC_ (h mRoads)) (h mRow) t k s : Nat) : Int)]) (rest := []) (pc := 159) dX12_goesFitting_159 (IH g106 (t + 1) (nst_ (pC_ (h mRoads)) (h mRow) t k s) ((List.range k.toNat).foldl (fun (F : FT_) (j : Nat) => if_ (sen_ (h mState) (dg_ (h mRoads 2) (pL_ (h mRoads) (j : Int))) t (h mState 30).toNat) (ftr_ (h mRoads) (h mState) n (ob_ (h mRow) t (j : Int)) (nst_ (pC_ (h mRoads)) (h mRow) t (j : Int) s) F) F) F) pr) lX12_522 mX12_goesFitting vX12_goesFitting (im_mo_ hM) k_mo_ rfl rfl rfl ⟨by show 5 + n + 1 ≤ 5 + (n + 1); omega, by show 19 + 5 + 60 * (5 + n) ≤ 60 * (5 + (n + 1)); omega⟩ ⟨Nat.zero_le _, Nat.zero_le _⟩ (Nat.le_of_ble_eq_true rfl) (k_v (fun h159 q159 => ?_))
              obtain ⟨i1, i2, i3, i4⟩ := q159
              rw [q1, q6] at i4
              have ie : ftr_ (h mRoads) (h mState) n (g106 mRow) (nst_ (pC_ (h mRoads)) (h mRow) t k s) ((List.range k.toNat).foldl (fun (F : FT_) (j : Nat) => if_ (sen_ (h mState) (dg_ (h mRoads 2) (pL_ (h mRoads) (j : Int))) t (h mState 30).toNat) (ftr_ (h mRoads) (h mState) n (ob_ (h mRow) t (j : Int)) (nst_ (pC_ (h mRoads)) (h mRow) t (j : Int) s) F) F) F) = ftr_ (h mRoads) (h mState) n (ob_ (h mRow) t k) (nst_ (pC_ (h mRoads)) (h mRow) t k s) ((List.range k.toNat).foldl (fun (F : FT_) (j : Nat) => if_ (sen_ (h mState) (dg_ (h mRoads 2) (pL_ (h mRoads) (j : Int))) t (h mState 30).toNat) (ftr_ (h mRoads) (h mState) n (ob_ (h mRow) t (j : Int)) (nst_ (pC_ (h mRoads)) (h mRow) t (j : Int) s) F) F) F) := fth_cg n (by omega) (fun j j0 j1 => by
                rw [e106, up_ob]
                unfold ob_
                by_cases c : j = t
                · rw [if_pos c, if_pos c]
                · rw [if_neg c, if_neg c, f94 mRow (by decide), ar j (by omega)])
              exact J162 _ (by first | exact off_tr af (off_mo f94 (by decide)) | exact off_tr (by rw [e106]; exact off_up (off_tr af (off_mo f94 (by decide))) (by decide)) i1) (by first | exact fun x x1 x2 x3 => by rw [f94 mo_ (by decide)]; exact ao x x1 x2 x3 | exact fun x x1 x2 x3 => by rw [i2 x x1 x2 x3, e106, up_off (by decide), f94 mo_ (by decide)]; exact ao x x1 x2 x3) (by first | exact fun x x1 => by rw [f94 mRow (by decide)]; exact ar x x1 | exact fun x x1 => by rw [i3 x (by omega), e106, up_at, if_neg (by omega), f94 mRow (by decide)]; exact ar x x1) (by
                       rw [tn_s ak.1, List.range_succ, List.foldl_append]
                       show fst_ _ _ (if_ (sen_ (h mState) (dg_ (h mRoads 2) (pL_ (h mRoads) (k.toNat : Int))) t (h mState 30).toNat) _ _)
                       rw [tn_c ak.1]
                       first
                       | (rw [if_f p94]; exact fst_mv (f94 mBestRow (by decide)) (f94 mo_ (by decide)) aF)
                       | (rw [if_t p94, ← ie]; exact i4)) (by
                       rw [tn_s ak.1, List.range_succ, List.foldl_append]
                       show fok_ (if_ (sen_ (h mState) (dg_ (h mRoads 2) (pL_ (h mRoads) (k.toNat : Int))) t (h mState 30).toNat) _ _) ∧ (if_ (sen_ (h mState) (dg_ (h mRoads 2) (pL_ (h mRoads) (k.toNat : Int))) t (h mState 30).toNat) _ _ : FT_).1 ≤ _
                       rw [tn_c ak.1, Int.add_mul, Int.one_mul]
                       first
                       | (rw [if_f p94]; exact ⟨aB.1, by have := aB.2; omega⟩)
                       | (rw [if_t p94]
                          have fb := fth_b (T := h mRoads 1) (N := (lpn_ (h mRoads) 256).length) (pl := pL_ (h mRoads)) (CH := pC_ (h mRoads)) (SE := fun k t => sen_ (h mState) (dg_ (h mRoads 2) (pL_ (h mRoads) k)) t (h mState 30).toNat) hT.2 (by omega) n (ob_ (h mRow) t k) (nst_ (pC_ (h mRoads)) (h mRow) t k s) _ (nst_b tn4 hs) aB.1
                          exact ⟨fb.1, Int.le_trans fb.2.2 (by have := aB.2; omega)⟩))
            refine pw_iload_n (z := t) (pc := 107) dX12_goesFitting_107 rfl rfl ?_
            refine pw_if_le (t := 136) (pc := 108) dX12_goesFitting_108 (by decide) (by first | omega | (simp only [n_a1_mLawfuls]; omega)) (fun c108 => ?_) (fun c108 => ?_)
            · refine pw_iconst (pc := 136) dX12_goesFitting_136 ?_
              refine pw_istore (lv1 := [some (rr_ G mo_), some (ii_ t), some (ii_ (s : Int)), some (ii_ k), some (ii_ 0)]) (pc := 137) dX12_goesFitting_137 (by decide) rfl rfl ?_
              refine pw_aload_n (z := mo_) (pc := 139) dX12_goesFitting_139 rfl rfl ?_
              refine pw_iload_n (z := t) (pc := 140) dX12_goesFitting_140 rfl rfl ?_
              refine pw_iconst (pc := 141) dX12_goesFitting_141 ?_
              refine pw_iadd (pc := 142) dX12_goesFitting_142 ?_
              refine pw_iload (z := 0) (pc := 143) dX12_goesFitting_143 rfl ?_
              refine pw_if_eq (t := 158) (pc := 145) dX12_goesFitting_145 (by decide) (by first | omega | (simp only [n_a1_mLawfuls]; omega)) (fun _ => ?_) (fun c145 => absurd c145 (by decide))
              refine pw_iload_n (z := (s : Int)) (pc := 158) dX12_goesFitting_158 rfl rfl ?_
              refine pw_less (lv1 := [some (rr_ G mo_), some (ii_ t), some (ii_ (s : Int)), some (ii_ k), none]) rfl (by intro i v; (match i with | 0 => simp | 1 => simp | 2 => simp | 3 => simp | 4 => simp | n + 5 => simp)) ?_
              exact J159 _ (by
                       unfold nst_
                       first
                       | (rw [if_f (fun c => by omega)]; done)
                       | (have c1 := hf.2.2.2 (h mRow (t - 1)) k hr1.1 ak.1 kl (by omega)
                          rw [r11, c1] at c129
                          first
                          | (rw [if_f (fun c => c.2 c129)]; done)
                          | (rw [if_t ⟨by omega, c129⟩, x154 (by omega) (Int.pow_nonneg (by decide)), Int.toNat_natCast, ip2])))
            · have hr1 := hrow (t - 1) (by omega) (by omega)
              have r11 : g106 mRow (t - 1) = h mRow (t - 1) := by rw [e106, up_at, if_neg (by omega), f94 mRow (by decide)]; exact ar _ (by omega)
              refine pw_aload_n (z := mo_) (pc := 111) dX12_goesFitting_111 rfl rfl ?_
              refine pw_getR (r := mChanges) (pc := 112) dX12_goesFitting_112 fX12_146 (im_mo_ hM) k_mo_ rfl fr_mChanges ?_
              refine pw_bipush (pc := 115) dX12_goesFitting_115 rfl ?_
              refine pw_aload_n (z := mo_) (pc := 117) dX12_goesFitting_117 rfl rfl ?_
              refine pw_getR (r := mRow) (pc := 118) dX12_goesFitting_118 fX12_149 (im_mo_ hM) k_mo_ rfl fr_mRow ?_
              refine pw_iload_n (z := t) (pc := 121) dX12_goesFitting_121 rfl rfl ?_
              refine pw_iconst (pc := 122) dX12_goesFitting_122 ?_
              refine pw_isub (pc := 123) dX12_goesFitting_123 ?_
              refine pw_iald (pc := 124) dX12_goesFitting_124 (im_mRow hM) k_mRow 5 l_mRow (by first | omega | (simp only [n_a1_mLawfuls]; omega)) (by first | omega | (simp only [n_a1_mLawfuls]; omega)) (by first | omega | (simp only [n_a1_mLawfuls]; omega)) (fun r124 => ?_)
              refine pw_imul (pc := 125) dX12_goesFitting_125 ?_
              refine pw_iload_n (z := k) (pc := 126) dX12_goesFitting_126 rfl rfl ?_
              refine pw_iadd (pc := 127) dX12_goesFitting_127 ?_
              refine pw_iald (pc := 128) dX12_goesFitting_128 (im_mChanges hM) k_mChanges 576 l_mChanges (by first | omega | (simp only [n_a1_mLawfuls]; omega)) (by first | omega | (simp only [n_a1_mLawfuls]; omega)) (by first | omega | (simp only [n_a1_mLawfuls]; omega)) (fun r128 => ?_)
              have n_g106_mChanges : g106 mChanges = h mChanges := (((show g106 mChanges = h94 mChanges from (by rw [e106]; exact up_off (by decide))).trans (show h94 mChanges = a1 mChanges from (f94 mChanges (by decide)))).trans (show a1 mChanges = h mChanges from (af mChanges (by decide))))
              rw [n_g106_mChanges] at r128 ⊢
              refine pw_if_eq (t := 136) (pc := 129) dX12_goesFitting_129 (by decide) (by first | omega | (simp only [n_a1_mLawfuls, n_g106_mChanges]; omega)) (fun c129 => ?_) (fun c129 => ?_)
              · refine pw_iconst (pc := 136) dX12_goesFitting_136 ?_
                refine pw_istore (lv1 := [some (rr_ G mo_), some (ii_ t), some (ii_ (s : Int)), some (ii_ k), some (ii_ 0)]) (pc := 137) dX12_goesFitting_137 (by decide) rfl rfl ?_
                refine pw_aload_n (z := mo_) (pc := 139) dX12_goesFitting_139 rfl rfl ?_
                refine pw_iload_n (z := t) (pc := 140) dX12_goesFitting_140 rfl rfl ?_
                refine pw_iconst (pc := 141) dX12_goesFitting_141 ?_
                refine pw_iadd (pc := 142) dX12_goesFitting_142 ?_
                refine pw_iload (z := 0) (pc := 143) dX12_goesFitting_143 rfl ?_
                refine pw_if_eq (t := 158) (pc := 145) dX12_goesFitting_145 (by decide) (by first | omega | (simp only [n_a1_mLawfuls, n_g106_mChanges]; omega)) (fun _ => ?_) (fun c145 => absurd c145 (by decide))
                refine pw_iload_n (z := (s : Int)) (pc := 158) dX12_goesFitting_158 rfl rfl ?_
                refine pw_less (lv1 := [some (rr_ G mo_), some (ii_ t), some (ii_ (s : Int)), some (ii_ k), none]) rfl (by intro i v; (match i with | 0 => simp | 1 => simp | 2 => simp | 3 => simp | 4 => simp | n + 5 => simp)) ?_
                exact J159 _ (by
                         unfold nst_
                         first
                         | (rw [if_f (fun c => by omega)]; done)
                         | (have c1 := hf.2.2.2 (h mRow (t - 1)) k hr1.1 ak.1 kl (by omega)
                            rw [r11, c1] at c129
                            first
                            | (rw [if_f (fun c => c.2 c129)]; done)
                            | (rw [if_t ⟨by omega, c129⟩, x154 (by omega) (Int.pow_nonneg (by decide)), Int.toNat_natCast, ip2])))
              · refine pw_iconst (pc := 132) dX12_goesFitting_132 ?_
                refine pw_goto (t := 137) (pc := 133) dX12_goesFitting_133 (by decide) ?_
                refine pw_istore (lv1 := [some (rr_ G mo_), some (ii_ t), some (ii_ (s : Int)), some (ii_ k), some (ii_ 1)]) (pc := 137) dX12_goesFitting_137 (by decide) rfl rfl ?_
                refine pw_aload_n (z := mo_) (pc := 139) dX12_goesFitting_139 rfl rfl ?_
                refine pw_iload_n (z := t) (pc := 140) dX12_goesFitting_140 rfl rfl ?_
                refine pw_iconst (pc := 141) dX12_goesFitting_141 ?_
                refine pw_iadd (pc := 142) dX12_goesFitting_142 ?_
                refine pw_iload (z := 1) (pc := 143) dX12_goesFitting_143 rfl ?_
                refine pw_if_eq (t := 158) (pc := 145) dX12_goesFitting_145 (by decide) (by first | omega | (simp only [n_a1_mLawfuls, n_g106_mChanges]; omega)) (fun c145 => absurd c145 (by decide)) (fun _ => ?_)
                have p2 : (0 : Int) < 2 ^ (t - 1).toNat ∧ (2 : Int) ^ (t - 1).toNat ≤ 4 := by
                  have h5 : t = 1 ∨ t = 2 ∨ t = 3 := by omega
                  rcases h5 with h5 | h5 | h5 <;> rw [h5] <;> decide
                refine pw_iload_n (z := (s : Int)) (pc := 148) dX12_goesFitting_148 rfl rfl ?_
                refine pw_iconst (pc := 149) dX12_goesFitting_149 ?_
                refine pw_iload_n (z := t) (pc := 150) dX12_goesFitting_150 rfl rfl ?_
                refine pw_iconst (pc := 151) dX12_goesFitting_151 ?_
                refine pw_isub (pc := 152) dX12_goesFitting_152 ?_
                refine pw_ishl1 (pc := 153) dX12_goesFitting_153 (by first | omega | (simp only [n_a1_mLawfuls, n_g106_mChanges]; omega)) ?_
                refine pw_iorX (pc := 154) dX12_goesFitting_154 (by first | omega | (simp only [n_a1_mLawfuls, n_g106_mChanges]; omega)) (by first | omega | (simp only [n_a1_mLawfuls, n_g106_mChanges]; omega)) (fun w154 r154 x154 => ?_)
                refine pw_goto (t := 159) (pc := 155) dX12_goesFitting_155 (by decide) ?_
                refine pw_less (lv1 := [some (rr_ G mo_), some (ii_ t), some (ii_ (s : Int)), some (ii_ k), none]) rfl (by intro i v; (match i with | 0 => simp | 1 => simp | 2 => simp | 3 => simp | 4 => simp | n + 5 => simp)) ?_
                exact J159 _ (by
                         unfold nst_
                         first
                         | (rw [if_f (fun c => by omega)]; done)
                         | (have c1 := hf.2.2.2 (h mRow (t - 1)) k hr1.1 ak.1 kl (by omega)
                            rw [r11, c1] at c129
                            first
                            | (rw [if_f (fun c => c.2 c129)]; done)
                            | (rw [if_t ⟨by omega, c129⟩, x154 (by omega) (Int.pow_nonneg (by decide)), Int.toNat_natCast, ip2])))
          · rw [n5, n6, show h mLawfuls k = pL_ (h mRoads) k from pk] at p94
            simp -failIfUnchanged only [n_a1_mLawfuls] at p94
            refine pw_if_eq (t := 162) (pc := 97) dX12_goesFitting_97 (by decide) (by first | omega | (simp only [n_a1_mLawfuls]; omega)) (fun _ => ?_) (fun c97 => absurd c97 (by decide))
            exact J162 _ (by first | exact off_tr af (off_mo f94 (by decide)) | exact off_tr (by rw [e106]; exact off_up (off_tr af (off_mo f94 (by decide))) (by decide)) i1) (by first | exact fun x x1 x2 x3 => by rw [f94 mo_ (by decide)]; exact ao x x1 x2 x3 | exact fun x x1 x2 x3 => by rw [i2 x x1 x2 x3, e106, up_off (by decide), f94 mo_ (by decide)]; exact ao x x1 x2 x3) (by first | exact fun x x1 => by rw [f94 mRow (by decide)]; exact ar x x1 | exact fun x x1 => by rw [i3 x (by omega), e106, up_at, if_neg (by omega), f94 mRow (by decide)]; exact ar x x1) (by
                     rw [tn_s ak.1, List.range_succ, List.foldl_append]
                     show fst_ _ _ (if_ (sen_ (h mState) (dg_ (h mRoads 2) (pL_ (h mRoads) (k.toNat : Int))) t (h mState 30).toNat) _ _)
                     rw [tn_c ak.1]
                     first
                     | (rw [if_f p94]; exact fst_mv (f94 mBestRow (by decide)) (f94 mo_ (by decide)) aF)
                     | (rw [if_t p94, ← ie]; exact i4)) (by
                     rw [tn_s ak.1, List.range_succ, List.foldl_append]
                     show fok_ (if_ (sen_ (h mState) (dg_ (h mRoads 2) (pL_ (h mRoads) (k.toNat : Int))) t (h mState 30).toNat) _ _) ∧ (if_ (sen_ (h mState) (dg_ (h mRoads 2) (pL_ (h mRoads) (k.toNat : Int))) t (h mState 30).toNat) _ _ : FT_).1 ≤ _
                     rw [tn_c ak.1, Int.add_mul, Int.one_mul]
                     first
                     | (rw [if_f p94]; exact ⟨aB.1, by have := aB.2; omega⟩)
                     | (rw [if_t p94]
                        have fb := fth_b (T := h mRoads 1) (N := (lpn_ (h mRoads) 256).length) (pl := pL_ (h mRoads)) (CH := pC_ (h mRoads)) (SE := fun k t => sen_ (h mState) (dg_ (h mRoads 2) (pL_ (h mRoads) k)) t (h mState 30).toNat) hT.2 (by omega) n (ob_ (h mRow) t k) (nst_ (pC_ (h mRoads)) (h mRow) t k s) _ (nst_b tn4 hs) aB.1
                        exact ⟨fb.1, Int.le_trans fb.2.2 (by have := aB.2; omega)⟩))
    exact L78 _ _ _ (by omega) (off_rf) (fun _ _ _ _ => rfl) (fun _ _ => rfl) (⟨F1, F2, F3, F4⟩) (⟨⟨ok1, ok2, ok3⟩, by show F.1 ≤ F.1 + 0 * _; omega⟩) (Int.self_le_toNat _)
  · exfalso; omega

