theorem c_fit {G : GT_} (hM : okM_ G) (P : List (Int × Int)) : ∀ n : Nat, gfc_ G P n
  | 0 => fun h t s F hp => c_fit0 hM h P t s F hp
  | n + 1 => fun h t s F hp => c_fitS hM h P n (c_fit hM P n) t s F hp
def sto_ (T : Int) : Nat := 2 ^ (T - 1).toNat - 1
theorem sto_b {T : Int} (h : 0 ≤ T ∧ T ≤ 4) : sto_ T < 8 := by
  have h5 : T = 0 ∨ T = 1 ∨ T = 2 ∨ T = 3 ∨ T = 4 := by omega
  rcases h5 with h5 | h5 | h5 | h5 | h5 <;> rw [h5] <;> decide
theorem p24_b {T : Int} (h : 0 ≤ T ∧ T ≤ 4) : (24 : Int) ^ T.toNat ≤ 400000 := by
  have h5 : T = 0 ∨ T = 1 ∨ T = 2 ∨ T = 3 ∨ T = 4 := by omega
  rcases h5 with h5 | h5 | h5 | h5 | h5 <;> rw [h5] <;> decide
def fiq_ (w : Int) (s : Nat) (F : FT_) : Int := if w = 0 then F.1 else if F.1 = 0 then -1 else if w = 1 then (F.2.1 : Int) else if w = 2 then ((s - (s &&& F.2.2.1) : Nat) : Int) else F.2.2.2 (w - 3)
noncomputable def fit_ (ro f : Int → Int) (w : Int) : Int := if_ (0 ≤ w ∧ w ≤ 2 + ro 1) (fiq_ w (sto_ (ro 1)) (ftr_ ro f (ro 1).toNat (fun _ => 0) 0 (0, sto_ (ro 1), 0, fun _ => 0))) (-1)

set_option maxHeartbeats 4000000 in
set_option maxRecDepth 100000 in
theorem c_fits {G : GT_} (hM : okM_ G) (h : PH_) (hS : 2 ≤ h mRoads 0 ∧ h mRoads 0 ≤ 4) (hR : 0 ≤ h mRoads 2 ∧ h mRoads 2 ≤ h mRoads 0) (hT : 0 ≤ h mRoads 1 ∧ h mRoads 1 ≤ 4) (P : List (Int × Int)) (hw : 0 ≤ h mRoads 5 → law_ (h mOp) (h mArg) (h mRoads 5) P) (hm : 0 ≤ h mState 30 ∧ h mState 30 ≤ 12) (hk : ∀ k, 0 ≤ k → k < h mState 30 → 0 ≤ h mState (31 + 4 * k) ∧ h mState (31 + 4 * k) < h mRoads 2) (w : Int) (h1 : ir_ w) : PC G yX12_fits cX12_fits 3 (some .int) 10 [rr_ G mo_, ii_ w] h (qi_ (fun z h' => off_ [mLawfuls, mWorths, mChanges, mPasts, mSits, mFacts, mPile, mRow, mBestRow, mo_] h h' ∧ (∀ k, k ≠ 0 → k ≠ 32 → k ≠ 55 → k ≠ 56 → k ≠ 57 → h' mo_ k = h mo_ k) ∧ h' mo_ 0 = 0 ∧ z = fit_ (h mRoads) (h mState) w)) := by
  refine PC.of (lv := [some (rr_ G mo_), some (ii_ w), none]) (by decide +kernel) (Nat.le_of_ble_eq_true rfl) rfl rfl ?_
  refine pw_aload_n (z := mo_) (pc := 0) dX12_fits_0 rfl rfl ?_
  refine pw_iconst (pc := 1) dX12_fits_1 ?_
  refine pw_pI (x := 0) (pc := 2) dX12_fits_2 fX12_1 (im_mo_ hM) k_mo_ rfl rfl (by first | omega) ?_
  obtain ⟨g2, e2⟩ : ∃ x, x = up_ h mo_ 0 0 := ⟨_, rfl⟩
  refine pw_heq e2 ?_
  refine pw_iload_n (z := w) (pc := 5) dX12_fits_5 rfl rfl ?_
  refine pw_iconst (pc := 6) dX12_fits_6 ?_
  refine pw_iconst (pc := 7) dX12_fits_7 ?_
  refine pw_aload_n (z := mo_) (pc := 8) dX12_fits_8 rfl rfl ?_
  refine pw_callV (c := 12) (o := mo_) (As := []) (rest := [ii_ 2, ii_ 0, ii_ w]) (pc := 9) dX12_fits_9 (c_stretches hM g2) lX12_368 mX12_stretches vX12_stretches (im_mo_ hM) k_mo_ rfl rfl rfl (by decide) ⟨Nat.zero_le _, Nat.zero_le _⟩ (Nat.le_of_ble_eq_true rfl) (k_i (fun z9 h9 y9 q9 => ?_))
  obtain ⟨rfl, rfl⟩ := q9
  have n_g2_mRoads : g2 mRoads = h mRoads := (by rw [e2]; exact up_off (by decide))
  rw [n_g2_mRoads] at y9 ⊢
  refine pw_iadd (pc := 12) dX12_fits_12 ?_
  refine pw_callS (As := [ii_ w, ii_ 0, ii_ (2 + (h mRoads 1))]) (rest := []) (pc := 13) dX12_fits_13 (c_within g2 (w) (0) (2 + (h mRoads 1)) (by first | omega | (simp only [n_g2_mRoads]; omega)) (by first | omega | (simp only [n_g2_mRoads]; omega)) (by first | omega | (simp only [n_g2_mRoads]; omega))) lX12_308 mX12_within sX12_within rfl rfl (by decide) ⟨Nat.zero_le _, Nat.zero_le _⟩ (Nat.le_of_ble_eq_true rfl) (k_i (fun z13 h13 y13 q13 => ?_))
  obtain ⟨rfl, ⟨rfl, p13⟩ | ⟨rfl, p13⟩⟩ := q13
  · simp -failIfUnchanged only [n_g2_mRoads] at p13
    refine pw_if_ne (t := 21) (pc := 16) dX12_fits_16 (by decide) (by first | omega | (simp only [n_g2_mRoads]; omega)) (fun _ => ?_) (fun c16 => absurd c16 (by decide))
    refine pw_aload_n (z := mo_) (pc := 21) dX12_fits_21 rfl rfl ?_
    refine pw_callV (c := 12) (o := mo_) (As := []) (rest := []) (pc := 22) dX12_fits_22 (c_findPlans hM g2 (by first | omega | (simp only [n_g2_mRoads]; omega)) (by first | omega | (simp only [n_g2_mRoads]; omega)) (by first | omega | (simp only [n_g2_mRoads]; omega)) P (by rw [e2, up_off (by decide), up_off (by decide), up_off (by decide)]; exact hw)) lX12_458 mX12_findPlans vX12_findPlans (im_mo_ hM) k_mo_ rfl rfl rfl (by decide) ⟨Nat.zero_le _, Nat.zero_le _⟩ (Nat.le_of_ble_eq_true rfl) (k_v (fun h22 q22 => ?_))
    obtain ⟨f22, o22, l22, p22⟩ := q22
    have n6 : h22 mRoads = h mRoads := by rw [f22 mRoads (by decide), e2, up_off (by decide)]
    rw [show g2 mRoads = h mRoads by rw [e2, up_off (by decide)]] at l22 p22
    have J47 : ∀ (v : Int), (v = ((sto_ (h mRoads 1)) : Int)) → PW G RX12 cX12_fits 3 (some .int) (rm_ 10) 0 0 (zm_ G (qi_ (fun z h' => off_ [mLawfuls, mWorths, mChanges, mPasts, mSits, mFacts, mPile, mRow, mBestRow, mo_] h h' ∧ (∀ k, k ≠ 0 → k ≠ 32 → k ≠ 55 → k ≠ 56 → k ≠ 57 → h' mo_ k = h mo_ k) ∧ h' mo_ 0 = 0 ∧ z = fit_ (h mRoads) (h mState) w))) 47 [some (rr_ G mo_), some (ii_ w), none] [ii_ v] h22 := by
      intro v hv
      rw [hv]
      refine pw_istore_n (lv1 := [some (rr_ G mo_), some (ii_ w), some (ii_ (sto_ (h mRoads 1) : Int))]) (pc := 47) dX12_fits_47 rfl (by decide) rfl rfl ?_
      have sb := sto_b hT
      refine pw_aload_n (z := mo_) (pc := 48) dX12_fits_48 rfl rfl ?_
      refine pw_iconst (pc := 49) dX12_fits_49 ?_
      refine pw_pI (x := 55) (pc := 50) dX12_fits_50 fX12_510 (im_mo_ hM) k_mo_ rfl rfl (by first | omega | (simp only [n_g2_mRoads]; omega)) ?_
      obtain ⟨g50, e50⟩ : ∃ x, x = up_ h22 mo_ 55 0 := ⟨_, rfl⟩
      refine pw_heq e50 ?_
      refine pw_aload_n (z := mo_) (pc := 53) dX12_fits_53 rfl rfl ?_
      refine pw_iload_n (z := (sto_ (h mRoads 1) : Int)) (pc := 54) dX12_fits_54 rfl rfl ?_
      refine pw_pI (x := 56) (pc := 55) dX12_fits_55 fX12_513 (im_mo_ hM) k_mo_ rfl rfl (by first | omega | (simp only [n_g2_mRoads]; omega)) ?_
      obtain ⟨g55, e55⟩ : ∃ x, x = up_ g50 mo_ 56 (sto_ (h mRoads 1) : Int) := ⟨_, rfl⟩
      refine pw_heq e55 ?_
      refine pw_aload_n (z := mo_) (pc := 58) dX12_fits_58 rfl rfl ?_
      refine pw_iconst (pc := 59) dX12_fits_59 ?_
      refine pw_pI (x := 57) (pc := 60) dX12_fits_60 fX12_516 (im_mo_ hM) k_mo_ rfl rfl (by first | omega | (simp only [n_g2_mRoads]; omega)) ?_
      obtain ⟨g60, e60⟩ : ∃ x, x = up_ g55 mo_ 57 0 := ⟨_, rfl⟩
      refine pw_heq e60 ?_
      have q1 : g60 mRoads = h mRoads := by rw [e60, up_off (by decide), e55, up_off (by decide), e50, up_off (by decide)]; exact n6
      have q6 : g60 mState = h mState := by rw [e60, up_off (by decide), e55, up_off (by decide), e50, up_off (by decide), f22 mState (by decide), e2, up_off (by decide)]
      have q7 : g60 mo_ = ob_ (ob_ (ob_ (h22 mo_) 55 0) 56 ((sto_ (h mRoads 1)) : Int)) 57 0 := by rw [e60, up_ob, e55, up_ob, e50, up_ob]
      have q8 : ∀ k, k ≠ 55 → k ≠ 56 → k ≠ 57 → g60 mo_ k = h22 mo_ k := fun k k1 k2 k3 => by rw [q7]; unfold ob_; rw [if_neg k3, if_neg k2, if_neg k1]
      have kf : off_ [mLawfuls, mWorths, mChanges, mPasts, mSits, mFacts, mPile, mRow, mBestRow, mo_] h g60 := by rw [e60, e55, e50]; exact off_up (off_up (off_up (off_tr (by rw [e2]; exact off_up off_rf (by decide)) (off_mo f22 (by decide))) (by decide)) (by decide)) (by decide)
      have pr : gfr_ P (h mRoads 1).toNat 0 0 g60 (0, sto_ (h mRoads 1), 0, fun _ => 0) := by
        refine ⟨by rw [q1]; exact hS, by rw [q1]; exact hR, by rw [q1]; exact hT, ?_, by rw [q6]; exact hm, by rw [q6, q1]; exact hk, by rw [q1]; omega, by decide, fun k k0 k1 => by omega, ⟨Int.le_refl _, sb, show (0 : Nat) < 8 by decide⟩, by show 0 + 24 ^ _ ≤ (400000 : Int); rw [Int.zero_add]; exact p24_b hT, ?_⟩
        · rw [q1]; exact fpl_mv (by rw [e60, up_off (by decide), e55, up_off (by decide), e50, up_off (by decide)]) (by rw [e60, up_off (by decide), e55, up_off (by decide), e50, up_off (by decide)]) (by rw [e60, up_off (by decide), e55, up_off (by decide), e50, up_off (by decide)]) (q8 32 (by decide) (by decide) (by decide)) l22
        · exact ⟨by rw [q7]; rfl, by rw [q7]; rfl, by rw [q7]; rfl, fun c => absurd rfl c⟩
      refine pw_aload_n (z := mo_) (pc := 63) dX12_fits_63 rfl rfl ?_
      refine pw_iconst (pc := 64) dX12_fits_64 ?_
      refine pw_iconst (pc := 65) dX12_fits_65 ?_
      refine pw_callV (c := 12) (o := mo_) (As := [ii_ 0, ii_ 0]) (rest := []) (pc := 66) dX12_fits_66 (c_fit hM P (h mRoads 1).toNat g60 0 0 (0, sto_ (h mRoads 1), 0, fun _ => 0) pr) lX12_522 mX12_goesFitting vX12_goesFitting (im_mo_ hM) k_mo_ rfl rfl rfl ⟨by show 5 + (h mRoads 1).toNat + 1 ≤ 10; omega, by show 19 + 5 + 60 * (5 + (h mRoads 1).toNat) ≤ 60 * 10; omega⟩ ⟨Nat.zero_le _, Nat.zero_le _⟩ (Nat.le_of_ble_eq_true rfl) (k_v (fun h66 q66 => ?_))
      obtain ⟨i1, i2, i3, i4⟩ := q66
      rw [q1, q6, show ftr_ (h mRoads) (h mState) (h mRoads 1).toNat (g60 mRow) 0 (0, sto_ (h mRoads 1), 0, fun _ => 0) = ftr_ (h mRoads) (h mState) (h mRoads 1).toNat (fun _ => 0) 0 (0, sto_ (h mRoads 1), 0, fun _ => 0) from fth_cg _ (by omega) (fun j j0 j1 => by omega)] at i4
      have fb : fok_ (ftr_ (h mRoads) (h mState) (h mRoads 1).toNat (fun _ => 0) 0 (0, sto_ (h mRoads 1), 0, fun _ => 0)) := (fth_b hT.2 (lpn_24 hS hR) (h mRoads 1).toNat (fun _ => 0) 0 (0, sto_ (h mRoads 1), 0, fun _ => 0) (by decide) ⟨Int.le_refl _, sb, show (0 : Nat) < 8 by decide⟩).1
      have en : fit_ (h mRoads) (h mState) w = fiq_ w (sto_ (h mRoads 1)) (ftr_ (h mRoads) (h mState) (h mRoads 1).toNat (fun _ => 0) 0 (0, sto_ (h mRoads 1), 0, fun _ => 0)) := if_t (by omega)
      generalize ftr_ (h mRoads) (h mState) (h mRoads 1).toNat (fun _ => 0) 0 (0, sto_ (h mRoads 1), 0, fun _ => 0) = FF at i4 fb en
      obtain ⟨j1, j2, j3, j4⟩ := i4
      obtain ⟨fb1, fb2, fb3⟩ := fb
      refine pw_iload_n (z := w) (pc := 69) dX12_fits_69 rfl rfl ?_
      refine pw_if_eq (t := 80) (pc := 70) dX12_fits_70 (by decide) (by first | omega | (simp only [n_g2_mRoads]; omega)) (fun c70 => ?_) (fun c70 => ?_)
      · refine pw_iload_n (z := w) (pc := 80) dX12_fits_80 rfl rfl ?_
        refine pw_if_ne (t := 91) (pc := 81) dX12_fits_81 (by decide) (by first | omega | (simp only [n_g2_mRoads]; omega)) (fun c81 => ?_) (fun c81 => ?_)
        · refine pw_iconst (pc := 91) dX12_fits_91 ?_
          exact pw_iret (pc := 92) dX12_fits_92 (by first | omega | (simp only [n_g2_mRoads]; omega)) (by
                    first
                    | (refine ⟨off_tr kf (off_mo i1 (by decide)), fun k x0 x1 x2 x3 x4 => by rw [i2 k x2 x3 x4, q8 k x2 x3 x4, o22 k x1, e2, up_at, if_neg x0], by rw [i2 0 (by decide) (by decide) (by decide), q8 0 (by decide) (by decide) (by decide), o22 0 (by decide), e2, up_same], ?_⟩
                       rw [en]
                       unfold fiq_
                       first
                       | (exfalso; omega)
                       | (rw [if_pos (by omega)]; exact j1)
                       | (rw [if_neg (by omega), if_pos (by omega)]; done)
                       | (rw [if_neg (by omega), if_neg (by omega), if_pos (by omega)]; exact j2)
                       | (rw [if_neg (by omega), if_neg (by omega), if_neg (by omega), if_pos (by omega), v117 (by omega) (by omega), show -1 - (-1 - h66 mo_ 57) = h66 mo_ 57 by omega, j3, Int.toNat_natCast, Int.toNat_natCast]; done)
                       | (rw [if_neg (by omega), if_neg (by omega), if_neg (by omega), if_neg (by omega)]; exact j4 (by omega) (w - 3) (by omega) (by omega)))
                    | exact ⟨by rw [e2]; exact off_up off_rf (by decide), fun k x0 _ _ _ _ => by rw [e2, up_at, if_neg x0], by rw [e2, up_same], (if_f (by omega)).symm⟩)
        · refine pw_aload_n (z := mo_) (pc := 84) dX12_fits_84 rfl rfl ?_
          refine pw_gI (x := 55) (pc := 85) dX12_fits_85 fX12_510 (im_mo_ hM) k_mo_ rfl rfl (fun r85 => ?_)
          refine pw_goto (t := 92) (pc := 88) dX12_fits_88 (by decide) ?_
          exact pw_iret (pc := 92) dX12_fits_92 (by first | omega | (simp only [n_g2_mRoads]; omega)) (by
                    first
                    | (refine ⟨off_tr kf (off_mo i1 (by decide)), fun k x0 x1 x2 x3 x4 => by rw [i2 k x2 x3 x4, q8 k x2 x3 x4, o22 k x1, e2, up_at, if_neg x0], by rw [i2 0 (by decide) (by decide) (by decide), q8 0 (by decide) (by decide) (by decide), o22 0 (by decide), e2, up_same], ?_⟩
                       rw [en]
                       unfold fiq_
                       first
                       | (exfalso; omega)
                       | (rw [if_pos (by omega)]; exact j1)
                       | (rw [if_neg (by omega), if_pos (by omega)]; done)
                       | (rw [if_neg (by omega), if_neg (by omega), if_pos (by omega)]; exact j2)
                       | (rw [if_neg (by omega), if_neg (by omega), if_neg (by omega), if_pos (by omega), v117 (by omega) (by omega), show -1 - (-1 - h66 mo_ 57) = h66 mo_ 57 by omega, j3, Int.toNat_natCast, Int.toNat_natCast]; done)
                       | (rw [if_neg (by omega), if_neg (by omega), if_neg (by omega), if_neg (by omega)]; exact j4 (by omega) (w - 3) (by omega) (by omega)))
                    | exact ⟨by rw [e2]; exact off_up off_rf (by decide), fun k x0 _ _ _ _ => by rw [e2, up_at, if_neg x0], by rw [e2, up_same], (if_f (by omega)).symm⟩)
      · refine pw_aload_n (z := mo_) (pc := 73) dX12_fits_73 rfl rfl ?_
        refine pw_gI (x := 55) (pc := 74) dX12_fits_74 fX12_510 (im_mo_ hM) k_mo_ rfl rfl (fun r74 => ?_)
        refine pw_if_ne (t := 93) (pc := 77) dX12_fits_77 (by decide) (by first | omega | (simp only [n_g2_mRoads]; omega)) (fun c77 => ?_) (fun c77 => ?_)
        · refine pw_iload_n (z := w) (pc := 93) dX12_fits_93 rfl rfl ?_
          refine pw_iconst (pc := 94) dX12_fits_94 ?_
          refine pw_icmp_ne (t := 105) (pc := 95) dX12_fits_95 (by decide) (by first | omega | (simp only [n_g2_mRoads]; omega)) (by first | omega | (simp only [n_g2_mRoads]; omega)) (fun c95 => ?_) (fun c95 => ?_)
          · refine pw_iload_n (z := w) (pc := 105) dX12_fits_105 rfl rfl ?_
            refine pw_iconst (pc := 106) dX12_fits_106 ?_
            refine pw_icmp_ne (t := 121) (pc := 107) dX12_fits_107 (by decide) (by first | omega | (simp only [n_g2_mRoads]; omega)) (by first | omega | (simp only [n_g2_mRoads]; omega)) (fun c107 => ?_) (fun c107 => ?_)
            · refine pw_aload_n (z := mo_) (pc := 121) dX12_fits_121 rfl rfl ?_
              refine pw_getR (r := mBestRow) (pc := 122) dX12_fits_122 fX12_161 (im_mo_ hM) k_mo_ rfl fr_mBestRow ?_
              refine pw_iload_n (z := w) (pc := 125) dX12_fits_125 rfl rfl ?_
              refine pw_iconst (pc := 126) dX12_fits_126 ?_
              refine pw_isub (pc := 127) dX12_fits_127 ?_
              refine pw_iald (pc := 128) dX12_fits_128 (im_mBestRow hM) k_mBestRow 5 l_mBestRow (by first | omega | (simp only [n_g2_mRoads]; omega)) (by first | omega | (simp only [n_g2_mRoads]; omega)) (by first | omega | (simp only [n_g2_mRoads]; omega)) (fun r128 => ?_)
              exact pw_iret (pc := 129) dX12_fits_129 (by first | omega | (simp only [n_g2_mRoads]; omega)) (by
                        first
                        | (refine ⟨off_tr kf (off_mo i1 (by decide)), fun k x0 x1 x2 x3 x4 => by rw [i2 k x2 x3 x4, q8 k x2 x3 x4, o22 k x1, e2, up_at, if_neg x0], by rw [i2 0 (by decide) (by decide) (by decide), q8 0 (by decide) (by decide) (by decide), o22 0 (by decide), e2, up_same], ?_⟩
                           rw [en]
                           unfold fiq_
                           first
                           | (exfalso; omega)
                           | (rw [if_pos (by omega)]; exact j1)
                           | (rw [if_neg (by omega), if_pos (by omega)]; done)
                           | (rw [if_neg (by omega), if_neg (by omega), if_pos (by omega)]; exact j2)
                           | (rw [if_neg (by omega), if_neg (by omega), if_neg (by omega), if_pos (by omega), v117 (by omega) (by omega), show -1 - (-1 - h66 mo_ 57) = h66 mo_ 57 by omega, j3, Int.toNat_natCast, Int.toNat_natCast]; done)
                           | (rw [if_neg (by omega), if_neg (by omega), if_neg (by omega), if_neg (by omega)]; exact j4 (by omega) (w - 3) (by omega) (by omega)))
                        | exact ⟨by rw [e2]; exact off_up off_rf (by decide), fun k x0 _ _ _ _ => by rw [e2, up_at, if_neg x0], by rw [e2, up_same], (if_f (by omega)).symm⟩)
            · refine pw_iload_n (z := (sto_ (h mRoads 1) : Int)) (pc := 110) dX12_fits_110 rfl rfl ?_
              refine pw_aload_n (z := mo_) (pc := 111) dX12_fits_111 rfl rfl ?_
              refine pw_gI (x := 57) (pc := 112) dX12_fits_112 fX12_516 (im_mo_ hM) k_mo_ rfl rfl (fun r112 => ?_)
              refine pw_iconst (pc := 115) dX12_fits_115 ?_
              refine pw_inot (pc := 116) dX12_fits_116 (by first | omega | (simp only [n_g2_mRoads]; omega)) ?_
              refine pw_iandX (pc := 117) dX12_fits_117 (by first | omega | (simp only [n_g2_mRoads]; omega)) (by first | omega | (simp only [n_g2_mRoads]; omega)) (fun w117 r117 x117 v117 => ?_)
              refine pw_goto (t := 129) (pc := 118) dX12_fits_118 (by decide) ?_
              exact pw_iret (pc := 129) dX12_fits_129 (by first | omega | (simp only [n_g2_mRoads]; omega)) (by
                        first
                        | (refine ⟨off_tr kf (off_mo i1 (by decide)), fun k x0 x1 x2 x3 x4 => by rw [i2 k x2 x3 x4, q8 k x2 x3 x4, o22 k x1, e2, up_at, if_neg x0], by rw [i2 0 (by decide) (by decide) (by decide), q8 0 (by decide) (by decide) (by decide), o22 0 (by decide), e2, up_same], ?_⟩
                           rw [en]
                           unfold fiq_
                           first
                           | (exfalso; omega)
                           | (rw [if_pos (by omega)]; exact j1)
                           | (rw [if_neg (by omega), if_pos (by omega)]; done)
                           | (rw [if_neg (by omega), if_neg (by omega), if_pos (by omega)]; exact j2)
                           | (rw [if_neg (by omega), if_neg (by omega), if_neg (by omega), if_pos (by omega), v117 (by omega) (by omega), show -1 - (-1 - h66 mo_ 57) = h66 mo_ 57 by omega, j3, Int.toNat_natCast, Int.toNat_natCast]; done)
                           | (rw [if_neg (by omega), if_neg (by omega), if_neg (by omega), if_neg (by omega)]; exact j4 (by omega) (w - 3) (by omega) (by omega)))
                        | exact ⟨by rw [e2]; exact off_up off_rf (by decide), fun k x0 _ _ _ _ => by rw [e2, up_at, if_neg x0], by rw [e2, up_same], (if_f (by omega)).symm⟩)
          · refine pw_aload_n (z := mo_) (pc := 98) dX12_fits_98 rfl rfl ?_
            refine pw_gI (x := 56) (pc := 99) dX12_fits_99 fX12_513 (im_mo_ hM) k_mo_ rfl rfl (fun r99 => ?_)
            refine pw_goto (t := 129) (pc := 102) dX12_fits_102 (by decide) ?_
            exact pw_iret (pc := 129) dX12_fits_129 (by first | omega | (simp only [n_g2_mRoads]; omega)) (by
                      first
                      | (refine ⟨off_tr kf (off_mo i1 (by decide)), fun k x0 x1 x2 x3 x4 => by rw [i2 k x2 x3 x4, q8 k x2 x3 x4, o22 k x1, e2, up_at, if_neg x0], by rw [i2 0 (by decide) (by decide) (by decide), q8 0 (by decide) (by decide) (by decide), o22 0 (by decide), e2, up_same], ?_⟩
                         rw [en]
                         unfold fiq_
                         first
                         | (exfalso; omega)
                         | (rw [if_pos (by omega)]; exact j1)
                         | (rw [if_neg (by omega), if_pos (by omega)]; done)
                         | (rw [if_neg (by omega), if_neg (by omega), if_pos (by omega)]; exact j2)
                         | (rw [if_neg (by omega), if_neg (by omega), if_neg (by omega), if_pos (by omega), v117 (by omega) (by omega), show -1 - (-1 - h66 mo_ 57) = h66 mo_ 57 by omega, j3, Int.toNat_natCast, Int.toNat_natCast]; done)
                         | (rw [if_neg (by omega), if_neg (by omega), if_neg (by omega), if_neg (by omega)]; exact j4 (by omega) (w - 3) (by omega) (by omega)))
                      | exact ⟨by rw [e2]; exact off_up off_rf (by decide), fun k x0 _ _ _ _ => by rw [e2, up_at, if_neg x0], by rw [e2, up_same], (if_f (by omega)).symm⟩)
        · refine pw_iload_n (z := w) (pc := 80) dX12_fits_80 rfl rfl ?_
          refine pw_if_ne (t := 91) (pc := 81) dX12_fits_81 (by decide) (by first | omega | (simp only [n_g2_mRoads]; omega)) (fun c81 => ?_) (fun c81 => ?_)
          · refine pw_iconst (pc := 91) dX12_fits_91 ?_
            exact pw_iret (pc := 92) dX12_fits_92 (by first | omega | (simp only [n_g2_mRoads]; omega)) (by
                      first
                      | (refine ⟨off_tr kf (off_mo i1 (by decide)), fun k x0 x1 x2 x3 x4 => by rw [i2 k x2 x3 x4, q8 k x2 x3 x4, o22 k x1, e2, up_at, if_neg x0], by rw [i2 0 (by decide) (by decide) (by decide), q8 0 (by decide) (by decide) (by decide), o22 0 (by decide), e2, up_same], ?_⟩
                         rw [en]
                         unfold fiq_
                         first
                         | (exfalso; omega)
                         | (rw [if_pos (by omega)]; exact j1)
                         | (rw [if_neg (by omega), if_pos (by omega)]; done)
                         | (rw [if_neg (by omega), if_neg (by omega), if_pos (by omega)]; exact j2)
                         | (rw [if_neg (by omega), if_neg (by omega), if_neg (by omega), if_pos (by omega), v117 (by omega) (by omega), show -1 - (-1 - h66 mo_ 57) = h66 mo_ 57 by omega, j3, Int.toNat_natCast, Int.toNat_natCast]; done)
                         | (rw [if_neg (by omega), if_neg (by omega), if_neg (by omega), if_neg (by omega)]; exact j4 (by omega) (w - 3) (by omega) (by omega)))
                      | exact ⟨by rw [e2]; exact off_up off_rf (by decide), fun k x0 _ _ _ _ => by rw [e2, up_at, if_neg x0], by rw [e2, up_same], (if_f (by omega)).symm⟩)
          · refine pw_aload_n (z := mo_) (pc := 84) dX12_fits_84 rfl rfl ?_
            refine pw_gI (x := 55) (pc := 85) dX12_fits_85 fX12_510 (im_mo_ hM) k_mo_ rfl rfl (fun r85 => ?_)
            refine pw_goto (t := 92) (pc := 88) dX12_fits_88 (by decide) ?_
            exact pw_iret (pc := 92) dX12_fits_92 (by first | omega | (simp only [n_g2_mRoads]; omega)) (by
                      first
                      | (refine ⟨off_tr kf (off_mo i1 (by decide)), fun k x0 x1 x2 x3 x4 => by rw [i2 k x2 x3 x4, q8 k x2 x3 x4, o22 k x1, e2, up_at, if_neg x0], by rw [i2 0 (by decide) (by decide) (by decide), q8 0 (by decide) (by decide) (by decide), o22 0 (by decide), e2, up_same], ?_⟩
                         rw [en]
                         unfold fiq_
                         first
                         | (exfalso; omega)
                         | (rw [if_pos (by omega)]; exact j1)
                         | (rw [if_neg (by omega), if_pos (by omega)]; done)
                         | (rw [if_neg (by omega), if_neg (by omega), if_pos (by omega)]; exact j2)
                         | (rw [if_neg (by omega), if_neg (by omega), if_neg (by omega), if_pos (by omega), v117 (by omega) (by omega), show -1 - (-1 - h66 mo_ 57) = h66 mo_ 57 by omega, j3, Int.toNat_natCast, Int.toNat_natCast]; done)
                         | (rw [if_neg (by omega), if_neg (by omega), if_neg (by omega), if_neg (by omega)]; exact j4 (by omega) (w - 3) (by omega) (by omega)))
                      | exact ⟨by rw [e2]; exact off_up off_rf (by decide), fun k x0 _ _ _ _ => by rw [e2, up_at, if_neg x0], by rw [e2, up_same], (if_f (by omega)).symm⟩)
    refine pw_aload_n (z := mo_) (pc := 25) dX12_fits_25 rfl rfl ?_
    refine pw_callV (c := 12) (o := mo_) (As := []) (rest := []) (pc := 26) dX12_fits_26 (c_stretches hM h22) lX12_368 mX12_stretches vX12_stretches (im_mo_ hM) k_mo_ rfl rfl rfl (by decide) ⟨Nat.zero_le _, Nat.zero_le _⟩ (Nat.le_of_ble_eq_true rfl) (k_i (fun z26 h26 y26 q26 => ?_))
    obtain ⟨rfl, rfl⟩ := q26
    have n_h22_mRoads : h22 mRoads = h mRoads := ((show h22 mRoads = g2 mRoads from (f22 mRoads (by decide))).trans (show g2 mRoads = h mRoads from (by rw [e2]; exact up_off (by decide))))
    rw [n_h22_mRoads] at y26 ⊢
    refine pw_iconst (pc := 29) dX12_fits_29 ?_
    refine pw_icmp_le (t := 46) (pc := 30) dX12_fits_30 (by decide) (by first | omega | (simp only [n_g2_mRoads, n_h22_mRoads]; omega)) (by first | omega | (simp only [n_g2_mRoads, n_h22_mRoads]; omega)) (fun c30 => ?_) (fun c30 => ?_)
    · refine pw_iconst (pc := 46) dX12_fits_46 ?_
      exact J47 _ (by
               first
               | (have x : (sto_ (h mRoads 1)) = 0 := by unfold sto_; rw [show (h mRoads 1 - 1).toNat = 0 by omega] <;> rfl
                  omega)
               | (have x := ip2 (h mRoads 1 - 1).toNat
                  unfold sto_
                  omega))
    · have p2 : (1 : Int) ≤ 2 ^ (h mRoads 1 - 1).toNat ∧ (2 : Int) ^ (h mRoads 1 - 1).toNat ≤ 8 := by
        have h5 : h mRoads 1 = 2 ∨ h mRoads 1 = 3 ∨ h mRoads 1 = 4 := by omega
        rcases h5 with h5 | h5 | h5 <;> rw [h5] <;> decide
      refine pw_iconst (pc := 33) dX12_fits_33 ?_
      refine pw_aload_n (z := mo_) (pc := 34) dX12_fits_34 rfl rfl ?_
      refine pw_callV (c := 12) (o := mo_) (As := []) (rest := [ii_ 1]) (pc := 35) dX12_fits_35 (c_stretches hM h22) lX12_368 mX12_stretches vX12_stretches (im_mo_ hM) k_mo_ rfl rfl rfl (by decide) ⟨Nat.zero_le _, Nat.zero_le _⟩ (Nat.le_of_ble_eq_true rfl) (k_i (fun z35 h35 y35 q35 => ?_))
      obtain ⟨rfl, rfl⟩ := q35
      rw [n_h22_mRoads] at y35 ⊢
      refine pw_iconst (pc := 38) dX12_fits_38 ?_
      refine pw_isub (pc := 39) dX12_fits_39 ?_
      refine pw_ishl1 (pc := 40) dX12_fits_40 (by first | omega | (simp only [n_g2_mRoads, n_h22_mRoads]; omega)) ?_
      refine pw_iconst (pc := 41) dX12_fits_41 ?_
      refine pw_isub (pc := 42) dX12_fits_42 ?_
      refine pw_goto (t := 47) (pc := 43) dX12_fits_43 (by decide) ?_
      exact J47 _ (by
               first
               | (have x : (sto_ (h mRoads 1)) = 0 := by unfold sto_; rw [show (h mRoads 1 - 1).toNat = 0 by omega] <;> rfl
                  omega)
               | (have x := ip2 (h mRoads 1 - 1).toNat
                  unfold sto_
                  omega))
  · simp -failIfUnchanged only [n_g2_mRoads] at p13
    refine pw_if_ne (t := 21) (pc := 16) dX12_fits_16 (by decide) (by first | omega | (simp only [n_g2_mRoads]; omega)) (fun c16 => absurd c16 (by decide)) (fun _ => ?_)
    refine pw_iconst (pc := 19) dX12_fits_19 ?_
    exact pw_iret (pc := 20) dX12_fits_20 (by first | omega | (simp only [n_g2_mRoads]; omega)) (by
              first
              | (refine ⟨off_tr kf (off_mo i1 (by decide)), fun k x0 x1 x2 x3 x4 => by rw [i2 k x2 x3 x4, q8 k x2 x3 x4, o22 k x1, e2, up_at, if_neg x0], by rw [i2 0 (by decide) (by decide) (by decide), q8 0 (by decide) (by decide) (by decide), o22 0 (by decide), e2, up_same], ?_⟩
                 rw [en]
                 unfold fiq_
                 first
                 | (exfalso; omega)
                 | (rw [if_pos (by omega)]; exact j1)
                 | (rw [if_neg (by omega), if_pos (by omega)]; done)
                 | (rw [if_neg (by omega), if_neg (by omega), if_pos (by omega)]; exact j2)
                 | (rw [if_neg (by omega), if_neg (by omega), if_neg (by omega), if_pos (by omega), v117 (by omega) (by omega), show -1 - (-1 - h66 mo_ 57) = h66 mo_ 57 by omega, j3, Int.toNat_natCast, Int.toNat_natCast]; done)
                 | (rw [if_neg (by omega), if_neg (by omega), if_neg (by omega), if_neg (by omega)]; exact j4 (by omega) (w - 3) (by omega) (by omega)))
              | exact ⟨by rw [e2]; exact off_up off_rf (by decide), fun k x0 _ _ _ _ => by rw [e2, up_at, if_neg x0], by rw [e2, up_same], (if_f (by omega)).symm⟩)

