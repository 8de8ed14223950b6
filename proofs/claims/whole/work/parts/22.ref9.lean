set_option maxHeartbeats 4000000 in
set_option maxRecDepth 100000 in
theorem c_drive {G : GT_} (hM : okM_ G) (h : PH_) (hS : 2 ≤ h mRoads 0 ∧ h mRoads 0 ≤ 4) (hR : 0 ≤ h mRoads 2 ∧ h mRoads 2 ≤ h mRoads 0) (P : List (Int × Int)) (hw : 0 ≤ h mRoads 5 → law_ (h mOp) (h mArg) (h mRoads 5) P) (hu : 0 ≤ h mo_ 28 ∧ h mo_ 28 ≤ 16) (hst : ∀ r, 0 ≤ r → r < h mRoads 2 → h mState (1 + r) ≤ 3) (h4 : 0 ≤ h mRoads 4 ∧ h mRoads 4 ≤ 99) (hT : h mRoads 1 ≤ 4) (hN : 0 ≤ h mState 0) (ht : ∀ r, 0 ≤ r → r < 4 → -1000000 ≤ h mState (9 + r) ∧ h mState (9 + r) ≤ 1000000) : PC G yX12_drive cX12_drive 1 (some .int) 6 [rr_ G mo_] h (qi_ (fun z h' => off_ [mState, mo_, mSits, mFacts, mPile] h h' ∧ ((mdr_ (h mRoads) (h mState) 0 ∧ h' mState = drv_ (h mRoads) P (kep_ (h mState) (h mo_ 28)) (fun r => h mState (1 + r)) 0 ∧ z = h' mState 0 ∧ h' mo_ = ob_ (ob_ (h mo_) 0 0) 28 (if h mo_ 28 = 16 then 16 else h mo_ 28 + 1)) ∨ (¬ mdr_ (h mRoads) (h mState) 0 ∧ z = -1 ∧ h' mState = h mState ∧ h' mo_ = ob_ (h mo_) 0 0)))) := by
  refine PC.of (lv := [some (rr_ G mo_)]) (by decide +kernel) (Nat.le_of_ble_eq_true rfl) rfl rfl ?_
  refine pw_aload_n (z := mo_) (pc := 0) dX12_drive_0 rfl rfl ?_
  refine pw_iconst (pc := 1) dX12_drive_1 ?_
  refine pw_pI (x := 0) (pc := 2) dX12_drive_2 fX12_1 (im_mo_ hM) k_mo_ rfl rfl (by first | omega) ?_
  obtain ⟨g2, e2⟩ : ∃ x, x = up_ h mo_ 0 0 := ⟨_, rfl⟩
  refine pw_heq e2 ?_
  have hse_g2 : ∀ r, 0 ≤ r → r < g2 mRoads 2 → g2 mState (0 + 1 + r) ≤ 3 := fun r r0 r1 => by rw [e2, up_off (by decide)] at r1 ⊢; exact hst r r0 r1
  have k1 : off_ [mState, mo_, mSits, mFacts, mPile] h g2 := by rw [e2]; exact off_up off_rf (by decide)
  have k2 : g2 mState = h mState := by rw [e2, up_off (by decide)]
  have k3 : g2 mo_ = ob_ (h mo_) 0 0 := by rw [e2, up_ob]
  refine pw_aload_n (z := mo_) (pc := 5) dX12_drive_5 rfl rfl ?_
  refine pw_iconst (pc := 6) dX12_drive_6 ?_
  have n_g2_mRoads : g2 mRoads = h mRoads := (by rw [e2]; exact up_off (by decide))
  have n_g2_mState : g2 mState = h mState := (by rw [e2]; exact up_off (by decide))
  refine pw_callV (c := 12) (o := mo_) (As := [ii_ 0]) (rest := []) (pc := 7) dX12_drive_7 (c_mayDrive hM g2 (by first | omega | (simp only [n_g2_mRoads, n_g2_mState]; omega)) (by first | omega | (simp only [n_g2_mRoads, n_g2_mState]; omega)) (0) (by first | omega | (simp only [n_g2_mRoads, n_g2_mState]; omega)) hse_g2) lX12_415 mX12_mayDrive vX12_mayDrive (im_mo_ hM) k_mo_ rfl rfl rfl (by decide) ⟨Nat.zero_le _, Nat.zero_le _⟩ (Nat.le_of_ble_eq_true rfl) (k_i (fun z7 h7 y7 q7 => ?_))
  obtain ⟨f7, d7, ⟨rfl, p7⟩ | ⟨rfl, p7⟩⟩ := q7
  · simp -failIfUnchanged only [n_g2_mRoads, n_g2_mState] at p7
    refine pw_if_ne (t := 15) (pc := 10) dX12_drive_10 (by decide) (by first | omega | (simp only [n_g2_mRoads, n_g2_mState]; omega)) (fun _ => ?_) (fun c10 => absurd c10 (by decide))
    have u28 : h7 mo_ 28 = h mo_ 28 := by rw [f7 mo_ (by decide), k3]; exact if_neg (by decide)
    have s7 : h7 mState = h mState := by rw [f7 mState (by decide), k2]
    refine pw_aload_n (z := mo_) (pc := 15) dX12_drive_15 rfl rfl ?_
    refine pw_callV (c := 12) (o := mo_) (As := []) (rest := []) (pc := 16) dX12_drive_16 (c_keeps hM h7 (by first | omega | (simp only [n_g2_mRoads, n_g2_mState]; omega))) lX12_409 mX12_keeps vX12_keeps (im_mo_ hM) k_mo_ rfl rfl rfl (by decide) ⟨Nat.zero_le _, Nat.zero_le _⟩ (Nat.le_of_ble_eq_true rfl) (k_v (fun h16 q16 => ?_))
    obtain ⟨f16, m16, o16⟩ := q16
    have k16 : h16 mState = kep_ (h mState) (h mo_ 28) := by rw [m16, s7, u28]
    have kl : ∀ x, x < 400 → h16 mState x = h mState x := fun x x1 => by rw [k16]; unfold kep_ shf_; (repeat' split) <;> first | rfl | omega
    have r16 : h16 mRoads = h mRoads := by rw [f16 mRoads (by decide), f7 mRoads (by decide), e2, up_off (by decide)]
    have sd : ∀ r, 0 ≤ r → r < h mRoads 2 → h16 mSits r = h mState (1 + r) := fun r r0 r1 => by rw [f16 mSits (by decide), d7 r r0 (by rw [e2, up_off (by decide)]; exact r1), k2, Int.zero_add]
    have hs16 : ∀ r, 0 ≤ r → r < h16 mRoads 2 → 0 ≤ h16 mSits r ∧ h16 mSits r ≤ 3 := fun r r0 r1 => by
      rw [r16] at r1; rw [sd r r0 r1]
      exact ⟨by have := alls_e p7.2.1 r r0 (by omega); simp only [Int.zero_add] at this; exact this, hst r r0 r1⟩
    have p70 := p7.1
    have ht16 : ∀ r, 0 ≤ r → r < 4 → -1000000 ≤ h16 mState (0 + 9 + r) ∧ h16 mState (0 + 9 + r) ≤ 1000000 := fun r r0 r1 => by rw [kl _ (by omega)]; exact ht r r0 r1
    refine pw_aload_n (z := mo_) (pc := 19) dX12_drive_19 rfl rfl ?_
    refine pw_iconst (pc := 20) dX12_drive_20 ?_
    have n_h16_mRoads : h16 mRoads = h mRoads := (((show h16 mRoads = h7 mRoads from (f16 mRoads (by decide))).trans (show h7 mRoads = g2 mRoads from (f7 mRoads (by decide)))).trans (show g2 mRoads = h mRoads from (by rw [e2]; exact up_off (by decide))))
    have n_h16_mSits : h16 mSits = h7 mSits := (f16 mSits (by decide))
    refine pw_callV (c := 12) (o := mo_) (As := [ii_ 0]) (rest := []) (pc := 21) dX12_drive_21 (c_drives hM h16 (by rw [r16]; omega) (by rw [r16]; omega) P (by rw [r16, f16 mOp (by decide), f16 mArg (by decide), f7 mOp (by decide), f7 mArg (by decide), e2, up_off (by decide), up_off (by decide)]; exact hw) hs16 0 (by first | omega | (simp only [n_g2_mRoads, n_g2_mState, n_h16_mRoads, n_h16_mSits]; omega)) (by rw [kl 0 (by decide)]; omega) (by rw [r16]; omega) ht16) lX12_418 mX12_drives vX12_drives (im_mo_ hM) k_mo_ rfl rfl rfl (by decide) ⟨Nat.zero_le _, Nat.zero_le _⟩ (Nat.le_of_ble_eq_true rfl) (k_v (fun h21 q21 => ?_))
    obtain ⟨f21, m21⟩ := q21
    refine pw_aload_n (z := mo_) (pc := 24) dX12_drive_24 rfl rfl ?_
    refine pw_getR (r := mState) (pc := 25) dX12_drive_25 fX12_130 (im_mo_ hM) k_mo_ rfl fr_mState ?_
    refine pw_iconst (pc := 28) dX12_drive_28 ?_
    refine pw_iald (pc := 29) dX12_drive_29 (im_mState hM) k_mState 1760 l_mState (by first | omega | (simp only [n_g2_mRoads, n_g2_mState, n_h16_mRoads, n_h16_mSits]; omega)) (by first | omega | (simp only [n_g2_mRoads, n_g2_mState, n_h16_mRoads, n_h16_mSits]; omega)) (by first | omega | (simp only [n_g2_mRoads, n_g2_mState, n_h16_mRoads, n_h16_mSits]; omega)) (fun r29 => ?_)
    exact pw_iret (pc := 30) dX12_drive_30 (by first | omega | (simp only [n_g2_mRoads, n_g2_mState, n_h16_mRoads, n_h16_mSits]; omega)) (by
              first
              | exact ⟨off_tr k1 (off_mo f7 (by decide)), Or.inr ⟨p7, rfl, by rw [f7 mState (by decide), k2], by rw [f7 mo_ (by decide), k3]⟩⟩
              | (refine ⟨off_tr k1 (off_tr (off_mo f7 (by decide)) (off_tr (off_mo f16 (by decide)) (off_mo f21 (by decide)))), Or.inl ⟨p7, ?_, rfl, ?_⟩⟩
                 · rw [m21, r16, k16]
                   exact drv_cg (fun r r0 r1 => sd r r0 r1)
                 · rw [f21 mo_ (by decide), o16, f7 mo_ (by decide), k3, show ob_ (h mo_) 0 0 28 = h mo_ 28 from if_neg (by decide)]))
  · simp -failIfUnchanged only [n_g2_mRoads, n_g2_mState] at p7
    refine pw_if_ne (t := 15) (pc := 10) dX12_drive_10 (by decide) (by first | omega | (simp only [n_g2_mRoads, n_g2_mState]; omega)) (fun c10 => absurd c10 (by decide)) (fun _ => ?_)
    refine pw_iconst (pc := 13) dX12_drive_13 ?_
    exact pw_iret (pc := 14) dX12_drive_14 (by first | omega | (simp only [n_g2_mRoads, n_g2_mState]; omega)) (by
              first
              | exact ⟨off_tr k1 (off_mo f7 (by decide)), Or.inr ⟨p7, rfl, by rw [f7 mState (by decide), k2], by rw [f7 mo_ (by decide), k3]⟩⟩
              | (refine ⟨off_tr k1 (off_tr (off_mo f7 (by decide)) (off_tr (off_mo f16 (by decide)) (off_mo f21 (by decide)))), Or.inl ⟨p7, ?_, rfl, ?_⟩⟩
                 · rw [m21, r16, k16]
                   exact drv_cg (fun r r0 r1 => sd r r0 r1)
                 · rw [f21 mo_ (by decide), o16, f7 mo_ (by decide), k3, show ob_ (h mo_) 0 0 28 = h mo_ 28 from if_neg (by decide)]))

set_option maxHeartbeats 4000000 in
set_option maxRecDepth 100000 in
theorem c_mark0 {G : GT_} (hM : okM_ G) (h : PH_) (hu : 0 ≤ h mo_ 28 ∧ h mo_ 28 ≤ 16) (m : Int) (h1 : ir_ m) (hb : ∀ k, 0 ≤ k → k < 4 → h mIsMarked k = 0 ∨ h mIsMarked k = 1) : PC G yX12_mark cX12_mark 3 (some .boolean) 2 [rr_ G mo_, ii_ m, ii_ 0] h (qi_ (fun z h' => off_ [mState, mo_, mIsMarked] h h' ∧ (((0 ≤ m ∧ m ≤ 3) ∧ z = 1 ∧ h' mIsMarked = ob_ (h mIsMarked) m 1 ∧ h' mState = cpy_ (h mState) 0 (80 * (1 + m)) 80 ∧ h' mo_ = ob_ (h mo_) 0 0) ∨ (¬ ((0 ≤ m ∧ m ≤ 3)) ∧ z = 0 ∧ h' mState = h mState ∧ h' mo_ = ob_ (h mo_) 0 0 ∧ h' mIsMarked = h mIsMarked)))) := by
  refine PC.of (lv := [some (rr_ G mo_), some (ii_ m), some (ii_ 0)]) (by decide +kernel) (Nat.le_of_ble_eq_true rfl) rfl rfl ?_
  refine pw_aload_n (z := mo_) (pc := 0) dX12_mark_0 rfl rfl ?_
  refine pw_iconst (pc := 1) dX12_mark_1 ?_
  refine pw_pI (x := 0) (pc := 2) dX12_mark_2 fX12_1 (im_mo_ hM) k_mo_ rfl rfl (by first | omega) ?_
  obtain ⟨g2, e2⟩ : ∃ x, x = up_ h mo_ 0 0 := ⟨_, rfl⟩
  refine pw_heq e2 ?_
  have k1 : off_ [mState, mo_, mIsMarked] h g2 := by rw [e2]; exact off_up off_rf (by decide)
  have k2 : g2 mState = h mState := by rw [e2, up_off (by decide)]
  have k3 : g2 mo_ = ob_ (h mo_) 0 0 := by rw [e2, up_ob]
  have k4 : g2 mIsMarked = h mIsMarked := by rw [e2, up_off (by decide)]
  refine pw_iload_n (z := m) (pc := 5) dX12_mark_5 rfl rfl ?_
  refine pw_iconst (pc := 6) dX12_mark_6 ?_
  refine pw_iconst (pc := 7) dX12_mark_7 ?_
  refine pw_callS (As := [ii_ m, ii_ 0, ii_ 3]) (rest := []) (pc := 8) dX12_mark_8 (c_within g2 (m) (0) (3) (by first | omega) (by first | omega) (by first | omega)) lX12_308 mX12_within sX12_within rfl rfl (by decide) ⟨Nat.zero_le _, Nat.zero_le _⟩ (Nat.le_of_ble_eq_true rfl) (k_i (fun z8 h8 y8 q8 => ?_))
  obtain ⟨rfl, ⟨rfl, p8⟩ | ⟨rfl, p8⟩⟩ := q8
  · refine pw_if_eq (t := 27) (pc := 11) dX12_mark_11 (by decide) (by first | omega) (fun c11 => absurd c11 (by decide)) (fun _ => ?_)
    refine pw_iload_n (z := 0) (pc := 14) dX12_mark_14 rfl rfl ?_
    refine pw_if_eq (t := 29) (pc := 15) dX12_mark_15 (by decide) (by first | omega) (fun _ => ?_) (fun c15 => absurd c15 (by decide))
    refine pw_aload_n (z := mo_) (pc := 29) dX12_mark_29 rfl rfl ?_
    refine pw_getR (r := mIsMarked) (pc := 30) dX12_mark_30 fX12_133 (im_mo_ hM) k_mo_ rfl fr_mIsMarked ?_
    refine pw_iload_n (z := m) (pc := 33) dX12_mark_33 rfl rfl ?_
    refine pw_iconst (pc := 34) dX12_mark_34 ?_
    refine pw_zast (pc := 35) dX12_mark_35 (im_mIsMarked hM) k_mIsMarked 4 l_mIsMarked (by first | omega) (by first | omega) (by first | omega) (by first | omega) ?_
    obtain ⟨g35, e35⟩ : ∃ x, x = up_ g2 mIsMarked m 1 := ⟨_, rfl⟩
    refine pw_heq e35 ?_
    refine pw_aload_n (z := mo_) (pc := 36) dX12_mark_36 rfl rfl ?_
    refine pw_iload_n (z := 0) (pc := 37) dX12_mark_37 rfl rfl ?_
    refine pw_if_eq (t := 50) (pc := 38) dX12_mark_38 (by decide) (by first | omega) (fun _ => ?_) (fun c38 => absurd c38 (by decide))
    refine pw_iconst (pc := 50) dX12_mark_50 ?_
    refine pw_iload_n (z := 0) (pc := 51) dX12_mark_51 rfl rfl ?_
    refine pw_if_eq (t := 59) (pc := 52) dX12_mark_52 (by decide) (by first | omega) (fun _ => ?_) (fun c52 => absurd c52 (by decide))
    refine pw_bipush (pc := 59) dX12_mark_59 rfl ?_
    refine pw_iconst (pc := 61) dX12_mark_61 ?_
    refine pw_iload_n (z := m) (pc := 62) dX12_mark_62 rfl rfl ?_
    refine pw_iadd (pc := 63) dX12_mark_63 ?_
    refine pw_imul (pc := 64) dX12_mark_64 ?_
    refine pw_bipush (pc := 65) dX12_mark_65 rfl ?_
    refine pw_callV (c := 12) (o := mo_) (As := [ii_ 0, ii_ (80 * (1 + m)), ii_ 80]) (rest := []) (pc := 67) dX12_mark_67 (c_copies hM g35 (0) (80 * (1 + m)) (80) (by first | omega) (by first | omega) (by first | omega)) lX12_364 mX12_copies vX12_copies (im_mo_ hM) k_mo_ rfl rfl rfl (by decide) ⟨Nat.zero_le _, Nat.zero_le _⟩ (Nat.le_of_ble_eq_true rfl) (k_v (fun h67 q67 => ?_))
    have k5 : off_ [mState, mo_, mIsMarked] h h67 := off_tr k1 (off_tr (by rw [e35]; exact off_up off_rf (by decide)) (off_mo (off_sce q67) (by decide)))
    have k6 : h67 mIsMarked = ob_ (h mIsMarked) m 1 := by rw [off_sce q67 mIsMarked (by decide), e35, up_ob, k4]
    have k7 : h67 mo_ = ob_ (h mo_) 0 0 := by rw [off_sce q67 mo_ (by decide), e35, up_off (by decide), k3]
    have k8 := sc_in q67
    rw [e35, up_off (by decide), k2] at k8
    refine pw_aload_n (z := mo_) (pc := 70) dX12_mark_70 rfl rfl ?_
    refine pw_iload_n (z := 0) (pc := 71) dX12_mark_71 rfl rfl ?_
    refine pw_if_eq (t := 79) (pc := 72) dX12_mark_72 (by decide) (by first | omega) (fun _ => ?_) (fun c72 => absurd c72 (by decide))
    refine pw_aload_n (z := mo_) (pc := 79) dX12_mark_79 rfl rfl ?_
    refine pw_gI (x := 28) (pc := 80) dX12_mark_80 fX12_361 (im_mo_ hM) k_mo_ rfl rfl (fun r80 => ?_)
    have n_h67_mo__28 : h67 mo_ 28 = h mo_ 28 := (((show h67 mo_ 28 = g35 mo_ 28 from (congrFun ((off_sce q67) mo_ (by decide)) 28)).trans (show g35 mo_ 28 = g2 mo_ 28 from (by rw [e35, up_off (by decide)]))).trans (show g2 mo_ 28 = h mo_ 28 from (by rw [e2, up_at]; exact if_neg (by decide))))
    rw [n_h67_mo__28] at r80 ⊢
    refine pw_pI (x := 28) (pc := 83) dX12_mark_83 fX12_361 (im_mo_ hM) k_mo_ rfl rfl (by first | omega | (simp only [n_h67_mo__28]; omega)) ?_
    obtain ⟨g83, e83⟩ : ∃ x, x = up_ h67 mo_ 28 (h mo_ 28) := ⟨_, rfl⟩
    refine pw_heq e83 ?_
    refine pw_iconst (pc := 86) dX12_mark_86 ?_
    exact pw_zret (pc := 87) dX12_mark_87 (by first | omega | (simp only [n_h67_mo__28]; omega)) (by
              first
              | exact ⟨k1, Or.inr ⟨by omega, rfl, k2, k3, k4⟩⟩
              | (refine ⟨by rw [e83]; exact off_up k5 (by decide), Or.inl ⟨p8, rfl, by rw [e83, up_off (by decide), k6], by rw [e83, up_off (by decide), k8], ?_⟩⟩
                 rw [e83, up_ob, k7]
                 funext y; unfold ob_; (repeat' split) <;> first | rfl | omega | (subst_vars; rfl)))
  · refine pw_if_eq (t := 27) (pc := 11) dX12_mark_11 (by decide) (by first | omega) (fun _ => ?_) (fun c11 => absurd c11 (by decide))
    refine pw_iconst (pc := 27) dX12_mark_27 ?_
    exact pw_zret (pc := 28) dX12_mark_28 (by first | omega) (by
              first
              | exact ⟨k1, Or.inr ⟨by omega, rfl, k2, k3, k4⟩⟩
              | (refine ⟨by rw [e83]; exact off_up k5 (by decide), Or.inl ⟨p8, rfl, by rw [e83, up_off (by decide), k6], by rw [e83, up_off (by decide), k8], ?_⟩⟩
                 rw [e83, up_ob, k7]
                 funext y; unfold ob_; (repeat' split) <;> first | rfl | omega | (subst_vars; rfl)))

set_option maxHeartbeats 4000000 in
set_option maxRecDepth 100000 in
theorem c_mark1 {G : GT_} (hM : okM_ G) (h : PH_) (hu : 0 ≤ h mo_ 28 ∧ h mo_ 28 ≤ 16) (m : Int) (h1 : ir_ m) (hb : ∀ k, 0 ≤ k → k < 4 → h mIsMarked k = 0 ∨ h mIsMarked k = 1) : PC G yX12_mark cX12_mark 3 (some .boolean) 2 [rr_ G mo_, ii_ m, ii_ 1] h (qi_ (fun z h' => off_ [mState, mo_, mIsMarked] h h' ∧ (((0 ≤ m ∧ m ≤ 3) ∧ h mIsMarked m = 1 ∧ z = 1 ∧ h' mIsMarked = ob_ (h mIsMarked) m 1 ∧ h' mState = cpy_ (h mState) (80 * (1 + m)) 0 80 ∧ h' mo_ = ob_ (ob_ (h mo_) 0 0) 28 0) ∨ (¬ ((0 ≤ m ∧ m ≤ 3) ∧ h mIsMarked m = 1) ∧ z = 0 ∧ h' mState = h mState ∧ h' mo_ = ob_ (h mo_) 0 0 ∧ h' mIsMarked = h mIsMarked)))) := by
  refine PC.of (lv := [some (rr_ G mo_), some (ii_ m), some (ii_ 1)]) (by decide +kernel) (Nat.le_of_ble_eq_true rfl) rfl rfl ?_
  refine pw_aload_n (z := mo_) (pc := 0) dX12_mark_0 rfl rfl ?_
  refine pw_iconst (pc := 1) dX12_mark_1 ?_
  refine pw_pI (x := 0) (pc := 2) dX12_mark_2 fX12_1 (im_mo_ hM) k_mo_ rfl rfl (by first | omega) ?_
  obtain ⟨g2, e2⟩ : ∃ x, x = up_ h mo_ 0 0 := ⟨_, rfl⟩
  refine pw_heq e2 ?_
  have k1 : off_ [mState, mo_, mIsMarked] h g2 := by rw [e2]; exact off_up off_rf (by decide)
  have k2 : g2 mState = h mState := by rw [e2, up_off (by decide)]
  have k3 : g2 mo_ = ob_ (h mo_) 0 0 := by rw [e2, up_ob]
  have k4 : g2 mIsMarked = h mIsMarked := by rw [e2, up_off (by decide)]
  refine pw_iload_n (z := m) (pc := 5) dX12_mark_5 rfl rfl ?_
  refine pw_iconst (pc := 6) dX12_mark_6 ?_
  refine pw_iconst (pc := 7) dX12_mark_7 ?_
  refine pw_callS (As := [ii_ m, ii_ 0, ii_ 3]) (rest := []) (pc := 8) dX12_mark_8 (c_within g2 (m) (0) (3) (by first | omega) (by first | omega) (by first | omega)) lX12_308 mX12_within sX12_within rfl rfl (by decide) ⟨Nat.zero_le _, Nat.zero_le _⟩ (Nat.le_of_ble_eq_true rfl) (k_i (fun z8 h8 y8 q8 => ?_))
  obtain ⟨rfl, ⟨rfl, p8⟩ | ⟨rfl, p8⟩⟩ := q8
  · refine pw_if_eq (t := 27) (pc := 11) dX12_mark_11 (by decide) (by first | omega) (fun c11 => absurd c11 (by decide)) (fun _ => ?_)
    refine pw_iload_n (z := 1) (pc := 14) dX12_mark_14 rfl rfl ?_
    refine pw_if_eq (t := 29) (pc := 15) dX12_mark_15 (by decide) (by first | omega) (fun c15 => absurd c15 (by decide)) (fun _ => ?_)
    have hbm := hb m p8.1 (by omega)
    refine pw_aload_n (z := mo_) (pc := 18) dX12_mark_18 rfl rfl ?_
    refine pw_getR (r := mIsMarked) (pc := 19) dX12_mark_19 fX12_133 (im_mo_ hM) k_mo_ rfl fr_mIsMarked ?_
    refine pw_iload_n (z := m) (pc := 22) dX12_mark_22 rfl rfl ?_
    refine pw_zald (pc := 23) dX12_mark_23 (im_mIsMarked hM) k_mIsMarked 4 l_mIsMarked (by first | omega) (by first | omega) (by first | omega) (fun r23 => ?_)
    have n_g2_mIsMarked : g2 mIsMarked = h mIsMarked := (by rw [e2]; exact up_off (by decide))
    rw [n_g2_mIsMarked] at r23 ⊢
    refine pw_if_ne (t := 29) (pc := 24) dX12_mark_24 (by decide) (by first | omega | (simp only [n_g2_mIsMarked]; omega)) (fun c24 => ?_) (fun c24 => ?_)
    · refine pw_aload_n (z := mo_) (pc := 29) dX12_mark_29 rfl rfl ?_
      refine pw_getR (r := mIsMarked) (pc := 30) dX12_mark_30 fX12_133 (im_mo_ hM) k_mo_ rfl fr_mIsMarked ?_
      refine pw_iload_n (z := m) (pc := 33) dX12_mark_33 rfl rfl ?_
      refine pw_iconst (pc := 34) dX12_mark_34 ?_
      refine pw_zast (pc := 35) dX12_mark_35 (im_mIsMarked hM) k_mIsMarked 4 l_mIsMarked (by first | omega | (simp only [n_g2_mIsMarked]; omega)) (by first | omega | (simp only [n_g2_mIsMarked]; omega)) (by first | omega | (simp only [n_g2_mIsMarked]; omega)) (by first | omega | (simp only [n_g2_mIsMarked]; omega)) ?_
      obtain ⟨g35, e35⟩ : ∃ x, x = up_ g2 mIsMarked m 1 := ⟨_, rfl⟩
      refine pw_heq e35 ?_
      refine pw_aload_n (z := mo_) (pc := 36) dX12_mark_36 rfl rfl ?_
      refine pw_iload_n (z := 1) (pc := 37) dX12_mark_37 rfl rfl ?_
      refine pw_if_eq (t := 50) (pc := 38) dX12_mark_38 (by decide) (by first | omega | (simp only [n_g2_mIsMarked]; omega)) (fun c38 => absurd c38 (by decide)) (fun _ => ?_)
      refine pw_bipush (pc := 41) dX12_mark_41 rfl ?_
      refine pw_iconst (pc := 43) dX12_mark_43 ?_
      refine pw_iload_n (z := m) (pc := 44) dX12_mark_44 rfl rfl ?_
      refine pw_iadd (pc := 45) dX12_mark_45 ?_
      refine pw_imul (pc := 46) dX12_mark_46 ?_
      refine pw_goto (t := 51) (pc := 47) dX12_mark_47 (by decide) ?_
      refine pw_iload_n (z := 1) (pc := 51) dX12_mark_51 rfl rfl ?_
      refine pw_if_eq (t := 59) (pc := 52) dX12_mark_52 (by decide) (by first | omega | (simp only [n_g2_mIsMarked]; omega)) (fun c52 => absurd c52 (by decide)) (fun _ => ?_)
      refine pw_iconst (pc := 55) dX12_mark_55 ?_
      refine pw_goto (t := 65) (pc := 56) dX12_mark_56 (by decide) ?_
      refine pw_bipush (pc := 65) dX12_mark_65 rfl ?_
      refine pw_callV (c := 12) (o := mo_) (As := [ii_ (80 * (1 + m)), ii_ 0, ii_ 80]) (rest := []) (pc := 67) dX12_mark_67 (c_copies hM g35 (80 * (1 + m)) (0) (80) (by first | omega | (simp only [n_g2_mIsMarked]; omega)) (by first | omega | (simp only [n_g2_mIsMarked]; omega)) (by first | omega | (simp only [n_g2_mIsMarked]; omega))) lX12_364 mX12_copies vX12_copies (im_mo_ hM) k_mo_ rfl rfl rfl (by decide) ⟨Nat.zero_le _, Nat.zero_le _⟩ (Nat.le_of_ble_eq_true rfl) (k_v (fun h67 q67 => ?_))
      have k5 : off_ [mState, mo_, mIsMarked] h h67 := off_tr k1 (off_tr (by rw [e35]; exact off_up off_rf (by decide)) (off_mo (off_sce q67) (by decide)))
      have k6 : h67 mIsMarked = ob_ (h mIsMarked) m 1 := by rw [off_sce q67 mIsMarked (by decide), e35, up_ob, k4]
      have k7 : h67 mo_ = ob_ (h mo_) 0 0 := by rw [off_sce q67 mo_ (by decide), e35, up_off (by decide), k3]
      have k8 := sc_in q67
      rw [e35, up_off (by decide), k2] at k8
      refine pw_aload_n (z := mo_) (pc := 70) dX12_mark_70 rfl rfl ?_
      refine pw_iload_n (z := 1) (pc := 71) dX12_mark_71 rfl rfl ?_
      refine pw_if_eq (t := 79) (pc := 72) dX12_mark_72 (by decide) (by first | omega | (simp only [n_g2_mIsMarked]; omega)) (fun c72 => absurd c72 (by decide)) (fun _ => ?_)
      refine pw_iconst (pc := 75) dX12_mark_75 ?_
      refine pw_goto (t := 83) (pc := 76) dX12_mark_76 (by decide) ?_
      refine pw_pI (x := 28) (pc := 83) dX12_mark_83 fX12_361 (im_mo_ hM) k_mo_ rfl rfl (by first | omega | (simp only [n_g2_mIsMarked]; omega)) ?_
      obtain ⟨g83, e83⟩ : ∃ x, x = up_ h67 mo_ 28 0 := ⟨_, rfl⟩
      refine pw_heq e83 ?_
      refine pw_iconst (pc := 86) dX12_mark_86 ?_
      exact pw_zret (pc := 87) dX12_mark_87 (by first | omega | (simp only [n_g2_mIsMarked]; omega)) (by
                first
                | exact ⟨k1, Or.inr ⟨by omega, rfl, k2, k3, k4⟩⟩
                | (refine ⟨by rw [e83]; exact off_up k5 (by decide), Or.inl ⟨p8, by omega, rfl, by rw [e83, up_off (by decide), k6], by rw [e83, up_off (by decide), k8], ?_⟩⟩
                   rw [e83, up_ob, k7]))
    · refine pw_iconst (pc := 27) dX12_mark_27 ?_
      exact pw_zret (pc := 28) dX12_mark_28 (by first | omega | (simp only [n_g2_mIsMarked]; omega)) (by
                first
                | exact ⟨k1, Or.inr ⟨by omega, rfl, k2, k3, k4⟩⟩
                | (refine ⟨by rw [e83]; exact off_up k5 (by decide), Or.inl ⟨p8, by omega, rfl, by rw [e83, up_off (by decide), k6], by rw [e83, up_off (by decide), k8], ?_⟩⟩
                   rw [e83, up_ob, k7]))
  · refine pw_if_eq (t := 27) (pc := 11) dX12_mark_11 (by decide) (by first | omega) (fun _ => ?_) (fun c11 => absurd c11 (by decide))
    refine pw_iconst (pc := 27) dX12_mark_27 ?_
    exact pw_zret (pc := 28) dX12_mark_28 (by first | omega) (by
              first
              | exact ⟨k1, Or.inr ⟨by omega, rfl, k2, k3, k4⟩⟩
              | (refine ⟨by rw [e83]; exact off_up k5 (by decide), Or.inl ⟨p8, by omega, rfl, by rw [e83, up_off (by decide), k6], by rw [e83, up_off (by decide), k8], ?_⟩⟩
                 rw [e83, up_ob, k7]))

