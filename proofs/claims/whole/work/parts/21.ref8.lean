set_option maxHeartbeats 4000000 in
set_option maxRecDepth 100000 in
theorem c_drives {G : GT_} (hM : okM_ G) (h : PH_) (hS : 2 ≤ h mRoads 0 ∧ h mRoads 0 ≤ 4) (hR : 0 ≤ h mRoads 2 ∧ h mRoads 2 ≤ h mRoads 0) (P : List (Int × Int)) (hw : 0 ≤ h mRoads 5 → law_ (h mOp) (h mArg) (h mRoads 5) P) (hs : ∀ r, 0 ≤ r → r < h mRoads 2 → 0 ≤ h mSits r ∧ h mSits r ≤ 3) (b : Int) (h1 : 0 ≤ b ∧ b ≤ 1680) (h2 : 0 ≤ h mState b ∧ h mState b ≤ 3) (h4 : 0 ≤ h mRoads 4 ∧ h mRoads 4 ≤ 99) (ht : ∀ r, 0 ≤ r → r < 4 → -1000000 ≤ h mState (b + 9 + r) ∧ h mState (b + 9 + r) ≤ 1000000) : PC G yX12_drives cX12_drives 4 none 4 [rr_ G mo_, ii_ b] h (qv_ (fun h' => off_ [mState, mFacts, mPile] h h' ∧ h' mState = drv_ (h mRoads) P (h mState) (h mSits) b)) := by
  refine PC.of (lv := [some (rr_ G mo_), some (ii_ b), none, none]) (by decide +kernel) (Nat.le_of_ble_eq_true rfl) rfl rfl ?_
  refine pw_iconst (pc := 0) dX12_drives_0 ?_
  refine pw_istore_n (lv1 := [some (rr_ G mo_), some (ii_ b), some (ii_ 0), none]) (pc := 1) dX12_drives_1 rfl (by decide) rfl rfl ?_
  have L2 : ∀ (nn : Nat) (r : Int) (hq : PH_), (0 ≤ r ∧ r ≤ h mRoads 2) → (off_ [mState, mFacts, mPile] h hq) → (hq mState = dr1_ (h mRoads) P (h mState) (h mSits) b r) → ((h mRoads 2 - r + 1 : Int) ≤ nn) → PW G RX12 cX12_drives 4 none (rm_ 4) 0 0 (zm_ G (qv_ (fun h' => off_ [mState, mFacts, mPile] h h' ∧ h' mState = drv_ (h mRoads) P (h mState) (h mSits) b))) 2 [some (rr_ G mo_), some (ii_ b), some (ii_ r), none] [] hq := by
    intro nn
    induction nn with
    | zero => intro r hq ak af am ams; exfalso; omega
    | succ nn ih2 =>
      intro r hq ak af am ams
      refine pw_iload_n (z := r) (pc := 2) dX12_drives_2 rfl rfl ?_
      refine pw_aload_n (z := mo_) (pc := 3) dX12_drives_3 rfl rfl ?_
      refine pw_callV (c := 12) (o := mo_) (As := []) (rest := [ii_ r]) (pc := 4) dX12_drives_4 (c_riders hM hq) lX12_334 mX12_riders vX12_riders (im_mo_ hM) k_mo_ rfl rfl rfl (by decide) ⟨Nat.zero_le _, Nat.zero_le _⟩ (Nat.le_of_ble_eq_true rfl) (k_i (fun z4 h4 y4 q4 => ?_))
      obtain ⟨rfl, rfl⟩ := q4
      have n_hq_mRoads : hq mRoads = h mRoads := (af mRoads (by decide))
      rw [n_hq_mRoads] at y4 ⊢
      refine pw_icmp_ge (t := 90) (pc := 7) dX12_drives_7 (by decide) (by first | omega | (simp only [n_hq_mRoads]; omega)) (by first | omega | (simp only [n_hq_mRoads]; omega)) (fun c7 => ?_) (fun c7 => ?_)
      · refine pw_iconst (pc := 90) dX12_drives_90 ?_
        refine pw_istore_n (lv1 := [some (rr_ G mo_), some (ii_ b), some (ii_ 0), none]) (pc := 91) dX12_drives_91 rfl (by decide) rfl rfl ?_
        have L92 : ∀ (nn : Nat) (r : Int) (hp : PH_), (0 ≤ r ∧ r ≤ h mRoads 2) → (off_ [mState, mFacts, mPile] h hp) → (hp mState = dr2_ (dr1_ (h mRoads) P (h mState) (h mSits) b (h mRoads 2)) (h mSits) b r) → ((h mRoads 2 - r + 1 : Int) ≤ nn) → PW G RX12 cX12_drives 4 none (rm_ 4) 0 0 (zm_ G (qv_ (fun h' => off_ [mState, mFacts, mPile] h h' ∧ h' mState = drv_ (h mRoads) P (h mState) (h mSits) b))) 92 [some (rr_ G mo_), some (ii_ b), some (ii_ r), none] [] hp := by
          intro nn
          induction nn with
          | zero => intro r hp bk bf bm ams; exfalso; omega
          | succ nn ih92 =>
            intro r hp bk bf bm ams
            refine pw_iload_n (z := r) (pc := 92) dX12_drives_92 rfl rfl ?_
            refine pw_aload_n (z := mo_) (pc := 93) dX12_drives_93 rfl rfl ?_
            refine pw_callV (c := 12) (o := mo_) (As := []) (rest := [ii_ r]) (pc := 94) dX12_drives_94 (c_riders hM hp) lX12_334 mX12_riders vX12_riders (im_mo_ hM) k_mo_ rfl rfl rfl (by decide) ⟨Nat.zero_le _, Nat.zero_le _⟩ (Nat.le_of_ble_eq_true rfl) (k_i (fun z94 h94 y94 q94 => ?_))
            obtain ⟨rfl, rfl⟩ := q94
            have n_hp_mRoads : hp mRoads = h mRoads := (bf mRoads (by decide))
            rw [n_hp_mRoads] at y94 ⊢
            refine pw_icmp_ge (t := 122) (pc := 97) dX12_drives_97 (by decide) (by first | omega | (simp only [n_hp_mRoads, n_hq_mRoads]; omega)) (by first | omega | (simp only [n_hp_mRoads, n_hq_mRoads]; omega)) (fun c97 => ?_) (fun c97 => ?_)
            · have v00 : hp mState (b + 0) = h mState b := by rw [bm, Int.add_zero]; unfold dr2_ dr1_; rw [if_neg (by omega), if_neg (by omega)]
              refine pw_aload_n (z := mo_) (pc := 122) dX12_drives_122 rfl rfl ?_
              refine pw_getR (r := mState) (pc := 123) dX12_drives_123 fX12_130 (im_mo_ hM) k_mo_ rfl fr_mState ?_
              refine pw_iload_n (z := b) (pc := 126) dX12_drives_126 rfl rfl ?_
              refine pw_iconst (pc := 127) dX12_drives_127 ?_
              refine pw_iadd (pc := 128) dX12_drives_128 ?_
              refine pw_dup2 (pc := 129) dX12_drives_129 rfl rfl ?_
              refine pw_iald (pc := 130) dX12_drives_130 (im_mState hM) k_mState 1760 l_mState (by first | omega | (simp only [n_hp_mRoads, n_hq_mRoads]; omega)) (by first | omega | (simp only [n_hp_mRoads, n_hq_mRoads]; omega)) (by first | omega | (simp only [n_hp_mRoads, n_hq_mRoads]; omega)) (fun r130 => ?_)
              refine pw_iconst (pc := 131) dX12_drives_131 ?_
              refine pw_iadd (pc := 132) dX12_drives_132 ?_
              refine pw_iast (pc := 133) dX12_drives_133 (im_mState hM) k_mState 1760 l_mState (by first | omega | (simp only [n_hp_mRoads, n_hq_mRoads]; omega)) (by first | omega | (simp only [n_hp_mRoads, n_hq_mRoads]; omega)) (by first | omega | (simp only [n_hp_mRoads, n_hq_mRoads]; omega)) (by first | omega | (simp only [n_hp_mRoads, n_hq_mRoads]; omega)) ?_
              obtain ⟨g133, e133⟩ : ∃ x, x = up_ hp mState (b + 0) ((hp mState (b + 0)) + 1) := ⟨_, rfl⟩
              refine pw_heq e133 ?_
              exact pw_vret (pc := 134) dX12_drives_134 (⟨by rw [e133]; exact off_up bf (by decide), by
                        rw [e133, up_ob, Int.add_zero, bm, show r = h mRoads 2 by omega]
                        unfold drv_
                        congr 1
                        unfold dr2_ dr1_
                        rw [if_neg (by omega), if_neg (by omega)]⟩)
            · refine pw_aload_n (z := mo_) (pc := 100) dX12_drives_100 rfl rfl ?_
              refine pw_getR (r := mState) (pc := 101) dX12_drives_101 fX12_130 (im_mo_ hM) k_mo_ rfl fr_mState ?_
              refine pw_iload_n (z := b) (pc := 104) dX12_drives_104 rfl rfl ?_
              refine pw_iconst (pc := 105) dX12_drives_105 ?_
              refine pw_iadd (pc := 106) dX12_drives_106 ?_
              refine pw_iload_n (z := r) (pc := 107) dX12_drives_107 rfl rfl ?_
              refine pw_iadd (pc := 108) dX12_drives_108 ?_
              refine pw_aload_n (z := mo_) (pc := 109) dX12_drives_109 rfl rfl ?_
              refine pw_getR (r := mSits) (pc := 110) dX12_drives_110 fX12_137 (im_mo_ hM) k_mo_ rfl fr_mSits ?_
              refine pw_iload_n (z := r) (pc := 113) dX12_drives_113 rfl rfl ?_
              refine pw_iald (pc := 114) dX12_drives_114 (im_mSits hM) k_mSits 4 l_mSits (by first | omega | (simp only [n_hp_mRoads, n_hq_mRoads]; omega)) (by first | omega | (simp only [n_hp_mRoads, n_hq_mRoads]; omega)) (by first | omega | (simp only [n_hp_mRoads, n_hq_mRoads]; omega)) (fun r114 => ?_)
              have n_hp_mSits : hp mSits = h mSits := (bf mSits (by decide))
              rw [n_hp_mSits] at r114 ⊢
              refine pw_iast (pc := 115) dX12_drives_115 (im_mState hM) k_mState 1760 l_mState (by first | omega | (simp only [n_hp_mRoads, n_hp_mSits, n_hq_mRoads]; omega)) (by first | omega | (simp only [n_hp_mRoads, n_hp_mSits, n_hq_mRoads]; omega)) (by first | omega | (simp only [n_hp_mRoads, n_hp_mSits, n_hq_mRoads]; omega)) (by first | omega | (simp only [n_hp_mRoads, n_hp_mSits, n_hq_mRoads]; omega)) ?_
              obtain ⟨g115, e115⟩ : ∃ x, x = up_ hp mState ((b + 5) + r) (h mSits r) := ⟨_, rfl⟩
              refine pw_heq e115 ?_
              refine pw_iinc (z := r) (lv1 := [some (rr_ G mo_), some (ii_ b), some (ii_ (r + 1)), none]) (pc := 116) dX12_drives_116 rfl (by decide) rfl rfl ?_
              refine pw_goto (t := 92) (pc := 119) dX12_drives_119 (by decide) ?_
              exact ih92 _ _ (by omega) (by rw [e115]; exact off_up bf (by decide)) (by
                        rw [e115, up_ob, bm]
                        funext x; unfold ob_ dr2_
                        by_cases x1 : x = b + 5 + r
                        · rw [if_pos x1, if_pos (by omega), x1]; congr 1; omega
                        · rw [if_neg x1]; by_cases x2 : b + 5 ≤ x ∧ x < b + 5 + r
                          · rw [if_pos x2, if_pos (by omega)]
                          · rw [if_neg x2, if_neg (by omega)]) (by omega)
        exact L92 _ _ _ (by omega) (af) (by rw [am, show r = h mRoads 2 by omega]; funext x; unfold dr2_; rw [if_neg (by omega)]) (Int.self_le_toNat _)
      · have n_hq_mRoads : hq mRoads = h mRoads := af mRoads (by decide)
        have n_hq_mSits : hq mSits = h mSits := af mSits (by decide)
        have hsr := hs r (by omega) (by omega)
        have htr := ht r (by omega) (by omega)
        have v5 : hq mState (b + 5 + r) = h mState (b + 5 + r) := by rw [am]; unfold dr1_; exact if_neg (by omega)
        have v9 : hq mState (b + 9 + r) = h mState (b + 9 + r) := by rw [am]; unfold dr1_; exact if_neg (by omega)
        have v0 : hq mState (b + 0) = h mState b := by rw [am, Int.add_zero]; unfold dr1_; exact if_neg (by omega)
        refine pw_aload_n (z := mo_) (pc := 10) dX12_drives_10 rfl rfl ?_
        refine pw_getR (r := mState) (pc := 11) dX12_drives_11 fX12_130 (im_mo_ hM) k_mo_ rfl fr_mState ?_
        refine pw_iload_n (z := b) (pc := 14) dX12_drives_14 rfl rfl ?_
        refine pw_iconst (pc := 15) dX12_drives_15 ?_
        refine pw_iadd (pc := 16) dX12_drives_16 ?_
        refine pw_iload_n (z := r) (pc := 17) dX12_drives_17 rfl rfl ?_
        refine pw_iadd (pc := 18) dX12_drives_18 ?_
        refine pw_iald (pc := 19) dX12_drives_19 (im_mState hM) k_mState 1760 l_mState (by first | omega | (simp only [n_hq_mRoads]; omega)) (by first | omega | (simp only [n_hq_mRoads]; omega)) (by first | omega | (simp only [n_hq_mRoads]; omega)) (fun r19 => ?_)
        rw [v5]
        refine pw_istore_n (lv1 := [some (rr_ G mo_), some (ii_ b), some (ii_ r), some (ii_ (h mState (b + 5 + r)))]) (pc := 20) dX12_drives_20 rfl (by decide) rfl rfl ?_
        refine pw_aload_n (z := mo_) (pc := 21) dX12_drives_21 rfl rfl ?_
        refine pw_getR (r := mState) (pc := 22) dX12_drives_22 fX12_130 (im_mo_ hM) k_mo_ rfl fr_mState ?_
        refine pw_iload_n (z := b) (pc := 25) dX12_drives_25 rfl rfl ?_
        refine pw_bipush (pc := 26) dX12_drives_26 rfl ?_
        refine pw_iadd (pc := 28) dX12_drives_28 ?_
        refine pw_iload_n (z := r) (pc := 29) dX12_drives_29 rfl rfl ?_
        refine pw_iadd (pc := 30) dX12_drives_30 ?_
        refine pw_dup2 (pc := 31) dX12_drives_31 rfl rfl ?_
        refine pw_iald (pc := 32) dX12_drives_32 (im_mState hM) k_mState 1760 l_mState (by first | omega | (simp only [n_hq_mRoads]; omega)) (by first | omega | (simp only [n_hq_mRoads]; omega)) (by first | omega | (simp only [n_hq_mRoads]; omega)) (fun r32 => ?_)
        rw [v9]
        refine pw_aload_n (z := mo_) (pc := 33) dX12_drives_33 rfl rfl ?_
        refine pw_iload_n (z := r) (pc := 34) dX12_drives_34 rfl rfl ?_
        refine pw_aload_n (z := mo_) (pc := 35) dX12_drives_35 rfl rfl ?_
        refine pw_getR (r := mSits) (pc := 36) dX12_drives_36 fX12_137 (im_mo_ hM) k_mo_ rfl fr_mSits ?_
        refine pw_iload_n (z := r) (pc := 39) dX12_drives_39 rfl rfl ?_
        refine pw_iald (pc := 40) dX12_drives_40 (im_mSits hM) k_mSits 4 l_mSits (by first | omega | (simp only [n_hq_mRoads]; omega)) (by first | omega | (simp only [n_hq_mRoads]; omega)) (by first | omega | (simp only [n_hq_mRoads]; omega)) (fun r40 => ?_)
        have n_hq_mSits : hq mSits = h mSits := (af mSits (by decide))
        rw [n_hq_mSits] at r40 ⊢
        refine pw_aload_n (z := mo_) (pc := 41) dX12_drives_41 rfl rfl ?_
        refine pw_getR (r := mState) (pc := 42) dX12_drives_42 fX12_130 (im_mo_ hM) k_mo_ rfl fr_mState ?_
        refine pw_iload_n (z := b) (pc := 45) dX12_drives_45 rfl rfl ?_
        refine pw_iconst (pc := 46) dX12_drives_46 ?_
        refine pw_iadd (pc := 47) dX12_drives_47 ?_
        refine pw_iald (pc := 48) dX12_drives_48 (im_mState hM) k_mState 1760 l_mState (by first | omega | (simp only [n_hq_mRoads, n_hq_mSits]; omega)) (by first | omega | (simp only [n_hq_mRoads, n_hq_mSits]; omega)) (by first | omega | (simp only [n_hq_mRoads, n_hq_mSits]; omega)) (fun r48 => ?_)
        rw [v0]
        refine pw_aload_n (z := mo_) (pc := 49) dX12_drives_49 rfl rfl ?_
        refine pw_iload_n (z := r) (pc := 50) dX12_drives_50 rfl rfl ?_
        refine pw_callV (c := 12) (o := mo_) (As := [ii_ r]) (rest := [ii_ (h mState b), ii_ (h mSits r), ii_ r, rr_ G mo_, ii_ (h mState (b + 9 + r)), ii_ ((b + 9) + r), rr_ G mState]) (pc := 51) dX12_drives_51 (c_tipOf hM hq (by first | omega | (simp only [n_hq_mRoads, n_hq_mSits]; omega)) (by first | omega | (simp only [n_hq_mRoads, n_hq_mSits]; omega)) (fun q q0 q1 => by rw [n_hq_mRoads] at q1; rw [n_hq_mSits]; exact (hs q q0 q1).2) r (by first | omega | (simp only [n_hq_mRoads, n_hq_mSits]; omega)) (by rw [n_hq_mSits]; exact (hs r (by first | omega | (simp only [n_hq_mRoads, n_hq_mSits]; omega)) (by first | omega | (simp only [n_hq_mRoads, n_hq_mSits]; omega))).1)) lX12_399 mX12_tipOf vX12_tipOf (im_mo_ hM) k_mo_ rfl rfl rfl (by decide) ⟨Nat.zero_le _, Nat.zero_le _⟩ (Nat.le_of_ble_eq_true rfl) (k_i (fun z51 h51 y51 q51 => ?_))
        obtain ⟨rfl, w51⟩ := q51
        rw [n_hq_mRoads, n_hq_mSits] at w51
        have tn := tip_nn (h mRoads) (h mSits) r (h mRoads 2).toNat
        refine pw_callV (c := 12) (o := mo_) (As := [ii_ r, ii_ (h mSits r), ii_ (h mState b), ii_ z51]) (rest := [ii_ (h mState (b + 9 + r)), ii_ ((b + 9) + r), rr_ G mState]) (pc := 54) dX12_drives_54 (c_worthOn hM hq (by first | omega | (simp only [n_hq_mRoads, n_hq_mSits]; omega)) (by first | omega | (simp only [n_hq_mRoads, n_hq_mSits]; omega)) P (by rw [n_hq_mRoads, af mOp (by decide), af mArg (by decide)]; exact hw) r (h mSits r) (h mState b) z51 (by first | omega | (simp only [n_hq_mRoads, n_hq_mSits]; omega)) (by first | omega | (simp only [n_hq_mRoads, n_hq_mSits]; omega)) (by first | omega | (simp only [n_hq_mRoads, n_hq_mSits]; omega)) (by first | omega | (simp only [n_hq_mRoads, n_hq_mSits]; omega))) lX12_402 mX12_worthOn vX12_worthOn (im_mo_ hM) k_mo_ rfl rfl rfl (by decide) ⟨Nat.zero_le _, Nat.zero_le _⟩ (Nat.le_of_ble_eq_true rfl) (k_i (fun z54 h54 y54 q54 => ?_))
        obtain ⟨f54, w54⟩ := q54
        rw [n_hq_mRoads] at w54
        have w55 : z54 = wsi_ (h mRoads) P (h mSits) r (h mState b) := by rw [w54, w51]; rfl
        have wb := wsi_b (h mRoads) P (h mSits) r (h mState b)
        have J81 : ∀ (v : Int), (v = (if 0 ≤ h mState (b + 5 + r) ∧ ¬ h mState (b + 5 + r) = h mSits r then h mRoads 4 else 0)) → PW G RX12 cX12_drives 4 none (rm_ 4) 0 0 (zm_ G (qv_ (fun h' => off_ [mState, mFacts, mPile] h h' ∧ h' mState = drv_ (h mRoads) P (h mState) (h mSits) b))) 81 [some (rr_ G mo_), some (ii_ b), some (ii_ r), some (ii_ (h mState (b + 5 + r)))] [ii_ v, ii_ z54, ii_ (h mState (b + 9 + r)), ii_ (b + 9 + r), rr_ G mState] h54 := by
          intro v hv
          refine pw_isub (pc := 81) dX12_drives_81 ?_
          refine pw_iadd (pc := 82) dX12_drives_82 ?_
          refine pw_iast (pc := 83) dX12_drives_83 (im_mState hM) k_mState 1760 l_mState (by first | omega | (simp only [n_hq_mRoads, n_hq_mSits]; omega)) (by first | omega | (simp only [n_hq_mRoads, n_hq_mSits]; omega)) (by first | omega | (simp only [n_hq_mRoads, n_hq_mSits]; omega)) (by first | omega | (simp only [n_hq_mRoads, n_hq_mSits]; omega)) ?_
          obtain ⟨g83, e83⟩ : ∃ x, x = up_ h54 mState (b + 9 + r) ((h mState (b + 9 + r)) + (z54 - v)) := ⟨_, rfl⟩
          refine pw_heq e83 ?_
          refine pw_iinc (z := r) (lv1 := [some (rr_ G mo_), some (ii_ b), some (ii_ (r + 1)), some (ii_ (h mState (b + 5 + r)))]) (pc := 84) dX12_drives_84 rfl (by decide) rfl rfl ?_
          refine pw_goto (t := 2) (pc := 87) dX12_drives_87 (by decide) ?_
          refine pw_less (lv1 := [some (rr_ G mo_), some (ii_ b), some (ii_ (r + 1)), none]) rfl (by intro i v; (match i with | 0 => simp | 1 => simp | 2 => simp | 3 => simp | n + 4 => simp)) ?_
          exact ih2 _ _ (by omega) (by rw [e83]; exact off_up (off_tr af (off_mo f54 (by decide))) (by decide)) (by
                    rw [e83, up_ob, f54 mState (by decide), am]
                    funext x; unfold ob_ dr1_
                    by_cases x1 : x = b + 9 + r
                    · rw [if_pos x1, if_pos (by omega), x1, w55, show b + 9 + r - b - 9 = r by omega, show b + 9 + r - 4 = b + 5 + r by omega]
                      rw [hv]
                    · rw [if_neg x1]; by_cases x2 : b + 9 ≤ x ∧ x < b + 9 + r
                      · rw [if_pos x2]; exact (if_pos (by omega)).symm
                      · rw [if_neg x2]; exact (if_neg (by omega)).symm) (by omega)
        refine pw_iload_n (z := h mState (b + 5 + r)) (pc := 57) dX12_drives_57 rfl rfl ?_
        refine pw_if_lt (t := 80) (pc := 58) dX12_drives_58 (by decide) (by first | omega | (simp only [n_hq_mRoads, n_hq_mSits]; omega)) (fun c58 => ?_) (fun c58 => ?_)
        · refine pw_iconst (pc := 80) dX12_drives_80 ?_
          exact J81 _ (by first | (rw [if_pos (by omega)]; done) | (rw [if_neg (by omega)]; done))
        · refine pw_iload_n (z := h mState (b + 5 + r)) (pc := 61) dX12_drives_61 rfl rfl ?_
          refine pw_aload_n (z := mo_) (pc := 62) dX12_drives_62 rfl rfl ?_
          refine pw_getR (r := mSits) (pc := 63) dX12_drives_63 fX12_137 (im_mo_ hM) k_mo_ rfl fr_mSits ?_
          refine pw_iload_n (z := r) (pc := 66) dX12_drives_66 rfl rfl ?_
          refine pw_iald (pc := 67) dX12_drives_67 (im_mSits hM) k_mSits 4 l_mSits (by first | omega | (simp only [n_hq_mRoads, n_hq_mSits]; omega)) (by first | omega | (simp only [n_hq_mRoads, n_hq_mSits]; omega)) (by first | omega | (simp only [n_hq_mRoads, n_hq_mSits]; omega)) (fun r67 => ?_)
          have n_h54_mSits : h54 mSits = h mSits := ((show h54 mSits = hq mSits from (f54 mSits (by decide))).trans (show hq mSits = h mSits from (af mSits (by decide))))
          rw [n_h54_mSits] at r67 ⊢
          refine pw_icmp_eq (t := 80) (pc := 68) dX12_drives_68 (by decide) (by first | omega | (simp only [n_h54_mSits, n_hq_mRoads, n_hq_mSits]; omega)) (by first | omega | (simp only [n_h54_mSits, n_hq_mRoads, n_hq_mSits]; omega)) (fun c68 => ?_) (fun c68 => ?_)
          · refine pw_iconst (pc := 80) dX12_drives_80 ?_
            exact J81 _ (by first | (rw [if_pos (by omega)]; done) | (rw [if_neg (by omega)]; done))
          · refine pw_aload_n (z := mo_) (pc := 71) dX12_drives_71 rfl rfl ?_
            refine pw_getR (r := mRoads) (pc := 72) dX12_drives_72 fX12_97 (im_mo_ hM) k_mo_ rfl fr_mRoads ?_
            refine pw_iconst (pc := 75) dX12_drives_75 ?_
            refine pw_iald (pc := 76) dX12_drives_76 (im_mRoads hM) k_mRoads 160 l_mRoads (by first | omega | (simp only [n_h54_mSits, n_hq_mRoads, n_hq_mSits]; omega)) (by first | omega | (simp only [n_h54_mSits, n_hq_mRoads, n_hq_mSits]; omega)) (by first | omega | (simp only [n_h54_mSits, n_hq_mRoads, n_hq_mSits]; omega)) (fun r76 => ?_)
            have n_h54_mRoads : h54 mRoads = h mRoads := ((show h54 mRoads = hq mRoads from (f54 mRoads (by decide))).trans (show hq mRoads = h mRoads from (af mRoads (by decide))))
            rw [n_h54_mRoads] at r76 ⊢
            refine pw_goto (t := 81) (pc := 77) dX12_drives_77 (by decide) ?_
            exact J81 _ (by first | (rw [if_pos (by omega)]; done) | (rw [if_neg (by omega)]; done))
  exact L2 _ _ _ (by omega) (off_rf) (by funext x; unfold dr1_; rw [if_neg (by omega)]) (Int.self_le_toNat _)

set_option maxHeartbeats 4000000 in
set_option maxRecDepth 100000 in
theorem c_sit {G : GT_} (hM : okM_ G) (h : PH_) (hS : 2 ≤ h mRoads 0 ∧ h mRoads 0 ≤ 4) (hR : 0 ≤ h mRoads 2 ∧ h mRoads 2 ≤ h mRoads 0) (hu : 0 ≤ h mo_ 28 ∧ h mo_ 28 ≤ 16) (r s : Int) (h1 : ir_ r) (h2 : ir_ s) : PC G yX12_sit cX12_sit 3 (some .int) 3 [rr_ G mo_, ii_ r, ii_ s] h (qi_ (fun z h' => off_ [mState, mo_] h h' ∧ ((((0 ≤ r ∧ r < h mRoads 2) ∧ (0 ≤ s ∧ s < h mRoads 0) ∧ ¬ h mState (1 + r) = s) ∧ z = who_ (fun e => kep_ (h mState) (h mo_ 28) (1 + e)) s (h mRoads 2).toNat ∧ h' mState = sit_ (kep_ (h mState) (h mo_ 28)) 0 r s z ∧ h' mo_ = ob_ (ob_ (h mo_) 0 0) 28 (if h mo_ 28 = 16 then 16 else h mo_ 28 + 1)) ∨ (¬ ((0 ≤ r ∧ r < h mRoads 2) ∧ (0 ≤ s ∧ s < h mRoads 0) ∧ ¬ h mState (1 + r) = s) ∧ z = -2 ∧ h' mState = h mState ∧ h' mo_ = ob_ (h mo_) 0 0)))) := by
  refine PC.of (lv := [some (rr_ G mo_), some (ii_ r), some (ii_ s)]) (by decide +kernel) (Nat.le_of_ble_eq_true rfl) rfl rfl ?_
  refine pw_aload_n (z := mo_) (pc := 0) dX12_sit_0 rfl rfl ?_
  refine pw_iconst (pc := 1) dX12_sit_1 ?_
  refine pw_pI (x := 0) (pc := 2) dX12_sit_2 fX12_1 (im_mo_ hM) k_mo_ rfl rfl (by first | omega) ?_
  obtain ⟨g2, e2⟩ : ∃ x, x = up_ h mo_ 0 0 := ⟨_, rfl⟩
  refine pw_heq e2 ?_
  refine pw_aload_n (z := mo_) (pc := 5) dX12_sit_5 rfl rfl ?_
  refine pw_iload_n (z := r) (pc := 6) dX12_sit_6 rfl rfl ?_
  have n_g2_mRoads : g2 mRoads = h mRoads := (by rw [e2]; exact up_off (by decide))
  refine pw_callV (c := 12) (o := mo_) (As := [ii_ r]) (rest := []) (pc := 7) dX12_sit_7 (c_isRider hM g2 (r) (by first | omega | (simp only [n_g2_mRoads]; omega)) (by first | omega | (simp only [n_g2_mRoads]; omega))) lX12_387 mX12_isRider vX12_isRider (im_mo_ hM) k_mo_ rfl rfl rfl (by decide) ⟨Nat.zero_le _, Nat.zero_le _⟩ (Nat.le_of_ble_eq_true rfl) (k_i (fun z7 h7 y7 q7 => ?_))
  obtain ⟨rfl, ⟨rfl, p7⟩ | ⟨rfl, p7⟩⟩ := q7
  · simp -failIfUnchanged only [n_g2_mRoads] at p7
    refine pw_if_eq (t := 33) (pc := 10) dX12_sit_10 (by decide) (by first | omega | (simp only [n_g2_mRoads]; omega)) (fun c10 => absurd c10 (by decide)) (fun _ => ?_)
    refine pw_aload_n (z := mo_) (pc := 13) dX12_sit_13 rfl rfl ?_
    refine pw_iload_n (z := s) (pc := 14) dX12_sit_14 rfl rfl ?_
    refine pw_callV (c := 12) (o := mo_) (As := [ii_ s]) (rest := []) (pc := 15) dX12_sit_15 (c_isSeat hM g2 (s) (by first | omega | (simp only [n_g2_mRoads]; omega)) (by first | omega | (simp only [n_g2_mRoads]; omega))) lX12_406 mX12_isSeat vX12_isSeat (im_mo_ hM) k_mo_ rfl rfl rfl (by decide) ⟨Nat.zero_le _, Nat.zero_le _⟩ (Nat.le_of_ble_eq_true rfl) (k_i (fun z15 h15 y15 q15 => ?_))
    obtain ⟨rfl, ⟨rfl, p15⟩ | ⟨rfl, p15⟩⟩ := q15
    · simp -failIfUnchanged only [n_g2_mRoads] at p15
      refine pw_if_eq (t := 33) (pc := 18) dX12_sit_18 (by decide) (by first | omega | (simp only [n_g2_mRoads]; omega)) (fun c18 => absurd c18 (by decide)) (fun _ => ?_)
      refine pw_aload_n (z := mo_) (pc := 21) dX12_sit_21 rfl rfl ?_
      refine pw_getR (r := mState) (pc := 22) dX12_sit_22 fX12_130 (im_mo_ hM) k_mo_ rfl fr_mState ?_
      refine pw_iconst (pc := 25) dX12_sit_25 ?_
      refine pw_iload_n (z := r) (pc := 26) dX12_sit_26 rfl rfl ?_
      refine pw_iadd (pc := 27) dX12_sit_27 ?_
      refine pw_iald (pc := 28) dX12_sit_28 (im_mState hM) k_mState 1760 l_mState (by first | omega | (simp only [n_g2_mRoads]; omega)) (by first | omega | (simp only [n_g2_mRoads]; omega)) (by first | omega | (simp only [n_g2_mRoads]; omega)) (fun r28 => ?_)
      have n_g2_mState : g2 mState = h mState := (by rw [e2]; exact up_off (by decide))
      rw [n_g2_mState] at r28 ⊢
      refine pw_iload_n (z := s) (pc := 29) dX12_sit_29 rfl rfl ?_
      refine pw_icmp_ne (t := 36) (pc := 30) dX12_sit_30 (by decide) (by first | omega | (simp only [n_g2_mRoads, n_g2_mState]; omega)) (by first | omega | (simp only [n_g2_mRoads, n_g2_mState]; omega)) (fun c30 => ?_) (fun c30 => ?_)
      · have u28 : g2 mo_ 28 = h mo_ 28 := by rw [e2, up_at]; exact if_neg (by decide)
        refine pw_aload_n (z := mo_) (pc := 36) dX12_sit_36 rfl rfl ?_
        refine pw_callV (c := 12) (o := mo_) (As := []) (rest := []) (pc := 37) dX12_sit_37 (c_keeps hM g2 (by first | omega | (simp only [n_g2_mRoads, n_g2_mState]; omega))) lX12_409 mX12_keeps vX12_keeps (im_mo_ hM) k_mo_ rfl rfl rfl (by decide) ⟨Nat.zero_le _, Nat.zero_le _⟩ (Nat.le_of_ble_eq_true rfl) (k_v (fun h37 q37 => ?_))
        obtain ⟨f37, m37, o37⟩ := q37
        refine pw_aload_n (z := mo_) (pc := 40) dX12_sit_40 rfl rfl ?_
        refine pw_iconst (pc := 41) dX12_sit_41 ?_
        refine pw_iload_n (z := r) (pc := 42) dX12_sit_42 rfl rfl ?_
        refine pw_iload_n (z := s) (pc := 43) dX12_sit_43 rfl rfl ?_
        have n_h37_mRoads : h37 mRoads = h mRoads := ((show h37 mRoads = g2 mRoads from (f37 mRoads (by decide))).trans (show g2 mRoads = h mRoads from (by rw [e2]; exact up_off (by decide))))
        refine pw_callV (c := 12) (o := mo_) (As := [ii_ 0, ii_ r, ii_ s]) (rest := []) (pc := 44) dX12_sit_44 (c_sitsOn hM h37 (by first | omega | (simp only [n_g2_mRoads, n_g2_mState, n_h37_mRoads]; omega)) (by first | omega | (simp only [n_g2_mRoads, n_g2_mState, n_h37_mRoads]; omega)) (0) (r) (s) (by first | omega | (simp only [n_g2_mRoads, n_g2_mState, n_h37_mRoads]; omega)) (by first | omega | (simp only [n_g2_mRoads, n_g2_mState, n_h37_mRoads]; omega)) (by first | omega | (simp only [n_g2_mRoads, n_g2_mState, n_h37_mRoads]; omega))) lX12_412 mX12_sitsOn vX12_sitsOn (im_mo_ hM) k_mo_ rfl rfl rfl (by decide) ⟨Nat.zero_le _, Nat.zero_le _⟩ (Nat.le_of_ble_eq_true rfl) (k_i (fun z44 h44 y44 q44 => ?_))
        obtain ⟨w44, k44⟩ := q44
        exact pw_iret (pc := 47) dX12_sit_47 (by first | omega | (simp only [n_g2_mRoads, n_g2_mState, n_h37_mRoads]; omega)) (by
                  have k1 : off_ [mState, mo_] h g2 := by rw [e2]; exact off_up off_rf (by decide)
                  have k2 : g2 mState = h mState := by rw [e2, up_off (by decide)]
                  have k3 : g2 mo_ = ob_ (h mo_) 0 0 := by rw [e2, up_ob]
                  first
                  | exact ⟨k1, Or.inr ⟨by omega, rfl, k2, k3⟩⟩
                  | (refine ⟨off_tr k1 (off_tr f37 (off_mo (off_sce k44) (by decide))), Or.inl ⟨by omega, ?_, ?_, ?_⟩⟩
                     · rw [w44, m37, k2, u28]; simp only [Int.zero_add]; rw [f37 mRoads (by decide), e2, up_off (by decide)]
                     · rw [sc_in k44, m37, k2, u28]
                     · rw [off_sce k44 mo_ (by decide), o37, k3, show ob_ (h mo_) 0 0 28 = h mo_ 28 from if_neg (by decide)]))
      · refine pw_bipush (pc := 33) dX12_sit_33 rfl ?_
        exact pw_iret (pc := 35) dX12_sit_35 (by first | omega | (simp only [n_g2_mRoads, n_g2_mState]; omega)) (by
                  have k1 : off_ [mState, mo_] h g2 := by rw [e2]; exact off_up off_rf (by decide)
                  have k2 : g2 mState = h mState := by rw [e2, up_off (by decide)]
                  have k3 : g2 mo_ = ob_ (h mo_) 0 0 := by rw [e2, up_ob]
                  first
                  | exact ⟨k1, Or.inr ⟨by omega, rfl, k2, k3⟩⟩
                  | (refine ⟨off_tr k1 (off_tr f37 (off_mo (off_sce k44) (by decide))), Or.inl ⟨by omega, ?_, ?_, ?_⟩⟩
                     · rw [w44, m37, k2, u28]; simp only [Int.zero_add]; rw [f37 mRoads (by decide), e2, up_off (by decide)]
                     · rw [sc_in k44, m37, k2, u28]
                     · rw [off_sce k44 mo_ (by decide), o37, k3, show ob_ (h mo_) 0 0 28 = h mo_ 28 from if_neg (by decide)]))
    · simp -failIfUnchanged only [n_g2_mRoads] at p15
      refine pw_if_eq (t := 33) (pc := 18) dX12_sit_18 (by decide) (by first | omega | (simp only [n_g2_mRoads]; omega)) (fun _ => ?_) (fun c18 => absurd c18 (by decide))
      refine pw_bipush (pc := 33) dX12_sit_33 rfl ?_
      exact pw_iret (pc := 35) dX12_sit_35 (by first | omega | (simp only [n_g2_mRoads]; omega)) (by
                have k1 : off_ [mState, mo_] h g2 := by rw [e2]; exact off_up off_rf (by decide)
                have k2 : g2 mState = h mState := by rw [e2, up_off (by decide)]
                have k3 : g2 mo_ = ob_ (h mo_) 0 0 := by rw [e2, up_ob]
                first
                | exact ⟨k1, Or.inr ⟨by omega, rfl, k2, k3⟩⟩
                | (refine ⟨off_tr k1 (off_tr f37 (off_mo (off_sce k44) (by decide))), Or.inl ⟨by omega, ?_, ?_, ?_⟩⟩
                   · rw [w44, m37, k2, u28]; simp only [Int.zero_add]; rw [f37 mRoads (by decide), e2, up_off (by decide)]
                   · rw [sc_in k44, m37, k2, u28]
                   · rw [off_sce k44 mo_ (by decide), o37, k3, show ob_ (h mo_) 0 0 28 = h mo_ 28 from if_neg (by decide)]))
  · simp -failIfUnchanged only [n_g2_mRoads] at p7
    refine pw_if_eq (t := 33) (pc := 10) dX12_sit_10 (by decide) (by first | omega | (simp only [n_g2_mRoads]; omega)) (fun _ => ?_) (fun c10 => absurd c10 (by decide))
    refine pw_bipush (pc := 33) dX12_sit_33 rfl ?_
    exact pw_iret (pc := 35) dX12_sit_35 (by first | omega | (simp only [n_g2_mRoads]; omega)) (by
              have k1 : off_ [mState, mo_] h g2 := by rw [e2]; exact off_up off_rf (by decide)
              have k2 : g2 mState = h mState := by rw [e2, up_off (by decide)]
              have k3 : g2 mo_ = ob_ (h mo_) 0 0 := by rw [e2, up_ob]
              first
              | exact ⟨k1, Or.inr ⟨by omega, rfl, k2, k3⟩⟩
              | (refine ⟨off_tr k1 (off_tr f37 (off_mo (off_sce k44) (by decide))), Or.inl ⟨by omega, ?_, ?_, ?_⟩⟩
                 · rw [w44, m37, k2, u28]; simp only [Int.zero_add]; rw [f37 mRoads (by decide), e2, up_off (by decide)]
                 · rw [sc_in k44, m37, k2, u28]
                 · rw [off_sce k44 mo_ (by decide), o37, k3, show ob_ (h mo_) 0 0 28 = h mo_ 28 from if_neg (by decide)]))

set_option maxHeartbeats 4000000 in
set_option maxRecDepth 100000 in
theorem c_undo {G : GT_} (hM : okM_ G) (h : PH_) (hu : 0 ≤ h mo_ 28 ∧ h mo_ 28 ≤ 16) : PC G yX12_undo cX12_undo 1 (some .boolean) 2 [rr_ G mo_] h (qi_ (fun z h' => off_ [mState, mo_] h h' ∧ ((h mo_ 28 = 0 ∧ z = 0 ∧ h' mState = h mState ∧ h' mo_ = ob_ (h mo_) 0 0) ∨ (¬ h mo_ 28 = 0 ∧ z = 1 ∧ h' mState = cpy_ (h mState) (400 + 80 * (h mo_ 28 - 1)) 0 13 ∧ h' mo_ = ob_ (ob_ (h mo_) 0 0) 28 (h mo_ 28 - 1))))) := by
  refine PC.of (lv := [some (rr_ G mo_)]) (by decide +kernel) (Nat.le_of_ble_eq_true rfl) rfl rfl ?_
  refine pw_aload_n (z := mo_) (pc := 0) dX12_undo_0 rfl rfl ?_
  refine pw_iconst (pc := 1) dX12_undo_1 ?_
  refine pw_pI (x := 0) (pc := 2) dX12_undo_2 fX12_1 (im_mo_ hM) k_mo_ rfl rfl (by first | omega) ?_
  obtain ⟨g2, e2⟩ : ∃ x, x = up_ h mo_ 0 0 := ⟨_, rfl⟩
  refine pw_heq e2 ?_
  refine pw_aload_n (z := mo_) (pc := 5) dX12_undo_5 rfl rfl ?_
  refine pw_gI (x := 28) (pc := 6) dX12_undo_6 fX12_361 (im_mo_ hM) k_mo_ rfl rfl (fun r6 => ?_)
  have n_g2_mo__28 : g2 mo_ 28 = h mo_ 28 := (by rw [e2, up_at]; exact if_neg (by decide))
  rw [n_g2_mo__28] at r6 ⊢
  refine pw_if_ne (t := 14) (pc := 9) dX12_undo_9 (by decide) (by first | omega | (simp only [n_g2_mo__28]; omega)) (fun c9 => ?_) (fun c9 => ?_)
  · refine pw_aload_n (z := mo_) (pc := 14) dX12_undo_14 rfl rfl ?_
    refine pw_dup (pc := 15) dX12_undo_15 rfl ?_
    refine pw_gI (x := 28) (pc := 16) dX12_undo_16 fX12_361 (im_mo_ hM) k_mo_ rfl rfl (fun r16 => ?_)
    rw [n_g2_mo__28] at r16 ⊢
    refine pw_iconst (pc := 19) dX12_undo_19 ?_
    refine pw_isub (pc := 20) dX12_undo_20 ?_
    refine pw_pI (x := 28) (pc := 21) dX12_undo_21 fX12_361 (im_mo_ hM) k_mo_ rfl rfl (by first | omega | (simp only [n_g2_mo__28]; omega)) ?_
    obtain ⟨g21, e21⟩ : ∃ x, x = up_ g2 mo_ 28 ((h mo_ 28) - 1) := ⟨_, rfl⟩
    refine pw_heq e21 ?_
    refine pw_aload_n (z := mo_) (pc := 24) dX12_undo_24 rfl rfl ?_
    refine pw_bipush (pc := 25) dX12_undo_25 rfl ?_
    refine pw_iconst (pc := 27) dX12_undo_27 ?_
    refine pw_aload_n (z := mo_) (pc := 28) dX12_undo_28 rfl rfl ?_
    refine pw_gI (x := 28) (pc := 29) dX12_undo_29 fX12_361 (im_mo_ hM) k_mo_ rfl rfl (fun r29 => ?_)
    rw [show g21 mo_ 28 = ((h mo_ 28) - 1) from by rw [e21, up_same]] at r29 ⊢
    refine pw_iadd (pc := 32) dX12_undo_32 ?_
    refine pw_imul (pc := 33) dX12_undo_33 ?_
    refine pw_iconst (pc := 34) dX12_undo_34 ?_
    refine pw_bipush (pc := 35) dX12_undo_35 rfl ?_
    refine pw_callV (c := 12) (o := mo_) (As := [ii_ (80 * (5 + ((h mo_ 28) - 1))), ii_ 0, ii_ 13]) (rest := []) (pc := 37) dX12_undo_37 (c_copies hM g21 (80 * (5 + ((h mo_ 28) - 1))) (0) (13) (by first | omega | (simp only [n_g2_mo__28]; omega)) (by first | omega | (simp only [n_g2_mo__28]; omega)) (by first | omega | (simp only [n_g2_mo__28]; omega))) lX12_364 mX12_copies vX12_copies (im_mo_ hM) k_mo_ rfl rfl rfl (by decide) ⟨Nat.zero_le _, Nat.zero_le _⟩ (Nat.le_of_ble_eq_true rfl) (k_v (fun h37 q37 => ?_))
    refine pw_iconst (pc := 40) dX12_undo_40 ?_
    exact pw_zret (pc := 41) dX12_undo_41 (by first | omega | (simp only [n_g2_mo__28]; omega)) (by
              have k1 : off_ [mState, mo_] h g2 := by rw [e2]; exact off_up off_rf (by decide)
              have k2 : g2 mState = h mState := by rw [e2, up_off (by decide)]
              have k3 : g2 mo_ = ob_ (h mo_) 0 0 := by rw [e2, up_ob]
              first
              | exact ⟨k1, Or.inl ⟨by omega, rfl, k2, k3⟩⟩
              | (refine ⟨off_tr k1 (off_tr (by rw [e21]; exact off_up off_rf (by decide)) (off_mo (off_sce q37) (by decide))), Or.inr ⟨by omega, rfl, ?_, ?_⟩⟩
                 · rw [sc_in q37, e21, up_off (by decide), k2]; congr 1; omega
                 · rw [off_sce q37 mo_ (by decide), e21, up_ob, k3]))
  · refine pw_iconst (pc := 12) dX12_undo_12 ?_
    exact pw_zret (pc := 13) dX12_undo_13 (by first | omega | (simp only [n_g2_mo__28]; omega)) (by
              have k1 : off_ [mState, mo_] h g2 := by rw [e2]; exact off_up off_rf (by decide)
              have k2 : g2 mState = h mState := by rw [e2, up_off (by decide)]
              have k3 : g2 mo_ = ob_ (h mo_) 0 0 := by rw [e2, up_ob]
              first
              | exact ⟨k1, Or.inl ⟨by omega, rfl, k2, k3⟩⟩
              | (refine ⟨off_tr k1 (off_tr (by rw [e21]; exact off_up off_rf (by decide)) (off_mo (off_sce q37) (by decide))), Or.inr ⟨by omega, rfl, ?_, ?_⟩⟩
                 · rw [sc_in q37, e21, up_off (by decide), k2]; congr 1; omega
                 · rw [off_sce q37 mo_ (by decide), e21, up_ob, k3]))

