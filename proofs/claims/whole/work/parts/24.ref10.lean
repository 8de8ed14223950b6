set_option maxHeartbeats 4000000 in
set_option maxRecDepth 100000 in
theorem c_see {G : GT_} (hM : okM_ G) (h : PH_) (hS : 2 ≤ h mRoads 0 ∧ h mRoads 0 ≤ 4) (hR : 0 ≤ h mRoads 2 ∧ h mRoads 2 ≤ h mRoads 0) (hT : 0 ≤ h mRoads 1 ∧ h mRoads 1 ≤ 4) (hm : 0 ≤ h mState 30 ∧ h mState 30 ≤ 10) (r s t b : Int) (h1 : ir_ r) (h2 : ir_ s) (h3 : ir_ t) (h5 : b = 0 ∨ b = 1) : PC G yX12_see cX12_see 6 (some .boolean) 3 [rr_ G mo_, ii_ r, ii_ s, ii_ t, ii_ b] h (qi_ (fun z h' => off_ [mState, mo_] h h' ∧ h' mo_ = ob_ (h mo_) 0 0 ∧ ((((0 ≤ r ∧ r < h mRoads 2) ∧ (0 ≤ s ∧ s < h mRoads 0) ∧ (0 ≤ t ∧ t < h mRoads 1) ∧ ¬ h mState 30 = 10) ∧ z = 1 ∧ h' mState = see_ (h mState) r s t b) ∨ (¬ ((0 ≤ r ∧ r < h mRoads 2) ∧ (0 ≤ s ∧ s < h mRoads 0) ∧ (0 ≤ t ∧ t < h mRoads 1) ∧ ¬ h mState 30 = 10) ∧ z = 0 ∧ h' mState = h mState)))) := by
  refine PC.of (lv := [some (rr_ G mo_), some (ii_ r), some (ii_ s), some (ii_ t), some (ii_ b), none]) (by decide +kernel) (Nat.le_of_ble_eq_true rfl) rfl rfl ?_
  refine pw_aload_n (z := mo_) (pc := 0) dX12_see_0 rfl rfl ?_
  refine pw_iconst (pc := 1) dX12_see_1 ?_
  refine pw_pI (x := 0) (pc := 2) dX12_see_2 fX12_1 (im_mo_ hM) k_mo_ rfl rfl (by first | omega) ?_
  obtain ⟨g2, e2⟩ : ∃ x, x = up_ h mo_ 0 0 := ⟨_, rfl⟩
  refine pw_heq e2 ?_
  have k1 : off_ [mState, mo_] h g2 := by rw [e2]; exact off_up off_rf (by decide)
  have k2 : g2 mState = h mState := by rw [e2, up_off (by decide)]
  have k3 : g2 mo_ = ob_ (h mo_) 0 0 := by rw [e2, up_ob]
  refine pw_aload_n (z := mo_) (pc := 5) dX12_see_5 rfl rfl ?_
  refine pw_iload_n (z := r) (pc := 6) dX12_see_6 rfl rfl ?_
  have n_g2_mRoads : g2 mRoads = h mRoads := (by rw [e2]; exact up_off (by decide))
  refine pw_callV (c := 12) (o := mo_) (As := [ii_ r]) (rest := []) (pc := 7) dX12_see_7 (c_isRider hM g2 (r) (by first | omega | (simp only [n_g2_mRoads]; omega)) (by first | omega | (simp only [n_g2_mRoads]; omega))) lX12_387 mX12_isRider vX12_isRider (im_mo_ hM) k_mo_ rfl rfl rfl (by decide) ⟨Nat.zero_le _, Nat.zero_le _⟩ (Nat.le_of_ble_eq_true rfl) (k_i (fun z7 h7 y7 q7 => ?_))
  obtain ⟨rfl, ⟨rfl, p7⟩ | ⟨rfl, p7⟩⟩ := q7
  · simp -failIfUnchanged only [n_g2_mRoads] at p7
    refine pw_if_eq (t := 41) (pc := 10) dX12_see_10 (by decide) (by first | omega | (simp only [n_g2_mRoads]; omega)) (fun c10 => absurd c10 (by decide)) (fun _ => ?_)
    refine pw_aload_n (z := mo_) (pc := 13) dX12_see_13 rfl rfl ?_
    refine pw_iload_n (z := s) (pc := 14) dX12_see_14 rfl rfl ?_
    refine pw_callV (c := 12) (o := mo_) (As := [ii_ s]) (rest := []) (pc := 15) dX12_see_15 (c_isSeat hM g2 (s) (by first | omega | (simp only [n_g2_mRoads]; omega)) (by first | omega | (simp only [n_g2_mRoads]; omega))) lX12_406 mX12_isSeat vX12_isSeat (im_mo_ hM) k_mo_ rfl rfl rfl (by decide) ⟨Nat.zero_le _, Nat.zero_le _⟩ (Nat.le_of_ble_eq_true rfl) (k_i (fun z15 h15 y15 q15 => ?_))
    obtain ⟨rfl, ⟨rfl, p15⟩ | ⟨rfl, p15⟩⟩ := q15
    · simp -failIfUnchanged only [n_g2_mRoads] at p15
      refine pw_if_eq (t := 41) (pc := 18) dX12_see_18 (by decide) (by first | omega | (simp only [n_g2_mRoads]; omega)) (fun c18 => absurd c18 (by decide)) (fun _ => ?_)
      refine pw_aload_n (z := mo_) (pc := 21) dX12_see_21 rfl rfl ?_
      refine pw_iload_n (z := t) (pc := 22) dX12_see_22 rfl rfl ?_
      refine pw_callV (c := 12) (o := mo_) (As := [ii_ t]) (rest := []) (pc := 23) dX12_see_23 (c_isStretch hM g2 (t) (by first | omega | (simp only [n_g2_mRoads]; omega)) (by first | omega | (simp only [n_g2_mRoads]; omega))) lX12_390 mX12_isStretch vX12_isStretch (im_mo_ hM) k_mo_ rfl rfl rfl (by decide) ⟨Nat.zero_le _, Nat.zero_le _⟩ (Nat.le_of_ble_eq_true rfl) (k_i (fun z23 h23 y23 q23 => ?_))
      obtain ⟨rfl, ⟨rfl, p23⟩ | ⟨rfl, p23⟩⟩ := q23
      · simp -failIfUnchanged only [n_g2_mRoads] at p23
        refine pw_if_eq (t := 41) (pc := 26) dX12_see_26 (by decide) (by first | omega | (simp only [n_g2_mRoads]; omega)) (fun c26 => absurd c26 (by decide)) (fun _ => ?_)
        refine pw_aload_n (z := mo_) (pc := 29) dX12_see_29 rfl rfl ?_
        refine pw_getR (r := mState) (pc := 30) dX12_see_30 fX12_130 (im_mo_ hM) k_mo_ rfl fr_mState ?_
        refine pw_bipush (pc := 33) dX12_see_33 rfl ?_
        refine pw_iald (pc := 35) dX12_see_35 (im_mState hM) k_mState 1760 l_mState (by first | omega | (simp only [n_g2_mRoads]; omega)) (by first | omega | (simp only [n_g2_mRoads]; omega)) (by first | omega | (simp only [n_g2_mRoads]; omega)) (fun r35 => ?_)
        have n_g2_mState : g2 mState = h mState := (by rw [e2]; exact up_off (by decide))
        rw [n_g2_mState] at r35 ⊢
        refine pw_bipush (pc := 36) dX12_see_36 rfl ?_
        refine pw_icmp_ne (t := 43) (pc := 38) dX12_see_38 (by decide) (by first | omega | (simp only [n_g2_mRoads, n_g2_mState]; omega)) (by first | omega | (simp only [n_g2_mRoads, n_g2_mState]; omega)) (fun c38 => ?_) (fun c38 => ?_)
        · refine pw_bipush (pc := 43) dX12_see_43 rfl ?_
          refine pw_iconst (pc := 45) dX12_see_45 ?_
          refine pw_aload_n (z := mo_) (pc := 46) dX12_see_46 rfl rfl ?_
          refine pw_getR (r := mState) (pc := 47) dX12_see_47 fX12_130 (im_mo_ hM) k_mo_ rfl fr_mState ?_
          refine pw_bipush (pc := 50) dX12_see_50 rfl ?_
          refine pw_iald (pc := 52) dX12_see_52 (im_mState hM) k_mState 1760 l_mState (by first | omega | (simp only [n_g2_mRoads, n_g2_mState]; omega)) (by first | omega | (simp only [n_g2_mRoads, n_g2_mState]; omega)) (by first | omega | (simp only [n_g2_mRoads, n_g2_mState]; omega)) (fun r52 => ?_)
          rw [n_g2_mState] at r52 ⊢
          refine pw_imul (pc := 53) dX12_see_53 ?_
          refine pw_iadd (pc := 54) dX12_see_54 ?_
          refine pw_istore (lv1 := [some (rr_ G mo_), some (ii_ r), some (ii_ s), some (ii_ t), some (ii_ b), some (ii_ (31 + (4 * (h mState 30))))]) (pc := 55) dX12_see_55 (by decide) rfl rfl ?_
          refine pw_aload_n (z := mo_) (pc := 57) dX12_see_57 rfl rfl ?_
          refine pw_getR (r := mState) (pc := 58) dX12_see_58 fX12_130 (im_mo_ hM) k_mo_ rfl fr_mState ?_
          refine pw_iload (z := 31 + (4 * (h mState 30))) (pc := 61) dX12_see_61 rfl ?_
          refine pw_iload_n (z := r) (pc := 63) dX12_see_63 rfl rfl ?_
          refine pw_iast (pc := 64) dX12_see_64 (im_mState hM) k_mState 1760 l_mState (by first | omega | (simp only [n_g2_mRoads, n_g2_mState]; omega)) (by first | omega | (simp only [n_g2_mRoads, n_g2_mState]; omega)) (by first | omega | (simp only [n_g2_mRoads, n_g2_mState]; omega)) (by first | omega | (simp only [n_g2_mRoads, n_g2_mState]; omega)) ?_
          obtain ⟨g64, e64⟩ : ∃ x, x = up_ g2 mState (31 + (4 * (h mState 30))) r := ⟨_, rfl⟩
          refine pw_heq e64 ?_
          refine pw_aload_n (z := mo_) (pc := 65) dX12_see_65 rfl rfl ?_
          refine pw_getR (r := mState) (pc := 66) dX12_see_66 fX12_130 (im_mo_ hM) k_mo_ rfl fr_mState ?_
          refine pw_iload (z := 31 + (4 * (h mState 30))) (pc := 69) dX12_see_69 rfl ?_
          refine pw_iconst (pc := 71) dX12_see_71 ?_
          refine pw_iadd (pc := 72) dX12_see_72 ?_
          refine pw_iload_n (z := s) (pc := 73) dX12_see_73 rfl rfl ?_
          refine pw_iast (pc := 74) dX12_see_74 (im_mState hM) k_mState 1760 l_mState (by first | omega | (simp only [n_g2_mRoads, n_g2_mState]; omega)) (by first | omega | (simp only [n_g2_mRoads, n_g2_mState]; omega)) (by first | omega | (simp only [n_g2_mRoads, n_g2_mState]; omega)) (by first | omega | (simp only [n_g2_mRoads, n_g2_mState]; omega)) ?_
          obtain ⟨g74, e74⟩ : ∃ x, x = up_ g64 mState ((31 + (4 * (h mState 30))) + 1) s := ⟨_, rfl⟩
          refine pw_heq e74 ?_
          refine pw_aload_n (z := mo_) (pc := 75) dX12_see_75 rfl rfl ?_
          refine pw_getR (r := mState) (pc := 76) dX12_see_76 fX12_130 (im_mo_ hM) k_mo_ rfl fr_mState ?_
          refine pw_iload (z := 31 + (4 * (h mState 30))) (pc := 79) dX12_see_79 rfl ?_
          refine pw_iconst (pc := 81) dX12_see_81 ?_
          refine pw_iadd (pc := 82) dX12_see_82 ?_
          refine pw_iload_n (z := t) (pc := 83) dX12_see_83 rfl rfl ?_
          refine pw_iast (pc := 84) dX12_see_84 (im_mState hM) k_mState 1760 l_mState (by first | omega | (simp only [n_g2_mRoads, n_g2_mState]; omega)) (by first | omega | (simp only [n_g2_mRoads, n_g2_mState]; omega)) (by first | omega | (simp only [n_g2_mRoads, n_g2_mState]; omega)) (by first | omega | (simp only [n_g2_mRoads, n_g2_mState]; omega)) ?_
          obtain ⟨g84, e84⟩ : ∃ x, x = up_ g74 mState ((31 + (4 * (h mState 30))) + 2) t := ⟨_, rfl⟩
          refine pw_heq e84 ?_
          refine pw_aload_n (z := mo_) (pc := 85) dX12_see_85 rfl rfl ?_
          refine pw_getR (r := mState) (pc := 86) dX12_see_86 fX12_130 (im_mo_ hM) k_mo_ rfl fr_mState ?_
          refine pw_iload (z := 31 + (4 * (h mState 30))) (pc := 89) dX12_see_89 rfl ?_
          refine pw_iconst (pc := 91) dX12_see_91 ?_
          refine pw_iadd (pc := 92) dX12_see_92 ?_
          have J103 : ∀ (v : Int), (v = b) → PW G RX12 cX12_see 6 (some .boolean) (rm_ 3) 0 0 (zm_ G (qi_ (fun z h' => off_ [mState, mo_] h h' ∧ h' mo_ = ob_ (h mo_) 0 0 ∧ ((((0 ≤ r ∧ r < h mRoads 2) ∧ (0 ≤ s ∧ s < h mRoads 0) ∧ (0 ≤ t ∧ t < h mRoads 1) ∧ ¬ h mState 30 = 10) ∧ z = 1 ∧ h' mState = see_ (h mState) r s t b) ∨ (¬ ((0 ≤ r ∧ r < h mRoads 2) ∧ (0 ≤ s ∧ s < h mRoads 0) ∧ (0 ≤ t ∧ t < h mRoads 1) ∧ ¬ h mState 30 = 10) ∧ z = 0 ∧ h' mState = h mState))))) 103 [some (rr_ G mo_), some (ii_ r), some (ii_ s), some (ii_ t), some (ii_ b), some (ii_ (31 + (4 * (h mState 30))))] [ii_ v, ii_ (31 + 4 * h mState 30 + 3), rr_ G mState] g84 := by
            intro v hv
            refine pw_iast (pc := 103) dX12_see_103 (im_mState hM) k_mState 1760 l_mState (by first | omega | (simp only [n_g2_mRoads, n_g2_mState]; omega)) (by first | omega | (simp only [n_g2_mRoads, n_g2_mState]; omega)) (by first | omega | (simp only [n_g2_mRoads, n_g2_mState]; omega)) (by first | omega | (simp only [n_g2_mRoads, n_g2_mState]; omega)) ?_
            obtain ⟨g103, e103⟩ : ∃ x, x = up_ g84 mState (31 + 4 * h mState 30 + 3) v := ⟨_, rfl⟩
            refine pw_heq e103 ?_
            refine pw_aload_n (z := mo_) (pc := 104) dX12_see_104 rfl rfl ?_
            refine pw_getR (r := mState) (pc := 105) dX12_see_105 fX12_130 (im_mo_ hM) k_mo_ rfl fr_mState ?_
            refine pw_bipush (pc := 108) dX12_see_108 rfl ?_
            have v30 : g103 mState 30 = h mState 30 := by rw [e103, up_at, if_neg (by omega), e84, up_at, if_neg (by omega), e74, up_at, if_neg (by omega), e64, up_at, if_neg (by omega), k2]
            refine pw_dup2 (pc := 110) dX12_see_110 rfl rfl ?_
            refine pw_iald (pc := 111) dX12_see_111 (im_mState hM) k_mState 1760 l_mState (by first | omega | (simp only [n_g2_mRoads, n_g2_mState]; omega)) (by first | omega | (simp only [n_g2_mRoads, n_g2_mState]; omega)) (by first | omega | (simp only [n_g2_mRoads, n_g2_mState]; omega)) (fun r111 => ?_)
            rw [v30]
            refine pw_iconst (pc := 112) dX12_see_112 ?_
            refine pw_iadd (pc := 113) dX12_see_113 ?_
            refine pw_iast (pc := 114) dX12_see_114 (im_mState hM) k_mState 1760 l_mState (by first | omega | (simp only [n_g2_mRoads, n_g2_mState]; omega)) (by first | omega | (simp only [n_g2_mRoads, n_g2_mState]; omega)) (by first | omega | (simp only [n_g2_mRoads, n_g2_mState]; omega)) (by first | omega | (simp only [n_g2_mRoads, n_g2_mState]; omega)) ?_
            obtain ⟨g114, e114⟩ : ∃ x, x = up_ g103 mState 30 ((h mState 30) + 1) := ⟨_, rfl⟩
            refine pw_heq e114 ?_
            refine pw_iconst (pc := 115) dX12_see_115 ?_
            exact pw_zret (pc := 116) dX12_see_116 (by first | omega | (simp only [n_g2_mRoads, n_g2_mState]; omega)) (by
                      first
                      | exact ⟨k1, k3, Or.inr ⟨by omega, rfl, k2⟩⟩
                      | (refine ⟨?_, ?_, Or.inl ⟨by omega, rfl, ?_⟩⟩
                         · rw [e114, e103, e84, e74, e64]; exact off_up (off_up (off_up (off_up (off_up k1 (by decide)) (by decide)) (by decide)) (by decide)) (by decide)
                         · rw [e114, up_off (by decide), e103, up_off (by decide), e84, up_off (by decide), e74, up_off (by decide), e64, up_off (by decide), k3]
                         · rw [e114, up_ob, e103, up_ob, e84, up_ob, e74, up_ob, e64, up_ob, k2, hv]; rfl))
          refine pw_iload (z := b) (pc := 93) dX12_see_93 rfl ?_
          refine pw_if_eq (t := 102) (pc := 95) dX12_see_95 (by decide) (by first | omega | (simp only [n_g2_mRoads, n_g2_mState]; omega)) (fun c95 => ?_) (fun c95 => ?_)
          · refine pw_iconst (pc := 102) dX12_see_102 ?_
            exact J103 _ (by omega)
          · refine pw_iconst (pc := 98) dX12_see_98 ?_
            refine pw_goto (t := 103) (pc := 99) dX12_see_99 (by decide) ?_
            exact J103 _ (by omega)
        · refine pw_iconst (pc := 41) dX12_see_41 ?_
          exact pw_zret (pc := 42) dX12_see_42 (by first | omega | (simp only [n_g2_mRoads, n_g2_mState]; omega)) (by
                    first
                    | exact ⟨k1, k3, Or.inr ⟨by omega, rfl, k2⟩⟩
                    | (refine ⟨?_, ?_, Or.inl ⟨by omega, rfl, ?_⟩⟩
                       · rw [e114, e103, e84, e74, e64]; exact off_up (off_up (off_up (off_up (off_up k1 (by decide)) (by decide)) (by decide)) (by decide)) (by decide)
                       · rw [e114, up_off (by decide), e103, up_off (by decide), e84, up_off (by decide), e74, up_off (by decide), e64, up_off (by decide), k3]
                       · rw [e114, up_ob, e103, up_ob, e84, up_ob, e74, up_ob, e64, up_ob, k2, hv]; rfl))
      · simp -failIfUnchanged only [n_g2_mRoads] at p23
        refine pw_if_eq (t := 41) (pc := 26) dX12_see_26 (by decide) (by first | omega | (simp only [n_g2_mRoads]; omega)) (fun _ => ?_) (fun c26 => absurd c26 (by decide))
        refine pw_iconst (pc := 41) dX12_see_41 ?_
        exact pw_zret (pc := 42) dX12_see_42 (by first | omega | (simp only [n_g2_mRoads]; omega)) (by
                  first
                  | exact ⟨k1, k3, Or.inr ⟨by omega, rfl, k2⟩⟩
                  | (refine ⟨?_, ?_, Or.inl ⟨by omega, rfl, ?_⟩⟩
                     · rw [e114, e103, e84, e74, e64]; exact off_up (off_up (off_up (off_up (off_up k1 (by decide)) (by decide)) (by decide)) (by decide)) (by decide)
                     · rw [e114, up_off (by decide), e103, up_off (by decide), e84, up_off (by decide), e74, up_off (by decide), e64, up_off (by decide), k3]
                     · rw [e114, up_ob, e103, up_ob, e84, up_ob, e74, up_ob, e64, up_ob, k2, hv]; rfl))
    · simp -failIfUnchanged only [n_g2_mRoads] at p15
      refine pw_if_eq (t := 41) (pc := 18) dX12_see_18 (by decide) (by first | omega | (simp only [n_g2_mRoads]; omega)) (fun _ => ?_) (fun c18 => absurd c18 (by decide))
      refine pw_iconst (pc := 41) dX12_see_41 ?_
      exact pw_zret (pc := 42) dX12_see_42 (by first | omega | (simp only [n_g2_mRoads]; omega)) (by
                first
                | exact ⟨k1, k3, Or.inr ⟨by omega, rfl, k2⟩⟩
                | (refine ⟨?_, ?_, Or.inl ⟨by omega, rfl, ?_⟩⟩
                   · rw [e114, e103, e84, e74, e64]; exact off_up (off_up (off_up (off_up (off_up k1 (by decide)) (by decide)) (by decide)) (by decide)) (by decide)
                   · rw [e114, up_off (by decide), e103, up_off (by decide), e84, up_off (by decide), e74, up_off (by decide), e64, up_off (by decide), k3]
                   · rw [e114, up_ob, e103, up_ob, e84, up_ob, e74, up_ob, e64, up_ob, k2, hv]; rfl))
  · simp -failIfUnchanged only [n_g2_mRoads] at p7
    refine pw_if_eq (t := 41) (pc := 10) dX12_see_10 (by decide) (by first | omega | (simp only [n_g2_mRoads]; omega)) (fun _ => ?_) (fun c10 => absurd c10 (by decide))
    refine pw_iconst (pc := 41) dX12_see_41 ?_
    exact pw_zret (pc := 42) dX12_see_42 (by first | omega | (simp only [n_g2_mRoads]; omega)) (by
              first
              | exact ⟨k1, k3, Or.inr ⟨by omega, rfl, k2⟩⟩
              | (refine ⟨?_, ?_, Or.inl ⟨by omega, rfl, ?_⟩⟩
                 · rw [e114, e103, e84, e74, e64]; exact off_up (off_up (off_up (off_up (off_up k1 (by decide)) (by decide)) (by decide)) (by decide)) (by decide)
                 · rw [e114, up_off (by decide), e103, up_off (by decide), e84, up_off (by decide), e74, up_off (by decide), e64, up_off (by decide), k3]
                 · rw [e114, up_ob, e103, up_ob, e84, up_ob, e74, up_ob, e64, up_ob, k2, hv]; rfl))

set_option maxHeartbeats 4000000 in
set_option maxRecDepth 100000 in
theorem c_count {G : GT_} (hM : okM_ G) (h : PH_) (hS : 2 ≤ h mRoads 0 ∧ h mRoads 0 ≤ 4) (hR : 0 ≤ h mRoads 2 ∧ h mRoads 2 ≤ h mRoads 0) (w : Int) (h1 : ir_ w) : PC G yX12_count cX12_count 4 (some .int) 2 [rr_ G mo_, ii_ w] h (qi_ (fun z h' => h' = up_ h mo_ 0 0 ∧ z = (if w = 0 then h mRoads 0 else if w = 1 then h mRoads 1 else if w = 2 then h mRoads 2 else if w = 3 then h mRoads 3 else if w = 4 then h mState 0 else if w = 5 then csi_ (h mState) (h mRoads 2).toNat else if w = 6 then h mLines 0 else if w = 7 then h mState 13 else if w = 8 then h mState 30 else if w = 9 then h mRoads 4 else if w = 10 then h mo_ 28 else if w = 11 then h mo_ 2 else -1))) := by
  refine PC.of (lv := [some (rr_ G mo_), some (ii_ w), none, none]) (by decide +kernel) (Nat.le_of_ble_eq_true rfl) rfl rfl ?_
  refine pw_aload_n (z := mo_) (pc := 0) dX12_count_0 rfl rfl ?_
  refine pw_iconst (pc := 1) dX12_count_1 ?_
  refine pw_pI (x := 0) (pc := 2) dX12_count_2 fX12_1 (im_mo_ hM) k_mo_ rfl rfl (by first | omega) ?_
  obtain ⟨g2, e2⟩ : ∃ x, x = up_ h mo_ 0 0 := ⟨_, rfl⟩
  refine pw_heq e2 ?_
  refine pw_iconst (pc := 5) dX12_count_5 ?_
  refine pw_istore_n (lv1 := [some (rr_ G mo_), some (ii_ w), some (ii_ 0), none]) (pc := 6) dX12_count_6 rfl (by decide) rfl rfl ?_
  refine pw_iconst (pc := 7) dX12_count_7 ?_
  refine pw_istore_n (lv1 := [some (rr_ G mo_), some (ii_ w), some (ii_ 0), some (ii_ 0)]) (pc := 8) dX12_count_8 rfl (by decide) rfl rfl ?_
  have L9 : ∀ (nn : Nat) (n : Int) (r : Int), (0 ≤ r ∧ r ≤ h mRoads 2) → (n = csi_ (h mState) r.toNat) → ((h mRoads 2 - r + 1 : Int) ≤ nn) → PW G RX12 cX12_count 4 (some .int) (rm_ 2) 0 0 (zm_ G (qi_ (fun z h' => h' = up_ h mo_ 0 0 ∧ z = (if w = 0 then h mRoads 0 else if w = 1 then h mRoads 1 else if w = 2 then h mRoads 2 else if w = 3 then h mRoads 3 else if w = 4 then h mState 0 else if w = 5 then csi_ (h mState) (h mRoads 2).toNat else if w = 6 then h mLines 0 else if w = 7 then h mState 13 else if w = 8 then h mState 30 else if w = 9 then h mRoads 4 else if w = 10 then h mo_ 28 else if w = 11 then h mo_ 2 else -1)))) 9 [some (rr_ G mo_), some (ii_ w), some (ii_ n), some (ii_ r)] [] g2 := by
    intro nn
    induction nn with
    | zero => intro n r ak an ams; exfalso; omega
    | succ nn ih9 =>
      intro n r ak an ams
      have cb := csi_b (h mState) r.toNat
      refine pw_iload_n (z := r) (pc := 9) dX12_count_9 rfl rfl ?_
      refine pw_aload_n (z := mo_) (pc := 10) dX12_count_10 rfl rfl ?_
      refine pw_callV (c := 12) (o := mo_) (As := []) (rest := [ii_ r]) (pc := 11) dX12_count_11 (c_riders hM g2) lX12_334 mX12_riders vX12_riders (im_mo_ hM) k_mo_ rfl rfl rfl (by decide) ⟨Nat.zero_le _, Nat.zero_le _⟩ (Nat.le_of_ble_eq_true rfl) (k_i (fun z11 h11 y11 q11 => ?_))
      obtain ⟨rfl, rfl⟩ := q11
      have n_g2_mRoads : g2 mRoads = h mRoads := (by rw [e2]; exact up_off (by decide))
      rw [n_g2_mRoads] at y11 ⊢
      refine pw_icmp_ge (t := 42) (pc := 14) dX12_count_14 (by decide) (by first | omega | (simp only [n_g2_mRoads]; omega)) (by first | omega | (simp only [n_g2_mRoads]; omega)) (fun c14 => ?_) (fun c14 => ?_)
      · refine pw_iload_n (z := w) (pc := 42) dX12_count_42 rfl rfl ?_
        have sw43 : w = 0 ∨ w = 1 ∨ w = 2 ∨ w = 3 ∨ w = 4 ∨ w = 5 ∨ w = 6 ∨ w = 7 ∨ w = 8 ∨ w = 9 ∨ w = 10 ∨ w = 11 ∨ (w < 0 ∨ 11 < w) := by omega
        rcases sw43 with sw43 | sw43 | sw43 | sw43 | sw43 | sw43 | sw43 | sw43 | sw43 | sw43 | sw43 | sw43 | sw43
        · refine pw_tableIn (t := 104) (off := 61) (pc := 43) dX12_count_43 (by first | omega | (simp only [n_g2_mRoads]; omega)) (by omega) (by omega) (by rw [sw43]; rfl) (by decide) ?_
          refine pw_aload_n (z := mo_) (pc := 104) dX12_count_104 rfl rfl ?_
          refine pw_callV (c := 12) (o := mo_) (As := []) (rest := []) (pc := 105) dX12_count_105 (c_seats hM g2) lX12_331 mX12_seats vX12_seats (im_mo_ hM) k_mo_ rfl rfl rfl (by decide) ⟨Nat.zero_le _, Nat.zero_le _⟩ (Nat.le_of_ble_eq_true rfl) (k_i (fun z105 h105 y105 q105 => ?_))
          obtain ⟨rfl, rfl⟩ := q105
          rw [n_g2_mRoads] at y105 ⊢
          exact pw_iret (pc := 108) dX12_count_108 (by first | omega | (simp only [n_g2_mRoads]; omega)) (⟨e2, by first | (subst sw43; first | rfl | (rw [an, show r = h mRoads 2 by omega]; rfl)) | (repeat' (rw [if_neg (by omega)]))⟩)
        · refine pw_tableIn (t := 109) (off := 66) (pc := 43) dX12_count_43 (by first | omega | (simp only [n_g2_mRoads]; omega)) (by omega) (by omega) (by rw [sw43]; rfl) (by decide) ?_
          refine pw_aload_n (z := mo_) (pc := 109) dX12_count_109 rfl rfl ?_
          refine pw_callV (c := 12) (o := mo_) (As := []) (rest := []) (pc := 110) dX12_count_110 (c_stretches hM g2) lX12_368 mX12_stretches vX12_stretches (im_mo_ hM) k_mo_ rfl rfl rfl (by decide) ⟨Nat.zero_le _, Nat.zero_le _⟩ (Nat.le_of_ble_eq_true rfl) (k_i (fun z110 h110 y110 q110 => ?_))
          obtain ⟨rfl, rfl⟩ := q110
          rw [n_g2_mRoads] at y110 ⊢
          exact pw_iret (pc := 113) dX12_count_113 (by first | omega | (simp only [n_g2_mRoads]; omega)) (⟨e2, by first | (subst sw43; first | rfl | (rw [an, show r = h mRoads 2 by omega]; rfl)) | (repeat' (rw [if_neg (by omega)]))⟩)
        · refine pw_tableIn (t := 114) (off := 71) (pc := 43) dX12_count_43 (by first | omega | (simp only [n_g2_mRoads]; omega)) (by omega) (by omega) (by rw [sw43]; rfl) (by decide) ?_
          refine pw_aload_n (z := mo_) (pc := 114) dX12_count_114 rfl rfl ?_
          refine pw_callV (c := 12) (o := mo_) (As := []) (rest := []) (pc := 115) dX12_count_115 (c_riders hM g2) lX12_334 mX12_riders vX12_riders (im_mo_ hM) k_mo_ rfl rfl rfl (by decide) ⟨Nat.zero_le _, Nat.zero_le _⟩ (Nat.le_of_ble_eq_true rfl) (k_i (fun z115 h115 y115 q115 => ?_))
          obtain ⟨rfl, rfl⟩ := q115
          rw [n_g2_mRoads] at y115 ⊢
          exact pw_iret (pc := 118) dX12_count_118 (by first | omega | (simp only [n_g2_mRoads]; omega)) (⟨e2, by first | (subst sw43; first | rfl | (rw [an, show r = h mRoads 2 by omega]; rfl)) | (repeat' (rw [if_neg (by omega)]))⟩)
        · refine pw_tableIn (t := 119) (off := 76) (pc := 43) dX12_count_43 (by first | omega | (simp only [n_g2_mRoads]; omega)) (by omega) (by omega) (by rw [sw43]; rfl) (by decide) ?_
          refine pw_aload_n (z := mo_) (pc := 119) dX12_count_119 rfl rfl ?_
          refine pw_getR (r := mRoads) (pc := 120) dX12_count_120 fX12_97 (im_mo_ hM) k_mo_ rfl fr_mRoads ?_
          refine pw_iconst (pc := 123) dX12_count_123 ?_
          refine pw_iald (pc := 124) dX12_count_124 (im_mRoads hM) k_mRoads 160 l_mRoads (by first | omega | (simp only [n_g2_mRoads]; omega)) (by first | omega | (simp only [n_g2_mRoads]; omega)) (by first | omega | (simp only [n_g2_mRoads]; omega)) (fun r124 => ?_)
          rw [n_g2_mRoads] at r124 ⊢
          exact pw_iret (pc := 125) dX12_count_125 (by first | omega | (simp only [n_g2_mRoads]; omega)) (⟨e2, by first | (subst sw43; first | rfl | (rw [an, show r = h mRoads 2 by omega]; rfl)) | (repeat' (rw [if_neg (by omega)]))⟩)
        · refine pw_tableIn (t := 126) (off := 83) (pc := 43) dX12_count_43 (by first | omega | (simp only [n_g2_mRoads]; omega)) (by omega) (by omega) (by rw [sw43]; rfl) (by decide) ?_
          refine pw_aload_n (z := mo_) (pc := 126) dX12_count_126 rfl rfl ?_
          refine pw_getR (r := mState) (pc := 127) dX12_count_127 fX12_130 (im_mo_ hM) k_mo_ rfl fr_mState ?_
          refine pw_iconst (pc := 130) dX12_count_130 ?_
          refine pw_iald (pc := 131) dX12_count_131 (im_mState hM) k_mState 1760 l_mState (by first | omega | (simp only [n_g2_mRoads]; omega)) (by first | omega | (simp only [n_g2_mRoads]; omega)) (by first | omega | (simp only [n_g2_mRoads]; omega)) (fun r131 => ?_)
          have n_g2_mState : g2 mState = h mState := (by rw [e2]; exact up_off (by decide))
          rw [n_g2_mState] at r131 ⊢
          exact pw_iret (pc := 132) dX12_count_132 (by first | omega | (simp only [n_g2_mRoads, n_g2_mState]; omega)) (⟨e2, by first | (subst sw43; first | rfl | (rw [an, show r = h mRoads 2 by omega]; rfl)) | (repeat' (rw [if_neg (by omega)]))⟩)
        · refine pw_tableIn (t := 133) (off := 90) (pc := 43) dX12_count_43 (by first | omega | (simp only [n_g2_mRoads]; omega)) (by omega) (by omega) (by rw [sw43]; rfl) (by decide) ?_
          refine pw_iload_n (z := n) (pc := 133) dX12_count_133 rfl rfl ?_
          exact pw_iret (pc := 134) dX12_count_134 (by first | omega | (simp only [n_g2_mRoads]; omega)) (⟨e2, by first | (subst sw43; first | rfl | (rw [an, show r = h mRoads 2 by omega]; rfl)) | (repeat' (rw [if_neg (by omega)]))⟩)
        · refine pw_tableIn (t := 135) (off := 92) (pc := 43) dX12_count_43 (by first | omega | (simp only [n_g2_mRoads]; omega)) (by omega) (by omega) (by rw [sw43]; rfl) (by decide) ?_
          refine pw_aload_n (z := mo_) (pc := 135) dX12_count_135 rfl rfl ?_
          refine pw_getR (r := mLines) (pc := 136) dX12_count_136 fX12_118 (im_mo_ hM) k_mo_ rfl fr_mLines ?_
          refine pw_iconst (pc := 139) dX12_count_139 ?_
          refine pw_iald (pc := 140) dX12_count_140 (im_mLines hM) k_mLines 90 l_mLines (by first | omega | (simp only [n_g2_mRoads]; omega)) (by first | omega | (simp only [n_g2_mRoads]; omega)) (by first | omega | (simp only [n_g2_mRoads]; omega)) (fun r140 => ?_)
          have n_g2_mLines : g2 mLines = h mLines := (by rw [e2]; exact up_off (by decide))
          rw [n_g2_mLines] at r140 ⊢
          exact pw_iret (pc := 141) dX12_count_141 (by first | omega | (simp only [n_g2_mLines, n_g2_mRoads]; omega)) (⟨e2, by first | (subst sw43; first | rfl | (rw [an, show r = h mRoads 2 by omega]; rfl)) | (repeat' (rw [if_neg (by omega)]))⟩)
        · refine pw_tableIn (t := 142) (off := 99) (pc := 43) dX12_count_43 (by first | omega | (simp only [n_g2_mRoads]; omega)) (by omega) (by omega) (by rw [sw43]; rfl) (by decide) ?_
          refine pw_aload_n (z := mo_) (pc := 142) dX12_count_142 rfl rfl ?_
          refine pw_getR (r := mState) (pc := 143) dX12_count_143 fX12_130 (im_mo_ hM) k_mo_ rfl fr_mState ?_
          refine pw_bipush (pc := 146) dX12_count_146 rfl ?_
          refine pw_iald (pc := 148) dX12_count_148 (im_mState hM) k_mState 1760 l_mState (by first | omega | (simp only [n_g2_mRoads]; omega)) (by first | omega | (simp only [n_g2_mRoads]; omega)) (by first | omega | (simp only [n_g2_mRoads]; omega)) (fun r148 => ?_)
          have n_g2_mState : g2 mState = h mState := (by rw [e2]; exact up_off (by decide))
          rw [n_g2_mState] at r148 ⊢
          exact pw_iret (pc := 149) dX12_count_149 (by first | omega | (simp only [n_g2_mRoads, n_g2_mState]; omega)) (⟨e2, by first | (subst sw43; first | rfl | (rw [an, show r = h mRoads 2 by omega]; rfl)) | (repeat' (rw [if_neg (by omega)]))⟩)
        · refine pw_tableIn (t := 150) (off := 107) (pc := 43) dX12_count_43 (by first | omega | (simp only [n_g2_mRoads]; omega)) (by omega) (by omega) (by rw [sw43]; rfl) (by decide) ?_
          refine pw_aload_n (z := mo_) (pc := 150) dX12_count_150 rfl rfl ?_
          refine pw_getR (r := mState) (pc := 151) dX12_count_151 fX12_130 (im_mo_ hM) k_mo_ rfl fr_mState ?_
          refine pw_bipush (pc := 154) dX12_count_154 rfl ?_
          refine pw_iald (pc := 156) dX12_count_156 (im_mState hM) k_mState 1760 l_mState (by first | omega | (simp only [n_g2_mRoads]; omega)) (by first | omega | (simp only [n_g2_mRoads]; omega)) (by first | omega | (simp only [n_g2_mRoads]; omega)) (fun r156 => ?_)
          have n_g2_mState : g2 mState = h mState := (by rw [e2]; exact up_off (by decide))
          rw [n_g2_mState] at r156 ⊢
          exact pw_iret (pc := 157) dX12_count_157 (by first | omega | (simp only [n_g2_mRoads, n_g2_mState]; omega)) (⟨e2, by first | (subst sw43; first | rfl | (rw [an, show r = h mRoads 2 by omega]; rfl)) | (repeat' (rw [if_neg (by omega)]))⟩)
        · refine pw_tableIn (t := 158) (off := 115) (pc := 43) dX12_count_43 (by first | omega | (simp only [n_g2_mRoads]; omega)) (by omega) (by omega) (by rw [sw43]; rfl) (by decide) ?_
          refine pw_aload_n (z := mo_) (pc := 158) dX12_count_158 rfl rfl ?_
          refine pw_getR (r := mRoads) (pc := 159) dX12_count_159 fX12_97 (im_mo_ hM) k_mo_ rfl fr_mRoads ?_
          refine pw_iconst (pc := 162) dX12_count_162 ?_
          refine pw_iald (pc := 163) dX12_count_163 (im_mRoads hM) k_mRoads 160 l_mRoads (by first | omega | (simp only [n_g2_mRoads]; omega)) (by first | omega | (simp only [n_g2_mRoads]; omega)) (by first | omega | (simp only [n_g2_mRoads]; omega)) (fun r163 => ?_)
          rw [n_g2_mRoads] at r163 ⊢
          exact pw_iret (pc := 164) dX12_count_164 (by first | omega | (simp only [n_g2_mRoads]; omega)) (⟨e2, by first | (subst sw43; first | rfl | (rw [an, show r = h mRoads 2 by omega]; rfl)) | (repeat' (rw [if_neg (by omega)]))⟩)
        · refine pw_tableIn (t := 165) (off := 122) (pc := 43) dX12_count_43 (by first | omega | (simp only [n_g2_mRoads]; omega)) (by omega) (by omega) (by rw [sw43]; rfl) (by decide) ?_
          refine pw_aload_n (z := mo_) (pc := 165) dX12_count_165 rfl rfl ?_
          refine pw_gI (x := 28) (pc := 166) dX12_count_166 fX12_361 (im_mo_ hM) k_mo_ rfl rfl (fun r166 => ?_)
          have n_g2_mo__28 : g2 mo_ 28 = h mo_ 28 := (by rw [e2, up_at]; exact if_neg (by decide))
          rw [n_g2_mo__28] at r166 ⊢
          exact pw_iret (pc := 169) dX12_count_169 (by first | omega | (simp only [n_g2_mRoads, n_g2_mo__28]; omega)) (⟨e2, by first | (subst sw43; first | rfl | (rw [an, show r = h mRoads 2 by omega]; rfl)) | (repeat' (rw [if_neg (by omega)]))⟩)
        · refine pw_tableIn (t := 170) (off := 127) (pc := 43) dX12_count_43 (by first | omega | (simp only [n_g2_mRoads]; omega)) (by omega) (by omega) (by rw [sw43]; rfl) (by decide) ?_
          refine pw_aload_n (z := mo_) (pc := 170) dX12_count_170 rfl rfl ?_
          refine pw_gI (x := 2) (pc := 171) dX12_count_171 fX12_11 (im_mo_ hM) k_mo_ rfl rfl (fun r171 => ?_)
          have n_g2_mo__2 : g2 mo_ 2 = h mo_ 2 := (by rw [e2, up_at]; exact if_neg (by decide))
          rw [n_g2_mo__2] at r171 ⊢
          exact pw_iret (pc := 174) dX12_count_174 (by first | omega | (simp only [n_g2_mRoads, n_g2_mo__2]; omega)) (⟨e2, by first | (subst sw43; first | rfl | (rw [an, show r = h mRoads 2 by omega]; rfl)) | (repeat' (rw [if_neg (by omega)]))⟩)
        · refine pw_tableOut (t := 175) (pc := 43) dX12_count_43 (by first | omega | (simp only [n_g2_mRoads]; omega)) sw43 (by decide) ?_
          refine pw_iconst (pc := 175) dX12_count_175 ?_
          exact pw_iret (pc := 176) dX12_count_176 (by first | omega | (simp only [n_g2_mRoads]; omega)) (⟨e2, by first | (subst sw43; first | rfl | (rw [an, show r = h mRoads 2 by omega]; rfl)) | (repeat' (rw [if_neg (by omega)]))⟩)
      · have J34 : ∀ (v : Int), (v = (if 0 ≤ h mState (1 + r) then 1 else 0)) → PW G RX12 cX12_count 4 (some .int) (rm_ 2) 0 0 (zm_ G (qi_ (fun z h' => h' = up_ h mo_ 0 0 ∧ z = (if w = 0 then h mRoads 0 else if w = 1 then h mRoads 1 else if w = 2 then h mRoads 2 else if w = 3 then h mRoads 3 else if w = 4 then h mState 0 else if w = 5 then csi_ (h mState) (h mRoads 2).toNat else if w = 6 then h mLines 0 else if w = 7 then h mState 13 else if w = 8 then h mState 30 else if w = 9 then h mRoads 4 else if w = 10 then h mo_ 28 else if w = 11 then h mo_ 2 else -1)))) 34 [some (rr_ G mo_), some (ii_ w), some (ii_ n), some (ii_ r)] [ii_ v, ii_ n] g2 := by
          intro v hv
          refine pw_iadd (pc := 34) dX12_count_34 ?_
          refine pw_istore_n (lv1 := [some (rr_ G mo_), some (ii_ w), some (ii_ (n + v)), some (ii_ r)]) (pc := 35) dX12_count_35 rfl (by decide) rfl rfl ?_
          refine pw_iinc (z := r) (lv1 := [some (rr_ G mo_), some (ii_ w), some (ii_ (n + v)), some (ii_ (r + 1))]) (pc := 36) dX12_count_36 rfl (by decide) rfl rfl ?_
          refine pw_goto (t := 9) (pc := 39) dX12_count_39 (by decide) ?_
          exact ih9 _ _ (by omega) (by rw [csi_s ak.1, an, hv]) (by omega)
        refine pw_iload_n (z := n) (pc := 17) dX12_count_17 rfl rfl ?_
        refine pw_aload_n (z := mo_) (pc := 18) dX12_count_18 rfl rfl ?_
        refine pw_getR (r := mState) (pc := 19) dX12_count_19 fX12_130 (im_mo_ hM) k_mo_ rfl fr_mState ?_
        refine pw_iconst (pc := 22) dX12_count_22 ?_
        refine pw_iload_n (z := r) (pc := 23) dX12_count_23 rfl rfl ?_
        refine pw_iadd (pc := 24) dX12_count_24 ?_
        refine pw_iald (pc := 25) dX12_count_25 (im_mState hM) k_mState 1760 l_mState (by first | omega | (simp only [n_g2_mRoads]; omega)) (by first | omega | (simp only [n_g2_mRoads]; omega)) (by first | omega | (simp only [n_g2_mRoads]; omega)) (fun r25 => ?_)
        have n_g2_mState : g2 mState = h mState := (by rw [e2]; exact up_off (by decide))
        rw [n_g2_mState] at r25 ⊢
        refine pw_if_lt (t := 33) (pc := 26) dX12_count_26 (by decide) (by first | omega | (simp only [n_g2_mRoads, n_g2_mState]; omega)) (fun c26 => ?_) (fun c26 => ?_)
        · refine pw_iconst (pc := 33) dX12_count_33 ?_
          exact J34 _ (by first | (rw [if_pos (by omega)]; done) | (rw [if_neg (by omega)]; done))
        · refine pw_iconst (pc := 29) dX12_count_29 ?_
          refine pw_goto (t := 34) (pc := 30) dX12_count_30 (by decide) ?_
          exact J34 _ (by first | (rw [if_pos (by omega)]; done) | (rw [if_neg (by omega)]; done))
  exact L9 _ _ _ (by omega) (rfl) (Int.self_le_toNat _)

