set_option maxHeartbeats 4000000 in
set_option maxRecDepth 100000 in
theorem c_copies {G : GT_} (hM : okM_ G) (h : PH_) (fr to n : Int) (h1 : 0 ≤ fr ∧ 0 ≤ n ∧ fr + n ≤ 1760) (h2 : 0 ≤ to ∧ to + n ≤ 1760) (h3 : fr + n ≤ to ∨ to + n ≤ fr) : PC G yX12_copies cX12_copies 5 none 1 [rr_ G mo_, ii_ fr, ii_ to, ii_ n] h (qv_ (fun h' => h' = sc_ h mState (cpy_ (h mState) fr to n))) := by
  refine PC.of (lv := [some (rr_ G mo_), some (ii_ fr), some (ii_ to), some (ii_ n), none]) (by decide +kernel) (Nat.le_of_ble_eq_true rfl) rfl rfl ?_
  refine pw_iconst (pc := 0) dX12_copies_0 ?_
  refine pw_istore (lv1 := [some (rr_ G mo_), some (ii_ fr), some (ii_ to), some (ii_ n), some (ii_ 0)]) (pc := 1) dX12_copies_1 (by decide) rfl rfl ?_
  have L3 : ∀ (nn : Nat) (k : Int) (hh : PH_), (0 ≤ k ∧ k ≤ n) → (hh = sc_ h mState (cpy_ (h mState) fr to k)) → ((n - k + 1 : Int) ≤ nn) → PW G RX12 cX12_copies 5 none (rm_ 1) 0 0 (zm_ G (qv_ (fun h' => h' = sc_ h mState (cpy_ (h mState) fr to n)))) 3 [some (rr_ G mo_), some (ii_ fr), some (ii_ to), some (ii_ n), some (ii_ k)] [] hh := by
    intro nn
    induction nn with
    | zero => intro k hh ak ae ams; exfalso; omega
    | succ nn ih3 =>
      intro k hh ak ae ams
      refine pw_iload (z := k) (pc := 3) dX12_copies_3 rfl ?_
      refine pw_iload_n (z := n) (pc := 5) dX12_copies_5 rfl rfl ?_
      refine pw_icmp_ge (t := 33) (pc := 6) dX12_copies_6 (by decide) (by first | omega) (by first | omega) (fun c6 => ?_) (fun c6 => ?_)
      · exact pw_vret (pc := 33) dX12_copies_33 (by rw [ae, show k = n by omega])
      · refine pw_aload_n (z := mo_) (pc := 9) dX12_copies_9 rfl rfl ?_
        refine pw_getR (r := mState) (pc := 10) dX12_copies_10 fX12_130 (im_mo_ hM) k_mo_ rfl fr_mState ?_
        refine pw_iload_n (z := to) (pc := 13) dX12_copies_13 rfl rfl ?_
        refine pw_iload (z := k) (pc := 14) dX12_copies_14 rfl ?_
        refine pw_iadd (pc := 16) dX12_copies_16 ?_
        refine pw_aload_n (z := mo_) (pc := 17) dX12_copies_17 rfl rfl ?_
        refine pw_getR (r := mState) (pc := 18) dX12_copies_18 fX12_130 (im_mo_ hM) k_mo_ rfl fr_mState ?_
        refine pw_iload_n (z := fr) (pc := 21) dX12_copies_21 rfl rfl ?_
        refine pw_iload (z := k) (pc := 22) dX12_copies_22 rfl ?_
        refine pw_iadd (pc := 24) dX12_copies_24 ?_
        refine pw_iald (pc := 25) dX12_copies_25 (im_mState hM) k_mState 1760 l_mState (by first | omega) (by first | omega) (by first | omega) (fun r25 => ?_)
        refine pw_iast (pc := 26) dX12_copies_26 (im_mState hM) k_mState 1760 l_mState (by first | omega) (by first | omega) (by first | omega) (by first | omega) ?_
        obtain ⟨g26, e26⟩ : ∃ x, x = up_ hh mState (to + k) (hh mState (fr + k)) := ⟨_, rfl⟩
        refine pw_heq e26 ?_
        have v1 : hh mState (fr + k) = h mState (fr + k) := by rw [sc_in ae]; unfold cpy_; exact if_neg (by omega)
        refine pw_iinc (z := k) (lv1 := [some (rr_ G mo_), some (ii_ fr), some (ii_ to), some (ii_ n), some (ii_ (k + 1))]) (pc := 27) dX12_copies_27 rfl (by decide) rfl rfl ?_
        refine pw_goto (t := 3) (pc := 30) dX12_copies_30 (by decide) ?_
        exact ih3 _ _ (by omega) (sc_up ae e26 (fun y => by
                  rw [v1]; unfold cpy_
                  by_cases y1 : y = to + k
                  · rw [if_pos y1, if_pos (by omega), y1]; congr 1; omega
                  · rw [if_neg y1]; by_cases y2 : to ≤ y ∧ y < to + k
                    · rw [if_pos y2, if_pos (by omega)]
                    · rw [if_neg y2, if_neg (by omega)])) (by omega)
  exact L3 _ _ _ (by omega) (sc_id (fun y => by unfold cpy_; rw [if_neg (by omega)])) (Int.self_le_toNat _)

set_option maxHeartbeats 4000000 in
set_option maxRecDepth 100000 in
theorem c_starts {G : GT_} (hM : okM_ G) (h : PH_) (b : Int) (h1 : 0 ≤ b ∧ b ≤ 1680) : PC G yX12_starts cX12_starts 3 none 2 [rr_ G mo_, ii_ b] h (qv_ (fun h' => h' = sc_ h mState (sta_ (h mRoads) (h mState) b 4))) := by
  refine PC.of (lv := [some (rr_ G mo_), some (ii_ b), none]) (by decide +kernel) (Nat.le_of_ble_eq_true rfl) rfl rfl ?_
  refine pw_aload_n (z := mo_) (pc := 0) dX12_starts_0 rfl rfl ?_
  refine pw_getR (r := mState) (pc := 1) dX12_starts_1 fX12_130 (im_mo_ hM) k_mo_ rfl fr_mState ?_
  refine pw_iload_n (z := b) (pc := 4) dX12_starts_4 rfl rfl ?_
  refine pw_iconst (pc := 5) dX12_starts_5 ?_
  refine pw_iadd (pc := 6) dX12_starts_6 ?_
  refine pw_iconst (pc := 7) dX12_starts_7 ?_
  refine pw_iast (pc := 8) dX12_starts_8 (im_mState hM) k_mState 1760 l_mState (by first | omega) (by first | omega) (by first | omega) (by first | omega) ?_
  obtain ⟨g8, e8⟩ : ∃ x, x = up_ h mState (b + 0) 0 := ⟨_, rfl⟩
  refine pw_heq e8 ?_
  refine pw_iconst (pc := 9) dX12_starts_9 ?_
  refine pw_istore_n (lv1 := [some (rr_ G mo_), some (ii_ b), some (ii_ 0)]) (pc := 10) dX12_starts_10 rfl (by decide) rfl rfl ?_
  have L11 : ∀ (nn : Nat) (r : Int) (hh : PH_), (0 ≤ r ∧ r ≤ 4) → (hh = sc_ h mState (sta_ (h mRoads) (h mState) b r)) → ((4 - r + 1 : Int) ≤ nn) → PW G RX12 cX12_starts 3 none (rm_ 2) 0 0 (zm_ G (qv_ (fun h' => h' = sc_ h mState (sta_ (h mRoads) (h mState) b 4)))) 11 [some (rr_ G mo_), some (ii_ b), some (ii_ r)] [] hh := by
    intro nn
    induction nn with
    | zero => intro r hh ak ae ams; exfalso; omega
    | succ nn ih11 =>
      intro r hh ak ae ams
      refine pw_iload_n (z := r) (pc := 11) dX12_starts_11 rfl rfl ?_
      refine pw_iconst (pc := 12) dX12_starts_12 ?_
      refine pw_icmp_ge (t := 61) (pc := 13) dX12_starts_13 (by decide) (by first | omega) (by first | omega) (fun c13 => ?_) (fun c13 => ?_)
      · exact pw_vret (pc := 61) dX12_starts_61 (by rw [ae, show r = 4 by omega])
      · refine pw_aload_n (z := mo_) (pc := 16) dX12_starts_16 rfl rfl ?_
        refine pw_getR (r := mState) (pc := 17) dX12_starts_17 fX12_130 (im_mo_ hM) k_mo_ rfl fr_mState ?_
        refine pw_iload_n (z := b) (pc := 20) dX12_starts_20 rfl rfl ?_
        refine pw_iconst (pc := 21) dX12_starts_21 ?_
        refine pw_iadd (pc := 22) dX12_starts_22 ?_
        refine pw_iload_n (z := r) (pc := 23) dX12_starts_23 rfl rfl ?_
        refine pw_iadd (pc := 24) dX12_starts_24 ?_
        refine pw_iconst (pc := 25) dX12_starts_25 ?_
        refine pw_iast (pc := 26) dX12_starts_26 (im_mState hM) k_mState 1760 l_mState (by first | omega) (by first | omega) (by first | omega) (by first | omega) ?_
        obtain ⟨g26, e26⟩ : ∃ x, x = up_ hh mState ((b + 1) + r) (-1) := ⟨_, rfl⟩
        refine pw_heq e26 ?_
        refine pw_aload_n (z := mo_) (pc := 27) dX12_starts_27 rfl rfl ?_
        refine pw_getR (r := mState) (pc := 28) dX12_starts_28 fX12_130 (im_mo_ hM) k_mo_ rfl fr_mState ?_
        refine pw_iload_n (z := b) (pc := 31) dX12_starts_31 rfl rfl ?_
        refine pw_iconst (pc := 32) dX12_starts_32 ?_
        refine pw_iadd (pc := 33) dX12_starts_33 ?_
        refine pw_iload_n (z := r) (pc := 34) dX12_starts_34 rfl rfl ?_
        refine pw_iadd (pc := 35) dX12_starts_35 ?_
        refine pw_iconst (pc := 36) dX12_starts_36 ?_
        refine pw_iast (pc := 37) dX12_starts_37 (im_mState hM) k_mState 1760 l_mState (by first | omega) (by first | omega) (by first | omega) (by first | omega) ?_
        obtain ⟨g37, e37⟩ : ∃ x, x = up_ g26 mState ((b + 5) + r) (-1) := ⟨_, rfl⟩
        refine pw_heq e37 ?_
        refine pw_aload_n (z := mo_) (pc := 38) dX12_starts_38 rfl rfl ?_
        refine pw_getR (r := mState) (pc := 39) dX12_starts_39 fX12_130 (im_mo_ hM) k_mo_ rfl fr_mState ?_
        refine pw_iload_n (z := b) (pc := 42) dX12_starts_42 rfl rfl ?_
        refine pw_bipush (pc := 43) dX12_starts_43 rfl ?_
        refine pw_iadd (pc := 45) dX12_starts_45 ?_
        refine pw_iload_n (z := r) (pc := 46) dX12_starts_46 rfl rfl ?_
        refine pw_iadd (pc := 47) dX12_starts_47 ?_
        refine pw_aload_n (z := mo_) (pc := 48) dX12_starts_48 rfl rfl ?_
        refine pw_iload_n (z := r) (pc := 49) dX12_starts_49 rfl rfl ?_
        refine pw_iconst (pc := 50) dX12_starts_50 ?_
        refine pw_callV (c := 12) (o := mo_) (As := [ii_ r, ii_ 2]) (rest := [ii_ ((b + 9) + r), rr_ G mState]) (pc := 51) dX12_starts_51 (c_riderOf hM g37 (r) (2) (by first | omega) (by first | omega)) lX12_355 mX12_riderOf vX12_riderOf (im_mo_ hM) k_mo_ rfl rfl rfl (by decide) ⟨Nat.zero_le _, Nat.zero_le _⟩ (Nat.le_of_ble_eq_true rfl) (k_i (fun z51 h51 y51 q51 => ?_))
        obtain ⟨rfl, rfl⟩ := q51
        have n_g37_mRoads : g37 mRoads = h mRoads := (((show g37 mRoads = g26 mRoads from (by rw [e37]; exact up_off (by decide))).trans (show g26 mRoads = hh mRoads from (by rw [e26]; exact up_off (by decide)))).trans (show hh mRoads = h mRoads from ((off_sce ae) mRoads (by decide))))
        rw [n_g37_mRoads] at y51 ⊢
        refine pw_iast (pc := 54) dX12_starts_54 (im_mState hM) k_mState 1760 l_mState (by first | omega | (simp only [n_g37_mRoads]; omega)) (by first | omega | (simp only [n_g37_mRoads]; omega)) (by first | omega | (simp only [n_g37_mRoads]; omega)) (by first | omega | (simp only [n_g37_mRoads]; omega)) ?_
        obtain ⟨g54, e54⟩ : ∃ x, x = up_ g37 mState ((b + 9) + r) (h mRoads (31 + 4 * (r) + (2))) := ⟨_, rfl⟩
        refine pw_heq e54 ?_
        refine pw_iinc (z := r) (lv1 := [some (rr_ G mo_), some (ii_ b), some (ii_ (r + 1))]) (pc := 55) dX12_starts_55 rfl (by decide) rfl rfl ?_
        refine pw_goto (t := 11) (pc := 58) dX12_starts_58 (by decide) ?_
        exact ih11 _ _ (by omega) (by
                  refine (sc_up (sc_up (sc_up ae e26 (fun _ => rfl)) e37 (fun _ => rfl)) e54 (fun y => ?_))
                  unfold sta_
                  (repeat' split) <;> first | rfl | omega | (congr 1; omega)) (by omega)
  exact L11 _ _ _ (by omega) (sc_up (sc_id (fun _ => rfl)) e8 (fun y => by unfold sta_; (repeat' split) <;> first | rfl | omega)) (Int.self_le_toNat _)

set_option maxHeartbeats 4000000 in
set_option maxRecDepth 100000 in
theorem c_begins {G : GT_} (hM : okM_ G) (h : PH_) : PC G yX12_begins cX12_begins 2 none 3 [rr_ G mo_] h (qv_ (fun h' => off_ [mState, mLines, mIsMarked, mo_] h h' ∧ h' mState = bgn_ (h mRoads) (h mState) ∧ h' mLines = ob_ (h mLines) 0 0 ∧ h' mo_ = ob_ (h mo_) 28 0 ∧ ∀ m, 0 ≤ m → m < 4 → h' mIsMarked m = 0)) := by
  refine PC.of (lv := [some (rr_ G mo_), none]) (by decide +kernel) (Nat.le_of_ble_eq_true rfl) rfl rfl ?_
  refine pw_aload_n (z := mo_) (pc := 0) dX12_begins_0 rfl rfl ?_
  refine pw_iconst (pc := 1) dX12_begins_1 ?_
  refine pw_callV (c := 12) (o := mo_) (As := [ii_ 0]) (rest := []) (pc := 2) dX12_begins_2 (c_starts hM h (0) (by first | omega)) lX12_358 mX12_starts vX12_starts (im_mo_ hM) k_mo_ rfl rfl rfl (by decide) ⟨Nat.zero_le _, Nat.zero_le _⟩ (Nat.le_of_ble_eq_true rfl) (k_v (fun h2 q2 => ?_))
  refine pw_aload_n (z := mo_) (pc := 5) dX12_begins_5 rfl rfl ?_
  refine pw_getR (r := mState) (pc := 6) dX12_begins_6 fX12_130 (im_mo_ hM) k_mo_ rfl fr_mState ?_
  refine pw_bipush (pc := 9) dX12_begins_9 rfl ?_
  refine pw_iconst (pc := 11) dX12_begins_11 ?_
  refine pw_iast (pc := 12) dX12_begins_12 (im_mState hM) k_mState 1760 l_mState (by first | omega) (by first | omega) (by first | omega) (by first | omega) ?_
  obtain ⟨g12, e12⟩ : ∃ x, x = up_ h2 mState 13 0 := ⟨_, rfl⟩
  refine pw_heq e12 ?_
  refine pw_aload_n (z := mo_) (pc := 13) dX12_begins_13 rfl rfl ?_
  refine pw_getR (r := mState) (pc := 14) dX12_begins_14 fX12_130 (im_mo_ hM) k_mo_ rfl fr_mState ?_
  refine pw_bipush (pc := 17) dX12_begins_17 rfl ?_
  refine pw_iconst (pc := 19) dX12_begins_19 ?_
  refine pw_iast (pc := 20) dX12_begins_20 (im_mState hM) k_mState 1760 l_mState (by first | omega) (by first | omega) (by first | omega) (by first | omega) ?_
  obtain ⟨g20, e20⟩ : ∃ x, x = up_ g12 mState 30 0 := ⟨_, rfl⟩
  refine pw_heq e20 ?_
  refine pw_aload_n (z := mo_) (pc := 21) dX12_begins_21 rfl rfl ?_
  refine pw_getR (r := mLines) (pc := 22) dX12_begins_22 fX12_118 (im_mo_ hM) k_mo_ rfl fr_mLines ?_
  refine pw_iconst (pc := 25) dX12_begins_25 ?_
  refine pw_iconst (pc := 26) dX12_begins_26 ?_
  refine pw_iast (pc := 27) dX12_begins_27 (im_mLines hM) k_mLines 90 l_mLines (by first | omega) (by first | omega) (by first | omega) (by first | omega) ?_
  obtain ⟨g27, e27⟩ : ∃ x, x = up_ g20 mLines 0 0 := ⟨_, rfl⟩
  refine pw_heq e27 ?_
  refine pw_aload_n (z := mo_) (pc := 28) dX12_begins_28 rfl rfl ?_
  refine pw_iconst (pc := 29) dX12_begins_29 ?_
  refine pw_pI (x := 28) (pc := 30) dX12_begins_30 fX12_361 (im_mo_ hM) k_mo_ rfl rfl (by first | omega) ?_
  obtain ⟨g30, e30⟩ : ∃ x, x = up_ g27 mo_ 28 0 := ⟨_, rfl⟩
  refine pw_heq e30 ?_
  refine pw_iconst (pc := 33) dX12_begins_33 ?_
  refine pw_istore_n (lv1 := [some (rr_ G mo_), some (ii_ 0)]) (pc := 34) dX12_begins_34 rfl (by decide) rfl rfl ?_
  have L35 : ∀ (nn : Nat) (m : Int) (hh : PH_), (0 ≤ m ∧ m ≤ 4) → (off_ [mIsMarked] g30 hh) → (∀ q, 0 ≤ q → q < m → hh mIsMarked q = 0) → ((4 - m + 1 : Int) ≤ nn) → PW G RX12 cX12_begins 2 none (rm_ 3) 0 0 (zm_ G (qv_ (fun h' => off_ [mState, mLines, mIsMarked, mo_] h h' ∧ h' mState = bgn_ (h mRoads) (h mState) ∧ h' mLines = ob_ (h mLines) 0 0 ∧ h' mo_ = ob_ (h mo_) 28 0 ∧ ∀ m, 0 ≤ m → m < 4 → h' mIsMarked m = 0))) 35 [some (rr_ G mo_), some (ii_ m)] [] hh := by
    intro nn
    induction nn with
    | zero => intro m hh ak af am ams; exfalso; omega
    | succ nn ih35 =>
      intro m hh ak af am ams
      refine pw_iload_n (z := m) (pc := 35) dX12_begins_35 rfl rfl ?_
      refine pw_iconst (pc := 36) dX12_begins_36 ?_
      refine pw_icmp_ge (t := 53) (pc := 37) dX12_begins_37 (by decide) (by first | omega) (by first | omega) (fun c37 => ?_) (fun c37 => ?_)
      · exact pw_vret (pc := 53) dX12_begins_53 (by
                  have k1 : off_ [mState, mLines, mIsMarked, mo_] h g30 := by rw [e30, e27, e20, e12]; exact off_up (off_up (off_up (off_up (off_mo (off_sce q2) (by decide)) (by decide)) (by decide)) (by decide)) (by decide)
                  refine ⟨off_tr k1 (off_mo af (by decide)), ?_, ?_, ?_, fun q q0 q1 => am q q0 (by omega)⟩
                  · rw [af mState (by decide), e30, up_off (by decide), e27, up_off (by decide), e20, up_ob, e12, up_ob, sc_in q2]
                    funext x; unfold ob_ bgn_; (repeat' split) <;> first | rfl | omega
                  · rw [af mLines (by decide), e30, up_off (by decide), e27, up_ob, e20, up_off (by decide), e12, up_off (by decide), off_sce q2 mLines (by decide)]
                  · rw [af mo_ (by decide), e30, up_ob, e27, up_off (by decide), e20, up_off (by decide), e12, up_off (by decide), off_sce q2 mo_ (by decide)])
      · refine pw_aload_n (z := mo_) (pc := 40) dX12_begins_40 rfl rfl ?_
        refine pw_getR (r := mIsMarked) (pc := 41) dX12_begins_41 fX12_133 (im_mo_ hM) k_mo_ rfl fr_mIsMarked ?_
        refine pw_iload_n (z := m) (pc := 44) dX12_begins_44 rfl rfl ?_
        refine pw_iconst (pc := 45) dX12_begins_45 ?_
        refine pw_zast (pc := 46) dX12_begins_46 (im_mIsMarked hM) k_mIsMarked 4 l_mIsMarked (by first | omega) (by first | omega) (by first | omega) (by first | omega) ?_
        obtain ⟨g46, e46⟩ : ∃ x, x = up_ hh mIsMarked m 0 := ⟨_, rfl⟩
        refine pw_heq e46 ?_
        refine pw_iinc (z := m) (lv1 := [some (rr_ G mo_), some (ii_ (m + 1))]) (pc := 47) dX12_begins_47 rfl (by decide) rfl rfl ?_
        refine pw_goto (t := 35) (pc := 50) dX12_begins_50 (by decide) ?_
        exact ih35 _ _ (by omega) (by rw [e46]; exact off_up af (by decide)) (fun q q0 q1 => by rw [e46, up_at]; by_cases e : q = m; exact if_pos e; rw [if_neg e]; exact am q q0 (by omega)) (by omega)
  exact L35 _ _ _ (by omega) (off_rf) (fun q _ _ => by omega) (Int.self_le_toNat _)

set_option maxHeartbeats 4000000 in
set_option maxRecDepth 100000 in
theorem c_keeps {G : GT_} (hM : okM_ G) (h : PH_) (hu : 0 ≤ h mo_ 28 ∧ h mo_ 28 ≤ 16) : PC G yX12_keeps cX12_keeps 2 none 2 [rr_ G mo_] h (qv_ (fun h' => off_ [mState, mo_] h h' ∧ h' mState = kep_ (h mState) (h mo_ 28) ∧ h' mo_ = ob_ (h mo_) 28 (if h mo_ 28 = 16 then 16 else h mo_ 28 + 1))) := by
  refine PC.of (lv := [some (rr_ G mo_), none]) (by decide +kernel) (Nat.le_of_ble_eq_true rfl) rfl rfl ?_
  have J53 : ∀ (h2 : PH_), (off_ [mState, mo_] h h2) → (h2 mo_ = ob_ (h mo_) 28 (if h mo_ 28 = 16 then 15 else h mo_ 28)) → (h2 mState = (if h mo_ 28 = 16 then shf_ (h mState) 16 else h mState)) → PW G RX12 cX12_keeps 2 none (rm_ 2) 0 0 (zm_ G (qv_ (fun h' => off_ [mState, mo_] h h' ∧ h' mState = kep_ (h mState) (h mo_ 28) ∧ h' mo_ = ob_ (h mo_) 28 (if h mo_ 28 = 16 then 16 else h mo_ 28 + 1)))) 53 [some (rr_ G mo_), none] [] h2 := by
    intro h2 hf hm hs
    have u28 : h2 mo_ 28 = (if h mo_ 28 = 16 then 15 else h mo_ 28) := by rw [hm]; unfold ob_; exact if_pos rfl
    have u29 : h mo_ 28 = 16 ∧ h2 mo_ 28 = 15 ∨ ¬ h mo_ 28 = 16 ∧ h2 mo_ 28 = h mo_ 28 := by rw [u28]; split <;> omega
    refine pw_aload_n (z := mo_) (pc := 53) dX12_keeps_53 rfl rfl ?_
    refine pw_iconst (pc := 54) dX12_keeps_54 ?_
    refine pw_bipush (pc := 55) dX12_keeps_55 rfl ?_
    refine pw_iconst (pc := 57) dX12_keeps_57 ?_
    refine pw_aload_n (z := mo_) (pc := 58) dX12_keeps_58 rfl rfl ?_
    refine pw_gI (x := 28) (pc := 59) dX12_keeps_59 fX12_361 (im_mo_ hM) k_mo_ rfl rfl (fun r59 => ?_)
    refine pw_iadd (pc := 62) dX12_keeps_62 ?_
    refine pw_imul (pc := 63) dX12_keeps_63 ?_
    refine pw_bipush (pc := 64) dX12_keeps_64 rfl ?_
    refine pw_callV (c := 12) (o := mo_) (As := [ii_ 0, ii_ (80 * (5 + (h2 mo_ 28))), ii_ 13]) (rest := []) (pc := 66) dX12_keeps_66 (c_copies hM h2 (0) (80 * (5 + (h2 mo_ 28))) (13) (by first | omega) (by first | omega) (by first | omega)) lX12_364 mX12_copies vX12_copies (im_mo_ hM) k_mo_ rfl rfl rfl (by decide) ⟨Nat.zero_le _, Nat.zero_le _⟩ (Nat.le_of_ble_eq_true rfl) (k_v (fun h66 q66 => ?_))
    refine pw_aload_n (z := mo_) (pc := 69) dX12_keeps_69 rfl rfl ?_
    refine pw_dup (pc := 70) dX12_keeps_70 rfl ?_
    refine pw_gI (x := 28) (pc := 71) dX12_keeps_71 fX12_361 (im_mo_ hM) k_mo_ rfl rfl (fun r71 => ?_)
    have n_h66_mo__28 : h66 mo_ 28 = h2 mo_ 28 := (congrFun ((off_sce q66) mo_ (by decide)) 28)
    rw [n_h66_mo__28] at r71 ⊢
    refine pw_iconst (pc := 74) dX12_keeps_74 ?_
    refine pw_iadd (pc := 75) dX12_keeps_75 ?_
    refine pw_pI (x := 28) (pc := 76) dX12_keeps_76 fX12_361 (im_mo_ hM) k_mo_ rfl rfl (by first | omega | (simp only [n_h66_mo__28]; omega)) ?_
    obtain ⟨g76, e76⟩ : ∃ x, x = up_ h66 mo_ 28 ((h2 mo_ 28) + 1) := ⟨_, rfl⟩
    refine pw_heq e76 ?_
    exact pw_vret (pc := 79) dX12_keeps_79 (by
              refine ⟨?_, ?_, ?_⟩
              · rw [e76]; exact off_up (off_tr hf (off_mo (off_sce q66) (by decide))) (by decide)
              · rw [e76, up_off (by decide), sc_in q66, hs]
                generalize h2 mo_ 28 = u at u29
                funext x; unfold cpy_ kep_
                rcases u29 with ⟨u1, rfl⟩ | ⟨u1, rfl⟩
                · rw [if_pos u1, if_pos u1]; unfold shf_; (repeat' split) <;> first | rfl | omega | (congr 1; omega)
                · rw [if_neg u1, if_neg u1]; (repeat' split) <;> first | rfl | omega | (congr 1; omega)
              · rw [e76, up_ob, off_sce q66 mo_ (by decide)]
                funext x; unfold ob_
                by_cases x8 : x = 28
                · rw [if_pos x8, if_pos x8]; split <;> omega
                · rw [if_neg x8, if_neg x8, hm]; unfold ob_; exact if_neg x8)
  refine pw_aload_n (z := mo_) (pc := 0) dX12_keeps_0 rfl rfl ?_
  refine pw_gI (x := 28) (pc := 1) dX12_keeps_1 fX12_361 (im_mo_ hM) k_mo_ rfl rfl (fun r1 => ?_)
  refine pw_bipush (pc := 4) dX12_keeps_4 rfl ?_
  refine pw_icmp_ne (t := 53) (pc := 6) dX12_keeps_6 (by decide) (by first | omega) (by first | omega) (fun c6 => ?_) (fun c6 => ?_)
  · exact J53 _ (by first | exact off_rf | (rw [e50]; exact off_up (off_mo (off_sce ae) (by decide)) (by decide))) (by first | (rw [if_neg (by omega)]; exact (funext (fun y => by unfold ob_; by_cases e : y = 28; rw [if_pos e, e]; rw [if_neg e]))) | (rw [if_pos (by omega), e50, up_ob, off_sce ae mo_ (by decide)]; congr 1; omega)) (by first | (rw [if_neg (by omega)]; done) | (rw [if_pos (by omega), e50, up_off (by decide), sc_in ae, show k = 16 by omega]))
  · refine pw_iconst (pc := 9) dX12_keeps_9 ?_
    refine pw_istore_n (lv1 := [some (rr_ G mo_), some (ii_ 1)]) (pc := 10) dX12_keeps_10 rfl (by decide) rfl rfl ?_
    have L11 : ∀ (nn : Nat) (k : Int) (hh : PH_), (1 ≤ k ∧ k ≤ 16) → (hh = sc_ h mState (shf_ (h mState) k)) → ((16 - k + 1 : Int) ≤ nn) → PW G RX12 cX12_keeps 2 none (rm_ 2) 0 0 (zm_ G (qv_ (fun h' => off_ [mState, mo_] h h' ∧ h' mState = kep_ (h mState) (h mo_ 28) ∧ h' mo_ = ob_ (h mo_) 28 (if h mo_ 28 = 16 then 16 else h mo_ 28 + 1)))) 11 [some (rr_ G mo_), some (ii_ k)] [] hh := by
      intro nn
      induction nn with
      | zero => intro k hh ak ae ams; exfalso; omega
      | succ nn ih11 =>
        intro k hh ak ae ams
        refine pw_iload_n (z := k) (pc := 11) dX12_keeps_11 rfl rfl ?_
        refine pw_bipush (pc := 12) dX12_keeps_12 rfl ?_
        refine pw_icmp_ge (t := 43) (pc := 14) dX12_keeps_14 (by decide) (by first | omega) (by first | omega) (fun c14 => ?_) (fun c14 => ?_)
        · refine pw_aload_n (z := mo_) (pc := 43) dX12_keeps_43 rfl rfl ?_
          refine pw_dup (pc := 44) dX12_keeps_44 rfl ?_
          refine pw_gI (x := 28) (pc := 45) dX12_keeps_45 fX12_361 (im_mo_ hM) k_mo_ rfl rfl (fun r45 => ?_)
          have n_hh_mo__28 : hh mo_ 28 = h mo_ 28 := (congrFun ((off_sce ae) mo_ (by decide)) 28)
          rw [n_hh_mo__28] at r45 ⊢
          refine pw_iconst (pc := 48) dX12_keeps_48 ?_
          refine pw_isub (pc := 49) dX12_keeps_49 ?_
          refine pw_pI (x := 28) (pc := 50) dX12_keeps_50 fX12_361 (im_mo_ hM) k_mo_ rfl rfl (by first | omega | (simp only [n_hh_mo__28]; omega)) ?_
          obtain ⟨g50, e50⟩ : ∃ x, x = up_ hh mo_ 28 ((h mo_ 28) - 1) := ⟨_, rfl⟩
          refine pw_heq e50 ?_
          refine pw_less (lv1 := [some (rr_ G mo_), none]) rfl (by intro i v; (match i with | 0 => simp | 1 => simp | n + 2 => simp)) ?_
          exact J53 _ (by first | exact off_rf | (rw [e50]; exact off_up (off_mo (off_sce ae) (by decide)) (by decide))) (by first | (rw [if_neg (by omega)]; exact (funext (fun y => by unfold ob_; by_cases e : y = 28; rw [if_pos e, e]; rw [if_neg e]))) | (rw [if_pos (by omega), e50, up_ob, off_sce ae mo_ (by decide)]; congr 1; omega)) (by first | (rw [if_neg (by omega)]; done) | (rw [if_pos (by omega), e50, up_off (by decide), sc_in ae, show k = 16 by omega]))
        · refine pw_aload_n (z := mo_) (pc := 17) dX12_keeps_17 rfl rfl ?_
          refine pw_bipush (pc := 18) dX12_keeps_18 rfl ?_
          refine pw_iconst (pc := 20) dX12_keeps_20 ?_
          refine pw_iload_n (z := k) (pc := 21) dX12_keeps_21 rfl rfl ?_
          refine pw_iadd (pc := 22) dX12_keeps_22 ?_
          refine pw_imul (pc := 23) dX12_keeps_23 ?_
          refine pw_bipush (pc := 24) dX12_keeps_24 rfl ?_
          refine pw_iconst (pc := 26) dX12_keeps_26 ?_
          refine pw_iload_n (z := k) (pc := 27) dX12_keeps_27 rfl rfl ?_
          refine pw_iadd (pc := 28) dX12_keeps_28 ?_
          refine pw_iconst (pc := 29) dX12_keeps_29 ?_
          refine pw_isub (pc := 30) dX12_keeps_30 ?_
          refine pw_imul (pc := 31) dX12_keeps_31 ?_
          refine pw_bipush (pc := 32) dX12_keeps_32 rfl ?_
          refine pw_callV (c := 12) (o := mo_) (As := [ii_ (80 * (5 + k)), ii_ (80 * ((5 + k) - 1)), ii_ 13]) (rest := []) (pc := 34) dX12_keeps_34 (c_copies hM hh (80 * (5 + k)) (80 * ((5 + k) - 1)) (13) (by first | omega) (by first | omega) (by first | omega)) lX12_364 mX12_copies vX12_copies (im_mo_ hM) k_mo_ rfl rfl rfl (by decide) ⟨Nat.zero_le _, Nat.zero_le _⟩ (Nat.le_of_ble_eq_true rfl) (k_v (fun h34 q34 => ?_))
          refine pw_iinc (z := k) (lv1 := [some (rr_ G mo_), some (ii_ (k + 1))]) (pc := 37) dX12_keeps_37 rfl (by decide) rfl rfl ?_
          refine pw_goto (t := 11) (pc := 40) dX12_keeps_40 (by decide) ?_
          exact ih11 _ _ (by omega) (by
                    rw [q34, sc_in ae, ae, sc_sc]
                    refine congrArg (sc_ h mState) (funext (fun x => ?_))
                    unfold cpy_ shf_
                    (repeat' split) <;> first | rfl | omega | (congr 1; omega)) (by omega)
    exact L11 _ _ _ (by omega) (sc_id (fun y => by unfold shf_; rw [if_neg (by omega)])) (Int.self_le_toNat _)

