set_option maxHeartbeats 4000000 in
set_option maxRecDepth 100000 in
theorem c_within {G : GT_} (h : PH_) (v lo hi : Int) (h1 : ir_ v) (h2 : ir_ lo) (h3 : ir_ hi) : PC G yX12_within cX12_within 3 (some .boolean) 1 [ii_ v, ii_ lo, ii_ hi] h (qi_ (fun z h' => h = h' ∧ (z = 1 ∧ (lo ≤ v ∧ v ≤ hi) ∨ z = 0 ∧ ¬ (lo ≤ v ∧ v ≤ hi)))) := by
  refine PC.of (lv := [some (ii_ v), some (ii_ lo), some (ii_ hi)]) (by decide +kernel) (Nat.le_of_ble_eq_true rfl) rfl rfl ?_
  refine pw_iload_n (z := v) (pc := 0) dX12_within_0 rfl rfl ?_
  refine pw_iload_n (z := lo) (pc := 1) dX12_within_1 rfl rfl ?_
  refine pw_icmp_lt (t := 14) (pc := 2) dX12_within_2 (by decide) (by first | omega) (by first | omega) (fun c2 => ?_) (fun c2 => ?_)
  · refine pw_iconst (pc := 14) dX12_within_14 ?_
    exact pw_zret (pc := 15) dX12_within_15 (by first | omega) (⟨rfl, by omega⟩)
  · refine pw_iload_n (z := v) (pc := 5) dX12_within_5 rfl rfl ?_
    refine pw_iload_n (z := hi) (pc := 6) dX12_within_6 rfl rfl ?_
    refine pw_icmp_gt (t := 14) (pc := 7) dX12_within_7 (by decide) (by first | omega) (by first | omega) (fun c7 => ?_) (fun c7 => ?_)
    · refine pw_iconst (pc := 14) dX12_within_14 ?_
      exact pw_zret (pc := 15) dX12_within_15 (by first | omega) (⟨rfl, by omega⟩)
    · refine pw_iconst (pc := 10) dX12_within_10 ?_
      refine pw_goto (t := 15) (pc := 11) dX12_within_11 (by decide) ?_
      exact pw_zret (pc := 15) dX12_within_15 (by first | omega) (⟨rfl, by omega⟩)

set_option maxHeartbeats 4000000 in
set_option maxRecDepth 100000 in
theorem c_seats {G : GT_} (hM : okM_ G) (h : PH_) : PC G yX12_seats cX12_seats 1 (some .int) 1 [rr_ G mo_] h (qi_ (fun z h' => h = h' ∧ z = h mRoads 0)) := by
  refine PC.of (lv := [some (rr_ G mo_)]) (by decide +kernel) (Nat.le_of_ble_eq_true rfl) rfl rfl ?_
  refine pw_aload_n (z := mo_) (pc := 0) dX12_seats_0 rfl rfl ?_
  refine pw_getR (r := mRoads) (pc := 1) dX12_seats_1 fX12_97 (im_mo_ hM) k_mo_ rfl fr_mRoads ?_
  refine pw_iconst (pc := 4) dX12_seats_4 ?_
  refine pw_iald (pc := 5) dX12_seats_5 (im_mRoads hM) k_mRoads 160 l_mRoads (by first | omega) (by first | omega) (by first | omega) (fun r5 => ?_)
  exact pw_iret (pc := 6) dX12_seats_6 (by first | omega) (⟨rfl, rfl⟩)

set_option maxHeartbeats 4000000 in
set_option maxRecDepth 100000 in
theorem c_stretches {G : GT_} (hM : okM_ G) (h : PH_) : PC G yX12_stretches cX12_stretches 1 (some .int) 1 [rr_ G mo_] h (qi_ (fun z h' => h = h' ∧ z = h mRoads 1)) := by
  refine PC.of (lv := [some (rr_ G mo_)]) (by decide +kernel) (Nat.le_of_ble_eq_true rfl) rfl rfl ?_
  refine pw_aload_n (z := mo_) (pc := 0) dX12_stretches_0 rfl rfl ?_
  refine pw_getR (r := mRoads) (pc := 1) dX12_stretches_1 fX12_97 (im_mo_ hM) k_mo_ rfl fr_mRoads ?_
  refine pw_iconst (pc := 4) dX12_stretches_4 ?_
  refine pw_iald (pc := 5) dX12_stretches_5 (im_mRoads hM) k_mRoads 160 l_mRoads (by first | omega) (by first | omega) (by first | omega) (fun r5 => ?_)
  exact pw_iret (pc := 6) dX12_stretches_6 (by first | omega) (⟨rfl, rfl⟩)

set_option maxHeartbeats 4000000 in
set_option maxRecDepth 100000 in
theorem c_riders {G : GT_} (hM : okM_ G) (h : PH_) : PC G yX12_riders cX12_riders 1 (some .int) 1 [rr_ G mo_] h (qi_ (fun z h' => h = h' ∧ z = h mRoads 2)) := by
  refine PC.of (lv := [some (rr_ G mo_)]) (by decide +kernel) (Nat.le_of_ble_eq_true rfl) rfl rfl ?_
  refine pw_aload_n (z := mo_) (pc := 0) dX12_riders_0 rfl rfl ?_
  refine pw_getR (r := mRoads) (pc := 1) dX12_riders_1 fX12_97 (im_mo_ hM) k_mo_ rfl fr_mRoads ?_
  refine pw_iconst (pc := 4) dX12_riders_4 ?_
  refine pw_iald (pc := 5) dX12_riders_5 (im_mRoads hM) k_mRoads 160 l_mRoads (by first | omega) (by first | omega) (by first | omega) (fun r5 => ?_)
  exact pw_iret (pc := 6) dX12_riders_6 (by first | omega) (⟨rfl, rfl⟩)

set_option maxHeartbeats 4000000 in
set_option maxRecDepth 100000 in
theorem c_riderOf {G : GT_} (hM : okM_ G) (h : PH_) (r w : Int) (h1 : 0 ≤ r ∧ r ≤ 4) (h2 : 0 ≤ w ∧ w ≤ 3) : PC G yX12_riderOf cX12_riderOf 3 (some .int) 1 [rr_ G mo_, ii_ r, ii_ w] h (qi_ (fun z h' => h = h' ∧ z = h mRoads (31 + 4 * r + w))) := by
  refine PC.of (lv := [some (rr_ G mo_), some (ii_ r), some (ii_ w)]) (by decide +kernel) (Nat.le_of_ble_eq_true rfl) rfl rfl ?_
  refine pw_aload_n (z := mo_) (pc := 0) dX12_riderOf_0 rfl rfl ?_
  refine pw_getR (r := mRoads) (pc := 1) dX12_riderOf_1 fX12_97 (im_mo_ hM) k_mo_ rfl fr_mRoads ?_
  refine pw_bipush (pc := 4) dX12_riderOf_4 rfl ?_
  refine pw_iconst (pc := 6) dX12_riderOf_6 ?_
  refine pw_iload_n (z := r) (pc := 7) dX12_riderOf_7 rfl rfl ?_
  refine pw_imul (pc := 8) dX12_riderOf_8 ?_
  refine pw_iadd (pc := 9) dX12_riderOf_9 ?_
  refine pw_iload_n (z := w) (pc := 10) dX12_riderOf_10 rfl rfl ?_
  refine pw_iadd (pc := 11) dX12_riderOf_11 ?_
  refine pw_iald (pc := 12) dX12_riderOf_12 (im_mRoads hM) k_mRoads 160 l_mRoads (by first | omega) (by first | omega) (by first | omega) (fun r12 => ?_)
  exact pw_iret (pc := 13) dX12_riderOf_13 (by first | omega) (⟨rfl, rfl⟩)

set_option maxHeartbeats 4000000 in
set_option maxRecDepth 100000 in
theorem c_stretchOf {G : GT_} (hM : okM_ G) (h : PH_) (r w : Int) (h1 : 0 ≤ r ∧ r ≤ 4) (h2 : 0 ≤ w ∧ w ≤ 4) : PC G yX12_stretchOf cX12_stretchOf 3 (some .int) 1 [rr_ G mo_, ii_ r, ii_ w] h (qi_ (fun z h' => h = h' ∧ z = h mRoads (11 + 5 * r + w))) := by
  refine PC.of (lv := [some (rr_ G mo_), some (ii_ r), some (ii_ w)]) (by decide +kernel) (Nat.le_of_ble_eq_true rfl) rfl rfl ?_
  refine pw_aload_n (z := mo_) (pc := 0) dX12_stretchOf_0 rfl rfl ?_
  refine pw_getR (r := mRoads) (pc := 1) dX12_stretchOf_1 fX12_97 (im_mo_ hM) k_mo_ rfl fr_mRoads ?_
  refine pw_bipush (pc := 4) dX12_stretchOf_4 rfl ?_
  refine pw_iconst (pc := 6) dX12_stretchOf_6 ?_
  refine pw_iload_n (z := r) (pc := 7) dX12_stretchOf_7 rfl rfl ?_
  refine pw_imul (pc := 8) dX12_stretchOf_8 ?_
  refine pw_iadd (pc := 9) dX12_stretchOf_9 ?_
  refine pw_iload_n (z := w) (pc := 10) dX12_stretchOf_10 rfl rfl ?_
  refine pw_iadd (pc := 11) dX12_stretchOf_11 ?_
  refine pw_iald (pc := 12) dX12_stretchOf_12 (im_mRoads hM) k_mRoads 160 l_mRoads (by first | omega) (by first | omega) (by first | omega) (fun r12 => ?_)
  exact pw_iret (pc := 13) dX12_stretchOf_13 (by first | omega) (⟨rfl, rfl⟩)

set_option maxHeartbeats 4000000 in
set_option maxRecDepth 100000 in
theorem c_isRider {G : GT_} (hM : okM_ G) (h : PH_) (r : Int) (h1 : ir_ r) (h2 : ir_ (h mRoads 2)) : PC G yX12_isRider cX12_isRider 2 (some .boolean) 2 [rr_ G mo_, ii_ r] h (qi_ (fun z h' => h = h' ∧ (z = 1 ∧ (0 ≤ r ∧ r < h mRoads 2) ∨ z = 0 ∧ ¬ (0 ≤ r ∧ r < h mRoads 2)))) := by
  refine PC.of (lv := [some (rr_ G mo_), some (ii_ r)]) (by decide +kernel) (Nat.le_of_ble_eq_true rfl) rfl rfl ?_
  refine pw_iload_n (z := r) (pc := 0) dX12_isRider_0 rfl rfl ?_
  refine pw_if_lt (t := 16) (pc := 1) dX12_isRider_1 (by decide) (by first | omega) (fun c1 => ?_) (fun c1 => ?_)
  · refine pw_iconst (pc := 16) dX12_isRider_16 ?_
    exact pw_zret (pc := 17) dX12_isRider_17 (by first | omega) (⟨rfl, by omega⟩)
  · refine pw_iload_n (z := r) (pc := 4) dX12_isRider_4 rfl rfl ?_
    refine pw_aload_n (z := mo_) (pc := 5) dX12_isRider_5 rfl rfl ?_
    refine pw_callV (c := 12) (o := mo_) (As := []) (rest := [ii_ r]) (pc := 6) dX12_isRider_6 (c_riders hM h) lX12_334 mX12_riders vX12_riders (im_mo_ hM) k_mo_ rfl rfl rfl (by decide) ⟨Nat.zero_le _, Nat.zero_le _⟩ (Nat.le_of_ble_eq_true rfl) (k_i (fun z6 h6 y6 q6 => ?_))
    obtain ⟨rfl, rfl⟩ := q6
    refine pw_icmp_ge (t := 16) (pc := 9) dX12_isRider_9 (by decide) (by first | omega) (by first | omega) (fun c9 => ?_) (fun c9 => ?_)
    · refine pw_iconst (pc := 16) dX12_isRider_16 ?_
      exact pw_zret (pc := 17) dX12_isRider_17 (by first | omega) (⟨rfl, by omega⟩)
    · refine pw_iconst (pc := 12) dX12_isRider_12 ?_
      refine pw_goto (t := 17) (pc := 13) dX12_isRider_13 (by decide) ?_
      exact pw_zret (pc := 17) dX12_isRider_17 (by first | omega) (⟨rfl, by omega⟩)

set_option maxHeartbeats 4000000 in
set_option maxRecDepth 100000 in
theorem c_isSeat {G : GT_} (hM : okM_ G) (h : PH_) (r : Int) (h1 : ir_ r) (h2 : ir_ (h mRoads 0)) : PC G yX12_isSeat cX12_isSeat 2 (some .boolean) 2 [rr_ G mo_, ii_ r] h (qi_ (fun z h' => h = h' ∧ (z = 1 ∧ (0 ≤ r ∧ r < h mRoads 0) ∨ z = 0 ∧ ¬ (0 ≤ r ∧ r < h mRoads 0)))) := by
  refine PC.of (lv := [some (rr_ G mo_), some (ii_ r)]) (by decide +kernel) (Nat.le_of_ble_eq_true rfl) rfl rfl ?_
  refine pw_iload_n (z := r) (pc := 0) dX12_isSeat_0 rfl rfl ?_
  refine pw_if_lt (t := 16) (pc := 1) dX12_isSeat_1 (by decide) (by first | omega) (fun c1 => ?_) (fun c1 => ?_)
  · refine pw_iconst (pc := 16) dX12_isSeat_16 ?_
    exact pw_zret (pc := 17) dX12_isSeat_17 (by first | omega) (⟨rfl, by omega⟩)
  · refine pw_iload_n (z := r) (pc := 4) dX12_isSeat_4 rfl rfl ?_
    refine pw_aload_n (z := mo_) (pc := 5) dX12_isSeat_5 rfl rfl ?_
    refine pw_callV (c := 12) (o := mo_) (As := []) (rest := [ii_ r]) (pc := 6) dX12_isSeat_6 (c_seats hM h) lX12_331 mX12_seats vX12_seats (im_mo_ hM) k_mo_ rfl rfl rfl (by decide) ⟨Nat.zero_le _, Nat.zero_le _⟩ (Nat.le_of_ble_eq_true rfl) (k_i (fun z6 h6 y6 q6 => ?_))
    obtain ⟨rfl, rfl⟩ := q6
    refine pw_icmp_ge (t := 16) (pc := 9) dX12_isSeat_9 (by decide) (by first | omega) (by first | omega) (fun c9 => ?_) (fun c9 => ?_)
    · refine pw_iconst (pc := 16) dX12_isSeat_16 ?_
      exact pw_zret (pc := 17) dX12_isSeat_17 (by first | omega) (⟨rfl, by omega⟩)
    · refine pw_iconst (pc := 12) dX12_isSeat_12 ?_
      refine pw_goto (t := 17) (pc := 13) dX12_isSeat_13 (by decide) ?_
      exact pw_zret (pc := 17) dX12_isSeat_17 (by first | omega) (⟨rfl, by omega⟩)

set_option maxHeartbeats 4000000 in
set_option maxRecDepth 100000 in
theorem c_isStretch {G : GT_} (hM : okM_ G) (h : PH_) (r : Int) (h1 : ir_ r) (h2 : ir_ (h mRoads 1)) : PC G yX12_isStretch cX12_isStretch 2 (some .boolean) 2 [rr_ G mo_, ii_ r] h (qi_ (fun z h' => h = h' ∧ (z = 1 ∧ (0 ≤ r ∧ r < h mRoads 1) ∨ z = 0 ∧ ¬ (0 ≤ r ∧ r < h mRoads 1)))) := by
  refine PC.of (lv := [some (rr_ G mo_), some (ii_ r)]) (by decide +kernel) (Nat.le_of_ble_eq_true rfl) rfl rfl ?_
  refine pw_iload_n (z := r) (pc := 0) dX12_isStretch_0 rfl rfl ?_
  refine pw_if_lt (t := 16) (pc := 1) dX12_isStretch_1 (by decide) (by first | omega) (fun c1 => ?_) (fun c1 => ?_)
  · refine pw_iconst (pc := 16) dX12_isStretch_16 ?_
    exact pw_zret (pc := 17) dX12_isStretch_17 (by first | omega) (⟨rfl, by omega⟩)
  · refine pw_iload_n (z := r) (pc := 4) dX12_isStretch_4 rfl rfl ?_
    refine pw_aload_n (z := mo_) (pc := 5) dX12_isStretch_5 rfl rfl ?_
    refine pw_callV (c := 12) (o := mo_) (As := []) (rest := [ii_ r]) (pc := 6) dX12_isStretch_6 (c_stretches hM h) lX12_368 mX12_stretches vX12_stretches (im_mo_ hM) k_mo_ rfl rfl rfl (by decide) ⟨Nat.zero_le _, Nat.zero_le _⟩ (Nat.le_of_ble_eq_true rfl) (k_i (fun z6 h6 y6 q6 => ?_))
    obtain ⟨rfl, rfl⟩ := q6
    refine pw_icmp_ge (t := 16) (pc := 9) dX12_isStretch_9 (by decide) (by first | omega) (by first | omega) (fun c9 => ?_) (fun c9 => ?_)
    · refine pw_iconst (pc := 16) dX12_isStretch_16 ?_
      exact pw_zret (pc := 17) dX12_isStretch_17 (by first | omega) (⟨rfl, by omega⟩)
    · refine pw_iconst (pc := 12) dX12_isStretch_12 ?_
      refine pw_goto (t := 17) (pc := 13) dX12_isStretch_13 (by decide) ?_
      exact pw_zret (pc := 17) dX12_isStretch_17 (by first | omega) (⟨rfl, by omega⟩)

set_option maxHeartbeats 4000000 in
set_option maxRecDepth 100000 in
theorem c_isEnd {G : GT_} (hM : okM_ G) (h : PH_) (s : Int) (h1 : ir_ s) (h2 : 0 ≤ h mRoads 0 ∧ h mRoads 0 ≤ 4) : PC G yX12_isEnd cX12_isEnd 2 (some .boolean) 2 [rr_ G mo_, ii_ s] h (qi_ (fun z h' => h = h' ∧ (z = 1 ∧ (s = 0 ∨ s = h mRoads 0 - 1) ∨ z = 0 ∧ ¬ (s = 0 ∨ s = h mRoads 0 - 1)))) := by
  refine PC.of (lv := [some (rr_ G mo_), some (ii_ s)]) (by decide +kernel) (Nat.le_of_ble_eq_true rfl) rfl rfl ?_
  refine pw_iload_n (z := s) (pc := 0) dX12_isEnd_0 rfl rfl ?_
  refine pw_if_eq (t := 14) (pc := 1) dX12_isEnd_1 (by decide) (by first | omega) (fun c1 => ?_) (fun c1 => ?_)
  · refine pw_iconst (pc := 14) dX12_isEnd_14 ?_
    refine pw_goto (t := 19) (pc := 15) dX12_isEnd_15 (by decide) ?_
    exact pw_zret (pc := 19) dX12_isEnd_19 (by first | omega) (⟨rfl, by omega⟩)
  · refine pw_iload_n (z := s) (pc := 4) dX12_isEnd_4 rfl rfl ?_
    refine pw_aload_n (z := mo_) (pc := 5) dX12_isEnd_5 rfl rfl ?_
    refine pw_callV (c := 12) (o := mo_) (As := []) (rest := [ii_ s]) (pc := 6) dX12_isEnd_6 (c_seats hM h) lX12_331 mX12_seats vX12_seats (im_mo_ hM) k_mo_ rfl rfl rfl (by decide) ⟨Nat.zero_le _, Nat.zero_le _⟩ (Nat.le_of_ble_eq_true rfl) (k_i (fun z6 h6 y6 q6 => ?_))
    obtain ⟨rfl, rfl⟩ := q6
    refine pw_iconst (pc := 9) dX12_isEnd_9 ?_
    refine pw_isub (pc := 10) dX12_isEnd_10 ?_
    refine pw_icmp_ne (t := 18) (pc := 11) dX12_isEnd_11 (by decide) (by first | omega) (by first | omega) (fun c11 => ?_) (fun c11 => ?_)
    · refine pw_iconst (pc := 18) dX12_isEnd_18 ?_
      exact pw_zret (pc := 19) dX12_isEnd_19 (by first | omega) (⟨rfl, by omega⟩)
    · refine pw_iconst (pc := 14) dX12_isEnd_14 ?_
      refine pw_goto (t := 19) (pc := 15) dX12_isEnd_15 (by decide) ?_
      exact pw_zret (pc := 19) dX12_isEnd_19 (by first | omega) (⟨rfl, by omega⟩)

