set_option maxHeartbeats 4000000 in
set_option maxRecDepth 100000 in
theorem c_copies {G : GT_} (hM : okM_ G) (h : PH_) (fr to n : Int) (h1 : 0 ≤ fr ∧ 0 ≤ n ∧ fr + n ≤ 1760) (h2 : 0 ≤ to ∧ to + n ≤ 1760) (h3 : fr + n ≤ to ∨ to + n ≤ fr) : PC G yX12_copies cX12_copies 5 none 1 [rr_ G mo_, ii_ fr, ii_ to, ii_ n] h (qv_ (fun h' => h' = sc_ h mState (cpy_ (h mState) fr to n))) := by
  refine PC.of (lv := [some (rr_ G mo_), some (ii_ fr), some (ii_ to), some (ii_ n), none]) (by decide +kernel) (Nat.le_of_ble_eq_true rfl) rfl rfl ?_
  refine pw_iconst (pc := 0) dX12_copies_0 ?_
  refine pw_istore (lv1 := [some (rr_ G mo_), some (ii_ fr), some (ii_ to), some (ii_ n), some (ii_ 0)]) (pc := 1) dX12_copies_1 (by decide) rfl rfl ?_
  have L3 : ∀ (nn : Nat) (k : Int) (hh : PH_), (0 ≤ k ∧ k ≤ n) → (hh = sc_ h mState (cpy_ (h mState) fr to k)) → ((n - k + 1 : Int) ≤ nn) → PW G RX12 cX12_copies 5 none (rm_ 1) 0 0 (zm_ G (qv_ (fun h' => h' = sc_ h mState (cpy_ (h mState) fr to n)))) 3 [some (rr_ G mo_), some (ii_ fr), some (ii_ to), some (ii_ n), some (ii_ k)] [] hh := by
    intro nn
    induction nn with
    | zero => intro k hh ak ae ams; exfalso; omega
    | succ nn ih3 =>
      intro k hh ak ae ams
      refine pw_iload (z := k) (pc := 3) dX12_copies_3 rfl ?_
      refine pw_iload_n (z := n) (pc := 5) dX12_copies_5 rfl rfl ?_
      refine pw_icmp_ge (t := 33) (pc := 6) dX12_copies_6 (by decide) (by first | omega) (by first | omega) (fun c6 => ?_) (fun c6 => ?_)
      · exact pw_vret (pc := 33) dX12_copies_33 (by rw [ae, show k = n by omega])
      · refine pw_aload_n (z := mo_) (pc := 9) dX12_copies_9 rfl rfl ?_
        refine pw_getR (r := mState) (pc := 10) dX12_copies_10 fX12_130 (im_mo_ hM) k_mo_ rfl fr_mState ?_
        refine pw_iload_n (z := to) (pc := 13) dX12_copies_13 rfl rfl ?_
        refine pw_iload (z := k) (pc := 14) dX12_copies_14 rfl ?_
        refine pw_iadd (pc := 16) dX12_copies_16 ?_
        refine pw_aload_n (z := mo_) (pc := 17) dX12_copies_17 rfl rfl ?_
        refine pw_getR (r := mState) (pc := 18) dX12_copies_18 fX12_130 (im_mo_ hM) k_mo_ rfl fr_mState ?_
        refine pw_iload_n (z := fr) (pc := 21) dX12_copies_21 rfl rfl ?_
        refine pw_iload (z := k) (pc := 22) dX12_copies_22 rfl ?_
        refine pw_iadd (pc := 24) dX12_copies_24 ?_
        refine pw_iald (pc := 25) dX12_copies_25 (im_mState hM) k_mState 1760 l_mState (by first | omega) (by first | omega) (by first | omega) (fun r25 => ?_)
        refine pw_iast (pc := 26) dX12_copies_26 (im_mState hM) k_mState 1760 l_mState (by first | omega) (by first | omega) (by first | omega) (by first | omega) ?_
        obtain ⟨g26, e26⟩ : ∃ x, x = up_ hh mState (to + k) (hh mState (fr + k)) := ⟨_, rfl⟩
        refine pw_heq e26 ?_
        have v1 : hh mState (fr + k) = h mState (fr + k) := by rw [sc_in ae]; unfold cpy_; exact if_neg (by omega)
        refine pw_iinc (z := k) (lv1 := [some (rr_ G mo_), some (ii_ fr), some (ii_ to), some (ii_ n), some (ii_ (k + 1))]) (pc := 27) dX12_copies_27 rfl (by decide) rfl rfl ?_
        refine pw_goto (t := 3) (pc := 30) dX12_copies_30 (by decide) ?_
        exact ih3 _ _ (by omega) (sc_up ae e26 (fun y => by
                  rw [v1]; unfold cpy_
                  by_cases y1 : y = to + k
                  · rw [if_pos y1, if_pos (by omega), y1]; congr 1; omega
                  · rw [if_neg y1]; by_cases y2 : to ≤ y ∧ y < to + k
                    · rw [if_pos y2, if_pos (by omega)]
                    · rw [if_neg y2, if_neg (by omega)])) (by omega)
  exact L3 _ _ _ (by omega) (sc_id (fun y => by unfold cpy_; rw [if_neg (by omega)])) (Int.self_le_toNat _)

set_option maxHeartbeats 4000000 in
set_option maxRecDepth 100000 in
theorem c_starts {G : GT_} (hM : okM_ G) (h : PH_) (b : Int) (h1 : 0 ≤ b ∧ b ≤ 1680) : PC G yX12_starts cX12_starts 3 none 2 [rr_ G mo_, ii_ b] h (qv_ (fun h' => h' = sc_ h mState (sta_ (h mRoads) (h mState) b 4))) := by
  refine PC.of (lv := [some (rr_ G mo_), some (ii_ b), none]) (by decide +kernel) (Nat.le_of_ble_eq_true rfl) rfl rfl ?_
  refine pw_aload_n (z := mo_) (pc := 0) dX12_starts_0 rfl rfl ?_
  refine pw_getR (r := mState) (pc := 1) dX12_starts_1 fX12_130 (im_mo_ hM) k_mo_ rfl fr_mState ?_
  refine pw_iload_n (z := b) (pc := 4) dX12_starts_4 rfl rfl ?_
  refine pw_iconst (pc := 5) dX12_starts_5 ?_
  refine pw_iadd (pc := 6) dX12_starts_6 ?_
  refine pw_iconst (pc := 7) dX12_starts_7 ?_
  refine pw_iast (pc := 8) dX12_starts_8 (im_mState hM) k_mState 1760 l_mState (by first | omega) (by first | omega) (by first | omega) (by first | omega) ?_
  obtain ⟨g8, e8⟩ : ∃ x, x = up_ h mState (b + 0) 0 := ⟨_, rfl⟩
  refine pw_heq e8 ?_
  refine pw_iconst (pc := 9) dX12_starts_9 ?_
  refine pw_istore_n (lv1 := [some (rr_ G mo_), some (ii_ b), some (ii_ 0)]) (pc := 10) dX12_starts_10 rfl (by decide) rfl rfl ?_
  have L11 : ∀ (nn : Nat) (r : Int) (hh : PH_), (0 ≤ r ∧ r ≤ 4) → (hh = sc_ h mState (sta_ (h mRoads) (h mState) b r)) → ((4 - r + 1 : Int) ≤ nn) → PW G RX12 cX12_starts 3 none (rm_ 2) 0 0 (zm_ G (qv_ (fun h' => h' = sc_ h mState (sta_ (h mRoads) (h mState) b 4)))) 11 [some (rr_ G mo_), some (ii_ b), some (ii_ r)] [] hh := by
    intro nn
    induction nn with
    | zero => intro r hh ak ae ams; exfalso; omega
    | succ nn ih11 =>
      intro r hh ak ae ams
      refine pw_iload_n (z := r) (pc := 11) dX12_starts_11 rfl rfl ?_
      refine pw_iconst (pc := 12) dX12_starts_12 ?_
      refine pw_icmp_ge (t := 61) (pc := 13) dX12_starts_13 (by decide) (by first | omega) (by first | omega) (fun c13 => ?_) (fun c13 => ?_)
      · exact pw_vret (pc := 61) dX12_starts_61 (by rw [ae, show r = 4 by omega])
      · refine pw_aload_n (z := mo_) (pc := 16) dX12_starts_16 rfl rfl ?_
        refine pw_getR (r := mState) (pc := 17) dX12_starts_17 fX12_130 (im_mo_ hM) k_mo_ rfl fr_mState ?_
        refine pw_iload_n (z := b) (pc := 20) dX12_starts_20 rfl rfl ?_
        refine pw_iconst (pc := 21) dX12_starts_21 ?_
        refine pw_iadd (pc := 22) dX12_starts_22 ?_
        refine pw_iload_n (z := r) (pc := 23) dX12_starts_23 rfl rfl ?_
        refine pw_iadd (pc := 24) dX12_starts_24 ?_
        refine pw_iconst (pc := 25) dX12_starts_25 ?_
        refine pw_iast (pc := 26) dX12_starts_26 (im_mState hM) k_mState 1760 l_mState (by first | omega) (by first | omega) (by first | omega) (by first | omega) ?_
        obtain ⟨g26, e26⟩ : ∃ x, x = up_ hh mState ((b + 1) + r) (-1) := ⟨_, rfl⟩
        refine pw_heq e26 ?_
        refine pw_aload_n (z := mo_) (pc := 27) dX12_starts_27 rfl rfl ?_
        refine pw_getR (r := mState) (pc := 28) dX12_starts_28 fX12_130 (im_mo_ hM) k_mo_ rfl fr_mState ?_
        refine pw_iload_n (z := b) (pc := 31) dX12_starts_31 rfl rfl ?_
        refine pw_iconst (pc := 32) dX12_starts_32 ?_
        refine pw_iadd (pc := 33) dX12_starts_33 ?_
        refine pw_iload_n (z := r) (pc := 34) dX12_starts_34 rfl rfl ?_
        refine pw_iadd (pc := 35) dX12_starts_35 ?_
        refine pw_iconst (pc := 36) dX12_starts_36 ?_
        refine pw_iast (pc := 37) dX12_starts_37 (im_mState hM) k_mState 1760 l_mState (by first | omega) (by first | omega) (by first | omega) (by first | omega) ?_
        obtain ⟨g37, e37⟩ : ∃ x, x = up_ g26 mState ((b + 5) + r) (-1) := ⟨_, rfl⟩
        refine pw_heq e37 ?_
        refine pw_aload_n (z := mo_) (pc := 38) dX12_starts_38 rfl rfl ?_
        refine pw_getR (r := mState) (pc := 39) dX12_starts_39 fX12_130 (im_mo_ hM) k_mo_ rfl fr_mState ?_
        refine pw_iload_n (z := b) (pc := 42) dX12_starts_42 rfl rfl ?_
        refine pw_bipush (pc := 43) dX12_starts_43 rfl ?_
        refine pw_iadd (pc := 45) dX12_starts_45 ?_
        refine pw_iload_n (z := r) (pc := 46) dX12_starts_46 rfl rfl ?_
        refine pw_iadd (pc := 47) dX12_starts_47 ?_
        refine pw_aload_n (z := mo_) (pc := 48) dX12_starts_48 rfl rfl ?_
        refine pw_iload_n (z := r) (pc := 49) dX12_starts_49 rfl rfl ?_
        refine pw_iconst (pc := 50) dX12_starts_50 ?_
        refine pw_callV (c := 12) (o := mo_) (As := [ii_ r, ii_ 2]) (rest := [ii_ ((b + 9) + r), rr_ G mState]) (pc := 51) dX12_starts_51 (c_riderOf hM g37 (r) (2) (by first | omega) (by first | omega)) lX12_355 mX12_riderOf vX12_riderOf (im_mo_ hM) k_mo_ rfl rfl rfl (by decide) (by decide) (Nat.le_of_ble_eq_true rfl) (k_i (fun z51 h51 y51 q51 => ?_))
        obtain ⟨rfl, rfl⟩ := q51
        have n_g37_mRoads : g37 mRoads = h mRoads := (((show g37 mRoads = g26 mRoads from (by rw [e37]; exact up_off (by decide))).trans (show g26 mRoads = hh mRoads from (by rw [e26]; exact up_off (by decide)))).trans (show hh mRoads = h mRoads from ((off_sce ae) mRoads (by decide))))
        rw [n_g37_mRoads] at y51 ⊢
        refine pw_iast (pc := 54) dX12_starts_54 (im_mState hM) k_mState 1760 l_mState (by first | omega | (simp only [n_g37_mRoads]; omega)) (by first | omega | (simp only [n_g37_mRoads]; omega)) (by first | omega | (simp only [n_g37_mRoads]; omega)) (by first | omega | (simp only [n_g37_mRoads]; omega)) ?_
        obtain ⟨g54, e54⟩ : ∃ x, x = up_ g37 mState ((b + 9) + r) (h mRoads (31 + 4 * (r) + (2))) := ⟨_, rfl⟩
        refine pw_heq e54 ?_
        refine pw_iinc (z := r) (lv1 := [some (rr_ G mo_), some (ii_ b), some (ii_ (r + 1))]) (pc := 55) dX12_starts_55 rfl (by decide) rfl rfl ?_
        refine pw_goto (t := 11) (pc := 58) dX12_starts_58 (by decide) ?_
        exact ih11 _ _ (by omega) (by
                  refine (sc_up (sc_up (sc_up ae e26 (fun _ => rfl)) e37 (fun _ => rfl)) e54 (fun y => ?_))
                  unfold sta_
                  (repeat' split) <;> first | rfl | omega | (congr 1; omega)) (by omega)
  exact L11 _ _ _ (by omega) (sc_up (sc_id (fun _ => rfl)) e8 (fun y => by unfold sta_; (repeat' split) <;> first | rfl | omega)) (Int.self_le_toNat _)

