set_option maxHeartbeats 4000000 in
set_option maxRecDepth 100000 in
theorem c_rider {G : GT_} (hM : okM_ G) (h : PH_) (hS : 2 ≤ h mRoads 0 ∧ h mRoads 0 ≤ 4) (hR : 0 ≤ h mRoads 2 ∧ h mRoads 2 ≤ h mRoads 0) (r w : Int) (h1 : ir_ r) (h2 : ir_ w) : PC G yX12_rider cX12_rider 3 (some .int) 3 [rr_ G mo_, ii_ r, ii_ w] h (qi_ (fun z h' => ((0 ≤ r ∧ r < h mRoads 2) ∧ h' = up_ h mo_ 0 0 ∧ z = (if 0 ≤ w ∧ w ≤ 2 then h mRoads (31 + 4 * r + w) else if w = 3 then h mState (1 + r) else if w = 4 then h mState (9 + r) else -1)) ∨ (¬ (0 ≤ r ∧ r < h mRoads 2) ∧ h' = up_ h mo_ 0 1))) := by
  refine PC.of (lv := [some (rr_ G mo_), some (ii_ r), some (ii_ w)]) (by decide +kernel) (Nat.le_of_ble_eq_true rfl) rfl rfl ?_
  refine pw_aload_n (z := mo_) (pc := 0) dX12_rider_0 rfl rfl ?_
  refine pw_aload_n (z := mo_) (pc := 1) dX12_rider_1 rfl rfl ?_
  refine pw_iload_n (z := r) (pc := 2) dX12_rider_2 rfl rfl ?_
  refine pw_callV (c := 12) (o := mo_) (As := [ii_ r]) (rest := [rr_ G mo_]) (pc := 3) dX12_rider_3 (c_isRider hM h (r) (by first | omega) (by first | omega)) lX12_387 mX12_isRider vX12_isRider (im_mo_ hM) k_mo_ rfl rfl rfl (by decide) ⟨Nat.zero_le _, Nat.zero_le _⟩ (Nat.le_of_ble_eq_true rfl) (k_i (fun z3 h3 y3 q3 => ?_))
  obtain ⟨rfl, ⟨rfl, p3⟩ | ⟨rfl, p3⟩⟩ := q3
  · refine pw_if_eq (t := 13) (pc := 6) dX12_rider_6 (by decide) (by first | omega) (fun c6 => absurd c6 (by decide)) (fun _ => ?_)
    refine pw_iconst (pc := 9) dX12_rider_9 ?_
    refine pw_goto (t := 14) (pc := 10) dX12_rider_10 (by decide) ?_
    refine pw_pI (x := 0) (pc := 14) dX12_rider_14 fX12_1 (im_mo_ hM) k_mo_ rfl rfl (by first | omega) ?_
    obtain ⟨g14, e14⟩ : ∃ x, x = up_ h mo_ 0 0 := ⟨_, rfl⟩
    refine pw_heq e14 ?_
    refine pw_aload_n (z := mo_) (pc := 17) dX12_rider_17 rfl rfl ?_
    refine pw_gI (x := 0) (pc := 18) dX12_rider_18 fX12_1 (im_mo_ hM) k_mo_ rfl rfl (fun r18 => ?_)
    rw [show g14 mo_ 0 = 0 from by rw [e14, up_same]] at r18 ⊢
    refine pw_if_le (t := 26) (pc := 21) dX12_rider_21 (by decide) (by first | omega) (fun _ => ?_) (fun c21 => absurd c21 (by decide))
    refine pw_iload_n (z := w) (pc := 26) dX12_rider_26 rfl rfl ?_
    refine pw_iconst (pc := 27) dX12_rider_27 ?_
    refine pw_iconst (pc := 28) dX12_rider_28 ?_
    refine pw_callS (As := [ii_ w, ii_ 0, ii_ 2]) (rest := []) (pc := 29) dX12_rider_29 (c_within g14 (w) (0) (2) (by first | omega) (by first | omega) (by first | omega)) lX12_308 mX12_within sX12_within rfl rfl (by decide) ⟨Nat.zero_le _, Nat.zero_le _⟩ (Nat.le_of_ble_eq_true rfl) (k_i (fun z29 h29 y29 q29 => ?_))
    obtain ⟨rfl, ⟨rfl, p29⟩ | ⟨rfl, p29⟩⟩ := q29
    · refine pw_if_eq (t := 44) (pc := 32) dX12_rider_32 (by decide) (by first | omega) (fun c32 => absurd c32 (by decide)) (fun _ => ?_)
      refine pw_aload_n (z := mo_) (pc := 35) dX12_rider_35 rfl rfl ?_
      refine pw_iload_n (z := r) (pc := 36) dX12_rider_36 rfl rfl ?_
      refine pw_iload_n (z := w) (pc := 37) dX12_rider_37 rfl rfl ?_
      refine pw_callV (c := 12) (o := mo_) (As := [ii_ r, ii_ w]) (rest := []) (pc := 38) dX12_rider_38 (c_riderOf hM g14 (r) (w) (by first | omega) (by first | omega)) lX12_355 mX12_riderOf vX12_riderOf (im_mo_ hM) k_mo_ rfl rfl rfl (by decide) ⟨Nat.zero_le _, Nat.zero_le _⟩ (Nat.le_of_ble_eq_true rfl) (k_i (fun z38 h38 y38 q38 => ?_))
      obtain ⟨rfl, rfl⟩ := q38
      have n_g14_mRoads : g14 mRoads = h mRoads := (by rw [e14]; exact up_off (by decide))
      rw [n_g14_mRoads] at y38 ⊢
      refine pw_goto (t := 78) (pc := 41) dX12_rider_41 (by decide) ?_
      exact pw_iret (pc := 78) dX12_rider_78 (by first | omega | (simp only [n_g14_mRoads]; omega)) (by first | exact Or.inr ⟨p3, e14⟩ | (refine Or.inl ⟨p3, e14, ?_⟩; (repeat' split) <;> first | rfl | omega))
    · refine pw_if_eq (t := 44) (pc := 32) dX12_rider_32 (by decide) (by first | omega) (fun _ => ?_) (fun c32 => absurd c32 (by decide))
      refine pw_iload_n (z := w) (pc := 44) dX12_rider_44 rfl rfl ?_
      refine pw_iconst (pc := 45) dX12_rider_45 ?_
      refine pw_icmp_ne (t := 60) (pc := 46) dX12_rider_46 (by decide) (by first | omega) (by first | omega) (fun c46 => ?_) (fun c46 => ?_)
      · refine pw_iload_n (z := w) (pc := 60) dX12_rider_60 rfl rfl ?_
        refine pw_iconst (pc := 61) dX12_rider_61 ?_
        refine pw_icmp_ne (t := 77) (pc := 62) dX12_rider_62 (by decide) (by first | omega) (by first | omega) (fun c62 => ?_) (fun c62 => ?_)
        · refine pw_iconst (pc := 77) dX12_rider_77 ?_
          exact pw_iret (pc := 78) dX12_rider_78 (by first | omega) (by first | exact Or.inr ⟨p3, e14⟩ | (refine Or.inl ⟨p3, e14, ?_⟩; (repeat' split) <;> first | rfl | omega))
        · refine pw_aload_n (z := mo_) (pc := 65) dX12_rider_65 rfl rfl ?_
          refine pw_getR (r := mState) (pc := 66) dX12_rider_66 fX12_130 (im_mo_ hM) k_mo_ rfl fr_mState ?_
          refine pw_bipush (pc := 69) dX12_rider_69 rfl ?_
          refine pw_iload_n (z := r) (pc := 71) dX12_rider_71 rfl rfl ?_
          refine pw_iadd (pc := 72) dX12_rider_72 ?_
          refine pw_iald (pc := 73) dX12_rider_73 (im_mState hM) k_mState 1760 l_mState (by first | omega) (by first | omega) (by first | omega) (fun r73 => ?_)
          have n_g14_mState : g14 mState = h mState := (by rw [e14]; exact up_off (by decide))
          rw [n_g14_mState] at r73 ⊢
          refine pw_goto (t := 78) (pc := 74) dX12_rider_74 (by decide) ?_
          exact pw_iret (pc := 78) dX12_rider_78 (by first | omega | (simp only [n_g14_mState]; omega)) (by first | exact Or.inr ⟨p3, e14⟩ | (refine Or.inl ⟨p3, e14, ?_⟩; (repeat' split) <;> first | rfl | omega))
      · refine pw_aload_n (z := mo_) (pc := 49) dX12_rider_49 rfl rfl ?_
        refine pw_getR (r := mState) (pc := 50) dX12_rider_50 fX12_130 (im_mo_ hM) k_mo_ rfl fr_mState ?_
        refine pw_iconst (pc := 53) dX12_rider_53 ?_
        refine pw_iload_n (z := r) (pc := 54) dX12_rider_54 rfl rfl ?_
        refine pw_iadd (pc := 55) dX12_rider_55 ?_
        refine pw_iald (pc := 56) dX12_rider_56 (im_mState hM) k_mState 1760 l_mState (by first | omega) (by first | omega) (by first | omega) (fun r56 => ?_)
        have n_g14_mState : g14 mState = h mState := (by rw [e14]; exact up_off (by decide))
        rw [n_g14_mState] at r56 ⊢
        refine pw_goto (t := 78) (pc := 57) dX12_rider_57 (by decide) ?_
        exact pw_iret (pc := 78) dX12_rider_78 (by first | omega | (simp only [n_g14_mState]; omega)) (by first | exact Or.inr ⟨p3, e14⟩ | (refine Or.inl ⟨p3, e14, ?_⟩; (repeat' split) <;> first | rfl | omega))
  · refine pw_if_eq (t := 13) (pc := 6) dX12_rider_6 (by decide) (by first | omega) (fun _ => ?_) (fun c6 => absurd c6 (by decide))
    refine pw_iconst (pc := 13) dX12_rider_13 ?_
    refine pw_pI (x := 0) (pc := 14) dX12_rider_14 fX12_1 (im_mo_ hM) k_mo_ rfl rfl (by first | omega) ?_
    obtain ⟨g14, e14⟩ : ∃ x, x = up_ h mo_ 0 1 := ⟨_, rfl⟩
    refine pw_heq e14 ?_
    refine pw_aload_n (z := mo_) (pc := 17) dX12_rider_17 rfl rfl ?_
    refine pw_gI (x := 0) (pc := 18) dX12_rider_18 fX12_1 (im_mo_ hM) k_mo_ rfl rfl (fun r18 => ?_)
    rw [show g14 mo_ 0 = 1 from by rw [e14, up_same]] at r18 ⊢
    refine pw_if_le (t := 26) (pc := 21) dX12_rider_21 (by decide) (by first | omega) (fun c21 => absurd c21 (by decide)) (fun _ => ?_)
    refine pw_iconst (pc := 24) dX12_rider_24 ?_
    exact pw_iret (pc := 25) dX12_rider_25 (by first | omega) (by first | exact Or.inr ⟨p3, e14⟩ | (refine Or.inl ⟨p3, e14, ?_⟩; (repeat' split) <;> first | rfl | omega))

set_option maxHeartbeats 4000000 in
set_option maxRecDepth 100000 in
theorem c_stretch {G : GT_} (hM : okM_ G) (h : PH_) (hS : 2 ≤ h mRoads 0 ∧ h mRoads 0 ≤ 4) (hR : 0 ≤ h mRoads 2 ∧ h mRoads 2 ≤ h mRoads 0) (hT : 0 ≤ h mRoads 1 ∧ h mRoads 1 ≤ 4) (t w : Int) (h1 : ir_ t) (h2 : ir_ w) : PC G yX12_stretch cX12_stretch 3 (some .int) 3 [rr_ G mo_, ii_ t, ii_ w] h (qi_ (fun z h' => h' = up_ h mo_ 0 0 ∧ z = (if (0 ≤ t ∧ t < h mRoads 1) ∧ 0 ≤ w ∧ w ≤ h mRoads 0 then h mRoads (11 + 5 * t + w) else -1))) := by
  refine PC.of (lv := [some (rr_ G mo_), some (ii_ t), some (ii_ w)]) (by decide +kernel) (Nat.le_of_ble_eq_true rfl) rfl rfl ?_
  refine pw_aload_n (z := mo_) (pc := 0) dX12_stretch_0 rfl rfl ?_
  refine pw_iconst (pc := 1) dX12_stretch_1 ?_
  refine pw_pI (x := 0) (pc := 2) dX12_stretch_2 fX12_1 (im_mo_ hM) k_mo_ rfl rfl (by first | omega) ?_
  obtain ⟨g2, e2⟩ : ∃ x, x = up_ h mo_ 0 0 := ⟨_, rfl⟩
  refine pw_heq e2 ?_
  refine pw_aload_n (z := mo_) (pc := 5) dX12_stretch_5 rfl rfl ?_
  refine pw_iload_n (z := t) (pc := 6) dX12_stretch_6 rfl rfl ?_
  have n_g2_mRoads : g2 mRoads = h mRoads := (by rw [e2]; exact up_off (by decide))
  refine pw_callV (c := 12) (o := mo_) (As := [ii_ t]) (rest := []) (pc := 7) dX12_stretch_7 (c_isStretch hM g2 (t) (by first | omega | (simp only [n_g2_mRoads]; omega)) (by first | omega | (simp only [n_g2_mRoads]; omega))) lX12_390 mX12_isStretch vX12_isStretch (im_mo_ hM) k_mo_ rfl rfl rfl (by decide) ⟨Nat.zero_le _, Nat.zero_le _⟩ (Nat.le_of_ble_eq_true rfl) (k_i (fun z7 h7 y7 q7 => ?_))
  obtain ⟨rfl, ⟨rfl, p7⟩ | ⟨rfl, p7⟩⟩ := q7
  · simp -failIfUnchanged only [n_g2_mRoads] at p7
    refine pw_if_eq (t := 34) (pc := 10) dX12_stretch_10 (by decide) (by first | omega | (simp only [n_g2_mRoads]; omega)) (fun c10 => absurd c10 (by decide)) (fun _ => ?_)
    refine pw_iload_n (z := w) (pc := 13) dX12_stretch_13 rfl rfl ?_
    refine pw_iconst (pc := 14) dX12_stretch_14 ?_
    refine pw_aload_n (z := mo_) (pc := 15) dX12_stretch_15 rfl rfl ?_
    refine pw_callV (c := 12) (o := mo_) (As := []) (rest := [ii_ 0, ii_ w]) (pc := 16) dX12_stretch_16 (c_seats hM g2) lX12_331 mX12_seats vX12_seats (im_mo_ hM) k_mo_ rfl rfl rfl (by decide) ⟨Nat.zero_le _, Nat.zero_le _⟩ (Nat.le_of_ble_eq_true rfl) (k_i (fun z16 h16 y16 q16 => ?_))
    obtain ⟨rfl, rfl⟩ := q16
    rw [n_g2_mRoads] at y16 ⊢
    refine pw_callS (As := [ii_ w, ii_ 0, ii_ (h mRoads 0)]) (rest := []) (pc := 19) dX12_stretch_19 (c_within g2 (w) (0) (h mRoads 0) (by first | omega | (simp only [n_g2_mRoads]; omega)) (by first | omega | (simp only [n_g2_mRoads]; omega)) (by first | omega | (simp only [n_g2_mRoads]; omega))) lX12_308 mX12_within sX12_within rfl rfl (by decide) ⟨Nat.zero_le _, Nat.zero_le _⟩ (Nat.le_of_ble_eq_true rfl) (k_i (fun z19 h19 y19 q19 => ?_))
    obtain ⟨rfl, ⟨rfl, p19⟩ | ⟨rfl, p19⟩⟩ := q19
    · simp -failIfUnchanged only [n_g2_mRoads] at p19
      refine pw_if_eq (t := 34) (pc := 22) dX12_stretch_22 (by decide) (by first | omega | (simp only [n_g2_mRoads]; omega)) (fun c22 => absurd c22 (by decide)) (fun _ => ?_)
      refine pw_aload_n (z := mo_) (pc := 25) dX12_stretch_25 rfl rfl ?_
      refine pw_iload_n (z := t) (pc := 26) dX12_stretch_26 rfl rfl ?_
      refine pw_iload_n (z := w) (pc := 27) dX12_stretch_27 rfl rfl ?_
      refine pw_callV (c := 12) (o := mo_) (As := [ii_ t, ii_ w]) (rest := []) (pc := 28) dX12_stretch_28 (c_stretchOf hM g2 (t) (w) (by first | omega | (simp only [n_g2_mRoads]; omega)) (by first | omega | (simp only [n_g2_mRoads]; omega))) lX12_381 mX12_stretchOf vX12_stretchOf (im_mo_ hM) k_mo_ rfl rfl rfl (by decide) ⟨Nat.zero_le _, Nat.zero_le _⟩ (Nat.le_of_ble_eq_true rfl) (k_i (fun z28 h28 y28 q28 => ?_))
      obtain ⟨rfl, rfl⟩ := q28
      rw [n_g2_mRoads] at y28 ⊢
      refine pw_goto (t := 35) (pc := 31) dX12_stretch_31 (by decide) ?_
      exact pw_iret (pc := 35) dX12_stretch_35 (by first | omega | (simp only [n_g2_mRoads]; omega)) (⟨e2, by first | (rw [if_pos (by omega)]; done) | (rw [if_neg (by omega)]; done)⟩)
    · simp -failIfUnchanged only [n_g2_mRoads] at p19
      refine pw_if_eq (t := 34) (pc := 22) dX12_stretch_22 (by decide) (by first | omega | (simp only [n_g2_mRoads]; omega)) (fun _ => ?_) (fun c22 => absurd c22 (by decide))
      refine pw_iconst (pc := 34) dX12_stretch_34 ?_
      exact pw_iret (pc := 35) dX12_stretch_35 (by first | omega | (simp only [n_g2_mRoads]; omega)) (⟨e2, by first | (rw [if_pos (by omega)]; done) | (rw [if_neg (by omega)]; done)⟩)
  · simp -failIfUnchanged only [n_g2_mRoads] at p7
    refine pw_if_eq (t := 34) (pc := 10) dX12_stretch_10 (by decide) (by first | omega | (simp only [n_g2_mRoads]; omega)) (fun _ => ?_) (fun c10 => absurd c10 (by decide))
    refine pw_iconst (pc := 34) dX12_stretch_34 ?_
    exact pw_iret (pc := 35) dX12_stretch_35 (by first | omega | (simp only [n_g2_mRoads]; omega)) (⟨e2, by first | (rw [if_pos (by omega)]; done) | (rw [if_neg (by omega)]; done)⟩)

set_option maxHeartbeats 4000000 in
set_option maxRecDepth 100000 in
theorem c_lawful {G : GT_} (hM : okM_ G) (h : PH_) (hS : 2 ≤ h mRoads 0 ∧ h mRoads 0 ≤ 4) (hR : 0 ≤ h mRoads 2 ∧ h mRoads 2 ≤ h mRoads 0) (p : Int) (hp : ir_ p) : PC G yX12_lawful cX12_lawful 2 (some .int) 5 [rr_ G mo_, ii_ p] h (qi_ (fun z h' => fr2_ [mSits] [0] h h' ∧ h' mo_ 0 = 0 ∧ z = if_ (vp_ok (h mRoads 0) (h mRoads 2) p) (if_ (lp1_ (h mRoads) p) 1 0) (-1))) := by
  refine PC.of (lv := [some (rr_ G mo_), some (ii_ p)]) (by decide +kernel) (Nat.le_of_ble_eq_true rfl) rfl rfl ?_
  refine pw_aload_n (z := mo_) (pc := 0) dX12_lawful_0 rfl rfl ?_
  refine pw_iconst (pc := 1) dX12_lawful_1 ?_
  refine pw_pI (x := 0) (pc := 2) dX12_lawful_2 fX12_1 (im_mo_ hM) k_mo_ rfl rfl (by first | omega) ?_
  obtain ⟨g2, e2⟩ : ∃ x, x = up_ h mo_ 0 0 := ⟨_, rfl⟩
  refine pw_heq e2 ?_
  refine pw_aload_n (z := mo_) (pc := 5) dX12_lawful_5 rfl rfl ?_
  refine pw_iload_n (z := p) (pc := 6) dX12_lawful_6 rfl rfl ?_
  have n_g2_mRoads : g2 mRoads = h mRoads := (by rw [e2]; exact up_off (by decide))
  refine pw_callV (c := 12) (o := mo_) (As := [ii_ p]) (rest := []) (pc := 7) dX12_lawful_7 (c_reads hM g2 (by first | omega | (simp only [n_g2_mRoads]; omega)) (by first | omega | (simp only [n_g2_mRoads]; omega)) (p) (by first | omega | (simp only [n_g2_mRoads]; omega))) lX12_393 mX12_reads vX12_reads (im_mo_ hM) k_mo_ rfl rfl rfl (by decide) ⟨Nat.zero_le _, Nat.zero_le _⟩ (Nat.le_of_ble_eq_true rfl) (k_i (fun z7 h7 y7 q7 => ?_))
  obtain ⟨f7, d7, ⟨rfl, p7⟩ | ⟨rfl, p7⟩⟩ := q7
  · have qq_h7 : h7 mRoads = g2 mRoads := f7 mRoads (by decide)
    have b_h7 : ∀ r, 0 ≤ r → r < h7 mRoads 2 → h7 mSits r = dg_ (g2 mRoads 2) (p) r := fun r r0 r1 => d7 (ro4_pos _ p7.1) r r0 (by rw [qq_h7] at r1; exact r1)
    have s_h7 : ∀ r, 0 ≤ r → r < h7 mRoads 2 → 0 ≤ h7 mSits r ∧ h7 mSits r ≤ 3 := fun r r0 r1 => by rw [b_h7 r r0 r1]; exact dg_b _ _ _
    have l_h7 : lwf_ (h7 mRoads) (h7 mSits) (h7 mRoads 2).toNat ↔ lp1_ (g2 mRoads) (p) := by unfold lp1_; rw [qq_h7]; exact lwf_cg (fun e e0 e1 => b_h7 e e0 (by rw [qq_h7]; omega))
    simp -failIfUnchanged only [n_g2_mRoads] at p7
    refine pw_if_ne (t := 17) (pc := 10) dX12_lawful_10 (by decide) (by first | omega | (simp only [n_g2_mRoads]; omega)) (fun _ => ?_) (fun c10 => absurd c10 (by decide))
    refine pw_aload_n (z := mo_) (pc := 17) dX12_lawful_17 rfl rfl ?_
    have n_h7_mRoads : h7 mRoads = h mRoads := ((show h7 mRoads = g2 mRoads from (f7 mRoads (by decide))).trans (show g2 mRoads = h mRoads from (by rw [e2]; exact up_off (by decide))))
    refine pw_callV (c := 12) (o := mo_) (As := []) (rest := []) (pc := 18) dX12_lawful_18 (c_isLawful hM h7 (by first | omega | (simp only [n_g2_mRoads, n_h7_mRoads]; omega)) (by first | omega | (simp only [n_g2_mRoads, n_h7_mRoads]; omega)) s_h7) lX12_396 mX12_isLawful vX12_isLawful (im_mo_ hM) k_mo_ rfl rfl rfl (by decide) ⟨Nat.zero_le _, Nat.zero_le _⟩ (Nat.le_of_ble_eq_true rfl) (k_i (fun z18 h18 y18 q18 => ?_))
    obtain ⟨rfl, ⟨rfl, p18⟩ | ⟨rfl, p18⟩⟩ := q18
    · rw [l_h7] at p18
      simp -failIfUnchanged only [n_h7_mRoads] at p18
      refine pw_if_eq (t := 28) (pc := 21) dX12_lawful_21 (by decide) (by first | omega | (simp only [n_g2_mRoads, n_h7_mRoads]; omega)) (fun c21 => absurd c21 (by decide)) (fun _ => ?_)
      refine pw_iconst (pc := 24) dX12_lawful_24 ?_
      refine pw_goto (t := 29) (pc := 25) dX12_lawful_25 (by decide) ?_
      exact pw_iret (pc := 29) dX12_lawful_29 (by first | omega | (simp only [n_g2_mRoads, n_h7_mRoads]; omega)) (⟨fr2_tr (by rw [e2]; exact fr2_up (by decide)) (fr2_off f7 (by decide)), by rw [f7 mo_ (by decide), e2, up_same], by first | (rw [if_t p7]; first | (rw [if_t (by simpa only [n_g2_mRoads] using p18)]; done) | (rw [if_f (by simpa only [n_g2_mRoads] using p18)]; done)) | (rw [if_f p7]; done)⟩)
    · rw [l_h7] at p18
      simp -failIfUnchanged only [n_h7_mRoads] at p18
      refine pw_if_eq (t := 28) (pc := 21) dX12_lawful_21 (by decide) (by first | omega | (simp only [n_g2_mRoads, n_h7_mRoads]; omega)) (fun _ => ?_) (fun c21 => absurd c21 (by decide))
      refine pw_iconst (pc := 28) dX12_lawful_28 ?_
      exact pw_iret (pc := 29) dX12_lawful_29 (by first | omega | (simp only [n_g2_mRoads, n_h7_mRoads]; omega)) (⟨fr2_tr (by rw [e2]; exact fr2_up (by decide)) (fr2_off f7 (by decide)), by rw [f7 mo_ (by decide), e2, up_same], by first | (rw [if_t p7]; first | (rw [if_t (by simpa only [n_g2_mRoads] using p18)]; done) | (rw [if_f (by simpa only [n_g2_mRoads] using p18)]; done)) | (rw [if_f p7]; done)⟩)
  · simp -failIfUnchanged only [n_g2_mRoads] at p7
    refine pw_if_ne (t := 17) (pc := 10) dX12_lawful_10 (by decide) (by first | omega | (simp only [n_g2_mRoads]; omega)) (fun c10 => absurd c10 (by decide)) (fun _ => ?_)
    refine pw_iconst (pc := 13) dX12_lawful_13 ?_
    refine pw_goto (t := 29) (pc := 14) dX12_lawful_14 (by decide) ?_
    exact pw_iret (pc := 29) dX12_lawful_29 (by first | omega | (simp only [n_g2_mRoads]; omega)) (⟨fr2_tr (by rw [e2]; exact fr2_up (by decide)) (fr2_off f7 (by decide)), by rw [f7 mo_ (by decide), e2, up_same], by first | (rw [if_t p7]; first | (rw [if_t (by simpa only [n_g2_mRoads] using p18)]; done) | (rw [if_f (by simpa only [n_g2_mRoads] using p18)]; done)) | (rw [if_f p7]; done)⟩)

set_option maxHeartbeats 4000000 in
set_option maxRecDepth 100000 in
theorem c_plans {G : GT_} (hM : okM_ G) (h : PH_) (hS : 2 ≤ h mRoads 0 ∧ h mRoads 0 ≤ 4) (hR : 0 ≤ h mRoads 2 ∧ h mRoads 2 ≤ h mRoads 0) : PC G yX12_plans cX12_plans 3 (some .int) 5 [rr_ G mo_] h (qi_ (fun z h' => fr2_ [mSits] [0] h h' ∧ h' mo_ 0 = 0 ∧ z = cnt_ (h mRoads) 256)) := by
  refine PC.of (lv := [some (rr_ G mo_), none, none]) (by decide +kernel) (Nat.le_of_ble_eq_true rfl) rfl rfl ?_
  refine pw_aload_n (z := mo_) (pc := 0) dX12_plans_0 rfl rfl ?_
  refine pw_iconst (pc := 1) dX12_plans_1 ?_
  refine pw_pI (x := 0) (pc := 2) dX12_plans_2 fX12_1 (im_mo_ hM) k_mo_ rfl rfl (by first | omega) ?_
  obtain ⟨g2, e2⟩ : ∃ x, x = up_ h mo_ 0 0 := ⟨_, rfl⟩
  refine pw_heq e2 ?_
  refine pw_iconst (pc := 5) dX12_plans_5 ?_
  refine pw_istore_n (lv1 := [some (rr_ G mo_), some (ii_ 0), none]) (pc := 6) dX12_plans_6 rfl (by decide) rfl rfl ?_
  refine pw_iconst (pc := 7) dX12_plans_7 ?_
  refine pw_istore_n (lv1 := [some (rr_ G mo_), some (ii_ 0), some (ii_ 0)]) (pc := 8) dX12_plans_8 rfl (by decide) rfl rfl ?_
  have L9 : ∀ (nn : Nat) (n : Int) (p : Int) (h1 : PH_), (0 ≤ p ∧ p ≤ 256) → (off_ [mSits] g2 h1) → (n = cnt_ (h mRoads) p.toNat) → ((256 - p + 1 : Int) ≤ nn) → PW G RX12 cX12_plans 3 (some .int) (rm_ 5) 0 0 (zm_ G (qi_ (fun z h' => fr2_ [mSits] [0] h h' ∧ h' mo_ 0 = 0 ∧ z = cnt_ (h mRoads) 256))) 9 [some (rr_ G mo_), some (ii_ n), some (ii_ p)] [] h1 := by
    intro nn
    induction nn with
    | zero => intro n p h1 ak af an ams; exfalso; omega
    | succ nn ih9 =>
      intro n p h1 ak af an ams
      have cb := cnt_b (h mRoads) p.toNat
      
      refine pw_iload_n (z := p) (pc := 9) dX12_plans_9 rfl rfl ?_
      refine pw_sipush (pc := 10) dX12_plans_10 rfl ?_
      refine pw_icmp_ge (t := 45) (pc := 13) dX12_plans_13 (by decide) (by first | omega) (by first | omega) (fun c13 => ?_) (fun c13 => ?_)
      · refine pw_iload_n (z := n) (pc := 45) dX12_plans_45 rfl rfl ?_
        exact pw_iret (pc := 46) dX12_plans_46 (by first | omega) (⟨fr2_tr (by rw [e2]; exact fr2_up (by decide)) (fr2_off af (by decide)), by rw [af mo_ (by decide), e2, up_same], by rw [an, show p = 256 by omega]; rfl⟩)
      · have J37 : ∀ (v : Int) (h2 : PH_), (off_ [mSits] g2 h2) → (v = if_ (lpl_ (h mRoads) p) 1 0) → PW G RX12 cX12_plans 3 (some .int) (rm_ 5) 0 0 (zm_ G (qi_ (fun z h' => fr2_ [mSits] [0] h h' ∧ h' mo_ 0 = 0 ∧ z = cnt_ (h mRoads) 256))) 37 [some (rr_ G mo_), some (ii_ n), some (ii_ p)] [ii_ v, ii_ n] h2 := by
          intro v h2 fv hv
          refine pw_iadd (pc := 37) dX12_plans_37 ?_
          refine pw_istore_n (lv1 := [some (rr_ G mo_), some (ii_ (n + v)), some (ii_ p)]) (pc := 38) dX12_plans_38 rfl (by decide) rfl rfl ?_
          refine pw_iinc (z := p) (lv1 := [some (rr_ G mo_), some (ii_ (n + v)), some (ii_ (p + 1))]) (pc := 39) dX12_plans_39 rfl (by decide) rfl rfl ?_
          refine pw_goto (t := 9) (pc := 42) dX12_plans_42 (by decide) ?_
          exact ih9 _ _ _ (by omega) (fv) (by rw [cnt_s _ ak.1, an, hv]) (by omega)
        refine pw_iload_n (z := n) (pc := 16) dX12_plans_16 rfl rfl ?_
        refine pw_aload_n (z := mo_) (pc := 17) dX12_plans_17 rfl rfl ?_
        refine pw_iload_n (z := p) (pc := 18) dX12_plans_18 rfl rfl ?_
        have n_h1_mRoads : h1 mRoads = h mRoads := ((show h1 mRoads = g2 mRoads from (af mRoads (by decide))).trans (show g2 mRoads = h mRoads from (by rw [e2]; exact up_off (by decide))))
        refine pw_callV (c := 12) (o := mo_) (As := [ii_ p]) (rest := [ii_ n]) (pc := 19) dX12_plans_19 (c_reads hM h1 (by first | omega | (simp only [n_h1_mRoads]; omega)) (by first | omega | (simp only [n_h1_mRoads]; omega)) (p) (by first | omega | (simp only [n_h1_mRoads]; omega))) lX12_393 mX12_reads vX12_reads (im_mo_ hM) k_mo_ rfl rfl rfl (by decide) ⟨Nat.zero_le _, Nat.zero_le _⟩ (Nat.le_of_ble_eq_true rfl) (k_i (fun z19 h19 y19 q19 => ?_))
        obtain ⟨f19, d19, ⟨rfl, p19⟩ | ⟨rfl, p19⟩⟩ := q19
        · have qq_h19 : h19 mRoads = h1 mRoads := f19 mRoads (by decide)
          have b_h19 : ∀ r, 0 ≤ r → r < h19 mRoads 2 → h19 mSits r = dg_ (h1 mRoads 2) (p) r := fun r r0 r1 => d19 (ro4_pos _ p19.1) r r0 (by rw [qq_h19] at r1; exact r1)
          have s_h19 : ∀ r, 0 ≤ r → r < h19 mRoads 2 → 0 ≤ h19 mSits r ∧ h19 mSits r ≤ 3 := fun r r0 r1 => by rw [b_h19 r r0 r1]; exact dg_b _ _ _
          have l_h19 : lwf_ (h19 mRoads) (h19 mSits) (h19 mRoads 2).toNat ↔ lp1_ (h1 mRoads) (p) := by unfold lp1_; rw [qq_h19]; exact lwf_cg (fun e e0 e1 => b_h19 e e0 (by rw [qq_h19]; omega))
          simp -failIfUnchanged only [n_h1_mRoads] at p19
          refine pw_if_eq (t := 36) (pc := 22) dX12_plans_22 (by decide) (by first | omega | (simp only [n_h1_mRoads]; omega)) (fun c22 => absurd c22 (by decide)) (fun _ => ?_)
          refine pw_aload_n (z := mo_) (pc := 25) dX12_plans_25 rfl rfl ?_
          have n_h19_mRoads : h19 mRoads = h mRoads := (((show h19 mRoads = h1 mRoads from (f19 mRoads (by decide))).trans (show h1 mRoads = g2 mRoads from (af mRoads (by decide)))).trans (show g2 mRoads = h mRoads from (by rw [e2]; exact up_off (by decide))))
          refine pw_callV (c := 12) (o := mo_) (As := []) (rest := [ii_ n]) (pc := 26) dX12_plans_26 (c_isLawful hM h19 (by first | omega | (simp only [n_h19_mRoads, n_h1_mRoads]; omega)) (by first | omega | (simp only [n_h19_mRoads, n_h1_mRoads]; omega)) s_h19) lX12_396 mX12_isLawful vX12_isLawful (im_mo_ hM) k_mo_ rfl rfl rfl (by decide) ⟨Nat.zero_le _, Nat.zero_le _⟩ (Nat.le_of_ble_eq_true rfl) (k_i (fun z26 h26 y26 q26 => ?_))
          obtain ⟨rfl, ⟨rfl, p26⟩ | ⟨rfl, p26⟩⟩ := q26
          · rw [l_h19] at p26
            simp -failIfUnchanged only [n_h19_mRoads] at p26
            refine pw_if_eq (t := 36) (pc := 29) dX12_plans_29 (by decide) (by first | omega | (simp only [n_h19_mRoads, n_h1_mRoads]; omega)) (fun c29 => absurd c29 (by decide)) (fun _ => ?_)
            refine pw_iconst (pc := 32) dX12_plans_32 ?_
            refine pw_goto (t := 37) (pc := 33) dX12_plans_33 (by decide) ?_
            exact J37 _ _ (by first | exact off_tr af f19) (by first | exact (if_t ⟨by simpa only [n_h1_mRoads] using p19, by simpa only [n_h1_mRoads] using p26⟩).symm | exact (if_f (fun u => p19 (by simpa only [n_h1_mRoads] using u.1))).symm | exact (if_f (fun u => p26 (by simpa only [n_h1_mRoads] using u.2))).symm)
          · rw [l_h19] at p26
            simp -failIfUnchanged only [n_h19_mRoads] at p26
            refine pw_if_eq (t := 36) (pc := 29) dX12_plans_29 (by decide) (by first | omega | (simp only [n_h19_mRoads, n_h1_mRoads]; omega)) (fun _ => ?_) (fun c29 => absurd c29 (by decide))
            refine pw_iconst (pc := 36) dX12_plans_36 ?_
            exact J37 _ _ (by first | exact off_tr af f19) (by first | exact (if_t ⟨by simpa only [n_h1_mRoads] using p19, by simpa only [n_h1_mRoads] using p26⟩).symm | exact (if_f (fun u => p19 (by simpa only [n_h1_mRoads] using u.1))).symm | exact (if_f (fun u => p26 (by simpa only [n_h1_mRoads] using u.2))).symm)
        · simp -failIfUnchanged only [n_h1_mRoads] at p19
          refine pw_if_eq (t := 36) (pc := 22) dX12_plans_22 (by decide) (by first | omega | (simp only [n_h1_mRoads]; omega)) (fun _ => ?_) (fun c22 => absurd c22 (by decide))
          refine pw_iconst (pc := 36) dX12_plans_36 ?_
          exact J37 _ _ (by first | exact off_tr af f19) (by first | exact (if_t ⟨by simpa only [n_h1_mRoads] using p19, by simpa only [n_h1_mRoads] using p26⟩).symm | exact (if_f (fun u => p19 (by simpa only [n_h1_mRoads] using u.1))).symm | exact (if_f (fun u => p26 (by simpa only [n_h1_mRoads] using u.2))).symm)
  exact L9 _ _ _ _ (by omega) (off_rf) (rfl) (Int.self_le_toNat _)

set_option maxHeartbeats 4000000 in
set_option maxRecDepth 100000 in
theorem c_worth {G : GT_} (hM : okM_ G) (h : PH_) (hS : 2 ≤ h mRoads 0 ∧ h mRoads 0 ≤ 4) (hR : 0 ≤ h mRoads 2 ∧ h mRoads 2 ≤ h mRoads 0) (hT : 0 ≤ h mRoads 1 ∧ h mRoads 1 ≤ 4) (P : List (Int × Int)) (hw : 0 ≤ h mRoads 5 → law_ (h mOp) (h mArg) (h mRoads 5) P) (p r t : Int) (hp : ir_ p) (h1 : ir_ r) (h2 : ir_ t) : PC G yX12_worth cX12_worth 4 (some .int) 4 [rr_ G mo_, ii_ p, ii_ r, ii_ t] h (qi_ (fun z h' => fr2_ [mSits, mFacts, mPile] [0] h h' ∧ h' mo_ 0 = 0 ∧ z = if_ (vp_ok (h mRoads 0) (h mRoads 2) p ∧ (0 ≤ r ∧ r < h mRoads 2) ∧ (0 ≤ t ∧ t < h mRoads 1)) (wsi_ (h mRoads) P (dg_ (h mRoads 2) p) r t) (-1))) := by
  refine PC.of (lv := [some (rr_ G mo_), some (ii_ p), some (ii_ r), some (ii_ t)]) (by decide +kernel) (Nat.le_of_ble_eq_true rfl) rfl rfl ?_
  refine pw_aload_n (z := mo_) (pc := 0) dX12_worth_0 rfl rfl ?_
  refine pw_iconst (pc := 1) dX12_worth_1 ?_
  refine pw_pI (x := 0) (pc := 2) dX12_worth_2 fX12_1 (im_mo_ hM) k_mo_ rfl rfl (by first | omega) ?_
  obtain ⟨g2, e2⟩ : ∃ x, x = up_ h mo_ 0 0 := ⟨_, rfl⟩
  refine pw_heq e2 ?_
  refine pw_aload_n (z := mo_) (pc := 5) dX12_worth_5 rfl rfl ?_
  refine pw_iload_n (z := p) (pc := 6) dX12_worth_6 rfl rfl ?_
  have n_g2_mRoads : g2 mRoads = h mRoads := (by rw [e2]; exact up_off (by decide))
  refine pw_callV (c := 12) (o := mo_) (As := [ii_ p]) (rest := []) (pc := 7) dX12_worth_7 (c_reads hM g2 (by first | omega | (simp only [n_g2_mRoads]; omega)) (by first | omega | (simp only [n_g2_mRoads]; omega)) (p) (by first | omega | (simp only [n_g2_mRoads]; omega))) lX12_393 mX12_reads vX12_reads (im_mo_ hM) k_mo_ rfl rfl rfl (by decide) ⟨Nat.zero_le _, Nat.zero_le _⟩ (Nat.le_of_ble_eq_true rfl) (k_i (fun z7 h7 y7 q7 => ?_))
  obtain ⟨f7, d7, ⟨rfl, p7⟩ | ⟨rfl, p7⟩⟩ := q7
  · have qq_h7 : h7 mRoads = g2 mRoads := f7 mRoads (by decide)
    have b_h7 : ∀ r, 0 ≤ r → r < h7 mRoads 2 → h7 mSits r = dg_ (g2 mRoads 2) (p) r := fun r r0 r1 => d7 (ro4_pos _ p7.1) r r0 (by rw [qq_h7] at r1; exact r1)
    have s_h7 : ∀ r, 0 ≤ r → r < h7 mRoads 2 → 0 ≤ h7 mSits r ∧ h7 mSits r ≤ 3 := fun r r0 r1 => by rw [b_h7 r r0 r1]; exact dg_b _ _ _
    have l_h7 : lwf_ (h7 mRoads) (h7 mSits) (h7 mRoads 2).toNat ↔ lp1_ (g2 mRoads) (p) := by unfold lp1_; rw [qq_h7]; exact lwf_cg (fun e e0 e1 => b_h7 e e0 (by rw [qq_h7]; omega))
    simp -failIfUnchanged only [n_g2_mRoads] at p7
    refine pw_if_eq (t := 49) (pc := 10) dX12_worth_10 (by decide) (by first | omega | (simp only [n_g2_mRoads]; omega)) (fun c10 => absurd c10 (by decide)) (fun _ => ?_)
    refine pw_aload_n (z := mo_) (pc := 13) dX12_worth_13 rfl rfl ?_
    refine pw_iload_n (z := r) (pc := 14) dX12_worth_14 rfl rfl ?_
    have n_h7_mRoads : h7 mRoads = h mRoads := ((show h7 mRoads = g2 mRoads from (f7 mRoads (by decide))).trans (show g2 mRoads = h mRoads from (by rw [e2]; exact up_off (by decide))))
    refine pw_callV (c := 12) (o := mo_) (As := [ii_ r]) (rest := []) (pc := 15) dX12_worth_15 (c_isRider hM h7 (r) (by first | omega | (simp only [n_g2_mRoads, n_h7_mRoads]; omega)) (by first | omega | (simp only [n_g2_mRoads, n_h7_mRoads]; omega))) lX12_387 mX12_isRider vX12_isRider (im_mo_ hM) k_mo_ rfl rfl rfl (by decide) ⟨Nat.zero_le _, Nat.zero_le _⟩ (Nat.le_of_ble_eq_true rfl) (k_i (fun z15 h15 y15 q15 => ?_))
    obtain ⟨rfl, ⟨rfl, p15⟩ | ⟨rfl, p15⟩⟩ := q15
    · simp -failIfUnchanged only [n_h7_mRoads] at p15
      refine pw_if_eq (t := 49) (pc := 18) dX12_worth_18 (by decide) (by first | omega | (simp only [n_g2_mRoads, n_h7_mRoads]; omega)) (fun c18 => absurd c18 (by decide)) (fun _ => ?_)
      refine pw_aload_n (z := mo_) (pc := 21) dX12_worth_21 rfl rfl ?_
      refine pw_iload_n (z := t) (pc := 22) dX12_worth_22 rfl rfl ?_
      refine pw_callV (c := 12) (o := mo_) (As := [ii_ t]) (rest := []) (pc := 23) dX12_worth_23 (c_isStretch hM h7 (t) (by first | omega | (simp only [n_g2_mRoads, n_h7_mRoads]; omega)) (by first | omega | (simp only [n_g2_mRoads, n_h7_mRoads]; omega))) lX12_390 mX12_isStretch vX12_isStretch (im_mo_ hM) k_mo_ rfl rfl rfl (by decide) ⟨Nat.zero_le _, Nat.zero_le _⟩ (Nat.le_of_ble_eq_true rfl) (k_i (fun z23 h23 y23 q23 => ?_))
      obtain ⟨rfl, ⟨rfl, p23⟩ | ⟨rfl, p23⟩⟩ := q23
      · simp -failIfUnchanged only [n_h7_mRoads] at p23
        refine pw_if_eq (t := 49) (pc := 26) dX12_worth_26 (by decide) (by first | omega | (simp only [n_g2_mRoads, n_h7_mRoads]; omega)) (fun c26 => absurd c26 (by decide)) (fun _ => ?_)
        have sr := s_h7 r (by omega) (by rw [qq_h7, n_g2_mRoads]; omega)
        have tn := tip_nn (h7 mRoads) (h7 mSits) r (h7 mRoads 2).toNat
        refine pw_aload_n (z := mo_) (pc := 29) dX12_worth_29 rfl rfl ?_
        refine pw_iload_n (z := r) (pc := 30) dX12_worth_30 rfl rfl ?_
        refine pw_aload_n (z := mo_) (pc := 31) dX12_worth_31 rfl rfl ?_
        refine pw_getR (r := mSits) (pc := 32) dX12_worth_32 fX12_137 (im_mo_ hM) k_mo_ rfl fr_mSits ?_
        refine pw_iload_n (z := r) (pc := 35) dX12_worth_35 rfl rfl ?_
        refine pw_iald (pc := 36) dX12_worth_36 (im_mSits hM) k_mSits 4 l_mSits (by first | omega | (simp only [n_g2_mRoads, n_h7_mRoads]; omega)) (by first | omega | (simp only [n_g2_mRoads, n_h7_mRoads]; omega)) (by first | omega | (simp only [n_g2_mRoads, n_h7_mRoads]; omega)) (fun r36 => ?_)
        refine pw_iload_n (z := t) (pc := 37) dX12_worth_37 rfl rfl ?_
        refine pw_aload_n (z := mo_) (pc := 38) dX12_worth_38 rfl rfl ?_
        refine pw_iload_n (z := r) (pc := 39) dX12_worth_39 rfl rfl ?_
        refine pw_callV (c := 12) (o := mo_) (As := [ii_ r]) (rest := [ii_ t, ii_ (h7 mSits r), ii_ r, rr_ G mo_]) (pc := 40) dX12_worth_40 (c_tipOf hM h7 (by first | omega | (simp only [n_g2_mRoads, n_h7_mRoads]; omega)) (by first | omega | (simp only [n_g2_mRoads, n_h7_mRoads]; omega)) (fun r r0 r1 => (s_h7 r r0 r1).2) (r) (by first | omega | (simp only [n_g2_mRoads, n_h7_mRoads]; omega)) (s_h7 (r) (by first | omega | (simp only [n_g2_mRoads, n_h7_mRoads]; omega)) (by first | omega | (simp only [n_g2_mRoads, n_h7_mRoads]; omega))).1) lX12_399 mX12_tipOf vX12_tipOf (im_mo_ hM) k_mo_ rfl rfl rfl (by decide) ⟨Nat.zero_le _, Nat.zero_le _⟩ (Nat.le_of_ble_eq_true rfl) (k_i (fun z40 h40 y40 q40 => ?_))
        obtain ⟨rfl, w40⟩ := q40
        refine pw_callV (c := 12) (o := mo_) (As := [ii_ r, ii_ (h7 mSits r), ii_ t, ii_ z40]) (rest := []) (pc := 43) dX12_worth_43 (c_worthOn hM h7 (by first | omega | (simp only [n_g2_mRoads, n_h7_mRoads]; omega)) (by first | omega | (simp only [n_g2_mRoads, n_h7_mRoads]; omega)) P (by rw [qq_h7, n_g2_mRoads, f7 mOp (by decide), f7 mArg (by decide), e2, up_off (by decide), up_off (by decide)]; exact hw) r (h7 mSits r) t z40 (by first | omega | (simp only [n_g2_mRoads, n_h7_mRoads]; omega)) (by first | omega | (simp only [n_g2_mRoads, n_h7_mRoads]; omega)) (by first | omega | (simp only [n_g2_mRoads, n_h7_mRoads]; omega)) (by first | omega | (simp only [n_g2_mRoads, n_h7_mRoads]; omega))) lX12_402 mX12_worthOn vX12_worthOn (im_mo_ hM) k_mo_ rfl rfl rfl (by decide) ⟨Nat.zero_le _, Nat.zero_le _⟩ (Nat.le_of_ble_eq_true rfl) (k_i (fun z43 h43 y43 q43 => ?_))
        obtain ⟨f43, w43⟩ := q43
        refine pw_goto (t := 50) (pc := 46) dX12_worth_46 (by decide) ?_
        exact pw_iret (pc := 50) dX12_worth_50 (by first | omega | (simp only [n_g2_mRoads, n_h7_mRoads]; omega)) (by
                    have k2 : h7 mo_ 0 = 0 := by rw [f7 mo_ (by decide), e2, up_same]
                    have k1 : fr2_ [mSits, mFacts, mPile] [0] h h7 := fr2_tr (by rw [e2]; exact fr2_up (by decide)) (fr2_off (off_mo f7 (by decide)) (by decide))
                    first
                    | exact ⟨k1, k2, (if_f (fun u => p7 u.1)).symm⟩
                    | exact ⟨k1, k2, (if_f (fun u => p15 (by simpa using u.2.1))).symm⟩
                    | exact ⟨k1, k2, (if_f (fun u => p23 (by simpa using u.2.2))).symm⟩
                    | exact ⟨fr2_tr k1 (fr2_off (off_mo f43 (by decide)) (by decide)), by rw [f43 mo_ (by decide)]; exact k2, by
                        rw [if_t ⟨p7, p15, p23⟩, w43, w40]
                        rw [show h7 mRoads = h mRoads by rw [qq_h7, n_g2_mRoads]]
                        show wsi_ (h mRoads) P (h7 mSits) r t = _
                        exact wsi_cg p15 (fun e e0 e1 => by rw [b_h7 e e0 (by rw [qq_h7, n_g2_mRoads]; exact e1), n_g2_mRoads])⟩)
      · simp -failIfUnchanged only [n_h7_mRoads] at p23
        refine pw_if_eq (t := 49) (pc := 26) dX12_worth_26 (by decide) (by first | omega | (simp only [n_g2_mRoads, n_h7_mRoads]; omega)) (fun _ => ?_) (fun c26 => absurd c26 (by decide))
        refine pw_iconst (pc := 49) dX12_worth_49 ?_
        exact pw_iret (pc := 50) dX12_worth_50 (by first | omega | (simp only [n_g2_mRoads, n_h7_mRoads]; omega)) (by
                    have k2 : h7 mo_ 0 = 0 := by rw [f7 mo_ (by decide), e2, up_same]
                    have k1 : fr2_ [mSits, mFacts, mPile] [0] h h7 := fr2_tr (by rw [e2]; exact fr2_up (by decide)) (fr2_off (off_mo f7 (by decide)) (by decide))
                    first
                    | exact ⟨k1, k2, (if_f (fun u => p7 u.1)).symm⟩
                    | exact ⟨k1, k2, (if_f (fun u => p15 (by simpa using u.2.1))).symm⟩
                    | exact ⟨k1, k2, (if_f (fun u => p23 (by simpa using u.2.2))).symm⟩
                    | exact ⟨fr2_tr k1 (fr2_off (off_mo f43 (by decide)) (by decide)), by rw [f43 mo_ (by decide)]; exact k2, by
                        rw [if_t ⟨p7, p15, p23⟩, w43, w40]
                        rw [show h7 mRoads = h mRoads by rw [qq_h7, n_g2_mRoads]]
                        show wsi_ (h mRoads) P (h7 mSits) r t = _
                        exact wsi_cg p15 (fun e e0 e1 => by rw [b_h7 e e0 (by rw [qq_h7, n_g2_mRoads]; exact e1), n_g2_mRoads])⟩)
    · simp -failIfUnchanged only [n_h7_mRoads] at p15
      refine pw_if_eq (t := 49) (pc := 18) dX12_worth_18 (by decide) (by first | omega | (simp only [n_g2_mRoads, n_h7_mRoads]; omega)) (fun _ => ?_) (fun c18 => absurd c18 (by decide))
      refine pw_iconst (pc := 49) dX12_worth_49 ?_
      exact pw_iret (pc := 50) dX12_worth_50 (by first | omega | (simp only [n_g2_mRoads, n_h7_mRoads]; omega)) (by
                  have k2 : h7 mo_ 0 = 0 := by rw [f7 mo_ (by decide), e2, up_same]
                  have k1 : fr2_ [mSits, mFacts, mPile] [0] h h7 := fr2_tr (by rw [e2]; exact fr2_up (by decide)) (fr2_off (off_mo f7 (by decide)) (by decide))
                  first
                  | exact ⟨k1, k2, (if_f (fun u => p7 u.1)).symm⟩
                  | exact ⟨k1, k2, (if_f (fun u => p15 (by simpa using u.2.1))).symm⟩
                  | exact ⟨k1, k2, (if_f (fun u => p23 (by simpa using u.2.2))).symm⟩
                  | exact ⟨fr2_tr k1 (fr2_off (off_mo f43 (by decide)) (by decide)), by rw [f43 mo_ (by decide)]; exact k2, by
                      rw [if_t ⟨p7, p15, p23⟩, w43, w40]
                      rw [show h7 mRoads = h mRoads by rw [qq_h7, n_g2_mRoads]]
                      show wsi_ (h mRoads) P (h7 mSits) r t = _
                      exact wsi_cg p15 (fun e e0 e1 => by rw [b_h7 e e0 (by rw [qq_h7, n_g2_mRoads]; exact e1), n_g2_mRoads])⟩)
  · simp -failIfUnchanged only [n_g2_mRoads] at p7
    refine pw_if_eq (t := 49) (pc := 10) dX12_worth_10 (by decide) (by first | omega | (simp only [n_g2_mRoads]; omega)) (fun _ => ?_) (fun c10 => absurd c10 (by decide))
    refine pw_iconst (pc := 49) dX12_worth_49 ?_
    exact pw_iret (pc := 50) dX12_worth_50 (by first | omega | (simp only [n_g2_mRoads]; omega)) (by
                have k2 : h7 mo_ 0 = 0 := by rw [f7 mo_ (by decide), e2, up_same]
                have k1 : fr2_ [mSits, mFacts, mPile] [0] h h7 := fr2_tr (by rw [e2]; exact fr2_up (by decide)) (fr2_off (off_mo f7 (by decide)) (by decide))
                first
                | exact ⟨k1, k2, (if_f (fun u => p7 u.1)).symm⟩
                | exact ⟨k1, k2, (if_f (fun u => p15 (by simpa using u.2.1))).symm⟩
                | exact ⟨k1, k2, (if_f (fun u => p23 (by simpa using u.2.2))).symm⟩
                | exact ⟨fr2_tr k1 (fr2_off (off_mo f43 (by decide)) (by decide)), by rw [f43 mo_ (by decide)]; exact k2, by
                    rw [if_t ⟨p7, p15, p23⟩, w43, w40]
                    rw [show h7 mRoads = h mRoads by rw [qq_h7, n_g2_mRoads]]
                    show wsi_ (h mRoads) P (h7 mSits) r t = _
                    exact wsi_cg p15 (fun e e0 e1 => by rw [b_h7 e e0 (by rw [qq_h7, n_g2_mRoads]; exact e1), n_g2_mRoads])⟩)

