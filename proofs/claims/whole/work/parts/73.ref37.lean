set_option maxHeartbeats 4000000 in
set_option maxRecDepth 100000 in
theorem c_thrown {G : GT_} (hM : okM_ G) (h : PH_) : PC G yX12_thrown cX12_thrown 1 (some .int) 1 [rr_ G mo_] h (qi_ (fun z h' => h = h' ∧ z = h mo_ 0)) := by
  refine PC.of (lv := [some (rr_ G mo_)]) (by decide +kernel) (Nat.le_of_ble_eq_true rfl) rfl rfl ?_
  refine pw_aload_n (z := mo_) (pc := 0) dX12_thrown_0 rfl rfl ?_
  refine pw_gI (x := 0) (pc := 1) dX12_thrown_1 fX12_1 (im_mo_ hM) k_mo_ rfl rfl (fun r1 => ?_)
  exact pw_iret (pc := 4) dX12_thrown_4 (by first | omega) (⟨rfl, rfl⟩)

set_option maxHeartbeats 4000000 in
set_option maxRecDepth 100000 in
theorem c_readSeats {G : GT_} (hM : okM_ G) (h : PH_) : PC G yX12_readSeats cX12_readSeats 1 (some .int) 1 [rr_ G mo_] h (qi_ (fun z h' => h = h' ∧ z = h mRoads 80)) := by
  refine PC.of (lv := [some (rr_ G mo_)]) (by decide +kernel) (Nat.le_of_ble_eq_true rfl) rfl rfl ?_
  refine pw_aload_n (z := mo_) (pc := 0) dX12_readSeats_0 rfl rfl ?_
  refine pw_getR (r := mRoads) (pc := 1) dX12_readSeats_1 fX12_97 (im_mo_ hM) k_mo_ rfl fr_mRoads ?_
  refine pw_bipush (pc := 4) dX12_readSeats_4 rfl ?_
  refine pw_iald (pc := 6) dX12_readSeats_6 (im_mRoads hM) k_mRoads 160 l_mRoads (by first | omega) (by first | omega) (by first | omega) (fun r6 => ?_)
  exact pw_iret (pc := 7) dX12_readSeats_7 (by first | omega) (⟨rfl, rfl⟩)

set_option maxHeartbeats 4000000 in
set_option maxRecDepth 100000 in
theorem c_stands {G : GT_} (hM : okM_ G) (h : PH_) (b : Int) (hb : b = 0 ∨ b = 80) : PC G yX12_standsAsAlways cX12_standsAsAlways 3 none 1 [rr_ G mo_, ii_ b] h (qv_ (fun h' => off_ [mRoads] h h' ∧ (∀ x, x < b ∨ b + 80 ≤ x → h' mRoads x = h mRoads x) ∧ ∀ k, 0 ≤ k → k < 80 → h' mRoads (b + k) = ro0_ k)) := by
  refine PC.of (lv := [some (rr_ G mo_), some (ii_ b), none]) (by decide +kernel) (Nat.le_of_ble_eq_true rfl) rfl rfl ?_
  refine pw_iconst (pc := 0) dX12_standsAsAlways_0 ?_
  refine pw_istore_n (lv1 := [some (rr_ G mo_), some (ii_ b), some (ii_ 0)]) (pc := 1) dX12_standsAsAlways_1 rfl (by decide) rfl rfl ?_
  have L2 : ∀ (nn : Nat) (k : Int) (hq : PH_), (0 ≤ k ∧ k ≤ 80) → (off_ [mRoads] h hq) → ((∀ x, x < b ∨ b + 80 ≤ x → hq mRoads x = h mRoads x) ∧ ∀ j, 0 ≤ j → j < k → hq mRoads (b + j) = 0) → ((80 - k + 1 : Int) ≤ nn) → PW G RX12 cX12_standsAsAlways 3 none (rm_ 1) 0 0 (zm_ G (qv_ (fun h' => off_ [mRoads] h h' ∧ (∀ x, x < b ∨ b + 80 ≤ x → h' mRoads x = h mRoads x) ∧ ∀ k, 0 ≤ k → k < 80 → h' mRoads (b + k) = ro0_ k))) 2 [some (rr_ G mo_), some (ii_ b), some (ii_ k)] [] hq := by
    intro nn
    induction nn with
    | zero => intro k hq ak af ar ams; exfalso; omega
    | succ nn ih2 =>
      intro k hq ak af ar ams
      refine pw_iload_n (z := k) (pc := 2) dX12_standsAsAlways_2 rfl rfl ?_
      refine pw_bipush (pc := 3) dX12_standsAsAlways_3 rfl ?_
      refine pw_icmp_ge (t := 23) (pc := 5) dX12_standsAsAlways_5 (by decide) (by first | omega) (by first | omega) (fun c5 => ?_) (fun c5 => ?_)
      · refine pw_aload_n (z := mo_) (pc := 23) dX12_standsAsAlways_23 rfl rfl ?_
        refine pw_getR (r := mRoads) (pc := 24) dX12_standsAsAlways_24 fX12_97 (im_mo_ hM) k_mo_ rfl fr_mRoads ?_
        refine pw_iload_n (z := b) (pc := 27) dX12_standsAsAlways_27 rfl rfl ?_
        refine pw_iconst (pc := 28) dX12_standsAsAlways_28 ?_
        refine pw_iadd (pc := 29) dX12_standsAsAlways_29 ?_
        refine pw_iconst (pc := 30) dX12_standsAsAlways_30 ?_
        refine pw_iast (pc := 31) dX12_standsAsAlways_31 (im_mRoads hM) k_mRoads 160 l_mRoads (by first | omega) (by first | omega) (by first | omega) (by first | omega) ?_
        obtain ⟨g31, e31⟩ : ∃ x, x = up_ hq mRoads (b + 5) (-1) := ⟨_, rfl⟩
        refine pw_heq e31 ?_
        exact pw_vret (pc := 32) dX12_standsAsAlways_32 (by
                  refine ⟨by rw [e31]; exact off_up af (by decide), fun x hx => by rw [e31, up_at, if_neg (by omega)]; exact ar.1 x hx, fun j j0 j1 => ?_⟩
                  rw [e31, up_at]
                  unfold ro0_
                  by_cases c : j = 5
                  · rw [if_pos (by omega), if_pos c]
                  · rw [if_neg (by omega), if_neg c]; exact ar.2 j j0 (by omega))
      · refine pw_aload_n (z := mo_) (pc := 8) dX12_standsAsAlways_8 rfl rfl ?_
        refine pw_getR (r := mRoads) (pc := 9) dX12_standsAsAlways_9 fX12_97 (im_mo_ hM) k_mo_ rfl fr_mRoads ?_
        refine pw_iload_n (z := b) (pc := 12) dX12_standsAsAlways_12 rfl rfl ?_
        refine pw_iload_n (z := k) (pc := 13) dX12_standsAsAlways_13 rfl rfl ?_
        refine pw_iadd (pc := 14) dX12_standsAsAlways_14 ?_
        refine pw_iconst (pc := 15) dX12_standsAsAlways_15 ?_
        refine pw_iast (pc := 16) dX12_standsAsAlways_16 (im_mRoads hM) k_mRoads 160 l_mRoads (by first | omega) (by first | omega) (by first | omega) (by first | omega) ?_
        obtain ⟨g16, e16⟩ : ∃ x, x = up_ hq mRoads (b + k) 0 := ⟨_, rfl⟩
        refine pw_heq e16 ?_
        refine pw_iinc (z := k) (lv1 := [some (rr_ G mo_), some (ii_ b), some (ii_ (k + 1))]) (pc := 17) dX12_standsAsAlways_17 rfl (by decide) rfl rfl ?_
        refine pw_goto (t := 2) (pc := 20) dX12_standsAsAlways_20 (by decide) ?_
        exact ih2 _ _ (by omega) (by rw [e16]; exact off_up af (by decide)) (⟨fun x hx => by rw [e16, up_at, if_neg (by omega)]; exact ar.1 x hx, fun j j0 j1 => by rw [e16, up_at]; by_cases c : j = k; exact (by rw [if_pos (by omega)]); exact (by rw [if_neg (by omega)]; exact ar.2 j j0 (by omega))⟩) (by omega)
  exact L2 _ _ _ (by omega) (off_rf) (⟨fun _ _ => rfl, fun j _ _ => by omega⟩) (Int.self_le_toNat _)

set_option maxHeartbeats 4000000 in
set_option maxRecDepth 100000 in
theorem c_readStretch {G : GT_} (hM : okM_ G) (h : PH_) (tk : Nat → TK_) (N : Nat) (Z : ZT_) (a : Nat) (H : ZR_ tk N Z h a) (hn : (tk a).1 ≠ 0) : PC G yX12_readStretch cX12_readStretch 4 none 4 [rr_ G mo_] h (qv_ (fun h' => FRL_ h h' ∧ LP_ tk N h' (sln_ tk Z a))) := by
  have H0 := H
  obtain ⟨H1, H2, H3, H4, H5, H6, H7, H8⟩ := H0
  have R7 := RP_7 (X := .ok a) H1
  have A7 := H1.2.1
  have A8 := H1.2.2.2
  obtain ⟨v80, v81, v82, v83, v84, v90⟩ := roA_8 H2
  obtain ⟨⟨y0, y1, y2, y3, y4, y5⟩, yr, ys, ya, yn, ym⟩ := H8
  obtain ⟨n9, P9⟩ := RP_n H1 hn
  refine PC.of (lv := [some (rr_ G mo_), none, none, none]) (by decide +kernel) (Nat.le_of_ble_eq_true rfl) rfl rfl ?_
  refine pw_aload_n (z := mo_) (pc := 0) dX12_readStretch_0 rfl rfl ?_
  refine pw_getR (r := mRoads) (pc := 1) dX12_readStretch_1 fX12_97 (im_mo_ hM) k_mo_ rfl fr_mRoads ?_
  refine pw_bipush (pc := 4) dX12_readStretch_4 rfl ?_
  refine pw_iald (pc := 6) dX12_readStretch_6 (im_mRoads hM) k_mRoads 160 l_mRoads (by first | omega) (by first | omega) (by first | omega) (fun r6 => ?_)
  refine pw_istore_n (lv1 := [some (rr_ G mo_), some (ii_ (h mRoads 81)), none, none]) (pc := 7) dX12_readStretch_7 rfl (by decide) rfl rfl ?_
  refine pw_iload_n (z := h mRoads 81) (pc := 8) dX12_readStretch_8 rfl rfl ?_
  refine pw_iconst (pc := 9) dX12_readStretch_9 ?_
  refine pw_icmp_ne (t := 19) (pc := 10) dX12_readStretch_10 (by decide) (by first | omega) (by first | omega) (fun c10 => ?_) (fun c10 => ?_)
  · refine pw_aload_n (z := mo_) (pc := 19) dX12_readStretch_19 rfl rfl ?_
    refine pw_dup (pc := 20) dX12_readStretch_20 rfl ?_
    refine pw_gI (x := 7) (pc := 21) dX12_readStretch_21 fX12_215 (im_mo_ hM) k_mo_ rfl rfl (fun r21 => ?_)
    refine pw_iconst (pc := 24) dX12_readStretch_24 ?_
    refine pw_iadd (pc := 25) dX12_readStretch_25 ?_
    refine pw_pI (x := 7) (pc := 26) dX12_readStretch_26 fX12_215 (im_mo_ hM) k_mo_ rfl rfl (by first | omega) ?_
    obtain ⟨g26, e26⟩ : ∃ x, x = up_ h mo_ 7 ((h mo_ 7) + 1) := ⟨_, rfl⟩
    refine pw_heq e26 ?_
    refine pw_bipush (pc := 29) dX12_readStretch_29 rfl ?_
    refine pw_iconst (pc := 31) dX12_readStretch_31 ?_
    refine pw_iload_n (z := h mRoads 81) (pc := 32) dX12_readStretch_32 rfl rfl ?_
    refine pw_imul (pc := 33) dX12_readStretch_33 ?_
    refine pw_iadd (pc := 34) dX12_readStretch_34 ?_
    refine pw_istore_n (lv1 := [some (rr_ G mo_), some (ii_ (h mRoads 81)), some (ii_ (91 + (5 * (h mRoads 81)))), none]) (pc := 35) dX12_readStretch_35 rfl (by decide) rfl rfl ?_
    refine pw_aload_n (z := mo_) (pc := 36) dX12_readStretch_36 rfl rfl ?_
    refine pw_getR (r := mRoads) (pc := 37) dX12_readStretch_37 fX12_97 (im_mo_ hM) k_mo_ rfl fr_mRoads ?_
    refine pw_iload_n (z := 91 + (5 * (h mRoads 81))) (pc := 40) dX12_readStretch_40 rfl rfl ?_
    refine pw_aload_n (z := mo_) (pc := 41) dX12_readStretch_41 rfl rfl ?_
    refine pw_iconst (pc := 42) dX12_readStretch_42 ?_
    refine pw_bipush (pc := 43) dX12_readStretch_43 rfl ?_
    refine pw_callV (c := 12) (o := mo_) (As := [ii_ 1, ii_ 99]) (rest := [ii_ (91 + (5 * (h mRoads 81))), rr_ G mRoads]) (pc := 45) dX12_readStretch_45 (c_takeNumber hM g26 tk N 1 99 (by first | omega) (by first | omega) (.ok (a + 1)) (by rw [e26]; exact P9)) lX12_236 mX12_takeNumber vX12_takeNumber (im_mo_ hM) k_mo_ rfl rfl rfl (by decide) ⟨Nat.zero_le _, Nat.zero_le _⟩ (Nat.le_of_ble_eq_true rfl) (k_i (fun z45 h45 y45 q45 => ?_))
    obtain ⟨f45, r45⟩ := q45
    have r46 : RP2_ tk N h45 z45 (tkn_ tk 1 99 (a + 1)) := r45
    refine pw_iast (pc := 48) dX12_readStretch_48 (im_mRoads hM) k_mRoads 160 l_mRoads (by first | omega) (by first | omega) (by first | omega) (by first | omega) ?_
    obtain ⟨g48, e48⟩ : ∃ x, x = up_ h45 mRoads (91 + (5 * (h mRoads 81))) z45 := ⟨_, rfl⟩
    refine pw_heq e48 ?_
    refine pw_aload_n (z := mo_) (pc := 49) dX12_readStretch_49 rfl rfl ?_
    refine pw_iconst (pc := 50) dX12_readStretch_50 ?_
    refine pw_callV (c := 12) (o := mo_) (As := [ii_ 2]) (rest := []) (pc := 51) dX12_readStretch_51 (c_takeWord hM g48 tk N 2 (by decide) (bd_ (tkn_ tk 1 99 (a + 1)) (fun q => .ok q.2)) (by rw [e48]; exact RP_r (RP2_7 r46))) lX12_233 mX12_takeWord vX12_takeWord (im_mo_ hM) k_mo_ rfl rfl rfl (by decide) ⟨Nat.zero_le _, Nat.zero_le _⟩ (Nat.le_of_ble_eq_true rfl) (k_v (fun h51 q51 => ?_))
    obtain ⟨f51, r51⟩ := q51
    have fr0 : (off_ [mRoads, mo_] h h51 ∧ (∀ k, k ≠ 7 → k ≠ 8 → h51 mo_ k = h mo_ k) ∧ ∀ x, x < 91 → h51 mRoads x = h mRoads x) := by
      refine ⟨off_tr (off_tr (by rw [e26]; exact off_up off_rf (by decide)) (off_mo f45.1 (by decide))) (off_tr (by rw [e48]; exact off_up off_rf (by decide)) (off_mo f51.1 (by decide))), fun k k1 k2 => by rw [f51.2 k k1 k2, e48, up_off (by decide), f45.2 k k1 k2, e26, up_at, if_neg k1], fun x hx => by rw [f51.1 mRoads (by decide), e48, up_at, if_neg (by omega), f45.1 mRoads (by decide), e26, up_off (by decide)]⟩
    have st0 : (∃ (b : Nat) (ro2 : Int → Int), (sl0_ tk Z.1 a) = stl_ tk (Z.1 0 - 0).toNat (12 + 5 * Z.1 1 + 0) b ro2 ∧ RPO_ tk N h51 b ∧ a < b ∧ roA_ h51 ro2) ∨ (∃ e, (sl0_ tk Z.1 a) = .error e ∧ RPE_ tk N h51 e) := by
      unfold sl0_
      cases hx : tkn_ tk 1 99 (a + 1) with
      | error e =>
        rw [hx] at r51
        exact Or.inr ⟨e, rfl, r51⟩
      | ok q =>
        rw [hx] at r51 r46
        have q2 := tkn_o hx
        cases hw : tkw_ tk 2 q.2 with
        | error e =>
          have r51 : RP_ tk N h51 (tkw_ tk 2 q.2) := r51
          rw [hw] at r51
          exact Or.inr ⟨e, by rw [bd_o rfl, bd_e hw], r51⟩
        | ok b =>
          have r51 : RP_ tk N h51 (tkw_ tk 2 q.2) := r51
          rw [hw] at r51
          have w2 := tkw_o hw
          refine Or.inl ⟨b, ob_ Z.1 (11 + 5 * Z.1 1) q.1, by rw [bd_o rfl, bd_o hw, Int.sub_zero, Int.add_zero], r51, by omega, ?_⟩
          refine roA_m (h := g48) ?_ (f51.1 mRoads (by decide))
          rw [e48, r46.2]
          exact roA_u (roA_m H2 (by rw [f45.1 mRoads (by decide), e26, up_off (by decide)])) (by omega) (by omega)
    refine pw_iconst (pc := 54) dX12_readStretch_54 ?_
    refine pw_istore_n (lv1 := [some (rr_ G mo_), some (ii_ (h mRoads 81)), some (ii_ (91 + (5 * (h mRoads 81)))), some (ii_ 0)]) (pc := 55) dX12_readStretch_55 rfl (by decide) rfl rfl ?_
    have L56 : ∀ (nn : Nat) (s : Int) (hq : PH_), (0 ≤ s ∧ s ≤ Z.1 0) → (off_ [mRoads, mo_] h hq ∧ (∀ k, k ≠ 7 → k ≠ 8 → hq mo_ k = h mo_ k) ∧ ∀ x, x < 91 → hq mRoads x = h mRoads x) → ((∃ (b : Nat) (ro2 : Int → Int), (sl0_ tk Z.1 a) = stl_ tk (Z.1 0 - s).toNat (12 + 5 * Z.1 1 + s) b ro2 ∧ RPO_ tk N hq b ∧ a < b ∧ roA_ hq ro2) ∨ (∃ e, (sl0_ tk Z.1 a) = .error e ∧ RPE_ tk N hq e)) → ((Z.1 0 - s + 1 : Int) ≤ nn) → PW G RX12 cX12_readStretch 4 none (rm_ 4) 0 0 (zm_ G (qv_ (fun h' => FRL_ h h' ∧ LP_ tk N h' (sln_ tk Z a)))) 56 [some (rr_ G mo_), some (ii_ (h mRoads 81)), some (ii_ (91 + (5 * (h mRoads 81)))), some (ii_ s)] [] hq := by
      intro nn
      induction nn with
      | zero => intro s hq ak afr ast ams; exfalso; omega
      | succ nn ih56 =>
        intro s hq ak afr ast ams
        have s80 : hq mRoads 80 = Z.1 0 := by rw [afr.2.2 80 (by decide)]; exact v80
        refine pw_iload_n (z := s) (pc := 56) dX12_readStretch_56 rfl rfl ?_
        refine pw_aload_n (z := mo_) (pc := 57) dX12_readStretch_57 rfl rfl ?_
        refine pw_callV (c := 12) (o := mo_) (As := []) (rest := [ii_ s]) (pc := 58) dX12_readStretch_58 (c_readSeats hM hq) lX12_297 mX12_readSeats vX12_readSeats (im_mo_ hM) k_mo_ rfl rfl rfl (by decide) ⟨Nat.zero_le _, Nat.zero_le _⟩ (Nat.le_of_ble_eq_true rfl) (k_i (fun z58 h58 y58 q58 => ?_))
        obtain ⟨rfl, rfl⟩ := q58
        refine pw_icmp_ge (t := 94) (pc := 61) dX12_readStretch_61 (by decide) (by first | omega) (by first | omega) (fun c61 => ?_) (fun c61 => ?_)
        · have s81 : hq mRoads 81 = Z.1 1 := by rw [afr.2.2 81 (by decide)]; exact v81
          refine pw_aload_n (z := mo_) (pc := 94) dX12_readStretch_94 rfl rfl ?_
          refine pw_getR (r := mRoads) (pc := 95) dX12_readStretch_95 fX12_97 (im_mo_ hM) k_mo_ rfl fr_mRoads ?_
          refine pw_bipush (pc := 98) dX12_readStretch_98 rfl ?_
          refine pw_dup2 (pc := 100) dX12_readStretch_100 rfl rfl ?_
          refine pw_iald (pc := 101) dX12_readStretch_101 (im_mRoads hM) k_mRoads 160 l_mRoads (by first | omega) (by first | omega) (by first | omega) (fun r101 => ?_)
          refine pw_iconst (pc := 102) dX12_readStretch_102 ?_
          refine pw_iadd (pc := 103) dX12_readStretch_103 ?_
          refine pw_iast (pc := 104) dX12_readStretch_104 (im_mRoads hM) k_mRoads 160 l_mRoads (by first | omega) (by first | omega) (by first | omega) (by first | omega) ?_
          obtain ⟨g104, e104⟩ : ∃ x, x = up_ hq mRoads 81 ((hq mRoads 81) + 1) := ⟨_, rfl⟩
          refine pw_heq e104 ?_
          exact pw_vret (pc := 105) dX12_readStretch_105 (by
                    have fo : FRL_ h g104 := ⟨by rw [e104]; exact off_up (off_mo afr.1 (by decide)) (by decide), fun k k1 k2 _ _ _ _ _ => by rw [e104, up_off (by decide)]; exact afr.2.1 k k1 k2, fun x hx => by rw [e104, up_at, if_neg (by omega)]; exact afr.2.2 x (by omega), fun x _ => by rw [e104, up_off (by decide), up_off (by decide), afr.1 mOp (by decide), afr.1 mArg (by decide)]; exact ⟨rfl, rfl⟩⟩
                    refine ⟨fo, ?_⟩
                    have se : sln_ tk Z a = bd_ (sl0_ tk Z.1 a) (fun r => .ok ((ob_ r.1 1 (Z.1 1 + 1), Z.2), r.2)) := by unfold sln_; rw [if_f (show ¬ Z.1 1 = 4 by rw [← v81]; exact c10)]
                    rcases ast with ⟨b, ro2, g1, g2, g3, g4⟩ | ⟨e, u1, u2⟩
                    · have q0 := g2.2.2.2
                      rw [show (Z.1 0 - s).toNat = 0 by omega] at g1
                      unfold stl_ at g1
                      have so : sln_ tk Z a = .ok ((ob_ ro2 1 (Z.1 1 + 1), Z.2), b) := by rw [se, bd_o g1]
                      have sz := (sln_z H.2.2.2.2.2.2.2 so).1
                      rw [so]
                      refine ZR_kp (ro := ob_ ro2 1 (Z.1 1 + 1)) (ft := Z.2.2.2.2) H (by rw [e104]; exact RP_r (X := .ok b) g2) (by omega) ?_ ?_ ?_ ?_ ?_ ?_ ?_ (fun x x0 x1 => by rw [e104, up_at, if_neg (by omega)]; exact afr.2.2 x (by omega)) ?_ sz
                      · rw [e104, up_off (by decide), afr.1 mOp (by decide)]
                      · rw [e104, up_off (by decide), afr.1 mArg (by decide)]
                      · rw [e104, up_off (by decide), afr.2.1 13 (by decide) (by decide)]
                      · rw [e104, up_off (by decide), afr.1 mReadNames (by decide)]
                      · rw [e104, up_off (by decide), afr.1 mReadNameOf (by decide)]
                      · rw [e104, up_off (by decide), afr.2.1 19 (by decide) (by decide)]
                      · rw [e104, up_off (by decide), afr.2.1 20 (by decide) (by decide)]; exact H6
                      · rw [e104, s81]; exact roA_u g4 (by omega) (by omega)
                    · rw [se, bd_e u1]
                      show RPE_ tk N g104 e
                      rw [e104]; exact RP_r (X := .error e) u2)
        · have q8 : 0 ≤ hq mo_ 8 ∧ hq mo_ 8 < 2147483648 := by
            rcases ast with ⟨b, ro2, g1, g2, g3, g4⟩ | ⟨e, u1, u2⟩
            · have := g2.2.2.2; omega
            · have := u2.2.2; omega
          refine pw_aload_n (z := mo_) (pc := 64) dX12_readStretch_64 rfl rfl ?_
          refine pw_gI (x := 8) (pc := 65) dX12_readStretch_65 fX12_218 (im_mo_ hM) k_mo_ rfl rfl (fun r65 => ?_)
          refine pw_if_ne (t := 94) (pc := 68) dX12_readStretch_68 (by decide) (by first | omega) (fun c68 => ?_) (fun c68 => ?_)
          · have s81 : hq mRoads 81 = Z.1 1 := by rw [afr.2.2 81 (by decide)]; exact v81
            refine pw_aload_n (z := mo_) (pc := 94) dX12_readStretch_94 rfl rfl ?_
            refine pw_getR (r := mRoads) (pc := 95) dX12_readStretch_95 fX12_97 (im_mo_ hM) k_mo_ rfl fr_mRoads ?_
            refine pw_bipush (pc := 98) dX12_readStretch_98 rfl ?_
            refine pw_dup2 (pc := 100) dX12_readStretch_100 rfl rfl ?_
            refine pw_iald (pc := 101) dX12_readStretch_101 (im_mRoads hM) k_mRoads 160 l_mRoads (by first | omega) (by first | omega) (by first | omega) (fun r101 => ?_)
            refine pw_iconst (pc := 102) dX12_readStretch_102 ?_
            refine pw_iadd (pc := 103) dX12_readStretch_103 ?_
            refine pw_iast (pc := 104) dX12_readStretch_104 (im_mRoads hM) k_mRoads 160 l_mRoads (by first | omega) (by first | omega) (by first | omega) (by first | omega) ?_
            obtain ⟨g104, e104⟩ : ∃ x, x = up_ hq mRoads 81 ((hq mRoads 81) + 1) := ⟨_, rfl⟩
            refine pw_heq e104 ?_
            exact pw_vret (pc := 105) dX12_readStretch_105 (by
                      have fo : FRL_ h g104 := ⟨by rw [e104]; exact off_up (off_mo afr.1 (by decide)) (by decide), fun k k1 k2 _ _ _ _ _ => by rw [e104, up_off (by decide)]; exact afr.2.1 k k1 k2, fun x hx => by rw [e104, up_at, if_neg (by omega)]; exact afr.2.2 x (by omega), fun x _ => by rw [e104, up_off (by decide), up_off (by decide), afr.1 mOp (by decide), afr.1 mArg (by decide)]; exact ⟨rfl, rfl⟩⟩
                      refine ⟨fo, ?_⟩
                      have se : sln_ tk Z a = bd_ (sl0_ tk Z.1 a) (fun r => .ok ((ob_ r.1 1 (Z.1 1 + 1), Z.2), r.2)) := by unfold sln_; rw [if_f (show ¬ Z.1 1 = 4 by rw [← v81]; exact c10)]
                      rcases ast with ⟨b, ro2, g1, g2, g3, g4⟩ | ⟨e, u1, u2⟩
                      · have q0 := g2.2.2.2
                        rw [show (Z.1 0 - s).toNat = 0 by omega] at g1
                        unfold stl_ at g1
                        have so : sln_ tk Z a = .ok ((ob_ ro2 1 (Z.1 1 + 1), Z.2), b) := by rw [se, bd_o g1]
                        have sz := (sln_z H.2.2.2.2.2.2.2 so).1
                        rw [so]
                        refine ZR_kp (ro := ob_ ro2 1 (Z.1 1 + 1)) (ft := Z.2.2.2.2) H (by rw [e104]; exact RP_r (X := .ok b) g2) (by omega) ?_ ?_ ?_ ?_ ?_ ?_ ?_ (fun x x0 x1 => by rw [e104, up_at, if_neg (by omega)]; exact afr.2.2 x (by omega)) ?_ sz
                        · rw [e104, up_off (by decide), afr.1 mOp (by decide)]
                        · rw [e104, up_off (by decide), afr.1 mArg (by decide)]
                        · rw [e104, up_off (by decide), afr.2.1 13 (by decide) (by decide)]
                        · rw [e104, up_off (by decide), afr.1 mReadNames (by decide)]
                        · rw [e104, up_off (by decide), afr.1 mReadNameOf (by decide)]
                        · rw [e104, up_off (by decide), afr.2.1 19 (by decide) (by decide)]
                        · rw [e104, up_off (by decide), afr.2.1 20 (by decide) (by decide)]; exact H6
                        · rw [e104, s81]; exact roA_u g4 (by omega) (by omega)
                      · rw [se, bd_e u1]
                        show RPE_ tk N g104 e
                        rw [e104]; exact RP_r (X := .error e) u2)
          · refine pw_aload_n (z := mo_) (pc := 71) dX12_readStretch_71 rfl rfl ?_
            refine pw_getR (r := mRoads) (pc := 72) dX12_readStretch_72 fX12_97 (im_mo_ hM) k_mo_ rfl fr_mRoads ?_
            refine pw_iload_n (z := 91 + (5 * (h mRoads 81))) (pc := 75) dX12_readStretch_75 rfl rfl ?_
            refine pw_iconst (pc := 76) dX12_readStretch_76 ?_
            refine pw_iadd (pc := 77) dX12_readStretch_77 ?_
            refine pw_iload_n (z := s) (pc := 78) dX12_readStretch_78 rfl rfl ?_
            refine pw_iadd (pc := 79) dX12_readStretch_79 ?_
            refine pw_aload_n (z := mo_) (pc := 80) dX12_readStretch_80 rfl rfl ?_
            refine pw_iconst (pc := 81) dX12_readStretch_81 ?_
            refine pw_bipush (pc := 82) dX12_readStretch_82 rfl ?_
            obtain ⟨b, ro2, g1, g2, g3, g4⟩ : ∃ (b : Nat) (ro2 : Int → Int), (sl0_ tk Z.1 a) = stl_ tk (Z.1 0 - s).toNat (12 + 5 * Z.1 1 + s) b ro2 ∧ RPO_ tk N hq b ∧ a < b ∧ roA_ hq ro2 := by
              rcases ast with u | ⟨e, u1, u2⟩
              · exact u
              · exfalso; have := u2.2.2; omega
            refine pw_callV (c := 12) (o := mo_) (As := [ii_ 0, ii_ 9]) (rest := [ii_ (((91 + (5 * (h mRoads 81))) + 1) + s), rr_ G mRoads]) (pc := 84) dX12_readStretch_84 (c_takeNumber hM hq tk N 0 9 (by first | omega) (by first | omega) (.ok b) g2) lX12_236 mX12_takeNumber vX12_takeNumber (im_mo_ hM) k_mo_ rfl rfl rfl (by decide) ⟨Nat.zero_le _, Nat.zero_le _⟩ (Nat.le_of_ble_eq_true rfl) (k_i (fun z84 h84 y84 q84 => ?_))
            obtain ⟨f84, r84⟩ := q84
            have r85 : RP2_ tk N h84 z84 (tkn_ tk 0 9 b) := r84
            refine pw_iast (pc := 87) dX12_readStretch_87 (im_mRoads hM) k_mRoads 160 l_mRoads (by first | omega) (by first | omega) (by first | omega) (by first | omega) ?_
            obtain ⟨g87, e87⟩ : ∃ x, x = up_ h84 mRoads (((91 + (5 * (h mRoads 81))) + 1) + s) z84 := ⟨_, rfl⟩
            refine pw_heq e87 ?_
            refine pw_iinc (z := s) (lv1 := [some (rr_ G mo_), some (ii_ (h mRoads 81)), some (ii_ (91 + (5 * (h mRoads 81)))), some (ii_ (s + 1))]) (pc := 88) dX12_readStretch_88 rfl (by decide) rfl rfl ?_
            refine pw_goto (t := 56) (pc := 91) dX12_readStretch_91 (by decide) ?_
            exact ih56 _ _ (by omega) (⟨by rw [e87]; exact off_up (off_tr afr.1 (off_mo f84.1 (by decide))) (by decide), fun k k1 k2 => by rw [e87, up_off (by decide), f84.2 k k1 k2]; exact afr.2.1 k k1 k2, fun x hx => by rw [e87, up_at, if_neg (by omega), f84.1 mRoads (by decide)]; exact afr.2.2 x hx⟩) (by
                      rw [show (Z.1 0 - s).toNat = (Z.1 0 - (s + 1)).toNat + 1 by omega] at g1
                      unfold stl_ at g1
                      cases hx : tkn_ tk 0 9 b with
                      | error e =>
                        rw [hx] at r85
                        rw [bd_e hx] at g1
                        exact Or.inr ⟨e, g1, by rw [e87]; exact RP_r (X := .error e) r85.1⟩
                      | ok q =>
                        rw [hx] at r85
                        rw [bd_o hx] at g1
                        have q2 := tkn_o hx
                        refine Or.inl ⟨q.2, ob_ ro2 (12 + 5 * Z.1 1 + s) q.1, by rw [g1, Int.add_assoc (12 + 5 * Z.1 1)], by rw [e87]; exact RP_r (X := .ok q.2) r85.1, by omega, ?_⟩
                        rw [e87, r85.2]
                        exact roA_u (roA_m g4 (f84.1 mRoads (by decide))) (by omega) (by omega)) (by omega)
    exact L56 _ _ _ (by omega) (fr0) (st0) (Int.self_le_toNat _)
  · refine pw_aload_n (z := mo_) (pc := 13) dX12_readStretch_13 rfl rfl ?_
    refine pw_iconst (pc := 14) dX12_readStretch_14 ?_
    refine pw_callV (c := 12) (o := mo_) (As := [ii_ 5]) (rest := []) (pc := 15) dX12_readStretch_15 (c_wrong hM h (by first | omega) (by first | omega) 5 (by first | omega)) lX12_224 mX12_wrong vX12_wrong (im_mo_ hM) k_mo_ rfl rfl rfl (by decide) ⟨Nat.zero_le _, Nat.zero_le _⟩ (Nat.le_of_ble_eq_true rfl) (k_v (fun h15 q15 => ?_))
    exact pw_vret (pc := 18) dX12_readStretch_18 (by
              have w := RP_w (w := 5) H1 (by omega)
              unfold sln_
              rw [if_t (by omega), q15]
              exact ⟨by rw [w.1]; exact FRL_m (by decide), w.2⟩)

