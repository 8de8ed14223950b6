set_option maxHeartbeats 4000000 in
set_option maxRecDepth 100000 in
theorem c_readGap {G : GT_} (hM : okM_ G) (h : PH_) (tk : Nat → TK_) (N : Nat) (Z : ZT_) (a : Nat) (H : ZR_ tk N Z h a) (hn : (tk a).1 ≠ 0) : PC G yX12_readGap cX12_readGap 2 none 5 [rr_ G mo_] h (qv_ (fun h' => FRL_ h h' ∧ LP_ tk N h' (gln_ tk Z a))) := by
  have H0 := H
  obtain ⟨H1, H2, H3, H4, H5, H6, H7, H8⟩ := H0
  have R7 := RP_7 (X := .ok a) H1
  have A7 := H1.2.1
  have A8 := H1.2.2.2
  obtain ⟨v80, v81, v82, v83, v84, v90⟩ := roA_8 H2
  obtain ⟨⟨y0, y1, y2, y3, y4, y5⟩, yr, ys, ya, yn, ym⟩ := H8
  obtain ⟨n9, P9⟩ := RP_n H1 hn
  refine PC.of (lv := [some (rr_ G mo_), none]) (by decide +kernel) (Nat.le_of_ble_eq_true rfl) rfl rfl ?_
  refine pw_aload_n (z := mo_) (pc := 0) dX12_readGap_0 rfl rfl ?_
  refine pw_dup (pc := 1) dX12_readGap_1 rfl ?_
  refine pw_gI (x := 7) (pc := 2) dX12_readGap_2 fX12_215 (im_mo_ hM) k_mo_ rfl rfl (fun r2 => ?_)
  refine pw_iconst (pc := 5) dX12_readGap_5 ?_
  refine pw_iadd (pc := 6) dX12_readGap_6 ?_
  refine pw_pI (x := 7) (pc := 7) dX12_readGap_7 fX12_215 (im_mo_ hM) k_mo_ rfl rfl (by first | omega) ?_
  obtain ⟨g7, e7⟩ : ∃ x, x = up_ h mo_ 7 ((h mo_ 7) + 1) := ⟨_, rfl⟩
  refine pw_heq e7 ?_
  have f7 : fr7_ h g7 := by rw [e7]; exact fr7_7
  rw [← e7] at P9
  have s80 : h mRoads 80 = Z.1 0 := v80
  refine pw_aload_n (z := mo_) (pc := 10) dX12_readGap_10 rfl rfl ?_
  refine pw_iconst (pc := 11) dX12_readGap_11 ?_
  refine pw_aload_n (z := mo_) (pc := 12) dX12_readGap_12 rfl rfl ?_
  refine pw_callV (c := 12) (o := mo_) (As := []) (rest := [ii_ 0, rr_ G mo_]) (pc := 13) dX12_readGap_13 (c_readSeats hM g7) lX12_297 mX12_readSeats vX12_readSeats (im_mo_ hM) k_mo_ rfl rfl rfl (by decide) ⟨Nat.zero_le _, Nat.zero_le _⟩ (Nat.le_of_ble_eq_true rfl) (k_i (fun z13 h13 y13 q13 => ?_))
  obtain ⟨rfl, rfl⟩ := q13
  have n_g7_mRoads : g7 mRoads = h mRoads := (by rw [e7]; exact up_off (by decide))
  rw [n_g7_mRoads] at y13 ⊢
  rw [s80]
  refine pw_iconst (pc := 16) dX12_readGap_16 ?_
  refine pw_isub (pc := 17) dX12_readGap_17 ?_
  refine pw_callV (c := 12) (o := mo_) (As := [ii_ 0, ii_ ((Z.1 0) - 2)]) (rest := []) (pc := 18) dX12_readGap_18 (c_takeNumber hM g7 tk N 0 (Z.1 0 - 2) (by first | omega | (simp only [n_g7_mRoads]; omega)) (by first | omega | (simp only [n_g7_mRoads]; omega)) (.ok (a + 1)) P9) lX12_236 mX12_takeNumber vX12_takeNumber (im_mo_ hM) k_mo_ rfl rfl rfl (by decide) ⟨Nat.zero_le _, Nat.zero_le _⟩ (Nat.le_of_ble_eq_true rfl) (k_i (fun z18 h18 y18 q18 => ?_))
  obtain ⟨f18, r18⟩ := q18
  have s18 : (0 ≤ h18 mo_ 8 ∧ h18 mo_ 8 < 2147483648) := (RP_7 (RP2_7 r18)).2.2.2.2
  have r19 : RP2_ tk N h18 z18 (tkn_ tk 0 (Z.1 0 - 2) (a + 1)) := r18
  refine pw_istore_n (lv1 := [some (rr_ G mo_), some (ii_ z18)]) (pc := 21) dX12_readGap_21 rfl (by decide) rfl rfl ?_
  have J59 : ∀ (hb : PH_), ((∃ (q9 : Int × Nat), tkn_ tk 0 (Z.1 0 - 2) (a + 1) = .ok q9 ∧ z18 = q9.1 ∧ (hb = h18 ∧ RPO_ tk N hb (a + 2)) ∧ ¬ Z.1 10 / 2 ^ q9.1.toNat % 2 = 1) ∨ (∃ e, gln_ tk Z a = .error e ∧ RPE_ tk N hb e)) → (fr7_ h hb) → PW G RX12 cX12_readGap 2 none (rm_ 5) 0 0 (zm_ G (qv_ (fun h' => FRL_ h h' ∧ LP_ tk N h' (gln_ tk Z a)))) 59 [some (rr_ G mo_), some (ii_ z18)] [] hb := by
    intro hb hc fc
    have b8 : 0 ≤ hb mo_ 8 ∧ hb mo_ 8 < 2147483648 := by
      rcases hc with ⟨q9, x1, x3, ⟨_, w3⟩, nt⟩ | ⟨e, q1, q2⟩
      · have := w3.2.2.2; omega
      · have := q2.2.2; omega
    refine pw_aload_n (z := mo_) (pc := 59) dX12_readGap_59 rfl rfl ?_
    refine pw_gI (x := 8) (pc := 60) dX12_readGap_60 fX12_218 (im_mo_ hM) k_mo_ rfl rfl (fun r60 => ?_)
    refine pw_if_ne (t := 79) (pc := 63) dX12_readGap_63 (by decide) (by first | omega | (simp only [n_g7_mRoads]; omega)) (fun c63 => ?_) (fun c63 => ?_)
    · exact pw_vret (pc := 79) dX12_readGap_79 (by
                refine ⟨FRL_7 fc, ?_⟩
                rcases hc with ⟨q9, x1, x3, ⟨_, w3⟩, nt⟩ | ⟨e, q1, q2⟩
                · exfalso; have := w3.2.2.2; omega
                · rw [q1]; exact q2)
    · obtain ⟨q9, x1, x3, hh, nt⟩ : ∃ (q9 : Int × Nat), tkn_ tk 0 (Z.1 0 - 2) (a + 1) = .ok q9 ∧ z18 = q9.1 ∧ (hb = h18 ∧ RPO_ tk N hb (a + 2)) ∧ ¬ Z.1 10 / 2 ^ q9.1.toNat % 2 = 1 := by
        rcases hc with u | ⟨e, q1, q2⟩
        · exact u
        · exfalso; have := q2.2.2; omega
      have T9 := tkn_o x1
      have rr : hb mRoads 90 = Z.1 10 := by rw [fc.1 mRoads (by decide)]; exact v90
      have bs := bset_ y5 (show 0 ≤ q9.1 ∧ q9.1 < 4 by omega) nt
      have p8 := p8_ (s := z18) (by omega)
      refine pw_aload_n (z := mo_) (pc := 66) dX12_readGap_66 rfl rfl ?_
      refine pw_getR (r := mRoads) (pc := 67) dX12_readGap_67 fX12_97 (im_mo_ hM) k_mo_ rfl fr_mRoads ?_
      refine pw_bipush (pc := 70) dX12_readGap_70 rfl ?_
      refine pw_dup2 (pc := 72) dX12_readGap_72 rfl rfl ?_
      refine pw_iald (pc := 73) dX12_readGap_73 (im_mRoads hM) k_mRoads 160 l_mRoads (by first | omega | (simp only [n_g7_mRoads]; omega)) (by first | omega | (simp only [n_g7_mRoads]; omega)) (by first | omega | (simp only [n_g7_mRoads]; omega)) (fun r73 => ?_)
      refine pw_iconst (pc := 74) dX12_readGap_74 ?_
      refine pw_iload_n (z := z18) (pc := 75) dX12_readGap_75 rfl rfl ?_
      refine pw_ishl1 (pc := 76) dX12_readGap_76 (by first | omega | (simp only [n_g7_mRoads]; omega)) ?_
      refine pw_iorX (pc := 77) dX12_readGap_77 (by first | omega | (simp only [n_g7_mRoads]; omega)) (by first | omega | (simp only [n_g7_mRoads]; omega)) (fun w77 r77 x77 => ?_)
      refine pw_iast (pc := 78) dX12_readGap_78 (im_mRoads hM) k_mRoads 160 l_mRoads (by first | omega | (simp only [n_g7_mRoads]; omega)) (by first | omega | (simp only [n_g7_mRoads]; omega)) (by first | omega | (simp only [n_g7_mRoads]; omega)) (by first | omega | (simp only [n_g7_mRoads]; omega)) ?_
      obtain ⟨g78, e78⟩ : ∃ x, x = up_ hb mRoads 90 w77 := ⟨_, rfl⟩
      refine pw_heq e78 ?_
      exact pw_vret (pc := 79) dX12_readGap_79 (by
                have wv : w77 = Z.1 10 + 2 ^ q9.1.toNat := by
                  have e1 := x77 (by omega) (by omega)
                  rw [rr, x3] at e1
                  rw [e1]; exact bs.1
                have ff : off_ [mRoads, mo_] h g78 ∧ ∀ k, k ≠ 7 → k ≠ 8 → g78 mo_ k = h mo_ k := ⟨by rw [e78]; exact off_up (off_mo fc.1 (by decide)) (by decide), fun k k1 k2 => by rw [e78, up_off (by decide)]; exact fc.2 k k1 k2⟩
                have lo : ∀ x, x < 90 → g78 mRoads x = h mRoads x := fun x hx => by rw [e78, up_at, if_neg (by omega), fc.1 mRoads (by decide)]
                refine ⟨FRL_x ff (fun x hx => lo x (by omega)), ?_⟩
                have so : gln_ tk Z a = .ok ((ob_ Z.1 10 (Z.1 10 + 2 ^ q9.1.toNat), Z.2), a + 2) := by unfold gln_; rw [bd_o x1, if_f nt]
                rw [so]
                refine ZR_7 (h1 := h) H (by rw [e78]; exact RP_r (X := .ok (a + 2)) hh.2) (by omega) ff (fun x x0 x1 => lo x (by omega)) ?_ (gln_z H.2.2.2.2.2.2.2 so).1
                rw [e78, wv]
                exact roA_u (roA_m H2 (fc.1 mRoads (by decide))) (by omega) (by omega))
  refine pw_aload_n (z := mo_) (pc := 22) dX12_readGap_22 rfl rfl ?_
  refine pw_gI (x := 8) (pc := 23) dX12_readGap_23 fX12_218 (im_mo_ hM) k_mo_ rfl rfl (fun r23 => ?_)
  refine pw_if_ne (t := 59) (pc := 26) dX12_readGap_26 (by decide) (by first | omega | (simp only [n_g7_mRoads]; omega)) (fun c26 => ?_) (fun c26 => ?_)
  · exact J59 _ (by
            first
            | exact Or.inl ⟨q9, x1, x3.2, ⟨rfl, by rw [show a + 2 = q9.2 by omega]; exact x3.1⟩, by rw [← rr, ← x3.2]; exact c41⟩
            | (have w := RP_w (w := 3) k2 (by omega)
               refine Or.inr ⟨flt_ tk 3 (a + 1), ?_, by rw [q56]; exact w.2⟩
               unfold gln_
               rw [bd_o x1, if_t (by rw [← rr, ← x3.2]; exact c41)])
            | (cases hq : tkn_ tk 0 (Z.1 0 - 2) (a + 1) with
               | ok q => exfalso; rw [hq] at r19; have := r19.1.2.2.2; omega
               | error e => rw [hq] at r19; exact Or.inr ⟨e, by unfold gln_; rw [bd_e hq], r19.1⟩)) (by first | (have w := RP_w (w := 3) k2 (by omega); rw [q56, w.1, e51]; exact fr7_tr (fr7_tr (fr7_tr f7 f18) fr7_7) fr7_8) | exact fr7_tr f7 f18)
  · obtain ⟨q9, x1, x3⟩ : ∃ q : Int × Nat, tkn_ tk 0 (Z.1 0 - 2) (a + 1) = .ok q ∧ RPO_ tk N h18 q.2 ∧ z18 = q.1 := by
      cases hq : tkn_ tk 0 (Z.1 0 - 2) (a + 1) with
      | ok q => rw [hq] at r19; exact ⟨q, rfl, r19⟩
      | error e => exfalso; rw [hq] at r19; have := r19.1.2.2; omega
    have T9 := tkn_o x1
    have rr : h18 mRoads 90 = Z.1 10 := by rw [f18.1 mRoads (by decide), f7.1 mRoads (by decide)]; exact v90
    refine pw_aload_n (z := mo_) (pc := 29) dX12_readGap_29 rfl rfl ?_
    refine pw_getR (r := mRoads) (pc := 30) dX12_readGap_30 fX12_97 (im_mo_ hM) k_mo_ rfl fr_mRoads ?_
    refine pw_bipush (pc := 33) dX12_readGap_33 rfl ?_
    refine pw_iald (pc := 35) dX12_readGap_35 (im_mRoads hM) k_mRoads 160 l_mRoads (by first | omega | (simp only [n_g7_mRoads]; omega)) (by first | omega | (simp only [n_g7_mRoads]; omega)) (by first | omega | (simp only [n_g7_mRoads]; omega)) (fun r35 => ?_)
    refine pw_iload_n (z := z18) (pc := 36) dX12_readGap_36 rfl rfl ?_
    refine pw_ishr (pc := 37) dX12_readGap_37 (by first | omega | (simp only [n_g7_mRoads]; omega)) (by first | omega | (simp only [n_g7_mRoads]; omega)) ?_
    refine pw_iconst (pc := 38) dX12_readGap_38 ?_
    refine pw_iand1 (pc := 39) dX12_readGap_39 ?_
    refine pw_iconst (pc := 40) dX12_readGap_40 ?_
    refine pw_icmp_ne (t := 59) (pc := 41) dX12_readGap_41 (by decide) (by first | omega | (simp only [n_g7_mRoads]; omega)) (by first | omega | (simp only [n_g7_mRoads]; omega)) (fun c41 => ?_) (fun c41 => ?_)
    · exact J59 _ (by
              first
              | exact Or.inl ⟨q9, x1, x3.2, ⟨rfl, by rw [show a + 2 = q9.2 by omega]; exact x3.1⟩, by rw [← rr, ← x3.2]; exact c41⟩
              | (have w := RP_w (w := 3) k2 (by omega)
                 refine Or.inr ⟨flt_ tk 3 (a + 1), ?_, by rw [q56]; exact w.2⟩
                 unfold gln_
                 rw [bd_o x1, if_t (by rw [← rr, ← x3.2]; exact c41)])
              | (cases hq : tkn_ tk 0 (Z.1 0 - 2) (a + 1) with
                 | ok q => exfalso; rw [hq] at r19; have := r19.1.2.2.2; omega
                 | error e => rw [hq] at r19; exact Or.inr ⟨e, by unfold gln_; rw [bd_e hq], r19.1⟩)) (by first | (have w := RP_w (w := 3) k2 (by omega); rw [q56, w.1, e51]; exact fr7_tr (fr7_tr (fr7_tr f7 f18) fr7_7) fr7_8) | exact fr7_tr f7 f18)
    · have e90 : q9.2 = a + 2 := by omega
      rw [e90] at x3
      have b7 := x3.1.2.1
      refine pw_aload_n (z := mo_) (pc := 44) dX12_readGap_44 rfl rfl ?_
      refine pw_dup (pc := 45) dX12_readGap_45 rfl ?_
      refine pw_gI (x := 7) (pc := 46) dX12_readGap_46 fX12_215 (im_mo_ hM) k_mo_ rfl rfl (fun r46 => ?_)
      refine pw_iconst (pc := 49) dX12_readGap_49 ?_
      refine pw_isub (pc := 50) dX12_readGap_50 ?_
      refine pw_pI (x := 7) (pc := 51) dX12_readGap_51 fX12_215 (im_mo_ hM) k_mo_ rfl rfl (by first | omega | (simp only [n_g7_mRoads]; omega)) ?_
      obtain ⟨g51, e51⟩ : ∃ x, x = up_ h18 mo_ 7 ((h18 mo_ 7) - 1) := ⟨_, rfl⟩
      refine pw_heq e51 ?_
      have k2 : RPO_ tk N g51 (a + 1) := by
        have x31 := x3.1
        refine ⟨RB_7 x31.1 (by rw [e51]; exact fr7_7), by rw [e51, up_same, b7]; omega, by have := x31.2.2.1; omega, by rw [e51, up_at, if_neg (by decide)]; exact x31.2.2.2⟩
      have K7 := RP_7 (X := .ok (a + 1)) k2
      refine pw_aload_n (z := mo_) (pc := 54) dX12_readGap_54 rfl rfl ?_
      refine pw_iconst (pc := 55) dX12_readGap_55 ?_
      refine pw_callV (c := 12) (o := mo_) (As := [ii_ 3]) (rest := []) (pc := 56) dX12_readGap_56 (c_wrong hM g51 (by first | omega | (simp only [n_g7_mRoads]; omega)) (by first | omega | (simp only [n_g7_mRoads]; omega)) 3 (by first | omega | (simp only [n_g7_mRoads]; omega))) lX12_224 mX12_wrong vX12_wrong (im_mo_ hM) k_mo_ rfl rfl rfl (by decide) ⟨Nat.zero_le _, Nat.zero_le _⟩ (Nat.le_of_ble_eq_true rfl) (k_v (fun h56 q56 => ?_))
      exact J59 _ (by
              first
              | exact Or.inl ⟨q9, x1, x3.2, ⟨rfl, by rw [show a + 2 = q9.2 by omega]; exact x3.1⟩, by rw [← rr, ← x3.2]; exact c41⟩
              | (have w := RP_w (w := 3) k2 (by omega)
                 refine Or.inr ⟨flt_ tk 3 (a + 1), ?_, by rw [q56]; exact w.2⟩
                 unfold gln_
                 rw [bd_o x1, if_t (by rw [← rr, ← x3.2]; exact c41)])
              | (cases hq : tkn_ tk 0 (Z.1 0 - 2) (a + 1) with
                 | ok q => exfalso; rw [hq] at r19; have := r19.1.2.2.2; omega
                 | error e => rw [hq] at r19; exact Or.inr ⟨e, by unfold gln_; rw [bd_e hq], r19.1⟩)) (by first | (have w := RP_w (w := 3) k2 (by omega); rw [q56, w.1, e51]; exact fr7_tr (fr7_tr (fr7_tr f7 f18) fr7_7) fr7_8) | exact fr7_tr f7 f18)

set_option maxHeartbeats 4000000 in
set_option maxRecDepth 100000 in
theorem c_readFight {G : GT_} (hM : okM_ G) (h : PH_) (tk : Nat → TK_) (N : Nat) (Z : ZT_) (a : Nat) (H : ZR_ tk N Z h a) (hn : (tk a).1 ≠ 0) : PC G yX12_readFight cX12_readFight 1 none 5 [rr_ G mo_] h (qv_ (fun h' => FRL_ h h' ∧ LP_ tk N h' (fln_ tk Z a))) := by
  have H0 := H
  obtain ⟨H1, H2, H3, H4, H5, H6, H7, H8⟩ := H0
  have R7 := RP_7 (X := .ok a) H1
  have A7 := H1.2.1
  have A8 := H1.2.2.2
  obtain ⟨v80, v81, v82, v83, v84, v90⟩ := roA_8 H2
  obtain ⟨⟨y0, y1, y2, y3, y4, y5⟩, yr, ys, ya, yn, ym⟩ := H8
  obtain ⟨n9, P9⟩ := RP_n H1 hn
  refine PC.of (lv := [some (rr_ G mo_)]) (by decide +kernel) (Nat.le_of_ble_eq_true rfl) rfl rfl ?_
  refine pw_aload_n (z := mo_) (pc := 0) dX12_readFight_0 rfl rfl ?_
  refine pw_gI (x := 20) (pc := 1) dX12_readFight_1 fX12_255 (im_mo_ hM) k_mo_ rfl rfl (fun r1 => ?_)
  refine pw_if_eq (t := 13) (pc := 4) dX12_readFight_4 (by decide) (by first | omega) (fun c4 => ?_) (fun c4 => ?_)
  · refine pw_aload_n (z := mo_) (pc := 13) dX12_readFight_13 rfl rfl ?_
    refine pw_iconst (pc := 14) dX12_readFight_14 ?_
    refine pw_pZ (x := 20) (pc := 15) dX12_readFight_15 fX12_255 (im_mo_ hM) k_mo_ rfl rfl (by first | omega) ?_
    obtain ⟨g15, e15⟩ : ∃ x, x = up_ h mo_ 20 1 := ⟨_, rfl⟩
    refine pw_heq e15 ?_
    refine pw_aload_n (z := mo_) (pc := 18) dX12_readFight_18 rfl rfl ?_
    refine pw_dup (pc := 19) dX12_readFight_19 rfl ?_
    refine pw_gI (x := 7) (pc := 20) dX12_readFight_20 fX12_215 (im_mo_ hM) k_mo_ rfl rfl (fun r20 => ?_)
    have n_g15_mo__7 : g15 mo_ 7 = h mo_ 7 := (by rw [e15, up_at]; exact if_neg (by decide))
    rw [n_g15_mo__7] at r20 ⊢
    refine pw_iconst (pc := 23) dX12_readFight_23 ?_
    refine pw_iadd (pc := 24) dX12_readFight_24 ?_
    refine pw_pI (x := 7) (pc := 25) dX12_readFight_25 fX12_215 (im_mo_ hM) k_mo_ rfl rfl (by first | omega | (simp only [n_g15_mo__7]; omega)) ?_
    obtain ⟨g25, e25⟩ : ∃ x, x = up_ g15 mo_ 7 ((h mo_ 7) + 1) := ⟨_, rfl⟩
    refine pw_heq e25 ?_
    have P10 : RPO_ tk N g25 (a + 1) := by
      refine ⟨RB_mv H1.1 (by rw [e25, up_off (by decide), e15, up_off (by decide)]) (by rw [e25, up_off (by decide), e15, up_off (by decide)]) (by rw [e25, up_off (by decide), e15, up_off (by decide)]) (by rw [e25, up_off (by decide), e15, up_off (by decide)]), by rw [e25, up_same, A7]; omega, n9, by rw [e25, up_at, if_neg (by decide), e15, up_at, if_neg (by decide)]; exact A8⟩
    refine pw_aload_n (z := mo_) (pc := 28) dX12_readFight_28 rfl rfl ?_
    refine pw_getR (r := mRoads) (pc := 29) dX12_readFight_29 fX12_97 (im_mo_ hM) k_mo_ rfl fr_mRoads ?_
    refine pw_bipush (pc := 32) dX12_readFight_32 rfl ?_
    refine pw_aload_n (z := mo_) (pc := 34) dX12_readFight_34 rfl rfl ?_
    refine pw_iconst (pc := 35) dX12_readFight_35 ?_
    refine pw_bipush (pc := 36) dX12_readFight_36 rfl ?_
    refine pw_callV (c := 12) (o := mo_) (As := [ii_ 0, ii_ 99]) (rest := [ii_ 84, rr_ G mRoads]) (pc := 38) dX12_readFight_38 (c_takeNumber hM g25 tk N 0 99 (by first | omega | (simp only [n_g15_mo__7]; omega)) (by first | omega | (simp only [n_g15_mo__7]; omega)) (.ok (a + 1)) P10) lX12_236 mX12_takeNumber vX12_takeNumber (im_mo_ hM) k_mo_ rfl rfl rfl (by decide) ⟨Nat.zero_le _, Nat.zero_le _⟩ (Nat.le_of_ble_eq_true rfl) (k_i (fun z38 h38 y38 q38 => ?_))
    obtain ⟨f38, r38⟩ := q38
    have r39 : RP2_ tk N h38 z38 (tkn_ tk 0 99 (a + 1)) := r38
    refine pw_iast (pc := 41) dX12_readFight_41 (im_mRoads hM) k_mRoads 160 l_mRoads (by first | omega | (simp only [n_g15_mo__7]; omega)) (by first | omega | (simp only [n_g15_mo__7]; omega)) (by first | omega | (simp only [n_g15_mo__7]; omega)) (by first | omega | (simp only [n_g15_mo__7]; omega)) ?_
    obtain ⟨g41, e41⟩ : ∃ x, x = up_ h38 mRoads 84 z38 := ⟨_, rfl⟩
    refine pw_heq e41 ?_
    exact pw_vret (pc := 42) dX12_readFight_42 (by
              have fo : FRL_ h g41 := by
                rw [e41]
                refine FRL_tr (FRL_tr ?_ (FRL_7 f38)) (FRL_r (by decide))
                rw [e25, e15]; exact FRL_tr (FRL_m (by decide)) (FRL_m (by decide))
              refine ⟨fo, ?_⟩
              have e0 : fln_ tk Z a = bd_ (tkn_ tk 0 99 (a + 1)) (fun s => .ok ((ob_ Z.1 4 s.1, Z.2.1, Z.2.2.1, Z.2.2.2.1, 1), a + 2)) := by unfold fln_; rw [if_t (show Z.2.2.2.2 = 0 by rw [← H6]; exact c4)]
              cases hq : tkn_ tk 0 99 (a + 1) with
              | error e =>
                rw [hq] at r39
                rw [e0, bd_e hq]
                show RPE_ tk N g41 e
                rw [e41]; exact RP_r (X := .error e) r39.1
              | ok q =>
                rw [hq] at r39
                have T9 := tkn_o hq
                have so : fln_ tk Z a = .ok ((ob_ Z.1 4 q.1, Z.2.1, Z.2.2.1, Z.2.2.2.1, 1), a + 2) := by rw [e0, bd_o hq]
                rw [so]
                have r1 := r39.1
                rw [T9.2.1] at r1
                refine ZR_kp (ro := ob_ Z.1 4 q.1) (ft := 1) H (by rw [e41]; exact RP_r (X := .ok (a + 2)) r1) (by omega) ?_ ?_ ?_ ?_ ?_ ?_ ?_ (fun x x0 x1 => ?_) ?_ (fln_z H.2.2.2.2.2.2.2 so).1
                · rw [e41, up_off (by decide), f38.1 mOp (by decide), e25, up_off (by decide), e15, up_off (by decide)]
                · rw [e41, up_off (by decide), f38.1 mArg (by decide), e25, up_off (by decide), e15, up_off (by decide)]
                · rw [e41, up_off (by decide), f38.2 13 (by decide) (by decide), e25, up_at, if_neg (by decide), e15, up_at, if_neg (by decide)]
                · rw [e41, up_off (by decide), f38.1 mReadNames (by decide), e25, up_off (by decide), e15, up_off (by decide)]
                · rw [e41, up_off (by decide), f38.1 mReadNameOf (by decide), e25, up_off (by decide), e15, up_off (by decide)]
                · rw [e41, up_off (by decide), f38.2 19 (by decide) (by decide), e25, up_at, if_neg (by decide), e15, up_at, if_neg (by decide)]
                · rw [e41, up_off (by decide), f38.2 20 (by decide) (by decide), e25, up_at, if_neg (by decide), e15, up_same]
                · rw [e41, up_at, if_neg (by omega), f38.1 mRoads (by decide), e25, up_off (by decide), e15, up_off (by decide)]
                · rw [e41, r39.2]; exact roA_u (roA_m H2 (by rw [f38.1 mRoads (by decide), e25, up_off (by decide), e15, up_off (by decide)])) (by omega) (by omega))
  · refine pw_aload_n (z := mo_) (pc := 7) dX12_readFight_7 rfl rfl ?_
    refine pw_iconst (pc := 8) dX12_readFight_8 ?_
    refine pw_callV (c := 12) (o := mo_) (As := [ii_ 3]) (rest := []) (pc := 9) dX12_readFight_9 (c_wrong hM h (by first | omega) (by first | omega) 3 (by first | omega)) lX12_224 mX12_wrong vX12_wrong (im_mo_ hM) k_mo_ rfl rfl rfl (by decide) ⟨Nat.zero_le _, Nat.zero_le _⟩ (Nat.le_of_ble_eq_true rfl) (k_v (fun h9 q9 => ?_))
    exact pw_vret (pc := 12) dX12_readFight_12 (by
              have w := RP_w (w := 3) H1 (by omega)
              unfold fln_
              rw [if_f (show ¬ Z.2.2.2.2 = 0 by rw [← H6]; exact c4), q9]
              exact ⟨by rw [w.1]; exact FRL_m (by decide), w.2⟩)

