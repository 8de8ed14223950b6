/-! ===== the draws ===== -/
def gn_ (g : Int) : Int := (g * 1103515245 + 12345) % 2147483648
theorem gn_b (g : Int) : 0 ≤ gn_ g ∧ gn_ g < 2147483648 := by unfold gn_; omega
/-- who comes, of v dashes -/
def cmn_ (ro : Int → Int) (left : Int) (R : Int) : Nat → Int → Int → Int
  | 0, _, _ => -1
  | f + 1, r, v => if v < (if left / 2 ^ r.toNat % 2 = 1 then ro (31 + 4 * r + 1) else 0) then r else cmn_ ro left R f (r + 1) (v - (if left / 2 ^ r.toNat % 2 = 1 then ro (31 + 4 * r + 1) else 0))
theorem cmn_s {ro : Int → Int} {left R r v : Int} {f : Nat} : cmn_ ro left R (f + 1) r v = if v < (if left / 2 ^ r.toNat % 2 = 1 then ro (31 + 4 * r + 1) else 0) then r else cmn_ ro left R f (r + 1) (v - (if left / 2 ^ r.toNat % 2 = 1 then ro (31 + 4 * r + 1) else 0)) := rfl

set_option maxHeartbeats 4000000 in
set_option maxRecDepth 100000 in
theorem c_draw {G : GT_} (hM : okM_ G) (h : PH_) (hg : 0 ≤ h mo_ 58 ∧ h mo_ 58 < 2147483648) (m : Int) (h1 : 1 ≤ m ∧ m ≤ 1000) : PC G yX12_draw cX12_draw 2 (some .int) 1 [rr_ G mo_, ii_ m] h (qi_ (fun z h' => h' = up_ h mo_ 58 (gn_ (h mo_ 58)) ∧ z = gn_ (h mo_ 58) / 65536 % m)) := by
  have t1 : (h mo_ 58 * 1103515245 + 12345).tmod 2147483648 = gn_ (h mo_ 58) := Int.tmod_eq_emod_of_nonneg (by omega)
  have gb := gn_b (h mo_ 58)
  refine PC.of (lv := [some (rr_ G mo_), some (ii_ m)]) (by decide +kernel) (Nat.le_of_ble_eq_true rfl) rfl rfl ?_
  refine pw_aload_n (z := mo_) (pc := 0) dX12_draw_0 rfl rfl ?_
  refine pw_aload_n (z := mo_) (pc := 1) dX12_draw_1 rfl rfl ?_
  refine pw_gJ (x := 58) (pc := 2) dX12_draw_2 fX12_525 (im_mo_ hM) k_mo_ rfl rfl (fun r2 => ?_)
  refine pw_ldc2 (z := 1103515245) (pc := 5) dX12_draw_5 kX12_528 rfl ?_
  refine pw_lmul (pc := 8) dX12_draw_8 ?_
  refine pw_ldc2 (z := 12345) (pc := 9) dX12_draw_9 kX12_530 rfl ?_
  refine pw_ladd (pc := 12) dX12_draw_12 ?_
  refine pw_ldc2 (z := 2147483648) (pc := 13) dX12_draw_13 kX12_532 rfl ?_
  refine pw_lrem (pc := 16) dX12_draw_16 (by first | omega) (by first | omega) ?_
  refine pw_pJ (x := 58) (pc := 17) dX12_draw_17 fX12_525 (im_mo_ hM) k_mo_ rfl rfl (by first | omega) ?_
  obtain ⟨g17, e17⟩ : ∃ x, x = up_ h mo_ 58 ((((h mo_ 58) * 1103515245) + 12345).tmod 2147483648) := ⟨_, rfl⟩
  refine pw_heq e17 ?_
  have v58 : g17 mo_ 58 = gn_ (h mo_ 58) := by rw [e17, up_same, t1]
  have t2 : (g17 mo_ 58).tdiv 65536 = gn_ (h mo_ 58) / 65536 := by rw [v58]; exact Int.tdiv_eq_ediv_of_nonneg gb.1
  have t3 : ((g17 mo_ 58).tdiv 65536).tmod m = gn_ (h mo_ 58) / 65536 % m := by rw [t2]; exact Int.tmod_eq_emod_of_nonneg (by omega)
  have t4 := Int.emod_nonneg (gn_ (h mo_ 58) / 65536) (show m ≠ 0 by omega)
  have t5 := Int.emod_lt_of_pos (gn_ (h mo_ 58) / 65536) (show 0 < m by omega)
  refine pw_aload_n (z := mo_) (pc := 20) dX12_draw_20 rfl rfl ?_
  refine pw_gJ (x := 58) (pc := 21) dX12_draw_21 fX12_525 (im_mo_ hM) k_mo_ rfl rfl (fun r21 => ?_)
  refine pw_ldc2 (z := 65536) (pc := 24) dX12_draw_24 kX12_534 rfl ?_
  refine pw_ldiv (pc := 27) dX12_draw_27 (by first | omega) (by first | omega) ?_
  refine pw_iload_n (z := m) (pc := 28) dX12_draw_28 rfl rfl ?_
  refine pw_i2l (pc := 29) dX12_draw_29 (by first | omega) ?_
  refine pw_lrem (pc := 30) dX12_draw_30 (by first | omega) (by first | omega) ?_
  refine pw_l2i (pc := 31) dX12_draw_31 ?_
  exact pw_iret (pc := 32) dX12_draw_32 (by first | omega) (⟨by rw [e17, t1], t3⟩)

set_option maxHeartbeats 4000000 in
set_option maxRecDepth 100000 in
theorem c_comesNow {G : GT_} (hM : okM_ G) (h : PH_) (hS : 2 ≤ h mRoads 0 ∧ h mRoads 0 ≤ 4) (hR : 0 ≤ h mRoads 2 ∧ h mRoads 2 ≤ h mRoads 0) (hd : ∀ r, 0 ≤ r → r < h mRoads 2 → 1 ≤ h mRoads (31 + 4 * r + 1) ∧ h mRoads (31 + 4 * r + 1) ≤ 9) (hg : 0 ≤ h mo_ 58 ∧ h mo_ 58 < 2147483648) (f : Int) (h3 : 0 ≤ f ∧ f ≤ 15) (hpos : 1 ≤ das_ (h mRoads) f (h mRoads 2).toNat) : PC G yX12_comesNow cX12_comesNow 5 (some .int) 3 [rr_ G mo_, ii_ f] h (qi_ (fun z h' => h' = up_ h mo_ 58 (gn_ (h mo_ 58)) ∧ z = cmn_ (h mRoads) f (h mRoads 2) (h mRoads 2).toNat 0 (gn_ (h mo_ 58) / 65536 % das_ (h mRoads) f (h mRoads 2).toNat))) := by
  refine PC.of (lv := [some (rr_ G mo_), some (ii_ f), none, none, none]) (by decide +kernel) (Nat.le_of_ble_eq_true rfl) rfl rfl ?_
  refine pw_aload_n (z := mo_) (pc := 0) dX12_comesNow_0 rfl rfl ?_
  refine pw_aload_n (z := mo_) (pc := 1) dX12_comesNow_1 rfl rfl ?_
  refine pw_iload_n (z := f) (pc := 2) dX12_comesNow_2 rfl rfl ?_
  refine pw_callV (c := 12) (o := mo_) (As := [ii_ f]) (rest := [rr_ G mo_]) (pc := 3) dX12_comesNow_3 (c_dashes hM h hS hR hd f h3) lX12_491 mX12_dashes vX12_dashes (im_mo_ hM) k_mo_ rfl rfl rfl (by decide) ⟨Nat.zero_le _, Nat.zero_le _⟩ (Nat.le_of_ble_eq_true rfl) (k_i (fun z3 h3 y3 q3 => ?_))
  obtain ⟨rfl, w3⟩ := q3
  have db := das_b (ro := h mRoads) (left := f) (h mRoads 2).toNat (fun q q0 q1 => hd q q0 (by omega))
  refine pw_callV (c := 12) (o := mo_) (As := [ii_ z3]) (rest := []) (pc := 6) dX12_comesNow_6 (c_draw hM h hg z3 (by first | omega)) lX12_536 mX12_draw vX12_draw (im_mo_ hM) k_mo_ rfl rfl rfl (by decide) ⟨Nat.zero_le _, Nat.zero_le _⟩ (Nat.le_of_ble_eq_true rfl) (k_i (fun z6 h6 y6 q6 => ?_))
  obtain ⟨e6, w6⟩ := q6
  have f6 : off_ [mo_] h h6 := by rw [e6]; exact off_up off_rf (by decide)
  rw [w3] at w6
  have n6 : h6 mRoads = h mRoads := by rw [e6, up_off (by decide)]
  have u4 := Int.emod_nonneg (gn_ (h mo_ 58) / 65536) (show das_ (h mRoads) f (h mRoads 2).toNat ≠ 0 by omega)
  have u5 := Int.emod_lt_of_pos (gn_ (h mo_ 58) / 65536) (show 0 < das_ (h mRoads) f (h mRoads 2).toNat by omega)
  refine pw_istore_n (lv1 := [some (rr_ G mo_), some (ii_ f), some (ii_ z6), none, none]) (pc := 9) dX12_comesNow_9 rfl (by decide) rfl rfl ?_
  refine pw_iconst (pc := 10) dX12_comesNow_10 ?_
  refine pw_istore_n (lv1 := [some (rr_ G mo_), some (ii_ f), some (ii_ z6), some (ii_ 0), none]) (pc := 11) dX12_comesNow_11 rfl (by decide) rfl rfl ?_
  have L12 : ∀ (nn : Nat) (v : Int) (r : Int), (0 ≤ r ∧ r ≤ h mRoads 2) → (0 ≤ v ∧ v ≤ 10000) → (cmn_ (h mRoads) f (h mRoads 2) (h mRoads 2 - r).toNat r v = cmn_ (h mRoads) f (h mRoads 2) (h mRoads 2).toNat 0 (gn_ (h mo_ 58) / 65536 % das_ (h mRoads) f (h mRoads 2).toNat)) → ((h mRoads 2 - r + 1 : Int) ≤ nn) → PW G RX12 cX12_comesNow 5 (some .int) (rm_ 3) 0 0 (zm_ G (qi_ (fun z h' => h' = up_ h mo_ 58 (gn_ (h mo_ 58)) ∧ z = cmn_ (h mRoads) f (h mRoads 2) (h mRoads 2).toNat 0 (gn_ (h mo_ 58) / 65536 % das_ (h mRoads) f (h mRoads 2).toNat)))) 12 [some (rr_ G mo_), some (ii_ f), some (ii_ v), some (ii_ r), none] [] h6 := by
    intro nn
    induction nn with
    | zero => intro v r ak av ae ams; exfalso; omega
    | succ nn ih12 =>
      intro v r ak av ae ams
      refine pw_iload_n (z := r) (pc := 12) dX12_comesNow_12 rfl rfl ?_
      refine pw_aload_n (z := mo_) (pc := 13) dX12_comesNow_13 rfl rfl ?_
      refine pw_callV (c := 12) (o := mo_) (As := []) (rest := [ii_ r]) (pc := 14) dX12_comesNow_14 (c_riders hM h6) lX12_334 mX12_riders vX12_riders (im_mo_ hM) k_mo_ rfl rfl rfl (by decide) ⟨Nat.zero_le _, Nat.zero_le _⟩ (Nat.le_of_ble_eq_true rfl) (k_i (fun z14 h14 y14 q14 => ?_))
      obtain ⟨rfl, rfl⟩ := q14
      have n_h6_mRoads : h6 mRoads = h mRoads := (f6 mRoads (by decide))
      rw [n_h6_mRoads] at y14 ⊢
      refine pw_icmp_ge (t := 60) (pc := 17) dX12_comesNow_17 (by decide) (by first | omega | (simp only [n_h6_mRoads]; omega)) (by first | omega | (simp only [n_h6_mRoads]; omega)) (fun c17 => ?_) (fun c17 => ?_)
      · refine pw_iconst (pc := 60) dX12_comesNow_60 ?_
        exact pw_iret (pc := 61) dX12_comesNow_61 (by first | omega | (simp only [n_h6_mRoads]; omega)) (⟨e6, by rw [← ae, show (h mRoads 2 - r).toNat = 0 by omega]; rfl⟩)
      · have tl : (h mRoads 2 - r).toNat = (h mRoads 2 - (r + 1)).toNat + 1 := by omega
        have J39 : ∀ (e : Int), (e = (if f / 2 ^ r.toNat % 2 = 1 then h mRoads (31 + 4 * r + 1) else 0) ∧ 0 ≤ e ∧ e ≤ 9) → PW G RX12 cX12_comesNow 5 (some .int) (rm_ 3) 0 0 (zm_ G (qi_ (fun z h' => h' = up_ h mo_ 58 (gn_ (h mo_ 58)) ∧ z = cmn_ (h mRoads) f (h mRoads 2) (h mRoads 2).toNat 0 (gn_ (h mo_ 58) / 65536 % das_ (h mRoads) f (h mRoads 2).toNat)))) 39 [some (rr_ G mo_), some (ii_ f), some (ii_ v), some (ii_ r), none] [ii_ e] h6 := by
          intro e hv
          refine pw_istore (lv1 := [some (rr_ G mo_), some (ii_ f), some (ii_ v), some (ii_ r), some (ii_ e)]) (pc := 39) dX12_comesNow_39 (by decide) rfl rfl ?_
          refine pw_iload_n (z := v) (pc := 41) dX12_comesNow_41 rfl rfl ?_
          refine pw_iload (z := e) (pc := 42) dX12_comesNow_42 rfl ?_
          refine pw_icmp_ge (t := 49) (pc := 44) dX12_comesNow_44 (by decide) (by first | omega | (simp only [n_h6_mRoads]; omega)) (by first | omega | (simp only [n_h6_mRoads]; omega)) (fun c44 => ?_) (fun c44 => ?_)
          · refine pw_iload_n (z := v) (pc := 49) dX12_comesNow_49 rfl rfl ?_
            refine pw_iload (z := e) (pc := 50) dX12_comesNow_50 rfl ?_
            refine pw_isub (pc := 52) dX12_comesNow_52 ?_
            refine pw_istore_n (lv1 := [some (rr_ G mo_), some (ii_ f), some (ii_ (v - e)), some (ii_ r), some (ii_ e)]) (pc := 53) dX12_comesNow_53 rfl (by decide) rfl rfl ?_
            refine pw_iinc (z := r) (lv1 := [some (rr_ G mo_), some (ii_ f), some (ii_ (v - e)), some (ii_ (r + 1)), some (ii_ e)]) (pc := 54) dX12_comesNow_54 rfl (by decide) rfl rfl ?_
            refine pw_goto (t := 12) (pc := 57) dX12_comesNow_57 (by decide) ?_
            refine pw_less (lv1 := [some (rr_ G mo_), some (ii_ f), some (ii_ (v - e)), some (ii_ (r + 1)), none]) rfl (by intro i v; (match i with | 0 => simp | 1 => simp | 2 => simp | 3 => simp | 4 => simp | n + 5 => simp)) ?_
            exact ih12 _ _ (by omega) (by omega) (by rw [tl, cmn_s, ← hv.1, if_neg (by omega)] at ae; exact ae) (by omega)
          · refine pw_iload_n (z := r) (pc := 47) dX12_comesNow_47 rfl rfl ?_
            exact pw_iret (pc := 48) dX12_comesNow_48 (by first | omega | (simp only [n_h6_mRoads]; omega)) (⟨e6, by rw [← ae, tl, cmn_s, ← hv.1, if_pos (by omega)]⟩)
        refine pw_iload_n (z := f) (pc := 20) dX12_comesNow_20 rfl rfl ?_
        refine pw_iload_n (z := r) (pc := 21) dX12_comesNow_21 rfl rfl ?_
        refine pw_ishr (pc := 22) dX12_comesNow_22 (by first | omega | (simp only [n_h6_mRoads]; omega)) (by first | omega | (simp only [n_h6_mRoads]; omega)) ?_
        refine pw_iconst (pc := 23) dX12_comesNow_23 ?_
        refine pw_iand1 (pc := 24) dX12_comesNow_24 ?_
        refine pw_iconst (pc := 25) dX12_comesNow_25 ?_
        refine pw_icmp_ne (t := 38) (pc := 26) dX12_comesNow_26 (by decide) (by first | omega | (simp only [n_h6_mRoads]; omega)) (by first | omega | (simp only [n_h6_mRoads]; omega)) (fun c26 => ?_) (fun c26 => ?_)
        · refine pw_iconst (pc := 38) dX12_comesNow_38 ?_
          exact J39 _ (by first | (rw [if_pos c26]; have := hd r ak.1 (by omega); omega) | (rw [if_neg c26]; omega))
        · refine pw_aload_n (z := mo_) (pc := 29) dX12_comesNow_29 rfl rfl ?_
          refine pw_iload_n (z := r) (pc := 30) dX12_comesNow_30 rfl rfl ?_
          refine pw_iconst (pc := 31) dX12_comesNow_31 ?_
          refine pw_callV (c := 12) (o := mo_) (As := [ii_ r, ii_ 1]) (rest := []) (pc := 32) dX12_comesNow_32 (c_riderOf hM h6 (r) (1) (by first | omega | (simp only [n_h6_mRoads]; omega)) (by first | omega | (simp only [n_h6_mRoads]; omega))) lX12_355 mX12_riderOf vX12_riderOf (im_mo_ hM) k_mo_ rfl rfl rfl (by decide) ⟨Nat.zero_le _, Nat.zero_le _⟩ (Nat.le_of_ble_eq_true rfl) (k_i (fun z32 h32 y32 q32 => ?_))
          obtain ⟨rfl, rfl⟩ := q32
          rw [n_h6_mRoads] at y32 ⊢
          refine pw_goto (t := 39) (pc := 35) dX12_comesNow_35 (by decide) ?_
          exact J39 _ (by first | (rw [if_pos c26]; have := hd r ak.1 (by omega); omega) | (rw [if_neg c26]; omega))
  exact L12 _ _ _ (by omega) (by omega) (by rw [Int.sub_zero, w6]) (Int.self_le_toNat _)

