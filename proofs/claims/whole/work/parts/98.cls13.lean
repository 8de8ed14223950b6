set_option maxHeartbeats 4000000 in
set_option maxRecDepth 100000 in
theorem d_clear {G : GT_} (hC : okC_ G) (h : PH_) (o : Nat) (ho : is6_ o) : PC G yX6_clear cX6_clear 1 none 2 [rr_ G o] h (qv_ (fun h' => off_ [o, o + 6, o + 7, o + 8, o + 12, o + 13, o + 15] h h' ∧ (h' o 0 = 2 ∧ h' o 1 = 0 ∧ h' o 2 = 0 ∧ h' o 3 = 0 ∧ h' o 4 = 0 ∧ h' o 5 = 0 ∧ h' o 6 = 0 ∧ h' o 7 = 0) ∧ h' (o + 8) 3 = 0 ∧ (∀ r, 0 ≤ r → r < 4 → h' (o + 6) r = 0 ∧ h' (o + 7) r = 0) ∧ (∀ k, 0 ≤ k → k < 5 → h' (o + 12) k = 0 ∧ h' (o + 13) k = 0) ∧ (∀ x, 0 ≤ x → x < 192 → h' (o + 15) x = -1))) := by
  refine PC.of (lv := [some (rr_ G o)]) (by decide +kernel) (Nat.le_of_ble_eq_true rfl) rfl rfl ?_
  refine pw_aload_n (z := o) (pc := 0) dX6_clear_0 rfl rfl ?_
  refine pw_iconst (pc := 1) dX6_clear_1 ?_
  refine pw_pI (x := 0) (pc := 2) dX6_clear_2 fX6_53 (hC _ (by omega)) (kd6_0 ho) rfl rfl (by first | omega) ?_
  obtain ⟨g2, e2⟩ : ∃ x, x = up_ h o 0 2 := ⟨_, rfl⟩
  refine pw_heq e2 ?_
  refine pw_aload_n (z := o) (pc := 5) dX6_clear_5 rfl rfl ?_
  refine pw_iconst (pc := 6) dX6_clear_6 ?_
  refine pw_pI (x := 1) (pc := 7) dX6_clear_7 fX6_57 (hC _ (by omega)) (kd6_0 ho) rfl rfl (by first | omega) ?_
  obtain ⟨g7, e7⟩ : ∃ x, x = up_ g2 o 1 0 := ⟨_, rfl⟩
  refine pw_heq e7 ?_
  refine pw_aload_n (z := o) (pc := 10) dX6_clear_10 rfl rfl ?_
  refine pw_iconst (pc := 11) dX6_clear_11 ?_
  refine pw_pI (x := 2) (pc := 12) dX6_clear_12 fX6_60 (hC _ (by omega)) (kd6_0 ho) rfl rfl (by first | omega) ?_
  obtain ⟨g12, e12⟩ : ∃ x, x = up_ g7 o 2 0 := ⟨_, rfl⟩
  refine pw_heq e12 ?_
  refine pw_aload_n (z := o) (pc := 15) dX6_clear_15 rfl rfl ?_
  refine pw_iconst (pc := 16) dX6_clear_16 ?_
  refine pw_pI (x := 3) (pc := 17) dX6_clear_17 fX6_63 (hC _ (by omega)) (kd6_0 ho) rfl rfl (by first | omega) ?_
  obtain ⟨g17, e17⟩ : ∃ x, x = up_ g12 o 3 0 := ⟨_, rfl⟩
  refine pw_heq e17 ?_
  refine pw_aload_n (z := o) (pc := 20) dX6_clear_20 rfl rfl ?_
  refine pw_iconst (pc := 21) dX6_clear_21 ?_
  refine pw_pI (x := 4) (pc := 22) dX6_clear_22 fX6_66 (hC _ (by omega)) (kd6_0 ho) rfl rfl (by first | omega) ?_
  obtain ⟨g22, e22⟩ : ∃ x, x = up_ g17 o 4 0 := ⟨_, rfl⟩
  refine pw_heq e22 ?_
  refine pw_aload_n (z := o) (pc := 25) dX6_clear_25 rfl rfl ?_
  refine pw_iconst (pc := 26) dX6_clear_26 ?_
  refine pw_pI (x := 5) (pc := 27) dX6_clear_27 fX6_69 (hC _ (by omega)) (kd6_0 ho) rfl rfl (by first | omega) ?_
  obtain ⟨g27, e27⟩ : ∃ x, x = up_ g22 o 5 0 := ⟨_, rfl⟩
  refine pw_heq e27 ?_
  refine pw_aload_n (z := o) (pc := 30) dX6_clear_30 rfl rfl ?_
  refine pw_iconst (pc := 31) dX6_clear_31 ?_
  refine pw_pZ (x := 6) (pc := 32) dX6_clear_32 fX6_72 (hC _ (by omega)) (kd6_0 ho) rfl rfl (by first | omega) ?_
  obtain ⟨g32, e32⟩ : ∃ x, x = up_ g27 o 6 0 := ⟨_, rfl⟩
  refine pw_heq e32 ?_
  refine pw_aload_n (z := o) (pc := 35) dX6_clear_35 rfl rfl ?_
  refine pw_iconst (pc := 36) dX6_clear_36 ?_
  refine pw_pI (x := 7) (pc := 37) dX6_clear_37 fX6_76 (hC _ (by omega)) (kd6_0 ho) rfl rfl (by first | omega) ?_
  obtain ⟨g37, e37⟩ : ∃ x, x = up_ g32 o 7 0 := ⟨_, rfl⟩
  refine pw_heq e37 ?_
  refine pw_aload_n (z := o) (pc := 40) dX6_clear_40 rfl rfl ?_
  refine pw_getR (r := (o + 8)) (pc := 41) dX6_clear_41 fX6_37 (hC _ (by omega)) (kd6_0 ho) rfl rfl ?_
  refine pw_iconst (pc := 44) dX6_clear_44 ?_
  refine pw_pI (x := 3) (pc := 45) dX6_clear_45 fX6_79 (hC _ (by omega)) (kd6_8 ho) rfl rfl (by first | omega) ?_
  obtain ⟨g45, e45⟩ : ∃ x, x = up_ g37 (o + 8) 3 0 := ⟨_, rfl⟩
  refine pw_heq e45 ?_
  refine pw_aload_n (z := o) (pc := 48) dX6_clear_48 rfl rfl ?_
  refine pw_getR (r := (o + 6)) (pc := 49) dX6_clear_49 fX6_28 (hC _ (by omega)) (kd6_0 ho) rfl rfl ?_
  refine pw_iconst (pc := 52) dX6_clear_52 ?_
  refine pw_callS (As := [rr_ G (o + 6), ii_ 0]) (rest := []) (pc := 53) dX6_clear_53 (j_fill hC g45 (o + 6) 4 0 (by first | omega) (kd6_6 ho) (ln6_6 ho) (by omega) (by decide)) lX6_82 mJ7_fill_53178 sJ7_fill_53178 rfl rfl (by decide) ⟨Nat.zero_le _, Nat.zero_le _⟩ (Nat.le_of_ble_eq_true rfl) (k_v (fun h53 e53 => ?_))
  have f53 : off_ [(o + 6)] g45 h53 := fun j hj => by rw [e53]; exact sc_off (by simpa using hj)
  refine pw_aload_n (z := o) (pc := 56) dX6_clear_56 rfl rfl ?_
  refine pw_getR (r := (o + 7)) (pc := 57) dX6_clear_57 fX6_31 (hC _ (by omega)) (kd6_0 ho) rfl rfl ?_
  refine pw_iconst (pc := 60) dX6_clear_60 ?_
  refine pw_callS (As := [rr_ G (o + 7), ii_ 0]) (rest := []) (pc := 61) dX6_clear_61 (j_fill hC h53 (o + 7) 4 0 (by first | omega) (kd6_7 ho) (ln6_7 ho) (by omega) (by decide)) lX6_82 mJ7_fill_53178 sJ7_fill_53178 rfl rfl (by decide) ⟨Nat.zero_le _, Nat.zero_le _⟩ (Nat.le_of_ble_eq_true rfl) (k_v (fun h61 e61 => ?_))
  have f61 : off_ [(o + 7)] h53 h61 := fun j hj => by rw [e61]; exact sc_off (by simpa using hj)
  refine pw_aload_n (z := o) (pc := 64) dX6_clear_64 rfl rfl ?_
  refine pw_getR (r := (o + 12)) (pc := 65) dX6_clear_65 fX6_41 (hC _ (by omega)) (kd6_0 ho) rfl rfl ?_
  refine pw_iconst (pc := 68) dX6_clear_68 ?_
  refine pw_callS (As := [rr_ G (o + 12), ii_ 0]) (rest := []) (pc := 69) dX6_clear_69 (j_fill hC h61 (o + 12) 5 0 (by first | omega) (kd6_12 ho) (ln6_12 ho) (by omega) (by decide)) lX6_82 mJ7_fill_53178 sJ7_fill_53178 rfl rfl (by decide) ⟨Nat.zero_le _, Nat.zero_le _⟩ (Nat.le_of_ble_eq_true rfl) (k_v (fun h69 e69 => ?_))
  have f69 : off_ [(o + 12)] h61 h69 := fun j hj => by rw [e69]; exact sc_off (by simpa using hj)
  refine pw_aload_n (z := o) (pc := 72) dX6_clear_72 rfl rfl ?_
  refine pw_getR (r := (o + 13)) (pc := 73) dX6_clear_73 fX6_44 (hC _ (by omega)) (kd6_0 ho) rfl rfl ?_
  refine pw_iconst (pc := 76) dX6_clear_76 ?_
  refine pw_callS (As := [rr_ G (o + 13), ii_ 0]) (rest := []) (pc := 77) dX6_clear_77 (j_fill hC h69 (o + 13) 5 0 (by first | omega) (kd6_13 ho) (ln6_13 ho) (by omega) (by decide)) lX6_82 mJ7_fill_53178 sJ7_fill_53178 rfl rfl (by decide) ⟨Nat.zero_le _, Nat.zero_le _⟩ (Nat.le_of_ble_eq_true rfl) (k_v (fun h77 e77 => ?_))
  have f77 : off_ [(o + 13)] h69 h77 := fun j hj => by rw [e77]; exact sc_off (by simpa using hj)
  refine pw_aload_n (z := o) (pc := 80) dX6_clear_80 rfl rfl ?_
  refine pw_getR (r := (o + 15)) (pc := 81) dX6_clear_81 fX6_50 (hC _ (by omega)) (kd6_0 ho) rfl rfl ?_
  refine pw_iconst (pc := 84) dX6_clear_84 ?_
  refine pw_callS (As := [rr_ G (o + 15), ii_ (-1)]) (rest := []) (pc := 85) dX6_clear_85 (j_fill hC h77 (o + 15) 192 (-1) (by first | omega) (kd6_15 ho) (ln6_15 ho) (by omega) (by decide)) lX6_82 mJ7_fill_53178 sJ7_fill_53178 rfl rfl (by decide) ⟨Nat.zero_le _, Nat.zero_le _⟩ (Nat.le_of_ble_eq_true rfl) (k_v (fun h85 e85 => ?_))
  have f85 : off_ [(o + 15)] h77 h85 := fun j hj => by rw [e85]; exact sc_off (by simpa using hj)
  exact pw_vret (pc := 88) dX6_clear_88 (⟨fun j hj => by
        simp at hj
        rw [e85, sc_off (by omega), e77, sc_off (by omega), e69, sc_off (by omega), e61, sc_off (by omega), e53, sc_off (by omega), e45, up_off (by omega), e37, up_off (by omega), e32, up_off (by omega), e27, up_off (by omega), e22, up_off (by omega), e17, up_off (by omega), e12, up_off (by omega), e7, up_off (by omega), e2, up_off (by omega)], by
        have ho2 : h85 o = g37 o := by rw [e85, sc_off (by omega), e77, sc_off (by omega), e69, sc_off (by omega), e61, sc_off (by omega), e53, sc_off (by omega), e45, up_off (by omega)]
        rw [ho2, e37, e32, e27, e22, e17, e12, e7, e2]; simp [up_ap], by
        rw [e85, sc_off (by omega), e77, sc_off (by omega), e69, sc_off (by omega), e61, sc_off (by omega), e53, sc_off (by omega), e45, up_same], fun r u1 u2 => by
        rw [e85, sc_off (by omega), sc_off (by omega), e77, sc_off (by omega), sc_off (by omega), e69, sc_off (by omega), sc_off (by omega), e61, sc_off (by omega), sc_at, e53, sc_at]
        exact ⟨if_pos (by omega), if_pos (by omega)⟩, fun r u1 u2 => by
        rw [e85, sc_off (by omega), sc_off (by omega), e77, sc_off (by omega), sc_at, e69, sc_at]
        exact ⟨if_pos (by omega), if_pos (by omega)⟩, fun x u1 u2 => by
        rw [e85, sc_at]; exact if_pos (by omega)⟩)

