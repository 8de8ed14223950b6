/-! ===== marks, what can be undone ===== -/
def AR_ (h : PH_) : Prop := (∀ k : Nat, k < 4 → h 49 (k : Int) = ((50 + 7 * k : Nat) : Int)) ∧ (∀ k : Nat, k < 16 → h 78 (k : Int) = ((79 + 4 * k : Nat) : Int))
/-- a seating is what another was -/
def SCP_ (h h' : PH_) (s p : Nat) : Prop := h' s 3 = h p 3 ∧ ∀ r, 0 ≤ r → r < 4 → h' (s + 1) r = h (p + 1) r ∧ h' (s + 2) r = h (p + 2) r ∧ h' (s + 3) r = h (p + 3) r
/-- a moment is what another was -/
def MCP_ (h h' : PH_) (m p : Nat) : Prop := h' m 3 = h p 3 ∧ h' m 5 = h p 5 ∧ h' (m + 1) 3 = h (p + 1) 3 ∧ (∀ r, 0 ≤ r → r < 4 → h' (m + 2) r = h (p + 2) r ∧ h' (m + 3) r = h (p + 3) r ∧ h' (m + 4) r = h (p + 4) r) ∧ (∀ x, 0 ≤ x → x < 16 → h' (m + 5) x = h (p + 5) x) ∧ (∀ x, 0 ≤ x → x < 40 → h' (m + 6) x = h (p + 6) x)
def REM_ (un : Nat) (h h' : PH_) : Prop := off_ [0, 79 + 4 * un, 79 + 4 * un + 1, 79 + 4 * un + 2, 79 + 4 * un + 3] h h' ∧ (∀ k, k ≠ 9 → k ≠ 10 → h' 0 k = h 0 k) ∧ h' 0 10 = (((un + 1) % 16 : Nat) : Int) ∧ h' 0 9 = (if h 0 9 < 16 then h 0 9 + 1 else 16) ∧ SCP_ h h' (79 + 4 * un) 43
def UND_ (un : Nat) (h h' : PH_) : Prop := off_ [0, 43, 44, 45, 46] h h' ∧ (∀ k, k ≠ 9 → k ≠ 10 → h' 0 k = h 0 k) ∧ h' 0 10 = (un : Int) ∧ h' 0 9 = h 0 9 - 1 ∧ SCP_ h h' 43 (79 + 4 * un)
theorem tmod16 {a : Int} (h : 0 ≤ a) : a.tmod 16 = a % 16 := Int.tmod_eq_emod_of_nonneg h

set_option maxHeartbeats 4000000 in
set_option maxRecDepth 100000 in
theorem d_remember {G : GT_} (hC : okC_ G) (h : PH_) (hA : AR_ h) (un : Nat) (hun : un < 16) (hU : h 0 10 = (un : Int)) (hc : 0 ≤ h 0 9 ∧ h 0 9 ≤ 16) : PC G yX11_remember cX11_remember 1 none 3 [rr_ G 0] h (qv_ (fun h' => REM_ un h h')) := by
  obtain ⟨s, hs⟩ : ∃ s : Nat, s = 79 + 4 * un := ⟨_, rfl⟩
  have ho_s : is7_ s := by rw [hs]; exact is7_all un hun
  refine PC.of (lv := [some (rr_ G 0)]) (by decide +kernel) (Nat.le_of_ble_eq_true rfl) rfl rfl ?_
  refine pw_aload_n (z := 0) (pc := 0) dX11_remember_0 rfl rfl ?_
  refine pw_getR (r := 78) (pc := 1) dX11_remember_1 fX11_58 (hC 0 (by decide)) (show kd_ 0 = 21 by decide +kernel) rfl (by decide +kernel) ?_
  refine pw_aload_n (z := 0) (pc := 4) dX11_remember_4 rfl rfl ?_
  refine pw_gI (x := 10) (pc := 5) dX11_remember_5 fX11_227 (hC 0 (by decide)) (show kd_ 0 = 21 by decide +kernel) rfl rfl (fun r5 => ?_)
  refine pw_aald (r := s) (pc := 8) dX11_remember_8 (hC 78 (by decide)) (show kd_ 78 = 5 by decide +kernel) (by decide) 16 (by decide +kernel) (by first | omega) (by first | omega) (by first | omega) (show h 78 (h 0 10) = (s : Int) by rw [hU, hs]; exact hA.2 un hun) ?_
  refine pw_aload_n (z := 0) (pc := 9) dX11_remember_9 rfl rfl ?_
  refine pw_getR (r := 42) (pc := 10) dX11_remember_10 fX11_48 (hC 0 (by decide)) (show kd_ 0 = 21 by decide +kernel) rfl (by decide +kernel) ?_
  refine pw_getR (r := 43) (pc := 13) dX11_remember_13 fX11_167 (hC 42 (by decide)) (show kd_ 42 = 13 by decide +kernel) rfl (by decide +kernel) ?_
  refine pw_callV (c := 7) (o := s) (As := [rr_ G 43]) (rest := []) (pc := 16) dX11_remember_16 (d_scopy hC h s ho_s 43 is3_now.2.1 (by first | omega)) lX11_230 mX7_copy vX7_copy (hC _ (by omega)) (kd7_0 ho_s) rfl rfl rfl (by decide) ⟨Nat.zero_le _, Nat.zero_le _⟩ (Nat.le_of_ble_eq_true rfl) (k_v (fun h16 q16 => ?_))
  obtain ⟨f16, n16, r16⟩ := q16
  refine pw_aload_n (z := 0) (pc := 19) dX11_remember_19 rfl rfl ?_
  refine pw_aload_n (z := 0) (pc := 20) dX11_remember_20 rfl rfl ?_
  refine pw_gI (x := 10) (pc := 21) dX11_remember_21 fX11_227 (hC 0 (by decide)) (show kd_ 0 = 21 by decide +kernel) rfl rfl (fun r21 => ?_)
  have n_h16_0_10 : h16 0 10 = h 0 10 := (congrFun (f16 0 (by first | decide | (simp; done) | (simp; omega))) 10)
  rw [n_h16_0_10] at r21 ⊢
  refine pw_iconst (pc := 24) dX11_remember_24 ?_
  refine pw_iadd (pc := 25) dX11_remember_25 ?_
  refine pw_bipush (pc := 26) dX11_remember_26 rfl ?_
  refine pw_irem (pc := 28) dX11_remember_28 (by first | omega | (simp only [n_h16_0_10]; omega)) (by first | omega | (simp only [n_h16_0_10]; omega)) ?_
  have tm : (h 0 10 + 1).tmod 16 = (((un + 1) % 16 : Nat) : Int) := by rw [tmod16 (by omega), hU]; omega
  rw [tm]
  refine pw_pI (x := 10) (pc := 29) dX11_remember_29 fX11_227 (hC 0 (by decide)) (show kd_ 0 = 21 by decide +kernel) rfl rfl (by first | omega | (simp only [n_h16_0_10]; omega)) ?_
  obtain ⟨g29, e29⟩ : ∃ x, x = up_ h16 0 10 (((un + 1) % 16 : Nat) : Int) := ⟨_, rfl⟩
  refine pw_heq e29 ?_
  refine pw_aload_n (z := 0) (pc := 32) dX11_remember_32 rfl rfl ?_
  refine pw_aload_n (z := 0) (pc := 33) dX11_remember_33 rfl rfl ?_
  refine pw_gI (x := 9) (pc := 34) dX11_remember_34 fX11_224 (hC 0 (by decide)) (show kd_ 0 = 21 by decide +kernel) rfl rfl (fun r34 => ?_)
  have n_g29_0_9 : g29 0 9 = h 0 9 := ((show g29 0 9 = h16 0 9 from (by rw [e29, up_at]; exact if_neg (by decide))).trans (show h16 0 9 = h 0 9 from (congrFun (f16 0 (by first | decide | (simp; done) | (simp; omega))) 9)))
  rw [n_g29_0_9] at r34 ⊢
  refine pw_iconst (pc := 37) dX11_remember_37 ?_
  refine pw_iadd (pc := 38) dX11_remember_38 ?_
  refine pw_bipush (pc := 39) dX11_remember_39 rfl ?_
  refine pw_mmin (pc := 41) dX11_remember_41 lX11_362 (by first | omega | (simp only [n_g29_0_9, n_h16_0_10]; omega)) (by first | omega | (simp only [n_g29_0_9, n_h16_0_10]; omega)) (by decide) ⟨Nat.zero_le _, Nat.zero_le _⟩ (Nat.le_of_ble_eq_true rfl) (fun z41 r41 w41 => ?_)
  refine pw_pI (x := 9) (pc := 44) dX11_remember_44 fX11_224 (hC 0 (by decide)) (show kd_ 0 = 21 by decide +kernel) rfl rfl (by first | omega | (simp only [n_g29_0_9, n_h16_0_10]; omega)) ?_
  obtain ⟨g44, e44⟩ : ∃ x, x = up_ g29 0 9 z41 := ⟨_, rfl⟩
  refine pw_heq e44 ?_
  exact pw_vret (pc := 47) dX11_remember_47 (by
            subst hs
            refine ⟨by rw [e44, e29]; exact off_up (off_up (off_mo f16 (by simp)) (by simp)) (by simp), fun k k9 k10 => by rw [e44, up_at, if_neg k9, e29, up_at, if_neg k10, f16 0 (by simp; omega)], by rw [e44, up_at, if_neg (by decide), e29, up_same], ?_, ?_, fun r r0 r1 => ?_⟩
            · rw [e44, up_same]; split <;> omega
            · rw [e44, up_off (by omega), e29, up_off (by omega)]; exact n16
            · rw [e44, up_off (by omega), up_off (by omega), up_off (by omega), e29, up_off (by omega), up_off (by omega), up_off (by omega)]; exact r16 r r0 r1)

set_option maxHeartbeats 4000000 in
set_option maxRecDepth 100000 in
theorem d_undo {G : GT_} (hC : okC_ G) (h : PH_) (hA : AR_ h) (un : Nat) (hun : un < 16) (hU : h 0 10 = (un : Int)) (hc : 0 ≤ h 0 9 ∧ h 0 9 ≤ 16) : PC G yX11_undo cX11_undo 1 (some .boolean) 3 [rr_ G 0] h (qi_ (fun z h' => (h 0 9 = 0 ∧ h = h' ∧ z = 0) ∨ (0 < h 0 9 ∧ z = 1 ∧ UND_ ((un + 15) % 16) h h'))) := by
  obtain ⟨s, hs⟩ : ∃ s : Nat, s = 79 + 4 * ((un + 15) % 16) := ⟨_, rfl⟩
  have ho_s : is7_ s := by rw [hs]; exact is7_all ((un + 15) % 16) (by omega)
  refine PC.of (lv := [some (rr_ G 0)]) (by decide +kernel) (Nat.le_of_ble_eq_true rfl) rfl rfl ?_
  refine pw_aload_n (z := 0) (pc := 0) dX11_undo_0 rfl rfl ?_
  refine pw_gI (x := 9) (pc := 1) dX11_undo_1 fX11_224 (hC 0 (by decide)) (show kd_ 0 = 21 by decide +kernel) rfl rfl (fun r1 => ?_)
  refine pw_if_gt (t := 9) (pc := 4) dX11_undo_4 (by decide) (by first | omega) (fun c4 => ?_) (fun c4 => ?_)
  · refine pw_aload_n (z := 0) (pc := 9) dX11_undo_9 rfl rfl ?_
    refine pw_dup (pc := 10) dX11_undo_10 rfl ?_
    refine pw_gI (x := 9) (pc := 11) dX11_undo_11 fX11_224 (hC 0 (by decide)) (show kd_ 0 = 21 by decide +kernel) rfl rfl (fun r11 => ?_)
    refine pw_iconst (pc := 14) dX11_undo_14 ?_
    refine pw_isub (pc := 15) dX11_undo_15 ?_
    refine pw_pI (x := 9) (pc := 16) dX11_undo_16 fX11_224 (hC 0 (by decide)) (show kd_ 0 = 21 by decide +kernel) rfl rfl (by first | omega) ?_
    obtain ⟨g16, e16⟩ : ∃ x, x = up_ h 0 9 ((h 0 9) - 1) := ⟨_, rfl⟩
    refine pw_heq e16 ?_
    refine pw_aload_n (z := 0) (pc := 19) dX11_undo_19 rfl rfl ?_
    refine pw_aload_n (z := 0) (pc := 20) dX11_undo_20 rfl rfl ?_
    refine pw_gI (x := 10) (pc := 21) dX11_undo_21 fX11_227 (hC 0 (by decide)) (show kd_ 0 = 21 by decide +kernel) rfl rfl (fun r21 => ?_)
    have n_g16_0_10 : g16 0 10 = h 0 10 := (by rw [e16, up_at]; exact if_neg (by decide))
    rw [n_g16_0_10] at r21 ⊢
    refine pw_bipush (pc := 24) dX11_undo_24 rfl ?_
    refine pw_iadd (pc := 26) dX11_undo_26 ?_
    refine pw_iconst (pc := 27) dX11_undo_27 ?_
    refine pw_isub (pc := 28) dX11_undo_28 ?_
    refine pw_bipush (pc := 29) dX11_undo_29 rfl ?_
    refine pw_irem (pc := 31) dX11_undo_31 (by first | omega | (simp only [n_g16_0_10]; omega)) (by first | omega | (simp only [n_g16_0_10]; omega)) ?_
    have tm : (h 0 10 + 16 - 1).tmod 16 = ((((un + 15) % 16) : Nat) : Int) := by rw [tmod16 (by omega), hU]; omega
    rw [tm]
    refine pw_pI (x := 10) (pc := 32) dX11_undo_32 fX11_227 (hC 0 (by decide)) (show kd_ 0 = 21 by decide +kernel) rfl rfl (by first | omega | (simp only [n_g16_0_10]; omega)) ?_
    obtain ⟨g32, e32⟩ : ∃ x, x = up_ g16 0 10 ((((un + 15) % 16) : Nat) : Int) := ⟨_, rfl⟩
    refine pw_heq e32 ?_
    refine pw_aload_n (z := 0) (pc := 35) dX11_undo_35 rfl rfl ?_
    refine pw_getR (r := 42) (pc := 36) dX11_undo_36 fX11_48 (hC 0 (by decide)) (show kd_ 0 = 21 by decide +kernel) rfl (by decide +kernel) ?_
    refine pw_getR (r := 43) (pc := 39) dX11_undo_39 fX11_167 (hC 42 (by decide)) (show kd_ 42 = 13 by decide +kernel) rfl (by decide +kernel) ?_
    refine pw_aload_n (z := 0) (pc := 42) dX11_undo_42 rfl rfl ?_
    refine pw_getR (r := 78) (pc := 43) dX11_undo_43 fX11_58 (hC 0 (by decide)) (show kd_ 0 = 21 by decide +kernel) rfl (by decide +kernel) ?_
    refine pw_aload_n (z := 0) (pc := 46) dX11_undo_46 rfl rfl ?_
    refine pw_gI (x := 10) (pc := 47) dX11_undo_47 fX11_227 (hC 0 (by decide)) (show kd_ 0 = 21 by decide +kernel) rfl rfl (fun r47 => ?_)
    rw [show g32 0 10 = ((((un + 15) % 16) : Nat) : Int) from by rw [e32, up_same]] at r47 ⊢
    refine pw_aald (r := s) (pc := 50) dX11_undo_50 (hC 78 (by decide)) (show kd_ 78 = 5 by decide +kernel) (by decide) 16 (by decide +kernel) (by first | omega | (simp only [n_g16_0_10]; omega)) (by first | omega | (simp only [n_g16_0_10]; omega)) (by first | omega | (simp only [n_g16_0_10]; omega)) (show g32 78 (((((un + 15) % 16) : Nat) : Int)) = (s : Int) by rw [e32, up_off (by decide), e16, up_off (by decide), hs]; exact hA.2 ((un + 15) % 16) (by omega)) ?_
    refine pw_callV (c := 7) (o := 43) (As := [rr_ G s]) (rest := []) (pc := 51) dX11_undo_51 (d_scopy hC g32 43 is3_now.2.1 s ho_s (by first | omega | (simp only [n_g16_0_10]; omega))) lX11_230 mX7_copy vX7_copy (hC 43 (by decide)) (show kd_ 43 = 17 by decide +kernel) rfl rfl rfl (by decide) ⟨Nat.zero_le _, Nat.zero_le _⟩ (Nat.le_of_ble_eq_true rfl) (k_v (fun h51 q51 => ?_))
    obtain ⟨f51, n51, r51⟩ := q51
    refine pw_iconst (pc := 54) dX11_undo_54 ?_
    exact pw_zret (pc := 55) dX11_undo_55 (by first | omega | (simp only [n_g16_0_10]; omega)) (Or.inr ⟨by omega, rfl, by
              subst hs
              refine ⟨off_tr (by rw [e32, e16]; exact off_up (off_up off_rf (by simp)) (by simp)) (off_mo f51 (by simp)), fun k k9 k10 => by rw [f51 0 (by simp), e32, up_at, if_neg k10, e16, up_at, if_neg k9], by rw [f51 0 (by simp), e32, up_same], by rw [f51 0 (by simp), e32, up_at, if_neg (by decide), e16, up_same], ?_, fun r r0 r1 => ?_⟩
              · rw [n51, e32, up_off (by omega), e16, up_off (by omega)]
              · have := r51 r r0 r1
                rw [e32, up_off (by omega), up_off (by omega), up_off (by omega), e16, up_off (by omega), up_off (by omega), up_off (by omega)] at this
                exact this⟩)
  · refine pw_iconst (pc := 7) dX11_undo_7 ?_
    exact pw_zret (pc := 8) dX11_undo_8 (by first | omega) (Or.inl ⟨by omega, rfl, rfl⟩)

set_option maxHeartbeats 4000000 in
set_option maxRecDepth 100000 in
theorem d_sit {G : GT_} (hC : okC_ G) (h : PH_) (o : Nat) (ho : is6_ o) (hL : h 0 2 = (o : Int)) (ro : Int → Int) (H : CRD_ ro h o) (hA : AR_ h) (un : Nat) (hun : un < 16) (hU : h 0 10 = (un : Int)) (hc : 0 ≤ h 0 9 ∧ h 0 9 ≤ 16) (hu : ∀ e f g, 0 ≤ e → e < 4 → 0 ≤ f → f < 4 → e ≠ f → 0 ≤ g → h 44 e = g → h 44 f ≠ g) (r g : Int) (h1 : ir_ r) (h2 : ir_ g) : PC G yX11_sit cX11_sit 3 (some .int) 4 [rr_ G 0, ii_ r, ii_ g] h (qi_ (fun z h' => (¬ ((0 ≤ r ∧ r < ro 2) ∧ (0 ≤ g ∧ g < ro 0) ∧ ¬ h 44 r = g) ∧ h = h' ∧ z = -2) ∨ (((0 ≤ r ∧ r < ro 2) ∧ (0 ≤ g ∧ g < ro 0) ∧ ¬ h 44 r = g) ∧ ∃ h1, REM_ un h h1 ∧ h' = sc_ h1 44 (tkf_ (h 44) r g z) ∧ tkq_ (h 44) r g z 4))) := by
  have hL_h := hL
  have HB := H.2.1
  have HA := H.1
  refine PC.of (lv := [some (rr_ G 0), some (ii_ r), some (ii_ g)]) (by decide +kernel) (Nat.le_of_ble_eq_true rfl) rfl rfl ?_
  refine pw_aload_n (z := 0) (pc := 0) dX11_sit_0 rfl rfl ?_
  refine pw_iload_n (z := r) (pc := 1) dX11_sit_1 rfl rfl ?_
  refine pw_callV (c := 11) (o := 0) (As := [ii_ r]) (rest := []) (pc := 2) dX11_sit_2 (d_isRider hC h o ho hL ro H r (by first | omega)) lX11_147 mX11_isRider vX11_isRider (hC 0 (by decide)) (show kd_ 0 = 21 by decide +kernel) rfl rfl rfl (by decide) ⟨Nat.zero_le _, Nat.zero_le _⟩ (Nat.le_of_ble_eq_true rfl) (k_i (fun z2 h2 y2 q2 => ?_))
  obtain ⟨rfl, ⟨rfl, p2⟩ | ⟨rfl, p2⟩⟩ := q2
  · refine pw_if_eq (t := 32) (pc := 5) dX11_sit_5 (by decide) (by first | omega) (fun c5 => absurd c5 (by decide)) (fun _ => ?_)
    refine pw_aload_n (z := 0) (pc := 8) dX11_sit_8 rfl rfl ?_
    refine pw_iload_n (z := g) (pc := 9) dX11_sit_9 rfl rfl ?_
    refine pw_callV (c := 11) (o := 0) (As := [ii_ g]) (rest := []) (pc := 10) dX11_sit_10 (d_isSeat hC h o ho hL ro H g (by first | omega)) lX11_204 mX11_isSeat vX11_isSeat (hC 0 (by decide)) (show kd_ 0 = 21 by decide +kernel) rfl rfl rfl (by decide) ⟨Nat.zero_le _, Nat.zero_le _⟩ (Nat.le_of_ble_eq_true rfl) (k_i (fun z10 h10 y10 q10 => ?_))
    obtain ⟨rfl, ⟨rfl, p10⟩ | ⟨rfl, p10⟩⟩ := q10
    · refine pw_if_eq (t := 32) (pc := 13) dX11_sit_13 (by decide) (by first | omega) (fun c13 => absurd c13 (by decide)) (fun _ => ?_)
      refine pw_aload_n (z := 0) (pc := 16) dX11_sit_16 rfl rfl ?_
      refine pw_getR (r := 42) (pc := 17) dX11_sit_17 fX11_48 (hC 0 (by decide)) (show kd_ 0 = 21 by decide +kernel) rfl (by decide +kernel) ?_
      refine pw_getR (r := 43) (pc := 20) dX11_sit_20 fX11_167 (hC 42 (by decide)) (show kd_ 42 = 13 by decide +kernel) rfl (by decide +kernel) ?_
      refine pw_getR (r := 44) (pc := 23) dX11_sit_23 fX11_170 (hC 43 (by decide)) (show kd_ 43 = 17 by decide +kernel) rfl (by decide +kernel) ?_
      refine pw_iload_n (z := r) (pc := 26) dX11_sit_26 rfl rfl ?_
      refine pw_iald (pc := 27) dX11_sit_27 (hC 44 (by decide)) (show kd_ 44 = 0 by decide +kernel) 4 (by decide +kernel) (by first | omega) (by first | omega) (by first | omega) (fun r27 => ?_)
      refine pw_iload_n (z := g) (pc := 28) dX11_sit_28 rfl rfl ?_
      refine pw_icmp_ne (t := 35) (pc := 29) dX11_sit_29 (by decide) (by first | omega) (by first | omega) (fun c29 => ?_) (fun c29 => ?_)
      · refine pw_aload_n (z := 0) (pc := 35) dX11_sit_35 rfl rfl ?_
        refine pw_callV (c := 11) (o := 0) (As := []) (rest := []) (pc := 36) dX11_sit_36 (d_remember hC h hA un hun hU hc) lX11_207 mX11_remember vX11_remember (hC 0 (by decide)) (show kd_ 0 = 21 by decide +kernel) rfl rfl rfl (by decide) ⟨Nat.zero_le _, Nat.zero_le _⟩ (Nat.le_of_ble_eq_true rfl) (k_v (fun h36 q36 => ?_))
        have f36 : ∀ i, i ≠ 0 → i < 79 → h36 i = h i := fun i i0 i1 => q36.1 i (by simp; omega)
        have hL_h36 : h36 0 2 = (o : Int) := by rw [q36.2.1 2 (by decide) (by decide)]; exact hL
        have H36 : CRD_ ro h36 o := CRD_cg H (fun k _ => by rw [f36 o (by omega) (by omega)]) (f36 _ (by omega) (by omega)) (f36 _ (by omega) (by omega)) (f36 _ (by omega) (by omega)) (f36 _ (by omega) (by omega)) (f36 _ (by omega) (by omega)) (f36 _ (by omega) (by omega))
        refine pw_aload_n (z := 0) (pc := 39) dX11_sit_39 rfl rfl ?_
        refine pw_getR (r := 42) (pc := 40) dX11_sit_40 fX11_48 (hC 0 (by decide)) (show kd_ 0 = 21 by decide +kernel) rfl (by decide +kernel) ?_
        refine pw_getR (r := 43) (pc := 43) dX11_sit_43 fX11_167 (hC 42 (by decide)) (show kd_ 42 = 13 by decide +kernel) rfl (by decide +kernel) ?_
        refine pw_iload_n (z := r) (pc := 46) dX11_sit_46 rfl rfl ?_
        refine pw_iload_n (z := g) (pc := 47) dX11_sit_47 rfl rfl ?_
        refine pw_callV (c := 7) (o := 43) (As := [ii_ r, ii_ g]) (rest := []) (pc := 48) dX11_sit_48 (d_take hC h36 43 is3_now.2.1 r g (by first | omega) (by first | omega) (fun e f e0 e1 f0 f1 ef => by show h36 44 e = g → h36 44 f ≠ g; rw [f36 44 (by decide) (by decide)]; exact hu e f g e0 e1 f0 f1 ef (by first | omega))) lX11_210 mX7_take vX7_take (hC 43 (by decide)) (show kd_ 43 = 17 by decide +kernel) rfl rfl rfl (by decide) ⟨Nat.zero_le _, Nat.zero_le _⟩ (Nat.le_of_ble_eq_true rfl) (k_i (fun z48 h48 y48 q48 => ?_))
        obtain ⟨x48, t48⟩ := q48
        exact pw_iret (pc := 51) dX11_sit_51 (by first | omega) (Or.inr ⟨by omega, h36, q36, by rw [x48]; show sc_ h36 44 (tkf_ (h36 44) r g _) = _; rw [f36 44 (by decide) (by decide)], by have t : tkq_ (h36 44) r g _ 4 := t48; rw [f36 44 (by decide) (by decide)] at t; exact t⟩)
      · refine pw_bipush (pc := 32) dX11_sit_32 rfl ?_
        exact pw_iret (pc := 34) dX11_sit_34 (by first | omega) (Or.inl ⟨by omega, rfl, rfl⟩)
    · refine pw_if_eq (t := 32) (pc := 13) dX11_sit_13 (by decide) (by first | omega) (fun _ => ?_) (fun c13 => absurd c13 (by decide))
      refine pw_bipush (pc := 32) dX11_sit_32 rfl ?_
      exact pw_iret (pc := 34) dX11_sit_34 (by first | omega) (Or.inl ⟨by omega, rfl, rfl⟩)
  · refine pw_if_eq (t := 32) (pc := 5) dX11_sit_5 (by decide) (by first | omega) (fun _ => ?_) (fun c5 => absurd c5 (by decide))
    refine pw_bipush (pc := 32) dX11_sit_32 rfl ?_
    exact pw_iret (pc := 34) dX11_sit_34 (by first | omega) (Or.inl ⟨by omega, rfl, rfl⟩)

set_option maxHeartbeats 4000000 in
set_option maxRecDepth 100000 in
theorem d_drive {G : GT_} (hC : okC_ G) (h : PH_) (o : Nat) (ho : is6_ o) (hL : h 0 2 = (o : Int)) (ro : Int → Int) (P : List (Int × Int)) (HC : CLD_ ro P h o) (hA : AR_ h) (un : Nat) (hun : un < 16) (hU : h 0 10 = (un : Int)) (hc : 0 ≤ h 0 9 ∧ h 0 9 ≤ 16) (hs : ∀ r, 0 ≤ r → r < ro 2 → -1 ≤ h 44 r ∧ h 44 r ≤ 3) (hn : 0 ≤ h 43 3 ∧ h 43 3 ≤ 4) (hb : ∀ r, 0 ≤ r → r < ro 2 → -1000000 ≤ h 46 r ∧ h 46 r ≤ 1000000) : PC G yX11_drive cX11_drive 1 (some .int) 6 [rr_ G 0] h (qi_ (fun z h' => (¬ (h 43 3 < ro 1 ∧ alw_ ro (h 44)) ∧ h = h' ∧ z = -1) ∨ ((h 43 3 < ro 1 ∧ alw_ ro (h 44)) ∧ ∃ h1, REM_ un h h1 ∧ off_ [43, 45, 46, o + 10, o + 11, o + 15] h1 h' ∧ CWM_ ro P h' o ∧ h' 43 3 = h 43 3 + 1 ∧ (∀ r, 0 ≤ r → r < 4 → h' 45 r = h 44 r) ∧ (∀ r, 0 ≤ r → r < ro 2 → h' 46 r = gon_ ro P (h 44) (h 45) (h 46) (h 43 3) r) ∧ z = h' 43 3))) := by
  have H := HC.1
  have hL_h := hL
  have HB := H.2.1
  have HA := H.1
  refine PC.of (lv := [some (rr_ G 0)]) (by decide +kernel) (Nat.le_of_ble_eq_true rfl) rfl rfl ?_
  refine pw_aload_n (z := 0) (pc := 0) dX11_drive_0 rfl rfl ?_
  refine pw_getR (r := 42) (pc := 1) dX11_drive_1 fX11_48 (hC 0 (by decide)) (show kd_ 0 = 21 by decide +kernel) rfl (by decide +kernel) ?_
  refine pw_getR (r := 43) (pc := 4) dX11_drive_4 fX11_167 (hC 42 (by decide)) (show kd_ 42 = 13 by decide +kernel) rfl (by decide +kernel) ?_
  refine pw_aload_n (z := 0) (pc := 7) dX11_drive_7 rfl rfl ?_
  refine pw_gD (x := 2) (r := o) (pc := 8) dX11_drive_8 fX11_28 (hC 0 (by decide)) (show kd_ 0 = 21 by decide +kernel) rfl rfl hL_h ?_
  refine pw_callV (c := 7) (o := 43) (As := [rr_ G o]) (rest := []) (pc := 11) dX11_drive_11 (d_canGo hC h 43 is3_now.2.1 o ho ro H hs hn) lX11_213 mX7_canGo vX7_canGo (hC 43 (by decide)) (show kd_ 43 = 17 by decide +kernel) rfl rfl rfl (by decide) ⟨Nat.zero_le _, Nat.zero_le _⟩ (Nat.le_of_ble_eq_true rfl) (k_i (fun z11 h11 y11 q11 => ?_))
  obtain ⟨rfl, ⟨rfl, p11⟩ | ⟨rfl, p11⟩⟩ := q11
  · skip
    refine pw_if_ne (t := 19) (pc := 14) dX11_drive_14 (by decide) (by first | omega) (fun _ => ?_) (fun c14 => absurd c14 (by decide))
    refine pw_aload_n (z := 0) (pc := 19) dX11_drive_19 rfl rfl ?_
    refine pw_callV (c := 11) (o := 0) (As := []) (rest := []) (pc := 20) dX11_drive_20 (d_remember hC h hA un hun hU hc) lX11_207 mX11_remember vX11_remember (hC 0 (by decide)) (show kd_ 0 = 21 by decide +kernel) rfl rfl rfl (by decide) ⟨Nat.zero_le _, Nat.zero_le _⟩ (Nat.le_of_ble_eq_true rfl) (k_v (fun h20 q20 => ?_))
    have f20 : ∀ i, i ≠ 0 → i < 79 → h20 i = h i := fun i i0 i1 => q20.1 i (by simp; omega)
    have hL_h20 : h20 0 2 = (o : Int) := by rw [q20.2.1 2 (by decide) (by decide)]; exact hL
    have H20 : CRD_ ro h20 o := CRD_cg H (fun k _ => by rw [f20 o (by omega) (by omega)]) (f20 _ (by omega) (by omega)) (f20 _ (by omega) (by omega)) (f20 _ (by omega) (by omega)) (f20 _ (by omega) (by omega)) (f20 _ (by omega) (by omega)) (f20 _ (by omega) (by omega))
    refine pw_aload_n (z := 0) (pc := 23) dX11_drive_23 rfl rfl ?_
    refine pw_getR (r := 42) (pc := 24) dX11_drive_24 fX11_48 (hC 0 (by decide)) (show kd_ 0 = 21 by decide +kernel) rfl (by decide +kernel) ?_
    refine pw_getR (r := 43) (pc := 27) dX11_drive_27 fX11_167 (hC 42 (by decide)) (show kd_ 42 = 13 by decide +kernel) rfl (by decide +kernel) ?_
    refine pw_aload_n (z := 0) (pc := 30) dX11_drive_30 rfl rfl ?_
    refine pw_gD (x := 2) (r := o) (pc := 31) dX11_drive_31 fX11_28 (hC 0 (by decide)) (show kd_ 0 = 21 by decide +kernel) rfl rfl hL_h20 ?_
    have E20 : h20 43 = h 43 ∧ h20 44 = h 44 ∧ h20 45 = h 45 ∧ h20 46 = h 46 := ⟨f20 43 (by decide) (by decide), f20 44 (by decide) (by decide), f20 45 (by decide) (by decide), f20 46 (by decide) (by decide)⟩
    have K20 : CLD_ ro P h20 o := ⟨H20, CLP_cg HC.2.1 (f20 _ (by omega) (by omega)) (f20 _ (by omega) (by omega)) (f20 _ (by omega) (by omega)) (f20 _ (by omega) (by omega)), by unfold CWM_; rw [f20 (o + 15) (by omega) (by omega)]; exact HC.2.2⟩
    refine pw_callV (c := 7) (o := 43) (As := [rr_ G o]) (rest := []) (pc := 34) dX11_drive_34 (d_go hC h20 43 is3_now.2.1 o ho ro H20 P K20.2.1 K20.2.2 (by show alw_ ro (h20 44); rw [E20.2.1]; exact p11.2) (by rw [E20.1]; have := p11.1; exact ⟨hn.1, this⟩) (fun r r0 r1 => by show -1000000 ≤ h20 46 r ∧ h20 46 r ≤ 1000000; rw [E20.2.2.2]; exact hb r r0 r1)) lX11_217 mX7_go vX7_go (hC 43 (by decide)) (show kd_ 43 = 17 by decide +kernel) rfl rfl rfl (by decide) ⟨Nat.zero_le _, Nat.zero_le _⟩ (Nat.le_of_ble_eq_true rfl) (k_v (fun h34 q34 => ?_))
    obtain ⟨f34, m34, n34, a34, t34⟩ := q34
    refine pw_aload_n (z := 0) (pc := 37) dX11_drive_37 rfl rfl ?_
    refine pw_getR (r := 42) (pc := 38) dX11_drive_38 fX11_48 (hC 0 (by decide)) (show kd_ 0 = 21 by decide +kernel) rfl (by decide +kernel) ?_
    refine pw_getR (r := 43) (pc := 41) dX11_drive_41 fX11_167 (hC 42 (by decide)) (show kd_ 42 = 13 by decide +kernel) rfl (by decide +kernel) ?_
    refine pw_gI (x := 3) (pc := 44) dX11_drive_44 fX11_221 (hC 43 (by decide)) (show kd_ 43 = 17 by decide +kernel) rfl rfl (fun r44 => ?_)
    exact pw_iret (pc := 47) dX11_drive_47 (by first | omega) (Or.inr ⟨p11, h20, q20, f34, m34, by rw [n34, E20.1], fun r r0 r1 => by have x := a34 r r0 r1; rw [show (43 : Nat) + 1 = 44 from rfl, E20.2.1] at x; exact x, fun r r0 r1 => by
              have x := t34 r r0 r1
              rw [show (43 : Nat) + 1 = 44 from rfl, show (43 : Nat) + 2 = 45 from rfl, show (43 : Nat) + 3 = 46 from rfl, E20.1, E20.2.1, E20.2.2.1, E20.2.2.2] at x
              exact x, rfl⟩)
  · skip
    refine pw_if_ne (t := 19) (pc := 14) dX11_drive_14 (by decide) (by first | omega) (fun c14 => absurd c14 (by decide)) (fun _ => ?_)
    refine pw_iconst (pc := 17) dX11_drive_17 ?_
    exact pw_iret (pc := 18) dX11_drive_18 (by first | omega) (Or.inl ⟨p11, rfl, rfl⟩)

set_option maxHeartbeats 4000000 in
set_option maxRecDepth 100000 in
theorem d_mark {G : GT_} (hC : okC_ G) (h : PH_) (hA : AR_ h) (m b : Int) (h1 : ir_ m) (h2 : b = 0 ∨ b = 1) (hsh : h 42 3 = 0 ∨ h 42 3 = 1) (hshm : ∀ k : Nat, k < 4 → h (50 + 7 * k) 3 = 0 ∨ h (50 + 7 * k) 3 = 1) : PC G yX11_mark cX11_mark 3 (some .boolean) 4 [rr_ G 0, ii_ m, ii_ b] h (qi_ (fun z h' => (¬ (0 ≤ m ∧ m ≤ 3) ∧ h = h' ∧ z = 0) ∨ ((0 ≤ m ∧ m ≤ 3) ∧ b = 0 ∧ z = 1 ∧ off_ [(50 + 7 * m.toNat), (50 + 7 * m.toNat) + 1, (50 + 7 * m.toNat) + 2, (50 + 7 * m.toNat) + 3, (50 + 7 * m.toNat) + 4, (50 + 7 * m.toNat) + 5, (50 + 7 * m.toNat) + 6] h h' ∧ h' (50 + 7 * m.toNat) 4 = 1 ∧ MCP_ h h' (50 + 7 * m.toNat) 42) ∨ ((0 ≤ m ∧ m ≤ 3) ∧ b = 1 ∧ h (50 + 7 * m.toNat) 4 = 0 ∧ h = h' ∧ z = 0) ∨ ((0 ≤ m ∧ m ≤ 3) ∧ b = 1 ∧ h (50 + 7 * m.toNat) 4 ≠ 0 ∧ z = 1 ∧ off_ [0, 42, 43, 44, 45, 46, 47, 48] h h' ∧ (∀ k, k ≠ 9 → h' 0 k = h 0 k) ∧ h' 0 9 = 0 ∧ MCP_ h h' 42 (50 + 7 * m.toNat)))) := by
  refine PC.of (lv := [some (rr_ G 0), some (ii_ m), some (ii_ b)]) (by decide +kernel) (Nat.le_of_ble_eq_true rfl) rfl rfl ?_
  refine pw_iload_n (z := m) (pc := 0) dX11_mark_0 rfl rfl ?_
  refine pw_if_lt (t := 9) (pc := 1) dX11_mark_1 (by decide) (by first | omega) (fun c1 => ?_) (fun c1 => ?_)
  · refine pw_iconst (pc := 9) dX11_mark_9 ?_
    exact pw_zret (pc := 10) dX11_mark_10 (by first | omega) (Or.inl ⟨by omega, rfl, rfl⟩)
  · refine pw_iload_n (z := m) (pc := 4) dX11_mark_4 rfl rfl ?_
    refine pw_iconst (pc := 5) dX11_mark_5 ?_
    refine pw_icmp_lt (t := 11) (pc := 6) dX11_mark_6 (by decide) (by first | omega) (by first | omega) (fun c6 => ?_) (fun c6 => ?_)
    · obtain ⟨mn, hmn⟩ : ∃ mn : Nat, m = (mn : Int) ∧ mn < 4 := ⟨m.toNat, by omega, by omega⟩
      obtain ⟨q, hq⟩ : ∃ q : Nat, q = 50 + 7 * mn := ⟨_, rfl⟩
      have ho_q : is3_ q := by rw [hq]; exact (is3_all mn hmn.2).1
      have ho_n : is7_ (q + 1) := by rw [hq]; exact (is3_all mn hmn.2).2
      have hqr : h 49 m = (q : Int) := by rw [hq, hmn.1]; exact hA.1 mn hmn.2
      have hq2 : q = 50 + 7 * m.toNat := by omega
      have qb : 50 ≤ q ∧ q ≤ 71 := by omega
      refine pw_iload_n (z := b) (pc := 11) dX11_mark_11 rfl rfl ?_
      refine pw_if_ne (t := 40) (pc := 12) dX11_mark_12 (by decide) (by first | omega) (fun c12 => ?_) (fun c12 => ?_)
      · refine pw_aload_n (z := 0) (pc := 40) dX11_mark_40 rfl rfl ?_
        refine pw_getR (r := 49) (pc := 41) dX11_mark_41 fX11_52 (hC 0 (by decide)) (show kd_ 0 = 21 by decide +kernel) rfl (by decide +kernel) ?_
        refine pw_iload_n (z := m) (pc := 44) dX11_mark_44 rfl rfl ?_
        refine pw_aald (r := q) (pc := 45) dX11_mark_45 (hC 49 (by decide)) (show kd_ 49 = 4 by decide +kernel) (by decide) 4 (by decide +kernel) (by first | omega) (by first | omega) (by first | omega) hqr ?_
        refine pw_gI (x := 4) (pc := 46) dX11_mark_46 fX11_339 (hC _ (by omega)) (kd3_0 ho_q) rfl rfl (fun r46 => ?_)
        refine pw_if_ne (t := 54) (pc := 49) dX11_mark_49 (by decide) (by first | omega) (fun c49 => ?_) (fun c49 => ?_)
        · refine pw_aload_n (z := 0) (pc := 54) dX11_mark_54 rfl rfl ?_
          refine pw_getR (r := 42) (pc := 55) dX11_mark_55 fX11_48 (hC 0 (by decide)) (show kd_ 0 = 21 by decide +kernel) rfl (by decide +kernel) ?_
          refine pw_aload_n (z := 0) (pc := 58) dX11_mark_58 rfl rfl ?_
          refine pw_getR (r := 49) (pc := 59) dX11_mark_59 fX11_52 (hC 0 (by decide)) (show kd_ 0 = 21 by decide +kernel) rfl (by decide +kernel) ?_
          refine pw_iload_n (z := m) (pc := 62) dX11_mark_62 rfl rfl ?_
          refine pw_aald (r := q) (pc := 63) dX11_mark_63 (hC 49 (by decide)) (show kd_ 49 = 4 by decide +kernel) (by decide) 4 (by decide +kernel) (by first | omega) (by first | omega) (by first | omega) hqr ?_
          refine pw_callV (c := 3) (o := 42) (As := [rr_ G q]) (rest := []) (pc := 64) dX11_mark_64 (d_mcopy hC h 42 is3_now.1 is3_now.2.1 q ho_q ho_n (by first | omega) (by rw [hq]; exact hshm mn hmn.2)) lX11_336 mX3_copy vX3_copy (hC 42 (by decide)) (show kd_ 42 = 13 by decide +kernel) rfl rfl rfl (by decide) ⟨Nat.zero_le _, Nat.zero_le _⟩ (Nat.le_of_ble_eq_true rfl) (k_v (fun h64 q64 => ?_))
          obtain ⟨f64, a64, b64, c64, d64, r64, x64, y64⟩ := q64
          refine pw_aload_n (z := 0) (pc := 67) dX11_mark_67 rfl rfl ?_
          refine pw_iconst (pc := 68) dX11_mark_68 ?_
          refine pw_pI (x := 9) (pc := 69) dX11_mark_69 fX11_224 (hC 0 (by decide)) (show kd_ 0 = 21 by decide +kernel) rfl rfl (by first | omega) ?_
          obtain ⟨g69, e69⟩ : ∃ x, x = up_ h64 0 9 0 := ⟨_, rfl⟩
          refine pw_heq e69 ?_
          refine pw_iconst (pc := 72) dX11_mark_72 ?_
          exact pw_zret (pc := 73) dX11_mark_73 (by first | omega) (Or.inr (Or.inr (Or.inr ⟨by omega, by omega, by rw [← hq2]; omega, rfl, by
                    rw [← hq2, e69]
                    have u : ∀ i, i ≠ 0 → up_ h64 0 9 0 i = h64 i := fun i hi => up_off hi
                    refine ⟨off_up (off_mo f64 (by simp)) (by simp), fun k k9 => by rw [up_at, if_neg k9, f64 0 (by simp)], up_same _ _ _ _, by rw [u _ (by omega)]; exact a64, by rw [u _ (by omega)]; exact b64, by rw [u _ (by omega)]; exact d64, fun r r0 r1 => by rw [u _ (by omega), u _ (by omega), u _ (by omega)]; exact r64 r r0 r1, fun x x0 x1 => by rw [u _ (by omega)]; exact x64 x x0 x1, fun x x0 x1 => by rw [u _ (by omega)]; exact y64 x x0 x1⟩⟩)))
        · refine pw_iconst (pc := 52) dX11_mark_52 ?_
          exact pw_zret (pc := 53) dX11_mark_53 (by first | omega) (Or.inr (Or.inr (Or.inl ⟨by omega, by omega, by rw [← hq2]; omega, rfl, rfl⟩)))
      · refine pw_aload_n (z := 0) (pc := 15) dX11_mark_15 rfl rfl ?_
        refine pw_getR (r := 49) (pc := 16) dX11_mark_16 fX11_52 (hC 0 (by decide)) (show kd_ 0 = 21 by decide +kernel) rfl (by decide +kernel) ?_
        refine pw_iload_n (z := m) (pc := 19) dX11_mark_19 rfl rfl ?_
        refine pw_aald (r := q) (pc := 20) dX11_mark_20 (hC 49 (by decide)) (show kd_ 49 = 4 by decide +kernel) (by decide) 4 (by decide +kernel) (by first | omega) (by first | omega) (by first | omega) hqr ?_
        refine pw_aload_n (z := 0) (pc := 21) dX11_mark_21 rfl rfl ?_
        refine pw_getR (r := 42) (pc := 22) dX11_mark_22 fX11_48 (hC 0 (by decide)) (show kd_ 0 = 21 by decide +kernel) rfl (by decide +kernel) ?_
        refine pw_callV (c := 3) (o := q) (As := [rr_ G 42]) (rest := []) (pc := 25) dX11_mark_25 (d_mcopy hC h q ho_q ho_n 42 is3_now.1 is3_now.2.1 (by first | omega) hsh) lX11_336 mX3_copy vX3_copy (hC _ (by omega)) (kd3_0 ho_q) rfl rfl rfl (by decide) ⟨Nat.zero_le _, Nat.zero_le _⟩ (Nat.le_of_ble_eq_true rfl) (k_v (fun h25 q25 => ?_))
        obtain ⟨f25, a25, b25, c25, d25, r25, x25, y25⟩ := q25
        refine pw_aload_n (z := 0) (pc := 28) dX11_mark_28 rfl rfl ?_
        refine pw_getR (r := 49) (pc := 29) dX11_mark_29 fX11_52 (hC 0 (by decide)) (show kd_ 0 = 21 by decide +kernel) rfl (by decide +kernel) ?_
        refine pw_iload_n (z := m) (pc := 32) dX11_mark_32 rfl rfl ?_
        refine pw_aald (r := q) (pc := 33) dX11_mark_33 (hC 49 (by decide)) (show kd_ 49 = 4 by decide +kernel) (by decide) 4 (by decide +kernel) (by first | omega) (by first | omega) (by first | omega) (show h25 49 m = (q : Int) by rw [f25 49 (by simp; omega)]; exact hqr) ?_
        refine pw_iconst (pc := 34) dX11_mark_34 ?_
        refine pw_pZ (x := 4) (pc := 35) dX11_mark_35 fX11_339 (hC _ (by omega)) (kd3_0 ho_q) rfl rfl (by first | omega) ?_
        obtain ⟨g35, e35⟩ : ∃ x, x = up_ h25 q 4 1 := ⟨_, rfl⟩
        refine pw_heq e35 ?_
        refine pw_iconst (pc := 38) dX11_mark_38 ?_
        exact pw_zret (pc := 39) dX11_mark_39 (by first | omega) (Or.inr (Or.inl ⟨by omega, by omega, rfl, by
                  rw [← hq2, e35]
                  have u : ∀ i, i ≠ q → up_ h25 q 4 1 i = h25 i := fun i hi => up_off hi
                  have v : ∀ k, k ≠ 4 → up_ h25 q 4 1 q k = h25 q k := fun k hk => by rw [up_at, if_neg hk]
                  refine ⟨off_up f25 (by simp), up_same _ _ _ _, by rw [v 3 (by decide)]; exact a25, by rw [v 5 (by decide)]; exact b25, by rw [u _ (by omega)]; exact d25, fun r r0 r1 => by rw [u _ (by omega), u _ (by omega), u _ (by omega)]; exact r25 r r0 r1, fun x x0 x1 => by rw [u _ (by omega)]; exact x25 x x0 x1, fun x x0 x1 => by rw [u _ (by omega)]; exact y25 x x0 x1⟩⟩))
    · refine pw_iconst (pc := 9) dX11_mark_9 ?_
      exact pw_zret (pc := 10) dX11_mark_10 (by first | omega) (Or.inl ⟨by omega, rfl, rfl⟩)

