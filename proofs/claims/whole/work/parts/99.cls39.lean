set_option maxHeartbeats 4000000 in
set_option maxRecDepth 100000 in
theorem d_keep {G : GT_} (hC : okC_ G) (h : PH_) (o : Nat) (ho : is6_ o) (ro : Int → Int) (H : CRD_ ro h o) (hland : h 151 0 = (o : Int)) (v m : Int) (h1 : ir_ v) (h2 : ir_ m) : PC G yX1_keep cX1_keep 3 none 1 [rr_ G 151, ii_ v, ii_ m] h (qv_ (fun h' => off_ [151, 158, 159] h h' ∧ (∀ k, k ≠ 14 → k ≠ 15 → h' 151 k = h 151 k) ∧ h' 151 14 = v ∧ h' 151 15 = m ∧ (∀ x, 0 ≤ x → x < 4 → h' 158 x = h 157 x) ∧ (∀ x, 0 ≤ x → x < 4 → h' 159 x = h 156 (4 * ro 1 + x)))) := by
  have HB := H.2.1
  have HA := H.1
  have hl_h := hland
  refine PC.of (lv := [some (rr_ G 151), some (ii_ v), some (ii_ m)]) (by decide +kernel) (Nat.le_of_ble_eq_true rfl) rfl rfl ?_
  refine pw_aload_n (z := 151) (pc := 0) dX1_keep_0 rfl rfl ?_
  refine pw_iload_n (z := v) (pc := 1) dX1_keep_1 rfl rfl ?_
  refine pw_pI (x := 14) (pc := 2) dX1_keep_2 fX1_161 (hC 151 (by decide)) (show kd_ 151 = 11 by decide +kernel) rfl rfl (by first | omega) ?_
  obtain ⟨g2, e2⟩ : ∃ x, x = up_ h 151 14 v := ⟨_, rfl⟩
  refine pw_heq e2 ?_
  refine pw_aload_n (z := 151) (pc := 5) dX1_keep_5 rfl rfl ?_
  refine pw_iload_n (z := m) (pc := 6) dX1_keep_6 rfl rfl ?_
  refine pw_pI (x := 15) (pc := 7) dX1_keep_7 fX1_158 (hC 151 (by decide)) (show kd_ 151 = 11 by decide +kernel) rfl rfl (by first | omega) ?_
  obtain ⟨g7, e7⟩ : ∃ x, x = up_ g2 151 15 m := ⟨_, rfl⟩
  refine pw_heq e7 ?_
  have hl_g7 : g7 151 0 = (o : Int) := by rw [e7, up_at, if_neg (by decide), e2, up_at, if_neg (by decide)]; exact hland
  refine pw_aload_n (z := 151) (pc := 10) dX1_keep_10 rfl rfl ?_
  refine pw_getR (r := 157) (pc := 11) dX1_keep_11 fX1_27 (hC 151 (by decide)) (show kd_ 151 = 11 by decide +kernel) rfl (by decide +kernel) ?_
  refine pw_iconst (pc := 14) dX1_keep_14 ?_
  refine pw_aload_n (z := 151) (pc := 15) dX1_keep_15 rfl rfl ?_
  refine pw_getR (r := 158) (pc := 16) dX1_keep_16 fX1_30 (hC 151 (by decide)) (show kd_ 151 = 11 by decide +kernel) rfl (by decide +kernel) ?_
  refine pw_iconst (pc := 19) dX1_keep_19 ?_
  refine pw_iconst (pc := 20) dX1_keep_20 ?_
  refine pw_copy (n0 := 4) (n1 := 4) (pc := 21) dX1_keep_21 lX1_65 (hC 157 (by decide)) (hC 158 (by decide)) (show kd_ 157 = 0 by decide +kernel) (show kd_ 158 = 0 by decide +kernel) (by decide +kernel) (by decide +kernel) (by first | omega) (by first | omega) (by first | omega) (by decide) (by decide) (Nat.le_of_ble_eq_true rfl) ?_
  obtain ⟨g21, e21⟩ : ∃ x, x = sc_ g7 158 (fun x => if 0 ≤ x ∧ x < 0 + 4 then g7 157 (x - 0 + 0) else g7 158 x) := ⟨_, rfl⟩
  refine pw_heq e21 ?_
  have f21 : off_ [158] g7 g21 := fun j hj => by rw [e21]; exact sc_off (by simpa using hj)
  refine pw_aload_n (z := 151) (pc := 24) dX1_keep_24 rfl rfl ?_
  refine pw_getR (r := 156) (pc := 25) dX1_keep_25 fX1_24 (hC 151 (by decide)) (show kd_ 151 = 11 by decide +kernel) rfl (by decide +kernel) ?_
  refine pw_aload_n (z := 151) (pc := 28) dX1_keep_28 rfl rfl ?_
  have n_g21_151_0 : g21 151 0 = h 151 0 := (((show g21 151 0 = g7 151 0 from (congrFun (f21 151 (by first | decide | (simp; done) | (simp; omega))) 0)).trans (show g7 151 0 = g2 151 0 from (by rw [e7, up_at]; exact if_neg (by decide)))).trans (show g2 151 0 = h 151 0 from (by rw [e2, up_at]; exact if_neg (by decide))))
  refine pw_gD (x := 0) (r := o) (pc := 29) dX1_keep_29 fX1_39 (hC 151 (by decide)) (show kd_ 151 = 11 by decide +kernel) rfl rfl (n_g21_151_0.trans hl_h) ?_
  refine pw_gI (x := 1) (pc := 32) dX1_keep_32 fX1_78 (hC _ (by omega)) (kd6_0 ho) rfl rfl (fun r32 => ?_)
  have n_g21_o_1 : g21 o 1 = h o 1 := (((show g21 o 1 = g7 o 1 from (congrFun (f21 o (by first | decide | (simp; done) | (simp; omega))) 1)).trans (show g7 o 1 = g2 o 1 from (by rw [e7, up_off (by first | decide | omega)]))).trans (show g2 o 1 = h o 1 from (by rw [e2, up_off (by first | decide | omega)])))
  rw [n_g21_o_1] at r32 ⊢
  refine pw_iconst (pc := 35) dX1_keep_35 ?_
  refine pw_imul (pc := 36) dX1_keep_36 ?_
  refine pw_aload_n (z := 151) (pc := 37) dX1_keep_37 rfl rfl ?_
  refine pw_getR (r := 159) (pc := 38) dX1_keep_38 fX1_33 (hC 151 (by decide)) (show kd_ 151 = 11 by decide +kernel) rfl (by decide +kernel) ?_
  refine pw_iconst (pc := 41) dX1_keep_41 ?_
  refine pw_iconst (pc := 42) dX1_keep_42 ?_
  refine pw_copy (n0 := 20) (n1 := 4) (pc := 43) dX1_keep_43 lX1_65 (hC 156 (by decide)) (hC 159 (by decide)) (show kd_ 156 = 0 by decide +kernel) (show kd_ 159 = 0 by decide +kernel) (by decide +kernel) (by decide +kernel) (by first | omega | (simp only [n_g21_151_0, n_g21_o_1]; omega)) (by first | omega | (simp only [n_g21_151_0, n_g21_o_1]; omega)) (by first | omega | (simp only [n_g21_151_0, n_g21_o_1]; omega)) (by decide) (by decide) (Nat.le_of_ble_eq_true rfl) ?_
  obtain ⟨g43, e43⟩ : ∃ x, x = sc_ g21 159 (fun x => if 0 ≤ x ∧ x < 0 + 4 then g21 156 (x - 0 + ((h o 1) * 4)) else g21 159 x) := ⟨_, rfl⟩
  refine pw_heq e43 ?_
  have f43 : off_ [159] g21 g43 := fun j hj => by rw [e43]; exact sc_off (by simpa using hj)
  exact pw_vret (pc := 46) dX1_keep_46 (by
            have a1 : ∀ k, g43 151 k = ob_ (ob_ (h 151) 14 v) 15 m k := fun k => by rw [f43 151 (by decide), f21 151 (by decide), e7, up_ob, e2, up_ob]
            refine ⟨?_, fun k k1 k2 => ?_, ?_, ?_, fun x x0 x1 => ?_, fun x x0 x1 => ?_⟩
            · exact off_tr (off_tr (show off_ [151, 158, 159] h g7 by rw [e7, e2]; exact off_up (off_up off_rf (by decide)) (by decide)) (off_mo f21 (by decide))) (off_mo f43 (by decide))
            · rw [a1]; unfold ob_; rw [if_neg k2, if_neg k1]
            · rw [a1]; rfl
            · rw [a1]; rfl
            · rw [f43 158 (by decide), e21, sc_at]
              show (if _ then _ else _) = _
              rw [if_pos (by omega), show x - 0 + 0 = x by omega, e7, up_off (by decide), e2, up_off (by decide)]
            · rw [e43, sc_at]
              show (if _ then _ else _) = _
              rw [if_pos (by omega), f21 156 (by decide), e7, up_off (by decide), e2, up_off (by decide)]
              congr 1; omega)

set_option maxHeartbeats 4000000 in
set_option maxRecDepth 100000 in
theorem d_keepIf {G : GT_} (hC : okC_ G) (h : PH_) (o : Nat) (ho : is6_ o) (ro : Int → Int) (H : CRD_ ro h o) (P : List (Int × Int)) (hJ : CJP_ ro h o) (hG : CJG_ ro P h) (t : Int) (h1 : 0 ≤ t ∧ t < ro 1) (hT : t + 1 = ro 1) (k : Int) (h3 : 0 ≤ k ∧ k < (lpn_ ro 256).length) (hc : ∀ j, 0 ≤ j → j < t → 0 ≤ h 157 j ∧ h 157 j < (lpn_ ro 256).length) (hb : ∀ r, 0 ≤ r → r < ro 2 → -2000000 ≤ h 156 (4 * t + r) ∧ h 156 (4 * t + r) ≤ 2000000) (hR : 1 ≤ ro 2) (mm m : Int) (h4 : 0 ≤ m ∧ m ≤ 12) (B : BT_) (hB : jbs_ ro h B) : PC G yX1_keepIfEvener cX1_keepIfEvener 4 none 3 [rr_ G 151, ii_ t, ii_ k, ii_ m] h (qv_ (fun h' => jfr_ t h h' ∧ jbs_ ro h' (gtr_ ro P 0 mm 0 (ob_ (h 157) t k) (fun r => h 156 (4 * t + r) + gan_ ro P t (bef_ (h 157) t) k r) m B))) := by
  have HB := H.2.1
  have HA := H.1
  have l24 := lpn_24 (ro := ro) (by omega) (by omega)
  have hl_h := hJ.1
  have hN := hJ.2.1
  have h14 := jbs_14 hB
  have gbb := fun (r : Int) => gan_b (ro := ro) (P := P) (by omega) t (bef_ (h 157) t) k r
  obtain ⟨S, eS⟩ : ∃ S, S = spr_ (fun r => h 156 (4 * t + r) + gan_ ro P t (bef_ (h 157) t) k r) 0 (ro 2) := ⟨_, rfl⟩
  have Sb : 0 ≤ S ∧ S ≤ 20000000 := by
    have q := spr_b (f := (fun r => h 156 (4 * t + r) + gan_ ro P t (bef_ (h 157) t) k r)) (R := ro 2) (B := 10000000) (by omega) (fun r r0 r1 => by have := gbb r; have := hb r r0 r1; show -10000000 ≤ h 156 (4 * t + r) + _ ∧ h 156 (4 * t + r) + _ ≤ 10000000; omega)
    rw [← eS] at q
    omega
  have jb := jbs_bet (v := S) (m := m) (by omega) hB
  refine PC.of (lv := [some (rr_ G 151), some (ii_ t), some (ii_ k), some (ii_ m)]) (by decide +kernel) (Nat.le_of_ble_eq_true rfl) rfl rfl ?_
  refine pw_aload_n (z := 151) (pc := 0) dX1_keepIfEvener_0 rfl rfl ?_
  refine pw_aload_n (z := 151) (pc := 1) dX1_keepIfEvener_1 rfl rfl ?_
  refine pw_iload_n (z := t) (pc := 2) dX1_keepIfEvener_2 rfl rfl ?_
  refine pw_iload_n (z := k) (pc := 3) dX1_keepIfEvener_3 rfl rfl ?_
  refine pw_callV (c := 1) (o := 151) (As := [ii_ t, ii_ k]) (rest := [rr_ G 151]) (pc := 4) dX1_keepIfEvener_4 (d_spreadWith hC h o ho ro H P hJ hG t h1 k h3 hc hb hR h14) lX1_187 mX1_spreadWith vX1_spreadWith (hC 151 (by decide)) (show kd_ 151 = 11 by decide +kernel) rfl rfl rfl (by decide) ⟨Nat.zero_le _, Nat.zero_le _⟩ (Nat.le_of_ble_eq_true rfl) (k_i (fun z4 h4 y4 q4 => ?_))
  obtain ⟨rfl, w4⟩ := q4
  rw [← eS] at w4
  refine pw_iload_n (z := m) (pc := 7) dX1_keepIfEvener_7 rfl rfl ?_
  refine pw_callV (c := 1) (o := 151) (As := [ii_ z4, ii_ m]) (rest := []) (pc := 8) dX1_keepIfEvener_8 (d_isEvener hC h z4 m (by first | omega) (by first | omega)) lX1_183 mX1_isEvener vX1_isEvener (hC 151 (by decide)) (show kd_ 151 = 11 by decide +kernel) rfl rfl rfl (by decide) ⟨Nat.zero_le _, Nat.zero_le _⟩ (Nat.le_of_ble_eq_true rfl) (k_i (fun z8 h8 y8 q8 => ?_))
  obtain ⟨rfl, ⟨rfl, p8⟩ | ⟨rfl, p8⟩⟩ := q8
  · refine pw_if_eq (t := 44) (pc := 11) dX1_keepIfEvener_11 (by decide) (by first | omega) (fun c11 => absurd c11 (by decide)) (fun _ => ?_)
    have zS : z4 = S := by
      rcases w4 with w4 | w4
      · exact w4
      · exfalso; omega
    have bt : bet_ 0 S m B := jb.mp (by rw [← zS]; exact p8)
    refine pw_aload_n (z := 151) (pc := 14) dX1_keepIfEvener_14 rfl rfl ?_
    refine pw_iload_n (z := t) (pc := 15) dX1_keepIfEvener_15 rfl rfl ?_
    refine pw_iload_n (z := k) (pc := 16) dX1_keepIfEvener_16 rfl rfl ?_
    refine pw_callV (c := 1) (o := 151) (As := [ii_ t, ii_ k]) (rest := []) (pc := 17) dX1_keepIfEvener_17 (d_choose hC h o ho ro H P hJ hG t h1 k h3 hc hb) lX1_177 mX1_choose vX1_choose (hC 151 (by decide)) (show kd_ 151 = 11 by decide +kernel) rfl rfl rfl (by decide) ⟨Nat.zero_le _, Nat.zero_le _⟩ (Nat.le_of_ble_eq_true rfl) (k_v (fun h17 q17 => ?_))
    obtain ⟨f17, r17, l17, t17⟩ := q17
    have H17 : CRD_ ro h17 o := CRD_off H ho f17 (by simp)
    have hl_h17 : h17 151 0 = (o : Int) := by rw [f17 151 (by decide)]; exact hJ.1
    have b17 : ∀ x, (t + 1) * 4 ≤ x → x < (t + 1) * 4 + ro 2 → -10000000 ≤ h17 156 x ∧ h17 156 x ≤ 10000000 := fun x x0 x1 => by
      have q := t17 (x - 4 * t - 4) (by omega) (by omega)
      rw [show 4 * t + 4 + (x - 4 * t - 4) = x by omega] at q
      have := gbb (x - 4 * t - 4)
      have := hb (x - 4 * t - 4) (by omega) (by omega)
      omega
    refine pw_aload_n (z := 151) (pc := 20) dX1_keepIfEvener_20 rfl rfl ?_
    refine pw_aload_n (z := 151) (pc := 21) dX1_keepIfEvener_21 rfl rfl ?_
    refine pw_getR (r := 156) (pc := 22) dX1_keepIfEvener_22 fX1_24 (hC 151 (by decide)) (show kd_ 151 = 11 by decide +kernel) rfl (by decide +kernel) ?_
    refine pw_iload_n (z := t) (pc := 25) dX1_keepIfEvener_25 rfl rfl ?_
    refine pw_iconst (pc := 26) dX1_keepIfEvener_26 ?_
    refine pw_iadd (pc := 27) dX1_keepIfEvener_27 ?_
    refine pw_iconst (pc := 28) dX1_keepIfEvener_28 ?_
    refine pw_imul (pc := 29) dX1_keepIfEvener_29 ?_
    refine pw_aload_n (z := 151) (pc := 30) dX1_keepIfEvener_30 rfl rfl ?_
    have n_h17_151_0 : h17 151 0 = h 151 0 := (congrFun (f17 151 (by first | decide | (simp; done) | (simp; omega))) 0)
    refine pw_gD (x := 0) (r := o) (pc := 31) dX1_keepIfEvener_31 fX1_39 (hC 151 (by decide)) (show kd_ 151 = 11 by decide +kernel) rfl rfl (n_h17_151_0.trans hl_h) ?_
    refine pw_gI (x := 2) (pc := 34) dX1_keepIfEvener_34 fX1_94 (hC _ (by omega)) (kd6_0 ho) rfl rfl (fun r34 => ?_)
    have n_h17_o_2 : h17 o 2 = h o 2 := (congrFun (f17 o (by first | decide | (simp; done) | (simp; omega))) 2)
    rw [n_h17_o_2] at r34 ⊢
    rw [HA.2.2.1]
    refine pw_callSN (As := [rr_ G 156, ii_ ((t + 1) * 4), ii_ (ro 2)]) (rest := [rr_ G 151]) (pc := 37) dX1_keepIfEvener_37 rfl (d_spreadOf hC h17 156 20 (by decide +kernel) (by decide +kernel) (by decide) (by decide) ((t + 1) * 4) (ro 2) (by first | omega | (simp only [n_h17_151_0, n_h17_o_2]; omega)) b17) mX11_spreadOf sX11_spreadOf rfl rfl (by decide) ⟨Nat.zero_le _, Nat.zero_le _⟩ (Nat.le_of_ble_eq_true rfl) (k_i (fun z37 h37 y37 q37 => ?_))
    obtain ⟨rfl, w37⟩ := q37
    have w38 : z37 = S := by
      rw [w37, eS]
      exact spr_cj hR (fun r r0 r1 => by rw [show (t + 1) * 4 + r = 4 * t + 4 + r by omega, t17 r r0 r1, Int.zero_add])
    refine pw_iload_n (z := m) (pc := 40) dX1_keepIfEvener_40 rfl rfl ?_
    refine pw_callV (c := 1) (o := 151) (As := [ii_ z37, ii_ m]) (rest := []) (pc := 41) dX1_keepIfEvener_41 (d_keep hC h17 o ho ro H17 hl_h17 z37 m (by first | omega | (simp only [n_h17_151_0, n_h17_o_2]; omega)) (by first | omega | (simp only [n_h17_151_0, n_h17_o_2]; omega))) lX1_190 mX1_keep vX1_keep (hC 151 (by decide)) (show kd_ 151 = 11 by decide +kernel) rfl rfl rfl (by decide) ⟨Nat.zero_le _, Nat.zero_le _⟩ (Nat.le_of_ble_eq_true rfl) (k_v (fun h41 q41 => ?_))
    obtain ⟨f41, o41, s41, m41, r41, t41⟩ := q41
    exact pw_vret (pc := 44) dX1_keepIfEvener_44 (by
              first
              | (refine ⟨⟨off_rf, fun _ _ _ => rfl, fun _ _ => rfl, fun _ _ => rfl⟩, ?_⟩
                 rw [lok_n hR (by rw [← eS]; intro u; have := jb.mpr u; rcases w4 with w4 | w4 <;> omega)]
                 exact hB)
              | (refine ⟨⟨off_tr (off_mo f17 (by decide)) (off_mo f41 (by decide)), fun q q1 q2 => by rw [o41 q q1 q2, f17 151 (by decide)], fun x x1 => by rw [f41 156 (by decide)]; exact l17 x x1, fun x x1 => by rw [f41 157 (by decide), r17]; exact if_neg (by omega)⟩, ?_⟩
                 rw [lok_y hR (by rw [← eS]; exact bt), ← eS]
                 refine jbs_mk ⟨by rw [s41, w38], Sb.1, by omega⟩ m41 (fun j j0 j1 => ?_) (fun j j0 j1 => by rw [r41 j j0 (by omega), r17]) (fun r r0 r1 => by rw [t41 r r0 (by omega), show 4 * ro 1 + r = 4 * t + 4 + r by omega, t17 r r0 r1])
                 rw [r41 j j0 (by omega), r17]
                 unfold ob_
                 by_cases c : j = t
                 · rw [if_pos c]; exact h3
                 · rw [if_neg c]; exact hc j j0 (by omega)))
  · refine pw_if_eq (t := 44) (pc := 11) dX1_keepIfEvener_11 (by decide) (by first | omega) (fun _ => ?_) (fun c11 => absurd c11 (by decide))
    exact pw_vret (pc := 44) dX1_keepIfEvener_44 (by
              first
              | (refine ⟨⟨off_rf, fun _ _ _ => rfl, fun _ _ => rfl, fun _ _ => rfl⟩, ?_⟩
                 rw [lok_n hR (by rw [← eS]; intro u; have := jb.mpr u; rcases w4 with w4 | w4 <;> omega)]
                 exact hB)
              | (refine ⟨⟨off_tr (off_mo f17 (by decide)) (off_mo f41 (by decide)), fun q q1 q2 => by rw [o41 q q1 q2, f17 151 (by decide)], fun x x1 => by rw [f41 156 (by decide)]; exact l17 x x1, fun x x1 => by rw [f41 157 (by decide), r17]; exact if_neg (by omega)⟩, ?_⟩
                 rw [lok_y hR (by rw [← eS]; exact bt), ← eS]
                 refine jbs_mk ⟨by rw [s41, w38], Sb.1, by omega⟩ m41 (fun j j0 j1 => ?_) (fun j j0 j1 => by rw [r41 j j0 (by omega), r17]) (fun r r0 r1 => by rw [t41 r r0 (by omega), show 4 * ro 1 + r = 4 * t + 4 + r by omega, t17 r r0 r1])
                 rw [r41 j j0 (by omega), r17]
                 unfold ob_
                 by_cases c : j = t
                 · rw [if_pos c]; exact h3
                 · rw [if_neg c]; exact hc j j0 (by omega)))

