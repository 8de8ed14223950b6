set_option maxHeartbeats 4000000 in
set_option maxRecDepth 100000 in
theorem d_rider {G : GT_} (hC : okC_ G) (h : PH_) (o : Nat) (ho : is6_ o) (hL : h 0 2 = (o : Int)) (ro : Int → Int) (H : CRD_ ro h o) (hX : gX_ G) (r w : Int) (h1 : ir_ r) (h2 : ir_ w) : PCX G yX11_rider cX11_rider 3 (some .int) 6 [rr_ G 0, ii_ r, ii_ w] h (qi_ (fun z h' => h = h' ∧ (0 ≤ r ∧ r < ro 2) ∧ z = (if 0 ≤ w ∧ w ≤ 2 then ro (31 + 4 * r + w) else if w = 3 then h 44 r else if w = 4 then h 46 r else -1))) (fun h' => h = h' ∧ ¬ (0 ≤ r ∧ r < ro 2)) := by
  have hL_h := hL
  have HB := H.2.1
  have HA := H.1
  refine PCX.of (lv := [some (rr_ G 0), some (ii_ r), some (ii_ w)]) (by decide +kernel) (Nat.le_of_ble_eq_true rfl) rfl rfl ?_
  refine pw_aload_n (z := 0) (pc := 0) dX11_rider_0 rfl rfl ?_
  refine pw_iload_n (z := r) (pc := 1) dX11_rider_1 rfl rfl ?_
  refine pw_callV (c := 11) (o := 0) (As := [ii_ r]) (rest := []) (pc := 2) dX11_rider_2 (d_isRider hC h o ho hL ro H r (by first | omega)) lX11_147 mX11_isRider vX11_isRider (hC 0 (by decide)) (show kd_ 0 = 21 by decide +kernel) rfl rfl rfl (by decide) ⟨Nat.zero_le _, Nat.zero_le _⟩ (Nat.le_of_ble_eq_true rfl) (k_i (fun z2 h2 y2 q2 => ?_))
  obtain ⟨rfl, ⟨rfl, p2⟩ | ⟨rfl, p2⟩⟩ := q2
  · refine pw_if_ne (t := 18) (pc := 5) dX11_rider_5 (by decide) (by first | omega) (fun _ => ?_) (fun c5 => absurd c5 (by decide))
    refine pw_iload_n (z := w) (pc := 18) dX11_rider_18 rfl rfl ?_
    have sw19 : w = 0 ∨ w = 1 ∨ w = 2 ∨ w = 3 ∨ w = 4 ∨ (w < 0 ∨ 4 < w) := by omega
    rcases sw19 with sw19 | sw19 | sw19 | sw19 | sw19 | sw19
    · refine pw_tableIn (t := 52) (off := 33) (pc := 19) dX11_rider_19 (by first | omega) (by omega) (by omega) (by rw [sw19]; rfl) (by decide) ?_
      refine pw_aload_n (z := 0) (pc := 52) dX11_rider_52 rfl rfl ?_
      refine pw_gD (x := 2) (r := o) (pc := 53) dX11_rider_53 fX11_28 (hC 0 (by decide)) (show kd_ 0 = 21 by decide +kernel) rfl rfl hL_h ?_
      refine pw_getR (r := (o + 3)) (pc := 56) dX11_rider_56 fX11_158 (hC _ (by omega)) (kd6_0 ho) rfl rfl ?_
      refine pw_iload_n (z := r) (pc := 59) dX11_rider_59 rfl rfl ?_
      refine pw_iald (pc := 60) dX11_rider_60 (hC _ (by omega)) (kd6_3 ho) 4 (ln6_3 ho) (by first | omega) (by first | omega) (by first | omega) (fun r60 => ?_)
      exact pw_zx <| pw_iret (pc := 61) dX11_rider_61 (by first | omega) (⟨rfl, p2, by rw [if_pos (by omega), (H.2.2.2.1 r p2.1 p2.2).1]; congr 1; omega⟩)
    · refine pw_tableIn (t := 62) (off := 43) (pc := 19) dX11_rider_19 (by first | omega) (by omega) (by omega) (by rw [sw19]; rfl) (by decide) ?_
      refine pw_aload_n (z := 0) (pc := 62) dX11_rider_62 rfl rfl ?_
      refine pw_gD (x := 2) (r := o) (pc := 63) dX11_rider_63 fX11_28 (hC 0 (by decide)) (show kd_ 0 = 21 by decide +kernel) rfl rfl hL_h ?_
      refine pw_getR (r := (o + 4)) (pc := 66) dX11_rider_66 fX11_161 (hC _ (by omega)) (kd6_0 ho) rfl rfl ?_
      refine pw_iload_n (z := r) (pc := 69) dX11_rider_69 rfl rfl ?_
      refine pw_iald (pc := 70) dX11_rider_70 (hC _ (by omega)) (kd6_4 ho) 4 (ln6_4 ho) (by first | omega) (by first | omega) (by first | omega) (fun r70 => ?_)
      exact pw_zx <| pw_iret (pc := 71) dX11_rider_71 (by first | omega) (⟨rfl, p2, by rw [if_pos (by omega), (H.2.2.2.1 r p2.1 p2.2).2.1]; congr 1; omega⟩)
    · refine pw_tableIn (t := 72) (off := 53) (pc := 19) dX11_rider_19 (by first | omega) (by omega) (by omega) (by rw [sw19]; rfl) (by decide) ?_
      refine pw_aload_n (z := 0) (pc := 72) dX11_rider_72 rfl rfl ?_
      refine pw_gD (x := 2) (r := o) (pc := 73) dX11_rider_73 fX11_28 (hC 0 (by decide)) (show kd_ 0 = 21 by decide +kernel) rfl rfl hL_h ?_
      refine pw_getR (r := (o + 5)) (pc := 76) dX11_rider_76 fX11_164 (hC _ (by omega)) (kd6_0 ho) rfl rfl ?_
      refine pw_iload_n (z := r) (pc := 79) dX11_rider_79 rfl rfl ?_
      refine pw_iald (pc := 80) dX11_rider_80 (hC _ (by omega)) (kd6_5 ho) 4 (ln6_5 ho) (by first | omega) (by first | omega) (by first | omega) (fun r80 => ?_)
      exact pw_zx <| pw_iret (pc := 81) dX11_rider_81 (by first | omega) (⟨rfl, p2, by rw [if_pos (by omega), (H.2.2.2.1 r p2.1 p2.2).2.2.1]; congr 1; omega⟩)
    · refine pw_tableIn (t := 82) (off := 63) (pc := 19) dX11_rider_19 (by first | omega) (by omega) (by omega) (by rw [sw19]; rfl) (by decide) ?_
      refine pw_aload_n (z := 0) (pc := 82) dX11_rider_82 rfl rfl ?_
      refine pw_getR (r := 42) (pc := 83) dX11_rider_83 fX11_48 (hC 0 (by decide)) (show kd_ 0 = 21 by decide +kernel) rfl (by decide +kernel) ?_
      refine pw_getR (r := 43) (pc := 86) dX11_rider_86 fX11_167 (hC 42 (by decide)) (show kd_ 42 = 13 by decide +kernel) rfl (by decide +kernel) ?_
      refine pw_getR (r := 44) (pc := 89) dX11_rider_89 fX11_170 (hC 43 (by decide)) (show kd_ 43 = 17 by decide +kernel) rfl (by decide +kernel) ?_
      refine pw_iload_n (z := r) (pc := 92) dX11_rider_92 rfl rfl ?_
      refine pw_iald (pc := 93) dX11_rider_93 (hC 44 (by decide)) (show kd_ 44 = 0 by decide +kernel) 4 (by decide +kernel) (by first | omega) (by first | omega) (by first | omega) (fun r93 => ?_)
      exact pw_zx <| pw_iret (pc := 94) dX11_rider_94 (by first | omega) (⟨rfl, p2, by rw [if_neg (by omega), if_pos (by omega)]⟩)
    · refine pw_tableIn (t := 95) (off := 76) (pc := 19) dX11_rider_19 (by first | omega) (by omega) (by omega) (by rw [sw19]; rfl) (by decide) ?_
      refine pw_aload_n (z := 0) (pc := 95) dX11_rider_95 rfl rfl ?_
      refine pw_getR (r := 42) (pc := 96) dX11_rider_96 fX11_48 (hC 0 (by decide)) (show kd_ 0 = 21 by decide +kernel) rfl (by decide +kernel) ?_
      refine pw_getR (r := 43) (pc := 99) dX11_rider_99 fX11_167 (hC 42 (by decide)) (show kd_ 42 = 13 by decide +kernel) rfl (by decide +kernel) ?_
      refine pw_getR (r := 46) (pc := 102) dX11_rider_102 fX11_173 (hC 43 (by decide)) (show kd_ 43 = 17 by decide +kernel) rfl (by decide +kernel) ?_
      refine pw_iload_n (z := r) (pc := 105) dX11_rider_105 rfl rfl ?_
      refine pw_iald (pc := 106) dX11_rider_106 (hC 46 (by decide)) (show kd_ 46 = 0 by decide +kernel) 4 (by decide +kernel) (by first | omega) (by first | omega) (by first | omega) (fun r106 => ?_)
      exact pw_zx <| pw_iret (pc := 107) dX11_rider_107 (by first | omega) (⟨rfl, p2, by rw [if_neg (by omega), if_neg (by omega), if_pos (by omega)]⟩)
    · refine pw_tableOut (t := 108) (pc := 19) dX11_rider_19 (by first | omega) sw19 (by decide) ?_
      refine pw_iconst (pc := 108) dX11_rider_108 ?_
      exact pw_zx <| pw_iret (pc := 109) dX11_rider_109 (by first | omega) (⟨rfl, p2, by rw [if_neg (by omega), if_neg (by omega), if_neg (by omega)]⟩)
  · refine pw_if_ne (t := 18) (pc := 5) dX11_rider_5 (by decide) (by first | omega) (fun c5 => absurd c5 (by decide)) (fun _ => ?_)
    exact pw_throwS (pc := 8) (j := 15) dX11_rider_8 dX11_rider_11 dX11_rider_12 dX11_rider_14 dX11_rider_17 hX mX11_rider.1 (by decide) rfl ⟨rfl, by omega⟩

set_option maxHeartbeats 4000000 in
set_option maxRecDepth 100000 in
theorem d_most {G : GT_} (hC : okC_ G) (h : PH_) (o : Nat) (ho : is6_ o) (hL : h 0 2 = (o : Int)) (ro : Int → Int) (P : List (Int × Int)) (HC : CLD_ ro P h o) (hj : CJP_ ro h o) (hr : h 151 1 = 0 ∨ h 151 1 = 1 ∧ CJG_ ro P h ∧ CJL_ ro P h 0) (hpa : ∀ r, 0 ≤ r → r < ro 2 → 0 ≤ ro (31 + 4 * r + 2) ∧ ro (31 + 4 * r + 2) ≤ 9999) (hX : gX_ G) (w : Int) (h1 : ir_ w) : PCX G yX11_most cX11_most 3 (some .int) 7 [rr_ G 0, ii_ w] h (qi_ (fun z h' => ((w = -1 ∨ 0 ≤ w ∧ w < ro 1) ∧ 0 < ro 2 ∧ (ro 1 = 0 ∨ 0 < (lpn_ ro 256).length)) ∧ off_ [151, 152, 153, 154, 155, o + 10, o + 11, o + 15] h h' ∧ CWM_ ro P h' o ∧ (∀ k, k ≠ 1 → h' 151 k = h 151 k) ∧ (h' 151 1 = 1 ∧ CJG_ ro P h' ∧ CJL_ ro P h' 0) ∧ z = (if w < 0 then sm_ (pas_ ro) 0 (ro 2).toNat + srm_ ro P (ro 1).toNat (-1) else pL_ ro (pth_ ro P w.toNat)))) (fun h' => h = h' ∧ ¬ ((w = -1 ∨ 0 ≤ w ∧ w < ro 1) ∧ 0 < ro 2 ∧ (ro 1 = 0 ∨ 0 < (lpn_ ro 256).length))) := by
  have H := HC.1
  have hL_h := hL
  have HB := H.2.1
  have HA := H.1
  refine PCX.of (lv := [some (rr_ G 0), some (ii_ w), none]) (by decide +kernel) (Nat.le_of_ble_eq_true rfl) rfl rfl ?_
  refine pw_iload_n (z := w) (pc := 0) dX11_most_0 rfl rfl ?_
  refine pw_iconst (pc := 1) dX11_most_1 ?_
  refine pw_icmp_eq (t := 13) (pc := 2) dX11_most_2 (by decide) (by first | omega) (by first | omega) (fun c2 => ?_) (fun c2 => ?_)
  · refine pw_iconst (pc := 13) dX11_most_13 ?_
    refine pw_goto (t := 18) (pc := 14) dX11_most_14 (by decide) ?_
    refine pw_istore_n (lv1 := [some (rr_ G 0), some (ii_ w), some (ii_ 1)]) (pc := 18) dX11_most_18 rfl (by decide) rfl rfl ?_
    refine pw_iload_n (z := 1) (pc := 19) dX11_most_19 rfl rfl ?_
    refine pw_if_eq (t := 43) (pc := 20) dX11_most_20 (by decide) (by first | omega) (fun c20 => absurd c20 (by decide)) (fun _ => ?_)
    refine pw_aload_n (z := 0) (pc := 23) dX11_most_23 rfl rfl ?_
    refine pw_gD (x := 2) (r := o) (pc := 24) dX11_most_24 fX11_28 (hC 0 (by decide)) (show kd_ 0 = 21 by decide +kernel) rfl rfl hL_h ?_
    refine pw_gI (x := 2) (pc := 27) dX11_most_27 fX11_242 (hC _ (by omega)) (kd6_0 ho) rfl rfl (fun r27 => ?_)
    refine pw_if_eq (t := 43) (pc := 30) dX11_most_30 (by decide) (by first | omega) (fun c30 => ?_) (fun c30 => ?_)
    · exact pw_throwS (pc := 43) (j := 16) dX11_most_43 dX11_most_46 dX11_most_47 dX11_most_49 dX11_most_52 hX mX11_most.1 (by decide) rfl ⟨rfl, by rintro ⟨a, b, c⟩; omega⟩
    · refine pw_aload_n (z := 0) (pc := 33) dX11_most_33 rfl rfl ?_
      refine pw_gD (x := 2) (r := o) (pc := 34) dX11_most_34 fX11_28 (hC 0 (by decide)) (show kd_ 0 = 21 by decide +kernel) rfl rfl hL_h ?_
      refine pw_callV (c := 6) (o := o) (As := []) (rest := []) (pc := 37) dX11_most_37 (d_canBeDriven hC h o ho (by have := hj.2.1; have := lpn_24 (ro := ro) HB.1 HB.2.1; omega)) lX11_251 mX6_canBeDriven vX6_canBeDriven (hC _ (by omega)) (kd6_0 ho) rfl rfl rfl (by decide) ⟨Nat.zero_le _, Nat.zero_le _⟩ (Nat.le_of_ble_eq_true rfl) (k_i (fun z37 h37 y37 q37 => ?_))
      obtain ⟨rfl, ⟨rfl, p37⟩ | ⟨rfl, p37⟩⟩ := q37
      · rw [hj.2.1, HA.2.1] at p37
        refine pw_if_ne (t := 53) (pc := 40) dX11_most_40 (by decide) (by first | omega) (fun _ => ?_) (fun c40 => absurd c40 (by decide))
        refine pw_aload_n (z := 0) (pc := 53) dX11_most_53 rfl rfl ?_
        refine pw_getR (r := 151) (pc := 54) dX11_most_54 fX11_83 (hC 0 (by decide)) (show kd_ 0 = 21 by decide +kernel) rfl (by decide +kernel) ?_
        refine pw_callV (c := 1) (o := 151) (As := []) (rest := []) (pc := 57) dX11_most_57 (d_prepare hC h o ho ro H P HC.2.1 HC.2.2 hj hr) lX11_245 mX1_prepare vX1_prepare (hC 151 (by decide)) (show kd_ 151 = 11 by decide +kernel) rfl rfl rfl (by decide) ⟨Nat.zero_le _, Nat.zero_le _⟩ (Nat.le_of_ble_eq_true rfl) (k_v (fun h57 q57 => ?_))
        obtain ⟨f57, m57, k57, e57, g57, l57⟩ := q57
        have K57 : CLD_ ro P h57 o := CLD_w HC ho f57 (by simp) m57
        have J57 : jon_ ro P o h57 := ⟨K57.1, ⟨by rw [k57 0 (by decide)]; exact hj.1, CPL_cg hj.2 (f57 o (by simp; omega)) (f57 (o + 14) (by simp; omega))⟩, g57, l57⟩
        refine pw_aload_n (z := 0) (pc := 60) dX11_most_60 rfl rfl ?_
        refine pw_getR (r := 151) (pc := 61) dX11_most_61 fX11_83 (hC 0 (by decide)) (show kd_ 0 = 21 by decide +kernel) rfl (by decide +kernel) ?_
        refine pw_iload_n (z := w) (pc := 64) dX11_most_64 rfl rfl ?_
        refine pw_callV (c := 1) (o := 151) (As := [ii_ w]) (rest := []) (pc := 65) dX11_most_65 (d_greatSum hC h57 o ho ro K57.1 P J57.2.1 g57 hpa (by first | omega) w (by first | omega)) lX11_257 mX1_greatestSum vX1_greatestSum (hC 151 (by decide)) (show kd_ 151 = 11 by decide +kernel) rfl rfl rfl (by decide) ⟨Nat.zero_le _, Nat.zero_le _⟩ (Nat.le_of_ble_eq_true rfl) (k_i (fun z65 h65 y65 q65 => ?_))
        obtain ⟨f65, w65⟩ := q65
        exact pw_zx <| pw_iret (pc := 68) dX11_most_68 (by first | omega) (⟨⟨by omega, by omega, by omega⟩, off_tr (off_mo f57 (by simp)) (off_mo f65 (by simp)), by unfold CWM_; rw [f65 (o + 15) (by simp; omega)]; exact m57, fun k k1 => by rw [f65 151 (by simp)]; exact k57 k k1, ⟨by rw [f65 151 (by simp)]; exact e57, by unfold CJG_; rw [f65 153 (by simp)]; exact g57, by unfold CJL_; rw [f65 154 (by simp)]; exact l57⟩, w65⟩)
      · rw [hj.2.1, HA.2.1] at p37
        refine pw_if_ne (t := 53) (pc := 40) dX11_most_40 (by decide) (by first | omega) (fun c40 => absurd c40 (by decide)) (fun _ => ?_)
        exact pw_throwS (pc := 43) (j := 16) dX11_most_43 dX11_most_46 dX11_most_47 dX11_most_49 dX11_most_52 hX mX11_most.1 (by decide) rfl ⟨rfl, by rintro ⟨a, b, c⟩; omega⟩
  · refine pw_aload_n (z := 0) (pc := 5) dX11_most_5 rfl rfl ?_
    refine pw_iload_n (z := w) (pc := 6) dX11_most_6 rfl rfl ?_
    refine pw_callV (c := 11) (o := 0) (As := [ii_ w]) (rest := []) (pc := 7) dX11_most_7 (d_isStretch hC h o ho hL ro H w (by first | omega)) lX11_176 mX11_isStretch vX11_isStretch (hC 0 (by decide)) (show kd_ 0 = 21 by decide +kernel) rfl rfl rfl (by decide) ⟨Nat.zero_le _, Nat.zero_le _⟩ (Nat.le_of_ble_eq_true rfl) (k_i (fun z7 h7 y7 q7 => ?_))
    obtain ⟨rfl, ⟨rfl, p7⟩ | ⟨rfl, p7⟩⟩ := q7
    · refine pw_if_eq (t := 17) (pc := 10) dX11_most_10 (by decide) (by first | omega) (fun c10 => absurd c10 (by decide)) (fun _ => ?_)
      refine pw_iconst (pc := 13) dX11_most_13 ?_
      refine pw_goto (t := 18) (pc := 14) dX11_most_14 (by decide) ?_
      refine pw_istore_n (lv1 := [some (rr_ G 0), some (ii_ w), some (ii_ 1)]) (pc := 18) dX11_most_18 rfl (by decide) rfl rfl ?_
      refine pw_iload_n (z := 1) (pc := 19) dX11_most_19 rfl rfl ?_
      refine pw_if_eq (t := 43) (pc := 20) dX11_most_20 (by decide) (by first | omega) (fun c20 => absurd c20 (by decide)) (fun _ => ?_)
      refine pw_aload_n (z := 0) (pc := 23) dX11_most_23 rfl rfl ?_
      refine pw_gD (x := 2) (r := o) (pc := 24) dX11_most_24 fX11_28 (hC 0 (by decide)) (show kd_ 0 = 21 by decide +kernel) rfl rfl hL_h ?_
      refine pw_gI (x := 2) (pc := 27) dX11_most_27 fX11_242 (hC _ (by omega)) (kd6_0 ho) rfl rfl (fun r27 => ?_)
      refine pw_if_eq (t := 43) (pc := 30) dX11_most_30 (by decide) (by first | omega) (fun c30 => ?_) (fun c30 => ?_)
      · exact pw_throwS (pc := 43) (j := 16) dX11_most_43 dX11_most_46 dX11_most_47 dX11_most_49 dX11_most_52 hX mX11_most.1 (by decide) rfl ⟨rfl, by rintro ⟨a, b, c⟩; omega⟩
      · refine pw_aload_n (z := 0) (pc := 33) dX11_most_33 rfl rfl ?_
        refine pw_gD (x := 2) (r := o) (pc := 34) dX11_most_34 fX11_28 (hC 0 (by decide)) (show kd_ 0 = 21 by decide +kernel) rfl rfl hL_h ?_
        refine pw_callV (c := 6) (o := o) (As := []) (rest := []) (pc := 37) dX11_most_37 (d_canBeDriven hC h o ho (by have := hj.2.1; have := lpn_24 (ro := ro) HB.1 HB.2.1; omega)) lX11_251 mX6_canBeDriven vX6_canBeDriven (hC _ (by omega)) (kd6_0 ho) rfl rfl rfl (by decide) ⟨Nat.zero_le _, Nat.zero_le _⟩ (Nat.le_of_ble_eq_true rfl) (k_i (fun z37 h37 y37 q37 => ?_))
        obtain ⟨rfl, ⟨rfl, p37⟩ | ⟨rfl, p37⟩⟩ := q37
        · rw [hj.2.1, HA.2.1] at p37
          refine pw_if_ne (t := 53) (pc := 40) dX11_most_40 (by decide) (by first | omega) (fun _ => ?_) (fun c40 => absurd c40 (by decide))
          refine pw_aload_n (z := 0) (pc := 53) dX11_most_53 rfl rfl ?_
          refine pw_getR (r := 151) (pc := 54) dX11_most_54 fX11_83 (hC 0 (by decide)) (show kd_ 0 = 21 by decide +kernel) rfl (by decide +kernel) ?_
          refine pw_callV (c := 1) (o := 151) (As := []) (rest := []) (pc := 57) dX11_most_57 (d_prepare hC h o ho ro H P HC.2.1 HC.2.2 hj hr) lX11_245 mX1_prepare vX1_prepare (hC 151 (by decide)) (show kd_ 151 = 11 by decide +kernel) rfl rfl rfl (by decide) ⟨Nat.zero_le _, Nat.zero_le _⟩ (Nat.le_of_ble_eq_true rfl) (k_v (fun h57 q57 => ?_))
          obtain ⟨f57, m57, k57, e57, g57, l57⟩ := q57
          have K57 : CLD_ ro P h57 o := CLD_w HC ho f57 (by simp) m57
          have J57 : jon_ ro P o h57 := ⟨K57.1, ⟨by rw [k57 0 (by decide)]; exact hj.1, CPL_cg hj.2 (f57 o (by simp; omega)) (f57 (o + 14) (by simp; omega))⟩, g57, l57⟩
          refine pw_aload_n (z := 0) (pc := 60) dX11_most_60 rfl rfl ?_
          refine pw_getR (r := 151) (pc := 61) dX11_most_61 fX11_83 (hC 0 (by decide)) (show kd_ 0 = 21 by decide +kernel) rfl (by decide +kernel) ?_
          refine pw_iload_n (z := w) (pc := 64) dX11_most_64 rfl rfl ?_
          refine pw_callV (c := 1) (o := 151) (As := [ii_ w]) (rest := []) (pc := 65) dX11_most_65 (d_greatSum hC h57 o ho ro K57.1 P J57.2.1 g57 hpa (by first | omega) w (by first | omega)) lX11_257 mX1_greatestSum vX1_greatestSum (hC 151 (by decide)) (show kd_ 151 = 11 by decide +kernel) rfl rfl rfl (by decide) ⟨Nat.zero_le _, Nat.zero_le _⟩ (Nat.le_of_ble_eq_true rfl) (k_i (fun z65 h65 y65 q65 => ?_))
          obtain ⟨f65, w65⟩ := q65
          exact pw_zx <| pw_iret (pc := 68) dX11_most_68 (by first | omega) (⟨⟨by omega, by omega, by omega⟩, off_tr (off_mo f57 (by simp)) (off_mo f65 (by simp)), by unfold CWM_; rw [f65 (o + 15) (by simp; omega)]; exact m57, fun k k1 => by rw [f65 151 (by simp)]; exact k57 k k1, ⟨by rw [f65 151 (by simp)]; exact e57, by unfold CJG_; rw [f65 153 (by simp)]; exact g57, by unfold CJL_; rw [f65 154 (by simp)]; exact l57⟩, w65⟩)
        · rw [hj.2.1, HA.2.1] at p37
          refine pw_if_ne (t := 53) (pc := 40) dX11_most_40 (by decide) (by first | omega) (fun c40 => absurd c40 (by decide)) (fun _ => ?_)
          exact pw_throwS (pc := 43) (j := 16) dX11_most_43 dX11_most_46 dX11_most_47 dX11_most_49 dX11_most_52 hX mX11_most.1 (by decide) rfl ⟨rfl, by rintro ⟨a, b, c⟩; omega⟩
    · refine pw_if_eq (t := 17) (pc := 10) dX11_most_10 (by decide) (by first | omega) (fun _ => ?_) (fun c10 => absurd c10 (by decide))
      refine pw_iconst (pc := 17) dX11_most_17 ?_
      refine pw_istore_n (lv1 := [some (rr_ G 0), some (ii_ w), some (ii_ 0)]) (pc := 18) dX11_most_18 rfl (by decide) rfl rfl ?_
      refine pw_iload_n (z := 0) (pc := 19) dX11_most_19 rfl rfl ?_
      refine pw_if_eq (t := 43) (pc := 20) dX11_most_20 (by decide) (by first | omega) (fun _ => ?_) (fun c20 => absurd c20 (by decide))
      exact pw_throwS (pc := 43) (j := 16) dX11_most_43 dX11_most_46 dX11_most_47 dX11_most_49 dX11_most_52 hX mX11_most.1 (by decide) rfl ⟨rfl, by rintro ⟨a, b, c⟩; omega⟩

set_option maxHeartbeats 4000000 in
set_option maxRecDepth 100000 in
theorem d_worst {G : GT_} (hC : okC_ G) (h : PH_) (o : Nat) (ho : is6_ o) (hL : h 0 2 = (o : Int)) (ro : Int → Int) (P : List (Int × Int)) (HC : CLD_ ro P h o) (hj : CJP_ ro h o) (hr : h 151 1 = 0 ∨ h 151 1 = 1 ∧ CJG_ ro P h ∧ CJL_ ro P h 0) (hpa : ∀ r, 0 ≤ r → r < ro 2 → 0 ≤ ro (31 + 4 * r + 2) ∧ ro (31 + 4 * r + 2) ≤ 9999) (hX : gX_ G) (hw : h 151 16 = -2147483648 ∨ jls_ h (skb_ ro P 2 12 (pas_ ro))) : PCX G yX11_worst cX11_worst 1 (some .int) 9 [rr_ G 0] h (qi_ (fun z h' => (0 < ro 2 ∧ (ro 1 = 0 ∨ 0 < (lpn_ ro 256).length)) ∧ off_ [151, 152, 153, 154, 156, 157, o + 10, o + 11, o + 15] h h' ∧ CWM_ ro P h' o ∧ (∀ k, k ≠ 1 → k ≠ 16 → h' 151 k = h 151 k) ∧ (h' 151 1 = 1 ∧ CJG_ ro P h' ∧ CJL_ ro P h' 0) ∧ jls_ h' (skb_ ro P 2 12 (pas_ ro)) ∧ z = h' 151 16)) (fun h' => h = h' ∧ ¬ (0 < ro 2 ∧ (ro 1 = 0 ∨ 0 < (lpn_ ro 256).length))) := by
  have H := HC.1
  have hL_h := hL
  have HB := H.2.1
  have HA := H.1
  refine PCX.of (lv := [some (rr_ G 0)]) (by decide +kernel) (Nat.le_of_ble_eq_true rfl) rfl rfl ?_
  refine pw_aload_n (z := 0) (pc := 0) dX11_worst_0 rfl rfl ?_
  refine pw_gD (x := 2) (r := o) (pc := 1) dX11_worst_1 fX11_28 (hC 0 (by decide)) (show kd_ 0 = 21 by decide +kernel) rfl rfl hL_h ?_
  refine pw_gI (x := 2) (pc := 4) dX11_worst_4 fX11_242 (hC _ (by omega)) (kd6_0 ho) rfl rfl (fun r4 => ?_)
  refine pw_if_eq (t := 20) (pc := 7) dX11_worst_7 (by decide) (by first | omega) (fun c7 => ?_) (fun c7 => ?_)
  · exact pw_throwS (pc := 20) (j := 16) dX11_worst_20 dX11_worst_23 dX11_worst_24 dX11_worst_26 dX11_worst_29 hX mX11_worst.1 (by decide) rfl ⟨rfl, by rintro ⟨a, b⟩; omega⟩
  · refine pw_aload_n (z := 0) (pc := 10) dX11_worst_10 rfl rfl ?_
    refine pw_gD (x := 2) (r := o) (pc := 11) dX11_worst_11 fX11_28 (hC 0 (by decide)) (show kd_ 0 = 21 by decide +kernel) rfl rfl hL_h ?_
    refine pw_callV (c := 6) (o := o) (As := []) (rest := []) (pc := 14) dX11_worst_14 (d_canBeDriven hC h o ho (by have := hj.2.1; have := lpn_24 (ro := ro) HB.1 HB.2.1; omega)) lX11_251 mX6_canBeDriven vX6_canBeDriven (hC _ (by omega)) (kd6_0 ho) rfl rfl rfl (by decide) ⟨Nat.zero_le _, Nat.zero_le _⟩ (Nat.le_of_ble_eq_true rfl) (k_i (fun z14 h14 y14 q14 => ?_))
    obtain ⟨rfl, ⟨rfl, p14⟩ | ⟨rfl, p14⟩⟩ := q14
    · rw [hj.2.1, HA.2.1] at p14
      refine pw_if_ne (t := 30) (pc := 17) dX11_worst_17 (by decide) (by first | omega) (fun _ => ?_) (fun c17 => absurd c17 (by decide))
      refine pw_aload_n (z := 0) (pc := 30) dX11_worst_30 rfl rfl ?_
      refine pw_getR (r := 151) (pc := 31) dX11_worst_31 fX11_83 (hC 0 (by decide)) (show kd_ 0 = 21 by decide +kernel) rfl (by decide +kernel) ?_
      refine pw_callV (c := 1) (o := 151) (As := []) (rest := []) (pc := 34) dX11_worst_34 (d_prepare hC h o ho ro H P HC.2.1 HC.2.2 hj hr) lX11_245 mX1_prepare vX1_prepare (hC 151 (by decide)) (show kd_ 151 = 11 by decide +kernel) rfl rfl rfl (by decide) ⟨Nat.zero_le _, Nat.zero_le _⟩ (Nat.le_of_ble_eq_true rfl) (k_v (fun h34 q34 => ?_))
      obtain ⟨f34, m34, k34, e34, g34, l34⟩ := q34
      have K34 : CLD_ ro P h34 o := CLD_w HC ho f34 (by simp) m34
      have J34 : jon_ ro P o h34 := ⟨K34.1, ⟨by rw [k34 0 (by decide)]; exact hj.1, CPL_cg hj.2 (f34 o (by simp; omega)) (f34 (o + 14) (by simp; omega))⟩, g34, l34⟩
      refine pw_aload_n (z := 0) (pc := 37) dX11_worst_37 rfl rfl ?_
      refine pw_getR (r := 151) (pc := 38) dX11_worst_38 fX11_83 (hC 0 (by decide)) (show kd_ 0 = 21 by decide +kernel) rfl (by decide +kernel) ?_
      refine pw_callV (c := 1) (o := 151) (As := []) (rest := []) (pc := 41) dX11_worst_41 (d_greatestLeast hC h34 o ho ro P J34 (by first | omega) hpa (hw.imp (fun u => by rw [k34 16 (by decide)]; exact u) (jls_mv4 (k34 16 (by decide))))) lX11_260 mX1_greatestLeast vX1_greatestLeast (hC 151 (by decide)) (show kd_ 151 = 11 by decide +kernel) rfl rfl rfl (by decide) ⟨Nat.zero_le _, Nat.zero_le _⟩ (Nat.le_of_ble_eq_true rfl) (k_i (fun z41 h41 y41 q41 => ?_))
      obtain ⟨f41, k41, j41, w41⟩ := q41
      exact pw_zx <| pw_iret (pc := 44) dX11_worst_44 (by first | omega) (⟨⟨by omega, by omega⟩, off_tr (off_mo f34 (by simp)) (off_mo f41 (by simp)), by unfold CWM_; rw [f41 (o + 15) (by simp; omega)]; exact m34, fun k k1 k16 => by rw [k41 k k16]; exact k34 k k1, ⟨by rw [k41 1 (by decide)]; exact e34, by unfold CJG_; rw [f41 153 (by simp)]; exact g34, by unfold CJL_; rw [f41 154 (by simp)]; exact l34⟩, j41, w41⟩)
    · rw [hj.2.1, HA.2.1] at p14
      refine pw_if_ne (t := 30) (pc := 17) dX11_worst_17 (by decide) (by first | omega) (fun c17 => absurd c17 (by decide)) (fun _ => ?_)
      exact pw_throwS (pc := 20) (j := 16) dX11_worst_20 dX11_worst_23 dX11_worst_24 dX11_worst_26 dX11_worst_29 hX mX11_worst.1 (by decide) rfl ⟨rfl, by rintro ⟨a, b⟩; omega⟩

