set_option maxHeartbeats 4000000 in
set_option maxRecDepth 100000 in
theorem d_after {G : GT_} (hC : okC_ G) (h : PH_) (o : Nat) (ho : is6_ o) (hL : h 0 2 = (o : Int)) (ro : Int → Int) (P : List (Int × Int)) (HC : CLD_ ro P h o) (hj : CJP_ ro h o) (hr : h 151 1 = 0 ∨ h 151 1 = 1 ∧ CJG_ ro P h ∧ CJL_ ro P h 0) (hpa : ∀ r, 0 ≤ r → r < ro 2 → 0 ≤ ro (31 + 4 * r + 2) ∧ ro (31 + 4 * r + 2) ≤ 9999) (hk : h 151 13 = 0 ∨ h 151 13 = aft_ ro (skb_ ro P 0 12) 20 1 (pas_ ro)) : PC G yX11_after cX11_after 1 (some .int) 11 [rr_ G 0] h (qi_ (fun z h' => (h = h' ∧ ¬ (ro 2 ≠ 0 ∧ (ro 1 = 0 ∨ 0 < (lpn_ ro 256).length)) ∧ z = -1) ∨ ((ro 2 ≠ 0 ∧ (ro 1 = 0 ∨ 0 < (lpn_ ro 256).length)) ∧ off_ [151, 152, 153, 154, 156, 157, 158, 159, 160, o + 10, o + 11, o + 15] h h' ∧ CWM_ ro P h' o ∧ h' 151 0 = h 151 0 ∧ (h' 151 1 = 1 ∧ CJG_ ro P h' ∧ CJL_ ro P h' 0) ∧ (h' 151 11 = h 151 11 ∧ h' 160 = h 160) ∧ (h' 151 13 = aft_ ro (skb_ ro P 0 12) 20 1 (pas_ ro) ∧ h' 151 16 = h 151 16) ∧ z = aft_ ro (skb_ ro P 0 12) 20 1 (pas_ ro)))) := by
  have H := HC.1
  have hL_h := hL
  have HB := H.2.1
  have HA := H.1
  refine PC.of (lv := [some (rr_ G 0)]) (by decide +kernel) (Nat.le_of_ble_eq_true rfl) rfl rfl ?_
  refine pw_aload_n (z := 0) (pc := 0) dX11_after_0 rfl rfl ?_
  refine pw_gD (x := 2) (r := o) (pc := 1) dX11_after_1 fX11_28 (hC 0 (by decide)) (show kd_ 0 = 21 by decide +kernel) rfl rfl hL_h ?_
  refine pw_gI (x := 2) (pc := 4) dX11_after_4 fX11_242 (hC _ (by omega)) (kd6_0 ho) rfl rfl (fun r4 => ?_)
  refine pw_if_eq (t := 20) (pc := 7) dX11_after_7 (by decide) (by first | omega) (fun c7 => ?_) (fun c7 => ?_)
  · refine pw_iconst (pc := 20) dX11_after_20 ?_
    exact pw_iret (pc := 21) dX11_after_21 (by first | omega) (Or.inl ⟨rfl, by omega, rfl⟩)
  · refine pw_aload_n (z := 0) (pc := 10) dX11_after_10 rfl rfl ?_
    refine pw_gD (x := 2) (r := o) (pc := 11) dX11_after_11 fX11_28 (hC 0 (by decide)) (show kd_ 0 = 21 by decide +kernel) rfl rfl hL_h ?_
    refine pw_callV (c := 6) (o := o) (As := []) (rest := []) (pc := 14) dX11_after_14 (d_canBeDriven hC h o ho (by have := hj.2.1; have := lpn_24 (ro := ro) HB.1 HB.2.1; omega)) lX11_251 mX6_canBeDriven vX6_canBeDriven (hC _ (by omega)) (kd6_0 ho) rfl rfl rfl (by decide) ⟨Nat.zero_le _, Nat.zero_le _⟩ (Nat.le_of_ble_eq_true rfl) (k_i (fun z14 h14 y14 q14 => ?_))
    obtain ⟨rfl, ⟨rfl, p14⟩ | ⟨rfl, p14⟩⟩ := q14
    · rw [hj.2.1, HA.2.1] at p14
      refine pw_if_ne (t := 22) (pc := 17) dX11_after_17 (by decide) (by first | omega) (fun _ => ?_) (fun c17 => absurd c17 (by decide))
      refine pw_aload_n (z := 0) (pc := 22) dX11_after_22 rfl rfl ?_
      refine pw_getR (r := 151) (pc := 23) dX11_after_23 fX11_83 (hC 0 (by decide)) (show kd_ 0 = 21 by decide +kernel) rfl (by decide +kernel) ?_
      refine pw_callV (c := 1) (o := 151) (As := []) (rest := []) (pc := 26) dX11_after_26 (d_prepare hC h o ho ro H P HC.2.1 HC.2.2 hj hr) lX11_245 mX1_prepare vX1_prepare (hC 151 (by decide)) (show kd_ 151 = 11 by decide +kernel) rfl rfl rfl (by decide) ⟨Nat.zero_le _, Nat.zero_le _⟩ (Nat.le_of_ble_eq_true rfl) (k_v (fun h26 q26 => ?_))
      obtain ⟨f26, m26, k26, e26, g26, l26⟩ := q26
      have K26 : CLD_ ro P h26 o := CLD_w HC ho f26 (by simp) m26
      have J26 : jon_ ro P o h26 := ⟨K26.1, ⟨by rw [k26 0 (by decide)]; exact hj.1, CPL_cg hj.2 (f26 o (by simp; omega)) (f26 (o + 14) (by simp; omega))⟩, g26, l26⟩
      refine pw_aload_n (z := 0) (pc := 29) dX11_after_29 rfl rfl ?_
      refine pw_getR (r := 151) (pc := 30) dX11_after_30 fX11_83 (hC 0 (by decide)) (show kd_ 0 = 21 by decide +kernel) rfl (by decide +kernel) ?_
      refine pw_callV (c := 1) (o := 151) (As := []) (rest := []) (pc := 33) dX11_after_33 (d_tillEven hC h26 o ho ro P J26 (by first | omega) hpa (by first | omega) (by rw [k26 13 (by decide)]; exact hk)) lX11_263 mX1_journeysTillEven vX1_journeysTillEven (hC 151 (by decide)) (show kd_ 151 = 11 by decide +kernel) rfl rfl rfl (by decide) ⟨Nat.zero_le _, Nat.zero_le _⟩ (Nat.le_of_ble_eq_true rfl) (k_i (fun z33 h33 y33 q33 => ?_))
      obtain ⟨f33, k33, a33, w33⟩ := q33
      exact pw_iret (pc := 36) dX11_after_36 (by first | omega) (Or.inr ⟨by omega, off_tr (off_mo f26 (by simp)) (off_mo f33 (by simp)), by unfold CWM_; rw [f33 (o + 15) (by simp; omega)]; exact m26, by rw [k33 0 (by decide) (by decide) (by decide) (by decide), k26 0 (by decide)], ⟨by rw [k33 1 (by decide) (by decide) (by decide) (by decide)]; exact e26, by unfold CJG_; rw [f33 153 (by simp)]; exact g26, by unfold CJL_; rw [f33 154 (by simp)]; exact l26⟩, ⟨by rw [k33 11 (by decide) (by decide) (by decide) (by decide), k26 11 (by decide)], by rw [f33 160 (by simp), f26 160 (by simp; omega)]⟩, ⟨a33, by rw [k33 16 (by decide) (by decide) (by decide) (by decide), k26 16 (by decide)]⟩, w33⟩)
    · rw [hj.2.1, HA.2.1] at p14
      refine pw_if_ne (t := 22) (pc := 17) dX11_after_17 (by decide) (by first | omega) (fun c17 => absurd c17 (by decide)) (fun _ => ?_)
      refine pw_iconst (pc := 20) dX11_after_20 ?_
      exact pw_iret (pc := 21) dX11_after_21 (by first | omega) (Or.inl ⟨rfl, by omega, rfl⟩)

theorem cut_cv {h h' : PH_} {z : Int} {L : List Nat} {A B N : Prop} (q : (z = 1 ∧ A ∧ off_ L h h' ∧ B) ∨ (z = 0 ∧ h = h' ∧ N)) : off_ L h h' ∧ (z = 1 ∧ (A ∧ B) ∨ z = 0 ∧ N) := by
  rcases q with ⟨a, b, c, d⟩ | ⟨a, b, c⟩
  · exact ⟨c, Or.inl ⟨a, b, d⟩⟩
  · exact ⟨b ▸ off_rf, Or.inr ⟨a, c⟩⟩

set_option maxHeartbeats 4000000 in
set_option maxRecDepth 100000 in
theorem d_pieces {G : GT_} (hC : okC_ G) (h : PH_) (o : Nat) (ho : is6_ o) (hL : h 0 2 = (o : Int)) (ro : Int → Int) (H : CRD_ ro h o) (hsh : h 42 3 = 0 ∨ h 42 3 = 1) (hb : ∀ x, 0 ≤ x → x < 16 → 0 ≤ h 47 x ∧ h 47 x ≤ 99) (hmi : ∀ t, 0 ≤ t → t < ro 1 → 1 ≤ ro (11 + 5 * t) ∧ ro (11 + 5 * t) ≤ 99) (t w : Int) (h1 : ir_ t) (h2 : ir_ w) : PC G yX11_pieces cX11_pieces 3 (some .int) 5 [rr_ G 0, ii_ t, ii_ w] h (qi_ (fun z h' => off_ [161, 162, 163, 164, 165] h h' ∧ ((¬ ((0 ≤ t ∧ t < ro 1) ∧ h 42 3 = 1 ∧ ro 2 = ro 0 ∧ adl_ (h 47) (ro 0) (ro (11 + 5 * t))) ∧ z = -2) ∨ (((0 ≤ t ∧ t < ro 1) ∧ h 42 3 = 1 ∧ ro 2 = ro 0 ∧ adl_ (h 47) (ro 0) (ro (11 + 5 * t))) ∧ ∃ lf, (∀ x, 0 ≤ x → x < 16 → lf x = h 47 x) ∧ z = (if w < -1 then -2 else pcq_ w (pcs_ (ro 0) (ro 0) 16 lf (ro (11 + 5 * t)))))))) := by
  have hL_h := hL
  have HB := H.2.1
  have HA := H.1
  refine PC.of (lv := [some (rr_ G 0), some (ii_ t), some (ii_ w)]) (by decide +kernel) (Nat.le_of_ble_eq_true rfl) rfl rfl ?_
  refine pw_aload_n (z := 0) (pc := 0) dX11_pieces_0 rfl rfl ?_
  refine pw_iload_n (z := t) (pc := 1) dX11_pieces_1 rfl rfl ?_
  refine pw_callV (c := 11) (o := 0) (As := [ii_ t]) (rest := []) (pc := 2) dX11_pieces_2 (d_isStretch hC h o ho hL ro H t (by first | omega)) lX11_176 mX11_isStretch vX11_isStretch (hC 0 (by decide)) (show kd_ 0 = 21 by decide +kernel) rfl rfl rfl (by decide) ⟨Nat.zero_le _, Nat.zero_le _⟩ (Nat.le_of_ble_eq_true rfl) (k_i (fun z2 h2 y2 q2 => ?_))
  obtain ⟨rfl, ⟨rfl, p2⟩ | ⟨rfl, p2⟩⟩ := q2
  · refine pw_if_eq (t := 40) (pc := 5) dX11_pieces_5 (by decide) (by first | omega) (fun c5 => absurd c5 (by decide)) (fun _ => ?_)
    refine pw_aload_n (z := 0) (pc := 8) dX11_pieces_8 rfl rfl ?_
    refine pw_getR (r := 42) (pc := 9) dX11_pieces_9 fX11_48 (hC 0 (by decide)) (show kd_ 0 = 21 by decide +kernel) rfl (by decide +kernel) ?_
    refine pw_gI (x := 3) (pc := 12) dX11_pieces_12 fX11_143 (hC 42 (by decide)) (show kd_ 42 = 13 by decide +kernel) rfl rfl (fun r12 => ?_)
    refine pw_if_eq (t := 40) (pc := 15) dX11_pieces_15 (by decide) (by first | omega) (fun c15 => ?_) (fun c15 => ?_)
    · refine pw_bipush (pc := 40) dX11_pieces_40 rfl ?_
      exact pw_iret (pc := 42) dX11_pieces_42 (by first | omega) (⟨off_rf, Or.inl ⟨fun u => by have := u.1; have := u.2.1; omega, rfl⟩⟩)
    · refine pw_aload_n (z := 0) (pc := 18) dX11_pieces_18 rfl rfl ?_
      refine pw_getR (r := 161) (pc := 19) dX11_pieces_19 fX11_90 (hC 0 (by decide)) (show kd_ 0 = 21 by decide +kernel) rfl (by decide +kernel) ?_
      refine pw_aload_n (z := 0) (pc := 22) dX11_pieces_22 rfl rfl ?_
      refine pw_gD (x := 2) (r := o) (pc := 23) dX11_pieces_23 fX11_28 (hC 0 (by decide)) (show kd_ 0 = 21 by decide +kernel) rfl rfl hL_h ?_
      refine pw_aload_n (z := 0) (pc := 26) dX11_pieces_26 rfl rfl ?_
      refine pw_getR (r := 42) (pc := 27) dX11_pieces_27 fX11_48 (hC 0 (by decide)) (show kd_ 0 = 21 by decide +kernel) rfl (by decide +kernel) ?_
      refine pw_getR (r := 47) (pc := 30) dX11_pieces_30 fX11_134 (hC 42 (by decide)) (show kd_ 42 = 13 by decide +kernel) rfl (by decide +kernel) ?_
      refine pw_iload_n (z := t) (pc := 33) dX11_pieces_33 rfl rfl ?_
      refine pw_callV (c := 4) (o := 161) (As := [rr_ G o, rr_ G 47, ii_ t]) (rest := []) (pc := 34) dX11_pieces_34 (d_cutUp hC h o ho ro H 47 (by decide +kernel) (by decide +kernel) (by decide) hb t (by first | omega) (hmi t (by first | omega) (by first | omega))) lX11_266 mX4_cutUp vX4_cutUp (hC 161 (by decide)) (show kd_ 161 = 14 by decide +kernel) rfl rfl rfl (by decide) ⟨Nat.zero_le _, Nat.zero_le _⟩ (Nat.le_of_ble_eq_true rfl) (k_i (fun z34 h34 y34 q34 => ?_))
      replace q34 := cut_cv q34
      obtain ⟨f34, ⟨rfl, p34⟩ | ⟨rfl, p34⟩⟩ := q34
      · obtain ⟨A34, lf, L, q1, q2, q3, q4, q5⟩ := p34
        have p34 := A34
        refine pw_if_ne (t := 43) (pc := 37) dX11_pieces_37 (by decide) (by first | omega) (fun _ => ?_) (fun c37 => absurd c37 (by decide))
        refine pw_iload_n (z := w) (pc := 43) dX11_pieces_43 rfl rfl ?_
        refine pw_iconst (pc := 44) dX11_pieces_44 ?_
        refine pw_icmp_ne (t := 56) (pc := 45) dX11_pieces_45 (by decide) (by first | omega) (by first | omega) (fun c45 => ?_) (fun c45 => ?_)
        · refine pw_iload_n (z := w) (pc := 56) dX11_pieces_56 rfl rfl ?_
          refine pw_if_lt (t := 73) (pc := 57) dX11_pieces_57 (by decide) (by first | omega) (fun c57 => ?_) (fun c57 => ?_)
          · refine pw_bipush (pc := 73) dX11_pieces_73 rfl ?_
            exact pw_iret (pc := 75) dX11_pieces_75 (by first | omega) (⟨f34, Or.inr ⟨⟨by omega, by omega, A34⟩, lf, q1, by rw [← q2]; first | rw [if_pos (by omega)] | (rw [if_neg (by omega)]; unfold pcq_; rw [if_neg (by omega), if_neg (by omega)])⟩⟩)
          · refine pw_iload_n (z := w) (pc := 60) dX11_pieces_60 rfl rfl ?_
            refine pw_iconst (pc := 61) dX11_pieces_61 ?_
            refine pw_idiv (pc := 62) dX11_pieces_62 (by first | omega) (by first | omega) ?_
            have td : w.tdiv 2 = w / 2 := Int.tdiv_eq_ediv_of_nonneg (by omega)
            rw [td]
            refine pw_aload_n (z := 0) (pc := 63) dX11_pieces_63 rfl rfl ?_
            refine pw_getR (r := 161) (pc := 64) dX11_pieces_64 fX11_90 (hC 0 (by decide)) (show kd_ 0 = 21 by decide +kernel) rfl (by decide +kernel) ?_
            refine pw_gI (x := 4) (pc := 67) dX11_pieces_67 fX11_270 (hC 161 (by decide)) (show kd_ 161 = 14 by decide +kernel) rfl rfl (fun r67 => ?_)
            refine pw_icmp_lt (t := 76) (pc := 70) dX11_pieces_70 (by decide) (by first | omega) (by first | omega) (fun c70 => ?_) (fun c70 => ?_)
            · refine pw_iload_n (z := w) (pc := 76) dX11_pieces_76 rfl rfl ?_
              refine pw_iconst (pc := 77) dX11_pieces_77 ?_
              refine pw_irem (pc := 78) dX11_pieces_78 (by first | omega) (by first | omega) ?_
              have tm : w.tmod 2 = w % 2 := Int.tmod_eq_emod_of_nonneg (by omega)
              rw [tm]
              refine pw_if_ne (t := 96) (pc := 79) dX11_pieces_79 (by decide) (by first | omega) (fun c79 => ?_) (fun c79 => ?_)
              · refine pw_aload_n (z := 0) (pc := 96) dX11_pieces_96 rfl rfl ?_
                refine pw_getR (r := 161) (pc := 97) dX11_pieces_97 fX11_90 (hC 0 (by decide)) (show kd_ 0 = 21 by decide +kernel) rfl (by decide +kernel) ?_
                refine pw_getR (r := 165) (pc := 100) dX11_pieces_100 fX11_276 (hC 161 (by decide)) (show kd_ 161 = 14 by decide +kernel) rfl (by decide +kernel) ?_
                refine pw_iload_n (z := w) (pc := 103) dX11_pieces_103 rfl rfl ?_
                refine pw_iconst (pc := 104) dX11_pieces_104 ?_
                refine pw_idiv (pc := 105) dX11_pieces_105 (by first | omega) (by first | omega) ?_
                rw [td]
                refine pw_iald (pc := 106) dX11_pieces_106 (hC 165 (by decide)) (show kd_ 165 = 0 by decide +kernel) 16 (by decide +kernel) (by first | omega) (by first | omega) (by first | omega) (fun r106 => ?_)
                exact pw_iret (pc := 107) dX11_pieces_107 (by first | omega) (⟨f34, Or.inr ⟨⟨by omega, by omega, A34⟩, lf, q1, by have e := q5 (w / 2).toNat (by omega); rw [show (((w / 2).toNat : Nat) : Int) = w / 2 by omega] at e; rw [← q2, if_neg (by omega)]; unfold pcq_; rw [if_neg (by omega), if_pos (by omega)]; first | (rw [if_pos (by omega)]; exact e.1) | (rw [if_neg (by omega)]; exact e.2)⟩⟩)
              · refine pw_aload_n (z := 0) (pc := 82) dX11_pieces_82 rfl rfl ?_
                refine pw_getR (r := 161) (pc := 83) dX11_pieces_83 fX11_90 (hC 0 (by decide)) (show kd_ 0 = 21 by decide +kernel) rfl (by decide +kernel) ?_
                refine pw_getR (r := 164) (pc := 86) dX11_pieces_86 fX11_273 (hC 161 (by decide)) (show kd_ 161 = 14 by decide +kernel) rfl (by decide +kernel) ?_
                refine pw_iload_n (z := w) (pc := 89) dX11_pieces_89 rfl rfl ?_
                refine pw_iconst (pc := 90) dX11_pieces_90 ?_
                refine pw_idiv (pc := 91) dX11_pieces_91 (by first | omega) (by first | omega) ?_
                rw [td]
                refine pw_iald (pc := 92) dX11_pieces_92 (hC 164 (by decide)) (show kd_ 164 = 0 by decide +kernel) 16 (by decide +kernel) (by first | omega) (by first | omega) (by first | omega) (fun r92 => ?_)
                refine pw_goto (t := 107) (pc := 93) dX11_pieces_93 (by decide) ?_
                exact pw_iret (pc := 107) dX11_pieces_107 (by first | omega) (⟨f34, Or.inr ⟨⟨by omega, by omega, A34⟩, lf, q1, by have e := q5 (w / 2).toNat (by omega); rw [show (((w / 2).toNat : Nat) : Int) = w / 2 by omega] at e; rw [← q2, if_neg (by omega)]; unfold pcq_; rw [if_neg (by omega), if_pos (by omega)]; first | (rw [if_pos (by omega)]; exact e.1) | (rw [if_neg (by omega)]; exact e.2)⟩⟩)
            · refine pw_bipush (pc := 73) dX11_pieces_73 rfl ?_
              exact pw_iret (pc := 75) dX11_pieces_75 (by first | omega) (⟨f34, Or.inr ⟨⟨by omega, by omega, A34⟩, lf, q1, by rw [← q2]; first | rw [if_pos (by omega)] | (rw [if_neg (by omega)]; unfold pcq_; rw [if_neg (by omega), if_neg (by omega)])⟩⟩)
        · refine pw_aload_n (z := 0) (pc := 48) dX11_pieces_48 rfl rfl ?_
          refine pw_getR (r := 161) (pc := 49) dX11_pieces_49 fX11_90 (hC 0 (by decide)) (show kd_ 0 = 21 by decide +kernel) rfl (by decide +kernel) ?_
          refine pw_gI (x := 4) (pc := 52) dX11_pieces_52 fX11_270 (hC 161 (by decide)) (show kd_ 161 = 14 by decide +kernel) rfl rfl (fun r52 => ?_)
          exact pw_iret (pc := 55) dX11_pieces_55 (by first | omega) (⟨f34, Or.inr ⟨⟨by omega, by omega, A34⟩, lf, q1, by rw [if_neg (by omega), ← q2, q3]; unfold pcq_; rw [if_pos (by omega)]⟩⟩)
      · refine pw_if_ne (t := 43) (pc := 37) dX11_pieces_37 (by decide) (by first | omega) (fun c37 => absurd c37 (by decide)) (fun _ => ?_)
        refine pw_bipush (pc := 40) dX11_pieces_40 rfl ?_
        exact pw_iret (pc := 42) dX11_pieces_42 (by first | omega) (⟨f34, Or.inl ⟨fun u => p34 u.2.2, rfl⟩⟩)
  · refine pw_if_eq (t := 40) (pc := 5) dX11_pieces_5 (by decide) (by first | omega) (fun _ => ?_) (fun c5 => absurd c5 (by decide))
    refine pw_bipush (pc := 40) dX11_pieces_40 rfl ?_
    exact pw_iret (pc := 42) dX11_pieces_42 (by first | omega) (⟨off_rf, Or.inl ⟨fun u => by have := u.1; have := u.2.1; omega, rfl⟩⟩)

set_option maxHeartbeats 4000000 in
set_option maxRecDepth 100000 in
theorem d_toffees {G : GT_} (hC : okC_ G) (h : PH_) (o : Nat) (ho : is6_ o) (hL : h 0 2 = (o : Int)) (ro : Int → Int) (P : List (Int × Int)) (HC : CLD_ ro P h o) (t w : Int) (h1 : ir_ t) (h2 : ir_ w) : PC G yX11_toffees cX11_toffees 4 (some .int) 6 [rr_ G 0, ii_ t, ii_ w] h (qi_ (fun z h' => off_ [166, 167, 168, 169, o + 10, o + 11, o + 15] h h' ∧ CWM_ ro P h' o ∧ z = tof_ ro P t w)) := by
  have H := HC.1
  have hL_h := hL
  have HB := H.2.1
  have HA := H.1
  refine PC.of (lv := [some (rr_ G 0), some (ii_ t), some (ii_ w), none]) (by decide +kernel) (Nat.le_of_ble_eq_true rfl) rfl rfl ?_
  refine pw_aload_n (z := 0) (pc := 0) dX11_toffees_0 rfl rfl ?_
  refine pw_iload_n (z := t) (pc := 1) dX11_toffees_1 rfl rfl ?_
  refine pw_callV (c := 11) (o := 0) (As := [ii_ t]) (rest := []) (pc := 2) dX11_toffees_2 (d_isStretch hC h o ho hL ro H t (by first | omega)) lX11_176 mX11_isStretch vX11_isStretch (hC 0 (by decide)) (show kd_ 0 = 21 by decide +kernel) rfl rfl rfl (by decide) ⟨Nat.zero_le _, Nat.zero_le _⟩ (Nat.le_of_ble_eq_true rfl) (k_i (fun z2 h2 y2 q2 => ?_))
  obtain ⟨rfl, ⟨rfl, p2⟩ | ⟨rfl, p2⟩⟩ := q2
  · refine pw_if_eq (t := 25) (pc := 5) dX11_toffees_5 (by decide) (by first | omega) (fun c5 => absurd c5 (by decide)) (fun _ => ?_)
    refine pw_iload_n (z := w) (pc := 8) dX11_toffees_8 rfl rfl ?_
    refine pw_iconst (pc := 9) dX11_toffees_9 ?_
    refine pw_icmp_eq (t := 21) (pc := 10) dX11_toffees_10 (by decide) (by first | omega) (by first | omega) (fun c10 => ?_) (fun c10 => ?_)
    · refine pw_iconst (pc := 21) dX11_toffees_21 ?_
      refine pw_goto (t := 26) (pc := 22) dX11_toffees_22 (by decide) ?_
      refine pw_istore_n (lv1 := [some (rr_ G 0), some (ii_ t), some (ii_ w), some (ii_ 1)]) (pc := 26) dX11_toffees_26 rfl (by decide) rfl rfl ?_
      refine pw_iload_n (z := 1) (pc := 27) dX11_toffees_27 rfl rfl ?_
      refine pw_if_eq (t := 48) (pc := 28) dX11_toffees_28 (by decide) (by first | omega) (fun c28 => absurd c28 (by decide)) (fun _ => ?_)
      refine pw_aload_n (z := 0) (pc := 31) dX11_toffees_31 rfl rfl ?_
      refine pw_gD (x := 2) (r := o) (pc := 32) dX11_toffees_32 fX11_28 (hC 0 (by decide)) (show kd_ 0 = 21 by decide +kernel) rfl rfl hL_h ?_
      refine pw_gI (x := 2) (pc := 35) dX11_toffees_35 fX11_242 (hC _ (by omega)) (kd6_0 ho) rfl rfl (fun r35 => ?_)
      refine pw_aload_n (z := 0) (pc := 38) dX11_toffees_38 rfl rfl ?_
      refine pw_gD (x := 2) (r := o) (pc := 39) dX11_toffees_39 fX11_28 (hC 0 (by decide)) (show kd_ 0 = 21 by decide +kernel) rfl rfl hL_h ?_
      refine pw_gI (x := 0) (pc := 42) dX11_toffees_42 fX11_179 (hC _ (by omega)) (kd6_0 ho) rfl rfl (fun r42 => ?_)
      refine pw_icmp_ge (t := 51) (pc := 45) dX11_toffees_45 (by decide) (by first | omega) (by first | omega) (fun c45 => ?_) (fun c45 => ?_)
      · refine pw_aload_n (z := 0) (pc := 51) dX11_toffees_51 rfl rfl ?_
        refine pw_getR (r := 166) (pc := 52) dX11_toffees_52 fX11_97 (hC 0 (by decide)) (show kd_ 0 = 21 by decide +kernel) rfl (by decide +kernel) ?_
        refine pw_aload_n (z := 0) (pc := 55) dX11_toffees_55 rfl rfl ?_
        refine pw_gD (x := 2) (r := o) (pc := 56) dX11_toffees_56 fX11_28 (hC 0 (by decide)) (show kd_ 0 = 21 by decide +kernel) rfl rfl hL_h ?_
        refine pw_iload_n (z := t) (pc := 59) dX11_toffees_59 rfl rfl ?_
        refine pw_callV (c := 9) (o := 166) (As := [rr_ G o, ii_ t]) (rest := []) (pc := 60) dX11_toffees_60 (d_settle hC h o ho ro H P HC.2.1 HC.2.2 t (by first | omega) (by first | omega)) lX11_278 mX9_settle vX9_settle (hC 166 (by decide)) (show kd_ 166 = 19 by decide +kernel) rfl rfl rfl (by decide) ⟨Nat.zero_le _, Nat.zero_le _⟩ (Nat.le_of_ble_eq_true rfl) (k_v (fun h60 q60 => ?_))
        obtain ⟨f60, m60, w60, x60⟩ := q60
        refine pw_iload_n (z := w) (pc := 63) dX11_toffees_63 rfl rfl ?_
        refine pw_iconst (pc := 64) dX11_toffees_64 ?_
        refine pw_icmp_ne (t := 78) (pc := 65) dX11_toffees_65 (by decide) (by first | omega) (by first | omega) (fun c65 => ?_) (fun c65 => ?_)
        · refine pw_aload_n (z := 0) (pc := 78) dX11_toffees_78 rfl rfl ?_
          refine pw_getR (r := 166) (pc := 79) dX11_toffees_79 fX11_97 (hC 0 (by decide)) (show kd_ 0 = 21 by decide +kernel) rfl (by decide +kernel) ?_
          refine pw_getR (r := 169) (pc := 82) dX11_toffees_82 fX11_284 (hC 166 (by decide)) (show kd_ 166 = 19 by decide +kernel) rfl (by decide +kernel) ?_
          refine pw_iload_n (z := w) (pc := 85) dX11_toffees_85 rfl rfl ?_
          refine pw_iald (pc := 86) dX11_toffees_86 (hC 169 (by decide)) (show kd_ 169 = 0 by decide +kernel) 4 (by decide +kernel) (by first | omega) (by first | omega) (by first | omega) (fun r86 => ?_)
          exact pw_iret (pc := 87) dX11_toffees_87 (by first | omega) (⟨f60, m60, by unfold tof_; rw [if_t (by omega)]; first | (rw [if_pos (by omega), w60]) | (rw [if_neg (by omega), (x60 w (by omega) (by omega)).1])⟩)
        · refine pw_aload_n (z := 0) (pc := 68) dX11_toffees_68 rfl rfl ?_
          refine pw_getR (r := 166) (pc := 69) dX11_toffees_69 fX11_97 (hC 0 (by decide)) (show kd_ 0 = 21 by decide +kernel) rfl (by decide +kernel) ?_
          refine pw_gI (x := 3) (pc := 72) dX11_toffees_72 fX11_282 (hC 166 (by decide)) (show kd_ 166 = 19 by decide +kernel) rfl rfl (fun r72 => ?_)
          refine pw_goto (t := 87) (pc := 75) dX11_toffees_75 (by decide) ?_
          exact pw_iret (pc := 87) dX11_toffees_87 (by first | omega) (⟨f60, m60, by unfold tof_; rw [if_t (by omega)]; first | (rw [if_pos (by omega), w60]) | (rw [if_neg (by omega), (x60 w (by omega) (by omega)).1])⟩)
      · refine pw_bipush (pc := 48) dX11_toffees_48 rfl ?_
        exact pw_iret (pc := 50) dX11_toffees_50 (by first | omega) (⟨off_rf, HC.2.2, by unfold tof_; rw [if_f (by omega)]⟩)
    · refine pw_aload_n (z := 0) (pc := 13) dX11_toffees_13 rfl rfl ?_
      refine pw_iload_n (z := w) (pc := 14) dX11_toffees_14 rfl rfl ?_
      refine pw_callV (c := 11) (o := 0) (As := [ii_ w]) (rest := []) (pc := 15) dX11_toffees_15 (d_isSeat hC h o ho hL ro H w (by first | omega)) lX11_204 mX11_isSeat vX11_isSeat (hC 0 (by decide)) (show kd_ 0 = 21 by decide +kernel) rfl rfl rfl (by decide) ⟨Nat.zero_le _, Nat.zero_le _⟩ (Nat.le_of_ble_eq_true rfl) (k_i (fun z15 h15 y15 q15 => ?_))
      obtain ⟨rfl, ⟨rfl, p15⟩ | ⟨rfl, p15⟩⟩ := q15
      · refine pw_if_eq (t := 25) (pc := 18) dX11_toffees_18 (by decide) (by first | omega) (fun c18 => absurd c18 (by decide)) (fun _ => ?_)
        refine pw_iconst (pc := 21) dX11_toffees_21 ?_
        refine pw_goto (t := 26) (pc := 22) dX11_toffees_22 (by decide) ?_
        refine pw_istore_n (lv1 := [some (rr_ G 0), some (ii_ t), some (ii_ w), some (ii_ 1)]) (pc := 26) dX11_toffees_26 rfl (by decide) rfl rfl ?_
        refine pw_iload_n (z := 1) (pc := 27) dX11_toffees_27 rfl rfl ?_
        refine pw_if_eq (t := 48) (pc := 28) dX11_toffees_28 (by decide) (by first | omega) (fun c28 => absurd c28 (by decide)) (fun _ => ?_)
        refine pw_aload_n (z := 0) (pc := 31) dX11_toffees_31 rfl rfl ?_
        refine pw_gD (x := 2) (r := o) (pc := 32) dX11_toffees_32 fX11_28 (hC 0 (by decide)) (show kd_ 0 = 21 by decide +kernel) rfl rfl hL_h ?_
        refine pw_gI (x := 2) (pc := 35) dX11_toffees_35 fX11_242 (hC _ (by omega)) (kd6_0 ho) rfl rfl (fun r35 => ?_)
        refine pw_aload_n (z := 0) (pc := 38) dX11_toffees_38 rfl rfl ?_
        refine pw_gD (x := 2) (r := o) (pc := 39) dX11_toffees_39 fX11_28 (hC 0 (by decide)) (show kd_ 0 = 21 by decide +kernel) rfl rfl hL_h ?_
        refine pw_gI (x := 0) (pc := 42) dX11_toffees_42 fX11_179 (hC _ (by omega)) (kd6_0 ho) rfl rfl (fun r42 => ?_)
        refine pw_icmp_ge (t := 51) (pc := 45) dX11_toffees_45 (by decide) (by first | omega) (by first | omega) (fun c45 => ?_) (fun c45 => ?_)
        · refine pw_aload_n (z := 0) (pc := 51) dX11_toffees_51 rfl rfl ?_
          refine pw_getR (r := 166) (pc := 52) dX11_toffees_52 fX11_97 (hC 0 (by decide)) (show kd_ 0 = 21 by decide +kernel) rfl (by decide +kernel) ?_
          refine pw_aload_n (z := 0) (pc := 55) dX11_toffees_55 rfl rfl ?_
          refine pw_gD (x := 2) (r := o) (pc := 56) dX11_toffees_56 fX11_28 (hC 0 (by decide)) (show kd_ 0 = 21 by decide +kernel) rfl rfl hL_h ?_
          refine pw_iload_n (z := t) (pc := 59) dX11_toffees_59 rfl rfl ?_
          refine pw_callV (c := 9) (o := 166) (As := [rr_ G o, ii_ t]) (rest := []) (pc := 60) dX11_toffees_60 (d_settle hC h o ho ro H P HC.2.1 HC.2.2 t (by first | omega) (by first | omega)) lX11_278 mX9_settle vX9_settle (hC 166 (by decide)) (show kd_ 166 = 19 by decide +kernel) rfl rfl rfl (by decide) ⟨Nat.zero_le _, Nat.zero_le _⟩ (Nat.le_of_ble_eq_true rfl) (k_v (fun h60 q60 => ?_))
          obtain ⟨f60, m60, w60, x60⟩ := q60
          refine pw_iload_n (z := w) (pc := 63) dX11_toffees_63 rfl rfl ?_
          refine pw_iconst (pc := 64) dX11_toffees_64 ?_
          refine pw_icmp_ne (t := 78) (pc := 65) dX11_toffees_65 (by decide) (by first | omega) (by first | omega) (fun c65 => ?_) (fun c65 => ?_)
          · refine pw_aload_n (z := 0) (pc := 78) dX11_toffees_78 rfl rfl ?_
            refine pw_getR (r := 166) (pc := 79) dX11_toffees_79 fX11_97 (hC 0 (by decide)) (show kd_ 0 = 21 by decide +kernel) rfl (by decide +kernel) ?_
            refine pw_getR (r := 169) (pc := 82) dX11_toffees_82 fX11_284 (hC 166 (by decide)) (show kd_ 166 = 19 by decide +kernel) rfl (by decide +kernel) ?_
            refine pw_iload_n (z := w) (pc := 85) dX11_toffees_85 rfl rfl ?_
            refine pw_iald (pc := 86) dX11_toffees_86 (hC 169 (by decide)) (show kd_ 169 = 0 by decide +kernel) 4 (by decide +kernel) (by first | omega) (by first | omega) (by first | omega) (fun r86 => ?_)
            exact pw_iret (pc := 87) dX11_toffees_87 (by first | omega) (⟨f60, m60, by unfold tof_; rw [if_t (by omega)]; first | (rw [if_pos (by omega), w60]) | (rw [if_neg (by omega), (x60 w (by omega) (by omega)).1])⟩)
          · refine pw_aload_n (z := 0) (pc := 68) dX11_toffees_68 rfl rfl ?_
            refine pw_getR (r := 166) (pc := 69) dX11_toffees_69 fX11_97 (hC 0 (by decide)) (show kd_ 0 = 21 by decide +kernel) rfl (by decide +kernel) ?_
            refine pw_gI (x := 3) (pc := 72) dX11_toffees_72 fX11_282 (hC 166 (by decide)) (show kd_ 166 = 19 by decide +kernel) rfl rfl (fun r72 => ?_)
            refine pw_goto (t := 87) (pc := 75) dX11_toffees_75 (by decide) ?_
            exact pw_iret (pc := 87) dX11_toffees_87 (by first | omega) (⟨f60, m60, by unfold tof_; rw [if_t (by omega)]; first | (rw [if_pos (by omega), w60]) | (rw [if_neg (by omega), (x60 w (by omega) (by omega)).1])⟩)
        · refine pw_bipush (pc := 48) dX11_toffees_48 rfl ?_
          exact pw_iret (pc := 50) dX11_toffees_50 (by first | omega) (⟨off_rf, HC.2.2, by unfold tof_; rw [if_f (by omega)]⟩)
      · refine pw_if_eq (t := 25) (pc := 18) dX11_toffees_18 (by decide) (by first | omega) (fun _ => ?_) (fun c18 => absurd c18 (by decide))
        refine pw_iconst (pc := 25) dX11_toffees_25 ?_
        refine pw_istore_n (lv1 := [some (rr_ G 0), some (ii_ t), some (ii_ w), some (ii_ 0)]) (pc := 26) dX11_toffees_26 rfl (by decide) rfl rfl ?_
        refine pw_iload_n (z := 0) (pc := 27) dX11_toffees_27 rfl rfl ?_
        refine pw_if_eq (t := 48) (pc := 28) dX11_toffees_28 (by decide) (by first | omega) (fun _ => ?_) (fun c28 => absurd c28 (by decide))
        refine pw_bipush (pc := 48) dX11_toffees_48 rfl ?_
        exact pw_iret (pc := 50) dX11_toffees_50 (by first | omega) (⟨off_rf, HC.2.2, by unfold tof_; rw [if_f (by omega)]⟩)
  · refine pw_if_eq (t := 25) (pc := 5) dX11_toffees_5 (by decide) (by first | omega) (fun _ => ?_) (fun c5 => absurd c5 (by decide))
    refine pw_iconst (pc := 25) dX11_toffees_25 ?_
    refine pw_istore_n (lv1 := [some (rr_ G 0), some (ii_ t), some (ii_ w), some (ii_ 0)]) (pc := 26) dX11_toffees_26 rfl (by decide) rfl rfl ?_
    refine pw_iload_n (z := 0) (pc := 27) dX11_toffees_27 rfl rfl ?_
    refine pw_if_eq (t := 48) (pc := 28) dX11_toffees_28 (by decide) (by first | omega) (fun _ => ?_) (fun c28 => absurd c28 (by decide))
    refine pw_bipush (pc := 48) dX11_toffees_48 rfl ?_
    exact pw_iret (pc := 50) dX11_toffees_50 (by first | omega) (⟨off_rf, HC.2.2, by unfold tof_; rw [if_f (by omega)]⟩)

set_option maxHeartbeats 4000000 in
set_option maxRecDepth 100000 in
theorem d_door {G : GT_} (hC : okC_ G) (h : PH_) (o : Nat) (ho : is6_ o) (hL : h 0 2 = (o : Int)) (ro : Int → Int) (H : CRD_ ro h o) (hd : ∀ r, 0 ≤ r → r < ro 2 → 1 ≤ ro (31 + 4 * r + 1) ∧ ro (31 + 4 * r + 1) ≤ 9) (t r s w : Int) (h1 : ir_ t) (h2 : ir_ r) (h3 : ir_ s) (h4 : ir_ w) : PC G yX11_door cX11_door 6 (some .long) 11 [rr_ G 0, ii_ t, ii_ r, ii_ s, ii_ w] h (ql_ (fun z h' => off_ [170] h h' ∧ z = doq_ ro t r s w)) := by
  have hL_h := hL
  have HB := H.2.1
  have HA := H.1
  refine PC.of (lv := [some (rr_ G 0), some (ii_ t), some (ii_ r), some (ii_ s), some (ii_ w), none]) (by decide +kernel) (Nat.le_of_ble_eq_true rfl) rfl rfl ?_
  refine pw_aload_n (z := 0) (pc := 0) dX11_door_0 rfl rfl ?_
  refine pw_iload_n (z := t) (pc := 1) dX11_door_1 rfl rfl ?_
  refine pw_callV (c := 11) (o := 0) (As := [ii_ t]) (rest := []) (pc := 2) dX11_door_2 (d_isStretch hC h o ho hL ro H t (by first | omega)) lX11_176 mX11_isStretch vX11_isStretch (hC 0 (by decide)) (show kd_ 0 = 21 by decide +kernel) rfl rfl rfl (by decide) ⟨Nat.zero_le _, Nat.zero_le _⟩ (Nat.le_of_ble_eq_true rfl) (k_i (fun z2 h2 y2 q2 => ?_))
  obtain ⟨rfl, ⟨rfl, p2⟩ | ⟨rfl, p2⟩⟩ := q2
  · refine pw_if_eq (t := 28) (pc := 5) dX11_door_5 (by decide) (by first | omega) (fun c5 => absurd c5 (by decide)) (fun _ => ?_)
    refine pw_aload_n (z := 0) (pc := 8) dX11_door_8 rfl rfl ?_
    refine pw_iload_n (z := r) (pc := 9) dX11_door_9 rfl rfl ?_
    refine pw_callV (c := 11) (o := 0) (As := [ii_ r]) (rest := []) (pc := 10) dX11_door_10 (d_isRider hC h o ho hL ro H r (by first | omega)) lX11_147 mX11_isRider vX11_isRider (hC 0 (by decide)) (show kd_ 0 = 21 by decide +kernel) rfl rfl rfl (by decide) ⟨Nat.zero_le _, Nat.zero_le _⟩ (Nat.le_of_ble_eq_true rfl) (k_i (fun z10 h10 y10 q10 => ?_))
    obtain ⟨rfl, ⟨rfl, p10⟩ | ⟨rfl, p10⟩⟩ := q10
    · refine pw_if_eq (t := 28) (pc := 13) dX11_door_13 (by decide) (by first | omega) (fun c13 => absurd c13 (by decide)) (fun _ => ?_)
      refine pw_aload_n (z := 0) (pc := 16) dX11_door_16 rfl rfl ?_
      refine pw_iload_n (z := s) (pc := 17) dX11_door_17 rfl rfl ?_
      refine pw_callV (c := 11) (o := 0) (As := [ii_ s]) (rest := []) (pc := 18) dX11_door_18 (d_isSeat hC h o ho hL ro H s (by first | omega)) lX11_204 mX11_isSeat vX11_isSeat (hC 0 (by decide)) (show kd_ 0 = 21 by decide +kernel) rfl rfl rfl (by decide) ⟨Nat.zero_le _, Nat.zero_le _⟩ (Nat.le_of_ble_eq_true rfl) (k_i (fun z18 h18 y18 q18 => ?_))
      obtain ⟨rfl, ⟨rfl, p18⟩ | ⟨rfl, p18⟩⟩ := q18
      · refine pw_if_eq (t := 28) (pc := 21) dX11_door_21 (by decide) (by first | omega) (fun c21 => absurd c21 (by decide)) (fun _ => ?_)
        refine pw_iconst (pc := 24) dX11_door_24 ?_
        refine pw_goto (t := 29) (pc := 25) dX11_door_25 (by decide) ?_
        refine pw_istore (lv1 := [some (rr_ G 0), some (ii_ t), some (ii_ r), some (ii_ s), some (ii_ w), some (ii_ 1)]) (pc := 29) dX11_door_29 (by decide) rfl rfl ?_
        refine pw_iload (z := 1) (pc := 31) dX11_door_31 rfl ?_
        refine pw_if_eq (t := 47) (pc := 33) dX11_door_33 (by decide) (by first | omega) (fun c33 => absurd c33 (by decide)) (fun _ => ?_)
        refine pw_iload (z := w) (pc := 36) dX11_door_36 rfl ?_
        refine pw_if_lt (t := 47) (pc := 38) dX11_door_38 (by decide) (by first | omega) (fun c38 => ?_) (fun c38 => ?_)
        · refine pw_ldc2 (z := -1) (pc := 47) dX11_door_47 kX11_287 rfl ?_
          exact pw_lret (pc := 50) dX11_door_50 (by first | omega) (⟨off_rf, by unfold doq_; rw [if_f (by omega)]⟩)
        · refine pw_iload (z := w) (pc := 41) dX11_door_41 rfl ?_
          refine pw_iconst (pc := 43) dX11_door_43 ?_
          refine pw_icmp_le (t := 51) (pc := 44) dX11_door_44 (by decide) (by first | omega) (by first | omega) (fun c44 => ?_) (fun c44 => ?_)
          · refine pw_aload_n (z := 0) (pc := 51) dX11_door_51 rfl rfl ?_
            refine pw_getR (r := 170) (pc := 52) dX11_door_52 fX11_104 (hC 0 (by decide)) (show kd_ 0 = 21 by decide +kernel) rfl (by decide +kernel) ?_
            refine pw_aload_n (z := 0) (pc := 55) dX11_door_55 rfl rfl ?_
            refine pw_gD (x := 2) (r := o) (pc := 56) dX11_door_56 fX11_28 (hC 0 (by decide)) (show kd_ 0 = 21 by decide +kernel) rfl rfl hL_h ?_
            refine pw_iload_n (z := t) (pc := 59) dX11_door_59 rfl rfl ?_
            refine pw_iload_n (z := r) (pc := 60) dX11_door_60 rfl rfl ?_
            refine pw_iload_n (z := s) (pc := 61) dX11_door_61 rfl rfl ?_
            refine pw_callV (c := 0) (o := 170) (As := [rr_ G o, ii_ t, ii_ r, ii_ s]) (rest := []) (pc := 62) dX11_door_62 (d_findChance hC h o ho ro H hd t (by first | omega) r s (by first | omega) (by first | omega)) lX11_289 mX0_findChance vX0_findChance (hC 170 (by decide)) (show kd_ 170 = 10 by decide +kernel) rfl rfl rfl (by decide) ⟨Nat.zero_le _, Nat.zero_le _⟩ (Nat.le_of_ble_eq_true rfl) (k_v (fun h62 q62 => ?_))
            obtain ⟨f62, a62, b62⟩ := q62
            refine pw_iload (z := w) (pc := 65) dX11_door_65 rfl ?_
            refine pw_if_ne (t := 80) (pc := 67) dX11_door_67 (by decide) (by first | omega) (fun c67 => ?_) (fun c67 => ?_)
            · refine pw_aload_n (z := 0) (pc := 80) dX11_door_80 rfl rfl ?_
              refine pw_getR (r := 170) (pc := 81) dX11_door_81 fX11_104 (hC 0 (by decide)) (show kd_ 0 = 21 by decide +kernel) rfl (by decide +kernel) ?_
              refine pw_gJ (x := 9) (pc := 84) dX11_door_84 fX11_297 (hC 170 (by decide)) (show kd_ 170 = 10 by decide +kernel) rfl rfl (fun r84 => ?_)
              exact pw_lret (pc := 87) dX11_door_87 (by first | omega) (⟨f62, by unfold doq_; rw [if_t (by omega)]; first | (rw [if_pos (by omega), a62]) | (rw [if_neg (by omega), b62])⟩)
            · refine pw_aload_n (z := 0) (pc := 70) dX11_door_70 rfl rfl ?_
              refine pw_getR (r := 170) (pc := 71) dX11_door_71 fX11_104 (hC 0 (by decide)) (show kd_ 0 = 21 by decide +kernel) rfl (by decide +kernel) ?_
              refine pw_gJ (x := 8) (pc := 74) dX11_door_74 fX11_293 (hC 170 (by decide)) (show kd_ 170 = 10 by decide +kernel) rfl rfl (fun r74 => ?_)
              refine pw_goto (t := 87) (pc := 77) dX11_door_77 (by decide) ?_
              exact pw_lret (pc := 87) dX11_door_87 (by first | omega) (⟨f62, by unfold doq_; rw [if_t (by omega)]; first | (rw [if_pos (by omega), a62]) | (rw [if_neg (by omega), b62])⟩)
          · refine pw_ldc2 (z := -1) (pc := 47) dX11_door_47 kX11_287 rfl ?_
            exact pw_lret (pc := 50) dX11_door_50 (by first | omega) (⟨off_rf, by unfold doq_; rw [if_f (by omega)]⟩)
      · refine pw_if_eq (t := 28) (pc := 21) dX11_door_21 (by decide) (by first | omega) (fun _ => ?_) (fun c21 => absurd c21 (by decide))
        refine pw_iconst (pc := 28) dX11_door_28 ?_
        refine pw_istore (lv1 := [some (rr_ G 0), some (ii_ t), some (ii_ r), some (ii_ s), some (ii_ w), some (ii_ 0)]) (pc := 29) dX11_door_29 (by decide) rfl rfl ?_
        refine pw_iload (z := 0) (pc := 31) dX11_door_31 rfl ?_
        refine pw_if_eq (t := 47) (pc := 33) dX11_door_33 (by decide) (by first | omega) (fun _ => ?_) (fun c33 => absurd c33 (by decide))
        refine pw_ldc2 (z := -1) (pc := 47) dX11_door_47 kX11_287 rfl ?_
        exact pw_lret (pc := 50) dX11_door_50 (by first | omega) (⟨off_rf, by unfold doq_; rw [if_f (by omega)]⟩)
    · refine pw_if_eq (t := 28) (pc := 13) dX11_door_13 (by decide) (by first | omega) (fun _ => ?_) (fun c13 => absurd c13 (by decide))
      refine pw_iconst (pc := 28) dX11_door_28 ?_
      refine pw_istore (lv1 := [some (rr_ G 0), some (ii_ t), some (ii_ r), some (ii_ s), some (ii_ w), some (ii_ 0)]) (pc := 29) dX11_door_29 (by decide) rfl rfl ?_
      refine pw_iload (z := 0) (pc := 31) dX11_door_31 rfl ?_
      refine pw_if_eq (t := 47) (pc := 33) dX11_door_33 (by decide) (by first | omega) (fun _ => ?_) (fun c33 => absurd c33 (by decide))
      refine pw_ldc2 (z := -1) (pc := 47) dX11_door_47 kX11_287 rfl ?_
      exact pw_lret (pc := 50) dX11_door_50 (by first | omega) (⟨off_rf, by unfold doq_; rw [if_f (by omega)]⟩)
  · refine pw_if_eq (t := 28) (pc := 5) dX11_door_5 (by decide) (by first | omega) (fun _ => ?_) (fun c5 => absurd c5 (by decide))
    refine pw_iconst (pc := 28) dX11_door_28 ?_
    refine pw_istore (lv1 := [some (rr_ G 0), some (ii_ t), some (ii_ r), some (ii_ s), some (ii_ w), some (ii_ 0)]) (pc := 29) dX11_door_29 (by decide) rfl rfl ?_
    refine pw_iload (z := 0) (pc := 31) dX11_door_31 rfl ?_
    refine pw_if_eq (t := 47) (pc := 33) dX11_door_33 (by decide) (by first | omega) (fun _ => ?_) (fun c33 => absurd c33 (by decide))
    refine pw_ldc2 (z := -1) (pc := 47) dX11_door_47 kX11_287 rfl ?_
    exact pw_lret (pc := 50) dX11_door_50 (by first | omega) (⟨off_rf, by unfold doq_; rw [if_f (by omega)]⟩)

set_option maxHeartbeats 4000000 in
set_option maxRecDepth 100000 in
theorem d_see {G : GT_} (hC : okC_ G) (h : PH_) (o : Nat) (ho : is6_ o) (hL : h 0 2 = (o : Int)) (ro : Int → Int) (H : CRD_ ro h o) (hn : 0 ≤ h 42 5 ∧ h 42 5 ≤ 10) (r s t b : Int) (h1 : ir_ r) (h2 : ir_ s) (h3 : ir_ t) (h4 : b = 0 ∨ b = 1) : PC G yX11_see cX11_see 5 (some .boolean) 2 [rr_ G 0, ii_ r, ii_ s, ii_ t, ii_ b] h (qi_ (fun z h' => (¬ ((0 ≤ r ∧ r < ro 2) ∧ (0 ≤ s ∧ s < ro 0) ∧ (0 ≤ t ∧ t < ro 1) ∧ h 42 5 < 10) ∧ h = h' ∧ z = 0) ∨ (((0 ≤ r ∧ r < ro 2) ∧ (0 ≤ s ∧ s < ro 0) ∧ (0 ≤ t ∧ t < ro 1) ∧ h 42 5 < 10) ∧ z = 1 ∧ off_ [42, 48] h h' ∧ (∀ k, k ≠ 5 → h' 42 k = h 42 k) ∧ h' 42 5 = h 42 5 + 1 ∧ (∀ x, x < 4 * h 42 5 → h' 48 x = h 48 x) ∧ h' 48 (4 * h 42 5) = r ∧ h' 48 (4 * h 42 5 + 1) = s ∧ h' 48 (4 * h 42 5 + 2) = t ∧ h' 48 (4 * h 42 5 + 3) = b))) := by
  have hL_h := hL
  have HB := H.2.1
  have HA := H.1
  refine PC.of (lv := [some (rr_ G 0), some (ii_ r), some (ii_ s), some (ii_ t), some (ii_ b)]) (by decide +kernel) (Nat.le_of_ble_eq_true rfl) rfl rfl ?_
  refine pw_aload_n (z := 0) (pc := 0) dX11_see_0 rfl rfl ?_
  refine pw_iload_n (z := r) (pc := 1) dX11_see_1 rfl rfl ?_
  refine pw_callV (c := 11) (o := 0) (As := [ii_ r]) (rest := []) (pc := 2) dX11_see_2 (d_isRider hC h o ho hL ro H r (by first | omega)) lX11_147 mX11_isRider vX11_isRider (hC 0 (by decide)) (show kd_ 0 = 21 by decide +kernel) rfl rfl rfl (by decide) ⟨Nat.zero_le _, Nat.zero_le _⟩ (Nat.le_of_ble_eq_true rfl) (k_i (fun z2 h2 y2 q2 => ?_))
  obtain ⟨rfl, ⟨rfl, p2⟩ | ⟨rfl, p2⟩⟩ := q2
  · refine pw_if_eq (t := 24) (pc := 5) dX11_see_5 (by decide) (by first | omega) (fun c5 => absurd c5 (by decide)) (fun _ => ?_)
    refine pw_aload_n (z := 0) (pc := 8) dX11_see_8 rfl rfl ?_
    refine pw_iload_n (z := s) (pc := 9) dX11_see_9 rfl rfl ?_
    refine pw_callV (c := 11) (o := 0) (As := [ii_ s]) (rest := []) (pc := 10) dX11_see_10 (d_isSeat hC h o ho hL ro H s (by first | omega)) lX11_204 mX11_isSeat vX11_isSeat (hC 0 (by decide)) (show kd_ 0 = 21 by decide +kernel) rfl rfl rfl (by decide) ⟨Nat.zero_le _, Nat.zero_le _⟩ (Nat.le_of_ble_eq_true rfl) (k_i (fun z10 h10 y10 q10 => ?_))
    obtain ⟨rfl, ⟨rfl, p10⟩ | ⟨rfl, p10⟩⟩ := q10
    · refine pw_if_eq (t := 24) (pc := 13) dX11_see_13 (by decide) (by first | omega) (fun c13 => absurd c13 (by decide)) (fun _ => ?_)
      refine pw_aload_n (z := 0) (pc := 16) dX11_see_16 rfl rfl ?_
      refine pw_iload_n (z := t) (pc := 17) dX11_see_17 rfl rfl ?_
      refine pw_callV (c := 11) (o := 0) (As := [ii_ t]) (rest := []) (pc := 18) dX11_see_18 (d_isStretch hC h o ho hL ro H t (by first | omega)) lX11_176 mX11_isStretch vX11_isStretch (hC 0 (by decide)) (show kd_ 0 = 21 by decide +kernel) rfl rfl rfl (by decide) ⟨Nat.zero_le _, Nat.zero_le _⟩ (Nat.le_of_ble_eq_true rfl) (k_i (fun z18 h18 y18 q18 => ?_))
      obtain ⟨rfl, ⟨rfl, p18⟩ | ⟨rfl, p18⟩⟩ := q18
      · refine pw_if_ne (t := 26) (pc := 21) dX11_see_21 (by decide) (by first | omega) (fun _ => ?_) (fun c21 => absurd c21 (by decide))
        refine pw_aload_n (z := 0) (pc := 26) dX11_see_26 rfl rfl ?_
        refine pw_getR (r := 42) (pc := 27) dX11_see_27 fX11_48 (hC 0 (by decide)) (show kd_ 0 = 21 by decide +kernel) rfl (by decide +kernel) ?_
        refine pw_iload_n (z := r) (pc := 30) dX11_see_30 rfl rfl ?_
        refine pw_iload_n (z := s) (pc := 31) dX11_see_31 rfl rfl ?_
        refine pw_iload_n (z := t) (pc := 32) dX11_see_32 rfl rfl ?_
        refine pw_iload (z := b) (pc := 33) dX11_see_33 rfl ?_
        refine pw_callV (c := 3) (o := 42) (As := [ii_ r, ii_ s, ii_ t, ii_ b]) (rest := []) (pc := 35) dX11_see_35 (d_takeDown hC h 42 is3_now.1 r s t b h1 h2 h3 h4 hn) lX11_309 mX3_takeDown vX3_takeDown (hC 42 (by decide)) (show kd_ 42 = 13 by decide +kernel) rfl rfl rfl (by decide) ⟨Nat.zero_le _, Nat.zero_le _⟩ (Nat.le_of_ble_eq_true rfl) (k_i (fun z35 h35 y35 q35 => ?_))
        have z01 : z35 = 0 ∨ z35 = 1 := by rcases q35 with x | x; exact Or.inl x.1; exact Or.inr x.1
        exact pw_zret (pc := 38) dX11_see_38 (by first | omega) (by rcases q35 with ⟨x, y, w⟩ | ⟨x, y, w⟩; exact Or.inl ⟨by omega, y, x⟩; exact Or.inr ⟨by omega, x, w⟩)
      · refine pw_if_ne (t := 26) (pc := 21) dX11_see_21 (by decide) (by first | omega) (fun c21 => absurd c21 (by decide)) (fun _ => ?_)
        refine pw_iconst (pc := 24) dX11_see_24 ?_
        exact pw_zret (pc := 25) dX11_see_25 (by first | omega) (Or.inl ⟨by omega, rfl, rfl⟩)
    · refine pw_if_eq (t := 24) (pc := 13) dX11_see_13 (by decide) (by first | omega) (fun _ => ?_) (fun c13 => absurd c13 (by decide))
      refine pw_iconst (pc := 24) dX11_see_24 ?_
      exact pw_zret (pc := 25) dX11_see_25 (by first | omega) (Or.inl ⟨by omega, rfl, rfl⟩)
  · refine pw_if_eq (t := 24) (pc := 5) dX11_see_5 (by decide) (by first | omega) (fun _ => ?_) (fun c5 => absurd c5 (by decide))
    refine pw_iconst (pc := 24) dX11_see_24 ?_
    exact pw_zret (pc := 25) dX11_see_25 (by first | omega) (Or.inl ⟨by omega, rfl, rfl⟩)

set_option maxHeartbeats 4000000 in
set_option maxRecDepth 100000 in
theorem d_years {G : GT_} (hC : okC_ G) (h : PH_) (o : Nat) (ho : is6_ o) (hL : h 0 2 = (o : Int)) (ro : Int → Int) (P : List (Int × Int)) (HC : CLD_ ro P h o) (hd : ∀ r, 0 ≤ r → r < ro 2 → 1 ≤ ro (31 + 4 * r + 1) ∧ ro (31 + 4 * r + 1) ≤ 9) (hpa : ∀ r, 0 ≤ r → r < ro 2 → 0 ≤ ro (31 + 4 * r + 2) ∧ ro (31 + 4 * r + 2) ≤ 9999) (sd jn w : Int) (h1 : ir_ sd) (h2 : ir_ jn) (h3 : ir_ w) : PC G yX11_years cX11_years 5 (some .int) 7 [rr_ G 0, ii_ sd, ii_ jn, ii_ w] h (qi_ (fun z h' => off_ [170, 171, 172, o + 10, o + 11, o + 15] h h' ∧ CWM_ ro P h' o ∧ z = yrs_ ro P sd jn w)) := by
  have H := HC.1
  have hL_h := hL
  have HB := H.2.1
  have HA := H.1
  refine PC.of (lv := [some (rr_ G 0), some (ii_ sd), some (ii_ jn), some (ii_ w), none]) (by decide +kernel) (Nat.le_of_ble_eq_true rfl) rfl rfl ?_
  refine pw_iload_n (z := sd) (pc := 0) dX11_years_0 rfl rfl ?_
  refine pw_if_lt (t := 26) (pc := 1) dX11_years_1 (by decide) (by first | omega) (fun c1 => ?_) (fun c1 => ?_)
  · refine pw_iconst (pc := 26) dX11_years_26 ?_
    refine pw_istore (lv1 := [some (rr_ G 0), some (ii_ sd), some (ii_ jn), some (ii_ w), some (ii_ 0)]) (pc := 27) dX11_years_27 (by decide) rfl rfl ?_
    refine pw_iload (z := 0) (pc := 29) dX11_years_29 rfl ?_
    refine pw_if_eq (t := 53) (pc := 31) dX11_years_31 (by decide) (by first | omega) (fun _ => ?_) (fun c31 => absurd c31 (by decide))
    refine pw_iconst (pc := 53) dX11_years_53 ?_
    exact pw_iret (pc := 54) dX11_years_54 (by first | omega) (⟨off_rf, HC.2.2, by unfold yrs_; rw [if_f (by omega)]⟩)
  · refine pw_iload_n (z := sd) (pc := 4) dX11_years_4 rfl rfl ?_
    refine pw_sipush (pc := 5) dX11_years_5 rfl ?_
    refine pw_icmp_gt (t := 26) (pc := 8) dX11_years_8 (by decide) (by first | omega) (by first | omega) (fun c8 => ?_) (fun c8 => ?_)
    · refine pw_iconst (pc := 26) dX11_years_26 ?_
      refine pw_istore (lv1 := [some (rr_ G 0), some (ii_ sd), some (ii_ jn), some (ii_ w), some (ii_ 0)]) (pc := 27) dX11_years_27 (by decide) rfl rfl ?_
      refine pw_iload (z := 0) (pc := 29) dX11_years_29 rfl ?_
      refine pw_if_eq (t := 53) (pc := 31) dX11_years_31 (by decide) (by first | omega) (fun _ => ?_) (fun c31 => absurd c31 (by decide))
      refine pw_iconst (pc := 53) dX11_years_53 ?_
      exact pw_iret (pc := 54) dX11_years_54 (by first | omega) (⟨off_rf, HC.2.2, by unfold yrs_; rw [if_f (by omega)]⟩)
    · refine pw_iload_n (z := jn) (pc := 11) dX11_years_11 rfl rfl ?_
      refine pw_iconst (pc := 12) dX11_years_12 ?_
      refine pw_icmp_lt (t := 26) (pc := 13) dX11_years_13 (by decide) (by first | omega) (by first | omega) (fun c13 => ?_) (fun c13 => ?_)
      · refine pw_iconst (pc := 26) dX11_years_26 ?_
        refine pw_istore (lv1 := [some (rr_ G 0), some (ii_ sd), some (ii_ jn), some (ii_ w), some (ii_ 0)]) (pc := 27) dX11_years_27 (by decide) rfl rfl ?_
        refine pw_iload (z := 0) (pc := 29) dX11_years_29 rfl ?_
        refine pw_if_eq (t := 53) (pc := 31) dX11_years_31 (by decide) (by first | omega) (fun _ => ?_) (fun c31 => absurd c31 (by decide))
        refine pw_iconst (pc := 53) dX11_years_53 ?_
        exact pw_iret (pc := 54) dX11_years_54 (by first | omega) (⟨off_rf, HC.2.2, by unfold yrs_; rw [if_f (by omega)]⟩)
      · refine pw_iload_n (z := jn) (pc := 16) dX11_years_16 rfl rfl ?_
        refine pw_bipush (pc := 17) dX11_years_17 rfl ?_
        refine pw_icmp_gt (t := 26) (pc := 19) dX11_years_19 (by decide) (by first | omega) (by first | omega) (fun c19 => ?_) (fun c19 => ?_)
        · refine pw_iconst (pc := 26) dX11_years_26 ?_
          refine pw_istore (lv1 := [some (rr_ G 0), some (ii_ sd), some (ii_ jn), some (ii_ w), some (ii_ 0)]) (pc := 27) dX11_years_27 (by decide) rfl rfl ?_
          refine pw_iload (z := 0) (pc := 29) dX11_years_29 rfl ?_
          refine pw_if_eq (t := 53) (pc := 31) dX11_years_31 (by decide) (by first | omega) (fun _ => ?_) (fun c31 => absurd c31 (by decide))
          refine pw_iconst (pc := 53) dX11_years_53 ?_
          exact pw_iret (pc := 54) dX11_years_54 (by first | omega) (⟨off_rf, HC.2.2, by unfold yrs_; rw [if_f (by omega)]⟩)
        · refine pw_iconst (pc := 22) dX11_years_22 ?_
          refine pw_goto (t := 27) (pc := 23) dX11_years_23 (by decide) ?_
          refine pw_istore (lv1 := [some (rr_ G 0), some (ii_ sd), some (ii_ jn), some (ii_ w), some (ii_ 1)]) (pc := 27) dX11_years_27 (by decide) rfl rfl ?_
          refine pw_iload (z := 1) (pc := 29) dX11_years_29 rfl ?_
          refine pw_if_eq (t := 53) (pc := 31) dX11_years_31 (by decide) (by first | omega) (fun c31 => absurd c31 (by decide)) (fun _ => ?_)
          refine pw_iload_n (z := w) (pc := 34) dX11_years_34 rfl rfl ?_
          refine pw_if_lt (t := 53) (pc := 35) dX11_years_35 (by decide) (by first | omega) (fun c35 => ?_) (fun c35 => ?_)
          · refine pw_iconst (pc := 53) dX11_years_53 ?_
            exact pw_iret (pc := 54) dX11_years_54 (by first | omega) (⟨off_rf, HC.2.2, by unfold yrs_; rw [if_f (by omega)]⟩)
          · refine pw_iload_n (z := w) (pc := 38) dX11_years_38 rfl rfl ?_
            refine pw_iconst (pc := 39) dX11_years_39 ?_
            refine pw_icmp_gt (t := 53) (pc := 40) dX11_years_40 (by decide) (by first | omega) (by first | omega) (fun c40 => ?_) (fun c40 => ?_)
            · refine pw_iconst (pc := 53) dX11_years_53 ?_
              exact pw_iret (pc := 54) dX11_years_54 (by first | omega) (⟨off_rf, HC.2.2, by unfold yrs_; rw [if_f (by omega)]⟩)
            · refine pw_aload_n (z := 0) (pc := 43) dX11_years_43 rfl rfl ?_
              refine pw_gD (x := 2) (r := o) (pc := 44) dX11_years_44 fX11_28 (hC 0 (by decide)) (show kd_ 0 = 21 by decide +kernel) rfl rfl hL_h ?_
              refine pw_gI (x := 2) (pc := 47) dX11_years_47 fX11_242 (hC _ (by omega)) (kd6_0 ho) rfl rfl (fun r47 => ?_)
              refine pw_if_ne (t := 55) (pc := 50) dX11_years_50 (by decide) (by first | omega) (fun c50 => ?_) (fun c50 => ?_)
              · refine pw_aload_n (z := 0) (pc := 55) dX11_years_55 rfl rfl ?_
                refine pw_getR (r := 170) (pc := 56) dX11_years_56 fX11_104 (hC 0 (by decide)) (show kd_ 0 = 21 by decide +kernel) rfl (by decide +kernel) ?_
                refine pw_aload_n (z := 0) (pc := 59) dX11_years_59 rfl rfl ?_
                refine pw_gD (x := 2) (r := o) (pc := 60) dX11_years_60 fX11_28 (hC 0 (by decide)) (show kd_ 0 = 21 by decide +kernel) rfl rfl hL_h ?_
                refine pw_iload_n (z := sd) (pc := 63) dX11_years_63 rfl rfl ?_
                refine pw_iload_n (z := jn) (pc := 64) dX11_years_64 rfl rfl ?_
                refine pw_callV (c := 0) (o := 170) (As := [rr_ G o, ii_ sd, ii_ jn]) (rest := []) (pc := 65) dX11_years_65 (d_drawYears hC h o ho ro H P HC.2.1 HC.2.2 hd hpa sd jn (by first | omega) (by first | omega)) lX11_328 mX0_drawYears vX0_drawYears (hC 170 (by decide)) (show kd_ 170 = 10 by decide +kernel) rfl rfl rfl (by decide) ⟨Nat.zero_le _, Nat.zero_le _⟩ (Nat.le_of_ble_eq_true rfl) (k_v (fun h65 q65 => ?_))
                obtain ⟨f65, m65, w65, x65⟩ := q65
                refine pw_iload_n (z := w) (pc := 68) dX11_years_68 rfl rfl ?_
                refine pw_if_ne (t := 93) (pc := 69) dX11_years_69 (by decide) (by first | omega) (fun c69 => ?_) (fun c69 => ?_)
                · refine pw_aload_n (z := 0) (pc := 93) dX11_years_93 rfl rfl ?_
                  refine pw_getR (r := 170) (pc := 94) dX11_years_94 fX11_104 (hC 0 (by decide)) (show kd_ 0 = 21 by decide +kernel) rfl (by decide +kernel) ?_
                  refine pw_gI (x := 7) (pc := 97) dX11_years_97 fX11_333 (hC 170 (by decide)) (show kd_ 170 = 10 by decide +kernel) rfl rfl (fun r97 => ?_)
                  exact pw_iret (pc := 100) dX11_years_100 (by first | omega) (⟨f65, m65, by unfold yrs_; rw [if_t (by omega)]; first | (rw [if_pos (by omega), w87, HA.2.2.1]; exact spr_cg (by omega) (fun x x0 x1 => (x65 x x0 x1).1)) | (rw [if_neg (by omega), w65])⟩)
                · refine pw_aload_n (z := 0) (pc := 72) dX11_years_72 rfl rfl ?_
                  refine pw_getR (r := 170) (pc := 73) dX11_years_73 fX11_104 (hC 0 (by decide)) (show kd_ 0 = 21 by decide +kernel) rfl (by decide +kernel) ?_
                  refine pw_getR (r := 172) (pc := 76) dX11_years_76 fX11_332 (hC 170 (by decide)) (show kd_ 170 = 10 by decide +kernel) rfl (by decide +kernel) ?_
                  refine pw_iconst (pc := 79) dX11_years_79 ?_
                  refine pw_aload_n (z := 0) (pc := 80) dX11_years_80 rfl rfl ?_
                  have n_h65_0_2 : h65 0 2 = h 0 2 := (congrFun (f65 0 (by first | decide | (simp; done) | (simp; omega))) 2)
                  refine pw_gD (x := 2) (r := o) (pc := 81) dX11_years_81 fX11_28 (hC 0 (by decide)) (show kd_ 0 = 21 by decide +kernel) rfl rfl (n_h65_0_2.trans hL_h) ?_
                  refine pw_gI (x := 2) (pc := 84) dX11_years_84 fX11_242 (hC _ (by omega)) (kd6_0 ho) rfl rfl (fun r84 => ?_)
                  have n_h65_o_2 : h65 o 2 = h o 2 := (congrFun (f65 o (by first | decide | (simp; done) | (simp; omega))) 2)
                  rw [n_h65_o_2] at r84 ⊢
                  refine pw_callS (As := [rr_ G 172, ii_ 0, ii_ (h o 2)]) (rest := []) (pc := 87) dX11_years_87 (d_spreadOf hC h65 172 4 (by decide +kernel) (by decide +kernel) (by decide) (by decide) 0 (h o 2) (by first | omega | (simp only [n_h65_0_2, n_h65_o_2]; omega)) (fun x x0 x1 => by have := x65 x x0 (by first | omega | (simp only [n_h65_0_2, n_h65_o_2]; omega)); omega)) lX11_306 mX11_spreadOf sX11_spreadOf rfl rfl (by decide) ⟨Nat.zero_le _, Nat.zero_le _⟩ (Nat.le_of_ble_eq_true rfl) (k_i (fun z87 h87 y87 q87 => ?_))
                  obtain ⟨rfl, w87⟩ := q87
                  refine pw_goto (t := 100) (pc := 90) dX11_years_90 (by decide) ?_
                  exact pw_iret (pc := 100) dX11_years_100 (by first | omega | (simp only [n_h65_0_2, n_h65_o_2]; omega)) (⟨f65, m65, by unfold yrs_; rw [if_t (by omega)]; first | (rw [if_pos (by omega), w87, HA.2.2.1]; exact spr_cg (by omega) (fun x x0 x1 => (x65 x x0 x1).1)) | (rw [if_neg (by omega), w65])⟩)
              · refine pw_iconst (pc := 53) dX11_years_53 ?_
                exact pw_iret (pc := 54) dX11_years_54 (by first | omega) (⟨off_rf, HC.2.2, by unfold yrs_; rw [if_f (by omega)]⟩)

set_option maxHeartbeats 4000000 in
set_option maxRecDepth 100000 in
theorem d_count {G : GT_} (hC : okC_ G) (h : PH_) (o : Nat) (ho : is6_ o) (hL : h 0 2 = (o : Int)) (ro : Int → Int) (H : CRD_ ro h o) (t : Nat) (ho_t : is10_ t) (hT : h 0 4 = (t : Int)) (hsh : h 42 3 = 0 ∨ h 42 3 = 1) (w : Int) (h1 : ir_ w) : PC G yX11_count cX11_count 2 (some .int) 2 [rr_ G 0, ii_ w] h (qi_ (fun z h' => h = h' ∧ z = if w = 0 then ro 0 else if w = 1 then ro 1 else if w = 2 then ro 2 else if w = 3 then h o 3 else if w = 4 then h 43 3 else if w = 5 then csn_ (h 44) (ro 2).toNat else if w = 6 then h t 2 else if w = 7 then h 42 3 else if w = 8 then h 42 5 else if w = 9 then ro 4 else if w = 10 then h 0 9 else if w = 11 then h 1 2 else -1)) := by
  have hL_h := hL
  have HB := H.2.1
  have HA := H.1
  have hT_h := hT
  refine PC.of (lv := [some (rr_ G 0), some (ii_ w)]) (by decide +kernel) (Nat.le_of_ble_eq_true rfl) rfl rfl ?_
  refine pw_iload_n (z := w) (pc := 0) dX11_count_0 rfl rfl ?_
  have sw1 : w = 0 ∨ w = 1 ∨ w = 2 ∨ w = 3 ∨ w = 4 ∨ w = 5 ∨ w = 6 ∨ w = 7 ∨ w = 8 ∨ w = 9 ∨ w = 10 ∨ w = 11 ∨ (w < 0 ∨ 11 < w) := by omega
  rcases sw1 with sw1 | sw1 | sw1 | sw1 | sw1 | sw1 | sw1 | sw1 | sw1 | sw1 | sw1 | sw1 | sw1
  · refine pw_tableIn (t := 64) (off := 63) (pc := 1) dX11_count_1 (by first | omega) (by omega) (by omega) (by rw [sw1]; rfl) (by decide) ?_
    refine pw_aload_n (z := 0) (pc := 64) dX11_count_64 rfl rfl ?_
    refine pw_gD (x := 2) (r := o) (pc := 65) dX11_count_65 fX11_28 (hC 0 (by decide)) (show kd_ 0 = 21 by decide +kernel) rfl rfl hL_h ?_
    refine pw_gI (x := 0) (pc := 68) dX11_count_68 fX11_179 (hC _ (by omega)) (kd6_0 ho) rfl rfl (fun r68 => ?_)
    exact pw_iret (pc := 71) dX11_count_71 (by first | omega) (⟨rfl, by rw [sw1, HA.1]; rfl⟩)
  · refine pw_tableIn (t := 72) (off := 71) (pc := 1) dX11_count_1 (by first | omega) (by omega) (by omega) (by rw [sw1]; rfl) (by decide) ?_
    refine pw_aload_n (z := 0) (pc := 72) dX11_count_72 rfl rfl ?_
    refine pw_gD (x := 2) (r := o) (pc := 73) dX11_count_73 fX11_28 (hC 0 (by decide)) (show kd_ 0 = 21 by decide +kernel) rfl rfl hL_h ?_
    refine pw_gI (x := 1) (pc := 76) dX11_count_76 fX11_239 (hC _ (by omega)) (kd6_0 ho) rfl rfl (fun r76 => ?_)
    exact pw_iret (pc := 79) dX11_count_79 (by first | omega) (⟨rfl, by rw [sw1, HA.2.1]; rfl⟩)
  · refine pw_tableIn (t := 80) (off := 79) (pc := 1) dX11_count_1 (by first | omega) (by omega) (by omega) (by rw [sw1]; rfl) (by decide) ?_
    refine pw_aload_n (z := 0) (pc := 80) dX11_count_80 rfl rfl ?_
    refine pw_gD (x := 2) (r := o) (pc := 81) dX11_count_81 fX11_28 (hC 0 (by decide)) (show kd_ 0 = 21 by decide +kernel) rfl rfl hL_h ?_
    refine pw_gI (x := 2) (pc := 84) dX11_count_84 fX11_242 (hC _ (by omega)) (kd6_0 ho) rfl rfl (fun r84 => ?_)
    exact pw_iret (pc := 87) dX11_count_87 (by first | omega) (⟨rfl, by rw [sw1, HA.2.2.1]; rfl⟩)
  · refine pw_tableIn (t := 88) (off := 87) (pc := 1) dX11_count_1 (by first | omega) (by omega) (by omega) (by rw [sw1]; rfl) (by decide) ?_
    refine pw_aload_n (z := 0) (pc := 88) dX11_count_88 rfl rfl ?_
    refine pw_gD (x := 2) (r := o) (pc := 89) dX11_count_89 fX11_28 (hC 0 (by decide)) (show kd_ 0 = 21 by decide +kernel) rfl rfl hL_h ?_
    refine pw_gI (x := 3) (pc := 92) dX11_count_92 fX11_300 (hC _ (by omega)) (kd6_0 ho) rfl rfl (fun r92 => ?_)
    exact pw_iret (pc := 95) dX11_count_95 (by first | omega) (⟨rfl, by rw [sw1]; rfl⟩)
  · refine pw_tableIn (t := 96) (off := 95) (pc := 1) dX11_count_1 (by first | omega) (by omega) (by omega) (by rw [sw1]; rfl) (by decide) ?_
    refine pw_aload_n (z := 0) (pc := 96) dX11_count_96 rfl rfl ?_
    refine pw_getR (r := 42) (pc := 97) dX11_count_97 fX11_48 (hC 0 (by decide)) (show kd_ 0 = 21 by decide +kernel) rfl (by decide +kernel) ?_
    refine pw_getR (r := 43) (pc := 100) dX11_count_100 fX11_167 (hC 42 (by decide)) (show kd_ 42 = 13 by decide +kernel) rfl (by decide +kernel) ?_
    refine pw_gI (x := 3) (pc := 103) dX11_count_103 fX11_221 (hC 43 (by decide)) (show kd_ 43 = 17 by decide +kernel) rfl rfl (fun r103 => ?_)
    exact pw_iret (pc := 106) dX11_count_106 (by first | omega) (⟨rfl, by rw [sw1]; rfl⟩)
  · refine pw_tableIn (t := 107) (off := 106) (pc := 1) dX11_count_1 (by first | omega) (by omega) (by omega) (by rw [sw1]; rfl) (by decide) ?_
    refine pw_aload_n (z := 0) (pc := 107) dX11_count_107 rfl rfl ?_
    refine pw_getR (r := 42) (pc := 108) dX11_count_108 fX11_48 (hC 0 (by decide)) (show kd_ 0 = 21 by decide +kernel) rfl (by decide +kernel) ?_
    refine pw_getR (r := 43) (pc := 111) dX11_count_111 fX11_167 (hC 42 (by decide)) (show kd_ 42 = 13 by decide +kernel) rfl (by decide +kernel) ?_
    refine pw_aload_n (z := 0) (pc := 114) dX11_count_114 rfl rfl ?_
    refine pw_gD (x := 2) (r := o) (pc := 115) dX11_count_115 fX11_28 (hC 0 (by decide)) (show kd_ 0 = 21 by decide +kernel) rfl rfl hL_h ?_
    refine pw_gI (x := 2) (pc := 118) dX11_count_118 fX11_242 (hC _ (by omega)) (kd6_0 ho) rfl rfl (fun r118 => ?_)
    refine pw_callV (c := 7) (o := 43) (As := [ii_ (h o 2)]) (rest := []) (pc := 121) dX11_count_121 (d_countSitting hC h 43 is3_now.2.1 (h o 2) (by first | omega)) lX11_342 mX7_countSitting vX7_countSitting (hC 43 (by decide)) (show kd_ 43 = 17 by decide +kernel) rfl rfl rfl (by decide) ⟨Nat.zero_le _, Nat.zero_le _⟩ (Nat.le_of_ble_eq_true rfl) (k_i (fun z121 h121 y121 q121 => ?_))
    obtain ⟨rfl, w121⟩ := q121
    exact pw_iret (pc := 124) dX11_count_124 (by first | omega) (⟨rfl, by rw [w121, sw1, HA.2.2.1]; rfl⟩)
  · refine pw_tableIn (t := 125) (off := 124) (pc := 1) dX11_count_1 (by first | omega) (by omega) (by omega) (by rw [sw1]; rfl) (by decide) ?_
    refine pw_aload_n (z := 0) (pc := 125) dX11_count_125 rfl rfl ?_
    refine pw_gD (x := 4) (r := t) (pc := 126) dX11_count_126 fX11_38 (hC 0 (by decide)) (show kd_ 0 = 21 by decide +kernel) rfl rfl hT_h ?_
    refine pw_gI (x := 2) (pc := 129) dX11_count_129 fX11_345 (hC _ (by omega)) (kd10_0 ho_t) rfl rfl (fun r129 => ?_)
    exact pw_iret (pc := 132) dX11_count_132 (by first | omega) (⟨rfl, by rw [sw1]; rfl⟩)
  · refine pw_tableIn (t := 133) (off := 132) (pc := 1) dX11_count_1 (by first | omega) (by omega) (by omega) (by rw [sw1]; rfl) (by decide) ?_
    refine pw_aload_n (z := 0) (pc := 133) dX11_count_133 rfl rfl ?_
    refine pw_getR (r := 42) (pc := 134) dX11_count_134 fX11_48 (hC 0 (by decide)) (show kd_ 0 = 21 by decide +kernel) rfl (by decide +kernel) ?_
    refine pw_gI (x := 3) (pc := 137) dX11_count_137 fX11_143 (hC 42 (by decide)) (show kd_ 42 = 13 by decide +kernel) rfl rfl (fun r137 => ?_)
    refine pw_if_eq (t := 147) (pc := 140) dX11_count_140 (by decide) (by first | omega) (fun c140 => ?_) (fun c140 => ?_)
    · refine pw_iconst (pc := 147) dX11_count_147 ?_
      exact pw_iret (pc := 148) dX11_count_148 (by first | omega) (⟨rfl, by rw [sw1]; show _ = h 42 3; omega⟩)
    · refine pw_iconst (pc := 143) dX11_count_143 ?_
      refine pw_goto (t := 148) (pc := 144) dX11_count_144 (by decide) ?_
      exact pw_iret (pc := 148) dX11_count_148 (by first | omega) (⟨rfl, by rw [sw1]; show _ = h 42 3; omega⟩)
  · refine pw_tableIn (t := 149) (off := 148) (pc := 1) dX11_count_1 (by first | omega) (by omega) (by omega) (by rw [sw1]; rfl) (by decide) ?_
    refine pw_aload_n (z := 0) (pc := 149) dX11_count_149 rfl rfl ?_
    refine pw_getR (r := 42) (pc := 150) dX11_count_150 fX11_48 (hC 0 (by decide)) (show kd_ 0 = 21 by decide +kernel) rfl (by decide +kernel) ?_
    refine pw_gI (x := 5) (pc := 153) dX11_count_153 fX11_348 (hC 42 (by decide)) (show kd_ 42 = 13 by decide +kernel) rfl rfl (fun r153 => ?_)
    exact pw_iret (pc := 156) dX11_count_156 (by first | omega) (⟨rfl, by rw [sw1]; rfl⟩)
  · refine pw_tableIn (t := 157) (off := 156) (pc := 1) dX11_count_1 (by first | omega) (by omega) (by omega) (by rw [sw1]; rfl) (by decide) ?_
    refine pw_aload_n (z := 0) (pc := 157) dX11_count_157 rfl rfl ?_
    refine pw_gD (x := 2) (r := o) (pc := 158) dX11_count_158 fX11_28 (hC 0 (by decide)) (show kd_ 0 = 21 by decide +kernel) rfl rfl hL_h ?_
    refine pw_gI (x := 5) (pc := 161) dX11_count_161 fX11_351 (hC _ (by omega)) (kd6_0 ho) rfl rfl (fun r161 => ?_)
    exact pw_iret (pc := 164) dX11_count_164 (by first | omega) (⟨rfl, by rw [sw1, HA.2.2.2.2]; rfl⟩)
  · refine pw_tableIn (t := 165) (off := 164) (pc := 1) dX11_count_1 (by first | omega) (by omega) (by omega) (by rw [sw1]; rfl) (by decide) ?_
    refine pw_aload_n (z := 0) (pc := 165) dX11_count_165 rfl rfl ?_
    refine pw_gI (x := 9) (pc := 166) dX11_count_166 fX11_224 (hC 0 (by decide)) (show kd_ 0 = 21 by decide +kernel) rfl rfl (fun r166 => ?_)
    exact pw_iret (pc := 169) dX11_count_169 (by first | omega) (⟨rfl, by rw [sw1]; rfl⟩)
  · refine pw_tableIn (t := 170) (off := 169) (pc := 1) dX11_count_1 (by first | omega) (by omega) (by omega) (by rw [sw1]; rfl) (by decide) ?_
    refine pw_aload_n (z := 0) (pc := 170) dX11_count_170 rfl rfl ?_
    refine pw_getR (r := 1) (pc := 171) dX11_count_171 fX11_10 (hC 0 (by decide)) (show kd_ 0 = 21 by decide +kernel) rfl (by decide +kernel) ?_
    refine pw_gI (x := 2) (pc := 174) dX11_count_174 fX11_118 (hC 1 (by decide)) (show kd_ 1 = 18 by decide +kernel) rfl rfl (fun r174 => ?_)
    exact pw_iret (pc := 177) dX11_count_177 (by first | omega) (⟨rfl, by rw [sw1]; rfl⟩)
  · refine pw_tableOut (t := 178) (pc := 1) dX11_count_1 (by first | omega) sw1 (by decide) ?_
    refine pw_iconst (pc := 178) dX11_count_178 ?_
    exact pw_iret (pc := 179) dX11_count_179 (by first | omega) (⟨rfl, by rw [if_neg (by omega), if_neg (by omega), if_neg (by omega), if_neg (by omega), if_neg (by omega), if_neg (by omega), if_neg (by omega), if_neg (by omega), if_neg (by omega), if_neg (by omega), if_neg (by omega), if_neg (by omega)]⟩)

