theorem tkws_o {tk : Nat → TK_} {j a b : Nat} (h : tkws_ tk j a = .ok b) : b = a + 1 ∧ ¬ ixn_ (tk a) (wix_ j) 0 = -1 := by
  unfold tkws_ at h
  by_cases c : ixn_ (tk a) (wix_ j) 0 = -1
  · rw [if_t c] at h; cases h
  · rw [if_f c] at h; injection h with h; exact ⟨h.symm, c⟩
theorem tkws_e {tk : Nat → TK_} {j a : Nat} {e : Int} (h : tkws_ tk j a = .error e) : ixn_ (tk a) (wix_ j) 0 = -1 ∧ e = flt_ tk 1 a := by
  unfold tkws_ at h
  by_cases c : ixn_ (tk a) (wix_ j) 0 = -1
  · rw [if_t c] at h; injection h with h; exact ⟨c, h.symm⟩
  · rw [if_f c] at h; cases h
theorem nef_ {o : Nat} (ho : is6_ o) : (∀ k, 1 ≠ o + k) ∧ (∀ k, 2 ≠ o + k) ∧ (∀ k, 3 ≠ o + k) ∧ (∀ k, o + k ≠ 1) ∧ (∀ k, o + k ≠ 3) ∧ 1 ≠ o ∧ 2 ≠ o ∧ 3 ≠ o := ⟨fun k => by omega, fun k => by omega, fun k => by omega, fun k => by omega, fun k => by omega, by omega, by omega, by omega⟩
theorem ixn_6 {t : TK_} : ixn_ t (wix_ 6) 0 = fcw_ t 15 4 := by rw [show wix_ 6 = List.range' 15 4 by decide +kernel]; exact ixn_f (by decide)

set_option maxHeartbeats 4000000 in
set_option maxRecDepth 100000 in
theorem d_riderLine {G : GT_} (hC : okC_ G) (h : PH_) (tp : Int → Int) (n : Int) (o : Nat) (ho : is6_ o) (a : Nat) (H : CPO_ tp n h a) (hland : h 3 1 = (o : Int)) (Z : ZT_) (hZ : CZ_ Z h o a) (hne : (tk_ tp n a).1 ≠ 0) : PC G yX5_riderLine cX5_riderLine 2 (some .boolean) 8 [rr_ G 3] h (qi_ (fun z h' => LNF_ o h h' ∧ LNR_ tp n o (rln_ (tk_ tp n) Z a) z h')) := by
  have HB := CPO_b H
  have hl_h := hland
  have HA := hZ.1.1
  have zk := hZ.2.2.2.2.2.2.2
  have zb := zk.1
  have an := tk_lt HB.1.1 hne
  have e3 := hZ.2.1.1
  clear hne
  have ol : 4 ≤ o ∧ o < 100 := by omega
  refine PC.of (lv := [some (rr_ G 3), none]) (by decide +kernel) (Nat.le_of_ble_eq_true rfl) rfl rfl ?_
  refine pw_aload_n (z := 3) (pc := 0) dX5_riderLine_0 rfl rfl ?_
  refine pw_gD (x := 1) (r := o) (pc := 1) dX5_riderLine_1 fX5_94 (hC 3 (by decide)) (show kd_ 3 = 15 by decide +kernel) rfl rfl hl_h ?_
  refine pw_gI (x := 2) (pc := 4) dX5_riderLine_4 fX5_87 (hC _ (by omega)) (kd6_0 ho) rfl rfl (fun r4 => ?_)
  refine pw_istore_n (lv1 := [some (rr_ G 3), some (ii_ (h o 2))]) (pc := 7) dX5_riderLine_7 rfl (by decide) rfl rfl ?_
  refine pw_iload_n (z := h o 2) (pc := 8) dX5_riderLine_8 rfl rfl ?_
  refine pw_aload_n (z := 3) (pc := 9) dX5_riderLine_9 rfl rfl ?_
  refine pw_gD (x := 1) (r := o) (pc := 10) dX5_riderLine_10 fX5_94 (hC 3 (by decide)) (show kd_ 3 = 15 by decide +kernel) rfl rfl hl_h ?_
  refine pw_gI (x := 0) (pc := 13) dX5_riderLine_13 fX5_151 (hC _ (by omega)) (kd6_0 ho) rfl rfl (fun r13 => ?_)
  refine pw_icmp_lt (t := 25) (pc := 16) dX5_riderLine_16 (by decide) (by first | omega) (by first | omega) (fun c16 => ?_) (fun c16 => ?_)
  · refine pw_aload_n (z := 3) (pc := 25) dX5_riderLine_25 rfl rfl ?_
    refine pw_getR (r := 1) (pc := 26) dX5_riderLine_26 fX5_17 (hC 3 (by decide)) (show kd_ 3 = 15 by decide +kernel) rfl (by decide +kernel) ?_
    refine pw_callV (c := 8) (o := 1) (As := []) (rest := []) (pc := 29) dX5_riderLine_29 (d_step hC h tp n HB.2.2.2.2.2.1 (a + 1) HB.2.2.2.2.2.2.1) lX5_111 mX8_step vX8_step (hC 1 (by decide)) (show kd_ 1 = 18 by decide +kernel) rfl rfl rfl (by decide) ⟨Nat.zero_le _, Nat.zero_le _⟩ (Nat.le_of_ble_eq_true rfl) (k_v (fun h29 q29 => ?_))
    obtain ⟨f29, k29, p29⟩ := q29
    obtain ⟨H29, F29⟩ := CPO_st H f29 k29 p29
    have hl_h29 : h29 3 1 = (o : Int) := by rw [F29.2.1 1 (by simp)]; exact hland
    have N29 : LNF_ o h h29 := LNF_3 F29 (by simp)
    have NM29 : CNM_ Z.2.1 (h29 (o + 2)) (Z.1 2) (Z.1 3) := by rw [f29 (o + 2) (by simp)]; exact hZ.2.2.2.1
    have RR29 : h29 o 2 = Z.1 2 ∧ 0 ≤ Z.1 2 ∧ Z.1 2 ≤ 4 := by rw [f29 o (by simp; omega)]; omega
    refine pw_aload_n (z := 3) (pc := 32) dX5_riderLine_32 rfl rfl ?_
    refine pw_iload_n (z := h o 2) (pc := 33) dX5_riderLine_33 rfl rfl ?_
    refine pw_callV (c := 5) (o := 3) (As := [ii_ (h o 2)]) (rest := []) (pc := 34) dX5_riderLine_34 (d_newName hC h29 tp n o ho (a + 1) H29 hl_h29 Z.2.1 (Z.1 2) (Z.1 3) NM29 RR29 (by rw [f29 o (by simp; omega)]; omega) (h o 2) (Z.1 2) (by first | omega)) lX5_166 mX5_takeNewName vX5_takeNewName (hC 3 (by decide)) (show kd_ 3 = 15 by decide +kernel) rfl rfl rfl (by decide) ⟨Nat.zero_le _, Nat.zero_le _⟩ (Nat.le_of_ble_eq_true rfl) (k_i (fun z34 h34 y34 q34 => ?_))
    replace q34 := And.intro (And.intro q34.1 (And.intro q34.2.1 q34.2.2.1)) q34.2.2.2
    obtain ⟨f34, ⟨rfl, p34⟩ | ⟨rfl, p34⟩⟩ := q34
    · have N34 : LNF_ o h h34 := LNF_tr N29 ⟨off_mo f34.1 (by simp [RLC_]), fun k _ k3 _ _ => f34.2.1 k k3, f34.2.2⟩
      obtain ⟨nm, t34, H34, b34, m34⟩ := p34
      have hl_h34 : h34 3 1 = (o : Int) := by rw [f34.2.1 1 (by decide)]; exact hl_h29
      obtain ⟨nm1, nm2, nm3⟩ := nnm_o t34
      have lk34 : lok2_ (tk_ tp n (a + 1)).2.2.2 := ((HB.2.2.2.1 (a + 1)).1 nm2.1).1
      have HB34 := CPO_b H34
      have p34 := t34
      refine pw_if_ne (t := 42) (pc := 37) dX5_riderLine_37 (by decide) (by first | omega) (fun _ => ?_) (fun c37 => absurd c37 (by decide))
      refine pw_aload_n (z := 3) (pc := 42) dX5_riderLine_42 rfl rfl ?_
      refine pw_gD (x := 1) (r := o) (pc := 43) dX5_riderLine_43 fX5_94 (hC 3 (by decide)) (show kd_ 3 = 15 by decide +kernel) rfl rfl hl_h34 ?_
      refine pw_getR (r := (o + 3)) (pc := 46) dX5_riderLine_46 fX5_169 (hC _ (by omega)) (kd6_0 ho) rfl rfl ?_
      refine pw_iload_n (z := h o 2) (pc := 49) dX5_riderLine_49 rfl rfl ?_
      refine pw_aload_n (z := 3) (pc := 50) dX5_riderLine_50 rfl rfl ?_
      refine pw_getR (r := 1) (pc := 51) dX5_riderLine_51 fX5_17 (hC 3 (by decide)) (show kd_ 3 = 15 by decide +kernel) rfl (by decide +kernel) ?_
      refine pw_ldcs 6 (pc := 54) dX5_riderLine_54 rfl ?_
      have fb56 := fcw_b (tk_ tp n (a + 1 + 1)) 15 4
      refine pw_callV (c := 8) (o := 1) (As := [rr_ G 3006]) (rest := [ii_ (h o 2), rr_ G (o + 3)]) (pc := 56) dX5_riderLine_56 (d_wordAmong hC h34 6 (by decide) (by decide) (tk_ tp n (a + 1 + 1)) HB34.2.2.2.2.1 (CPO_lk H34)) lX5_42 mX8_wordAmong vX8_wordAmong (hC 1 (by decide)) (show kd_ 1 = 18 by decide +kernel) rfl rfl rfl (by decide) ⟨Nat.zero_le _, Nat.zero_le _⟩ (Nat.le_of_ble_eq_true rfl) (k_i (fun z56 h56 y56 q56 => ?_))
      obtain ⟨rfl, w56⟩ := q56
      rw [ixn_6] at w56
      refine pw_iast (pc := 59) dX5_riderLine_59 (hC _ (by omega)) (kd6_3 ho) 4 (ln6_3 ho) (by first | omega) (by first | omega) (by first | omega) (by first | omega) ?_
      obtain ⟨g59, e59⟩ : ∃ x, x = up_ h34 (o + 3) (h o 2) z56 := ⟨_, rfl⟩
      refine pw_heq e59 ?_
      clear fb56
      have hl_g59 : g59 3 1 = (o : Int) := by rw [e59, up_off ((nef_ ho).2.2.1 3)]; exact hl_h34
      have Hg59 : CPO_ tp n g59 (a + 1 + 1) := CPO_mv H34 (by rw [e59, up_off ((nef_ ho).1 3)]) (by rw [e59, up_off ((nef_ ho).2.1 3)]) (by rw [e59, up_off ((nef_ ho).2.2.1 3)])
      have Ng59 : LNF_ o h g59 := LNF_tr N34 (by rw [e59]; exact LNF_u (by simp [RLC_]) ((nef_ ho).2.2.2.1 3) ((nef_ ho).2.2.2.2.1 3))
      refine pw_aload_n (z := 3) (pc := 60) dX5_riderLine_60 rfl rfl ?_
      refine pw_ldcs 6 (pc := 61) dX5_riderLine_61 rfl ?_
      refine pw_callV (c := 5) (o := 3) (As := [rr_ G 3006]) (rest := []) (pc := 63) dX5_riderLine_63 (d_takeWord hC g59 tp n (a + 1 + 1) Hg59 6 (by decide) (by decide)) lX5_143 mX5_takeWord vX5_takeWord (hC 3 (by decide)) (show kd_ 3 = 15 by decide +kernel) rfl rfl rfl (by decide) ⟨Nat.zero_le _, Nat.zero_le _⟩ (Nat.le_of_ble_eq_true rfl) (k_i (fun z63 h63 y63 q63 => ?_))
      replace q63 := And.intro q63.1 (CPR_d q63.2)
      obtain ⟨f63, ⟨rfl, p63⟩ | ⟨rfl, p63⟩⟩ := q63
      · have N63 : LNF_ o h h63 := LNF_tr Ng59 (LNF_3 f63 (by simp))
        skip
        obtain ⟨b63, t63, H63⟩ := p63
        obtain ⟨be63, we63⟩ := tkws_o t63
        rw [ixn_6] at we63
        subst be63
        have hl_h63 : h63 3 1 = (o : Int) := by rw [f63.2.1 1 (by simp)]; exact hl_g59
        have fb56 := fcw_b (tk_ tp n (a + 1 + 1)) 15 4
        have kn : knd_ (tk_ tp n) (a + 1 + 1) = .ok z56 := by unfold knd_; rw [if_f (by omega), w56]
        clear fb56
        have fne : (tk_ tp n (a + 1 + 1)).1 ≠ 0 := fun u => by have := ixn_0 (t := tk_ tp n (a + 1 + 1)) (by rw [u]; decide) (wix_ 6) 0; rw [ixn_6] at this; exact we63 this
        have bn63 := tk_lt HB.1.1 fne
        clear fne we63
        have p63 := t63
        refine pw_if_eq (t := 88) (pc := 66) dX5_riderLine_66 (by decide) (by first | omega) (fun c66 => absurd c66 (by decide)) (fun _ => ?_)
        refine pw_aload_n (z := 3) (pc := 69) dX5_riderLine_69 rfl rfl ?_
        refine pw_ldcs 7 (pc := 70) dX5_riderLine_70 rfl ?_
        refine pw_callV (c := 5) (o := 3) (As := [rr_ G 3007]) (rest := []) (pc := 72) dX5_riderLine_72 (d_takeWord hC h63 tp n (a + 1 + 1 + 1) H63 7 (by decide) (by decide)) lX5_143 mX5_takeWord vX5_takeWord (hC 3 (by decide)) (show kd_ 3 = 15 by decide +kernel) rfl rfl rfl (by decide) ⟨Nat.zero_le _, Nat.zero_le _⟩ (Nat.le_of_ble_eq_true rfl) (k_i (fun z72 h72 y72 q72 => ?_))
        replace q72 := And.intro q72.1 (CPR_d q72.2)
        obtain ⟨f72, ⟨rfl, p72⟩ | ⟨rfl, p72⟩⟩ := q72
        · have N72 : LNF_ o h h72 := LNF_tr N63 (LNF_3 f72 (by simp))
          rw [tkws_1 (w := 4) (by decide +kernel)] at p72
          obtain ⟨b72, t72, H72⟩ := p72
          obtain ⟨be72, we72⟩ := tkw_o t72
          have bn72 := tk_lt HB.1.1 (show (tk_ tp n (a + 1 + 1 + 1)).1 ≠ 0 by rw [we72.1]; decide)
          subst be72
          have hl_h72 : h72 3 1 = (o : Int) := by rw [f72.2.1 1 (by simp)]; exact hl_h63
          have p72 := t72
          refine pw_if_eq (t := 88) (pc := 75) dX5_riderLine_75 (by decide) (by first | omega) (fun c75 => absurd c75 (by decide)) (fun _ => ?_)
          refine pw_aload_n (z := 3) (pc := 78) dX5_riderLine_78 rfl rfl ?_
          refine pw_iconst (pc := 79) dX5_riderLine_79 ?_
          refine pw_bipush (pc := 80) dX5_riderLine_80 rfl ?_
          refine pw_callV (c := 5) (o := 3) (As := [ii_ 1, ii_ 9]) (rest := []) (pc := 82) dX5_riderLine_82 (d_takeNum hC h72 tp n (a + 1 + 1 + 1 + 1) H72 1 (9) (by first | omega) (by first | omega)) lX5_147 mX5_takeNumber vX5_takeNumber (hC 3 (by decide)) (show kd_ 3 = 15 by decide +kernel) rfl rfl rfl (by decide) ⟨Nat.zero_le _, Nat.zero_le _⟩ (Nat.le_of_ble_eq_true rfl) (k_i (fun z82 h82 y82 q82 => ?_))
          replace q82 := (⟨q82.1, CPN_d q82.2⟩ : _ ∧ _)
          obtain ⟨f82, ⟨rfl, p82⟩ | ⟨rfl, p82⟩⟩ := q82
          · have N82 : LNF_ o h h82 := LNF_tr N72 (LNF_3 f82 (by simp))
            obtain ⟨⟨s82, b82⟩, t82, H82, n82⟩ := p82
            have H82 : CPO_ tp n h82 b82 := H82
            have n82 : h82 3 4 = s82 := n82
            obtain ⟨sb82, be82, te82⟩ := tkn_o t82
            have sb82 : 1 ≤ s82 ∧ s82 ≤ 9 := sb82
            have be82 : b82 = a + 1 + 1 + 1 + 1 + 1 := be82
            have hl_h82 : h82 3 1 = (o : Int) := by rw [f82.2.1 1 (by simp)]; exact hl_h72
            have bn82 := tk_lt HB.1.1 (show (tk_ tp n (a + 1 + 1 + 1 + 1)).1 ≠ 0 by rw [te82]; decide)
            have p82 := t82
            subst be82
            refine pw_if_ne (t := 90) (pc := 85) dX5_riderLine_85 (by decide) (by first | omega) (fun _ => ?_) (fun c85 => absurd c85 (by decide))
            refine pw_aload_n (z := 3) (pc := 90) dX5_riderLine_90 rfl rfl ?_
            refine pw_gD (x := 1) (r := o) (pc := 91) dX5_riderLine_91 fX5_94 (hC 3 (by decide)) (show kd_ 3 = 15 by decide +kernel) rfl rfl hl_h82 ?_
            refine pw_getR (r := (o + 4)) (pc := 94) dX5_riderLine_94 fX5_175 (hC _ (by omega)) (kd6_0 ho) rfl rfl ?_
            refine pw_iload_n (z := h o 2) (pc := 97) dX5_riderLine_97 rfl rfl ?_
            refine pw_aload_n (z := 3) (pc := 98) dX5_riderLine_98 rfl rfl ?_
            refine pw_gI (x := 4) (pc := 99) dX5_riderLine_99 fX5_118 (hC 3 (by decide)) (show kd_ 3 = 15 by decide +kernel) rfl rfl (fun r99 => ?_)
            rw [n82]
            refine pw_iast (pc := 102) dX5_riderLine_102 (hC _ (by omega)) (kd6_4 ho) 4 (ln6_4 ho) (by first | omega) (by first | omega) (by first | omega) (by first | omega) ?_
            obtain ⟨g102, e102⟩ : ∃ x, x = up_ h82 (o + 4) (h o 2) s82 := ⟨_, rfl⟩
            refine pw_heq e102 ?_
            have hl_g102 : g102 3 1 = (o : Int) := by rw [e102, up_off ((nef_ ho).2.2.1 4)]; exact hl_h82
            have Hg102 : CPO_ tp n g102 (a + 1 + 1 + 1 + 1 + 1) := CPO_mv H82 (by rw [e102, up_off ((nef_ ho).1 4)]) (by rw [e102, up_off ((nef_ ho).2.1 4)]) (by rw [e102, up_off ((nef_ ho).2.2.1 4)])
            have Ng102 : LNF_ o h g102 := LNF_tr N82 (by rw [e102]; exact LNF_u (by simp [RLC_]) ((nef_ ho).2.2.2.1 4) ((nef_ ho).2.2.2.2.1 4))
            refine pw_aload_n (z := 3) (pc := 103) dX5_riderLine_103 rfl rfl ?_
            refine pw_ldcs 8 (pc := 104) dX5_riderLine_104 rfl ?_
            refine pw_callV (c := 5) (o := 3) (As := [rr_ G 3008]) (rest := []) (pc := 106) dX5_riderLine_106 (d_takeWord hC g102 tp n (a + 1 + 1 + 1 + 1 + 1) Hg102 8 (by decide) (by decide)) lX5_143 mX5_takeWord vX5_takeWord (hC 3 (by decide)) (show kd_ 3 = 15 by decide +kernel) rfl rfl rfl (by decide) ⟨Nat.zero_le _, Nat.zero_le _⟩ (Nat.le_of_ble_eq_true rfl) (k_i (fun z106 h106 y106 q106 => ?_))
            replace q106 := And.intro q106.1 (CPR_d q106.2)
            obtain ⟨f106, ⟨rfl, p106⟩ | ⟨rfl, p106⟩⟩ := q106
            · have N106 : LNF_ o h h106 := LNF_tr Ng102 (LNF_3 f106 (by simp))
              rw [tkws_1 (w := 5) (by decide +kernel)] at p106
              obtain ⟨b106, t106, H106⟩ := p106
              obtain ⟨be106, we106⟩ := tkw_o t106
              have bn106 := tk_lt HB.1.1 (show (tk_ tp n (a + 1 + 1 + 1 + 1 + 1)).1 ≠ 0 by rw [we106.1]; decide)
              subst be106
              have hl_h106 : h106 3 1 = (o : Int) := by rw [f106.2.1 1 (by simp)]; exact hl_g102
              have p106 := t106
              refine pw_if_eq (t := 123) (pc := 109) dX5_riderLine_109 (by decide) (by first | omega) (fun c109 => absurd c109 (by decide)) (fun _ => ?_)
              refine pw_aload_n (z := 3) (pc := 112) dX5_riderLine_112 rfl rfl ?_
              refine pw_iconst (pc := 113) dX5_riderLine_113 ?_
              refine pw_sipush (pc := 114) dX5_riderLine_114 rfl ?_
              refine pw_callV (c := 5) (o := 3) (As := [ii_ 0, ii_ 9999]) (rest := []) (pc := 117) dX5_riderLine_117 (d_takeNum hC h106 tp n (a + 1 + 1 + 1 + 1 + 1 + 1) H106 0 (9999) (by first | omega) (by first | omega)) lX5_147 mX5_takeNumber vX5_takeNumber (hC 3 (by decide)) (show kd_ 3 = 15 by decide +kernel) rfl rfl rfl (by decide) ⟨Nat.zero_le _, Nat.zero_le _⟩ (Nat.le_of_ble_eq_true rfl) (k_i (fun z117 h117 y117 q117 => ?_))
              replace q117 := (⟨q117.1, CPN_d q117.2⟩ : _ ∧ _)
              obtain ⟨f117, ⟨rfl, p117⟩ | ⟨rfl, p117⟩⟩ := q117
              · have N117 : LNF_ o h h117 := LNF_tr N106 (LNF_3 f117 (by simp))
                obtain ⟨⟨s117, b117⟩, t117, H117, n117⟩ := p117
                have H117 : CPO_ tp n h117 b117 := H117
                have n117 : h117 3 4 = s117 := n117
                obtain ⟨sb117, be117, te117⟩ := tkn_o t117
                have sb117 : 0 ≤ s117 ∧ s117 ≤ 9999 := sb117
                have be117 : b117 = a + 1 + 1 + 1 + 1 + 1 + 1 + 1 := be117
                have hl_h117 : h117 3 1 = (o : Int) := by rw [f117.2.1 1 (by simp)]; exact hl_h106
                have bn117 := tk_lt HB.1.1 (show (tk_ tp n (a + 1 + 1 + 1 + 1 + 1 + 1)).1 ≠ 0 by rw [te117]; decide)
                have p117 := t117
                subst be117
                refine pw_if_ne (t := 125) (pc := 120) dX5_riderLine_120 (by decide) (by first | omega) (fun _ => ?_) (fun c120 => absurd c120 (by decide))
                refine pw_aload_n (z := 3) (pc := 125) dX5_riderLine_125 rfl rfl ?_
                have c29 : ∀ i, i ≠ 1 → h29 i = h i := fun i hi => f29 i (by simpa using hi)
                have c34 : ∀ i, i ≠ 1 → i ≠ 3 → i ≠ o + 2 → h34 i = h i := fun i i1 i3 i2 => by rw [f34.1 i (by simp; exact ⟨i1, i3, i2⟩), c29 i i1]
                have cr : ∀ {x y : PH_} {ks : List Int} (i : Nat), fr3_ ks x y → i ≠ 1 → i ≠ 3 → y i = x i := fun i f i1 i3 => f.1 i (by simp; exact ⟨i1, i3⟩)
                have R117 : h117 o 2 = h o 2 := by rw [cr o f117 (nef_ ho).2.2.2.2.2.1.symm (nef_ ho).2.2.2.2.2.2.2.symm, cr o f106 (nef_ ho).2.2.2.2.2.1.symm (nef_ ho).2.2.2.2.2.2.2.symm, e102, up_off (by simp), cr o f82 (nef_ ho).2.2.2.2.2.1.symm (nef_ ho).2.2.2.2.2.2.2.symm, cr o f72 (nef_ ho).2.2.2.2.2.1.symm (nef_ ho).2.2.2.2.2.2.2.symm, cr o f63 (nef_ ho).2.2.2.2.2.1.symm (nef_ ho).2.2.2.2.2.2.2.symm, e59, up_off (by simp), c34 o (nef_ ho).2.2.2.2.2.1.symm (nef_ ho).2.2.2.2.2.2.2.symm (by simp)]
                
                refine pw_gD (x := 1) (r := o) (pc := 126) dX5_riderLine_126 fX5_94 (hC 3 (by decide)) (show kd_ 3 = 15 by decide +kernel) rfl rfl hl_h117 ?_
                refine pw_getR (r := (o + 5)) (pc := 129) dX5_riderLine_129 fX5_180 (hC _ (by omega)) (kd6_0 ho) rfl rfl ?_
                refine pw_iload_n (z := h o 2) (pc := 132) dX5_riderLine_132 rfl rfl ?_
                refine pw_aload_n (z := 3) (pc := 133) dX5_riderLine_133 rfl rfl ?_
                refine pw_gI (x := 4) (pc := 134) dX5_riderLine_134 fX5_118 (hC 3 (by decide)) (show kd_ 3 = 15 by decide +kernel) rfl rfl (fun r134 => ?_)
                rw [n117]
                refine pw_iast (pc := 137) dX5_riderLine_137 (hC _ (by omega)) (kd6_5 ho) 4 (ln6_5 ho) (by first | omega) (by first | omega) (by first | omega) (by first | omega) ?_
                obtain ⟨g137, e137⟩ : ∃ x, x = up_ h117 (o + 5) (h o 2) s117 := ⟨_, rfl⟩
                refine pw_heq e137 ?_
                have hl_g137 : g137 3 1 = (o : Int) := by rw [e137, up_off ((nef_ ho).2.2.1 5)]; exact hl_h117
                have Hg137 : CPO_ tp n g137 (a + 1 + 1 + 1 + 1 + 1 + 1 + 1) := CPO_mv H117 (by rw [e137, up_off ((nef_ ho).1 5)]) (by rw [e137, up_off ((nef_ ho).2.1 5)]) (by rw [e137, up_off ((nef_ ho).2.2.1 5)])
                have Ng137 : LNF_ o h g137 := LNF_tr N117 (by rw [e137]; exact LNF_u (by simp [RLC_]) ((nef_ ho).2.2.2.1 5) ((nef_ ho).2.2.2.2.1 5))
                refine pw_aload_n (z := 3) (pc := 138) dX5_riderLine_138 rfl rfl ?_
                have n_g137_3_1 : g137 3 1 = h117 3 1 := (by rw [e137, up_off (by first | decide | omega)])
                refine pw_gD (x := 1) (r := o) (pc := 139) dX5_riderLine_139 fX5_94 (hC 3 (by decide)) (show kd_ 3 = 15 by decide +kernel) rfl rfl (n_g137_3_1.trans hl_h117) ?_
                refine pw_dup (pc := 142) dX5_riderLine_142 rfl ?_
                refine pw_gI (x := 2) (pc := 143) dX5_riderLine_143 fX5_87 (hC _ (by omega)) (kd6_0 ho) rfl rfl (fun r143 => ?_)
                have n_g137_o_2 : g137 o 2 = h117 o 2 := (by rw [e137, up_off (by first | decide | omega)])
                rw [n_g137_o_2] at r143 ⊢
                refine pw_iconst (pc := 146) dX5_riderLine_146 ?_
                refine pw_iadd (pc := 147) dX5_riderLine_147 ?_
                refine pw_pI (x := 2) (pc := 148) dX5_riderLine_148 fX5_87 (hC _ (by omega)) (kd6_0 ho) rfl rfl (by first | omega | (simp only [n_g137_3_1, n_g137_o_2]; omega)) ?_
                obtain ⟨g148, e148⟩ : ∃ x, x = up_ g137 o 2 ((h117 o 2) + 1) := ⟨_, rfl⟩
                refine pw_heq e148 ?_
                have hl_g148 : g148 3 1 = (o : Int) := by rw [e148, up_off (nef_ ho).2.2.2.2.2.2.2]; exact hl_g137
                have Hg148 : CPO_ tp n g148 (a + 1 + 1 + 1 + 1 + 1 + 1 + 1) := CPO_mv Hg137 (by rw [e148, up_off (nef_ ho).2.2.2.2.2.1]) (by rw [e148, up_off (nef_ ho).2.2.2.2.2.2.1]) (by rw [e148, up_off (nef_ ho).2.2.2.2.2.2.2])
                have Ng148 : LNF_ o h g148 := LNF_tr Ng137 (by rw [e148]; exact LNF_u (by simp [RLC_]) ((nef_ ho).2.2.2.2.2.1).symm ((nef_ ho).2.2.2.2.2.2.2).symm)
                refine pw_aload_n (z := 3) (pc := 151) dX5_riderLine_151 rfl rfl ?_
                refine pw_bipush (pc := 152) dX5_riderLine_152 rfl ?_
                refine pw_callV (c := 5) (o := 3) (As := [ii_ 59]) (rest := []) (pc := 154) dX5_riderLine_154 (d_takeSign hC g148 tp n (a + 1 + 1 + 1 + 1 + 1 + 1 + 1) Hg148 59 (by first | omega | (simp only [n_g137_3_1, n_g137_o_2]; omega))) lX5_154 mX5_takeSign vX5_takeSign (hC 3 (by decide)) (show kd_ 3 = 15 by decide +kernel) rfl rfl rfl (by decide) ⟨Nat.zero_le _, Nat.zero_le _⟩ (Nat.le_of_ble_eq_true rfl) (k_i (fun z154 h154 y154 q154 => ?_))
                replace q154 := And.intro q154.1 (CPR_w q154.2)
                obtain ⟨f154, x154⟩ := q154
                have z01 : z154 = 0 ∨ z154 = 1 := by rcases x154 with x | x <;> omega
                exact pw_zret (pc := 157) dX5_riderLine_157 (by first | omega | (simp only [n_g137_3_1, n_g137_o_2]; omega)) (by
                          skip
                          have XL := (show rln_ (tk_ tp n) Z a = .ok ((ob_ (ob_ (ob_ (ob_ Z.1 (31 + 4 * Z.1 2) z56) (31 + 4 * Z.1 2 + 1) s82) (31 + 4 * Z.1 2 + 2) s117) 2 (Z.1 2 + 1), nm, Z.2.2), a + 7) by unfold rln_; rw [if_f (by omega), bd_o t34]; show bd_ (knd_ _ (a + 1 + 1)) _ = _; rw [bd_o kn]; exact (bd_o ((bd_o t72).trans t82)).trans (bd_o ((bd_o t106).trans t117)))
                          have CL := (show CZ_ (ob_ (ob_ (ob_ (ob_ Z.1 (31 + 4 * Z.1 2) z56) (31 + 4 * Z.1 2 + 1) s82) (31 + 4 * Z.1 2 + 2) s117) 2 (Z.1 2 + 1), nm, Z.2.2) g148 o (a + 7) from by
                            refine CZ_rider ho hZ (w := (tk_ tp n (a + 1)).2.2.2) ?_ ?_ ?_ ?_ ?_ ?_ nm1 lk34 nm3 (by omega) (rln_z HB.2.2.2.1 zk XL).1 (by omega)
                            · exact off_tr (off_tr (off_tr (off_tr (off_tr (off_tr (off_tr (off_tr (off_mo f29 (by simp)) (off_mo f34.1 (by simp))) (by rw [e59]; exact off_up off_rf (by simp) : off_ _ h34 g59)) (off_mo f63.1 (by simp))) (off_mo f72.1 (by simp))) (off_mo f82.1 (by simp))) (by rw [e102]; exact off_up off_rf (by simp) : off_ _ h82 g102)) (off_tr (off_mo f106.1 (by simp)) (off_mo f117.1 (by simp)))) (by rw [e148, e137]; exact off_up (off_up off_rf (by simp)) (by simp))
                            · rw [e148, up_ob, R117, e137, up_off (by simp), cr o f117 (nef_ ho).2.2.2.2.2.1.symm (nef_ ho).2.2.2.2.2.2.2.symm, cr o f106 (nef_ ho).2.2.2.2.2.1.symm (nef_ ho).2.2.2.2.2.2.2.symm, e102, up_off (by simp), cr o f82 (nef_ ho).2.2.2.2.2.1.symm (nef_ ho).2.2.2.2.2.2.2.symm, cr o f72 (nef_ ho).2.2.2.2.2.1.symm (nef_ ho).2.2.2.2.2.2.2.symm, cr o f63 (nef_ ho).2.2.2.2.2.1.symm (nef_ ho).2.2.2.2.2.2.2.symm, e59, up_off (by simp), c34 o (nef_ ho).2.2.2.2.2.1.symm (nef_ ho).2.2.2.2.2.2.2.symm (by simp), HA.2.2.1]
                            · rw [e148, up_off (by simp), e137, up_off (by simp), cr (o + 2) f117 ((nef_ ho).2.2.2.1 2) ((nef_ ho).2.2.2.2.1 2), cr (o + 2) f106 ((nef_ ho).2.2.2.1 2) ((nef_ ho).2.2.2.2.1 2), e102, up_off (by simp), cr (o + 2) f82 ((nef_ ho).2.2.2.1 2) ((nef_ ho).2.2.2.2.1 2), cr (o + 2) f72 ((nef_ ho).2.2.2.1 2) ((nef_ ho).2.2.2.2.1 2), cr (o + 2) f63 ((nef_ ho).2.2.2.1 2) ((nef_ ho).2.2.2.2.1 2), e59, up_off (by simp), m34, c29 (o + 2) ((nef_ ho).2.2.2.1 2), HA.2.2.1]
                            · rw [e148, up_off (by simp), e137, up_off (by simp), cr (o + 3) f117 ((nef_ ho).2.2.2.1 3) ((nef_ ho).2.2.2.2.1 3), cr (o + 3) f106 ((nef_ ho).2.2.2.1 3) ((nef_ ho).2.2.2.2.1 3), e102, up_off (by simp), cr (o + 3) f82 ((nef_ ho).2.2.2.1 3) ((nef_ ho).2.2.2.2.1 3), cr (o + 3) f72 ((nef_ ho).2.2.2.1 3) ((nef_ ho).2.2.2.2.1 3), cr (o + 3) f63 ((nef_ ho).2.2.2.1 3) ((nef_ ho).2.2.2.2.1 3), e59, up_ob, c34 (o + 3) ((nef_ ho).2.2.2.1 3) ((nef_ ho).2.2.2.2.1 3) (by simp), HA.2.2.1]
                            · rw [e148, up_off (by simp), e137, up_off (by simp), cr (o + 4) f117 ((nef_ ho).2.2.2.1 4) ((nef_ ho).2.2.2.2.1 4), cr (o + 4) f106 ((nef_ ho).2.2.2.1 4) ((nef_ ho).2.2.2.2.1 4), e102, up_ob, cr (o + 4) f82 ((nef_ ho).2.2.2.1 4) ((nef_ ho).2.2.2.2.1 4), cr (o + 4) f72 ((nef_ ho).2.2.2.1 4) ((nef_ ho).2.2.2.2.1 4), cr (o + 4) f63 ((nef_ ho).2.2.2.1 4) ((nef_ ho).2.2.2.2.1 4), e59, up_off (by simp), c34 (o + 4) ((nef_ ho).2.2.2.1 4) ((nef_ ho).2.2.2.2.1 4) (by simp), HA.2.2.1]
                            · rw [e148, up_off (by simp), e137, up_ob, cr (o + 5) f117 ((nef_ ho).2.2.2.1 5) ((nef_ ho).2.2.2.2.1 5), cr (o + 5) f106 ((nef_ ho).2.2.2.1 5) ((nef_ ho).2.2.2.2.1 5), e102, up_off (by simp), cr (o + 5) f82 ((nef_ ho).2.2.2.1 5) ((nef_ ho).2.2.2.2.1 5), cr (o + 5) f72 ((nef_ ho).2.2.2.1 5) ((nef_ ho).2.2.2.2.1 5), cr (o + 5) f63 ((nef_ ho).2.2.2.1 5) ((nef_ ho).2.2.2.2.1 5), e59, up_off (by simp), c34 (o + 5) ((nef_ ho).2.2.2.1 5) ((nef_ ho).2.2.2.2.1 5) (by simp), HA.2.2.1])
                          refine ⟨LNF_tr Ng148 (LNF_3 f154 (by simp)), ?_⟩
                          rcases x154 with ⟨rfl, b, b1, b2⟩ | ⟨rfl, e, x1, x2⟩
                          · obtain ⟨rfl, s⟩ := tks2_o b1
                            have bn := tk_lt HB.1.1 (show (tk_ tp n (a + 7)).1 ≠ 0 from fun u => absurd (s.1.symm.trans u) (by decide))
                            exact Or.inl ⟨rfl, _, XL, s, b2, by show ((a + 7 : Nat) : Int) + 1 ≤ n; omega, CZ_f ho CL f154.1 (by show a + 7 ≤ a + 7 + 1; omega)⟩
                          · exact Or.inr ⟨rfl, e, Or.inr ⟨_, XL, x1⟩, x2⟩)
              · have N117 : LNF_ o h h117 := LNF_tr N106 (LNF_3 f117 (by simp))
                refine pw_if_ne (t := 125) (pc := 120) dX5_riderLine_120 (by decide) (by first | omega) (fun c120 => absurd c120 (by decide)) (fun _ => ?_)
                refine pw_iconst (pc := 123) dX5_riderLine_123 ?_
                exact pw_zret (pc := 124) dX5_riderLine_124 (by first | omega) (⟨N117, Or.inr ⟨rfl, by obtain ⟨e, x1, x2⟩ := p117; exact ⟨e, Or.inl (by unfold rln_; rw [if_f (by omega), bd_o t34]; show bd_ (knd_ _ (a + 1 + 1)) _ = _; rw [bd_o kn]; exact (bd_o ((bd_o t72).trans t82)).trans (bd_e ((bd_o t106).trans x1))), x2⟩⟩⟩)
            · have N106 : LNF_ o h h106 := LNF_tr Ng102 (LNF_3 f106 (by simp))
              rw [tkws_1 (w := 5) (by decide +kernel)] at p106
              refine pw_if_eq (t := 123) (pc := 109) dX5_riderLine_109 (by decide) (by first | omega) (fun _ => ?_) (fun c109 => absurd c109 (by decide))
              refine pw_iconst (pc := 123) dX5_riderLine_123 ?_
              exact pw_zret (pc := 124) dX5_riderLine_124 (by first | omega) (⟨N106, Or.inr ⟨rfl, by obtain ⟨e, x1, x2⟩ := p106; exact ⟨e, Or.inl (by unfold rln_; rw [if_f (by omega), bd_o t34]; show bd_ (knd_ _ (a + 1 + 1)) _ = _; rw [bd_o kn]; exact (bd_o ((bd_o t72).trans t82)).trans (bd_e (bd_e x1))), x2⟩⟩⟩)
          · have N82 : LNF_ o h h82 := LNF_tr N72 (LNF_3 f82 (by simp))
            refine pw_if_ne (t := 90) (pc := 85) dX5_riderLine_85 (by decide) (by first | omega) (fun c85 => absurd c85 (by decide)) (fun _ => ?_)
            refine pw_iconst (pc := 88) dX5_riderLine_88 ?_
            exact pw_zret (pc := 89) dX5_riderLine_89 (by first | omega) (⟨N82, Or.inr ⟨rfl, by obtain ⟨e, x1, x2⟩ := p82; exact ⟨e, Or.inl (by unfold rln_; rw [if_f (by omega), bd_o t34]; show bd_ (knd_ _ (a + 1 + 1)) _ = _; rw [bd_o kn]; exact bd_e ((bd_o t72).trans x1)), x2⟩⟩⟩)
        · have N72 : LNF_ o h h72 := LNF_tr N63 (LNF_3 f72 (by simp))
          rw [tkws_1 (w := 4) (by decide +kernel)] at p72
          refine pw_if_eq (t := 88) (pc := 75) dX5_riderLine_75 (by decide) (by first | omega) (fun _ => ?_) (fun c75 => absurd c75 (by decide))
          refine pw_iconst (pc := 88) dX5_riderLine_88 ?_
          exact pw_zret (pc := 89) dX5_riderLine_89 (by first | omega) (⟨N72, Or.inr ⟨rfl, by obtain ⟨e, x1, x2⟩ := p72; exact ⟨e, Or.inl (by unfold rln_; rw [if_f (by omega), bd_o t34]; show bd_ (knd_ _ (a + 1 + 1)) _ = _; rw [bd_o kn]; exact bd_e (bd_e x1)), x2⟩⟩⟩)
      · have N63 : LNF_ o h h63 := LNF_tr Ng59 (LNF_3 f63 (by simp))
        skip
        refine pw_if_eq (t := 88) (pc := 66) dX5_riderLine_66 (by decide) (by first | omega) (fun _ => ?_) (fun c66 => absurd c66 (by decide))
        refine pw_iconst (pc := 88) dX5_riderLine_88 ?_
        exact pw_zret (pc := 89) dX5_riderLine_89 (by first | omega) (⟨N63, Or.inr ⟨rfl, by obtain ⟨e, x1, x2⟩ := p63; exact ⟨e, Or.inl (by obtain ⟨y1, y2⟩ := tkws_e x1; rw [ixn_6] at y1; have fb56 := fcw_b (tk_ tp n (a + 1 + 1)) 15 4; unfold rln_; rw [if_f (by omega), bd_o t34]; show bd_ (knd_ _ (a + 1 + 1)) _ = _; exact bd_e (by unfold knd_; rw [if_t (by omega), y2])), x2⟩⟩⟩)
    · have N34 : LNF_ o h h34 := LNF_tr N29 ⟨off_mo f34.1 (by simp [RLC_]), fun k _ k3 _ _ => f34.2.1 k k3, f34.2.2⟩
      refine pw_if_ne (t := 42) (pc := 37) dX5_riderLine_37 (by decide) (by first | omega) (fun c37 => absurd c37 (by decide)) (fun _ => ?_)
      refine pw_iconst (pc := 40) dX5_riderLine_40 ?_
      exact pw_zret (pc := 41) dX5_riderLine_41 (by first | omega) (⟨N34, Or.inr ⟨rfl, by obtain ⟨e, x1, x2⟩ := p34; exact ⟨e, Or.inl (by unfold rln_; rw [if_f (by omega)]; exact bd_e x1), x2⟩⟩⟩)
  · refine pw_aload_n (z := 3) (pc := 19) dX5_riderLine_19 rfl rfl ?_
    refine pw_iconst (pc := 20) dX5_riderLine_20 ?_
    refine pw_callV (c := 5) (o := 3) (As := [ii_ 5]) (rest := []) (pc := 21) dX5_riderLine_21 (d_wrong hC h tp n a H 5 (by first | omega)) lX5_70 mX5_wrong vX5_wrong (hC 3 (by decide)) (show kd_ 3 = 15 by decide +kernel) rfl rfl rfl (by decide) ⟨Nat.zero_le _, Nat.zero_le _⟩ (Nat.le_of_ble_eq_true rfl) (k_i (fun z21 h21 y21 q21 => ?_))
    obtain ⟨f21, x21, rfl⟩ := q21
    have fp21 := flt_p (tp := tp) (a := a) HB.1 (w := 5) (by omega)
    exact pw_zret (pc := 24) dX5_riderLine_24 (by first | omega) (⟨LNF_3 f21 (by simp), Or.inr ⟨rfl, _, Or.inl (by unfold rln_; exact if_t (by omega)), x21, fp21.1⟩⟩)

