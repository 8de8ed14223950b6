set_option maxHeartbeats 4000000 in
set_option maxRecDepth 100000 in
theorem d_prepare {G : GT_} (hC : okC_ G) (h : PH_) (o : Nat) (ho : is6_ o) (ro : Int → Int) (H : CRD_ ro h o) (P : List (Int × Int)) (hl : CLP_ ro P h o) (hm : CWM_ ro P h o) (hJ : CJP_ ro h o) (hr : h 151 1 = 0 ∨ h 151 1 = 1 ∧ CJG_ ro P h ∧ CJL_ ro P h 0) : PC G yX1_prepare cX1_prepare 3 none 6 [rr_ G 151] h (qv_ (fun h' => off_ [151, 152, 153, 154, o + 10, o + 11, o + 15] h h' ∧ CWM_ ro P h' o ∧ (∀ k, k ≠ 1 → h' 151 k = h 151 k) ∧ h' 151 1 = 1 ∧ CJG_ ro P h' ∧ CJL_ ro P h' 0)) := by
  have HB := H.2.1
  have HA := H.1
  have l24 := lpn_24 (ro := ro) (by omega) (by omega)
  have hl_h := hJ.1
  have hN := hJ.2.1
  refine PC.of (lv := [some (rr_ G 151), none, none]) (by decide +kernel) (Nat.le_of_ble_eq_true rfl) rfl rfl ?_
  refine pw_aload_n (z := 151) (pc := 0) dX1_prepare_0 rfl rfl ?_
  refine pw_gI (x := 1) (pc := 1) dX1_prepare_1 fX1_43 (hC 151 (by decide)) (show kd_ 151 = 11 by decide +kernel) rfl rfl (fun r1 => ?_)
  refine pw_if_eq (t := 8) (pc := 4) dX1_prepare_4 (by decide) (by first | omega) (fun c4 => ?_) (fun c4 => ?_)
  · refine pw_aload_n (z := 151) (pc := 8) dX1_prepare_8 rfl rfl ?_
    refine pw_iconst (pc := 9) dX1_prepare_9 ?_
    refine pw_pZ (x := 1) (pc := 10) dX1_prepare_10 fX1_43 (hC 151 (by decide)) (show kd_ 151 = 11 by decide +kernel) rfl rfl (by first | omega) ?_
    obtain ⟨g10, e10⟩ : ∃ x, x = up_ h 151 1 1 := ⟨_, rfl⟩
    refine pw_heq e10 ?_
    have hl_g10 : g10 151 0 = (o : Int) := by rw [e10, up_at, if_neg (by decide)]; exact hJ.1
    refine pw_iconst (pc := 13) dX1_prepare_13 ?_
    refine pw_istore_n (lv1 := [some (rr_ G 151), some (ii_ 0), none]) (pc := 14) dX1_prepare_14 rfl (by decide) rfl rfl ?_
    have L15 : ∀ (nn : Nat) (i : Int) (b1 : PH_), (0 ≤ i ∧ i ≤ (lpn_ ro 256).length) → (off_ [151, 152, 153, 154, o + 10, o + 11, o + 15] h b1) → (b1 151 0 = (o : Int)) → (∀ k, k ≠ 1 → b1 151 k = h 151 k) → (b1 151 1 = 1) → (CWM_ ro P b1 o) → (∀ t i2 r : Int, 0 ≤ t → t < ro 1 → 0 ≤ i2 → i2 < i → 0 ≤ r → r < ro 2 → b1 153 ((t * 24 + i2) * 4 + r) = pW_ ro P i2 r t) → ((((lpn_ ro 256).length : Int) - i + 1 : Int) ≤ nn) → PW G RX1 cX1_prepare 3 none (rm_ 6) 0 0 (zm_ G (qv_ (fun h' => off_ [151, 152, 153, 154, o + 10, o + 11, o + 15] h h' ∧ CWM_ ro P h' o ∧ (∀ k, k ≠ 1 → h' 151 k = h 151 k) ∧ h' 151 1 = 1 ∧ CJG_ ro P h' ∧ CJL_ ro P h' 0))) 15 [some (rr_ G 151), some (ii_ i), none] [] b1 := by
      intro nn
      induction nn with
      | zero => intro i b1 bk bf bl bx b_1 bm bg ams; exfalso; omega
      | succ nn ih15 =>
        intro i b1 bk bf bl bx b_1 bm bg ams
        have Hb : CRD_ ro b1 o := CRD_cg H (fun k _ => congrFun (bf _ (by simp; omega)) k) (bf _ (by simp; omega)) (bf _ (by simp; omega)) (bf _ (by simp; omega)) (bf _ (by simp; omega)) (bf _ (by simp; omega)) (bf _ (by simp; omega))
        have lb : CLP_ ro P b1 o := CLP_cg hl (bf _ (by simp; omega)) (bf _ (by simp; omega)) (bf _ (by simp; omega)) (bf _ (by simp; omega))
        have Jb : CJP_ ro b1 o := by
          refine ⟨bl, ?_⟩
          have := hJ.2
          unfold CPL_ at *
          rw [bf o (by simp; omega), bf (o + 14) (by simp; omega)]; exact this
        have hl_b1 := Jb.1
        
        refine pw_iload_n (z := i) (pc := 15) dX1_prepare_15 rfl rfl ?_
        refine pw_aload_n (z := 151) (pc := 16) dX1_prepare_16 rfl rfl ?_
        refine pw_gD (x := 0) (r := o) (pc := 17) dX1_prepare_17 fX1_39 (hC 151 (by decide)) (show kd_ 151 = 11 by decide +kernel) rfl rfl hl_b1 ?_
        refine pw_gI (x := 7) (pc := 20) dX1_prepare_20 fX1_109 (hC _ (by omega)) (kd6_0 ho) rfl rfl (fun r20 => ?_)
        have n_b1_o_7 : b1 o 7 = h o 7 := (congrFun (bf o (by first | decide | (simp; done) | (simp; omega))) 7)
        rw [n_b1_o_7] at r20 ⊢
        refine pw_icmp_ge (t := 60) (pc := 23) dX1_prepare_23 (by decide) (by first | omega | (simp only [n_b1_o_7]; omega)) (by first | omega | (simp only [n_b1_o_7]; omega)) (fun c23 => ?_) (fun c23 => ?_)
        · refine pw_aload_n (z := 151) (pc := 60) dX1_prepare_60 rfl rfl ?_
          refine pw_gD (x := 0) (r := o) (pc := 61) dX1_prepare_61 fX1_39 (hC 151 (by decide)) (show kd_ 151 = 11 by decide +kernel) rfl rfl hl_b1 ?_
          refine pw_gI (x := 1) (pc := 64) dX1_prepare_64 fX1_78 (hC _ (by omega)) (kd6_0 ho) rfl rfl (fun r64 => ?_)
          have n_b1_o_1 : b1 o 1 = h o 1 := (congrFun (bf o (by first | decide | (simp; done) | (simp; omega))) 1)
          rw [n_b1_o_1] at r64 ⊢
          refine pw_iconst (pc := 67) dX1_prepare_67 ?_
          refine pw_isub (pc := 68) dX1_prepare_68 ?_
          refine pw_istore_n (lv1 := [some (rr_ G 151), some (ii_ ((h o 1) - 1)), none]) (pc := 69) dX1_prepare_69 rfl (by decide) rfl rfl ?_
          have L70 : ∀ (nn : Nat) (t : Int) (d1 : PH_), (-1 ≤ t ∧ t ≤ ro 1 - 1) → (off_ [151, 152, 153, 154, o + 10, o + 11, o + 15] h d1) → (d1 151 0 = (o : Int)) → (∀ k, k ≠ 1 → d1 151 k = h 151 k) → (d1 151 1 = 1) → (CWM_ ro P d1 o) → (CJG_ ro P d1) → (CJL_ ro P d1 (t + 1)) → ((t + 2 : Int) ≤ nn) → PW G RX1 cX1_prepare 3 none (rm_ 6) 0 0 (zm_ G (qv_ (fun h' => off_ [151, 152, 153, 154, o + 10, o + 11, o + 15] h h' ∧ CWM_ ro P h' o ∧ (∀ k, k ≠ 1 → h' 151 k = h 151 k) ∧ h' 151 1 = 1 ∧ CJG_ ro P h' ∧ CJL_ ro P h' 0))) 70 [some (rr_ G 151), some (ii_ t), none] [] d1 := by
            intro nn
            induction nn with
            | zero => intro t d1 dk df dl dx d_1 dm dg dd ams; exfalso; omega
            | succ nn ih70 =>
              intro t d1 dk df dl dx d_1 dm dg dd ams
              have Hd : CRD_ ro d1 o := CRD_cg H (fun k _ => congrFun (df _ (by simp; omega)) k) (df _ (by simp; omega)) (df _ (by simp; omega)) (df _ (by simp; omega)) (df _ (by simp; omega)) (df _ (by simp; omega)) (df _ (by simp; omega))
              have ld : CLP_ ro P d1 o := CLP_cg hl (df _ (by simp; omega)) (df _ (by simp; omega)) (df _ (by simp; omega)) (df _ (by simp; omega))
              have Jd : CJP_ ro d1 o := by
                refine ⟨dl, ?_⟩
                have := hJ.2
                unfold CPL_ at *
                rw [df o (by simp; omega), df (o + 14) (by simp; omega)]; exact this
              have hl_d1 := Jd.1
              
              refine pw_iload_n (z := t) (pc := 70) dX1_prepare_70 rfl rfl ?_
              refine pw_if_lt (t := 105) (pc := 71) dX1_prepare_71 (by decide) (by first | omega | (simp only [n_b1_o_1, n_b1_o_7]; omega)) (fun c71 => ?_) (fun c71 => ?_)
              · exact pw_vret (pc := 105) dX1_prepare_105 (⟨df, dm, dx, d_1, dg, by rw [show (0 : Int) = t + 1 by omega]; exact dd⟩)
              · refine pw_iconst (pc := 74) dX1_prepare_74 ?_
                refine pw_istore_n (lv1 := [some (rr_ G 151), some (ii_ t), some (ii_ 0)]) (pc := 75) dX1_prepare_75 rfl (by decide) rfl rfl ?_
                have L76 : ∀ (nn : Nat) (i : Int) (e1 : PH_), (0 ≤ i ∧ i ≤ (lpn_ ro 256).length) → (off_ [151, 152, 153, 154, o + 10, o + 11, o + 15] h e1) → (e1 151 0 = (o : Int)) → (∀ k, k ≠ 1 → e1 151 k = h 151 k) → (e1 151 1 = 1) → (CWM_ ro P e1 o) → (CJG_ ro P e1) → (∀ t1 i1 a1 c1 : Int, 0 ≤ i1 → i1 < (lpn_ ro 256).length → t1 < ro 1 → (0 ≤ a1 ∧ a1 < ro 2 ∨ a1 = 4) → 0 ≤ c1 → c1 < ro 2 → a1 ≠ c1 → (t < t1 ∨ t1 = t ∧ i1 < i) → 0 ≤ t1 → e1 154 (((a1 * 4 + c1) * 4 + t1) * 24 + i1) = leh_ ro P a1 c1 (ro 1 - 1 - t1).toNat i1) → ((((lpn_ ro 256).length : Int) - i + 1 : Int) ≤ nn) → PW G RX1 cX1_prepare 3 none (rm_ 6) 0 0 (zm_ G (qv_ (fun h' => off_ [151, 152, 153, 154, o + 10, o + 11, o + 15] h h' ∧ CWM_ ro P h' o ∧ (∀ k, k ≠ 1 → h' 151 k = h 151 k) ∧ h' 151 1 = 1 ∧ CJG_ ro P h' ∧ CJL_ ro P h' 0))) 76 [some (rr_ G 151), some (ii_ t), some (ii_ i)] [] e1 := by
                  intro nn
                  induction nn with
                  | zero => intro i e1 ek ef el ex e_1 em eg ed ams; exfalso; omega
                  | succ nn ih76 =>
                    intro i e1 ek ef el ex e_1 em eg ed ams
                    have He : CRD_ ro e1 o := CRD_cg H (fun k _ => congrFun (ef _ (by simp; omega)) k) (ef _ (by simp; omega)) (ef _ (by simp; omega)) (ef _ (by simp; omega)) (ef _ (by simp; omega)) (ef _ (by simp; omega)) (ef _ (by simp; omega))
                    have le : CLP_ ro P e1 o := CLP_cg hl (ef _ (by simp; omega)) (ef _ (by simp; omega)) (ef _ (by simp; omega)) (ef _ (by simp; omega))
                    have Je : CJP_ ro e1 o := by
                      refine ⟨el, ?_⟩
                      have := hJ.2
                      unfold CPL_ at *
                      rw [ef o (by simp; omega), ef (o + 14) (by simp; omega)]; exact this
                    have hl_e1 := Je.1
                    have Ge := eg
                    have Le : CJL_ ro P e1 (t + 1) := fun t1 i1 a1 c1 u1 u2 u3 u4 u5 u6 u7 u8 => ed t1 i1 a1 c1 u3 u4 u2 u5 u6 u7 u8 (by omega) (by omega)
                    
                    refine pw_iload_n (z := i) (pc := 76) dX1_prepare_76 rfl rfl ?_
                    refine pw_aload_n (z := 151) (pc := 77) dX1_prepare_77 rfl rfl ?_
                    refine pw_gD (x := 0) (r := o) (pc := 78) dX1_prepare_78 fX1_39 (hC 151 (by decide)) (show kd_ 151 = 11 by decide +kernel) rfl rfl hl_e1 ?_
                    refine pw_gI (x := 7) (pc := 81) dX1_prepare_81 fX1_109 (hC _ (by omega)) (kd6_0 ho) rfl rfl (fun r81 => ?_)
                    have n_e1_o_7 : e1 o 7 = h o 7 := (congrFun (ef o (by first | decide | (simp; done) | (simp; omega))) 7)
                    rw [n_e1_o_7] at r81 ⊢
                    refine pw_icmp_ge (t := 99) (pc := 84) dX1_prepare_84 (by decide) (by first | omega | (simp only [n_b1_o_1, n_b1_o_7, n_e1_o_7]; omega)) (by first | omega | (simp only [n_b1_o_1, n_b1_o_7, n_e1_o_7]; omega)) (fun c84 => ?_) (fun c84 => ?_)
                    · refine pw_iinc (z := t) (lv1 := [some (rr_ G 151), some (ii_ (t + (-1))), some (ii_ i)]) (pc := 99) dX1_prepare_99 rfl (by decide) rfl rfl ?_
                      refine pw_goto (t := 70) (pc := 102) dX1_prepare_102 (by decide) ?_
                      refine pw_less (lv1 := [some (rr_ G 151), some (ii_ (t + (-1))), none]) rfl (by intro i v; (match i with | 0 => simp | 1 => simp | 2 => simp | n + 3 => simp)) ?_
                      exact ih70 _ _ (by omega) (ef) (el) (ex) (e_1) (em) (Ge) (fun t1 i1 a1 c1 u1 u2 u3 u4 u5 u6 u7 u8 => ed t1 i1 a1 c1 u3 u4 u2 u5 u6 u7 u8 (by omega) (by omega)) (by omega)
                    · refine pw_aload_n (z := 151) (pc := 87) dX1_prepare_87 rfl rfl ?_
                      refine pw_iload_n (z := t) (pc := 88) dX1_prepare_88 rfl rfl ?_
                      refine pw_iload_n (z := i) (pc := 89) dX1_prepare_89 rfl rfl ?_
                      refine pw_callV (c := 1) (o := 151) (As := [ii_ t, ii_ i]) (rest := []) (pc := 90) dX1_prepare_90 (d_fillLeast hC e1 o ho ro He P Je Ge t (by first | omega | (simp only [n_b1_o_1, n_b1_o_7, n_e1_o_7]; omega)) Le i (by first | omega | (simp only [n_b1_o_1, n_b1_o_7, n_e1_o_7]; omega))) lX1_122 mX1_fillLeast vX1_fillLeast (hC 151 (by decide)) (show kd_ 151 = 11 by decide +kernel) rfl rfl rfl (by decide) ⟨Nat.zero_le _, Nat.zero_le _⟩ (Nat.le_of_ble_eq_true rfl) (k_v (fun h90 q90 => ?_))
                      obtain ⟨f90, v90, n90⟩ := q90
                      refine pw_iinc (z := i) (lv1 := [some (rr_ G 151), some (ii_ t), some (ii_ (i + 1))]) (pc := 93) dX1_prepare_93 rfl (by decide) rfl rfl ?_
                      refine pw_goto (t := 76) (pc := 96) dX1_prepare_96 (by decide) ?_
                      exact ih76 _ _ (by omega) (off_tr ef (off_mo f90 (by simp))) (by rw [f90 151 (by decide)]; exact el) (fun k k1 => by rw [f90 151 (by decide)]; exact ex k k1) (by rw [f90 151 (by decide)]; exact e_1) (by have := em; unfold CWM_ at *; rw [f90 (o + 15) (by simp; omega)]; exact this) (by unfold CJG_ at *; rw [f90 153 (by decide)]; exact eg) (fun t1 i1 a1 c1 u1 u2 u3 u4 u5 u6 u7 u8 u9 => by
                                by_cases c9 : t1 = t ∧ i1 = i
                                · obtain ⟨rfl, rfl⟩ := c9; exact v90 a1 c1 u4 u5 u6 u7
                                · rw [n90 t1 i1 a1 c1 u9 (by omega) u1 (by omega) (by omega) (by omega) u5 (by omega) (by omega)]; exact ed t1 i1 a1 c1 u1 u2 u3 u4 u5 u6 u7 (by omega) u9) (by omega)
                exact L76 _ _ _ (by omega) (df) (dl) (dx) (d_1) (dm) (dg) (fun t1 i1 a1 c1 u1 u2 u3 u4 u5 u6 u7 u8 u9 => dd t1 i1 a1 c1 (by omega) u3 u1 u2 u4 u5 u6 u7) (Int.self_le_toNat _)
          exact L70 _ _ _ (by omega) (bf) (bl) (bx) (b_1) (bm) (fun t i2 r u1 u2 u3 u4 u5 u6 => bg t i2 r u1 u2 u3 (by omega) u5 u6) (fun t1 i1 a1 c1 u1 u2 => by omega) (Int.self_le_toNat _)
        · have pk := CJP_at hJ (k := i) (by omega) (by omega)
          have se := pL_sea (ro := ro) (by omega) (by omega) (k := i) (by omega) (by omega)
          have qk := pL_b (ro := ro) (k := i) (by omega) (by omega) (by omega) (by omega)
          refine pw_aload_n (z := 151) (pc := 26) dX1_prepare_26 rfl rfl ?_
          refine pw_gD (x := 0) (r := o) (pc := 27) dX1_prepare_27 fX1_39 (hC 151 (by decide)) (show kd_ 151 = 11 by decide +kernel) rfl rfl hl_b1 ?_
          refine pw_aload_n (z := 151) (pc := 30) dX1_prepare_30 rfl rfl ?_
          refine pw_gD (x := 0) (r := o) (pc := 31) dX1_prepare_31 fX1_39 (hC 151 (by decide)) (show kd_ 151 = 11 by decide +kernel) rfl rfl hl_b1 ?_
          refine pw_getR (r := (o + 14)) (pc := 34) dX1_prepare_34 fX1_112 (hC _ (by omega)) (kd6_0 ho) rfl rfl ?_
          refine pw_iload_n (z := i) (pc := 37) dX1_prepare_37 rfl rfl ?_
          refine pw_iald (pc := 38) dX1_prepare_38 (hC _ (by omega)) (kd6_14 ho) 24 (ln6_14 ho) (by first | omega | (simp only [n_b1_o_7]; omega)) (by first | omega | (simp only [n_b1_o_7]; omega)) (by first | omega | (simp only [n_b1_o_7]; omega)) (fun r38 => ?_)
          have n_b1_o_14 : b1 (o + 14) = h (o + 14) := (bf (o + 14) (by first | decide | (simp; done) | (simp; omega)))
          rw [n_b1_o_14] at r38 ⊢
          refine pw_aload_n (z := 151) (pc := 39) dX1_prepare_39 rfl rfl ?_
          refine pw_getR (r := 152) (pc := 40) dX1_prepare_40 fX1_9 (hC 151 (by decide)) (show kd_ 151 = 11 by decide +kernel) rfl (by decide +kernel) ?_
          refine pw_callV (c := 6) (o := o) (As := [ii_ (h (o + 14) i), rr_ G 152]) (rest := []) (pc := 43) dX1_prepare_43 (d_unpack hC b1 o ho ro Hb 152 (by decide +kernel) (by decide +kernel) (by decide) (h (o + 14) i) (by first | omega | (simp only [n_b1_o_14, n_b1_o_7]; omega))) lX1_115 mX6_unpack vX6_unpack (hC _ (by omega)) (kd6_0 ho) rfl rfl rfl (by decide) ⟨Nat.zero_le _, Nat.zero_le _⟩ (Nat.le_of_ble_eq_true rfl) (k_i (fun z43 h43 y43 q43 => ?_))
          obtain ⟨f43, ⟨rfl, p43⟩ | ⟨rfl, p43⟩, d43⟩ := q43
          · have H43 : CRD_ ro h43 o := CRD_off Hb ho f43 (by simp)
            have e43 : ∀ i, i ≠ 152 → h43 i = b1 i := fun i i1 => f43 i (by simp; omega)
            have l43 : CLP_ ro P h43 o := CLP_cg lb (e43 _ (by omega)) (e43 _ (by omega)) (e43 _ (by omega)) (e43 _ (by omega))
            have J43 : CJP_ ro h43 o := by
              have := Jb
              unfold CJP_ CPL_ at *
              rw [e43 151 (by decide), e43 o (by omega), e43 (o + 14) (by omega)]; exact this
            have m43 : CWM_ ro P h43 o := by have := bm; unfold CWM_ at *; rw [e43 (o + 15) (by omega)]; exact this
            simp -failIfUnchanged only [n_b1_o_7, n_b1_o_14] at p43
            refine pw_if_eq (t := 54) (pc := 46) dX1_prepare_46 (by decide) (by first | omega | (simp only [n_b1_o_14, n_b1_o_7]; omega)) (fun c46 => absurd c46 (by decide)) (fun _ => ?_)
            refine pw_aload_n (z := 151) (pc := 49) dX1_prepare_49 rfl rfl ?_
            refine pw_iload_n (z := i) (pc := 50) dX1_prepare_50 rfl rfl ?_
            refine pw_callV (c := 1) (o := 151) (As := [ii_ i]) (rest := []) (pc := 51) dX1_prepare_51 (d_fillGains hC h43 o ho ro H43 P l43 m43 J43 i (by first | omega | (simp only [n_b1_o_14, n_b1_o_7]; omega)) (fun r r0 r1 => by rw [d43 rfl r r0 r1, pk])) lX1_119 mX1_fillGains vX1_fillGains (hC 151 (by decide)) (show kd_ 151 = 11 by decide +kernel) rfl rfl rfl (by decide) ⟨Nat.zero_le _, Nat.zero_le _⟩ (Nat.le_of_ble_eq_true rfl) (k_v (fun h51 q51 => ?_))
            obtain ⟨f51, m51, v51, n51⟩ := q51
            refine pw_iinc (z := i) (lv1 := [some (rr_ G 151), some (ii_ (i + 1)), none]) (pc := 54) dX1_prepare_54 rfl (by decide) rfl rfl ?_
            refine pw_goto (t := 15) (pc := 57) dX1_prepare_57 (by decide) ?_
            exact ih15 _ _ (by omega) (off_tr bf (off_tr (off_mo f43 (by simp)) (off_mo f51 (by simp)))) (by rw [f51 151 (by simp; omega), e43 151 (by decide)]; exact bl) (fun k k1 => by rw [f51 151 (by simp; omega), e43 151 (by decide)]; exact bx k k1) (by rw [f51 151 (by simp; omega), e43 151 (by decide)]; exact b_1) (m51) (fun t i2 r u1 u2 u3 u4 u5 u6 => by
                      by_cases c9 : i2 = i
                      · rw [c9]; exact v51 t r u1 u2 u5 u6
                      · rw [n51 t i2 r u3 (by omega) u5 (by omega) c9, e43 153 (by decide)]; exact bg t i2 r u1 u2 u3 (by omega) u5 u6) (by omega)
          · have H43 : CRD_ ro h43 o := CRD_off Hb ho f43 (by simp)
            have e43 : ∀ i, i ≠ 152 → h43 i = b1 i := fun i i1 => f43 i (by simp; omega)
            have l43 : CLP_ ro P h43 o := CLP_cg lb (e43 _ (by omega)) (e43 _ (by omega)) (e43 _ (by omega)) (e43 _ (by omega))
            have J43 : CJP_ ro h43 o := by
              have := Jb
              unfold CJP_ CPL_ at *
              rw [e43 151 (by decide), e43 o (by omega), e43 (o + 14) (by omega)]; exact this
            have m43 : CWM_ ro P h43 o := by have := bm; unfold CWM_ at *; rw [e43 (o + 15) (by omega)]; exact this
            simp -failIfUnchanged only [n_b1_o_7, n_b1_o_14] at p43
            refine pw_if_eq (t := 54) (pc := 46) dX1_prepare_46 (by decide) (by first | omega | (simp only [n_b1_o_14, n_b1_o_7]; omega)) (fun _ => ?_) (fun c46 => absurd c46 (by decide))
            exact absurd se.1 (by rw [← pk]; exact p43)
    exact L15 _ _ _ (by omega) (by rw [e10]; exact off_up off_rf (by simp)) (hl_g10) (fun k k1 => by rw [e10, up_at, if_neg k1]) (by rw [e10, up_same]) (by have := hm; unfold CWM_ at *; rw [e10, up_off (by omega)]; exact this) (fun t i2 r u1 u2 u3 u4 => by omega) (Int.self_le_toNat _)
  · exact pw_vret (pc := 7) dX1_prepare_7 (by
              rcases hr with hr | hr
              · exfalso; omega
              · exact ⟨off_rf, hm, fun _ _ => rfl, hr.1, hr.2.1, hr.2.2⟩)

