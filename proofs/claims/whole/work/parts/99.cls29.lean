set_option maxHeartbeats 4000000 in
set_option maxRecDepth 100000 in
theorem d_drawYears {G : GT_} (hC : okC_ G) (h : PH_) (o : Nat) (ho : is6_ o) (ro : Int → Int) (H : CRD_ ro h o) (P : List (Int × Int)) (hl : CLP_ ro P h o) (hm : CWM_ ro P h o) (hd : ∀ r, 0 ≤ r → r < ro 2 → 1 ≤ ro (31 + 4 * r + 1) ∧ ro (31 + 4 * r + 1) ≤ 9) (hpa : ∀ r, 0 ≤ r → r < ro 2 → 0 ≤ ro (31 + 4 * r + 2) ∧ ro (31 + 4 * r + 2) ≤ 9999) (sd jn : Int) (h1 : 0 ≤ sd ∧ sd ≤ 9999) (h2 : 1 ≤ jn ∧ jn ≤ 60) : PC G yX0_drawYears cX0_drawYears 6 none 6 [rr_ G 170, rr_ G o, ii_ sd, ii_ jn] h (qv_ (fun h' => off_ [170, 171, 172, o + 10, o + 11, o + 15] h h' ∧ CWM_ ro P h' o ∧ (h' 170 7 = (yk_ ro P jn.toNat (sd, 0, pas_ ro)).2.1) ∧ ∀ r, 0 ≤ r → r < ro 2 → h' 172 r = (yk_ ro P jn.toNat (sd, 0, pas_ ro)).2.2 r ∧ 0 ≤ h' 172 r ∧ h' 172 r ≤ 1000000)) := by
  have HB := H.2.1
  have HA := H.1
  refine PC.of (lv := [some (rr_ G 170), some (rr_ G o), some (ii_ sd), some (ii_ jn), none, none]) (by decide +kernel) (Nat.le_of_ble_eq_true rfl) rfl rfl ?_
  refine pw_aload_n (z := 170) (pc := 0) dX0_drawYears_0 rfl rfl ?_
  refine pw_aload_n (z := o) (pc := 1) dX0_drawYears_1 rfl rfl ?_
  refine pw_pD (x := 0) (nm := "MiddleSeat$Road") (pc := 2) dX0_drawYears_2 fX0_18 (hC 170 (by decide)) (show kd_ 170 = 10 by decide +kernel) rfl rfl (by decide +kernel) (by first | omega) ?_
  obtain ⟨g2, e2⟩ : ∃ x, x = up_ h 170 0 ((o : Nat) : Int) := ⟨_, rfl⟩
  refine pw_heq e2 ?_
  have hl_g2 : g2 170 0 = (o : Int) := by rw [e2, up_same]
  refine pw_aload_n (z := 170) (pc := 5) dX0_drawYears_5 rfl rfl ?_
  refine pw_iload_n (z := sd) (pc := 6) dX0_drawYears_6 rfl rfl ?_
  refine pw_i2l (pc := 7) dX0_drawYears_7 (by first | omega) ?_
  refine pw_pJ (x := 4) (pc := 8) dX0_drawYears_8 fX0_67 (hC 170 (by decide)) (show kd_ 170 = 10 by decide +kernel) rfl rfl (by first | omega) ?_
  obtain ⟨g8, e8⟩ : ∃ x, x = up_ g2 170 4 sd := ⟨_, rfl⟩
  refine pw_heq e8 ?_
  refine pw_aload_n (z := 170) (pc := 11) dX0_drawYears_11 rfl rfl ?_
  refine pw_iconst (pc := 12) dX0_drawYears_12 ?_
  refine pw_pI (x := 7) (pc := 13) dX0_drawYears_13 fX0_70 (hC 170 (by decide)) (show kd_ 170 = 10 by decide +kernel) rfl rfl (by first | omega) ?_
  obtain ⟨g13, e13⟩ : ∃ x, x = up_ g8 170 7 0 := ⟨_, rfl⟩
  refine pw_heq e13 ?_
  have hl_g13 : g13 170 0 = (o : Int) := by rw [e13, up_at, if_neg (by decide), e8, up_at, if_neg (by decide), e2, up_same]
  refine pw_aload_n (z := 170) (pc := 16) dX0_drawYears_16 rfl rfl ?_
  have n_g13_170_0 : g13 170 0 = g2 170 0 := ((show g13 170 0 = g8 170 0 from (by rw [e13, up_at]; exact if_neg (by decide))).trans (show g8 170 0 = g2 170 0 from (by rw [e8, up_at]; exact if_neg (by decide))))
  refine pw_gD (x := 0) (r := o) (pc := 17) dX0_drawYears_17 fX0_18 (hC 170 (by decide)) (show kd_ 170 = 10 by decide +kernel) rfl rfl (n_g13_170_0.trans hl_g2) ?_
  refine pw_getR (r := (o + 5)) (pc := 20) dX0_drawYears_20 fX0_73 (hC _ (by omega)) (kd6_0 ho) rfl rfl ?_
  refine pw_iconst (pc := 23) dX0_drawYears_23 ?_
  refine pw_aload_n (z := 170) (pc := 24) dX0_drawYears_24 rfl rfl ?_
  refine pw_getR (r := 172) (pc := 25) dX0_drawYears_25 fX0_15 (hC 170 (by decide)) (show kd_ 170 = 10 by decide +kernel) rfl (by decide +kernel) ?_
  refine pw_iconst (pc := 28) dX0_drawYears_28 ?_
  refine pw_iconst (pc := 29) dX0_drawYears_29 ?_
  refine pw_copy (n0 := 4) (n1 := 4) (pc := 30) dX0_drawYears_30 lX0_76 (hC _ (by omega)) (hC 172 (by decide)) (kd6_5 ho) (show kd_ 172 = 0 by decide +kernel) (ln6_5 ho) (by decide +kernel) (by first | omega | (simp only [n_g13_170_0]; omega)) (by first | omega | (simp only [n_g13_170_0]; omega)) (by first | omega | (simp only [n_g13_170_0]; omega)) (by decide) (by decide) (Nat.le_of_ble_eq_true rfl) ?_
  obtain ⟨g30, e30⟩ : ∃ x, x = sc_ g13 172 (fun x => if 0 ≤ x ∧ x < 0 + 4 then g13 (o + 5) (x - 0 + 0) else g13 172 x) := ⟨_, rfl⟩
  refine pw_heq e30 ?_
  have f30 : off_ [172] g13 g30 := fun j hj => by rw [e30]; exact sc_off (by simpa using hj)
  have gf : off_ [170, 171, 172, o + 10, o + 11, o + 15] h g30 := off_tr (by rw [e13, e8, e2]; exact off_up (off_up (off_up off_rf (by simp)) (by simp)) (by simp)) (off_mo f30 (by simp))
  have g7 : g30 170 = g13 170 := f30 170 (by decide)
  have g72 : ∀ r, 0 ≤ r → r < ro 2 → g30 172 r = ro (31 + 4 * r + 2) := fun r r0 r1 => by
    rw [e30, sc_at]
    show (if _ then _ else _) = _
    rw [if_pos (by omega), show r - 0 + 0 = r by omega, e13, up_off (by omega), e8, up_off (by omega), e2, up_off (by omega)]
    exact (H.2.2.2.1 r r0 r1).2.2.1
  refine pw_iconst (pc := 33) dX0_drawYears_33 ?_
  refine pw_istore (lv1 := [some (rr_ G 170), some (rr_ G o), some (ii_ sd), some (ii_ jn), some (ii_ 0), none]) (pc := 34) dX0_drawYears_34 (by decide) rfl rfl ?_
  have L36 : ∀ (nn : Nat) (k : Int) (b1 : PH_), (0 ≤ k ∧ k ≤ jn) → (off_ [170, 171, 172, o + 10, o + 11, o + 15] h b1) → (CWM_ ro P b1 o) → (b1 170 0 = (o : Int)) → (b1 170 4 = (yk_ ro P k.toNat (sd, 0, pas_ ro)).1 ∧ b1 170 7 = (yk_ ro P k.toNat (sd, 0, pas_ ro)).2.1 ∧ ∀ r, 0 ≤ r → r < ro 2 → b1 172 r = (yk_ ro P k.toNat (sd, 0, pas_ ro)).2.2 r) → ((0 ≤ b1 170 4 ∧ b1 170 4 < 2147483648) ∧ (0 ≤ b1 170 7 ∧ b1 170 7 ≤ 16 * k) ∧ ∀ r, 0 ≤ r → r < ro 2 → 0 ≤ b1 172 r ∧ b1 172 r ≤ 9999 + 3996 * k) → ((jn - k + 1 : Int) ≤ nn) → PW G RX0 cX0_drawYears 6 none (rm_ 6) 0 0 (zm_ G (qv_ (fun h' => off_ [170, 171, 172, o + 10, o + 11, o + 15] h h' ∧ CWM_ ro P h' o ∧ (h' 170 7 = (yk_ ro P jn.toNat (sd, 0, pas_ ro)).2.1) ∧ ∀ r, 0 ≤ r → r < ro 2 → h' 172 r = (yk_ ro P jn.toNat (sd, 0, pas_ ro)).2.2 r ∧ 0 ≤ h' 172 r ∧ h' 172 r ≤ 1000000))) 36 [some (rr_ G 170), some (rr_ G o), some (ii_ sd), some (ii_ jn), some (ii_ k), none] [] b1 := by
    intro nn
    induction nn with
    | zero => intro k b1 bk bf bm bl bn bb ams; exfalso; omega
    | succ nn ih36 =>
      intro k b1 bk bf bm bl bn bb ams
      refine pw_iload (z := k) (pc := 36) dX0_drawYears_36 rfl ?_
      refine pw_iload_n (z := jn) (pc := 38) dX0_drawYears_38 rfl rfl ?_
      refine pw_icmp_ge (t := 75) (pc := 39) dX0_drawYears_39 (by decide) (by first | omega | (simp only [n_g13_170_0]; omega)) (by first | omega | (simp only [n_g13_170_0]; omega)) (fun c39 => ?_) (fun c39 => ?_)
      · exact pw_vret (pc := 75) dX0_drawYears_75 (⟨bf, bm, by rw [bn.2.1, show k = jn by omega], fun r r0 r1 => ⟨by rw [bn.2.2 r r0 r1, show k = jn by omega], (bb.2.2 r r0 r1).1, by have := bb.2.2 r r0 r1; omega⟩⟩)
      · refine pw_iconst (pc := 42) dX0_drawYears_42 ?_
        refine pw_istore (lv1 := [some (rr_ G 170), some (rr_ G o), some (ii_ sd), some (ii_ jn), some (ii_ k), some (ii_ 0)]) (pc := 43) dX0_drawYears_43 (by decide) rfl rfl ?_
        have L45 : ∀ (nn : Nat) (t : Int) (c1 : PH_), (0 ≤ t ∧ t ≤ ro 1) → (off_ [170, 171, 172, o + 10, o + 11, o + 15] h c1) → (CWM_ ro P c1 o) → (c1 170 0 = (o : Int)) → (c1 170 4 = (yt_ ro P t.toNat (yk_ ro P k.toNat (sd, 0, pas_ ro))).1 ∧ c1 170 7 = (yt_ ro P t.toNat (yk_ ro P k.toNat (sd, 0, pas_ ro))).2.1 ∧ ∀ r, 0 ≤ r → r < ro 2 → c1 172 r = (yt_ ro P t.toNat (yk_ ro P k.toNat (sd, 0, pas_ ro))).2.2 r) → ((0 ≤ c1 170 4 ∧ c1 170 4 < 2147483648) ∧ (0 ≤ c1 170 7 ∧ c1 170 7 ≤ 16 * k + 4 * t) ∧ ∀ r, 0 ≤ r → r < ro 2 → 0 ≤ c1 172 r ∧ c1 172 r ≤ 9999 + 3996 * k + 999 * t) → ((ro 1 - t + 1 : Int) ≤ nn) → PW G RX0 cX0_drawYears 6 none (rm_ 6) 0 0 (zm_ G (qv_ (fun h' => off_ [170, 171, 172, o + 10, o + 11, o + 15] h h' ∧ CWM_ ro P h' o ∧ (h' 170 7 = (yk_ ro P jn.toNat (sd, 0, pas_ ro)).2.1) ∧ ∀ r, 0 ≤ r → r < ro 2 → h' 172 r = (yk_ ro P jn.toNat (sd, 0, pas_ ro)).2.2 r ∧ 0 ≤ h' 172 r ∧ h' 172 r ≤ 1000000))) 45 [some (rr_ G 170), some (rr_ G o), some (ii_ sd), some (ii_ jn), some (ii_ k), some (ii_ t)] [] c1 := by
          intro nn
          induction nn with
          | zero => intro t c1 ck cf cm cl cn cb ams; exfalso; omega
          | succ nn ih45 =>
            intro t c1 ck cf cm cl cn cb ams
            have hl_c1 := cl
            have Hc : CRD_ ro c1 o := CRD_cg H (fun k _ => congrFun (cf _ (by simp; omega)) k) (cf _ (by simp; omega)) (cf _ (by simp; omega)) (cf _ (by simp; omega)) (cf _ (by simp; omega)) (cf _ (by simp; omega)) (cf _ (by simp; omega))
            have lc : CLP_ ro P c1 o := CLP_cg hl (cf _ (by simp; omega)) (cf _ (by simp; omega)) (cf _ (by simp; omega)) (cf _ (by simp; omega))
            refine pw_iload (z := t) (pc := 45) dX0_drawYears_45 rfl ?_
            refine pw_aload_n (z := 170) (pc := 47) dX0_drawYears_47 rfl rfl ?_
            refine pw_gD (x := 0) (r := o) (pc := 48) dX0_drawYears_48 fX0_18 (hC 170 (by decide)) (show kd_ 170 = 10 by decide +kernel) rfl rfl hl_c1 ?_
            refine pw_gI (x := 1) (pc := 51) dX0_drawYears_51 fX0_82 (hC _ (by omega)) (kd6_0 ho) rfl rfl (fun r51 => ?_)
            have n_c1_o_1 : c1 o 1 = h o 1 := (congrFun (cf o (by first | decide | (simp; done) | (simp; omega))) 1)
            rw [n_c1_o_1] at r51 ⊢
            refine pw_icmp_ge (t := 69) (pc := 54) dX0_drawYears_54 (by decide) (by first | omega | (simp only [n_c1_o_1, n_g13_170_0]; omega)) (by first | omega | (simp only [n_c1_o_1, n_g13_170_0]; omega)) (fun c54 => ?_) (fun c54 => ?_)
            · refine pw_iinc (z := k) (lv1 := [some (rr_ G 170), some (rr_ G o), some (ii_ sd), some (ii_ jn), some (ii_ (k + 1)), some (ii_ t)]) (pc := 69) dX0_drawYears_69 rfl (by decide) rfl rfl ?_
              refine pw_goto (t := 36) (pc := 72) dX0_drawYears_72 (by decide) ?_
              refine pw_less (lv1 := [some (rr_ G 170), some (rr_ G o), some (ii_ sd), some (ii_ jn), some (ii_ (k + 1)), none]) rfl (by intro i v; (match i with | 0 => simp | 1 => simp | 2 => simp | 3 => simp | 4 => simp | 5 => simp | n + 6 => simp)) ?_
              exact ih36 _ _ (by omega) (cf) (cm) (cl) (by rw [yk_s bk.1, show ro 1 = t by omega]; exact cn) (⟨cb.1, by have := cb.2.1; omega, fun r r0 r1 => by have := cb.2.2 r r0 r1; omega⟩) (by omega)
            · 
              refine pw_aload_n (z := 170) (pc := 57) dX0_drawYears_57 rfl rfl ?_
              refine pw_iload (z := t) (pc := 58) dX0_drawYears_58 rfl ?_
              refine pw_callV (c := 0) (o := 170) (As := [ii_ t]) (rest := []) (pc := 60) dX0_drawYears_60 (d_drawStretch hC c1 o ho ro Hc P lc cm hd cl cb.1 (by have := cb.2.1; omega) t (by first | omega | (simp only [n_c1_o_1, n_g13_170_0]; omega)) (fun r r0 r1 => by have := cb.2.2 r r0 r1; omega)) lX0_85 mX0_drawStretch vX0_drawStretch (hC 170 (by decide)) (show kd_ 170 = 10 by decide +kernel) rfl rfl rfl (by decide) ⟨Nat.zero_le _, Nat.zero_le _⟩ (Nat.le_of_ble_eq_true rfl) (k_v (fun h60 q60 => ?_))
              obtain ⟨f60, m60, l60, g60, n60, t60⟩ := q60
              rw [cn.1, cn.2.1] at g60 n60 t60
              have rb := rdl_b (ro := ro) (t := t) (ro 2).toNat (yt_ ro P t.toNat (yk_ ro P k.toNat (sd, 0, pas_ ro))).1 (2 ^ (ro 2).toNat - 1) (2 ^ (ro 0).toNat - 1) (fun _ => -1) (yt_ ro P t.toNat (yk_ ro P k.toNat (sd, 0, pas_ ro))).2.1 (by rw [← cn.1]; exact cb.1)
              have cb2 := cb.2.1
              rw [cn.2.1] at cb2
              refine pw_iinc (z := t) (lv1 := [some (rr_ G 170), some (rr_ G o), some (ii_ sd), some (ii_ jn), some (ii_ k), some (ii_ (t + 1))]) (pc := 63) dX0_drawYears_63 rfl (by decide) rfl rfl ?_
              refine pw_goto (t := 45) (pc := 66) dX0_drawYears_66 (by decide) ?_
              exact ih45 _ _ (by omega) (off_tr cf f60) (m60) (l60) (⟨by rw [yt_s ck.1]; exact g60, by rw [yt_s ck.1]; exact n60, fun r r0 r1 => by rw [yt_s ck.1, t60 r r0 r1, cn.2.2 r r0 r1]; rfl⟩) (⟨by rw [g60]; exact rb.1, by rw [n60]; have u := rb.2; unfold rdx_; omega, fun r r0 r1 => by
                        rw [t60 r r0 r1]
                        have u1 := cb.2.2 r r0 r1
                        have u2 := wsi_b ro P (rdx_ ro t (yt_ ro P t.toNat (yk_ ro P k.toNat (sd, 0, pas_ ro))).1 (yt_ ro P t.toNat (yk_ ro P k.toNat (sd, 0, pas_ ro))).2.1).2.1 r t
                        split <;> omega⟩) (by omega)
        exact L45 _ _ _ (by omega) (bf) (bm) (bl) (bn) (⟨bb.1, by have := bb.2.1; omega, fun r r0 r1 => by have := bb.2.2 r r0 r1; omega⟩) (Int.self_le_toNat _)
  exact L36 _ _ _ (by omega) (gf) (by have := hm; unfold CWM_ at *; rw [f30 (o + 15) (by simp; omega), e13, up_off (by omega), e8, up_off (by omega), e2, up_off (by omega)]; exact this) (by rw [g7]; exact hl_g13) (⟨by rw [g7, e13, up_at, if_neg (by decide), e8, up_same]; rfl, by rw [g7, e13, up_same]; rfl, fun r r0 r1 => g72 r r0 r1⟩) (⟨by rw [g7, e13, up_at, if_neg (by decide), e8, up_same]; omega, by rw [g7, e13, up_same]; omega, fun r r0 r1 => by rw [g72 r r0 r1]; have := hpa r r0 r1; omega⟩) (Int.self_le_toNat _)

