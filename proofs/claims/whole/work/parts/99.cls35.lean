set_option maxHeartbeats 4000000 in
set_option maxRecDepth 100000 in
theorem d_fillGains {G : GT_} (hC : okC_ G) (h : PH_) (o : Nat) (ho : is6_ o) (ro : Int → Int) (H : CRD_ ro h o) (P : List (Int × Int)) (hl : CLP_ ro P h o) (hm : CWM_ ro P h o) (hJ : CJP_ ro h o) (k : Int) (h3 : 0 ≤ k ∧ k < (lpn_ ro 256).length) (hs : ∀ r, 0 ≤ r → r < ro 2 → h 152 r = dg_ (ro 2) (pL_ ro k) r) : PC G yX1_fillGains cX1_fillGains 4 none 5 [rr_ G 151, ii_ k] h (qv_ (fun h' => off_ [153, o + 10, o + 11, o + 15] h h' ∧ CWM_ ro P h' o ∧ (∀ t r, 0 ≤ t → t < ro 1 → 0 ≤ r → r < ro 2 → h' 153 ((t * 24 + k) * 4 + r) = pW_ ro P k r t) ∧ (∀ t1 i1 r1 : Int, 0 ≤ i1 → i1 < 24 → 0 ≤ r1 → r1 < 4 → i1 ≠ k → h' 153 ((t1 * 24 + i1) * 4 + r1) = h 153 ((t1 * 24 + i1) * 4 + r1)))) := by
  have HB := H.2.1
  have HA := H.1
  have l24 := lpn_24 (ro := ro) (by omega) (by omega)
  have hl_h := hJ.1
  have hN := hJ.2.1
  have se := (pL_sea (ro := ro) (by omega) (by omega) h3.1 h3.2).2
  refine PC.of (lv := [some (rr_ G 151), some (ii_ k), none, none]) (by decide +kernel) (Nat.le_of_ble_eq_true rfl) rfl rfl ?_
  refine pw_iconst (pc := 0) dX1_fillGains_0 ?_
  refine pw_istore_n (lv1 := [some (rr_ G 151), some (ii_ k), some (ii_ 0), none]) (pc := 1) dX1_fillGains_1 rfl (by decide) rfl rfl ?_
  have L2 : ∀ (nn : Nat) (t : Int) (b1 : PH_), (0 ≤ t ∧ t ≤ ro 1) → (off_ [153, o + 10, o + 11, o + 15] h b1) → (CWM_ ro P b1 o) → (∀ t1 r1, 0 ≤ t1 → t1 < t → 0 ≤ r1 → r1 < ro 2 → b1 153 ((t1 * 24 + k) * 4 + r1) = pW_ ro P k r1 t1) → (∀ t1 i1 r1 : Int, 0 ≤ i1 → i1 < 24 → 0 ≤ r1 → r1 < 4 → i1 ≠ k → b1 153 ((t1 * 24 + i1) * 4 + r1) = h 153 ((t1 * 24 + i1) * 4 + r1)) → ((ro 1 - t + 1 : Int) ≤ nn) → PW G RX1 cX1_fillGains 4 none (rm_ 5) 0 0 (zm_ G (qv_ (fun h' => off_ [153, o + 10, o + 11, o + 15] h h' ∧ CWM_ ro P h' o ∧ (∀ t r, 0 ≤ t → t < ro 1 → 0 ≤ r → r < ro 2 → h' 153 ((t * 24 + k) * 4 + r) = pW_ ro P k r t) ∧ (∀ t1 i1 r1 : Int, 0 ≤ i1 → i1 < 24 → 0 ≤ r1 → r1 < 4 → i1 ≠ k → h' 153 ((t1 * 24 + i1) * 4 + r1) = h 153 ((t1 * 24 + i1) * 4 + r1))))) 2 [some (rr_ G 151), some (ii_ k), some (ii_ t), none] [] b1 := by
    intro nn
    induction nn with
    | zero => intro t b1 bk bf bm bd bo ams; exfalso; omega
    | succ nn ih2 =>
      intro t b1 bk bf bm bd bo ams
      have hl_b1 : b1 151 0 = (o : Int) := by rw [bf 151 (by simp; omega)]; exact hJ.1
      
      refine pw_iload_n (z := t) (pc := 2) dX1_fillGains_2 rfl rfl ?_
      refine pw_aload_n (z := 151) (pc := 3) dX1_fillGains_3 rfl rfl ?_
      have n_b1_151_0 : b1 151 0 = h 151 0 := (congrFun (bf 151 (by first | decide | (simp; done) | (simp; omega))) 0)
      refine pw_gD (x := 0) (r := o) (pc := 4) dX1_fillGains_4 fX1_39 (hC 151 (by decide)) (show kd_ 151 = 11 by decide +kernel) rfl rfl (n_b1_151_0.trans hl_h) ?_
      refine pw_gI (x := 1) (pc := 7) dX1_fillGains_7 fX1_78 (hC _ (by omega)) (kd6_0 ho) rfl rfl (fun r7 => ?_)
      have n_b1_o_1 : b1 o 1 = h o 1 := (congrFun (bf o (by first | decide | (simp; done) | (simp; omega))) 1)
      rw [n_b1_o_1] at r7 ⊢
      refine pw_icmp_ge (t := 66) (pc := 10) dX1_fillGains_10 (by decide) (by first | omega | (simp only [n_b1_151_0, n_b1_o_1]; omega)) (by first | omega | (simp only [n_b1_151_0, n_b1_o_1]; omega)) (fun c10 => ?_) (fun c10 => ?_)
      · exact pw_vret (pc := 66) dX1_fillGains_66 (⟨bf, bm, fun t1 r1 a b c d => bd t1 r1 a (by omega) c d, bo⟩)
      · refine pw_iconst (pc := 13) dX1_fillGains_13 ?_
        refine pw_istore_n (lv1 := [some (rr_ G 151), some (ii_ k), some (ii_ t), some (ii_ 0)]) (pc := 14) dX1_fillGains_14 rfl (by decide) rfl rfl ?_
        have L15 : ∀ (nn : Nat) (r : Int) (c1 : PH_), (0 ≤ r ∧ r ≤ ro 2) → (off_ [153, o + 10, o + 11, o + 15] h c1) → (CWM_ ro P c1 o) → (∀ t1 r1, 0 ≤ t1 → 0 ≤ r1 → r1 < ro 2 → (t1 < t ∨ t1 = t ∧ r1 < r) → c1 153 ((t1 * 24 + k) * 4 + r1) = pW_ ro P k r1 t1) → (∀ t1 i1 r1 : Int, 0 ≤ i1 → i1 < 24 → 0 ≤ r1 → r1 < 4 → i1 ≠ k → c1 153 ((t1 * 24 + i1) * 4 + r1) = h 153 ((t1 * 24 + i1) * 4 + r1)) → ((ro 2 - r + 1 : Int) ≤ nn) → PW G RX1 cX1_fillGains 4 none (rm_ 5) 0 0 (zm_ G (qv_ (fun h' => off_ [153, o + 10, o + 11, o + 15] h h' ∧ CWM_ ro P h' o ∧ (∀ t r, 0 ≤ t → t < ro 1 → 0 ≤ r → r < ro 2 → h' 153 ((t * 24 + k) * 4 + r) = pW_ ro P k r t) ∧ (∀ t1 i1 r1 : Int, 0 ≤ i1 → i1 < 24 → 0 ≤ r1 → r1 < 4 → i1 ≠ k → h' 153 ((t1 * 24 + i1) * 4 + r1) = h 153 ((t1 * 24 + i1) * 4 + r1))))) 15 [some (rr_ G 151), some (ii_ k), some (ii_ t), some (ii_ r)] [] c1 := by
          intro nn
          induction nn with
          | zero => intro r c1 ck cf cm cd co ams; exfalso; omega
          | succ nn ih15 =>
            intro r c1 ck cf cm cd co ams
            have hl_c1 : c1 151 0 = (o : Int) := by rw [cf 151 (by simp; omega)]; exact hJ.1
            have c152 : c1 152 = h 152 := cf 152 (by simp; omega)
            have Hc : CRD_ ro c1 o := CRD_cg H (fun k _ => congrFun (cf _ (by simp; omega)) k) (cf _ (by simp; omega)) (cf _ (by simp; omega)) (cf _ (by simp; omega)) (cf _ (by simp; omega)) (cf _ (by simp; omega)) (cf _ (by simp; omega))
            have lc : CLP_ ro P c1 o := CLP_cg hl (cf _ (by simp; omega)) (cf _ (by simp; omega)) (cf _ (by simp; omega)) (cf _ (by simp; omega))
            refine pw_iload_n (z := r) (pc := 15) dX1_fillGains_15 rfl rfl ?_
            refine pw_aload_n (z := 151) (pc := 16) dX1_fillGains_16 rfl rfl ?_
            have n_c1_151_0 : c1 151 0 = h 151 0 := (congrFun (cf 151 (by first | decide | (simp; done) | (simp; omega))) 0)
            refine pw_gD (x := 0) (r := o) (pc := 17) dX1_fillGains_17 fX1_39 (hC 151 (by decide)) (show kd_ 151 = 11 by decide +kernel) rfl rfl (n_c1_151_0.trans hl_h) ?_
            refine pw_gI (x := 2) (pc := 20) dX1_fillGains_20 fX1_94 (hC _ (by omega)) (kd6_0 ho) rfl rfl (fun r20 => ?_)
            have n_c1_o_2 : c1 o 2 = h o 2 := (congrFun (cf o (by first | decide | (simp; done) | (simp; omega))) 2)
            rw [n_c1_o_2] at r20 ⊢
            refine pw_icmp_ge (t := 60) (pc := 23) dX1_fillGains_23 (by decide) (by first | omega | (simp only [n_b1_151_0, n_b1_o_1, n_c1_151_0, n_c1_o_2]; omega)) (by first | omega | (simp only [n_b1_151_0, n_b1_o_1, n_c1_151_0, n_c1_o_2]; omega)) (fun c23 => ?_) (fun c23 => ?_)
            · refine pw_iinc (z := t) (lv1 := [some (rr_ G 151), some (ii_ k), some (ii_ (t + 1)), some (ii_ r)]) (pc := 60) dX1_fillGains_60 rfl (by decide) rfl rfl ?_
              refine pw_goto (t := 2) (pc := 63) dX1_fillGains_63 (by decide) ?_
              refine pw_less (lv1 := [some (rr_ G 151), some (ii_ k), some (ii_ (t + 1)), none]) rfl (by intro i v; (match i with | 0 => simp | 1 => simp | 2 => simp | 3 => simp | n + 4 => simp)) ?_
              exact ih2 _ _ (by omega) (cf) (cm) (fun t1 r1 a b c d => cd t1 r1 a c d (by omega)) (co) (by omega)
            · have sr := (sea_at se (r := r) (by omega) (by omega)).1
              refine pw_aload_n (z := 151) (pc := 26) dX1_fillGains_26 rfl rfl ?_
              refine pw_getR (r := 153) (pc := 27) dX1_fillGains_27 fX1_15 (hC 151 (by decide)) (show kd_ 151 = 11 by decide +kernel) rfl (by decide +kernel) ?_
              refine pw_iload_n (z := t) (pc := 30) dX1_fillGains_30 rfl rfl ?_
              refine pw_bipush (pc := 31) dX1_fillGains_31 rfl ?_
              refine pw_imul (pc := 33) dX1_fillGains_33 ?_
              refine pw_iload_n (z := k) (pc := 34) dX1_fillGains_34 rfl rfl ?_
              refine pw_iadd (pc := 35) dX1_fillGains_35 ?_
              refine pw_iconst (pc := 36) dX1_fillGains_36 ?_
              refine pw_imul (pc := 37) dX1_fillGains_37 ?_
              refine pw_iload_n (z := r) (pc := 38) dX1_fillGains_38 rfl rfl ?_
              refine pw_iadd (pc := 39) dX1_fillGains_39 ?_
              refine pw_aload_n (z := 151) (pc := 40) dX1_fillGains_40 rfl rfl ?_
              refine pw_gD (x := 0) (r := o) (pc := 41) dX1_fillGains_41 fX1_39 (hC 151 (by decide)) (show kd_ 151 = 11 by decide +kernel) rfl rfl (n_c1_151_0.trans hl_h) ?_
              refine pw_aload_n (z := 151) (pc := 44) dX1_fillGains_44 rfl rfl ?_
              refine pw_getR (r := 152) (pc := 45) dX1_fillGains_45 fX1_9 (hC 151 (by decide)) (show kd_ 151 = 11 by decide +kernel) rfl (by decide +kernel) ?_
              refine pw_iload_n (z := r) (pc := 48) dX1_fillGains_48 rfl rfl ?_
              refine pw_iload_n (z := t) (pc := 49) dX1_fillGains_49 rfl rfl ?_
              refine pw_callV (c := 6) (o := o) (As := [rr_ G 152, ii_ r, ii_ t]) (rest := [ii_ ((((t * 24) + k) * 4) + r), rr_ G 153]) (pc := 50) dX1_fillGains_50 (d_worthOf hC c1 o ho ro Hc P lc cm 152 (by decide +kernel) (by decide +kernel) (by decide) (fun e u1 u2 => by rw [c152, hs e u1 u2]; have := (sea_at se (r := e) u1 (by first | omega | (simp only [n_b1_151_0, n_b1_o_1, n_c1_151_0, n_c1_o_2]; omega))).1; omega) (fun e f u1 u2 u3 u4 => by rw [c152, hs e u1 (by first | omega | (simp only [n_b1_151_0, n_b1_o_1, n_c1_151_0, n_c1_o_2]; omega)), hs f (by first | omega | (simp only [n_b1_151_0, n_b1_o_1, n_c1_151_0, n_c1_o_2]; omega)) u3]; rw [c152, hs f (by first | omega | (simp only [n_b1_151_0, n_b1_o_1, n_c1_151_0, n_c1_o_2]; omega)) u3] at u4; exact sea_inj se e f u1 u2 u3 u4) r t (by first | omega | (simp only [n_b1_151_0, n_b1_o_1, n_c1_151_0, n_c1_o_2]; omega)) (by first | omega | (simp only [n_b1_151_0, n_b1_o_1, n_c1_151_0, n_c1_o_2]; omega)) (by rw [c152, hs r (by first | omega | (simp only [n_b1_151_0, n_b1_o_1, n_c1_151_0, n_c1_o_2]; omega)) (by first | omega | (simp only [n_b1_151_0, n_b1_o_1, n_c1_151_0, n_c1_o_2]; omega))]; omega)) lX1_126 mX6_worthOf vX6_worthOf (hC _ (by omega)) (kd6_0 ho) rfl rfl rfl (by decide) ⟨Nat.zero_le _, Nat.zero_le _⟩ (Nat.le_of_ble_eq_true rfl) (k_i (fun z50 h50 y50 q50 => ?_))
              obtain ⟨u50, v50, w50⟩ := q50
              have w51 : z50 = pW_ ro P k r t := by rw [w50, c152]; exact wsi_cg (by omega) (fun e e0 e1 => hs e e0 e1)
              refine pw_iast (pc := 53) dX1_fillGains_53 (hC 153 (by decide)) (show kd_ 153 = 0 by decide +kernel) 384 (by decide +kernel) (by first | omega | (simp only [n_b1_151_0, n_b1_o_1, n_c1_151_0, n_c1_o_2]; omega)) (by first | omega | (simp only [n_b1_151_0, n_b1_o_1, n_c1_151_0, n_c1_o_2]; omega)) (by first | omega | (simp only [n_b1_151_0, n_b1_o_1, n_c1_151_0, n_c1_o_2]; omega)) (by first | omega | (simp only [n_b1_151_0, n_b1_o_1, n_c1_151_0, n_c1_o_2]; omega)) ?_
              obtain ⟨g53, e53⟩ : ∃ x, x = up_ h50 153 ((((t * 24) + k) * 4) + r) z50 := ⟨_, rfl⟩
              refine pw_heq e53 ?_
              refine pw_iinc (z := r) (lv1 := [some (rr_ G 151), some (ii_ k), some (ii_ t), some (ii_ (r + 1))]) (pc := 54) dX1_fillGains_54 rfl (by decide) rfl rfl ?_
              refine pw_goto (t := 15) (pc := 57) dX1_fillGains_57 (by decide) ?_
              exact ih15 _ _ (by omega) (by rw [e53]; exact off_up (off_tr cf (off_mo u50 (by simp))) (by simp)) (by have := v50; unfold CWM_ at *; rw [e53, up_off (by omega)]; exact this) (fun t1 r1 a c d e => by
                        rw [e53, up_at]
                        by_cases c9 : (t1 * 24 + k) * 4 + r1 = (t * 24 + k) * 4 + r
                        · rw [if_pos c9, show t1 = t by omega, show r1 = r by omega]; exact w51
                        · rw [if_neg c9, u50 153 (by simp; omega)]; exact cd t1 r1 a c d (by omega)) (fun t1 i1 r1 a b c d e => by rw [e53, up_at, if_neg (by omega), u50 153 (by simp; omega)]; exact co t1 i1 r1 a b c d e) (by omega)
        exact L15 _ _ _ (by omega) (bf) (bm) (fun t1 r1 a c d e => bd t1 r1 a (by omega) c d) (bo) (Int.self_le_toNat _)
  exact L2 _ _ _ (by omega) (off_rf) (hm) (fun _ _ _ _ => by omega) (fun _ _ _ _ _ _ _ _ => rfl) (Int.self_le_toNat _)

set_option maxHeartbeats 4000000 in
set_option maxRecDepth 100000 in
theorem d_leastAhead {G : GT_} (hC : okC_ G) (h : PH_) (o : Nat) (ho : is6_ o) (ro : Int → Int) (H : CRD_ ro h o) (P : List (Int × Int)) (hJ : CJP_ ro h o) (hG : CJG_ ro P h) (t : Int) (h1 : 0 ≤ t ∧ t < ro 1) (hL : CJL_ ro P h (t + 1)) (i a c : Int) (h3 : 0 ≤ i ∧ i < (lpn_ ro 256).length) (h4 : 0 ≤ a ∧ a < ro 2 ∨ a = 4) (h5 : 0 ≤ c ∧ c < ro 2) (h6 : a ≠ c) : PC G yX1_leastAhead cX1_leastAhead 8 (some .int) 2 [rr_ G 151, ii_ t, ii_ i, ii_ a, ii_ c] h (qi_ (fun z h' => h = h' ∧ z = leh_ ro P a c (ro 1 - 1 - t).toNat i)) := by
  have HB := H.2.1
  have HA := H.1
  have l24 := lpn_24 (ro := ro) (by omega) (by omega)
  have hl_h := hJ.1
  have hN := hJ.2.1
  refine PC.of (lv := [some (rr_ G 151), some (ii_ t), some (ii_ i), some (ii_ a), some (ii_ c), none, none, none]) (by decide +kernel) (Nat.le_of_ble_eq_true rfl) rfl rfl ?_
  refine pw_iload_n (z := t) (pc := 0) dX1_leastAhead_0 rfl rfl ?_
  refine pw_iconst (pc := 1) dX1_leastAhead_1 ?_
  refine pw_iadd (pc := 2) dX1_leastAhead_2 ?_
  refine pw_aload_n (z := 151) (pc := 3) dX1_leastAhead_3 rfl rfl ?_
  refine pw_gD (x := 0) (r := o) (pc := 4) dX1_leastAhead_4 fX1_39 (hC 151 (by decide)) (show kd_ 151 = 11 by decide +kernel) rfl rfl hl_h ?_
  refine pw_gI (x := 1) (pc := 7) dX1_leastAhead_7 fX1_78 (hC _ (by omega)) (kd6_0 ho) rfl rfl (fun r7 => ?_)
  refine pw_icmp_lt (t := 15) (pc := 10) dX1_leastAhead_10 (by decide) (by first | omega) (by first | omega) (fun c10 => ?_) (fun c10 => ?_)
  · obtain ⟨n, en⟩ : ∃ n : Nat, (ro 1 - 1 - t).toNat = n + 1 := ⟨(ro 1 - 2 - t).toNat, by omega⟩
    have et : ro 1 - 1 - (n : Int) = t + 1 := by omega
    refine pw_ldc (z := 2147483647) (pc := 15) dX1_leastAhead_15 kX1_137 rfl ?_
    refine pw_istore (lv1 := [some (rr_ G 151), some (ii_ t), some (ii_ i), some (ii_ a), some (ii_ c), some (ii_ 2147483647), none, none]) (pc := 17) dX1_leastAhead_17 (by decide) rfl rfl ?_
    refine pw_iconst (pc := 19) dX1_leastAhead_19 ?_
    refine pw_istore (lv1 := [some (rr_ G 151), some (ii_ t), some (ii_ i), some (ii_ a), some (ii_ c), some (ii_ 2147483647), some (ii_ 0), none]) (pc := 20) dX1_leastAhead_20 (by decide) rfl rfl ?_
    have L22 : ∀ (nn : Nat) (f : Int) (k : Int), (0 ≤ k ∧ k ≤ (lpn_ ro 256).length) → (ir_ f) → (f = lmn_ (fun k => gan_ ro P (ro 1 - 1 - n) i k a - gan_ ro P (ro 1 - 1 - n) i k c + leh_ ro P a c n k) k.toNat) → ((((lpn_ ro 256).length : Int) - k + 1 : Int) ≤ nn) → PW G RX1 cX1_leastAhead 8 (some .int) (rm_ 2) 0 0 (zm_ G (qi_ (fun z h' => h = h' ∧ z = leh_ ro P a c (ro 1 - 1 - t).toNat i))) 22 [some (rr_ G 151), some (ii_ t), some (ii_ i), some (ii_ a), some (ii_ c), some (ii_ f), some (ii_ k), none] [] h := by
      intro nn
      induction nn with
      | zero => intro f k ak ai af ams; exfalso; omega
      | succ nn ih22 =>
        intro f k ak ai af ams
        refine pw_iload (z := k) (pc := 22) dX1_leastAhead_22 rfl ?_
        refine pw_aload_n (z := 151) (pc := 24) dX1_leastAhead_24 rfl rfl ?_
        refine pw_gD (x := 0) (r := o) (pc := 25) dX1_leastAhead_25 fX1_39 (hC 151 (by decide)) (show kd_ 151 = 11 by decide +kernel) rfl rfl hl_h ?_
        refine pw_gI (x := 7) (pc := 28) dX1_leastAhead_28 fX1_109 (hC _ (by omega)) (kd6_0 ho) rfl rfl (fun r28 => ?_)
        refine pw_icmp_ge (t := 92) (pc := 31) dX1_leastAhead_31 (by decide) (by first | omega) (by first | omega) (fun c31 => ?_) (fun c31 => ?_)
        · refine pw_iload (z := f) (pc := 92) dX1_leastAhead_92 rfl ?_
          exact pw_iret (pc := 94) dX1_leastAhead_94 (by first | omega) (⟨rfl, by rw [af, show k.toNat = (lpn_ ro 256).length by omega, leh_s, ← en]⟩)
        · have g1 := gan_b (ro := ro) (P := P) (by omega) (t + 1) i k a
          have g2 := gan_b (ro := ro) (P := P) (by omega) (t + 1) i k c
          have lb := leh_b (ro := ro) (P := P) (a := a) (c := c) (by omega) (by omega) n k (by omega)
          have lv : h 154 (((a * 4 + c) * 4 + (t + 1)) * 24 + k) = leh_ ro P a c n k := by
            have := hL (t + 1) k a c (by omega) (by omega) (by omega) (by omega) h4 h5.1 h5.2 h6
            rw [show (ro 1 - 1 - (t + 1)).toNat = n by omega] at this
            exact this
          refine pw_aload_n (z := 151) (pc := 34) dX1_leastAhead_34 rfl rfl ?_
          refine pw_iload_n (z := t) (pc := 35) dX1_leastAhead_35 rfl rfl ?_
          refine pw_iconst (pc := 36) dX1_leastAhead_36 ?_
          refine pw_iadd (pc := 37) dX1_leastAhead_37 ?_
          refine pw_iload_n (z := i) (pc := 38) dX1_leastAhead_38 rfl rfl ?_
          refine pw_iload (z := k) (pc := 39) dX1_leastAhead_39 rfl ?_
          refine pw_iload_n (z := a) (pc := 41) dX1_leastAhead_41 rfl rfl ?_
          refine pw_callV (c := 1) (o := 151) (As := [ii_ (t + 1), ii_ i, ii_ k, ii_ a]) (rest := []) (pc := 42) dX1_leastAhead_42 (d_gainOf hC h o ho ro H P hJ hG (t + 1) (by first | omega) i k (Or.inr h3) (by first | omega) a h4) lX1_138 mX1_gainOf vX1_gainOf (hC 151 (by decide)) (show kd_ 151 = 11 by decide +kernel) rfl rfl rfl (by decide) ⟨Nat.zero_le _, Nat.zero_le _⟩ (Nat.le_of_ble_eq_true rfl) (k_i (fun z42 h42 y42 q42 => ?_))
          obtain ⟨rfl, w42⟩ := q42
          refine pw_aload_n (z := 151) (pc := 45) dX1_leastAhead_45 rfl rfl ?_
          refine pw_iload_n (z := t) (pc := 46) dX1_leastAhead_46 rfl rfl ?_
          refine pw_iconst (pc := 47) dX1_leastAhead_47 ?_
          refine pw_iadd (pc := 48) dX1_leastAhead_48 ?_
          refine pw_iload_n (z := i) (pc := 49) dX1_leastAhead_49 rfl rfl ?_
          refine pw_iload (z := k) (pc := 50) dX1_leastAhead_50 rfl ?_
          refine pw_iload (z := c) (pc := 52) dX1_leastAhead_52 rfl ?_
          refine pw_callV (c := 1) (o := 151) (As := [ii_ (t + 1), ii_ i, ii_ k, ii_ c]) (rest := [ii_ z42]) (pc := 54) dX1_leastAhead_54 (d_gainOf hC h o ho ro H P hJ hG (t + 1) (by first | omega) i k (Or.inr h3) (by first | omega) c (Or.inl h5)) lX1_138 mX1_gainOf vX1_gainOf (hC 151 (by decide)) (show kd_ 151 = 11 by decide +kernel) rfl rfl rfl (by decide) ⟨Nat.zero_le _, Nat.zero_le _⟩ (Nat.le_of_ble_eq_true rfl) (k_i (fun z54 h54 y54 q54 => ?_))
          obtain ⟨rfl, w54⟩ := q54
          refine pw_isub (pc := 57) dX1_leastAhead_57 ?_
          refine pw_istore (lv1 := [some (rr_ G 151), some (ii_ t), some (ii_ i), some (ii_ a), some (ii_ c), some (ii_ f), some (ii_ k), some (ii_ (z42 - z54))]) (pc := 58) dX1_leastAhead_58 (by decide) rfl rfl ?_
          refine pw_iload (z := f) (pc := 60) dX1_leastAhead_60 rfl ?_
          refine pw_iload (z := z42 - z54) (pc := 62) dX1_leastAhead_62 rfl ?_
          refine pw_aload_n (z := 151) (pc := 64) dX1_leastAhead_64 rfl rfl ?_
          refine pw_getR (r := 154) (pc := 65) dX1_leastAhead_65 fX1_18 (hC 151 (by decide)) (show kd_ 151 = 11 by decide +kernel) rfl (by decide +kernel) ?_
          refine pw_iload_n (z := t) (pc := 68) dX1_leastAhead_68 rfl rfl ?_
          refine pw_iconst (pc := 69) dX1_leastAhead_69 ?_
          refine pw_iadd (pc := 70) dX1_leastAhead_70 ?_
          refine pw_iload (z := k) (pc := 71) dX1_leastAhead_71 rfl ?_
          refine pw_iload_n (z := a) (pc := 73) dX1_leastAhead_73 rfl rfl ?_
          refine pw_iload (z := c) (pc := 74) dX1_leastAhead_74 rfl ?_
          refine pw_callS (As := [ii_ (t + 1), ii_ k, ii_ a, ii_ c]) (rest := [rr_ G 154, ii_ (z42 - z54), ii_ f]) (pc := 76) dX1_leastAhead_76 (d_leastPlace h (t + 1) k a c (by first | omega)) lX1_130 mX1_leastPlace sX1_leastPlace rfl rfl (by decide) ⟨Nat.zero_le _, Nat.zero_le _⟩ (Nat.le_of_ble_eq_true rfl) (k_i (fun z76 h76 y76 q76 => ?_))
          obtain ⟨rfl, rfl⟩ := q76
          refine pw_iald (pc := 79) dX1_leastAhead_79 (hC 154 (by decide)) (show kd_ 154 = 0 by decide +kernel) 1920 (by decide +kernel) (by first | omega) (by first | omega) (by first | omega) (fun r79 => ?_)
          refine pw_iadd (pc := 80) dX1_leastAhead_80 ?_
          refine pw_mmin (pc := 81) dX1_leastAhead_81 lX1_141 (by first | omega) (by first | omega) (by decide) ⟨Nat.zero_le _, Nat.zero_le _⟩ (Nat.le_of_ble_eq_true rfl) (fun z81 r81 w81 => ?_)
          refine pw_istore (lv1 := [some (rr_ G 151), some (ii_ t), some (ii_ i), some (ii_ a), some (ii_ c), some (ii_ z81), some (ii_ k), some (ii_ (z42 - z54))]) (pc := 84) dX1_leastAhead_84 (by decide) rfl rfl ?_
          refine pw_iinc (z := k) (lv1 := [some (rr_ G 151), some (ii_ t), some (ii_ i), some (ii_ a), some (ii_ c), some (ii_ z81), some (ii_ (k + 1)), some (ii_ (z42 - z54))]) (pc := 86) dX1_leastAhead_86 rfl (by decide) rfl rfl ?_
          refine pw_goto (t := 22) (pc := 89) dX1_leastAhead_89 (by decide) ?_
          refine pw_less (lv1 := [some (rr_ G 151), some (ii_ t), some (ii_ i), some (ii_ a), some (ii_ c), some (ii_ z81), some (ii_ (k + 1)), none]) rfl (by intro i v; (match i with | 0 => simp | 1 => simp | 2 => simp | 3 => simp | 4 => simp | 5 => simp | 6 => simp | 7 => simp | n + 8 => simp)) ?_
          exact ih22 _ _ (by omega) (by omega) (by
                    rw [lmn_s ak.1, ← af]
                    show _ = if gan_ ro P (ro 1 - 1 - n) i k a - gan_ ro P (ro 1 - 1 - n) i k c + leh_ ro P a c n k < f then gan_ ro P (ro 1 - 1 - n) i k a - gan_ ro P (ro 1 - 1 - n) i k c + leh_ ro P a c n k else f
                    rw [et]
                    split <;> omega) (by omega)
    exact L22 _ _ _ (by omega) (by constructor <;> decide) (rfl) (Int.self_le_toNat _)
  · refine pw_iconst (pc := 13) dX1_leastAhead_13 ?_
    exact pw_iret (pc := 14) dX1_leastAhead_14 (by first | omega) (⟨rfl, (leh_0 (by omega)).symm⟩)

set_option maxHeartbeats 4000000 in
set_option maxRecDepth 100000 in
theorem d_fillLeast {G : GT_} (hC : okC_ G) (h : PH_) (o : Nat) (ho : is6_ o) (ro : Int → Int) (H : CRD_ ro h o) (P : List (Int × Int)) (hJ : CJP_ ro h o) (hG : CJG_ ro P h) (t : Int) (h1 : 0 ≤ t ∧ t < ro 1) (hL : CJL_ ro P h (t + 1)) (i : Int) (h3 : 0 ≤ i ∧ i < (lpn_ ro 256).length) : PC G yX1_fillLeast cX1_fillLeast 6 none 3 [rr_ G 151, ii_ t, ii_ i] h (qv_ (fun h' => off_ [154] h h' ∧ (∀ a1 c1 : Int, (0 ≤ a1 ∧ a1 < ro 2 ∨ a1 = 4) → 0 ≤ c1 → c1 < ro 2 → a1 ≠ c1 → h' 154 (((a1 * 4 + c1) * 4 + t) * 24 + i) = leh_ ro P a1 c1 (ro 1 - 1 - t).toNat i) ∧ (∀ t1 i1 a1 c1 : Int, 0 ≤ t1 → t1 < 4 → 0 ≤ i1 → i1 < 24 → 0 ≤ a1 → a1 ≤ 4 → 0 ≤ c1 → c1 < 4 → (t1 ≠ t ∨ i1 ≠ i) → h' 154 (((a1 * 4 + c1) * 4 + t1) * 24 + i1) = h 154 (((a1 * 4 + c1) * 4 + t1) * 24 + i1)))) := by
  have HB := H.2.1
  have HA := H.1
  have l24 := lpn_24 (ro := ro) (by omega) (by omega)
  have hl_h := hJ.1
  have hN := hJ.2.1
  refine PC.of (lv := [some (rr_ G 151), some (ii_ t), some (ii_ i), none, none, none]) (by decide +kernel) (Nat.le_of_ble_eq_true rfl) rfl rfl ?_
  refine pw_iconst (pc := 0) dX1_fillLeast_0 ?_
  refine pw_istore_n (lv1 := [some (rr_ G 151), some (ii_ t), some (ii_ i), some (ii_ 0), none, none]) (pc := 1) dX1_fillLeast_1 rfl (by decide) rfl rfl ?_
  have L2 : ∀ (nn : Nat) (a : Int) (b1 : PH_), (0 ≤ a ∧ a ≤ 5) → (off_ [154] h b1) → (∀ a1 c1 : Int, a1 < a → (0 ≤ a1 ∧ a1 < ro 2 ∨ a1 = 4) → 0 ≤ c1 → c1 < ro 2 → a1 ≠ c1 → b1 154 (((a1 * 4 + c1) * 4 + t) * 24 + i) = leh_ ro P a1 c1 (ro 1 - 1 - t).toNat i) → (∀ t1 i1 a1 c1 : Int, 0 ≤ t1 → t1 < 4 → 0 ≤ i1 → i1 < 24 → 0 ≤ a1 → a1 ≤ 4 → 0 ≤ c1 → c1 < 4 → (t1 ≠ t ∨ i1 ≠ i) → b1 154 (((a1 * 4 + c1) * 4 + t1) * 24 + i1) = h 154 (((a1 * 4 + c1) * 4 + t1) * 24 + i1)) → ((5 - a + 1 : Int) ≤ nn) → PW G RX1 cX1_fillLeast 6 none (rm_ 3) 0 0 (zm_ G (qv_ (fun h' => off_ [154] h h' ∧ (∀ a1 c1 : Int, (0 ≤ a1 ∧ a1 < ro 2 ∨ a1 = 4) → 0 ≤ c1 → c1 < ro 2 → a1 ≠ c1 → h' 154 (((a1 * 4 + c1) * 4 + t) * 24 + i) = leh_ ro P a1 c1 (ro 1 - 1 - t).toNat i) ∧ (∀ t1 i1 a1 c1 : Int, 0 ≤ t1 → t1 < 4 → 0 ≤ i1 → i1 < 24 → 0 ≤ a1 → a1 ≤ 4 → 0 ≤ c1 → c1 < 4 → (t1 ≠ t ∨ i1 ≠ i) → h' 154 (((a1 * 4 + c1) * 4 + t1) * 24 + i1) = h 154 (((a1 * 4 + c1) * 4 + t1) * 24 + i1))))) 2 [some (rr_ G 151), some (ii_ t), some (ii_ i), some (ii_ a), none, none] [] b1 := by
    intro nn
    induction nn with
    | zero => intro a b1 bk bf bd bo ams; exfalso; omega
    | succ nn ih2 =>
      intro a b1 bk bf bd bo ams
      have hl_b1 : b1 151 0 = (o : Int) := by rw [bf 151 (by decide)]; exact hJ.1
      
      refine pw_iload_n (z := a) (pc := 2) dX1_fillLeast_2 rfl rfl ?_
      refine pw_iconst (pc := 3) dX1_fillLeast_3 ?_
      refine pw_icmp_gt (t := 90) (pc := 4) dX1_fillLeast_4 (by decide) (by first | omega) (by first | omega) (fun c4 => ?_) (fun c4 => ?_)
      · exact pw_vret (pc := 90) dX1_fillLeast_90 (⟨bf, fun a1 c1 v w x y => bd a1 c1 (by omega) v w x y, bo⟩)
      · refine pw_iconst (pc := 7) dX1_fillLeast_7 ?_
        refine pw_istore (lv1 := [some (rr_ G 151), some (ii_ t), some (ii_ i), some (ii_ a), some (ii_ 0), none]) (pc := 8) dX1_fillLeast_8 (by decide) rfl rfl ?_
        have L10 : ∀ (nn : Nat) (c : Int) (e1 : PH_), (0 ≤ c ∧ c ≤ ro 2) → (off_ [154] h e1) → (∀ a1 c1 : Int, (0 ≤ a1 ∧ a1 < ro 2 ∨ a1 = 4) → 0 ≤ c1 → c1 < ro 2 → a1 ≠ c1 → (a1 < a ∨ a1 = a ∧ c1 < c) → e1 154 (((a1 * 4 + c1) * 4 + t) * 24 + i) = leh_ ro P a1 c1 (ro 1 - 1 - t).toNat i) → (∀ t1 i1 a1 c1 : Int, 0 ≤ t1 → t1 < 4 → 0 ≤ i1 → i1 < 24 → 0 ≤ a1 → a1 ≤ 4 → 0 ≤ c1 → c1 < 4 → (t1 ≠ t ∨ i1 ≠ i) → e1 154 (((a1 * 4 + c1) * 4 + t1) * 24 + i1) = h 154 (((a1 * 4 + c1) * 4 + t1) * 24 + i1)) → ((ro 2 - c + 1 : Int) ≤ nn) → PW G RX1 cX1_fillLeast 6 none (rm_ 3) 0 0 (zm_ G (qv_ (fun h' => off_ [154] h h' ∧ (∀ a1 c1 : Int, (0 ≤ a1 ∧ a1 < ro 2 ∨ a1 = 4) → 0 ≤ c1 → c1 < ro 2 → a1 ≠ c1 → h' 154 (((a1 * 4 + c1) * 4 + t) * 24 + i) = leh_ ro P a1 c1 (ro 1 - 1 - t).toNat i) ∧ (∀ t1 i1 a1 c1 : Int, 0 ≤ t1 → t1 < 4 → 0 ≤ i1 → i1 < 24 → 0 ≤ a1 → a1 ≤ 4 → 0 ≤ c1 → c1 < 4 → (t1 ≠ t ∨ i1 ≠ i) → h' 154 (((a1 * 4 + c1) * 4 + t1) * 24 + i1) = h 154 (((a1 * 4 + c1) * 4 + t1) * 24 + i1))))) 10 [some (rr_ G 151), some (ii_ t), some (ii_ i), some (ii_ a), some (ii_ c), none] [] e1 := by
          intro nn
          induction nn with
          | zero => intro c e1 ck ef ed eo ams; exfalso; omega
          | succ nn ih10 =>
            intro c e1 ck ef ed eo ams
            have hl_e1 : e1 151 0 = (o : Int) := by rw [ef 151 (by decide)]; exact hJ.1
            have He : CRD_ ro e1 o := CRD_off H ho ef (by simp)
            have ee : ∀ i, i ≠ 154 → e1 i = h i := fun i i1 => ef i (by simp; omega)
            have Je : CJP_ ro e1 o := by unfold CJP_ CPL_ at *; rw [ee 151 (by decide), ee o (by omega), ee (o + 14) (by omega)]; exact hJ
            have Ge : CJG_ ro P e1 := by unfold CJG_ at *; rw [ee 153 (by decide)]; exact hG
            have Le : CJL_ ro P e1 (t + 1) := fun t1 i1 a1 c1 u1 u2 u3 u4 u5 u6 u7 u8 => by rw [eo t1 i1 a1 c1 (by omega) (by omega) (by omega) (by omega) (by omega) (by omega) (by omega) (by omega) (by omega)]; exact hL t1 i1 a1 c1 u1 u2 u3 u4 u5 u6 u7 u8
            refine pw_iload (z := c) (pc := 10) dX1_fillLeast_10 rfl ?_
            refine pw_aload_n (z := 151) (pc := 12) dX1_fillLeast_12 rfl rfl ?_
            have n_e1_151_0 : e1 151 0 = h 151 0 := (congrFun (ef 151 (by first | decide | (simp; done) | (simp; omega))) 0)
            refine pw_gD (x := 0) (r := o) (pc := 13) dX1_fillLeast_13 fX1_39 (hC 151 (by decide)) (show kd_ 151 = 11 by decide +kernel) rfl rfl (n_e1_151_0.trans hl_h) ?_
            refine pw_gI (x := 2) (pc := 16) dX1_fillLeast_16 fX1_94 (hC _ (by omega)) (kd6_0 ho) rfl rfl (fun r16 => ?_)
            have n_e1_o_2 : e1 o 2 = h o 2 := (congrFun (ef o (by first | decide | (simp; done) | (simp; omega))) 2)
            rw [n_e1_o_2] at r16 ⊢
            refine pw_icmp_ge (t := 84) (pc := 19) dX1_fillLeast_19 (by decide) (by first | omega | (simp only [n_e1_151_0, n_e1_o_2]; omega)) (by first | omega | (simp only [n_e1_151_0, n_e1_o_2]; omega)) (fun c19 => ?_) (fun c19 => ?_)
            · refine pw_iinc (z := a) (lv1 := [some (rr_ G 151), some (ii_ t), some (ii_ i), some (ii_ (a + 1)), some (ii_ c), none]) (pc := 84) dX1_fillLeast_84 rfl (by decide) rfl rfl ?_
              refine pw_goto (t := 2) (pc := 87) dX1_fillLeast_87 (by decide) ?_
              refine pw_less (lv1 := [some (rr_ G 151), some (ii_ t), some (ii_ i), some (ii_ (a + 1)), none, none]) rfl (by intro i v; (match i with | 0 => simp | 1 => simp | 2 => simp | 3 => simp | 4 => simp | 5 => simp | n + 6 => simp)) ?_
              exact ih2 _ _ (by omega) (ef) (fun a1 c1 u v w x y => ed a1 c1 v w x y (by omega)) (eo) (by omega)
            · refine pw_iload_n (z := a) (pc := 22) dX1_fillLeast_22 rfl rfl ?_
              refine pw_aload_n (z := 151) (pc := 23) dX1_fillLeast_23 rfl rfl ?_
              refine pw_gD (x := 0) (r := o) (pc := 24) dX1_fillLeast_24 fX1_39 (hC 151 (by decide)) (show kd_ 151 = 11 by decide +kernel) rfl rfl (n_e1_151_0.trans hl_h) ?_
              refine pw_gI (x := 2) (pc := 27) dX1_fillLeast_27 fX1_94 (hC _ (by omega)) (kd6_0 ho) rfl rfl (fun r27 => ?_)
              rw [n_e1_o_2] at r27 ⊢
              refine pw_icmp_lt (t := 38) (pc := 30) dX1_fillLeast_30 (by decide) (by first | omega | (simp only [n_e1_151_0, n_e1_o_2]; omega)) (by first | omega | (simp only [n_e1_151_0, n_e1_o_2]; omega)) (fun c30 => ?_) (fun c30 => ?_)
              · refine pw_iconst (pc := 38) dX1_fillLeast_38 ?_
                refine pw_goto (t := 43) (pc := 39) dX1_fillLeast_39 (by decide) ?_
                refine pw_istore (lv1 := [some (rr_ G 151), some (ii_ t), some (ii_ i), some (ii_ a), some (ii_ c), some (ii_ 1)]) (pc := 43) dX1_fillLeast_43 (by decide) rfl rfl ?_
                refine pw_iload (z := 1) (pc := 45) dX1_fillLeast_45 rfl ?_
                refine pw_if_eq (t := 78) (pc := 47) dX1_fillLeast_47 (by decide) (by first | omega | (simp only [n_e1_151_0, n_e1_o_2]; omega)) (fun c47 => absurd c47 (by decide)) (fun _ => ?_)
                refine pw_iload_n (z := a) (pc := 50) dX1_fillLeast_50 rfl rfl ?_
                refine pw_iload (z := c) (pc := 51) dX1_fillLeast_51 rfl ?_
                refine pw_icmp_eq (t := 78) (pc := 53) dX1_fillLeast_53 (by decide) (by first | omega | (simp only [n_e1_151_0, n_e1_o_2]; omega)) (by first | omega | (simp only [n_e1_151_0, n_e1_o_2]; omega)) (fun c53 => ?_) (fun c53 => ?_)
                · refine pw_iinc (z := c) (lv1 := [some (rr_ G 151), some (ii_ t), some (ii_ i), some (ii_ a), some (ii_ (c + 1)), some (ii_ 1)]) (pc := 78) dX1_fillLeast_78 rfl (by decide) rfl rfl ?_
                  refine pw_goto (t := 10) (pc := 81) dX1_fillLeast_81 (by decide) ?_
                  refine pw_less (lv1 := [some (rr_ G 151), some (ii_ t), some (ii_ i), some (ii_ a), some (ii_ (c + 1)), none]) rfl (by intro i v; (match i with | 0 => simp | 1 => simp | 2 => simp | 3 => simp | 4 => simp | 5 => simp | n + 6 => simp)) ?_
                  exact ih10 _ _ (by omega) (by first | exact ef | (rw [e77]; exact off_up ef (by decide))) (fun a1 c1 v w x y u => by
                            first
                            | exact ed a1 c1 v w x y (by omega)
                            | (rw [e77, up_at]
                               by_cases c9 : ((a1 * 4 + c1) * 4 + t) * 24 + i = ((a * 4 + c) * 4 + t) * 24 + i
                               · rw [if_pos c9, show a1 = a by omega, show c1 = c by omega]; exact w74
                               · rw [if_neg c9]; exact ed a1 c1 v w x y (by omega))) (fun t1 i1 a1 c1 u1 u2 u3 u4 u5 u6 u7 u8 u9 => by
                            first
                            | exact eo t1 i1 a1 c1 u1 u2 u3 u4 u5 u6 u7 u8 u9
                            | (rw [e77, up_at, if_neg (by omega)]; exact eo t1 i1 a1 c1 u1 u2 u3 u4 u5 u6 u7 u8 u9)) (by omega)
                · refine pw_aload_n (z := 151) (pc := 56) dX1_fillLeast_56 rfl rfl ?_
                  refine pw_getR (r := 154) (pc := 57) dX1_fillLeast_57 fX1_18 (hC 151 (by decide)) (show kd_ 151 = 11 by decide +kernel) rfl (by decide +kernel) ?_
                  refine pw_iload_n (z := t) (pc := 60) dX1_fillLeast_60 rfl rfl ?_
                  refine pw_iload_n (z := i) (pc := 61) dX1_fillLeast_61 rfl rfl ?_
                  refine pw_iload_n (z := a) (pc := 62) dX1_fillLeast_62 rfl rfl ?_
                  refine pw_iload (z := c) (pc := 63) dX1_fillLeast_63 rfl ?_
                  refine pw_callS (As := [ii_ t, ii_ i, ii_ a, ii_ c]) (rest := [rr_ G 154]) (pc := 65) dX1_fillLeast_65 (d_leastPlace e1 t i a c (by first | omega | (simp only [n_e1_151_0, n_e1_o_2]; omega))) lX1_130 mX1_leastPlace sX1_leastPlace rfl rfl (by decide) ⟨Nat.zero_le _, Nat.zero_le _⟩ (Nat.le_of_ble_eq_true rfl) (k_i (fun z65 h65 y65 q65 => ?_))
                  obtain ⟨rfl, rfl⟩ := q65
                  refine pw_aload_n (z := 151) (pc := 68) dX1_fillLeast_68 rfl rfl ?_
                  refine pw_iload_n (z := t) (pc := 69) dX1_fillLeast_69 rfl rfl ?_
                  refine pw_iload_n (z := i) (pc := 70) dX1_fillLeast_70 rfl rfl ?_
                  refine pw_iload_n (z := a) (pc := 71) dX1_fillLeast_71 rfl rfl ?_
                  refine pw_iload (z := c) (pc := 72) dX1_fillLeast_72 rfl ?_
                  refine pw_callV (c := 1) (o := 151) (As := [ii_ t, ii_ i, ii_ a, ii_ c]) (rest := [ii_ (((a * 4 + c) * 4 + t) * 24 + i), rr_ G 154]) (pc := 74) dX1_fillLeast_74 (d_leastAhead hC e1 o ho ro He P Je Ge t h1 Le i a c h3 (by first | omega | (simp only [n_e1_151_0, n_e1_o_2]; omega)) (by first | omega | (simp only [n_e1_151_0, n_e1_o_2]; omega)) (by first | omega | (simp only [n_e1_151_0, n_e1_o_2]; omega))) lX1_134 mX1_leastAhead vX1_leastAhead (hC 151 (by decide)) (show kd_ 151 = 11 by decide +kernel) rfl rfl rfl (by decide) ⟨Nat.zero_le _, Nat.zero_le _⟩ (Nat.le_of_ble_eq_true rfl) (k_i (fun z74 h74 y74 q74 => ?_))
                  obtain ⟨rfl, w74⟩ := q74
                  refine pw_iast (pc := 77) dX1_fillLeast_77 (hC 154 (by decide)) (show kd_ 154 = 0 by decide +kernel) 1920 (by decide +kernel) (by first | omega | (simp only [n_e1_151_0, n_e1_o_2]; omega)) (by first | omega | (simp only [n_e1_151_0, n_e1_o_2]; omega)) (by first | omega | (simp only [n_e1_151_0, n_e1_o_2]; omega)) (by first | omega | (simp only [n_e1_151_0, n_e1_o_2]; omega)) ?_
                  obtain ⟨g77, e77⟩ : ∃ x, x = up_ e1 154 (((a * 4 + c) * 4 + t) * 24 + i) z74 := ⟨_, rfl⟩
                  refine pw_heq e77 ?_
                  refine pw_iinc (z := c) (lv1 := [some (rr_ G 151), some (ii_ t), some (ii_ i), some (ii_ a), some (ii_ (c + 1)), some (ii_ 1)]) (pc := 78) dX1_fillLeast_78 rfl (by decide) rfl rfl ?_
                  refine pw_goto (t := 10) (pc := 81) dX1_fillLeast_81 (by decide) ?_
                  refine pw_less (lv1 := [some (rr_ G 151), some (ii_ t), some (ii_ i), some (ii_ a), some (ii_ (c + 1)), none]) rfl (by intro i v; (match i with | 0 => simp | 1 => simp | 2 => simp | 3 => simp | 4 => simp | 5 => simp | n + 6 => simp)) ?_
                  exact ih10 _ _ (by omega) (by first | exact ef | (rw [e77]; exact off_up ef (by decide))) (fun a1 c1 v w x y u => by
                            first
                            | exact ed a1 c1 v w x y (by omega)
                            | (rw [e77, up_at]
                               by_cases c9 : ((a1 * 4 + c1) * 4 + t) * 24 + i = ((a * 4 + c) * 4 + t) * 24 + i
                               · rw [if_pos c9, show a1 = a by omega, show c1 = c by omega]; exact w74
                               · rw [if_neg c9]; exact ed a1 c1 v w x y (by omega))) (fun t1 i1 a1 c1 u1 u2 u3 u4 u5 u6 u7 u8 u9 => by
                            first
                            | exact eo t1 i1 a1 c1 u1 u2 u3 u4 u5 u6 u7 u8 u9
                            | (rw [e77, up_at, if_neg (by omega)]; exact eo t1 i1 a1 c1 u1 u2 u3 u4 u5 u6 u7 u8 u9)) (by omega)
              · refine pw_iload_n (z := a) (pc := 33) dX1_fillLeast_33 rfl rfl ?_
                refine pw_iconst (pc := 34) dX1_fillLeast_34 ?_
                refine pw_icmp_ne (t := 42) (pc := 35) dX1_fillLeast_35 (by decide) (by first | omega | (simp only [n_e1_151_0, n_e1_o_2]; omega)) (by first | omega | (simp only [n_e1_151_0, n_e1_o_2]; omega)) (fun c35 => ?_) (fun c35 => ?_)
                · refine pw_iconst (pc := 42) dX1_fillLeast_42 ?_
                  refine pw_istore (lv1 := [some (rr_ G 151), some (ii_ t), some (ii_ i), some (ii_ a), some (ii_ c), some (ii_ 0)]) (pc := 43) dX1_fillLeast_43 (by decide) rfl rfl ?_
                  refine pw_iload (z := 0) (pc := 45) dX1_fillLeast_45 rfl ?_
                  refine pw_if_eq (t := 78) (pc := 47) dX1_fillLeast_47 (by decide) (by first | omega | (simp only [n_e1_151_0, n_e1_o_2]; omega)) (fun _ => ?_) (fun c47 => absurd c47 (by decide))
                  refine pw_iinc (z := c) (lv1 := [some (rr_ G 151), some (ii_ t), some (ii_ i), some (ii_ a), some (ii_ (c + 1)), some (ii_ 0)]) (pc := 78) dX1_fillLeast_78 rfl (by decide) rfl rfl ?_
                  refine pw_goto (t := 10) (pc := 81) dX1_fillLeast_81 (by decide) ?_
                  refine pw_less (lv1 := [some (rr_ G 151), some (ii_ t), some (ii_ i), some (ii_ a), some (ii_ (c + 1)), none]) rfl (by intro i v; (match i with | 0 => simp | 1 => simp | 2 => simp | 3 => simp | 4 => simp | 5 => simp | n + 6 => simp)) ?_
                  exact ih10 _ _ (by omega) (by first | exact ef | (rw [e77]; exact off_up ef (by decide))) (fun a1 c1 v w x y u => by
                            first
                            | exact ed a1 c1 v w x y (by omega)
                            | (rw [e77, up_at]
                               by_cases c9 : ((a1 * 4 + c1) * 4 + t) * 24 + i = ((a * 4 + c) * 4 + t) * 24 + i
                               · rw [if_pos c9, show a1 = a by omega, show c1 = c by omega]; exact w74
                               · rw [if_neg c9]; exact ed a1 c1 v w x y (by omega))) (fun t1 i1 a1 c1 u1 u2 u3 u4 u5 u6 u7 u8 u9 => by
                            first
                            | exact eo t1 i1 a1 c1 u1 u2 u3 u4 u5 u6 u7 u8 u9
                            | (rw [e77, up_at, if_neg (by omega)]; exact eo t1 i1 a1 c1 u1 u2 u3 u4 u5 u6 u7 u8 u9)) (by omega)
                · refine pw_iconst (pc := 38) dX1_fillLeast_38 ?_
                  refine pw_goto (t := 43) (pc := 39) dX1_fillLeast_39 (by decide) ?_
                  refine pw_istore (lv1 := [some (rr_ G 151), some (ii_ t), some (ii_ i), some (ii_ a), some (ii_ c), some (ii_ 1)]) (pc := 43) dX1_fillLeast_43 (by decide) rfl rfl ?_
                  refine pw_iload (z := 1) (pc := 45) dX1_fillLeast_45 rfl ?_
                  refine pw_if_eq (t := 78) (pc := 47) dX1_fillLeast_47 (by decide) (by first | omega | (simp only [n_e1_151_0, n_e1_o_2]; omega)) (fun c47 => absurd c47 (by decide)) (fun _ => ?_)
                  refine pw_iload_n (z := a) (pc := 50) dX1_fillLeast_50 rfl rfl ?_
                  refine pw_iload (z := c) (pc := 51) dX1_fillLeast_51 rfl ?_
                  refine pw_icmp_eq (t := 78) (pc := 53) dX1_fillLeast_53 (by decide) (by first | omega | (simp only [n_e1_151_0, n_e1_o_2]; omega)) (by first | omega | (simp only [n_e1_151_0, n_e1_o_2]; omega)) (fun c53 => ?_) (fun c53 => ?_)
                  · refine pw_iinc (z := c) (lv1 := [some (rr_ G 151), some (ii_ t), some (ii_ i), some (ii_ a), some (ii_ (c + 1)), some (ii_ 1)]) (pc := 78) dX1_fillLeast_78 rfl (by decide) rfl rfl ?_
                    refine pw_goto (t := 10) (pc := 81) dX1_fillLeast_81 (by decide) ?_
                    refine pw_less (lv1 := [some (rr_ G 151), some (ii_ t), some (ii_ i), some (ii_ a), some (ii_ (c + 1)), none]) rfl (by intro i v; (match i with | 0 => simp | 1 => simp | 2 => simp | 3 => simp | 4 => simp | 5 => simp | n + 6 => simp)) ?_
                    exact ih10 _ _ (by omega) (by first | exact ef | (rw [e77]; exact off_up ef (by decide))) (fun a1 c1 v w x y u => by
                              first
                              | exact ed a1 c1 v w x y (by omega)
                              | (rw [e77, up_at]
                                 by_cases c9 : ((a1 * 4 + c1) * 4 + t) * 24 + i = ((a * 4 + c) * 4 + t) * 24 + i
                                 · rw [if_pos c9, show a1 = a by omega, show c1 = c by omega]; exact w74
                                 · rw [if_neg c9]; exact ed a1 c1 v w x y (by omega))) (fun t1 i1 a1 c1 u1 u2 u3 u4 u5 u6 u7 u8 u9 => by
                              first
                              | exact eo t1 i1 a1 c1 u1 u2 u3 u4 u5 u6 u7 u8 u9
                              | (rw [e77, up_at, if_neg (by omega)]; exact eo t1 i1 a1 c1 u1 u2 u3 u4 u5 u6 u7 u8 u9)) (by omega)
                  · refine pw_aload_n (z := 151) (pc := 56) dX1_fillLeast_56 rfl rfl ?_
                    refine pw_getR (r := 154) (pc := 57) dX1_fillLeast_57 fX1_18 (hC 151 (by decide)) (show kd_ 151 = 11 by decide +kernel) rfl (by decide +kernel) ?_
                    refine pw_iload_n (z := t) (pc := 60) dX1_fillLeast_60 rfl rfl ?_
                    refine pw_iload_n (z := i) (pc := 61) dX1_fillLeast_61 rfl rfl ?_
                    refine pw_iload_n (z := a) (pc := 62) dX1_fillLeast_62 rfl rfl ?_
                    refine pw_iload (z := c) (pc := 63) dX1_fillLeast_63 rfl ?_
                    refine pw_callS (As := [ii_ t, ii_ i, ii_ a, ii_ c]) (rest := [rr_ G 154]) (pc := 65) dX1_fillLeast_65 (d_leastPlace e1 t i a c (by first | omega | (simp only [n_e1_151_0, n_e1_o_2]; omega))) lX1_130 mX1_leastPlace sX1_leastPlace rfl rfl (by decide) ⟨Nat.zero_le _, Nat.zero_le _⟩ (Nat.le_of_ble_eq_true rfl) (k_i (fun z65 h65 y65 q65 => ?_))
                    obtain ⟨rfl, rfl⟩ := q65
                    refine pw_aload_n (z := 151) (pc := 68) dX1_fillLeast_68 rfl rfl ?_
                    refine pw_iload_n (z := t) (pc := 69) dX1_fillLeast_69 rfl rfl ?_
                    refine pw_iload_n (z := i) (pc := 70) dX1_fillLeast_70 rfl rfl ?_
                    refine pw_iload_n (z := a) (pc := 71) dX1_fillLeast_71 rfl rfl ?_
                    refine pw_iload (z := c) (pc := 72) dX1_fillLeast_72 rfl ?_
                    refine pw_callV (c := 1) (o := 151) (As := [ii_ t, ii_ i, ii_ a, ii_ c]) (rest := [ii_ (((a * 4 + c) * 4 + t) * 24 + i), rr_ G 154]) (pc := 74) dX1_fillLeast_74 (d_leastAhead hC e1 o ho ro He P Je Ge t h1 Le i a c h3 (by first | omega | (simp only [n_e1_151_0, n_e1_o_2]; omega)) (by first | omega | (simp only [n_e1_151_0, n_e1_o_2]; omega)) (by first | omega | (simp only [n_e1_151_0, n_e1_o_2]; omega))) lX1_134 mX1_leastAhead vX1_leastAhead (hC 151 (by decide)) (show kd_ 151 = 11 by decide +kernel) rfl rfl rfl (by decide) ⟨Nat.zero_le _, Nat.zero_le _⟩ (Nat.le_of_ble_eq_true rfl) (k_i (fun z74 h74 y74 q74 => ?_))
                    obtain ⟨rfl, w74⟩ := q74
                    refine pw_iast (pc := 77) dX1_fillLeast_77 (hC 154 (by decide)) (show kd_ 154 = 0 by decide +kernel) 1920 (by decide +kernel) (by first | omega | (simp only [n_e1_151_0, n_e1_o_2]; omega)) (by first | omega | (simp only [n_e1_151_0, n_e1_o_2]; omega)) (by first | omega | (simp only [n_e1_151_0, n_e1_o_2]; omega)) (by first | omega | (simp only [n_e1_151_0, n_e1_o_2]; omega)) ?_
                    obtain ⟨g77, e77⟩ : ∃ x, x = up_ e1 154 (((a * 4 + c) * 4 + t) * 24 + i) z74 := ⟨_, rfl⟩
                    refine pw_heq e77 ?_
                    refine pw_iinc (z := c) (lv1 := [some (rr_ G 151), some (ii_ t), some (ii_ i), some (ii_ a), some (ii_ (c + 1)), some (ii_ 1)]) (pc := 78) dX1_fillLeast_78 rfl (by decide) rfl rfl ?_
                    refine pw_goto (t := 10) (pc := 81) dX1_fillLeast_81 (by decide) ?_
                    refine pw_less (lv1 := [some (rr_ G 151), some (ii_ t), some (ii_ i), some (ii_ a), some (ii_ (c + 1)), none]) rfl (by intro i v; (match i with | 0 => simp | 1 => simp | 2 => simp | 3 => simp | 4 => simp | 5 => simp | n + 6 => simp)) ?_
                    exact ih10 _ _ (by omega) (by first | exact ef | (rw [e77]; exact off_up ef (by decide))) (fun a1 c1 v w x y u => by
                              first
                              | exact ed a1 c1 v w x y (by omega)
                              | (rw [e77, up_at]
                                 by_cases c9 : ((a1 * 4 + c1) * 4 + t) * 24 + i = ((a * 4 + c) * 4 + t) * 24 + i
                                 · rw [if_pos c9, show a1 = a by omega, show c1 = c by omega]; exact w74
                                 · rw [if_neg c9]; exact ed a1 c1 v w x y (by omega))) (fun t1 i1 a1 c1 u1 u2 u3 u4 u5 u6 u7 u8 u9 => by
                              first
                              | exact eo t1 i1 a1 c1 u1 u2 u3 u4 u5 u6 u7 u8 u9
                              | (rw [e77, up_at, if_neg (by omega)]; exact eo t1 i1 a1 c1 u1 u2 u3 u4 u5 u6 u7 u8 u9)) (by omega)
        exact L10 _ _ _ (by omega) (bf) (fun a1 c1 v w x y u => bd a1 c1 (by omega) v w x y) (bo) (Int.self_le_toNat _)
  exact L2 _ _ _ (by omega) (off_rf) (fun a1 c1 u v => by omega) (fun _ _ _ _ _ _ _ _ _ _ _ _ _ => rfl) (Int.self_le_toNat _)

