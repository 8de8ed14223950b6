set_option maxHeartbeats 4000000 in
set_option maxRecDepth 100000 in
theorem d_jbegin {G : GT_} (hC : okC_ G) (h : PH_) (o : Nat) (ho : is6_ o) : PC G yX1_begin cX1_begin 2 none 1 [rr_ G 151, rr_ G o] h (qv_ (fun h' => off_ [151] h h' ∧ h' 151 0 = (o : Int) ∧ h' 151 1 = 0 ∧ h' 151 11 = 0 ∧ h' 151 13 = 0 ∧ h' 151 16 = -2147483648)) := by
  refine PC.of (lv := [some (rr_ G 151), some (rr_ G o)]) (by decide +kernel) (Nat.le_of_ble_eq_true rfl) rfl rfl ?_
  refine pw_aload_n (z := 151) (pc := 0) dX1_begin_0 rfl rfl ?_
  refine pw_aload_n (z := o) (pc := 1) dX1_begin_1 rfl rfl ?_
  refine pw_pD (x := 0) (nm := "MiddleSeat$Road") (pc := 2) dX1_begin_2 fX1_39 (hC 151 (by decide)) (show kd_ 151 = 11 by decide +kernel) rfl rfl (by decide +kernel) (by first | omega) ?_
  obtain ⟨g2, e2⟩ : ∃ x, x = up_ h 151 0 ((o : Nat) : Int) := ⟨_, rfl⟩
  refine pw_heq e2 ?_
  refine pw_aload_n (z := 151) (pc := 5) dX1_begin_5 rfl rfl ?_
  refine pw_iconst (pc := 6) dX1_begin_6 ?_
  refine pw_pZ (x := 1) (pc := 7) dX1_begin_7 fX1_43 (hC 151 (by decide)) (show kd_ 151 = 11 by decide +kernel) rfl rfl (by first | omega) ?_
  obtain ⟨g7, e7⟩ : ∃ x, x = up_ g2 151 1 0 := ⟨_, rfl⟩
  refine pw_heq e7 ?_
  refine pw_aload_n (z := 151) (pc := 10) dX1_begin_10 rfl rfl ?_
  refine pw_iconst (pc := 11) dX1_begin_11 ?_
  refine pw_pI (x := 11) (pc := 12) dX1_begin_12 fX1_47 (hC 151 (by decide)) (show kd_ 151 = 11 by decide +kernel) rfl rfl (by first | omega) ?_
  obtain ⟨g12, e12⟩ : ∃ x, x = up_ g7 151 11 0 := ⟨_, rfl⟩
  refine pw_heq e12 ?_
  refine pw_aload_n (z := 151) (pc := 15) dX1_begin_15 rfl rfl ?_
  refine pw_iconst (pc := 16) dX1_begin_16 ?_
  refine pw_pI (x := 13) (pc := 17) dX1_begin_17 fX1_51 (hC 151 (by decide)) (show kd_ 151 = 11 by decide +kernel) rfl rfl (by first | omega) ?_
  obtain ⟨g17, e17⟩ : ∃ x, x = up_ g12 151 13 0 := ⟨_, rfl⟩
  refine pw_heq e17 ?_
  refine pw_aload_n (z := 151) (pc := 20) dX1_begin_20 rfl rfl ?_
  refine pw_ldc (z := -2147483648) (pc := 21) dX1_begin_21 kX1_56 rfl ?_
  refine pw_pI (x := 16) (pc := 23) dX1_begin_23 fX1_57 (hC 151 (by decide)) (show kd_ 151 = 11 by decide +kernel) rfl rfl (by first | omega) ?_
  obtain ⟨g23, e23⟩ : ∃ x, x = up_ g17 151 16 (-2147483648) := ⟨_, rfl⟩
  refine pw_heq e23 ?_
  exact pw_vret (pc := 26) dX1_begin_26 (by
            have a : ∀ k, g23 151 k = ob_ (ob_ (ob_ (ob_ (ob_ (h 151) 0 (o : Int)) 1 0) 11 0) 13 0) 16 (-2147483648) k := fun k => by rw [e23, up_ob, e17, up_ob, e12, up_ob, e7, up_ob, e2, up_ob]
            refine ⟨by rw [e23, e17, e12, e7, e2]; exact off_up (off_up (off_up (off_up (off_up off_rf (by decide)) (by decide)) (by decide)) (by decide)) (by decide), ?_, ?_, ?_, ?_, ?_⟩ <;> rw [a] <;> rfl)

set_option linter.constructorNameAsVariable false in
set_option maxHeartbeats 4000000 in
set_option maxRecDepth 100000 in
theorem d_greatestLeast {G : GT_} (hC : okC_ G) (h : PH_) (o : Nat) (ho : is6_ o) (ro : Int → Int) (P : List (Int × Int)) (hjo : jon_ ro P o h) (hR : 1 ≤ ro 2) (hpa : ∀ r, 0 ≤ r → r < ro 2 → 0 ≤ ro (31 + 4 * r + 2) ∧ ro (31 + 4 * r + 2) ≤ 9999) (hw : h 151 16 = -2147483648 ∨ jls_ h (skb_ ro P 2 12 (pas_ ro))) : PC G yX1_greatestLeast cX1_greatestLeast 1 (some .int) 8 [rr_ G 151] h (qi_ (fun z h' => off_ [151, 156, 157] h h' ∧ (∀ k, k ≠ 16 → h' 151 k = h 151 k) ∧ jls_ h' (skb_ ro P 2 12 (pas_ ro)) ∧ z = h' 151 16)) := by
  have H := hjo.1
  have hJ := hjo.2.1
  have HB := H.2.1
  have HA := H.1
  have l24 := lpn_24 (ro := ro) (by omega) (by omega)
  have hl_h := hJ.1
  have hN := hJ.2.1
  refine PC.of (lv := [some (rr_ G 151)]) (by decide +kernel) (Nat.le_of_ble_eq_true rfl) rfl rfl ?_
  refine pw_aload_n (z := 151) (pc := 0) dX1_greatestLeast_0 rfl rfl ?_
  refine pw_gI (x := 16) (pc := 1) dX1_greatestLeast_1 fX1_57 (hC 151 (by decide)) (show kd_ 151 = 11 by decide +kernel) rfl rfl (fun r1 => ?_)
  refine pw_ldc (z := -2147483648) (pc := 4) dX1_greatestLeast_4 kX1_56 rfl ?_
  refine pw_icmp_ne (t := 52) (pc := 6) dX1_greatestLeast_6 (by decide) (by first | omega) (by first | omega) (fun c6 => ?_) (fun c6 => ?_)
  · refine pw_aload_n (z := 151) (pc := 52) dX1_greatestLeast_52 rfl rfl ?_
    refine pw_gI (x := 16) (pc := 53) dX1_greatestLeast_53 fX1_57 (hC 151 (by decide)) (show kd_ 151 = 11 by decide +kernel) rfl rfl (fun r53 => ?_)
    exact pw_iret (pc := 56) dX1_greatestLeast_56 (by first | omega) (by
              rcases hw with hw | hw
              · exact absurd hw c6
              · exact ⟨off_rf, fun _ _ => rfl, hw, rfl⟩)
  · refine pw_aload_n (z := 151) (pc := 9) dX1_greatestLeast_9 rfl rfl ?_
    refine pw_gD (x := 0) (r := o) (pc := 10) dX1_greatestLeast_10 fX1_39 (hC 151 (by decide)) (show kd_ 151 = 11 by decide +kernel) rfl rfl hl_h ?_
    refine pw_getR (r := (o + 5)) (pc := 13) dX1_greatestLeast_13 fX1_60 (hC _ (by omega)) (kd6_0 ho) rfl rfl ?_
    refine pw_iconst (pc := 16) dX1_greatestLeast_16 ?_
    refine pw_aload_n (z := 151) (pc := 17) dX1_greatestLeast_17 rfl rfl ?_
    refine pw_getR (r := 156) (pc := 18) dX1_greatestLeast_18 fX1_24 (hC 151 (by decide)) (show kd_ 151 = 11 by decide +kernel) rfl (by decide +kernel) ?_
    refine pw_iconst (pc := 21) dX1_greatestLeast_21 ?_
    refine pw_iconst (pc := 22) dX1_greatestLeast_22 ?_
    refine pw_copy (n0 := 4) (n1 := 20) (pc := 23) dX1_greatestLeast_23 lX1_65 (hC _ (by omega)) (hC 156 (by decide)) (kd6_5 ho) (show kd_ 156 = 0 by decide +kernel) (ln6_5 ho) (by decide +kernel) (by first | omega) (by first | omega) (by first | omega) (by decide) (by decide) (Nat.le_of_ble_eq_true rfl) ?_
    obtain ⟨g23, e23⟩ : ∃ x, x = sc_ h 156 (fun x => if 0 ≤ x ∧ x < 0 + 4 then h (o + 5) (x - 0 + 0) else h 156 x) := ⟨_, rfl⟩
    refine pw_heq e23 ?_
    have f23 : off_ [156] h g23 := fun j hj => by rw [e23]; exact sc_off (by simpa using hj)
    have f23' : off_ [151, 156, 157] h g23 := off_mo f23 (by decide)
    have j23 := jon_mv ho (off_mo f23 (by decide)) (by rw [f23 151 (by decide)]) hjo
    have hl_g23 := j23.2.1.1
    have H23 := j23.1
    have t23 : ∀ r, 0 ≤ r → r < ro 2 → g23 156 r = pas_ ro r := fun r r0 r1 => by
      rw [e23, sc_at]
      show (if _ then _ else _) = _
      rw [if_pos (by omega), show r - 0 + 0 = r by omega]
      exact (H.2.2.2.1 r r0 r1).2.2.1
    have tb23 : ∀ r, 0 ≤ r → r < ro 2 → 0 ≤ g23 156 r ∧ g23 156 r ≤ 9999 := fun r r0 r1 => by rw [t23 r r0 r1]; exact hpa r r0 r1
    refine pw_aload_n (z := 151) (pc := 26) dX1_greatestLeast_26 rfl rfl ?_
    have n_g23_151_0 : g23 151 0 = h 151 0 := (congrFun (f23 151 (by first | decide | (simp; done) | (simp; omega))) 0)
    refine pw_gD (x := 0) (r := o) (pc := 27) dX1_greatestLeast_27 fX1_39 (hC 151 (by decide)) (show kd_ 151 = 11 by decide +kernel) rfl rfl (n_g23_151_0.trans hl_h) ?_
    refine pw_gI (x := 1) (pc := 30) dX1_greatestLeast_30 fX1_78 (hC _ (by omega)) (kd6_0 ho) rfl rfl (fun r30 => ?_)
    have n_g23_o_1 : g23 o 1 = h o 1 := (congrFun (f23 o (by first | decide | (simp; done) | (simp; omega))) 1)
    rw [n_g23_o_1] at r30 ⊢
    refine pw_if_ne (t := 47) (pc := 33) dX1_greatestLeast_33 (by decide) (by first | omega | (simp only [n_g23_151_0, n_g23_o_1]; omega)) (fun c33 => ?_) (fun c33 => ?_)
    · have pre : wpr_ ro P o (ro 1 - 1).toNat 0 0 none g23 := by
        refine ⟨j23, hR, by omega, by omega, fun j j0 j1 => by omega, fun r r0 r1 => ?_, ?_⟩
        · rw [show 4 * (0 : Int) + r = r by omega]
          have := tb23 r r0 r1
          omega
        · show g23 151 16 = _
          rw [f23 151 (by decide)]; omega
      refine pw_aload_n (z := 151) (pc := 47) dX1_greatestLeast_47 rfl rfl ?_
      refine pw_iconst (pc := 48) dX1_greatestLeast_48 ?_
      refine pw_callV (c := 1) (o := 151) (As := [ii_ 0]) (rest := []) (pc := 49) dX1_greatestLeast_49 (d_least hC ho ro P (ro 1 - 1).toNat g23 0 0 none pre) lX1_85 mX1_leastFrom vX1_leastFrom (hC 151 (by decide)) (show kd_ 151 = 11 by decide +kernel) rfl rfl rfl ⟨by show 3 + (ro 1 - 1).toNat + 1 ≤ 8; omega, by show 19 + 4 + 60 * (3 + (ro 1 - 1).toNat) ≤ 60 * 8; omega⟩ ⟨Nat.zero_le _, Nat.zero_le _⟩ (Nat.le_of_ble_eq_true rfl) (k_v (fun h49 q49 => ?_))
      obtain ⟨f49, b49⟩ := q49
      rw [← skb_e (pa := pas_ ro) (show (ro 1).toNat = (ro 1 - 1).toNat + 1 by omega) (g23 157) (fun r => g23 156 (4 * 0 + r)) (by omega) (fun r r0 r1 => by show pas_ ro r = g23 156 (4 * 0 + r); rw [show 4 * (0 : Int) + r = r by omega, t23 r r0 r1])] at b49
      refine pw_aload_n (z := 151) (pc := 52) dX1_greatestLeast_52 rfl rfl ?_
      refine pw_gI (x := 16) (pc := 53) dX1_greatestLeast_53 fX1_57 (hC 151 (by decide)) (show kd_ 151 = 11 by decide +kernel) rfl rfl (fun r53 => ?_)
      exact pw_iret (pc := 56) dX1_greatestLeast_56 (by first | omega | (simp only [n_g23_151_0, n_g23_o_1]; omega)) (by
                refine ⟨off_tr f23' f49.1, fun k k1 => by rw [f49.2.1 k k1, f23 151 (by decide)], ?_, rfl⟩
                exact b49)
    · refine pw_aload_n (z := 151) (pc := 36) dX1_greatestLeast_36 rfl rfl ?_
      refine pw_aload_n (z := 151) (pc := 37) dX1_greatestLeast_37 rfl rfl ?_
      refine pw_callV (c := 1) (o := 151) (As := []) (rest := [rr_ G 151]) (pc := 38) dX1_greatestLeast_38 (d_leastTotal hC g23 o ho ro H23 hl_g23) lX1_81 mX1_leastTotal vX1_leastTotal (hC 151 (by decide)) (show kd_ 151 = 11 by decide +kernel) rfl rfl rfl (by decide) ⟨Nat.zero_le _, Nat.zero_le _⟩ (Nat.le_of_ble_eq_true rfl) (k_i (fun z38 h38 y38 q38 => ?_))
      obtain ⟨rfl, w38⟩ := q38
      refine pw_pI (x := 16) (pc := 41) dX1_greatestLeast_41 fX1_57 (hC 151 (by decide)) (show kd_ 151 = 11 by decide +kernel) rfl rfl (by first | omega | (simp only [n_g23_151_0, n_g23_o_1]; omega)) ?_
      obtain ⟨g41, e41⟩ : ∃ x, x = up_ g23 151 16 z38 := ⟨_, rfl⟩
      refine pw_heq e41 ?_
      refine pw_goto (t := 52) (pc := 44) dX1_greatestLeast_44 (by decide) ?_
      refine pw_aload_n (z := 151) (pc := 52) dX1_greatestLeast_52 rfl rfl ?_
      refine pw_gI (x := 16) (pc := 53) dX1_greatestLeast_53 fX1_57 (hC 151 (by decide)) (show kd_ 151 = 11 by decide +kernel) rfl rfl (fun r53 => ?_)
      rw [show g41 151 16 = z38 from by rw [e41, up_same]] at r53 ⊢
      exact pw_iret (pc := 56) dX1_greatestLeast_56 (by first | omega | (simp only [n_g23_151_0, n_g23_o_1]; omega)) (by
                have k41 : ∀ k, g41 151 k = ob_ (h 151) 16 z38 k := fun k => by rw [e41, up_ob, f23 151 (by decide)]
                have ez : z38 = mn_ (pas_ ro) 0 (ro 2 - 1).toNat := by
                  rw [w38, lmn_cg (g := pas_ ro) (ro 2).toNat (fun r r0 r1 => t23 r r0 (by omega)), lmn_mn hR (fun r r0 r1 => by have := hpa r r0 r1; show ro (31 + 4 * r + 2) < _; omega)]
                have ek : skb_ ro P 2 12 (pas_ ro) = some (-(mn_ (pas_ ro) 0 (ro 2 - 1).toNat), 0, trn_ (ro 1) (fun j => pL_ ro 0), trn_ (ro 2) (pas_ ro)) := by
                  unfold skb_
                  rw [show (ro 1).toNat = 0 by omega]
                  exact lok2_y hR trivial
                have mb := mn_b (f := pas_ ro) (i := 0) (B := 9999) (ro 2 - 1).toNat (fun r r0 r1 => by have := hpa r r0 (by omega); rw [Int.zero_add]; show -9999 ≤ ro (31 + 4 * r + 2) ∧ ro (31 + 4 * r + 2) ≤ 9999; omega)
                refine ⟨by rw [e41]; exact off_up f23' (by decide), fun k k1 => by rw [k41]; exact if_neg k1, ?_, by rw [k41]; rfl⟩
                rw [ek]
                exact ⟨by rw [k41, ez]; show _ = -(-_); rw [Int.neg_neg]; rfl, by show _ ≤ -(mn_ _ _ _); omega, by show -(mn_ _ _ _) ≤ _; omega⟩)

set_option maxHeartbeats 4000000 in
set_option maxRecDepth 100000 in
theorem d_countTill {G : GT_} (hC : okC_ G) (h : PH_) (o : Nat) (ho : is6_ o) (ro : Int → Int) (P : List (Int × Int)) (hjo : jon_ ro P o h) (hR : 1 ≤ ro 2) (hpa : ∀ r, 0 ≤ r → r < ro 2 → 0 ≤ ro (31 + 4 * r + 2) ∧ ro (31 + 4 * r + 2) ≤ 9999) (hcd : ro 1 = 0 ∨ 0 < (lpn_ ro 256).length) : PC G yX1_countTillEven cX1_countTillEven 2 (some .int) 9 [rr_ G 151] h (qi_ (fun z h' => off_ [151, 156, 157, 158, 159] h h' ∧ (∀ k, k ≠ 12 → k ≠ 14 → k ≠ 15 → h' 151 k = h 151 k) ∧ z = (aft_ ro (skb_ ro P 0 12) 20 1 (pas_ ro)))) := by
  have H := hjo.1
  have hJ := hjo.2.1
  have HB := H.2.1
  have HA := H.1
  have l24 := lpn_24 (ro := ro) (by omega) (by omega)
  have hl_h := hJ.1
  have hN := hJ.2.1
  refine PC.of (lv := [some (rr_ G 151), none]) (by decide +kernel) (Nat.le_of_ble_eq_true rfl) rfl rfl ?_
  refine pw_aload_n (z := 151) (pc := 0) dX1_countTillEven_0 rfl rfl ?_
  refine pw_gD (x := 0) (r := o) (pc := 1) dX1_countTillEven_1 fX1_39 (hC 151 (by decide)) (show kd_ 151 = 11 by decide +kernel) rfl rfl hl_h ?_
  refine pw_getR (r := (o + 5)) (pc := 4) dX1_countTillEven_4 fX1_60 (hC _ (by omega)) (kd6_0 ho) rfl rfl ?_
  refine pw_iconst (pc := 7) dX1_countTillEven_7 ?_
  refine pw_aload_n (z := 151) (pc := 8) dX1_countTillEven_8 rfl rfl ?_
  refine pw_getR (r := 156) (pc := 9) dX1_countTillEven_9 fX1_24 (hC 151 (by decide)) (show kd_ 151 = 11 by decide +kernel) rfl (by decide +kernel) ?_
  refine pw_iconst (pc := 12) dX1_countTillEven_12 ?_
  refine pw_iconst (pc := 13) dX1_countTillEven_13 ?_
  refine pw_copy (n0 := 4) (n1 := 20) (pc := 14) dX1_countTillEven_14 lX1_65 (hC _ (by omega)) (hC 156 (by decide)) (kd6_5 ho) (show kd_ 156 = 0 by decide +kernel) (ln6_5 ho) (by decide +kernel) (by first | omega) (by first | omega) (by first | omega) (by decide) (by decide) (Nat.le_of_ble_eq_true rfl) ?_
  obtain ⟨g14, e14⟩ : ∃ x, x = sc_ h 156 (fun x => if 0 ≤ x ∧ x < 0 + 4 then h (o + 5) (x - 0 + 0) else h 156 x) := ⟨_, rfl⟩
  refine pw_heq e14 ?_
  have f14 : off_ [156] h g14 := fun j hj => by rw [e14]; exact sc_off (by simpa using hj)
  have t14 : ∀ r, 0 ≤ r → r < ro 2 → g14 156 r = pas_ ro r := fun r r0 r1 => by
    rw [e14, sc_at]
    show (if _ then _ else _) = _
    rw [if_pos (by omega), show r - 0 + 0 = r by omega]
    exact (H.2.2.2.1 r r0 r1).2.2.1
  refine pw_iconst (pc := 17) dX1_countTillEven_17 ?_
  refine pw_istore_n (lv1 := [some (rr_ G 151), some (ii_ 1)]) (pc := 18) dX1_countTillEven_18 rfl (by decide) rfl rfl ?_
  have L19 : ∀ (nn : Nat) (n : Int) (a1 : PH_), (1 ≤ n ∧ n ≤ 21) → (off_ [151, 156, 157, 158, 159] h a1) → (∀ k, k ≠ 12 → k ≠ 14 → k ≠ 15 → a1 151 k = h 151 k) → (∀ r, 0 ≤ r → r < ro 2 → -(10000 + 4400 * (n - 1)) ≤ a1 156 r ∧ a1 156 r ≤ 10000 + 4400 * (n - 1)) → ((aft_ ro (skb_ ro P 0 12) 20 1 (pas_ ro)) = aft_ ro (skb_ ro P 0 12) (21 - n).toNat n (a1 156)) → ((21 - n + 1 : Int) ≤ nn) → PW G RX1 cX1_countTillEven 2 (some .int) (rm_ 9) 0 0 (zm_ G (qi_ (fun z h' => off_ [151, 156, 157, 158, 159] h h' ∧ (∀ k, k ≠ 12 → k ≠ 14 → k ≠ 15 → h' 151 k = h 151 k) ∧ z = (aft_ ro (skb_ ro P 0 12) 20 1 (pas_ ro))))) 19 [some (rr_ G 151), some (ii_ n)] [] a1 := by
    intro nn
    induction nn with
    | zero => intro n a1 an af ax ab ae ams; exfalso; omega
    | succ nn ih19 =>
      intro n a1 an af ax ab ae ams
      have ja := jon_mv ho af (ax 0 (by decide) (by decide) (by decide)) hjo
      have hl_a1 := ja.2.1.1
      refine pw_iload_n (z := n) (pc := 19) dX1_countTillEven_19 rfl rfl ?_
      refine pw_bipush (pc := 20) dX1_countTillEven_20 rfl ?_
      refine pw_icmp_gt (t := 60) (pc := 22) dX1_countTillEven_22 (by decide) (by first | omega) (by first | omega) (fun c22 => ?_) (fun c22 => ?_)
      · refine pw_iconst (pc := 60) dX1_countTillEven_60 ?_
        exact pw_iret (pc := 61) dX1_countTillEven_61 (by first | omega) (⟨af, ax, by rw [ae, show (21 - n).toNat = 0 by omega]; rfl⟩)
      · refine pw_aload_n (z := 151) (pc := 25) dX1_countTillEven_25 rfl rfl ?_
        refine pw_bipush (pc := 26) dX1_countTillEven_26 rfl ?_
        refine pw_callV (c := 1) (o := 151) (As := [ii_ 12]) (rest := []) (pc := 28) dX1_countTillEven_28 (d_searchEv hC a1 o ho ro P ja hR 12 (by first | omega) (fun r r0 r1 => by have := ab r r0 r1; omega)) lX1_71 mX1_searchEvenest vX1_searchEvenest (hC 151 (by decide)) (show kd_ 151 = 11 by decide +kernel) rfl rfl rfl (by decide) ⟨Nat.zero_le _, Nat.zero_le _⟩ (Nat.le_of_ble_eq_true rfl) (k_v (fun h28 q28 => ?_))
        obtain ⟨f28, o28, b28⟩ := q28
        obtain ⟨q, hq⟩ := skb_is (P := P) (so := 0) (a1 156) (by omega) hcd
        rw [hq] at b28
        have b14 : h28 151 14 = q.1 := b28.1.1
        have b15 : 0 ≤ q.1 ∧ q.1 ≤ 100000000 := b28.1.2
        refine pw_aload_n (z := 151) (pc := 31) dX1_countTillEven_31 rfl rfl ?_
        refine pw_gI (x := 14) (pc := 32) dX1_countTillEven_32 fX1_161 (hC 151 (by decide)) (show kd_ 151 = 11 by decide +kernel) rfl rfl (fun r32 => ?_)
        refine pw_if_ne (t := 40) (pc := 35) dX1_countTillEven_35 (by decide) (by first | omega) (fun c35 => ?_) (fun c35 => ?_)
        · refine pw_aload_n (z := 151) (pc := 40) dX1_countTillEven_40 rfl rfl ?_
          refine pw_getR (r := 159) (pc := 41) dX1_countTillEven_41 fX1_33 (hC 151 (by decide)) (show kd_ 151 = 11 by decide +kernel) rfl (by decide +kernel) ?_
          refine pw_iconst (pc := 44) dX1_countTillEven_44 ?_
          refine pw_aload_n (z := 151) (pc := 45) dX1_countTillEven_45 rfl rfl ?_
          refine pw_getR (r := 156) (pc := 46) dX1_countTillEven_46 fX1_24 (hC 151 (by decide)) (show kd_ 151 = 11 by decide +kernel) rfl (by decide +kernel) ?_
          refine pw_iconst (pc := 49) dX1_countTillEven_49 ?_
          refine pw_iconst (pc := 50) dX1_countTillEven_50 ?_
          refine pw_copy (n0 := 4) (n1 := 20) (pc := 51) dX1_countTillEven_51 lX1_65 (hC 159 (by decide)) (hC 156 (by decide)) (show kd_ 159 = 0 by decide +kernel) (show kd_ 156 = 0 by decide +kernel) (by decide +kernel) (by decide +kernel) (by first | omega) (by first | omega) (by first | omega) (by decide) (by decide) (Nat.le_of_ble_eq_true rfl) ?_
          obtain ⟨g51, e51⟩ : ∃ x, x = sc_ h28 156 (fun x => if 0 ≤ x ∧ x < 0 + 4 then h28 159 (x - 0 + 0) else h28 156 x) := ⟨_, rfl⟩
          refine pw_heq e51 ?_
          have f51 : off_ [156] h28 g51 := fun j hj => by rw [e51]; exact sc_off (by simpa using hj)
          have t51 : ∀ r, 0 ≤ r → r < ro 2 → g51 156 r = q.2.2.2 r := fun r r0 r1 => by
            rw [e51, sc_at]
            show (if _ then _ else _) = _
            rw [if_pos (by omega), show r - 0 + 0 = r by omega]
            exact b28.2.2.2 r r0 r1
          have t52 := skb_tb (D := 10000 + 4400 * (n - 1)) (C := 10000 + 4400 * n) (by omega) (by omega) (by omega) ab hq
          refine pw_iinc (z := n) (lv1 := [some (rr_ G 151), some (ii_ (n + 1))]) (pc := 54) dX1_countTillEven_54 rfl (by decide) rfl rfl ?_
          refine pw_goto (t := 19) (pc := 57) dX1_countTillEven_57 (by decide) ?_
          exact ih19 _ _ (by omega) (off_tr (off_tr af f28) (off_mo f51 (by decide))) (fun k k1 k2 k3 => by rw [f51 151 (by decide), o28 k k1 k2 k3]; exact ax k k1 k2 k3) (fun r r0 r1 => by rw [t51 r r0 r1]; have := t52 r r0 r1; omega) (by rw [ae, show (21 - n).toNat = (21 - (n + 1)).toNat + 1 by omega, aft_s hq (by omega)]; exact aft_cg (by omega) _ _ (fun r r0 r1 => (t51 r r0 r1).symm)) (by omega)
        · refine pw_iload_n (z := n) (pc := 38) dX1_countTillEven_38 rfl rfl ?_
          exact pw_iret (pc := 39) dX1_countTillEven_39 (by first | omega) (⟨off_tr af f28, fun k k1 k2 k3 => by rw [o28 k k1 k2 k3]; exact ax k k1 k2 k3, by rw [ae, show (21 - n).toNat = (20 - n).toNat + 1 by omega, aft_z hq (by omega)]⟩)
  exact L19 _ _ _ (by omega) (off_mo f14 (by decide)) (fun k _ _ _ => by rw [f14 151 (by decide)]) (fun r r0 r1 => by rw [t14 r r0 r1]; have := hpa r r0 r1; show -(10000 + 4400 * (1 - 1)) ≤ ro (31 + 4 * r + 2) ∧ ro (31 + 4 * r + 2) ≤ 10000 + 4400 * (1 - 1); omega) (by exact aft_cg (by omega) 20 1 (fun r r0 r1 => (t14 r r0 r1).symm)) (Int.self_le_toNat _)

set_option maxHeartbeats 4000000 in
set_option maxRecDepth 100000 in
theorem d_tillEven {G : GT_} (hC : okC_ G) (h : PH_) (o : Nat) (ho : is6_ o) (ro : Int → Int) (P : List (Int × Int)) (hjo : jon_ ro P o h) (hR : 1 ≤ ro 2) (hpa : ∀ r, 0 ≤ r → r < ro 2 → 0 ≤ ro (31 + 4 * r + 2) ∧ ro (31 + 4 * r + 2) ≤ 9999) (hcd : ro 1 = 0 ∨ 0 < (lpn_ ro 256).length) (hk : h 151 13 = 0 ∨ h 151 13 = (aft_ ro (skb_ ro P 0 12) 20 1 (pas_ ro))) : PC G yX1_journeysTillEven cX1_journeysTillEven 1 (some .int) 10 [rr_ G 151] h (qi_ (fun z h' => off_ [151, 156, 157, 158, 159] h h' ∧ (∀ k, k ≠ 12 → k ≠ 13 → k ≠ 14 → k ≠ 15 → h' 151 k = h 151 k) ∧ h' 151 13 = (aft_ ro (skb_ ro P 0 12) 20 1 (pas_ ro)) ∧ z = (aft_ ro (skb_ ro P 0 12) 20 1 (pas_ ro)))) := by
  have H := hjo.1
  have hJ := hjo.2.1
  have HB := H.2.1
  have HA := H.1
  have l24 := lpn_24 (ro := ro) (by omega) (by omega)
  have hl_h := hJ.1
  have hN := hJ.2.1
  refine PC.of (lv := [some (rr_ G 151)]) (by decide +kernel) (Nat.le_of_ble_eq_true rfl) rfl rfl ?_
  refine pw_aload_n (z := 151) (pc := 0) dX1_journeysTillEven_0 rfl rfl ?_
  refine pw_gI (x := 13) (pc := 1) dX1_journeysTillEven_1 fX1_51 (hC 151 (by decide)) (show kd_ 151 = 11 by decide +kernel) rfl rfl (fun r1 => ?_)
  refine pw_if_ne (t := 15) (pc := 4) dX1_journeysTillEven_4 (by decide) (by first | omega) (fun c4 => ?_) (fun c4 => ?_)
  · refine pw_aload_n (z := 151) (pc := 15) dX1_journeysTillEven_15 rfl rfl ?_
    refine pw_gI (x := 13) (pc := 16) dX1_journeysTillEven_16 fX1_51 (hC 151 (by decide)) (show kd_ 151 = 11 by decide +kernel) rfl rfl (fun r16 => ?_)
    exact pw_iret (pc := 19) dX1_journeysTillEven_19 (by first | omega) (by rcases hk with hk | hk; exact absurd hk c4; exact ⟨off_rf, fun _ _ _ _ _ => rfl, hk, hk⟩)
  · refine pw_aload_n (z := 151) (pc := 7) dX1_journeysTillEven_7 rfl rfl ?_
    refine pw_aload_n (z := 151) (pc := 8) dX1_journeysTillEven_8 rfl rfl ?_
    refine pw_callV (c := 1) (o := 151) (As := []) (rest := [rr_ G 151]) (pc := 9) dX1_journeysTillEven_9 (d_countTill hC h o ho ro P hjo hR hpa hcd) lX1_88 mX1_countTillEven vX1_countTillEven (hC 151 (by decide)) (show kd_ 151 = 11 by decide +kernel) rfl rfl rfl (by decide) ⟨Nat.zero_le _, Nat.zero_le _⟩ (Nat.le_of_ble_eq_true rfl) (k_i (fun z9 h9 y9 q9 => ?_))
    obtain ⟨f9, o9, w9⟩ := q9
    refine pw_pI (x := 13) (pc := 12) dX1_journeysTillEven_12 fX1_51 (hC 151 (by decide)) (show kd_ 151 = 11 by decide +kernel) rfl rfl (by first | omega) ?_
    obtain ⟨g12, e12⟩ : ∃ x, x = up_ h9 151 13 z9 := ⟨_, rfl⟩
    refine pw_heq e12 ?_
    refine pw_aload_n (z := 151) (pc := 15) dX1_journeysTillEven_15 rfl rfl ?_
    refine pw_gI (x := 13) (pc := 16) dX1_journeysTillEven_16 fX1_51 (hC 151 (by decide)) (show kd_ 151 = 11 by decide +kernel) rfl rfl (fun r16 => ?_)
    rw [show g12 151 13 = z9 from by rw [e12, up_same]] at r16 ⊢
    exact pw_iret (pc := 19) dX1_journeysTillEven_19 (by first | omega) (⟨by rw [e12]; exact off_up f9 (by decide), fun k k1 k2 k3 k4 => by rw [e12, up_at, if_neg k2]; exact o9 k k1 k3 k4, by rw [e12, up_same, w9], w9⟩)

