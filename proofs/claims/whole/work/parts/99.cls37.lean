set_option maxHeartbeats 4000000 in
set_option maxRecDepth 100000 in
theorem d_leastTotal {G : GT_} (hC : okC_ G) (h : PH_) (o : Nat) (ho : is6_ o) (ro : Int → Int) (H : CRD_ ro h o) (hland : h 151 0 = (o : Int)) : PC G yX1_leastTotal cX1_leastTotal 3 (some .int) 1 [rr_ G 151] h (qi_ (fun z h' => h = h' ∧ z = lmn_ (h 156) (ro 2).toNat)) := by
  have HB := H.2.1
  have HA := H.1
  refine PC.of (lv := [some (rr_ G 151), none, none]) (by decide +kernel) (Nat.le_of_ble_eq_true rfl) rfl rfl ?_
  refine pw_ldc (z := 2147483647) (pc := 0) dX1_leastTotal_0 kX1_137 rfl ?_
  refine pw_istore_n (lv1 := [some (rr_ G 151), some (ii_ 2147483647), none]) (pc := 2) dX1_leastTotal_2 rfl (by decide) rfl rfl ?_
  refine pw_iconst (pc := 3) dX1_leastTotal_3 ?_
  refine pw_istore_n (lv1 := [some (rr_ G 151), some (ii_ 2147483647), some (ii_ 0)]) (pc := 4) dX1_leastTotal_4 rfl (by decide) rfl rfl ?_
  have L5 : ∀ (nn : Nat) (f : Int) (r : Int), (0 ≤ r ∧ r ≤ ro 2) → (ir_ f) → (f = lmn_ (h 156) r.toNat) → ((ro 2 - r + 1 : Int) ≤ nn) → PW G RX1 cX1_leastTotal 3 (some .int) (rm_ 1) 0 0 (zm_ G (qi_ (fun z h' => h = h' ∧ z = lmn_ (h 156) (ro 2).toNat))) 5 [some (rr_ G 151), some (ii_ f), some (ii_ r)] [] h := by
    intro nn
    induction nn with
    | zero => intro f r ak ai af ams; exfalso; omega
    | succ nn ih5 =>
      intro f r ak ai af ams
      refine pw_iload_n (z := r) (pc := 5) dX1_leastTotal_5 rfl rfl ?_
      refine pw_aload_n (z := 151) (pc := 6) dX1_leastTotal_6 rfl rfl ?_
      refine pw_gD (x := 0) (r := o) (pc := 7) dX1_leastTotal_7 fX1_39 (hC 151 (by decide)) (show kd_ 151 = 11 by decide +kernel) rfl rfl hland ?_
      refine pw_gI (x := 2) (pc := 10) dX1_leastTotal_10 fX1_94 (hC _ (by omega)) (kd6_0 ho) rfl rfl (fun r10 => ?_)
      refine pw_icmp_ge (t := 33) (pc := 13) dX1_leastTotal_13 (by decide) (by first | omega) (by first | omega) (fun c13 => ?_) (fun c13 => ?_)
      · refine pw_iload_n (z := f) (pc := 33) dX1_leastTotal_33 rfl rfl ?_
        exact pw_iret (pc := 34) dX1_leastTotal_34 (by first | omega) (⟨rfl, by rw [af, show r = ro 2 by omega]⟩)
      · refine pw_iload_n (z := f) (pc := 16) dX1_leastTotal_16 rfl rfl ?_
        refine pw_aload_n (z := 151) (pc := 17) dX1_leastTotal_17 rfl rfl ?_
        refine pw_getR (r := 156) (pc := 18) dX1_leastTotal_18 fX1_24 (hC 151 (by decide)) (show kd_ 151 = 11 by decide +kernel) rfl (by decide +kernel) ?_
        refine pw_iload_n (z := r) (pc := 21) dX1_leastTotal_21 rfl rfl ?_
        refine pw_iald (pc := 22) dX1_leastTotal_22 (hC 156 (by decide)) (show kd_ 156 = 0 by decide +kernel) 20 (by decide +kernel) (by first | omega) (by first | omega) (by first | omega) (fun r22 => ?_)
        refine pw_mmin (pc := 23) dX1_leastTotal_23 lX1_141 (by first | omega) (by first | omega) (by decide) ⟨Nat.zero_le _, Nat.zero_le _⟩ (Nat.le_of_ble_eq_true rfl) (fun z23 r23 w23 => ?_)
        refine pw_istore_n (lv1 := [some (rr_ G 151), some (ii_ z23), some (ii_ r)]) (pc := 26) dX1_leastTotal_26 rfl (by decide) rfl rfl ?_
        refine pw_iinc (z := r) (lv1 := [some (rr_ G 151), some (ii_ z23), some (ii_ (r + 1))]) (pc := 27) dX1_leastTotal_27 rfl (by decide) rfl rfl ?_
        refine pw_goto (t := 5) (pc := 30) dX1_leastTotal_30 (by decide) ?_
        exact ih5 _ _ (by omega) (by omega) (by rw [lmn_s ak.1, ← af]; split <;> omega) (by omega)
  exact L5 _ _ _ (by omega) (by constructor <;> decide) (rfl) (Int.self_le_toNat _)

set_option maxHeartbeats 4000000 in
set_option maxRecDepth 100000 in
theorem d_leastSpread {G : GT_} (hC : okC_ G) (h : PH_) (o : Nat) (ho : is6_ o) (ro : Int → Int) (H : CRD_ ro h o) (P : List (Int × Int)) (hJ : CJP_ ro h o) (hG : CJG_ ro P h) (hL : CJL_ ro P h 0) (t : Int) (h1 : 0 ≤ t ∧ t < ro 1) (i : Int) (h3 : 0 ≤ i ∧ i < (lpn_ ro 256).length) (hb : ∀ r, 0 ≤ r → r < ro 2 → -2000000 ≤ h 156 (4 * t + 4 + r) ∧ h 156 (4 * t + 4 + r) ≤ 2000000) : PC G yX1_leastSpread cX1_leastSpread 8 (some .int) 2 [rr_ G 151, ii_ t, ii_ i] h (qi_ (fun z h' => h = h' ∧ (0 ≤ z ∧ z ≤ 20000000) ∧ lsd_ ro P (h 156) t i z)) := by
  have HB := H.2.1
  have HA := H.1
  have l24 := lpn_24 (ro := ro) (by omega) (by omega)
  have hl_h := hJ.1
  have hN := hJ.2.1
  have lbb := fun (a c : Int) => leh_b (ro := ro) (P := P) (a := a) (c := c) (by omega) (by omega) (ro 1 - 1 - t).toNat i (by omega)
  refine PC.of (lv := [some (rr_ G 151), some (ii_ t), some (ii_ i), none, none, none, none, none]) (by decide +kernel) (Nat.le_of_ble_eq_true rfl) rfl rfl ?_
  refine pw_iload_n (z := t) (pc := 0) dX1_leastSpread_0 rfl rfl ?_
  refine pw_iconst (pc := 1) dX1_leastSpread_1 ?_
  refine pw_iadd (pc := 2) dX1_leastSpread_2 ?_
  refine pw_iconst (pc := 3) dX1_leastSpread_3 ?_
  refine pw_imul (pc := 4) dX1_leastSpread_4 ?_
  refine pw_istore_n (lv1 := [some (rr_ G 151), some (ii_ t), some (ii_ i), some (ii_ ((t + 1) * 4)), none, none, none, none]) (pc := 5) dX1_leastSpread_5 rfl (by decide) rfl rfl ?_
  refine pw_iconst (pc := 6) dX1_leastSpread_6 ?_
  refine pw_istore (lv1 := [some (rr_ G 151), some (ii_ t), some (ii_ i), some (ii_ ((t + 1) * 4)), some (ii_ 0), none, none, none]) (pc := 7) dX1_leastSpread_7 (by decide) rfl rfl ?_
  refine pw_iconst (pc := 9) dX1_leastSpread_9 ?_
  refine pw_istore (lv1 := [some (rr_ G 151), some (ii_ t), some (ii_ i), some (ii_ ((t + 1) * 4)), some (ii_ 0), some (ii_ 0), none, none]) (pc := 10) dX1_leastSpread_10 (by decide) rfl rfl ?_
  have L12 : ∀ (nn : Nat) (f : Int) (a : Int), (0 ≤ a ∧ a ≤ ro 2) → (0 ≤ f ∧ f ≤ 20000000) → (lsd_ ro P (h 156) t i f) → ((ro 2 - a + 1 : Int) ≤ nn) → PW G RX1 cX1_leastSpread 8 (some .int) (rm_ 2) 0 0 (zm_ G (qi_ (fun z h' => h = h' ∧ (0 ≤ z ∧ z ≤ 20000000) ∧ lsd_ ro P (h 156) t i z))) 12 [some (rr_ G 151), some (ii_ t), some (ii_ i), some (ii_ ((t + 1) * 4)), some (ii_ f), some (ii_ a), none, none] [] h := by
    intro nn
    induction nn with
    | zero => intro f a ak ab ad ams; exfalso; omega
    | succ nn ih12 =>
      intro f a ak ab ad ams
      refine pw_iload (z := a) (pc := 12) dX1_leastSpread_12 rfl ?_
      refine pw_aload_n (z := 151) (pc := 14) dX1_leastSpread_14 rfl rfl ?_
      refine pw_gD (x := 0) (r := o) (pc := 15) dX1_leastSpread_15 fX1_39 (hC 151 (by decide)) (show kd_ 151 = 11 by decide +kernel) rfl rfl hl_h ?_
      refine pw_gI (x := 2) (pc := 18) dX1_leastSpread_18 fX1_94 (hC _ (by omega)) (kd6_0 ho) rfl rfl (fun r18 => ?_)
      refine pw_icmp_ge (t := 103) (pc := 21) dX1_leastSpread_21 (by decide) (by first | omega) (by first | omega) (fun c21 => ?_) (fun c21 => ?_)
      · refine pw_iload (z := f) (pc := 103) dX1_leastSpread_103 rfl ?_
        exact pw_iret (pc := 105) dX1_leastSpread_105 (by first | omega) (⟨rfl, ab, ad⟩)
      · refine pw_iconst (pc := 24) dX1_leastSpread_24 ?_
        refine pw_istore (lv1 := [some (rr_ G 151), some (ii_ t), some (ii_ i), some (ii_ ((t + 1) * 4)), some (ii_ f), some (ii_ a), some (ii_ 0), none]) (pc := 25) dX1_leastSpread_25 (by decide) rfl rfl ?_
        have L27 : ∀ (nn : Nat) (f2 : Int) (c : Int), (0 ≤ c ∧ c ≤ ro 2) → (0 ≤ f2 ∧ f2 ≤ 20000000) → (lsd_ ro P (h 156) t i f2) → ((ro 2 - c + 1 : Int) ≤ nn) → PW G RX1 cX1_leastSpread 8 (some .int) (rm_ 2) 0 0 (zm_ G (qi_ (fun z h' => h = h' ∧ (0 ≤ z ∧ z ≤ 20000000) ∧ lsd_ ro P (h 156) t i z))) 27 [some (rr_ G 151), some (ii_ t), some (ii_ i), some (ii_ ((t + 1) * 4)), some (ii_ f2), some (ii_ a), some (ii_ c), none] [] h := by
          intro nn
          induction nn with
          | zero => intro f2 c bk bb bd ams; exfalso; omega
          | succ nn ih27 =>
            intro f2 c bk bb bd ams
            refine pw_iload (z := c) (pc := 27) dX1_leastSpread_27 rfl ?_
            refine pw_aload_n (z := 151) (pc := 29) dX1_leastSpread_29 rfl rfl ?_
            refine pw_gD (x := 0) (r := o) (pc := 30) dX1_leastSpread_30 fX1_39 (hC 151 (by decide)) (show kd_ 151 = 11 by decide +kernel) rfl rfl hl_h ?_
            refine pw_gI (x := 2) (pc := 33) dX1_leastSpread_33 fX1_94 (hC _ (by omega)) (kd6_0 ho) rfl rfl (fun r33 => ?_)
            refine pw_icmp_ge (t := 97) (pc := 36) dX1_leastSpread_36 (by decide) (by first | omega) (by first | omega) (fun c36 => ?_) (fun c36 => ?_)
            · refine pw_iinc (z := a) (lv1 := [some (rr_ G 151), some (ii_ t), some (ii_ i), some (ii_ ((t + 1) * 4)), some (ii_ f2), some (ii_ (a + 1)), some (ii_ c), none]) (pc := 97) dX1_leastSpread_97 rfl (by decide) rfl rfl ?_
              refine pw_goto (t := 12) (pc := 100) dX1_leastSpread_100 (by decide) ?_
              refine pw_less (lv1 := [some (rr_ G 151), some (ii_ t), some (ii_ i), some (ii_ ((t + 1) * 4)), some (ii_ f2), some (ii_ (a + 1)), none, none]) rfl (by intro i v; (match i with | 0 => simp | 1 => simp | 2 => simp | 3 => simp | 4 => simp | 5 => simp | 6 => simp | 7 => simp | n + 8 => simp)) ?_
              exact ih12 _ _ (by omega) (bb) (bd) (by omega)
            · refine pw_iload (z := a) (pc := 39) dX1_leastSpread_39 rfl ?_
              refine pw_iload (z := c) (pc := 41) dX1_leastSpread_41 rfl ?_
              refine pw_icmp_eq (t := 91) (pc := 43) dX1_leastSpread_43 (by decide) (by first | omega) (by first | omega) (fun c43 => ?_) (fun c43 => ?_)
              · refine pw_iinc (z := c) (lv1 := [some (rr_ G 151), some (ii_ t), some (ii_ i), some (ii_ ((t + 1) * 4)), some (ii_ f2), some (ii_ a), some (ii_ (c + 1)), none]) (pc := 91) dX1_leastSpread_91 rfl (by decide) rfl rfl ?_
                refine pw_goto (t := 27) (pc := 94) dX1_leastSpread_94 (by decide) ?_
                exact ih27 _ _ (by omega) (by omega) (by
                          first
                          | exact bd
                          | (rcases w86 with u | u
                             · exact Or.inr ⟨a, c, by omega, by omega, by rw [← ea, ← ec]; omega⟩
                             · rw [u.2]; exact bd)) (by omega)
              · have lb := lbb a c
                have ta := hb a (by omega) (by omega)
                have tc := hb c (by omega) (by omega)
                have ea : (t + 1) * 4 + a = 4 * t + 4 + a := by omega
                have ec : (t + 1) * 4 + c = 4 * t + 4 + c := by omega
                have lv : h 154 (((a * 4 + c) * 4 + t) * 24 + i) = leh_ ro P a c (ro 1 - 1 - t).toNat i := hL t i a c (by omega) (by omega) h3.1 h3.2 (Or.inl (by omega)) (by omega) (by omega) (by omega)
                rw [← ea] at ta
                rw [← ec] at tc
                refine pw_aload_n (z := 151) (pc := 46) dX1_leastSpread_46 rfl rfl ?_
                refine pw_getR (r := 156) (pc := 47) dX1_leastSpread_47 fX1_24 (hC 151 (by decide)) (show kd_ 151 = 11 by decide +kernel) rfl (by decide +kernel) ?_
                refine pw_iload_n (z := (t + 1) * 4) (pc := 50) dX1_leastSpread_50 rfl rfl ?_
                refine pw_iload (z := a) (pc := 51) dX1_leastSpread_51 rfl ?_
                refine pw_iadd (pc := 53) dX1_leastSpread_53 ?_
                refine pw_iald (pc := 54) dX1_leastSpread_54 (hC 156 (by decide)) (show kd_ 156 = 0 by decide +kernel) 20 (by decide +kernel) (by first | omega) (by first | omega) (by first | omega) (fun r54 => ?_)
                refine pw_aload_n (z := 151) (pc := 55) dX1_leastSpread_55 rfl rfl ?_
                refine pw_getR (r := 156) (pc := 56) dX1_leastSpread_56 fX1_24 (hC 151 (by decide)) (show kd_ 151 = 11 by decide +kernel) rfl (by decide +kernel) ?_
                refine pw_iload_n (z := (t + 1) * 4) (pc := 59) dX1_leastSpread_59 rfl rfl ?_
                refine pw_iload (z := c) (pc := 60) dX1_leastSpread_60 rfl ?_
                refine pw_iadd (pc := 62) dX1_leastSpread_62 ?_
                refine pw_iald (pc := 63) dX1_leastSpread_63 (hC 156 (by decide)) (show kd_ 156 = 0 by decide +kernel) 20 (by decide +kernel) (by first | omega) (by first | omega) (by first | omega) (fun r63 => ?_)
                refine pw_isub (pc := 64) dX1_leastSpread_64 ?_
                refine pw_istore (lv1 := [some (rr_ G 151), some (ii_ t), some (ii_ i), some (ii_ ((t + 1) * 4)), some (ii_ f2), some (ii_ a), some (ii_ c), some (ii_ ((h 156 (((t + 1) * 4) + a)) - (h 156 (((t + 1) * 4) + c))))]) (pc := 65) dX1_leastSpread_65 (by decide) rfl rfl ?_
                refine pw_iload (z := f2) (pc := 67) dX1_leastSpread_67 rfl ?_
                refine pw_iload (z := (h 156 (((t + 1) * 4) + a)) - (h 156 (((t + 1) * 4) + c))) (pc := 69) dX1_leastSpread_69 rfl ?_
                refine pw_aload_n (z := 151) (pc := 71) dX1_leastSpread_71 rfl rfl ?_
                refine pw_getR (r := 154) (pc := 72) dX1_leastSpread_72 fX1_18 (hC 151 (by decide)) (show kd_ 151 = 11 by decide +kernel) rfl (by decide +kernel) ?_
                refine pw_iload_n (z := t) (pc := 75) dX1_leastSpread_75 rfl rfl ?_
                refine pw_iload_n (z := i) (pc := 76) dX1_leastSpread_76 rfl rfl ?_
                refine pw_iload (z := a) (pc := 77) dX1_leastSpread_77 rfl ?_
                refine pw_iload (z := c) (pc := 79) dX1_leastSpread_79 rfl ?_
                refine pw_callS (As := [ii_ t, ii_ i, ii_ a, ii_ c]) (rest := [rr_ G 154, ii_ ((h 156 (((t + 1) * 4) + a)) - (h 156 (((t + 1) * 4) + c))), ii_ f2]) (pc := 81) dX1_leastSpread_81 (d_leastPlace h t i a c (by first | omega)) lX1_130 mX1_leastPlace sX1_leastPlace rfl rfl (by decide) ⟨Nat.zero_le _, Nat.zero_le _⟩ (Nat.le_of_ble_eq_true rfl) (k_i (fun z81 h81 y81 q81 => ?_))
                obtain ⟨rfl, rfl⟩ := q81
                refine pw_iald (pc := 84) dX1_leastSpread_84 (hC 154 (by decide)) (show kd_ 154 = 0 by decide +kernel) 1920 (by decide +kernel) (by first | omega) (by first | omega) (by first | omega) (fun r84 => ?_)
                refine pw_iadd (pc := 85) dX1_leastSpread_85 ?_
                refine pw_mmax (pc := 86) dX1_leastSpread_86 lX1_193 (by first | omega) (by first | omega) (by decide) ⟨Nat.zero_le _, Nat.zero_le _⟩ (Nat.le_of_ble_eq_true rfl) (fun z86 r86 w86 => ?_)
                refine pw_istore (lv1 := [some (rr_ G 151), some (ii_ t), some (ii_ i), some (ii_ ((t + 1) * 4)), some (ii_ z86), some (ii_ a), some (ii_ c), some (ii_ ((h 156 (((t + 1) * 4) + a)) - (h 156 (((t + 1) * 4) + c))))]) (pc := 89) dX1_leastSpread_89 (by decide) rfl rfl ?_
                refine pw_iinc (z := c) (lv1 := [some (rr_ G 151), some (ii_ t), some (ii_ i), some (ii_ ((t + 1) * 4)), some (ii_ z86), some (ii_ a), some (ii_ (c + 1)), some (ii_ ((h 156 (((t + 1) * 4) + a)) - (h 156 (((t + 1) * 4) + c))))]) (pc := 91) dX1_leastSpread_91 rfl (by decide) rfl rfl ?_
                refine pw_goto (t := 27) (pc := 94) dX1_leastSpread_94 (by decide) ?_
                refine pw_less (lv1 := [some (rr_ G 151), some (ii_ t), some (ii_ i), some (ii_ ((t + 1) * 4)), some (ii_ z86), some (ii_ a), some (ii_ (c + 1)), none]) rfl (by intro i v; (match i with | 0 => simp | 1 => simp | 2 => simp | 3 => simp | 4 => simp | 5 => simp | 6 => simp | 7 => simp | n + 8 => simp)) ?_
                exact ih27 _ _ (by omega) (by omega) (by
                          first
                          | exact bd
                          | (rcases w86 with u | u
                             · exact Or.inr ⟨a, c, by omega, by omega, by rw [← ea, ← ec]; omega⟩
                             · rw [u.2]; exact bd)) (by omega)
        exact L27 _ _ _ (by omega) (ab) (ad) (Int.self_le_toNat _)
  exact L12 _ _ _ (by omega) (by omega) (Or.inl (Int.le_refl _)) (Int.self_le_toNat _)

set_option maxHeartbeats 4000000 in
set_option maxRecDepth 100000 in
theorem d_leastThat {G : GT_} (hC : okC_ G) (h : PH_) (o : Nat) (ho : is6_ o) (ro : Int → Int) (H : CRD_ ro h o) (P : List (Int × Int)) (hJ : CJP_ ro h o) (hG : CJG_ ro P h) (hL : CJL_ ro P h 0) (t : Int) (h1 : 0 ≤ t ∧ t < ro 1) (i : Int) (h3 : 0 ≤ i ∧ i < (lpn_ ro 256).length) (hb : ∀ r, 0 ≤ r → r < ro 2 → -2000000 ≤ h 156 (4 * t + 4 + r) ∧ h 156 (4 * t + 4 + r) ≤ 2000000) : PC G yX1_leastThatCouldBe cX1_leastThatCouldBe 6 (some .int) 2 [rr_ G 151, ii_ t, ii_ i] h (qi_ (fun z h' => h = h' ∧ z = lmn_ (fun r => h 156 (4 * t + 4 + r) - leh_ ro P 4 r (ro 1 - 1 - t).toNat i) (ro 2).toNat)) := by
  have HB := H.2.1
  have HA := H.1
  have l24 := lpn_24 (ro := ro) (by omega) (by omega)
  have hl_h := hJ.1
  have hN := hJ.2.1
  have lbb := fun (c : Int) => leh_b (ro := ro) (P := P) (a := 4) (c := c) (by omega) (by omega) (ro 1 - 1 - t).toNat i (by omega)
  refine PC.of (lv := [some (rr_ G 151), some (ii_ t), some (ii_ i), none, none, none]) (by decide +kernel) (Nat.le_of_ble_eq_true rfl) rfl rfl ?_
  refine pw_iload_n (z := t) (pc := 0) dX1_leastThatCouldBe_0 rfl rfl ?_
  refine pw_iconst (pc := 1) dX1_leastThatCouldBe_1 ?_
  refine pw_iadd (pc := 2) dX1_leastThatCouldBe_2 ?_
  refine pw_iconst (pc := 3) dX1_leastThatCouldBe_3 ?_
  refine pw_imul (pc := 4) dX1_leastThatCouldBe_4 ?_
  refine pw_istore_n (lv1 := [some (rr_ G 151), some (ii_ t), some (ii_ i), some (ii_ ((t + 1) * 4)), none, none]) (pc := 5) dX1_leastThatCouldBe_5 rfl (by decide) rfl rfl ?_
  refine pw_ldc (z := 2147483647) (pc := 6) dX1_leastThatCouldBe_6 kX1_137 rfl ?_
  refine pw_istore (lv1 := [some (rr_ G 151), some (ii_ t), some (ii_ i), some (ii_ ((t + 1) * 4)), some (ii_ 2147483647), none]) (pc := 8) dX1_leastThatCouldBe_8 (by decide) rfl rfl ?_
  refine pw_iconst (pc := 10) dX1_leastThatCouldBe_10 ?_
  refine pw_istore (lv1 := [some (rr_ G 151), some (ii_ t), some (ii_ i), some (ii_ ((t + 1) * 4)), some (ii_ 2147483647), some (ii_ 0)]) (pc := 11) dX1_leastThatCouldBe_11 (by decide) rfl rfl ?_
  have L13 : ∀ (nn : Nat) (f : Int) (c : Int), (0 ≤ c ∧ c ≤ ro 2) → (ir_ f) → (f = lmn_ (fun r => h 156 (4 * t + 4 + r) - leh_ ro P 4 r (ro 1 - 1 - t).toNat i) c.toNat) → ((ro 2 - c + 1 : Int) ≤ nn) → PW G RX1 cX1_leastThatCouldBe 6 (some .int) (rm_ 2) 0 0 (zm_ G (qi_ (fun z h' => h = h' ∧ z = lmn_ (fun r => h 156 (4 * t + 4 + r) - leh_ ro P 4 r (ro 1 - 1 - t).toNat i) (ro 2).toNat))) 13 [some (rr_ G 151), some (ii_ t), some (ii_ i), some (ii_ ((t + 1) * 4)), some (ii_ f), some (ii_ c)] [] h := by
    intro nn
    induction nn with
    | zero => intro f c ak ai af ams; exfalso; omega
    | succ nn ih13 =>
      intro f c ak ai af ams
      refine pw_iload (z := c) (pc := 13) dX1_leastThatCouldBe_13 rfl ?_
      refine pw_aload_n (z := 151) (pc := 15) dX1_leastThatCouldBe_15 rfl rfl ?_
      refine pw_gD (x := 0) (r := o) (pc := 16) dX1_leastThatCouldBe_16 fX1_39 (hC 151 (by decide)) (show kd_ 151 = 11 by decide +kernel) rfl rfl hl_h ?_
      refine pw_gI (x := 2) (pc := 19) dX1_leastThatCouldBe_19 fX1_94 (hC _ (by omega)) (kd6_0 ho) rfl rfl (fun r19 => ?_)
      refine pw_icmp_ge (t := 61) (pc := 22) dX1_leastThatCouldBe_22 (by decide) (by first | omega) (by first | omega) (fun c22 => ?_) (fun c22 => ?_)
      · refine pw_iload (z := f) (pc := 61) dX1_leastThatCouldBe_61 rfl ?_
        exact pw_iret (pc := 63) dX1_leastThatCouldBe_63 (by first | omega) (⟨rfl, by rw [af, show c = ro 2 by omega]⟩)
      · have lb := lbb c
        have tc := hb c (by omega) (by omega)
        have ec : (t + 1) * 4 + c = 4 * t + 4 + c := by omega
        have lv : h 154 (((4 * 4 + c) * 4 + t) * 24 + i) = leh_ ro P 4 c (ro 1 - 1 - t).toNat i := hL t i 4 c (by omega) (by omega) h3.1 h3.2 (Or.inr rfl) (by omega) (by omega) (by omega)
        rw [← ec] at tc
        refine pw_iload (z := f) (pc := 25) dX1_leastThatCouldBe_25 rfl ?_
        refine pw_aload_n (z := 151) (pc := 27) dX1_leastThatCouldBe_27 rfl rfl ?_
        refine pw_getR (r := 156) (pc := 28) dX1_leastThatCouldBe_28 fX1_24 (hC 151 (by decide)) (show kd_ 151 = 11 by decide +kernel) rfl (by decide +kernel) ?_
        refine pw_iload_n (z := (t + 1) * 4) (pc := 31) dX1_leastThatCouldBe_31 rfl rfl ?_
        refine pw_iload (z := c) (pc := 32) dX1_leastThatCouldBe_32 rfl ?_
        refine pw_iadd (pc := 34) dX1_leastThatCouldBe_34 ?_
        refine pw_iald (pc := 35) dX1_leastThatCouldBe_35 (hC 156 (by decide)) (show kd_ 156 = 0 by decide +kernel) 20 (by decide +kernel) (by first | omega) (by first | omega) (by first | omega) (fun r35 => ?_)
        refine pw_aload_n (z := 151) (pc := 36) dX1_leastThatCouldBe_36 rfl rfl ?_
        refine pw_getR (r := 154) (pc := 37) dX1_leastThatCouldBe_37 fX1_18 (hC 151 (by decide)) (show kd_ 151 = 11 by decide +kernel) rfl (by decide +kernel) ?_
        refine pw_iload_n (z := t) (pc := 40) dX1_leastThatCouldBe_40 rfl rfl ?_
        refine pw_iload_n (z := i) (pc := 41) dX1_leastThatCouldBe_41 rfl rfl ?_
        refine pw_iconst (pc := 42) dX1_leastThatCouldBe_42 ?_
        refine pw_iload (z := c) (pc := 43) dX1_leastThatCouldBe_43 rfl ?_
        refine pw_callS (As := [ii_ t, ii_ i, ii_ 4, ii_ c]) (rest := [rr_ G 154, ii_ (h 156 (((t + 1) * 4) + c)), ii_ f]) (pc := 45) dX1_leastThatCouldBe_45 (d_leastPlace h t i 4 c (by first | omega)) lX1_130 mX1_leastPlace sX1_leastPlace rfl rfl (by decide) ⟨Nat.zero_le _, Nat.zero_le _⟩ (Nat.le_of_ble_eq_true rfl) (k_i (fun z45 h45 y45 q45 => ?_))
        obtain ⟨rfl, rfl⟩ := q45
        refine pw_iald (pc := 48) dX1_leastThatCouldBe_48 (hC 154 (by decide)) (show kd_ 154 = 0 by decide +kernel) 1920 (by decide +kernel) (by first | omega) (by first | omega) (by first | omega) (fun r48 => ?_)
        refine pw_isub (pc := 49) dX1_leastThatCouldBe_49 ?_
        refine pw_mmin (pc := 50) dX1_leastThatCouldBe_50 lX1_141 (by first | omega) (by first | omega) (by decide) ⟨Nat.zero_le _, Nat.zero_le _⟩ (Nat.le_of_ble_eq_true rfl) (fun z50 r50 w50 => ?_)
        refine pw_istore (lv1 := [some (rr_ G 151), some (ii_ t), some (ii_ i), some (ii_ ((t + 1) * 4)), some (ii_ z50), some (ii_ c)]) (pc := 53) dX1_leastThatCouldBe_53 (by decide) rfl rfl ?_
        refine pw_iinc (z := c) (lv1 := [some (rr_ G 151), some (ii_ t), some (ii_ i), some (ii_ ((t + 1) * 4)), some (ii_ z50), some (ii_ (c + 1))]) (pc := 55) dX1_leastThatCouldBe_55 rfl (by decide) rfl rfl ?_
        refine pw_goto (t := 13) (pc := 58) dX1_leastThatCouldBe_58 (by decide) ?_
        exact ih13 _ _ (by omega) (by omega) (by
                  rw [lmn_s ak.1, ← af]
                  show _ = if h 156 (4 * t + 4 + c) - leh_ ro P 4 c (ro 1 - 1 - t).toNat i < f then h 156 (4 * t + 4 + c) - leh_ ro P 4 c (ro 1 - 1 - t).toNat i else f
                  rw [← ec]
                  split <;> omega) (by omega)
  exact L13 _ _ _ (by omega) (by constructor <;> decide) (rfl) (Int.self_le_toNat _)

set_option maxHeartbeats 4000000 in
set_option maxRecDepth 100000 in
theorem d_spreadWith {G : GT_} (hC : okC_ G) (h : PH_) (o : Nat) (ho : is6_ o) (ro : Int → Int) (H : CRD_ ro h o) (P : List (Int × Int)) (hJ : CJP_ ro h o) (hG : CJG_ ro P h) (t : Int) (h1 : 0 ≤ t ∧ t < ro 1) (k : Int) (h3 : 0 ≤ k ∧ k < (lpn_ ro 256).length) (hc : ∀ j, 0 ≤ j → j < t → 0 ≤ h 157 j ∧ h 157 j < (lpn_ ro 256).length) (hb : ∀ r, 0 ≤ r → r < ro 2 → -2000000 ≤ h 156 (4 * t + r) ∧ h 156 (4 * t + r) ≤ 2000000) (hR : 1 ≤ ro 2) (h14 : 0 ≤ h 151 14) : PC G yX1_spreadWith cX1_spreadWith 8 (some .int) 2 [rr_ G 151, ii_ t, ii_ k] h (qi_ (fun z h' => h = h' ∧ (z = spr_ (fun r => h 156 (4 * t + r) + gan_ ro P t (bef_ (h 157) t) k r) 0 (ro 2) ∨ h 151 14 < z ∧ z ≤ spr_ (fun r => h 156 (4 * t + r) + gan_ ro P t (bef_ (h 157) t) k r) 0 (ro 2)))) := by
  have HB := H.2.1
  have HA := H.1
  have l24 := lpn_24 (ro := ro) (by omega) (by omega)
  have hl_h := hJ.1
  have hN := hJ.2.1
  have hbf : bef_ (h 157) t = -1 ∨ 0 ≤ bef_ (h 157) t ∧ bef_ (h 157) t < (lpn_ ro 256).length := by
    unfold bef_
    by_cases c : t = 0
    · rw [if_pos c]; exact Or.inl rfl
    · rw [if_neg c]; exact Or.inr (hc _ (by omega) (by omega))
  have gbb := fun (r : Int) => gan_b (ro := ro) (P := P) (by omega) t (bef_ (h 157) t) k r
  have fb : ∀ r, 0 ≤ r → r < ro 2 → -10000000 ≤ (fun r => h 156 (4 * t + r) + gan_ ro P t (bef_ (h 157) t) k r) r ∧ (fun r => h 156 (4 * t + r) + gan_ ro P t (bef_ (h 157) t) k r) r ≤ 10000000 := fun r r0 r1 => by have := gbb r; have := hb r r0 r1; show -10000000 ≤ h 156 (4 * t + r) + _ ∧ h 156 (4 * t + r) + _ ≤ 10000000; omega
  refine PC.of (lv := [some (rr_ G 151), some (ii_ t), some (ii_ k), none, none, none, none, none]) (by decide +kernel) (Nat.le_of_ble_eq_true rfl) rfl rfl ?_
  refine pw_aload_n (z := 151) (pc := 0) dX1_spreadWith_0 rfl rfl ?_
  refine pw_iload_n (z := t) (pc := 1) dX1_spreadWith_1 rfl rfl ?_
  refine pw_callV (c := 1) (o := 151) (As := [ii_ t]) (rest := []) (pc := 2) dX1_spreadWith_2 (d_before hC h t (by first | omega)) lX1_152 mX1_before vX1_before (hC 151 (by decide)) (show kd_ 151 = 11 by decide +kernel) rfl rfl rfl (by decide) ⟨Nat.zero_le _, Nat.zero_le _⟩ (Nat.le_of_ble_eq_true rfl) (k_i (fun z2 h2 y2 q2 => ?_))
  obtain ⟨rfl, rfl⟩ := q2
  refine pw_istore_n (lv1 := [some (rr_ G 151), some (ii_ t), some (ii_ k), some (ii_ (bef_ (h 157) t)), none, none, none, none]) (pc := 5) dX1_spreadWith_5 rfl (by decide) rfl rfl ?_
  refine pw_ldc (z := 2147483647) (pc := 6) dX1_spreadWith_6 kX1_137 rfl ?_
  refine pw_istore (lv1 := [some (rr_ G 151), some (ii_ t), some (ii_ k), some (ii_ (bef_ (h 157) t)), some (ii_ 2147483647), none, none, none]) (pc := 8) dX1_spreadWith_8 (by decide) rfl rfl ?_
  refine pw_ldc (z := -2147483648) (pc := 10) dX1_spreadWith_10 kX1_56 rfl ?_
  refine pw_istore (lv1 := [some (rr_ G 151), some (ii_ t), some (ii_ k), some (ii_ (bef_ (h 157) t)), some (ii_ 2147483647), some (ii_ (-2147483648)), none, none]) (pc := 12) dX1_spreadWith_12 (by decide) rfl rfl ?_
  refine pw_iconst (pc := 14) dX1_spreadWith_14 ?_
  refine pw_istore (lv1 := [some (rr_ G 151), some (ii_ t), some (ii_ k), some (ii_ (bef_ (h 157) t)), some (ii_ 2147483647), some (ii_ (-2147483648)), some (ii_ 0), none]) (pc := 15) dX1_spreadWith_15 (by decide) rfl rfl ?_
  have L17 : ∀ (nn : Nat) (lo : Int) (hi : Int) (r : Int), (0 ≤ r ∧ r ≤ ro 2) → (ir_ lo ∧ ir_ hi) → (spi_ (fun r => h 156 (4 * t + r) + gan_ ro P t (bef_ (h 157) t) k r) 0 r lo hi) → ((ro 2 - r + 1 : Int) ≤ nn) → PW G RX1 cX1_spreadWith 8 (some .int) (rm_ 2) 0 0 (zm_ G (qi_ (fun z h' => h = h' ∧ (z = spr_ (fun r => h 156 (4 * t + r) + gan_ ro P t (bef_ (h 157) t) k r) 0 (ro 2) ∨ h 151 14 < z ∧ z ≤ spr_ (fun r => h 156 (4 * t + r) + gan_ ro P t (bef_ (h 157) t) k r) 0 (ro 2))))) 17 [some (rr_ G 151), some (ii_ t), some (ii_ k), some (ii_ (bef_ (h 157) t)), some (ii_ lo), some (ii_ hi), some (ii_ r), none] [] h := by
    intro nn
    induction nn with
    | zero => intro lo hi r ak ar al ams; exfalso; omega
    | succ nn ih17 =>
      intro lo hi r ak ar al ams
      refine pw_iload (z := r) (pc := 17) dX1_spreadWith_17 rfl ?_
      refine pw_aload_n (z := 151) (pc := 19) dX1_spreadWith_19 rfl rfl ?_
      refine pw_gD (x := 0) (r := o) (pc := 20) dX1_spreadWith_20 fX1_39 (hC 151 (by decide)) (show kd_ 151 = 11 by decide +kernel) rfl rfl hl_h ?_
      refine pw_gI (x := 2) (pc := 23) dX1_spreadWith_23 fX1_94 (hC _ (by omega)) (kd6_0 ho) rfl rfl (fun r23 => ?_)
      refine pw_icmp_ge (t := 94) (pc := 26) dX1_spreadWith_26 (by decide) (by first | omega) (by first | omega) (fun c26 => ?_) (fun c26 => ?_)
      · have sb := spi_b al (by omega) (fun q q0 q1 => fb q q0 (by omega))
        have sl := spi_le al (by omega) (show r ≤ ro 2 by omega)
        refine pw_iload (z := hi) (pc := 94) dX1_spreadWith_94 rfl ?_
        refine pw_iload (z := lo) (pc := 96) dX1_spreadWith_96 rfl ?_
        refine pw_isub (pc := 98) dX1_spreadWith_98 ?_
        exact pw_iret (pc := 99) dX1_spreadWith_99 (by first | omega) (⟨rfl, Or.inl (sl.2 (by omega))⟩)
      · have gb := gbb r
        have tb := hb r (by omega) (by omega)
        have et : t * 4 + r = 4 * t + r := by omega
        rw [← et] at tb
        refine pw_aload_n (z := 151) (pc := 29) dX1_spreadWith_29 rfl rfl ?_
        refine pw_getR (r := 156) (pc := 30) dX1_spreadWith_30 fX1_24 (hC 151 (by decide)) (show kd_ 151 = 11 by decide +kernel) rfl (by decide +kernel) ?_
        refine pw_iload_n (z := t) (pc := 33) dX1_spreadWith_33 rfl rfl ?_
        refine pw_iconst (pc := 34) dX1_spreadWith_34 ?_
        refine pw_imul (pc := 35) dX1_spreadWith_35 ?_
        refine pw_iload (z := r) (pc := 36) dX1_spreadWith_36 rfl ?_
        refine pw_iadd (pc := 38) dX1_spreadWith_38 ?_
        refine pw_iald (pc := 39) dX1_spreadWith_39 (hC 156 (by decide)) (show kd_ 156 = 0 by decide +kernel) 20 (by decide +kernel) (by first | omega) (by first | omega) (by first | omega) (fun r39 => ?_)
        refine pw_aload_n (z := 151) (pc := 40) dX1_spreadWith_40 rfl rfl ?_
        refine pw_iload_n (z := t) (pc := 41) dX1_spreadWith_41 rfl rfl ?_
        refine pw_iload_n (z := bef_ (h 157) t) (pc := 42) dX1_spreadWith_42 rfl rfl ?_
        refine pw_iload_n (z := k) (pc := 43) dX1_spreadWith_43 rfl rfl ?_
        refine pw_iload (z := r) (pc := 44) dX1_spreadWith_44 rfl ?_
        refine pw_callV (c := 1) (o := 151) (As := [ii_ t, ii_ (bef_ (h 157) t), ii_ k, ii_ r]) (rest := [ii_ (h 156 ((t * 4) + r))]) (pc := 46) dX1_spreadWith_46 (d_gainOf hC h o ho ro H P hJ hG t h1 (bef_ (h 157) t) k hbf h3 r (Or.inl (by first | omega))) lX1_138 mX1_gainOf vX1_gainOf (hC 151 (by decide)) (show kd_ 151 = 11 by decide +kernel) rfl rfl rfl (by decide) ⟨Nat.zero_le _, Nat.zero_le _⟩ (Nat.le_of_ble_eq_true rfl) (k_i (fun z46 h46 y46 q46 => ?_))
        obtain ⟨rfl, w46⟩ := q46
        refine pw_iadd (pc := 49) dX1_spreadWith_49 ?_
        refine pw_istore (lv1 := [some (rr_ G 151), some (ii_ t), some (ii_ k), some (ii_ (bef_ (h 157) t)), some (ii_ lo), some (ii_ hi), some (ii_ r), some (ii_ ((h 156 ((t * 4) + r)) + z46))]) (pc := 50) dX1_spreadWith_50 (by decide) rfl rfl ?_
        refine pw_iload (z := lo) (pc := 52) dX1_spreadWith_52 rfl ?_
        refine pw_iload (z := (h 156 ((t * 4) + r)) + z46) (pc := 54) dX1_spreadWith_54 rfl ?_
        refine pw_mmin (pc := 56) dX1_spreadWith_56 lX1_141 (by first | omega) (by first | omega) (by decide) ⟨Nat.zero_le _, Nat.zero_le _⟩ (Nat.le_of_ble_eq_true rfl) (fun z56 r56 w56 => ?_)
        refine pw_istore (lv1 := [some (rr_ G 151), some (ii_ t), some (ii_ k), some (ii_ (bef_ (h 157) t)), some (ii_ z56), some (ii_ hi), some (ii_ r), some (ii_ ((h 156 ((t * 4) + r)) + z46))]) (pc := 59) dX1_spreadWith_59 (by decide) rfl rfl ?_
        refine pw_iload (z := hi) (pc := 61) dX1_spreadWith_61 rfl ?_
        refine pw_iload (z := (h 156 ((t * 4) + r)) + z46) (pc := 63) dX1_spreadWith_63 rfl ?_
        refine pw_mmax (pc := 65) dX1_spreadWith_65 lX1_193 (by first | omega) (by first | omega) (by decide) ⟨Nat.zero_le _, Nat.zero_le _⟩ (Nat.le_of_ble_eq_true rfl) (fun z65 r65 w65 => ?_)
        refine pw_istore (lv1 := [some (rr_ G 151), some (ii_ t), some (ii_ k), some (ii_ (bef_ (h 157) t)), some (ii_ z56), some (ii_ z65), some (ii_ r), some (ii_ ((h 156 ((t * 4) + r)) + z46))]) (pc := 68) dX1_spreadWith_68 (by decide) rfl rfl ?_
        have ws : h 156 (4 * t + r) + gan_ ro P t (bef_ (h 157) t) k r = h 156 (t * 4 + r) + z46 := by rw [et, w46]
        have sn : spi_ (fun r => h 156 (4 * t + r) + gan_ ro P t (bef_ (h 157) t) k r) 0 (r + 1) z56 z65 := spi_s al (by rw [ws]; exact w56) (by rw [ws]; exact w65) (fb r (by omega) (by omega))
        have sb := spi_b sn (by omega) (fun q q0 q1 => fb q q0 (by omega))
        have sl := spi_le sn (by omega) (show r + 1 ≤ ro 2 by omega)
        refine pw_iload (z := z65) (pc := 70) dX1_spreadWith_70 rfl ?_
        refine pw_iload (z := z56) (pc := 72) dX1_spreadWith_72 rfl ?_
        refine pw_isub (pc := 74) dX1_spreadWith_74 ?_
        refine pw_aload_n (z := 151) (pc := 75) dX1_spreadWith_75 rfl rfl ?_
        refine pw_gI (x := 14) (pc := 76) dX1_spreadWith_76 fX1_161 (hC 151 (by decide)) (show kd_ 151 = 11 by decide +kernel) rfl rfl (fun r76 => ?_)
        refine pw_icmp_le (t := 88) (pc := 79) dX1_spreadWith_79 (by decide) (by first | omega) (by first | omega) (fun c79 => ?_) (fun c79 => ?_)
        · refine pw_iinc (z := r) (lv1 := [some (rr_ G 151), some (ii_ t), some (ii_ k), some (ii_ (bef_ (h 157) t)), some (ii_ z56), some (ii_ z65), some (ii_ (r + 1)), some (ii_ ((h 156 ((t * 4) + r)) + z46))]) (pc := 88) dX1_spreadWith_88 rfl (by decide) rfl rfl ?_
          refine pw_goto (t := 17) (pc := 91) dX1_spreadWith_91 (by decide) ?_
          refine pw_less (lv1 := [some (rr_ G 151), some (ii_ t), some (ii_ k), some (ii_ (bef_ (h 157) t)), some (ii_ z56), some (ii_ z65), some (ii_ (r + 1)), none]) rfl (by intro i v; (match i with | 0 => simp | 1 => simp | 2 => simp | 3 => simp | 4 => simp | 5 => simp | 6 => simp | 7 => simp | n + 8 => simp)) ?_
          exact ih17 _ _ _ (by omega) (⟨by omega, by omega⟩) (sn) (by omega)
        · refine pw_iload (z := z65) (pc := 82) dX1_spreadWith_82 rfl ?_
          refine pw_iload (z := z56) (pc := 84) dX1_spreadWith_84 rfl ?_
          refine pw_isub (pc := 86) dX1_spreadWith_86 ?_
          exact pw_iret (pc := 87) dX1_spreadWith_87 (by first | omega) (⟨rfl, Or.inr ⟨by omega, by omega⟩⟩)
  exact L17 _ _ _ _ (by omega) (by constructor <;> (constructor <;> decide)) (Or.inl ⟨rfl, rfl, rfl⟩) (Int.self_le_toNat _)

