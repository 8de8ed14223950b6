/-! ===== the class's journeys ===== -/
def CJP_ (ro : Int → Int) (h : PH_) (o : Nat) : Prop := h 151 0 = (o : Int) ∧ CPL_ ro h o
def CJG_ (ro : Int → Int) (P : List (Int × Int)) (h : PH_) : Prop := ∀ t k r : Int, 0 ≤ t → t < ro 1 → 0 ≤ k → k < (lpn_ ro 256).length → 0 ≤ r → r < ro 2 → h 153 ((t * 24 + k) * 4 + r) = pW_ ro P k r t
def CJL_ (ro : Int → Int) (P : List (Int × Int)) (h : PH_) (t0 : Int) : Prop := ∀ t i a c : Int, t0 ≤ t → t < ro 1 → 0 ≤ i → i < (lpn_ ro 256).length → (0 ≤ a ∧ a < ro 2 ∨ a = 4) → 0 ≤ c → c < ro 2 → a ≠ c → h 154 (((a * 4 + c) * 4 + t) * 24 + i) = leh_ ro P a c (ro 1 - 1 - t).toNat i
theorem CJP_at {ro : Int → Int} {h : PH_} {o : Nat} (hJ : CJP_ ro h o) {k : Int} (h0 : 0 ≤ k) (h1 : k < (lpn_ ro 256).length) : h (o + 14) k = pL_ ro k := arr_at hJ.2.2 h0 h1

set_option maxHeartbeats 4000000 in
set_option maxRecDepth 100000 in
theorem d_leastPlace {G : GT_} (h : PH_) (t i a c : Int) (h1 : (0 ≤ t ∧ t ≤ 4) ∧ (0 ≤ i ∧ i ≤ 24) ∧ (0 ≤ a ∧ a ≤ 4) ∧ (0 ≤ c ∧ c ≤ 4)) : PC G yX1_leastPlace cX1_leastPlace 4 (some .int) 1 [ii_ t, ii_ i, ii_ a, ii_ c] h (qi_ (fun z h' => h = h' ∧ z = ((a * 4 + c) * 4 + t) * 24 + i)) := by
  refine PC.of (lv := [some (ii_ t), some (ii_ i), some (ii_ a), some (ii_ c)]) (by decide +kernel) (Nat.le_of_ble_eq_true rfl) rfl rfl ?_
  refine pw_iload_n (z := a) (pc := 0) dX1_leastPlace_0 rfl rfl ?_
  refine pw_iconst (pc := 1) dX1_leastPlace_1 ?_
  refine pw_imul (pc := 2) dX1_leastPlace_2 ?_
  refine pw_iload_n (z := c) (pc := 3) dX1_leastPlace_3 rfl rfl ?_
  refine pw_iadd (pc := 4) dX1_leastPlace_4 ?_
  refine pw_iconst (pc := 5) dX1_leastPlace_5 ?_
  refine pw_imul (pc := 6) dX1_leastPlace_6 ?_
  refine pw_iload_n (z := t) (pc := 7) dX1_leastPlace_7 rfl rfl ?_
  refine pw_iadd (pc := 8) dX1_leastPlace_8 ?_
  refine pw_bipush (pc := 9) dX1_leastPlace_9 rfl ?_
  refine pw_imul (pc := 11) dX1_leastPlace_11 ?_
  refine pw_iload_n (z := i) (pc := 12) dX1_leastPlace_12 rfl rfl ?_
  refine pw_iadd (pc := 13) dX1_leastPlace_13 ?_
  exact pw_iret (pc := 14) dX1_leastPlace_14 (by first | omega) (⟨rfl, rfl⟩)

set_option maxHeartbeats 4000000 in
set_option maxRecDepth 100000 in
theorem d_gainOf {G : GT_} (hC : okC_ G) (h : PH_) (o : Nat) (ho : is6_ o) (ro : Int → Int) (H : CRD_ ro h o) (P : List (Int × Int)) (hJ : CJP_ ro h o) (hG : CJG_ ro P h) (t : Int) (h1 : 0 ≤ t ∧ t < ro 1) (b k : Int) (h2 : b = -1 ∨ 0 ≤ b ∧ b < (lpn_ ro 256).length) (h3 : 0 ≤ k ∧ k < (lpn_ ro 256).length) (r : Int) (h4 : 0 ≤ r ∧ r < ro 2 ∨ r = 4) : PC G yX1_gainOf cX1_gainOf 7 (some .int) 1 [rr_ G 151, ii_ t, ii_ b, ii_ k, ii_ r] h (qi_ (fun z h' => h = h' ∧ z = gan_ ro P t b k r)) := by
  have HB := H.2.1
  have HA := H.1
  have l24 := lpn_24 (ro := ro) (by omega) (by omega)
  have hl_h := hJ.1
  have hN := hJ.2.1
  refine PC.of (lv := [some (rr_ G 151), some (ii_ t), some (ii_ b), some (ii_ k), some (ii_ r), none, none]) (by decide +kernel) (Nat.le_of_ble_eq_true rfl) rfl rfl ?_
  refine pw_iload (z := r) (pc := 0) dX1_gainOf_0 rfl ?_
  refine pw_iconst (pc := 2) dX1_gainOf_2 ?_
  refine pw_icmp_ne (t := 8) (pc := 3) dX1_gainOf_3 (by decide) (by first | omega) (by first | omega) (fun c3 => ?_) (fun c3 => ?_)
  · have hg := hG t k r h1.1 h1.2 h3.1 h3.2 (by omega) (by omega)
    have wb : 0 ≤ pW_ ro P k r t ∧ pW_ ro P k r t ≤ 999 := wsi_b _ _ _ _ _
    refine pw_aload_n (z := 151) (pc := 8) dX1_gainOf_8 rfl rfl ?_
    refine pw_getR (r := 153) (pc := 9) dX1_gainOf_9 fX1_15 (hC 151 (by decide)) (show kd_ 151 = 11 by decide +kernel) rfl (by decide +kernel) ?_
    refine pw_iload_n (z := t) (pc := 12) dX1_gainOf_12 rfl rfl ?_
    refine pw_bipush (pc := 13) dX1_gainOf_13 rfl ?_
    refine pw_imul (pc := 15) dX1_gainOf_15 ?_
    refine pw_iload_n (z := k) (pc := 16) dX1_gainOf_16 rfl rfl ?_
    refine pw_iadd (pc := 17) dX1_gainOf_17 ?_
    refine pw_iconst (pc := 18) dX1_gainOf_18 ?_
    refine pw_imul (pc := 19) dX1_gainOf_19 ?_
    refine pw_iload (z := r) (pc := 20) dX1_gainOf_20 rfl ?_
    refine pw_iadd (pc := 22) dX1_gainOf_22 ?_
    refine pw_iald (pc := 23) dX1_gainOf_23 (hC 153 (by decide)) (show kd_ 153 = 0 by decide +kernel) 384 (by decide +kernel) (by first | omega) (by first | omega) (by first | omega) (fun r23 => ?_)
    refine pw_istore (lv1 := [some (rr_ G 151), some (ii_ t), some (ii_ b), some (ii_ k), some (ii_ r), some (ii_ (h 153 ((((t * 24) + k) * 4) + r))), none]) (pc := 24) dX1_gainOf_24 (by decide) rfl rfl ?_
    refine pw_iload_n (z := b) (pc := 26) dX1_gainOf_26 rfl rfl ?_
    refine pw_iconst (pc := 27) dX1_gainOf_27 ?_
    refine pw_icmp_ne (t := 34) (pc := 28) dX1_gainOf_28 (by decide) (by first | omega) (by first | omega) (fun c28 => ?_) (fun c28 => ?_)
    · have pb := CJP_at hJ (k := b) (by omega) (by omega)
      have pk := CJP_at hJ h3.1 h3.2
      have qb := pL_b (ro := ro) (k := b) (by omega) (by omega) (by omega) (by omega)
      have qk := pL_b (ro := ro) (by omega) (by omega) h3.1 h3.2
      obtain ⟨x, ex, x1, x2, x3, x4⟩ := chp_ (ro := ro) (b := b) (k := k) (by omega) (by omega) (by omega) (by omega) h3.1 h3.2
      have x5 := x4 r (by omega) (by omega)
      refine pw_aload_n (z := 151) (pc := 34) dX1_gainOf_34 rfl rfl ?_
      refine pw_gD (x := 0) (r := o) (pc := 35) dX1_gainOf_35 fX1_39 (hC 151 (by decide)) (show kd_ 151 = 11 by decide +kernel) rfl rfl hl_h ?_
      refine pw_getR (r := (o + 14)) (pc := 38) dX1_gainOf_38 fX1_112 (hC _ (by omega)) (kd6_0 ho) rfl rfl ?_
      refine pw_iload_n (z := b) (pc := 41) dX1_gainOf_41 rfl rfl ?_
      refine pw_iald (pc := 42) dX1_gainOf_42 (hC _ (by omega)) (kd6_14 ho) 24 (ln6_14 ho) (by first | omega) (by first | omega) (by first | omega) (fun r42 => ?_)
      refine pw_aload_n (z := 151) (pc := 43) dX1_gainOf_43 rfl rfl ?_
      refine pw_gD (x := 0) (r := o) (pc := 44) dX1_gainOf_44 fX1_39 (hC 151 (by decide)) (show kd_ 151 = 11 by decide +kernel) rfl rfl hl_h ?_
      refine pw_getR (r := (o + 14)) (pc := 47) dX1_gainOf_47 fX1_112 (hC _ (by omega)) (kd6_0 ho) rfl rfl ?_
      refine pw_iload_n (z := k) (pc := 50) dX1_gainOf_50 rfl rfl ?_
      refine pw_iald (pc := 51) dX1_gainOf_51 (hC _ (by omega)) (kd6_14 ho) 24 (ln6_14 ho) (by first | omega) (by first | omega) (by first | omega) (fun r51 => ?_)
      refine pw_ixorX (pc := 52) dX1_gainOf_52 (by first | omega) (by first | omega) (fun w52 r52 x52 => ?_)
      have e52 : w52 = (x : Int) := by rw [x52 (by omega) (by omega), pb, pk, ex]
      refine pw_iconst (pc := 53) dX1_gainOf_53 ?_
      refine pw_aload_n (z := 151) (pc := 54) dX1_gainOf_54 rfl rfl ?_
      refine pw_gD (x := 0) (r := o) (pc := 55) dX1_gainOf_55 fX1_39 (hC 151 (by decide)) (show kd_ 151 = 11 by decide +kernel) rfl rfl hl_h ?_
      refine pw_gI (x := 2) (pc := 58) dX1_gainOf_58 fX1_94 (hC _ (by omega)) (kd6_0 ho) rfl rfl (fun r58 => ?_)
      refine pw_iconst (pc := 61) dX1_gainOf_61 ?_
      refine pw_isub (pc := 62) dX1_gainOf_62 ?_
      refine pw_iload (z := r) (pc := 63) dX1_gainOf_63 rfl ?_
      refine pw_isub (pc := 65) dX1_gainOf_65 ?_
      refine pw_imul (pc := 66) dX1_gainOf_66 ?_
      refine pw_ishr (pc := 67) dX1_gainOf_67 (by first | omega) (by first | omega) ?_
      refine pw_iconst (pc := 68) dX1_gainOf_68 ?_
      refine pw_iand3 (pc := 69) dX1_gainOf_69 ?_
      refine pw_istore (lv1 := [some (rr_ G 151), some (ii_ t), some (ii_ b), some (ii_ k), some (ii_ r), some (ii_ (h 153 ((((t * 24) + k) * 4) + r))), some (ii_ ((w52 / 2 ^ (2 * (((h o 2) - 1) - r)).toNat) % 4))]) (pc := 70) dX1_gainOf_70 (by decide) rfl rfl ?_
      have e6 : w52 / 2 ^ (2 * (h o 2 - 1 - r)).toNat % 4 = 0 ↔ ¬ pC_ ro b k / 2 ^ r.toNat % 2 = 1 := by rw [e52, HA.2.2.1]; exact x5
      refine pw_iload (z := (w52 / 2 ^ (2 * (((h o 2) - 1) - r)).toNat) % 4) (pc := 72) dX1_gainOf_72 rfl ?_
      refine pw_if_ne (t := 82) (pc := 74) dX1_gainOf_74 (by decide) (by first | omega) (fun c74 => ?_) (fun c74 => ?_)
      · refine pw_iload (z := h 153 ((((t * 24) + k) * 4) + r)) (pc := 82) dX1_gainOf_82 rfl ?_
        refine pw_aload_n (z := 151) (pc := 84) dX1_gainOf_84 rfl rfl ?_
        refine pw_gD (x := 0) (r := o) (pc := 85) dX1_gainOf_85 fX1_39 (hC 151 (by decide)) (show kd_ 151 = 11 by decide +kernel) rfl rfl hl_h ?_
        refine pw_gI (x := 5) (pc := 88) dX1_gainOf_88 fX1_146 (hC _ (by omega)) (kd6_0 ho) rfl rfl (fun r88 => ?_)
        refine pw_isub (pc := 91) dX1_gainOf_91 ?_
        exact pw_iret (pc := 92) dX1_gainOf_92 (by first | omega) (⟨rfl, by
                  unfold gan_
                  rw [if_neg (by omega), if_neg (show ¬ b = -1 by omega), hg]
                  first
                  | (rw [if_neg (e6.mp (by omega))]; omega)
                  | (rw [if_pos (Classical.not_not.mp (fun u => absurd (e6.mpr u) (by omega)))]; omega)⟩)
      · refine pw_iload (z := h 153 ((((t * 24) + k) * 4) + r)) (pc := 77) dX1_gainOf_77 rfl ?_
        refine pw_goto (t := 92) (pc := 79) dX1_gainOf_79 (by decide) ?_
        exact pw_iret (pc := 92) dX1_gainOf_92 (by first | omega) (⟨rfl, by
                  unfold gan_
                  rw [if_neg (by omega), if_neg (show ¬ b = -1 by omega), hg]
                  first
                  | (rw [if_neg (e6.mp (by omega))]; omega)
                  | (rw [if_pos (Classical.not_not.mp (fun u => absurd (e6.mpr u) (by omega)))]; omega)⟩)
    · refine pw_iload (z := h 153 ((((t * 24) + k) * 4) + r)) (pc := 31) dX1_gainOf_31 rfl ?_
      exact pw_iret (pc := 33) dX1_gainOf_33 (by first | omega) (⟨rfl, by unfold gan_; rw [if_neg (by omega), if_pos (by omega), hg]; omega⟩)
  · refine pw_iconst (pc := 6) dX1_gainOf_6 ?_
    exact pw_iret (pc := 7) dX1_gainOf_7 (by first | omega) (⟨rfl, (if_pos (by omega)).symm⟩)

set_option maxHeartbeats 4000000 in
set_option maxRecDepth 100000 in
theorem d_movesOf {G : GT_} (hC : okC_ G) (h : PH_) (o : Nat) (ho : is6_ o) (ro : Int → Int) (H : CRD_ ro h o) (P : List (Int × Int)) (hJ : CJP_ ro h o) (hG : CJG_ ro P h) (b k : Int) (h2 : b = -1 ∨ 0 ≤ b ∧ b < (lpn_ ro 256).length) (h3 : 0 ≤ k ∧ k < (lpn_ ro 256).length) : PC G yX1_movesOf cX1_movesOf 4 (some .int) 2 [rr_ G 151, ii_ b, ii_ k] h (qi_ (fun z h' => h = h' ∧ z = mov_ ro b k)) := by
  have HB := H.2.1
  have HA := H.1
  have l24 := lpn_24 (ro := ro) (by omega) (by omega)
  have hl_h := hJ.1
  have hN := hJ.2.1
  refine PC.of (lv := [some (rr_ G 151), some (ii_ b), some (ii_ k), none]) (by decide +kernel) (Nat.le_of_ble_eq_true rfl) rfl rfl ?_
  refine pw_iload_n (z := b) (pc := 0) dX1_movesOf_0 rfl rfl ?_
  refine pw_iconst (pc := 1) dX1_movesOf_1 ?_
  refine pw_icmp_ne (t := 7) (pc := 2) dX1_movesOf_2 (by decide) (by first | omega) (by first | omega) (fun c2 => ?_) (fun c2 => ?_)
  · have pb := CJP_at hJ (k := b) (by omega) (by omega)
    have pk := CJP_at hJ h3.1 h3.2
    have qb := pL_b (ro := ro) (k := b) (by omega) (by omega) (by omega) (by omega)
    have qk := pL_b (ro := ro) (by omega) (by omega) h3.1 h3.2
    obtain ⟨x, ex, x1, x2, x3, x4⟩ := chp_ (ro := ro) (b := b) (k := k) (by omega) (by omega) (by omega) (by omega) h3.1 h3.2
    refine pw_aload_n (z := 151) (pc := 7) dX1_movesOf_7 rfl rfl ?_
    refine pw_gD (x := 0) (r := o) (pc := 8) dX1_movesOf_8 fX1_39 (hC 151 (by decide)) (show kd_ 151 = 11 by decide +kernel) rfl rfl hl_h ?_
    refine pw_getR (r := (o + 14)) (pc := 11) dX1_movesOf_11 fX1_112 (hC _ (by omega)) (kd6_0 ho) rfl rfl ?_
    refine pw_iload_n (z := b) (pc := 14) dX1_movesOf_14 rfl rfl ?_
    refine pw_iald (pc := 15) dX1_movesOf_15 (hC _ (by omega)) (kd6_14 ho) 24 (ln6_14 ho) (by first | omega) (by first | omega) (by first | omega) (fun r15 => ?_)
    refine pw_aload_n (z := 151) (pc := 16) dX1_movesOf_16 rfl rfl ?_
    refine pw_gD (x := 0) (r := o) (pc := 17) dX1_movesOf_17 fX1_39 (hC 151 (by decide)) (show kd_ 151 = 11 by decide +kernel) rfl rfl hl_h ?_
    refine pw_getR (r := (o + 14)) (pc := 20) dX1_movesOf_20 fX1_112 (hC _ (by omega)) (kd6_0 ho) rfl rfl ?_
    refine pw_iload_n (z := k) (pc := 23) dX1_movesOf_23 rfl rfl ?_
    refine pw_iald (pc := 24) dX1_movesOf_24 (hC _ (by omega)) (kd6_14 ho) 24 (ln6_14 ho) (by first | omega) (by first | omega) (by first | omega) (fun r24 => ?_)
    refine pw_ixorX (pc := 25) dX1_movesOf_25 (by first | omega) (by first | omega) (fun w25 r25 x25 => ?_)
    have e25 : w25 = (x : Int) := by rw [x25 (by omega) (by omega), pb, pk, ex]
    have e30 : w25 / 2 ^ (1 : Int).toNat = w25 / 2 := rfl
    refine pw_istore_n (lv1 := [some (rr_ G 151), some (ii_ b), some (ii_ k), some (ii_ w25)]) (pc := 26) dX1_movesOf_26 rfl (by decide) rfl rfl ?_
    refine pw_iload_n (z := w25) (pc := 27) dX1_movesOf_27 rfl rfl ?_
    refine pw_iload_n (z := w25) (pc := 28) dX1_movesOf_28 rfl rfl ?_
    refine pw_iconst (pc := 29) dX1_movesOf_29 ?_
    refine pw_ishr (pc := 30) dX1_movesOf_30 (by first | omega) (by first | omega) ?_
    refine pw_iorX (pc := 31) dX1_movesOf_31 (by first | omega) (by first | omega) (fun w31 r31 x31 => ?_)
    have e31 : w31 = ((x ||| x / 2 : Nat) : Int) := by rw [x31 (by omega) (by show 0 ≤ w25 / 2; omega), e25]; rfl
    refine pw_bipush (pc := 32) dX1_movesOf_32 rfl ?_
    refine pw_iandX (pc := 34) dX1_movesOf_34 (by first | omega) (by first | omega) (fun w34 r34 x34 v34 => ?_)
    have e34 : w34 = (((x ||| x / 2) &&& 85 : Nat) : Int) := by rw [x34 (by omega) (by omega), e31]; rfl
    refine pw_callS (As := [ii_ w34]) (rest := []) (pc := 35) dX1_movesOf_35 (j_bitCount h w34 (by first | omega)) lX1_149 mJ6_bitCount_0f7a4 sJ6_bitCount_0f7a4 rfl rfl (by decide) ⟨Nat.zero_le _, Nat.zero_le _⟩ (Nat.le_of_ble_eq_true rfl) (k_i (fun z35 h35 y35 q35 => ?_))
    obtain ⟨rfl, w35, _, _⟩ := q35
    exact pw_iret (pc := 38) dX1_movesOf_38 (by first | omega) (⟨rfl, by unfold mov_; rw [if_neg (by omega), w35, e34]; exact x3⟩)
  · refine pw_iconst (pc := 5) dX1_movesOf_5 ?_
    exact pw_iret (pc := 6) dX1_movesOf_6 (by first | omega) (⟨rfl, (if_pos (by omega)).symm⟩)

set_option maxHeartbeats 4000000 in
set_option maxRecDepth 100000 in
theorem d_before {G : GT_} (hC : okC_ G) (h : PH_) (t : Int) (h1 : 0 ≤ t ∧ t ≤ 4) : PC G yX1_before cX1_before 2 (some .int) 1 [rr_ G 151, ii_ t] h (qi_ (fun z h' => h = h' ∧ z = bef_ (h 157) t)) := by
  refine PC.of (lv := [some (rr_ G 151), some (ii_ t)]) (by decide +kernel) (Nat.le_of_ble_eq_true rfl) rfl rfl ?_
  refine pw_iload_n (z := t) (pc := 0) dX1_before_0 rfl rfl ?_
  refine pw_if_le (t := 15) (pc := 1) dX1_before_1 (by decide) (by first | omega) (fun c1 => ?_) (fun c1 => ?_)
  · refine pw_iconst (pc := 15) dX1_before_15 ?_
    exact pw_iret (pc := 16) dX1_before_16 (by first | omega) (⟨rfl, by unfold bef_; first | (rw [if_pos (by omega)]; done) | (rw [if_neg (by omega)]; done)⟩)
  · refine pw_aload_n (z := 151) (pc := 4) dX1_before_4 rfl rfl ?_
    refine pw_getR (r := 157) (pc := 5) dX1_before_5 fX1_27 (hC 151 (by decide)) (show kd_ 151 = 11 by decide +kernel) rfl (by decide +kernel) ?_
    refine pw_iload_n (z := t) (pc := 8) dX1_before_8 rfl rfl ?_
    refine pw_iconst (pc := 9) dX1_before_9 ?_
    refine pw_isub (pc := 10) dX1_before_10 ?_
    refine pw_iald (pc := 11) dX1_before_11 (hC 157 (by decide)) (show kd_ 157 = 0 by decide +kernel) 4 (by decide +kernel) (by first | omega) (by first | omega) (by first | omega) (fun r11 => ?_)
    refine pw_goto (t := 16) (pc := 12) dX1_before_12 (by decide) ?_
    exact pw_iret (pc := 16) dX1_before_16 (by first | omega) (⟨rfl, by unfold bef_; first | (rw [if_pos (by omega)]; done) | (rw [if_neg (by omega)]; done)⟩)

set_option maxHeartbeats 4000000 in
set_option maxRecDepth 100000 in
theorem d_isEvener {G : GT_} (hC : okC_ G) (h : PH_) (v m : Int) (h1 : ir_ v) (h2 : ir_ m) : PC G yX1_isEvener cX1_isEvener 3 (some .boolean) 1 [rr_ G 151, ii_ v, ii_ m] h (qi_ (fun z h' => h = h' ∧ (z = 1 ∧ (v < h 151 14 ∨ v = h 151 14 ∧ m < h 151 15) ∨ z = 0 ∧ ¬ (v < h 151 14 ∨ v = h 151 14 ∧ m < h 151 15)))) := by
  refine PC.of (lv := [some (rr_ G 151), some (ii_ v), some (ii_ m)]) (by decide +kernel) (Nat.le_of_ble_eq_true rfl) rfl rfl ?_
  refine pw_iload_n (z := v) (pc := 0) dX1_isEvener_0 rfl rfl ?_
  refine pw_aload_n (z := 151) (pc := 1) dX1_isEvener_1 rfl rfl ?_
  refine pw_gI (x := 14) (pc := 2) dX1_isEvener_2 fX1_161 (hC 151 (by decide)) (show kd_ 151 = 11 by decide +kernel) rfl rfl (fun r2 => ?_)
  refine pw_icmp_lt (t := 24) (pc := 5) dX1_isEvener_5 (by decide) (by first | omega) (by first | omega) (fun c5 => ?_) (fun c5 => ?_)
  · refine pw_iconst (pc := 24) dX1_isEvener_24 ?_
    refine pw_goto (t := 29) (pc := 25) dX1_isEvener_25 (by decide) ?_
    exact pw_zret (pc := 29) dX1_isEvener_29 (by first | omega) (⟨rfl, by omega⟩)
  · refine pw_iload_n (z := v) (pc := 8) dX1_isEvener_8 rfl rfl ?_
    refine pw_aload_n (z := 151) (pc := 9) dX1_isEvener_9 rfl rfl ?_
    refine pw_gI (x := 14) (pc := 10) dX1_isEvener_10 fX1_161 (hC 151 (by decide)) (show kd_ 151 = 11 by decide +kernel) rfl rfl (fun r10 => ?_)
    refine pw_icmp_ne (t := 28) (pc := 13) dX1_isEvener_13 (by decide) (by first | omega) (by first | omega) (fun c13 => ?_) (fun c13 => ?_)
    · refine pw_iconst (pc := 28) dX1_isEvener_28 ?_
      exact pw_zret (pc := 29) dX1_isEvener_29 (by first | omega) (⟨rfl, by omega⟩)
    · refine pw_iload_n (z := m) (pc := 16) dX1_isEvener_16 rfl rfl ?_
      refine pw_aload_n (z := 151) (pc := 17) dX1_isEvener_17 rfl rfl ?_
      refine pw_gI (x := 15) (pc := 18) dX1_isEvener_18 fX1_158 (hC 151 (by decide)) (show kd_ 151 = 11 by decide +kernel) rfl rfl (fun r18 => ?_)
      refine pw_icmp_ge (t := 28) (pc := 21) dX1_isEvener_21 (by decide) (by first | omega) (by first | omega) (fun c21 => ?_) (fun c21 => ?_)
      · refine pw_iconst (pc := 28) dX1_isEvener_28 ?_
        exact pw_zret (pc := 29) dX1_isEvener_29 (by first | omega) (⟨rfl, by omega⟩)
      · refine pw_iconst (pc := 24) dX1_isEvener_24 ?_
        refine pw_goto (t := 29) (pc := 25) dX1_isEvener_25 (by decide) ?_
        exact pw_zret (pc := 29) dX1_isEvener_29 (by first | omega) (⟨rfl, by omega⟩)

set_option maxHeartbeats 4000000 in
set_option maxRecDepth 100000 in
theorem d_sumOf {G : GT_} (hC : okC_ G) (h : PH_) (o : Nat) (ho : is6_ o) (ro : Int → Int) (H : CRD_ ro h o) (P : List (Int × Int)) (hJ : CJP_ ro h o) (hG : CJG_ ro P h) (t : Int) (h1 : 0 ≤ t ∧ t < ro 1) (b k : Int) (h2 : b = -1 ∨ 0 ≤ b ∧ b < (lpn_ ro 256).length) (h3 : 0 ≤ k ∧ k < (lpn_ ro 256).length) : PC G yX1_sumOf cX1_sumOf 6 (some .int) 2 [rr_ G 151, ii_ t, ii_ b, ii_ k] h (qi_ (fun z h' => h = h' ∧ z = sm_ (gan_ ro P t b k) 0 (ro 2).toNat)) := by
  have HB := H.2.1
  have HA := H.1
  have l24 := lpn_24 (ro := ro) (by omega) (by omega)
  have hl_h := hJ.1
  have hN := hJ.2.1
  refine PC.of (lv := [some (rr_ G 151), some (ii_ t), some (ii_ b), some (ii_ k), none, none]) (by decide +kernel) (Nat.le_of_ble_eq_true rfl) rfl rfl ?_
  refine pw_iconst (pc := 0) dX1_sumOf_0 ?_
  refine pw_istore (lv1 := [some (rr_ G 151), some (ii_ t), some (ii_ b), some (ii_ k), some (ii_ 0), none]) (pc := 1) dX1_sumOf_1 (by decide) rfl rfl ?_
  refine pw_iconst (pc := 3) dX1_sumOf_3 ?_
  refine pw_istore (lv1 := [some (rr_ G 151), some (ii_ t), some (ii_ b), some (ii_ k), some (ii_ 0), some (ii_ 0)]) (pc := 4) dX1_sumOf_4 (by decide) rfl rfl ?_
  have L6 : ∀ (nn : Nat) (s : Int) (r : Int), (0 ≤ r ∧ r ≤ ro 2) → (s = sm_ (gan_ ro P t b k) 0 r.toNat) → (-(99 * r) ≤ s ∧ s ≤ 999 * r) → ((ro 2 - r + 1 : Int) ≤ nn) → PW G RX1 cX1_sumOf 6 (some .int) (rm_ 2) 0 0 (zm_ G (qi_ (fun z h' => h = h' ∧ z = sm_ (gan_ ro P t b k) 0 (ro 2).toNat))) 6 [some (rr_ G 151), some (ii_ t), some (ii_ b), some (ii_ k), some (ii_ s), some (ii_ r)] [] h := by
    intro nn
    induction nn with
    | zero => intro s r ak as ab ams; exfalso; omega
    | succ nn ih6 =>
      intro s r ak as ab ams
      refine pw_iload (z := r) (pc := 6) dX1_sumOf_6 rfl ?_
      refine pw_aload_n (z := 151) (pc := 8) dX1_sumOf_8 rfl rfl ?_
      refine pw_gD (x := 0) (r := o) (pc := 9) dX1_sumOf_9 fX1_39 (hC 151 (by decide)) (show kd_ 151 = 11 by decide +kernel) rfl rfl hl_h ?_
      refine pw_gI (x := 2) (pc := 12) dX1_sumOf_12 fX1_94 (hC _ (by omega)) (kd6_0 ho) rfl rfl (fun r12 => ?_)
      refine pw_icmp_ge (t := 38) (pc := 15) dX1_sumOf_15 (by decide) (by first | omega) (by first | omega) (fun c15 => ?_) (fun c15 => ?_)
      · refine pw_iload (z := s) (pc := 38) dX1_sumOf_38 rfl ?_
        exact pw_iret (pc := 40) dX1_sumOf_40 (by first | omega) (⟨rfl, by rw [as, show r = ro 2 by omega]⟩)
      · refine pw_iload (z := s) (pc := 18) dX1_sumOf_18 rfl ?_
        refine pw_aload_n (z := 151) (pc := 20) dX1_sumOf_20 rfl rfl ?_
        refine pw_iload_n (z := t) (pc := 21) dX1_sumOf_21 rfl rfl ?_
        refine pw_iload_n (z := b) (pc := 22) dX1_sumOf_22 rfl rfl ?_
        refine pw_iload_n (z := k) (pc := 23) dX1_sumOf_23 rfl rfl ?_
        refine pw_iload (z := r) (pc := 24) dX1_sumOf_24 rfl ?_
        refine pw_callV (c := 1) (o := 151) (As := [ii_ t, ii_ b, ii_ k, ii_ r]) (rest := [ii_ s]) (pc := 26) dX1_sumOf_26 (d_gainOf hC h o ho ro H P hJ hG t h1 b k h2 h3 r (Or.inl (by first | omega))) lX1_138 mX1_gainOf vX1_gainOf (hC 151 (by decide)) (show kd_ 151 = 11 by decide +kernel) rfl rfl rfl (by decide) ⟨Nat.zero_le _, Nat.zero_le _⟩ (Nat.le_of_ble_eq_true rfl) (k_i (fun z26 h26 y26 q26 => ?_))
        obtain ⟨rfl, w26⟩ := q26
        have gb := gan_b (ro := ro) (P := P) (by omega) t b k r
        refine pw_iadd (pc := 29) dX1_sumOf_29 ?_
        refine pw_istore (lv1 := [some (rr_ G 151), some (ii_ t), some (ii_ b), some (ii_ k), some (ii_ (s + z26)), some (ii_ r)]) (pc := 30) dX1_sumOf_30 (by decide) rfl rfl ?_
        refine pw_iinc (z := r) (lv1 := [some (rr_ G 151), some (ii_ t), some (ii_ b), some (ii_ k), some (ii_ (s + z26)), some (ii_ (r + 1))]) (pc := 32) dX1_sumOf_32 rfl (by decide) rfl rfl ?_
        refine pw_goto (t := 6) (pc := 35) dX1_sumOf_35 (by decide) ?_
        exact ih6 _ _ (by omega) (by rw [sm_s ak.1, Int.zero_add, as, w26]) (by omega) (by omega)
  exact L6 _ _ _ (by omega) (rfl) (by omega) (Int.self_le_toNat _)

set_option maxHeartbeats 4000000 in
set_option maxRecDepth 100000 in
theorem d_choose {G : GT_} (hC : okC_ G) (h : PH_) (o : Nat) (ho : is6_ o) (ro : Int → Int) (H : CRD_ ro h o) (P : List (Int × Int)) (hJ : CJP_ ro h o) (hG : CJG_ ro P h) (t : Int) (h1 : 0 ≤ t ∧ t < ro 1) (k : Int) (h3 : 0 ≤ k ∧ k < (lpn_ ro 256).length) (hc : ∀ j, 0 ≤ j → j < t → 0 ≤ h 157 j ∧ h 157 j < (lpn_ ro 256).length) (hb : ∀ r, 0 ≤ r → r < ro 2 → -2000000 ≤ h 156 (4 * t + r) ∧ h 156 (4 * t + r) ≤ 2000000) : PC G yX1_choose cX1_choose 6 none 2 [rr_ G 151, ii_ t, ii_ k] h (qv_ (fun h' => off_ [156, 157] h h' ∧ h' 157 = ob_ (h 157) t k ∧ (∀ x, x < 4 * t + 4 → h' 156 x = h 156 x) ∧ (∀ r, 0 ≤ r → r < ro 2 → h' 156 (4 * t + 4 + r) = h 156 (4 * t + r) + gan_ ro P t (bef_ (h 157) t) k r))) := by
  have HB := H.2.1
  have HA := H.1
  have l24 := lpn_24 (ro := ro) (by omega) (by omega)
  have hl_h := hJ.1
  have hN := hJ.2.1
  have hbf : bef_ (h 157) t = -1 ∨ 0 ≤ bef_ (h 157) t ∧ bef_ (h 157) t < (lpn_ ro 256).length := by
    unfold bef_
    by_cases c : t = 0
    · rw [if_pos c]; exact Or.inl rfl
    · rw [if_neg c]; exact Or.inr (hc _ (by omega) (by omega))
  refine PC.of (lv := [some (rr_ G 151), some (ii_ t), some (ii_ k), none, none, none]) (by decide +kernel) (Nat.le_of_ble_eq_true rfl) rfl rfl ?_
  refine pw_aload_n (z := 151) (pc := 0) dX1_choose_0 rfl rfl ?_
  refine pw_iload_n (z := t) (pc := 1) dX1_choose_1 rfl rfl ?_
  refine pw_callV (c := 1) (o := 151) (As := [ii_ t]) (rest := []) (pc := 2) dX1_choose_2 (d_before hC h t (by first | omega)) lX1_152 mX1_before vX1_before (hC 151 (by decide)) (show kd_ 151 = 11 by decide +kernel) rfl rfl rfl (by decide) ⟨Nat.zero_le _, Nat.zero_le _⟩ (Nat.le_of_ble_eq_true rfl) (k_i (fun z2 h2 y2 q2 => ?_))
  obtain ⟨rfl, rfl⟩ := q2
  refine pw_istore_n (lv1 := [some (rr_ G 151), some (ii_ t), some (ii_ k), some (ii_ (bef_ (h 157) t)), none, none]) (pc := 5) dX1_choose_5 rfl (by decide) rfl rfl ?_
  refine pw_aload_n (z := 151) (pc := 6) dX1_choose_6 rfl rfl ?_
  refine pw_getR (r := 157) (pc := 7) dX1_choose_7 fX1_27 (hC 151 (by decide)) (show kd_ 151 = 11 by decide +kernel) rfl (by decide +kernel) ?_
  refine pw_iload_n (z := t) (pc := 10) dX1_choose_10 rfl rfl ?_
  refine pw_iload_n (z := k) (pc := 11) dX1_choose_11 rfl rfl ?_
  refine pw_iast (pc := 12) dX1_choose_12 (hC 157 (by decide)) (show kd_ 157 = 0 by decide +kernel) 4 (by decide +kernel) (by first | omega) (by first | omega) (by first | omega) (by first | omega) ?_
  obtain ⟨g12, e12⟩ : ∃ x, x = up_ h 157 t k := ⟨_, rfl⟩
  refine pw_heq e12 ?_
  refine pw_iconst (pc := 13) dX1_choose_13 ?_
  refine pw_istore (lv1 := [some (rr_ G 151), some (ii_ t), some (ii_ k), some (ii_ (bef_ (h 157) t)), some (ii_ 0), none]) (pc := 14) dX1_choose_14 (by decide) rfl rfl ?_
  have L16 : ∀ (nn : Nat) (r : Int) (a1 : PH_), (0 ≤ r ∧ r ≤ ro 2) → (off_ [156, 157] h a1) → (a1 157 = ob_ (h 157) t k) → (∀ x, x < 4 * t + 4 → a1 156 x = h 156 x) → (∀ q, 0 ≤ q → q < r → a1 156 (4 * t + 4 + q) = h 156 (4 * t + q) + gan_ ro P t (bef_ (h 157) t) k q) → ((ro 2 - r + 1 : Int) ≤ nn) → PW G RX1 cX1_choose 6 none (rm_ 2) 0 0 (zm_ G (qv_ (fun h' => off_ [156, 157] h h' ∧ h' 157 = ob_ (h 157) t k ∧ (∀ x, x < 4 * t + 4 → h' 156 x = h 156 x) ∧ (∀ r, 0 ≤ r → r < ro 2 → h' 156 (4 * t + 4 + r) = h 156 (4 * t + r) + gan_ ro P t (bef_ (h 157) t) k r)))) 16 [some (rr_ G 151), some (ii_ t), some (ii_ k), some (ii_ (bef_ (h 157) t)), some (ii_ r), none] [] a1 := by
    intro nn
    induction nn with
    | zero => intro r a1 ak af ac al a_t ams; exfalso; omega
    | succ nn ih16 =>
      intro r a1 ak af ac al a_t ams
      have Ha : CRD_ ro a1 o := CRD_off H ho af (by simp)
      have ea : ∀ i, i ≠ 156 → i ≠ 157 → a1 i = h i := fun i i1 i2 => af i (by simp; omega)
      have Ja : CJP_ ro a1 o := by unfold CJP_ CPL_ at *; rw [ea 151 (by decide) (by decide), ea o (by omega) (by omega), ea (o + 14) (by omega) (by omega)]; exact hJ
      have Ga : CJG_ ro P a1 := by unfold CJG_ at *; rw [ea 153 (by decide) (by decide)]; exact hG
      have hl_a1 := Ja.1
      refine pw_iload (z := r) (pc := 16) dX1_choose_16 rfl ?_
      refine pw_aload_n (z := 151) (pc := 18) dX1_choose_18 rfl rfl ?_
      have n_a1_151_0 : a1 151 0 = h 151 0 := (congrFun (af 151 (by first | decide | (simp; done) | (simp; omega))) 0)
      refine pw_gD (x := 0) (r := o) (pc := 19) dX1_choose_19 fX1_39 (hC 151 (by decide)) (show kd_ 151 = 11 by decide +kernel) rfl rfl (n_a1_151_0.trans hl_h) ?_
      refine pw_gI (x := 2) (pc := 22) dX1_choose_22 fX1_94 (hC _ (by omega)) (kd6_0 ho) rfl rfl (fun r22 => ?_)
      have n_a1_o_2 : a1 o 2 = h o 2 := (congrFun (af o (by first | decide | (simp; done) | (simp; omega))) 2)
      rw [n_a1_o_2] at r22 ⊢
      refine pw_icmp_ge (t := 68) (pc := 25) dX1_choose_25 (by decide) (by first | omega | (simp only [n_a1_151_0, n_a1_o_2]; omega)) (by first | omega | (simp only [n_a1_151_0, n_a1_o_2]; omega)) (fun c25 => ?_) (fun c25 => ?_)
      · exact pw_vret (pc := 68) dX1_choose_68 (⟨af, ac, al, fun q q0 q1 => a_t q q0 (by omega)⟩)
      · have gb := gan_b (ro := ro) (P := P) (by omega) t (bef_ (h 157) t) k r
        have hb1 := hb r (by omega) (by omega)
        have t1 : a1 156 (t * 4 + r) = h 156 (4 * t + r) := by rw [show t * 4 + r = 4 * t + r by omega]; exact al _ (by omega)
        refine pw_iload_n (z := t) (pc := 28) dX1_choose_28 rfl rfl ?_
        refine pw_iconst (pc := 29) dX1_choose_29 ?_
        refine pw_imul (pc := 30) dX1_choose_30 ?_
        refine pw_iload (z := r) (pc := 31) dX1_choose_31 rfl ?_
        refine pw_iadd (pc := 33) dX1_choose_33 ?_
        refine pw_istore (lv1 := [some (rr_ G 151), some (ii_ t), some (ii_ k), some (ii_ (bef_ (h 157) t)), some (ii_ r), some (ii_ ((t * 4) + r))]) (pc := 34) dX1_choose_34 (by decide) rfl rfl ?_
        refine pw_aload_n (z := 151) (pc := 36) dX1_choose_36 rfl rfl ?_
        refine pw_getR (r := 156) (pc := 37) dX1_choose_37 fX1_24 (hC 151 (by decide)) (show kd_ 151 = 11 by decide +kernel) rfl (by decide +kernel) ?_
        refine pw_iload (z := (t * 4) + r) (pc := 40) dX1_choose_40 rfl ?_
        refine pw_iconst (pc := 42) dX1_choose_42 ?_
        refine pw_iadd (pc := 43) dX1_choose_43 ?_
        refine pw_aload_n (z := 151) (pc := 44) dX1_choose_44 rfl rfl ?_
        refine pw_getR (r := 156) (pc := 45) dX1_choose_45 fX1_24 (hC 151 (by decide)) (show kd_ 151 = 11 by decide +kernel) rfl (by decide +kernel) ?_
        refine pw_iload (z := (t * 4) + r) (pc := 48) dX1_choose_48 rfl ?_
        refine pw_iald (pc := 50) dX1_choose_50 (hC 156 (by decide)) (show kd_ 156 = 0 by decide +kernel) 20 (by decide +kernel) (by first | omega | (simp only [n_a1_151_0, n_a1_o_2]; omega)) (by first | omega | (simp only [n_a1_151_0, n_a1_o_2]; omega)) (by first | omega | (simp only [n_a1_151_0, n_a1_o_2]; omega)) (fun r50 => ?_)
        refine pw_aload_n (z := 151) (pc := 51) dX1_choose_51 rfl rfl ?_
        refine pw_iload_n (z := t) (pc := 52) dX1_choose_52 rfl rfl ?_
        refine pw_iload_n (z := bef_ (h 157) t) (pc := 53) dX1_choose_53 rfl rfl ?_
        refine pw_iload_n (z := k) (pc := 54) dX1_choose_54 rfl rfl ?_
        refine pw_iload (z := r) (pc := 55) dX1_choose_55 rfl ?_
        refine pw_callV (c := 1) (o := 151) (As := [ii_ t, ii_ (bef_ (h 157) t), ii_ k, ii_ r]) (rest := [ii_ (a1 156 ((t * 4) + r)), ii_ (((t * 4) + r) + 4), rr_ G 156]) (pc := 57) dX1_choose_57 (d_gainOf hC a1 o ho ro Ha P Ja Ga t h1 (bef_ (h 157) t) k hbf h3 r (Or.inl (by first | omega | (simp only [n_a1_151_0, n_a1_o_2]; omega)))) lX1_138 mX1_gainOf vX1_gainOf (hC 151 (by decide)) (show kd_ 151 = 11 by decide +kernel) rfl rfl rfl (by decide) ⟨Nat.zero_le _, Nat.zero_le _⟩ (Nat.le_of_ble_eq_true rfl) (k_i (fun z57 h57 y57 q57 => ?_))
        obtain ⟨rfl, w57⟩ := q57
        refine pw_iadd (pc := 60) dX1_choose_60 ?_
        refine pw_iast (pc := 61) dX1_choose_61 (hC 156 (by decide)) (show kd_ 156 = 0 by decide +kernel) 20 (by decide +kernel) (by first | omega | (simp only [n_a1_151_0, n_a1_o_2]; omega)) (by first | omega | (simp only [n_a1_151_0, n_a1_o_2]; omega)) (by first | omega | (simp only [n_a1_151_0, n_a1_o_2]; omega)) (by first | omega | (simp only [n_a1_151_0, n_a1_o_2]; omega)) ?_
        obtain ⟨g61, e61⟩ : ∃ x, x = up_ a1 156 (((t * 4) + r) + 4) ((a1 156 ((t * 4) + r)) + z57) := ⟨_, rfl⟩
        refine pw_heq e61 ?_
        refine pw_iinc (z := r) (lv1 := [some (rr_ G 151), some (ii_ t), some (ii_ k), some (ii_ (bef_ (h 157) t)), some (ii_ (r + 1)), some (ii_ ((t * 4) + r))]) (pc := 62) dX1_choose_62 rfl (by decide) rfl rfl ?_
        refine pw_goto (t := 16) (pc := 65) dX1_choose_65 (by decide) ?_
        refine pw_less (lv1 := [some (rr_ G 151), some (ii_ t), some (ii_ k), some (ii_ (bef_ (h 157) t)), some (ii_ (r + 1)), none]) rfl (by intro i v; (match i with | 0 => simp | 1 => simp | 2 => simp | 3 => simp | 4 => simp | 5 => simp | n + 6 => simp)) ?_
        exact ih16 _ _ (by omega) (by rw [e61]; exact off_up af (by decide)) (by rw [e61, up_off (by decide)]; exact ac) (fun x x1 => by rw [e61, up_at, if_neg (by omega)]; exact al x x1) (fun q q0 q1 => by
                  rw [e61, up_at]
                  by_cases c : q = r
                  · rw [if_pos (by omega), c, t1, w57]
                  · rw [if_neg (by omega)]; exact a_t q q0 (by omega)) (by omega)
  exact L16 _ _ _ (by omega) (by rw [e12]; exact off_up off_rf (by decide)) (by rw [e12, up_ob]) (fun x _ => by rw [e12, up_off (by decide)]) (fun q _ _ => by omega) (Int.self_le_toNat _)

