set_option maxHeartbeats 4000000 in
set_option maxRecDepth 100000 in
theorem d_even0 {G : GT_} (hC : okC_ G) (h : PH_) (o : Nat) (ho : is6_ o) (ro : Int → Int) (P : List (Int × Int)) (t m : Int) (B : BT_) (hp : epr_ ro P o 0 t m B h) : PC G yX1_evenestFrom cX1_evenestFrom 7 none (4 + 0) [rr_ G 151, ii_ t, ii_ m] h (qv_ (fun h' => jfr_ t h h' ∧ jbs_ ro h' (gtr_ ro P 0 (h 151 12) (0 + 1) (h 157) (fun r => h 156 (4 * t + r)) m B))) := by
  obtain ⟨hjo, hR, ht, hlm, hm, hc, hb, hB⟩ := hp
  have H := hjo.1
  have hJ := hjo.2.1
  have HB := H.2.1
  have HA := H.1
  have l24 := lpn_24 (ro := ro) (by omega) (by omega)
  have hl_h := hJ.1
  have hN := hJ.2.1
  have hbf : bef_ (h 157) t = -1 ∨ 0 ≤ bef_ (h 157) t ∧ bef_ (h 157) t < (lpn_ ro 256).length := by
    unfold bef_
    by_cases c : t = 0
    · rw [if_pos c]; exact Or.inl rfl
    · rw [if_neg c]; exact Or.inr (hc _ (by omega) (by omega))
  have hrow : t ≠ 0 → 0 ≤ h 157 (t - 1) := fun u => (hc (t - 1) (by omega) (by omega)).1
  have gbb := fun (k r : Int) => gan_b (ro := ro) (P := P) (by omega) t (bef_ (h 157) t) k r
  refine PC.of (lv := [some (rr_ G 151), some (ii_ t), some (ii_ m), none, none, none, none]) (by decide +kernel) (Nat.le_of_ble_eq_true rfl) rfl rfl ?_
  refine pw_aload_n (z := 151) (pc := 0) dX1_evenestFrom_0 rfl rfl ?_
  refine pw_iload_n (z := t) (pc := 1) dX1_evenestFrom_1 rfl rfl ?_
  refine pw_callV (c := 1) (o := 151) (As := [ii_ t]) (rest := []) (pc := 2) dX1_evenestFrom_2 (d_before hC h t (by first | omega)) lX1_152 mX1_before vX1_before (hC 151 (by decide)) (show kd_ 151 = 11 by decide +kernel) rfl rfl rfl (by constructor <;> simp only [rm_] <;> omega) ⟨Nat.zero_le _, Nat.zero_le _⟩ (Nat.le_of_ble_eq_true rfl) (k_i (fun z2 h2 y2 q2 => ?_))
  obtain ⟨rfl, rfl⟩ := q2
  refine pw_istore_n (lv1 := [some (rr_ G 151), some (ii_ t), some (ii_ m), some (ii_ (bef_ (h 157) t)), none, none, none]) (pc := 5) dX1_evenestFrom_5 rfl (by decide) rfl rfl ?_
  refine pw_iload_n (z := t) (pc := 6) dX1_evenestFrom_6 rfl rfl ?_
  refine pw_iconst (pc := 7) dX1_evenestFrom_7 ?_
  refine pw_iadd (pc := 8) dX1_evenestFrom_8 ?_
  refine pw_aload_n (z := 151) (pc := 9) dX1_evenestFrom_9 rfl rfl ?_
  refine pw_gD (x := 0) (r := o) (pc := 10) dX1_evenestFrom_10 fX1_39 (hC 151 (by decide)) (show kd_ 151 = 11 by decide +kernel) rfl rfl hl_h ?_
  refine pw_gI (x := 1) (pc := 13) dX1_evenestFrom_13 fX1_78 (hC _ (by omega)) (kd6_0 ho) rfl rfl (fun r13 => ?_)
  refine pw_icmp_lt (t := 23) (pc := 16) dX1_evenestFrom_16 (by decide) (by first | omega) (by first | omega) (fun c16 => ?_) (fun c16 => ?_)
  · exfalso; omega
  · refine pw_iconst (pc := 19) dX1_evenestFrom_19 ?_
    refine pw_goto (t := 24) (pc := 20) dX1_evenestFrom_20 (by decide) ?_
    refine pw_istore (lv1 := [some (rr_ G 151), some (ii_ t), some (ii_ m), some (ii_ (bef_ (h 157) t)), some (ii_ 1), none, none]) (pc := 24) dX1_evenestFrom_24 (by decide) rfl rfl ?_
    refine pw_iconst (pc := 26) dX1_evenestFrom_26 ?_
    refine pw_istore (lv1 := [some (rr_ G 151), some (ii_ t), some (ii_ m), some (ii_ (bef_ (h 157) t)), some (ii_ 1), some (ii_ 0), none]) (pc := 27) dX1_evenestFrom_27 (by decide) rfl rfl ?_
    have L29 : ∀ (nn : Nat) (k : Int) (a1 : PH_), (0 ≤ k ∧ k ≤ (lpn_ ro 256).length) → (jfr_ t h a1) → (jbs_ ro a1 ((List.range k.toNat).foldl (est_ ro P 0 (h 151 12) 0 (h 157) (fun r => h 156 (4 * t + r)) m t) B)) → ((((lpn_ ro 256).length : Int) - k + 1 : Int) ≤ nn) → PW G RX1 cX1_evenestFrom 7 none (rm_ (4 + 0)) 0 0 (zm_ G (qv_ (fun h' => jfr_ t h h' ∧ jbs_ ro h' (gtr_ ro P 0 (h 151 12) (0 + 1) (h 157) (fun r => h 156 (4 * t + r)) m B)))) 29 [some (rr_ G 151), some (ii_ t), some (ii_ m), some (ii_ (bef_ (h 157) t)), some (ii_ 1), some (ii_ k), none] [] a1 := by
      intro nn
      induction nn with
      | zero => intro k a1 ak af aB ams; exfalso; omega
      | succ nn ih29 =>
        intro k a1 ak af aB ams
        have ja := jon_mv ho af.1 (af.2.1 0 (by decide) (by decide)) hjo
        have Ha := ja.1
        have Ja := ja.2.1
        have Ga := ja.2.2.1
        have hl_a1 := Ja.1
        have HAa := Ha.1
        have hNa := Ja.2.1
        have o12 : a1 151 12 = h 151 12 := af.2.1 12 (by decide) (by decide)
        have ca : ∀ j, 0 ≤ j → j < t → 0 ≤ a1 157 j ∧ a1 157 j < (lpn_ ro 256).length := fun j j0 j1 => by rw [af.2.2.2 j j1]; exact hc j j0 j1
        have ta : ∀ r, 0 ≤ r → r < ro 2 → a1 156 (4 * t + r) = h 156 (4 * t + r) := fun r r0 r1 => af.2.2.1 _ (by omega)
        have ba : bef_ (a1 157) t = bef_ (h 157) t := by
          unfold bef_
          by_cases c : t = 0
          · rw [if_pos c, if_pos c]
          · rw [if_neg c, if_neg c, af.2.2.2 (t - 1) (by omega)]
        refine pw_iload (z := k) (pc := 29) dX1_evenestFrom_29 rfl ?_
        refine pw_aload_n (z := 151) (pc := 31) dX1_evenestFrom_31 rfl rfl ?_
        refine pw_gD (x := 0) (r := o) (pc := 32) dX1_evenestFrom_32 fX1_39 (hC 151 (by decide)) (show kd_ 151 = 11 by decide +kernel) rfl rfl hl_a1 ?_
        refine pw_gI (x := 7) (pc := 35) dX1_evenestFrom_35 fX1_109 (hC _ (by omega)) (kd6_0 ho) rfl rfl (fun r35 => ?_)
        have n_a1_o_7 : a1 o 7 = h o 7 := (congrFun (af.1 o (by first | decide | (simp; done) | (simp; omega))) 7)
        rw [n_a1_o_7] at r35 ⊢
        refine pw_icmp_ge (t := 125) (pc := 38) dX1_evenestFrom_38 (by decide) (by first | omega | (simp only [n_a1_o_7]; omega)) (by first | omega | (simp only [n_a1_o_7]; omega)) (fun c38 => ?_) (fun c38 => ?_)
        · exact pw_vret (pc := 125) dX1_evenestFrom_125 (by
                    refine ⟨af, ?_⟩
                    rw [est_a (t := t) (by omega) (by omega) ht.2 hrow, show (lpn_ ro 256).length = k.toNat by omega]
                    exact aB)
        · refine pw_iload_n (z := m) (pc := 41) dX1_evenestFrom_41 rfl rfl ?_
          refine pw_aload_n (z := 151) (pc := 42) dX1_evenestFrom_42 rfl rfl ?_
          refine pw_iload_n (z := bef_ (h 157) t) (pc := 43) dX1_evenestFrom_43 rfl rfl ?_
          refine pw_iload (z := k) (pc := 44) dX1_evenestFrom_44 rfl ?_
          refine pw_callV (c := 1) (o := 151) (As := [ii_ (bef_ (h 157) t), ii_ k]) (rest := [ii_ m]) (pc := 46) dX1_evenestFrom_46 (d_movesOf hC a1 o ho ro Ha P Ja Ga (bef_ (h 157) t) k hbf (by first | omega | (simp only [n_a1_o_7]; omega))) lX1_170 mX1_movesOf vX1_movesOf (hC 151 (by decide)) (show kd_ 151 = 11 by decide +kernel) rfl rfl rfl (by constructor <;> simp only [rm_] <;> omega) ⟨Nat.zero_le _, Nat.zero_le _⟩ (Nat.le_of_ble_eq_true rfl) (k_i (fun z46 h46 y46 q46 => ?_))
          obtain ⟨rfl, w46⟩ := q46
          have mb := mov_b ro (bef_ (h 157) t) k
          refine pw_iadd (pc := 49) dX1_evenestFrom_49 ?_
          refine pw_istore (lv1 := [some (rr_ G 151), some (ii_ t), some (ii_ m), some (ii_ (bef_ (h 157) t)), some (ii_ 1), some (ii_ k), some (ii_ (m + z46))]) (pc := 50) dX1_evenestFrom_50 (by decide) rfl rfl ?_
          refine pw_iload (z := m + z46) (pc := 52) dX1_evenestFrom_52 rfl ?_
          refine pw_aload_n (z := 151) (pc := 54) dX1_evenestFrom_54 rfl rfl ?_
          refine pw_gI (x := 12) (pc := 55) dX1_evenestFrom_55 fX1_155 (hC 151 (by decide)) (show kd_ 151 = 11 by decide +kernel) rfl rfl (fun r55 => ?_)
          refine pw_icmp_gt (t := 78) (pc := 58) dX1_evenestFrom_58 (by decide) (by first | omega | (simp only [n_a1_o_7]; omega)) (by first | omega | (simp only [n_a1_o_7]; omega)) (fun c58 => ?_) (fun c58 => ?_)
          · refine pw_iload (z := m + z46) (pc := 78) dX1_evenestFrom_78 rfl ?_
            refine pw_aload_n (z := 151) (pc := 80) dX1_evenestFrom_80 rfl rfl ?_
            refine pw_gI (x := 12) (pc := 81) dX1_evenestFrom_81 fX1_155 (hC 151 (by decide)) (show kd_ 151 = 11 by decide +kernel) rfl rfl (fun r81 => ?_)
            refine pw_icmp_gt (t := 119) (pc := 84) dX1_evenestFrom_84 (by decide) (by first | omega | (simp only [n_a1_o_7]; omega)) (by first | omega | (simp only [n_a1_o_7]; omega)) (fun c84 => ?_) (fun c84 => ?_)
            · refine pw_iinc (z := k) (lv1 := [some (rr_ G 151), some (ii_ t), some (ii_ m), some (ii_ (bef_ (h 157) t)), some (ii_ 1), some (ii_ (k + 1)), some (ii_ (m + z46))]) (pc := 119) dX1_evenestFrom_119 rfl (by decide) rfl rfl ?_
              refine pw_goto (t := 29) (pc := 122) dX1_evenestFrom_122 (by decide) ?_
              refine pw_less (lv1 := [some (rr_ G 151), some (ii_ t), some (ii_ m), some (ii_ (bef_ (h 157) t)), some (ii_ 1), some (ii_ (k + 1)), none]) rfl (by intro i v; (match i with | 0 => simp | 1 => simp | 2 => simp | 3 => simp | 4 => simp | 5 => simp | 6 => simp | n + 7 => simp)) ?_
              exact ih29 _ _ (by omega) (by first | exact af | exact jfr_tr af f72) (by
                        rw [est_f ak.1, ← w46]
                        first
                        | (rw [if_f (by omega)]; exact aB)
                        | (rw [if_t (by omega)]
                           rw [ba] at b72
                           rw [gtr_cg 0 (row' := ob_ (a1 157) t k) (tot' := fun r => a1 156 (4 * t + r) + gan_ ro P t (bef_ (h 157) t) k r) (by omega) (fun j j0 j1 => by
                            unfold ob_
                            by_cases c : j = t
                            · rw [if_pos c, if_pos c]
                            · rw [if_neg c, if_neg c, af.2.2.2 j (by omega)]) (fun r r0 r1 => by show h 156 (4 * t + r) + _ = a1 156 (4 * t + r) + _; rw [ta r r0 r1])]
                           exact b72)) (by omega)
            · exfalso; omega
          · refine pw_iload (z := 1) (pc := 61) dX1_evenestFrom_61 rfl ?_
            refine pw_if_eq (t := 78) (pc := 63) dX1_evenestFrom_63 (by decide) (by first | omega | (simp only [n_a1_o_7]; omega)) (fun c63 => absurd c63 (by decide)) (fun _ => ?_)
            refine pw_aload_n (z := 151) (pc := 66) dX1_evenestFrom_66 rfl rfl ?_
            refine pw_iload_n (z := t) (pc := 67) dX1_evenestFrom_67 rfl rfl ?_
            refine pw_iload (z := k) (pc := 68) dX1_evenestFrom_68 rfl ?_
            refine pw_iload (z := m + z46) (pc := 70) dX1_evenestFrom_70 rfl ?_
            refine pw_callV (c := 1) (o := 151) (As := [ii_ t, ii_ k, ii_ (m + z46)]) (rest := []) (pc := 72) dX1_evenestFrom_72 (d_keepIf hC a1 o ho ro Ha P Ja Ga t (by first | omega | (simp only [n_a1_o_7]; omega)) (by first | omega | (simp only [n_a1_o_7]; omega)) k (by first | omega | (simp only [n_a1_o_7]; omega)) ca (fun r r0 r1 => by rw [ta r r0 r1]; have := hb r r0 r1; omega) hR (h 151 12) (m + z46) (by first | omega | (simp only [n_a1_o_7]; omega)) ((List.range k.toNat).foldl (est_ ro P 0 (h 151 12) 0 (h 157) (fun r => h 156 (4 * t + r)) m t) B) aB) lX1_173 mX1_keepIfEvener vX1_keepIfEvener (hC 151 (by decide)) (show kd_ 151 = 11 by decide +kernel) rfl rfl rfl (by constructor <;> simp only [rm_] <;> omega) ⟨Nat.zero_le _, Nat.zero_le _⟩ (Nat.le_of_ble_eq_true rfl) (k_v (fun h72 q72 => ?_))
            obtain ⟨f72, b72⟩ := q72
            refine pw_goto (t := 119) (pc := 75) dX1_evenestFrom_75 (by decide) ?_
            refine pw_iinc (z := k) (lv1 := [some (rr_ G 151), some (ii_ t), some (ii_ m), some (ii_ (bef_ (h 157) t)), some (ii_ 1), some (ii_ (k + 1)), some (ii_ (m + z46))]) (pc := 119) dX1_evenestFrom_119 rfl (by decide) rfl rfl ?_
            refine pw_goto (t := 29) (pc := 122) dX1_evenestFrom_122 (by decide) ?_
            refine pw_less (lv1 := [some (rr_ G 151), some (ii_ t), some (ii_ m), some (ii_ (bef_ (h 157) t)), some (ii_ 1), some (ii_ (k + 1)), none]) rfl (by intro i v; (match i with | 0 => simp | 1 => simp | 2 => simp | 3 => simp | 4 => simp | 5 => simp | 6 => simp | n + 7 => simp)) ?_
            exact ih29 _ _ (by omega) (by first | exact af | exact jfr_tr af f72) (by
                      rw [est_f ak.1, ← w46]
                      first
                      | (rw [if_f (by omega)]; exact aB)
                      | (rw [if_t (by omega)]
                         rw [ba] at b72
                         rw [gtr_cg 0 (row' := ob_ (a1 157) t k) (tot' := fun r => a1 156 (4 * t + r) + gan_ ro P t (bef_ (h 157) t) k r) (by omega) (fun j j0 j1 => by
                          unfold ob_
                          by_cases c : j = t
                          · rw [if_pos c, if_pos c]
                          · rw [if_neg c, if_neg c, af.2.2.2 j (by omega)]) (fun r r0 r1 => by show h 156 (4 * t + r) + _ = a1 156 (4 * t + r) + _; rw [ta r r0 r1])]
                         exact b72)) (by omega)
    exact L29 _ _ _ (by omega) (⟨off_rf, fun _ _ _ => rfl, fun _ _ => rfl, fun _ _ => rfl⟩) (hB) (Int.self_le_toNat _)

set_option linter.constructorNameAsVariable false in
set_option maxHeartbeats 4000000 in
set_option maxRecDepth 100000 in
theorem d_evenS {G : GT_} (hC : okC_ G) (h : PH_) (o : Nat) (ho : is6_ o) (ro : Int → Int) (P : List (Int × Int)) (n : Nat) (IH : epc_ G ro P o n) (t m : Int) (B : BT_) (hp : epr_ ro P o (n + 1) t m B h) : PC G yX1_evenestFrom cX1_evenestFrom 7 none (4 + (n + 1)) [rr_ G 151, ii_ t, ii_ m] h (qv_ (fun h' => jfr_ t h h' ∧ jbs_ ro h' (gtr_ ro P 0 (h 151 12) (n + 1 + 1) (h 157) (fun r => h 156 (4 * t + r)) m B))) := by
  obtain ⟨hjo, hR, ht, hlm, hm, hc, hb, hB⟩ := hp
  have H := hjo.1
  have hJ := hjo.2.1
  have HB := H.2.1
  have HA := H.1
  have l24 := lpn_24 (ro := ro) (by omega) (by omega)
  have hl_h := hJ.1
  have hN := hJ.2.1
  have hbf : bef_ (h 157) t = -1 ∨ 0 ≤ bef_ (h 157) t ∧ bef_ (h 157) t < (lpn_ ro 256).length := by
    unfold bef_
    by_cases c : t = 0
    · rw [if_pos c]; exact Or.inl rfl
    · rw [if_neg c]; exact Or.inr (hc _ (by omega) (by omega))
  have hrow : t ≠ 0 → 0 ≤ h 157 (t - 1) := fun u => (hc (t - 1) (by omega) (by omega)).1
  have gbb := fun (k r : Int) => gan_b (ro := ro) (P := P) (by omega) t (bef_ (h 157) t) k r
  refine PC.of (lv := [some (rr_ G 151), some (ii_ t), some (ii_ m), none, none, none, none]) (by decide +kernel) (Nat.le_of_ble_eq_true rfl) rfl rfl ?_
  refine pw_aload_n (z := 151) (pc := 0) dX1_evenestFrom_0 rfl rfl ?_
  refine pw_iload_n (z := t) (pc := 1) dX1_evenestFrom_1 rfl rfl ?_
  refine pw_callV (c := 1) (o := 151) (As := [ii_ t]) (rest := []) (pc := 2) dX1_evenestFrom_2 (d_before hC h t (by first | omega)) lX1_152 mX1_before vX1_before (hC 151 (by decide)) (show kd_ 151 = 11 by decide +kernel) rfl rfl rfl (by constructor <;> simp only [rm_] <;> omega) ⟨Nat.zero_le _, Nat.zero_le _⟩ (Nat.le_of_ble_eq_true rfl) (k_i (fun z2 h2 y2 q2 => ?_))
  obtain ⟨rfl, rfl⟩ := q2
  refine pw_istore_n (lv1 := [some (rr_ G 151), some (ii_ t), some (ii_ m), some (ii_ (bef_ (h 157) t)), none, none, none]) (pc := 5) dX1_evenestFrom_5 rfl (by decide) rfl rfl ?_
  refine pw_iload_n (z := t) (pc := 6) dX1_evenestFrom_6 rfl rfl ?_
  refine pw_iconst (pc := 7) dX1_evenestFrom_7 ?_
  refine pw_iadd (pc := 8) dX1_evenestFrom_8 ?_
  refine pw_aload_n (z := 151) (pc := 9) dX1_evenestFrom_9 rfl rfl ?_
  refine pw_gD (x := 0) (r := o) (pc := 10) dX1_evenestFrom_10 fX1_39 (hC 151 (by decide)) (show kd_ 151 = 11 by decide +kernel) rfl rfl hl_h ?_
  refine pw_gI (x := 1) (pc := 13) dX1_evenestFrom_13 fX1_78 (hC _ (by omega)) (kd6_0 ho) rfl rfl (fun r13 => ?_)
  refine pw_icmp_lt (t := 23) (pc := 16) dX1_evenestFrom_16 (by decide) (by first | omega) (by first | omega) (fun c16 => ?_) (fun c16 => ?_)
  · refine pw_iconst (pc := 23) dX1_evenestFrom_23 ?_
    refine pw_istore (lv1 := [some (rr_ G 151), some (ii_ t), some (ii_ m), some (ii_ (bef_ (h 157) t)), some (ii_ 0), none, none]) (pc := 24) dX1_evenestFrom_24 (by decide) rfl rfl ?_
    refine pw_iconst (pc := 26) dX1_evenestFrom_26 ?_
    refine pw_istore (lv1 := [some (rr_ G 151), some (ii_ t), some (ii_ m), some (ii_ (bef_ (h 157) t)), some (ii_ 0), some (ii_ 0), none]) (pc := 27) dX1_evenestFrom_27 (by decide) rfl rfl ?_
    have L29 : ∀ (nn : Nat) (k : Int) (a1 : PH_), (0 ≤ k ∧ k ≤ (lpn_ ro 256).length) → (jfr_ t h a1) → (jbs_ ro a1 ((List.range k.toNat).foldl (est_ ro P 0 (h 151 12) (n + 1) (h 157) (fun r => h 156 (4 * t + r)) m t) B)) → ((((lpn_ ro 256).length : Int) - k + 1 : Int) ≤ nn) → PW G RX1 cX1_evenestFrom 7 none (rm_ (4 + (n + 1))) 0 0 (zm_ G (qv_ (fun h' => jfr_ t h h' ∧ jbs_ ro h' (gtr_ ro P 0 (h 151 12) (n + 1 + 1) (h 157) (fun r => h 156 (4 * t + r)) m B)))) 29 [some (rr_ G 151), some (ii_ t), some (ii_ m), some (ii_ (bef_ (h 157) t)), some (ii_ 0), some (ii_ k), none] [] a1 := by
      intro nn
      induction nn with
      | zero => intro k a1 ak af aB ams; exfalso; omega
      | succ nn ih29 =>
        intro k a1 ak af aB ams
        have ja := jon_mv ho af.1 (af.2.1 0 (by decide) (by decide)) hjo
        have Ha := ja.1
        have Ja := ja.2.1
        have Ga := ja.2.2.1
        have hl_a1 := Ja.1
        have HAa := Ha.1
        have hNa := Ja.2.1
        have o12 : a1 151 12 = h 151 12 := af.2.1 12 (by decide) (by decide)
        have ca : ∀ j, 0 ≤ j → j < t → 0 ≤ a1 157 j ∧ a1 157 j < (lpn_ ro 256).length := fun j j0 j1 => by rw [af.2.2.2 j j1]; exact hc j j0 j1
        have ta : ∀ r, 0 ≤ r → r < ro 2 → a1 156 (4 * t + r) = h 156 (4 * t + r) := fun r r0 r1 => af.2.2.1 _ (by omega)
        have ba : bef_ (a1 157) t = bef_ (h 157) t := by
          unfold bef_
          by_cases c : t = 0
          · rw [if_pos c, if_pos c]
          · rw [if_neg c, if_neg c, af.2.2.2 (t - 1) (by omega)]
        refine pw_iload (z := k) (pc := 29) dX1_evenestFrom_29 rfl ?_
        refine pw_aload_n (z := 151) (pc := 31) dX1_evenestFrom_31 rfl rfl ?_
        refine pw_gD (x := 0) (r := o) (pc := 32) dX1_evenestFrom_32 fX1_39 (hC 151 (by decide)) (show kd_ 151 = 11 by decide +kernel) rfl rfl hl_a1 ?_
        refine pw_gI (x := 7) (pc := 35) dX1_evenestFrom_35 fX1_109 (hC _ (by omega)) (kd6_0 ho) rfl rfl (fun r35 => ?_)
        have n_a1_o_7 : a1 o 7 = h o 7 := (congrFun (af.1 o (by first | decide | (simp; done) | (simp; omega))) 7)
        rw [n_a1_o_7] at r35 ⊢
        refine pw_icmp_ge (t := 125) (pc := 38) dX1_evenestFrom_38 (by decide) (by first | omega | (simp only [n_a1_o_7]; omega)) (by first | omega | (simp only [n_a1_o_7]; omega)) (fun c38 => ?_) (fun c38 => ?_)
        · exact pw_vret (pc := 125) dX1_evenestFrom_125 (by
                    refine ⟨af, ?_⟩
                    rw [est_a (t := t) (by omega) (by omega) ht.2 hrow, show (lpn_ ro 256).length = k.toNat by omega]
                    exact aB)
        · refine pw_iload_n (z := m) (pc := 41) dX1_evenestFrom_41 rfl rfl ?_
          refine pw_aload_n (z := 151) (pc := 42) dX1_evenestFrom_42 rfl rfl ?_
          refine pw_iload_n (z := bef_ (h 157) t) (pc := 43) dX1_evenestFrom_43 rfl rfl ?_
          refine pw_iload (z := k) (pc := 44) dX1_evenestFrom_44 rfl ?_
          refine pw_callV (c := 1) (o := 151) (As := [ii_ (bef_ (h 157) t), ii_ k]) (rest := [ii_ m]) (pc := 46) dX1_evenestFrom_46 (d_movesOf hC a1 o ho ro Ha P Ja Ga (bef_ (h 157) t) k hbf (by first | omega | (simp only [n_a1_o_7]; omega))) lX1_170 mX1_movesOf vX1_movesOf (hC 151 (by decide)) (show kd_ 151 = 11 by decide +kernel) rfl rfl rfl (by constructor <;> simp only [rm_] <;> omega) ⟨Nat.zero_le _, Nat.zero_le _⟩ (Nat.le_of_ble_eq_true rfl) (k_i (fun z46 h46 y46 q46 => ?_))
          obtain ⟨rfl, w46⟩ := q46
          have mb := mov_b ro (bef_ (h 157) t) k
          refine pw_iadd (pc := 49) dX1_evenestFrom_49 ?_
          refine pw_istore (lv1 := [some (rr_ G 151), some (ii_ t), some (ii_ m), some (ii_ (bef_ (h 157) t)), some (ii_ 0), some (ii_ k), some (ii_ (m + z46))]) (pc := 50) dX1_evenestFrom_50 (by decide) rfl rfl ?_
          refine pw_iload (z := m + z46) (pc := 52) dX1_evenestFrom_52 rfl ?_
          refine pw_aload_n (z := 151) (pc := 54) dX1_evenestFrom_54 rfl rfl ?_
          refine pw_gI (x := 12) (pc := 55) dX1_evenestFrom_55 fX1_155 (hC 151 (by decide)) (show kd_ 151 = 11 by decide +kernel) rfl rfl (fun r55 => ?_)
          refine pw_icmp_gt (t := 78) (pc := 58) dX1_evenestFrom_58 (by decide) (by first | omega | (simp only [n_a1_o_7]; omega)) (by first | omega | (simp only [n_a1_o_7]; omega)) (fun c58 => ?_) (fun c58 => ?_)
          · refine pw_iload (z := m + z46) (pc := 78) dX1_evenestFrom_78 rfl ?_
            refine pw_aload_n (z := 151) (pc := 80) dX1_evenestFrom_80 rfl rfl ?_
            refine pw_gI (x := 12) (pc := 81) dX1_evenestFrom_81 fX1_155 (hC 151 (by decide)) (show kd_ 151 = 11 by decide +kernel) rfl rfl (fun r81 => ?_)
            refine pw_icmp_gt (t := 119) (pc := 84) dX1_evenestFrom_84 (by decide) (by first | omega | (simp only [n_a1_o_7]; omega)) (by first | omega | (simp only [n_a1_o_7]; omega)) (fun c84 => ?_) (fun c84 => ?_)
            · have aN : jbs_ ro a1 ((List.range (k + 1).toNat).foldl (est_ ro P 0 (h 151 12) (n + 1) (h 157) (fun r => h 156 (4 * t + r)) m t) B) := by rw [est_n ak.1 (by rw [← w46]; omega)]; exact aB
              have fN := af
              refine pw_iinc (z := k) (lv1 := [some (rr_ G 151), some (ii_ t), some (ii_ m), some (ii_ (bef_ (h 157) t)), some (ii_ 0), some (ii_ (k + 1)), some (ii_ (m + z46))]) (pc := 119) dX1_evenestFrom_119 rfl (by decide) rfl rfl ?_
              refine pw_goto (t := 29) (pc := 122) dX1_evenestFrom_122 (by decide) ?_
              refine pw_less (lv1 := [some (rr_ G 151), some (ii_ t), some (ii_ m), some (ii_ (bef_ (h 157) t)), some (ii_ 0), some (ii_ (k + 1)), none]) rfl (by intro i v; (match i with | 0 => simp | 1 => simp | 2 => simp | 3 => simp | 4 => simp | 5 => simp | 6 => simp | n + 7 => simp)) ?_
              exact ih29 _ _ (by omega) (fN) (aN) (by omega)
            · refine pw_aload_n (z := 151) (pc := 87) dX1_evenestFrom_87 rfl rfl ?_
              refine pw_iload_n (z := t) (pc := 88) dX1_evenestFrom_88 rfl rfl ?_
              refine pw_iload (z := k) (pc := 89) dX1_evenestFrom_89 rfl ?_
              refine pw_callV (c := 1) (o := 151) (As := [ii_ t, ii_ k]) (rest := []) (pc := 91) dX1_evenestFrom_91 (d_choose hC a1 o ho ro Ha P Ja Ga t (by first | omega | (simp only [n_a1_o_7]; omega)) k (by first | omega | (simp only [n_a1_o_7]; omega)) ca (fun r r0 r1 => by rw [ta r r0 r1]; have := hb r r0 r1; omega)) lX1_177 mX1_choose vX1_choose (hC 151 (by decide)) (show kd_ 151 = 11 by decide +kernel) rfl rfl rfl (by constructor <;> simp only [rm_] <;> omega) ⟨Nat.zero_le _, Nat.zero_le _⟩ (Nat.le_of_ble_eq_true rfl) (k_v (fun h91 q91 => ?_))
              obtain ⟨f91, r91, l91, t91⟩ := q91
              have F91 : jfr_ t a1 h91 := ⟨off_mo f91 (by decide), fun q _ _ => by rw [f91 151 (by decide)], l91, fun x x1 => by rw [r91]; exact if_neg (by omega)⟩
              have j91 := jon_mv ho F91.1 (F91.2.1 0 (by decide) (by decide)) ja
              have b91 : jbs_ ro h91 ((List.range k.toNat).foldl (est_ ro P 0 (h 151 12) (n + 1) (h 157) (fun r => h 156 (4 * t + r)) m t) B) := jbs_mv (by rw [f91 151 (by decide)]) (by rw [f91 151 (by decide)]) (f91 158 (by decide)) (f91 159 (by decide)) aB
              have es : m + z46 ≤ h 151 12 → (List.range (k + 1).toNat).foldl (est_ ro P 0 (h 151 12) (n + 1) (h 157) (fun r => h 156 (4 * t + r)) m t) B = gtr_ ro P 0 (h 151 12) (n + 1) (h91 157) (fun r => h91 156 (4 * (t + 1) + r)) (m + z46) ((List.range k.toNat).foldl (est_ ro P 0 (h 151 12) (n + 1) (h 157) (fun r => h 156 (4 * t + r)) m t) B) := fun u => est_t ak.1 w46 u (by omega) (h91 157) (fun r => h91 156 (4 * (t + 1) + r)) (fun j j0 j1 => by
                  rw [r91]
                  unfold ob_
                  by_cases c : j = t
                  · rw [if_pos c, if_pos c]
                  · rw [if_neg c, if_neg c, af.2.2.2 j (by omega)]) (fun r r0 r1 => by
                  show h91 156 (4 * (t + 1) + r) = h 156 (4 * t + r) + _
                  rw [show 4 * (t + 1) + r = 4 * t + 4 + r by omega, t91 r r0 r1, ta r r0 r1, ba])
              refine pw_aload_n (z := 151) (pc := 94) dX1_evenestFrom_94 rfl rfl ?_
              refine pw_aload_n (z := 151) (pc := 95) dX1_evenestFrom_95 rfl rfl ?_
              refine pw_iload_n (z := t) (pc := 96) dX1_evenestFrom_96 rfl rfl ?_
              refine pw_iload (z := k) (pc := 97) dX1_evenestFrom_97 rfl ?_
              refine pw_callV (c := 1) (o := 151) (As := [ii_ t, ii_ k]) (rest := [rr_ G 151]) (pc := 99) dX1_evenestFrom_99 (d_leastSpread hC h91 o ho ro j91.1 P j91.2.1 j91.2.2.1 j91.2.2.2 t (by first | omega | (simp only [n_a1_o_7]; omega)) k (by first | omega | (simp only [n_a1_o_7]; omega)) (fun r r0 r1 => by rw [t91 r r0 r1, ta r r0 r1, ba]; have := gbb k r; have := hb r r0 r1; omega)) lX1_180 mX1_leastSpread vX1_leastSpread (hC 151 (by decide)) (show kd_ 151 = 11 by decide +kernel) rfl rfl rfl (by constructor <;> simp only [rm_] <;> omega) ⟨Nat.zero_le _, Nat.zero_le _⟩ (Nat.le_of_ble_eq_true rfl) (k_i (fun z99 h99 y99 q99 => ?_))
              obtain ⟨rfl, b99, w99⟩ := q99
              refine pw_iload (z := m + z46) (pc := 102) dX1_evenestFrom_102 rfl ?_
              refine pw_callV (c := 1) (o := 151) (As := [ii_ z99, ii_ (m + z46)]) (rest := []) (pc := 104) dX1_evenestFrom_104 (d_isEvener hC h91 z99 (m + z46) (by first | omega | (simp only [n_a1_o_7]; omega)) (by first | omega | (simp only [n_a1_o_7]; omega))) lX1_183 mX1_isEvener vX1_isEvener (hC 151 (by decide)) (show kd_ 151 = 11 by decide +kernel) rfl rfl rfl (by constructor <;> simp only [rm_] <;> omega) ⟨Nat.zero_le _, Nat.zero_le _⟩ (Nat.le_of_ble_eq_true rfl) (k_i (fun z104 h104 y104 q104 => ?_))
              obtain ⟨rfl, ⟨rfl, p104⟩ | ⟨rfl, p104⟩⟩ := q104
              · refine pw_if_eq (t := 119) (pc := 107) dX1_evenestFrom_107 (by decide) (by first | omega | (simp only [n_a1_o_7]; omega)) (fun c107 => absurd c107 (by decide)) (fun _ => ?_)
                have pre : epr_ ro P o n (t + 1) (m + z46) ((List.range k.toNat).foldl (est_ ro P 0 (h 151 12) (n + 1) (h 157) (fun r => h 156 (4 * t + r)) m t) B) h91 := by
                  refine ⟨j91, hR, by omega, by rw [f91 151 (by decide), o12]; exact hlm, by omega, fun j j0 j1 => ?_, fun r r0 r1 => ?_, b91⟩
                  · rw [r91]
                    unfold ob_
                    by_cases c : j = t
                    · rw [if_pos c]; omega
                    · rw [if_neg c]; exact ca j j0 (by omega)
                  · rw [show 4 * (t + 1) + r = 4 * t + 4 + r by omega, t91 r r0 r1, ta r r0 r1, ba]
                    have := gbb k r
                    have := hb r r0 r1
                    omega
                refine pw_aload_n (z := 151) (pc := 110) dX1_evenestFrom_110 rfl rfl ?_
                refine pw_iload_n (z := t) (pc := 111) dX1_evenestFrom_111 rfl rfl ?_
                refine pw_iconst (pc := 112) dX1_evenestFrom_112 ?_
                refine pw_iadd (pc := 113) dX1_evenestFrom_113 ?_
                refine pw_iload (z := m + z46) (pc := 114) dX1_evenestFrom_114 rfl ?_
                refine pw_callV (c := 1) (o := 151) (As := [ii_ (t + 1), ii_ (m + z46)]) (rest := []) (pc := 116) dX1_evenestFrom_116 (IH h91 (t + 1) (m + z46) ((List.range k.toNat).foldl (est_ ro P 0 (h 151 12) (n + 1) (h 157) (fun r => h 156 (4 * t + r)) m t) B) pre) lX1_167 mX1_evenestFrom vX1_evenestFrom (hC 151 (by decide)) (show kd_ 151 = 11 by decide +kernel) rfl rfl rfl ⟨by show 4 + n + 1 ≤ 4 + (n + 1); omega, by show 19 + 7 + 60 * (4 + n) ≤ 60 * (4 + (n + 1)); omega⟩ ⟨Nat.zero_le _, Nat.zero_le _⟩ (Nat.le_of_ble_eq_true rfl) (k_v (fun h116 q116 => ?_))
                obtain ⟨f116, b116⟩ := q116
                rw [show h91 151 12 = h 151 12 by rw [f91 151 (by decide)]; exact o12, ← es (by omega)] at b116
                have aN := b116
                have fN := jfr_tr af (jfr_up F91 f116)
                
                refine pw_iinc (z := k) (lv1 := [some (rr_ G 151), some (ii_ t), some (ii_ m), some (ii_ (bef_ (h 157) t)), some (ii_ 0), some (ii_ (k + 1)), some (ii_ (m + z46))]) (pc := 119) dX1_evenestFrom_119 rfl (by decide) rfl rfl ?_
                refine pw_goto (t := 29) (pc := 122) dX1_evenestFrom_122 (by decide) ?_
                refine pw_less (lv1 := [some (rr_ G 151), some (ii_ t), some (ii_ m), some (ii_ (bef_ (h 157) t)), some (ii_ 0), some (ii_ (k + 1)), none]) rfl (by intro i v; (match i with | 0 => simp | 1 => simp | 2 => simp | 3 => simp | 4 => simp | 5 => simp | 6 => simp | n + 7 => simp)) ?_
                exact ih29 _ _ (by omega) (fN) (aN) (by omega)
              · refine pw_if_eq (t := 119) (pc := 107) dX1_evenestFrom_107 (by decide) (by first | omega | (simp only [n_a1_o_7]; omega)) (fun _ => ?_) (fun c107 => absurd c107 (by decide))
                have fN := jfr_tr af F91
                have aN : jbs_ ro h91 ((List.range (k + 1).toNat).foldl (est_ ro P 0 (h 151 12) (n + 1) (h 157) (fun r => h 156 (4 * t + r)) m t) B) := by
                  rw [es (by omega)]
                  have nb := gtr_nb0 (ro := ro) (P := P) (mm := h 151 12) (D := z99) (by omega) (n + 1) (h91 157) (fun r => h91 156 (4 * (t + 1) + r)) (m + z46) ((List.range k.toNat).foldl (est_ ro P 0 (h 151 12) (n + 1) (h 157) (fun r => h 156 (4 * t + r)) m t) B) (by omega) (fun j j0 j1 => by
                    rw [r91]
                    unfold ob_
                    by_cases c : j = t
                    · rw [if_pos c]; omega
                    · rw [if_neg c]; exact (ca j j0 (by omega)).1) (fun u => p104 ((jbs_bet (by omega) b91).mpr u)) (by
                    unfold lsd_ at w99
                    rcases w99 with w99 | ⟨x, y, hx, hy, w99⟩
                    · exact Or.inl w99
                    · refine Or.inr ⟨x, y, hx, hy, ?_⟩
                      have e1 : h91 157 (ro 1 - 1 - ((n + 1 : Nat) : Int)) = k := by rw [r91]; exact if_pos (by omega)
                      rw [e1]
                      show z99 ≤ h91 156 (4 * (t + 1) + x) - h91 156 (4 * (t + 1) + y) + _
                      rw [show 4 * (t + 1) + x = 4 * t + 4 + x by omega, show 4 * (t + 1) + y = 4 * t + 4 + y by omega]
                      rw [show (ro 1 - 1 - t).toNat = n + 1 by omega] at w99
                      exact w99)
                  rw [nb]
                  exact b91
                refine pw_iinc (z := k) (lv1 := [some (rr_ G 151), some (ii_ t), some (ii_ m), some (ii_ (bef_ (h 157) t)), some (ii_ 0), some (ii_ (k + 1)), some (ii_ (m + z46))]) (pc := 119) dX1_evenestFrom_119 rfl (by decide) rfl rfl ?_
                refine pw_goto (t := 29) (pc := 122) dX1_evenestFrom_122 (by decide) ?_
                refine pw_less (lv1 := [some (rr_ G 151), some (ii_ t), some (ii_ m), some (ii_ (bef_ (h 157) t)), some (ii_ 0), some (ii_ (k + 1)), none]) rfl (by intro i v; (match i with | 0 => simp | 1 => simp | 2 => simp | 3 => simp | 4 => simp | 5 => simp | 6 => simp | n + 7 => simp)) ?_
                exact ih29 _ _ (by omega) (fN) (aN) (by omega)
          · refine pw_iload (z := 0) (pc := 61) dX1_evenestFrom_61 rfl ?_
            refine pw_if_eq (t := 78) (pc := 63) dX1_evenestFrom_63 (by decide) (by first | omega | (simp only [n_a1_o_7]; omega)) (fun _ => ?_) (fun c63 => absurd c63 (by decide))
            refine pw_iload (z := m + z46) (pc := 78) dX1_evenestFrom_78 rfl ?_
            refine pw_aload_n (z := 151) (pc := 80) dX1_evenestFrom_80 rfl rfl ?_
            refine pw_gI (x := 12) (pc := 81) dX1_evenestFrom_81 fX1_155 (hC 151 (by decide)) (show kd_ 151 = 11 by decide +kernel) rfl rfl (fun r81 => ?_)
            refine pw_icmp_gt (t := 119) (pc := 84) dX1_evenestFrom_84 (by decide) (by first | omega | (simp only [n_a1_o_7]; omega)) (by first | omega | (simp only [n_a1_o_7]; omega)) (fun c84 => ?_) (fun c84 => ?_)
            · have aN : jbs_ ro a1 ((List.range (k + 1).toNat).foldl (est_ ro P 0 (h 151 12) (n + 1) (h 157) (fun r => h 156 (4 * t + r)) m t) B) := by rw [est_n ak.1 (by rw [← w46]; omega)]; exact aB
              have fN := af
              refine pw_iinc (z := k) (lv1 := [some (rr_ G 151), some (ii_ t), some (ii_ m), some (ii_ (bef_ (h 157) t)), some (ii_ 0), some (ii_ (k + 1)), some (ii_ (m + z46))]) (pc := 119) dX1_evenestFrom_119 rfl (by decide) rfl rfl ?_
              refine pw_goto (t := 29) (pc := 122) dX1_evenestFrom_122 (by decide) ?_
              refine pw_less (lv1 := [some (rr_ G 151), some (ii_ t), some (ii_ m), some (ii_ (bef_ (h 157) t)), some (ii_ 0), some (ii_ (k + 1)), none]) rfl (by intro i v; (match i with | 0 => simp | 1 => simp | 2 => simp | 3 => simp | 4 => simp | 5 => simp | 6 => simp | n + 7 => simp)) ?_
              exact ih29 _ _ (by omega) (fN) (aN) (by omega)
            · refine pw_aload_n (z := 151) (pc := 87) dX1_evenestFrom_87 rfl rfl ?_
              refine pw_iload_n (z := t) (pc := 88) dX1_evenestFrom_88 rfl rfl ?_
              refine pw_iload (z := k) (pc := 89) dX1_evenestFrom_89 rfl ?_
              refine pw_callV (c := 1) (o := 151) (As := [ii_ t, ii_ k]) (rest := []) (pc := 91) dX1_evenestFrom_91 (d_choose hC a1 o ho ro Ha P Ja Ga t (by first | omega | (simp only [n_a1_o_7]; omega)) k (by first | omega | (simp only [n_a1_o_7]; omega)) ca (fun r r0 r1 => by rw [ta r r0 r1]; have := hb r r0 r1; omega)) lX1_177 mX1_choose vX1_choose (hC 151 (by decide)) (show kd_ 151 = 11 by decide +kernel) rfl rfl rfl (by constructor <;> simp only [rm_] <;> omega) ⟨Nat.zero_le _, Nat.zero_le _⟩ (Nat.le_of_ble_eq_true rfl) (k_v (fun h91 q91 => ?_))
              obtain ⟨f91, r91, l91, t91⟩ := q91
              have F91 : jfr_ t a1 h91 := ⟨off_mo f91 (by decide), fun q _ _ => by rw [f91 151 (by decide)], l91, fun x x1 => by rw [r91]; exact if_neg (by omega)⟩
              have j91 := jon_mv ho F91.1 (F91.2.1 0 (by decide) (by decide)) ja
              have b91 : jbs_ ro h91 ((List.range k.toNat).foldl (est_ ro P 0 (h 151 12) (n + 1) (h 157) (fun r => h 156 (4 * t + r)) m t) B) := jbs_mv (by rw [f91 151 (by decide)]) (by rw [f91 151 (by decide)]) (f91 158 (by decide)) (f91 159 (by decide)) aB
              have es : m + z46 ≤ h 151 12 → (List.range (k + 1).toNat).foldl (est_ ro P 0 (h 151 12) (n + 1) (h 157) (fun r => h 156 (4 * t + r)) m t) B = gtr_ ro P 0 (h 151 12) (n + 1) (h91 157) (fun r => h91 156 (4 * (t + 1) + r)) (m + z46) ((List.range k.toNat).foldl (est_ ro P 0 (h 151 12) (n + 1) (h 157) (fun r => h 156 (4 * t + r)) m t) B) := fun u => est_t ak.1 w46 u (by omega) (h91 157) (fun r => h91 156 (4 * (t + 1) + r)) (fun j j0 j1 => by
                  rw [r91]
                  unfold ob_
                  by_cases c : j = t
                  · rw [if_pos c, if_pos c]
                  · rw [if_neg c, if_neg c, af.2.2.2 j (by omega)]) (fun r r0 r1 => by
                  show h91 156 (4 * (t + 1) + r) = h 156 (4 * t + r) + _
                  rw [show 4 * (t + 1) + r = 4 * t + 4 + r by omega, t91 r r0 r1, ta r r0 r1, ba])
              refine pw_aload_n (z := 151) (pc := 94) dX1_evenestFrom_94 rfl rfl ?_
              refine pw_aload_n (z := 151) (pc := 95) dX1_evenestFrom_95 rfl rfl ?_
              refine pw_iload_n (z := t) (pc := 96) dX1_evenestFrom_96 rfl rfl ?_
              refine pw_iload (z := k) (pc := 97) dX1_evenestFrom_97 rfl ?_
              refine pw_callV (c := 1) (o := 151) (As := [ii_ t, ii_ k]) (rest := [rr_ G 151]) (pc := 99) dX1_evenestFrom_99 (d_leastSpread hC h91 o ho ro j91.1 P j91.2.1 j91.2.2.1 j91.2.2.2 t (by first | omega | (simp only [n_a1_o_7]; omega)) k (by first | omega | (simp only [n_a1_o_7]; omega)) (fun r r0 r1 => by rw [t91 r r0 r1, ta r r0 r1, ba]; have := gbb k r; have := hb r r0 r1; omega)) lX1_180 mX1_leastSpread vX1_leastSpread (hC 151 (by decide)) (show kd_ 151 = 11 by decide +kernel) rfl rfl rfl (by constructor <;> simp only [rm_] <;> omega) ⟨Nat.zero_le _, Nat.zero_le _⟩ (Nat.le_of_ble_eq_true rfl) (k_i (fun z99 h99 y99 q99 => ?_))
              obtain ⟨rfl, b99, w99⟩ := q99
              refine pw_iload (z := m + z46) (pc := 102) dX1_evenestFrom_102 rfl ?_
              refine pw_callV (c := 1) (o := 151) (As := [ii_ z99, ii_ (m + z46)]) (rest := []) (pc := 104) dX1_evenestFrom_104 (d_isEvener hC h91 z99 (m + z46) (by first | omega | (simp only [n_a1_o_7]; omega)) (by first | omega | (simp only [n_a1_o_7]; omega))) lX1_183 mX1_isEvener vX1_isEvener (hC 151 (by decide)) (show kd_ 151 = 11 by decide +kernel) rfl rfl rfl (by constructor <;> simp only [rm_] <;> omega) ⟨Nat.zero_le _, Nat.zero_le _⟩ (Nat.le_of_ble_eq_true rfl) (k_i (fun z104 h104 y104 q104 => ?_))
              obtain ⟨rfl, ⟨rfl, p104⟩ | ⟨rfl, p104⟩⟩ := q104
              · refine pw_if_eq (t := 119) (pc := 107) dX1_evenestFrom_107 (by decide) (by first | omega | (simp only [n_a1_o_7]; omega)) (fun c107 => absurd c107 (by decide)) (fun _ => ?_)
                have pre : epr_ ro P o n (t + 1) (m + z46) ((List.range k.toNat).foldl (est_ ro P 0 (h 151 12) (n + 1) (h 157) (fun r => h 156 (4 * t + r)) m t) B) h91 := by
                  refine ⟨j91, hR, by omega, by rw [f91 151 (by decide), o12]; exact hlm, by omega, fun j j0 j1 => ?_, fun r r0 r1 => ?_, b91⟩
                  · rw [r91]
                    unfold ob_
                    by_cases c : j = t
                    · rw [if_pos c]; omega
                    · rw [if_neg c]; exact ca j j0 (by omega)
                  · rw [show 4 * (t + 1) + r = 4 * t + 4 + r by omega, t91 r r0 r1, ta r r0 r1, ba]
                    have := gbb k r
                    have := hb r r0 r1
                    omega
                refine pw_aload_n (z := 151) (pc := 110) dX1_evenestFrom_110 rfl rfl ?_
                refine pw_iload_n (z := t) (pc := 111) dX1_evenestFrom_111 rfl rfl ?_
                refine pw_iconst (pc := 112) dX1_evenestFrom_112 ?_
                refine pw_iadd (pc := 113) dX1_evenestFrom_113 ?_
                refine pw_iload (z := m + z46) (pc := 114) dX1_evenestFrom_114 rfl ?_
                refine pw_callV (c := 1) (o := 151) (As := [ii_ (t + 1), ii_ (m + z46)]) (rest := []) (pc := 116) dX1_evenestFrom_116 (IH h91 (t + 1) (m + z46) ((List.range k.toNat).foldl (est_ ro P 0 (h 151 12) (n + 1) (h 157) (fun r => h 156 (4 * t + r)) m t) B) pre) lX1_167 mX1_evenestFrom vX1_evenestFrom (hC 151 (by decide)) (show kd_ 151 = 11 by decide +kernel) rfl rfl rfl ⟨by show 4 + n + 1 ≤ 4 + (n + 1); omega, by show 19 + 7 + 60 * (4 + n) ≤ 60 * (4 + (n + 1)); omega⟩ ⟨Nat.zero_le _, Nat.zero_le _⟩ (Nat.le_of_ble_eq_true rfl) (k_v (fun h116 q116 => ?_))
                obtain ⟨f116, b116⟩ := q116
                rw [show h91 151 12 = h 151 12 by rw [f91 151 (by decide)]; exact o12, ← es (by omega)] at b116
                have aN := b116
                have fN := jfr_tr af (jfr_up F91 f116)
                
                refine pw_iinc (z := k) (lv1 := [some (rr_ G 151), some (ii_ t), some (ii_ m), some (ii_ (bef_ (h 157) t)), some (ii_ 0), some (ii_ (k + 1)), some (ii_ (m + z46))]) (pc := 119) dX1_evenestFrom_119 rfl (by decide) rfl rfl ?_
                refine pw_goto (t := 29) (pc := 122) dX1_evenestFrom_122 (by decide) ?_
                refine pw_less (lv1 := [some (rr_ G 151), some (ii_ t), some (ii_ m), some (ii_ (bef_ (h 157) t)), some (ii_ 0), some (ii_ (k + 1)), none]) rfl (by intro i v; (match i with | 0 => simp | 1 => simp | 2 => simp | 3 => simp | 4 => simp | 5 => simp | 6 => simp | n + 7 => simp)) ?_
                exact ih29 _ _ (by omega) (fN) (aN) (by omega)
              · refine pw_if_eq (t := 119) (pc := 107) dX1_evenestFrom_107 (by decide) (by first | omega | (simp only [n_a1_o_7]; omega)) (fun _ => ?_) (fun c107 => absurd c107 (by decide))
                have fN := jfr_tr af F91
                have aN : jbs_ ro h91 ((List.range (k + 1).toNat).foldl (est_ ro P 0 (h 151 12) (n + 1) (h 157) (fun r => h 156 (4 * t + r)) m t) B) := by
                  rw [es (by omega)]
                  have nb := gtr_nb0 (ro := ro) (P := P) (mm := h 151 12) (D := z99) (by omega) (n + 1) (h91 157) (fun r => h91 156 (4 * (t + 1) + r)) (m + z46) ((List.range k.toNat).foldl (est_ ro P 0 (h 151 12) (n + 1) (h 157) (fun r => h 156 (4 * t + r)) m t) B) (by omega) (fun j j0 j1 => by
                    rw [r91]
                    unfold ob_
                    by_cases c : j = t
                    · rw [if_pos c]; omega
                    · rw [if_neg c]; exact (ca j j0 (by omega)).1) (fun u => p104 ((jbs_bet (by omega) b91).mpr u)) (by
                    unfold lsd_ at w99
                    rcases w99 with w99 | ⟨x, y, hx, hy, w99⟩
                    · exact Or.inl w99
                    · refine Or.inr ⟨x, y, hx, hy, ?_⟩
                      have e1 : h91 157 (ro 1 - 1 - ((n + 1 : Nat) : Int)) = k := by rw [r91]; exact if_pos (by omega)
                      rw [e1]
                      show z99 ≤ h91 156 (4 * (t + 1) + x) - h91 156 (4 * (t + 1) + y) + _
                      rw [show 4 * (t + 1) + x = 4 * t + 4 + x by omega, show 4 * (t + 1) + y = 4 * t + 4 + y by omega]
                      rw [show (ro 1 - 1 - t).toNat = n + 1 by omega] at w99
                      exact w99)
                  rw [nb]
                  exact b91
                refine pw_iinc (z := k) (lv1 := [some (rr_ G 151), some (ii_ t), some (ii_ m), some (ii_ (bef_ (h 157) t)), some (ii_ 0), some (ii_ (k + 1)), some (ii_ (m + z46))]) (pc := 119) dX1_evenestFrom_119 rfl (by decide) rfl rfl ?_
                refine pw_goto (t := 29) (pc := 122) dX1_evenestFrom_122 (by decide) ?_
                refine pw_less (lv1 := [some (rr_ G 151), some (ii_ t), some (ii_ m), some (ii_ (bef_ (h 157) t)), some (ii_ 0), some (ii_ (k + 1)), none]) rfl (by intro i v; (match i with | 0 => simp | 1 => simp | 2 => simp | 3 => simp | 4 => simp | 5 => simp | 6 => simp | n + 7 => simp)) ?_
                exact ih29 _ _ (by omega) (fN) (aN) (by omega)
    exact L29 _ _ _ (by omega) (⟨off_rf, fun _ _ _ => rfl, fun _ _ => rfl, fun _ _ => rfl⟩) (hB) (Int.self_le_toNat _)
  · exfalso; omega

theorem d_even {G : GT_} (hC : okC_ G) {o : Nat} (ho : is6_ o) (ro : Int → Int) (P : List (Int × Int)) : ∀ n : Nat, epc_ G ro P o n
  | 0 => fun h t m B hp => d_even0 hC h o ho ro P t m B hp
  | n + 1 => fun h t m B hp => d_evenS hC h o ho ro P n (d_even hC ho ro P n) t m B hp

