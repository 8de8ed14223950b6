theorem CPR_d {tp : Int → Int} {n : Int} {h : PH_} {z : Int} : ∀ {X : RE_ Nat}, CPR_ tp n h z X → (z = 1 ∧ ∃ a, X = .ok a ∧ CPO_ tp n h a) ∨ (z = 0 ∧ ∃ e, X = .error e ∧ h 3 3 = e ∧ 0 < e)
  | .ok a, H => Or.inl ⟨H.1, a, rfl, H.2⟩
  | .error e, H => Or.inr ⟨H.1, e, rfl, H.2⟩
theorem CPN_d {tp : Int → Int} {n : Int} {h : PH_} {z : Int} : ∀ {X : RE_ (Int × Nat)}, CPN_ tp n h z X → (z = 1 ∧ ∃ q, X = .ok q ∧ CPO_ tp n h q.2 ∧ h 3 4 = q.1) ∨ (z = 0 ∧ ∃ e, X = .error e ∧ h 3 3 = e ∧ 0 < e)
  | .ok q, H => Or.inl ⟨H.1, q, rfl, H.2⟩
  | .error e, H => Or.inr ⟨H.1, e, rfl, H.2⟩
theorem CPK_d {tp : Int → Int} {n : Int} {h : PH_} {z : Int} : ∀ {X : RE_ (Int × Nat)}, CPK_ tp n h z X → (z = 1 ∧ ∃ q, X = .ok q ∧ CPO_ tp n h q.2 ∧ h 3 5 = q.1) ∨ (z = 0 ∧ ∃ e, X = .error e ∧ h 3 3 = e ∧ 0 < e)
  | .ok q, H => Or.inl ⟨H.1, q, rfl, H.2⟩
  | .error e, H => Or.inr ⟨H.1, e, rfl, H.2⟩
theorem cnv_1 {x : Int} : cnv_ (1, x) = x := if_pos rfl
theorem cnv_2 {x : Int} : cnv_ (2, x) = 10000 + x := by show (if (2 : Int) = 1 then x else if (2 : Int) = 2 then 10000 + x else _) = _; rw [if_neg (by decide), if_pos rfl]

set_option maxHeartbeats 4000000 in
set_option maxRecDepth 100000 in
theorem d_part0 {G : GT_} (hC : okC_ G) (h : PH_) (tp : Int → Int) (n : Int) (o fj f m : Nat) (ho : is6_ o) (hF : FJ_ fj f m) (a : Nat) (v : Int) (hv : v = 5 - ((0 : Nat) : Int)) (E : EXC_ tp n o fj h a) : PC G yX5_part cX5_part 6 (some .boolean) (7 + 6 * 0) [rr_ G 3, ii_ v] h (qi_ (fun z h' => XFR_ o h h' ∧ XCR_ tp n o h a (prt_ (tk_ tp n) f m 0 a) z h')) := by
  have H := E.1
  have HB := CPO_b H
  have hl_h := E.2.1
  have hs_h := E.2.2.1
  have EL := E.2.2.2
  have kk := ckd_k (tk_ tp n a).1
  rw [← HB.2.2.2.2.1.1] at kk
  obtain ⟨F1, F2, F3, F4⟩ := hF
  have fcb := fcw_b (tk_ tp n a) f m
  have e19 : ixn_ (tk_ tp n a) (wix_ 10) 0 = if_ (isW_ (tk_ tp n a) 19) 0 (-1) := rfl
  refine PC.of (lv := [some (rr_ G 3), some (ii_ v), none, none, none, none]) (by decide +kernel) (Nat.le_of_ble_eq_true rfl) rfl rfl ?_
  refine pw_aload_n (z := 3) (pc := 0) dX5_part_0 rfl rfl ?_
  refine pw_getR (r := 1) (pc := 1) dX5_part_1 fX5_17 (hC 3 (by decide)) (show kd_ 3 = 15 by decide +kernel) rfl (by decide +kernel) ?_
  refine pw_ldcsw 10 (pc := 4) dX5_part_4 rfl ?_
  refine pw_callV (c := 8) (o := 1) (As := [rr_ G 3010]) (rest := []) (pc := 7) dX5_part_7 (d_wordAmong hC h 10 (by decide) (by decide) (tk_ tp n a) HB.2.2.2.2.1 (CPO_lk H)) lX5_42 mX8_wordAmong vX8_wordAmong (hC 1 (by decide)) (show kd_ 1 = 18 by decide +kernel) rfl rfl rfl (by constructor <;> simp only [rm_] <;> omega) ⟨Nat.zero_le _, Nat.zero_le _⟩ (Nat.le_of_ble_eq_true rfl) (k_i (fun z7 h7 y7 q7 => ?_))
  obtain ⟨rfl, w7⟩ := q7
  rw [e19] at w7
  have i19 : z7 = 0 ↔ isW_ (tk_ tp n a) 19 := by
    rw [w7]
    by_cases c : isW_ (tk_ tp n a) 19
    · rw [if_t c]; exact ⟨fun _ => c, fun _ => rfl⟩
    · rw [if_f c]; exact ⟨fun u => absurd u (by decide), fun u => absurd u c⟩
  refine pw_if_ne (t := 17) (pc := 10) dX5_part_10 (by decide) (by first | omega) (fun c10 => ?_) (fun c10 => ?_)
  · refine pw_iconst (pc := 17) dX5_part_17 ?_
    refine pw_istore_n (lv1 := [some (rr_ G 3), some (ii_ v), some (ii_ 0), none, none, none]) (pc := 18) dX5_part_18 rfl (by decide) rfl rfl ?_
    refine pw_aload_n (z := 3) (pc := 19) dX5_part_19 rfl rfl ?_
    refine pw_getR (r := 1) (pc := 20) dX5_part_20 fX5_17 (hC 3 (by decide)) (show kd_ 3 = 15 by decide +kernel) rfl (by decide +kernel) ?_
    refine pw_bipush (pc := 23) dX5_part_23 rfl ?_
    refine pw_callV (c := 8) (o := 1) (As := [ii_ 40]) (rest := []) (pc := 25) dX5_part_25 (d_isSign hC h (tk_ tp n a) HB.2.2.2.2.1 40 (by first | omega)) lX5_107 mX8_isSign vX8_isSign (hC 1 (by decide)) (show kd_ 1 = 18 by decide +kernel) rfl rfl rfl (by constructor <;> simp only [rm_] <;> omega) ⟨Nat.zero_le _, Nat.zero_le _⟩ (Nat.le_of_ble_eq_true rfl) (k_i (fun z25 h25 y25 q25 => ?_))
    obtain ⟨rfl, ⟨rfl, p25⟩ | ⟨rfl, p25⟩⟩ := q25
    · refine pw_istore_n (lv1 := [some (rr_ G 3), some (ii_ v), some (ii_ 0), some (ii_ 1), none, none]) (pc := 28) dX5_part_28 rfl (by decide) rfl rfl ?_
      refine pw_aload_n (z := 3) (pc := 29) dX5_part_29 rfl rfl ?_
      refine pw_getR (r := 1) (pc := 30) dX5_part_30 fX5_17 (hC 3 (by decide)) (show kd_ 3 = 15 by decide +kernel) rfl (by decide +kernel) ?_
      refine pw_aload_n (z := 3) (pc := 33) dX5_part_33 rfl rfl ?_
      refine pw_gD (x := 2) (r := (3000 + fj)) (pc := 34) dX5_part_34 fX5_11 (hC 3 (by decide)) (show kd_ 3 = 15 by decide +kernel) rfl rfl hs_h ?_
      refine pw_callV (c := 8) (o := 1) (As := [rr_ G (3000 + fj)]) (rest := []) (pc := 37) dX5_part_37 (d_wordAmong hC h fj F1.2 F1.1 (tk_ tp n a) HB.2.2.2.2.1 (CPO_lk H)) lX5_42 mX8_wordAmong vX8_wordAmong (hC 1 (by decide)) (show kd_ 1 = 18 by decide +kernel) rfl rfl rfl (by constructor <;> simp only [rm_] <;> omega) ⟨Nat.zero_le _, Nat.zero_le _⟩ (Nat.le_of_ble_eq_true rfl) (k_i (fun z37 h37 y37 q37 => ?_))
      obtain ⟨rfl, w37⟩ := q37
      rw [F3, ixn_f F2] at w37
      refine pw_istore (lv1 := [some (rr_ G 3), some (ii_ v), some (ii_ 0), some (ii_ 1), some (ii_ z37), none]) (pc := 40) dX5_part_40 (by decide) rfl rfl ?_
      refine pw_iload_n (z := 0) (pc := 42) dX5_part_42 rfl rfl ?_
      refine pw_if_ne (t := 73) (pc := 43) dX5_part_43 (by decide) (by first | omega) (fun c43 => absurd c43 (by decide)) (fun _ => ?_)
      refine pw_iload_n (z := 1) (pc := 46) dX5_part_46 rfl rfl ?_
      refine pw_if_ne (t := 73) (pc := 47) dX5_part_47 (by decide) (by first | omega) (fun _ => ?_) (fun c47 => absurd c47 (by decide))
      have bg : bgs_ (tk_ tp n a) f m := by
        unfold bgs_
        first
        | exact Or.inr (Or.inr (Or.inr (i19.mp c10)))
        | exact Or.inr (Or.inr (Or.inl p25))
        | exact Or.inr (Or.inl (kk.2.1.mp (by omega)))
        | exact Or.inl (by omega)
      refine pw_iload_n (z := v) (pc := 73) dX5_part_73 rfl rfl ?_
      refine pw_iconst (pc := 74) dX5_part_74 ?_
      refine pw_icmp_lt (t := 84) (pc := 75) dX5_part_75 (by decide) (by first | omega) (by first | omega) (fun c75 => ?_) (fun c75 => ?_)
      · exfalso; omega
      · refine pw_aload_n (z := 3) (pc := 78) dX5_part_78 rfl rfl ?_
        refine pw_iconst (pc := 79) dX5_part_79 ?_
        refine pw_callV (c := 5) (o := 3) (As := [ii_ 5]) (rest := []) (pc := 80) dX5_part_80 (d_wrong hC h tp n a H 5 (by first | omega)) lX5_70 mX5_wrong vX5_wrong (hC 3 (by decide)) (show kd_ 3 = 15 by decide +kernel) rfl rfl rfl (by constructor <;> simp only [rm_] <;> omega) ⟨Nat.zero_le _, Nat.zero_le _⟩ (Nat.le_of_ble_eq_true rfl) (k_i (fun z80 h80 y80 q80 => ?_))
        obtain ⟨f80, x80, rfl⟩ := q80
        have fp80 := flt_p (tp := tp) (a := a) HB.1 (w := 5) (by omega)
        exact pw_zret (pc := 83) dX5_part_83 (by first | omega) (⟨XFR_3 ho f80 (by simp), Or.inr ⟨rfl, _, by unfold prt_; rw [if_t bg], x80, fp80.1⟩⟩)
    · refine pw_istore_n (lv1 := [some (rr_ G 3), some (ii_ v), some (ii_ 0), some (ii_ 0), none, none]) (pc := 28) dX5_part_28 rfl (by decide) rfl rfl ?_
      refine pw_aload_n (z := 3) (pc := 29) dX5_part_29 rfl rfl ?_
      refine pw_getR (r := 1) (pc := 30) dX5_part_30 fX5_17 (hC 3 (by decide)) (show kd_ 3 = 15 by decide +kernel) rfl (by decide +kernel) ?_
      refine pw_aload_n (z := 3) (pc := 33) dX5_part_33 rfl rfl ?_
      refine pw_gD (x := 2) (r := (3000 + fj)) (pc := 34) dX5_part_34 fX5_11 (hC 3 (by decide)) (show kd_ 3 = 15 by decide +kernel) rfl rfl hs_h ?_
      refine pw_callV (c := 8) (o := 1) (As := [rr_ G (3000 + fj)]) (rest := []) (pc := 37) dX5_part_37 (d_wordAmong hC h fj F1.2 F1.1 (tk_ tp n a) HB.2.2.2.2.1 (CPO_lk H)) lX5_42 mX8_wordAmong vX8_wordAmong (hC 1 (by decide)) (show kd_ 1 = 18 by decide +kernel) rfl rfl rfl (by constructor <;> simp only [rm_] <;> omega) ⟨Nat.zero_le _, Nat.zero_le _⟩ (Nat.le_of_ble_eq_true rfl) (k_i (fun z37 h37 y37 q37 => ?_))
      obtain ⟨rfl, w37⟩ := q37
      rw [F3, ixn_f F2] at w37
      refine pw_istore (lv1 := [some (rr_ G 3), some (ii_ v), some (ii_ 0), some (ii_ 0), some (ii_ z37), none]) (pc := 40) dX5_part_40 (by decide) rfl rfl ?_
      refine pw_iload_n (z := 0) (pc := 42) dX5_part_42 rfl rfl ?_
      refine pw_if_ne (t := 73) (pc := 43) dX5_part_43 (by decide) (by first | omega) (fun c43 => absurd c43 (by decide)) (fun _ => ?_)
      refine pw_iload_n (z := 0) (pc := 46) dX5_part_46 rfl rfl ?_
      refine pw_if_ne (t := 73) (pc := 47) dX5_part_47 (by decide) (by first | omega) (fun c47 => absurd c47 (by decide)) (fun _ => ?_)
      refine pw_iload (z := z37) (pc := 50) dX5_part_50 rfl ?_
      refine pw_iconst (pc := 52) dX5_part_52 ?_
      refine pw_icmp_ne (t := 73) (pc := 53) dX5_part_53 (by decide) (by first | omega) (by first | omega) (fun c53 => ?_) (fun c53 => ?_)
      · have bg : bgs_ (tk_ tp n a) f m := by
          unfold bgs_
          first
          | exact Or.inr (Or.inr (Or.inr (i19.mp c10)))
          | exact Or.inr (Or.inr (Or.inl p25))
          | exact Or.inr (Or.inl (kk.2.1.mp (by omega)))
          | exact Or.inl (by omega)
        refine pw_iload_n (z := v) (pc := 73) dX5_part_73 rfl rfl ?_
        refine pw_iconst (pc := 74) dX5_part_74 ?_
        refine pw_icmp_lt (t := 84) (pc := 75) dX5_part_75 (by decide) (by first | omega) (by first | omega) (fun c75 => ?_) (fun c75 => ?_)
        · exfalso; omega
        · refine pw_aload_n (z := 3) (pc := 78) dX5_part_78 rfl rfl ?_
          refine pw_iconst (pc := 79) dX5_part_79 ?_
          refine pw_callV (c := 5) (o := 3) (As := [ii_ 5]) (rest := []) (pc := 80) dX5_part_80 (d_wrong hC h tp n a H 5 (by first | omega)) lX5_70 mX5_wrong vX5_wrong (hC 3 (by decide)) (show kd_ 3 = 15 by decide +kernel) rfl rfl rfl (by constructor <;> simp only [rm_] <;> omega) ⟨Nat.zero_le _, Nat.zero_le _⟩ (Nat.le_of_ble_eq_true rfl) (k_i (fun z80 h80 y80 q80 => ?_))
          obtain ⟨f80, x80, rfl⟩ := q80
          have fp80 := flt_p (tp := tp) (a := a) HB.1 (w := 5) (by omega)
          exact pw_zret (pc := 83) dX5_part_83 (by first | omega) (⟨XFR_3 ho f80 (by simp), Or.inr ⟨rfl, _, by unfold prt_; rw [if_t bg], x80, fp80.1⟩⟩)
      · refine pw_aload_n (z := 3) (pc := 56) dX5_part_56 rfl rfl ?_
        refine pw_getR (r := 1) (pc := 57) dX5_part_57 fX5_17 (hC 3 (by decide)) (show kd_ 3 = 15 by decide +kernel) rfl (by decide +kernel) ?_
        refine pw_gI (x := 3) (pc := 60) dX5_part_60 fX5_34 (hC 1 (by decide)) (show kd_ 1 = 18 by decide +kernel) rfl rfl (fun r60 => ?_)
        refine pw_iconst (pc := 63) dX5_part_63 ?_
        refine pw_icmp_eq (t := 73) (pc := 64) dX5_part_64 (by decide) (by first | omega) (by first | omega) (fun c64 => ?_) (fun c64 => ?_)
        · have bg : bgs_ (tk_ tp n a) f m := by
            unfold bgs_
            first
            | exact Or.inr (Or.inr (Or.inr (i19.mp c10)))
            | exact Or.inr (Or.inr (Or.inl p25))
            | exact Or.inr (Or.inl (kk.2.1.mp (by omega)))
            | exact Or.inl (by omega)
          refine pw_iload_n (z := v) (pc := 73) dX5_part_73 rfl rfl ?_
          refine pw_iconst (pc := 74) dX5_part_74 ?_
          refine pw_icmp_lt (t := 84) (pc := 75) dX5_part_75 (by decide) (by first | omega) (by first | omega) (fun c75 => ?_) (fun c75 => ?_)
          · exfalso; omega
          · refine pw_aload_n (z := 3) (pc := 78) dX5_part_78 rfl rfl ?_
            refine pw_iconst (pc := 79) dX5_part_79 ?_
            refine pw_callV (c := 5) (o := 3) (As := [ii_ 5]) (rest := []) (pc := 80) dX5_part_80 (d_wrong hC h tp n a H 5 (by first | omega)) lX5_70 mX5_wrong vX5_wrong (hC 3 (by decide)) (show kd_ 3 = 15 by decide +kernel) rfl rfl rfl (by constructor <;> simp only [rm_] <;> omega) ⟨Nat.zero_le _, Nat.zero_le _⟩ (Nat.le_of_ble_eq_true rfl) (k_i (fun z80 h80 y80 q80 => ?_))
            obtain ⟨f80, x80, rfl⟩ := q80
            have fp80 := flt_p (tp := tp) (a := a) HB.1 (w := 5) (by omega)
            exact pw_zret (pc := 83) dX5_part_83 (by first | omega) (⟨XFR_3 ho f80 (by simp), Or.inr ⟨rfl, _, by unfold prt_; rw [if_t bg], x80, fp80.1⟩⟩)
        · refine pw_aload_n (z := 3) (pc := 67) dX5_part_67 rfl rfl ?_
          refine pw_iconst (pc := 68) dX5_part_68 ?_
          refine pw_callV (c := 5) (o := 3) (As := [ii_ 1]) (rest := []) (pc := 69) dX5_part_69 (d_wrong hC h tp n a H 1 (by first | omega)) lX5_70 mX5_wrong vX5_wrong (hC 3 (by decide)) (show kd_ 3 = 15 by decide +kernel) rfl rfl rfl (by constructor <;> simp only [rm_] <;> omega) ⟨Nat.zero_le _, Nat.zero_le _⟩ (Nat.le_of_ble_eq_true rfl) (k_i (fun z69 h69 y69 q69 => ?_))
          obtain ⟨f69, x69, rfl⟩ := q69
          have fp69 := flt_p (tp := tp) (a := a) HB.1 (w := 1) (by omega)
          exact pw_zret (pc := 72) dX5_part_72 (by first | omega) (⟨XFR_3 ho f69 (by simp), Or.inr ⟨rfl, _, by unfold prt_; rw [if_f (fun u => by
                      unfold bgs_ at u
                      rcases u with u | u | u | u
                      · omega
                      · exact c64 (kk.2.1.mpr u)
                      · exact p25 u
                      · exact c10 (i19.mpr u))], x69, fp69.1⟩⟩)
  · refine pw_iconst (pc := 13) dX5_part_13 ?_
    refine pw_goto (t := 18) (pc := 14) dX5_part_14 (by decide) ?_
    refine pw_istore_n (lv1 := [some (rr_ G 3), some (ii_ v), some (ii_ 1), none, none, none]) (pc := 18) dX5_part_18 rfl (by decide) rfl rfl ?_
    refine pw_aload_n (z := 3) (pc := 19) dX5_part_19 rfl rfl ?_
    refine pw_getR (r := 1) (pc := 20) dX5_part_20 fX5_17 (hC 3 (by decide)) (show kd_ 3 = 15 by decide +kernel) rfl (by decide +kernel) ?_
    refine pw_bipush (pc := 23) dX5_part_23 rfl ?_
    refine pw_callV (c := 8) (o := 1) (As := [ii_ 40]) (rest := []) (pc := 25) dX5_part_25 (d_isSign hC h (tk_ tp n a) HB.2.2.2.2.1 40 (by first | omega)) lX5_107 mX8_isSign vX8_isSign (hC 1 (by decide)) (show kd_ 1 = 18 by decide +kernel) rfl rfl rfl (by constructor <;> simp only [rm_] <;> omega) ⟨Nat.zero_le _, Nat.zero_le _⟩ (Nat.le_of_ble_eq_true rfl) (k_i (fun z25 h25 y25 q25 => ?_))
    obtain ⟨rfl, ⟨rfl, p25⟩ | ⟨rfl, p25⟩⟩ := q25
    · refine pw_istore_n (lv1 := [some (rr_ G 3), some (ii_ v), some (ii_ 1), some (ii_ 1), none, none]) (pc := 28) dX5_part_28 rfl (by decide) rfl rfl ?_
      exact (isSW p25 (i19.mp c10)).elim
    · refine pw_istore_n (lv1 := [some (rr_ G 3), some (ii_ v), some (ii_ 1), some (ii_ 0), none, none]) (pc := 28) dX5_part_28 rfl (by decide) rfl rfl ?_
      refine pw_aload_n (z := 3) (pc := 29) dX5_part_29 rfl rfl ?_
      refine pw_getR (r := 1) (pc := 30) dX5_part_30 fX5_17 (hC 3 (by decide)) (show kd_ 3 = 15 by decide +kernel) rfl (by decide +kernel) ?_
      refine pw_aload_n (z := 3) (pc := 33) dX5_part_33 rfl rfl ?_
      refine pw_gD (x := 2) (r := (3000 + fj)) (pc := 34) dX5_part_34 fX5_11 (hC 3 (by decide)) (show kd_ 3 = 15 by decide +kernel) rfl rfl hs_h ?_
      refine pw_callV (c := 8) (o := 1) (As := [rr_ G (3000 + fj)]) (rest := []) (pc := 37) dX5_part_37 (d_wordAmong hC h fj F1.2 F1.1 (tk_ tp n a) HB.2.2.2.2.1 (CPO_lk H)) lX5_42 mX8_wordAmong vX8_wordAmong (hC 1 (by decide)) (show kd_ 1 = 18 by decide +kernel) rfl rfl rfl (by constructor <;> simp only [rm_] <;> omega) ⟨Nat.zero_le _, Nat.zero_le _⟩ (Nat.le_of_ble_eq_true rfl) (k_i (fun z37 h37 y37 q37 => ?_))
      obtain ⟨rfl, w37⟩ := q37
      rw [F3, ixn_f F2] at w37
      refine pw_istore (lv1 := [some (rr_ G 3), some (ii_ v), some (ii_ 1), some (ii_ 0), some (ii_ z37), none]) (pc := 40) dX5_part_40 (by decide) rfl rfl ?_
      refine pw_iload_n (z := 1) (pc := 42) dX5_part_42 rfl rfl ?_
      refine pw_if_ne (t := 73) (pc := 43) dX5_part_43 (by decide) (by first | omega) (fun _ => ?_) (fun c43 => absurd c43 (by decide))
      have bg : bgs_ (tk_ tp n a) f m := by
        unfold bgs_
        first
        | exact Or.inr (Or.inr (Or.inr (i19.mp c10)))
        | exact Or.inr (Or.inr (Or.inl p25))
        | exact Or.inr (Or.inl (kk.2.1.mp (by omega)))
        | exact Or.inl (by omega)
      refine pw_iload_n (z := v) (pc := 73) dX5_part_73 rfl rfl ?_
      refine pw_iconst (pc := 74) dX5_part_74 ?_
      refine pw_icmp_lt (t := 84) (pc := 75) dX5_part_75 (by decide) (by first | omega) (by first | omega) (fun c75 => ?_) (fun c75 => ?_)
      · exfalso; omega
      · refine pw_aload_n (z := 3) (pc := 78) dX5_part_78 rfl rfl ?_
        refine pw_iconst (pc := 79) dX5_part_79 ?_
        refine pw_callV (c := 5) (o := 3) (As := [ii_ 5]) (rest := []) (pc := 80) dX5_part_80 (d_wrong hC h tp n a H 5 (by first | omega)) lX5_70 mX5_wrong vX5_wrong (hC 3 (by decide)) (show kd_ 3 = 15 by decide +kernel) rfl rfl rfl (by constructor <;> simp only [rm_] <;> omega) ⟨Nat.zero_le _, Nat.zero_le _⟩ (Nat.le_of_ble_eq_true rfl) (k_i (fun z80 h80 y80 q80 => ?_))
        obtain ⟨f80, x80, rfl⟩ := q80
        have fp80 := flt_p (tp := tp) (a := a) HB.1 (w := 5) (by omega)
        exact pw_zret (pc := 83) dX5_part_83 (by first | omega) (⟨XFR_3 ho f80 (by simp), Or.inr ⟨rfl, _, by unfold prt_; rw [if_t bg], x80, fp80.1⟩⟩)

set_option maxHeartbeats 4000000 in
set_option maxRecDepth 100000 in
theorem d_partS {G : GT_} (hC : okC_ G) (h : PH_) (tp : Int → Int) (n : Int) (o fj f m : Nat) (ho : is6_ o) (hF : FJ_ fj f m) (d : Nat) (hd : d ≤ 4) (IHp : kpar_ G tp n o fj f m d) (IHe : kexp_ G tp n o fj f m d 0) (a : Nat) (v : Int) (hv : v = 5 - ((d + 1 : Nat) : Int)) (E : EXC_ tp n o fj h a) : PC G yX5_part cX5_part 6 (some .boolean) (7 + 6 * (d + 1)) [rr_ G 3, ii_ v] h (qi_ (fun z h' => XFR_ o h h' ∧ XCR_ tp n o h a (prt_ (tk_ tp n) f m (d + 1) a) z h')) := by
  have H := E.1
  have HB := CPO_b H
  have hl_h := E.2.1
  have hs_h := E.2.2.1
  have EL := E.2.2.2
  have kk := ckd_k (tk_ tp n a).1
  rw [← HB.2.2.2.2.1.1] at kk
  obtain ⟨F1, F2, F3, F4⟩ := hF
  have fcb := fcw_b (tk_ tp n a) f m
  have e19 : ixn_ (tk_ tp n a) (wix_ 10) 0 = if_ (isW_ (tk_ tp n a) 19) 0 (-1) := rfl
  have F3b : (tk_ tp n a).1 ≠ 1 → fcw_ (tk_ tp n a) f m = -1 := fun u => by rw [← ixn_f F2]; exact ixn_0 u _ _
  refine PC.of (lv := [some (rr_ G 3), some (ii_ v), none, none, none, none]) (by decide +kernel) (Nat.le_of_ble_eq_true rfl) rfl rfl ?_
  refine pw_aload_n (z := 3) (pc := 0) dX5_part_0 rfl rfl ?_
  refine pw_getR (r := 1) (pc := 1) dX5_part_1 fX5_17 (hC 3 (by decide)) (show kd_ 3 = 15 by decide +kernel) rfl (by decide +kernel) ?_
  refine pw_ldcsw 10 (pc := 4) dX5_part_4 rfl ?_
  refine pw_callV (c := 8) (o := 1) (As := [rr_ G 3010]) (rest := []) (pc := 7) dX5_part_7 (d_wordAmong hC h 10 (by decide) (by decide) (tk_ tp n a) HB.2.2.2.2.1 (CPO_lk H)) lX5_42 mX8_wordAmong vX8_wordAmong (hC 1 (by decide)) (show kd_ 1 = 18 by decide +kernel) rfl rfl rfl (by constructor <;> simp only [rm_] <;> omega) ⟨Nat.zero_le _, Nat.zero_le _⟩ (Nat.le_of_ble_eq_true rfl) (k_i (fun z7 h7 y7 q7 => ?_))
  obtain ⟨rfl, w7⟩ := q7
  rw [e19] at w7
  have i19 : z7 = 0 ↔ isW_ (tk_ tp n a) 19 := by
    rw [w7]
    by_cases c : isW_ (tk_ tp n a) 19
    · rw [if_t c]; exact ⟨fun _ => c, fun _ => rfl⟩
    · rw [if_f c]; exact ⟨fun u => absurd u (by decide), fun u => absurd u c⟩
  refine pw_if_ne (t := 17) (pc := 10) dX5_part_10 (by decide) (by first | omega) (fun c10 => ?_) (fun c10 => ?_)
  · refine pw_iconst (pc := 17) dX5_part_17 ?_
    refine pw_istore_n (lv1 := [some (rr_ G 3), some (ii_ v), some (ii_ 0), none, none, none]) (pc := 18) dX5_part_18 rfl (by decide) rfl rfl ?_
    refine pw_aload_n (z := 3) (pc := 19) dX5_part_19 rfl rfl ?_
    refine pw_getR (r := 1) (pc := 20) dX5_part_20 fX5_17 (hC 3 (by decide)) (show kd_ 3 = 15 by decide +kernel) rfl (by decide +kernel) ?_
    refine pw_bipush (pc := 23) dX5_part_23 rfl ?_
    refine pw_callV (c := 8) (o := 1) (As := [ii_ 40]) (rest := []) (pc := 25) dX5_part_25 (d_isSign hC h (tk_ tp n a) HB.2.2.2.2.1 40 (by first | omega)) lX5_107 mX8_isSign vX8_isSign (hC 1 (by decide)) (show kd_ 1 = 18 by decide +kernel) rfl rfl rfl (by constructor <;> simp only [rm_] <;> omega) ⟨Nat.zero_le _, Nat.zero_le _⟩ (Nat.le_of_ble_eq_true rfl) (k_i (fun z25 h25 y25 q25 => ?_))
    obtain ⟨rfl, ⟨rfl, p25⟩ | ⟨rfl, p25⟩⟩ := q25
    · refine pw_istore_n (lv1 := [some (rr_ G 3), some (ii_ v), some (ii_ 0), some (ii_ 1), none, none]) (pc := 28) dX5_part_28 rfl (by decide) rfl rfl ?_
      refine pw_aload_n (z := 3) (pc := 29) dX5_part_29 rfl rfl ?_
      refine pw_getR (r := 1) (pc := 30) dX5_part_30 fX5_17 (hC 3 (by decide)) (show kd_ 3 = 15 by decide +kernel) rfl (by decide +kernel) ?_
      refine pw_aload_n (z := 3) (pc := 33) dX5_part_33 rfl rfl ?_
      refine pw_gD (x := 2) (r := (3000 + fj)) (pc := 34) dX5_part_34 fX5_11 (hC 3 (by decide)) (show kd_ 3 = 15 by decide +kernel) rfl rfl hs_h ?_
      refine pw_callV (c := 8) (o := 1) (As := [rr_ G (3000 + fj)]) (rest := []) (pc := 37) dX5_part_37 (d_wordAmong hC h fj F1.2 F1.1 (tk_ tp n a) HB.2.2.2.2.1 (CPO_lk H)) lX5_42 mX8_wordAmong vX8_wordAmong (hC 1 (by decide)) (show kd_ 1 = 18 by decide +kernel) rfl rfl rfl (by constructor <;> simp only [rm_] <;> omega) ⟨Nat.zero_le _, Nat.zero_le _⟩ (Nat.le_of_ble_eq_true rfl) (k_i (fun z37 h37 y37 q37 => ?_))
      obtain ⟨rfl, w37⟩ := q37
      rw [F3, ixn_f F2] at w37
      refine pw_istore (lv1 := [some (rr_ G 3), some (ii_ v), some (ii_ 0), some (ii_ 1), some (ii_ z37), none]) (pc := 40) dX5_part_40 (by decide) rfl rfl ?_
      refine pw_iload_n (z := 0) (pc := 42) dX5_part_42 rfl rfl ?_
      refine pw_if_ne (t := 73) (pc := 43) dX5_part_43 (by decide) (by first | omega) (fun c43 => absurd c43 (by decide)) (fun _ => ?_)
      refine pw_iload_n (z := 1) (pc := 46) dX5_part_46 rfl rfl ?_
      refine pw_if_ne (t := 73) (pc := 47) dX5_part_47 (by decide) (by first | omega) (fun _ => ?_) (fun c47 => absurd c47 (by decide))
      have bg : bgs_ (tk_ tp n a) f m := by
        unfold bgs_
        first
        | exact Or.inr (Or.inr (Or.inr (i19.mp c10)))
        | exact Or.inr (Or.inr (Or.inl p25))
        | exact Or.inr (Or.inl (kk.2.1.mp (by omega)))
        | exact Or.inl (by omega)
      refine pw_iload_n (z := v) (pc := 73) dX5_part_73 rfl rfl ?_
      refine pw_iconst (pc := 74) dX5_part_74 ?_
      refine pw_icmp_lt (t := 84) (pc := 75) dX5_part_75 (by decide) (by first | omega) (by first | omega) (fun c75 => ?_) (fun c75 => ?_)
      · refine pw_iload_n (z := 1) (pc := 84) dX5_part_84 rfl rfl ?_
        refine pw_if_eq (t := 121) (pc := 85) dX5_part_85 (by decide) (by first | omega) (fun c85 => absurd c85 (by decide)) (fun _ => ?_)
        refine pw_aload_n (z := 3) (pc := 88) dX5_part_88 rfl rfl ?_
        refine pw_getR (r := 1) (pc := 89) dX5_part_89 fX5_17 (hC 3 (by decide)) (show kd_ 3 = 15 by decide +kernel) rfl (by decide +kernel) ?_
        refine pw_callV (c := 8) (o := 1) (As := []) (rest := []) (pc := 92) dX5_part_92 (d_step hC h tp n HB.2.2.2.2.2.1 (a + 1) HB.2.2.2.2.2.2.1) lX5_111 mX8_step vX8_step (hC 1 (by decide)) (show kd_ 1 = 18 by decide +kernel) rfl rfl rfl (by constructor <;> simp only [rm_] <;> omega) ⟨Nat.zero_le _, Nat.zero_le _⟩ (Nat.le_of_ble_eq_true rfl) (k_v (fun h92 q92 => ?_))
        obtain ⟨f92, k92, p92⟩ := q92
        obtain ⟨HS, FS⟩ := CPO_st H f92 k92 p92
        have XS : XFR_ o h h92 := XFR_3 ho FS (by simp)
        have ES : EXC_ tp n o fj h92 (a + 1) := EXC_mv E XS HS (by rw [f92 (o + 8) (by simp)]; omega)
        have hl_h92 : h92 3 1 = (o : Int) := by rw [XS.2.1 1 (by decide)]; exact E.2.1
        have tne : (tk_ tp n a).1 ≠ 0 := by
          unfold bgs_ at bg
          rcases bg with u | u | u | u
          · intro e; rw [F3b (by rw [e]; decide)] at u; omega
          · rw [u]; decide
          · rw [u.1]; decide
          · rw [u.1]; decide
        have an := tk_lt HB.1.1 tne
        refine pw_aload_n (z := 3) (pc := 95) dX5_part_95 rfl rfl ?_
        refine pw_iload_n (z := v) (pc := 96) dX5_part_96 rfl rfl ?_
        refine pw_iconst (pc := 97) dX5_part_97 ?_
        refine pw_iadd (pc := 98) dX5_part_98 ?_
        refine pw_iconst (pc := 99) dX5_part_99 ?_
        refine pw_callV (c := 5) (o := 3) (As := [ii_ (v + 1), ii_ 0]) (rest := []) (pc := 100) dX5_part_100 (IHe h92 (a + 1) (v + 1) 0 (by first | omega) (by first | omega) ES) lX5_239 mX5_expression vX5_expression (hC 3 (by decide)) (show kd_ 3 = 15 by decide +kernel) rfl rfl rfl ⟨by simp only [rm_]; omega, by simp only [rm_]; omega⟩ ⟨Nat.zero_le _, Nat.zero_le _⟩ (Nat.le_of_ble_eq_true rfl) (k_i (fun z100 h100 y100 q100 => ?_))
        obtain ⟨f100, ⟨rfl, p100⟩ | ⟨rfl, p100⟩⟩ := q100
        · obtain ⟨q, g100⟩ := p100
          have H100 := g100.2.1
          refine pw_if_eq (t := 119) (pc := 103) dX5_part_103 (by decide) (by first | omega) (fun c103 => absurd c103 (by decide)) (fun _ => ?_)
          refine pw_aload_n (z := 3) (pc := 106) dX5_part_106 rfl rfl ?_
          refine pw_bipush (pc := 107) dX5_part_107 rfl ?_
          refine pw_callV (c := 5) (o := 3) (As := [ii_ 41]) (rest := []) (pc := 109) dX5_part_109 (d_takeSign hC h100 tp n q.2 H100 41 (by first | omega)) lX5_154 mX5_takeSign vX5_takeSign (hC 3 (by decide)) (show kd_ 3 = 15 by decide +kernel) rfl rfl rfl ⟨by simp only [rm_]; omega, by simp only [rm_]; omega⟩ ⟨Nat.zero_le _, Nat.zero_le _⟩ (Nat.le_of_ble_eq_true rfl) (k_i (fun z109 h109 y109 q109 => ?_))
          replace q109 := (⟨q109.1, CPR_d q109.2⟩ : _ ∧ _)
          obtain ⟨f109, ⟨rfl, p109⟩ | ⟨rfl, p109⟩⟩ := q109
          · refine pw_if_eq (t := 119) (pc := 112) dX5_part_112 (by decide) (by first | omega) (fun c112 => absurd c112 (by decide)) (fun _ => ?_)
            refine pw_iconst (pc := 115) dX5_part_115 ?_
            refine pw_goto (t := 120) (pc := 116) dX5_part_116 (by decide) ?_
            exact pw_zret (pc := 120) dX5_part_120 (by first | omega) (by
                      obtain ⟨b, b1, b2⟩ := p109
                      obtain ⟨rfl, s41⟩ := tks2_o b1
                      have bn := tk_lt HB.1.1 (show (tk_ tp n q.2).1 ≠ 0 by rw [s41.1]; decide)
                      have lq := g100.2.2.2.1
                      refine ⟨XFR_tr XS (XFR_tr f100 (XFR_3 ho f109 (by simp))), Or.inl ⟨rfl, (q.1, q.2 + 1), ?_, b2, by show ((q.2 + 1 : Nat) : Int) ≤ n; omega, ⟨by show q.1.length + a ≤ q.2 + 1; omega, by show a < q.2 + 1; omega⟩, ?_, ?_⟩⟩
                      · rw [prt_s, if_t bg, if_f (fun u => c10 (i19.mpr u)), if_t p25]
                        exact (pcl2_o (show lv0_ (tk_ tp n) (prt_ (tk_ tp n) f m d) (a + 1) = .ok q from g100.1)).trans (if_t s41)
                      · rw [f109.1 (o + 8) (by simp), g100.2.2.2.2.1, f92 (o + 8) (by simp)]
                      · rw [f109.1 (o + 9) (by simp), g100.2.2.2.2.2, f92 (o + 8) (by simp), f92 (o + 9) (by simp)])
          · refine pw_if_eq (t := 119) (pc := 112) dX5_part_112 (by decide) (by first | omega) (fun _ => ?_) (fun c112 => absurd c112 (by decide))
            refine pw_iconst (pc := 119) dX5_part_119 ?_
            exact pw_zret (pc := 120) dX5_part_120 (by first | omega) (by
                      obtain ⟨e, e1, e2⟩ := p109
                      refine ⟨XFR_tr XS (XFR_tr f100 (XFR_3 ho f109 (by simp))), Or.inr ⟨rfl, e, ?_, e2⟩⟩
                      rw [prt_s, if_t bg, if_f (fun u => c10 (i19.mpr u)), if_t p25, pcl2_o (show lv0_ (tk_ tp n) (prt_ (tk_ tp n) f m d) (a + 1) = .ok q from g100.1)]
                      unfold tks2_ at e1
                      by_cases s : isS_ (tk_ tp n q.2) 41
                      · rw [if_t s] at e1; cases e1
                      · rw [if_f s] at e1 ⊢; injection e1 with e1; rw [e1])
        · refine pw_if_eq (t := 119) (pc := 103) dX5_part_103 (by decide) (by first | omega) (fun _ => ?_) (fun c103 => absurd c103 (by decide))
          refine pw_iconst (pc := 119) dX5_part_119 ?_
          exact pw_zret (pc := 120) dX5_part_120 (by first | omega) (⟨XFR_tr XS f100, Or.inr ⟨rfl, by obtain ⟨e, e1, e2⟩ := p100; exact ⟨e, by rw [prt_s, if_t bg, if_f (fun u => c10 (i19.mpr u)), if_t p25]; exact pcl2_e e1, e2⟩⟩⟩)
      · exfalso; omega
    · refine pw_istore_n (lv1 := [some (rr_ G 3), some (ii_ v), some (ii_ 0), some (ii_ 0), none, none]) (pc := 28) dX5_part_28 rfl (by decide) rfl rfl ?_
      refine pw_aload_n (z := 3) (pc := 29) dX5_part_29 rfl rfl ?_
      refine pw_getR (r := 1) (pc := 30) dX5_part_30 fX5_17 (hC 3 (by decide)) (show kd_ 3 = 15 by decide +kernel) rfl (by decide +kernel) ?_
      refine pw_aload_n (z := 3) (pc := 33) dX5_part_33 rfl rfl ?_
      refine pw_gD (x := 2) (r := (3000 + fj)) (pc := 34) dX5_part_34 fX5_11 (hC 3 (by decide)) (show kd_ 3 = 15 by decide +kernel) rfl rfl hs_h ?_
      refine pw_callV (c := 8) (o := 1) (As := [rr_ G (3000 + fj)]) (rest := []) (pc := 37) dX5_part_37 (d_wordAmong hC h fj F1.2 F1.1 (tk_ tp n a) HB.2.2.2.2.1 (CPO_lk H)) lX5_42 mX8_wordAmong vX8_wordAmong (hC 1 (by decide)) (show kd_ 1 = 18 by decide +kernel) rfl rfl rfl (by constructor <;> simp only [rm_] <;> omega) ⟨Nat.zero_le _, Nat.zero_le _⟩ (Nat.le_of_ble_eq_true rfl) (k_i (fun z37 h37 y37 q37 => ?_))
      obtain ⟨rfl, w37⟩ := q37
      rw [F3, ixn_f F2] at w37
      refine pw_istore (lv1 := [some (rr_ G 3), some (ii_ v), some (ii_ 0), some (ii_ 0), some (ii_ z37), none]) (pc := 40) dX5_part_40 (by decide) rfl rfl ?_
      refine pw_iload_n (z := 0) (pc := 42) dX5_part_42 rfl rfl ?_
      refine pw_if_ne (t := 73) (pc := 43) dX5_part_43 (by decide) (by first | omega) (fun c43 => absurd c43 (by decide)) (fun _ => ?_)
      refine pw_iload_n (z := 0) (pc := 46) dX5_part_46 rfl rfl ?_
      refine pw_if_ne (t := 73) (pc := 47) dX5_part_47 (by decide) (by first | omega) (fun c47 => absurd c47 (by decide)) (fun _ => ?_)
      refine pw_iload (z := z37) (pc := 50) dX5_part_50 rfl ?_
      refine pw_iconst (pc := 52) dX5_part_52 ?_
      refine pw_icmp_ne (t := 73) (pc := 53) dX5_part_53 (by decide) (by first | omega) (by first | omega) (fun c53 => ?_) (fun c53 => ?_)
      · have bg : bgs_ (tk_ tp n a) f m := by
          unfold bgs_
          first
          | exact Or.inr (Or.inr (Or.inr (i19.mp c10)))
          | exact Or.inr (Or.inr (Or.inl p25))
          | exact Or.inr (Or.inl (kk.2.1.mp (by omega)))
          | exact Or.inl (by omega)
        refine pw_iload_n (z := v) (pc := 73) dX5_part_73 rfl rfl ?_
        refine pw_iconst (pc := 74) dX5_part_74 ?_
        refine pw_icmp_lt (t := 84) (pc := 75) dX5_part_75 (by decide) (by first | omega) (by first | omega) (fun c75 => ?_) (fun c75 => ?_)
        · refine pw_iload_n (z := 0) (pc := 84) dX5_part_84 rfl rfl ?_
          refine pw_if_eq (t := 121) (pc := 85) dX5_part_85 (by decide) (by first | omega) (fun _ => ?_) (fun c85 => absurd c85 (by decide))
          refine pw_iload_n (z := 0) (pc := 121) dX5_part_121 rfl rfl ?_
          refine pw_if_eq (t := 131) (pc := 122) dX5_part_122 (by decide) (by first | omega) (fun _ => ?_) (fun c122 => absurd c122 (by decide))
          refine pw_iload (z := z37) (pc := 131) dX5_part_131 rfl ?_
          refine pw_iconst (pc := 133) dX5_part_133 ?_
          refine pw_icmp_ne (t := 148) (pc := 134) dX5_part_134 (by decide) (by first | omega) (by first | omega) (fun c134 => ?_) (fun c134 => ?_)
          · refine pw_sipush (pc := 148) dX5_part_148 rfl ?_
            refine pw_iload (z := z37) (pc := 151) dX5_part_151 rfl ?_
            refine pw_iadd (pc := 153) dX5_part_153 ?_
            refine pw_istore (lv1 := [some (rr_ G 3), some (ii_ v), some (ii_ 0), some (ii_ 0), some (ii_ z37), some (ii_ (10000 + z37))]) (pc := 154) dX5_part_154 (by decide) rfl rfl ?_
            refine pw_aload_n (z := 3) (pc := 156) dX5_part_156 rfl rfl ?_
            refine pw_getR (r := 1) (pc := 157) dX5_part_157 fX5_17 (hC 3 (by decide)) (show kd_ 3 = 15 by decide +kernel) rfl (by decide +kernel) ?_
            refine pw_callV (c := 8) (o := 1) (As := []) (rest := []) (pc := 160) dX5_part_160 (d_step hC h tp n HB.2.2.2.2.2.1 (a + 1) HB.2.2.2.2.2.2.1) lX5_111 mX8_step vX8_step (hC 1 (by decide)) (show kd_ 1 = 18 by decide +kernel) rfl rfl rfl (by constructor <;> simp only [rm_] <;> omega) ⟨Nat.zero_le _, Nat.zero_le _⟩ (Nat.le_of_ble_eq_true rfl) (k_v (fun h160 q160 => ?_))
            obtain ⟨f160, k160, p160⟩ := q160
            obtain ⟨HS, FS⟩ := CPO_st H f160 k160 p160
            have XS : XFR_ o h h160 := XFR_3 ho FS (by simp)
            have ES : EXC_ tp n o fj h160 (a + 1) := EXC_mv E XS HS (by rw [f160 (o + 8) (by simp)]; omega)
            have hl_h160 : h160 3 1 = (o : Int) := by rw [XS.2.1 1 (by decide)]; exact E.2.1
            have tne : (tk_ tp n a).1 ≠ 0 := by
              unfold bgs_ at bg
              rcases bg with u | u | u | u
              · intro e; rw [F3b (by rw [e]; decide)] at u; omega
              · rw [u]; decide
              · rw [u.1]; decide
              · rw [u.1]; decide
            have an := tk_lt HB.1.1 tne
            refine pw_iload_n (z := 0) (pc := 163) dX5_part_163 rfl rfl ?_
            refine pw_if_eq (t := 179) (pc := 164) dX5_part_164 (by decide) (by first | omega) (fun _ => ?_) (fun c164 => absurd c164 (by decide))
            refine pw_aload_n (z := 3) (pc := 179) dX5_part_179 rfl rfl ?_
            refine pw_gD (x := 1) (r := o) (pc := 180) dX5_part_180 fX5_94 (hC 3 (by decide)) (show kd_ 3 = 15 by decide +kernel) rfl rfl hl_h160 ?_
            refine pw_getR (r := (o + 8)) (pc := 183) dX5_part_183 fX5_231 (hC _ (by omega)) (kd6_0 ho) rfl rfl ?_
            refine pw_iload (z := 10000 + z37) (pc := 186) dX5_part_186 rfl ?_
            refine pw_callV (c := 2) (o := (o + 8)) (As := [ii_ (10000 + z37)]) (rest := []) (pc := 188) dX5_part_188 (d_put2 hC h160 o ho (10000 + z37) (by first | omega) (by rw [f160 (o + 8) (by simp)]; omega)) lX5_252 mX2_put vX2_put (hC _ (by omega)) (kd6_8 ho) rfl rfl rfl ⟨by simp only [rm_]; omega, by simp only [rm_]; omega⟩ ⟨Nat.zero_le _, Nat.zero_le _⟩ (Nat.le_of_ble_eq_true rfl) (k_v (fun h188 q188 => ?_))
            obtain ⟨f188, x188, n188, k188⟩ := q188
            refine pw_iconst (pc := 191) dX5_part_191 ?_
            exact pw_zret (pc := 192) dX5_part_192 (by first | omega) (by
                      first
                      | (exfalso; omega)
                      | (refine ⟨XFR_tr XS (XFR_p ho f188 n188), Or.inl ⟨rfl, ([(2, fcw_ (tk_ tp n a) f m)], a + 1), ?_, (CPO_mv HS (f188 1 (by simp)) (f188 2 (by simp)) (by rw [f188 3 (by simp)])), by show ((a + 1 : Nat) : Int) ≤ n; omega, ⟨by show 1 + a ≤ a + 1; omega, by show a < a + 1; omega⟩, ?_, ?_⟩⟩
                         · rw [prt_s, if_t bg, if_f (fun u => c10 (i19.mpr u)), if_f p25, if_f (fun u => by have := F3b (by rw [u]; decide); omega)]
                         · rw [x188, f160 (o + 8) (by simp)]; rfl
                         · rw [k188, f160 (o + 8) (by simp), f160 (o + 9) (by simp), w37]; show _ = ob_ _ _ (cnv_ _); rw [cnv_2]))
          · have t2 : (tk_ tp n a).1 = 2 := by first | exact kk.2.1.mp c64 | (exfalso; omega)
            have v2 := HB.2.2.2.2.1.2.2.2 (Or.inl t2)
            have b2 := (HB.2.2.2.1 a).2 t2
            refine pw_aload_n (z := 3) (pc := 137) dX5_part_137 rfl rfl ?_
            refine pw_getR (r := 1) (pc := 138) dX5_part_138 fX5_17 (hC 3 (by decide)) (show kd_ 3 = 15 by decide +kernel) rfl (by decide +kernel) ?_
            refine pw_gJ (x := 6) (pc := 141) dX5_part_141 fX5_114 (hC 1 (by decide)) (show kd_ 1 = 18 by decide +kernel) rfl rfl (fun r141 => ?_)
            refine pw_l2i (pc := 144) dX5_part_144 ?_
            refine pw_goto (t := 154) (pc := 145) dX5_part_145 (by decide) ?_
            refine pw_istore (lv1 := [some (rr_ G 3), some (ii_ v), some (ii_ 0), some (ii_ 0), some (ii_ z37), some (ii_ (h 1 6))]) (pc := 154) dX5_part_154 (by decide) rfl rfl ?_
            refine pw_aload_n (z := 3) (pc := 156) dX5_part_156 rfl rfl ?_
            refine pw_getR (r := 1) (pc := 157) dX5_part_157 fX5_17 (hC 3 (by decide)) (show kd_ 3 = 15 by decide +kernel) rfl (by decide +kernel) ?_
            refine pw_callV (c := 8) (o := 1) (As := []) (rest := []) (pc := 160) dX5_part_160 (d_step hC h tp n HB.2.2.2.2.2.1 (a + 1) HB.2.2.2.2.2.2.1) lX5_111 mX8_step vX8_step (hC 1 (by decide)) (show kd_ 1 = 18 by decide +kernel) rfl rfl rfl (by constructor <;> simp only [rm_] <;> omega) ⟨Nat.zero_le _, Nat.zero_le _⟩ (Nat.le_of_ble_eq_true rfl) (k_v (fun h160 q160 => ?_))
            obtain ⟨f160, k160, p160⟩ := q160
            obtain ⟨HS, FS⟩ := CPO_st H f160 k160 p160
            have XS : XFR_ o h h160 := XFR_3 ho FS (by simp)
            have ES : EXC_ tp n o fj h160 (a + 1) := EXC_mv E XS HS (by rw [f160 (o + 8) (by simp)]; omega)
            have hl_h160 : h160 3 1 = (o : Int) := by rw [XS.2.1 1 (by decide)]; exact E.2.1
            have tne : (tk_ tp n a).1 ≠ 0 := by
              unfold bgs_ at bg
              rcases bg with u | u | u | u
              · intro e; rw [F3b (by rw [e]; decide)] at u; omega
              · rw [u]; decide
              · rw [u.1]; decide
              · rw [u.1]; decide
            have an := tk_lt HB.1.1 tne
            refine pw_iload_n (z := 0) (pc := 163) dX5_part_163 rfl rfl ?_
            refine pw_if_eq (t := 179) (pc := 164) dX5_part_164 (by decide) (by first | omega) (fun _ => ?_) (fun c164 => absurd c164 (by decide))
            refine pw_aload_n (z := 3) (pc := 179) dX5_part_179 rfl rfl ?_
            refine pw_gD (x := 1) (r := o) (pc := 180) dX5_part_180 fX5_94 (hC 3 (by decide)) (show kd_ 3 = 15 by decide +kernel) rfl rfl hl_h160 ?_
            refine pw_getR (r := (o + 8)) (pc := 183) dX5_part_183 fX5_231 (hC _ (by omega)) (kd6_0 ho) rfl rfl ?_
            refine pw_iload (z := h 1 6) (pc := 186) dX5_part_186 rfl ?_
            refine pw_callV (c := 2) (o := (o + 8)) (As := [ii_ (h 1 6)]) (rest := []) (pc := 188) dX5_part_188 (d_put2 hC h160 o ho (h 1 6) (by first | omega) (by rw [f160 (o + 8) (by simp)]; omega)) lX5_252 mX2_put vX2_put (hC _ (by omega)) (kd6_8 ho) rfl rfl rfl ⟨by simp only [rm_]; omega, by simp only [rm_]; omega⟩ ⟨Nat.zero_le _, Nat.zero_le _⟩ (Nat.le_of_ble_eq_true rfl) (k_v (fun h188 q188 => ?_))
            obtain ⟨f188, x188, n188, k188⟩ := q188
            refine pw_iconst (pc := 191) dX5_part_191 ?_
            exact pw_zret (pc := 192) dX5_part_192 (by first | omega) (by
                      first
                      | (exfalso; omega)
                      | (refine ⟨XFR_tr XS (XFR_p ho f188 n188), Or.inl ⟨rfl, ([(1, (tk_ tp n a).2.2.1)], a + 1), ?_, (CPO_mv HS (f188 1 (by simp)) (f188 2 (by simp)) (by rw [f188 3 (by simp)])), by show ((a + 1 : Nat) : Int) ≤ n; omega, ⟨by show 1 + a ≤ a + 1; omega, by show a < a + 1; omega⟩, ?_, ?_⟩⟩
                         · rw [prt_s, if_t bg, if_f (fun u => c10 (i19.mpr u)), if_f p25, if_t t2]
                         · rw [x188, f160 (o + 8) (by simp)]; rfl
                         · rw [k188, f160 (o + 8) (by simp), f160 (o + 9) (by simp), v2]; show _ = ob_ _ _ (cnv_ _); rw [cnv_1]))
        · exfalso; omega
      · refine pw_aload_n (z := 3) (pc := 56) dX5_part_56 rfl rfl ?_
        refine pw_getR (r := 1) (pc := 57) dX5_part_57 fX5_17 (hC 3 (by decide)) (show kd_ 3 = 15 by decide +kernel) rfl (by decide +kernel) ?_
        refine pw_gI (x := 3) (pc := 60) dX5_part_60 fX5_34 (hC 1 (by decide)) (show kd_ 1 = 18 by decide +kernel) rfl rfl (fun r60 => ?_)
        refine pw_iconst (pc := 63) dX5_part_63 ?_
        refine pw_icmp_eq (t := 73) (pc := 64) dX5_part_64 (by decide) (by first | omega) (by first | omega) (fun c64 => ?_) (fun c64 => ?_)
        · have bg : bgs_ (tk_ tp n a) f m := by
            unfold bgs_
            first
            | exact Or.inr (Or.inr (Or.inr (i19.mp c10)))
            | exact Or.inr (Or.inr (Or.inl p25))
            | exact Or.inr (Or.inl (kk.2.1.mp (by omega)))
            | exact Or.inl (by omega)
          refine pw_iload_n (z := v) (pc := 73) dX5_part_73 rfl rfl ?_
          refine pw_iconst (pc := 74) dX5_part_74 ?_
          refine pw_icmp_lt (t := 84) (pc := 75) dX5_part_75 (by decide) (by first | omega) (by first | omega) (fun c75 => ?_) (fun c75 => ?_)
          · refine pw_iload_n (z := 0) (pc := 84) dX5_part_84 rfl rfl ?_
            refine pw_if_eq (t := 121) (pc := 85) dX5_part_85 (by decide) (by first | omega) (fun _ => ?_) (fun c85 => absurd c85 (by decide))
            refine pw_iload_n (z := 0) (pc := 121) dX5_part_121 rfl rfl ?_
            refine pw_if_eq (t := 131) (pc := 122) dX5_part_122 (by decide) (by first | omega) (fun _ => ?_) (fun c122 => absurd c122 (by decide))
            refine pw_iload (z := z37) (pc := 131) dX5_part_131 rfl ?_
            refine pw_iconst (pc := 133) dX5_part_133 ?_
            refine pw_icmp_ne (t := 148) (pc := 134) dX5_part_134 (by decide) (by first | omega) (by first | omega) (fun c134 => ?_) (fun c134 => ?_)
            · refine pw_sipush (pc := 148) dX5_part_148 rfl ?_
              refine pw_iload (z := z37) (pc := 151) dX5_part_151 rfl ?_
              refine pw_iadd (pc := 153) dX5_part_153 ?_
              refine pw_istore (lv1 := [some (rr_ G 3), some (ii_ v), some (ii_ 0), some (ii_ 0), some (ii_ z37), some (ii_ (10000 + z37))]) (pc := 154) dX5_part_154 (by decide) rfl rfl ?_
              refine pw_aload_n (z := 3) (pc := 156) dX5_part_156 rfl rfl ?_
              refine pw_getR (r := 1) (pc := 157) dX5_part_157 fX5_17 (hC 3 (by decide)) (show kd_ 3 = 15 by decide +kernel) rfl (by decide +kernel) ?_
              refine pw_callV (c := 8) (o := 1) (As := []) (rest := []) (pc := 160) dX5_part_160 (d_step hC h tp n HB.2.2.2.2.2.1 (a + 1) HB.2.2.2.2.2.2.1) lX5_111 mX8_step vX8_step (hC 1 (by decide)) (show kd_ 1 = 18 by decide +kernel) rfl rfl rfl (by constructor <;> simp only [rm_] <;> omega) ⟨Nat.zero_le _, Nat.zero_le _⟩ (Nat.le_of_ble_eq_true rfl) (k_v (fun h160 q160 => ?_))
              obtain ⟨f160, k160, p160⟩ := q160
              obtain ⟨HS, FS⟩ := CPO_st H f160 k160 p160
              have XS : XFR_ o h h160 := XFR_3 ho FS (by simp)
              have ES : EXC_ tp n o fj h160 (a + 1) := EXC_mv E XS HS (by rw [f160 (o + 8) (by simp)]; omega)
              have hl_h160 : h160 3 1 = (o : Int) := by rw [XS.2.1 1 (by decide)]; exact E.2.1
              have tne : (tk_ tp n a).1 ≠ 0 := by
                unfold bgs_ at bg
                rcases bg with u | u | u | u
                · intro e; rw [F3b (by rw [e]; decide)] at u; omega
                · rw [u]; decide
                · rw [u.1]; decide
                · rw [u.1]; decide
              have an := tk_lt HB.1.1 tne
              refine pw_iload_n (z := 0) (pc := 163) dX5_part_163 rfl rfl ?_
              refine pw_if_eq (t := 179) (pc := 164) dX5_part_164 (by decide) (by first | omega) (fun _ => ?_) (fun c164 => absurd c164 (by decide))
              refine pw_aload_n (z := 3) (pc := 179) dX5_part_179 rfl rfl ?_
              refine pw_gD (x := 1) (r := o) (pc := 180) dX5_part_180 fX5_94 (hC 3 (by decide)) (show kd_ 3 = 15 by decide +kernel) rfl rfl hl_h160 ?_
              refine pw_getR (r := (o + 8)) (pc := 183) dX5_part_183 fX5_231 (hC _ (by omega)) (kd6_0 ho) rfl rfl ?_
              refine pw_iload (z := 10000 + z37) (pc := 186) dX5_part_186 rfl ?_
              refine pw_callV (c := 2) (o := (o + 8)) (As := [ii_ (10000 + z37)]) (rest := []) (pc := 188) dX5_part_188 (d_put2 hC h160 o ho (10000 + z37) (by first | omega) (by rw [f160 (o + 8) (by simp)]; omega)) lX5_252 mX2_put vX2_put (hC _ (by omega)) (kd6_8 ho) rfl rfl rfl ⟨by simp only [rm_]; omega, by simp only [rm_]; omega⟩ ⟨Nat.zero_le _, Nat.zero_le _⟩ (Nat.le_of_ble_eq_true rfl) (k_v (fun h188 q188 => ?_))
              obtain ⟨f188, x188, n188, k188⟩ := q188
              refine pw_iconst (pc := 191) dX5_part_191 ?_
              exact pw_zret (pc := 192) dX5_part_192 (by first | omega) (by
                        first
                        | (exfalso; omega)
                        | (refine ⟨XFR_tr XS (XFR_p ho f188 n188), Or.inl ⟨rfl, ([(2, fcw_ (tk_ tp n a) f m)], a + 1), ?_, (CPO_mv HS (f188 1 (by simp)) (f188 2 (by simp)) (by rw [f188 3 (by simp)])), by show ((a + 1 : Nat) : Int) ≤ n; omega, ⟨by show 1 + a ≤ a + 1; omega, by show a < a + 1; omega⟩, ?_, ?_⟩⟩
                           · rw [prt_s, if_t bg, if_f (fun u => c10 (i19.mpr u)), if_f p25, if_f (fun u => by have := F3b (by rw [u]; decide); omega)]
                           · rw [x188, f160 (o + 8) (by simp)]; rfl
                           · rw [k188, f160 (o + 8) (by simp), f160 (o + 9) (by simp), w37]; show _ = ob_ _ _ (cnv_ _); rw [cnv_2]))
            · have t2 : (tk_ tp n a).1 = 2 := by first | exact kk.2.1.mp c64 | (exfalso; omega)
              have v2 := HB.2.2.2.2.1.2.2.2 (Or.inl t2)
              have b2 := (HB.2.2.2.1 a).2 t2
              refine pw_aload_n (z := 3) (pc := 137) dX5_part_137 rfl rfl ?_
              refine pw_getR (r := 1) (pc := 138) dX5_part_138 fX5_17 (hC 3 (by decide)) (show kd_ 3 = 15 by decide +kernel) rfl (by decide +kernel) ?_
              refine pw_gJ (x := 6) (pc := 141) dX5_part_141 fX5_114 (hC 1 (by decide)) (show kd_ 1 = 18 by decide +kernel) rfl rfl (fun r141 => ?_)
              refine pw_l2i (pc := 144) dX5_part_144 ?_
              refine pw_goto (t := 154) (pc := 145) dX5_part_145 (by decide) ?_
              refine pw_istore (lv1 := [some (rr_ G 3), some (ii_ v), some (ii_ 0), some (ii_ 0), some (ii_ z37), some (ii_ (h 1 6))]) (pc := 154) dX5_part_154 (by decide) rfl rfl ?_
              refine pw_aload_n (z := 3) (pc := 156) dX5_part_156 rfl rfl ?_
              refine pw_getR (r := 1) (pc := 157) dX5_part_157 fX5_17 (hC 3 (by decide)) (show kd_ 3 = 15 by decide +kernel) rfl (by decide +kernel) ?_
              refine pw_callV (c := 8) (o := 1) (As := []) (rest := []) (pc := 160) dX5_part_160 (d_step hC h tp n HB.2.2.2.2.2.1 (a + 1) HB.2.2.2.2.2.2.1) lX5_111 mX8_step vX8_step (hC 1 (by decide)) (show kd_ 1 = 18 by decide +kernel) rfl rfl rfl (by constructor <;> simp only [rm_] <;> omega) ⟨Nat.zero_le _, Nat.zero_le _⟩ (Nat.le_of_ble_eq_true rfl) (k_v (fun h160 q160 => ?_))
              obtain ⟨f160, k160, p160⟩ := q160
              obtain ⟨HS, FS⟩ := CPO_st H f160 k160 p160
              have XS : XFR_ o h h160 := XFR_3 ho FS (by simp)
              have ES : EXC_ tp n o fj h160 (a + 1) := EXC_mv E XS HS (by rw [f160 (o + 8) (by simp)]; omega)
              have hl_h160 : h160 3 1 = (o : Int) := by rw [XS.2.1 1 (by decide)]; exact E.2.1
              have tne : (tk_ tp n a).1 ≠ 0 := by
                unfold bgs_ at bg
                rcases bg with u | u | u | u
                · intro e; rw [F3b (by rw [e]; decide)] at u; omega
                · rw [u]; decide
                · rw [u.1]; decide
                · rw [u.1]; decide
              have an := tk_lt HB.1.1 tne
              refine pw_iload_n (z := 0) (pc := 163) dX5_part_163 rfl rfl ?_
              refine pw_if_eq (t := 179) (pc := 164) dX5_part_164 (by decide) (by first | omega) (fun _ => ?_) (fun c164 => absurd c164 (by decide))
              refine pw_aload_n (z := 3) (pc := 179) dX5_part_179 rfl rfl ?_
              refine pw_gD (x := 1) (r := o) (pc := 180) dX5_part_180 fX5_94 (hC 3 (by decide)) (show kd_ 3 = 15 by decide +kernel) rfl rfl hl_h160 ?_
              refine pw_getR (r := (o + 8)) (pc := 183) dX5_part_183 fX5_231 (hC _ (by omega)) (kd6_0 ho) rfl rfl ?_
              refine pw_iload (z := h 1 6) (pc := 186) dX5_part_186 rfl ?_
              refine pw_callV (c := 2) (o := (o + 8)) (As := [ii_ (h 1 6)]) (rest := []) (pc := 188) dX5_part_188 (d_put2 hC h160 o ho (h 1 6) (by first | omega) (by rw [f160 (o + 8) (by simp)]; omega)) lX5_252 mX2_put vX2_put (hC _ (by omega)) (kd6_8 ho) rfl rfl rfl ⟨by simp only [rm_]; omega, by simp only [rm_]; omega⟩ ⟨Nat.zero_le _, Nat.zero_le _⟩ (Nat.le_of_ble_eq_true rfl) (k_v (fun h188 q188 => ?_))
              obtain ⟨f188, x188, n188, k188⟩ := q188
              refine pw_iconst (pc := 191) dX5_part_191 ?_
              exact pw_zret (pc := 192) dX5_part_192 (by first | omega) (by
                        first
                        | (exfalso; omega)
                        | (refine ⟨XFR_tr XS (XFR_p ho f188 n188), Or.inl ⟨rfl, ([(1, (tk_ tp n a).2.2.1)], a + 1), ?_, (CPO_mv HS (f188 1 (by simp)) (f188 2 (by simp)) (by rw [f188 3 (by simp)])), by show ((a + 1 : Nat) : Int) ≤ n; omega, ⟨by show 1 + a ≤ a + 1; omega, by show a < a + 1; omega⟩, ?_, ?_⟩⟩
                           · rw [prt_s, if_t bg, if_f (fun u => c10 (i19.mpr u)), if_f p25, if_t t2]
                           · rw [x188, f160 (o + 8) (by simp)]; rfl
                           · rw [k188, f160 (o + 8) (by simp), f160 (o + 9) (by simp), v2]; show _ = ob_ _ _ (cnv_ _); rw [cnv_1]))
          · exfalso; omega
        · refine pw_aload_n (z := 3) (pc := 67) dX5_part_67 rfl rfl ?_
          refine pw_iconst (pc := 68) dX5_part_68 ?_
          refine pw_callV (c := 5) (o := 3) (As := [ii_ 1]) (rest := []) (pc := 69) dX5_part_69 (d_wrong hC h tp n a H 1 (by first | omega)) lX5_70 mX5_wrong vX5_wrong (hC 3 (by decide)) (show kd_ 3 = 15 by decide +kernel) rfl rfl rfl (by constructor <;> simp only [rm_] <;> omega) ⟨Nat.zero_le _, Nat.zero_le _⟩ (Nat.le_of_ble_eq_true rfl) (k_i (fun z69 h69 y69 q69 => ?_))
          obtain ⟨f69, x69, rfl⟩ := q69
          have fp69 := flt_p (tp := tp) (a := a) HB.1 (w := 1) (by omega)
          exact pw_zret (pc := 72) dX5_part_72 (by first | omega) (⟨XFR_3 ho f69 (by simp), Or.inr ⟨rfl, _, by rw [prt_s, if_f (fun u => by
                      unfold bgs_ at u
                      rcases u with u | u | u | u
                      · omega
                      · exact c64 (kk.2.1.mpr u)
                      · exact p25 u
                      · exact c10 (i19.mpr u))], x69, fp69.1⟩⟩)
  · refine pw_iconst (pc := 13) dX5_part_13 ?_
    refine pw_goto (t := 18) (pc := 14) dX5_part_14 (by decide) ?_
    refine pw_istore_n (lv1 := [some (rr_ G 3), some (ii_ v), some (ii_ 1), none, none, none]) (pc := 18) dX5_part_18 rfl (by decide) rfl rfl ?_
    refine pw_aload_n (z := 3) (pc := 19) dX5_part_19 rfl rfl ?_
    refine pw_getR (r := 1) (pc := 20) dX5_part_20 fX5_17 (hC 3 (by decide)) (show kd_ 3 = 15 by decide +kernel) rfl (by decide +kernel) ?_
    refine pw_bipush (pc := 23) dX5_part_23 rfl ?_
    refine pw_callV (c := 8) (o := 1) (As := [ii_ 40]) (rest := []) (pc := 25) dX5_part_25 (d_isSign hC h (tk_ tp n a) HB.2.2.2.2.1 40 (by first | omega)) lX5_107 mX8_isSign vX8_isSign (hC 1 (by decide)) (show kd_ 1 = 18 by decide +kernel) rfl rfl rfl (by constructor <;> simp only [rm_] <;> omega) ⟨Nat.zero_le _, Nat.zero_le _⟩ (Nat.le_of_ble_eq_true rfl) (k_i (fun z25 h25 y25 q25 => ?_))
    obtain ⟨rfl, ⟨rfl, p25⟩ | ⟨rfl, p25⟩⟩ := q25
    · refine pw_istore_n (lv1 := [some (rr_ G 3), some (ii_ v), some (ii_ 1), some (ii_ 1), none, none]) (pc := 28) dX5_part_28 rfl (by decide) rfl rfl ?_
      exact (isSW p25 (i19.mp c10)).elim
    · refine pw_istore_n (lv1 := [some (rr_ G 3), some (ii_ v), some (ii_ 1), some (ii_ 0), none, none]) (pc := 28) dX5_part_28 rfl (by decide) rfl rfl ?_
      refine pw_aload_n (z := 3) (pc := 29) dX5_part_29 rfl rfl ?_
      refine pw_getR (r := 1) (pc := 30) dX5_part_30 fX5_17 (hC 3 (by decide)) (show kd_ 3 = 15 by decide +kernel) rfl (by decide +kernel) ?_
      refine pw_aload_n (z := 3) (pc := 33) dX5_part_33 rfl rfl ?_
      refine pw_gD (x := 2) (r := (3000 + fj)) (pc := 34) dX5_part_34 fX5_11 (hC 3 (by decide)) (show kd_ 3 = 15 by decide +kernel) rfl rfl hs_h ?_
      refine pw_callV (c := 8) (o := 1) (As := [rr_ G (3000 + fj)]) (rest := []) (pc := 37) dX5_part_37 (d_wordAmong hC h fj F1.2 F1.1 (tk_ tp n a) HB.2.2.2.2.1 (CPO_lk H)) lX5_42 mX8_wordAmong vX8_wordAmong (hC 1 (by decide)) (show kd_ 1 = 18 by decide +kernel) rfl rfl rfl (by constructor <;> simp only [rm_] <;> omega) ⟨Nat.zero_le _, Nat.zero_le _⟩ (Nat.le_of_ble_eq_true rfl) (k_i (fun z37 h37 y37 q37 => ?_))
      obtain ⟨rfl, w37⟩ := q37
      rw [F3, ixn_f F2] at w37
      refine pw_istore (lv1 := [some (rr_ G 3), some (ii_ v), some (ii_ 1), some (ii_ 0), some (ii_ z37), none]) (pc := 40) dX5_part_40 (by decide) rfl rfl ?_
      refine pw_iload_n (z := 1) (pc := 42) dX5_part_42 rfl rfl ?_
      refine pw_if_ne (t := 73) (pc := 43) dX5_part_43 (by decide) (by first | omega) (fun _ => ?_) (fun c43 => absurd c43 (by decide))
      have bg : bgs_ (tk_ tp n a) f m := by
        unfold bgs_
        first
        | exact Or.inr (Or.inr (Or.inr (i19.mp c10)))
        | exact Or.inr (Or.inr (Or.inl p25))
        | exact Or.inr (Or.inl (kk.2.1.mp (by omega)))
        | exact Or.inl (by omega)
      refine pw_iload_n (z := v) (pc := 73) dX5_part_73 rfl rfl ?_
      refine pw_iconst (pc := 74) dX5_part_74 ?_
      refine pw_icmp_lt (t := 84) (pc := 75) dX5_part_75 (by decide) (by first | omega) (by first | omega) (fun c75 => ?_) (fun c75 => ?_)
      · refine pw_iload_n (z := 0) (pc := 84) dX5_part_84 rfl rfl ?_
        refine pw_if_eq (t := 121) (pc := 85) dX5_part_85 (by decide) (by first | omega) (fun _ => ?_) (fun c85 => absurd c85 (by decide))
        refine pw_iload_n (z := 1) (pc := 121) dX5_part_121 rfl rfl ?_
        refine pw_if_eq (t := 131) (pc := 122) dX5_part_122 (by decide) (by first | omega) (fun c122 => absurd c122 (by decide)) (fun _ => ?_)
        refine pw_sipush (pc := 125) dX5_part_125 rfl ?_
        refine pw_goto (t := 154) (pc := 128) dX5_part_128 (by decide) ?_
        refine pw_istore (lv1 := [some (rr_ G 3), some (ii_ v), some (ii_ 1), some (ii_ 0), some (ii_ z37), some (ii_ 20000)]) (pc := 154) dX5_part_154 (by decide) rfl rfl ?_
        refine pw_aload_n (z := 3) (pc := 156) dX5_part_156 rfl rfl ?_
        refine pw_getR (r := 1) (pc := 157) dX5_part_157 fX5_17 (hC 3 (by decide)) (show kd_ 3 = 15 by decide +kernel) rfl (by decide +kernel) ?_
        refine pw_callV (c := 8) (o := 1) (As := []) (rest := []) (pc := 160) dX5_part_160 (d_step hC h tp n HB.2.2.2.2.2.1 (a + 1) HB.2.2.2.2.2.2.1) lX5_111 mX8_step vX8_step (hC 1 (by decide)) (show kd_ 1 = 18 by decide +kernel) rfl rfl rfl (by constructor <;> simp only [rm_] <;> omega) ⟨Nat.zero_le _, Nat.zero_le _⟩ (Nat.le_of_ble_eq_true rfl) (k_v (fun h160 q160 => ?_))
        obtain ⟨f160, k160, p160⟩ := q160
        obtain ⟨HS, FS⟩ := CPO_st H f160 k160 p160
        have XS : XFR_ o h h160 := XFR_3 ho FS (by simp)
        have ES : EXC_ tp n o fj h160 (a + 1) := EXC_mv E XS HS (by rw [f160 (o + 8) (by simp)]; omega)
        have hl_h160 : h160 3 1 = (o : Int) := by rw [XS.2.1 1 (by decide)]; exact E.2.1
        have tne : (tk_ tp n a).1 ≠ 0 := by
          unfold bgs_ at bg
          rcases bg with u | u | u | u
          · intro e; rw [F3b (by rw [e]; decide)] at u; omega
          · rw [u]; decide
          · rw [u.1]; decide
          · rw [u.1]; decide
        have an := tk_lt HB.1.1 tne
        refine pw_iload_n (z := 1) (pc := 163) dX5_part_163 rfl rfl ?_
        refine pw_if_eq (t := 179) (pc := 164) dX5_part_164 (by decide) (by first | omega) (fun c164 => absurd c164 (by decide)) (fun _ => ?_)
        refine pw_aload_n (z := 3) (pc := 167) dX5_part_167 rfl rfl ?_
        refine pw_iload_n (z := v) (pc := 168) dX5_part_168 rfl rfl ?_
        refine pw_iconst (pc := 169) dX5_part_169 ?_
        refine pw_iadd (pc := 170) dX5_part_170 ?_
        refine pw_callV (c := 5) (o := 3) (As := [ii_ (v + 1)]) (rest := []) (pc := 171) dX5_part_171 (IHp h160 (a + 1) (v + 1) (by first | omega) ES) lX5_245 mX5_part vX5_part (hC 3 (by decide)) (show kd_ 3 = 15 by decide +kernel) rfl rfl rfl ⟨by simp only [rm_]; omega, by simp only [rm_]; omega⟩ ⟨Nat.zero_le _, Nat.zero_le _⟩ (Nat.le_of_ble_eq_true rfl) (k_i (fun z171 h171 y171 q171 => ?_))
        obtain ⟨f171, ⟨rfl, p171⟩ | ⟨rfl, p171⟩⟩ := q171
        · obtain ⟨q, g171⟩ := p171
          have T171 := g171.2.2.2.1
          have N171 := g171.2.2.1
          have L171 := g171.2.2.2.2.1
          rw [f160 (o + 8) (by simp)] at L171
          have hl_h171 : h171 3 1 = (o : Int) := by rw [f171.2.1 1 (by decide)]; exact hl_h160
          refine pw_if_ne (t := 179) (pc := 174) dX5_part_174 (by decide) (by first | omega) (fun _ => ?_) (fun c174 => absurd c174 (by decide))
          refine pw_aload_n (z := 3) (pc := 179) dX5_part_179 rfl rfl ?_
          refine pw_gD (x := 1) (r := o) (pc := 180) dX5_part_180 fX5_94 (hC 3 (by decide)) (show kd_ 3 = 15 by decide +kernel) rfl rfl hl_h171 ?_
          refine pw_getR (r := (o + 8)) (pc := 183) dX5_part_183 fX5_231 (hC _ (by omega)) (kd6_0 ho) rfl rfl ?_
          refine pw_iload (z := 20000) (pc := 186) dX5_part_186 rfl ?_
          refine pw_callV (c := 2) (o := (o + 8)) (As := [ii_ 20000]) (rest := []) (pc := 188) dX5_part_188 (d_put2 hC h171 o ho (20000) (by first | omega) (by first | omega)) lX5_252 mX2_put vX2_put (hC _ (by omega)) (kd6_8 ho) rfl rfl rfl ⟨by simp only [rm_]; omega, by simp only [rm_]; omega⟩ ⟨Nat.zero_le _, Nat.zero_le _⟩ (Nat.le_of_ble_eq_true rfl) (k_v (fun h188 q188 => ?_))
          obtain ⟨f188, x188, n188, k188⟩ := q188
          refine pw_iconst (pc := 191) dX5_part_191 ?_
          exact pw_zret (pc := 192) dX5_part_192 (by first | omega) (by
                    refine ⟨XFR_tr XS (XFR_tr f171 (XFR_p ho f188 n188)), Or.inl ⟨rfl, (q.1 ++ [(3, 0)], q.2), ?_, (CPO_mv g171.2.1 (f188 1 (by simp)) (f188 2 (by simp)) (by rw [f188 3 (by simp)])), N171, ?_, ?_, ?_⟩⟩
                    · rw [prt_s, if_t bg, if_t (i19.mp c10)]; exact pnt_o g171.1
                    · show (q.1 ++ [(3, 0)]).length + a ≤ q.2 ∧ a < q.2
                      rw [List.length_append]; show q.1.length + 1 + a ≤ q.2 ∧ _; omega
                    · show _ = _ + (((q.1 ++ [(3, 0)]).length : Nat) : Int)
                      rw [x188, L171, List.length_append]; show _ = _ + ((q.1.length + 1 : Nat) : Int); omega
                    · show _ = wrc_ _ _ (q.1 ++ [(3, 0)])
                      rw [wrc_a, wrc_1, k188, g171.2.2.2.2.2, L171, f160 (o + 8) (by simp), f160 (o + 9) (by simp)]; rfl)
        · refine pw_if_ne (t := 179) (pc := 174) dX5_part_174 (by decide) (by first | omega) (fun c174 => absurd c174 (by decide)) (fun _ => ?_)
          refine pw_iconst (pc := 177) dX5_part_177 ?_
          exact pw_zret (pc := 178) dX5_part_178 (by first | omega) (⟨XFR_tr XS f171, Or.inr ⟨rfl, by obtain ⟨e, e1, e2⟩ := p171; exact ⟨e, by rw [prt_s, if_t bg, if_t (i19.mp c10)]; exact pnt_e e1, e2⟩⟩⟩)
      · exfalso; omega

theorem d_all {G : GT_} (hC : okC_ G) (tp : Int → Int) (n : Int) (o fj f m : Nat) (ho : is6_ o) (hF : FJ_ fj f m) (d : Nat) : d ≤ 5 → kpar_ G tp n o fj f m d ∧ kexp_ G tp n o fj f m d 0 := by
  have up : ∀ d, kpar_ G tp n o fj f m d → kexp_ G tp n o fj f m d 0 := fun d ih => by
    have e4 : kexp_ G tp n o fj f m d 4 := fun h a v w hv hw E => d_exp4 hC h tp n o fj f m ho hF d ih 4 rfl a v w hv hw E
    have e3 : kexp_ G tp n o fj f m d 3 := fun h a v w hv hw E => d_expS hC h tp n o fj f m ho hF d 3 (by decide) e4 a v w hv hw E
    have e2 : kexp_ G tp n o fj f m d 2 := fun h a v w hv hw E => d_expS hC h tp n o fj f m ho hF d 2 (by decide) e3 a v w hv hw E
    have e1 : kexp_ G tp n o fj f m d 1 := fun h a v w hv hw E => d_expS hC h tp n o fj f m ho hF d 1 (by decide) e2 a v w hv hw E
    exact fun h a v w hv hw E => d_expS hC h tp n o fj f m ho hF d 0 (by decide) e1 a v w hv hw E
  induction d with
  | zero =>
    intro _
    have p : kpar_ G tp n o fj f m 0 := fun h a v hv E => d_part0 hC h tp n o fj f m ho hF a v hv E
    exact ⟨p, up 0 p⟩
  | succ d ih =>
    intro hd
    have i := ih (by omega)
    have p : kpar_ G tp n o fj f m (d + 1) := fun h a v hv E => d_partS hC h tp n o fj f m ho hF d (by omega) i.1 i.2 a v hv E
    exact ⟨p, up (d + 1) p⟩

