def LWF_ (o : Nat) (h h' : PH_) : Prop := off_ [1, 3, o + 8, o + 9, o + 12, o + 13] h h' ∧ (∀ k, k ≠ 2 → k ≠ 3 → h' 3 k = h 3 k) ∧ h' 1 2 = h 1 2 ∧ (∀ k, k ≠ 3 → h' (o + 8) k = h (o + 8) k)
def LWR_ (tp : Int → Int) (n : Int) (o f m : Nat) (h : PH_) (a : Nat) (ix z : Int) (h' : PH_) : Prop := (z = 1 ∧ ∃ q, lwe_ (tk_ tp n) f m a = .ok q ∧ isS_ (tk_ tp n q.2) 59 ∧ CPO_ tp n h' (q.2 + 1) ∧ (q.2 : Int) + 1 ≤ n ∧ (q.1.length + a ≤ q.2 ∧ a < q.2) ∧ h' (o + 8) 3 = h (o + 8) 3 + q.1.length ∧ h' (o + 9) = wrc_ (h (o + 9)) (h (o + 8) 3) q.1 ∧ h' (o + 12) = ob_ (h (o + 12)) ix (h (o + 8) 3) ∧ h' (o + 13) = ob_ (h (o + 13)) ix (h (o + 8) 3 + q.1.length)) ∨ (z = 0 ∧ ∃ e, (lwe_ (tk_ tp n) f m a = .error e ∨ ∃ q, lwe_ (tk_ tp n) f m a = .ok q ∧ tks2_ (tk_ tp n) 59 q.2 = .error e) ∧ h' 3 3 = e ∧ 0 < e)
/-- a new name is written down -/
def CNW_ (tp : Int → Int) (n : Int) (o : Nat) (h : PH_) (a : Nat) (pl : Int) (X : RE_ NM_) (z : Int) (h' : PH_) : Prop := (z = 1 ∧ ∃ nm, X = .ok nm ∧ CPO_ tp n h' (a + 1) ∧ (a : Int) + 1 ≤ n ∧ h' (o + 2) = ob_ (h (o + 2)) pl (enc_ 27 (tk_ tp n a).2.2.2)) ∨ (z = 0 ∧ ∃ e, X = .error e ∧ h' 3 3 = e ∧ 0 < e)

set_option maxHeartbeats 4000000 in
set_option maxRecDepth 100000 in
theorem d_rbegin {G : GT_} (hC : okC_ G) (h : PH_) (o : Nat) (ho : is6_ o) (tp : Int → Int) (n : Int) (H : CTP_ tp n h) : PC G yX5_begin cX5_begin 2 none 7 [rr_ G 3, rr_ G o] h (qv_ (fun h' => off_ [1, 3] h h' ∧ (∀ k, k ≠ 1 → k ≠ 3 → h' 3 k = h 3 k) ∧ h' 3 1 = (o : Int) ∧ CPO_ tp n h' 0)) := by
  refine PC.of (lv := [some (rr_ G 3), some (rr_ G o)]) (by decide +kernel) (Nat.le_of_ble_eq_true rfl) rfl rfl ?_
  refine pw_aload_n (z := 3) (pc := 0) dX5_begin_0 rfl rfl ?_
  refine pw_aload_n (z := o) (pc := 1) dX5_begin_1 rfl rfl ?_
  refine pw_pD (x := 1) (nm := "MiddleSeat$Road") (pc := 2) dX5_begin_2 fX5_94 (hC 3 (by decide)) (show kd_ 3 = 15 by decide +kernel) rfl rfl (by decide +kernel) (by first | omega) ?_
  obtain ⟨g2, e2⟩ : ∃ x, x = up_ h 3 1 ((o : Nat) : Int) := ⟨_, rfl⟩
  refine pw_heq e2 ?_
  refine pw_aload_n (z := 3) (pc := 5) dX5_begin_5 rfl rfl ?_
  refine pw_iconst (pc := 6) dX5_begin_6 ?_
  refine pw_pI (x := 3) (pc := 7) dX5_begin_7 fX5_75 (hC 3 (by decide)) (show kd_ 3 = 15 by decide +kernel) rfl rfl (by first | omega) ?_
  obtain ⟨g7, e7⟩ : ∃ x, x = up_ g2 3 3 0 := ⟨_, rfl⟩
  refine pw_heq e7 ?_
  refine pw_aload_n (z := 3) (pc := 10) dX5_begin_10 rfl rfl ?_
  refine pw_getR (r := 1) (pc := 11) dX5_begin_11 fX5_17 (hC 3 (by decide)) (show kd_ 3 = 15 by decide +kernel) rfl (by decide +kernel) ?_
  refine pw_callV (c := 8) (o := 1) (As := []) (rest := []) (pc := 14) dX5_begin_14 (d_rewind hC g7 tp n (CTP_mv H (by rw [e7, up_off (by decide), e2, up_off (by decide)]) (by rw [e7, up_off (by decide), e2, up_off (by decide)]))) lX5_98 mX8_rewind vX8_rewind (hC 1 (by decide)) (show kd_ 1 = 18 by decide +kernel) rfl rfl rfl (by decide) ⟨Nat.zero_le _, Nat.zero_le _⟩ (Nat.le_of_ble_eq_true rfl) (k_v (fun h14 q14 => ?_))
  obtain ⟨f14, k14⟩ := q14
  exact pw_vret (pc := 17) dX5_begin_17 (by
            have a3 : ∀ k, h14 3 k = ob_ (ob_ (h 3) 1 (o : Int)) 3 0 k := fun k => by rw [f14 3 (by decide), e7, up_ob, e2, up_ob]
            refine ⟨off_tr (by rw [e7, e2]; exact off_up (off_up off_rf (by decide)) (by decide)) (off_mo f14 (by decide)), fun k k1 k3 => ?_, ?_, k14, fun b hb => by omega, ?_⟩
            · rw [a3]; unfold ob_; rw [if_neg k3, if_neg k1]
            · rw [a3]; rfl
            · rw [a3]; rfl)

set_option maxHeartbeats 4000000 in
set_option maxRecDepth 100000 in
theorem d_law {G : GT_} (hC : okC_ G) (h : PH_) (tp : Int → Int) (n : Int) (o : Nat) (ho : is6_ o) (a : Nat) (H : CPO_ tp n h a) (hland : h 3 1 = (o : Int)) (fj f m : Nat) (hF : FJ_ fj f m) (ix : Int) (hx : 0 ≤ ix ∧ ix ≤ 4) (EL : 0 ≤ h (o + 8) 3 ∧ h (o + 8) 3 ≤ a) : PC G yX5_law cX5_law 3 (some .boolean) 43 [rr_ G 3, ii_ ix, rr_ G (3000 + fj)] h (qi_ (fun z h' => LWF_ o h h' ∧ LWR_ tp n o f m h a ix z h')) := by
  have HB := CPO_b H
  have hl_h := hland
  have F1 := hF.1
  refine PC.of (lv := [some (rr_ G 3), some (ii_ ix), some (rr_ G (3000 + fj))]) (by decide +kernel) (Nat.le_of_ble_eq_true rfl) rfl rfl ?_
  refine pw_aload_n (z := 3) (pc := 0) dX5_law_0 rfl rfl ?_
  refine pw_aload_n (z := (3000 + fj)) (pc := 1) dX5_law_1 rfl rfl ?_
  refine pw_pD (x := 2) (nm := "java/lang/String") (pc := 2) dX5_law_2 fX5_11 (hC 3 (by decide)) (show kd_ 3 = 15 by decide +kernel) rfl rfl (by decide +kernel) (by first | omega) ?_
  obtain ⟨g2, e2⟩ : ∃ x, x = up_ h 3 2 (((3000 + fj) : Nat) : Int) := ⟨_, rfl⟩
  refine pw_heq e2 ?_
  have hl_g2 : g2 3 1 = (o : Int) := by rw [e2, up_at, if_neg (by decide)]; exact hland
  refine pw_aload_n (z := 3) (pc := 5) dX5_law_5 rfl rfl ?_
  have n_g2_3_1 : g2 3 1 = h 3 1 := (by rw [e2, up_at]; exact if_neg (by decide))
  refine pw_gD (x := 1) (r := o) (pc := 6) dX5_law_6 fX5_94 (hC 3 (by decide)) (show kd_ 3 = 15 by decide +kernel) rfl rfl (n_g2_3_1.trans hl_h) ?_
  refine pw_getR (r := (o + 12)) (pc := 9) dX5_law_9 fX5_228 (hC _ (by omega)) (kd6_0 ho) rfl rfl ?_
  refine pw_iload_n (z := ix) (pc := 12) dX5_law_12 rfl rfl ?_
  refine pw_aload_n (z := 3) (pc := 13) dX5_law_13 rfl rfl ?_
  refine pw_gD (x := 1) (r := o) (pc := 14) dX5_law_14 fX5_94 (hC 3 (by decide)) (show kd_ 3 = 15 by decide +kernel) rfl rfl (n_g2_3_1.trans hl_h) ?_
  refine pw_getR (r := (o + 8)) (pc := 17) dX5_law_17 fX5_231 (hC _ (by omega)) (kd6_0 ho) rfl rfl ?_
  refine pw_gI (x := 3) (pc := 20) dX5_law_20 fX5_234 (hC _ (by omega)) (kd6_8 ho) rfl rfl (fun r20 => ?_)
  have n_g2_o_8_3 : g2 (o + 8) 3 = h (o + 8) 3 := (by rw [e2, up_off (by first | decide | omega)])
  rw [n_g2_o_8_3] at r20 ⊢
  refine pw_iast (pc := 23) dX5_law_23 (hC _ (by omega)) (kd6_12 ho) 5 (ln6_12 ho) (by first | omega | (simp only [n_g2_3_1, n_g2_o_8_3]; omega)) (by first | omega | (simp only [n_g2_3_1, n_g2_o_8_3]; omega)) (by first | omega | (simp only [n_g2_3_1, n_g2_o_8_3]; omega)) (by first | omega | (simp only [n_g2_3_1, n_g2_o_8_3]; omega)) ?_
  obtain ⟨g23, e23⟩ : ∃ x, x = up_ g2 (o + 12) ix (h (o + 8) 3) := ⟨_, rfl⟩
  refine pw_heq e23 ?_
  have H23 : CPO_ tp n g23 a := CPO_mv H (by rw [e23, up_off (by omega), e2, up_off (by decide)]) (by rw [e23, up_off (by omega), e2, up_off (by decide)]) (by rw [e23, up_off (by omega), e2, up_at, if_neg (by decide)])
  have L23 : g23 (o + 8) 3 = h (o + 8) 3 := by rw [e23, up_off (by omega), e2, up_off (by omega)]
  have C23 : g23 (o + 9) = h (o + 9) := by rw [e23, up_off (by omega), e2, up_off (by omega)]
  have E23 : EXC_ tp n o fj g23 a := ⟨H23, by rw [e23, up_off (by omega)]; exact hl_g2, by rw [e23, up_off (by omega), e2, up_same], by rw [L23]; exact EL⟩
  have F23 : LWF_ o h g23 := ⟨by rw [e23, e2]; exact off_up (off_up off_rf (by simp)) (by simp), fun k k2 _ => by rw [e23, up_off (by omega), e2, up_at, if_neg k2], by rw [e23, up_off (by omega), e2, up_off (by decide)], fun k _ => by rw [e23, up_off (by omega), e2, up_off (by omega)]⟩
  refine pw_aload_n (z := 3) (pc := 24) dX5_law_24 rfl rfl ?_
  refine pw_iconst (pc := 25) dX5_law_25 ?_
  refine pw_iconst (pc := 26) dX5_law_26 ?_
  refine pw_callV (c := 5) (o := 3) (As := [ii_ 0, ii_ 0]) (rest := []) (pc := 27) dX5_law_27 ((d_all hC tp n o fj f m ho hF 5 (by first | omega | (simp only [n_g2_3_1, n_g2_o_8_3]; omega))).2 g23 a 0 0 (by first | omega | (simp only [n_g2_3_1, n_g2_o_8_3]; omega)) (by first | omega | (simp only [n_g2_3_1, n_g2_o_8_3]; omega)) E23) lX5_239 mX5_expression vX5_expression (hC 3 (by decide)) (show kd_ 3 = 15 by decide +kernel) rfl rfl rfl (by decide) ⟨Nat.zero_le _, Nat.zero_le _⟩ (Nat.le_of_ble_eq_true rfl) (k_i (fun z27 h27 y27 q27 => ?_))
  obtain ⟨f27, ⟨rfl, p27⟩ | ⟨rfl, p27⟩⟩ := q27
  · obtain ⟨q, g27⟩ := p27
    have T27 := g27.2.2.2.1
    have N27 := g27.2.2.1
    have L27 := g27.2.2.2.2.1
    refine pw_if_ne (t := 35) (pc := 30) dX5_law_30 (by decide) (by first | omega | (simp only [n_g2_3_1, n_g2_o_8_3]; omega)) (fun _ => ?_) (fun c30 => absurd c30 (by decide))
    have hl_h27 : h27 3 1 = (o : Int) := by rw [f27.2.1 1 (by decide)]; exact E23.2.1
    refine pw_aload_n (z := 3) (pc := 35) dX5_law_35 rfl rfl ?_
    refine pw_gD (x := 1) (r := o) (pc := 36) dX5_law_36 fX5_94 (hC 3 (by decide)) (show kd_ 3 = 15 by decide +kernel) rfl rfl hl_h27 ?_
    refine pw_getR (r := (o + 13)) (pc := 39) dX5_law_39 fX5_242 (hC _ (by omega)) (kd6_0 ho) rfl rfl ?_
    refine pw_iload_n (z := ix) (pc := 42) dX5_law_42 rfl rfl ?_
    refine pw_aload_n (z := 3) (pc := 43) dX5_law_43 rfl rfl ?_
    refine pw_gD (x := 1) (r := o) (pc := 44) dX5_law_44 fX5_94 (hC 3 (by decide)) (show kd_ 3 = 15 by decide +kernel) rfl rfl hl_h27 ?_
    refine pw_getR (r := (o + 8)) (pc := 47) dX5_law_47 fX5_231 (hC _ (by omega)) (kd6_0 ho) rfl rfl ?_
    refine pw_gI (x := 3) (pc := 50) dX5_law_50 fX5_234 (hC _ (by omega)) (kd6_8 ho) rfl rfl (fun r50 => ?_)
    refine pw_iast (pc := 53) dX5_law_53 (hC _ (by omega)) (kd6_13 ho) 5 (ln6_13 ho) (by first | omega | (simp only [n_g2_3_1, n_g2_o_8_3]; omega)) (by first | omega | (simp only [n_g2_3_1, n_g2_o_8_3]; omega)) (by first | omega | (simp only [n_g2_3_1, n_g2_o_8_3]; omega)) (by first | omega | (simp only [n_g2_3_1, n_g2_o_8_3]; omega)) ?_
    obtain ⟨g53, e53⟩ : ∃ x, x = up_ h27 (o + 13) ix (h27 (o + 8) 3) := ⟨_, rfl⟩
    refine pw_heq e53 ?_
    have H53 : CPO_ tp n g53 q.2 := CPO_mv g27.2.1 (by rw [e53, up_off (by omega)]) (by rw [e53, up_off (by omega)]) (by rw [e53, up_off (by omega)])
    have F53 : LWF_ o h g53 := ⟨off_tr F23.1 (by rw [e53]; exact off_up (off_mo f27.1 (by simp)) (by simp)), fun k k2 k3 => by rw [e53, up_off (by omega), f27.2.1 k k3]; exact F23.2.1 k k2 k3, by rw [e53, up_off (by omega), f27.2.2.1]; exact F23.2.2.1, fun k k3 => by rw [e53, up_off (by omega), f27.2.2.2 k k3]; exact F23.2.2.2 k k3⟩
    refine pw_aload_n (z := 3) (pc := 54) dX5_law_54 rfl rfl ?_
    refine pw_bipush (pc := 55) dX5_law_55 rfl ?_
    refine pw_callV (c := 5) (o := 3) (As := [ii_ 59]) (rest := []) (pc := 57) dX5_law_57 (d_takeSign hC g53 tp n q.2 H53 59 (by first | omega | (simp only [n_g2_3_1, n_g2_o_8_3]; omega))) lX5_154 mX5_takeSign vX5_takeSign (hC 3 (by decide)) (show kd_ 3 = 15 by decide +kernel) rfl rfl rfl (by decide) ⟨Nat.zero_le _, Nat.zero_le _⟩ (Nat.le_of_ble_eq_true rfl) (k_i (fun z57 h57 y57 q57 => ?_))
    replace q57 := (⟨q57.1, CPR_d q57.2⟩ : _ ∧ _)
    obtain ⟨f57, x57⟩ := q57
    have z01 : z57 = 0 ∨ z57 = 1 := by rcases x57 with x | x <;> omega
    exact pw_zret (pc := 60) dX5_law_60 (by first | omega | (simp only [n_g2_3_1, n_g2_o_8_3]; omega)) (by
              refine ⟨⟨off_tr F53.1 (off_mo f57.1 (by simp)), fun k k2 k3 => by rw [f57.2.1 k (by simpa using k3)]; exact F53.2.1 k k2 k3, by rw [f57.2.2]; exact F53.2.2.1, fun k k3 => by rw [f57.1 (o + 8) (by simp)]; exact F53.2.2.2 k k3⟩, ?_⟩
              rcases x57 with ⟨rfl, b, b1, b2⟩ | ⟨rfl, e, x1, x2⟩
              · obtain ⟨rfl, s⟩ := tks2_o b1
                have bn := tk_lt HB.1.1 (show (tk_ tp n q.2).1 ≠ 0 by rw [s.1]; decide)
                refine Or.inl ⟨rfl, q, g27.1, s, b2, by omega, T27, ?_, ?_, ?_, ?_⟩
                · rw [f57.1 (o + 8) (by simp), e53, up_off (by omega), L27, L23]
                · rw [f57.1 (o + 9) (by simp), e53, up_off (by omega), g27.2.2.2.2.2, L23, C23]
                · rw [f57.1 (o + 12) (by simp), e53, up_off (by omega), f27.1 (o + 12) (by simp), e23, up_ob, e2, up_off (by omega)]
                · rw [f57.1 (o + 13) (by simp), e53, up_ob, L27, L23, f27.1 (o + 13) (by simp), e23, up_off (by omega), e2, up_off (by omega)]
              · exact Or.inr ⟨rfl, e, Or.inr ⟨q, g27.1, x1⟩, x2⟩)
  · refine pw_if_ne (t := 35) (pc := 30) dX5_law_30 (by decide) (by first | omega | (simp only [n_g2_3_1, n_g2_o_8_3]; omega)) (fun c30 => absurd c30 (by decide)) (fun _ => ?_)
    refine pw_iconst (pc := 33) dX5_law_33 ?_
    exact pw_zret (pc := 34) dX5_law_34 (by first | omega | (simp only [n_g2_3_1, n_g2_o_8_3]; omega)) (by
              refine ⟨⟨off_tr F23.1 (off_mo f27.1 (by simp)), fun k k2 k3 => by rw [f27.2.1 k k3]; exact F23.2.1 k k2 k3, by rw [f27.2.2.1]; exact F23.2.2.1, fun k k3 => by rw [f27.2.2.2 k k3]; exact F23.2.2.2 k k3⟩, Or.inr ⟨rfl, ?_⟩⟩
              obtain ⟨e, x1, x2⟩ := p27
              exact ⟨e, Or.inl x1, x2⟩)

set_option maxHeartbeats 4000000 in
set_option maxRecDepth 100000 in
theorem d_takeRider {G : GT_} (hC : okC_ G) (h : PH_) (tp : Int → Int) (n : Int) (o : Nat) (ho : is6_ o) (a : Nat) (H : CPO_ tp n h a) (hland : h 3 1 = (o : Int)) (nm : NM_) (R K : Int) (hN : CNM_ nm (h (o + 2)) R K) (hR : h o 2 = R ∧ 0 ≤ R ∧ R ≤ 4) : PC G yX5_takeRider cX5_takeRider 1 (some .boolean) 7 [rr_ G 3] h (qi_ (fun z h' => fr3_ [3, 5] h h' ∧ CPK_ tp n h' z (trd_ (tk_ tp n) nm a))) := by
  have HB := CPO_b H
  have hl_h := hland
  refine PC.of (lv := [some (rr_ G 3)]) (by decide +kernel) (Nat.le_of_ble_eq_true rfl) rfl rfl ?_
  refine pw_aload_n (z := 3) (pc := 0) dX5_takeRider_0 rfl rfl ?_
  refine pw_callV (c := 5) (o := 3) (As := []) (rest := []) (pc := 1) dX5_takeRider_1 (d_isName hC h tp n a H) lX5_123 mX5_isName vX5_isName (hC 3 (by decide)) (show kd_ 3 = 15 by decide +kernel) rfl rfl rfl (by decide) ⟨Nat.zero_le _, Nat.zero_le _⟩ (Nat.le_of_ble_eq_true rfl) (k_i (fun z1 h1 y1 q1 => ?_))
  obtain ⟨rfl, ⟨rfl, p1⟩ | ⟨rfl, p1⟩⟩ := q1
  · refine pw_if_ne (t := 13) (pc := 4) dX5_takeRider_4 (by decide) (by first | omega) (fun _ => ?_) (fun c4 => absurd c4 (by decide))
    have v1 := HB.2.2.2.2.1.2.2.1 p1.1
    have lk := CPO_lk H p1.1
    refine pw_aload_n (z := 3) (pc := 13) dX5_takeRider_13 rfl rfl ?_
    refine pw_aload_n (z := 3) (pc := 14) dX5_takeRider_14 rfl rfl ?_
    refine pw_gD (x := 1) (r := o) (pc := 15) dX5_takeRider_15 fX5_94 (hC 3 (by decide)) (show kd_ 3 = 15 by decide +kernel) rfl rfl hl_h ?_
    refine pw_aload_n (z := 3) (pc := 18) dX5_takeRider_18 rfl rfl ?_
    refine pw_getR (r := 1) (pc := 19) dX5_takeRider_19 fX5_17 (hC 3 (by decide)) (show kd_ 3 = 15 by decide +kernel) rfl (by decide +kernel) ?_
    refine pw_gJ (x := 6) (pc := 22) dX5_takeRider_22 fX5_114 (hC 1 (by decide)) (show kd_ 1 = 18 by decide +kernel) rfl rfl (fun r22 => ?_)
    refine pw_callV (c := 6) (o := o) (As := [ll_ (h 1 6)]) (rest := [rr_ G 3]) (pc := 25) dX5_takeRider_25 (d_riderNamed hC h o ho (h 1 6) (by first | omega) (by first | omega)) lX5_134 mX6_riderNamed vX6_riderNamed (hC _ (by omega)) (kd6_0 ho) rfl rfl rfl (by decide) ⟨Nat.zero_le _, Nat.zero_le _⟩ (Nat.le_of_ble_eq_true rfl) (k_i (fun z25 h25 y25 q25 => ?_))
    obtain ⟨rfl, w25⟩ := q25
    rw [hR.1] at w25
    have rn := CNM_r hN hR.2.2 lk v1 w25
    refine pw_pI (x := 5) (pc := 28) dX5_takeRider_28 fX5_138 (hC 3 (by decide)) (show kd_ 3 = 15 by decide +kernel) rfl rfl (by first | omega) ?_
    obtain ⟨g28, e28⟩ : ∃ x, x = up_ h 3 5 z25 := ⟨_, rfl⟩
    refine pw_heq e28 ?_
    refine pw_aload_n (z := 3) (pc := 31) dX5_takeRider_31 rfl rfl ?_
    have Hg28 : CPO_ tp n g28 a := CPO_mv H (by rw [e28, up_off (by decide)]) (by rw [e28, up_off (by decide)]) (by rw [e28, up_at, if_neg (by decide)])
    have HBg28 := CPO_b Hg28
    have F28 : fr3_ [3, 5] h g28 := ⟨by rw [e28]; exact off_up off_rf (by decide), fun k k1 => by rw [e28, up_at, if_neg (by simp at k1; omega)], by rw [e28, up_off (by decide)]⟩
    refine pw_gI (x := 5) (pc := 32) dX5_takeRider_32 fX5_138 (hC 3 (by decide)) (show kd_ 3 = 15 by decide +kernel) rfl rfl (fun r32 => ?_)
    rw [show g28 3 5 = z25 from by rw [e28, up_same]] at r32 ⊢
    refine pw_iconst (pc := 35) dX5_takeRider_35 ?_
    refine pw_icmp_ne (t := 45) (pc := 36) dX5_takeRider_36 (by decide) (by first | omega) (by first | omega) (fun c36 => ?_) (fun c36 => ?_)
    · refine pw_aload_n (z := 3) (pc := 45) dX5_takeRider_45 rfl rfl ?_
      refine pw_getR (r := 1) (pc := 46) dX5_takeRider_46 fX5_17 (hC 3 (by decide)) (show kd_ 3 = 15 by decide +kernel) rfl (by decide +kernel) ?_
      refine pw_callV (c := 8) (o := 1) (As := []) (rest := []) (pc := 49) dX5_takeRider_49 (d_step hC g28 tp n HBg28.2.2.2.2.2.1 (a + 1) HBg28.2.2.2.2.2.2.1) lX5_111 mX8_step vX8_step (hC 1 (by decide)) (show kd_ 1 = 18 by decide +kernel) rfl rfl rfl (by decide) ⟨Nat.zero_le _, Nat.zero_le _⟩ (Nat.le_of_ble_eq_true rfl) (k_v (fun h49 q49 => ?_))
      obtain ⟨f49, k49, p49⟩ := q49
      obtain ⟨H49, F49⟩ := CPO_st Hg28 f49 k49 p49
      refine pw_iconst (pc := 52) dX5_takeRider_52 ?_
      exact pw_zret (pc := 53) dX5_takeRider_53 (by first | omega) (⟨fr3_tr F28 (fr3_mo F49 (by simp)), by unfold trd_ rdh_; rw [if_t p1, if_t (by omega)]; exact ⟨rfl, H49, by rw [f49 3 (by decide), e28, up_same]; omega⟩⟩)
    · refine pw_aload_n (z := 3) (pc := 39) dX5_takeRider_39 rfl rfl ?_
      refine pw_iconst (pc := 40) dX5_takeRider_40 ?_
      refine pw_callV (c := 5) (o := 3) (As := [ii_ 2]) (rest := []) (pc := 41) dX5_takeRider_41 (d_wrong hC g28 tp n a Hg28 2 (by first | omega)) lX5_70 mX5_wrong vX5_wrong (hC 3 (by decide)) (show kd_ 3 = 15 by decide +kernel) rfl rfl rfl (by decide) ⟨Nat.zero_le _, Nat.zero_le _⟩ (Nat.le_of_ble_eq_true rfl) (k_i (fun z41 h41 y41 q41 => ?_))
      obtain ⟨f41, x41, rfl⟩ := q41
      have fp41 := flt_p (tp := tp) (a := a) HB.1 (w := 2) (by omega)
      exact pw_zret (pc := 44) dX5_takeRider_44 (by first | omega) (⟨fr3_tr F28 (fr3_mo f41 (by simp)), by unfold trd_ rdh_; rw [if_t p1, if_f (by omega)]; exact ⟨rfl, x41, fp41.1⟩⟩)
  · refine pw_if_ne (t := 13) (pc := 4) dX5_takeRider_4 (by decide) (by first | omega) (fun c4 => absurd c4 (by decide)) (fun _ => ?_)
    refine pw_aload_n (z := 3) (pc := 7) dX5_takeRider_7 rfl rfl ?_
    refine pw_iconst (pc := 8) dX5_takeRider_8 ?_
    refine pw_callV (c := 5) (o := 3) (As := [ii_ 1]) (rest := []) (pc := 9) dX5_takeRider_9 (d_wrong hC h tp n a H 1 (by first | omega)) lX5_70 mX5_wrong vX5_wrong (hC 3 (by decide)) (show kd_ 3 = 15 by decide +kernel) rfl rfl rfl (by decide) ⟨Nat.zero_le _, Nat.zero_le _⟩ (Nat.le_of_ble_eq_true rfl) (k_i (fun z9 h9 y9 q9 => ?_))
    obtain ⟨f9, x9, rfl⟩ := q9
    have fp9 := flt_p (tp := tp) (a := a) HB.1 (w := 1) (by omega)
    exact pw_zret (pc := 12) dX5_takeRider_12 (by first | omega) (⟨fr3_mo f9 (by simp), by unfold trd_ rdh_; rw [if_f p1]; exact ⟨rfl, x9, fp9.1⟩⟩)

set_option maxHeartbeats 4000000 in
set_option maxRecDepth 100000 in
theorem d_newName {G : GT_} (hC : okC_ G) (h : PH_) (tp : Int → Int) (n : Int) (o : Nat) (ho : is6_ o) (a : Nat) (H : CPO_ tp n h a) (hland : h 3 1 = (o : Int)) (nm : NM_) (R K : Int) (hN : CNM_ nm (h (o + 2)) R K) (hR : h o 2 = R ∧ 0 ≤ R ∧ R ≤ 4) (hK : h o 3 = K ∧ 0 ≤ K ∧ K ≤ 4) (pl vv : Int) (hp : 0 ≤ pl ∧ pl ≤ 7) : PC G yX5_takeNewName cX5_takeNewName 2 (some .boolean) 7 [rr_ G 3, ii_ pl] h (qi_ (fun z h' => off_ [1, 3, o + 2] h h' ∧ (∀ k, k ≠ 3 → h' 3 k = h 3 k) ∧ h' 1 2 = h 1 2 ∧ CNW_ tp n o h a pl (nnm_ (tk_ tp n) nm vv a) z h')) := by
  have HB := CPO_b H
  have hl_h := hland
  refine PC.of (lv := [some (rr_ G 3), some (ii_ pl)]) (by decide +kernel) (Nat.le_of_ble_eq_true rfl) rfl rfl ?_
  refine pw_aload_n (z := 3) (pc := 0) dX5_takeNewName_0 rfl rfl ?_
  refine pw_callV (c := 5) (o := 3) (As := []) (rest := []) (pc := 1) dX5_takeNewName_1 (d_isName hC h tp n a H) lX5_123 mX5_isName vX5_isName (hC 3 (by decide)) (show kd_ 3 = 15 by decide +kernel) rfl rfl rfl (by decide) ⟨Nat.zero_le _, Nat.zero_le _⟩ (Nat.le_of_ble_eq_true rfl) (k_i (fun z1 h1 y1 q1 => ?_))
  obtain ⟨rfl, ⟨rfl, p1⟩ | ⟨rfl, p1⟩⟩ := q1
  · refine pw_if_ne (t := 13) (pc := 4) dX5_takeNewName_4 (by decide) (by first | omega) (fun _ => ?_) (fun c4 => absurd c4 (by decide))
    have v1 := HB.2.2.2.2.1.2.2.1 p1.1
    have lk := CPO_lk H p1.1
    have tt := CNM_t hN lk v1
    refine pw_aload_n (z := 3) (pc := 13) dX5_takeNewName_13 rfl rfl ?_
    refine pw_gD (x := 1) (r := o) (pc := 14) dX5_takeNewName_14 fX5_94 (hC 3 (by decide)) (show kd_ 3 = 15 by decide +kernel) rfl rfl hl_h ?_
    refine pw_aload_n (z := 3) (pc := 17) dX5_takeNewName_17 rfl rfl ?_
    refine pw_getR (r := 1) (pc := 18) dX5_takeNewName_18 fX5_17 (hC 3 (by decide)) (show kd_ 3 = 15 by decide +kernel) rfl (by decide +kernel) ?_
    refine pw_gJ (x := 6) (pc := 21) dX5_takeNewName_21 fX5_114 (hC 1 (by decide)) (show kd_ 1 = 18 by decide +kernel) rfl rfl (fun r21 => ?_)
    refine pw_callV (c := 6) (o := o) (As := [ll_ (h 1 6)]) (rest := []) (pc := 24) dX5_takeNewName_24 (d_tells hC h o ho (h 1 6) (by first | omega) (by first | omega) (by first | omega)) lX5_126 mX6_tells vX6_tells (hC _ (by omega)) (kd6_0 ho) rfl rfl rfl (by decide) ⟨Nat.zero_le _, Nat.zero_le _⟩ (Nat.le_of_ble_eq_true rfl) (k_i (fun z24 h24 y24 q24 => ?_))
    obtain ⟨rfl, ⟨rfl, p24⟩ | ⟨rfl, p24⟩⟩ := q24
    · rw [hR.1, hK.1, tt] at p24
      refine pw_if_eq (t := 36) (pc := 27) dX5_takeNewName_27 (by decide) (by first | omega) (fun c27 => absurd c27 (by decide)) (fun _ => ?_)
      refine pw_aload_n (z := 3) (pc := 30) dX5_takeNewName_30 rfl rfl ?_
      refine pw_iconst (pc := 31) dX5_takeNewName_31 ?_
      refine pw_callV (c := 5) (o := 3) (As := [ii_ 3]) (rest := []) (pc := 32) dX5_takeNewName_32 (d_wrong hC h tp n a H 3 (by first | omega)) lX5_70 mX5_wrong vX5_wrong (hC 3 (by decide)) (show kd_ 3 = 15 by decide +kernel) rfl rfl rfl (by decide) ⟨Nat.zero_le _, Nat.zero_le _⟩ (Nat.le_of_ble_eq_true rfl) (k_i (fun z32 h32 y32 q32 => ?_))
      obtain ⟨f32, x32, rfl⟩ := q32
      have fp32 := flt_p (tp := tp) (a := a) HB.1 (w := 3) (by omega)
      exact pw_zret (pc := 35) dX5_takeNewName_35 (by first | omega) (⟨off_mo f32.1 (by simp), fun k k1 => f32.2.1 k (by simpa using k1), f32.2.2, Or.inr ⟨rfl, _, by unfold nnm_; rw [if_t p1, if_t p24], x32, fp32.1⟩⟩)
    · rw [hR.1, hK.1, tt] at p24
      refine pw_if_eq (t := 36) (pc := 27) dX5_takeNewName_27 (by decide) (by first | omega) (fun _ => ?_) (fun c27 => absurd c27 (by decide))
      refine pw_aload_n (z := 3) (pc := 36) dX5_takeNewName_36 rfl rfl ?_
      refine pw_gD (x := 1) (r := o) (pc := 37) dX5_takeNewName_37 fX5_94 (hC 3 (by decide)) (show kd_ 3 = 15 by decide +kernel) rfl rfl hl_h ?_
      refine pw_getR (r := (o + 2)) (pc := 40) dX5_takeNewName_40 fX5_130 (hC _ (by omega)) (kd6_0 ho) rfl rfl ?_
      refine pw_iload_n (z := pl) (pc := 43) dX5_takeNewName_43 rfl rfl ?_
      refine pw_aload_n (z := 3) (pc := 44) dX5_takeNewName_44 rfl rfl ?_
      refine pw_getR (r := 1) (pc := 45) dX5_takeNewName_45 fX5_17 (hC 3 (by decide)) (show kd_ 3 = 15 by decide +kernel) rfl (by decide +kernel) ?_
      refine pw_gJ (x := 6) (pc := 48) dX5_takeNewName_48 fX5_114 (hC 1 (by decide)) (show kd_ 1 = 18 by decide +kernel) rfl rfl (fun r48 => ?_)
      refine pw_last (pc := 51) dX5_takeNewName_51 (hC _ (by omega)) (kd6_2 ho) 8 (ln6_2 ho) (by first | omega) (by first | omega) (by first | omega) (by first | omega) ?_
      obtain ⟨g51, e51⟩ : ∃ x, x = up_ h (o + 2) pl (h 1 6) := ⟨_, rfl⟩
      refine pw_heq e51 ?_
      have Hg51 : CPO_ tp n g51 a := CPO_mv H (by rw [e51, up_off (by omega)]) (by rw [e51, up_off (by omega)]) (by rw [e51, up_off (by omega)])
      have HBg51 := CPO_b Hg51
      have an := tk_lt HB.1.1 (show (tk_ tp n a).1 ≠ 0 by rw [p1.1]; decide)
      refine pw_aload_n (z := 3) (pc := 52) dX5_takeNewName_52 rfl rfl ?_
      refine pw_getR (r := 1) (pc := 53) dX5_takeNewName_53 fX5_17 (hC 3 (by decide)) (show kd_ 3 = 15 by decide +kernel) rfl (by decide +kernel) ?_
      refine pw_callV (c := 8) (o := 1) (As := []) (rest := []) (pc := 56) dX5_takeNewName_56 (d_step hC g51 tp n HBg51.2.2.2.2.2.1 (a + 1) HBg51.2.2.2.2.2.2.1) lX5_111 mX8_step vX8_step (hC 1 (by decide)) (show kd_ 1 = 18 by decide +kernel) rfl rfl rfl (by decide) ⟨Nat.zero_le _, Nat.zero_le _⟩ (Nat.le_of_ble_eq_true rfl) (k_v (fun h56 q56 => ?_))
      obtain ⟨f56, k56, p56⟩ := q56
      obtain ⟨H56, F56⟩ := CPO_st Hg51 f56 k56 p56
      refine pw_iconst (pc := 59) dX5_takeNewName_59 ?_
      exact pw_zret (pc := 60) dX5_takeNewName_60 (by first | omega) (⟨off_tr (by rw [e51]; exact off_up off_rf (by simp)) (off_mo F56.1 (by simp)), fun k k1 => by rw [F56.2.1 k (by simp), e51, up_off (by omega)], by rw [F56.2.2, e51, up_off (by omega)], Or.inl ⟨rfl, _, by unfold nnm_; rw [if_t p1, if_f p24], H56, by omega, by rw [f56 (o + 2) (by simp), e51, up_ob, v1]⟩⟩)
  · refine pw_if_ne (t := 13) (pc := 4) dX5_takeNewName_4 (by decide) (by first | omega) (fun c4 => absurd c4 (by decide)) (fun _ => ?_)
    refine pw_aload_n (z := 3) (pc := 7) dX5_takeNewName_7 rfl rfl ?_
    refine pw_iconst (pc := 8) dX5_takeNewName_8 ?_
    refine pw_callV (c := 5) (o := 3) (As := [ii_ 1]) (rest := []) (pc := 9) dX5_takeNewName_9 (d_wrong hC h tp n a H 1 (by first | omega)) lX5_70 mX5_wrong vX5_wrong (hC 3 (by decide)) (show kd_ 3 = 15 by decide +kernel) rfl rfl rfl (by decide) ⟨Nat.zero_le _, Nat.zero_le _⟩ (Nat.le_of_ble_eq_true rfl) (k_i (fun z9 h9 y9 q9 => ?_))
    obtain ⟨f9, x9, rfl⟩ := q9
    have fp9 := flt_p (tp := tp) (a := a) HB.1 (w := 1) (by omega)
    exact pw_zret (pc := 12) dX5_takeNewName_12 (by first | omega) (⟨off_mo f9.1 (by simp), fun k k1 => f9.2.1 k (by simpa using k1), f9.2.2, Or.inr ⟨rfl, _, by unfold nnm_; rw [if_f p1], x9, fp9.1⟩⟩)

