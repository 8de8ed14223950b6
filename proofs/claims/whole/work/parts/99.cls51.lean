set_option maxHeartbeats 4000000 in
set_option maxRecDepth 100000 in
theorem d_put2 {G : GT_} (hC : okC_ G) (h : PH_) (o : Nat) (ho : is6_ o) (v : Int) (hv : ir_ v) (hn : 0 ≤ h (o + 8) 3 ∧ h (o + 8) 3 < 1000) : PC G yX2_put cX2_put 2 none 1 [rr_ G (o + 8), ii_ v] h (qv_ (fun h' => off_ [o + 8, o + 9] h h' ∧ h' (o + 8) 3 = h (o + 8) 3 + 1 ∧ (∀ k, k ≠ 3 → h' (o + 8) k = h (o + 8) k) ∧ h' (o + 9) = ob_ (h (o + 9)) (h (o + 8) 3) v)) := by
  refine PC.of (lv := [some (rr_ G (o + 8)), some (ii_ v)]) (by decide +kernel) (Nat.le_of_ble_eq_true rfl) rfl rfl ?_
  refine pw_aload_n (z := (o + 8)) (pc := 0) dX2_put_0 rfl rfl ?_
  refine pw_gI (x := 3) (pc := 1) dX2_put_1 fX2_21 (hC _ (by omega)) (kd6_8 ho) rfl rfl (fun r1 => ?_)
  refine pw_sipush (pc := 4) dX2_put_4 rfl ?_
  refine pw_icmp_ge (t := 30) (pc := 7) dX2_put_7 (by decide) (by first | omega) (by first | omega) (fun c7 => ?_) (fun c7 => ?_)
  · exact pw_vret (pc := 30) dX2_put_30 (by first | (exfalso; omega) | exact ⟨by rw [e27, e19]; exact off_up (off_up off_rf (by simp)) (by simp), by rw [e27, up_same], fun k k1 => by rw [e27, up_at, if_neg k1, e19, up_off (by omega)], by rw [e27, up_off (by omega), e19, up_ob]⟩)
  · refine pw_aload_n (z := (o + 8)) (pc := 10) dX2_put_10 rfl rfl ?_
    refine pw_getR (r := (o + 9)) (pc := 11) dX2_put_11 fX2_9 (hC _ (by omega)) (kd6_8 ho) rfl rfl ?_
    refine pw_aload_n (z := (o + 8)) (pc := 14) dX2_put_14 rfl rfl ?_
    refine pw_gI (x := 3) (pc := 15) dX2_put_15 fX2_21 (hC _ (by omega)) (kd6_8 ho) rfl rfl (fun r15 => ?_)
    refine pw_iload_n (z := v) (pc := 18) dX2_put_18 rfl rfl ?_
    refine pw_iast (pc := 19) dX2_put_19 (hC _ (by omega)) (kd6_9 ho) 1000 (ln6_9 ho) (by first | omega) (by first | omega) (by first | omega) (by first | omega) ?_
    obtain ⟨g19, e19⟩ : ∃ x, x = up_ h (o + 9) (h (o + 8) 3) v := ⟨_, rfl⟩
    refine pw_heq e19 ?_
    refine pw_aload_n (z := (o + 8)) (pc := 20) dX2_put_20 rfl rfl ?_
    refine pw_dup (pc := 21) dX2_put_21 rfl ?_
    refine pw_gI (x := 3) (pc := 22) dX2_put_22 fX2_21 (hC _ (by omega)) (kd6_8 ho) rfl rfl (fun r22 => ?_)
    have n_g19_o_8_3 : g19 (o + 8) 3 = h (o + 8) 3 := (by rw [e19, up_off (by first | decide | omega)])
    rw [n_g19_o_8_3] at r22 ⊢
    refine pw_iconst (pc := 25) dX2_put_25 ?_
    refine pw_iadd (pc := 26) dX2_put_26 ?_
    refine pw_pI (x := 3) (pc := 27) dX2_put_27 fX2_21 (hC _ (by omega)) (kd6_8 ho) rfl rfl (by first | omega | (simp only [n_g19_o_8_3]; omega)) ?_
    obtain ⟨g27, e27⟩ : ∃ x, x = up_ g19 (o + 8) 3 ((h (o + 8) 3) + 1) := ⟨_, rfl⟩
    refine pw_heq e27 ?_
    exact pw_vret (pc := 30) dX2_put_30 (by first | (exfalso; omega) | exact ⟨by rw [e27, e19]; exact off_up (off_up off_rf (by simp)) (by simp), by rw [e27, up_same], fun k k1 => by rw [e27, up_at, if_neg k1, e19, up_off (by omega)], by rw [e27, up_off (by omega), e19, up_ob]⟩)

set_option maxHeartbeats 4000000 in
set_option maxRecDepth 100000 in
theorem d_exp4 {G : GT_} (hC : okC_ G) (h : PH_) (tp : Int → Int) (n : Int) (o fj f m : Nat) (ho : is6_ o) (hF : FJ_ fj f m) (d : Nat) (IH : kpar_ G tp n o fj f m d) (lev : Nat) (hlev : lev = 4) (a : Nat) (v w : Int) (hv : v = 5 - (d : Int)) (hw : w = (lev : Int)) (E : EXC_ tp n o fj h a) : PC G yX5_expression cX5_expression 5 (some .boolean) (12 + 6 * d - lev) [rr_ G 3, ii_ v, ii_ w] h (qi_ (fun z h' => XFR_ o h h' ∧ XCR_ tp n o h a (exs_ (tk_ tp n) f m d lev a) z h')) := by
  have H := E.1
  have HB := CPO_b H
  have hl_h := E.2.1
  have hs_h := E.2.2.1
  have EL := E.2.2.2
  refine PC.of (lv := [some (rr_ G 3), some (ii_ v), some (ii_ w), none, none]) (by decide +kernel) (Nat.le_of_ble_eq_true rfl) rfl rfl ?_
  refine pw_iload_n (z := w) (pc := 0) dX5_expression_0 rfl rfl ?_
  refine pw_iconst (pc := 1) dX5_expression_1 ?_
  refine pw_icmp_lt (t := 11) (pc := 2) dX5_expression_2 (by decide) (by first | omega) (by first | omega) (fun c2 => ?_) (fun c2 => ?_)
  · exfalso; omega
  · refine pw_aload_n (z := 3) (pc := 5) dX5_expression_5 rfl rfl ?_
    refine pw_iload_n (z := v) (pc := 6) dX5_expression_6 rfl rfl ?_
    refine pw_callV (c := 5) (o := 3) (As := [ii_ v]) (rest := []) (pc := 7) dX5_expression_7 (IH h a v hv E) lX5_245 mX5_part vX5_part (hC 3 (by decide)) (show kd_ 3 = 15 by decide +kernel) rfl rfl rfl ⟨by simp only [rm_]; omega, by simp only [rm_]; omega⟩ ⟨Nat.zero_le _, Nat.zero_le _⟩ (Nat.le_of_ble_eq_true rfl) (k_i (fun z7 h7 y7 q7 => ?_))
    obtain ⟨f7, x7⟩ := q7
    have z01 : z7 = 0 ∨ z7 = 1 := by rcases x7 with x | x <;> omega
    exact pw_zret (pc := 10) dX5_expression_10 (by first | omega) (⟨f7, by rw [hlev]; exact x7⟩)

set_option maxHeartbeats 4000000 in
set_option maxRecDepth 100000 in
theorem d_expS {G : GT_} (hC : okC_ G) (h : PH_) (tp : Int → Int) (n : Int) (o fj f m : Nat) (ho : is6_ o) (hF : FJ_ fj f m) (d : Nat) (lev : Nat) (hlev : lev < 4) (IH : kexp_ G tp n o fj f m d (lev + 1)) (a : Nat) (v w : Int) (hv : v = 5 - (d : Int)) (hw : w = (lev : Int)) (E : EXC_ tp n o fj h a) : PC G yX5_expression cX5_expression 5 (some .boolean) (12 + 6 * d - lev) [rr_ G 3, ii_ v, ii_ w] h (qi_ (fun z h' => XFR_ o h h' ∧ XCR_ tp n o h a (exs_ (tk_ tp n) f m d lev a) z h')) := by
  have H := E.1
  have HB := CPO_b H
  have hl_h := E.2.1
  have hs_h := E.2.2.1
  have EL := E.2.2.2
  have ex := exs_s (tk := tk_ tp n) (f := f) (m := m) (d := d) lev hlev
  refine PC.of (lv := [some (rr_ G 3), some (ii_ v), some (ii_ w), none, none]) (by decide +kernel) (Nat.le_of_ble_eq_true rfl) rfl rfl ?_
  refine pw_iload_n (z := w) (pc := 0) dX5_expression_0 rfl rfl ?_
  refine pw_iconst (pc := 1) dX5_expression_1 ?_
  refine pw_icmp_lt (t := 11) (pc := 2) dX5_expression_2 (by decide) (by first | omega) (by first | omega) (fun c2 => ?_) (fun c2 => ?_)
  · refine pw_aload_n (z := 3) (pc := 11) dX5_expression_11 rfl rfl ?_
    refine pw_iload_n (z := v) (pc := 12) dX5_expression_12 rfl rfl ?_
    refine pw_iload_n (z := w) (pc := 13) dX5_expression_13 rfl rfl ?_
    refine pw_iconst (pc := 14) dX5_expression_14 ?_
    refine pw_iadd (pc := 15) dX5_expression_15 ?_
    refine pw_callV (c := 5) (o := 3) (As := [ii_ v, ii_ (w + 1)]) (rest := []) (pc := 16) dX5_expression_16 (IH h a v (w + 1) hv (by first | omega) E) lX5_239 mX5_expression vX5_expression (hC 3 (by decide)) (show kd_ 3 = 15 by decide +kernel) rfl rfl rfl ⟨by simp only [rm_]; omega, by simp only [rm_]; omega⟩ ⟨Nat.zero_le _, Nat.zero_le _⟩ (Nat.le_of_ble_eq_true rfl) (k_i (fun z16 h16 y16 q16 => ?_))
    obtain ⟨f16, ⟨rfl, p16⟩ | ⟨rfl, p16⟩⟩ := q16
    · obtain ⟨q, g16⟩ := p16
      have H16 := g16.2.1
      refine pw_if_ne (t := 24) (pc := 19) dX5_expression_19 (by decide) (by first | omega) (fun _ => ?_) (fun c19 => absurd c19 (by decide))
      refine pw_aload_n (z := 3) (pc := 24) dX5_expression_24 rfl rfl ?_
      refine pw_iload_n (z := w) (pc := 25) dX5_expression_25 rfl rfl ?_
      refine pw_callV (c := 5) (o := 3) (As := [ii_ w]) (rest := []) (pc := 26) dX5_expression_26 (d_operatorOf hC h16 tp n q.2 H16 lev hlev w hw) lX5_248 mX5_operatorOf vX5_operatorOf (hC 3 (by decide)) (show kd_ 3 = 15 by decide +kernel) rfl rfl rfl (by constructor <;> simp only [rm_] <;> omega) ⟨Nat.zero_le _, Nat.zero_le _⟩ (Nat.le_of_ble_eq_true rfl) (k_i (fun z26 h26 y26 q26 => ?_))
      obtain ⟨rfl, w26⟩ := q26
      have ob26 := opz_b (lev := lev) (t := tk_ tp n q.2)
      refine pw_istore_n (lv1 := [some (rr_ G 3), some (ii_ v), some (ii_ w), some (ii_ z26), none]) (pc := 29) dX5_expression_29 rfl (by decide) rfl rfl ?_
      refine pw_iconst (pc := 30) dX5_expression_30 ?_
      refine pw_istore (lv1 := [some (rr_ G 3), some (ii_ v), some (ii_ w), some (ii_ z26), some (ii_ 0)]) (pc := 31) dX5_expression_31 (by decide) rfl rfl ?_
      have L33 : ∀ (nn : Nat) (op : Int) (i : Int) (b : Nat) (l : CO_) (fu : Nat) (hq : PH_), (0 ≤ i ∧ i < b) → (ir_ op) → (XFR_ o h hq) → (CPO_ tp n hq b) → ((b : Int) ≤ n) → (l.length + a ≤ b ∧ a < b) → (hq (o + 8) 3 = h (o + 8) 3 + l.length) → (hq (o + 9) = wrc_ (h (o + 9)) (h (o + 8) 3) l) → (lop_ (tk_ tp n) (exs_ (tk_ tp n) f m d (lev + 1)) (opl_ lev) fu b l = (exs_ (tk_ tp n) f m d lev a)) → (fu = 0 ∧ op = -1 ∨ 1 ≤ fu ∧ op = opz_ (opl_ lev (tk_ tp n b)) ∧ (fu : Int) + i = (if lev = 1 then 1 else 1000)) → ((1001 - i : Int) ≤ nn) → PW G RX5 cX5_expression 5 (some .boolean) (rm_ (12 + 6 * d - lev)) 0 0 (zm_ G (qi_ (fun z h' => XFR_ o h h' ∧ XCR_ tp n o h a (exs_ (tk_ tp n) f m d lev a) z h'))) 33 [some (rr_ G 3), some (ii_ v), some (ii_ w), some (ii_ op), some (ii_ i)] [] hq := by
        intro nn
        induction nn with
        | zero => intro op i b l fu hq ai aop af aH an al aL ac aX ao ams; exfalso; omega
        | succ nn ih33 =>
          intro op i b l fu hq ai aop af aH an al aL ac aX ao ams
          have HBq := CPO_b aH
          refine pw_iload_n (z := op) (pc := 33) dX5_expression_33 rfl rfl ?_
          refine pw_iconst (pc := 34) dX5_expression_34 ?_
          refine pw_icmp_eq (t := 98) (pc := 35) dX5_expression_35 (by decide) (by first | omega) (by first | omega) (fun c35 => ?_) (fun c35 => ?_)
          · refine pw_iconst (pc := 98) dX5_expression_98 ?_
            exact pw_zret (pc := 99) dX5_expression_99 (by first | omega) (⟨af, Or.inl ⟨rfl, (l, b), by
                      rw [← aX]
                      rcases ao with ao | ao
                      · rw [ao.1]; rfl
                      · first
                        | exact lop_n (opz_n (by rw [← ao.2.1]; omega))
                        | (exfalso; omega), aH, an, al, aL, ac⟩⟩)
          · refine pw_iload (z := i) (pc := 38) dX5_expression_38 rfl ?_
            refine pw_sipush (pc := 40) dX5_expression_40 rfl ?_
            refine pw_icmp_ge (t := 98) (pc := 43) dX5_expression_43 (by decide) (by first | omega) (by first | omega) (fun c43 => ?_) (fun c43 => ?_)
            · refine pw_iconst (pc := 98) dX5_expression_98 ?_
              exact pw_zret (pc := 99) dX5_expression_99 (by first | omega) (⟨af, Or.inl ⟨rfl, (l, b), by
                        rw [← aX]
                        rcases ao with ao | ao
                        · rw [ao.1]; rfl
                        · first
                          | exact lop_n (opz_n (by rw [← ao.2.1]; omega))
                          | (exfalso; omega), aH, an, al, aL, ac⟩⟩)
            · obtain ⟨hfu, hop, hfi⟩ : 1 ≤ fu ∧ op = opz_ (opl_ lev (tk_ tp n b)) ∧ (fu : Int) + i = (if lev = 1 then 1 else 1000) := by rcases ao with ao | ao; exact absurd ao.2 c35; exact ao
              obtain ⟨c, hcc⟩ := opz_s (lev := lev) (t := tk_ tp n b) (by rw [← hop]; exact c35)
              have cc := opl_c hcc
              have cn := cnv_o cc.1
              have bn := tk_lt HBq.1.1 cc.2
              obtain ⟨fu1, hf1⟩ : ∃ fu1, fu = fu1 + 1 := ⟨fu - 1, by omega⟩
              subst hf1
              have opc : op = cnv_ (c, 0) := by rw [hop, hcc]; rfl
              refine pw_aload_n (z := 3) (pc := 46) dX5_expression_46 rfl rfl ?_
              refine pw_getR (r := 1) (pc := 47) dX5_expression_47 fX5_17 (hC 3 (by decide)) (show kd_ 3 = 15 by decide +kernel) rfl (by decide +kernel) ?_
              refine pw_callV (c := 8) (o := 1) (As := []) (rest := []) (pc := 50) dX5_expression_50 (d_step hC hq tp n HBq.2.2.2.2.2.1 (b + 1) HBq.2.2.2.2.2.2.1) lX5_111 mX8_step vX8_step (hC 1 (by decide)) (show kd_ 1 = 18 by decide +kernel) rfl rfl rfl (by constructor <;> simp only [rm_] <;> omega) ⟨Nat.zero_le _, Nat.zero_le _⟩ (Nat.le_of_ble_eq_true rfl) (k_v (fun h50 q50 => ?_))
              obtain ⟨f50, k50, p50⟩ := q50
              obtain ⟨H50, F50⟩ := CPO_st aH f50 k50 p50
              have X50 : XFR_ o h h50 := XFR_tr af (XFR_3 ho F50 (by simp))
              have E50 : EXC_ tp n o fj h50 (b + 1) := EXC_mv E X50 H50 (by rw [f50 (o + 8) (by simp), aL]; omega)
              refine pw_aload_n (z := 3) (pc := 53) dX5_expression_53 rfl rfl ?_
              refine pw_iload_n (z := v) (pc := 54) dX5_expression_54 rfl rfl ?_
              refine pw_iload_n (z := w) (pc := 55) dX5_expression_55 rfl rfl ?_
              refine pw_iconst (pc := 56) dX5_expression_56 ?_
              refine pw_iadd (pc := 57) dX5_expression_57 ?_
              refine pw_callV (c := 5) (o := 3) (As := [ii_ v, ii_ (w + 1)]) (rest := []) (pc := 58) dX5_expression_58 (IH h50 (b + 1) v (w + 1) hv (by first | omega) E50) lX5_239 mX5_expression vX5_expression (hC 3 (by decide)) (show kd_ 3 = 15 by decide +kernel) rfl rfl rfl ⟨by simp only [rm_]; omega, by simp only [rm_]; omega⟩ ⟨Nat.zero_le _, Nat.zero_le _⟩ (Nat.le_of_ble_eq_true rfl) (k_i (fun z58 h58 y58 q58 => ?_))
              obtain ⟨f58, ⟨rfl, p58⟩ | ⟨rfl, p58⟩⟩ := q58
              · obtain ⟨q2, g58⟩ := p58
                have hl_h58 : h58 3 1 = (o : Int) := by rw [f58.2.1 1 (by decide), X50.2.1 1 (by decide)]; exact E.2.1
                have L58 : h58 (o + 8) 3 = h (o + 8) 3 + l.length + q2.1.length := by rw [g58.2.2.2.2.1, f50 (o + 8) (by simp), aL]
                have T58 := g58.2.2.2.1
                have N58 := g58.2.2.1
                refine pw_if_ne (t := 66) (pc := 61) dX5_expression_61 (by decide) (by first | omega) (fun _ => ?_) (fun c61 => absurd c61 (by decide))
                refine pw_aload_n (z := 3) (pc := 66) dX5_expression_66 rfl rfl ?_
                refine pw_gD (x := 1) (r := o) (pc := 67) dX5_expression_67 fX5_94 (hC 3 (by decide)) (show kd_ 3 = 15 by decide +kernel) rfl rfl hl_h58 ?_
                refine pw_getR (r := (o + 8)) (pc := 70) dX5_expression_70 fX5_231 (hC _ (by omega)) (kd6_0 ho) rfl rfl ?_
                refine pw_iload_n (z := op) (pc := 73) dX5_expression_73 rfl rfl ?_
                refine pw_callV (c := 2) (o := (o + 8)) (As := [ii_ op]) (rest := []) (pc := 74) dX5_expression_74 (d_put2 hC h58 o ho op (by first | omega) (by first | omega)) lX5_252 mX2_put vX2_put (hC _ (by omega)) (kd6_8 ho) rfl rfl rfl (by constructor <;> simp only [rm_] <;> omega) ⟨Nat.zero_le _, Nat.zero_le _⟩ (Nat.le_of_ble_eq_true rfl) (k_v (fun h74 q74 => ?_))
                obtain ⟨f74, x74, n74, k74⟩ := q74
                have N74 : h74 (o + 8) 3 = h (o + 8) 3 + ((l ++ q2.1 ++ [(c, 0)]).length : Nat) := by rw [x74, g58.2.2.2.2.1, f50 (o + 8) (by simp), aL, List.length_append, List.length_append]; show _ = _ + ((l.length + q2.1.length + 1 : Nat) : Int); omega
                have C74 : h74 (o + 9) = wrc_ (h (o + 9)) (h (o + 8) 3) (l ++ q2.1 ++ [(c, 0)]) := by
                  rw [wrc_a, wrc_a, wrc_1, k74, g58.2.2.2.2.2, f50 (o + 9) (by simp), ac, g58.2.2.2.2.1, f50 (o + 8) (by simp), aL, opc, List.length_append]
                  congr 1
                  omega
                have H74 : CPO_ tp n h74 q2.2 := CPO_mv g58.2.1 (f74 1 (by simp)) (f74 2 (by simp)) (by rw [f74 3 (by simp)])
                have F74 : XFR_ o h h74 := XFR_tr (XFR_tr af (XFR_tr (XFR_3 ho F50 (by simp)) f58)) (XFR_p ho f74 n74)
                have X74 : lop_ (tk_ tp n) (exs_ (tk_ tp n) f m d (lev + 1)) (opl_ lev) fu1 q2.2 (l ++ q2.1 ++ [(c, 0)]) = (exs_ (tk_ tp n) f m d lev a) := by rw [← aX, lop_s hcc g58.1]
                have al74 : (l ++ q2.1 ++ [(c, 0)]).length + a ≤ q2.2 ∧ a < q2.2 := by
                  have := g58.2.2.2.1
                  rw [List.length_append, List.length_append]
                  show l.length + q2.1.length + 1 + a ≤ q2.2 ∧ _
                  omega
                have HB74 := CPO_b H74
                refine pw_iload_n (z := w) (pc := 77) dX5_expression_77 rfl rfl ?_
                refine pw_iconst (pc := 78) dX5_expression_78 ?_
                refine pw_icmp_ne (t := 86) (pc := 79) dX5_expression_79 (by decide) (by first | omega) (by first | omega) (fun c79 => ?_) (fun c79 => ?_)
                · refine pw_aload_n (z := 3) (pc := 86) dX5_expression_86 rfl rfl ?_
                  refine pw_iload_n (z := w) (pc := 87) dX5_expression_87 rfl rfl ?_
                  refine pw_callV (c := 5) (o := 3) (As := [ii_ w]) (rest := []) (pc := 88) dX5_expression_88 (d_operatorOf hC h74 tp n q2.2 H74 lev hlev w hw) lX5_248 mX5_operatorOf vX5_operatorOf (hC 3 (by decide)) (show kd_ 3 = 15 by decide +kernel) rfl rfl rfl (by constructor <;> simp only [rm_] <;> omega) ⟨Nat.zero_le _, Nat.zero_le _⟩ (Nat.le_of_ble_eq_true rfl) (k_i (fun z88 h88 y88 q88 => ?_))
                  obtain ⟨rfl, w88⟩ := q88
                  have ob88 := opz_b (lev := lev) (t := tk_ tp n q2.2)
                  refine pw_istore_n (lv1 := [some (rr_ G 3), some (ii_ v), some (ii_ w), some (ii_ z88), some (ii_ i)]) (pc := 91) dX5_expression_91 rfl (by decide) rfl rfl ?_
                  refine pw_iinc (z := i) (lv1 := [some (rr_ G 3), some (ii_ v), some (ii_ w), some (ii_ z88), some (ii_ (i + 1))]) (pc := 92) dX5_expression_92 rfl (by decide) rfl rfl ?_
                  refine pw_goto (t := 33) (pc := 95) dX5_expression_95 (by decide) ?_
                  exact ih33 _ _ q2.2 (l ++ q2.1 ++ [(c, 0)]) fu1 _ (by omega) (by omega) (F74) (H74) (N58) (al74) (N74) (C74) (X74) (by
                            first
                            | exact Or.inr ⟨by rw [if_neg (by omega)] at hfi; omega, w88, by rw [if_neg (by omega)] at hfi ⊢; omega⟩
                            | exact Or.inl ⟨by rw [if_pos (by omega)] at hfi; omega, rfl⟩) (by omega)
                · refine pw_iconst (pc := 82) dX5_expression_82 ?_
                  refine pw_goto (t := 91) (pc := 83) dX5_expression_83 (by decide) ?_
                  refine pw_istore_n (lv1 := [some (rr_ G 3), some (ii_ v), some (ii_ w), some (ii_ (-1)), some (ii_ i)]) (pc := 91) dX5_expression_91 rfl (by decide) rfl rfl ?_
                  refine pw_iinc (z := i) (lv1 := [some (rr_ G 3), some (ii_ v), some (ii_ w), some (ii_ (-1)), some (ii_ (i + 1))]) (pc := 92) dX5_expression_92 rfl (by decide) rfl rfl ?_
                  refine pw_goto (t := 33) (pc := 95) dX5_expression_95 (by decide) ?_
                  exact ih33 _ _ q2.2 (l ++ q2.1 ++ [(c, 0)]) fu1 _ (by omega) (by omega) (F74) (H74) (N58) (al74) (N74) (C74) (X74) (by
                            first
                            | exact Or.inr ⟨by rw [if_neg (by omega)] at hfi; omega, w88, by rw [if_neg (by omega)] at hfi ⊢; omega⟩
                            | exact Or.inl ⟨by rw [if_pos (by omega)] at hfi; omega, rfl⟩) (by omega)
              · refine pw_if_ne (t := 66) (pc := 61) dX5_expression_61 (by decide) (by first | omega) (fun c61 => absurd c61 (by decide)) (fun _ => ?_)
                refine pw_iconst (pc := 64) dX5_expression_64 ?_
                exact pw_zret (pc := 65) dX5_expression_65 (by first | omega) (⟨XFR_tr X50 f58, Or.inr ⟨rfl, by obtain ⟨e, e1, e2⟩ := p58; exact ⟨e, by rw [← aX]; exact lop_e hcc e1, e2⟩⟩⟩)
      exact L33 _ _ _ q.2 q.1 (if lev = 1 then 1 else 1000) _ (by omega) (by omega) (f16) (H16) (g16.2.2.1) (g16.2.2.2.1) (g16.2.2.2.2.1) (g16.2.2.2.2.2) (by rw [ex, lvl_o g16.1]) (Or.inr ⟨by split <;> decide, w26, by split <;> rfl⟩) (Int.self_le_toNat _)
    · refine pw_if_ne (t := 24) (pc := 19) dX5_expression_19 (by decide) (by first | omega) (fun c19 => absurd c19 (by decide)) (fun _ => ?_)
      refine pw_iconst (pc := 22) dX5_expression_22 ?_
      exact pw_zret (pc := 23) dX5_expression_23 (by first | omega) (⟨f16, Or.inr ⟨rfl, by obtain ⟨e, e1, e2⟩ := p16; exact ⟨e, by rw [ex]; exact lvl_e e1, e2⟩⟩⟩)
  · exfalso; omega

