/-- what was seen agrees with the seats on a stretch -/
def agr_ (f si : Int → Int) (t : Int) : Nat → Prop
  | 0 => True
  | k + 1 => agr_ f si t k ∧ (f (4 * k + 2) = t → (si (f (4 * k)) = f (4 * k + 1) ↔ f (4 * k + 3) = 1))
theorem agr_s {f si : Int → Int} {t k : Int} (h : 0 ≤ k) : agr_ f si t (k + 1).toNat ↔ agr_ f si t k.toNat ∧ (f (4 * k + 2) = t → (si (f (4 * k)) = f (4 * k + 1) ↔ f (4 * k + 3) = 1)) := by rw [tn_s h]; show agr_ f si t k.toNat ∧ (f (4 * (k.toNat : Int) + 2) = t → (si (f (4 * (k.toNat : Int))) = f (4 * (k.toNat : Int) + 1) ↔ f (4 * (k.toNat : Int) + 3) = 1)) ↔ _; rw [tn_c h]
theorem agr_le {f si : Int → Int} {t : Int} : ∀ {n m : Nat}, m ≤ n → agr_ f si t n → agr_ f si t m
  | 0, m, hm, _ => by rw [show m = 0 by omega]; trivial
  | n + 1, m, hm, h => by
    by_cases c : m = n + 1
    · rw [c]; exact h
    · exact agr_le (n := n) (by omega) h.1
theorem agr_at {f si : Int → Int} {t : Int} {n : Nat} {k : Int} (h : agr_ f si t n) (h0 : 0 ≤ k) (h1 : k < n) : f (4 * k + 2) = t → (si (f (4 * k)) = f (4 * k + 1) ↔ f (4 * k + 3) = 1) := ((agr_s h0).mp (agr_le (by omega) h)).2

set_option maxHeartbeats 4000000 in
set_option maxRecDepth 100000 in
theorem d_goBy {G : GT_} (hC : okC_ G) (h : PH_) (s : Nat) (ho_s : is7_ s) (o : Nat) (ho : is6_ o) (ro : Int → Int) (H : CRD_ ro h o) (K : List (Int × Int)) (k : Int) (hk : 0 ≤ k ∧ k < 4) (hl : CLA_ h o k K) (h3 : lw3_ K) : PC G yX7_goBy cX7_goBy 5 none 4 [rr_ G s, rr_ G o, ii_ k] h (qv_ (fun h' => off_ [s + 1, o + 10, o + 11] h h' ∧ (∀ r, 0 ≤ r → r < ro 2 → h' (s + 1) r = ew_ (f3_ (if h s 3 = 0 then r else h (s + 1) r) (h s 3) r) K % ro 0))) := by
  have HB := H.2.1
  have HA := H.1
  refine PC.of (lv := [some (rr_ G s), some (rr_ G o), some (ii_ k), none, none]) (by decide +kernel) (Nat.le_of_ble_eq_true rfl) rfl rfl ?_
  refine pw_iconst (pc := 0) dX7_goBy_0 ?_
  refine pw_istore_n (lv1 := [some (rr_ G s), some (rr_ G o), some (ii_ k), some (ii_ 0), none]) (pc := 1) dX7_goBy_1 rfl (by decide) rfl rfl ?_
  have L2 : ∀ (nn : Nat) (r : Int) (hq : PH_), (0 ≤ r ∧ r ≤ ro 2) → (off_ [s + 1, o + 10, o + 11] h hq) → (∀ r2, 0 ≤ r2 → r2 < r → hq (s + 1) r2 = ew_ (f3_ (if h s 3 = 0 then r2 else h (s + 1) r2) (h s 3) r2) K % ro 0) → (∀ e, r ≤ e → e < ro 2 → hq (s + 1) e = h (s + 1) e) → ((ro 2 - r + 1 : Int) ≤ nn) → PW G RX7 cX7_goBy 5 none (rm_ 4) 0 0 (zm_ G (qv_ (fun h' => off_ [s + 1, o + 10, o + 11] h h' ∧ (∀ r, 0 ≤ r → r < ro 2 → h' (s + 1) r = ew_ (f3_ (if h s 3 = 0 then r else h (s + 1) r) (h s 3) r) K % ro 0)))) 2 [some (rr_ G s), some (rr_ G o), some (ii_ k), some (ii_ r), none] [] hq := by
    intro nn
    induction nn with
    | zero => intro r hq ak af at1 at2 ams; exfalso; omega
    | succ nn ih2 =>
      intro r hq ak af at1 at2 ams
      refine pw_iload_n (z := r) (pc := 2) dX7_goBy_2 rfl rfl ?_
      refine pw_aload_n (z := o) (pc := 3) dX7_goBy_3 rfl rfl ?_
      refine pw_gI (x := 2) (pc := 4) dX7_goBy_4 fX7_42 (hC _ (by omega)) (kd6_0 ho) rfl rfl (fun r4 => ?_)
      have n_hq_o_2 : hq o 2 = h o 2 := (congrFun (af o (by first | decide | (simp; done) | (simp; omega))) 2)
      rw [n_hq_o_2] at r4 ⊢
      refine pw_icmp_ge (t := 53) (pc := 7) dX7_goBy_7 (by decide) (by first | omega | (simp only [n_hq_o_2]; omega)) (by first | omega | (simp only [n_hq_o_2]; omega)) (fun c7 => ?_) (fun c7 => ?_)
      · exact pw_vret (pc := 53) dX7_goBy_53 (⟨af, fun e u1 u2 => at1 e u1 (by omega)⟩)
      · have Hq : CRD_ ro hq o := CRD_cg H (fun k _ => congrFun (af _ (by simp; omega)) k) (af _ (by simp; omega)) (af _ (by simp; omega)) (af _ (by simp; omega)) (af _ (by simp; omega)) (af _ (by simp; omega)) (af _ (by simp; omega))
        have lq : CLA_ hq o k K := CLA_cg hl (af _ (by simp; omega)) (af _ (by simp; omega)) (af _ (by simp; omega)) (af _ (by simp; omega))
        have tq := at2 r (by omega) (by omega)
        have J27 : ∀ (v : Int), (v = (if h s 3 = 0 then r else h (s + 1) r)) → (ir_ v) → PW G RX7 cX7_goBy 5 none (rm_ 4) 0 0 (zm_ G (qv_ (fun h' => off_ [s + 1, o + 10, o + 11] h h' ∧ (∀ r, 0 ≤ r → r < ro 2 → h' (s + 1) r = ew_ (f3_ (if h s 3 = 0 then r else h (s + 1) r) (h s 3) r) K % ro 0)))) 27 [some (rr_ G s), some (rr_ G o), some (ii_ k), some (ii_ r), none] [ii_ v] hq := by
          intro v hv hvr
          refine pw_istore (lv1 := [some (rr_ G s), some (rr_ G o), some (ii_ k), some (ii_ r), some (ii_ v)]) (pc := 27) dX7_goBy_27 (by decide) rfl rfl ?_
          refine pw_aload_n (z := s) (pc := 29) dX7_goBy_29 rfl rfl ?_
          refine pw_getR (r := (s + 1)) (pc := 30) dX7_goBy_30 fX7_9 (hC _ (by omega)) (kd7_0 ho_s) rfl rfl ?_
          refine pw_iload_n (z := r) (pc := 33) dX7_goBy_33 rfl rfl ?_
          refine pw_aload_n (z := o) (pc := 34) dX7_goBy_34 rfl rfl ?_
          refine pw_iload_n (z := k) (pc := 35) dX7_goBy_35 rfl rfl ?_
          refine pw_iload (z := v) (pc := 36) dX7_goBy_36 rfl ?_
          refine pw_aload_n (z := s) (pc := 38) dX7_goBy_38 rfl rfl ?_
          refine pw_gI (x := 3) (pc := 39) dX7_goBy_39 fX7_38 (hC _ (by omega)) (kd7_0 ho_s) rfl rfl (fun r39 => ?_)
          have n_hq_s_3 : hq s 3 = h s 3 := (congrFun (af s (by first | decide | (simp; done) | (simp; omega))) 3)
          rw [n_hq_s_3] at r39 ⊢
          refine pw_iload_n (z := r) (pc := 42) dX7_goBy_42 rfl rfl ?_
          refine pw_callV (c := 6) (o := o) (As := [ii_ k, ii_ v, ii_ (h s 3), ii_ r]) (rest := [ii_ r, rr_ G (s + 1)]) (pc := 43) dX7_goBy_43 (d_seatByRule hC hq o ho ro Hq K k hk lq h3 v (h s 3) r (by first | omega | (simp only [n_hq_o_2, n_hq_s_3]; omega)) (by first | omega | (simp only [n_hq_o_2, n_hq_s_3]; omega)) (by first | omega | (simp only [n_hq_o_2, n_hq_s_3]; omega))) lX7_45 mX6_seatByRule vX6_seatByRule (hC _ (by omega)) (kd6_0 ho) rfl rfl rfl (by decide) ⟨Nat.zero_le _, Nat.zero_le _⟩ (Nat.le_of_ble_eq_true rfl) (k_i (fun z43 h43 y43 q43 => ?_))
          obtain ⟨u43, w43⟩ := q43
          have m1 := Int.emod_nonneg (ew_ (f3_ v (h s 3) r) K) (show ro 0 ≠ 0 by omega)
          have m2 := Int.emod_lt_of_pos (ew_ (f3_ v (h s 3) r) K) (show 0 < ro 0 by omega)
          refine pw_iast (pc := 46) dX7_goBy_46 (hC _ (by omega)) (kd7_1 ho_s) 4 (ln7_1 ho_s) (by first | omega | (simp only [n_hq_o_2, n_hq_s_3]; omega)) (by first | omega | (simp only [n_hq_o_2, n_hq_s_3]; omega)) (by first | omega | (simp only [n_hq_o_2, n_hq_s_3]; omega)) (by first | omega | (simp only [n_hq_o_2, n_hq_s_3]; omega)) ?_
          obtain ⟨g46, e46⟩ : ∃ x, x = up_ h43 (s + 1) r z43 := ⟨_, rfl⟩
          refine pw_heq e46 ?_
          have f46 : off_ [s + 1, o + 10, o + 11] h g46 := by rw [e46]; exact off_up (off_tr af (off_mo u43 (by simp))) (by simp)
          refine pw_iinc (z := r) (lv1 := [some (rr_ G s), some (rr_ G o), some (ii_ k), some (ii_ (r + 1)), some (ii_ v)]) (pc := 47) dX7_goBy_47 rfl (by decide) rfl rfl ?_
          refine pw_goto (t := 2) (pc := 50) dX7_goBy_50 (by decide) ?_
          refine pw_less (lv1 := [some (rr_ G s), some (rr_ G o), some (ii_ k), some (ii_ (r + 1)), none]) rfl (by intro i v; (match i with | 0 => simp | 1 => simp | 2 => simp | 3 => simp | 4 => simp | n + 5 => simp)) ?_
          exact ih2 _ _ (by omega) (f46) (fun e u1 u2 => by by_cases c : e = r; (rw [c, e46, up_same, w43, hv]); (rw [e46, up_at, if_neg c, u43 _ (by simp; omega)]; exact at1 e u1 (by omega))) (fun e u1 u2 => by rw [e46, up_at, if_neg (by omega), u43 _ (by simp; omega)]; exact at2 e (by omega) u2) (by omega)
        refine pw_aload_n (z := s) (pc := 10) dX7_goBy_10 rfl rfl ?_
        refine pw_gI (x := 3) (pc := 11) dX7_goBy_11 fX7_38 (hC _ (by omega)) (kd7_0 ho_s) rfl rfl (fun r11 => ?_)
        have n_hq_s_3 : hq s 3 = h s 3 := (congrFun (af s (by first | decide | (simp; done) | (simp; omega))) 3)
        rw [n_hq_s_3] at r11 ⊢
        refine pw_if_ne (t := 21) (pc := 14) dX7_goBy_14 (by decide) (by first | omega | (simp only [n_hq_o_2, n_hq_s_3]; omega)) (fun c14 => ?_) (fun c14 => ?_)
        · refine pw_aload_n (z := s) (pc := 21) dX7_goBy_21 rfl rfl ?_
          refine pw_getR (r := (s + 1)) (pc := 22) dX7_goBy_22 fX7_9 (hC _ (by omega)) (kd7_0 ho_s) rfl rfl ?_
          refine pw_iload_n (z := r) (pc := 25) dX7_goBy_25 rfl rfl ?_
          refine pw_iald (pc := 26) dX7_goBy_26 (hC _ (by omega)) (kd7_1 ho_s) 4 (ln7_1 ho_s) (by first | omega | (simp only [n_hq_o_2, n_hq_s_3]; omega)) (by first | omega | (simp only [n_hq_o_2, n_hq_s_3]; omega)) (by first | omega | (simp only [n_hq_o_2, n_hq_s_3]; omega)) (fun r26 => ?_)
          exact J27 _ (by first | (rw [if_pos c14]) | (rw [if_neg c14]; exact tq)) (by omega)
        · refine pw_iload_n (z := r) (pc := 17) dX7_goBy_17 rfl rfl ?_
          refine pw_goto (t := 27) (pc := 18) dX7_goBy_18 (by decide) ?_
          exact J27 _ (by first | (rw [if_pos c14]) | (rw [if_neg c14]; exact tq)) (by omega)
  exact L2 _ _ _ (by omega) (off_rf) (fun e _ _ => by omega) (fun e _ _ => rfl) (Int.self_le_toNat _)

set_option maxHeartbeats 4000000 in
set_option maxRecDepth 100000 in
theorem d_takeDown {G : GT_} (hC : okC_ G) (h : PH_) (m : Nat) (ho_m : is3_ m) (r g t b : Int) (j1 : ir_ r) (j2 : ir_ g) (j3 : ir_ t) (jb : b = 0 ∨ b = 1) (hn : 0 ≤ h m 5 ∧ h m 5 ≤ 10) : PC G yX3_takeDown cX3_takeDown 6 (some .boolean) 1 [rr_ G m, ii_ r, ii_ g, ii_ t, ii_ b] h (qi_ (fun z h' => (z = 0 ∧ h = h' ∧ h m 5 = 10) ∨ (z = 1 ∧ h m 5 < 10 ∧ off_ [m, m + 6] h h' ∧ (∀ k, k ≠ 5 → h' m k = h m k) ∧ h' m 5 = h m 5 + 1 ∧ (∀ x, x < 4 * h m 5 → h' (m + 6) x = h (m + 6) x) ∧ h' (m + 6) (4 * h m 5) = r ∧ h' (m + 6) (4 * h m 5 + 1) = g ∧ h' (m + 6) (4 * h m 5 + 2) = t ∧ h' (m + 6) (4 * h m 5 + 3) = b))) := by
  refine PC.of (lv := [some (rr_ G m), some (ii_ r), some (ii_ g), some (ii_ t), some (ii_ b), none]) (by decide +kernel) (Nat.le_of_ble_eq_true rfl) rfl rfl ?_
  refine pw_aload_n (z := m) (pc := 0) dX3_takeDown_0 rfl rfl ?_
  refine pw_gI (x := 5) (pc := 1) dX3_takeDown_1 fX3_33 (hC _ (by omega)) (kd3_0 ho_m) rfl rfl (fun r1 => ?_)
  refine pw_bipush (pc := 4) dX3_takeDown_4 rfl ?_
  refine pw_icmp_lt (t := 11) (pc := 6) dX3_takeDown_6 (by decide) (by first | omega) (by first | omega) (fun c6 => ?_) (fun c6 => ?_)
  · refine pw_aload_n (z := m) (pc := 11) dX3_takeDown_11 rfl rfl ?_
    refine pw_gI (x := 5) (pc := 12) dX3_takeDown_12 fX3_33 (hC _ (by omega)) (kd3_0 ho_m) rfl rfl (fun r12 => ?_)
    refine pw_iconst (pc := 15) dX3_takeDown_15 ?_
    refine pw_imul (pc := 16) dX3_takeDown_16 ?_
    refine pw_istore (lv1 := [some (rr_ G m), some (ii_ r), some (ii_ g), some (ii_ t), some (ii_ b), some (ii_ ((h m 5) * 4))]) (pc := 17) dX3_takeDown_17 (by decide) rfl rfl ?_
    obtain ⟨n, hn2⟩ : ∃ n, n = h m 5 := ⟨_, rfl⟩
    refine pw_aload_n (z := m) (pc := 19) dX3_takeDown_19 rfl rfl ?_
    refine pw_getR (r := (m + 6)) (pc := 20) dX3_takeDown_20 fX3_22 (hC _ (by omega)) (kd3_0 ho_m) rfl rfl ?_
    refine pw_iload (z := (h m 5) * 4) (pc := 23) dX3_takeDown_23 rfl ?_
    refine pw_iload_n (z := r) (pc := 25) dX3_takeDown_25 rfl rfl ?_
    refine pw_iast (pc := 26) dX3_takeDown_26 (hC _ (by omega)) (kd3_6 ho_m) 40 (ln3_6 ho_m) (by first | omega) (by first | omega) (by first | omega) (by first | omega) ?_
    obtain ⟨g26, e26⟩ : ∃ x, x = up_ h (m + 6) ((h m 5) * 4) r := ⟨_, rfl⟩
    refine pw_heq e26 ?_
    refine pw_aload_n (z := m) (pc := 27) dX3_takeDown_27 rfl rfl ?_
    refine pw_getR (r := (m + 6)) (pc := 28) dX3_takeDown_28 fX3_22 (hC _ (by omega)) (kd3_0 ho_m) rfl rfl ?_
    refine pw_iload (z := (h m 5) * 4) (pc := 31) dX3_takeDown_31 rfl ?_
    refine pw_iconst (pc := 33) dX3_takeDown_33 ?_
    refine pw_iadd (pc := 34) dX3_takeDown_34 ?_
    refine pw_iload_n (z := g) (pc := 35) dX3_takeDown_35 rfl rfl ?_
    refine pw_iast (pc := 36) dX3_takeDown_36 (hC _ (by omega)) (kd3_6 ho_m) 40 (ln3_6 ho_m) (by first | omega) (by first | omega) (by first | omega) (by first | omega) ?_
    obtain ⟨g36, e36⟩ : ∃ x, x = up_ g26 (m + 6) (((h m 5) * 4) + 1) g := ⟨_, rfl⟩
    refine pw_heq e36 ?_
    refine pw_aload_n (z := m) (pc := 37) dX3_takeDown_37 rfl rfl ?_
    refine pw_getR (r := (m + 6)) (pc := 38) dX3_takeDown_38 fX3_22 (hC _ (by omega)) (kd3_0 ho_m) rfl rfl ?_
    refine pw_iload (z := (h m 5) * 4) (pc := 41) dX3_takeDown_41 rfl ?_
    refine pw_iconst (pc := 43) dX3_takeDown_43 ?_
    refine pw_iadd (pc := 44) dX3_takeDown_44 ?_
    refine pw_iload_n (z := t) (pc := 45) dX3_takeDown_45 rfl rfl ?_
    refine pw_iast (pc := 46) dX3_takeDown_46 (hC _ (by omega)) (kd3_6 ho_m) 40 (ln3_6 ho_m) (by first | omega) (by first | omega) (by first | omega) (by first | omega) ?_
    obtain ⟨g46, e46⟩ : ∃ x, x = up_ g36 (m + 6) (((h m 5) * 4) + 2) t := ⟨_, rfl⟩
    refine pw_heq e46 ?_
    refine pw_aload_n (z := m) (pc := 47) dX3_takeDown_47 rfl rfl ?_
    refine pw_getR (r := (m + 6)) (pc := 48) dX3_takeDown_48 fX3_22 (hC _ (by omega)) (kd3_0 ho_m) rfl rfl ?_
    refine pw_iload (z := (h m 5) * 4) (pc := 51) dX3_takeDown_51 rfl ?_
    refine pw_iconst (pc := 53) dX3_takeDown_53 ?_
    refine pw_iadd (pc := 54) dX3_takeDown_54 ?_
    refine pw_iload (z := b) (pc := 55) dX3_takeDown_55 rfl ?_
    refine pw_if_eq (t := 64) (pc := 57) dX3_takeDown_57 (by decide) (by first | omega) (fun c57 => ?_) (fun c57 => ?_)
    · refine pw_iconst (pc := 64) dX3_takeDown_64 ?_
      refine pw_iast (pc := 65) dX3_takeDown_65 (hC _ (by omega)) (kd3_6 ho_m) 40 (ln3_6 ho_m) (by first | omega) (by first | omega) (by first | omega) (by first | omega) ?_
      obtain ⟨g65, e65⟩ : ∃ x, x = up_ g46 (m + 6) (((h m 5) * 4) + 3) 0 := ⟨_, rfl⟩
      refine pw_heq e65 ?_
      refine pw_aload_n (z := m) (pc := 66) dX3_takeDown_66 rfl rfl ?_
      refine pw_dup (pc := 67) dX3_takeDown_67 rfl ?_
      refine pw_gI (x := 5) (pc := 68) dX3_takeDown_68 fX3_33 (hC _ (by omega)) (kd3_0 ho_m) rfl rfl (fun r68 => ?_)
      have n_g65_m_5 : g65 m 5 = h m 5 := ((((show g65 m 5 = g46 m 5 from (by rw [e65, up_off (by first | decide | omega)])).trans (show g46 m 5 = g36 m 5 from (by rw [e46, up_off (by first | decide | omega)]))).trans (show g36 m 5 = g26 m 5 from (by rw [e36, up_off (by first | decide | omega)]))).trans (show g26 m 5 = h m 5 from (by rw [e26, up_off (by first | decide | omega)])))
      rw [n_g65_m_5] at r68 ⊢
      refine pw_iconst (pc := 71) dX3_takeDown_71 ?_
      refine pw_iadd (pc := 72) dX3_takeDown_72 ?_
      refine pw_pI (x := 5) (pc := 73) dX3_takeDown_73 fX3_33 (hC _ (by omega)) (kd3_0 ho_m) rfl rfl (by first | omega | (simp only [n_g65_m_5]; omega)) ?_
      obtain ⟨g73, e73⟩ : ∃ x, x = up_ g65 m 5 ((h m 5) + 1) := ⟨_, rfl⟩
      refine pw_heq e73 ?_
      refine pw_iconst (pc := 76) dX3_takeDown_76 ?_
      exact pw_zret (pc := 77) dX3_takeDown_77 (by first | omega | (simp only [n_g65_m_5]; omega)) (Or.inr ⟨rfl, by omega, by rw [e73, e65, e46, e36, e26]; exact off_up (off_up (off_up (off_up (off_up off_rf (by simp)) (by simp)) (by simp)) (by simp)) (by simp), fun k hk => by rw [e73, up_at, if_neg hk, e65, e46, e36, e26, up_off (by omega), up_off (by omega), up_off (by omega), up_off (by omega)], by rw [e73, up_same], fun x hx => by
            rw [e73, up_off (by omega), e65, up_at, if_neg (by omega), e46, up_at, if_neg (by omega), e36, up_at, if_neg (by omega), e26, up_at, if_neg (by omega)], by
            rw [e73, up_off (by omega), e65, up_at, if_neg (by omega), e46, up_at, if_neg (by omega), e36, up_at, if_neg (by omega), e26, up_at, if_pos (by omega)], by
            rw [e73, up_off (by omega), e65, up_at, if_neg (by omega), e46, up_at, if_neg (by omega), e36, up_at, if_pos (by omega)], by
            rw [e73, up_off (by omega), e65, up_at, if_neg (by omega), e46, up_at, if_pos (by omega)], by
            rw [e73, up_off (by omega), e65, up_at, if_pos (by omega)]; omega⟩)
    · refine pw_iconst (pc := 60) dX3_takeDown_60 ?_
      refine pw_goto (t := 65) (pc := 61) dX3_takeDown_61 (by decide) ?_
      refine pw_iast (pc := 65) dX3_takeDown_65 (hC _ (by omega)) (kd3_6 ho_m) 40 (ln3_6 ho_m) (by first | omega) (by first | omega) (by first | omega) (by first | omega) ?_
      obtain ⟨g65, e65⟩ : ∃ x, x = up_ g46 (m + 6) (((h m 5) * 4) + 3) 1 := ⟨_, rfl⟩
      refine pw_heq e65 ?_
      refine pw_aload_n (z := m) (pc := 66) dX3_takeDown_66 rfl rfl ?_
      refine pw_dup (pc := 67) dX3_takeDown_67 rfl ?_
      refine pw_gI (x := 5) (pc := 68) dX3_takeDown_68 fX3_33 (hC _ (by omega)) (kd3_0 ho_m) rfl rfl (fun r68 => ?_)
      have n_g65_m_5 : g65 m 5 = h m 5 := ((((show g65 m 5 = g46 m 5 from (by rw [e65, up_off (by first | decide | omega)])).trans (show g46 m 5 = g36 m 5 from (by rw [e46, up_off (by first | decide | omega)]))).trans (show g36 m 5 = g26 m 5 from (by rw [e36, up_off (by first | decide | omega)]))).trans (show g26 m 5 = h m 5 from (by rw [e26, up_off (by first | decide | omega)])))
      rw [n_g65_m_5] at r68 ⊢
      refine pw_iconst (pc := 71) dX3_takeDown_71 ?_
      refine pw_iadd (pc := 72) dX3_takeDown_72 ?_
      refine pw_pI (x := 5) (pc := 73) dX3_takeDown_73 fX3_33 (hC _ (by omega)) (kd3_0 ho_m) rfl rfl (by first | omega | (simp only [n_g65_m_5]; omega)) ?_
      obtain ⟨g73, e73⟩ : ∃ x, x = up_ g65 m 5 ((h m 5) + 1) := ⟨_, rfl⟩
      refine pw_heq e73 ?_
      refine pw_iconst (pc := 76) dX3_takeDown_76 ?_
      exact pw_zret (pc := 77) dX3_takeDown_77 (by first | omega | (simp only [n_g65_m_5]; omega)) (Or.inr ⟨rfl, by omega, by rw [e73, e65, e46, e36, e26]; exact off_up (off_up (off_up (off_up (off_up off_rf (by simp)) (by simp)) (by simp)) (by simp)) (by simp), fun k hk => by rw [e73, up_at, if_neg hk, e65, e46, e36, e26, up_off (by omega), up_off (by omega), up_off (by omega), up_off (by omega)], by rw [e73, up_same], fun x hx => by
            rw [e73, up_off (by omega), e65, up_at, if_neg (by omega), e46, up_at, if_neg (by omega), e36, up_at, if_neg (by omega), e26, up_at, if_neg (by omega)], by
            rw [e73, up_off (by omega), e65, up_at, if_neg (by omega), e46, up_at, if_neg (by omega), e36, up_at, if_neg (by omega), e26, up_at, if_pos (by omega)], by
            rw [e73, up_off (by omega), e65, up_at, if_neg (by omega), e46, up_at, if_neg (by omega), e36, up_at, if_pos (by omega)], by
            rw [e73, up_off (by omega), e65, up_at, if_neg (by omega), e46, up_at, if_pos (by omega)], by
            rw [e73, up_off (by omega), e65, up_at, if_pos (by omega)]; omega⟩)
  · refine pw_iconst (pc := 9) dX3_takeDown_9 ?_
    exact pw_zret (pc := 10) dX3_takeDown_10 (by first | omega) (Or.inl ⟨rfl, rfl, by omega⟩)

