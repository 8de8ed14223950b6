theorem dis_cg {si sj : Int → Int} {r : Int} {n : Nat} (hr : si r = sj r) (h : ∀ e : Int, 0 ≤ e → e < n → si e = sj e) : dis_ si r n ↔ dis_ sj r n := by
  rw [dis_i, dis_i]
  constructor
  · intro u e a b; rw [← h e a b, ← hr]; exact u e a b
  · intro u e a b; rw [h e a b, hr]; exact u e a b
theorem sea_cg {S : Int} {si sj : Int → Int} : ∀ {n : Nat}, (∀ e : Int, 0 ≤ e → e < n → si e = sj e) → (sea_ S si n ↔ sea_ S sj n)
  | 0, _ => Iff.rfl
  | n + 1, h => by
    show sea_ S si n ∧ _ ↔ sea_ S sj n ∧ _
    rw [sea_cg (n := n) (fun e a b => h e a (by omega)), h n (by omega) (by omega), dis_cg (h n (by omega) (by omega)) (fun e a b => h e a (by omega))]
theorem alw_lpl {ro f : Int → Int} {p : Int} (hS : 2 ≤ ro 0 ∧ ro 0 ≤ 4) (hR : 0 ≤ ro 2 ∧ ro 2 ≤ 4) (hv : vp_ok (ro 0) (ro 2) p) (hf : ∀ r, 0 ≤ r → r < ro 2 → f r = dg_ (ro 2) p r) : alw_ ro f ↔ lpl_ ro p := by
  unfold alw_ lpl_ lp1_
  rw [sea_cg (sj := dg_ (ro 2) p) (fun e a b => hf e a (by omega)), lwf_cg (sj := dg_ (ro 2) p) (fun e a b => hf e a (by omega))]
  exact ⟨fun u => ⟨hv, u.2⟩, fun u => ⟨((vp_sea hS hR).mp hv).2.2, u.2⟩⟩
theorem lpn_y {ro : Int → Int} {p : Int} (h : 0 ≤ p) (hl : lpl_ ro p) : lpn_ ro (p + 1).toNat = lpn_ ro p.toNat ++ [p] := by rw [lpn_s h, if_t hl]
theorem lpn_n {ro : Int → Int} {p : Int} (h : 0 ≤ p) (hl : ¬ lpl_ ro p) : lpn_ ro (p + 1).toNat = lpn_ ro p.toNat := by rw [lpn_s h, if_f hl, List.append_nil]
theorem lpn_all {ro : Int → Int} (hS : 2 ≤ ro 0 ∧ ro 0 ≤ 4) (hR : 0 ≤ ro 2 ∧ ro 2 ≤ 4) : ∀ k : Nat, lpn_ ro (((2 : Int) ^ (2 * ro 2).toNat).toNat + k) = lpn_ ro ((2 : Int) ^ (2 * ro 2).toNat).toNat
  | 0 => rfl
  | k + 1 => by
    show lpn_ ro ((((2 : Int) ^ (2 * ro 2).toNat).toNat + k) + 1) = _
    have e := lpn_n (ro := ro) (p := ((((2 : Int) ^ (2 * ro 2).toNat).toNat + k : Nat) : Int)) (by omega) (fun u => by
      have := ((vp_sea hS hR).mp u.1).2.1
      have := p2R hR.1 hR.2
      omega)
    rw [show ((((((2 : Int) ^ (2 * ro 2).toNat).toNat + k : Nat) : Int)) + 1).toNat = (((2 : Int) ^ (2 * ro 2).toNat).toNat + k) + 1 by omega, Int.toNat_natCast] at e
    rw [e, lpn_all hS hR k]
theorem lpn_256 {ro : Int → Int} (hS : 2 ≤ ro 0 ∧ ro 0 ≤ 4) (hR : 0 ≤ ro 2 ∧ ro 2 ≤ 4) : lpn_ ro ((2 : Int) ^ (2 * ro 2).toNat).toNat = lpn_ ro 256 := by
  have := p2R hR.1 hR.2
  rw [← lpn_all hS hR (256 - ((2 : Int) ^ (2 * ro 2).toNat).toNat)]
  congr 1
  omega
theorem lpn_lt {ro : Int → Int} {p : Int} (hS : 2 ≤ ro 0 ∧ ro 0 ≤ 4) (hR : 0 ≤ ro 2 ∧ ro 2 ≤ ro 0) (h0 : 0 ≤ p) (h1 : p < 256) (hl : lpl_ ro p) : (lpn_ ro p.toNat).length < 24 := by
  have a := lpn_24 hS hR
  have b := lpn_mono (ro := ro) (a := (p + 1).toNat) (b := 256) (by omega)
  rw [lpn_y h0 hl] at b
  simp at b
  omega
/-- the road's plans are listed -/
def CPL_ (ro : Int → Int) (h : PH_) (o : Nat) : Prop := h o 7 = ((lpn_ ro 256).length : Int) ∧ arr_ (h (o + 14)) (lpn_ ro 256)

set_option maxHeartbeats 4000000 in
set_option maxRecDepth 100000 in
theorem d_listPlans {G : GT_} (hC : okC_ G) (h : PH_) (o : Nat) (ho : is6_ o) (ro : Int → Int) (H : CRD_ ro h o) (a : Nat) (k_a : kd_ a = 0) (l_a : ln_ a = 4) (ha : 36 ≤ a ∧ a < 173) : PC G yX6_listPlans cX6_listPlans 3 none 5 [rr_ G o, rr_ G a] h (qv_ (fun h' => off_ [o, o + 14, a] h h' ∧ (∀ k, k ≠ 7 → h' o k = h o k) ∧ CPL_ ro h' o)) := by
  have HB := H.2.1
  have HA := H.1
  refine PC.of (lv := [some (rr_ G o), some (rr_ G a), none]) (by decide +kernel) (Nat.le_of_ble_eq_true rfl) rfl rfl ?_
  refine pw_aload_n (z := o) (pc := 0) dX6_listPlans_0 rfl rfl ?_
  refine pw_iconst (pc := 1) dX6_listPlans_1 ?_
  refine pw_pI (x := 7) (pc := 2) dX6_listPlans_2 fX6_76 (hC _ (by omega)) (kd6_0 ho) rfl rfl (by first | omega) ?_
  obtain ⟨g2, e2⟩ : ∃ x, x = up_ h o 7 0 := ⟨_, rfl⟩
  refine pw_heq e2 ?_
  refine pw_iconst (pc := 5) dX6_listPlans_5 ?_
  refine pw_istore_n (lv1 := [some (rr_ G o), some (rr_ G a), some (ii_ 0)]) (pc := 6) dX6_listPlans_6 rfl (by decide) rfl rfl ?_
  have L7 : ∀ (nn : Nat) (n : Int) (hq : PH_), (0 ≤ n ∧ n ≤ 2 ^ (2 * ro 2).toNat) → (off_ [o, o + 14, a] h hq) → (∀ k, k ≠ 7 → hq o k = h o k) → (hq o 7 = ((lpn_ ro n.toNat).length : Int)) → (arr_ (hq (o + 14)) (lpn_ ro n.toNat)) → ((2 ^ (2 * ro 2).toNat - n + 1 : Int) ≤ nn) → PW G RX6 cX6_listPlans 3 none (rm_ 5) 0 0 (zm_ G (qv_ (fun h' => off_ [o, o + 14, a] h h' ∧ (∀ k, k ≠ 7 → h' o k = h o k) ∧ CPL_ ro h' o))) 7 [some (rr_ G o), some (rr_ G a), some (ii_ n)] [] hq := by
    intro nn
    induction nn with
    | zero => intro n hq ak af ag ac ad ams; exfalso; omega
    | succ nn ih7 =>
      intro n hq ak af ag ac ad ams
      have Hq : CRD_ ro hq o := CRD_cg H ag (af _ (by simp; omega)) (af _ (by simp; omega)) (af _ (by simp; omega)) (af _ (by simp; omega)) (af _ (by simp; omega)) (af _ (by simp; omega))
      have e2q : hq o 2 = ro 2 := Hq.1.2.2.1
      have p2 := p2R (R := hq o 2) (by omega) (by omega)
      have e3 : (2 : Int) ^ (2 * hq o 2).toNat = 2 ^ (2 * ro 2).toNat := by rw [e2q]
      refine pw_iload_n (z := n) (pc := 7) dX6_listPlans_7 rfl rfl ?_
      refine pw_iconst (pc := 8) dX6_listPlans_8 ?_
      refine pw_iconst (pc := 9) dX6_listPlans_9 ?_
      refine pw_aload_n (z := o) (pc := 10) dX6_listPlans_10 rfl rfl ?_
      refine pw_gI (x := 2) (pc := 11) dX6_listPlans_11 fX6_60 (hC _ (by omega)) (kd6_0 ho) rfl rfl (fun r11 => ?_)
      refine pw_imul (pc := 14) dX6_listPlans_14 ?_
      refine pw_ishl1 (pc := 15) dX6_listPlans_15 (by first | omega) ?_
      refine pw_icmp_ge (t := 71) (pc := 16) dX6_listPlans_16 (by decide) (by first | omega) (by first | omega) (fun c16 => ?_) (fun c16 => ?_)
      · exact pw_vret (pc := 71) dX6_listPlans_71 (⟨af, ag, by have := lpn_256 (ro := ro) (by omega) (by omega); rw [show (2 : Int) ^ (2 * ro 2).toNat = n by omega] at this; unfold CPL_; rw [← this]; exact ⟨ac, ad⟩⟩)
      · 
        have J65 : ∀ (hz : PH_), (off_ [o, o + 14, a] h hz) → (∀ k, k ≠ 7 → hz o k = h o k) → (hz o 7 = ((lpn_ ro (n + 1).toNat).length : Int)) → (arr_ (hz (o + 14)) (lpn_ ro (n + 1).toNat)) → PW G RX6 cX6_listPlans 3 none (rm_ 5) 0 0 (zm_ G (qv_ (fun h' => off_ [o, o + 14, a] h h' ∧ (∀ k, k ≠ 7 → h' o k = h o k) ∧ CPL_ ro h' o))) 65 [some (rr_ G o), some (rr_ G a), some (ii_ n)] [] hz := by
          intro hz bf bg bc bd
          refine pw_iinc (z := n) (lv1 := [some (rr_ G o), some (rr_ G a), some (ii_ (n + 1))]) (pc := 65) dX6_listPlans_65 rfl (by decide) rfl rfl ?_
          refine pw_goto (t := 7) (pc := 68) dX6_listPlans_68 (by decide) ?_
          exact ih7 _ _ (by omega) (bf) (bg) (bc) (bd) (by omega)
        refine pw_aload_n (z := o) (pc := 19) dX6_listPlans_19 rfl rfl ?_
        refine pw_iload_n (z := n) (pc := 20) dX6_listPlans_20 rfl rfl ?_
        refine pw_aload_n (z := a) (pc := 21) dX6_listPlans_21 rfl rfl ?_
        refine pw_callV (c := 6) (o := o) (As := [ii_ n, rr_ G a]) (rest := []) (pc := 22) dX6_listPlans_22 (d_unpack hC hq o ho ro Hq a k_a l_a ha n (by first | omega)) lX6_112 mX6_unpack vX6_unpack (hC _ (by omega)) (kd6_0 ho) rfl rfl rfl (by decide) ⟨Nat.zero_le _, Nat.zero_le _⟩ (Nat.le_of_ble_eq_true rfl) (k_i (fun z22 h22 y22 q22 => ?_))
        obtain ⟨f22, ⟨rfl, p22⟩ | ⟨rfl, p22⟩, g22⟩ := q22
        · have H22 := CRD_off Hq ho f22 (by simp; omega)
          have ea : h22 (o + 14) = hq (o + 14) := f22 _ (by simp; omega)
          have eo : h22 o = hq o := f22 _ (by simp; omega)
          have fz : off_ [o, o + 14, a] h h22 := off_tr af (off_mo f22 (by simp))
          have g22b := g22 rfl
          have al := alw_lpl (by omega) (by omega) p22 g22b
          refine pw_if_eq (t := 65) (pc := 25) dX6_listPlans_25 (by decide) (by first | omega) (fun c25 => absurd c25 (by decide)) (fun _ => ?_)
          refine pw_aload_n (z := o) (pc := 28) dX6_listPlans_28 rfl rfl ?_
          refine pw_aload_n (z := a) (pc := 29) dX6_listPlans_29 rfl rfl ?_
          refine pw_callV (c := 6) (o := o) (As := [rr_ G a]) (rest := []) (pc := 30) dX6_listPlans_30 (d_allows hC h22 o ho ro H22 a k_a l_a ha (fun r u1 u2 => by have := dg_b (ro 2) n r; rw [g22b r u1 u2]; omega)) lX6_116 mX6_allows vX6_allows (hC _ (by omega)) (kd6_0 ho) rfl rfl rfl (by decide) ⟨Nat.zero_le _, Nat.zero_le _⟩ (Nat.le_of_ble_eq_true rfl) (k_i (fun z30 h30 y30 q30 => ?_))
          obtain ⟨rfl, ⟨rfl, p30⟩ | ⟨rfl, p30⟩⟩ := q30
          · have l24 := lpn_lt (by omega) (by omega) ak.1 (by omega) (al.mp p30)
            refine pw_if_eq (t := 65) (pc := 33) dX6_listPlans_33 (by decide) (by first | omega) (fun c33 => absurd c33 (by decide)) (fun _ => ?_)
            refine pw_aload_n (z := o) (pc := 36) dX6_listPlans_36 rfl rfl ?_
            refine pw_gI (x := 7) (pc := 37) dX6_listPlans_37 fX6_76 (hC _ (by omega)) (kd6_0 ho) rfl rfl (fun r37 => ?_)
            have n_h22_o_7 : h22 o 7 = hq o 7 := (congrFun (f22 o (by first | decide | (simp; done) | (simp; omega))) 7)
            rw [n_h22_o_7] at r37 ⊢
            refine pw_bipush (pc := 40) dX6_listPlans_40 rfl ?_
            refine pw_icmp_ge (t := 65) (pc := 42) dX6_listPlans_42 (by decide) (by first | omega | (simp only [n_h22_o_7]; omega)) (by first | omega | (simp only [n_h22_o_7]; omega)) (fun c42 => ?_) (fun c42 => ?_)
            · exact J65 _ (by first | exact fz | (rw [e62, e54]; exact off_up (off_up fz (by simp)) (by simp))) (by first | (intro k hk; rw [eo]; exact ag k hk) | (intro k hk; rw [e62, up_at, if_neg hk, e54, up_off (by omega), eo]; exact ag k hk)) (by first | (exfalso; omega) | (rw [lpn_n ak.1 (fun u => p22 u.1), eo]; exact ac) | (rw [lpn_n ak.1 (fun u => p30 (al.mpr u)), eo]; exact ac) | (rw [lpn_y ak.1 (al.mp p30), e62, up_same, ac]; simp)) (by first | (exfalso; omega) | (rw [lpn_n ak.1 (fun u => p22 u.1), ea]; exact ad) | (rw [lpn_n ak.1 (fun u => p30 (al.mpr u)), ea]; exact ad) | (rw [lpn_y ak.1 (al.mp p30), e62, up_off (by omega), e54]; rw [show up_ h22 (o + 14) (hq o 7) n (o + 14) = ob_ (hq (o + 14)) (lpn_ ro n.toNat).length n by funext y; rw [up_at, ea, ac]; rfl]; exact arr_push ad))
            · refine pw_aload_n (z := o) (pc := 45) dX6_listPlans_45 rfl rfl ?_
              refine pw_getR (r := (o + 14)) (pc := 46) dX6_listPlans_46 fX6_47 (hC _ (by omega)) (kd6_0 ho) rfl rfl ?_
              refine pw_aload_n (z := o) (pc := 49) dX6_listPlans_49 rfl rfl ?_
              refine pw_gI (x := 7) (pc := 50) dX6_listPlans_50 fX6_76 (hC _ (by omega)) (kd6_0 ho) rfl rfl (fun r50 => ?_)
              rw [n_h22_o_7] at r50 ⊢
              refine pw_iload_n (z := n) (pc := 53) dX6_listPlans_53 rfl rfl ?_
              refine pw_iast (pc := 54) dX6_listPlans_54 (hC _ (by omega)) (kd6_14 ho) 24 (ln6_14 ho) (by first | omega | (simp only [n_h22_o_7]; omega)) (by first | omega | (simp only [n_h22_o_7]; omega)) (by first | omega | (simp only [n_h22_o_7]; omega)) (by first | omega | (simp only [n_h22_o_7]; omega)) ?_
              obtain ⟨g54, e54⟩ : ∃ x, x = up_ h22 (o + 14) (hq o 7) n := ⟨_, rfl⟩
              refine pw_heq e54 ?_
              have e54b : (lpn_ ro n.toNat).length = hq o 7 := ac.symm
              refine pw_aload_n (z := o) (pc := 55) dX6_listPlans_55 rfl rfl ?_
              refine pw_dup (pc := 56) dX6_listPlans_56 rfl ?_
              refine pw_gI (x := 7) (pc := 57) dX6_listPlans_57 fX6_76 (hC _ (by omega)) (kd6_0 ho) rfl rfl (fun r57 => ?_)
              have n_g54_o_7 : g54 o 7 = hq o 7 := ((show g54 o 7 = h22 o 7 from (by rw [e54, up_off (by first | decide | omega)])).trans (show h22 o 7 = hq o 7 from (congrFun (f22 o (by first | decide | (simp; done) | (simp; omega))) 7)))
              rw [n_g54_o_7] at r57 ⊢
              refine pw_iconst (pc := 60) dX6_listPlans_60 ?_
              refine pw_iadd (pc := 61) dX6_listPlans_61 ?_
              refine pw_pI (x := 7) (pc := 62) dX6_listPlans_62 fX6_76 (hC _ (by omega)) (kd6_0 ho) rfl rfl (by first | omega | (simp only [n_g54_o_7, n_h22_o_7]; omega)) ?_
              obtain ⟨g62, e62⟩ : ∃ x, x = up_ g54 o 7 ((hq o 7) + 1) := ⟨_, rfl⟩
              refine pw_heq e62 ?_
              exact J65 _ (by first | exact fz | (rw [e62, e54]; exact off_up (off_up fz (by simp)) (by simp))) (by first | (intro k hk; rw [eo]; exact ag k hk) | (intro k hk; rw [e62, up_at, if_neg hk, e54, up_off (by omega), eo]; exact ag k hk)) (by first | (exfalso; omega) | (rw [lpn_n ak.1 (fun u => p22 u.1), eo]; exact ac) | (rw [lpn_n ak.1 (fun u => p30 (al.mpr u)), eo]; exact ac) | (rw [lpn_y ak.1 (al.mp p30), e62, up_same, ac]; simp)) (by first | (exfalso; omega) | (rw [lpn_n ak.1 (fun u => p22 u.1), ea]; exact ad) | (rw [lpn_n ak.1 (fun u => p30 (al.mpr u)), ea]; exact ad) | (rw [lpn_y ak.1 (al.mp p30), e62, up_off (by omega), e54]; rw [show up_ h22 (o + 14) (hq o 7) n (o + 14) = ob_ (hq (o + 14)) (lpn_ ro n.toNat).length n by funext y; rw [up_at, ea, ac]; rfl]; exact arr_push ad))
          · refine pw_if_eq (t := 65) (pc := 33) dX6_listPlans_33 (by decide) (by first | omega) (fun _ => ?_) (fun c33 => absurd c33 (by decide))
            exact J65 _ (by first | exact fz | (rw [e62, e54]; exact off_up (off_up fz (by simp)) (by simp))) (by first | (intro k hk; rw [eo]; exact ag k hk) | (intro k hk; rw [e62, up_at, if_neg hk, e54, up_off (by omega), eo]; exact ag k hk)) (by first | (exfalso; omega) | (rw [lpn_n ak.1 (fun u => p22 u.1), eo]; exact ac) | (rw [lpn_n ak.1 (fun u => p30 (al.mpr u)), eo]; exact ac) | (rw [lpn_y ak.1 (al.mp p30), e62, up_same, ac]; simp)) (by first | (exfalso; omega) | (rw [lpn_n ak.1 (fun u => p22 u.1), ea]; exact ad) | (rw [lpn_n ak.1 (fun u => p30 (al.mpr u)), ea]; exact ad) | (rw [lpn_y ak.1 (al.mp p30), e62, up_off (by omega), e54]; rw [show up_ h22 (o + 14) (hq o 7) n (o + 14) = ob_ (hq (o + 14)) (lpn_ ro n.toNat).length n by funext y; rw [up_at, ea, ac]; rfl]; exact arr_push ad))
        · have H22 := CRD_off Hq ho f22 (by simp; omega)
          have ea : h22 (o + 14) = hq (o + 14) := f22 _ (by simp; omega)
          have eo : h22 o = hq o := f22 _ (by simp; omega)
          have fz : off_ [o, o + 14, a] h h22 := off_tr af (off_mo f22 (by simp))
          refine pw_if_eq (t := 65) (pc := 25) dX6_listPlans_25 (by decide) (by first | omega) (fun _ => ?_) (fun c25 => absurd c25 (by decide))
          exact J65 _ (by first | exact fz | (rw [e62, e54]; exact off_up (off_up fz (by simp)) (by simp))) (by first | (intro k hk; rw [eo]; exact ag k hk) | (intro k hk; rw [e62, up_at, if_neg hk, e54, up_off (by omega), eo]; exact ag k hk)) (by first | (exfalso; omega) | (rw [lpn_n ak.1 (fun u => p22 u.1), eo]; exact ac) | (rw [lpn_n ak.1 (fun u => p30 (al.mpr u)), eo]; exact ac) | (rw [lpn_y ak.1 (al.mp p30), e62, up_same, ac]; simp)) (by first | (exfalso; omega) | (rw [lpn_n ak.1 (fun u => p22 u.1), ea]; exact ad) | (rw [lpn_n ak.1 (fun u => p30 (al.mpr u)), ea]; exact ad) | (rw [lpn_y ak.1 (al.mp p30), e62, up_off (by omega), e54]; rw [show up_ h22 (o + 14) (hq o 7) n (o + 14) = ob_ (hq (o + 14)) (lpn_ ro n.toNat).length n by funext y; rw [up_at, ea, ac]; rfl]; exact arr_push ad))
  exact L7 _ _ _ (⟨by omega, by have := p2R (R := ro 2) (by omega) (by omega); omega⟩) (by rw [e2]; exact off_up off_rf (by simp)) (fun k hk => by rw [e2, up_at, if_neg hk]) (by rw [e2, up_same]; rfl) (fun k hk => by cases hk) (Int.self_le_toNat _)

