theorem sen_cg2 {f si sj : Int → Int} {t m : Int} (hm : 0 ≤ m) (h : ∀ k, 0 ≤ k → k < m → si (f (31 + 4 * k)) = sj (f (31 + 4 * k))) : sen_ f si t m.toNat ↔ sen_ f sj t m.toNat := by
  have key : ∀ n : Nat, (n : Int) ≤ m → (sen_ f si t n ↔ sen_ f sj t n) := by
    intro n
    induction n with
    | zero => intro _; exact Iff.rfl
    | succ n ih =>
      intro hn
      show (sen_ f si t n ∧ _) ↔ (sen_ f sj t n ∧ _)
      rw [ih (by omega), h n (by omega) (by omega)]
  exact key m.toNat (by omega)

set_option maxHeartbeats 4000000 in
set_option maxRecDepth 100000 in
theorem d_countFitting {G : GT_} (hC : okC_ G) (h : PH_) (o : Nat) (ho : is6_ o) (hL : h 0 2 = (o : Int)) (ro : Int → Int) (H : CRD_ ro h o) (hj : CPL_ ro h o) (f : Int → Int) (hq : SNC_ ro f h) : PC G yX11_countFitting cX11_countFitting 5 (some .int) 5 [rr_ G 0] h (qi_ (fun z h' => off_ [148, 149] h h' ∧ z = ((pQ_ (lpn_ ro 256).length (SEF_ ro f) (ro 1).toNat : Nat) : Int) ∧ ∀ t : Nat, (t : Int) < ro 1 → ∃ n : Nat, h' 148 (t : Int) = (n : Int) ∧ FSN_ (fun k => SEF_ ro f k (t : Int)) (lpn_ ro 256).length n)) := by
  have hL_h := hL
  have HB := H.2.1
  have HA := H.1
  have l24 := lpn_24 (ro := ro) HB.1 HB.2.1
  have pc0 := hj.1
  have f30b := hq.1
  have pb := pQ_b (N := (lpn_ ro 256).length) (SE := SEF_ ro f) l24 (ro 1).toNat
  have pb2 := Nat.pow_le_pow_right (show 0 < 24 by decide) (show (ro 1).toNat ≤ 4 by omega)
  refine PC.of (lv := [some (rr_ G 0), none, none, none, none]) (by decide +kernel) (Nat.le_of_ble_eq_true rfl) rfl rfl ?_
  refine pw_iconst (pc := 0) dX11_countFitting_0 ?_
  refine pw_istore_n (lv1 := [some (rr_ G 0), some (ii_ 1), none, none, none]) (pc := 1) dX11_countFitting_1 rfl (by decide) rfl rfl ?_
  refine pw_iconst (pc := 2) dX11_countFitting_2 ?_
  refine pw_istore_n (lv1 := [some (rr_ G 0), some (ii_ 1), some (ii_ 0), none, none]) (pc := 3) dX11_countFitting_3 rfl (by decide) rfl rfl ?_
  have L4 : ∀ (nn : Nat) (t : Int) (mv : Int) (hq2 : PH_), (0 ≤ t ∧ t ≤ ro 1) → (off_ [148, 149] h hq2) → (mv = ((pQ_ (lpn_ ro 256).length (SEF_ ro f) t.toNat : Nat) : Int)) → (∀ j : Nat, (j : Int) < t → ∃ n : Nat, hq2 148 (j : Int) = (n : Int) ∧ FSN_ (fun k => SEF_ ro f k (j : Int)) (lpn_ ro 256).length n) → ((ro 1 - t + 1 : Int) ≤ nn) → PW G RX11 cX11_countFitting 5 (some .int) (rm_ 5) 0 0 (zm_ G (qi_ (fun z h' => off_ [148, 149] h h' ∧ z = ((pQ_ (lpn_ ro 256).length (SEF_ ro f) (ro 1).toNat : Nat) : Int) ∧ ∀ t : Nat, (t : Int) < ro 1 → ∃ n : Nat, h' 148 (t : Int) = (n : Int) ∧ FSN_ (fun k => SEF_ ro f k (t : Int)) (lpn_ ro 256).length n))) 4 [some (rr_ G 0), some (ii_ mv), some (ii_ t), none, none] [] hq2 := by
    intro nn
    induction nn with
    | zero => intro t mv hq2 at_ aF am as_ ams; exfalso; omega
    | succ nn ih4 =>
      intro t mv hq2 at_ aF am as_ ams
      refine pw_iload_n (z := t) (pc := 4) dX11_countFitting_4 rfl rfl ?_
      refine pw_aload_n (z := 0) (pc := 5) dX11_countFitting_5 rfl rfl ?_
      have n_hq2_0_2 : hq2 0 2 = h 0 2 := (congrFun (aF 0 (by first | decide | (simp; done) | (simp; omega))) 2)
      refine pw_gD (x := 2) (r := o) (pc := 6) dX11_countFitting_6 fX11_28 (hC 0 (by decide)) (show kd_ 0 = 21 by decide +kernel) rfl rfl (n_hq2_0_2.trans hL_h) ?_
      refine pw_gI (x := 1) (pc := 9) dX11_countFitting_9 fX11_239 (hC _ (by omega)) (kd6_0 ho) rfl rfl (fun r9 => ?_)
      have n_hq2_o_1 : hq2 o 1 = h o 1 := (congrFun (aF o (by first | decide | (simp; done) | (simp; omega))) 1)
      rw [n_hq2_o_1] at r9 ⊢
      refine pw_icmp_ge (t := 104) (pc := 12) dX11_countFitting_12 (by decide) (by first | omega | (simp only [n_hq2_0_2, n_hq2_o_1]; omega)) (by first | omega | (simp only [n_hq2_0_2, n_hq2_o_1]; omega)) (fun c12 => ?_) (fun c12 => ?_)
      · have mvb : 0 ≤ mv ∧ mv ≤ 331776 := by
          have pb3 := pQ_b (N := (lpn_ ro 256).length) (SE := SEF_ ro f) l24 t.toNat
          have pb4 := Nat.pow_le_pow_right (show 0 < 24 by decide) (show t.toNat ≤ 4 by omega)
          have e : (24 : Nat) ^ 4 = 331776 := rfl
          rw [am]; omega
        refine pw_iload_n (z := mv) (pc := 104) dX11_countFitting_104 rfl rfl ?_
        exact pw_iret (pc := 105) dX11_countFitting_105 (by first | omega | (simp only [n_hq2_0_2, n_hq2_o_1]; omega)) (⟨aF, by rw [am, show t = ro 1 by omega], fun j hj => as_ j (by omega)⟩)
      · refine pw_iconst (pc := 15) dX11_countFitting_15 ?_
        refine pw_istore_n (lv1 := [some (rr_ G 0), some (ii_ mv), some (ii_ t), some (ii_ 0), none]) (pc := 16) dX11_countFitting_16 rfl (by decide) rfl rfl ?_
        refine pw_iconst (pc := 17) dX11_countFitting_17 ?_
        refine pw_istore (lv1 := [some (rr_ G 0), some (ii_ mv), some (ii_ t), some (ii_ 0), some (ii_ 0)]) (pc := 18) dX11_countFitting_18 (by decide) rfl rfl ?_
        have L20 : ∀ (nn : Nat) (i : Int) (sv : Int) (hr : PH_), (0 ≤ i ∧ i ≤ ((lpn_ ro 256).length : Int)) → (ir_ sv) → (off_ [149] hq2 hr) → (∃ n : Nat, sv = (n : Int) ∧ FSN_ (fun k => SEF_ ro f k t) i.toNat n) → ((((lpn_ ro 256).length : Int) - i + 1 : Int) ≤ nn) → PW G RX11 cX11_countFitting 5 (some .int) (rm_ 5) 0 0 (zm_ G (qi_ (fun z h' => off_ [148, 149] h h' ∧ z = ((pQ_ (lpn_ ro 256).length (SEF_ ro f) (ro 1).toNat : Nat) : Int) ∧ ∀ t : Nat, (t : Int) < ro 1 → ∃ n : Nat, h' 148 (t : Int) = (n : Int) ∧ FSN_ (fun k => SEF_ ro f k (t : Int)) (lpn_ ro 256).length n))) 20 [some (rr_ G 0), some (ii_ mv), some (ii_ t), some (ii_ sv), some (ii_ i)] [] hr := by
          intro nn
          induction nn with
          | zero => intro i sv hr ai asr arF asn ams; exfalso; omega
          | succ nn ih20 =>
            intro i sv hr ai asr arF asn ams
            have svb : 0 ≤ sv := by obtain ⟨n, e, F⟩ := asn; omega
            refine pw_iload (z := i) (pc := 20) dX11_countFitting_20 rfl ?_
            refine pw_aload_n (z := 0) (pc := 22) dX11_countFitting_22 rfl rfl ?_
            have n_hr_0_2 : hr 0 2 = h 0 2 := ((show hr 0 2 = hq2 0 2 from (congrFun (arF 0 (by first | decide | (simp; done) | (simp; omega))) 2)).trans (show hq2 0 2 = h 0 2 from (congrFun (aF 0 (by first | decide | (simp; done) | (simp; omega))) 2)))
            refine pw_gD (x := 2) (r := o) (pc := 23) dX11_countFitting_23 fX11_28 (hC 0 (by decide)) (show kd_ 0 = 21 by decide +kernel) rfl rfl (n_hr_0_2.trans hL_h) ?_
            refine pw_gI (x := 7) (pc := 26) dX11_countFitting_26 fX11_201 (hC _ (by omega)) (kd6_0 ho) rfl rfl (fun r26 => ?_)
            have n_hr_o_7 : hr o 7 = h o 7 := ((show hr o 7 = hq2 o 7 from (congrFun (arF o (by first | decide | (simp; done) | (simp; omega))) 7)).trans (show hq2 o 7 = h o 7 from (congrFun (aF o (by first | decide | (simp; done) | (simp; omega))) 7)))
            rw [n_hr_o_7] at r26 ⊢
            refine pw_icmp_ge (t := 84) (pc := 29) dX11_countFitting_29 (by decide) (by first | omega | (simp only [n_hq2_0_2, n_hq2_o_1, n_hr_0_2, n_hr_o_7]; omega)) (by first | omega | (simp only [n_hq2_0_2, n_hq2_o_1, n_hr_0_2, n_hr_o_7]; omega)) (fun c29 => ?_) (fun c29 => ?_)
            · have bs : 0 ≤ sv ∧ sv < 16777216 := by obtain ⟨n, e, F⟩ := asn; have := FSN_b F (by omega); omega
              have aFr : off_ [148, 149] h hr := off_tr aF (off_mo arF (by simp))
              refine pw_aload_n (z := 0) (pc := 84) dX11_countFitting_84 rfl rfl ?_
              refine pw_getR (r := 148) (pc := 85) dX11_countFitting_85 fX11_71 (hC 0 (by decide)) (show kd_ 0 = 21 by decide +kernel) rfl (by decide +kernel) ?_
              refine pw_iload_n (z := t) (pc := 88) dX11_countFitting_88 rfl rfl ?_
              refine pw_iload_n (z := sv) (pc := 89) dX11_countFitting_89 rfl rfl ?_
              refine pw_iast (pc := 90) dX11_countFitting_90 (hC 148 (by decide)) (show kd_ 148 = 0 by decide +kernel) 4 (by decide +kernel) (by first | omega | (simp only [n_hq2_0_2, n_hq2_o_1, n_hr_0_2, n_hr_o_7]; omega)) (by first | omega | (simp only [n_hq2_0_2, n_hq2_o_1, n_hr_0_2, n_hr_o_7]; omega)) (by first | omega | (simp only [n_hq2_0_2, n_hq2_o_1, n_hr_0_2, n_hr_o_7]; omega)) (by first | omega | (simp only [n_hq2_0_2, n_hq2_o_1, n_hr_0_2, n_hr_o_7]; omega)) ?_
              obtain ⟨g90, e90⟩ : ∃ x, x = up_ hr 148 t sv := ⟨_, rfl⟩
              refine pw_heq e90 ?_
              refine pw_iload_n (z := mv) (pc := 91) dX11_countFitting_91 rfl rfl ?_
              refine pw_iload_n (z := sv) (pc := 92) dX11_countFitting_92 rfl rfl ?_
              refine pw_callS (As := [ii_ sv]) (rest := [ii_ mv]) (pc := 93) dX11_countFitting_93 (j_bitCount g90 sv (by first | omega | (simp only [n_hq2_0_2, n_hq2_o_1, n_hr_0_2, n_hr_o_7]; omega))) lX11_384 mJ6_bitCount_0f7a4 sJ6_bitCount_0f7a4 rfl rfl (by decide) ⟨Nat.zero_le _, Nat.zero_le _⟩ (Nat.le_of_ble_eq_true rfl) (k_i (fun z93 h93 y93 q93 => ?_))
              obtain ⟨rfl, w93, b93⟩ := q93
              refine pw_imul (pc := 96) dX11_countFitting_96 ?_
              refine pw_istore_n (lv1 := [some (rr_ G 0), some (ii_ (mv * z93)), some (ii_ t), some (ii_ sv), some (ii_ i)]) (pc := 97) dX11_countFitting_97 rfl (by decide) rfl rfl ?_
              have M98 : mv * z93 = ((pQ_ (lpn_ ro 256).length (SEF_ ro f) (t + 1).toNat : Nat) : Int) := by
                obtain ⟨n, e, F⟩ := asn
                rw [show i = ((lpn_ ro 256).length : Int) by omega, Int.toNat_natCast] at F
                have c := FSN_cnt F l24
                rw [w93, e, c, am, tn_s at_.1]
                show _ = ((pQ_ (lpn_ ro 256).length (SEF_ ro f) t.toNat * nA_ (fun k => SEF_ ro f k (t.toNat : Int)) (lpn_ ro 256).length : Nat) : Int)
                rw [tn_c at_.1, Int.natCast_mul]
              have F98 : off_ [148, 149] h g90 := by rw [e90]; exact off_up aFr (by simp)
              have A98 : ∀ j : Nat, (j : Int) < t + 1 → ∃ n : Nat, g90 148 (j : Int) = (n : Int) ∧ FSN_ (fun k => SEF_ ro f k (j : Int)) (lpn_ ro 256).length n := fun j hj => by
                by_cases c : (j : Int) = t
                · obtain ⟨n, e, F⟩ := asn
                  rw [show i = ((lpn_ ro 256).length : Int) by omega, Int.toNat_natCast] at F
                  exact ⟨n, by rw [e90, c, up_same]; exact e, by rw [c]; exact F⟩
                · obtain ⟨n, e, F⟩ := as_ j (by omega)
                  exact ⟨n, by rw [e90, up_at, if_neg c, arF 148 (by simp)]; exact e, F⟩
              refine pw_iinc (z := t) (lv1 := [some (rr_ G 0), some (ii_ (mv * z93)), some (ii_ (t + 1)), some (ii_ sv), some (ii_ i)]) (pc := 98) dX11_countFitting_98 rfl (by decide) rfl rfl ?_
              refine pw_goto (t := 4) (pc := 101) dX11_countFitting_101 (by decide) ?_
              refine pw_less (lv1 := [some (rr_ G 0), some (ii_ (mv * z93)), some (ii_ (t + 1)), none, none]) rfl (by intro i v; (match i with | 0 => simp | 1 => simp | 2 => simp | 3 => simp | 4 => simp | n + 5 => simp)) ?_
              exact ih4 _ _ _ (by omega) (F98) (M98) (A98) (by omega)
            · have pl := arr_at hj.2 ai.1 (show i < ((lpn_ ro 256).length : Int) by omega)
              have pl : h (o + 14) i = pL_ ro i := pl
              have pn := pL_in (ro := ro) (k := i) ⟨ai.1, by omega⟩
              have aFr : off_ [148, 149] h hr := off_tr aF (off_mo arF (by simp))
              have Hr : CRD_ ro hr o := CRD_off H ho aFr (by simp)
              refine pw_aload_n (z := 0) (pc := 32) dX11_countFitting_32 rfl rfl ?_
              refine pw_gD (x := 2) (r := o) (pc := 33) dX11_countFitting_33 fX11_28 (hC 0 (by decide)) (show kd_ 0 = 21 by decide +kernel) rfl rfl (n_hr_0_2.trans hL_h) ?_
              refine pw_aload_n (z := 0) (pc := 36) dX11_countFitting_36 rfl rfl ?_
              refine pw_gD (x := 2) (r := o) (pc := 37) dX11_countFitting_37 fX11_28 (hC 0 (by decide)) (show kd_ 0 = 21 by decide +kernel) rfl rfl (n_hr_0_2.trans hL_h) ?_
              refine pw_getR (r := (o + 14)) (pc := 40) dX11_countFitting_40 fX11_379 (hC _ (by omega)) (kd6_0 ho) rfl rfl ?_
              refine pw_iload (z := i) (pc := 43) dX11_countFitting_43 rfl ?_
              refine pw_iald (pc := 45) dX11_countFitting_45 (hC _ (by omega)) (kd6_14 ho) 24 (ln6_14 ho) (by first | omega | (simp only [n_hq2_0_2, n_hq2_o_1, n_hr_0_2, n_hr_o_7]; omega)) (by first | omega | (simp only [n_hq2_0_2, n_hq2_o_1, n_hr_0_2, n_hr_o_7]; omega)) (by first | omega | (simp only [n_hq2_0_2, n_hq2_o_1, n_hr_0_2, n_hr_o_7]; omega)) (fun r45 => ?_)
              have n_hr_o_14 : hr (o + 14) = h (o + 14) := ((show hr (o + 14) = hq2 (o + 14) from (arF (o + 14) (by first | decide | (simp; done) | (simp; omega)))).trans (show hq2 (o + 14) = h (o + 14) from (aF (o + 14) (by first | decide | (simp; done) | (simp; omega)))))
              rw [n_hr_o_14] at r45 ⊢
              refine pw_aload_n (z := 0) (pc := 46) dX11_countFitting_46 rfl rfl ?_
              refine pw_getR (r := 149) (pc := 47) dX11_countFitting_47 fX11_74 (hC 0 (by decide)) (show kd_ 0 = 21 by decide +kernel) rfl (by decide +kernel) ?_
              refine pw_callV (c := 6) (o := o) (As := [ii_ (h (o + 14) i), rr_ G 149]) (rest := []) (pc := 50) dX11_countFitting_50 (d_unpack hC hr o ho ro Hr 149 (by decide +kernel) (by decide +kernel) (by decide) (h (o + 14) i) (by first | omega | (simp only [n_hq2_0_2, n_hq2_o_1, n_hr_0_2, n_hr_o_14, n_hr_o_7]; omega))) lX11_189 mX6_unpack vX6_unpack (hC _ (by omega)) (kd6_0 ho) rfl rfl rfl (by decide) ⟨Nat.zero_le _, Nat.zero_le _⟩ (Nat.le_of_ble_eq_true rfl) (k_i (fun z50 h50 y50 q50 => ?_))
              obtain ⟨f50, ⟨rfl, p50⟩ | ⟨rfl, p50⟩, q50⟩ := q50
              · rw [pl] at p50
                replace q50 := q50 rfl
                rw [pl] at q50
                simp -failIfUnchanged only [n_hr_0_2, n_hr_o_7, n_hr_o_14] at p50
                refine pw_if_eq (t := 78) (pc := 53) dX11_countFitting_53 (by decide) (by first | omega | (simp only [n_hq2_0_2, n_hq2_o_1, n_hr_0_2, n_hr_o_14, n_hr_o_7]; omega)) (fun c53 => absurd c53 (by decide)) (fun _ => ?_)
                refine pw_aload_n (z := 0) (pc := 56) dX11_countFitting_56 rfl rfl ?_
                refine pw_getR (r := 42) (pc := 57) dX11_countFitting_57 fX11_48 (hC 0 (by decide)) (show kd_ 0 = 21 by decide +kernel) rfl (by decide +kernel) ?_
                refine pw_aload_n (z := 0) (pc := 60) dX11_countFitting_60 rfl rfl ?_
                refine pw_getR (r := 149) (pc := 61) dX11_countFitting_61 fX11_74 (hC 0 (by decide)) (show kd_ 0 = 21 by decide +kernel) rfl (by decide +kernel) ?_
                refine pw_iload_n (z := t) (pc := 64) dX11_countFitting_64 rfl rfl ?_
                have SE65 : agr_ (h50 48) (h50 149) t (h50 42 5).toNat ↔ SEF_ ro f i t := by
                  rw [f50 48 (by simp), aFr 48 (by simp), f50 42 (by simp), aFr 42 (by simp), hq.1.1]
                  unfold SEF_
                  rw [SNC_agr hq (f 30).toNat (by omega)]
                  exact sen_cg2 hq.1.2.1 (fun k k0 k1 => q50 _ (hq.2.2 k k0 k1).1 (hq.2.2 k k0 k1).2)
                refine pw_callV (c := 3) (o := 42) (As := [rr_ G 149, ii_ t]) (rest := []) (pc := 65) dX11_countFitting_65 (d_agrees hC h50 42 is3_now.1 149 (by decide +kernel) (by decide +kernel) (by decide) t (by first | omega | (simp only [n_hq2_0_2, n_hq2_o_1, n_hr_0_2, n_hr_o_14, n_hr_o_7]; omega)) (by rw [f50 42 (by simp), aFr 42 (by simp)]; omega) (fun k k0 k1 => by rw [f50 42 (by simp), aFr 42 (by simp), hq.1.1] at k1; show 0 ≤ h50 48 (4 * k) ∧ h50 48 (4 * k) < 4; rw [f50 48 (by simp), aFr 48 (by simp), hq.2.1 (4 * k) (by first | omega | (simp only [n_hq2_0_2, n_hq2_o_1, n_hr_0_2, n_hr_o_14, n_hr_o_7]; omega)) (by first | omega | (simp only [n_hq2_0_2, n_hq2_o_1, n_hr_0_2, n_hr_o_14, n_hr_o_7]; omega))]; have := hq.2.2 k k0 k1; omega)) lX11_380 mX3_agrees vX3_agrees (hC 42 (by decide)) (show kd_ 42 = 13 by decide +kernel) rfl rfl rfl (by decide) ⟨Nat.zero_le _, Nat.zero_le _⟩ (Nat.le_of_ble_eq_true rfl) (k_i (fun z65 h65 y65 q65 => ?_))
                obtain ⟨rfl, ⟨rfl, p65⟩ | ⟨rfl, p65⟩⟩ := q65
                · refine pw_if_eq (t := 78) (pc := 68) dX11_countFitting_68 (by decide) (by first | omega | (simp only [n_hq2_0_2, n_hq2_o_1, n_hr_0_2, n_hr_o_14, n_hr_o_7]; omega)) (fun c68 => absurd c68 (by decide)) (fun _ => ?_)
                  refine pw_iload_n (z := sv) (pc := 71) dX11_countFitting_71 rfl rfl ?_
                  refine pw_iconst (pc := 72) dX11_countFitting_72 ?_
                  refine pw_iload (z := i) (pc := 73) dX11_countFitting_73 rfl ?_
                  refine pw_ishl1 (pc := 75) dX11_countFitting_75 (by first | omega | (simp only [n_hq2_0_2, n_hq2_o_1, n_hr_0_2, n_hr_o_14, n_hr_o_7]; omega)) ?_
                  have pw := p24_ (i := i) (by omega)
                  refine pw_iorX (pc := 76) dX11_countFitting_76 (by first | omega | (simp only [n_hq2_0_2, n_hq2_o_1, n_hr_0_2, n_hr_o_14, n_hr_o_7]; omega)) (by first | omega | (simp only [n_hq2_0_2, n_hq2_o_1, n_hr_0_2, n_hr_o_14, n_hr_o_7]; omega)) (fun w76 r76 x76 => ?_)
                  have S77 : ∃ n : Nat, w76 = (n : Int) ∧ FSN_ (fun k => SEF_ ro f k t) (i + 1).toNat n := by
                    obtain ⟨n, e, F⟩ := asn
                    refine ⟨n ||| 2 ^ i.toNat, ?_, ?_⟩
                    · rw [x76 (by omega) (by omega), e, ip2, Int.toNat_natCast]
                    · rw [tn_s ai.1]
                      exact FSN_y F (by rw [tn_c ai.1]; exact SE65.mp p65)
                  refine pw_istore_n (lv1 := [some (rr_ G 0), some (ii_ mv), some (ii_ t), some (ii_ w76), some (ii_ i)]) (pc := 77) dX11_countFitting_77 rfl (by decide) rfl rfl ?_
                  skip
                  refine pw_iinc (z := i) (lv1 := [some (rr_ G 0), some (ii_ mv), some (ii_ t), some (ii_ w76), some (ii_ (i + 1))]) (pc := 78) dX11_countFitting_78 rfl (by decide) rfl rfl ?_
                  refine pw_goto (t := 20) (pc := 81) dX11_countFitting_81 (by decide) ?_
                  exact ih20 _ _ _ (by omega) (by first | exact r76 | exact asr) (by first | exact off_tr arF f50) (by first | exact S77 | exact N78 (fun u => p65 (SE65.mpr u)) | exact absurd pn.1.1 p50) (by omega)
                · refine pw_if_eq (t := 78) (pc := 68) dX11_countFitting_68 (by decide) (by first | omega | (simp only [n_hq2_0_2, n_hq2_o_1, n_hr_0_2, n_hr_o_14, n_hr_o_7]; omega)) (fun _ => ?_) (fun c68 => absurd c68 (by decide))
                  have N78 : ¬ SEF_ ro f i t → ∃ n : Nat, sv = (n : Int) ∧ FSN_ (fun k => SEF_ ro f k t) (i + 1).toNat n := fun u => by
                    obtain ⟨n, e, F⟩ := asn
                    exact ⟨n, e, by rw [tn_s ai.1]; exact FSN_n F (by rw [tn_c ai.1]; exact u)⟩
                  refine pw_iinc (z := i) (lv1 := [some (rr_ G 0), some (ii_ mv), some (ii_ t), some (ii_ sv), some (ii_ (i + 1))]) (pc := 78) dX11_countFitting_78 rfl (by decide) rfl rfl ?_
                  refine pw_goto (t := 20) (pc := 81) dX11_countFitting_81 (by decide) ?_
                  exact ih20 _ _ _ (by omega) (by first | exact r76 | exact asr) (by first | exact off_tr arF f50) (by first | exact S77 | exact N78 (fun u => p65 (SE65.mpr u)) | exact absurd pn.1.1 p50) (by omega)
              · rw [pl] at p50
                simp -failIfUnchanged only [n_hr_0_2, n_hr_o_7, n_hr_o_14] at p50
                refine pw_if_eq (t := 78) (pc := 53) dX11_countFitting_53 (by decide) (by first | omega | (simp only [n_hq2_0_2, n_hq2_o_1, n_hr_0_2, n_hr_o_14, n_hr_o_7]; omega)) (fun _ => ?_) (fun c53 => absurd c53 (by decide))
                have N78 : ¬ SEF_ ro f i t → ∃ n : Nat, sv = (n : Int) ∧ FSN_ (fun k => SEF_ ro f k t) (i + 1).toNat n := fun u => by
                  obtain ⟨n, e, F⟩ := asn
                  exact ⟨n, e, by rw [tn_s ai.1]; exact FSN_n F (by rw [tn_c ai.1]; exact u)⟩
                refine pw_iinc (z := i) (lv1 := [some (rr_ G 0), some (ii_ mv), some (ii_ t), some (ii_ sv), some (ii_ (i + 1))]) (pc := 78) dX11_countFitting_78 rfl (by decide) rfl rfl ?_
                refine pw_goto (t := 20) (pc := 81) dX11_countFitting_81 (by decide) ?_
                exact ih20 _ _ _ (by omega) (by first | exact r76 | exact asr) (by first | exact off_tr arF f50) (by first | exact S77 | exact N78 (fun u => p65 (SE65.mpr u)) | exact absurd pn.1.1 p50) (by omega)
        exact L20 _ _ _ _ (by omega) (by omega) (off_rf) (⟨0, rfl, FSN_0⟩) (Int.self_le_toNat _)
  exact L4 _ _ _ _ (by omega) (off_rf) (rfl) (fun j hj => absurd hj (by omega)) (Int.self_le_toNat _)

set_option maxHeartbeats 4000000 in
set_option maxRecDepth 100000 in
theorem d_stopsChanged {G : GT_} (hC : okC_ G) (h : PH_) (o : Nat) (ho : is6_ o) (hL : h 0 2 = (o : Int)) (ro : Int → Int) (H : CRD_ ro h o) (N : Nat) (hN : N ≤ 24) (A : Int → Int → Prop) (hA : ∀ t : Nat, (t : Int) < ro 1 → ∃ n : Nat, h 148 (t : Int) = (n : Int) ∧ FSN_ (fun k => A k (t : Int)) N n) (b : Int) (hb : b = 0 ∨ b = 1) : PC G yX11_stopsChanged cX11_stopsChanged 8 (some .int) 3 [rr_ G 0, ii_ b] h (qi_ (fun z h' => h = h' ∧ ∃ m : Nat, z = (m : Int) ∧ FSN_ (fun s => CND_ A N b s) (ro 1 - 1).toNat m)) := by
  have hL_h := hL
  have HB := H.2.1
  have HA := H.1
  refine PC.of (lv := [some (rr_ G 0), some (ii_ b), none, none, none, none, none, none]) (by decide +kernel) (Nat.le_of_ble_eq_true rfl) rfl rfl ?_
  refine pw_iconst (pc := 0) dX11_stopsChanged_0 ?_
  refine pw_istore_n (lv1 := [some (rr_ G 0), some (ii_ b), some (ii_ 0), none, none, none, none, none]) (pc := 1) dX11_stopsChanged_1 rfl (by decide) rfl rfl ?_
  refine pw_iconst (pc := 2) dX11_stopsChanged_2 ?_
  refine pw_istore_n (lv1 := [some (rr_ G 0), some (ii_ b), some (ii_ 0), some (ii_ 0), none, none, none, none]) (pc := 3) dX11_stopsChanged_3 rfl (by decide) rfl rfl ?_
  have L4 : ∀ (nn : Nat) (s : Int) (sv : Int), (0 ≤ s ∧ s ≤ 4) → (ir_ sv ∧ 0 ≤ sv) → (s = 0 ∨ s + 1 ≤ ro 1) → (∃ m : Nat, sv = (m : Int) ∧ FSN_ (fun s => CND_ A N b s) s.toNat m) → ((5 - s : Int) ≤ nn) → PW G RX11 cX11_stopsChanged 8 (some .int) (rm_ 3) 0 0 (zm_ G (qi_ (fun z h' => h = h' ∧ ∃ m : Nat, z = (m : Int) ∧ FSN_ (fun s => CND_ A N b s) (ro 1 - 1).toNat m))) 4 [some (rr_ G 0), some (ii_ b), some (ii_ sv), some (ii_ s), none, none, none, none] [] h := by
    intro nn
    induction nn with
    | zero => intro s sv as_ asr as2 asn ams; exfalso; omega
    | succ nn ih4 =>
      intro s sv as_ asr as2 asn ams
      refine pw_iload_n (z := s) (pc := 4) dX11_stopsChanged_4 rfl rfl ?_
      refine pw_iconst (pc := 5) dX11_stopsChanged_5 ?_
      refine pw_iadd (pc := 6) dX11_stopsChanged_6 ?_
      refine pw_aload_n (z := 0) (pc := 7) dX11_stopsChanged_7 rfl rfl ?_
      refine pw_gD (x := 2) (r := o) (pc := 8) dX11_stopsChanged_8 fX11_28 (hC 0 (by decide)) (show kd_ 0 = 21 by decide +kernel) rfl rfl hL_h ?_
      refine pw_gI (x := 1) (pc := 11) dX11_stopsChanged_11 fX11_239 (hC _ (by omega)) (kd6_0 ho) rfl rfl (fun r11 => ?_)
      refine pw_icmp_ge (t := 102) (pc := 14) dX11_stopsChanged_14 (by decide) (by first | omega) (by first | omega) (fun c14 => ?_) (fun c14 => ?_)
      · refine pw_iload_n (z := sv) (pc := 102) dX11_stopsChanged_102 rfl rfl ?_
        exact pw_iret (pc := 103) dX11_stopsChanged_103 (by first | omega) (⟨rfl, by rw [show (ro 1 - 1).toNat = s.toNat by omega]; exact asn⟩)
      · obtain ⟨n1, e1, F1⟩ := hA s.toNat (by omega)
        obtain ⟨n2, e2, F2⟩ := hA (s + 1).toNat (by omega)
        rw [tn_c as_.1] at e1 F1
        rw [tn_c (show 0 ≤ s + 1 by omega)] at e2 F2
        have c1 := FSN_b F1 hN
        have c2 := FSN_b F2 hN
        have pw := p24_ (i := s) (by omega)
        refine pw_aload_n (z := 0) (pc := 17) dX11_stopsChanged_17 rfl rfl ?_
        refine pw_getR (r := 148) (pc := 18) dX11_stopsChanged_18 fX11_71 (hC 0 (by decide)) (show kd_ 0 = 21 by decide +kernel) rfl (by decide +kernel) ?_
        refine pw_iload_n (z := s) (pc := 21) dX11_stopsChanged_21 rfl rfl ?_
        refine pw_iald (pc := 22) dX11_stopsChanged_22 (hC 148 (by decide)) (show kd_ 148 = 0 by decide +kernel) 4 (by decide +kernel) (by first | omega) (by first | omega) (by first | omega) (fun r22 => ?_)
        refine pw_istore (lv1 := [some (rr_ G 0), some (ii_ b), some (ii_ sv), some (ii_ s), some (ii_ (h 148 s)), none, none, none]) (pc := 23) dX11_stopsChanged_23 (by decide) rfl rfl ?_
        refine pw_aload_n (z := 0) (pc := 25) dX11_stopsChanged_25 rfl rfl ?_
        refine pw_getR (r := 148) (pc := 26) dX11_stopsChanged_26 fX11_71 (hC 0 (by decide)) (show kd_ 0 = 21 by decide +kernel) rfl (by decide +kernel) ?_
        refine pw_iload_n (z := s) (pc := 29) dX11_stopsChanged_29 rfl rfl ?_
        refine pw_iconst (pc := 30) dX11_stopsChanged_30 ?_
        refine pw_iadd (pc := 31) dX11_stopsChanged_31 ?_
        refine pw_iald (pc := 32) dX11_stopsChanged_32 (hC 148 (by decide)) (show kd_ 148 = 0 by decide +kernel) 4 (by decide +kernel) (by first | omega) (by first | omega) (by first | omega) (fun r32 => ?_)
        refine pw_istore (lv1 := [some (rr_ G 0), some (ii_ b), some (ii_ sv), some (ii_ s), some (ii_ (h 148 s)), some (ii_ (h 148 (s + 1))), none, none]) (pc := 33) dX11_stopsChanged_33 (by decide) rfl rfl ?_
        refine pw_iload (z := h 148 s) (pc := 35) dX11_stopsChanged_35 rfl ?_
        refine pw_iload (z := h 148 (s + 1)) (pc := 37) dX11_stopsChanged_37 rfl ?_
        refine pw_iandX (pc := 39) dX11_stopsChanged_39 (by first | omega) (by first | omega) (fun w39 r39 x39 v39 => ?_)
        have W39 : w39 = ((n1 &&& n2 : Nat) : Int) := by rw [x39 (by omega) (by omega), e1, e2, Int.toNat_natCast, Int.toNat_natCast]
        have D : CND_ A N b s ↔ (b = 1 ∧ w39 = 0) ∨ (b = 0 ∧ h 148 s = h 148 (s + 1) ∧ bit_ (h 148 s) 24 = 1) := by
          have d1 := FSN_z (FSN_and F1 F2)
          have d2 := FSN_eq F1 F2
          have d3 := FSN_cnt F1 hN
          unfold CND_
          rw [W39, e1, e2, d3]
          constructor
          · rintro (⟨u1, u2⟩ | ⟨u1, u2, u3⟩)
            · exact Or.inl ⟨u1, by rw [d1.mpr u2]; rfl⟩
            · exact Or.inr ⟨u1, by rw [d2.mpr u2], by rw [u3]; rfl⟩
          · rintro (⟨u1, u2⟩ | ⟨u1, u2, u3⟩)
            · exact Or.inl ⟨u1, d1.mp (by omega)⟩
            · exact Or.inr ⟨u1, d2.mp (by omega), by omega⟩
        clear x39 v39
        refine pw_if_ne (t := 47) (pc := 40) dX11_stopsChanged_40 (by decide) (by first | omega) (fun c40 => ?_) (fun c40 => ?_)
        · refine pw_iconst (pc := 47) dX11_stopsChanged_47 ?_
          refine pw_istore (lv1 := [some (rr_ G 0), some (ii_ b), some (ii_ sv), some (ii_ s), some (ii_ (h 148 s)), some (ii_ (h 148 (s + 1))), some (ii_ 0), none]) (pc := 48) dX11_stopsChanged_48 (by decide) rfl rfl ?_
          refine pw_iload (z := h 148 s) (pc := 50) dX11_stopsChanged_50 rfl ?_
          refine pw_iload (z := h 148 (s + 1)) (pc := 52) dX11_stopsChanged_52 rfl ?_
          refine pw_icmp_ne (t := 70) (pc := 54) dX11_stopsChanged_54 (by decide) (by first | omega) (by first | omega) (fun c54 => ?_) (fun c54 => ?_)
          · refine pw_iconst (pc := 70) dX11_stopsChanged_70 ?_
            refine pw_istore (lv1 := [some (rr_ G 0), some (ii_ b), some (ii_ sv), some (ii_ s), some (ii_ (h 148 s)), some (ii_ (h 148 (s + 1))), some (ii_ 0), some (ii_ 0)]) (pc := 71) dX11_stopsChanged_71 (by decide) rfl rfl ?_
            refine pw_iload_n (z := b) (pc := 73) dX11_stopsChanged_73 rfl rfl ?_
            refine pw_if_eq (t := 85) (pc := 74) dX11_stopsChanged_74 (by decide) (by first | omega) (fun c74 => ?_) (fun c74 => ?_)
            · refine pw_iload (z := 0) (pc := 85) dX11_stopsChanged_85 rfl ?_
              refine pw_if_eq (t := 96) (pc := 87) dX11_stopsChanged_87 (by decide) (by first | omega) (fun _ => ?_) (fun c87 => absurd c87 (by decide))
              have N96 : ∃ m : Nat, sv = (m : Int) ∧ FSN_ (fun s => CND_ A N b s) (s + 1).toNat m := by
                have u : ¬ CND_ A N b s := fun u => by have := D.mp u; clear asn hA F1 F2 D; omega
                obtain ⟨m, e, F⟩ := asn
                exact ⟨m, e, by rw [tn_s as_.1]; exact FSN_n F (by rw [tn_c as_.1]; exact u)⟩
              refine pw_iinc (z := s) (lv1 := [some (rr_ G 0), some (ii_ b), some (ii_ sv), some (ii_ (s + 1)), some (ii_ (h 148 s)), some (ii_ (h 148 (s + 1))), some (ii_ 0), some (ii_ 0)]) (pc := 96) dX11_stopsChanged_96 rfl (by decide) rfl rfl ?_
              refine pw_goto (t := 4) (pc := 99) dX11_stopsChanged_99 (by decide) ?_
              refine pw_less (lv1 := [some (rr_ G 0), some (ii_ b), some (ii_ sv), some (ii_ (s + 1)), none, none, none, none]) rfl (by intro i v; (match i with | 0 => simp | 1 => simp | 2 => simp | 3 => simp | 4 => simp | 5 => simp | 6 => simp | 7 => simp | n + 8 => simp)) ?_
              exact ih4 _ _ (by omega) (by first | exact ⟨r94, by obtain ⟨m, e, _⟩ := T95; omega⟩ | exact asr) (Or.inr (by omega)) (by first | exact T95 | exact N96) (by omega)
            · refine pw_iload (z := 0) (pc := 77) dX11_stopsChanged_77 rfl ?_
              refine pw_if_eq (t := 96) (pc := 79) dX11_stopsChanged_79 (by decide) (by first | omega) (fun _ => ?_) (fun c79 => absurd c79 (by decide))
              have N96 : ∃ m : Nat, sv = (m : Int) ∧ FSN_ (fun s => CND_ A N b s) (s + 1).toNat m := by
                have u : ¬ CND_ A N b s := fun u => by have := D.mp u; clear asn hA F1 F2 D; omega
                obtain ⟨m, e, F⟩ := asn
                exact ⟨m, e, by rw [tn_s as_.1]; exact FSN_n F (by rw [tn_c as_.1]; exact u)⟩
              refine pw_iinc (z := s) (lv1 := [some (rr_ G 0), some (ii_ b), some (ii_ sv), some (ii_ (s + 1)), some (ii_ (h 148 s)), some (ii_ (h 148 (s + 1))), some (ii_ 0), some (ii_ 0)]) (pc := 96) dX11_stopsChanged_96 rfl (by decide) rfl rfl ?_
              refine pw_goto (t := 4) (pc := 99) dX11_stopsChanged_99 (by decide) ?_
              refine pw_less (lv1 := [some (rr_ G 0), some (ii_ b), some (ii_ sv), some (ii_ (s + 1)), none, none, none, none]) rfl (by intro i v; (match i with | 0 => simp | 1 => simp | 2 => simp | 3 => simp | 4 => simp | 5 => simp | 6 => simp | 7 => simp | n + 8 => simp)) ?_
              exact ih4 _ _ (by omega) (by first | exact ⟨r94, by obtain ⟨m, e, _⟩ := T95; omega⟩ | exact asr) (Or.inr (by omega)) (by first | exact T95 | exact N96) (by omega)
          · refine pw_iload (z := h 148 s) (pc := 57) dX11_stopsChanged_57 rfl ?_
            refine pw_callS (As := [ii_ (h 148 s)]) (rest := []) (pc := 59) dX11_stopsChanged_59 (j_bitCount h (h 148 s) (by first | omega)) lX11_384 mJ6_bitCount_0f7a4 sJ6_bitCount_0f7a4 rfl rfl (by decide) ⟨Nat.zero_le _, Nat.zero_le _⟩ (Nat.le_of_ble_eq_true rfl) (k_i (fun z59 h59 y59 q59 => ?_))
            obtain ⟨rfl, w59, b59⟩ := q59
            refine pw_iconst (pc := 62) dX11_stopsChanged_62 ?_
            refine pw_icmp_ne (t := 70) (pc := 63) dX11_stopsChanged_63 (by decide) (by first | omega) (by first | omega) (fun c63 => ?_) (fun c63 => ?_)
            · refine pw_iconst (pc := 70) dX11_stopsChanged_70 ?_
              refine pw_istore (lv1 := [some (rr_ G 0), some (ii_ b), some (ii_ sv), some (ii_ s), some (ii_ (h 148 s)), some (ii_ (h 148 (s + 1))), some (ii_ 0), some (ii_ 0)]) (pc := 71) dX11_stopsChanged_71 (by decide) rfl rfl ?_
              refine pw_iload_n (z := b) (pc := 73) dX11_stopsChanged_73 rfl rfl ?_
              refine pw_if_eq (t := 85) (pc := 74) dX11_stopsChanged_74 (by decide) (by first | omega) (fun c74 => ?_) (fun c74 => ?_)
              · refine pw_iload (z := 0) (pc := 85) dX11_stopsChanged_85 rfl ?_
                refine pw_if_eq (t := 96) (pc := 87) dX11_stopsChanged_87 (by decide) (by first | omega) (fun _ => ?_) (fun c87 => absurd c87 (by decide))
                have N96 : ∃ m : Nat, sv = (m : Int) ∧ FSN_ (fun s => CND_ A N b s) (s + 1).toNat m := by
                  have u : ¬ CND_ A N b s := fun u => by have := D.mp u; clear asn hA F1 F2 D; omega
                  obtain ⟨m, e, F⟩ := asn
                  exact ⟨m, e, by rw [tn_s as_.1]; exact FSN_n F (by rw [tn_c as_.1]; exact u)⟩
                refine pw_iinc (z := s) (lv1 := [some (rr_ G 0), some (ii_ b), some (ii_ sv), some (ii_ (s + 1)), some (ii_ (h 148 s)), some (ii_ (h 148 (s + 1))), some (ii_ 0), some (ii_ 0)]) (pc := 96) dX11_stopsChanged_96 rfl (by decide) rfl rfl ?_
                refine pw_goto (t := 4) (pc := 99) dX11_stopsChanged_99 (by decide) ?_
                refine pw_less (lv1 := [some (rr_ G 0), some (ii_ b), some (ii_ sv), some (ii_ (s + 1)), none, none, none, none]) rfl (by intro i v; (match i with | 0 => simp | 1 => simp | 2 => simp | 3 => simp | 4 => simp | 5 => simp | 6 => simp | 7 => simp | n + 8 => simp)) ?_
                exact ih4 _ _ (by omega) (by first | exact ⟨r94, by obtain ⟨m, e, _⟩ := T95; omega⟩ | exact asr) (Or.inr (by omega)) (by first | exact T95 | exact N96) (by omega)
              · refine pw_iload (z := 0) (pc := 77) dX11_stopsChanged_77 rfl ?_
                refine pw_if_eq (t := 96) (pc := 79) dX11_stopsChanged_79 (by decide) (by first | omega) (fun _ => ?_) (fun c79 => absurd c79 (by decide))
                have N96 : ∃ m : Nat, sv = (m : Int) ∧ FSN_ (fun s => CND_ A N b s) (s + 1).toNat m := by
                  have u : ¬ CND_ A N b s := fun u => by have := D.mp u; clear asn hA F1 F2 D; omega
                  obtain ⟨m, e, F⟩ := asn
                  exact ⟨m, e, by rw [tn_s as_.1]; exact FSN_n F (by rw [tn_c as_.1]; exact u)⟩
                refine pw_iinc (z := s) (lv1 := [some (rr_ G 0), some (ii_ b), some (ii_ sv), some (ii_ (s + 1)), some (ii_ (h 148 s)), some (ii_ (h 148 (s + 1))), some (ii_ 0), some (ii_ 0)]) (pc := 96) dX11_stopsChanged_96 rfl (by decide) rfl rfl ?_
                refine pw_goto (t := 4) (pc := 99) dX11_stopsChanged_99 (by decide) ?_
                refine pw_less (lv1 := [some (rr_ G 0), some (ii_ b), some (ii_ sv), some (ii_ (s + 1)), none, none, none, none]) rfl (by intro i v; (match i with | 0 => simp | 1 => simp | 2 => simp | 3 => simp | 4 => simp | 5 => simp | 6 => simp | 7 => simp | n + 8 => simp)) ?_
                exact ih4 _ _ (by omega) (by first | exact ⟨r94, by obtain ⟨m, e, _⟩ := T95; omega⟩ | exact asr) (Or.inr (by omega)) (by first | exact T95 | exact N96) (by omega)
            · refine pw_iconst (pc := 66) dX11_stopsChanged_66 ?_
              refine pw_goto (t := 71) (pc := 67) dX11_stopsChanged_67 (by decide) ?_
              refine pw_istore (lv1 := [some (rr_ G 0), some (ii_ b), some (ii_ sv), some (ii_ s), some (ii_ (h 148 s)), some (ii_ (h 148 (s + 1))), some (ii_ 0), some (ii_ 1)]) (pc := 71) dX11_stopsChanged_71 (by decide) rfl rfl ?_
              refine pw_iload_n (z := b) (pc := 73) dX11_stopsChanged_73 rfl rfl ?_
              refine pw_if_eq (t := 85) (pc := 74) dX11_stopsChanged_74 (by decide) (by first | omega) (fun c74 => ?_) (fun c74 => ?_)
              · refine pw_iload (z := 1) (pc := 85) dX11_stopsChanged_85 rfl ?_
                refine pw_if_eq (t := 96) (pc := 87) dX11_stopsChanged_87 (by decide) (by first | omega) (fun c87 => absurd c87 (by decide)) (fun _ => ?_)
                refine pw_iload_n (z := sv) (pc := 90) dX11_stopsChanged_90 rfl rfl ?_
                refine pw_iconst (pc := 91) dX11_stopsChanged_91 ?_
                refine pw_iload_n (z := s) (pc := 92) dX11_stopsChanged_92 rfl rfl ?_
                refine pw_ishl1 (pc := 93) dX11_stopsChanged_93 (by first | omega) ?_
                refine pw_iorX (pc := 94) dX11_stopsChanged_94 (by first | omega) (by first | omega) (fun w94 r94 x94 => ?_)
                have S95 : CND_ A N b s → ∃ m : Nat, w94 = (m : Int) ∧ FSN_ (fun s => CND_ A N b s) (s + 1).toNat m := fun u => by
                  obtain ⟨m, e, F⟩ := asn
                  refine ⟨m ||| 2 ^ s.toNat, ?_, ?_⟩
                  · rw [x94 (by omega) (by omega), e, ip2, Int.toNat_natCast]
                  · rw [tn_s as_.1]
                    exact FSN_y F (by rw [tn_c as_.1]; exact u)
                have T95 : ∃ m : Nat, w94 = (m : Int) ∧ FSN_ (fun s => CND_ A N b s) (s + 1).toNat m := S95 (D.mpr (by clear S95 asn hA F1 F2 D; omega))
                refine pw_istore_n (lv1 := [some (rr_ G 0), some (ii_ b), some (ii_ w94), some (ii_ s), some (ii_ (h 148 s)), some (ii_ (h 148 (s + 1))), some (ii_ 0), some (ii_ 1)]) (pc := 95) dX11_stopsChanged_95 rfl (by decide) rfl rfl ?_
                skip
                refine pw_iinc (z := s) (lv1 := [some (rr_ G 0), some (ii_ b), some (ii_ w94), some (ii_ (s + 1)), some (ii_ (h 148 s)), some (ii_ (h 148 (s + 1))), some (ii_ 0), some (ii_ 1)]) (pc := 96) dX11_stopsChanged_96 rfl (by decide) rfl rfl ?_
                refine pw_goto (t := 4) (pc := 99) dX11_stopsChanged_99 (by decide) ?_
                refine pw_less (lv1 := [some (rr_ G 0), some (ii_ b), some (ii_ w94), some (ii_ (s + 1)), none, none, none, none]) rfl (by intro i v; (match i with | 0 => simp | 1 => simp | 2 => simp | 3 => simp | 4 => simp | 5 => simp | 6 => simp | 7 => simp | n + 8 => simp)) ?_
                exact ih4 _ _ (by omega) (by first | exact ⟨r94, by obtain ⟨m, e, _⟩ := T95; omega⟩ | exact asr) (Or.inr (by omega)) (by first | exact T95 | exact N96) (by omega)
              · refine pw_iload (z := 0) (pc := 77) dX11_stopsChanged_77 rfl ?_
                refine pw_if_eq (t := 96) (pc := 79) dX11_stopsChanged_79 (by decide) (by first | omega) (fun _ => ?_) (fun c79 => absurd c79 (by decide))
                have N96 : ∃ m : Nat, sv = (m : Int) ∧ FSN_ (fun s => CND_ A N b s) (s + 1).toNat m := by
                  have u : ¬ CND_ A N b s := fun u => by have := D.mp u; clear asn hA F1 F2 D; omega
                  obtain ⟨m, e, F⟩ := asn
                  exact ⟨m, e, by rw [tn_s as_.1]; exact FSN_n F (by rw [tn_c as_.1]; exact u)⟩
                refine pw_iinc (z := s) (lv1 := [some (rr_ G 0), some (ii_ b), some (ii_ sv), some (ii_ (s + 1)), some (ii_ (h 148 s)), some (ii_ (h 148 (s + 1))), some (ii_ 0), some (ii_ 1)]) (pc := 96) dX11_stopsChanged_96 rfl (by decide) rfl rfl ?_
                refine pw_goto (t := 4) (pc := 99) dX11_stopsChanged_99 (by decide) ?_
                refine pw_less (lv1 := [some (rr_ G 0), some (ii_ b), some (ii_ sv), some (ii_ (s + 1)), none, none, none, none]) rfl (by intro i v; (match i with | 0 => simp | 1 => simp | 2 => simp | 3 => simp | 4 => simp | 5 => simp | 6 => simp | 7 => simp | n + 8 => simp)) ?_
                exact ih4 _ _ (by omega) (by first | exact ⟨r94, by obtain ⟨m, e, _⟩ := T95; omega⟩ | exact asr) (Or.inr (by omega)) (by first | exact T95 | exact N96) (by omega)
        · refine pw_iconst (pc := 43) dX11_stopsChanged_43 ?_
          refine pw_goto (t := 48) (pc := 44) dX11_stopsChanged_44 (by decide) ?_
          refine pw_istore (lv1 := [some (rr_ G 0), some (ii_ b), some (ii_ sv), some (ii_ s), some (ii_ (h 148 s)), some (ii_ (h 148 (s + 1))), some (ii_ 1), none]) (pc := 48) dX11_stopsChanged_48 (by decide) rfl rfl ?_
          refine pw_iload (z := h 148 s) (pc := 50) dX11_stopsChanged_50 rfl ?_
          refine pw_iload (z := h 148 (s + 1)) (pc := 52) dX11_stopsChanged_52 rfl ?_
          refine pw_icmp_ne (t := 70) (pc := 54) dX11_stopsChanged_54 (by decide) (by first | omega) (by first | omega) (fun c54 => ?_) (fun c54 => ?_)
          · refine pw_iconst (pc := 70) dX11_stopsChanged_70 ?_
            refine pw_istore (lv1 := [some (rr_ G 0), some (ii_ b), some (ii_ sv), some (ii_ s), some (ii_ (h 148 s)), some (ii_ (h 148 (s + 1))), some (ii_ 1), some (ii_ 0)]) (pc := 71) dX11_stopsChanged_71 (by decide) rfl rfl ?_
            refine pw_iload_n (z := b) (pc := 73) dX11_stopsChanged_73 rfl rfl ?_
            refine pw_if_eq (t := 85) (pc := 74) dX11_stopsChanged_74 (by decide) (by first | omega) (fun c74 => ?_) (fun c74 => ?_)
            · refine pw_iload (z := 0) (pc := 85) dX11_stopsChanged_85 rfl ?_
              refine pw_if_eq (t := 96) (pc := 87) dX11_stopsChanged_87 (by decide) (by first | omega) (fun _ => ?_) (fun c87 => absurd c87 (by decide))
              have N96 : ∃ m : Nat, sv = (m : Int) ∧ FSN_ (fun s => CND_ A N b s) (s + 1).toNat m := by
                have u : ¬ CND_ A N b s := fun u => by have := D.mp u; clear asn hA F1 F2 D; omega
                obtain ⟨m, e, F⟩ := asn
                exact ⟨m, e, by rw [tn_s as_.1]; exact FSN_n F (by rw [tn_c as_.1]; exact u)⟩
              refine pw_iinc (z := s) (lv1 := [some (rr_ G 0), some (ii_ b), some (ii_ sv), some (ii_ (s + 1)), some (ii_ (h 148 s)), some (ii_ (h 148 (s + 1))), some (ii_ 1), some (ii_ 0)]) (pc := 96) dX11_stopsChanged_96 rfl (by decide) rfl rfl ?_
              refine pw_goto (t := 4) (pc := 99) dX11_stopsChanged_99 (by decide) ?_
              refine pw_less (lv1 := [some (rr_ G 0), some (ii_ b), some (ii_ sv), some (ii_ (s + 1)), none, none, none, none]) rfl (by intro i v; (match i with | 0 => simp | 1 => simp | 2 => simp | 3 => simp | 4 => simp | 5 => simp | 6 => simp | 7 => simp | n + 8 => simp)) ?_
              exact ih4 _ _ (by omega) (by first | exact ⟨r94, by obtain ⟨m, e, _⟩ := T95; omega⟩ | exact asr) (Or.inr (by omega)) (by first | exact T95 | exact N96) (by omega)
            · refine pw_iload (z := 1) (pc := 77) dX11_stopsChanged_77 rfl ?_
              refine pw_if_eq (t := 96) (pc := 79) dX11_stopsChanged_79 (by decide) (by first | omega) (fun c79 => absurd c79 (by decide)) (fun _ => ?_)
              refine pw_goto (t := 90) (pc := 82) dX11_stopsChanged_82 (by decide) ?_
              refine pw_iload_n (z := sv) (pc := 90) dX11_stopsChanged_90 rfl rfl ?_
              refine pw_iconst (pc := 91) dX11_stopsChanged_91 ?_
              refine pw_iload_n (z := s) (pc := 92) dX11_stopsChanged_92 rfl rfl ?_
              refine pw_ishl1 (pc := 93) dX11_stopsChanged_93 (by first | omega) ?_
              refine pw_iorX (pc := 94) dX11_stopsChanged_94 (by first | omega) (by first | omega) (fun w94 r94 x94 => ?_)
              have S95 : CND_ A N b s → ∃ m : Nat, w94 = (m : Int) ∧ FSN_ (fun s => CND_ A N b s) (s + 1).toNat m := fun u => by
                obtain ⟨m, e, F⟩ := asn
                refine ⟨m ||| 2 ^ s.toNat, ?_, ?_⟩
                · rw [x94 (by omega) (by omega), e, ip2, Int.toNat_natCast]
                · rw [tn_s as_.1]
                  exact FSN_y F (by rw [tn_c as_.1]; exact u)
              have T95 : ∃ m : Nat, w94 = (m : Int) ∧ FSN_ (fun s => CND_ A N b s) (s + 1).toNat m := S95 (D.mpr (by clear S95 asn hA F1 F2 D; omega))
              refine pw_istore_n (lv1 := [some (rr_ G 0), some (ii_ b), some (ii_ w94), some (ii_ s), some (ii_ (h 148 s)), some (ii_ (h 148 (s + 1))), some (ii_ 1), some (ii_ 0)]) (pc := 95) dX11_stopsChanged_95 rfl (by decide) rfl rfl ?_
              skip
              refine pw_iinc (z := s) (lv1 := [some (rr_ G 0), some (ii_ b), some (ii_ w94), some (ii_ (s + 1)), some (ii_ (h 148 s)), some (ii_ (h 148 (s + 1))), some (ii_ 1), some (ii_ 0)]) (pc := 96) dX11_stopsChanged_96 rfl (by decide) rfl rfl ?_
              refine pw_goto (t := 4) (pc := 99) dX11_stopsChanged_99 (by decide) ?_
              refine pw_less (lv1 := [some (rr_ G 0), some (ii_ b), some (ii_ w94), some (ii_ (s + 1)), none, none, none, none]) rfl (by intro i v; (match i with | 0 => simp | 1 => simp | 2 => simp | 3 => simp | 4 => simp | 5 => simp | 6 => simp | 7 => simp | n + 8 => simp)) ?_
              exact ih4 _ _ (by omega) (by first | exact ⟨r94, by obtain ⟨m, e, _⟩ := T95; omega⟩ | exact asr) (Or.inr (by omega)) (by first | exact T95 | exact N96) (by omega)
          · refine pw_iload (z := h 148 s) (pc := 57) dX11_stopsChanged_57 rfl ?_
            refine pw_callS (As := [ii_ (h 148 s)]) (rest := []) (pc := 59) dX11_stopsChanged_59 (j_bitCount h (h 148 s) (by first | omega)) lX11_384 mJ6_bitCount_0f7a4 sJ6_bitCount_0f7a4 rfl rfl (by decide) ⟨Nat.zero_le _, Nat.zero_le _⟩ (Nat.le_of_ble_eq_true rfl) (k_i (fun z59 h59 y59 q59 => ?_))
            obtain ⟨rfl, w59, b59⟩ := q59
            refine pw_iconst (pc := 62) dX11_stopsChanged_62 ?_
            refine pw_icmp_ne (t := 70) (pc := 63) dX11_stopsChanged_63 (by decide) (by first | omega) (by first | omega) (fun c63 => ?_) (fun c63 => ?_)
            · refine pw_iconst (pc := 70) dX11_stopsChanged_70 ?_
              refine pw_istore (lv1 := [some (rr_ G 0), some (ii_ b), some (ii_ sv), some (ii_ s), some (ii_ (h 148 s)), some (ii_ (h 148 (s + 1))), some (ii_ 1), some (ii_ 0)]) (pc := 71) dX11_stopsChanged_71 (by decide) rfl rfl ?_
              refine pw_iload_n (z := b) (pc := 73) dX11_stopsChanged_73 rfl rfl ?_
              refine pw_if_eq (t := 85) (pc := 74) dX11_stopsChanged_74 (by decide) (by first | omega) (fun c74 => ?_) (fun c74 => ?_)
              · refine pw_iload (z := 0) (pc := 85) dX11_stopsChanged_85 rfl ?_
                refine pw_if_eq (t := 96) (pc := 87) dX11_stopsChanged_87 (by decide) (by first | omega) (fun _ => ?_) (fun c87 => absurd c87 (by decide))
                have N96 : ∃ m : Nat, sv = (m : Int) ∧ FSN_ (fun s => CND_ A N b s) (s + 1).toNat m := by
                  have u : ¬ CND_ A N b s := fun u => by have := D.mp u; clear asn hA F1 F2 D; omega
                  obtain ⟨m, e, F⟩ := asn
                  exact ⟨m, e, by rw [tn_s as_.1]; exact FSN_n F (by rw [tn_c as_.1]; exact u)⟩
                refine pw_iinc (z := s) (lv1 := [some (rr_ G 0), some (ii_ b), some (ii_ sv), some (ii_ (s + 1)), some (ii_ (h 148 s)), some (ii_ (h 148 (s + 1))), some (ii_ 1), some (ii_ 0)]) (pc := 96) dX11_stopsChanged_96 rfl (by decide) rfl rfl ?_
                refine pw_goto (t := 4) (pc := 99) dX11_stopsChanged_99 (by decide) ?_
                refine pw_less (lv1 := [some (rr_ G 0), some (ii_ b), some (ii_ sv), some (ii_ (s + 1)), none, none, none, none]) rfl (by intro i v; (match i with | 0 => simp | 1 => simp | 2 => simp | 3 => simp | 4 => simp | 5 => simp | 6 => simp | 7 => simp | n + 8 => simp)) ?_
                exact ih4 _ _ (by omega) (by first | exact ⟨r94, by obtain ⟨m, e, _⟩ := T95; omega⟩ | exact asr) (Or.inr (by omega)) (by first | exact T95 | exact N96) (by omega)
              · refine pw_iload (z := 1) (pc := 77) dX11_stopsChanged_77 rfl ?_
                refine pw_if_eq (t := 96) (pc := 79) dX11_stopsChanged_79 (by decide) (by first | omega) (fun c79 => absurd c79 (by decide)) (fun _ => ?_)
                refine pw_goto (t := 90) (pc := 82) dX11_stopsChanged_82 (by decide) ?_
                refine pw_iload_n (z := sv) (pc := 90) dX11_stopsChanged_90 rfl rfl ?_
                refine pw_iconst (pc := 91) dX11_stopsChanged_91 ?_
                refine pw_iload_n (z := s) (pc := 92) dX11_stopsChanged_92 rfl rfl ?_
                refine pw_ishl1 (pc := 93) dX11_stopsChanged_93 (by first | omega) ?_
                refine pw_iorX (pc := 94) dX11_stopsChanged_94 (by first | omega) (by first | omega) (fun w94 r94 x94 => ?_)
                have S95 : CND_ A N b s → ∃ m : Nat, w94 = (m : Int) ∧ FSN_ (fun s => CND_ A N b s) (s + 1).toNat m := fun u => by
                  obtain ⟨m, e, F⟩ := asn
                  refine ⟨m ||| 2 ^ s.toNat, ?_, ?_⟩
                  · rw [x94 (by omega) (by omega), e, ip2, Int.toNat_natCast]
                  · rw [tn_s as_.1]
                    exact FSN_y F (by rw [tn_c as_.1]; exact u)
                have T95 : ∃ m : Nat, w94 = (m : Int) ∧ FSN_ (fun s => CND_ A N b s) (s + 1).toNat m := S95 (D.mpr (by clear S95 asn hA F1 F2 D; omega))
                refine pw_istore_n (lv1 := [some (rr_ G 0), some (ii_ b), some (ii_ w94), some (ii_ s), some (ii_ (h 148 s)), some (ii_ (h 148 (s + 1))), some (ii_ 1), some (ii_ 0)]) (pc := 95) dX11_stopsChanged_95 rfl (by decide) rfl rfl ?_
                skip
                refine pw_iinc (z := s) (lv1 := [some (rr_ G 0), some (ii_ b), some (ii_ w94), some (ii_ (s + 1)), some (ii_ (h 148 s)), some (ii_ (h 148 (s + 1))), some (ii_ 1), some (ii_ 0)]) (pc := 96) dX11_stopsChanged_96 rfl (by decide) rfl rfl ?_
                refine pw_goto (t := 4) (pc := 99) dX11_stopsChanged_99 (by decide) ?_
                refine pw_less (lv1 := [some (rr_ G 0), some (ii_ b), some (ii_ w94), some (ii_ (s + 1)), none, none, none, none]) rfl (by intro i v; (match i with | 0 => simp | 1 => simp | 2 => simp | 3 => simp | 4 => simp | 5 => simp | 6 => simp | 7 => simp | n + 8 => simp)) ?_
                exact ih4 _ _ (by omega) (by first | exact ⟨r94, by obtain ⟨m, e, _⟩ := T95; omega⟩ | exact asr) (Or.inr (by omega)) (by first | exact T95 | exact N96) (by omega)
            · refine pw_iconst (pc := 66) dX11_stopsChanged_66 ?_
              refine pw_goto (t := 71) (pc := 67) dX11_stopsChanged_67 (by decide) ?_
              refine pw_istore (lv1 := [some (rr_ G 0), some (ii_ b), some (ii_ sv), some (ii_ s), some (ii_ (h 148 s)), some (ii_ (h 148 (s + 1))), some (ii_ 1), some (ii_ 1)]) (pc := 71) dX11_stopsChanged_71 (by decide) rfl rfl ?_
              refine pw_iload_n (z := b) (pc := 73) dX11_stopsChanged_73 rfl rfl ?_
              refine pw_if_eq (t := 85) (pc := 74) dX11_stopsChanged_74 (by decide) (by first | omega) (fun c74 => ?_) (fun c74 => ?_)
              · refine pw_iload (z := 1) (pc := 85) dX11_stopsChanged_85 rfl ?_
                refine pw_if_eq (t := 96) (pc := 87) dX11_stopsChanged_87 (by decide) (by first | omega) (fun c87 => absurd c87 (by decide)) (fun _ => ?_)
                refine pw_iload_n (z := sv) (pc := 90) dX11_stopsChanged_90 rfl rfl ?_
                refine pw_iconst (pc := 91) dX11_stopsChanged_91 ?_
                refine pw_iload_n (z := s) (pc := 92) dX11_stopsChanged_92 rfl rfl ?_
                refine pw_ishl1 (pc := 93) dX11_stopsChanged_93 (by first | omega) ?_
                refine pw_iorX (pc := 94) dX11_stopsChanged_94 (by first | omega) (by first | omega) (fun w94 r94 x94 => ?_)
                have S95 : CND_ A N b s → ∃ m : Nat, w94 = (m : Int) ∧ FSN_ (fun s => CND_ A N b s) (s + 1).toNat m := fun u => by
                  obtain ⟨m, e, F⟩ := asn
                  refine ⟨m ||| 2 ^ s.toNat, ?_, ?_⟩
                  · rw [x94 (by omega) (by omega), e, ip2, Int.toNat_natCast]
                  · rw [tn_s as_.1]
                    exact FSN_y F (by rw [tn_c as_.1]; exact u)
                have T95 : ∃ m : Nat, w94 = (m : Int) ∧ FSN_ (fun s => CND_ A N b s) (s + 1).toNat m := S95 (D.mpr (by clear S95 asn hA F1 F2 D; omega))
                refine pw_istore_n (lv1 := [some (rr_ G 0), some (ii_ b), some (ii_ w94), some (ii_ s), some (ii_ (h 148 s)), some (ii_ (h 148 (s + 1))), some (ii_ 1), some (ii_ 1)]) (pc := 95) dX11_stopsChanged_95 rfl (by decide) rfl rfl ?_
                skip
                refine pw_iinc (z := s) (lv1 := [some (rr_ G 0), some (ii_ b), some (ii_ w94), some (ii_ (s + 1)), some (ii_ (h 148 s)), some (ii_ (h 148 (s + 1))), some (ii_ 1), some (ii_ 1)]) (pc := 96) dX11_stopsChanged_96 rfl (by decide) rfl rfl ?_
                refine pw_goto (t := 4) (pc := 99) dX11_stopsChanged_99 (by decide) ?_
                refine pw_less (lv1 := [some (rr_ G 0), some (ii_ b), some (ii_ w94), some (ii_ (s + 1)), none, none, none, none]) rfl (by intro i v; (match i with | 0 => simp | 1 => simp | 2 => simp | 3 => simp | 4 => simp | 5 => simp | 6 => simp | 7 => simp | n + 8 => simp)) ?_
                exact ih4 _ _ (by omega) (by first | exact ⟨r94, by obtain ⟨m, e, _⟩ := T95; omega⟩ | exact asr) (Or.inr (by omega)) (by first | exact T95 | exact N96) (by omega)
              · refine pw_iload (z := 1) (pc := 77) dX11_stopsChanged_77 rfl ?_
                refine pw_if_eq (t := 96) (pc := 79) dX11_stopsChanged_79 (by decide) (by first | omega) (fun c79 => absurd c79 (by decide)) (fun _ => ?_)
                refine pw_goto (t := 90) (pc := 82) dX11_stopsChanged_82 (by decide) ?_
                refine pw_iload_n (z := sv) (pc := 90) dX11_stopsChanged_90 rfl rfl ?_
                refine pw_iconst (pc := 91) dX11_stopsChanged_91 ?_
                refine pw_iload_n (z := s) (pc := 92) dX11_stopsChanged_92 rfl rfl ?_
                refine pw_ishl1 (pc := 93) dX11_stopsChanged_93 (by first | omega) ?_
                refine pw_iorX (pc := 94) dX11_stopsChanged_94 (by first | omega) (by first | omega) (fun w94 r94 x94 => ?_)
                have S95 : CND_ A N b s → ∃ m : Nat, w94 = (m : Int) ∧ FSN_ (fun s => CND_ A N b s) (s + 1).toNat m := fun u => by
                  obtain ⟨m, e, F⟩ := asn
                  refine ⟨m ||| 2 ^ s.toNat, ?_, ?_⟩
                  · rw [x94 (by omega) (by omega), e, ip2, Int.toNat_natCast]
                  · rw [tn_s as_.1]
                    exact FSN_y F (by rw [tn_c as_.1]; exact u)
                have T95 : ∃ m : Nat, w94 = (m : Int) ∧ FSN_ (fun s => CND_ A N b s) (s + 1).toNat m := S95 (D.mpr (by clear S95 asn hA F1 F2 D; omega))
                refine pw_istore_n (lv1 := [some (rr_ G 0), some (ii_ b), some (ii_ w94), some (ii_ s), some (ii_ (h 148 s)), some (ii_ (h 148 (s + 1))), some (ii_ 1), some (ii_ 1)]) (pc := 95) dX11_stopsChanged_95 rfl (by decide) rfl rfl ?_
                skip
                refine pw_iinc (z := s) (lv1 := [some (rr_ G 0), some (ii_ b), some (ii_ w94), some (ii_ (s + 1)), some (ii_ (h 148 s)), some (ii_ (h 148 (s + 1))), some (ii_ 1), some (ii_ 1)]) (pc := 96) dX11_stopsChanged_96 rfl (by decide) rfl rfl ?_
                refine pw_goto (t := 4) (pc := 99) dX11_stopsChanged_99 (by decide) ?_
                refine pw_less (lv1 := [some (rr_ G 0), some (ii_ b), some (ii_ w94), some (ii_ (s + 1)), none, none, none, none]) rfl (by intro i v; (match i with | 0 => simp | 1 => simp | 2 => simp | 3 => simp | 4 => simp | 5 => simp | 6 => simp | 7 => simp | n + 8 => simp)) ?_
                exact ih4 _ _ (by omega) (by first | exact ⟨r94, by obtain ⟨m, e, _⟩ := T95; omega⟩ | exact asr) (Or.inr (by omega)) (by first | exact T95 | exact N96) (by omega)
  exact L4 _ _ _ (by omega) (by omega) (Or.inl rfl) (⟨0, rfl, FSN_0⟩) (Int.self_le_toNat _)

