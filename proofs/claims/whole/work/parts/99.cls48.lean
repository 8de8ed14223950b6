set_option maxHeartbeats 4000000 in
set_option maxRecDepth 100000 in
theorem d_step {G : GT_} (hC : okC_ G) (h : PH_) (tp : Int → Int) (n : Int) (H : CTP_ tp n h) (a : Nat) (hb : h 1 1 = tkp_ tp n a) : PC G yX8_step cX8_step 3 none 5 [rr_ G 1] h (qv_ (fun h' => off_ [1] h h' ∧ CTK_ tp n h' a ∧ h' 1 5 = h 1 4)) := by
  obtain ⟨H1, H2, H3⟩ := H
  have kb := tkp_b (tp := tp) H2.1 a
  obtain ⟨p, hp⟩ : ∃ p, tpl_ tp n (tkp_ tp n a) = p := ⟨_, rfl⟩
  refine PC.of (lv := [some (rr_ G 1), none, none]) (by decide +kernel) (Nat.le_of_ble_eq_true rfl) rfl rfl ?_
  refine pw_aload_n (z := 1) (pc := 0) dX8_step_0 rfl rfl ?_
  refine pw_aload_n (z := 1) (pc := 1) dX8_step_1 rfl rfl ?_
  refine pw_gI (x := 4) (pc := 2) dX8_step_2 fX8_25 (hC 1 (by decide)) (show kd_ 1 = 18 by decide +kernel) rfl rfl (fun r2 => ?_)
  refine pw_pI (x := 5) (pc := 5) dX8_step_5 fX8_28 (hC 1 (by decide)) (show kd_ 1 = 18 by decide +kernel) rfl rfl (by first | omega) ?_
  obtain ⟨g5, e5⟩ : ∃ x, x = up_ h 1 5 (h 1 4) := ⟨_, rfl⟩
  refine pw_heq e5 ?_
  have J49 : ∀ (k : Int), (0 ≤ k ∧ k ≤ n) → (k = p) → PW G RX8 cX8_step 3 none (rm_ 5) 0 0 (zm_ G (qv_ (fun h' => off_ [1] h h' ∧ CTK_ tp n h' a ∧ h' 1 5 = h 1 4))) 49 [some (rr_ G 1), some (ii_ k), none] [] g5 := by
    intro k jk jp
    subst jp
    refine pw_aload_n (z := 1) (pc := 49) dX8_step_49 rfl rfl ?_
    refine pw_iload_n (z := k) (pc := 50) dX8_step_50 rfl rfl ?_
    refine pw_pI (x := 4) (pc := 51) dX8_step_51 fX8_25 (hC 1 (by decide)) (show kd_ 1 = 18 by decide +kernel) rfl rfl (by first | omega) ?_
    obtain ⟨g51, e51⟩ : ∃ x, x = up_ g5 1 4 k := ⟨_, rfl⟩
    refine pw_heq e51 ?_
    refine pw_aload_n (z := 1) (pc := 54) dX8_step_54 rfl rfl ?_
    refine pw_lconst (z := 0) (pc := 55) dX8_step_55 rfl ?_
    refine pw_pJ (x := 6) (pc := 56) dX8_step_56 fX8_31 (hC 1 (by decide)) (show kd_ 1 = 18 by decide +kernel) rfl rfl (by first | omega) ?_
    obtain ⟨g56, e56⟩ : ∃ x, x = up_ g51 1 6 0 := ⟨_, rfl⟩
    refine pw_heq e56 ?_
    refine pw_aload_n (z := 1) (pc := 59) dX8_step_59 rfl rfl ?_
    refine pw_iconst (pc := 60) dX8_step_60 ?_
    refine pw_pI (x := 3) (pc := 61) dX8_step_61 fX8_35 (hC 1 (by decide)) (show kd_ 1 = 18 by decide +kernel) rfl rfl (by first | omega) ?_
    obtain ⟨g61, e61⟩ : ∃ x, x = up_ g56 1 3 0 := ⟨_, rfl⟩
    refine pw_heq e61 ?_
    refine pw_iload_n (z := k) (pc := 64) dX8_step_64 rfl rfl ?_
    refine pw_aload_n (z := 1) (pc := 65) dX8_step_65 rfl rfl ?_
    refine pw_gI (x := 2) (pc := 66) dX8_step_66 fX8_15 (hC 1 (by decide)) (show kd_ 1 = 18 by decide +kernel) rfl rfl (fun r66 => ?_)
    have n_g61_1_2 : g61 1 2 = h 1 2 := ((((show g61 1 2 = g56 1 2 from (by rw [e61, up_at]; exact if_neg (by decide))).trans (show g56 1 2 = g51 1 2 from (by rw [e56, up_at]; exact if_neg (by decide)))).trans (show g51 1 2 = g5 1 2 from (by rw [e51, up_at]; exact if_neg (by decide)))).trans (show g5 1 2 = h 1 2 from (by rw [e5, up_at]; exact if_neg (by decide))))
    rw [n_g61_1_2] at r66 ⊢
    refine pw_icmp_ge (t := 81) (pc := 69) dX8_step_69 (by decide) (by first | omega | (simp only [n_g61_1_2]; omega)) (by first | omega | (simp only [n_g61_1_2]; omega)) (fun c69 => ?_) (fun c69 => ?_)
    · refine pw_iconst (pc := 81) dX8_step_81 ?_
      refine pw_istore_n (lv1 := [some (rr_ G 1), some (ii_ k), some (ii_ 0)]) (pc := 82) dX8_step_82 rfl (by decide) rfl rfl ?_
      refine pw_iload_n (z := 0) (pc := 83) dX8_step_83 rfl rfl ?_
      refine pw_bipush (pc := 84) dX8_step_84 rfl ?_
      refine pw_icmp_lt (t := 179) (pc := 86) dX8_step_86 (by decide) (by first | omega | (simp only [n_g61_1_2]; omega)) (by first | omega | (simp only [n_g61_1_2]; omega)) (fun _ => ?_) (fun c86 => absurd c86 (by decide))
      refine pw_iload_n (z := 0) (pc := 179) dX8_step_179 rfl rfl ?_
      refine pw_bipush (pc := 180) dX8_step_180 rfl ?_
      refine pw_icmp_lt (t := 272) (pc := 182) dX8_step_182 (by decide) (by first | omega | (simp only [n_g61_1_2]; omega)) (by first | omega | (simp only [n_g61_1_2]; omega)) (fun _ => ?_) (fun c182 => absurd c182 (by decide))
      refine pw_iload_n (z := k) (pc := 272) dX8_step_272 rfl rfl ?_
      refine pw_aload_n (z := 1) (pc := 273) dX8_step_273 rfl rfl ?_
      refine pw_gI (x := 2) (pc := 274) dX8_step_274 fX8_15 (hC 1 (by decide)) (show kd_ 1 = 18 by decide +kernel) rfl rfl (fun r274 => ?_)
      rw [n_g61_1_2] at r274 ⊢
      refine pw_icmp_ge (t := 307) (pc := 277) dX8_step_277 (by decide) (by first | omega | (simp only [n_g61_1_2]; omega)) (by first | omega | (simp only [n_g61_1_2]; omega)) (fun c277 => ?_) (fun c277 => ?_)
      · refine pw_aload_n (z := 1) (pc := 307) dX8_step_307 rfl rfl ?_
        refine pw_iload_n (z := k) (pc := 308) dX8_step_308 rfl rfl ?_
        refine pw_pI (x := 1) (pc := 309) dX8_step_309 fX8_19 (hC 1 (by decide)) (show kd_ 1 = 18 by decide +kernel) rfl rfl (by first | omega | (simp only [n_g61_1_2]; omega)) ?_
        obtain ⟨g309, e309⟩ : ∃ x, x = up_ g61 1 1 k := ⟨_, rfl⟩
        refine pw_heq e309 ?_
        exact pw_vret (pc := 312) dX8_step_312 (by
                  have k9 : ∀ x, g309 1 x = ob_ (ob_ (ob_ (ob_ (ob_ (h 1) 5 (h 1 4)) 4 k) 6 0) 3 0) 1 k x := fun x => by rw [e309, up_ob, e61, up_ob, e56, up_ob, e51, up_ob, e5, up_ob]
                  have f9 : off_ [1] h g309 := by rw [e309, e61, e56, e51, e5]; exact off_up (off_up (off_up (off_up (off_up off_rf (by decide)) (by decide)) (by decide)) (by decide)) (by decide)
                  exact ⟨f9, ctk_E (CTP_mv ⟨H1, H2, H3⟩ (by rw [k9]; rfl) (f9 2 (by decide))) hp (by omega) (by rw [k9]; rfl) (by rw [k9]; rfl) (by rw [k9]; rfl), by rw [k9]; rfl⟩)
      · exfalso; omega
    · have hk2 := H3 k (by omega) (by omega)
      refine pw_aload_n (z := 1) (pc := 72) dX8_step_72 rfl rfl ?_
      refine pw_getR (r := 2) (pc := 73) dX8_step_73 fX8_9 (hC 1 (by decide)) (show kd_ 1 = 18 by decide +kernel) rfl (by decide +kernel) ?_
      refine pw_iload_n (z := k) (pc := 76) dX8_step_76 rfl rfl ?_
      refine pw_cald (pc := 77) dX8_step_77 (hC 2 (by decide)) (show kd_ 2 = 3 by decide +kernel) 1000 (by decide +kernel) (by first | omega | (simp only [n_g61_1_2]; omega)) (by first | omega | (simp only [n_g61_1_2]; omega)) (by first | omega | (simp only [n_g61_1_2]; omega)) (fun r77 => ?_)
      have n_g61_2 : g61 2 = h 2 := ((((show g61 2 = g56 2 from (by rw [e61]; exact up_off (by first | decide | omega))).trans (show g56 2 = g51 2 from (by rw [e56]; exact up_off (by first | decide | omega)))).trans (show g51 2 = g5 2 from (by rw [e51]; exact up_off (by first | decide | omega)))).trans (show g5 2 = h 2 from (by rw [e5]; exact up_off (by first | decide | omega))))
      rw [n_g61_2] at r77 ⊢
      refine pw_goto (t := 82) (pc := 78) dX8_step_78 (by decide) ?_
      refine pw_istore_n (lv1 := [some (rr_ G 1), some (ii_ k), some (ii_ (h 2 k))]) (pc := 82) dX8_step_82 rfl (by decide) rfl rfl ?_
      refine pw_iload_n (z := h 2 k) (pc := 83) dX8_step_83 rfl rfl ?_
      refine pw_bipush (pc := 84) dX8_step_84 rfl ?_
      refine pw_icmp_lt (t := 179) (pc := 86) dX8_step_86 (by decide) (by first | omega | (simp only [n_g61_1_2, n_g61_2]; omega)) (by first | omega | (simp only [n_g61_1_2, n_g61_2]; omega)) (fun c86 => ?_) (fun c86 => ?_)
      · refine pw_iload_n (z := h 2 k) (pc := 179) dX8_step_179 rfl rfl ?_
        refine pw_bipush (pc := 180) dX8_step_180 rfl ?_
        refine pw_icmp_lt (t := 272) (pc := 182) dX8_step_182 (by decide) (by first | omega | (simp only [n_g61_1_2, n_g61_2]; omega)) (by first | omega | (simp only [n_g61_1_2, n_g61_2]; omega)) (fun c182 => ?_) (fun c182 => ?_)
        · refine pw_iload_n (z := k) (pc := 272) dX8_step_272 rfl rfl ?_
          refine pw_aload_n (z := 1) (pc := 273) dX8_step_273 rfl rfl ?_
          refine pw_gI (x := 2) (pc := 274) dX8_step_274 fX8_15 (hC 1 (by decide)) (show kd_ 1 = 18 by decide +kernel) rfl rfl (fun r274 => ?_)
          rw [n_g61_1_2] at r274 ⊢
          refine pw_icmp_ge (t := 307) (pc := 277) dX8_step_277 (by decide) (by first | omega | (simp only [n_g61_1_2, n_g61_2]; omega)) (by first | omega | (simp only [n_g61_1_2, n_g61_2]; omega)) (fun c277 => ?_) (fun c277 => ?_)
          · refine pw_aload_n (z := 1) (pc := 307) dX8_step_307 rfl rfl ?_
            refine pw_iload_n (z := k) (pc := 308) dX8_step_308 rfl rfl ?_
            refine pw_pI (x := 1) (pc := 309) dX8_step_309 fX8_19 (hC 1 (by decide)) (show kd_ 1 = 18 by decide +kernel) rfl rfl (by first | omega | (simp only [n_g61_1_2, n_g61_2]; omega)) ?_
            obtain ⟨g309, e309⟩ : ∃ x, x = up_ g61 1 1 k := ⟨_, rfl⟩
            refine pw_heq e309 ?_
            exact pw_vret (pc := 312) dX8_step_312 (by
                      have k9 : ∀ x, g309 1 x = ob_ (ob_ (ob_ (ob_ (ob_ (h 1) 5 (h 1 4)) 4 k) 6 0) 3 0) 1 k x := fun x => by rw [e309, up_ob, e61, up_ob, e56, up_ob, e51, up_ob, e5, up_ob]
                      have f9 : off_ [1] h g309 := by rw [e309, e61, e56, e51, e5]; exact off_up (off_up (off_up (off_up (off_up off_rf (by decide)) (by decide)) (by decide)) (by decide)) (by decide)
                      exact ⟨f9, ctk_E (CTP_mv ⟨H1, H2, H3⟩ (by rw [k9]; rfl) (f9 2 (by decide))) hp (by omega) (by rw [k9]; rfl) (by rw [k9]; rfl) (by rw [k9]; rfl), by rw [k9]; rfl⟩)
          · refine pw_aload_n (z := 1) (pc := 280) dX8_step_280 rfl rfl ?_
            refine pw_iload_n (z := h 2 k) (pc := 281) dX8_step_281 rfl rfl ?_
            refine pw_i2l (pc := 282) dX8_step_282 (by first | omega | (simp only [n_g61_1_2, n_g61_2]; omega)) ?_
            refine pw_pJ (x := 6) (pc := 283) dX8_step_283 fX8_31 (hC 1 (by decide)) (show kd_ 1 = 18 by decide +kernel) rfl rfl (by first | omega | (simp only [n_g61_1_2, n_g61_2]; omega)) ?_
            obtain ⟨g283, e283⟩ : ∃ x, x = up_ g61 1 6 (h 2 k) := ⟨_, rfl⟩
            refine pw_heq e283 ?_
            refine pw_aload_n (z := 1) (pc := 286) dX8_step_286 rfl rfl ?_
            refine pw_ldcs 1 (pc := 287) dX8_step_287 rfl ?_
            refine pw_iload_n (z := h 2 k) (pc := 289) dX8_step_289 rfl rfl ?_
            refine pw_callT (j := 1) (As := [ii_ (h 2 k)]) (rest := [rr_ G 1]) (by omega) (pc := 290) dX8_step_290 (j_indexOf g283 1 (by first | omega | (simp only [n_g61_1_2, n_g61_2]; omega)) (h 2 k) (by first | omega | (simp only [n_g61_1_2, n_g61_2]; omega)) (by decide +kernel)) lX8_44 mJ0_indexOf_0f7a4 vJ0_indexOf_0f7a4 rfl rfl rfl (by decide) ⟨Nat.zero_le _, Nat.zero_le _⟩ (Nat.le_of_ble_eq_true rfl) (k_i (fun z290 h290 y290 q290 => ?_))
            obtain ⟨rfl, w290⟩ := q290
            have hs := six_s (c := tp k)
            rw [← hk2.1] at hs
            rw [← w290, hk2.1] at hs
            refine pw_if_lt (t := 300) (pc := 293) dX8_step_293 (by decide) (by first | omega | (simp only [n_g61_1_2, n_g61_2]; omega)) (fun c293 => ?_) (fun c293 => ?_)
            · refine pw_iconst (pc := 300) dX8_step_300 ?_
              refine pw_pI (x := 3) (pc := 301) dX8_step_301 fX8_35 (hC 1 (by decide)) (show kd_ 1 = 18 by decide +kernel) rfl rfl (by first | omega | (simp only [n_g61_1_2, n_g61_2]; omega)) ?_
              obtain ⟨g301, e301⟩ : ∃ x, x = up_ g283 1 3 1 := ⟨_, rfl⟩
              refine pw_heq e301 ?_
              refine pw_iinc (z := k) (lv1 := [some (rr_ G 1), some (ii_ (k + 1)), some (ii_ (h 2 k))]) (pc := 304) dX8_step_304 rfl (by decide) rfl rfl ?_
              refine pw_aload_n (z := 1) (pc := 307) dX8_step_307 rfl rfl ?_
              refine pw_iload_n (z := k + 1) (pc := 308) dX8_step_308 rfl rfl ?_
              refine pw_pI (x := 1) (pc := 309) dX8_step_309 fX8_19 (hC 1 (by decide)) (show kd_ 1 = 18 by decide +kernel) rfl rfl (by first | omega | (simp only [n_g61_1_2, n_g61_2]; omega)) ?_
              obtain ⟨g309, e309⟩ : ∃ x, x = up_ g301 1 1 (k + 1) := ⟨_, rfl⟩
              refine pw_heq e309 ?_
              exact pw_vret (pc := 312) dX8_step_312 (by
                        obtain ⟨v3, h3⟩ : ∃ v3, g309 1 3 = v3 ∧ (sof_ (tp k) ∧ v3 = 4 ∨ ¬ sof_ (tp k) ∧ v3 = 1) := by
                          refine ⟨_, rfl, ?_⟩
                          rw [e309, up_at, if_neg (by decide), e301, up_same]
                          first
                          | exact Or.inl ⟨hs.mp (by omega), rfl⟩
                          | exact Or.inr ⟨fun u => by have := hs.mpr u; omega, rfl⟩
                        have k9 : ∀ x, x ≠ 3 → g309 1 x = ob_ (ob_ (ob_ (ob_ (ob_ (ob_ (h 1) 5 (h 1 4)) 4 k) 6 0) 3 0) 6 (h 2 k)) 1 (k + 1) x := fun x x3 => by
                          rw [e309, up_ob, e301, up_ob, e283, up_ob, e61, up_ob, e56, up_ob, e51, up_ob, e5, up_ob]
                          unfold ob_
                          rw [if_neg x3]
                        have f9 : off_ [1] h g309 := by rw [e309, e301, e283, e61, e56, e51, e5]; exact off_up (off_up (off_up (off_up (off_up (off_up (off_up off_rf (by decide)) (by decide)) (by decide)) (by decide)) (by decide)) (by decide)) (by decide)
                        exact ⟨f9, ctk_S (CTP_mv ⟨H1, H2, H3⟩ (by rw [k9 2 (by decide)]; rfl) (f9 2 (by decide))) hp (by omega) (by unfold let_; omega) (by unfold dig_; omega) (by rw [k9 1 (by decide)]; rfl) (by rw [h3.1]; exact h3.2) (by rw [k9 4 (by decide)]; rfl) (by rw [k9 6 (by decide)]; exact hk2.1), by rw [k9 5 (by decide)]; rfl⟩)
            · refine pw_iconst (pc := 296) dX8_step_296 ?_
              refine pw_goto (t := 301) (pc := 297) dX8_step_297 (by decide) ?_
              refine pw_pI (x := 3) (pc := 301) dX8_step_301 fX8_35 (hC 1 (by decide)) (show kd_ 1 = 18 by decide +kernel) rfl rfl (by first | omega | (simp only [n_g61_1_2, n_g61_2]; omega)) ?_
              obtain ⟨g301, e301⟩ : ∃ x, x = up_ g283 1 3 4 := ⟨_, rfl⟩
              refine pw_heq e301 ?_
              refine pw_iinc (z := k) (lv1 := [some (rr_ G 1), some (ii_ (k + 1)), some (ii_ (h 2 k))]) (pc := 304) dX8_step_304 rfl (by decide) rfl rfl ?_
              refine pw_aload_n (z := 1) (pc := 307) dX8_step_307 rfl rfl ?_
              refine pw_iload_n (z := k + 1) (pc := 308) dX8_step_308 rfl rfl ?_
              refine pw_pI (x := 1) (pc := 309) dX8_step_309 fX8_19 (hC 1 (by decide)) (show kd_ 1 = 18 by decide +kernel) rfl rfl (by first | omega | (simp only [n_g61_1_2, n_g61_2]; omega)) ?_
              obtain ⟨g309, e309⟩ : ∃ x, x = up_ g301 1 1 (k + 1) := ⟨_, rfl⟩
              refine pw_heq e309 ?_
              exact pw_vret (pc := 312) dX8_step_312 (by
                        obtain ⟨v3, h3⟩ : ∃ v3, g309 1 3 = v3 ∧ (sof_ (tp k) ∧ v3 = 4 ∨ ¬ sof_ (tp k) ∧ v3 = 1) := by
                          refine ⟨_, rfl, ?_⟩
                          rw [e309, up_at, if_neg (by decide), e301, up_same]
                          first
                          | exact Or.inl ⟨hs.mp (by omega), rfl⟩
                          | exact Or.inr ⟨fun u => by have := hs.mpr u; omega, rfl⟩
                        have k9 : ∀ x, x ≠ 3 → g309 1 x = ob_ (ob_ (ob_ (ob_ (ob_ (ob_ (h 1) 5 (h 1 4)) 4 k) 6 0) 3 0) 6 (h 2 k)) 1 (k + 1) x := fun x x3 => by
                          rw [e309, up_ob, e301, up_ob, e283, up_ob, e61, up_ob, e56, up_ob, e51, up_ob, e5, up_ob]
                          unfold ob_
                          rw [if_neg x3]
                        have f9 : off_ [1] h g309 := by rw [e309, e301, e283, e61, e56, e51, e5]; exact off_up (off_up (off_up (off_up (off_up (off_up (off_up off_rf (by decide)) (by decide)) (by decide)) (by decide)) (by decide)) (by decide)) (by decide)
                        exact ⟨f9, ctk_S (CTP_mv ⟨H1, H2, H3⟩ (by rw [k9 2 (by decide)]; rfl) (f9 2 (by decide))) hp (by omega) (by unfold let_; omega) (by unfold dig_; omega) (by rw [k9 1 (by decide)]; rfl) (by rw [h3.1]; exact h3.2) (by rw [k9 4 (by decide)]; rfl) (by rw [k9 6 (by decide)]; exact hk2.1), by rw [k9 5 (by decide)]; rfl⟩)
        · have J250 : ∀ (q : Int) (a1 : PH_), (k ≤ q ∧ q ≤ n) → (dig_ (tp k)) → (off_ [1] g61 a1) → (∀ x, x ≠ 6 → a1 1 x = g61 1 x) → (rnx_ dig_ tp n k = q) → (q - k ≤ 4 → a1 1 6 = nus_ tp (q - k).toNat k 0) → PW G RX8 cX8_step 3 none (rm_ 5) 0 0 (zm_ G (qv_ (fun h' => off_ [1] h h' ∧ CTK_ tp n h' a ∧ h' 1 5 = h 1 4))) 250 [some (rr_ G 1), some (ii_ q), some (ii_ (h 2 k))] [] a1 := by
            intro q a1 jq jl jf jx je jv
            have j4 : a1 1 4 = k := by rw [jx 4 (by decide), e61, up_at, if_neg (by decide), e56, up_at, if_neg (by decide), e51, up_same]
            have j5 : a1 1 5 = h 1 4 := by rw [jx 5 (by decide), e61, up_at, if_neg (by decide), e56, up_at, if_neg (by decide), e51, up_at, if_neg (by decide), e5, up_same]
            have j2 : a1 1 2 = n := by rw [jx 2 (by decide), e61, up_at, if_neg (by decide), e56, up_at, if_neg (by decide), e51, up_at, if_neg (by decide), e5, up_at, if_neg (by decide)]; exact H1
            have f61 : off_ [1] h g61 := by rw [e61, e56, e51, e5]; exact off_up (off_up (off_up (off_up off_rf (by decide)) (by decide)) (by decide)) (by decide)
            have c2 : a1 2 = h 2 := by rw [jf 2 (by decide), f61 2 (by decide)]
            refine pw_aload_n (z := 1) (pc := 250) dX8_step_250 rfl rfl ?_
            refine pw_iload_n (z := q) (pc := 251) dX8_step_251 rfl rfl ?_
            refine pw_aload_n (z := 1) (pc := 252) dX8_step_252 rfl rfl ?_
            refine pw_gI (x := 4) (pc := 253) dX8_step_253 fX8_25 (hC 1 (by decide)) (show kd_ 1 = 18 by decide +kernel) rfl rfl (fun r253 => ?_)
            refine pw_isub (pc := 256) dX8_step_256 ?_
            refine pw_iconst (pc := 257) dX8_step_257 ?_
            refine pw_icmp_gt (t := 265) (pc := 258) dX8_step_258 (by decide) (by first | omega | (simp only [n_g61_1_2, n_g61_2]; omega)) (by first | omega | (simp only [n_g61_1_2, n_g61_2]; omega)) (fun c258 => ?_) (fun c258 => ?_)
            · refine pw_iconst (pc := 265) dX8_step_265 ?_
              refine pw_pI (x := 3) (pc := 266) dX8_step_266 fX8_35 (hC 1 (by decide)) (show kd_ 1 = 18 by decide +kernel) rfl rfl (by first | omega | (simp only [n_g61_1_2, n_g61_2]; omega)) ?_
              obtain ⟨g266, e266⟩ : ∃ x, x = up_ a1 1 3 1 := ⟨_, rfl⟩
              refine pw_heq e266 ?_
              refine pw_goto (t := 307) (pc := 269) dX8_step_269 (by decide) ?_
              refine pw_aload_n (z := 1) (pc := 307) dX8_step_307 rfl rfl ?_
              refine pw_iload_n (z := q) (pc := 308) dX8_step_308 rfl rfl ?_
              refine pw_pI (x := 1) (pc := 309) dX8_step_309 fX8_19 (hC 1 (by decide)) (show kd_ 1 = 18 by decide +kernel) rfl rfl (by first | omega | (simp only [n_g61_1_2, n_g61_2]; omega)) ?_
              obtain ⟨g309, e309⟩ : ∃ x, x = up_ g266 1 1 q := ⟨_, rfl⟩
              refine pw_heq e309 ?_
              exact pw_vret (pc := 312) dX8_step_312 (by
                        obtain ⟨v3, h3⟩ : ∃ v3, g309 1 3 = v3 ∧ (q - k ≤ 4 ∧ v3 = 3 ∨ ¬ q - k ≤ 4 ∧ v3 = 1) := by
                          refine ⟨_, rfl, ?_⟩
                          rw [e309, up_at, if_neg (by decide), e266, up_same]
                          omega
                        have k9 : ∀ x, x ≠ 3 → g309 1 x = ob_ (a1 1) 1 q x := fun x x3 => by
                          rw [e309, up_ob, e266, up_ob]
                          unfold ob_
                          rw [if_neg x3]
                        have c9 : g309 2 = h 2 := by rw [e309, up_off (by decide), e266, up_off (by decide)]; exact c2
                        refine ⟨by rw [e309, e266]; exact off_up (off_up (off_tr f61 jf) (by decide)) (by decide), ?_, by rw [k9 5 (by decide)]; exact j5⟩
                        exact ctk_D (CTP_mv ⟨H1, H2, H3⟩ (by rw [k9 2 (by decide)]; exact j2.trans H1.symm) c9) hp (by omega) (by unfold let_; omega) jl je (by rw [k9 1 (by decide)]; rfl) (by rw [h3.1]; exact h3.2) (by rw [k9 4 (by decide)]; exact j4) (fun u => by rw [k9 6 (by decide)]; exact jv u))
            · refine pw_iconst (pc := 261) dX8_step_261 ?_
              refine pw_goto (t := 266) (pc := 262) dX8_step_262 (by decide) ?_
              refine pw_pI (x := 3) (pc := 266) dX8_step_266 fX8_35 (hC 1 (by decide)) (show kd_ 1 = 18 by decide +kernel) rfl rfl (by first | omega | (simp only [n_g61_1_2, n_g61_2]; omega)) ?_
              obtain ⟨g266, e266⟩ : ∃ x, x = up_ a1 1 3 3 := ⟨_, rfl⟩
              refine pw_heq e266 ?_
              refine pw_goto (t := 307) (pc := 269) dX8_step_269 (by decide) ?_
              refine pw_aload_n (z := 1) (pc := 307) dX8_step_307 rfl rfl ?_
              refine pw_iload_n (z := q) (pc := 308) dX8_step_308 rfl rfl ?_
              refine pw_pI (x := 1) (pc := 309) dX8_step_309 fX8_19 (hC 1 (by decide)) (show kd_ 1 = 18 by decide +kernel) rfl rfl (by first | omega | (simp only [n_g61_1_2, n_g61_2]; omega)) ?_
              obtain ⟨g309, e309⟩ : ∃ x, x = up_ g266 1 1 q := ⟨_, rfl⟩
              refine pw_heq e309 ?_
              exact pw_vret (pc := 312) dX8_step_312 (by
                        obtain ⟨v3, h3⟩ : ∃ v3, g309 1 3 = v3 ∧ (q - k ≤ 4 ∧ v3 = 3 ∨ ¬ q - k ≤ 4 ∧ v3 = 1) := by
                          refine ⟨_, rfl, ?_⟩
                          rw [e309, up_at, if_neg (by decide), e266, up_same]
                          omega
                        have k9 : ∀ x, x ≠ 3 → g309 1 x = ob_ (a1 1) 1 q x := fun x x3 => by
                          rw [e309, up_ob, e266, up_ob]
                          unfold ob_
                          rw [if_neg x3]
                        have c9 : g309 2 = h 2 := by rw [e309, up_off (by decide), e266, up_off (by decide)]; exact c2
                        refine ⟨by rw [e309, e266]; exact off_up (off_up (off_tr f61 jf) (by decide)) (by decide), ?_, by rw [k9 5 (by decide)]; exact j5⟩
                        exact ctk_D (CTP_mv ⟨H1, H2, H3⟩ (by rw [k9 2 (by decide)]; exact j2.trans H1.symm) c9) hp (by omega) (by unfold let_; omega) jl je (by rw [k9 1 (by decide)]; rfl) (by rw [h3.1]; exact h3.2) (by rw [k9 4 (by decide)]; exact j4) (fun u => by rw [k9 6 (by decide)]; exact jv u))
          refine pw_iload_n (z := h 2 k) (pc := 185) dX8_step_185 rfl rfl ?_
          refine pw_bipush (pc := 186) dX8_step_186 rfl ?_
          refine pw_icmp_gt (t := 272) (pc := 188) dX8_step_188 (by decide) (by first | omega | (simp only [n_g61_1_2, n_g61_2]; omega)) (by first | omega | (simp only [n_g61_1_2, n_g61_2]; omega)) (fun c188 => ?_) (fun c188 => ?_)
          · refine pw_iload_n (z := k) (pc := 272) dX8_step_272 rfl rfl ?_
            refine pw_aload_n (z := 1) (pc := 273) dX8_step_273 rfl rfl ?_
            refine pw_gI (x := 2) (pc := 274) dX8_step_274 fX8_15 (hC 1 (by decide)) (show kd_ 1 = 18 by decide +kernel) rfl rfl (fun r274 => ?_)
            rw [n_g61_1_2] at r274 ⊢
            refine pw_icmp_ge (t := 307) (pc := 277) dX8_step_277 (by decide) (by first | omega | (simp only [n_g61_1_2, n_g61_2]; omega)) (by first | omega | (simp only [n_g61_1_2, n_g61_2]; omega)) (fun c277 => ?_) (fun c277 => ?_)
            · refine pw_aload_n (z := 1) (pc := 307) dX8_step_307 rfl rfl ?_
              refine pw_iload_n (z := k) (pc := 308) dX8_step_308 rfl rfl ?_
              refine pw_pI (x := 1) (pc := 309) dX8_step_309 fX8_19 (hC 1 (by decide)) (show kd_ 1 = 18 by decide +kernel) rfl rfl (by first | omega | (simp only [n_g61_1_2, n_g61_2]; omega)) ?_
              obtain ⟨g309, e309⟩ : ∃ x, x = up_ g61 1 1 k := ⟨_, rfl⟩
              refine pw_heq e309 ?_
              exact pw_vret (pc := 312) dX8_step_312 (by
                        have k9 : ∀ x, g309 1 x = ob_ (ob_ (ob_ (ob_ (ob_ (h 1) 5 (h 1 4)) 4 k) 6 0) 3 0) 1 k x := fun x => by rw [e309, up_ob, e61, up_ob, e56, up_ob, e51, up_ob, e5, up_ob]
                        have f9 : off_ [1] h g309 := by rw [e309, e61, e56, e51, e5]; exact off_up (off_up (off_up (off_up (off_up off_rf (by decide)) (by decide)) (by decide)) (by decide)) (by decide)
                        exact ⟨f9, ctk_E (CTP_mv ⟨H1, H2, H3⟩ (by rw [k9]; rfl) (f9 2 (by decide))) hp (by omega) (by rw [k9]; rfl) (by rw [k9]; rfl) (by rw [k9]; rfl), by rw [k9]; rfl⟩)
            · refine pw_aload_n (z := 1) (pc := 280) dX8_step_280 rfl rfl ?_
              refine pw_iload_n (z := h 2 k) (pc := 281) dX8_step_281 rfl rfl ?_
              refine pw_i2l (pc := 282) dX8_step_282 (by first | omega | (simp only [n_g61_1_2, n_g61_2]; omega)) ?_
              refine pw_pJ (x := 6) (pc := 283) dX8_step_283 fX8_31 (hC 1 (by decide)) (show kd_ 1 = 18 by decide +kernel) rfl rfl (by first | omega | (simp only [n_g61_1_2, n_g61_2]; omega)) ?_
              obtain ⟨g283, e283⟩ : ∃ x, x = up_ g61 1 6 (h 2 k) := ⟨_, rfl⟩
              refine pw_heq e283 ?_
              refine pw_aload_n (z := 1) (pc := 286) dX8_step_286 rfl rfl ?_
              refine pw_ldcs 1 (pc := 287) dX8_step_287 rfl ?_
              refine pw_iload_n (z := h 2 k) (pc := 289) dX8_step_289 rfl rfl ?_
              refine pw_callT (j := 1) (As := [ii_ (h 2 k)]) (rest := [rr_ G 1]) (by omega) (pc := 290) dX8_step_290 (j_indexOf g283 1 (by first | omega | (simp only [n_g61_1_2, n_g61_2]; omega)) (h 2 k) (by first | omega | (simp only [n_g61_1_2, n_g61_2]; omega)) (by decide +kernel)) lX8_44 mJ0_indexOf_0f7a4 vJ0_indexOf_0f7a4 rfl rfl rfl (by decide) ⟨Nat.zero_le _, Nat.zero_le _⟩ (Nat.le_of_ble_eq_true rfl) (k_i (fun z290 h290 y290 q290 => ?_))
              obtain ⟨rfl, w290⟩ := q290
              have hs := six_s (c := tp k)
              rw [← hk2.1] at hs
              rw [← w290, hk2.1] at hs
              refine pw_if_lt (t := 300) (pc := 293) dX8_step_293 (by decide) (by first | omega | (simp only [n_g61_1_2, n_g61_2]; omega)) (fun c293 => ?_) (fun c293 => ?_)
              · refine pw_iconst (pc := 300) dX8_step_300 ?_
                refine pw_pI (x := 3) (pc := 301) dX8_step_301 fX8_35 (hC 1 (by decide)) (show kd_ 1 = 18 by decide +kernel) rfl rfl (by first | omega | (simp only [n_g61_1_2, n_g61_2]; omega)) ?_
                obtain ⟨g301, e301⟩ : ∃ x, x = up_ g283 1 3 1 := ⟨_, rfl⟩
                refine pw_heq e301 ?_
                refine pw_iinc (z := k) (lv1 := [some (rr_ G 1), some (ii_ (k + 1)), some (ii_ (h 2 k))]) (pc := 304) dX8_step_304 rfl (by decide) rfl rfl ?_
                refine pw_aload_n (z := 1) (pc := 307) dX8_step_307 rfl rfl ?_
                refine pw_iload_n (z := k + 1) (pc := 308) dX8_step_308 rfl rfl ?_
                refine pw_pI (x := 1) (pc := 309) dX8_step_309 fX8_19 (hC 1 (by decide)) (show kd_ 1 = 18 by decide +kernel) rfl rfl (by first | omega | (simp only [n_g61_1_2, n_g61_2]; omega)) ?_
                obtain ⟨g309, e309⟩ : ∃ x, x = up_ g301 1 1 (k + 1) := ⟨_, rfl⟩
                refine pw_heq e309 ?_
                exact pw_vret (pc := 312) dX8_step_312 (by
                          obtain ⟨v3, h3⟩ : ∃ v3, g309 1 3 = v3 ∧ (sof_ (tp k) ∧ v3 = 4 ∨ ¬ sof_ (tp k) ∧ v3 = 1) := by
                            refine ⟨_, rfl, ?_⟩
                            rw [e309, up_at, if_neg (by decide), e301, up_same]
                            first
                            | exact Or.inl ⟨hs.mp (by omega), rfl⟩
                            | exact Or.inr ⟨fun u => by have := hs.mpr u; omega, rfl⟩
                          have k9 : ∀ x, x ≠ 3 → g309 1 x = ob_ (ob_ (ob_ (ob_ (ob_ (ob_ (h 1) 5 (h 1 4)) 4 k) 6 0) 3 0) 6 (h 2 k)) 1 (k + 1) x := fun x x3 => by
                            rw [e309, up_ob, e301, up_ob, e283, up_ob, e61, up_ob, e56, up_ob, e51, up_ob, e5, up_ob]
                            unfold ob_
                            rw [if_neg x3]
                          have f9 : off_ [1] h g309 := by rw [e309, e301, e283, e61, e56, e51, e5]; exact off_up (off_up (off_up (off_up (off_up (off_up (off_up off_rf (by decide)) (by decide)) (by decide)) (by decide)) (by decide)) (by decide)) (by decide)
                          exact ⟨f9, ctk_S (CTP_mv ⟨H1, H2, H3⟩ (by rw [k9 2 (by decide)]; rfl) (f9 2 (by decide))) hp (by omega) (by unfold let_; omega) (by unfold dig_; omega) (by rw [k9 1 (by decide)]; rfl) (by rw [h3.1]; exact h3.2) (by rw [k9 4 (by decide)]; rfl) (by rw [k9 6 (by decide)]; exact hk2.1), by rw [k9 5 (by decide)]; rfl⟩)
              · refine pw_iconst (pc := 296) dX8_step_296 ?_
                refine pw_goto (t := 301) (pc := 297) dX8_step_297 (by decide) ?_
                refine pw_pI (x := 3) (pc := 301) dX8_step_301 fX8_35 (hC 1 (by decide)) (show kd_ 1 = 18 by decide +kernel) rfl rfl (by first | omega | (simp only [n_g61_1_2, n_g61_2]; omega)) ?_
                obtain ⟨g301, e301⟩ : ∃ x, x = up_ g283 1 3 4 := ⟨_, rfl⟩
                refine pw_heq e301 ?_
                refine pw_iinc (z := k) (lv1 := [some (rr_ G 1), some (ii_ (k + 1)), some (ii_ (h 2 k))]) (pc := 304) dX8_step_304 rfl (by decide) rfl rfl ?_
                refine pw_aload_n (z := 1) (pc := 307) dX8_step_307 rfl rfl ?_
                refine pw_iload_n (z := k + 1) (pc := 308) dX8_step_308 rfl rfl ?_
                refine pw_pI (x := 1) (pc := 309) dX8_step_309 fX8_19 (hC 1 (by decide)) (show kd_ 1 = 18 by decide +kernel) rfl rfl (by first | omega | (simp only [n_g61_1_2, n_g61_2]; omega)) ?_
                obtain ⟨g309, e309⟩ : ∃ x, x = up_ g301 1 1 (k + 1) := ⟨_, rfl⟩
                refine pw_heq e309 ?_
                exact pw_vret (pc := 312) dX8_step_312 (by
                          obtain ⟨v3, h3⟩ : ∃ v3, g309 1 3 = v3 ∧ (sof_ (tp k) ∧ v3 = 4 ∨ ¬ sof_ (tp k) ∧ v3 = 1) := by
                            refine ⟨_, rfl, ?_⟩
                            rw [e309, up_at, if_neg (by decide), e301, up_same]
                            first
                            | exact Or.inl ⟨hs.mp (by omega), rfl⟩
                            | exact Or.inr ⟨fun u => by have := hs.mpr u; omega, rfl⟩
                          have k9 : ∀ x, x ≠ 3 → g309 1 x = ob_ (ob_ (ob_ (ob_ (ob_ (ob_ (h 1) 5 (h 1 4)) 4 k) 6 0) 3 0) 6 (h 2 k)) 1 (k + 1) x := fun x x3 => by
                            rw [e309, up_ob, e301, up_ob, e283, up_ob, e61, up_ob, e56, up_ob, e51, up_ob, e5, up_ob]
                            unfold ob_
                            rw [if_neg x3]
                          have f9 : off_ [1] h g309 := by rw [e309, e301, e283, e61, e56, e51, e5]; exact off_up (off_up (off_up (off_up (off_up (off_up (off_up off_rf (by decide)) (by decide)) (by decide)) (by decide)) (by decide)) (by decide)) (by decide)
                          exact ⟨f9, ctk_S (CTP_mv ⟨H1, H2, H3⟩ (by rw [k9 2 (by decide)]; rfl) (f9 2 (by decide))) hp (by omega) (by unfold let_; omega) (by unfold dig_; omega) (by rw [k9 1 (by decide)]; rfl) (by rw [h3.1]; exact h3.2) (by rw [k9 4 (by decide)]; rfl) (by rw [k9 6 (by decide)]; exact hk2.1), by rw [k9 5 (by decide)]; rfl⟩)
          · have L191 : ∀ (nn : Nat) (q : Int) (a1 : PH_), (k ≤ q ∧ q ≤ n) → (off_ [1] g61 a1) → (∀ x, x ≠ 6 → a1 1 x = g61 1 x) → (∀ x, k ≤ x → x < q → dig_ (tp x)) → (rnx_ dig_ tp n q = rnx_ dig_ tp n k) → (q - k ≤ 4 → a1 1 6 = nus_ tp (q - k).toNat k 0) → ((n - q + 1 : Int) ≤ nn) → PW G RX8 cX8_step 3 none (rm_ 5) 0 0 (zm_ G (qv_ (fun h' => off_ [1] h h' ∧ CTK_ tp n h' a ∧ h' 1 5 = h 1 4))) 191 [some (rr_ G 1), some (ii_ q), some (ii_ (h 2 k))] [] a1 := by
              intro nn
              induction nn with
              | zero => intro q a1 bq bf bx bl be bv ams; exfalso; omega
              | succ nn ih191 =>
                intro q a1 bq bf bx bl be bv ams
                have x2 : a1 1 2 = n := by rw [bx 2 (by decide), e61, up_at, if_neg (by decide), e56, up_at, if_neg (by decide), e51, up_at, if_neg (by decide), e5, up_at, if_neg (by decide)]; exact H1
                refine pw_iload_n (z := q) (pc := 191) dX8_step_191 rfl rfl ?_
                refine pw_aload_n (z := 1) (pc := 192) dX8_step_192 rfl rfl ?_
                refine pw_gI (x := 2) (pc := 193) dX8_step_193 fX8_15 (hC 1 (by decide)) (show kd_ 1 = 18 by decide +kernel) rfl rfl (fun r193 => ?_)
                refine pw_icmp_ge (t := 250) (pc := 196) dX8_step_196 (by decide) (by first | omega | (simp only [n_g61_1_2, n_g61_2]; omega)) (by first | omega | (simp only [n_g61_1_2, n_g61_2]; omega)) (fun c196 => ?_) (fun c196 => ?_)
                · exact J250 _ _ (by omega) (by unfold dig_; omega) (bf) (bx) (by rw [← be]; exact rnx_f (fun u => by obtain ⟨u1, u2⟩ := u; have := (H3 q (by omega) u1).1; unfold dig_ at u2; omega)) (bv)
                · have hq2 := H3 q (by omega) (by omega)
                  refine pw_aload_n (z := 1) (pc := 199) dX8_step_199 rfl rfl ?_
                  refine pw_getR (r := 2) (pc := 200) dX8_step_200 fX8_9 (hC 1 (by decide)) (show kd_ 1 = 18 by decide +kernel) rfl (by decide +kernel) ?_
                  refine pw_iload_n (z := q) (pc := 203) dX8_step_203 rfl rfl ?_
                  refine pw_cald (pc := 204) dX8_step_204 (hC 2 (by decide)) (show kd_ 2 = 3 by decide +kernel) 1000 (by decide +kernel) (by first | omega | (simp only [n_g61_1_2, n_g61_2]; omega)) (by first | omega | (simp only [n_g61_1_2, n_g61_2]; omega)) (by first | omega | (simp only [n_g61_1_2, n_g61_2]; omega)) (fun r204 => ?_)
                  have n_a1_2 : a1 2 = h 2 := (((((show a1 2 = g61 2 from (bf 2 (by first | decide | (simp; done) | (simp; omega)))).trans (show g61 2 = g56 2 from (by rw [e61]; exact up_off (by first | decide | omega)))).trans (show g56 2 = g51 2 from (by rw [e56]; exact up_off (by first | decide | omega)))).trans (show g51 2 = g5 2 from (by rw [e51]; exact up_off (by first | decide | omega)))).trans (show g5 2 = h 2 from (by rw [e5]; exact up_off (by first | decide | omega))))
                  rw [n_a1_2] at r204 ⊢
                  refine pw_bipush (pc := 205) dX8_step_205 rfl ?_
                  refine pw_icmp_lt (t := 250) (pc := 207) dX8_step_207 (by decide) (by first | omega | (simp only [n_a1_2, n_g61_1_2, n_g61_2]; omega)) (by first | omega | (simp only [n_a1_2, n_g61_1_2, n_g61_2]; omega)) (fun c207 => ?_) (fun c207 => ?_)
                  · exact J250 _ _ (by omega) (by unfold dig_; omega) (bf) (bx) (by rw [← be]; exact rnx_f (fun u => by obtain ⟨u1, u2⟩ := u; have := (H3 q (by omega) u1).1; unfold dig_ at u2; omega)) (bv)
                  · refine pw_aload_n (z := 1) (pc := 210) dX8_step_210 rfl rfl ?_
                    refine pw_getR (r := 2) (pc := 211) dX8_step_211 fX8_9 (hC 1 (by decide)) (show kd_ 1 = 18 by decide +kernel) rfl (by decide +kernel) ?_
                    refine pw_iload_n (z := q) (pc := 214) dX8_step_214 rfl rfl ?_
                    refine pw_cald (pc := 215) dX8_step_215 (hC 2 (by decide)) (show kd_ 2 = 3 by decide +kernel) 1000 (by decide +kernel) (by first | omega | (simp only [n_a1_2, n_g61_1_2, n_g61_2]; omega)) (by first | omega | (simp only [n_a1_2, n_g61_1_2, n_g61_2]; omega)) (by first | omega | (simp only [n_a1_2, n_g61_1_2, n_g61_2]; omega)) (fun r215 => ?_)
                    rw [n_a1_2] at r215 ⊢
                    refine pw_bipush (pc := 216) dX8_step_216 rfl ?_
                    refine pw_icmp_gt (t := 250) (pc := 218) dX8_step_218 (by decide) (by first | omega | (simp only [n_a1_2, n_g61_1_2, n_g61_2]; omega)) (by first | omega | (simp only [n_a1_2, n_g61_1_2, n_g61_2]; omega)) (fun c218 => ?_) (fun c218 => ?_)
                    · exact J250 _ _ (by omega) (by unfold dig_; omega) (bf) (bx) (by rw [← be]; exact rnx_f (fun u => by obtain ⟨u1, u2⟩ := u; have := (H3 q (by omega) u1).1; unfold dig_ at u2; omega)) (bv)
                    · have lq : dig_ (tp q) := by unfold dig_; omega
                      have bl2 : ∀ x, k ≤ x → x < q + 1 → dig_ (tp x) := fun x x0 x1 => by
                        by_cases c : x = q
                        · rw [c]; exact lq
                        · exact bl x x0 (by omega)
                      refine pw_aload_n (z := 1) (pc := 221) dX8_step_221 rfl rfl ?_
                      refine pw_aload_n (z := 1) (pc := 222) dX8_step_222 rfl rfl ?_
                      refine pw_gJ (x := 6) (pc := 223) dX8_step_223 fX8_31 (hC 1 (by decide)) (show kd_ 1 = 18 by decide +kernel) rfl rfl (fun r223 => ?_)
                      refine pw_ldc2 (z := 10) (pc := 226) dX8_step_226 kX8_40 rfl ?_
                      refine pw_lmul (pc := 229) dX8_step_229 ?_
                      refine pw_aload_n (z := 1) (pc := 230) dX8_step_230 rfl rfl ?_
                      refine pw_getR (r := 2) (pc := 231) dX8_step_231 fX8_9 (hC 1 (by decide)) (show kd_ 1 = 18 by decide +kernel) rfl (by decide +kernel) ?_
                      refine pw_iload_n (z := q) (pc := 234) dX8_step_234 rfl rfl ?_
                      refine pw_cald (pc := 235) dX8_step_235 (hC 2 (by decide)) (show kd_ 2 = 3 by decide +kernel) 1000 (by decide +kernel) (by first | omega | (simp only [n_a1_2, n_g61_1_2, n_g61_2]; omega)) (by first | omega | (simp only [n_a1_2, n_g61_1_2, n_g61_2]; omega)) (by first | omega | (simp only [n_a1_2, n_g61_1_2, n_g61_2]; omega)) (fun r235 => ?_)
                      rw [n_a1_2] at r235 ⊢
                      refine pw_bipush (pc := 236) dX8_step_236 rfl ?_
                      refine pw_isub (pc := 238) dX8_step_238 ?_
                      refine pw_i2l (pc := 239) dX8_step_239 (by first | omega | (simp only [n_a1_2, n_g61_1_2, n_g61_2]; omega)) ?_
                      refine pw_ladd (pc := 240) dX8_step_240 ?_
                      refine pw_normL ?_
                      have wl241 := wl_lr (((a1 1 6) * 10) + ((h 2 q) - 48))
                      refine pw_pJ (x := 6) (pc := 241) dX8_step_241 fX8_31 (hC 1 (by decide)) (show kd_ 1 = 18 by decide +kernel) rfl rfl (by first | omega | (simp only [n_a1_2, n_g61_1_2, n_g61_2]; omega)) ?_
                      obtain ⟨g241, e241⟩ : ∃ x, x = up_ a1 1 6 (wl_ (((a1 1 6) * 10) + ((h 2 q) - 48))) := ⟨_, rfl⟩
                      refine pw_heq e241 ?_
                      refine pw_iinc (z := q) (lv1 := [some (rr_ G 1), some (ii_ (q + 1)), some (ii_ (h 2 k))]) (pc := 244) dX8_step_244 rfl (by decide) rfl rfl ?_
                      refine pw_goto (t := 191) (pc := 247) dX8_step_247 (by decide) ?_
                      exact ih191 _ _ (by omega) (by rw [e241]; exact off_up bf (by decide)) (fun x x1 => by rw [e241, up_at, if_neg x1]; exact bx x x1) (bl2) (by rw [← rnx_t (Q := dig_) (by omega) lq]; exact be) (fun u => by rw [e241, up_same, bv (by omega), hq2.1]; exact enD_ (by omega) (by omega) bl2) (by omega)
            exact L191 _ _ _ (by omega) (off_rf) (fun _ _ => rfl) (fun x x0 x1 => by omega) (rfl) (fun _ => by rw [show (k - k).toNat = 0 by omega, e61, up_at, if_neg (by decide), e56, up_same]; rfl) (Int.self_le_toNat _)
      · have J156 : ∀ (q : Int) (a1 : PH_), (k ≤ q ∧ q ≤ n) → (let_ (tp k)) → (off_ [1] g61 a1) → (∀ x, x ≠ 6 → a1 1 x = g61 1 x) → (rnx_ let_ tp n k = q) → (q - k ≤ 8 → a1 1 6 = enc_ 27 (wls_ tp (q - k).toNat k)) → PW G RX8 cX8_step 3 none (rm_ 5) 0 0 (zm_ G (qv_ (fun h' => off_ [1] h h' ∧ CTK_ tp n h' a ∧ h' 1 5 = h 1 4))) 156 [some (rr_ G 1), some (ii_ q), some (ii_ (h 2 k))] [] a1 := by
          intro q a1 jq jl jf jx je jv
          have j4 : a1 1 4 = k := by rw [jx 4 (by decide), e61, up_at, if_neg (by decide), e56, up_at, if_neg (by decide), e51, up_same]
          have j5 : a1 1 5 = h 1 4 := by rw [jx 5 (by decide), e61, up_at, if_neg (by decide), e56, up_at, if_neg (by decide), e51, up_at, if_neg (by decide), e5, up_same]
          have j2 : a1 1 2 = n := by rw [jx 2 (by decide), e61, up_at, if_neg (by decide), e56, up_at, if_neg (by decide), e51, up_at, if_neg (by decide), e5, up_at, if_neg (by decide)]; exact H1
          have f61 : off_ [1] h g61 := by rw [e61, e56, e51, e5]; exact off_up (off_up (off_up (off_up off_rf (by decide)) (by decide)) (by decide)) (by decide)
          have c2 : a1 2 = h 2 := by rw [jf 2 (by decide), f61 2 (by decide)]
          refine pw_aload_n (z := 1) (pc := 156) dX8_step_156 rfl rfl ?_
          refine pw_iload_n (z := q) (pc := 157) dX8_step_157 rfl rfl ?_
          refine pw_aload_n (z := 1) (pc := 158) dX8_step_158 rfl rfl ?_
          refine pw_gI (x := 4) (pc := 159) dX8_step_159 fX8_25 (hC 1 (by decide)) (show kd_ 1 = 18 by decide +kernel) rfl rfl (fun r159 => ?_)
          refine pw_isub (pc := 162) dX8_step_162 ?_
          refine pw_bipush (pc := 163) dX8_step_163 rfl ?_
          refine pw_icmp_gt (t := 172) (pc := 165) dX8_step_165 (by decide) (by first | omega | (simp only [n_g61_1_2, n_g61_2]; omega)) (by first | omega | (simp only [n_g61_1_2, n_g61_2]; omega)) (fun c165 => ?_) (fun c165 => ?_)
          · refine pw_iconst (pc := 172) dX8_step_172 ?_
            refine pw_pI (x := 3) (pc := 173) dX8_step_173 fX8_35 (hC 1 (by decide)) (show kd_ 1 = 18 by decide +kernel) rfl rfl (by first | omega | (simp only [n_g61_1_2, n_g61_2]; omega)) ?_
            obtain ⟨g173, e173⟩ : ∃ x, x = up_ a1 1 3 1 := ⟨_, rfl⟩
            refine pw_heq e173 ?_
            refine pw_goto (t := 307) (pc := 176) dX8_step_176 (by decide) ?_
            refine pw_aload_n (z := 1) (pc := 307) dX8_step_307 rfl rfl ?_
            refine pw_iload_n (z := q) (pc := 308) dX8_step_308 rfl rfl ?_
            refine pw_pI (x := 1) (pc := 309) dX8_step_309 fX8_19 (hC 1 (by decide)) (show kd_ 1 = 18 by decide +kernel) rfl rfl (by first | omega | (simp only [n_g61_1_2, n_g61_2]; omega)) ?_
            obtain ⟨g309, e309⟩ : ∃ x, x = up_ g173 1 1 q := ⟨_, rfl⟩
            refine pw_heq e309 ?_
            exact pw_vret (pc := 312) dX8_step_312 (by
                      obtain ⟨v3, h3⟩ : ∃ v3, g309 1 3 = v3 ∧ (q - k ≤ 8 ∧ v3 = 2 ∨ ¬ q - k ≤ 8 ∧ v3 = 1) := by
                        refine ⟨_, rfl, ?_⟩
                        rw [e309, up_at, if_neg (by decide), e173, up_same]
                        omega
                      have k9 : ∀ x, x ≠ 3 → g309 1 x = ob_ (a1 1) 1 q x := fun x x3 => by
                        rw [e309, up_ob, e173, up_ob]
                        unfold ob_
                        rw [if_neg x3]
                      have c9 : g309 2 = h 2 := by rw [e309, up_off (by decide), e173, up_off (by decide)]; exact c2
                      refine ⟨by rw [e309, e173]; exact off_up (off_up (off_tr f61 jf) (by decide)) (by decide), ?_, by rw [k9 5 (by decide)]; exact j5⟩
                      exact ctk_L (CTP_mv ⟨H1, H2, H3⟩ (by rw [k9 2 (by decide)]; exact j2.trans H1.symm) c9) hp (by omega) jl je (by rw [k9 1 (by decide)]; rfl) (by rw [h3.1]; exact h3.2) (by rw [k9 4 (by decide)]; exact j4) (fun u => by rw [k9 6 (by decide)]; exact jv u))
          · refine pw_iconst (pc := 168) dX8_step_168 ?_
            refine pw_goto (t := 173) (pc := 169) dX8_step_169 (by decide) ?_
            refine pw_pI (x := 3) (pc := 173) dX8_step_173 fX8_35 (hC 1 (by decide)) (show kd_ 1 = 18 by decide +kernel) rfl rfl (by first | omega | (simp only [n_g61_1_2, n_g61_2]; omega)) ?_
            obtain ⟨g173, e173⟩ : ∃ x, x = up_ a1 1 3 2 := ⟨_, rfl⟩
            refine pw_heq e173 ?_
            refine pw_goto (t := 307) (pc := 176) dX8_step_176 (by decide) ?_
            refine pw_aload_n (z := 1) (pc := 307) dX8_step_307 rfl rfl ?_
            refine pw_iload_n (z := q) (pc := 308) dX8_step_308 rfl rfl ?_
            refine pw_pI (x := 1) (pc := 309) dX8_step_309 fX8_19 (hC 1 (by decide)) (show kd_ 1 = 18 by decide +kernel) rfl rfl (by first | omega | (simp only [n_g61_1_2, n_g61_2]; omega)) ?_
            obtain ⟨g309, e309⟩ : ∃ x, x = up_ g173 1 1 q := ⟨_, rfl⟩
            refine pw_heq e309 ?_
            exact pw_vret (pc := 312) dX8_step_312 (by
                      obtain ⟨v3, h3⟩ : ∃ v3, g309 1 3 = v3 ∧ (q - k ≤ 8 ∧ v3 = 2 ∨ ¬ q - k ≤ 8 ∧ v3 = 1) := by
                        refine ⟨_, rfl, ?_⟩
                        rw [e309, up_at, if_neg (by decide), e173, up_same]
                        omega
                      have k9 : ∀ x, x ≠ 3 → g309 1 x = ob_ (a1 1) 1 q x := fun x x3 => by
                        rw [e309, up_ob, e173, up_ob]
                        unfold ob_
                        rw [if_neg x3]
                      have c9 : g309 2 = h 2 := by rw [e309, up_off (by decide), e173, up_off (by decide)]; exact c2
                      refine ⟨by rw [e309, e173]; exact off_up (off_up (off_tr f61 jf) (by decide)) (by decide), ?_, by rw [k9 5 (by decide)]; exact j5⟩
                      exact ctk_L (CTP_mv ⟨H1, H2, H3⟩ (by rw [k9 2 (by decide)]; exact j2.trans H1.symm) c9) hp (by omega) jl je (by rw [k9 1 (by decide)]; rfl) (by rw [h3.1]; exact h3.2) (by rw [k9 4 (by decide)]; exact j4) (fun u => by rw [k9 6 (by decide)]; exact jv u))
        refine pw_iload_n (z := h 2 k) (pc := 89) dX8_step_89 rfl rfl ?_
        refine pw_bipush (pc := 90) dX8_step_90 rfl ?_
        refine pw_icmp_gt (t := 179) (pc := 92) dX8_step_92 (by decide) (by first | omega | (simp only [n_g61_1_2, n_g61_2]; omega)) (by first | omega | (simp only [n_g61_1_2, n_g61_2]; omega)) (fun c92 => ?_) (fun c92 => ?_)
        · refine pw_iload_n (z := h 2 k) (pc := 179) dX8_step_179 rfl rfl ?_
          refine pw_bipush (pc := 180) dX8_step_180 rfl ?_
          refine pw_icmp_lt (t := 272) (pc := 182) dX8_step_182 (by decide) (by first | omega | (simp only [n_g61_1_2, n_g61_2]; omega)) (by first | omega | (simp only [n_g61_1_2, n_g61_2]; omega)) (fun c182 => ?_) (fun c182 => ?_)
          · refine pw_iload_n (z := k) (pc := 272) dX8_step_272 rfl rfl ?_
            refine pw_aload_n (z := 1) (pc := 273) dX8_step_273 rfl rfl ?_
            refine pw_gI (x := 2) (pc := 274) dX8_step_274 fX8_15 (hC 1 (by decide)) (show kd_ 1 = 18 by decide +kernel) rfl rfl (fun r274 => ?_)
            rw [n_g61_1_2] at r274 ⊢
            refine pw_icmp_ge (t := 307) (pc := 277) dX8_step_277 (by decide) (by first | omega | (simp only [n_g61_1_2, n_g61_2]; omega)) (by first | omega | (simp only [n_g61_1_2, n_g61_2]; omega)) (fun c277 => ?_) (fun c277 => ?_)
            · refine pw_aload_n (z := 1) (pc := 307) dX8_step_307 rfl rfl ?_
              refine pw_iload_n (z := k) (pc := 308) dX8_step_308 rfl rfl ?_
              refine pw_pI (x := 1) (pc := 309) dX8_step_309 fX8_19 (hC 1 (by decide)) (show kd_ 1 = 18 by decide +kernel) rfl rfl (by first | omega | (simp only [n_g61_1_2, n_g61_2]; omega)) ?_
              obtain ⟨g309, e309⟩ : ∃ x, x = up_ g61 1 1 k := ⟨_, rfl⟩
              refine pw_heq e309 ?_
              exact pw_vret (pc := 312) dX8_step_312 (by
                        have k9 : ∀ x, g309 1 x = ob_ (ob_ (ob_ (ob_ (ob_ (h 1) 5 (h 1 4)) 4 k) 6 0) 3 0) 1 k x := fun x => by rw [e309, up_ob, e61, up_ob, e56, up_ob, e51, up_ob, e5, up_ob]
                        have f9 : off_ [1] h g309 := by rw [e309, e61, e56, e51, e5]; exact off_up (off_up (off_up (off_up (off_up off_rf (by decide)) (by decide)) (by decide)) (by decide)) (by decide)
                        exact ⟨f9, ctk_E (CTP_mv ⟨H1, H2, H3⟩ (by rw [k9]; rfl) (f9 2 (by decide))) hp (by omega) (by rw [k9]; rfl) (by rw [k9]; rfl) (by rw [k9]; rfl), by rw [k9]; rfl⟩)
            · refine pw_aload_n (z := 1) (pc := 280) dX8_step_280 rfl rfl ?_
              refine pw_iload_n (z := h 2 k) (pc := 281) dX8_step_281 rfl rfl ?_
              refine pw_i2l (pc := 282) dX8_step_282 (by first | omega | (simp only [n_g61_1_2, n_g61_2]; omega)) ?_
              refine pw_pJ (x := 6) (pc := 283) dX8_step_283 fX8_31 (hC 1 (by decide)) (show kd_ 1 = 18 by decide +kernel) rfl rfl (by first | omega | (simp only [n_g61_1_2, n_g61_2]; omega)) ?_
              obtain ⟨g283, e283⟩ : ∃ x, x = up_ g61 1 6 (h 2 k) := ⟨_, rfl⟩
              refine pw_heq e283 ?_
              refine pw_aload_n (z := 1) (pc := 286) dX8_step_286 rfl rfl ?_
              refine pw_ldcs 1 (pc := 287) dX8_step_287 rfl ?_
              refine pw_iload_n (z := h 2 k) (pc := 289) dX8_step_289 rfl rfl ?_
              refine pw_callT (j := 1) (As := [ii_ (h 2 k)]) (rest := [rr_ G 1]) (by omega) (pc := 290) dX8_step_290 (j_indexOf g283 1 (by first | omega | (simp only [n_g61_1_2, n_g61_2]; omega)) (h 2 k) (by first | omega | (simp only [n_g61_1_2, n_g61_2]; omega)) (by decide +kernel)) lX8_44 mJ0_indexOf_0f7a4 vJ0_indexOf_0f7a4 rfl rfl rfl (by decide) ⟨Nat.zero_le _, Nat.zero_le _⟩ (Nat.le_of_ble_eq_true rfl) (k_i (fun z290 h290 y290 q290 => ?_))
              obtain ⟨rfl, w290⟩ := q290
              have hs := six_s (c := tp k)
              rw [← hk2.1] at hs
              rw [← w290, hk2.1] at hs
              refine pw_if_lt (t := 300) (pc := 293) dX8_step_293 (by decide) (by first | omega | (simp only [n_g61_1_2, n_g61_2]; omega)) (fun c293 => ?_) (fun c293 => ?_)
              · refine pw_iconst (pc := 300) dX8_step_300 ?_
                refine pw_pI (x := 3) (pc := 301) dX8_step_301 fX8_35 (hC 1 (by decide)) (show kd_ 1 = 18 by decide +kernel) rfl rfl (by first | omega | (simp only [n_g61_1_2, n_g61_2]; omega)) ?_
                obtain ⟨g301, e301⟩ : ∃ x, x = up_ g283 1 3 1 := ⟨_, rfl⟩
                refine pw_heq e301 ?_
                refine pw_iinc (z := k) (lv1 := [some (rr_ G 1), some (ii_ (k + 1)), some (ii_ (h 2 k))]) (pc := 304) dX8_step_304 rfl (by decide) rfl rfl ?_
                refine pw_aload_n (z := 1) (pc := 307) dX8_step_307 rfl rfl ?_
                refine pw_iload_n (z := k + 1) (pc := 308) dX8_step_308 rfl rfl ?_
                refine pw_pI (x := 1) (pc := 309) dX8_step_309 fX8_19 (hC 1 (by decide)) (show kd_ 1 = 18 by decide +kernel) rfl rfl (by first | omega | (simp only [n_g61_1_2, n_g61_2]; omega)) ?_
                obtain ⟨g309, e309⟩ : ∃ x, x = up_ g301 1 1 (k + 1) := ⟨_, rfl⟩
                refine pw_heq e309 ?_
                exact pw_vret (pc := 312) dX8_step_312 (by
                          obtain ⟨v3, h3⟩ : ∃ v3, g309 1 3 = v3 ∧ (sof_ (tp k) ∧ v3 = 4 ∨ ¬ sof_ (tp k) ∧ v3 = 1) := by
                            refine ⟨_, rfl, ?_⟩
                            rw [e309, up_at, if_neg (by decide), e301, up_same]
                            first
                            | exact Or.inl ⟨hs.mp (by omega), rfl⟩
                            | exact Or.inr ⟨fun u => by have := hs.mpr u; omega, rfl⟩
                          have k9 : ∀ x, x ≠ 3 → g309 1 x = ob_ (ob_ (ob_ (ob_ (ob_ (ob_ (h 1) 5 (h 1 4)) 4 k) 6 0) 3 0) 6 (h 2 k)) 1 (k + 1) x := fun x x3 => by
                            rw [e309, up_ob, e301, up_ob, e283, up_ob, e61, up_ob, e56, up_ob, e51, up_ob, e5, up_ob]
                            unfold ob_
                            rw [if_neg x3]
                          have f9 : off_ [1] h g309 := by rw [e309, e301, e283, e61, e56, e51, e5]; exact off_up (off_up (off_up (off_up (off_up (off_up (off_up off_rf (by decide)) (by decide)) (by decide)) (by decide)) (by decide)) (by decide)) (by decide)
                          exact ⟨f9, ctk_S (CTP_mv ⟨H1, H2, H3⟩ (by rw [k9 2 (by decide)]; rfl) (f9 2 (by decide))) hp (by omega) (by unfold let_; omega) (by unfold dig_; omega) (by rw [k9 1 (by decide)]; rfl) (by rw [h3.1]; exact h3.2) (by rw [k9 4 (by decide)]; rfl) (by rw [k9 6 (by decide)]; exact hk2.1), by rw [k9 5 (by decide)]; rfl⟩)
              · refine pw_iconst (pc := 296) dX8_step_296 ?_
                refine pw_goto (t := 301) (pc := 297) dX8_step_297 (by decide) ?_
                refine pw_pI (x := 3) (pc := 301) dX8_step_301 fX8_35 (hC 1 (by decide)) (show kd_ 1 = 18 by decide +kernel) rfl rfl (by first | omega | (simp only [n_g61_1_2, n_g61_2]; omega)) ?_
                obtain ⟨g301, e301⟩ : ∃ x, x = up_ g283 1 3 4 := ⟨_, rfl⟩
                refine pw_heq e301 ?_
                refine pw_iinc (z := k) (lv1 := [some (rr_ G 1), some (ii_ (k + 1)), some (ii_ (h 2 k))]) (pc := 304) dX8_step_304 rfl (by decide) rfl rfl ?_
                refine pw_aload_n (z := 1) (pc := 307) dX8_step_307 rfl rfl ?_
                refine pw_iload_n (z := k + 1) (pc := 308) dX8_step_308 rfl rfl ?_
                refine pw_pI (x := 1) (pc := 309) dX8_step_309 fX8_19 (hC 1 (by decide)) (show kd_ 1 = 18 by decide +kernel) rfl rfl (by first | omega | (simp only [n_g61_1_2, n_g61_2]; omega)) ?_
                obtain ⟨g309, e309⟩ : ∃ x, x = up_ g301 1 1 (k + 1) := ⟨_, rfl⟩
                refine pw_heq e309 ?_
                exact pw_vret (pc := 312) dX8_step_312 (by
                          obtain ⟨v3, h3⟩ : ∃ v3, g309 1 3 = v3 ∧ (sof_ (tp k) ∧ v3 = 4 ∨ ¬ sof_ (tp k) ∧ v3 = 1) := by
                            refine ⟨_, rfl, ?_⟩
                            rw [e309, up_at, if_neg (by decide), e301, up_same]
                            first
                            | exact Or.inl ⟨hs.mp (by omega), rfl⟩
                            | exact Or.inr ⟨fun u => by have := hs.mpr u; omega, rfl⟩
                          have k9 : ∀ x, x ≠ 3 → g309 1 x = ob_ (ob_ (ob_ (ob_ (ob_ (ob_ (h 1) 5 (h 1 4)) 4 k) 6 0) 3 0) 6 (h 2 k)) 1 (k + 1) x := fun x x3 => by
                            rw [e309, up_ob, e301, up_ob, e283, up_ob, e61, up_ob, e56, up_ob, e51, up_ob, e5, up_ob]
                            unfold ob_
                            rw [if_neg x3]
                          have f9 : off_ [1] h g309 := by rw [e309, e301, e283, e61, e56, e51, e5]; exact off_up (off_up (off_up (off_up (off_up (off_up (off_up off_rf (by decide)) (by decide)) (by decide)) (by decide)) (by decide)) (by decide)) (by decide)
                          exact ⟨f9, ctk_S (CTP_mv ⟨H1, H2, H3⟩ (by rw [k9 2 (by decide)]; rfl) (f9 2 (by decide))) hp (by omega) (by unfold let_; omega) (by unfold dig_; omega) (by rw [k9 1 (by decide)]; rfl) (by rw [h3.1]; exact h3.2) (by rw [k9 4 (by decide)]; rfl) (by rw [k9 6 (by decide)]; exact hk2.1), by rw [k9 5 (by decide)]; rfl⟩)
          · have J250 : ∀ (q : Int) (a1 : PH_), (k ≤ q ∧ q ≤ n) → (dig_ (tp k)) → (off_ [1] g61 a1) → (∀ x, x ≠ 6 → a1 1 x = g61 1 x) → (rnx_ dig_ tp n k = q) → (q - k ≤ 4 → a1 1 6 = nus_ tp (q - k).toNat k 0) → PW G RX8 cX8_step 3 none (rm_ 5) 0 0 (zm_ G (qv_ (fun h' => off_ [1] h h' ∧ CTK_ tp n h' a ∧ h' 1 5 = h 1 4))) 250 [some (rr_ G 1), some (ii_ q), some (ii_ (h 2 k))] [] a1 := by
              intro q a1 jq jl jf jx je jv
              have j4 : a1 1 4 = k := by rw [jx 4 (by decide), e61, up_at, if_neg (by decide), e56, up_at, if_neg (by decide), e51, up_same]
              have j5 : a1 1 5 = h 1 4 := by rw [jx 5 (by decide), e61, up_at, if_neg (by decide), e56, up_at, if_neg (by decide), e51, up_at, if_neg (by decide), e5, up_same]
              have j2 : a1 1 2 = n := by rw [jx 2 (by decide), e61, up_at, if_neg (by decide), e56, up_at, if_neg (by decide), e51, up_at, if_neg (by decide), e5, up_at, if_neg (by decide)]; exact H1
              have f61 : off_ [1] h g61 := by rw [e61, e56, e51, e5]; exact off_up (off_up (off_up (off_up off_rf (by decide)) (by decide)) (by decide)) (by decide)
              have c2 : a1 2 = h 2 := by rw [jf 2 (by decide), f61 2 (by decide)]
              refine pw_aload_n (z := 1) (pc := 250) dX8_step_250 rfl rfl ?_
              refine pw_iload_n (z := q) (pc := 251) dX8_step_251 rfl rfl ?_
              refine pw_aload_n (z := 1) (pc := 252) dX8_step_252 rfl rfl ?_
              refine pw_gI (x := 4) (pc := 253) dX8_step_253 fX8_25 (hC 1 (by decide)) (show kd_ 1 = 18 by decide +kernel) rfl rfl (fun r253 => ?_)
              refine pw_isub (pc := 256) dX8_step_256 ?_
              refine pw_iconst (pc := 257) dX8_step_257 ?_
              refine pw_icmp_gt (t := 265) (pc := 258) dX8_step_258 (by decide) (by first | omega | (simp only [n_g61_1_2, n_g61_2]; omega)) (by first | omega | (simp only [n_g61_1_2, n_g61_2]; omega)) (fun c258 => ?_) (fun c258 => ?_)
              · refine pw_iconst (pc := 265) dX8_step_265 ?_
                refine pw_pI (x := 3) (pc := 266) dX8_step_266 fX8_35 (hC 1 (by decide)) (show kd_ 1 = 18 by decide +kernel) rfl rfl (by first | omega | (simp only [n_g61_1_2, n_g61_2]; omega)) ?_
                obtain ⟨g266, e266⟩ : ∃ x, x = up_ a1 1 3 1 := ⟨_, rfl⟩
                refine pw_heq e266 ?_
                refine pw_goto (t := 307) (pc := 269) dX8_step_269 (by decide) ?_
                refine pw_aload_n (z := 1) (pc := 307) dX8_step_307 rfl rfl ?_
                refine pw_iload_n (z := q) (pc := 308) dX8_step_308 rfl rfl ?_
                refine pw_pI (x := 1) (pc := 309) dX8_step_309 fX8_19 (hC 1 (by decide)) (show kd_ 1 = 18 by decide +kernel) rfl rfl (by first | omega | (simp only [n_g61_1_2, n_g61_2]; omega)) ?_
                obtain ⟨g309, e309⟩ : ∃ x, x = up_ g266 1 1 q := ⟨_, rfl⟩
                refine pw_heq e309 ?_
                exact pw_vret (pc := 312) dX8_step_312 (by
                          obtain ⟨v3, h3⟩ : ∃ v3, g309 1 3 = v3 ∧ (q - k ≤ 4 ∧ v3 = 3 ∨ ¬ q - k ≤ 4 ∧ v3 = 1) := by
                            refine ⟨_, rfl, ?_⟩
                            rw [e309, up_at, if_neg (by decide), e266, up_same]
                            omega
                          have k9 : ∀ x, x ≠ 3 → g309 1 x = ob_ (a1 1) 1 q x := fun x x3 => by
                            rw [e309, up_ob, e266, up_ob]
                            unfold ob_
                            rw [if_neg x3]
                          have c9 : g309 2 = h 2 := by rw [e309, up_off (by decide), e266, up_off (by decide)]; exact c2
                          refine ⟨by rw [e309, e266]; exact off_up (off_up (off_tr f61 jf) (by decide)) (by decide), ?_, by rw [k9 5 (by decide)]; exact j5⟩
                          exact ctk_D (CTP_mv ⟨H1, H2, H3⟩ (by rw [k9 2 (by decide)]; exact j2.trans H1.symm) c9) hp (by omega) (by unfold let_; omega) jl je (by rw [k9 1 (by decide)]; rfl) (by rw [h3.1]; exact h3.2) (by rw [k9 4 (by decide)]; exact j4) (fun u => by rw [k9 6 (by decide)]; exact jv u))
              · refine pw_iconst (pc := 261) dX8_step_261 ?_
                refine pw_goto (t := 266) (pc := 262) dX8_step_262 (by decide) ?_
                refine pw_pI (x := 3) (pc := 266) dX8_step_266 fX8_35 (hC 1 (by decide)) (show kd_ 1 = 18 by decide +kernel) rfl rfl (by first | omega | (simp only [n_g61_1_2, n_g61_2]; omega)) ?_
                obtain ⟨g266, e266⟩ : ∃ x, x = up_ a1 1 3 3 := ⟨_, rfl⟩
                refine pw_heq e266 ?_
                refine pw_goto (t := 307) (pc := 269) dX8_step_269 (by decide) ?_
                refine pw_aload_n (z := 1) (pc := 307) dX8_step_307 rfl rfl ?_
                refine pw_iload_n (z := q) (pc := 308) dX8_step_308 rfl rfl ?_
                refine pw_pI (x := 1) (pc := 309) dX8_step_309 fX8_19 (hC 1 (by decide)) (show kd_ 1 = 18 by decide +kernel) rfl rfl (by first | omega | (simp only [n_g61_1_2, n_g61_2]; omega)) ?_
                obtain ⟨g309, e309⟩ : ∃ x, x = up_ g266 1 1 q := ⟨_, rfl⟩
                refine pw_heq e309 ?_
                exact pw_vret (pc := 312) dX8_step_312 (by
                          obtain ⟨v3, h3⟩ : ∃ v3, g309 1 3 = v3 ∧ (q - k ≤ 4 ∧ v3 = 3 ∨ ¬ q - k ≤ 4 ∧ v3 = 1) := by
                            refine ⟨_, rfl, ?_⟩
                            rw [e309, up_at, if_neg (by decide), e266, up_same]
                            omega
                          have k9 : ∀ x, x ≠ 3 → g309 1 x = ob_ (a1 1) 1 q x := fun x x3 => by
                            rw [e309, up_ob, e266, up_ob]
                            unfold ob_
                            rw [if_neg x3]
                          have c9 : g309 2 = h 2 := by rw [e309, up_off (by decide), e266, up_off (by decide)]; exact c2
                          refine ⟨by rw [e309, e266]; exact off_up (off_up (off_tr f61 jf) (by decide)) (by decide), ?_, by rw [k9 5 (by decide)]; exact j5⟩
                          exact ctk_D (CTP_mv ⟨H1, H2, H3⟩ (by rw [k9 2 (by decide)]; exact j2.trans H1.symm) c9) hp (by omega) (by unfold let_; omega) jl je (by rw [k9 1 (by decide)]; rfl) (by rw [h3.1]; exact h3.2) (by rw [k9 4 (by decide)]; exact j4) (fun u => by rw [k9 6 (by decide)]; exact jv u))
            refine pw_iload_n (z := h 2 k) (pc := 185) dX8_step_185 rfl rfl ?_
            refine pw_bipush (pc := 186) dX8_step_186 rfl ?_
            refine pw_icmp_gt (t := 272) (pc := 188) dX8_step_188 (by decide) (by first | omega | (simp only [n_g61_1_2, n_g61_2]; omega)) (by first | omega | (simp only [n_g61_1_2, n_g61_2]; omega)) (fun c188 => ?_) (fun c188 => ?_)
            · refine pw_iload_n (z := k) (pc := 272) dX8_step_272 rfl rfl ?_
              refine pw_aload_n (z := 1) (pc := 273) dX8_step_273 rfl rfl ?_
              refine pw_gI (x := 2) (pc := 274) dX8_step_274 fX8_15 (hC 1 (by decide)) (show kd_ 1 = 18 by decide +kernel) rfl rfl (fun r274 => ?_)
              rw [n_g61_1_2] at r274 ⊢
              refine pw_icmp_ge (t := 307) (pc := 277) dX8_step_277 (by decide) (by first | omega | (simp only [n_g61_1_2, n_g61_2]; omega)) (by first | omega | (simp only [n_g61_1_2, n_g61_2]; omega)) (fun c277 => ?_) (fun c277 => ?_)
              · refine pw_aload_n (z := 1) (pc := 307) dX8_step_307 rfl rfl ?_
                refine pw_iload_n (z := k) (pc := 308) dX8_step_308 rfl rfl ?_
                refine pw_pI (x := 1) (pc := 309) dX8_step_309 fX8_19 (hC 1 (by decide)) (show kd_ 1 = 18 by decide +kernel) rfl rfl (by first | omega | (simp only [n_g61_1_2, n_g61_2]; omega)) ?_
                obtain ⟨g309, e309⟩ : ∃ x, x = up_ g61 1 1 k := ⟨_, rfl⟩
                refine pw_heq e309 ?_
                exact pw_vret (pc := 312) dX8_step_312 (by
                          have k9 : ∀ x, g309 1 x = ob_ (ob_ (ob_ (ob_ (ob_ (h 1) 5 (h 1 4)) 4 k) 6 0) 3 0) 1 k x := fun x => by rw [e309, up_ob, e61, up_ob, e56, up_ob, e51, up_ob, e5, up_ob]
                          have f9 : off_ [1] h g309 := by rw [e309, e61, e56, e51, e5]; exact off_up (off_up (off_up (off_up (off_up off_rf (by decide)) (by decide)) (by decide)) (by decide)) (by decide)
                          exact ⟨f9, ctk_E (CTP_mv ⟨H1, H2, H3⟩ (by rw [k9]; rfl) (f9 2 (by decide))) hp (by omega) (by rw [k9]; rfl) (by rw [k9]; rfl) (by rw [k9]; rfl), by rw [k9]; rfl⟩)
              · refine pw_aload_n (z := 1) (pc := 280) dX8_step_280 rfl rfl ?_
                refine pw_iload_n (z := h 2 k) (pc := 281) dX8_step_281 rfl rfl ?_
                refine pw_i2l (pc := 282) dX8_step_282 (by first | omega | (simp only [n_g61_1_2, n_g61_2]; omega)) ?_
                refine pw_pJ (x := 6) (pc := 283) dX8_step_283 fX8_31 (hC 1 (by decide)) (show kd_ 1 = 18 by decide +kernel) rfl rfl (by first | omega | (simp only [n_g61_1_2, n_g61_2]; omega)) ?_
                obtain ⟨g283, e283⟩ : ∃ x, x = up_ g61 1 6 (h 2 k) := ⟨_, rfl⟩
                refine pw_heq e283 ?_
                refine pw_aload_n (z := 1) (pc := 286) dX8_step_286 rfl rfl ?_
                refine pw_ldcs 1 (pc := 287) dX8_step_287 rfl ?_
                refine pw_iload_n (z := h 2 k) (pc := 289) dX8_step_289 rfl rfl ?_
                refine pw_callT (j := 1) (As := [ii_ (h 2 k)]) (rest := [rr_ G 1]) (by omega) (pc := 290) dX8_step_290 (j_indexOf g283 1 (by first | omega | (simp only [n_g61_1_2, n_g61_2]; omega)) (h 2 k) (by first | omega | (simp only [n_g61_1_2, n_g61_2]; omega)) (by decide +kernel)) lX8_44 mJ0_indexOf_0f7a4 vJ0_indexOf_0f7a4 rfl rfl rfl (by decide) ⟨Nat.zero_le _, Nat.zero_le _⟩ (Nat.le_of_ble_eq_true rfl) (k_i (fun z290 h290 y290 q290 => ?_))
                obtain ⟨rfl, w290⟩ := q290
                have hs := six_s (c := tp k)
                rw [← hk2.1] at hs
                rw [← w290, hk2.1] at hs
                refine pw_if_lt (t := 300) (pc := 293) dX8_step_293 (by decide) (by first | omega | (simp only [n_g61_1_2, n_g61_2]; omega)) (fun c293 => ?_) (fun c293 => ?_)
                · refine pw_iconst (pc := 300) dX8_step_300 ?_
                  refine pw_pI (x := 3) (pc := 301) dX8_step_301 fX8_35 (hC 1 (by decide)) (show kd_ 1 = 18 by decide +kernel) rfl rfl (by first | omega | (simp only [n_g61_1_2, n_g61_2]; omega)) ?_
                  obtain ⟨g301, e301⟩ : ∃ x, x = up_ g283 1 3 1 := ⟨_, rfl⟩
                  refine pw_heq e301 ?_
                  refine pw_iinc (z := k) (lv1 := [some (rr_ G 1), some (ii_ (k + 1)), some (ii_ (h 2 k))]) (pc := 304) dX8_step_304 rfl (by decide) rfl rfl ?_
                  refine pw_aload_n (z := 1) (pc := 307) dX8_step_307 rfl rfl ?_
                  refine pw_iload_n (z := k + 1) (pc := 308) dX8_step_308 rfl rfl ?_
                  refine pw_pI (x := 1) (pc := 309) dX8_step_309 fX8_19 (hC 1 (by decide)) (show kd_ 1 = 18 by decide +kernel) rfl rfl (by first | omega | (simp only [n_g61_1_2, n_g61_2]; omega)) ?_
                  obtain ⟨g309, e309⟩ : ∃ x, x = up_ g301 1 1 (k + 1) := ⟨_, rfl⟩
                  refine pw_heq e309 ?_
                  exact pw_vret (pc := 312) dX8_step_312 (by
                            obtain ⟨v3, h3⟩ : ∃ v3, g309 1 3 = v3 ∧ (sof_ (tp k) ∧ v3 = 4 ∨ ¬ sof_ (tp k) ∧ v3 = 1) := by
                              refine ⟨_, rfl, ?_⟩
                              rw [e309, up_at, if_neg (by decide), e301, up_same]
                              first
                              | exact Or.inl ⟨hs.mp (by omega), rfl⟩
                              | exact Or.inr ⟨fun u => by have := hs.mpr u; omega, rfl⟩
                            have k9 : ∀ x, x ≠ 3 → g309 1 x = ob_ (ob_ (ob_ (ob_ (ob_ (ob_ (h 1) 5 (h 1 4)) 4 k) 6 0) 3 0) 6 (h 2 k)) 1 (k + 1) x := fun x x3 => by
                              rw [e309, up_ob, e301, up_ob, e283, up_ob, e61, up_ob, e56, up_ob, e51, up_ob, e5, up_ob]
                              unfold ob_
                              rw [if_neg x3]
                            have f9 : off_ [1] h g309 := by rw [e309, e301, e283, e61, e56, e51, e5]; exact off_up (off_up (off_up (off_up (off_up (off_up (off_up off_rf (by decide)) (by decide)) (by decide)) (by decide)) (by decide)) (by decide)) (by decide)
                            exact ⟨f9, ctk_S (CTP_mv ⟨H1, H2, H3⟩ (by rw [k9 2 (by decide)]; rfl) (f9 2 (by decide))) hp (by omega) (by unfold let_; omega) (by unfold dig_; omega) (by rw [k9 1 (by decide)]; rfl) (by rw [h3.1]; exact h3.2) (by rw [k9 4 (by decide)]; rfl) (by rw [k9 6 (by decide)]; exact hk2.1), by rw [k9 5 (by decide)]; rfl⟩)
                · refine pw_iconst (pc := 296) dX8_step_296 ?_
                  refine pw_goto (t := 301) (pc := 297) dX8_step_297 (by decide) ?_
                  refine pw_pI (x := 3) (pc := 301) dX8_step_301 fX8_35 (hC 1 (by decide)) (show kd_ 1 = 18 by decide +kernel) rfl rfl (by first | omega | (simp only [n_g61_1_2, n_g61_2]; omega)) ?_
                  obtain ⟨g301, e301⟩ : ∃ x, x = up_ g283 1 3 4 := ⟨_, rfl⟩
                  refine pw_heq e301 ?_
                  refine pw_iinc (z := k) (lv1 := [some (rr_ G 1), some (ii_ (k + 1)), some (ii_ (h 2 k))]) (pc := 304) dX8_step_304 rfl (by decide) rfl rfl ?_
                  refine pw_aload_n (z := 1) (pc := 307) dX8_step_307 rfl rfl ?_
                  refine pw_iload_n (z := k + 1) (pc := 308) dX8_step_308 rfl rfl ?_
                  refine pw_pI (x := 1) (pc := 309) dX8_step_309 fX8_19 (hC 1 (by decide)) (show kd_ 1 = 18 by decide +kernel) rfl rfl (by first | omega | (simp only [n_g61_1_2, n_g61_2]; omega)) ?_
                  obtain ⟨g309, e309⟩ : ∃ x, x = up_ g301 1 1 (k + 1) := ⟨_, rfl⟩
                  refine pw_heq e309 ?_
                  exact pw_vret (pc := 312) dX8_step_312 (by
                            obtain ⟨v3, h3⟩ : ∃ v3, g309 1 3 = v3 ∧ (sof_ (tp k) ∧ v3 = 4 ∨ ¬ sof_ (tp k) ∧ v3 = 1) := by
                              refine ⟨_, rfl, ?_⟩
                              rw [e309, up_at, if_neg (by decide), e301, up_same]
                              first
                              | exact Or.inl ⟨hs.mp (by omega), rfl⟩
                              | exact Or.inr ⟨fun u => by have := hs.mpr u; omega, rfl⟩
                            have k9 : ∀ x, x ≠ 3 → g309 1 x = ob_ (ob_ (ob_ (ob_ (ob_ (ob_ (h 1) 5 (h 1 4)) 4 k) 6 0) 3 0) 6 (h 2 k)) 1 (k + 1) x := fun x x3 => by
                              rw [e309, up_ob, e301, up_ob, e283, up_ob, e61, up_ob, e56, up_ob, e51, up_ob, e5, up_ob]
                              unfold ob_
                              rw [if_neg x3]
                            have f9 : off_ [1] h g309 := by rw [e309, e301, e283, e61, e56, e51, e5]; exact off_up (off_up (off_up (off_up (off_up (off_up (off_up off_rf (by decide)) (by decide)) (by decide)) (by decide)) (by decide)) (by decide)) (by decide)
                            exact ⟨f9, ctk_S (CTP_mv ⟨H1, H2, H3⟩ (by rw [k9 2 (by decide)]; rfl) (f9 2 (by decide))) hp (by omega) (by unfold let_; omega) (by unfold dig_; omega) (by rw [k9 1 (by decide)]; rfl) (by rw [h3.1]; exact h3.2) (by rw [k9 4 (by decide)]; rfl) (by rw [k9 6 (by decide)]; exact hk2.1), by rw [k9 5 (by decide)]; rfl⟩)
            · have L191 : ∀ (nn : Nat) (q : Int) (a1 : PH_), (k ≤ q ∧ q ≤ n) → (off_ [1] g61 a1) → (∀ x, x ≠ 6 → a1 1 x = g61 1 x) → (∀ x, k ≤ x → x < q → dig_ (tp x)) → (rnx_ dig_ tp n q = rnx_ dig_ tp n k) → (q - k ≤ 4 → a1 1 6 = nus_ tp (q - k).toNat k 0) → ((n - q + 1 : Int) ≤ nn) → PW G RX8 cX8_step 3 none (rm_ 5) 0 0 (zm_ G (qv_ (fun h' => off_ [1] h h' ∧ CTK_ tp n h' a ∧ h' 1 5 = h 1 4))) 191 [some (rr_ G 1), some (ii_ q), some (ii_ (h 2 k))] [] a1 := by
                intro nn
                induction nn with
                | zero => intro q a1 bq bf bx bl be bv ams; exfalso; omega
                | succ nn ih191 =>
                  intro q a1 bq bf bx bl be bv ams
                  have x2 : a1 1 2 = n := by rw [bx 2 (by decide), e61, up_at, if_neg (by decide), e56, up_at, if_neg (by decide), e51, up_at, if_neg (by decide), e5, up_at, if_neg (by decide)]; exact H1
                  refine pw_iload_n (z := q) (pc := 191) dX8_step_191 rfl rfl ?_
                  refine pw_aload_n (z := 1) (pc := 192) dX8_step_192 rfl rfl ?_
                  refine pw_gI (x := 2) (pc := 193) dX8_step_193 fX8_15 (hC 1 (by decide)) (show kd_ 1 = 18 by decide +kernel) rfl rfl (fun r193 => ?_)
                  refine pw_icmp_ge (t := 250) (pc := 196) dX8_step_196 (by decide) (by first | omega | (simp only [n_g61_1_2, n_g61_2]; omega)) (by first | omega | (simp only [n_g61_1_2, n_g61_2]; omega)) (fun c196 => ?_) (fun c196 => ?_)
                  · exact J250 _ _ (by omega) (by unfold dig_; omega) (bf) (bx) (by rw [← be]; exact rnx_f (fun u => by obtain ⟨u1, u2⟩ := u; have := (H3 q (by omega) u1).1; unfold dig_ at u2; omega)) (bv)
                  · have hq2 := H3 q (by omega) (by omega)
                    refine pw_aload_n (z := 1) (pc := 199) dX8_step_199 rfl rfl ?_
                    refine pw_getR (r := 2) (pc := 200) dX8_step_200 fX8_9 (hC 1 (by decide)) (show kd_ 1 = 18 by decide +kernel) rfl (by decide +kernel) ?_
                    refine pw_iload_n (z := q) (pc := 203) dX8_step_203 rfl rfl ?_
                    refine pw_cald (pc := 204) dX8_step_204 (hC 2 (by decide)) (show kd_ 2 = 3 by decide +kernel) 1000 (by decide +kernel) (by first | omega | (simp only [n_g61_1_2, n_g61_2]; omega)) (by first | omega | (simp only [n_g61_1_2, n_g61_2]; omega)) (by first | omega | (simp only [n_g61_1_2, n_g61_2]; omega)) (fun r204 => ?_)
                    have n_a1_2 : a1 2 = h 2 := (((((show a1 2 = g61 2 from (bf 2 (by first | decide | (simp; done) | (simp; omega)))).trans (show g61 2 = g56 2 from (by rw [e61]; exact up_off (by first | decide | omega)))).trans (show g56 2 = g51 2 from (by rw [e56]; exact up_off (by first | decide | omega)))).trans (show g51 2 = g5 2 from (by rw [e51]; exact up_off (by first | decide | omega)))).trans (show g5 2 = h 2 from (by rw [e5]; exact up_off (by first | decide | omega))))
                    rw [n_a1_2] at r204 ⊢
                    refine pw_bipush (pc := 205) dX8_step_205 rfl ?_
                    refine pw_icmp_lt (t := 250) (pc := 207) dX8_step_207 (by decide) (by first | omega | (simp only [n_a1_2, n_g61_1_2, n_g61_2]; omega)) (by first | omega | (simp only [n_a1_2, n_g61_1_2, n_g61_2]; omega)) (fun c207 => ?_) (fun c207 => ?_)
                    · exact J250 _ _ (by omega) (by unfold dig_; omega) (bf) (bx) (by rw [← be]; exact rnx_f (fun u => by obtain ⟨u1, u2⟩ := u; have := (H3 q (by omega) u1).1; unfold dig_ at u2; omega)) (bv)
                    · refine pw_aload_n (z := 1) (pc := 210) dX8_step_210 rfl rfl ?_
                      refine pw_getR (r := 2) (pc := 211) dX8_step_211 fX8_9 (hC 1 (by decide)) (show kd_ 1 = 18 by decide +kernel) rfl (by decide +kernel) ?_
                      refine pw_iload_n (z := q) (pc := 214) dX8_step_214 rfl rfl ?_
                      refine pw_cald (pc := 215) dX8_step_215 (hC 2 (by decide)) (show kd_ 2 = 3 by decide +kernel) 1000 (by decide +kernel) (by first | omega | (simp only [n_a1_2, n_g61_1_2, n_g61_2]; omega)) (by first | omega | (simp only [n_a1_2, n_g61_1_2, n_g61_2]; omega)) (by first | omega | (simp only [n_a1_2, n_g61_1_2, n_g61_2]; omega)) (fun r215 => ?_)
                      rw [n_a1_2] at r215 ⊢
                      refine pw_bipush (pc := 216) dX8_step_216 rfl ?_
                      refine pw_icmp_gt (t := 250) (pc := 218) dX8_step_218 (by decide) (by first | omega | (simp only [n_a1_2, n_g61_1_2, n_g61_2]; omega)) (by first | omega | (simp only [n_a1_2, n_g61_1_2, n_g61_2]; omega)) (fun c218 => ?_) (fun c218 => ?_)
                      · exact J250 _ _ (by omega) (by unfold dig_; omega) (bf) (bx) (by rw [← be]; exact rnx_f (fun u => by obtain ⟨u1, u2⟩ := u; have := (H3 q (by omega) u1).1; unfold dig_ at u2; omega)) (bv)
                      · have lq : dig_ (tp q) := by unfold dig_; omega
                        have bl2 : ∀ x, k ≤ x → x < q + 1 → dig_ (tp x) := fun x x0 x1 => by
                          by_cases c : x = q
                          · rw [c]; exact lq
                          · exact bl x x0 (by omega)
                        refine pw_aload_n (z := 1) (pc := 221) dX8_step_221 rfl rfl ?_
                        refine pw_aload_n (z := 1) (pc := 222) dX8_step_222 rfl rfl ?_
                        refine pw_gJ (x := 6) (pc := 223) dX8_step_223 fX8_31 (hC 1 (by decide)) (show kd_ 1 = 18 by decide +kernel) rfl rfl (fun r223 => ?_)
                        refine pw_ldc2 (z := 10) (pc := 226) dX8_step_226 kX8_40 rfl ?_
                        refine pw_lmul (pc := 229) dX8_step_229 ?_
                        refine pw_aload_n (z := 1) (pc := 230) dX8_step_230 rfl rfl ?_
                        refine pw_getR (r := 2) (pc := 231) dX8_step_231 fX8_9 (hC 1 (by decide)) (show kd_ 1 = 18 by decide +kernel) rfl (by decide +kernel) ?_
                        refine pw_iload_n (z := q) (pc := 234) dX8_step_234 rfl rfl ?_
                        refine pw_cald (pc := 235) dX8_step_235 (hC 2 (by decide)) (show kd_ 2 = 3 by decide +kernel) 1000 (by decide +kernel) (by first | omega | (simp only [n_a1_2, n_g61_1_2, n_g61_2]; omega)) (by first | omega | (simp only [n_a1_2, n_g61_1_2, n_g61_2]; omega)) (by first | omega | (simp only [n_a1_2, n_g61_1_2, n_g61_2]; omega)) (fun r235 => ?_)
                        rw [n_a1_2] at r235 ⊢
                        refine pw_bipush (pc := 236) dX8_step_236 rfl ?_
                        refine pw_isub (pc := 238) dX8_step_238 ?_
                        refine pw_i2l (pc := 239) dX8_step_239 (by first | omega | (simp only [n_a1_2, n_g61_1_2, n_g61_2]; omega)) ?_
                        refine pw_ladd (pc := 240) dX8_step_240 ?_
                        refine pw_normL ?_
                        have wl241 := wl_lr (((a1 1 6) * 10) + ((h 2 q) - 48))
                        refine pw_pJ (x := 6) (pc := 241) dX8_step_241 fX8_31 (hC 1 (by decide)) (show kd_ 1 = 18 by decide +kernel) rfl rfl (by first | omega | (simp only [n_a1_2, n_g61_1_2, n_g61_2]; omega)) ?_
                        obtain ⟨g241, e241⟩ : ∃ x, x = up_ a1 1 6 (wl_ (((a1 1 6) * 10) + ((h 2 q) - 48))) := ⟨_, rfl⟩
                        refine pw_heq e241 ?_
                        refine pw_iinc (z := q) (lv1 := [some (rr_ G 1), some (ii_ (q + 1)), some (ii_ (h 2 k))]) (pc := 244) dX8_step_244 rfl (by decide) rfl rfl ?_
                        refine pw_goto (t := 191) (pc := 247) dX8_step_247 (by decide) ?_
                        exact ih191 _ _ (by omega) (by rw [e241]; exact off_up bf (by decide)) (fun x x1 => by rw [e241, up_at, if_neg x1]; exact bx x x1) (bl2) (by rw [← rnx_t (Q := dig_) (by omega) lq]; exact be) (fun u => by rw [e241, up_same, bv (by omega), hq2.1]; exact enD_ (by omega) (by omega) bl2) (by omega)
              exact L191 _ _ _ (by omega) (off_rf) (fun _ _ => rfl) (fun x x0 x1 => by omega) (rfl) (fun _ => by rw [show (k - k).toNat = 0 by omega, e61, up_at, if_neg (by decide), e56, up_same]; rfl) (Int.self_le_toNat _)
        · have L95 : ∀ (nn : Nat) (q : Int) (a1 : PH_), (k ≤ q ∧ q ≤ n) → (off_ [1] g61 a1) → (∀ x, x ≠ 6 → a1 1 x = g61 1 x) → (∀ x, k ≤ x → x < q → let_ (tp x)) → (rnx_ let_ tp n q = rnx_ let_ tp n k) → (q - k ≤ 8 → a1 1 6 = enc_ 27 (wls_ tp (q - k).toNat k)) → ((n - q + 1 : Int) ≤ nn) → PW G RX8 cX8_step 3 none (rm_ 5) 0 0 (zm_ G (qv_ (fun h' => off_ [1] h h' ∧ CTK_ tp n h' a ∧ h' 1 5 = h 1 4))) 95 [some (rr_ G 1), some (ii_ q), some (ii_ (h 2 k))] [] a1 := by
            intro nn
            induction nn with
            | zero => intro q a1 bq bf bx bl be bv ams; exfalso; omega
            | succ nn ih95 =>
              intro q a1 bq bf bx bl be bv ams
              have x2 : a1 1 2 = n := by rw [bx 2 (by decide), e61, up_at, if_neg (by decide), e56, up_at, if_neg (by decide), e51, up_at, if_neg (by decide), e5, up_at, if_neg (by decide)]; exact H1
              refine pw_iload_n (z := q) (pc := 95) dX8_step_95 rfl rfl ?_
              refine pw_aload_n (z := 1) (pc := 96) dX8_step_96 rfl rfl ?_
              refine pw_gI (x := 2) (pc := 97) dX8_step_97 fX8_15 (hC 1 (by decide)) (show kd_ 1 = 18 by decide +kernel) rfl rfl (fun r97 => ?_)
              refine pw_icmp_ge (t := 156) (pc := 100) dX8_step_100 (by decide) (by first | omega | (simp only [n_g61_1_2, n_g61_2]; omega)) (by first | omega | (simp only [n_g61_1_2, n_g61_2]; omega)) (fun c100 => ?_) (fun c100 => ?_)
              · exact J156 _ _ (by omega) (by unfold let_; omega) (bf) (bx) (by rw [← be]; exact rnx_f (fun u => by obtain ⟨u1, u2⟩ := u; have := (H3 q (by omega) u1).1; unfold let_ at u2; omega)) (bv)
              · have hq2 := H3 q (by omega) (by omega)
                refine pw_aload_n (z := 1) (pc := 103) dX8_step_103 rfl rfl ?_
                refine pw_getR (r := 2) (pc := 104) dX8_step_104 fX8_9 (hC 1 (by decide)) (show kd_ 1 = 18 by decide +kernel) rfl (by decide +kernel) ?_
                refine pw_iload_n (z := q) (pc := 107) dX8_step_107 rfl rfl ?_
                refine pw_cald (pc := 108) dX8_step_108 (hC 2 (by decide)) (show kd_ 2 = 3 by decide +kernel) 1000 (by decide +kernel) (by first | omega | (simp only [n_g61_1_2, n_g61_2]; omega)) (by first | omega | (simp only [n_g61_1_2, n_g61_2]; omega)) (by first | omega | (simp only [n_g61_1_2, n_g61_2]; omega)) (fun r108 => ?_)
                have n_a1_2 : a1 2 = h 2 := (((((show a1 2 = g61 2 from (bf 2 (by first | decide | (simp; done) | (simp; omega)))).trans (show g61 2 = g56 2 from (by rw [e61]; exact up_off (by first | decide | omega)))).trans (show g56 2 = g51 2 from (by rw [e56]; exact up_off (by first | decide | omega)))).trans (show g51 2 = g5 2 from (by rw [e51]; exact up_off (by first | decide | omega)))).trans (show g5 2 = h 2 from (by rw [e5]; exact up_off (by first | decide | omega))))
                rw [n_a1_2] at r108 ⊢
                refine pw_bipush (pc := 109) dX8_step_109 rfl ?_
                refine pw_icmp_lt (t := 156) (pc := 111) dX8_step_111 (by decide) (by first | omega | (simp only [n_a1_2, n_g61_1_2, n_g61_2]; omega)) (by first | omega | (simp only [n_a1_2, n_g61_1_2, n_g61_2]; omega)) (fun c111 => ?_) (fun c111 => ?_)
                · exact J156 _ _ (by omega) (by unfold let_; omega) (bf) (bx) (by rw [← be]; exact rnx_f (fun u => by obtain ⟨u1, u2⟩ := u; have := (H3 q (by omega) u1).1; unfold let_ at u2; omega)) (bv)
                · refine pw_aload_n (z := 1) (pc := 114) dX8_step_114 rfl rfl ?_
                  refine pw_getR (r := 2) (pc := 115) dX8_step_115 fX8_9 (hC 1 (by decide)) (show kd_ 1 = 18 by decide +kernel) rfl (by decide +kernel) ?_
                  refine pw_iload_n (z := q) (pc := 118) dX8_step_118 rfl rfl ?_
                  refine pw_cald (pc := 119) dX8_step_119 (hC 2 (by decide)) (show kd_ 2 = 3 by decide +kernel) 1000 (by decide +kernel) (by first | omega | (simp only [n_a1_2, n_g61_1_2, n_g61_2]; omega)) (by first | omega | (simp only [n_a1_2, n_g61_1_2, n_g61_2]; omega)) (by first | omega | (simp only [n_a1_2, n_g61_1_2, n_g61_2]; omega)) (fun r119 => ?_)
                  rw [n_a1_2] at r119 ⊢
                  refine pw_bipush (pc := 120) dX8_step_120 rfl ?_
                  refine pw_icmp_gt (t := 156) (pc := 122) dX8_step_122 (by decide) (by first | omega | (simp only [n_a1_2, n_g61_1_2, n_g61_2]; omega)) (by first | omega | (simp only [n_a1_2, n_g61_1_2, n_g61_2]; omega)) (fun c122 => ?_) (fun c122 => ?_)
                  · exact J156 _ _ (by omega) (by unfold let_; omega) (bf) (bx) (by rw [← be]; exact rnx_f (fun u => by obtain ⟨u1, u2⟩ := u; have := (H3 q (by omega) u1).1; unfold let_ at u2; omega)) (bv)
                  · have lq : let_ (tp q) := by unfold let_; omega
                    have bl2 : ∀ x, k ≤ x → x < q + 1 → let_ (tp x) := fun x x0 x1 => by
                      by_cases c : x = q
                      · rw [c]; exact lq
                      · exact bl x x0 (by omega)
                    refine pw_aload_n (z := 1) (pc := 125) dX8_step_125 rfl rfl ?_
                    refine pw_aload_n (z := 1) (pc := 126) dX8_step_126 rfl rfl ?_
                    refine pw_gJ (x := 6) (pc := 127) dX8_step_127 fX8_31 (hC 1 (by decide)) (show kd_ 1 = 18 by decide +kernel) rfl rfl (fun r127 => ?_)
                    refine pw_ldc2 (z := 27) (pc := 130) dX8_step_130 kX8_38 rfl ?_
                    refine pw_lmul (pc := 133) dX8_step_133 ?_
                    refine pw_aload_n (z := 1) (pc := 134) dX8_step_134 rfl rfl ?_
                    refine pw_getR (r := 2) (pc := 135) dX8_step_135 fX8_9 (hC 1 (by decide)) (show kd_ 1 = 18 by decide +kernel) rfl (by decide +kernel) ?_
                    refine pw_iload_n (z := q) (pc := 138) dX8_step_138 rfl rfl ?_
                    refine pw_cald (pc := 139) dX8_step_139 (hC 2 (by decide)) (show kd_ 2 = 3 by decide +kernel) 1000 (by decide +kernel) (by first | omega | (simp only [n_a1_2, n_g61_1_2, n_g61_2]; omega)) (by first | omega | (simp only [n_a1_2, n_g61_1_2, n_g61_2]; omega)) (by first | omega | (simp only [n_a1_2, n_g61_1_2, n_g61_2]; omega)) (fun r139 => ?_)
                    rw [n_a1_2] at r139 ⊢
                    refine pw_bipush (pc := 140) dX8_step_140 rfl ?_
                    refine pw_isub (pc := 142) dX8_step_142 ?_
                    refine pw_iconst (pc := 143) dX8_step_143 ?_
                    refine pw_iadd (pc := 144) dX8_step_144 ?_
                    refine pw_i2l (pc := 145) dX8_step_145 (by first | omega | (simp only [n_a1_2, n_g61_1_2, n_g61_2]; omega)) ?_
                    refine pw_ladd (pc := 146) dX8_step_146 ?_
                    refine pw_normL ?_
                    have wl147 := wl_lr (((a1 1 6) * 27) + (((h 2 q) - 97) + 1))
                    refine pw_pJ (x := 6) (pc := 147) dX8_step_147 fX8_31 (hC 1 (by decide)) (show kd_ 1 = 18 by decide +kernel) rfl rfl (by first | omega | (simp only [n_a1_2, n_g61_1_2, n_g61_2]; omega)) ?_
                    obtain ⟨g147, e147⟩ : ∃ x, x = up_ a1 1 6 (wl_ (((a1 1 6) * 27) + (((h 2 q) - 97) + 1))) := ⟨_, rfl⟩
                    refine pw_heq e147 ?_
                    refine pw_iinc (z := q) (lv1 := [some (rr_ G 1), some (ii_ (q + 1)), some (ii_ (h 2 k))]) (pc := 150) dX8_step_150 rfl (by decide) rfl rfl ?_
                    refine pw_goto (t := 95) (pc := 153) dX8_step_153 (by decide) ?_
                    exact ih95 _ _ (by omega) (by rw [e147]; exact off_up bf (by decide)) (fun x x1 => by rw [e147, up_at, if_neg x1]; exact bx x x1) (bl2) (by rw [← rnx_t (Q := let_) (by omega) lq]; exact be) (fun u => by rw [e147, up_same, bv (by omega), hq2.1]; exact enL_ (by omega) (by omega) bl2) (by omega)
          exact L95 _ _ _ (by omega) (off_rf) (fun _ _ => rfl) (fun x x0 x1 => by omega) (rfl) (fun _ => by rw [show (k - k).toNat = 0 by omega, e61, up_at, if_neg (by decide), e56, up_same]; rfl) (Int.self_le_toNat _)
  refine pw_aload_n (z := 1) (pc := 8) dX8_step_8 rfl rfl ?_
  refine pw_gI (x := 1) (pc := 9) dX8_step_9 fX8_19 (hC 1 (by decide)) (show kd_ 1 = 18 by decide +kernel) rfl rfl (fun r9 => ?_)
  have n_g5_1_1 : g5 1 1 = h 1 1 := (by rw [e5, up_at]; exact if_neg (by decide))
  rw [n_g5_1_1] at r9 ⊢
  refine pw_istore_n (lv1 := [some (rr_ G 1), some (ii_ (h 1 1)), none]) (pc := 12) dX8_step_12 rfl (by decide) rfl rfl ?_
  have L13 : ∀ (nn : Nat) (k : Int), (tkp_ tp n a ≤ k ∧ k ≤ n) → (rnx_ bla_ tp n k = p) → ((n - k + 1 : Int) ≤ nn) → PW G RX8 cX8_step 3 none (rm_ 5) 0 0 (zm_ G (qv_ (fun h' => off_ [1] h h' ∧ CTK_ tp n h' a ∧ h' 1 5 = h 1 4))) 13 [some (rr_ G 1), some (ii_ k), none] [] g5 := by
    intro nn
    induction nn with
    | zero => intro k ak ae ams; exfalso; omega
    | succ nn ih13 =>
      intro k ak ae ams
      refine pw_iload_n (z := k) (pc := 13) dX8_step_13 rfl rfl ?_
      refine pw_aload_n (z := 1) (pc := 14) dX8_step_14 rfl rfl ?_
      refine pw_gI (x := 2) (pc := 15) dX8_step_15 fX8_15 (hC 1 (by decide)) (show kd_ 1 = 18 by decide +kernel) rfl rfl (fun r15 => ?_)
      have n_g5_1_2 : g5 1 2 = h 1 2 := (by rw [e5, up_at]; exact if_neg (by decide))
      rw [n_g5_1_2] at r15 ⊢
      refine pw_icmp_ge (t := 49) (pc := 18) dX8_step_18 (by decide) (by first | omega | (simp only [n_g5_1_1, n_g5_1_2]; omega)) (by first | omega | (simp only [n_g5_1_1, n_g5_1_2]; omega)) (fun c18 => ?_) (fun c18 => ?_)
      · exact J49 _ (by omega) (by rw [← ae]; exact (rnx_f (fun u => by obtain ⟨u1, u2⟩ := u; have := (H3 k (by omega) u1).1; unfold bla_ at u2; omega)).symm)
      · have hk2 := H3 k (by omega) (by omega)
        refine pw_aload_n (z := 1) (pc := 21) dX8_step_21 rfl rfl ?_
        refine pw_getR (r := 2) (pc := 22) dX8_step_22 fX8_9 (hC 1 (by decide)) (show kd_ 1 = 18 by decide +kernel) rfl (by decide +kernel) ?_
        refine pw_iload_n (z := k) (pc := 25) dX8_step_25 rfl rfl ?_
        refine pw_cald (pc := 26) dX8_step_26 (hC 2 (by decide)) (show kd_ 2 = 3 by decide +kernel) 1000 (by decide +kernel) (by first | omega | (simp only [n_g5_1_1, n_g5_1_2]; omega)) (by first | omega | (simp only [n_g5_1_1, n_g5_1_2]; omega)) (by first | omega | (simp only [n_g5_1_1, n_g5_1_2]; omega)) (fun r26 => ?_)
        have n_g5_2 : g5 2 = h 2 := (by rw [e5]; exact up_off (by first | decide | omega))
        rw [n_g5_2] at r26 ⊢
        refine pw_bipush (pc := 27) dX8_step_27 rfl ?_
        refine pw_icmp_eq (t := 43) (pc := 29) dX8_step_29 (by decide) (by first | omega | (simp only [n_g5_1_1, n_g5_1_2, n_g5_2]; omega)) (by first | omega | (simp only [n_g5_1_1, n_g5_1_2, n_g5_2]; omega)) (fun c29 => ?_) (fun c29 => ?_)
        · have bl : bla_ (tp k) := by unfold bla_; omega
          refine pw_iinc (z := k) (lv1 := [some (rr_ G 1), some (ii_ (k + 1)), none]) (pc := 43) dX8_step_43 rfl (by decide) rfl rfl ?_
          refine pw_goto (t := 13) (pc := 46) dX8_step_46 (by decide) ?_
          exact ih13 _ (by omega) (by rw [← rnx_t (Q := bla_) (by omega) bl]; exact ae) (by omega)
        · refine pw_aload_n (z := 1) (pc := 32) dX8_step_32 rfl rfl ?_
          refine pw_getR (r := 2) (pc := 33) dX8_step_33 fX8_9 (hC 1 (by decide)) (show kd_ 1 = 18 by decide +kernel) rfl (by decide +kernel) ?_
          refine pw_iload_n (z := k) (pc := 36) dX8_step_36 rfl rfl ?_
          refine pw_cald (pc := 37) dX8_step_37 (hC 2 (by decide)) (show kd_ 2 = 3 by decide +kernel) 1000 (by decide +kernel) (by first | omega | (simp only [n_g5_1_1, n_g5_1_2, n_g5_2]; omega)) (by first | omega | (simp only [n_g5_1_1, n_g5_1_2, n_g5_2]; omega)) (by first | omega | (simp only [n_g5_1_1, n_g5_1_2, n_g5_2]; omega)) (fun r37 => ?_)
          rw [n_g5_2] at r37 ⊢
          refine pw_bipush (pc := 38) dX8_step_38 rfl ?_
          refine pw_icmp_ne (t := 49) (pc := 40) dX8_step_40 (by decide) (by first | omega | (simp only [n_g5_1_1, n_g5_1_2, n_g5_2]; omega)) (by first | omega | (simp only [n_g5_1_1, n_g5_1_2, n_g5_2]; omega)) (fun c40 => ?_) (fun c40 => ?_)
          · exact J49 _ (by omega) (by rw [← ae]; exact (rnx_f (fun u => by obtain ⟨u1, u2⟩ := u; have := (H3 k (by omega) u1).1; unfold bla_ at u2; omega)).symm)
          · have bl : bla_ (tp k) := by unfold bla_; omega
            refine pw_iinc (z := k) (lv1 := [some (rr_ G 1), some (ii_ (k + 1)), none]) (pc := 43) dX8_step_43 rfl (by decide) rfl rfl ?_
            refine pw_goto (t := 13) (pc := 46) dX8_step_46 (by decide) ?_
            exact ih13 _ (by omega) (by rw [← rnx_t (Q := bla_) (by omega) bl]; exact ae) (by omega)
  exact L13 _ _ (by omega) (by rw [hb]; exact hp) (Int.self_le_toNat _)

set_option maxHeartbeats 4000000 in
set_option maxRecDepth 100000 in
theorem d_isSign {G : GT_} (hC : okC_ G) (h : PH_) (t : TK_) (ht : TKC_ t h) (c : Int) (hc : 0 ≤ c ∧ c < 128) : PC G yX8_isSign cX8_isSign 2 (some .boolean) 1 [rr_ G 1, ii_ c] h (qi_ (fun z h' => h = h' ∧ (z = 1 ∧ isS_ t c ∨ z = 0 ∧ ¬ isS_ t c))) := by
  have k4 := (ckd_k t.1).2.2
  rw [← ht.1] at k4
  refine PC.of (lv := [some (rr_ G 1), some (ii_ c)]) (by decide +kernel) (Nat.le_of_ble_eq_true rfl) rfl rfl ?_
  refine pw_aload_n (z := 1) (pc := 0) dX8_isSign_0 rfl rfl ?_
  refine pw_gI (x := 3) (pc := 1) dX8_isSign_1 fX8_35 (hC 1 (by decide)) (show kd_ 1 = 18 by decide +kernel) rfl rfl (fun r1 => ?_)
  refine pw_iconst (pc := 4) dX8_isSign_4 ?_
  refine pw_icmp_ne (t := 22) (pc := 5) dX8_isSign_5 (by decide) (by first | omega) (by first | omega) (fun c5 => ?_) (fun c5 => ?_)
  · refine pw_iconst (pc := 22) dX8_isSign_22 ?_
    exact pw_zret (pc := 23) dX8_isSign_23 (by first | omega) (⟨rfl, Or.inr ⟨rfl, fun u => by first | exact absurd (k4.mpr u.1) c5 | exact c15 (lc_i.mpr (by rw [ht.2.2.2 (Or.inr u.1)]; exact u.2))⟩⟩)
  · refine pw_aload_n (z := 1) (pc := 8) dX8_isSign_8 rfl rfl ?_
    refine pw_gJ (x := 6) (pc := 9) dX8_isSign_9 fX8_31 (hC 1 (by decide)) (show kd_ 1 = 18 by decide +kernel) rfl rfl (fun r9 => ?_)
    refine pw_iload_n (z := c) (pc := 12) dX8_isSign_12 rfl rfl ?_
    refine pw_i2l (pc := 13) dX8_isSign_13 (by first | omega) ?_
    refine pw_lcmp (pc := 14) dX8_isSign_14 (by first | omega) (by first | omega) ?_
    refine pw_if_ne (t := 22) (pc := 15) dX8_isSign_15 (by decide) (by first | omega) (fun c15 => ?_) (fun c15 => ?_)
    · refine pw_iconst (pc := 22) dX8_isSign_22 ?_
      exact pw_zret (pc := 23) dX8_isSign_23 (by first | omega) (⟨rfl, Or.inr ⟨rfl, fun u => by first | exact absurd (k4.mpr u.1) c5 | exact c15 (lc_i.mpr (by rw [ht.2.2.2 (Or.inr u.1)]; exact u.2))⟩⟩)
    · refine pw_iconst (pc := 18) dX8_isSign_18 ?_
      refine pw_goto (t := 23) (pc := 19) dX8_isSign_19 (by decide) ?_
      exact pw_zret (pc := 23) dX8_isSign_23 (by first | omega) (⟨rfl, Or.inl ⟨rfl, k4.mp (by omega), by rw [← ht.2.2.2 (Or.inr (k4.mp (by omega)))]; exact lc_i.mp c15⟩⟩)

set_option maxHeartbeats 4000000 in
set_option maxRecDepth 100000 in
theorem d_wordAmong {G : GT_} (hC : okC_ G) (h : PH_) (j : Nat) (hj : j < 15) (hj2 : 2 ≤ j) (t : TK_) (ht : TKC_ t h) (hl : t.1 = 1 → lok2_ t.2.2.2) : PC G yX8_wordAmong cX8_wordAmong 7 (some .int) 5 [rr_ G 1, rr_ G (3000 + j)] h (qi_ (fun z h' => h = h' ∧ z = ixn_ t (wix_ j) 0)) := by
  have k2 := (ckd_k t.1).1
  rw [← ht.1] at k2
  have fin := wsc_f hj hj2 ht hl
  have s2 := snl_120 j (by omega)
  refine PC.of (lv := [some (rr_ G 1), some (rr_ G (3000 + j)), none, none, none, none, none]) (by decide +kernel) (Nat.le_of_ble_eq_true rfl) rfl rfl ?_
  refine pw_iconst (pc := 0) dX8_wordAmong_0 ?_
  refine pw_istore_n (lv1 := [some (rr_ G 1), some (rr_ G (3000 + j)), some (ii_ 0), none, none, none, none]) (pc := 1) dX8_wordAmong_1 rfl (by decide) rfl rfl ?_
  refine pw_lconst (z := 0) (pc := 2) dX8_wordAmong_2 rfl ?_
  refine pw_lstore_n (lv1 := [some (rr_ G 1), some (rr_ G (3000 + j)), some (ii_ 0), some (ll_ 0), none, none, none]) (pc := 3) dX8_wordAmong_3 rfl (by decide) rfl rfl ?_
  refine pw_iconst (pc := 4) dX8_wordAmong_4 ?_
  refine pw_istore (lv1 := [some (rr_ G 1), some (rr_ G (3000 + j)), some (ii_ 0), some (ll_ 0), none, some (ii_ 0), none]) (pc := 5) dX8_wordAmong_5 (by decide) rfl rfl ?_
  have L7 : ∀ (nn : Nat) (ix : Int) (w : Int) (i : Int), (0 ≤ i ∧ i ≤ snl_ j) → (0 ≤ ix ∧ ix ≤ i) → (0 ≤ w ∧ w < 35184372088832) → (wsc_ j (h 1 6) ((snl_ j : Int) - i).toNat i ix w = wsc_ j (h 1 6) (snl_ j) 0 0 0) → (wck_ j ((snl_ j : Int) - i).toNat i w = true) → (((snl_ j : Int) - i + 1 : Int) ≤ nn) → PW G RX8 cX8_wordAmong 7 (some .int) (rm_ 5) 0 0 (zm_ G (qi_ (fun z h' => h = h' ∧ z = ixn_ t (wix_ j) 0))) 7 [some (rr_ G 1), some (rr_ G (3000 + j)), some (ii_ ix), some (ll_ w), none, some (ii_ i), none] [] h := by
    intro nn
    induction nn with
    | zero => intro ix w i ai ax aw ae ac ams; exfalso; omega
    | succ nn ih7 =>
      intro ix w i ai ax aw ae ac ams
      refine pw_aload_n (z := 1) (pc := 7) dX8_wordAmong_7 rfl rfl ?_
      refine pw_gI (x := 3) (pc := 8) dX8_wordAmong_8 fX8_35 (hC 1 (by decide)) (show kd_ 1 = 18 by decide +kernel) rfl rfl (fun r8 => ?_)
      refine pw_iconst (pc := 11) dX8_wordAmong_11 ?_
      refine pw_icmp_ne (t := 79) (pc := 12) dX8_wordAmong_12 (by decide) (by first | omega) (by first | omega) (fun c12 => ?_) (fun c12 => ?_)
      · refine pw_iconst (pc := 79) dX8_wordAmong_79 ?_
        exact pw_iret (pc := 80) dX8_wordAmong_80 (by first | omega) (⟨rfl, by first | (rw [ixn_0 (fun u => by have := k2.mpr u; omega)]; done) | (rw [← fin (k2.mp (by omega)), ← ae, show ((snl_ j : Int) - i).toNat = 0 by omega]; rfl)⟩)
      · refine pw_iload (z := i) (pc := 15) dX8_wordAmong_15 rfl ?_
        refine pw_aload_n (z := (3000 + j)) (pc := 17) dX8_wordAmong_17 rfl rfl ?_
        refine pw_callT (j := j) (As := []) (rest := [ii_ i]) (by omega) (pc := 18) dX8_wordAmong_18 (j_length h j (by first | omega)) lX8_50 mJ0_length_8abf5 vJ0_length_8abf5 rfl rfl rfl (by decide) ⟨Nat.zero_le _, Nat.zero_le _⟩ (Nat.le_of_ble_eq_true rfl) (k_i (fun z18 h18 y18 q18 => ?_))
        obtain ⟨rfl, rfl⟩ := q18
        refine pw_icmp_ge (t := 79) (pc := 21) dX8_wordAmong_21 (by decide) (by first | omega) (by first | omega) (fun c21 => ?_) (fun c21 => ?_)
        · refine pw_iconst (pc := 79) dX8_wordAmong_79 ?_
          exact pw_iret (pc := 80) dX8_wordAmong_80 (by first | omega) (⟨rfl, by first | (rw [ixn_0 (fun u => by have := k2.mpr u; omega)]; done) | (rw [← fin (k2.mp (by omega)), ← ae, show ((snl_ j : Int) - i).toNat = 0 by omega]; rfl)⟩)
        · refine pw_aload_n (z := (3000 + j)) (pc := 24) dX8_wordAmong_24 rfl rfl ?_
          refine pw_iload (z := i) (pc := 25) dX8_wordAmong_25 rfl ?_
          refine pw_callT (j := j) (As := [ii_ i]) (rest := []) (by omega) (pc := 27) dX8_wordAmong_27 (j_charAt h j (by first | omega) i (by first | omega)) lX8_53 mJ0_charAt_5068e vJ0_charAt_5068e rfl rfl rfl (by decide) ⟨Nat.zero_le _, Nat.zero_le _⟩ (Nat.le_of_ble_eq_true rfl) (k_i (fun z27 h27 y27 q27 => ?_))
          obtain ⟨rfl, rfl⟩ := q27
          refine pw_istore (lv1 := [some (rr_ G 1), some (rr_ G (3000 + j)), some (ii_ ix), some (ll_ w), none, some (ii_ i), some (ii_ (sch_ j i))]) (pc := 30) dX8_wordAmong_30 (by decide) rfl rfl ?_
          have sb := sch_b (j := j) (x := i) (by omega) (by omega) (by omega)
          have f1 : ((snl_ j : Int) - i).toNat = ((snl_ j : Int) - (i + 1)).toNat + 1 := by omega
          rw [f1] at ae ac
          have ac1 := wck_s ac
          refine pw_iload (z := sch_ j i) (pc := 32) dX8_wordAmong_32 rfl ?_
          refine pw_bipush (pc := 34) dX8_wordAmong_34 rfl ?_
          refine pw_icmp_eq (t := 57) (pc := 36) dX8_wordAmong_36 (by decide) (by first | omega) (by first | omega) (fun c36 => ?_) (fun c36 => ?_)
          · have ac3 := ac1.1 (by omega)
            refine pw_lload_n (z := w) (pc := 57) dX8_wordAmong_57 rfl rfl ?_
            refine pw_aload_n (z := 1) (pc := 58) dX8_wordAmong_58 rfl rfl ?_
            refine pw_gJ (x := 6) (pc := 59) dX8_wordAmong_59 fX8_31 (hC 1 (by decide)) (show kd_ 1 = 18 by decide +kernel) rfl rfl (fun r59 => ?_)
            refine pw_lcmp (pc := 62) dX8_wordAmong_62 (by first | omega) (by first | omega) ?_
            refine pw_if_ne (t := 68) (pc := 63) dX8_wordAmong_63 (by decide) (by first | omega) (fun c63 => ?_) (fun c63 => ?_)
            · refine pw_lconst (z := 0) (pc := 68) dX8_wordAmong_68 rfl ?_
              refine pw_lstore_n (lv1 := [some (rr_ G 1), some (rr_ G (3000 + j)), some (ii_ ix), some (ll_ 0), none, some (ii_ i), some (ii_ (sch_ j i))]) (pc := 69) dX8_wordAmong_69 rfl (by decide) rfl rfl ?_
              refine pw_iinc (z := ix) (lv1 := [some (rr_ G 1), some (rr_ G (3000 + j)), some (ii_ (ix + 1)), some (ll_ 0), none, some (ii_ i), some (ii_ (sch_ j i))]) (pc := 70) dX8_wordAmong_70 rfl (by decide) rfl rfl ?_
              refine pw_iinc (z := i) (lv1 := [some (rr_ G 1), some (rr_ G (3000 + j)), some (ii_ (ix + 1)), some (ll_ 0), none, some (ii_ (i + 1)), some (ii_ (sch_ j i))]) (pc := 73) dX8_wordAmong_73 rfl (by decide) rfl rfl ?_
              refine pw_goto (t := 7) (pc := 76) dX8_wordAmong_76 (by decide) ?_
              refine pw_less (lv1 := [some (rr_ G 1), some (rr_ G (3000 + j)), some (ii_ (ix + 1)), some (ll_ 0), none, some (ii_ (i + 1)), none]) rfl (by intro i v; (match i with | 0 => simp | 1 => simp | 2 => simp | 3 => simp | 4 => simp | 5 => simp | 6 => simp | n + 7 => simp)) ?_
              exact ih7 _ _ _ (by omega) (by omega) (by first | omega | exact ac2.1) (by first | (rw [wsc_c (by omega)] at ae; exact ae) | (rw [wsc_d (by omega) (fun u => c63 (lc_i.mpr u))] at ae; exact ae)) (by first | exact ac2.2 | exact ac3) (by omega)
            · refine pw_iload_n (z := ix) (pc := 66) dX8_wordAmong_66 rfl rfl ?_
              exact pw_iret (pc := 67) dX8_wordAmong_67 (by first | omega) (⟨rfl, by rw [← fin (k2.mp (by omega)), ← ae, wsc_b (by omega) (lc_i.mp c63)]⟩)
          · have ac2 := ac1.2 (by omega)
            refine pw_lload_n (z := w) (pc := 39) dX8_wordAmong_39 rfl rfl ?_
            refine pw_ldc2 (z := 27) (pc := 40) dX8_wordAmong_40 kX8_38 rfl ?_
            refine pw_lmul (pc := 43) dX8_wordAmong_43 ?_
            refine pw_iload (z := sch_ j i) (pc := 44) dX8_wordAmong_44 rfl ?_
            refine pw_bipush (pc := 46) dX8_wordAmong_46 rfl ?_
            refine pw_isub (pc := 48) dX8_wordAmong_48 ?_
            refine pw_iconst (pc := 49) dX8_wordAmong_49 ?_
            refine pw_iadd (pc := 50) dX8_wordAmong_50 ?_
            refine pw_i2l (pc := 51) dX8_wordAmong_51 (by first | omega) ?_
            refine pw_ladd (pc := 52) dX8_wordAmong_52 ?_
            refine pw_lstore_n (lv1 := [some (rr_ G 1), some (rr_ G (3000 + j)), some (ii_ ix), some (ll_ ((w * 27) + (((sch_ j i) - 97) + 1))), none, some (ii_ i), some (ii_ (sch_ j i))]) (pc := 53) dX8_wordAmong_53 rfl (by decide) rfl rfl ?_
            refine pw_goto (t := 73) (pc := 54) dX8_wordAmong_54 (by decide) ?_
            refine pw_iinc (z := i) (lv1 := [some (rr_ G 1), some (rr_ G (3000 + j)), some (ii_ ix), some (ll_ ((w * 27) + (((sch_ j i) - 97) + 1))), none, some (ii_ (i + 1)), some (ii_ (sch_ j i))]) (pc := 73) dX8_wordAmong_73 rfl (by decide) rfl rfl ?_
            refine pw_goto (t := 7) (pc := 76) dX8_wordAmong_76 (by decide) ?_
            refine pw_less (lv1 := [some (rr_ G 1), some (rr_ G (3000 + j)), some (ii_ ix), some (ll_ ((w * 27) + (((sch_ j i) - 97) + 1))), none, some (ii_ (i + 1)), none]) rfl (by intro i v; (match i with | 0 => simp | 1 => simp | 2 => simp | 3 => simp | 4 => simp | 5 => simp | 6 => simp | n + 7 => simp)) ?_
            exact ih7 _ _ _ (by omega) (by omega) (by first | omega | exact ac2.1) (by first | (rw [wsc_c (by omega)] at ae; exact ae) | (rw [wsc_d (by omega) (fun u => c63 (lc_i.mpr u))] at ae; exact ae)) (by first | exact ac2.2 | exact ac3) (by omega)
  exact L7 _ _ _ _ (by omega) (by omega) (by omega) (by rw [show ((snl_ j : Int) - 0).toNat = snl_ j by omega]) (by rw [show ((snl_ j : Int) - 0).toNat = snl_ j by omega]; exact wck_k j hj hj2) (Int.self_le_toNat _)

set_option maxHeartbeats 4000000 in
set_option maxRecDepth 100000 in
theorem d_tclear {G : GT_} (hC : okC_ G) (h : PH_) : PC G yX8_clear cX8_clear 1 none 1 [rr_ G 1] h (qv_ (fun h' => off_ [1] h h' ∧ h' 1 2 = 0)) := by
  refine PC.of (lv := [some (rr_ G 1)]) (by decide +kernel) (Nat.le_of_ble_eq_true rfl) rfl rfl ?_
  refine pw_aload_n (z := 1) (pc := 0) dX8_clear_0 rfl rfl ?_
  refine pw_iconst (pc := 1) dX8_clear_1 ?_
  refine pw_pI (x := 2) (pc := 2) dX8_clear_2 fX8_15 (hC 1 (by decide)) (show kd_ 1 = 18 by decide +kernel) rfl rfl (by first | omega) ?_
  obtain ⟨g2, e2⟩ : ∃ x, x = up_ h 1 2 0 := ⟨_, rfl⟩
  refine pw_heq e2 ?_
  exact pw_vret (pc := 5) dX8_clear_5 (⟨by rw [e2]; exact off_up off_rf (by decide), by rw [e2, up_same]⟩)

set_option maxHeartbeats 4000000 in
set_option maxRecDepth 100000 in
theorem d_rewind {G : GT_} (hC : okC_ G) (h : PH_) (tp : Int → Int) (n : Int) (H : CTP_ tp n h) : PC G yX8_rewind cX8_rewind 1 none 6 [rr_ G 1] h (qv_ (fun h' => off_ [1] h h' ∧ CTK_ tp n h' 0)) := by
  refine PC.of (lv := [some (rr_ G 1)]) (by decide +kernel) (Nat.le_of_ble_eq_true rfl) rfl rfl ?_
  refine pw_aload_n (z := 1) (pc := 0) dX8_rewind_0 rfl rfl ?_
  refine pw_iconst (pc := 1) dX8_rewind_1 ?_
  refine pw_pI (x := 1) (pc := 2) dX8_rewind_2 fX8_19 (hC 1 (by decide)) (show kd_ 1 = 18 by decide +kernel) rfl rfl (by first | omega) ?_
  obtain ⟨g2, e2⟩ : ∃ x, x = up_ h 1 1 0 := ⟨_, rfl⟩
  refine pw_heq e2 ?_
  refine pw_aload_n (z := 1) (pc := 5) dX8_rewind_5 rfl rfl ?_
  refine pw_callV (c := 8) (o := 1) (As := []) (rest := []) (pc := 6) dX8_rewind_6 (d_step hC g2 tp n (CTP_mv H (by rw [e2, up_at, if_neg (by decide)]) (by rw [e2, up_off (by decide)])) 0 (by rw [e2, up_same]; rfl)) lX8_22 mX8_step vX8_step (hC 1 (by decide)) (show kd_ 1 = 18 by decide +kernel) rfl rfl rfl (by decide) ⟨Nat.zero_le _, Nat.zero_le _⟩ (Nat.le_of_ble_eq_true rfl) (k_v (fun h6 q6 => ?_))
  obtain ⟨f6, k6, -⟩ := q6
  exact pw_vret (pc := 9) dX8_rewind_9 (⟨off_tr (by rw [e2]; exact off_up off_rf (by decide)) f6, k6⟩)

set_option maxHeartbeats 4000000 in
set_option maxRecDepth 100000 in
theorem d_addBytes {G : GT_} (hC : okC_ G) (h : PH_) (v : Int) (hv : lr_ v) (ht : tpo_ (h 2, h 1 2)) : PC G yX8_addBytesOf cX8_addBytesOf 6 none 1 [rr_ G 1, ll_ v] h (qv_ (fun h' => off_ [1, 2] h h' ∧ (∀ k, k ≠ 2 → h' 1 k = h 1 k) ∧ (h' 2, h' 1 2) = ly8_ v 8 (h 2, h 1 2))) := by
  refine PC.of (lv := [some (rr_ G 1), some (ll_ v), none, none, none, none]) (by decide +kernel) (Nat.le_of_ble_eq_true rfl) rfl rfl ?_
  refine pw_bipush (pc := 0) dX8_addBytesOf_0 rfl ?_
  refine pw_istore_n (lv1 := [some (rr_ G 1), some (ll_ v), none, some (ii_ 56), none, none]) (pc := 2) dX8_addBytesOf_2 rfl (by decide) rfl rfl ?_
  have L3 : ∀ (nn : Nat) (k : Int) (j : Nat) (hq : PH_), (k = 56 - 8 * (j : Int) ∧ j ≤ 8) → (off_ [1, 2] h hq) → (∀ q, q ≠ 2 → hq 1 q = h 1 q) → ((hq 2, hq 1 2) = ly8_ v j (h 2, h 1 2)) → (0 ≤ hq 1 2 ∧ hq 1 2 ≤ 1000) → ((k + 10 : Int) ≤ nn) → PW G RX8 cX8_addBytesOf 6 none (rm_ 1) 0 0 (zm_ G (qv_ (fun h' => off_ [1, 2] h h' ∧ (∀ k, k ≠ 2 → h' 1 k = h 1 k) ∧ (h' 2, h' 1 2) = ly8_ v 8 (h 2, h 1 2)))) 3 [some (rr_ G 1), some (ll_ v), none, some (ii_ k), none, none] [] hq := by
    intro nn
    induction nn with
    | zero => intro k j hq ak af ao ae at1 ams; exfalso; omega
    | succ nn ih3 =>
      intro k j hq ak af ao ae at1 ams
      refine pw_iload_n (z := k) (pc := 3) dX8_addBytesOf_3 rfl rfl ?_
      refine pw_if_lt (t := 88) (pc := 4) dX8_addBytesOf_4 (by decide) (by first | omega) (fun c4 => ?_) (fun c4 => ?_)
      · exact pw_vret (pc := 88) dX8_addBytesOf_88 (⟨af, ao, by rw [ae, show j = 8 by omega]⟩)
      · have e5 : (2 : Int) ^ k.toNat = 2 ^ (56 - 8 * j) := by rw [show k.toNat = 56 - 8 * j by omega]
        refine pw_lload_n (z := v) (pc := 7) dX8_addBytesOf_7 rfl rfl ?_
        refine pw_iload_n (z := k) (pc := 8) dX8_addBytesOf_8 rfl rfl ?_
        refine pw_lushr (pc := 9) dX8_addBytesOf_9 (by first | omega) (by unfold by_; omega) (fun w9 r9 x9 => ?_)
        refine pw_l2i (pc := 10) dX8_addBytesOf_10 ?_
        refine pw_sipush (pc := 11) dX8_addBytesOf_11 rfl ?_
        refine pw_iand255 (pc := 14) dX8_addBytesOf_14 ?_
        refine pw_istore (lv1 := [some (rr_ G 1), some (ll_ v), none, some (ii_ k), some (ii_ (w9 % 256)), none]) (pc := 15) dX8_addBytesOf_15 (by decide) rfl rfl ?_
        obtain ⟨c, hc0⟩ : ∃ c, c = w9 % 256 := ⟨_, rfl⟩
        have cb : 0 ≤ c ∧ c < 256 := by omega
        have hc : c = v / 2 ^ (56 - 8 * j) % 256 := by rw [hc0, x9, e5]
        have ls : ly8_ v (j + 1) (h 2, h 1 2) = ly1_ c (hq 2, hq 1 2) := by rw [ae, hc]; rfl
        have J82 : ∀ (h2 : PH_), (off_ [1, 2] h h2) → (∀ q, q ≠ 2 → h2 1 q = h 1 q) → ((h2 2, h2 1 2) = ly8_ v (j + 1) (h 2, h 1 2)) → (0 ≤ h2 1 2 ∧ h2 1 2 ≤ 1000) → PW G RX8 cX8_addBytesOf 6 none (rm_ 1) 0 0 (zm_ G (qv_ (fun h' => off_ [1, 2] h h' ∧ (∀ k, k ≠ 2 → h' 1 k = h 1 k) ∧ (h' 2, h' 1 2) = ly8_ v 8 (h 2, h 1 2)))) 82 [some (rr_ G 1), some (ll_ v), none, some (ii_ k), none, none] [] h2 := by
          intro h2 jf jo je jt
          refine pw_iinc (z := k) (lv1 := [some (rr_ G 1), some (ll_ v), none, some (ii_ (k + (-8))), none, none]) (pc := 82) dX8_addBytesOf_82 rfl (by decide) rfl rfl ?_
          refine pw_goto (t := 3) (pc := 85) dX8_addBytesOf_85 (by decide) ?_
          exact ih3 _ (j + 1) _ (by omega) (jf) (jo) (je) (jt) (by omega)
        rw [← hc0]
        refine pw_iload (z := c) (pc := 17) dX8_addBytesOf_17 rfl ?_
        refine pw_bipush (pc := 19) dX8_addBytesOf_19 rfl ?_
        refine pw_icmp_eq (t := 38) (pc := 21) dX8_addBytesOf_21 (by decide) (by first | omega) (by first | omega) (fun c21 => ?_) (fun c21 => ?_)
        · refine pw_iconst (pc := 38) dX8_addBytesOf_38 ?_
          refine pw_goto (t := 43) (pc := 39) dX8_addBytesOf_39 (by decide) ?_
          refine pw_istore (lv1 := [some (rr_ G 1), some (ll_ v), none, some (ii_ k), some (ii_ c), some (ii_ 1)]) (pc := 43) dX8_addBytesOf_43 (by decide) rfl rfl ?_
          refine pw_iload (z := 1) (pc := 45) dX8_addBytesOf_45 rfl ?_
          refine pw_if_eq (t := 82) (pc := 47) dX8_addBytesOf_47 (by decide) (by first | omega) (fun c47 => absurd c47 (by decide)) (fun _ => ?_)
          refine pw_aload_n (z := 1) (pc := 50) dX8_addBytesOf_50 rfl rfl ?_
          refine pw_gI (x := 2) (pc := 51) dX8_addBytesOf_51 fX8_15 (hC 1 (by decide)) (show kd_ 1 = 18 by decide +kernel) rfl rfl (fun r51 => ?_)
          refine pw_sipush (pc := 54) dX8_addBytesOf_54 rfl ?_
          refine pw_icmp_ge (t := 82) (pc := 57) dX8_addBytesOf_57 (by decide) (by first | omega) (by first | omega) (fun c57 => ?_) (fun c57 => ?_)
          · refine pw_less (lv1 := [some (rr_ G 1), some (ll_ v), none, some (ii_ k), none, none]) rfl (by intro i v; (match i with | 0 => simp | 1 => simp | 2 => simp | 3 => simp | 4 => simp | 5 => simp | n + 6 => simp)) ?_
            exact J82 _ (by first | exact af | (rw [e79, e71]; exact off_up (off_up af (by decide)) (by decide))) (by first | exact ao | exact fun q q1 => by rw [e79, up_at, if_neg q1, e71, up_off (by decide)]; exact ao q q1) (by
                    rw [ls]; unfold ly1_
                    first
                    | (rw [if_f (by unfold gsn_; show ¬ (_ ∧ hq 1 2 < 1000); omega)]; done)
                    | (rw [if_t (by unfold gsn_; show _ ∧ hq 1 2 < 1000; omega), e79, up_off (by decide), up_same, e71, up_ob]; done)) (by first | exact at1 | (rw [e79, up_same]; omega))
          · refine pw_aload_n (z := 1) (pc := 60) dX8_addBytesOf_60 rfl rfl ?_
            refine pw_getR (r := 2) (pc := 61) dX8_addBytesOf_61 fX8_9 (hC 1 (by decide)) (show kd_ 1 = 18 by decide +kernel) rfl (by decide +kernel) ?_
            refine pw_aload_n (z := 1) (pc := 64) dX8_addBytesOf_64 rfl rfl ?_
            refine pw_gI (x := 2) (pc := 65) dX8_addBytesOf_65 fX8_15 (hC 1 (by decide)) (show kd_ 1 = 18 by decide +kernel) rfl rfl (fun r65 => ?_)
            refine pw_iload (z := c) (pc := 68) dX8_addBytesOf_68 rfl ?_
            refine pw_i2c (pc := 70) dX8_addBytesOf_70 (by first | omega) ?_
            refine pw_cast (pc := 71) dX8_addBytesOf_71 (hC 2 (by decide)) (show kd_ 2 = 3 by decide +kernel) 1000 (by decide +kernel) (by first | omega) (by first | omega) (by first | omega) (by first | omega) ?_
            obtain ⟨g71, e71⟩ : ∃ x, x = up_ hq 2 (hq 1 2) c := ⟨_, rfl⟩
            refine pw_heq e71 ?_
            refine pw_aload_n (z := 1) (pc := 72) dX8_addBytesOf_72 rfl rfl ?_
            refine pw_dup (pc := 73) dX8_addBytesOf_73 rfl ?_
            refine pw_gI (x := 2) (pc := 74) dX8_addBytesOf_74 fX8_15 (hC 1 (by decide)) (show kd_ 1 = 18 by decide +kernel) rfl rfl (fun r74 => ?_)
            have n_g71_1_2 : g71 1 2 = hq 1 2 := (by rw [e71, up_off (by first | decide | omega)])
            rw [n_g71_1_2] at r74 ⊢
            refine pw_iconst (pc := 77) dX8_addBytesOf_77 ?_
            refine pw_iadd (pc := 78) dX8_addBytesOf_78 ?_
            refine pw_pI (x := 2) (pc := 79) dX8_addBytesOf_79 fX8_15 (hC 1 (by decide)) (show kd_ 1 = 18 by decide +kernel) rfl rfl (by first | omega | (simp only [n_g71_1_2]; omega)) ?_
            obtain ⟨g79, e79⟩ : ∃ x, x = up_ g71 1 2 ((hq 1 2) + 1) := ⟨_, rfl⟩
            refine pw_heq e79 ?_
            refine pw_less (lv1 := [some (rr_ G 1), some (ll_ v), none, some (ii_ k), none, none]) rfl (by intro i v; (match i with | 0 => simp | 1 => simp | 2 => simp | 3 => simp | 4 => simp | 5 => simp | n + 6 => simp)) ?_
            exact J82 _ (by first | exact af | (rw [e79, e71]; exact off_up (off_up af (by decide)) (by decide))) (by first | exact ao | exact fun q q1 => by rw [e79, up_at, if_neg q1, e71, up_off (by decide)]; exact ao q q1) (by
                    rw [ls]; unfold ly1_
                    first
                    | (rw [if_f (by unfold gsn_; show ¬ (_ ∧ hq 1 2 < 1000); omega)]; done)
                    | (rw [if_t (by unfold gsn_; show _ ∧ hq 1 2 < 1000; omega), e79, up_off (by decide), up_same, e71, up_ob]; done)) (by first | exact at1 | (rw [e79, up_same]; omega))
        · refine pw_iload (z := c) (pc := 24) dX8_addBytesOf_24 rfl ?_
          refine pw_bipush (pc := 26) dX8_addBytesOf_26 rfl ?_
          refine pw_icmp_lt (t := 42) (pc := 28) dX8_addBytesOf_28 (by decide) (by first | omega) (by first | omega) (fun c28 => ?_) (fun c28 => ?_)
          · refine pw_iconst (pc := 42) dX8_addBytesOf_42 ?_
            refine pw_istore (lv1 := [some (rr_ G 1), some (ll_ v), none, some (ii_ k), some (ii_ c), some (ii_ 0)]) (pc := 43) dX8_addBytesOf_43 (by decide) rfl rfl ?_
            refine pw_iload (z := 0) (pc := 45) dX8_addBytesOf_45 rfl ?_
            refine pw_if_eq (t := 82) (pc := 47) dX8_addBytesOf_47 (by decide) (by first | omega) (fun _ => ?_) (fun c47 => absurd c47 (by decide))
            refine pw_less (lv1 := [some (rr_ G 1), some (ll_ v), none, some (ii_ k), none, none]) rfl (by intro i v; (match i with | 0 => simp | 1 => simp | 2 => simp | 3 => simp | 4 => simp | 5 => simp | n + 6 => simp)) ?_
            exact J82 _ (by first | exact af | (rw [e79, e71]; exact off_up (off_up af (by decide)) (by decide))) (by first | exact ao | exact fun q q1 => by rw [e79, up_at, if_neg q1, e71, up_off (by decide)]; exact ao q q1) (by
                    rw [ls]; unfold ly1_
                    first
                    | (rw [if_f (by unfold gsn_; show ¬ (_ ∧ hq 1 2 < 1000); omega)]; done)
                    | (rw [if_t (by unfold gsn_; show _ ∧ hq 1 2 < 1000; omega), e79, up_off (by decide), up_same, e71, up_ob]; done)) (by first | exact at1 | (rw [e79, up_same]; omega))
          · refine pw_iload (z := c) (pc := 31) dX8_addBytesOf_31 rfl ?_
            refine pw_bipush (pc := 33) dX8_addBytesOf_33 rfl ?_
            refine pw_icmp_gt (t := 42) (pc := 35) dX8_addBytesOf_35 (by decide) (by first | omega) (by first | omega) (fun c35 => ?_) (fun c35 => ?_)
            · refine pw_iconst (pc := 42) dX8_addBytesOf_42 ?_
              refine pw_istore (lv1 := [some (rr_ G 1), some (ll_ v), none, some (ii_ k), some (ii_ c), some (ii_ 0)]) (pc := 43) dX8_addBytesOf_43 (by decide) rfl rfl ?_
              refine pw_iload (z := 0) (pc := 45) dX8_addBytesOf_45 rfl ?_
              refine pw_if_eq (t := 82) (pc := 47) dX8_addBytesOf_47 (by decide) (by first | omega) (fun _ => ?_) (fun c47 => absurd c47 (by decide))
              refine pw_less (lv1 := [some (rr_ G 1), some (ll_ v), none, some (ii_ k), none, none]) rfl (by intro i v; (match i with | 0 => simp | 1 => simp | 2 => simp | 3 => simp | 4 => simp | 5 => simp | n + 6 => simp)) ?_
              exact J82 _ (by first | exact af | (rw [e79, e71]; exact off_up (off_up af (by decide)) (by decide))) (by first | exact ao | exact fun q q1 => by rw [e79, up_at, if_neg q1, e71, up_off (by decide)]; exact ao q q1) (by
                      rw [ls]; unfold ly1_
                      first
                      | (rw [if_f (by unfold gsn_; show ¬ (_ ∧ hq 1 2 < 1000); omega)]; done)
                      | (rw [if_t (by unfold gsn_; show _ ∧ hq 1 2 < 1000; omega), e79, up_off (by decide), up_same, e71, up_ob]; done)) (by first | exact at1 | (rw [e79, up_same]; omega))
            · refine pw_iconst (pc := 38) dX8_addBytesOf_38 ?_
              refine pw_goto (t := 43) (pc := 39) dX8_addBytesOf_39 (by decide) ?_
              refine pw_istore (lv1 := [some (rr_ G 1), some (ll_ v), none, some (ii_ k), some (ii_ c), some (ii_ 1)]) (pc := 43) dX8_addBytesOf_43 (by decide) rfl rfl ?_
              refine pw_iload (z := 1) (pc := 45) dX8_addBytesOf_45 rfl ?_
              refine pw_if_eq (t := 82) (pc := 47) dX8_addBytesOf_47 (by decide) (by first | omega) (fun c47 => absurd c47 (by decide)) (fun _ => ?_)
              refine pw_aload_n (z := 1) (pc := 50) dX8_addBytesOf_50 rfl rfl ?_
              refine pw_gI (x := 2) (pc := 51) dX8_addBytesOf_51 fX8_15 (hC 1 (by decide)) (show kd_ 1 = 18 by decide +kernel) rfl rfl (fun r51 => ?_)
              refine pw_sipush (pc := 54) dX8_addBytesOf_54 rfl ?_
              refine pw_icmp_ge (t := 82) (pc := 57) dX8_addBytesOf_57 (by decide) (by first | omega) (by first | omega) (fun c57 => ?_) (fun c57 => ?_)
              · refine pw_less (lv1 := [some (rr_ G 1), some (ll_ v), none, some (ii_ k), none, none]) rfl (by intro i v; (match i with | 0 => simp | 1 => simp | 2 => simp | 3 => simp | 4 => simp | 5 => simp | n + 6 => simp)) ?_
                exact J82 _ (by first | exact af | (rw [e79, e71]; exact off_up (off_up af (by decide)) (by decide))) (by first | exact ao | exact fun q q1 => by rw [e79, up_at, if_neg q1, e71, up_off (by decide)]; exact ao q q1) (by
                        rw [ls]; unfold ly1_
                        first
                        | (rw [if_f (by unfold gsn_; show ¬ (_ ∧ hq 1 2 < 1000); omega)]; done)
                        | (rw [if_t (by unfold gsn_; show _ ∧ hq 1 2 < 1000; omega), e79, up_off (by decide), up_same, e71, up_ob]; done)) (by first | exact at1 | (rw [e79, up_same]; omega))
              · refine pw_aload_n (z := 1) (pc := 60) dX8_addBytesOf_60 rfl rfl ?_
                refine pw_getR (r := 2) (pc := 61) dX8_addBytesOf_61 fX8_9 (hC 1 (by decide)) (show kd_ 1 = 18 by decide +kernel) rfl (by decide +kernel) ?_
                refine pw_aload_n (z := 1) (pc := 64) dX8_addBytesOf_64 rfl rfl ?_
                refine pw_gI (x := 2) (pc := 65) dX8_addBytesOf_65 fX8_15 (hC 1 (by decide)) (show kd_ 1 = 18 by decide +kernel) rfl rfl (fun r65 => ?_)
                refine pw_iload (z := c) (pc := 68) dX8_addBytesOf_68 rfl ?_
                refine pw_i2c (pc := 70) dX8_addBytesOf_70 (by first | omega) ?_
                refine pw_cast (pc := 71) dX8_addBytesOf_71 (hC 2 (by decide)) (show kd_ 2 = 3 by decide +kernel) 1000 (by decide +kernel) (by first | omega) (by first | omega) (by first | omega) (by first | omega) ?_
                obtain ⟨g71, e71⟩ : ∃ x, x = up_ hq 2 (hq 1 2) c := ⟨_, rfl⟩
                refine pw_heq e71 ?_
                refine pw_aload_n (z := 1) (pc := 72) dX8_addBytesOf_72 rfl rfl ?_
                refine pw_dup (pc := 73) dX8_addBytesOf_73 rfl ?_
                refine pw_gI (x := 2) (pc := 74) dX8_addBytesOf_74 fX8_15 (hC 1 (by decide)) (show kd_ 1 = 18 by decide +kernel) rfl rfl (fun r74 => ?_)
                have n_g71_1_2 : g71 1 2 = hq 1 2 := (by rw [e71, up_off (by first | decide | omega)])
                rw [n_g71_1_2] at r74 ⊢
                refine pw_iconst (pc := 77) dX8_addBytesOf_77 ?_
                refine pw_iadd (pc := 78) dX8_addBytesOf_78 ?_
                refine pw_pI (x := 2) (pc := 79) dX8_addBytesOf_79 fX8_15 (hC 1 (by decide)) (show kd_ 1 = 18 by decide +kernel) rfl rfl (by first | omega | (simp only [n_g71_1_2]; omega)) ?_
                obtain ⟨g79, e79⟩ : ∃ x, x = up_ g71 1 2 ((hq 1 2) + 1) := ⟨_, rfl⟩
                refine pw_heq e79 ?_
                refine pw_less (lv1 := [some (rr_ G 1), some (ll_ v), none, some (ii_ k), none, none]) rfl (by intro i v; (match i with | 0 => simp | 1 => simp | 2 => simp | 3 => simp | 4 => simp | 5 => simp | n + 6 => simp)) ?_
                exact J82 _ (by first | exact af | (rw [e79, e71]; exact off_up (off_up af (by decide)) (by decide))) (by first | exact ao | exact fun q q1 => by rw [e79, up_at, if_neg q1, e71, up_off (by decide)]; exact ao q q1) (by
                        rw [ls]; unfold ly1_
                        first
                        | (rw [if_f (by unfold gsn_; show ¬ (_ ∧ hq 1 2 < 1000); omega)]; done)
                        | (rw [if_t (by unfold gsn_; show _ ∧ hq 1 2 < 1000; omega), e79, up_off (by decide), up_same, e71, up_ob]; done)) (by first | exact at1 | (rw [e79, up_same]; omega))
  exact L3 _ _ 0 _ (by omega) (off_rf) (fun _ _ => rfl) (rfl) (ht.1) (Int.self_le_toNat _)

