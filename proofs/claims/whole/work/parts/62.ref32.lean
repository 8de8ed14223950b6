/-! ===== cutting all ===== -/
def tr_ (h : PH_) (i : Int) (t : TK_) : Prop := h mSort i = t.1 ∧ h mPlace i = t.2.1 ∧ (t.1 = 2 ∨ t.1 = 3 → h mValue i = t.2.2.1) ∧ (t.1 = 1 → h mValue i = enc_ 37 t.2.2.2)
def RT_ (tk : Nat → TK_) (N : Nat) (h : PH_) : Prop := (∀ i : Nat, i ≤ N → tr_ h i (tk i)) ∧ (∀ i : Nat, i < N → (tk i).1 ≠ 0) ∧ (tk N).1 = 0 ∧ N ≤ 1000 ∧ (∀ i : Nat, i ≤ N → 0 ≤ (tk i).2.1 ∧ (tk i).2.1 ≤ 1000)
theorem nus_b {tp : Int → Int} {k : Int} : ∀ (f : Nat), (∀ x, k ≤ x → x < k + f → dig_ (tp x)) → 0 ≤ nus_ tp f k 0 ∧ nus_ tp f k 0 < 10 ^ f
  | 0, _ => by unfold nus_; decide
  | f + 1, h => by
    have h1 := nus_b (tp := tp) (k := k) f (fun x x0 x1 => h x x0 (by omega))
    have h2 := h (k + f) (by omega) (by omega)
    unfold dig_ at h2
    rw [nus_s, Int.pow_succ]; omega
theorem p37 {n : Nat} (h : n ≤ 8) : (37 : Int) ^ n ≤ 3512479453921 := by
  have h9 : n = 0 ∨ n = 1 ∨ n = 2 ∨ n = 3 ∨ n = 4 ∨ n = 5 ∨ n = 6 ∨ n = 7 ∨ n = 8 := by omega
  rcases h9 with rfl | rfl | rfl | rfl | rfl | rfl | rfl | rfl | rfl <;> decide
theorem p10 {n : Nat} (h : n ≤ 4) : (10 : Int) ^ n ≤ 10000 := by
  have h9 : n = 0 ∨ n = 1 ∨ n = 2 ∨ n = 3 ∨ n = 4 := by omega
  rcases h9 with rfl | rfl | rfl | rfl | rfl <;> decide
theorem tso_0 {tp : Int → Int} {n p : Int} (h : n ≤ p) : tso_ tp n p = 0 := if_t h
theorem tso_n {tp : Int → Int} {n p : Int} (h : ¬ n ≤ p) : tso_ tp n p ≠ 0 ∧ 1 ≤ tso_ tp n p ∧ tso_ tp n p ≤ 4 := by
  unfold tso_
  rw [if_f h]
  by_cases c1 : let_ (tp p)
  · rw [if_t c1]; split <;> omega
  · rw [if_f c1]
    by_cases c2 : dig_ (tp p)
    · rw [if_t c2]; split <;> omega
    · rw [if_f c2]
      by_cases c3 : sof_ (tp p)
      · rw [if_t c3]; omega
      · rw [if_f c3]; omega

set_option maxHeartbeats 4000000 in
set_option maxRecDepth 100000 in
theorem c_cutAll {G : GT_} (hM : okM_ G) (h : PH_) (ht : tpo_ (h mTape, h mo_ 2)) : PC G yX12_cutAll cX12_cutAll 7 none 3 [rr_ G mo_] h (qv_ (fun h' => off_ [mSort, mPlace, mValue, mo_] h h' ∧ (∀ k, k ≠ 2 → k ≠ 3 → k ≠ 7 → k ≠ 8 → h' mo_ k = h mo_ k) ∧ h' mo_ 2 = 0 ∧ h' mo_ 7 = 0 ∧ h' mo_ 8 = 0 ∧ ∃ N : Nat, RT_ (tk_ (h mTape) (h mo_ 2)) N h')) := by
  obtain ⟨htb, htg⟩ := ht
  have htb : 0 ≤ h mo_ 2 ∧ h mo_ 2 ≤ 1000 := htb
  have htg : ∀ x, 0 ≤ x → x < h mo_ 2 → gsn_ (h mTape x) := htg
  refine PC.of (lv := [some (rr_ G mo_), none, none, none, none, none, none]) (by decide +kernel) (Nat.le_of_ble_eq_true rfl) rfl rfl ?_
  refine pw_aload_n (z := mo_) (pc := 0) dX12_cutAll_0 rfl rfl ?_
  refine pw_aload_n (z := mo_) (pc := 1) dX12_cutAll_1 rfl rfl ?_
  refine pw_gI (x := 2) (pc := 2) dX12_cutAll_2 fX12_11 (im_mo_ hM) k_mo_ rfl rfl (fun r2 => ?_)
  refine pw_pI (x := 3) (pc := 5) dX12_cutAll_5 fX12_196 (im_mo_ hM) k_mo_ rfl rfl (by first | omega) ?_
  obtain ⟨g5, e5⟩ : ∃ x, x = up_ h mo_ 3 (h mo_ 2) := ⟨_, rfl⟩
  refine pw_heq e5 ?_
  refine pw_aload_n (z := mo_) (pc := 8) dX12_cutAll_8 rfl rfl ?_
  refine pw_iconst (pc := 9) dX12_cutAll_9 ?_
  refine pw_pI (x := 2) (pc := 10) dX12_cutAll_10 fX12_11 (im_mo_ hM) k_mo_ rfl rfl (by first | omega) ?_
  obtain ⟨g10, e10⟩ : ∃ x, x = up_ g5 mo_ 2 0 := ⟨_, rfl⟩
  refine pw_heq e10 ?_
  have g3 : g10 mo_ 3 = h mo_ 2 := by rw [e10, up_at, if_neg (by decide), e5, up_same]
  have gm : g10 mo_ = ob_ (ob_ (h mo_) 3 (h mo_ 2)) 2 0 := by rw [e10, up_ob, e5, up_ob]
  have gt : g10 mTape = h mTape := by rw [e10, up_off (by decide), e5, up_off (by decide)]
  refine pw_iconst (pc := 13) dX12_cutAll_13 ?_
  refine pw_istore_n (lv1 := [some (rr_ G mo_), some (ii_ 0), none, none, none, none, none]) (pc := 14) dX12_cutAll_14 rfl (by decide) rfl rfl ?_
  refine pw_iconst (pc := 15) dX12_cutAll_15 ?_
  refine pw_istore_n (lv1 := [some (rr_ G mo_), some (ii_ 0), some (ii_ 0), none, none, none, none]) (pc := 16) dX12_cutAll_16 rfl (by decide) rfl rfl ?_
  have L17 : ∀ (nn : Nat) (c : Nat) (k : Int) (hq : PH_), (0 ≤ k ∧ k ≤ h mo_ 2 ∧ (c : Int) ≤ k) → (off_ [mSort, mPlace, mValue] g10 hq) → (tpl_ (h mTape) (h mo_ 2) k = tpl_ (h mTape) (h mo_ 2) (tkp_ (h mTape) (h mo_ 2) c)) → (∀ i : Nat, i < c → tr_ hq i (tk_ (h mTape) (h mo_ 2) i) ∧ (tk_ (h mTape) (h mo_ 2) i).1 ≠ 0 ∧ 0 ≤ (tk_ (h mTape) (h mo_ 2) i).2.1 ∧ (tk_ (h mTape) (h mo_ 2) i).2.1 ≤ 1000) → ((h mo_ 2 - k + 1 : Int) ≤ nn) → PW G RX12 cX12_cutAll 7 none (rm_ 3) 0 0 (zm_ G (qv_ (fun h' => off_ [mSort, mPlace, mValue, mo_] h h' ∧ (∀ k, k ≠ 2 → k ≠ 3 → k ≠ 7 → k ≠ 8 → h' mo_ k = h mo_ k) ∧ h' mo_ 2 = 0 ∧ h' mo_ 7 = 0 ∧ h' mo_ 8 = 0 ∧ ∃ N : Nat, RT_ (tk_ (h mTape) (h mo_ 2)) N h'))) 17 [some (rr_ G mo_), some (ii_ (c : Int)), some (ii_ k), none, none, none, none] [] hq := by
    intro nn
    induction nn with
    | zero => intro c k hq ak af akp ar ams; exfalso; omega
    | succ nn ih17 =>
      intro c k hq ak af akp ar ams
      refine pw_iload_n (z := k) (pc := 17) dX12_cutAll_17 rfl rfl ?_
      refine pw_aload_n (z := mo_) (pc := 18) dX12_cutAll_18 rfl rfl ?_
      refine pw_gI (x := 3) (pc := 19) dX12_cutAll_19 fX12_196 (im_mo_ hM) k_mo_ rfl rfl (fun r19 => ?_)
      have n_hq_mo__3 : hq mo_ 3 = g5 mo_ 3 := ((show hq mo_ 3 = g10 mo_ 3 from (congrFun (af mo_ (by decide)) 3)).trans (show g10 mo_ 3 = g5 mo_ 3 from (by rw [e10, up_at]; exact if_neg (by decide))))
      rw [n_hq_mo__3] at r19 ⊢
      rw [show g5 mo_ 3 = (h mo_ 2) from by rw [e5, up_same]] at r19 ⊢
      refine pw_icmp_ge (t := 279) (pc := 22) dX12_cutAll_22 (by decide) (by first | omega | (simp only [n_hq_mo__3]; omega)) (by first | omega | (simp only [n_hq_mo__3]; omega)) (fun c22 => ?_) (fun c22 => ?_)
      · have kn : k = h mo_ 2 := by omega
        refine pw_aload_n (z := mo_) (pc := 279) dX12_cutAll_279 rfl rfl ?_
        refine pw_getR (r := mSort) (pc := 280) dX12_cutAll_280 fX12_24 (im_mo_ hM) k_mo_ rfl fr_mSort ?_
        refine pw_iload_n (z := (c : Int)) (pc := 283) dX12_cutAll_283 rfl rfl ?_
        refine pw_iconst (pc := 284) dX12_cutAll_284 ?_
        refine pw_iast (pc := 285) dX12_cutAll_285 (im_mSort hM) k_mSort 1002 l_mSort (by first | omega | (simp only [n_hq_mo__3]; omega)) (by first | omega | (simp only [n_hq_mo__3]; omega)) (by first | omega | (simp only [n_hq_mo__3]; omega)) (by first | omega | (simp only [n_hq_mo__3]; omega)) ?_
        obtain ⟨g285, e285⟩ : ∃ x, x = up_ hq mSort (c : Int) 0 := ⟨_, rfl⟩
        refine pw_heq e285 ?_
        refine pw_aload_n (z := mo_) (pc := 286) dX12_cutAll_286 rfl rfl ?_
        refine pw_getR (r := mPlace) (pc := 287) dX12_cutAll_287 fX12_27 (im_mo_ hM) k_mo_ rfl fr_mPlace ?_
        refine pw_iload_n (z := (c : Int)) (pc := 290) dX12_cutAll_290 rfl rfl ?_
        refine pw_aload_n (z := mo_) (pc := 291) dX12_cutAll_291 rfl rfl ?_
        refine pw_gI (x := 3) (pc := 292) dX12_cutAll_292 fX12_196 (im_mo_ hM) k_mo_ rfl rfl (fun r292 => ?_)
        have n_g285_mo__3 : g285 mo_ 3 = g5 mo_ 3 := (((show g285 mo_ 3 = hq mo_ 3 from (by rw [e285, up_off (by decide)])).trans (show hq mo_ 3 = g10 mo_ 3 from (congrFun (af mo_ (by decide)) 3))).trans (show g10 mo_ 3 = g5 mo_ 3 from (by rw [e10, up_at]; exact if_neg (by decide))))
        rw [n_g285_mo__3] at r292 ⊢
        rw [show g5 mo_ 3 = (h mo_ 2) from by rw [e5, up_same]] at r292 ⊢
        refine pw_iast (pc := 295) dX12_cutAll_295 (im_mPlace hM) k_mPlace 1002 l_mPlace (by first | omega | (simp only [n_g285_mo__3, n_hq_mo__3]; omega)) (by first | omega | (simp only [n_g285_mo__3, n_hq_mo__3]; omega)) (by first | omega | (simp only [n_g285_mo__3, n_hq_mo__3]; omega)) (by first | omega | (simp only [n_g285_mo__3, n_hq_mo__3]; omega)) ?_
        obtain ⟨g295, e295⟩ : ∃ x, x = up_ g285 mPlace (c : Int) (h mo_ 2) := ⟨_, rfl⟩
        refine pw_heq e295 ?_
        refine pw_aload_n (z := mo_) (pc := 296) dX12_cutAll_296 rfl rfl ?_
        refine pw_iconst (pc := 297) dX12_cutAll_297 ?_
        refine pw_pI (x := 7) (pc := 298) dX12_cutAll_298 fX12_215 (im_mo_ hM) k_mo_ rfl rfl (by first | omega | (simp only [n_g285_mo__3, n_hq_mo__3]; omega)) ?_
        obtain ⟨g298, e298⟩ : ∃ x, x = up_ g295 mo_ 7 0 := ⟨_, rfl⟩
        refine pw_heq e298 ?_
        refine pw_aload_n (z := mo_) (pc := 301) dX12_cutAll_301 rfl rfl ?_
        refine pw_iconst (pc := 302) dX12_cutAll_302 ?_
        refine pw_pI (x := 8) (pc := 303) dX12_cutAll_303 fX12_218 (im_mo_ hM) k_mo_ rfl rfl (by first | omega | (simp only [n_g285_mo__3, n_hq_mo__3]; omega)) ?_
        obtain ⟨g303, e303⟩ : ∃ x, x = up_ g298 mo_ 8 0 := ⟨_, rfl⟩
        refine pw_heq e303 ?_
        exact pw_vret (pc := 306) dX12_cutAll_306 (by
                  have hm : g303 mo_ = ob_ (ob_ (g10 mo_) 7 0) 8 0 := by rw [e303, up_ob, e298, up_ob, e295, up_off (by decide), e285, up_off (by decide), af mo_ (by decide)]
                  have kp : tpl_ (h mTape) (h mo_ 2) (tkp_ (h mTape) (h mo_ 2) c) = h mo_ 2 := by rw [← akp, kn]; exact rnx_f (fun u => by have := u.1; omega)
                  have et : tk_ (h mTape) (h mo_ 2) c = tok1_ (h mTape) (h mo_ 2) (h mo_ 2) := by unfold tk_; rw [kp]
                  have s0 : (tk_ (h mTape) (h mo_ 2) c).1 = 0 := by rw [et]; exact tso_0 (by omega)
                  have pl0 : (tk_ (h mTape) (h mo_ 2) c).2.1 = h mo_ 2 := by rw [et]; rfl
                  refine ⟨?_, fun q q2 q3 q7 q8 => ?_, ?_, ?_, ?_, c, fun i hi => ?_, fun i hi => (ar i hi).2.1, s0, by omega, fun i hi => ?_⟩
                  · rw [e303, e298, e295, e285]
                    exact off_up (off_up (off_up (off_up (off_tr (by rw [e10, e5]; exact off_up (off_up off_rf (by decide)) (by decide)) (off_mo af (by decide))) (by decide)) (by decide)) (by decide)) (by decide)
                  · rw [hm, gm]; unfold ob_; rw [if_neg q8, if_neg q7, if_neg q2, if_neg q3]
                  · rw [hm, gm]; rfl
                  · rw [hm]; rfl
                  · rw [hm]; rfl
                  · by_cases ci : i = c
                    · subst ci
                      refine ⟨?_, ?_, fun u => by rw [s0] at u; omega, fun u => by rw [s0] at u; omega⟩
                      · rw [s0, e303, up_off (by decide), e298, up_off (by decide), e295, up_off (by decide), e285, up_same]
                      · rw [pl0, e303, up_off (by decide), e298, up_off (by decide), e295, up_same]
                    · have e := (ar i (by omega)).1
                      unfold tr_
                      rw [e303, up_off (by decide), up_off (by decide), up_off (by decide), e298, up_off (by decide), up_off (by decide), up_off (by decide), e295, up_off (by decide), up_at, if_neg (by omega), up_off (by decide), e285, up_at, if_neg (by omega), up_off (by decide), up_off (by decide)]
                      exact e
                  · by_cases ci : i = c
                    · subst ci; rw [pl0]; exact htb
                    · exact (ar i (by omega)).2.2)
      · have ck := htg k (by omega) (by omega)
        have cc : 0 ≤ h mTape k ∧ h mTape k ≤ 126 := by unfold gsn_ at ck; omega
        refine pw_aload_n (z := mo_) (pc := 25) dX12_cutAll_25 rfl rfl ?_
        refine pw_getR (r := mTape) (pc := 26) dX12_cutAll_26 fX12_14 (im_mo_ hM) k_mo_ rfl fr_mTape ?_
        refine pw_iload_n (z := k) (pc := 29) dX12_cutAll_29 rfl rfl ?_
        refine pw_iald (pc := 30) dX12_cutAll_30 (im_mTape hM) k_mTape 1000 l_mTape (by first | omega | (simp only [n_hq_mo__3]; omega)) (by first | omega | (simp only [n_hq_mo__3]; omega)) (by first | omega | (simp only [n_hq_mo__3]; omega)) (fun r30 => ?_)
        have n_hq_mTape : hq mTape = h mTape := (((show hq mTape = g10 mTape from (af mTape (by decide))).trans (show g10 mTape = g5 mTape from (by rw [e10]; exact up_off (by decide)))).trans (show g5 mTape = h mTape from (by rw [e5]; exact up_off (by decide))))
        rw [n_hq_mTape] at r30 ⊢
        refine pw_istore_n (lv1 := [some (rr_ G mo_), some (ii_ (c : Int)), some (ii_ k), some (ii_ (h mTape k)), none, none, none]) (pc := 31) dX12_cutAll_31 rfl (by decide) rfl rfl ?_
        refine pw_iload_n (z := h mTape k) (pc := 32) dX12_cutAll_32 rfl rfl ?_
        refine pw_bipush (pc := 33) dX12_cutAll_33 rfl ?_
        refine pw_icmp_eq (t := 44) (pc := 35) dX12_cutAll_35 (by decide) (by first | omega | (simp only [n_hq_mTape, n_hq_mo__3]; omega)) (by first | omega | (simp only [n_hq_mTape, n_hq_mo__3]; omega)) (fun c35 => ?_) (fun c35 => ?_)
        · have bl : tpl_ (h mTape) (h mo_ 2) k = tpl_ (h mTape) (h mo_ 2) (k + 1) := rnx_t (Q := bla_) (by omega) (by unfold bla_; omega)
          refine pw_iinc (z := k) (lv1 := [some (rr_ G mo_), some (ii_ (c : Int)), some (ii_ (k + 1)), some (ii_ (h mTape k)), none, none, none]) (pc := 44) dX12_cutAll_44 rfl (by decide) rfl rfl ?_
          refine pw_goto (t := 17) (pc := 47) dX12_cutAll_47 (by decide) ?_
          refine pw_less (lv1 := [some (rr_ G mo_), some (ii_ (c : Int)), some (ii_ (k + 1)), none, none, none, none]) rfl (by intro i v; (match i with | 0 => simp | 1 => simp | 2 => simp | 3 => simp | 4 => simp | 5 => simp | 6 => simp | n + 7 => simp)) ?_
          exact ih17 c _ _ (by omega) (by first | exact af | (rw [e272]; exact off_up jf (by decide))) (by first | (rw [← bl]; exact akp) | (show _ = tpl_ (h mTape) (h mo_ 2) (ten_ (h mTape) (h mo_ 2) (tpl_ (h mTape) (h mo_ 2) (tkp_ (h mTape) (h mo_ 2) c))); rw [pk, je])) (by first
                    | exact ar
                    | exact fun i hi => by
                        by_cases ci : i = c
                        · subst ci
                          have et : tk_ (h mTape) (h mo_ 2) i = tok1_ (h mTape) (h mo_ 2) k := by unfold tk_; rw [pk]
                          rw [et]
                          refine ⟨⟨by rw [e272, up_off (by decide)]; exact js, by rw [e272, up_off (by decide)]; exact jp, fun u => by rw [e272, up_same]; exact jv.1 u, fun u => by rw [e272, up_same]; exact jv.2.1 u⟩, (tso_n (by omega)).1, ak.1, by show k ≤ 1000; omega⟩
                        · have e := ar i (by omega)
                          refine ⟨?_, e.2⟩
                          unfold tr_
                          rw [e272, up_off (by decide), up_off (by decide), up_at, if_neg (by omega), jo2.1 i (by omega), jo2.2.1 i (by omega), jo2.2.2]
                          exact e.1) (by omega)
        · refine pw_iload_n (z := h mTape k) (pc := 38) dX12_cutAll_38 rfl rfl ?_
          refine pw_bipush (pc := 39) dX12_cutAll_39 rfl ?_
          refine pw_icmp_ne (t := 50) (pc := 41) dX12_cutAll_41 (by decide) (by first | omega | (simp only [n_hq_mTape, n_hq_mo__3]; omega)) (by first | omega | (simp only [n_hq_mTape, n_hq_mo__3]; omega)) (fun c41 => ?_) (fun c41 => ?_)
          · have nb : tpl_ (h mTape) (h mo_ 2) k = k := rnx_f (fun u => by have := u.2; unfold bla_ at this; omega)
            have pk : tpl_ (h mTape) (h mo_ 2) (tkp_ (h mTape) (h mo_ 2) c) = k := by rw [← akp]; exact nb
            refine pw_iload_n (z := k) (pc := 50) dX12_cutAll_50 rfl rfl ?_
            refine pw_istore (lv1 := [some (rr_ G mo_), some (ii_ (c : Int)), some (ii_ k), some (ii_ (h mTape k)), some (ii_ k), none, none]) (pc := 51) dX12_cutAll_51 (by decide) rfl rfl ?_
            refine pw_lconst (z := 0) (pc := 53) dX12_cutAll_53 rfl ?_
            refine pw_lstore (lv1 := [some (rr_ G mo_), some (ii_ (c : Int)), some (ii_ k), some (ii_ (h mTape k)), some (ii_ k), some (ll_ 0), none]) (pc := 54) dX12_cutAll_54 (by decide) rfl rfl ?_
            refine pw_aload_n (z := mo_) (pc := 56) dX12_cutAll_56 rfl rfl ?_
            refine pw_getR (r := mPlace) (pc := 57) dX12_cutAll_57 fX12_27 (im_mo_ hM) k_mo_ rfl fr_mPlace ?_
            refine pw_iload_n (z := (c : Int)) (pc := 60) dX12_cutAll_60 rfl rfl ?_
            refine pw_iload_n (z := k) (pc := 61) dX12_cutAll_61 rfl rfl ?_
            refine pw_iast (pc := 62) dX12_cutAll_62 (im_mPlace hM) k_mPlace 1002 l_mPlace (by first | omega | (simp only [n_hq_mTape, n_hq_mo__3]; omega)) (by first | omega | (simp only [n_hq_mTape, n_hq_mo__3]; omega)) (by first | omega | (simp only [n_hq_mTape, n_hq_mo__3]; omega)) (by first | omega | (simp only [n_hq_mTape, n_hq_mo__3]; omega)) ?_
            obtain ⟨g62, e62⟩ : ∃ x, x = up_ hq mPlace (c : Int) k := ⟨_, rfl⟩
            refine pw_heq e62 ?_
            have J265 : ∀ (k3 : Int) (v3 : Int) (h2 : PH_), (k3 = ten_ (h mTape) (h mo_ 2) k) → (off_ [mSort, mPlace, mValue] g10 h2) → (h2 mSort (c : Int) = tso_ (h mTape) (h mo_ 2) k) → (h2 mPlace (c : Int) = k) → ((tso_ (h mTape) (h mo_ 2) k = 2 ∨ tso_ (h mTape) (h mo_ 2) k = 3 → v3 = tnu_ (h mTape) (h mo_ 2) k) ∧ (tso_ (h mTape) (h mo_ 2) k = 1 → v3 = enc_ 37 (twl_ (h mTape) (h mo_ 2) k)) ∧ lr_ v3) → ((∀ i : Int, i < (c : Int) → h2 mSort i = hq mSort i) ∧ (∀ i : Int, i < (c : Int) → h2 mPlace i = hq mPlace i) ∧ h2 mValue = hq mValue) → PW G RX12 cX12_cutAll 7 none (rm_ 3) 0 0 (zm_ G (qv_ (fun h' => off_ [mSort, mPlace, mValue, mo_] h h' ∧ (∀ k, k ≠ 2 → k ≠ 3 → k ≠ 7 → k ≠ 8 → h' mo_ k = h mo_ k) ∧ h' mo_ 2 = 0 ∧ h' mo_ 7 = 0 ∧ h' mo_ 8 = 0 ∧ ∃ N : Nat, RT_ (tk_ (h mTape) (h mo_ 2)) N h'))) 265 [some (rr_ G mo_), some (ii_ (c : Int)), some (ii_ k3), none, none, some (ll_ v3), none] [] h2 := by
              intro k3 v3 h2 je jf js jp jv jo2
              have tb := ten_b (tp := h mTape) (n := h mo_ 2) (p := k) (by omega)
              refine pw_aload_n (z := mo_) (pc := 265) dX12_cutAll_265 rfl rfl ?_
              refine pw_getR (r := mValue) (pc := 266) dX12_cutAll_266 fX12_30 (im_mo_ hM) k_mo_ rfl fr_mValue ?_
              refine pw_iload_n (z := (c : Int)) (pc := 269) dX12_cutAll_269 rfl rfl ?_
              refine pw_lload (z := v3) (pc := 270) dX12_cutAll_270 rfl ?_
              refine pw_last (pc := 272) dX12_cutAll_272 (im_mValue hM) k_mValue 1002 l_mValue (by first | omega | (simp only [n_hq_mTape, n_hq_mo__3]; omega)) (by first | omega | (simp only [n_hq_mTape, n_hq_mo__3]; omega)) (by first | omega | (simp only [n_hq_mTape, n_hq_mo__3]; omega)) (by first | omega | (simp only [n_hq_mTape, n_hq_mo__3]; omega)) ?_
              obtain ⟨g272, e272⟩ : ∃ x, x = up_ h2 mValue (c : Int) v3 := ⟨_, rfl⟩
              refine pw_heq e272 ?_
              refine pw_iinc (z := (c : Int)) (lv1 := [some (rr_ G mo_), some (ii_ ((c : Int) + 1)), some (ii_ k3), none, none, some (ll_ v3), none]) (pc := 273) dX12_cutAll_273 rfl (by decide) rfl rfl ?_
              refine pw_goto (t := 17) (pc := 276) dX12_cutAll_276 (by decide) ?_
              refine pw_less (lv1 := [some (rr_ G mo_), some (ii_ ((c : Int) + 1)), some (ii_ k3), none, none, none, none]) rfl (by intro i v; (match i with | 0 => simp | 1 => simp | 2 => simp | 3 => simp | 4 => simp | 5 => simp | 6 => simp | n + 7 => simp)) ?_
              exact ih17 (c + 1) _ _ (by omega) (by first | exact af | (rw [e272]; exact off_up jf (by decide))) (by first | (rw [← bl]; exact akp) | (show _ = tpl_ (h mTape) (h mo_ 2) (ten_ (h mTape) (h mo_ 2) (tpl_ (h mTape) (h mo_ 2) (tkp_ (h mTape) (h mo_ 2) c))); rw [pk, je])) (by first
                        | exact ar
                        | exact fun i hi => by
                            by_cases ci : i = c
                            · subst ci
                              have et : tk_ (h mTape) (h mo_ 2) i = tok1_ (h mTape) (h mo_ 2) k := by unfold tk_; rw [pk]
                              rw [et]
                              refine ⟨⟨by rw [e272, up_off (by decide)]; exact js, by rw [e272, up_off (by decide)]; exact jp, fun u => by rw [e272, up_same]; exact jv.1 u, fun u => by rw [e272, up_same]; exact jv.2.1 u⟩, (tso_n (by omega)).1, ak.1, by show k ≤ 1000; omega⟩
                            · have e := ar i (by omega)
                              refine ⟨?_, e.2⟩
                              unfold tr_
                              rw [e272, up_off (by decide), up_off (by decide), up_at, if_neg (by omega), jo2.1 i (by omega), jo2.2.1 i (by omega), jo2.2.2]
                              exact e.1) (by omega)
            refine pw_iload_n (z := h mTape k) (pc := 63) dX12_cutAll_63 rfl rfl ?_
            refine pw_callS (As := [ii_ (h mTape k)]) (rest := []) (pc := 64) dX12_cutAll_64 (c_isLetter g62 (h mTape k) (by first | omega | (simp only [n_hq_mTape, n_hq_mo__3]; omega))) lX12_192 mX12_isLetter sX12_isLetter rfl rfl (by decide) ⟨Nat.zero_le _, Nat.zero_le _⟩ (Nat.le_of_ble_eq_true rfl) (k_i (fun z64 h64 y64 q64 => ?_))
            obtain ⟨rfl, ⟨rfl, p64⟩ | ⟨rfl, p64⟩⟩ := q64
            · refine pw_if_eq (t := 152) (pc := 67) dX12_cutAll_67 (by decide) (by first | omega | (simp only [n_hq_mTape, n_hq_mo__3]; omega)) (fun c67 => absurd c67 (by decide)) (fun _ => ?_)
              have L70 : ∀ (nn : Nat) (k2 : Int) (v : Int), (k ≤ k2 ∧ k2 ≤ h mo_ 2) → (rnx_ let_ (h mTape) (h mo_ 2) k2 = rnx_ let_ (h mTape) (h mo_ 2) k) → (∀ x, k ≤ x → x < k2 → let_ (h mTape x)) → ((k2 - k ≤ 8 → v = enc_ 37 (wls_ (h mTape) (k2 - k).toNat k)) ∧ 0 ≤ v ∧ v ≤ 3512479453921) → ((h mo_ 2 - k2 + 1 : Int) ≤ nn) → PW G RX12 cX12_cutAll 7 none (rm_ 3) 0 0 (zm_ G (qv_ (fun h' => off_ [mSort, mPlace, mValue, mo_] h h' ∧ (∀ k, k ≠ 2 → k ≠ 3 → k ≠ 7 → k ≠ 8 → h' mo_ k = h mo_ k) ∧ h' mo_ 2 = 0 ∧ h' mo_ 7 = 0 ∧ h' mo_ 8 = 0 ∧ ∃ N : Nat, RT_ (tk_ (h mTape) (h mo_ 2)) N h'))) 70 [some (rr_ G mo_), some (ii_ (c : Int)), some (ii_ k2), some (ii_ (h mTape k)), some (ii_ k), some (ll_ v), none] [] g62 := by
                intro nn
                induction nn with
                | zero => intro k2 v wk wr wl wv ams; exfalso; omega
                | succ nn ih70 =>
                  intro k2 v wk wr wl wv ams
                  refine pw_iload_n (z := k2) (pc := 70) dX12_cutAll_70 rfl rfl ?_
                  refine pw_aload_n (z := mo_) (pc := 71) dX12_cutAll_71 rfl rfl ?_
                  refine pw_gI (x := 3) (pc := 72) dX12_cutAll_72 fX12_196 (im_mo_ hM) k_mo_ rfl rfl (fun r72 => ?_)
                  have n_g62_mo__3 : g62 mo_ 3 = g5 mo_ 3 := (((show g62 mo_ 3 = hq mo_ 3 from (by rw [e62, up_off (by decide)])).trans (show hq mo_ 3 = g10 mo_ 3 from (congrFun (af mo_ (by decide)) 3))).trans (show g10 mo_ 3 = g5 mo_ 3 from (by rw [e10, up_at]; exact if_neg (by decide))))
                  rw [n_g62_mo__3] at r72 ⊢
                  rw [show g5 mo_ 3 = (h mo_ 2) from by rw [e5, up_same]] at r72 ⊢
                  refine pw_icmp_ge (t := 129) (pc := 75) dX12_cutAll_75 (by decide) (by first | omega | (simp only [n_g62_mo__3, n_hq_mTape, n_hq_mo__3]; omega)) (by first | omega | (simp only [n_g62_mo__3, n_hq_mTape, n_hq_mo__3]; omega)) (fun c75 => ?_) (fun c75 => ?_)
                  · have te : ten_ (h mTape) (h mo_ 2) k = k2 := by
                      unfold ten_
                      rw [if_f (by omega), if_t p64, ← wr]
                      exact rnx_f (fun u => by first | omega | exact p84 u.2)
                    refine pw_aload_n (z := mo_) (pc := 129) dX12_cutAll_129 rfl rfl ?_
                    refine pw_getR (r := mSort) (pc := 130) dX12_cutAll_130 fX12_24 (im_mo_ hM) k_mo_ rfl fr_mSort ?_
                    refine pw_iload_n (z := (c : Int)) (pc := 133) dX12_cutAll_133 rfl rfl ?_
                    have J148 : ∀ (so : Int), (so = (if k2 - k ≤ 8 then 1 else 4)) → PW G RX12 cX12_cutAll 7 none (rm_ 3) 0 0 (zm_ G (qv_ (fun h' => off_ [mSort, mPlace, mValue, mo_] h h' ∧ (∀ k, k ≠ 2 → k ≠ 3 → k ≠ 7 → k ≠ 8 → h' mo_ k = h mo_ k) ∧ h' mo_ 2 = 0 ∧ h' mo_ 7 = 0 ∧ h' mo_ 8 = 0 ∧ ∃ N : Nat, RT_ (tk_ (h mTape) (h mo_ 2)) N h'))) 148 [some (rr_ G mo_), some (ii_ (c : Int)), some (ii_ k2), some (ii_ (h mTape k)), some (ii_ k), some (ll_ v), none] [ii_ so, ii_ (c : Int), rr_ G mSort] g62 := by
                      intro so hso
                      refine pw_iast (pc := 148) dX12_cutAll_148 (im_mSort hM) k_mSort 1002 l_mSort (by first | omega | (simp only [n_g62_mo__3, n_hq_mTape, n_hq_mo__3]; omega)) (by first | omega | (simp only [n_g62_mo__3, n_hq_mTape, n_hq_mo__3]; omega)) (by first | omega | (simp only [n_g62_mo__3, n_hq_mTape, n_hq_mo__3]; omega)) (by first | omega | (simp only [n_g62_mo__3, n_hq_mTape, n_hq_mo__3]; omega)) ?_
                      obtain ⟨g148, e148⟩ : ∃ x, x = up_ g62 mSort (c : Int) so := ⟨_, rfl⟩
                      refine pw_heq e148 ?_
                      refine pw_goto (t := 265) (pc := 149) dX12_cutAll_149 (by decide) ?_
                      refine pw_less (lv1 := [some (rr_ G mo_), some (ii_ (c : Int)), some (ii_ k2), none, none, some (ll_ v), none]) rfl (by intro i v; (match i with | 0 => simp | 1 => simp | 2 => simp | 3 => simp | 4 => simp | 5 => simp | 6 => simp | n + 7 => simp)) ?_
                      exact J265 _ _ _ (by rw [te]) (by first | (rw [e148, e62]; exact off_up (off_up af (by decide)) (by decide)) | (rw [e236, e62]; exact off_up (off_up af (by decide)) (by decide)) | (rw [e261, e62]; exact off_up (off_up af (by decide)) (by decide))) (by
                              unfold tso_
                              rw [if_f (by omega)]
                              first
                              | (rw [if_t p64, te, e148, up_same]; exact hso)
                              | (rw [if_f p64, if_t p153, te, e236, up_same]; exact hso)
                              | (rw [if_f p64, if_f p153, e261, up_same]; exact hso)) (by first | (rw [e148, up_off (by decide), e62, up_same]; done) | (rw [e236, up_off (by decide), e62, up_same]; done) | (rw [e261, up_off (by decide), e62, up_same]; done)) (by
                              unfold tso_ tnu_ twl_
                              rw [if_f (show ¬ h mo_ 2 ≤ k by omega)]
                              first
                              | (rw [if_t p64, te]
                                 refine ⟨fun u => ?_, fun u => ?_, by omega⟩
                                 · exfalso; split at u <;> omega
                                 · refine wv.1 ?_
                                   by_cases q : k2 - k ≤ 8
                                   · exact q
                                   · rw [if_neg q] at u; omega)
                              | (rw [if_f p64, if_t p153, if_t p153, te]
                                 refine ⟨fun u => ?_, fun u => ?_, by omega⟩
                                 · refine wv.1 ?_
                                   by_cases q : k2 - k ≤ 4
                                   · exact q
                                   · rw [if_neg q] at u; omega
                                 · exfalso; split at u <;> omega)
                              | (rw [if_f p64, if_f p153, if_f p153]
                                 refine ⟨fun _ => rfl, fun u => ?_, by omega⟩
                                 rw [← hso] at u; omega)) (by
                              first
                              | exact ⟨fun i hi => by rw [e148, up_at, if_neg (by omega), e62, up_off (by decide)], fun i hi => by rw [e148, up_off (by decide), e62, up_at, if_neg (by omega)], by rw [e148, up_off (by decide), e62, up_off (by decide)]⟩
                              | exact ⟨fun i hi => by rw [e236, up_at, if_neg (by omega), e62, up_off (by decide)], fun i hi => by rw [e236, up_off (by decide), e62, up_at, if_neg (by omega)], by rw [e236, up_off (by decide), e62, up_off (by decide)]⟩
                              | exact ⟨fun i hi => by rw [e261, up_at, if_neg (by omega), e62, up_off (by decide)], fun i hi => by rw [e261, up_off (by decide), e62, up_at, if_neg (by omega)], by rw [e261, up_off (by decide), e62, up_off (by decide)]⟩)
                    refine pw_iload_n (z := k2) (pc := 134) dX12_cutAll_134 rfl rfl ?_
                    refine pw_iload (z := k) (pc := 135) dX12_cutAll_135 rfl ?_
                    refine pw_isub (pc := 137) dX12_cutAll_137 ?_
                    refine pw_bipush (pc := 138) dX12_cutAll_138 rfl ?_
                    refine pw_icmp_le (t := 147) (pc := 140) dX12_cutAll_140 (by decide) (by first | omega | (simp only [n_g62_mo__3, n_hq_mTape, n_hq_mo__3]; omega)) (by first | omega | (simp only [n_g62_mo__3, n_hq_mTape, n_hq_mo__3]; omega)) (fun c140 => ?_) (fun c140 => ?_)
                    · refine pw_iconst (pc := 147) dX12_cutAll_147 ?_
                      exact J148 _ (by first | (rw [if_pos (by omega)]; done) | (rw [if_neg (by omega)]; done))
                    · refine pw_iconst (pc := 143) dX12_cutAll_143 ?_
                      refine pw_goto (t := 148) (pc := 144) dX12_cutAll_144 (by decide) ?_
                      exact J148 _ (by first | (rw [if_pos (by omega)]; done) | (rw [if_neg (by omega)]; done))
                  · have ck2 := htg k2 (by omega) (by omega)
                    have cc2 : 0 ≤ h mTape k2 ∧ h mTape k2 ≤ 126 := by unfold gsn_ at ck2; omega
                    refine pw_aload_n (z := mo_) (pc := 78) dX12_cutAll_78 rfl rfl ?_
                    refine pw_getR (r := mTape) (pc := 79) dX12_cutAll_79 fX12_14 (im_mo_ hM) k_mo_ rfl fr_mTape ?_
                    refine pw_iload_n (z := k2) (pc := 82) dX12_cutAll_82 rfl rfl ?_
                    refine pw_iald (pc := 83) dX12_cutAll_83 (im_mTape hM) k_mTape 1000 l_mTape (by first | omega | (simp only [n_g62_mo__3, n_hq_mTape, n_hq_mo__3]; omega)) (by first | omega | (simp only [n_g62_mo__3, n_hq_mTape, n_hq_mo__3]; omega)) (by first | omega | (simp only [n_g62_mo__3, n_hq_mTape, n_hq_mo__3]; omega)) (fun r83 => ?_)
                    have n_g62_mTape : g62 mTape = h mTape := ((((show g62 mTape = hq mTape from (by rw [e62]; exact up_off (by decide))).trans (show hq mTape = g10 mTape from (af mTape (by decide)))).trans (show g10 mTape = g5 mTape from (by rw [e10]; exact up_off (by decide)))).trans (show g5 mTape = h mTape from (by rw [e5]; exact up_off (by decide))))
                    rw [n_g62_mTape] at r83 ⊢
                    refine pw_callS (As := [ii_ (h mTape k2)]) (rest := []) (pc := 84) dX12_cutAll_84 (c_isLetter g62 (h mTape k2) (by first | omega | (simp only [n_g62_mTape, n_g62_mo__3, n_hq_mTape, n_hq_mo__3]; omega))) lX12_192 mX12_isLetter sX12_isLetter rfl rfl (by decide) ⟨Nat.zero_le _, Nat.zero_le _⟩ (Nat.le_of_ble_eq_true rfl) (k_i (fun z84 h84 y84 q84 => ?_))
                    obtain ⟨rfl, ⟨rfl, p84⟩ | ⟨rfl, p84⟩⟩ := q84
                    · simp -failIfUnchanged only [n_g62_mo__3, n_g62_mTape] at p84
                      refine pw_if_eq (t := 129) (pc := 87) dX12_cutAll_87 (by decide) (by first | omega | (simp only [n_g62_mTape, n_g62_mo__3, n_hq_mTape, n_hq_mo__3]; omega)) (fun c87 => absurd c87 (by decide)) (fun _ => ?_)
                      have ls : let_ (h mTape k2) := p84
                      have ls2 := ls
                      unfold let_ at ls2
                      have rk : rnk_ (h mTape k2) = h mTape k2 - 96 := by unfold rnk_; rw [if_t ls]
                      have J121 : ∀ (v2 : Int), ((k2 + 1 - k ≤ 8 → v2 = enc_ 37 (wls_ (h mTape) (k2 + 1 - k).toNat k)) ∧ 0 ≤ v2 ∧ v2 ≤ 3512479453921) → PW G RX12 cX12_cutAll 7 none (rm_ 3) 0 0 (zm_ G (qv_ (fun h' => off_ [mSort, mPlace, mValue, mo_] h h' ∧ (∀ k, k ≠ 2 → k ≠ 3 → k ≠ 7 → k ≠ 8 → h' mo_ k = h mo_ k) ∧ h' mo_ 2 = 0 ∧ h' mo_ 7 = 0 ∧ h' mo_ 8 = 0 ∧ ∃ N : Nat, RT_ (tk_ (h mTape) (h mo_ 2)) N h'))) 121 [some (rr_ G mo_), some (ii_ (c : Int)), some (ii_ k2), some (ii_ (h mTape k)), some (ii_ k), some (ll_ v), none] [ll_ v2] g62 := by
                        intro v2 wv2
                        refine pw_lstore (lv1 := [some (rr_ G mo_), some (ii_ (c : Int)), some (ii_ k2), some (ii_ (h mTape k)), some (ii_ k), some (ll_ v2), none]) (pc := 121) dX12_cutAll_121 (by decide) rfl rfl ?_
                        refine pw_iinc (z := k2) (lv1 := [some (rr_ G mo_), some (ii_ (c : Int)), some (ii_ (k2 + 1)), some (ii_ (h mTape k)), some (ii_ k), some (ll_ v2), none]) (pc := 123) dX12_cutAll_123 rfl (by decide) rfl rfl ?_
                        refine pw_goto (t := 70) (pc := 126) dX12_cutAll_126 (by decide) ?_
                        exact ih70 _ _ (by omega) (by rw [← rnx_t (by omega) ls]; exact wr) (fun x x0 x1 => by by_cases e : x = k2; rw [e]; exact ls; exact wl x x0 (by omega)) (wv2) (by omega)
                      refine pw_iload_n (z := k2) (pc := 90) dX12_cutAll_90 rfl rfl ?_
                      refine pw_iload (z := k) (pc := 91) dX12_cutAll_91 rfl ?_
                      refine pw_isub (pc := 93) dX12_cutAll_93 ?_
                      refine pw_bipush (pc := 94) dX12_cutAll_94 rfl ?_
                      refine pw_icmp_ge (t := 119) (pc := 96) dX12_cutAll_96 (by decide) (by first | omega | (simp only [n_g62_mTape, n_g62_mo__3, n_hq_mTape, n_hq_mo__3]; omega)) (by first | omega | (simp only [n_g62_mTape, n_g62_mo__3, n_hq_mTape, n_hq_mo__3]; omega)) (fun c96 => ?_) (fun c96 => ?_)
                      · refine pw_lload (z := v) (pc := 119) dX12_cutAll_119 rfl ?_
                        exact J121 _ (by
                                first
                                | (have e1 : enc_ 37 (wls_ (h mTape) (k2 + 1 - k).toNat k) = 37 * v + (h mTape k2 - 96) := by
                                     rw [show (k2 + 1 - k).toNat = (k2 - k).toNat + 1 by omega, wls_s, enc_s, ← wv.1 (by omega), show k + ((k2 - k).toNat : Int) = k2 by omega, Int.mul_comm]
                                   have e2 := wls_ok (tp := h mTape) (k2 + 1 - k).toNat k (fun x x0 x1 => by by_cases e : x = k2; rw [e]; exact ls; exact wl x x0 (by omega))
                                   have e3 := enc_b (B := 37) (by omega) _ e2.1
                                   rw [e2.2] at e3
                                   have e4 := p37 (n := (k2 + 1 - k).toNat) (by omega)
                                   exact ⟨fun _ => e1.symm, by omega, by omega⟩)
                                | exact ⟨fun u => by omega, wv.2⟩)
                      · refine pw_ldc2 (z := 37) (pc := 99) dX12_cutAll_99 kX12_199 rfl ?_
                        refine pw_lload (z := v) (pc := 102) dX12_cutAll_102 rfl ?_
                        refine pw_lmul (pc := 104) dX12_cutAll_104 ?_
                        refine pw_aload_n (z := mo_) (pc := 105) dX12_cutAll_105 rfl rfl ?_
                        refine pw_getR (r := mTape) (pc := 106) dX12_cutAll_106 fX12_14 (im_mo_ hM) k_mo_ rfl fr_mTape ?_
                        refine pw_iload_n (z := k2) (pc := 109) dX12_cutAll_109 rfl rfl ?_
                        refine pw_iald (pc := 110) dX12_cutAll_110 (im_mTape hM) k_mTape 1000 l_mTape (by first | omega | (simp only [n_g62_mTape, n_g62_mo__3, n_hq_mTape, n_hq_mo__3]; omega)) (by first | omega | (simp only [n_g62_mTape, n_g62_mo__3, n_hq_mTape, n_hq_mo__3]; omega)) (by first | omega | (simp only [n_g62_mTape, n_g62_mo__3, n_hq_mTape, n_hq_mo__3]; omega)) (fun r110 => ?_)
                        rw [n_g62_mTape] at r110 ⊢
                        refine pw_callS (As := [ii_ (h mTape k2)]) (rest := [ll_ (37 * v)]) (pc := 111) dX12_cutAll_111 (c_rank g62 (h mTape k2) (by first | omega | (simp only [n_g62_mTape, n_g62_mo__3, n_hq_mTape, n_hq_mo__3]; omega))) lX12_201 mX12_rank sX12_rank rfl rfl (by decide) ⟨Nat.zero_le _, Nat.zero_le _⟩ (Nat.le_of_ble_eq_true rfl) (k_i (fun z111 h111 y111 q111 => ?_))
                        obtain ⟨rfl, w111⟩ := q111
                        rw [rk] at w111
                        rw [w111]
                        refine pw_i2l (pc := 114) dX12_cutAll_114 (by first | omega | (simp only [n_g62_mTape, n_g62_mo__3, n_hq_mTape, n_hq_mo__3]; omega)) ?_
                        refine pw_ladd (pc := 115) dX12_cutAll_115 ?_
                        refine pw_goto (t := 121) (pc := 116) dX12_cutAll_116 (by decide) ?_
                        exact J121 _ (by
                                first
                                | (have e1 : enc_ 37 (wls_ (h mTape) (k2 + 1 - k).toNat k) = 37 * v + (h mTape k2 - 96) := by
                                     rw [show (k2 + 1 - k).toNat = (k2 - k).toNat + 1 by omega, wls_s, enc_s, ← wv.1 (by omega), show k + ((k2 - k).toNat : Int) = k2 by omega, Int.mul_comm]
                                   have e2 := wls_ok (tp := h mTape) (k2 + 1 - k).toNat k (fun x x0 x1 => by by_cases e : x = k2; rw [e]; exact ls; exact wl x x0 (by omega))
                                   have e3 := enc_b (B := 37) (by omega) _ e2.1
                                   rw [e2.2] at e3
                                   have e4 := p37 (n := (k2 + 1 - k).toNat) (by omega)
                                   exact ⟨fun _ => e1.symm, by omega, by omega⟩)
                                | exact ⟨fun u => by omega, wv.2⟩)
                    · simp -failIfUnchanged only [n_g62_mo__3, n_g62_mTape] at p84
                      refine pw_if_eq (t := 129) (pc := 87) dX12_cutAll_87 (by decide) (by first | omega | (simp only [n_g62_mTape, n_g62_mo__3, n_hq_mTape, n_hq_mo__3]; omega)) (fun _ => ?_) (fun c87 => absurd c87 (by decide))
                      have te : ten_ (h mTape) (h mo_ 2) k = k2 := by
                        unfold ten_
                        rw [if_f (by omega), if_t p64, ← wr]
                        exact rnx_f (fun u => by first | omega | exact p84 u.2)
                      refine pw_aload_n (z := mo_) (pc := 129) dX12_cutAll_129 rfl rfl ?_
                      refine pw_getR (r := mSort) (pc := 130) dX12_cutAll_130 fX12_24 (im_mo_ hM) k_mo_ rfl fr_mSort ?_
                      refine pw_iload_n (z := (c : Int)) (pc := 133) dX12_cutAll_133 rfl rfl ?_
                      have J148 : ∀ (so : Int), (so = (if k2 - k ≤ 8 then 1 else 4)) → PW G RX12 cX12_cutAll 7 none (rm_ 3) 0 0 (zm_ G (qv_ (fun h' => off_ [mSort, mPlace, mValue, mo_] h h' ∧ (∀ k, k ≠ 2 → k ≠ 3 → k ≠ 7 → k ≠ 8 → h' mo_ k = h mo_ k) ∧ h' mo_ 2 = 0 ∧ h' mo_ 7 = 0 ∧ h' mo_ 8 = 0 ∧ ∃ N : Nat, RT_ (tk_ (h mTape) (h mo_ 2)) N h'))) 148 [some (rr_ G mo_), some (ii_ (c : Int)), some (ii_ k2), some (ii_ (h mTape k)), some (ii_ k), some (ll_ v), none] [ii_ so, ii_ (c : Int), rr_ G mSort] g62 := by
                        intro so hso
                        refine pw_iast (pc := 148) dX12_cutAll_148 (im_mSort hM) k_mSort 1002 l_mSort (by first | omega | (simp only [n_g62_mTape, n_g62_mo__3, n_hq_mTape, n_hq_mo__3]; omega)) (by first | omega | (simp only [n_g62_mTape, n_g62_mo__3, n_hq_mTape, n_hq_mo__3]; omega)) (by first | omega | (simp only [n_g62_mTape, n_g62_mo__3, n_hq_mTape, n_hq_mo__3]; omega)) (by first | omega | (simp only [n_g62_mTape, n_g62_mo__3, n_hq_mTape, n_hq_mo__3]; omega)) ?_
                        obtain ⟨g148, e148⟩ : ∃ x, x = up_ g62 mSort (c : Int) so := ⟨_, rfl⟩
                        refine pw_heq e148 ?_
                        refine pw_goto (t := 265) (pc := 149) dX12_cutAll_149 (by decide) ?_
                        refine pw_less (lv1 := [some (rr_ G mo_), some (ii_ (c : Int)), some (ii_ k2), none, none, some (ll_ v), none]) rfl (by intro i v; (match i with | 0 => simp | 1 => simp | 2 => simp | 3 => simp | 4 => simp | 5 => simp | 6 => simp | n + 7 => simp)) ?_
                        exact J265 _ _ _ (by rw [te]) (by first | (rw [e148, e62]; exact off_up (off_up af (by decide)) (by decide)) | (rw [e236, e62]; exact off_up (off_up af (by decide)) (by decide)) | (rw [e261, e62]; exact off_up (off_up af (by decide)) (by decide))) (by
                                unfold tso_
                                rw [if_f (by omega)]
                                first
                                | (rw [if_t p64, te, e148, up_same]; exact hso)
                                | (rw [if_f p64, if_t p153, te, e236, up_same]; exact hso)
                                | (rw [if_f p64, if_f p153, e261, up_same]; exact hso)) (by first | (rw [e148, up_off (by decide), e62, up_same]; done) | (rw [e236, up_off (by decide), e62, up_same]; done) | (rw [e261, up_off (by decide), e62, up_same]; done)) (by
                                unfold tso_ tnu_ twl_
                                rw [if_f (show ¬ h mo_ 2 ≤ k by omega)]
                                first
                                | (rw [if_t p64, te]
                                   refine ⟨fun u => ?_, fun u => ?_, by omega⟩
                                   · exfalso; split at u <;> omega
                                   · refine wv.1 ?_
                                     by_cases q : k2 - k ≤ 8
                                     · exact q
                                     · rw [if_neg q] at u; omega)
                                | (rw [if_f p64, if_t p153, if_t p153, te]
                                   refine ⟨fun u => ?_, fun u => ?_, by omega⟩
                                   · refine wv.1 ?_
                                     by_cases q : k2 - k ≤ 4
                                     · exact q
                                     · rw [if_neg q] at u; omega
                                   · exfalso; split at u <;> omega)
                                | (rw [if_f p64, if_f p153, if_f p153]
                                   refine ⟨fun _ => rfl, fun u => ?_, by omega⟩
                                   rw [← hso] at u; omega)) (by
                                first
                                | exact ⟨fun i hi => by rw [e148, up_at, if_neg (by omega), e62, up_off (by decide)], fun i hi => by rw [e148, up_off (by decide), e62, up_at, if_neg (by omega)], by rw [e148, up_off (by decide), e62, up_off (by decide)]⟩
                                | exact ⟨fun i hi => by rw [e236, up_at, if_neg (by omega), e62, up_off (by decide)], fun i hi => by rw [e236, up_off (by decide), e62, up_at, if_neg (by omega)], by rw [e236, up_off (by decide), e62, up_off (by decide)]⟩
                                | exact ⟨fun i hi => by rw [e261, up_at, if_neg (by omega), e62, up_off (by decide)], fun i hi => by rw [e261, up_off (by decide), e62, up_at, if_neg (by omega)], by rw [e261, up_off (by decide), e62, up_off (by decide)]⟩)
                      refine pw_iload_n (z := k2) (pc := 134) dX12_cutAll_134 rfl rfl ?_
                      refine pw_iload (z := k) (pc := 135) dX12_cutAll_135 rfl ?_
                      refine pw_isub (pc := 137) dX12_cutAll_137 ?_
                      refine pw_bipush (pc := 138) dX12_cutAll_138 rfl ?_
                      refine pw_icmp_le (t := 147) (pc := 140) dX12_cutAll_140 (by decide) (by first | omega | (simp only [n_g62_mTape, n_g62_mo__3, n_hq_mTape, n_hq_mo__3]; omega)) (by first | omega | (simp only [n_g62_mTape, n_g62_mo__3, n_hq_mTape, n_hq_mo__3]; omega)) (fun c140 => ?_) (fun c140 => ?_)
                      · refine pw_iconst (pc := 147) dX12_cutAll_147 ?_
                        exact J148 _ (by first | (rw [if_pos (by omega)]; done) | (rw [if_neg (by omega)]; done))
                      · refine pw_iconst (pc := 143) dX12_cutAll_143 ?_
                        refine pw_goto (t := 148) (pc := 144) dX12_cutAll_144 (by decide) ?_
                        exact J148 _ (by first | (rw [if_pos (by omega)]; done) | (rw [if_neg (by omega)]; done))
              exact L70 _ k 0 (by omega) (rfl) (fun x x0 x1 => by omega) (⟨fun _ => by rw [show (k - k).toNat = 0 by omega]; rfl, by omega, by omega⟩) (Int.self_le_toNat _)
            · refine pw_if_eq (t := 152) (pc := 67) dX12_cutAll_67 (by decide) (by first | omega | (simp only [n_hq_mTape, n_hq_mo__3]; omega)) (fun _ => ?_) (fun c67 => absurd c67 (by decide))
              refine pw_iload_n (z := h mTape k) (pc := 152) dX12_cutAll_152 rfl rfl ?_
              refine pw_callS (As := [ii_ (h mTape k)]) (rest := []) (pc := 153) dX12_cutAll_153 (c_isDigit g62 (h mTape k) (by first | omega | (simp only [n_hq_mTape, n_hq_mo__3]; omega))) lX12_205 mX12_isDigit sX12_isDigit rfl rfl (by decide) ⟨Nat.zero_le _, Nat.zero_le _⟩ (Nat.le_of_ble_eq_true rfl) (k_i (fun z153 h153 y153 q153 => ?_))
              obtain ⟨rfl, ⟨rfl, p153⟩ | ⟨rfl, p153⟩⟩ := q153
              · refine pw_if_eq (t := 240) (pc := 156) dX12_cutAll_156 (by decide) (by first | omega | (simp only [n_hq_mTape, n_hq_mo__3]; omega)) (fun c156 => absurd c156 (by decide)) (fun _ => ?_)
                have L159 : ∀ (nn : Nat) (k2 : Int) (v : Int), (k ≤ k2 ∧ k2 ≤ h mo_ 2) → (rnx_ dig_ (h mTape) (h mo_ 2) k2 = rnx_ dig_ (h mTape) (h mo_ 2) k) → (∀ x, k ≤ x → x < k2 → dig_ (h mTape x)) → ((k2 - k ≤ 4 → v = nus_ (h mTape) (k2 - k).toNat k 0) ∧ 0 ≤ v ∧ v ≤ 10000) → ((h mo_ 2 - k2 + 1 : Int) ≤ nn) → PW G RX12 cX12_cutAll 7 none (rm_ 3) 0 0 (zm_ G (qv_ (fun h' => off_ [mSort, mPlace, mValue, mo_] h h' ∧ (∀ k, k ≠ 2 → k ≠ 3 → k ≠ 7 → k ≠ 8 → h' mo_ k = h mo_ k) ∧ h' mo_ 2 = 0 ∧ h' mo_ 7 = 0 ∧ h' mo_ 8 = 0 ∧ ∃ N : Nat, RT_ (tk_ (h mTape) (h mo_ 2)) N h'))) 159 [some (rr_ G mo_), some (ii_ (c : Int)), some (ii_ k2), some (ii_ (h mTape k)), some (ii_ k), some (ll_ v), none] [] g62 := by
                  intro nn
                  induction nn with
                  | zero => intro k2 v wk wr wl wv ams; exfalso; omega
                  | succ nn ih159 =>
                    intro k2 v wk wr wl wv ams
                    refine pw_iload_n (z := k2) (pc := 159) dX12_cutAll_159 rfl rfl ?_
                    refine pw_aload_n (z := mo_) (pc := 160) dX12_cutAll_160 rfl rfl ?_
                    refine pw_gI (x := 3) (pc := 161) dX12_cutAll_161 fX12_196 (im_mo_ hM) k_mo_ rfl rfl (fun r161 => ?_)
                    have n_g62_mo__3 : g62 mo_ 3 = g5 mo_ 3 := (((show g62 mo_ 3 = hq mo_ 3 from (by rw [e62, up_off (by decide)])).trans (show hq mo_ 3 = g10 mo_ 3 from (congrFun (af mo_ (by decide)) 3))).trans (show g10 mo_ 3 = g5 mo_ 3 from (by rw [e10, up_at]; exact if_neg (by decide))))
                    rw [n_g62_mo__3] at r161 ⊢
                    rw [show g5 mo_ 3 = (h mo_ 2) from by rw [e5, up_same]] at r161 ⊢
                    refine pw_icmp_ge (t := 218) (pc := 164) dX12_cutAll_164 (by decide) (by first | omega | (simp only [n_g62_mo__3, n_hq_mTape, n_hq_mo__3]; omega)) (by first | omega | (simp only [n_g62_mo__3, n_hq_mTape, n_hq_mo__3]; omega)) (fun c164 => ?_) (fun c164 => ?_)
                    · have te : ten_ (h mTape) (h mo_ 2) k = k2 := by
                        unfold ten_
                        rw [if_f (by omega), if_f p64, if_t p153, ← wr]
                        exact rnx_f (fun u => by first | omega | exact p173 u.2)
                      refine pw_aload_n (z := mo_) (pc := 218) dX12_cutAll_218 rfl rfl ?_
                      refine pw_getR (r := mSort) (pc := 219) dX12_cutAll_219 fX12_24 (im_mo_ hM) k_mo_ rfl fr_mSort ?_
                      refine pw_iload_n (z := (c : Int)) (pc := 222) dX12_cutAll_222 rfl rfl ?_
                      have J236 : ∀ (so : Int), (so = (if k2 - k ≤ 4 then 2 else 4)) → PW G RX12 cX12_cutAll 7 none (rm_ 3) 0 0 (zm_ G (qv_ (fun h' => off_ [mSort, mPlace, mValue, mo_] h h' ∧ (∀ k, k ≠ 2 → k ≠ 3 → k ≠ 7 → k ≠ 8 → h' mo_ k = h mo_ k) ∧ h' mo_ 2 = 0 ∧ h' mo_ 7 = 0 ∧ h' mo_ 8 = 0 ∧ ∃ N : Nat, RT_ (tk_ (h mTape) (h mo_ 2)) N h'))) 236 [some (rr_ G mo_), some (ii_ (c : Int)), some (ii_ k2), some (ii_ (h mTape k)), some (ii_ k), some (ll_ v), none] [ii_ so, ii_ (c : Int), rr_ G mSort] g62 := by
                        intro so hso
                        refine pw_iast (pc := 236) dX12_cutAll_236 (im_mSort hM) k_mSort 1002 l_mSort (by first | omega | (simp only [n_g62_mo__3, n_hq_mTape, n_hq_mo__3]; omega)) (by first | omega | (simp only [n_g62_mo__3, n_hq_mTape, n_hq_mo__3]; omega)) (by first | omega | (simp only [n_g62_mo__3, n_hq_mTape, n_hq_mo__3]; omega)) (by first | omega | (simp only [n_g62_mo__3, n_hq_mTape, n_hq_mo__3]; omega)) ?_
                        obtain ⟨g236, e236⟩ : ∃ x, x = up_ g62 mSort (c : Int) so := ⟨_, rfl⟩
                        refine pw_heq e236 ?_
                        refine pw_goto (t := 265) (pc := 237) dX12_cutAll_237 (by decide) ?_
                        refine pw_less (lv1 := [some (rr_ G mo_), some (ii_ (c : Int)), some (ii_ k2), none, none, some (ll_ v), none]) rfl (by intro i v; (match i with | 0 => simp | 1 => simp | 2 => simp | 3 => simp | 4 => simp | 5 => simp | 6 => simp | n + 7 => simp)) ?_
                        exact J265 _ _ _ (by rw [te]) (by first | (rw [e148, e62]; exact off_up (off_up af (by decide)) (by decide)) | (rw [e236, e62]; exact off_up (off_up af (by decide)) (by decide)) | (rw [e261, e62]; exact off_up (off_up af (by decide)) (by decide))) (by
                                unfold tso_
                                rw [if_f (by omega)]
                                first
                                | (rw [if_t p64, te, e148, up_same]; exact hso)
                                | (rw [if_f p64, if_t p153, te, e236, up_same]; exact hso)
                                | (rw [if_f p64, if_f p153, e261, up_same]; exact hso)) (by first | (rw [e148, up_off (by decide), e62, up_same]; done) | (rw [e236, up_off (by decide), e62, up_same]; done) | (rw [e261, up_off (by decide), e62, up_same]; done)) (by
                                unfold tso_ tnu_ twl_
                                rw [if_f (show ¬ h mo_ 2 ≤ k by omega)]
                                first
                                | (rw [if_t p64, te]
                                   refine ⟨fun u => ?_, fun u => ?_, by omega⟩
                                   · exfalso; split at u <;> omega
                                   · refine wv.1 ?_
                                     by_cases q : k2 - k ≤ 8
                                     · exact q
                                     · rw [if_neg q] at u; omega)
                                | (rw [if_f p64, if_t p153, if_t p153, te]
                                   refine ⟨fun u => ?_, fun u => ?_, by omega⟩
                                   · refine wv.1 ?_
                                     by_cases q : k2 - k ≤ 4
                                     · exact q
                                     · rw [if_neg q] at u; omega
                                   · exfalso; split at u <;> omega)
                                | (rw [if_f p64, if_f p153, if_f p153]
                                   refine ⟨fun _ => rfl, fun u => ?_, by omega⟩
                                   rw [← hso] at u; omega)) (by
                                first
                                | exact ⟨fun i hi => by rw [e148, up_at, if_neg (by omega), e62, up_off (by decide)], fun i hi => by rw [e148, up_off (by decide), e62, up_at, if_neg (by omega)], by rw [e148, up_off (by decide), e62, up_off (by decide)]⟩
                                | exact ⟨fun i hi => by rw [e236, up_at, if_neg (by omega), e62, up_off (by decide)], fun i hi => by rw [e236, up_off (by decide), e62, up_at, if_neg (by omega)], by rw [e236, up_off (by decide), e62, up_off (by decide)]⟩
                                | exact ⟨fun i hi => by rw [e261, up_at, if_neg (by omega), e62, up_off (by decide)], fun i hi => by rw [e261, up_off (by decide), e62, up_at, if_neg (by omega)], by rw [e261, up_off (by decide), e62, up_off (by decide)]⟩)
                      refine pw_iload_n (z := k2) (pc := 223) dX12_cutAll_223 rfl rfl ?_
                      refine pw_iload (z := k) (pc := 224) dX12_cutAll_224 rfl ?_
                      refine pw_isub (pc := 226) dX12_cutAll_226 ?_
                      refine pw_iconst (pc := 227) dX12_cutAll_227 ?_
                      refine pw_icmp_le (t := 235) (pc := 228) dX12_cutAll_228 (by decide) (by first | omega | (simp only [n_g62_mo__3, n_hq_mTape, n_hq_mo__3]; omega)) (by first | omega | (simp only [n_g62_mo__3, n_hq_mTape, n_hq_mo__3]; omega)) (fun c228 => ?_) (fun c228 => ?_)
                      · refine pw_iconst (pc := 235) dX12_cutAll_235 ?_
                        exact J236 _ (by first | (rw [if_pos (by omega)]; done) | (rw [if_neg (by omega)]; done))
                      · refine pw_iconst (pc := 231) dX12_cutAll_231 ?_
                        refine pw_goto (t := 236) (pc := 232) dX12_cutAll_232 (by decide) ?_
                        exact J236 _ (by first | (rw [if_pos (by omega)]; done) | (rw [if_neg (by omega)]; done))
                    · have ck2 := htg k2 (by omega) (by omega)
                      have cc2 : 0 ≤ h mTape k2 ∧ h mTape k2 ≤ 126 := by unfold gsn_ at ck2; omega
                      refine pw_aload_n (z := mo_) (pc := 167) dX12_cutAll_167 rfl rfl ?_
                      refine pw_getR (r := mTape) (pc := 168) dX12_cutAll_168 fX12_14 (im_mo_ hM) k_mo_ rfl fr_mTape ?_
                      refine pw_iload_n (z := k2) (pc := 171) dX12_cutAll_171 rfl rfl ?_
                      refine pw_iald (pc := 172) dX12_cutAll_172 (im_mTape hM) k_mTape 1000 l_mTape (by first | omega | (simp only [n_g62_mo__3, n_hq_mTape, n_hq_mo__3]; omega)) (by first | omega | (simp only [n_g62_mo__3, n_hq_mTape, n_hq_mo__3]; omega)) (by first | omega | (simp only [n_g62_mo__3, n_hq_mTape, n_hq_mo__3]; omega)) (fun r172 => ?_)
                      have n_g62_mTape : g62 mTape = h mTape := ((((show g62 mTape = hq mTape from (by rw [e62]; exact up_off (by decide))).trans (show hq mTape = g10 mTape from (af mTape (by decide)))).trans (show g10 mTape = g5 mTape from (by rw [e10]; exact up_off (by decide)))).trans (show g5 mTape = h mTape from (by rw [e5]; exact up_off (by decide))))
                      rw [n_g62_mTape] at r172 ⊢
                      refine pw_callS (As := [ii_ (h mTape k2)]) (rest := []) (pc := 173) dX12_cutAll_173 (c_isDigit g62 (h mTape k2) (by first | omega | (simp only [n_g62_mTape, n_g62_mo__3, n_hq_mTape, n_hq_mo__3]; omega))) lX12_205 mX12_isDigit sX12_isDigit rfl rfl (by decide) ⟨Nat.zero_le _, Nat.zero_le _⟩ (Nat.le_of_ble_eq_true rfl) (k_i (fun z173 h173 y173 q173 => ?_))
                      obtain ⟨rfl, ⟨rfl, p173⟩ | ⟨rfl, p173⟩⟩ := q173
                      · simp -failIfUnchanged only [n_g62_mo__3, n_g62_mTape] at p173
                        refine pw_if_eq (t := 218) (pc := 176) dX12_cutAll_176 (by decide) (by first | omega | (simp only [n_g62_mTape, n_g62_mo__3, n_hq_mTape, n_hq_mo__3]; omega)) (fun c176 => absurd c176 (by decide)) (fun _ => ?_)
                        have ls : dig_ (h mTape k2) := p173
                        have ls2 := ls
                        unfold dig_ at ls2
                        have J210 : ∀ (v2 : Int), ((k2 + 1 - k ≤ 4 → v2 = nus_ (h mTape) (k2 + 1 - k).toNat k 0) ∧ 0 ≤ v2 ∧ v2 ≤ 10000) → PW G RX12 cX12_cutAll 7 none (rm_ 3) 0 0 (zm_ G (qv_ (fun h' => off_ [mSort, mPlace, mValue, mo_] h h' ∧ (∀ k, k ≠ 2 → k ≠ 3 → k ≠ 7 → k ≠ 8 → h' mo_ k = h mo_ k) ∧ h' mo_ 2 = 0 ∧ h' mo_ 7 = 0 ∧ h' mo_ 8 = 0 ∧ ∃ N : Nat, RT_ (tk_ (h mTape) (h mo_ 2)) N h'))) 210 [some (rr_ G mo_), some (ii_ (c : Int)), some (ii_ k2), some (ii_ (h mTape k)), some (ii_ k), some (ll_ v), none] [ll_ v2] g62 := by
                          intro v2 wv2
                          refine pw_lstore (lv1 := [some (rr_ G mo_), some (ii_ (c : Int)), some (ii_ k2), some (ii_ (h mTape k)), some (ii_ k), some (ll_ v2), none]) (pc := 210) dX12_cutAll_210 (by decide) rfl rfl ?_
                          refine pw_iinc (z := k2) (lv1 := [some (rr_ G mo_), some (ii_ (c : Int)), some (ii_ (k2 + 1)), some (ii_ (h mTape k)), some (ii_ k), some (ll_ v2), none]) (pc := 212) dX12_cutAll_212 rfl (by decide) rfl rfl ?_
                          refine pw_goto (t := 159) (pc := 215) dX12_cutAll_215 (by decide) ?_
                          exact ih159 _ _ (by omega) (by rw [← rnx_t (by omega) ls]; exact wr) (fun x x0 x1 => by by_cases e : x = k2; rw [e]; exact ls; exact wl x x0 (by omega)) (wv2) (by omega)
                        refine pw_iload_n (z := k2) (pc := 179) dX12_cutAll_179 rfl rfl ?_
                        refine pw_iload (z := k) (pc := 180) dX12_cutAll_180 rfl ?_
                        refine pw_isub (pc := 182) dX12_cutAll_182 ?_
                        refine pw_iconst (pc := 183) dX12_cutAll_183 ?_
                        refine pw_icmp_ge (t := 208) (pc := 184) dX12_cutAll_184 (by decide) (by first | omega | (simp only [n_g62_mTape, n_g62_mo__3, n_hq_mTape, n_hq_mo__3]; omega)) (by first | omega | (simp only [n_g62_mTape, n_g62_mo__3, n_hq_mTape, n_hq_mo__3]; omega)) (fun c184 => ?_) (fun c184 => ?_)
                        · refine pw_lload (z := v) (pc := 208) dX12_cutAll_208 rfl ?_
                          exact J210 _ (by
                                  first
                                  | (have e1 : nus_ (h mTape) (k2 + 1 - k).toNat k 0 = 10 * v + h mTape k2 - 48 := by
                                       rw [show (k2 + 1 - k).toNat = (k2 - k).toNat + 1 by omega, nus_s, ← wv.1 (by omega), show k + ((k2 - k).toNat : Int) = k2 by omega]
                                     have e3 := nus_b (tp := h mTape) (k := k) (k2 + 1 - k).toNat (fun x x0 x1 => by by_cases e : x = k2; rw [e]; exact ls; exact wl x x0 (by omega))
                                     have e4 := p10 (n := (k2 + 1 - k).toNat) (by omega)
                                     exact ⟨fun _ => e1.symm, by omega, by omega⟩)
                                  | exact ⟨fun u => by omega, wv.2⟩)
                        · refine pw_ldc2 (z := 10) (pc := 187) dX12_cutAll_187 kX12_208 rfl ?_
                          refine pw_lload (z := v) (pc := 190) dX12_cutAll_190 rfl ?_
                          refine pw_lmul (pc := 192) dX12_cutAll_192 ?_
                          refine pw_aload_n (z := mo_) (pc := 193) dX12_cutAll_193 rfl rfl ?_
                          refine pw_getR (r := mTape) (pc := 194) dX12_cutAll_194 fX12_14 (im_mo_ hM) k_mo_ rfl fr_mTape ?_
                          refine pw_iload_n (z := k2) (pc := 197) dX12_cutAll_197 rfl rfl ?_
                          refine pw_iald (pc := 198) dX12_cutAll_198 (im_mTape hM) k_mTape 1000 l_mTape (by first | omega | (simp only [n_g62_mTape, n_g62_mo__3, n_hq_mTape, n_hq_mo__3]; omega)) (by first | omega | (simp only [n_g62_mTape, n_g62_mo__3, n_hq_mTape, n_hq_mo__3]; omega)) (by first | omega | (simp only [n_g62_mTape, n_g62_mo__3, n_hq_mTape, n_hq_mo__3]; omega)) (fun r198 => ?_)
                          rw [n_g62_mTape] at r198 ⊢
                          refine pw_i2l (pc := 199) dX12_cutAll_199 (by first | omega | (simp only [n_g62_mTape, n_g62_mo__3, n_hq_mTape, n_hq_mo__3]; omega)) ?_
                          refine pw_ladd (pc := 200) dX12_cutAll_200 ?_
                          refine pw_ldc2 (z := 48) (pc := 201) dX12_cutAll_201 kX12_210 rfl ?_
                          refine pw_lsub (pc := 204) dX12_cutAll_204 ?_
                          refine pw_goto (t := 210) (pc := 205) dX12_cutAll_205 (by decide) ?_
                          exact J210 _ (by
                                  first
                                  | (have e1 : nus_ (h mTape) (k2 + 1 - k).toNat k 0 = 10 * v + h mTape k2 - 48 := by
                                       rw [show (k2 + 1 - k).toNat = (k2 - k).toNat + 1 by omega, nus_s, ← wv.1 (by omega), show k + ((k2 - k).toNat : Int) = k2 by omega]
                                     have e3 := nus_b (tp := h mTape) (k := k) (k2 + 1 - k).toNat (fun x x0 x1 => by by_cases e : x = k2; rw [e]; exact ls; exact wl x x0 (by omega))
                                     have e4 := p10 (n := (k2 + 1 - k).toNat) (by omega)
                                     exact ⟨fun _ => e1.symm, by omega, by omega⟩)
                                  | exact ⟨fun u => by omega, wv.2⟩)
                      · simp -failIfUnchanged only [n_g62_mo__3, n_g62_mTape] at p173
                        refine pw_if_eq (t := 218) (pc := 176) dX12_cutAll_176 (by decide) (by first | omega | (simp only [n_g62_mTape, n_g62_mo__3, n_hq_mTape, n_hq_mo__3]; omega)) (fun _ => ?_) (fun c176 => absurd c176 (by decide))
                        have te : ten_ (h mTape) (h mo_ 2) k = k2 := by
                          unfold ten_
                          rw [if_f (by omega), if_f p64, if_t p153, ← wr]
                          exact rnx_f (fun u => by first | omega | exact p173 u.2)
                        refine pw_aload_n (z := mo_) (pc := 218) dX12_cutAll_218 rfl rfl ?_
                        refine pw_getR (r := mSort) (pc := 219) dX12_cutAll_219 fX12_24 (im_mo_ hM) k_mo_ rfl fr_mSort ?_
                        refine pw_iload_n (z := (c : Int)) (pc := 222) dX12_cutAll_222 rfl rfl ?_
                        have J236 : ∀ (so : Int), (so = (if k2 - k ≤ 4 then 2 else 4)) → PW G RX12 cX12_cutAll 7 none (rm_ 3) 0 0 (zm_ G (qv_ (fun h' => off_ [mSort, mPlace, mValue, mo_] h h' ∧ (∀ k, k ≠ 2 → k ≠ 3 → k ≠ 7 → k ≠ 8 → h' mo_ k = h mo_ k) ∧ h' mo_ 2 = 0 ∧ h' mo_ 7 = 0 ∧ h' mo_ 8 = 0 ∧ ∃ N : Nat, RT_ (tk_ (h mTape) (h mo_ 2)) N h'))) 236 [some (rr_ G mo_), some (ii_ (c : Int)), some (ii_ k2), some (ii_ (h mTape k)), some (ii_ k), some (ll_ v), none] [ii_ so, ii_ (c : Int), rr_ G mSort] g62 := by
                          intro so hso
                          refine pw_iast (pc := 236) dX12_cutAll_236 (im_mSort hM) k_mSort 1002 l_mSort (by first | omega | (simp only [n_g62_mTape, n_g62_mo__3, n_hq_mTape, n_hq_mo__3]; omega)) (by first | omega | (simp only [n_g62_mTape, n_g62_mo__3, n_hq_mTape, n_hq_mo__3]; omega)) (by first | omega | (simp only [n_g62_mTape, n_g62_mo__3, n_hq_mTape, n_hq_mo__3]; omega)) (by first | omega | (simp only [n_g62_mTape, n_g62_mo__3, n_hq_mTape, n_hq_mo__3]; omega)) ?_
                          obtain ⟨g236, e236⟩ : ∃ x, x = up_ g62 mSort (c : Int) so := ⟨_, rfl⟩
                          refine pw_heq e236 ?_
                          refine pw_goto (t := 265) (pc := 237) dX12_cutAll_237 (by decide) ?_
                          refine pw_less (lv1 := [some (rr_ G mo_), some (ii_ (c : Int)), some (ii_ k2), none, none, some (ll_ v), none]) rfl (by intro i v; (match i with | 0 => simp | 1 => simp | 2 => simp | 3 => simp | 4 => simp | 5 => simp | 6 => simp | n + 7 => simp)) ?_
                          exact J265 _ _ _ (by rw [te]) (by first | (rw [e148, e62]; exact off_up (off_up af (by decide)) (by decide)) | (rw [e236, e62]; exact off_up (off_up af (by decide)) (by decide)) | (rw [e261, e62]; exact off_up (off_up af (by decide)) (by decide))) (by
                                  unfold tso_
                                  rw [if_f (by omega)]
                                  first
                                  | (rw [if_t p64, te, e148, up_same]; exact hso)
                                  | (rw [if_f p64, if_t p153, te, e236, up_same]; exact hso)
                                  | (rw [if_f p64, if_f p153, e261, up_same]; exact hso)) (by first | (rw [e148, up_off (by decide), e62, up_same]; done) | (rw [e236, up_off (by decide), e62, up_same]; done) | (rw [e261, up_off (by decide), e62, up_same]; done)) (by
                                  unfold tso_ tnu_ twl_
                                  rw [if_f (show ¬ h mo_ 2 ≤ k by omega)]
                                  first
                                  | (rw [if_t p64, te]
                                     refine ⟨fun u => ?_, fun u => ?_, by omega⟩
                                     · exfalso; split at u <;> omega
                                     · refine wv.1 ?_
                                       by_cases q : k2 - k ≤ 8
                                       · exact q
                                       · rw [if_neg q] at u; omega)
                                  | (rw [if_f p64, if_t p153, if_t p153, te]
                                     refine ⟨fun u => ?_, fun u => ?_, by omega⟩
                                     · refine wv.1 ?_
                                       by_cases q : k2 - k ≤ 4
                                       · exact q
                                       · rw [if_neg q] at u; omega
                                     · exfalso; split at u <;> omega)
                                  | (rw [if_f p64, if_f p153, if_f p153]
                                     refine ⟨fun _ => rfl, fun u => ?_, by omega⟩
                                     rw [← hso] at u; omega)) (by
                                  first
                                  | exact ⟨fun i hi => by rw [e148, up_at, if_neg (by omega), e62, up_off (by decide)], fun i hi => by rw [e148, up_off (by decide), e62, up_at, if_neg (by omega)], by rw [e148, up_off (by decide), e62, up_off (by decide)]⟩
                                  | exact ⟨fun i hi => by rw [e236, up_at, if_neg (by omega), e62, up_off (by decide)], fun i hi => by rw [e236, up_off (by decide), e62, up_at, if_neg (by omega)], by rw [e236, up_off (by decide), e62, up_off (by decide)]⟩
                                  | exact ⟨fun i hi => by rw [e261, up_at, if_neg (by omega), e62, up_off (by decide)], fun i hi => by rw [e261, up_off (by decide), e62, up_at, if_neg (by omega)], by rw [e261, up_off (by decide), e62, up_off (by decide)]⟩)
                        refine pw_iload_n (z := k2) (pc := 223) dX12_cutAll_223 rfl rfl ?_
                        refine pw_iload (z := k) (pc := 224) dX12_cutAll_224 rfl ?_
                        refine pw_isub (pc := 226) dX12_cutAll_226 ?_
                        refine pw_iconst (pc := 227) dX12_cutAll_227 ?_
                        refine pw_icmp_le (t := 235) (pc := 228) dX12_cutAll_228 (by decide) (by first | omega | (simp only [n_g62_mTape, n_g62_mo__3, n_hq_mTape, n_hq_mo__3]; omega)) (by first | omega | (simp only [n_g62_mTape, n_g62_mo__3, n_hq_mTape, n_hq_mo__3]; omega)) (fun c228 => ?_) (fun c228 => ?_)
                        · refine pw_iconst (pc := 235) dX12_cutAll_235 ?_
                          exact J236 _ (by first | (rw [if_pos (by omega)]; done) | (rw [if_neg (by omega)]; done))
                        · refine pw_iconst (pc := 231) dX12_cutAll_231 ?_
                          refine pw_goto (t := 236) (pc := 232) dX12_cutAll_232 (by decide) ?_
                          exact J236 _ (by first | (rw [if_pos (by omega)]; done) | (rw [if_neg (by omega)]; done))
                exact L159 _ k 0 (by omega) (rfl) (fun x x0 x1 => by omega) (⟨fun _ => by rw [show (k - k).toNat = 0 by omega]; rfl, by omega, by omega⟩) (Int.self_le_toNat _)
              · refine pw_if_eq (t := 240) (pc := 156) dX12_cutAll_156 (by decide) (by first | omega | (simp only [n_hq_mTape, n_hq_mo__3]; omega)) (fun _ => ?_) (fun c156 => absurd c156 (by decide))
                have te : ten_ (h mTape) (h mo_ 2) k = k + 1 := by
                  unfold ten_
                  rw [if_f (by omega), if_f p64, if_f p153]
                refine pw_iload_n (z := h mTape k) (pc := 240) dX12_cutAll_240 rfl rfl ?_
                refine pw_i2l (pc := 241) dX12_cutAll_241 (by first | omega | (simp only [n_hq_mTape, n_hq_mo__3]; omega)) ?_
                refine pw_lstore (lv1 := [some (rr_ G mo_), some (ii_ (c : Int)), some (ii_ k), some (ii_ (h mTape k)), some (ii_ k), some (ll_ (h mTape k)), none]) (pc := 242) dX12_cutAll_242 (by decide) rfl rfl ?_
                refine pw_aload_n (z := mo_) (pc := 244) dX12_cutAll_244 rfl rfl ?_
                refine pw_getR (r := mSort) (pc := 245) dX12_cutAll_245 fX12_24 (im_mo_ hM) k_mo_ rfl fr_mSort ?_
                refine pw_iload_n (z := (c : Int)) (pc := 248) dX12_cutAll_248 rfl rfl ?_
                have J261 : ∀ (so : Int), (so = if_ (sof_ (h mTape k)) 3 4) → (so = 3 ∨ so = 4) → PW G RX12 cX12_cutAll 7 none (rm_ 3) 0 0 (zm_ G (qv_ (fun h' => off_ [mSort, mPlace, mValue, mo_] h h' ∧ (∀ k, k ≠ 2 → k ≠ 3 → k ≠ 7 → k ≠ 8 → h' mo_ k = h mo_ k) ∧ h' mo_ 2 = 0 ∧ h' mo_ 7 = 0 ∧ h' mo_ 8 = 0 ∧ ∃ N : Nat, RT_ (tk_ (h mTape) (h mo_ 2)) N h'))) 261 [some (rr_ G mo_), some (ii_ (c : Int)), some (ii_ k), some (ii_ (h mTape k)), some (ii_ k), some (ll_ (h mTape k)), none] [ii_ so, ii_ (c : Int), rr_ G mSort] g62 := by
                  intro so hso hsr
                  refine pw_iast (pc := 261) dX12_cutAll_261 (im_mSort hM) k_mSort 1002 l_mSort (by first | omega | (simp only [n_hq_mTape, n_hq_mo__3]; omega)) (by first | omega | (simp only [n_hq_mTape, n_hq_mo__3]; omega)) (by first | omega | (simp only [n_hq_mTape, n_hq_mo__3]; omega)) (by first | omega | (simp only [n_hq_mTape, n_hq_mo__3]; omega)) ?_
                  obtain ⟨g261, e261⟩ : ∃ x, x = up_ g62 mSort (c : Int) so := ⟨_, rfl⟩
                  refine pw_heq e261 ?_
                  refine pw_iinc (z := k) (lv1 := [some (rr_ G mo_), some (ii_ (c : Int)), some (ii_ (k + 1)), some (ii_ (h mTape k)), some (ii_ k), some (ll_ (h mTape k)), none]) (pc := 262) dX12_cutAll_262 rfl (by decide) rfl rfl ?_
                  refine pw_less (lv1 := [some (rr_ G mo_), some (ii_ (c : Int)), some (ii_ (k + 1)), none, none, some (ll_ (h mTape k)), none]) rfl (by intro i v; (match i with | 0 => simp | 1 => simp | 2 => simp | 3 => simp | 4 => simp | 5 => simp | 6 => simp | n + 7 => simp)) ?_
                  exact J265 _ _ _ (by rw [te]) (by first | (rw [e148, e62]; exact off_up (off_up af (by decide)) (by decide)) | (rw [e236, e62]; exact off_up (off_up af (by decide)) (by decide)) | (rw [e261, e62]; exact off_up (off_up af (by decide)) (by decide))) (by
                          unfold tso_
                          rw [if_f (by omega)]
                          first
                          | (rw [if_t p64, te, e148, up_same]; exact hso)
                          | (rw [if_f p64, if_t p153, te, e236, up_same]; exact hso)
                          | (rw [if_f p64, if_f p153, e261, up_same]; exact hso)) (by first | (rw [e148, up_off (by decide), e62, up_same]; done) | (rw [e236, up_off (by decide), e62, up_same]; done) | (rw [e261, up_off (by decide), e62, up_same]; done)) (by
                          unfold tso_ tnu_ twl_
                          rw [if_f (show ¬ h mo_ 2 ≤ k by omega)]
                          first
                          | (rw [if_t p64, te]
                             refine ⟨fun u => ?_, fun u => ?_, by omega⟩
                             · exfalso; split at u <;> omega
                             · refine wv.1 ?_
                               by_cases q : k2 - k ≤ 8
                               · exact q
                               · rw [if_neg q] at u; omega)
                          | (rw [if_f p64, if_t p153, if_t p153, te]
                             refine ⟨fun u => ?_, fun u => ?_, by omega⟩
                             · refine wv.1 ?_
                               by_cases q : k2 - k ≤ 4
                               · exact q
                               · rw [if_neg q] at u; omega
                             · exfalso; split at u <;> omega)
                          | (rw [if_f p64, if_f p153, if_f p153]
                             refine ⟨fun _ => rfl, fun u => ?_, by omega⟩
                             rw [← hso] at u; omega)) (by
                          first
                          | exact ⟨fun i hi => by rw [e148, up_at, if_neg (by omega), e62, up_off (by decide)], fun i hi => by rw [e148, up_off (by decide), e62, up_at, if_neg (by omega)], by rw [e148, up_off (by decide), e62, up_off (by decide)]⟩
                          | exact ⟨fun i hi => by rw [e236, up_at, if_neg (by omega), e62, up_off (by decide)], fun i hi => by rw [e236, up_off (by decide), e62, up_at, if_neg (by omega)], by rw [e236, up_off (by decide), e62, up_off (by decide)]⟩
                          | exact ⟨fun i hi => by rw [e261, up_at, if_neg (by omega), e62, up_off (by decide)], fun i hi => by rw [e261, up_off (by decide), e62, up_at, if_neg (by omega)], by rw [e261, up_off (by decide), e62, up_off (by decide)]⟩)
                refine pw_iload_n (z := h mTape k) (pc := 249) dX12_cutAll_249 rfl rfl ?_
                refine pw_callS (As := [ii_ (h mTape k)]) (rest := [ii_ (c : Int), rr_ G mSort]) (pc := 250) dX12_cutAll_250 (c_isSignOf g62 (h mTape k) (by first | omega | (simp only [n_hq_mTape, n_hq_mo__3]; omega))) lX12_212 mX12_isSignOf sX12_isSignOf rfl rfl (by decide) ⟨Nat.zero_le _, Nat.zero_le _⟩ (Nat.le_of_ble_eq_true rfl) (k_i (fun z250 h250 y250 q250 => ?_))
                obtain ⟨rfl, ⟨rfl, p250⟩ | ⟨rfl, p250⟩⟩ := q250
                · refine pw_if_eq (t := 260) (pc := 253) dX12_cutAll_253 (by decide) (by first | omega | (simp only [n_hq_mTape, n_hq_mo__3]; omega)) (fun c253 => absurd c253 (by decide)) (fun _ => ?_)
                  refine pw_iconst (pc := 256) dX12_cutAll_256 ?_
                  refine pw_goto (t := 261) (pc := 257) dX12_cutAll_257 (by decide) ?_
                  exact J261 _ (by first | exact (if_t p250).symm | exact (if_f p250).symm) (by omega)
                · refine pw_if_eq (t := 260) (pc := 253) dX12_cutAll_253 (by decide) (by first | omega | (simp only [n_hq_mTape, n_hq_mo__3]; omega)) (fun _ => ?_) (fun c253 => absurd c253 (by decide))
                  refine pw_iconst (pc := 260) dX12_cutAll_260 ?_
                  exact J261 _ (by first | exact (if_t p250).symm | exact (if_f p250).symm) (by omega)
          · have bl : tpl_ (h mTape) (h mo_ 2) k = tpl_ (h mTape) (h mo_ 2) (k + 1) := rnx_t (Q := bla_) (by omega) (by unfold bla_; omega)
            refine pw_iinc (z := k) (lv1 := [some (rr_ G mo_), some (ii_ (c : Int)), some (ii_ (k + 1)), some (ii_ (h mTape k)), none, none, none]) (pc := 44) dX12_cutAll_44 rfl (by decide) rfl rfl ?_
            refine pw_goto (t := 17) (pc := 47) dX12_cutAll_47 (by decide) ?_
            refine pw_less (lv1 := [some (rr_ G mo_), some (ii_ (c : Int)), some (ii_ (k + 1)), none, none, none, none]) rfl (by intro i v; (match i with | 0 => simp | 1 => simp | 2 => simp | 3 => simp | 4 => simp | 5 => simp | 6 => simp | n + 7 => simp)) ?_
            exact ih17 c _ _ (by omega) (by first | exact af | (rw [e272]; exact off_up jf (by decide))) (by first | (rw [← bl]; exact akp) | (show _ = tpl_ (h mTape) (h mo_ 2) (ten_ (h mTape) (h mo_ 2) (tpl_ (h mTape) (h mo_ 2) (tkp_ (h mTape) (h mo_ 2) c))); rw [pk, je])) (by first
                      | exact ar
                      | exact fun i hi => by
                          by_cases ci : i = c
                          · subst ci
                            have et : tk_ (h mTape) (h mo_ 2) i = tok1_ (h mTape) (h mo_ 2) k := by unfold tk_; rw [pk]
                            rw [et]
                            refine ⟨⟨by rw [e272, up_off (by decide)]; exact js, by rw [e272, up_off (by decide)]; exact jp, fun u => by rw [e272, up_same]; exact jv.1 u, fun u => by rw [e272, up_same]; exact jv.2.1 u⟩, (tso_n (by omega)).1, ak.1, by show k ≤ 1000; omega⟩
                          · have e := ar i (by omega)
                            refine ⟨?_, e.2⟩
                            unfold tr_
                            rw [e272, up_off (by decide), up_off (by decide), up_at, if_neg (by omega), jo2.1 i (by omega), jo2.2.1 i (by omega), jo2.2.2]
                            exact e.1) (by omega)
  exact L17 _ 0 _ _ (by omega) (off_rf) (rfl) (fun i hi => absurd hi (Nat.not_lt_zero i)) (Int.self_le_toNat _)

