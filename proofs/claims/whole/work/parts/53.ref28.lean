set_option maxHeartbeats 4000000 in
set_option maxRecDepth 100000 in
theorem c_isJourney {G : GT_} (hM : okM_ G) (h : PH_) (hS : 2 ≤ h mRoads 0 ∧ h mRoads 0 ≤ 4) (hR : 0 ≤ h mRoads 2 ∧ h mRoads 2 ≤ h mRoads 0) (hT : 0 ≤ h mRoads 1 ∧ h mRoads 1 ≤ 4) (h4 : 0 ≤ h mRoads 4 ∧ h mRoads 4 ≤ 99) (hpa : ∀ r, 0 ≤ r → r < 4 → 0 ≤ h mRoads (31 + 4 * r + 2) ∧ h mRoads (31 + 4 * r + 2) ≤ 9999) (P : List (Int × Int)) (hw : 0 ≤ h mRoads 5 → law_ (h mOp) (h mArg) (h mRoads 5) P) (k : Int) (hk : 0 ≤ k ∧ k < 4) (K : List (Int × Int)) (hlw : law_ (h mOp) (h mArg) (h mRoads (6 + k)) K) (h3 : lw3_ K) : PC G yX12_isJourney cX12_isJourney 6 (some .boolean) 5 [rr_ G mo_, ii_ k] h (qi_ (fun z h' => off_ [mTotals, mSeatsThen, mFacts, mPile, mSits, mCalledPlans] h h' ∧ (z = 0 ∧ cjn_ (h mRoads) P K (h mRoads 1).toNat = none ∨ z = 1 ∧ ∃ q, cjn_ (h mRoads) P K (h mRoads 1).toNat = some q ∧ (∀ r, 0 ≤ r → r < h mRoads 2 → h' mTotals r = q.1 r ∧ -1000000 ≤ q.1 r ∧ q.1 r ≤ 1000000) ∧ (∀ x, 0 ≤ x → x < h mRoads 1 → h' mCalledPlans x = q.2.2 x)))) := by
  refine PC.of (lv := [some (rr_ G mo_), some (ii_ k), none, none, none, none]) (by decide +kernel) (Nat.le_of_ble_eq_true rfl) rfl rfl ?_
  refine pw_iconst (pc := 0) dX12_isJourney_0 ?_
  refine pw_istore_n (lv1 := [some (rr_ G mo_), some (ii_ k), some (ii_ 1), none, none, none]) (pc := 1) dX12_isJourney_1 rfl (by decide) rfl rfl ?_
  refine pw_iconst (pc := 2) dX12_isJourney_2 ?_
  refine pw_istore_n (lv1 := [some (rr_ G mo_), some (ii_ k), some (ii_ 1), some (ii_ 0), none, none]) (pc := 3) dX12_isJourney_3 rfl (by decide) rfl rfl ?_
  have L4 : ∀ (nn : Nat) (r : Int) (a1 : PH_), (0 ≤ r ∧ r ≤ h mRoads 2) → (off_ [mTotals, mSeatsThen] h a1) → (∀ x, 0 ≤ x → x < r → a1 mTotals x = h mRoads (31 + 4 * x + 2) ∧ a1 mSeatsThen x = x) → ((h mRoads 2 - r + 1 : Int) ≤ nn) → PW G RX12 cX12_isJourney 6 (some .boolean) (rm_ 5) 0 0 (zm_ G (qi_ (fun z h' => off_ [mTotals, mSeatsThen, mFacts, mPile, mSits, mCalledPlans] h h' ∧ (z = 0 ∧ cjn_ (h mRoads) P K (h mRoads 1).toNat = none ∨ z = 1 ∧ ∃ q, cjn_ (h mRoads) P K (h mRoads 1).toNat = some q ∧ (∀ r, 0 ≤ r → r < h mRoads 2 → h' mTotals r = q.1 r ∧ -1000000 ≤ q.1 r ∧ q.1 r ≤ 1000000) ∧ (∀ x, 0 ≤ x → x < h mRoads 1 → h' mCalledPlans x = q.2.2 x))))) 4 [some (rr_ G mo_), some (ii_ k), some (ii_ 1), some (ii_ r), none, none] [] a1 := by
    intro nn
    induction nn with
    | zero => intro r a1 a_k a_f a_t ams; exfalso; omega
    | succ nn ih4 =>
      intro r a1 a_k a_f a_t ams
      refine pw_iload_n (z := r) (pc := 4) dX12_isJourney_4 rfl rfl ?_
      refine pw_aload_n (z := mo_) (pc := 5) dX12_isJourney_5 rfl rfl ?_
      refine pw_callV (c := 12) (o := mo_) (As := []) (rest := [ii_ r]) (pc := 6) dX12_isJourney_6 (c_riders hM a1) lX12_334 mX12_riders vX12_riders (im_mo_ hM) k_mo_ rfl rfl rfl (by decide) ⟨Nat.zero_le _, Nat.zero_le _⟩ (Nat.le_of_ble_eq_true rfl) (k_i (fun z6 h6 y6 q6 => ?_))
      obtain ⟨rfl, rfl⟩ := q6
      have n_a1_mRoads : a1 mRoads = h mRoads := (a_f mRoads (by decide))
      rw [n_a1_mRoads] at y6 ⊢
      refine pw_icmp_ge (t := 37) (pc := 9) dX12_isJourney_9 (by decide) (by first | omega | (simp only [n_a1_mRoads]; omega)) (by first | omega | (simp only [n_a1_mRoads]; omega)) (fun c9 => ?_) (fun c9 => ?_)
      · refine pw_iconst (pc := 37) dX12_isJourney_37 ?_
        refine pw_istore_n (lv1 := [some (rr_ G mo_), some (ii_ k), some (ii_ 1), some (ii_ 0), none, none]) (pc := 38) dX12_isJourney_38 rfl (by decide) rfl rfl ?_
        have L39 : ∀ (nn : Nat) (is : Int) (t : Int) (q : JQ_) (hq : PH_), (0 ≤ t ∧ t ≤ h mRoads 1) → (is = 0 ∨ is = 1) → (off_ [mTotals, mSeatsThen, mFacts, mPile, mSits, mCalledPlans] h hq) → ((is = 0 → cjn_ (h mRoads) P K t.toNat = none) ∧ (is = 1 → cjn_ (h mRoads) P K t.toNat = some q ∧ (∀ r, 0 ≤ r → r < h mRoads 2 → hq mTotals r = q.1 r) ∧ (∀ r, 0 ≤ r → r < h mRoads 2 → hq mSeatsThen r = q.2.1 r ∧ 0 ≤ q.2.1 r ∧ q.2.1 r ≤ 3) ∧ (∀ x, 0 ≤ x → x < t → hq mCalledPlans x = q.2.2 x) ∧ (∀ r, 0 ≤ r → r < h mRoads 2 → -(1100 * t) ≤ hq mTotals r ∧ hq mTotals r ≤ 9999 + 1100 * t))) → ((h mRoads 1 - t + 1 : Int) ≤ nn) → PW G RX12 cX12_isJourney 6 (some .boolean) (rm_ 5) 0 0 (zm_ G (qi_ (fun z h' => off_ [mTotals, mSeatsThen, mFacts, mPile, mSits, mCalledPlans] h h' ∧ (z = 0 ∧ cjn_ (h mRoads) P K (h mRoads 1).toNat = none ∨ z = 1 ∧ ∃ q, cjn_ (h mRoads) P K (h mRoads 1).toNat = some q ∧ (∀ r, 0 ≤ r → r < h mRoads 2 → h' mTotals r = q.1 r ∧ -1000000 ≤ q.1 r ∧ q.1 r ≤ 1000000) ∧ (∀ x, 0 ≤ x → x < h mRoads 1 → h' mCalledPlans x = q.2.2 x))))) 39 [some (rr_ G mo_), some (ii_ k), some (ii_ is), some (ii_ t), none, none] [] hq := by
          intro nn
          induction nn with
          | zero => intro is t q hq ak ai af aq ams; exfalso; omega
          | succ nn ih39 =>
            intro is t q hq ak ai af aq ams
            refine pw_iload_n (z := t) (pc := 39) dX12_isJourney_39 rfl rfl ?_
            refine pw_aload_n (z := mo_) (pc := 40) dX12_isJourney_40 rfl rfl ?_
            refine pw_callV (c := 12) (o := mo_) (As := []) (rest := [ii_ t]) (pc := 41) dX12_isJourney_41 (c_stretches hM hq) lX12_368 mX12_stretches vX12_stretches (im_mo_ hM) k_mo_ rfl rfl rfl (by decide) ⟨Nat.zero_le _, Nat.zero_le _⟩ (Nat.le_of_ble_eq_true rfl) (k_i (fun z41 h41 y41 q41 => ?_))
            obtain ⟨rfl, rfl⟩ := q41
            have n_hq_mRoads : hq mRoads = h mRoads := (af mRoads (by decide))
            rw [n_hq_mRoads] at y41 ⊢
            refine pw_icmp_ge (t := 299) (pc := 44) dX12_isJourney_44 (by decide) (by first | omega | (simp only [n_a1_mRoads, n_hq_mRoads]; omega)) (by first | omega | (simp only [n_a1_mRoads, n_hq_mRoads]; omega)) (fun c44 => ?_) (fun c44 => ?_)
            · refine pw_iload_n (z := is) (pc := 299) dX12_isJourney_299 rfl rfl ?_
              exact pw_zret (pc := 300) dX12_isJourney_300 (by first | omega | (simp only [n_a1_mRoads, n_hq_mRoads]; omega)) (by
                        refine ⟨af, ?_⟩
                        rcases ai with ai | ai
                        · exact Or.inl ⟨ai, cjn_d (aq.1 ai) (by omega)⟩
                        · obtain ⟨aj, at1, at2, at3, at4⟩ := aq.2 ai
                          have tt : t = h mRoads 1 := by omega
                          rw [tt] at aj at3
                          exact Or.inr ⟨ai, q, aj, fun r r0 r1 => ⟨at1 r r0 r1, by rw [← at1 r r0 r1]; have := at4 r r0 r1; omega, by rw [← at1 r r0 r1]; have := at4 r r0 r1; omega⟩, at3⟩)
            · refine pw_iload_n (z := is) (pc := 47) dX12_isJourney_47 rfl rfl ?_
              refine pw_if_eq (t := 299) (pc := 48) dX12_isJourney_48 (by decide) (by first | omega | (simp only [n_a1_mRoads, n_hq_mRoads]; omega)) (fun c48 => ?_) (fun c48 => ?_)
              · refine pw_iload_n (z := is) (pc := 299) dX12_isJourney_299 rfl rfl ?_
                exact pw_zret (pc := 300) dX12_isJourney_300 (by first | omega | (simp only [n_a1_mRoads, n_hq_mRoads]; omega)) (by
                          refine ⟨af, ?_⟩
                          rcases ai with ai | ai
                          · exact Or.inl ⟨ai, cjn_d (aq.1 ai) (by omega)⟩
                          · obtain ⟨aj, at1, at2, at3, at4⟩ := aq.2 ai
                            have tt : t = h mRoads 1 := by omega
                            rw [tt] at aj at3
                            exact Or.inr ⟨ai, q, aj, fun r r0 r1 => ⟨at1 r r0 r1, by rw [← at1 r r0 r1]; have := at4 r r0 r1; omega, by rw [← at1 r r0 r1]; have := at4 r r0 r1; omega⟩, at3⟩)
              · have nq : hq mRoads = h mRoads := af mRoads (by decide)
                have i1 : is = 1 := by omega
                obtain ⟨aj, at1, at2, at3, at4⟩ := aq.2 i1
                refine pw_iconst (pc := 51) dX12_isJourney_51 ?_
                refine pw_istore (lv1 := [some (rr_ G mo_), some (ii_ k), some (ii_ is), some (ii_ t), some (ii_ 0), none]) (pc := 52) dX12_isJourney_52 (by decide) rfl rfl ?_
                have L54 : ∀ (nn : Nat) (r : Int) (b1 : PH_), (0 ≤ r ∧ r ≤ h mRoads 2) → (off_ [mFacts, mPile, mSits] hq b1) → (∀ x, 0 ≤ x → x < r → b1 mSits x = cse_ (h mRoads) K q.2.1 t x ∧ 0 ≤ cse_ (h mRoads) K q.2.1 t x ∧ cse_ (h mRoads) K q.2.1 t x ≤ 3) → ((h mRoads 2 - r + 1 : Int) ≤ nn) → PW G RX12 cX12_isJourney 6 (some .boolean) (rm_ 5) 0 0 (zm_ G (qi_ (fun z h' => off_ [mTotals, mSeatsThen, mFacts, mPile, mSits, mCalledPlans] h h' ∧ (z = 0 ∧ cjn_ (h mRoads) P K (h mRoads 1).toNat = none ∨ z = 1 ∧ ∃ q, cjn_ (h mRoads) P K (h mRoads 1).toNat = some q ∧ (∀ r, 0 ≤ r → r < h mRoads 2 → h' mTotals r = q.1 r ∧ -1000000 ≤ q.1 r ∧ q.1 r ≤ 1000000) ∧ (∀ x, 0 ≤ x → x < h mRoads 1 → h' mCalledPlans x = q.2.2 x))))) 54 [some (rr_ G mo_), some (ii_ k), some (ii_ is), some (ii_ t), some (ii_ r), none] [] b1 := by
                  intro nn
                  induction nn with
                  | zero => intro r b1 bk bf bs ams; exfalso; omega
                  | succ nn ih54 =>
                    intro r b1 bk bf bs ams
                    refine pw_iload (z := r) (pc := 54) dX12_isJourney_54 rfl ?_
                    refine pw_aload_n (z := mo_) (pc := 56) dX12_isJourney_56 rfl rfl ?_
                    refine pw_callV (c := 12) (o := mo_) (As := []) (rest := [ii_ r]) (pc := 57) dX12_isJourney_57 (c_riders hM b1) lX12_334 mX12_riders vX12_riders (im_mo_ hM) k_mo_ rfl rfl rfl (by decide) ⟨Nat.zero_le _, Nat.zero_le _⟩ (Nat.le_of_ble_eq_true rfl) (k_i (fun z57 h57 y57 q57 => ?_))
                    obtain ⟨rfl, rfl⟩ := q57
                    have n_b1_mRoads : b1 mRoads = h mRoads := ((show b1 mRoads = hq mRoads from (bf mRoads (by decide))).trans (show hq mRoads = h mRoads from (af mRoads (by decide))))
                    rw [n_b1_mRoads] at y57 ⊢
                    refine pw_icmp_ge (t := 141) (pc := 60) dX12_isJourney_60 (by decide) (by first | omega | (simp only [n_a1_mRoads, n_b1_mRoads, n_hq_mRoads]; omega)) (by first | omega | (simp only [n_a1_mRoads, n_b1_mRoads, n_hq_mRoads]; omega)) (fun c60 => ?_) (fun c60 => ?_)
                    · have nb : b1 mRoads = h mRoads := by rw [bf mRoads (by decide)]; exact nq
                      have s_b1 : ∀ x, 0 ≤ x → x < b1 mRoads 2 → 0 ≤ b1 mSits x ∧ b1 mSits x ≤ 3 := fun x x0 x1 => by rw [nb] at x1; rw [(bs x x0 (by omega)).1]; exact (bs x x0 (by omega)).2
                      refine pw_aload_n (z := mo_) (pc := 141) dX12_isJourney_141 rfl rfl ?_
                      refine pw_callV (c := 12) (o := mo_) (As := []) (rest := []) (pc := 142) dX12_isJourney_142 (c_planOf hM b1 (by rw [nb]; exact hS) (by rw [nb]; exact hR) s_b1) lX12_504 mX12_planOf vX12_planOf (im_mo_ hM) k_mo_ rfl rfl rfl (by decide) ⟨Nat.zero_le _, Nat.zero_le _⟩ (Nat.le_of_ble_eq_true rfl) (k_i (fun z142 h142 y142 q142 => ?_))
                      obtain ⟨rfl, w142⟩ := q142
                      refine pw_istore (lv1 := [some (rr_ G mo_), some (ii_ k), some (ii_ is), some (ii_ t), some (ii_ z142), none]) (pc := 145) dX12_isJourney_145 (by decide) rfl rfl ?_
                      have pe : z142 = (cpl_ (h mRoads) K q.2.1 t) := by rw [w142, nb]; exact pln_cg (fun e e0 e1 => (bs e e0 (by omega)).1)
                      have pb := pln_b (si := b1 mSits) (b1 mRoads 2).toNat (by rw [nb]; omega) (fun x x0 x1 => s_b1 x x0 (by omega))
                      rw [← w142, nb] at pb
                      have p256 : (4 : Int) ^ (h mRoads 2).toNat ≤ 256 := by
                        have h5 : h mRoads 2 = 0 ∨ h mRoads 2 = 1 ∨ h mRoads 2 = 2 ∨ h mRoads 2 = 3 ∨ h mRoads 2 = 4 := by omega
                        rcases h5 with h5 | h5 | h5 | h5 | h5 <;> rw [h5] <;> decide
                      have J168 : ∀ (v : Int) (h2 : PH_), (v = 1 ∧ (lpl_ (h mRoads) (cpl_ (h mRoads) K q.2.1 t)) ∨ v = 0 ∧ ¬ (lpl_ (h mRoads) (cpl_ (h mRoads) K q.2.1 t))) → (off_ [mSits] b1 h2) → (∀ x, 0 ≤ x → x < h mRoads 2 → h2 mSits x = dg_ (h mRoads 2) (cpl_ (h mRoads) K q.2.1 t) x) → PW G RX12 cX12_isJourney 6 (some .boolean) (rm_ 5) 0 0 (zm_ G (qi_ (fun z h' => off_ [mTotals, mSeatsThen, mFacts, mPile, mSits, mCalledPlans] h h' ∧ (z = 0 ∧ cjn_ (h mRoads) P K (h mRoads 1).toNat = none ∨ z = 1 ∧ ∃ q, cjn_ (h mRoads) P K (h mRoads 1).toNat = some q ∧ (∀ r, 0 ≤ r → r < h mRoads 2 → h' mTotals r = q.1 r ∧ -1000000 ≤ q.1 r ∧ q.1 r ≤ 1000000) ∧ (∀ x, 0 ≤ x → x < h mRoads 1 → h' mCalledPlans x = q.2.2 x))))) 168 [some (rr_ G mo_), some (ii_ k), some (ii_ is), some (ii_ t), some (ii_ z142), none] [ii_ v] h2 := by
                        intro v h2 hv vf sd
                        have n2 : h2 mRoads = h mRoads := by rw [vf mRoads (by decide)]; exact nb
                        have vv := dj_r hv
                        refine pw_istore_n (lv1 := [some (rr_ G mo_), some (ii_ k), some (ii_ v), some (ii_ t), some (ii_ z142), none]) (pc := 168) dX12_isJourney_168 rfl (by decide) rfl rfl ?_
                        refine pw_iconst (pc := 169) dX12_isJourney_169 ?_
                        refine pw_istore (lv1 := [some (rr_ G mo_), some (ii_ k), some (ii_ v), some (ii_ t), some (ii_ z142), some (ii_ 0)]) (pc := 170) dX12_isJourney_170 (by decide) rfl rfl ?_
                        have L172 : ∀ (nn : Nat) (r : Int) (c1 : PH_), (0 ≤ r ∧ r ≤ h mRoads 2) → (off_ [mTotals, mFacts, mPile] h2 c1) → (v = 1 → ∀ x, 0 ≤ x → x < h mRoads 2 → c1 mTotals x = hq mTotals x + (if x < r then (wsi_ (h mRoads) P (dg_ (h mRoads 2) (cpl_ (h mRoads) K q.2.1 t)) x t - (if 0 < t ∧ ¬ q.2.1 x = dg_ (h mRoads 2) (cpl_ (h mRoads) K q.2.1 t) x then h mRoads 4 else 0)) else 0)) → ((h mRoads 2 - r + 1 : Int) ≤ nn) → PW G RX12 cX12_isJourney 6 (some .boolean) (rm_ 5) 0 0 (zm_ G (qi_ (fun z h' => off_ [mTotals, mSeatsThen, mFacts, mPile, mSits, mCalledPlans] h h' ∧ (z = 0 ∧ cjn_ (h mRoads) P K (h mRoads 1).toNat = none ∨ z = 1 ∧ ∃ q, cjn_ (h mRoads) P K (h mRoads 1).toNat = some q ∧ (∀ r, 0 ≤ r → r < h mRoads 2 → h' mTotals r = q.1 r ∧ -1000000 ≤ q.1 r ∧ q.1 r ≤ 1000000) ∧ (∀ x, 0 ≤ x → x < h mRoads 1 → h' mCalledPlans x = q.2.2 x))))) 172 [some (rr_ G mo_), some (ii_ k), some (ii_ v), some (ii_ t), some (ii_ z142), some (ii_ r)] [] c1 := by
                          intro nn
                          induction nn with
                          | zero => intro r c1 ck cf ct ams; exfalso; omega
                          | succ nn ih172 =>
                            intro r c1 ck cf ct ams
                            refine pw_iload (z := r) (pc := 172) dX12_isJourney_172 rfl ?_
                            refine pw_aload_n (z := mo_) (pc := 174) dX12_isJourney_174 rfl rfl ?_
                            refine pw_callV (c := 12) (o := mo_) (As := []) (rest := [ii_ r]) (pc := 175) dX12_isJourney_175 (c_riders hM c1) lX12_334 mX12_riders vX12_riders (im_mo_ hM) k_mo_ rfl rfl rfl (by decide) ⟨Nat.zero_le _, Nat.zero_le _⟩ (Nat.le_of_ble_eq_true rfl) (k_i (fun z175 h175 y175 q175 => ?_))
                            obtain ⟨rfl, rfl⟩ := q175
                            have n_c1_mRoads : c1 mRoads = h mRoads := ((((show c1 mRoads = h2 mRoads from (cf mRoads (by decide))).trans (show h2 mRoads = b1 mRoads from (vf mRoads (by decide)))).trans (show b1 mRoads = hq mRoads from (bf mRoads (by decide)))).trans (show hq mRoads = h mRoads from (af mRoads (by decide))))
                            rw [n_c1_mRoads] at y175 ⊢
                            refine pw_icmp_ge (t := 253) (pc := 178) dX12_isJourney_178 (by decide) (by first | omega | (simp only [n_a1_mRoads, n_b1_mRoads, n_c1_mRoads, n_hq_mRoads]; omega)) (by first | omega | (simp only [n_a1_mRoads, n_b1_mRoads, n_c1_mRoads, n_hq_mRoads]; omega)) (fun c178 => ?_) (fun c178 => ?_)
                            · refine pw_iconst (pc := 253) dX12_isJourney_253 ?_
                              refine pw_istore (lv1 := [some (rr_ G mo_), some (ii_ k), some (ii_ v), some (ii_ t), some (ii_ z142), some (ii_ 0)]) (pc := 254) dX12_isJourney_254 (by decide) rfl rfl ?_
                              have L256 : ∀ (nn : Nat) (r6 : Int) (d1 : PH_), (0 ≤ r6 ∧ r6 ≤ h mRoads 2) → (off_ [mSeatsThen] c1 d1) → (∀ x, 0 ≤ x → x < r6 → d1 mSeatsThen x = h2 mSits x) → ((h mRoads 2 - r6 + 1 : Int) ≤ nn) → PW G RX12 cX12_isJourney 6 (some .boolean) (rm_ 5) 0 0 (zm_ G (qi_ (fun z h' => off_ [mTotals, mSeatsThen, mFacts, mPile, mSits, mCalledPlans] h h' ∧ (z = 0 ∧ cjn_ (h mRoads) P K (h mRoads 1).toNat = none ∨ z = 1 ∧ ∃ q, cjn_ (h mRoads) P K (h mRoads 1).toNat = some q ∧ (∀ r, 0 ≤ r → r < h mRoads 2 → h' mTotals r = q.1 r ∧ -1000000 ≤ q.1 r ∧ q.1 r ≤ 1000000) ∧ (∀ x, 0 ≤ x → x < h mRoads 1 → h' mCalledPlans x = q.2.2 x))))) 256 [some (rr_ G mo_), some (ii_ k), some (ii_ v), some (ii_ t), some (ii_ z142), some (ii_ r6)] [] d1 := by
                                intro nn
                                induction nn with
                                | zero => intro r6 d1 dk df ds ams; exfalso; omega
                                | succ nn ih256 =>
                                  intro r6 d1 dk df ds ams
                                  refine pw_iload (z := r6) (pc := 256) dX12_isJourney_256 rfl ?_
                                  refine pw_aload_n (z := mo_) (pc := 258) dX12_isJourney_258 rfl rfl ?_
                                  refine pw_callV (c := 12) (o := mo_) (As := []) (rest := [ii_ r6]) (pc := 259) dX12_isJourney_259 (c_riders hM d1) lX12_334 mX12_riders vX12_riders (im_mo_ hM) k_mo_ rfl rfl rfl (by decide) ⟨Nat.zero_le _, Nat.zero_le _⟩ (Nat.le_of_ble_eq_true rfl) (k_i (fun z259 h259 y259 q259 => ?_))
                                  obtain ⟨rfl, rfl⟩ := q259
                                  have n_d1_mRoads : d1 mRoads = h mRoads := (((((show d1 mRoads = c1 mRoads from (df mRoads (by decide))).trans (show c1 mRoads = h2 mRoads from (cf mRoads (by decide)))).trans (show h2 mRoads = b1 mRoads from (vf mRoads (by decide)))).trans (show b1 mRoads = hq mRoads from (bf mRoads (by decide)))).trans (show hq mRoads = h mRoads from (af mRoads (by decide))))
                                  rw [n_d1_mRoads] at y259 ⊢
                                  refine pw_icmp_ge (t := 285) (pc := 262) dX12_isJourney_262 (by decide) (by first | omega | (simp only [n_a1_mRoads, n_b1_mRoads, n_c1_mRoads, n_d1_mRoads, n_hq_mRoads]; omega)) (by first | omega | (simp only [n_a1_mRoads, n_b1_mRoads, n_c1_mRoads, n_d1_mRoads, n_hq_mRoads]; omega)) (fun c262 => ?_) (fun c262 => ?_)
                                  · refine pw_aload_n (z := mo_) (pc := 285) dX12_isJourney_285 rfl rfl ?_
                                    refine pw_getR (r := mCalledPlans) (pc := 286) dX12_isJourney_286 fX12_179 (im_mo_ hM) k_mo_ rfl fr_mCalledPlans ?_
                                    refine pw_iload_n (z := t) (pc := 289) dX12_isJourney_289 rfl rfl ?_
                                    refine pw_iload (z := z142) (pc := 290) dX12_isJourney_290 rfl ?_
                                    refine pw_iast (pc := 292) dX12_isJourney_292 (im_mCalledPlans hM) k_mCalledPlans 5 l_mCalledPlans (by first | omega | (simp only [n_a1_mRoads, n_b1_mRoads, n_c1_mRoads, n_d1_mRoads, n_hq_mRoads]; omega)) (by first | omega | (simp only [n_a1_mRoads, n_b1_mRoads, n_c1_mRoads, n_d1_mRoads, n_hq_mRoads]; omega)) (by first | omega | (simp only [n_a1_mRoads, n_b1_mRoads, n_c1_mRoads, n_d1_mRoads, n_hq_mRoads]; omega)) (by first | omega | (simp only [n_a1_mRoads, n_b1_mRoads, n_c1_mRoads, n_d1_mRoads, n_hq_mRoads]; omega)) ?_
                                    obtain ⟨g292, e292⟩ : ∃ x, x = up_ d1 mCalledPlans t z142 := ⟨_, rfl⟩
                                    refine pw_heq e292 ?_
                                    have qf : off_ [mTotals, mSeatsThen, mFacts, mPile, mSits, mCalledPlans] h g292 := by rw [e292]; exact off_up (off_tr (off_tr (off_tr (off_tr af (off_mo bf (by decide))) (off_mo vf (by decide))) (off_mo cf (by decide))) (off_mo df (by decide))) (by decide)
                                    have vv := dj_r hv
                                    have rR : r6 = h mRoads 2 := by omega
                                    refine pw_iinc (z := t) (lv1 := [some (rr_ G mo_), some (ii_ k), some (ii_ v), some (ii_ (t + 1)), some (ii_ z142), some (ii_ r6)]) (pc := 293) dX12_isJourney_293 rfl (by decide) rfl rfl ?_
                                    refine pw_goto (t := 39) (pc := 296) dX12_isJourney_296 (by decide) ?_
                                    refine pw_less (lv1 := [some (rr_ G mo_), some (ii_ k), some (ii_ v), some (ii_ (t + 1)), none, none]) rfl (by intro i v; (match i with | 0 => simp | 1 => simp | 2 => simp | 3 => simp | 4 => simp | 5 => simp | n + 6 => simp)) ?_
                                    exact ih39 _ _ (cnx_ (h mRoads) P K t q) _ (by omega) (vv) (qf) (by
                                              rw [cjn_s ak.1 aj]
                                              refine ⟨fun e => if_f (dj_0 hv e), fun e => ?_⟩
                                              have lv := dj_1 hv (by omega)
                                              have g0 : ∀ x, 0 ≤ x → x < h mRoads 2 → g292 mTotals x = hq mTotals x + (wsi_ (h mRoads) P (dg_ (h mRoads 2) (cpl_ (h mRoads) K q.2.1 t)) x t - (if 0 < t ∧ ¬ q.2.1 x = dg_ (h mRoads 2) (cpl_ (h mRoads) K q.2.1 t) x then h mRoads 4 else 0)) := fun x x0 x1 => by
                                                rw [e292, up_off (by decide), df mTotals (by decide), ct e x x0 x1, if_pos (by omega)]
                                              refine ⟨if_t lv, fun x x0 x1 => ?_, fun x x0 x1 => ?_, fun x x0 x1 => ?_, fun x x0 x1 => ?_⟩
                                              · rw [g0 x x0 x1, at1 x x0 x1]; rfl
                                              · rw [e292, up_off (by decide), ds x x0 (by omega), sd x x0 x1]
                                                have := dg_b (h mRoads 2) (cpl_ (h mRoads) K q.2.1 t) x
                                                exact ⟨rfl, this.1, this.2⟩
                                              · rw [e292, up_at]
                                                show _ = ob_ q.2.2 t _ x
                                                unfold ob_
                                                by_cases c : x = t
                                                · rw [if_pos c, if_pos c]; exact pe
                                                · rw [if_neg c, if_neg c, df mCalledPlans (by decide), cf mCalledPlans (by decide), vf mCalledPlans (by decide), bf mCalledPlans (by decide)]; exact at3 x x0 (by omega)
                                              · rw [g0 x x0 x1]
                                                have w0 := wsi_b (h mRoads) P (dg_ (h mRoads 2) (cpl_ (h mRoads) K q.2.1 t)) x t
                                                have a0 := at4 x x0 x1
                                                split <;> omega) (by omega)
                                  · have nds : d1 mSits = h2 mSits := by rw [df mSits (by decide)]; exact cf mSits (by decide)
                                    have nd : d1 mRoads = h mRoads := by rw [df mRoads (by decide), cf mRoads (by decide)]; exact n2
                                    refine pw_aload_n (z := mo_) (pc := 265) dX12_isJourney_265 rfl rfl ?_
                                    refine pw_getR (r := mSeatsThen) (pc := 266) dX12_isJourney_266 fX12_182 (im_mo_ hM) k_mo_ rfl fr_mSeatsThen ?_
                                    refine pw_iload (z := r6) (pc := 269) dX12_isJourney_269 rfl ?_
                                    refine pw_aload_n (z := mo_) (pc := 271) dX12_isJourney_271 rfl rfl ?_
                                    refine pw_getR (r := mSits) (pc := 272) dX12_isJourney_272 fX12_137 (im_mo_ hM) k_mo_ rfl fr_mSits ?_
                                    refine pw_iload (z := r6) (pc := 275) dX12_isJourney_275 rfl ?_
                                    refine pw_iald (pc := 277) dX12_isJourney_277 (im_mSits hM) k_mSits 4 l_mSits (by first | omega | (simp only [n_a1_mRoads, n_b1_mRoads, n_c1_mRoads, n_d1_mRoads, n_hq_mRoads]; omega)) (by first | omega | (simp only [n_a1_mRoads, n_b1_mRoads, n_c1_mRoads, n_d1_mRoads, n_hq_mRoads]; omega)) (by first | omega | (simp only [n_a1_mRoads, n_b1_mRoads, n_c1_mRoads, n_d1_mRoads, n_hq_mRoads]; omega)) (fun r277 => ?_)
                                    have n_d1_mSits : d1 mSits = h2 mSits := ((show d1 mSits = c1 mSits from (df mSits (by decide))).trans (show c1 mSits = h2 mSits from (cf mSits (by decide))))
                                    rw [n_d1_mSits] at r277 ⊢
                                    refine pw_iast (pc := 278) dX12_isJourney_278 (im_mSeatsThen hM) k_mSeatsThen 4 l_mSeatsThen (by first | omega | (simp only [n_a1_mRoads, n_b1_mRoads, n_c1_mRoads, n_d1_mRoads, n_d1_mSits, n_hq_mRoads]; omega)) (by first | omega | (simp only [n_a1_mRoads, n_b1_mRoads, n_c1_mRoads, n_d1_mRoads, n_d1_mSits, n_hq_mRoads]; omega)) (by first | omega | (simp only [n_a1_mRoads, n_b1_mRoads, n_c1_mRoads, n_d1_mRoads, n_d1_mSits, n_hq_mRoads]; omega)) (by first | omega | (simp only [n_a1_mRoads, n_b1_mRoads, n_c1_mRoads, n_d1_mRoads, n_d1_mSits, n_hq_mRoads]; omega)) ?_
                                    obtain ⟨g278, e278⟩ : ∃ x, x = up_ d1 mSeatsThen r6 (h2 mSits r6) := ⟨_, rfl⟩
                                    refine pw_heq e278 ?_
                                    refine pw_iinc (z := r6) (lv1 := [some (rr_ G mo_), some (ii_ k), some (ii_ v), some (ii_ t), some (ii_ z142), some (ii_ (r6 + 1))]) (pc := 279) dX12_isJourney_279 rfl (by decide) rfl rfl ?_
                                    refine pw_goto (t := 256) (pc := 282) dX12_isJourney_282 (by decide) ?_
                                    exact ih256 _ _ (by omega) (by rw [e278]; exact off_up df (by decide)) (fun x x0 x1 => by rw [e278, up_at]; by_cases c : x = r6; exact (by rw [if_pos c, c]); exact (by rw [if_neg c]; exact ds x x0 (by omega))) (by omega)
                              exact L256 _ _ _ (by omega) (off_rf) (fun x _ _ => by omega) (Int.self_le_toNat _)
                            · refine pw_iload_n (z := v) (pc := 181) dX12_isJourney_181 rfl rfl ?_
                              refine pw_if_eq (t := 253) (pc := 182) dX12_isJourney_182 (by decide) (by first | omega | (simp only [n_a1_mRoads, n_b1_mRoads, n_c1_mRoads, n_hq_mRoads]; omega)) (fun c182 => ?_) (fun c182 => ?_)
                              · refine pw_iconst (pc := 253) dX12_isJourney_253 ?_
                                refine pw_istore (lv1 := [some (rr_ G mo_), some (ii_ k), some (ii_ v), some (ii_ t), some (ii_ z142), some (ii_ 0)]) (pc := 254) dX12_isJourney_254 (by decide) rfl rfl ?_
                                have L256 : ∀ (nn : Nat) (r6 : Int) (d1 : PH_), (0 ≤ r6 ∧ r6 ≤ h mRoads 2) → (off_ [mSeatsThen] c1 d1) → (∀ x, 0 ≤ x → x < r6 → d1 mSeatsThen x = h2 mSits x) → ((h mRoads 2 - r6 + 1 : Int) ≤ nn) → PW G RX12 cX12_isJourney 6 (some .boolean) (rm_ 5) 0 0 (zm_ G (qi_ (fun z h' => off_ [mTotals, mSeatsThen, mFacts, mPile, mSits, mCalledPlans] h h' ∧ (z = 0 ∧ cjn_ (h mRoads) P K (h mRoads 1).toNat = none ∨ z = 1 ∧ ∃ q, cjn_ (h mRoads) P K (h mRoads 1).toNat = some q ∧ (∀ r, 0 ≤ r → r < h mRoads 2 → h' mTotals r = q.1 r ∧ -1000000 ≤ q.1 r ∧ q.1 r ≤ 1000000) ∧ (∀ x, 0 ≤ x → x < h mRoads 1 → h' mCalledPlans x = q.2.2 x))))) 256 [some (rr_ G mo_), some (ii_ k), some (ii_ v), some (ii_ t), some (ii_ z142), some (ii_ r6)] [] d1 := by
                                  intro nn
                                  induction nn with
                                  | zero => intro r6 d1 dk df ds ams; exfalso; omega
                                  | succ nn ih256 =>
                                    intro r6 d1 dk df ds ams
                                    refine pw_iload (z := r6) (pc := 256) dX12_isJourney_256 rfl ?_
                                    refine pw_aload_n (z := mo_) (pc := 258) dX12_isJourney_258 rfl rfl ?_
                                    refine pw_callV (c := 12) (o := mo_) (As := []) (rest := [ii_ r6]) (pc := 259) dX12_isJourney_259 (c_riders hM d1) lX12_334 mX12_riders vX12_riders (im_mo_ hM) k_mo_ rfl rfl rfl (by decide) ⟨Nat.zero_le _, Nat.zero_le _⟩ (Nat.le_of_ble_eq_true rfl) (k_i (fun z259 h259 y259 q259 => ?_))
                                    obtain ⟨rfl, rfl⟩ := q259
                                    have n_d1_mRoads : d1 mRoads = h mRoads := (((((show d1 mRoads = c1 mRoads from (df mRoads (by decide))).trans (show c1 mRoads = h2 mRoads from (cf mRoads (by decide)))).trans (show h2 mRoads = b1 mRoads from (vf mRoads (by decide)))).trans (show b1 mRoads = hq mRoads from (bf mRoads (by decide)))).trans (show hq mRoads = h mRoads from (af mRoads (by decide))))
                                    rw [n_d1_mRoads] at y259 ⊢
                                    refine pw_icmp_ge (t := 285) (pc := 262) dX12_isJourney_262 (by decide) (by first | omega | (simp only [n_a1_mRoads, n_b1_mRoads, n_c1_mRoads, n_d1_mRoads, n_hq_mRoads]; omega)) (by first | omega | (simp only [n_a1_mRoads, n_b1_mRoads, n_c1_mRoads, n_d1_mRoads, n_hq_mRoads]; omega)) (fun c262 => ?_) (fun c262 => ?_)
                                    · refine pw_aload_n (z := mo_) (pc := 285) dX12_isJourney_285 rfl rfl ?_
                                      refine pw_getR (r := mCalledPlans) (pc := 286) dX12_isJourney_286 fX12_179 (im_mo_ hM) k_mo_ rfl fr_mCalledPlans ?_
                                      refine pw_iload_n (z := t) (pc := 289) dX12_isJourney_289 rfl rfl ?_
                                      refine pw_iload (z := z142) (pc := 290) dX12_isJourney_290 rfl ?_
                                      refine pw_iast (pc := 292) dX12_isJourney_292 (im_mCalledPlans hM) k_mCalledPlans 5 l_mCalledPlans (by first | omega | (simp only [n_a1_mRoads, n_b1_mRoads, n_c1_mRoads, n_d1_mRoads, n_hq_mRoads]; omega)) (by first | omega | (simp only [n_a1_mRoads, n_b1_mRoads, n_c1_mRoads, n_d1_mRoads, n_hq_mRoads]; omega)) (by first | omega | (simp only [n_a1_mRoads, n_b1_mRoads, n_c1_mRoads, n_d1_mRoads, n_hq_mRoads]; omega)) (by first | omega | (simp only [n_a1_mRoads, n_b1_mRoads, n_c1_mRoads, n_d1_mRoads, n_hq_mRoads]; omega)) ?_
                                      obtain ⟨g292, e292⟩ : ∃ x, x = up_ d1 mCalledPlans t z142 := ⟨_, rfl⟩
                                      refine pw_heq e292 ?_
                                      have qf : off_ [mTotals, mSeatsThen, mFacts, mPile, mSits, mCalledPlans] h g292 := by rw [e292]; exact off_up (off_tr (off_tr (off_tr (off_tr af (off_mo bf (by decide))) (off_mo vf (by decide))) (off_mo cf (by decide))) (off_mo df (by decide))) (by decide)
                                      have vv := dj_r hv
                                      have rR : r6 = h mRoads 2 := by omega
                                      refine pw_iinc (z := t) (lv1 := [some (rr_ G mo_), some (ii_ k), some (ii_ v), some (ii_ (t + 1)), some (ii_ z142), some (ii_ r6)]) (pc := 293) dX12_isJourney_293 rfl (by decide) rfl rfl ?_
                                      refine pw_goto (t := 39) (pc := 296) dX12_isJourney_296 (by decide) ?_
                                      refine pw_less (lv1 := [some (rr_ G mo_), some (ii_ k), some (ii_ v), some (ii_ (t + 1)), none, none]) rfl (by intro i v; (match i with | 0 => simp | 1 => simp | 2 => simp | 3 => simp | 4 => simp | 5 => simp | n + 6 => simp)) ?_
                                      exact ih39 _ _ (cnx_ (h mRoads) P K t q) _ (by omega) (vv) (qf) (by
                                                rw [cjn_s ak.1 aj]
                                                refine ⟨fun e => if_f (dj_0 hv e), fun e => ?_⟩
                                                have lv := dj_1 hv (by omega)
                                                have g0 : ∀ x, 0 ≤ x → x < h mRoads 2 → g292 mTotals x = hq mTotals x + (wsi_ (h mRoads) P (dg_ (h mRoads 2) (cpl_ (h mRoads) K q.2.1 t)) x t - (if 0 < t ∧ ¬ q.2.1 x = dg_ (h mRoads 2) (cpl_ (h mRoads) K q.2.1 t) x then h mRoads 4 else 0)) := fun x x0 x1 => by
                                                  rw [e292, up_off (by decide), df mTotals (by decide), ct e x x0 x1, if_pos (by omega)]
                                                refine ⟨if_t lv, fun x x0 x1 => ?_, fun x x0 x1 => ?_, fun x x0 x1 => ?_, fun x x0 x1 => ?_⟩
                                                · rw [g0 x x0 x1, at1 x x0 x1]; rfl
                                                · rw [e292, up_off (by decide), ds x x0 (by omega), sd x x0 x1]
                                                  have := dg_b (h mRoads 2) (cpl_ (h mRoads) K q.2.1 t) x
                                                  exact ⟨rfl, this.1, this.2⟩
                                                · rw [e292, up_at]
                                                  show _ = ob_ q.2.2 t _ x
                                                  unfold ob_
                                                  by_cases c : x = t
                                                  · rw [if_pos c, if_pos c]; exact pe
                                                  · rw [if_neg c, if_neg c, df mCalledPlans (by decide), cf mCalledPlans (by decide), vf mCalledPlans (by decide), bf mCalledPlans (by decide)]; exact at3 x x0 (by omega)
                                                · rw [g0 x x0 x1]
                                                  have w0 := wsi_b (h mRoads) P (dg_ (h mRoads 2) (cpl_ (h mRoads) K q.2.1 t)) x t
                                                  have a0 := at4 x x0 x1
                                                  split <;> omega) (by omega)
                                    · have nds : d1 mSits = h2 mSits := by rw [df mSits (by decide)]; exact cf mSits (by decide)
                                      have nd : d1 mRoads = h mRoads := by rw [df mRoads (by decide), cf mRoads (by decide)]; exact n2
                                      refine pw_aload_n (z := mo_) (pc := 265) dX12_isJourney_265 rfl rfl ?_
                                      refine pw_getR (r := mSeatsThen) (pc := 266) dX12_isJourney_266 fX12_182 (im_mo_ hM) k_mo_ rfl fr_mSeatsThen ?_
                                      refine pw_iload (z := r6) (pc := 269) dX12_isJourney_269 rfl ?_
                                      refine pw_aload_n (z := mo_) (pc := 271) dX12_isJourney_271 rfl rfl ?_
                                      refine pw_getR (r := mSits) (pc := 272) dX12_isJourney_272 fX12_137 (im_mo_ hM) k_mo_ rfl fr_mSits ?_
                                      refine pw_iload (z := r6) (pc := 275) dX12_isJourney_275 rfl ?_
                                      refine pw_iald (pc := 277) dX12_isJourney_277 (im_mSits hM) k_mSits 4 l_mSits (by first | omega | (simp only [n_a1_mRoads, n_b1_mRoads, n_c1_mRoads, n_d1_mRoads, n_hq_mRoads]; omega)) (by first | omega | (simp only [n_a1_mRoads, n_b1_mRoads, n_c1_mRoads, n_d1_mRoads, n_hq_mRoads]; omega)) (by first | omega | (simp only [n_a1_mRoads, n_b1_mRoads, n_c1_mRoads, n_d1_mRoads, n_hq_mRoads]; omega)) (fun r277 => ?_)
                                      have n_d1_mSits : d1 mSits = h2 mSits := ((show d1 mSits = c1 mSits from (df mSits (by decide))).trans (show c1 mSits = h2 mSits from (cf mSits (by decide))))
                                      rw [n_d1_mSits] at r277 ⊢
                                      refine pw_iast (pc := 278) dX12_isJourney_278 (im_mSeatsThen hM) k_mSeatsThen 4 l_mSeatsThen (by first | omega | (simp only [n_a1_mRoads, n_b1_mRoads, n_c1_mRoads, n_d1_mRoads, n_d1_mSits, n_hq_mRoads]; omega)) (by first | omega | (simp only [n_a1_mRoads, n_b1_mRoads, n_c1_mRoads, n_d1_mRoads, n_d1_mSits, n_hq_mRoads]; omega)) (by first | omega | (simp only [n_a1_mRoads, n_b1_mRoads, n_c1_mRoads, n_d1_mRoads, n_d1_mSits, n_hq_mRoads]; omega)) (by first | omega | (simp only [n_a1_mRoads, n_b1_mRoads, n_c1_mRoads, n_d1_mRoads, n_d1_mSits, n_hq_mRoads]; omega)) ?_
                                      obtain ⟨g278, e278⟩ : ∃ x, x = up_ d1 mSeatsThen r6 (h2 mSits r6) := ⟨_, rfl⟩
                                      refine pw_heq e278 ?_
                                      refine pw_iinc (z := r6) (lv1 := [some (rr_ G mo_), some (ii_ k), some (ii_ v), some (ii_ t), some (ii_ z142), some (ii_ (r6 + 1))]) (pc := 279) dX12_isJourney_279 rfl (by decide) rfl rfl ?_
                                      refine pw_goto (t := 256) (pc := 282) dX12_isJourney_282 (by decide) ?_
                                      exact ih256 _ _ (by omega) (by rw [e278]; exact off_up df (by decide)) (fun x x0 x1 => by rw [e278, up_at]; by_cases c : x = r6; exact (by rw [if_pos c, c]); exact (by rw [if_neg c]; exact ds x x0 (by omega))) (by omega)
                                exact L256 _ _ _ (by omega) (off_rf) (fun x _ _ => by omega) (Int.self_le_toNat _)
                              · have nc : c1 mRoads = h mRoads := by rw [cf mRoads (by decide)]; exact n2
                                have ncs : c1 mSits = h2 mSits := cf mSits (by decide)
                                have v1 : v = 1 := by omega
                                have sdr := dg_b (h mRoads 2) (cpl_ (h mRoads) K q.2.1 t) r
                                have sr2 := sd r (by omega) (by omega)
                                have ctr : c1 mTotals r = hq mTotals r := by rw [ct v1 r (by omega) (by omega), if_neg (by omega), Int.add_zero]
                                have a4r := at4 r (by omega) (by omega)
                                have nct : hq mSeatsThen r = q.2.1 r := (at2 r (by omega) (by omega)).1
                                refine pw_aload_n (z := mo_) (pc := 185) dX12_isJourney_185 rfl rfl ?_
                                refine pw_getR (r := mTotals) (pc := 186) dX12_isJourney_186 fX12_152 (im_mo_ hM) k_mo_ rfl fr_mTotals ?_
                                refine pw_iload (z := r) (pc := 189) dX12_isJourney_189 rfl ?_
                                refine pw_dup2 (pc := 191) dX12_isJourney_191 rfl rfl ?_
                                refine pw_iald (pc := 192) dX12_isJourney_192 (im_mTotals hM) k_mTotals 20 l_mTotals (by first | omega | (simp only [n_a1_mRoads, n_b1_mRoads, n_c1_mRoads, n_hq_mRoads]; omega)) (by first | omega | (simp only [n_a1_mRoads, n_b1_mRoads, n_c1_mRoads, n_hq_mRoads]; omega)) (by first | omega | (simp only [n_a1_mRoads, n_b1_mRoads, n_c1_mRoads, n_hq_mRoads]; omega)) (fun r192 => ?_)
                                rw [ctr]
                                refine pw_aload_n (z := mo_) (pc := 193) dX12_isJourney_193 rfl rfl ?_
                                refine pw_iload (z := r) (pc := 194) dX12_isJourney_194 rfl ?_
                                refine pw_aload_n (z := mo_) (pc := 196) dX12_isJourney_196 rfl rfl ?_
                                refine pw_getR (r := mSits) (pc := 197) dX12_isJourney_197 fX12_137 (im_mo_ hM) k_mo_ rfl fr_mSits ?_
                                refine pw_iload (z := r) (pc := 200) dX12_isJourney_200 rfl ?_
                                refine pw_iald (pc := 202) dX12_isJourney_202 (im_mSits hM) k_mSits 4 l_mSits (by first | omega | (simp only [n_a1_mRoads, n_b1_mRoads, n_c1_mRoads, n_hq_mRoads]; omega)) (by first | omega | (simp only [n_a1_mRoads, n_b1_mRoads, n_c1_mRoads, n_hq_mRoads]; omega)) (by first | omega | (simp only [n_a1_mRoads, n_b1_mRoads, n_c1_mRoads, n_hq_mRoads]; omega)) (fun r202 => ?_)
                                have n_c1_mSits : c1 mSits = h2 mSits := (cf mSits (by decide))
                                rw [n_c1_mSits] at r202 ⊢
                                rw [sr2]
                                refine pw_iload_n (z := t) (pc := 203) dX12_isJourney_203 rfl rfl ?_
                                refine pw_aload_n (z := mo_) (pc := 204) dX12_isJourney_204 rfl rfl ?_
                                refine pw_iload (z := r) (pc := 205) dX12_isJourney_205 rfl ?_
                                refine pw_callV (c := 12) (o := mo_) (As := [ii_ r]) (rest := [ii_ t, ii_ (dg_ (h mRoads 2) (cpl_ (h mRoads) K q.2.1 t) r), ii_ r, rr_ G mo_, ii_ (hq mTotals r), ii_ r, rr_ G mTotals]) (pc := 207) dX12_isJourney_207 (c_tipOf hM c1 (by rw [nc]; omega) (by rw [nc]; omega) (fun x x0 x1 => by rw [nc] at x1; rw [ncs, sd x x0 x1]; exact (dg_b _ _ _).2) r (by rw [nc]; omega) (by rw [ncs, sr2]; exact sdr.1)) lX12_399 mX12_tipOf vX12_tipOf (im_mo_ hM) k_mo_ rfl rfl rfl (by decide) ⟨Nat.zero_le _, Nat.zero_le _⟩ (Nat.le_of_ble_eq_true rfl) (k_i (fun z207 h207 y207 q207 => ?_))
                                obtain ⟨rfl, w207⟩ := q207
                                rw [nc, ncs] at w207
                                have tn := tip_nn (h mRoads) (h2 mSits) r (h mRoads 2).toNat
                                refine pw_callV (c := 12) (o := mo_) (As := [ii_ r, ii_ (dg_ (h mRoads 2) (cpl_ (h mRoads) K q.2.1 t) r), ii_ t, ii_ z207]) (rest := [ii_ (hq mTotals r), ii_ r, rr_ G mTotals]) (pc := 210) dX12_isJourney_210 (c_worthOn hM c1 (by rw [nc]; omega) (by rw [nc]; omega) P (by rw [nc, cf mOp (by decide), cf mArg (by decide), vf mOp (by decide), vf mArg (by decide), bf mOp (by decide), bf mArg (by decide), af mOp (by decide), af mArg (by decide)]; exact hw) r (dg_ (h mRoads 2) (cpl_ (h mRoads) K q.2.1 t) r) t z207 (by first | omega | (simp only [n_a1_mRoads, n_b1_mRoads, n_c1_mRoads, n_c1_mSits, n_hq_mRoads]; omega)) (by first | omega | (simp only [n_a1_mRoads, n_b1_mRoads, n_c1_mRoads, n_c1_mSits, n_hq_mRoads]; omega)) (by first | omega | (simp only [n_a1_mRoads, n_b1_mRoads, n_c1_mRoads, n_c1_mSits, n_hq_mRoads]; omega)) (by first | omega | (simp only [n_a1_mRoads, n_b1_mRoads, n_c1_mRoads, n_c1_mSits, n_hq_mRoads]; omega))) lX12_402 mX12_worthOn vX12_worthOn (im_mo_ hM) k_mo_ rfl rfl rfl (by decide) ⟨Nat.zero_le _, Nat.zero_le _⟩ (Nat.le_of_ble_eq_true rfl) (k_i (fun z210 h210 y210 q210 => ?_))
                                obtain ⟨f210, w210⟩ := q210
                                rw [nc] at w210
                                have w211 : z210 = wsi_ (h mRoads) P (dg_ (h mRoads 2) (cpl_ (h mRoads) K q.2.1 t)) r t := by
                                  rw [w210, w207]; unfold wsi_
                                  rw [tip_cg (ro := h mRoads) (si := h2 mSits) (sj := dg_ (h mRoads 2) (cpl_ (h mRoads) K q.2.1 t)) sr2 (fun e e0 e1 => sd e e0 (by omega))]
                                have wb := wsi_b (h mRoads) P (dg_ (h mRoads 2) (cpl_ (h mRoads) K q.2.1 t)) r t
                                have J244 : ∀ (v7 : Int), (v7 = (if 0 < t ∧ ¬ q.2.1 r = dg_ (h mRoads 2) (cpl_ (h mRoads) K q.2.1 t) r then h mRoads 4 else 0)) → PW G RX12 cX12_isJourney 6 (some .boolean) (rm_ 5) 0 0 (zm_ G (qi_ (fun z h' => off_ [mTotals, mSeatsThen, mFacts, mPile, mSits, mCalledPlans] h h' ∧ (z = 0 ∧ cjn_ (h mRoads) P K (h mRoads 1).toNat = none ∨ z = 1 ∧ ∃ q, cjn_ (h mRoads) P K (h mRoads 1).toNat = some q ∧ (∀ r, 0 ≤ r → r < h mRoads 2 → h' mTotals r = q.1 r ∧ -1000000 ≤ q.1 r ∧ q.1 r ≤ 1000000) ∧ (∀ x, 0 ≤ x → x < h mRoads 1 → h' mCalledPlans x = q.2.2 x))))) 244 [some (rr_ G mo_), some (ii_ k), some (ii_ v), some (ii_ t), some (ii_ z142), some (ii_ r)] [ii_ v7, ii_ z210, ii_ (hq mTotals r), ii_ r, rr_ G mTotals] h210 := by
                                  intro v7 v6
                                  refine pw_isub (pc := 244) dX12_isJourney_244 ?_
                                  refine pw_iadd (pc := 245) dX12_isJourney_245 ?_
                                  refine pw_iast (pc := 246) dX12_isJourney_246 (im_mTotals hM) k_mTotals 20 l_mTotals (by first | omega | (simp only [n_a1_mRoads, n_b1_mRoads, n_c1_mRoads, n_c1_mSits, n_hq_mRoads]; omega)) (by first | omega | (simp only [n_a1_mRoads, n_b1_mRoads, n_c1_mRoads, n_c1_mSits, n_hq_mRoads]; omega)) (by first | omega | (simp only [n_a1_mRoads, n_b1_mRoads, n_c1_mRoads, n_c1_mSits, n_hq_mRoads]; omega)) (by first | omega | (simp only [n_a1_mRoads, n_b1_mRoads, n_c1_mRoads, n_c1_mSits, n_hq_mRoads]; omega)) ?_
                                  obtain ⟨g246, e246⟩ : ∃ x, x = up_ h210 mTotals r ((hq mTotals r) + (z210 - v7)) := ⟨_, rfl⟩
                                  refine pw_heq e246 ?_
                                  refine pw_iinc (z := r) (lv1 := [some (rr_ G mo_), some (ii_ k), some (ii_ v), some (ii_ t), some (ii_ z142), some (ii_ (r + 1))]) (pc := 247) dX12_isJourney_247 rfl (by decide) rfl rfl ?_
                                  refine pw_goto (t := 172) (pc := 250) dX12_isJourney_250 (by decide) ?_
                                  exact ih172 _ _ (by omega) (by rw [e246]; exact off_up (off_tr cf (off_mo f210 (by decide))) (by decide)) (fun _ x x0 x1 => by
                                            rw [e246, up_at]
                                            by_cases c : x = r
                                            · rw [if_pos c, c, if_pos (by omega), w211, v6]
                                            · rw [if_neg c, f210 mTotals (by decide), ct v1 x x0 x1]
                                              by_cases c2 : x < r
                                              · rw [if_pos c2, if_pos (show x < r + 1 by omega)]
                                              · rw [if_neg c2, if_neg (show ¬ x < r + 1 by omega)]) (by omega)
                                refine pw_iload_n (z := t) (pc := 213) dX12_isJourney_213 rfl rfl ?_
                                refine pw_if_le (t := 243) (pc := 214) dX12_isJourney_214 (by decide) (by first | omega | (simp only [n_a1_mRoads, n_b1_mRoads, n_c1_mRoads, n_c1_mSits, n_hq_mRoads]; omega)) (fun c214 => ?_) (fun c214 => ?_)
                                · refine pw_iconst (pc := 243) dX12_isJourney_243 ?_
                                  exact J244 _ (by first | (rw [if_pos (by omega)]; done) | (rw [if_neg (by omega)]; done))
                                · refine pw_aload_n (z := mo_) (pc := 217) dX12_isJourney_217 rfl rfl ?_
                                  refine pw_getR (r := mSeatsThen) (pc := 218) dX12_isJourney_218 fX12_182 (im_mo_ hM) k_mo_ rfl fr_mSeatsThen ?_
                                  refine pw_iload (z := r) (pc := 221) dX12_isJourney_221 rfl ?_
                                  refine pw_iald (pc := 223) dX12_isJourney_223 (im_mSeatsThen hM) k_mSeatsThen 4 l_mSeatsThen (by first | omega | (simp only [n_a1_mRoads, n_b1_mRoads, n_c1_mRoads, n_c1_mSits, n_hq_mRoads]; omega)) (by first | omega | (simp only [n_a1_mRoads, n_b1_mRoads, n_c1_mRoads, n_c1_mSits, n_hq_mRoads]; omega)) (by first | omega | (simp only [n_a1_mRoads, n_b1_mRoads, n_c1_mRoads, n_c1_mSits, n_hq_mRoads]; omega)) (fun r223 => ?_)
                                  have n_h210_mSeatsThen : h210 mSeatsThen = hq mSeatsThen := ((((show h210 mSeatsThen = c1 mSeatsThen from (f210 mSeatsThen (by decide))).trans (show c1 mSeatsThen = h2 mSeatsThen from (cf mSeatsThen (by decide)))).trans (show h2 mSeatsThen = b1 mSeatsThen from (vf mSeatsThen (by decide)))).trans (show b1 mSeatsThen = hq mSeatsThen from (bf mSeatsThen (by decide))))
                                  rw [n_h210_mSeatsThen] at r223 ⊢
                                  refine pw_aload_n (z := mo_) (pc := 224) dX12_isJourney_224 rfl rfl ?_
                                  refine pw_getR (r := mSits) (pc := 225) dX12_isJourney_225 fX12_137 (im_mo_ hM) k_mo_ rfl fr_mSits ?_
                                  refine pw_iload (z := r) (pc := 228) dX12_isJourney_228 rfl ?_
                                  refine pw_iald (pc := 230) dX12_isJourney_230 (im_mSits hM) k_mSits 4 l_mSits (by first | omega | (simp only [n_a1_mRoads, n_b1_mRoads, n_c1_mRoads, n_c1_mSits, n_h210_mSeatsThen, n_hq_mRoads]; omega)) (by first | omega | (simp only [n_a1_mRoads, n_b1_mRoads, n_c1_mRoads, n_c1_mSits, n_h210_mSeatsThen, n_hq_mRoads]; omega)) (by first | omega | (simp only [n_a1_mRoads, n_b1_mRoads, n_c1_mRoads, n_c1_mSits, n_h210_mSeatsThen, n_hq_mRoads]; omega)) (fun r230 => ?_)
                                  have n_h210_mSits : h210 mSits = h2 mSits := ((show h210 mSits = c1 mSits from (f210 mSits (by decide))).trans (show c1 mSits = h2 mSits from (cf mSits (by decide))))
                                  rw [n_h210_mSits] at r230 ⊢
                                  rw [sr2]
                                  refine pw_icmp_eq (t := 243) (pc := 231) dX12_isJourney_231 (by decide) (by first | omega | (simp only [n_a1_mRoads, n_b1_mRoads, n_c1_mRoads, n_c1_mSits, n_h210_mSeatsThen, n_h210_mSits, n_hq_mRoads]; omega)) (by first | omega | (simp only [n_a1_mRoads, n_b1_mRoads, n_c1_mRoads, n_c1_mSits, n_h210_mSeatsThen, n_h210_mSits, n_hq_mRoads]; omega)) (fun c231 => ?_) (fun c231 => ?_)
                                  · refine pw_iconst (pc := 243) dX12_isJourney_243 ?_
                                    exact J244 _ (by first | (rw [if_pos (by omega)]; done) | (rw [if_neg (by omega)]; done))
                                  · refine pw_aload_n (z := mo_) (pc := 234) dX12_isJourney_234 rfl rfl ?_
                                    refine pw_getR (r := mRoads) (pc := 235) dX12_isJourney_235 fX12_97 (im_mo_ hM) k_mo_ rfl fr_mRoads ?_
                                    refine pw_iconst (pc := 238) dX12_isJourney_238 ?_
                                    refine pw_iald (pc := 239) dX12_isJourney_239 (im_mRoads hM) k_mRoads 160 l_mRoads (by first | omega | (simp only [n_a1_mRoads, n_b1_mRoads, n_c1_mRoads, n_c1_mSits, n_h210_mSeatsThen, n_h210_mSits, n_hq_mRoads]; omega)) (by first | omega | (simp only [n_a1_mRoads, n_b1_mRoads, n_c1_mRoads, n_c1_mSits, n_h210_mSeatsThen, n_h210_mSits, n_hq_mRoads]; omega)) (by first | omega | (simp only [n_a1_mRoads, n_b1_mRoads, n_c1_mRoads, n_c1_mSits, n_h210_mSeatsThen, n_h210_mSits, n_hq_mRoads]; omega)) (fun r239 => ?_)
                                    have n_h210_mRoads : h210 mRoads = h mRoads := (((((show h210 mRoads = c1 mRoads from (f210 mRoads (by decide))).trans (show c1 mRoads = h2 mRoads from (cf mRoads (by decide)))).trans (show h2 mRoads = b1 mRoads from (vf mRoads (by decide)))).trans (show b1 mRoads = hq mRoads from (bf mRoads (by decide)))).trans (show hq mRoads = h mRoads from (af mRoads (by decide))))
                                    rw [n_h210_mRoads] at r239 ⊢
                                    refine pw_goto (t := 244) (pc := 240) dX12_isJourney_240 (by decide) ?_
                                    exact J244 _ (by first | (rw [if_pos (by omega)]; done) | (rw [if_neg (by omega)]; done))
                        exact L172 _ _ _ (by omega) (off_rf) (fun _ x x0 x1 => by rw [if_neg (by omega), Int.add_zero, vf mTotals (by decide), bf mTotals (by decide)]) (Int.self_le_toNat _)
                      refine pw_aload_n (z := mo_) (pc := 147) dX12_isJourney_147 rfl rfl ?_
                      refine pw_iload (z := z142) (pc := 148) dX12_isJourney_148 rfl ?_
                      refine pw_callV (c := 12) (o := mo_) (As := [ii_ z142]) (rest := []) (pc := 150) dX12_isJourney_150 (c_reads hM b1 (by first | omega | (simp only [n_a1_mRoads, n_b1_mRoads, n_hq_mRoads]; omega)) (by first | omega | (simp only [n_a1_mRoads, n_b1_mRoads, n_hq_mRoads]; omega)) (z142) (by first | omega | (simp only [n_a1_mRoads, n_b1_mRoads, n_hq_mRoads]; omega))) lX12_393 mX12_reads vX12_reads (im_mo_ hM) k_mo_ rfl rfl rfl (by decide) ⟨Nat.zero_le _, Nat.zero_le _⟩ (Nat.le_of_ble_eq_true rfl) (k_i (fun z150 h150 y150 q150 => ?_))
                      obtain ⟨f150, d150, ⟨rfl, p150⟩ | ⟨rfl, p150⟩⟩ := q150
                      · have qq_h150 : h150 mRoads = b1 mRoads := f150 mRoads (by decide)
                        have b_h150 : ∀ r, 0 ≤ r → r < h150 mRoads 2 → h150 mSits r = dg_ (b1 mRoads 2) (z142) r := fun r r0 r1 => d150 (ro4_pos _ p150.1) r r0 (by rw [qq_h150] at r1; exact r1)
                        have s_h150 : ∀ r, 0 ≤ r → r < h150 mRoads 2 → 0 ≤ h150 mSits r ∧ h150 mSits r ≤ 3 := fun r r0 r1 => by rw [b_h150 r r0 r1]; exact dg_b _ _ _
                        have l_h150 : lwf_ (h150 mRoads) (h150 mSits) (h150 mRoads 2).toNat ↔ lp1_ (b1 mRoads) (z142) := by unfold lp1_; rw [qq_h150]; exact lwf_cg (fun e e0 e1 => b_h150 e e0 (by rw [qq_h150]; omega))
                        simp -failIfUnchanged only [n_b1_mRoads] at p150
                        refine pw_if_eq (t := 167) (pc := 153) dX12_isJourney_153 (by decide) (by first | omega | (simp only [n_a1_mRoads, n_b1_mRoads, n_hq_mRoads]; omega)) (fun c153 => absurd c153 (by decide)) (fun _ => ?_)
                        refine pw_aload_n (z := mo_) (pc := 156) dX12_isJourney_156 rfl rfl ?_
                        have n_h150_mRoads : h150 mRoads = h mRoads := (((show h150 mRoads = b1 mRoads from (f150 mRoads (by decide))).trans (show b1 mRoads = hq mRoads from (bf mRoads (by decide)))).trans (show hq mRoads = h mRoads from (af mRoads (by decide))))
                        refine pw_callV (c := 12) (o := mo_) (As := []) (rest := []) (pc := 157) dX12_isJourney_157 (c_isLawful hM h150 (by first | omega | (simp only [n_a1_mRoads, n_b1_mRoads, n_h150_mRoads, n_hq_mRoads]; omega)) (by first | omega | (simp only [n_a1_mRoads, n_b1_mRoads, n_h150_mRoads, n_hq_mRoads]; omega)) s_h150) lX12_396 mX12_isLawful vX12_isLawful (im_mo_ hM) k_mo_ rfl rfl rfl (by decide) ⟨Nat.zero_le _, Nat.zero_le _⟩ (Nat.le_of_ble_eq_true rfl) (k_i (fun z157 h157 y157 q157 => ?_))
                        obtain ⟨rfl, ⟨rfl, p157⟩ | ⟨rfl, p157⟩⟩ := q157
                        · rw [l_h150] at p157
                          simp -failIfUnchanged only [n_h150_mRoads] at p157
                          refine pw_if_eq (t := 167) (pc := 160) dX12_isJourney_160 (by decide) (by first | omega | (simp only [n_a1_mRoads, n_b1_mRoads, n_h150_mRoads, n_hq_mRoads]; omega)) (fun c160 => absurd c160 (by decide)) (fun _ => ?_)
                          refine pw_iconst (pc := 163) dX12_isJourney_163 ?_
                          refine pw_goto (t := 168) (pc := 164) dX12_isJourney_164 (by decide) ?_
                          exact J168 _ _ (by
                                  rw [← pe]
                                  first
                                  | exact Or.inl ⟨rfl, by simpa only [nb] using p150, by simpa only [nb] using p157⟩
                                  | exact Or.inr ⟨rfl, fun u => p150 (by simpa only [nb] using u.1)⟩
                                  | exact Or.inr ⟨rfl, fun u => p157 (by simpa only [nb] using u.2)⟩) (f150) (fun x x0 x1 => by rw [d150 (by omega) x x0 (by rw [nb]; exact x1), nb, pe])
                        · rw [l_h150] at p157
                          simp -failIfUnchanged only [n_h150_mRoads] at p157
                          refine pw_if_eq (t := 167) (pc := 160) dX12_isJourney_160 (by decide) (by first | omega | (simp only [n_a1_mRoads, n_b1_mRoads, n_h150_mRoads, n_hq_mRoads]; omega)) (fun _ => ?_) (fun c160 => absurd c160 (by decide))
                          refine pw_iconst (pc := 167) dX12_isJourney_167 ?_
                          exact J168 _ _ (by
                                  rw [← pe]
                                  first
                                  | exact Or.inl ⟨rfl, by simpa only [nb] using p150, by simpa only [nb] using p157⟩
                                  | exact Or.inr ⟨rfl, fun u => p150 (by simpa only [nb] using u.1)⟩
                                  | exact Or.inr ⟨rfl, fun u => p157 (by simpa only [nb] using u.2)⟩) (f150) (fun x x0 x1 => by rw [d150 (by omega) x x0 (by rw [nb]; exact x1), nb, pe])
                      · simp -failIfUnchanged only [n_b1_mRoads] at p150
                        refine pw_if_eq (t := 167) (pc := 153) dX12_isJourney_153 (by decide) (by first | omega | (simp only [n_a1_mRoads, n_b1_mRoads, n_hq_mRoads]; omega)) (fun _ => ?_) (fun c153 => absurd c153 (by decide))
                        refine pw_iconst (pc := 167) dX12_isJourney_167 ?_
                        exact J168 _ _ (by
                                rw [← pe]
                                first
                                | exact Or.inl ⟨rfl, by simpa only [nb] using p150, by simpa only [nb] using p157⟩
                                | exact Or.inr ⟨rfl, fun u => p150 (by simpa only [nb] using u.1)⟩
                                | exact Or.inr ⟨rfl, fun u => p157 (by simpa only [nb] using u.2)⟩) (f150) (fun x x0 x1 => by rw [d150 (by omega) x x0 (by rw [nb]; exact x1), nb, pe])
                    · have nb : b1 mRoads = h mRoads := by rw [bf mRoads (by decide)]; exact nq
                      have a2r := at2 r (by omega) (by omega)
                      have nst : b1 mSeatsThen = hq mSeatsThen := bf mSeatsThen (by decide)
                      refine pw_aload_n (z := mo_) (pc := 63) dX12_isJourney_63 rfl rfl ?_
                      refine pw_getR (r := mFacts) (pc := 64) dX12_isJourney_64 fX12_124 (im_mo_ hM) k_mo_ rfl fr_mFacts ?_
                      refine pw_iconst (pc := 67) dX12_isJourney_67 ?_
                      refine pw_aload_n (z := mo_) (pc := 68) dX12_isJourney_68 rfl rfl ?_
                      refine pw_getR (r := mSeatsThen) (pc := 69) dX12_isJourney_69 fX12_182 (im_mo_ hM) k_mo_ rfl fr_mSeatsThen ?_
                      refine pw_iload (z := r) (pc := 72) dX12_isJourney_72 rfl ?_
                      refine pw_iald (pc := 74) dX12_isJourney_74 (im_mSeatsThen hM) k_mSeatsThen 4 l_mSeatsThen (by first | omega | (simp only [n_a1_mRoads, n_b1_mRoads, n_hq_mRoads]; omega)) (by first | omega | (simp only [n_a1_mRoads, n_b1_mRoads, n_hq_mRoads]; omega)) (by first | omega | (simp only [n_a1_mRoads, n_b1_mRoads, n_hq_mRoads]; omega)) (fun r74 => ?_)
                      have n_b1_mSeatsThen : b1 mSeatsThen = hq mSeatsThen := (bf mSeatsThen (by decide))
                      rw [n_b1_mSeatsThen] at r74 ⊢
                      refine pw_iast (pc := 75) dX12_isJourney_75 (im_mFacts hM) k_mFacts 5 l_mFacts (by first | omega | (simp only [n_a1_mRoads, n_b1_mRoads, n_b1_mSeatsThen, n_hq_mRoads]; omega)) (by first | omega | (simp only [n_a1_mRoads, n_b1_mRoads, n_b1_mSeatsThen, n_hq_mRoads]; omega)) (by first | omega | (simp only [n_a1_mRoads, n_b1_mRoads, n_b1_mSeatsThen, n_hq_mRoads]; omega)) (by first | omega | (simp only [n_a1_mRoads, n_b1_mRoads, n_b1_mSeatsThen, n_hq_mRoads]; omega)) ?_
                      obtain ⟨g75, e75⟩ : ∃ x, x = up_ b1 mFacts 0 (hq mSeatsThen r) := ⟨_, rfl⟩
                      refine pw_heq e75 ?_
                      refine pw_aload_n (z := mo_) (pc := 76) dX12_isJourney_76 rfl rfl ?_
                      refine pw_getR (r := mFacts) (pc := 77) dX12_isJourney_77 fX12_124 (im_mo_ hM) k_mo_ rfl fr_mFacts ?_
                      refine pw_iconst (pc := 80) dX12_isJourney_80 ?_
                      refine pw_iload_n (z := t) (pc := 81) dX12_isJourney_81 rfl rfl ?_
                      refine pw_iast (pc := 82) dX12_isJourney_82 (im_mFacts hM) k_mFacts 5 l_mFacts (by first | omega | (simp only [n_a1_mRoads, n_b1_mRoads, n_b1_mSeatsThen, n_hq_mRoads]; omega)) (by first | omega | (simp only [n_a1_mRoads, n_b1_mRoads, n_b1_mSeatsThen, n_hq_mRoads]; omega)) (by first | omega | (simp only [n_a1_mRoads, n_b1_mRoads, n_b1_mSeatsThen, n_hq_mRoads]; omega)) (by first | omega | (simp only [n_a1_mRoads, n_b1_mRoads, n_b1_mSeatsThen, n_hq_mRoads]; omega)) ?_
                      obtain ⟨g82, e82⟩ : ∃ x, x = up_ g75 mFacts 1 t := ⟨_, rfl⟩
                      refine pw_heq e82 ?_
                      refine pw_aload_n (z := mo_) (pc := 83) dX12_isJourney_83 rfl rfl ?_
                      refine pw_getR (r := mFacts) (pc := 84) dX12_isJourney_84 fX12_124 (im_mo_ hM) k_mo_ rfl fr_mFacts ?_
                      refine pw_iconst (pc := 87) dX12_isJourney_87 ?_
                      refine pw_iload (z := r) (pc := 88) dX12_isJourney_88 rfl ?_
                      refine pw_iast (pc := 90) dX12_isJourney_90 (im_mFacts hM) k_mFacts 5 l_mFacts (by first | omega | (simp only [n_a1_mRoads, n_b1_mRoads, n_b1_mSeatsThen, n_hq_mRoads]; omega)) (by first | omega | (simp only [n_a1_mRoads, n_b1_mRoads, n_b1_mSeatsThen, n_hq_mRoads]; omega)) (by first | omega | (simp only [n_a1_mRoads, n_b1_mRoads, n_b1_mSeatsThen, n_hq_mRoads]; omega)) (by first | omega | (simp only [n_a1_mRoads, n_b1_mRoads, n_b1_mSeatsThen, n_hq_mRoads]; omega)) ?_
                      obtain ⟨g90, e90⟩ : ∃ x, x = up_ g82 mFacts 2 r := ⟨_, rfl⟩
                      refine pw_heq e90 ?_
                      refine pw_aload_n (z := mo_) (pc := 91) dX12_isJourney_91 rfl rfl ?_
                      refine pw_aload_n (z := mo_) (pc := 92) dX12_isJourney_92 rfl rfl ?_
                      refine pw_getR (r := mRoads) (pc := 93) dX12_isJourney_93 fX12_97 (im_mo_ hM) k_mo_ rfl fr_mRoads ?_
                      refine pw_bipush (pc := 96) dX12_isJourney_96 rfl ?_
                      refine pw_iload_n (z := k) (pc := 98) dX12_isJourney_98 rfl rfl ?_
                      refine pw_iadd (pc := 99) dX12_isJourney_99 ?_
                      refine pw_iald (pc := 100) dX12_isJourney_100 (im_mRoads hM) k_mRoads 160 l_mRoads (by first | omega | (simp only [n_a1_mRoads, n_b1_mRoads, n_b1_mSeatsThen, n_hq_mRoads]; omega)) (by first | omega | (simp only [n_a1_mRoads, n_b1_mRoads, n_b1_mSeatsThen, n_hq_mRoads]; omega)) (by first | omega | (simp only [n_a1_mRoads, n_b1_mRoads, n_b1_mSeatsThen, n_hq_mRoads]; omega)) (fun r100 => ?_)
                      have n_g90_mRoads : g90 mRoads = h mRoads := (((((show g90 mRoads = g82 mRoads from (by rw [e90]; exact up_off (by decide))).trans (show g82 mRoads = g75 mRoads from (by rw [e82]; exact up_off (by decide)))).trans (show g75 mRoads = b1 mRoads from (by rw [e75]; exact up_off (by decide)))).trans (show b1 mRoads = hq mRoads from (bf mRoads (by decide)))).trans (show hq mRoads = h mRoads from (af mRoads (by decide))))
                      rw [n_g90_mRoads] at r100 ⊢
                      have qo : off_ [mFacts] b1 g90 := by rw [e90, e82, e75]; exact off_up (off_up (off_up off_rf (by decide)) (by decide)) (by decide)
                      have lw : law_ (g90 mOp) (g90 mArg) (h mRoads (6 + k)) K := by rw [qo mOp (by decide), qo mArg (by decide), bf mOp (by decide), bf mArg (by decide), af mOp (by decide), af mArg (by decide)]; exact hlw
                      have fq0 : g90 mFacts 0 = f3_ (q.2.1 r) t r 0 := by rw [e90, e82, e75]; simp [up_ap, f3_, a2r.1]
                      have fq1 : g90 mFacts 1 = f3_ (q.2.1 r) t r 1 := by rw [e90, e82, e75]; simp [up_ap, f3_]
                      have fq2 : g90 mFacts 2 = f3_ (q.2.1 r) t r 2 := by rw [e90, e82, e75]; simp [up_ap, f3_]
                      refine pw_callV (c := 12) (o := mo_) (As := [ii_ (h mRoads (6 + k))]) (rest := []) (pc := 101) dX12_isJourney_101 (c_worthAt hM g90 (h mRoads (6 + k)) K lw.1 lw.2.1 lw.2.2.1 lw.2.2.2) lX12_384 mX12_worthAt vX12_worthAt (im_mo_ hM) k_mo_ rfl rfl rfl (by decide) ⟨Nat.zero_le _, Nat.zero_le _⟩ (Nat.le_of_ble_eq_true rfl) (k_i (fun z101 h101 y101 q101 => ?_))
                      obtain ⟨u101, w101⟩ := q101
                      refine pw_aload_n (z := mo_) (pc := 104) dX12_isJourney_104 rfl rfl ?_
                      refine pw_callV (c := 12) (o := mo_) (As := []) (rest := [ii_ z101]) (pc := 105) dX12_isJourney_105 (c_seats hM h101) lX12_331 mX12_seats vX12_seats (im_mo_ hM) k_mo_ rfl rfl rfl (by decide) ⟨Nat.zero_le _, Nat.zero_le _⟩ (Nat.le_of_ble_eq_true rfl) (k_i (fun z105 h105 y105 q105 => ?_))
                      obtain ⟨rfl, rfl⟩ := q105
                      have n_h101_mRoads : h101 mRoads = h mRoads := ((((((show h101 mRoads = g90 mRoads from (u101 mRoads (by decide))).trans (show g90 mRoads = g82 mRoads from (by rw [e90]; exact up_off (by decide)))).trans (show g82 mRoads = g75 mRoads from (by rw [e82]; exact up_off (by decide)))).trans (show g75 mRoads = b1 mRoads from (by rw [e75]; exact up_off (by decide)))).trans (show b1 mRoads = hq mRoads from (bf mRoads (by decide)))).trans (show hq mRoads = h mRoads from (af mRoads (by decide))))
                      rw [n_h101_mRoads] at y105 ⊢
                      have tm := tm_em (a := z101) (S := h mRoads 0) (by omega)
                      have tl1 := Int.tmod_lt_of_pos z101 (show 0 < h mRoads 0 by omega)
                      have tl2 := Int.lt_tmod_of_pos z101 (show 0 < h mRoads 0 by omega)
                      have tl3 := Int.emod_nonneg z101 (show h mRoads 0 ≠ 0 by omega)
                      have tl4 := Int.emod_lt_of_pos z101 (show 0 < h mRoads 0 by omega)
                      have cq : cse_ (h mRoads) K q.2.1 t r = z101 % h mRoads 0 := by unfold cse_; rw [w101]; unfold ew_; rw [evl_c3 fq0 fq1 fq2 h3]
                      refine pw_irem (pc := 108) dX12_isJourney_108 (by first | omega | (simp only [n_a1_mRoads, n_b1_mRoads, n_b1_mSeatsThen, n_g90_mRoads, n_h101_mRoads, n_hq_mRoads]; omega)) (by first | omega | (simp only [n_a1_mRoads, n_b1_mRoads, n_b1_mSeatsThen, n_g90_mRoads, n_h101_mRoads, n_hq_mRoads]; omega)) ?_
                      refine pw_istore (lv1 := [some (rr_ G mo_), some (ii_ k), some (ii_ is), some (ii_ t), some (ii_ r), some (ii_ (z101.tmod (h mRoads 0)))]) (pc := 109) dX12_isJourney_109 (by decide) rfl rfl ?_
                      refine pw_aload_n (z := mo_) (pc := 111) dX12_isJourney_111 rfl rfl ?_
                      refine pw_getR (r := mSits) (pc := 112) dX12_isJourney_112 fX12_137 (im_mo_ hM) k_mo_ rfl fr_mSits ?_
                      refine pw_iload (z := r) (pc := 115) dX12_isJourney_115 rfl ?_
                      have J134 : ∀ (v2 : Int), (v2 = (if z101.tmod (h mRoads 0) < 0 then z101.tmod (h mRoads 0) + h mRoads 0 else z101.tmod (h mRoads 0))) → PW G RX12 cX12_isJourney 6 (some .boolean) (rm_ 5) 0 0 (zm_ G (qi_ (fun z h' => off_ [mTotals, mSeatsThen, mFacts, mPile, mSits, mCalledPlans] h h' ∧ (z = 0 ∧ cjn_ (h mRoads) P K (h mRoads 1).toNat = none ∨ z = 1 ∧ ∃ q, cjn_ (h mRoads) P K (h mRoads 1).toNat = some q ∧ (∀ r, 0 ≤ r → r < h mRoads 2 → h' mTotals r = q.1 r ∧ -1000000 ≤ q.1 r ∧ q.1 r ≤ 1000000) ∧ (∀ x, 0 ≤ x → x < h mRoads 1 → h' mCalledPlans x = q.2.2 x))))) 134 [some (rr_ G mo_), some (ii_ k), some (ii_ is), some (ii_ t), some (ii_ r), some (ii_ (z101.tmod (h mRoads 0)))] [ii_ v2, ii_ r, rr_ G mSits] h101 := by
                        intro v2 v5
                        refine pw_iast (pc := 134) dX12_isJourney_134 (im_mSits hM) k_mSits 4 l_mSits (by first | omega | (simp only [n_a1_mRoads, n_b1_mRoads, n_b1_mSeatsThen, n_g90_mRoads, n_h101_mRoads, n_hq_mRoads]; omega)) (by first | omega | (simp only [n_a1_mRoads, n_b1_mRoads, n_b1_mSeatsThen, n_g90_mRoads, n_h101_mRoads, n_hq_mRoads]; omega)) (by first | omega | (simp only [n_a1_mRoads, n_b1_mRoads, n_b1_mSeatsThen, n_g90_mRoads, n_h101_mRoads, n_hq_mRoads]; omega)) (by first | omega | (simp only [n_a1_mRoads, n_b1_mRoads, n_b1_mSeatsThen, n_g90_mRoads, n_h101_mRoads, n_hq_mRoads]; omega)) ?_
                        obtain ⟨g134, e134⟩ : ∃ x, x = up_ h101 mSits r v2 := ⟨_, rfl⟩
                        refine pw_heq e134 ?_
                        refine pw_iinc (z := r) (lv1 := [some (rr_ G mo_), some (ii_ k), some (ii_ is), some (ii_ t), some (ii_ (r + 1)), some (ii_ (z101.tmod (h mRoads 0)))]) (pc := 135) dX12_isJourney_135 rfl (by decide) rfl rfl ?_
                        refine pw_goto (t := 54) (pc := 138) dX12_isJourney_138 (by decide) ?_
                        refine pw_less (lv1 := [some (rr_ G mo_), some (ii_ k), some (ii_ is), some (ii_ t), some (ii_ (r + 1)), none]) rfl (by intro i v; (match i with | 0 => simp | 1 => simp | 2 => simp | 3 => simp | 4 => simp | 5 => simp | n + 6 => simp)) ?_
                        exact ih54 _ _ (by omega) (by rw [e134]; exact off_up (off_tr (off_tr bf (off_mo qo (by decide))) (off_mo u101 (by decide))) (by decide)) (fun x x0 x1 => by
                                  rw [e134, up_at]
                                  by_cases c : x = r
                                  · rw [if_pos c, c, cq]; exact ⟨by rw [v5, tm], by omega, by omega⟩
                                  · rw [if_neg c, u101 mSits (by decide), qo mSits (by decide)]; exact bs x x0 (by omega)) (by omega)
                      refine pw_iload (z := z101.tmod (h mRoads 0)) (pc := 117) dX12_isJourney_117 rfl ?_
                      refine pw_if_ge (t := 132) (pc := 119) dX12_isJourney_119 (by decide) (by first | omega | (simp only [n_a1_mRoads, n_b1_mRoads, n_b1_mSeatsThen, n_g90_mRoads, n_h101_mRoads, n_hq_mRoads]; omega)) (fun c119 => ?_) (fun c119 => ?_)
                      · refine pw_iload (z := z101.tmod (h mRoads 0)) (pc := 132) dX12_isJourney_132 rfl ?_
                        exact J134 _ (by first | (rw [if_pos (by omega)]; done) | (rw [if_neg (by omega)]; done))
                      · refine pw_iload (z := z101.tmod (h mRoads 0)) (pc := 122) dX12_isJourney_122 rfl ?_
                        refine pw_aload_n (z := mo_) (pc := 124) dX12_isJourney_124 rfl rfl ?_
                        refine pw_callV (c := 12) (o := mo_) (As := []) (rest := [ii_ (z101.tmod (h mRoads 0)), ii_ r, rr_ G mSits]) (pc := 125) dX12_isJourney_125 (c_seats hM h101) lX12_331 mX12_seats vX12_seats (im_mo_ hM) k_mo_ rfl rfl rfl (by decide) ⟨Nat.zero_le _, Nat.zero_le _⟩ (Nat.le_of_ble_eq_true rfl) (k_i (fun z125 h125 y125 q125 => ?_))
                        obtain ⟨rfl, rfl⟩ := q125
                        rw [n_h101_mRoads] at y125 ⊢
                        refine pw_iadd (pc := 128) dX12_isJourney_128 ?_
                        refine pw_goto (t := 134) (pc := 129) dX12_isJourney_129 (by decide) ?_
                        exact J134 _ (by first | (rw [if_pos (by omega)]; done) | (rw [if_neg (by omega)]; done))
                exact L54 _ _ _ (by omega) (off_rf) (fun x _ _ => by omega) (Int.self_le_toNat _)
        exact L39 _ _ _ (pas_ (h mRoads), (fun r => r), (fun _ => 0)) _ (by omega) (Or.inr rfl) (off_mo a_f (by decide)) (⟨fun e => absurd e (by decide), fun _ => ⟨rfl, fun r r0 r1 => (a_t r r0 (by omega)).1, fun x x0 x1 => ⟨(a_t x x0 (by omega)).2, x0, by show x ≤ 3; omega⟩, fun x _ _ => by omega, fun x x0 x1 => by rw [(a_t x x0 (by omega)).1]; have := hpa x x0 (by omega); omega⟩⟩) (Int.self_le_toNat _)
      · refine pw_aload_n (z := mo_) (pc := 12) dX12_isJourney_12 rfl rfl ?_
        refine pw_getR (r := mTotals) (pc := 13) dX12_isJourney_13 fX12_152 (im_mo_ hM) k_mo_ rfl fr_mTotals ?_
        refine pw_iload_n (z := r) (pc := 16) dX12_isJourney_16 rfl rfl ?_
        refine pw_aload_n (z := mo_) (pc := 17) dX12_isJourney_17 rfl rfl ?_
        refine pw_iload_n (z := r) (pc := 18) dX12_isJourney_18 rfl rfl ?_
        refine pw_iconst (pc := 19) dX12_isJourney_19 ?_
        refine pw_callV (c := 12) (o := mo_) (As := [ii_ r, ii_ 2]) (rest := [ii_ r, rr_ G mTotals]) (pc := 20) dX12_isJourney_20 (c_riderOf hM a1 (r) (2) (by first | omega | (simp only [n_a1_mRoads]; omega)) (by first | omega | (simp only [n_a1_mRoads]; omega))) lX12_355 mX12_riderOf vX12_riderOf (im_mo_ hM) k_mo_ rfl rfl rfl (by decide) ⟨Nat.zero_le _, Nat.zero_le _⟩ (Nat.le_of_ble_eq_true rfl) (k_i (fun z20 h20 y20 q20 => ?_))
        obtain ⟨rfl, rfl⟩ := q20
        rw [n_a1_mRoads] at y20 ⊢
        refine pw_iast (pc := 23) dX12_isJourney_23 (im_mTotals hM) k_mTotals 20 l_mTotals (by first | omega | (simp only [n_a1_mRoads]; omega)) (by first | omega | (simp only [n_a1_mRoads]; omega)) (by first | omega | (simp only [n_a1_mRoads]; omega)) (by first | omega | (simp only [n_a1_mRoads]; omega)) ?_
        obtain ⟨g23, e23⟩ : ∃ x, x = up_ a1 mTotals r (h mRoads (31 + 4 * (r) + (2))) := ⟨_, rfl⟩
        refine pw_heq e23 ?_
        refine pw_aload_n (z := mo_) (pc := 24) dX12_isJourney_24 rfl rfl ?_
        refine pw_getR (r := mSeatsThen) (pc := 25) dX12_isJourney_25 fX12_182 (im_mo_ hM) k_mo_ rfl fr_mSeatsThen ?_
        refine pw_iload_n (z := r) (pc := 28) dX12_isJourney_28 rfl rfl ?_
        refine pw_iload_n (z := r) (pc := 29) dX12_isJourney_29 rfl rfl ?_
        refine pw_iast (pc := 30) dX12_isJourney_30 (im_mSeatsThen hM) k_mSeatsThen 4 l_mSeatsThen (by first | omega | (simp only [n_a1_mRoads]; omega)) (by first | omega | (simp only [n_a1_mRoads]; omega)) (by first | omega | (simp only [n_a1_mRoads]; omega)) (by first | omega | (simp only [n_a1_mRoads]; omega)) ?_
        obtain ⟨g30, e30⟩ : ∃ x, x = up_ g23 mSeatsThen r r := ⟨_, rfl⟩
        refine pw_heq e30 ?_
        refine pw_iinc (z := r) (lv1 := [some (rr_ G mo_), some (ii_ k), some (ii_ 1), some (ii_ (r + 1)), none, none]) (pc := 31) dX12_isJourney_31 rfl (by decide) rfl rfl ?_
        refine pw_goto (t := 4) (pc := 34) dX12_isJourney_34 (by decide) ?_
        exact ih4 _ _ (by omega) (by rw [e30, e23]; exact off_up (off_up a_f (by decide)) (by decide)) (fun x x0 x1 => by
                  rw [e30, up_off (by decide), up_at, e23, up_at, up_off (by decide)]
                  by_cases c : x = r
                  · rw [if_pos c, if_pos c, c]; exact ⟨rfl, rfl⟩
                  · rw [if_neg c, if_neg c]; exact a_t x x0 (by omega)) (by omega)
  exact L4 _ _ _ (by omega) (off_rf) (fun x _ _ => by omega) (Int.self_le_toNat _)

set_option maxHeartbeats 4000000 in
set_option maxRecDepth 100000 in
theorem c_called {G : GT_} (hM : okM_ G) (h : PH_) (hS : 2 ≤ h mRoads 0 ∧ h mRoads 0 ≤ 4) (hR : 0 ≤ h mRoads 2 ∧ h mRoads 2 ≤ h mRoads 0) (hT : 0 ≤ h mRoads 1 ∧ h mRoads 1 ≤ 4) (h4 : 0 ≤ h mRoads 4 ∧ h mRoads 4 ≤ 99) (hpa : ∀ r, 0 ≤ r → r < 4 → 0 ≤ h mRoads (31 + 4 * r + 2) ∧ h mRoads (31 + 4 * r + 2) ≤ 9999) (P : List (Int × Int)) (hw : 0 ≤ h mRoads 5 → law_ (h mOp) (h mArg) (h mRoads 5) P) (Q : Int → List (Int × Int)) (h3 : 0 ≤ h mRoads 3 ∧ h mRoads 3 ≤ 4) (hQ : ∀ k, 0 ≤ k → k < h mRoads 3 → law_ (h mOp) (h mArg) (h mRoads (6 + k)) (Q k) ∧ lw3_ (Q k)) (k w : Int) (hk : ir_ k) (hw2 : ir_ w) : PC G yX12_called cX12_called 3 (some .int) 6 [rr_ G mo_, ii_ k, ii_ w] h (qi_ (fun z h' => off_ [mTotals, mSeatsThen, mFacts, mPile, mSits, mCalledPlans, mo_] h h' ∧ (∀ q, q ≠ 0 → h' mo_ q = h mo_ q) ∧ h' mo_ 0 = 0 ∧ z = cld_ (h mRoads) P Q k w)) := by
  refine PC.of (lv := [some (rr_ G mo_), some (ii_ k), some (ii_ w)]) (by decide +kernel) (Nat.le_of_ble_eq_true rfl) rfl rfl ?_
  refine pw_aload_n (z := mo_) (pc := 0) dX12_called_0 rfl rfl ?_
  refine pw_iconst (pc := 1) dX12_called_1 ?_
  refine pw_pI (x := 0) (pc := 2) dX12_called_2 fX12_1 (im_mo_ hM) k_mo_ rfl rfl (by first | omega) ?_
  obtain ⟨g2, e2⟩ : ∃ x, x = up_ h mo_ 0 0 := ⟨_, rfl⟩
  refine pw_heq e2 ?_
  refine pw_iload_n (z := k) (pc := 5) dX12_called_5 rfl rfl ?_
  refine pw_iconst (pc := 6) dX12_called_6 ?_
  refine pw_aload_n (z := mo_) (pc := 7) dX12_called_7 rfl rfl ?_
  refine pw_getR (r := mRoads) (pc := 8) dX12_called_8 fX12_97 (im_mo_ hM) k_mo_ rfl fr_mRoads ?_
  refine pw_iconst (pc := 11) dX12_called_11 ?_
  refine pw_iald (pc := 12) dX12_called_12 (im_mRoads hM) k_mRoads 160 l_mRoads (by first | omega) (by first | omega) (by first | omega) (fun r12 => ?_)
  have n_g2_mRoads : g2 mRoads = h mRoads := (by rw [e2]; exact up_off (by decide))
  rw [n_g2_mRoads] at r12 ⊢
  refine pw_iconst (pc := 13) dX12_called_13 ?_
  refine pw_isub (pc := 14) dX12_called_14 ?_
  refine pw_callS (As := [ii_ k, ii_ 0, ii_ ((h mRoads 3) - 1)]) (rest := []) (pc := 15) dX12_called_15 (c_within g2 (k) (0) ((h mRoads 3) - 1) (by first | omega | (simp only [n_g2_mRoads]; omega)) (by first | omega | (simp only [n_g2_mRoads]; omega)) (by first | omega | (simp only [n_g2_mRoads]; omega))) lX12_308 mX12_within sX12_within rfl rfl (by decide) ⟨Nat.zero_le _, Nat.zero_le _⟩ (Nat.le_of_ble_eq_true rfl) (k_i (fun z15 h15 y15 q15 => ?_))
  obtain ⟨rfl, ⟨rfl, p15⟩ | ⟨rfl, p15⟩⟩ := q15
  · simp -failIfUnchanged only [n_g2_mRoads] at p15
    refine pw_if_eq (t := 48) (pc := 18) dX12_called_18 (by decide) (by first | omega | (simp only [n_g2_mRoads]; omega)) (fun c18 => absurd c18 (by decide)) (fun _ => ?_)
    refine pw_iload_n (z := w) (pc := 21) dX12_called_21 rfl rfl ?_
    refine pw_iconst (pc := 22) dX12_called_22 ?_
    refine pw_aload_n (z := mo_) (pc := 23) dX12_called_23 rfl rfl ?_
    refine pw_callV (c := 12) (o := mo_) (As := []) (rest := [ii_ 0, ii_ w]) (pc := 24) dX12_called_24 (c_stretches hM g2) lX12_368 mX12_stretches vX12_stretches (im_mo_ hM) k_mo_ rfl rfl rfl (by decide) ⟨Nat.zero_le _, Nat.zero_le _⟩ (Nat.le_of_ble_eq_true rfl) (k_i (fun z24 h24 y24 q24 => ?_))
    obtain ⟨rfl, rfl⟩ := q24
    rw [n_g2_mRoads] at y24 ⊢
    refine pw_callS (As := [ii_ w, ii_ 0, ii_ (h mRoads 1)]) (rest := []) (pc := 27) dX12_called_27 (c_within g2 (w) (0) (h mRoads 1) (by first | omega | (simp only [n_g2_mRoads]; omega)) (by first | omega | (simp only [n_g2_mRoads]; omega)) (by first | omega | (simp only [n_g2_mRoads]; omega))) lX12_308 mX12_within sX12_within rfl rfl (by decide) ⟨Nat.zero_le _, Nat.zero_le _⟩ (Nat.le_of_ble_eq_true rfl) (k_i (fun z27 h27 y27 q27 => ?_))
    obtain ⟨rfl, ⟨rfl, p27⟩ | ⟨rfl, p27⟩⟩ := q27
    · simp -failIfUnchanged only [n_g2_mRoads] at p27
      refine pw_if_eq (t := 48) (pc := 30) dX12_called_30 (by decide) (by first | omega | (simp only [n_g2_mRoads]; omega)) (fun c30 => absurd c30 (by decide)) (fun _ => ?_)
      refine pw_aload_n (z := mo_) (pc := 33) dX12_called_33 rfl rfl ?_
      refine pw_callV (c := 12) (o := mo_) (As := []) (rest := []) (pc := 34) dX12_called_34 (c_riders hM g2) lX12_334 mX12_riders vX12_riders (im_mo_ hM) k_mo_ rfl rfl rfl (by decide) ⟨Nat.zero_le _, Nat.zero_le _⟩ (Nat.le_of_ble_eq_true rfl) (k_i (fun z34 h34 y34 q34 => ?_))
      obtain ⟨rfl, rfl⟩ := q34
      rw [n_g2_mRoads] at y34 ⊢
      refine pw_if_eq (t := 48) (pc := 37) dX12_called_37 (by decide) (by first | omega | (simp only [n_g2_mRoads]; omega)) (fun c37 => ?_) (fun c37 => ?_)
      · refine pw_iconst (pc := 48) dX12_called_48 ?_
        exact pw_iret (pc := 49) dX12_called_49 (by first | omega | (simp only [n_g2_mRoads]; omega)) (by
                  first
                  | exact ⟨by rw [e2]; exact off_up off_rf (by decide), fun q q0 => by rw [e2, up_at, if_neg q0], by rw [e2, up_same], by unfold cld_; rw [if_f (by omega)]⟩
                  | (refine ⟨off_tr (by rw [e2]; exact off_up off_rf (by decide)) (off_mo f42 (by decide)), fun q q0 => by rw [f42 mo_ (by decide), e2, up_at, if_neg q0], by rw [f42 mo_ (by decide), e2, up_same], ?_⟩
                     unfold cld_
                     rw [if_t (by omega)]
                     first
                     | (rw [q1]; show _ = (if w = 0 then spr_ q.1 0 (h mRoads 2) else q.2.2 (w - 1)); first | (rw [if_pos (by omega), w56]; exact spr_cg (by omega) (fun r r0 r1 => (q2 r r0 r1).1)) | (rw [if_neg (by omega)]; exact q3 (w - 1) (by omega) (by omega)))
                     | (rcases w42 with u | u
                        · rw [u.2]; rfl
                        · exfalso; omega)))
      · have nr : g2 mRoads = h mRoads := by rw [e2, up_off (by decide)]
        refine pw_aload_n (z := mo_) (pc := 40) dX12_called_40 rfl rfl ?_
        refine pw_iload_n (z := k) (pc := 41) dX12_called_41 rfl rfl ?_
        refine pw_callV (c := 12) (o := mo_) (As := [ii_ k]) (rest := []) (pc := 42) dX12_called_42 (c_isJourney hM g2 (by rw [nr]; omega) (by rw [nr]; omega) (by rw [nr]; omega) (by rw [nr]; omega) (by rw [nr]; exact hpa) P (by rw [nr, e2, up_off (by decide), up_off (by decide)]; exact hw) (k) (by first | omega | (simp only [n_g2_mRoads]; omega)) (Q (k)) (by rw [nr, e2, up_off (by decide), up_off (by decide)]; exact (hQ _ (by first | omega | (simp only [n_g2_mRoads]; omega)) (by first | omega | (simp only [n_g2_mRoads]; omega))).1) (hQ _ (by first | omega | (simp only [n_g2_mRoads]; omega)) (by first | omega | (simp only [n_g2_mRoads]; omega))).2) lX12_507 mX12_isJourney vX12_isJourney (im_mo_ hM) k_mo_ rfl rfl rfl (by decide) ⟨Nat.zero_le _, Nat.zero_le _⟩ (Nat.le_of_ble_eq_true rfl) (k_i (fun z42 h42 y42 q42 => ?_))
        obtain ⟨f42, w42⟩ := q42
        rw [nr] at w42
        have jz : z42 = 0 ∨ z42 = 1 := by rcases w42 with w | w; exact Or.inl w.1; exact Or.inr w.1
        refine pw_if_ne (t := 50) (pc := 45) dX12_called_45 (by decide) (by first | omega | (simp only [n_g2_mRoads]; omega)) (fun c45 => ?_) (fun c45 => ?_)
        · have gd : (0 ≤ k ∧ k ≤ h mRoads 3 - 1) ∧ (0 ≤ w ∧ w ≤ h mRoads 1) ∧ h mRoads 2 ≠ 0 := by omega
          obtain ⟨q, q1, q2, q3⟩ : ∃ q, cjn_ (h mRoads) P (Q k) (h mRoads 1).toNat = some q ∧ (∀ r, 0 ≤ r → r < h mRoads 2 → h42 mTotals r = q.1 r ∧ -1000000 ≤ q.1 r ∧ q.1 r ≤ 1000000) ∧ (∀ x, 0 ≤ x → x < h mRoads 1 → h42 mCalledPlans x = q.2.2 x) := by
            rcases w42 with w | w
            · exfalso; omega
            · exact w.2
          have n42 : h42 mRoads = h mRoads := by rw [f42 mRoads (by decide)]; exact nr
          refine pw_iload_n (z := w) (pc := 50) dX12_called_50 rfl rfl ?_
          refine pw_if_ne (t := 62) (pc := 51) dX12_called_51 (by decide) (by first | omega | (simp only [n_g2_mRoads]; omega)) (fun c51 => ?_) (fun c51 => ?_)
          · refine pw_aload_n (z := mo_) (pc := 62) dX12_called_62 rfl rfl ?_
            refine pw_getR (r := mCalledPlans) (pc := 63) dX12_called_63 fX12_179 (im_mo_ hM) k_mo_ rfl fr_mCalledPlans ?_
            refine pw_iload_n (z := w) (pc := 66) dX12_called_66 rfl rfl ?_
            refine pw_iconst (pc := 67) dX12_called_67 ?_
            refine pw_isub (pc := 68) dX12_called_68 ?_
            refine pw_iald (pc := 69) dX12_called_69 (im_mCalledPlans hM) k_mCalledPlans 5 l_mCalledPlans (by first | omega | (simp only [n_g2_mRoads]; omega)) (by first | omega | (simp only [n_g2_mRoads]; omega)) (by first | omega | (simp only [n_g2_mRoads]; omega)) (fun r69 => ?_)
            exact pw_iret (pc := 70) dX12_called_70 (by first | omega | (simp only [n_g2_mRoads]; omega)) (by
                      first
                      | exact ⟨by rw [e2]; exact off_up off_rf (by decide), fun q q0 => by rw [e2, up_at, if_neg q0], by rw [e2, up_same], by unfold cld_; rw [if_f (by omega)]⟩
                      | (refine ⟨off_tr (by rw [e2]; exact off_up off_rf (by decide)) (off_mo f42 (by decide)), fun q q0 => by rw [f42 mo_ (by decide), e2, up_at, if_neg q0], by rw [f42 mo_ (by decide), e2, up_same], ?_⟩
                         unfold cld_
                         rw [if_t (by omega)]
                         first
                         | (rw [q1]; show _ = (if w = 0 then spr_ q.1 0 (h mRoads 2) else q.2.2 (w - 1)); first | (rw [if_pos (by omega), w56]; exact spr_cg (by omega) (fun r r0 r1 => (q2 r r0 r1).1)) | (rw [if_neg (by omega)]; exact q3 (w - 1) (by omega) (by omega)))
                         | (rcases w42 with u | u
                            · rw [u.2]; rfl
                            · exfalso; omega)))
          · refine pw_aload_n (z := mo_) (pc := 54) dX12_called_54 rfl rfl ?_
            refine pw_iconst (pc := 55) dX12_called_55 ?_
            refine pw_callV (c := 12) (o := mo_) (As := [ii_ 0]) (rest := []) (pc := 56) dX12_called_56 (c_spreadAt hM h42 (by rw [n42]; omega) (by rw [n42]; omega) (by rw [n42]; omega) 0 (by first | omega | (simp only [n_g2_mRoads]; omega)) (fun r r0 r1 => by rw [n42] at r1; have := q2 r r0 r1; rw [Int.zero_add, this.1]; exact this.2)) lX12_431 mX12_spreadAt vX12_spreadAt (im_mo_ hM) k_mo_ rfl rfl rfl (by decide) ⟨Nat.zero_le _, Nat.zero_le _⟩ (Nat.le_of_ble_eq_true rfl) (k_i (fun z56 h56 y56 q56 => ?_))
            obtain ⟨rfl, w56⟩ := q56
            rw [n42] at w56
            refine pw_goto (t := 70) (pc := 59) dX12_called_59 (by decide) ?_
            exact pw_iret (pc := 70) dX12_called_70 (by first | omega | (simp only [n_g2_mRoads]; omega)) (by
                      first
                      | exact ⟨by rw [e2]; exact off_up off_rf (by decide), fun q q0 => by rw [e2, up_at, if_neg q0], by rw [e2, up_same], by unfold cld_; rw [if_f (by omega)]⟩
                      | (refine ⟨off_tr (by rw [e2]; exact off_up off_rf (by decide)) (off_mo f42 (by decide)), fun q q0 => by rw [f42 mo_ (by decide), e2, up_at, if_neg q0], by rw [f42 mo_ (by decide), e2, up_same], ?_⟩
                         unfold cld_
                         rw [if_t (by omega)]
                         first
                         | (rw [q1]; show _ = (if w = 0 then spr_ q.1 0 (h mRoads 2) else q.2.2 (w - 1)); first | (rw [if_pos (by omega), w56]; exact spr_cg (by omega) (fun r r0 r1 => (q2 r r0 r1).1)) | (rw [if_neg (by omega)]; exact q3 (w - 1) (by omega) (by omega)))
                         | (rcases w42 with u | u
                            · rw [u.2]; rfl
                            · exfalso; omega)))
        · refine pw_iconst (pc := 48) dX12_called_48 ?_
          exact pw_iret (pc := 49) dX12_called_49 (by first | omega | (simp only [n_g2_mRoads]; omega)) (by
                    first
                    | exact ⟨by rw [e2]; exact off_up off_rf (by decide), fun q q0 => by rw [e2, up_at, if_neg q0], by rw [e2, up_same], by unfold cld_; rw [if_f (by omega)]⟩
                    | (refine ⟨off_tr (by rw [e2]; exact off_up off_rf (by decide)) (off_mo f42 (by decide)), fun q q0 => by rw [f42 mo_ (by decide), e2, up_at, if_neg q0], by rw [f42 mo_ (by decide), e2, up_same], ?_⟩
                       unfold cld_
                       rw [if_t (by omega)]
                       first
                       | (rw [q1]; show _ = (if w = 0 then spr_ q.1 0 (h mRoads 2) else q.2.2 (w - 1)); first | (rw [if_pos (by omega), w56]; exact spr_cg (by omega) (fun r r0 r1 => (q2 r r0 r1).1)) | (rw [if_neg (by omega)]; exact q3 (w - 1) (by omega) (by omega)))
                       | (rcases w42 with u | u
                          · rw [u.2]; rfl
                          · exfalso; omega)))
    · simp -failIfUnchanged only [n_g2_mRoads] at p27
      refine pw_if_eq (t := 48) (pc := 30) dX12_called_30 (by decide) (by first | omega | (simp only [n_g2_mRoads]; omega)) (fun _ => ?_) (fun c30 => absurd c30 (by decide))
      refine pw_iconst (pc := 48) dX12_called_48 ?_
      exact pw_iret (pc := 49) dX12_called_49 (by first | omega | (simp only [n_g2_mRoads]; omega)) (by
                first
                | exact ⟨by rw [e2]; exact off_up off_rf (by decide), fun q q0 => by rw [e2, up_at, if_neg q0], by rw [e2, up_same], by unfold cld_; rw [if_f (by omega)]⟩
                | (refine ⟨off_tr (by rw [e2]; exact off_up off_rf (by decide)) (off_mo f42 (by decide)), fun q q0 => by rw [f42 mo_ (by decide), e2, up_at, if_neg q0], by rw [f42 mo_ (by decide), e2, up_same], ?_⟩
                   unfold cld_
                   rw [if_t (by omega)]
                   first
                   | (rw [q1]; show _ = (if w = 0 then spr_ q.1 0 (h mRoads 2) else q.2.2 (w - 1)); first | (rw [if_pos (by omega), w56]; exact spr_cg (by omega) (fun r r0 r1 => (q2 r r0 r1).1)) | (rw [if_neg (by omega)]; exact q3 (w - 1) (by omega) (by omega)))
                   | (rcases w42 with u | u
                      · rw [u.2]; rfl
                      · exfalso; omega)))
  · simp -failIfUnchanged only [n_g2_mRoads] at p15
    refine pw_if_eq (t := 48) (pc := 18) dX12_called_18 (by decide) (by first | omega | (simp only [n_g2_mRoads]; omega)) (fun _ => ?_) (fun c18 => absurd c18 (by decide))
    refine pw_iconst (pc := 48) dX12_called_48 ?_
    exact pw_iret (pc := 49) dX12_called_49 (by first | omega | (simp only [n_g2_mRoads]; omega)) (by
              first
              | exact ⟨by rw [e2]; exact off_up off_rf (by decide), fun q q0 => by rw [e2, up_at, if_neg q0], by rw [e2, up_same], by unfold cld_; rw [if_f (by omega)]⟩
              | (refine ⟨off_tr (by rw [e2]; exact off_up off_rf (by decide)) (off_mo f42 (by decide)), fun q q0 => by rw [f42 mo_ (by decide), e2, up_at, if_neg q0], by rw [f42 mo_ (by decide), e2, up_same], ?_⟩
                 unfold cld_
                 rw [if_t (by omega)]
                 first
                 | (rw [q1]; show _ = (if w = 0 then spr_ q.1 0 (h mRoads 2) else q.2.2 (w - 1)); first | (rw [if_pos (by omega), w56]; exact spr_cg (by omega) (fun r r0 r1 => (q2 r r0 r1).1)) | (rw [if_neg (by omega)]; exact q3 (w - 1) (by omega) (by omega)))
                 | (rcases w42 with u | u
                    · rw [u.2]; rfl
                    · exfalso; omega)))

set_option maxHeartbeats 4000000 in
set_option maxRecDepth 100000 in
theorem c_fairest {G : GT_} (hM : okM_ G) (h : PH_) (hS : 2 ≤ h mRoads 0 ∧ h mRoads 0 ≤ 4) (hR : 0 ≤ h mRoads 2 ∧ h mRoads 2 ≤ h mRoads 0) (hT : 0 ≤ h mRoads 1 ∧ h mRoads 1 ≤ 4) (h4 : 0 ≤ h mRoads 4 ∧ h mRoads 4 ≤ 99) (hpa : ∀ r, 0 ≤ r → r < 4 → 0 ≤ h mRoads (31 + 4 * r + 2) ∧ h mRoads (31 + 4 * r + 2) ≤ 9999) (P : List (Int × Int)) (hw : 0 ≤ h mRoads 5 → law_ (h mOp) (h mArg) (h mRoads 5) P) (Q : Int → List (Int × Int)) (h3 : 0 ≤ h mRoads 3 ∧ h mRoads 3 ≤ 4) (hQ : ∀ k, 0 ≤ k → k < h mRoads 3 → law_ (h mOp) (h mArg) (h mRoads (6 + k)) (Q k) ∧ lw3_ (Q k)) : PC G yX12_fairest cX12_fairest 5 (some .int) 6 [rr_ G mo_] h (qi_ (fun z h' => off_ [mTotals, mSeatsThen, mFacts, mPile, mSits, mCalledPlans, mo_] h h' ∧ (∀ q, q ≠ 0 → h' mo_ q = h mo_ q) ∧ h' mo_ 0 = 0 ∧ z = fai_ (h mRoads) P Q)) := by
  refine PC.of (lv := [some (rr_ G mo_), none, none, none, none]) (by decide +kernel) (Nat.le_of_ble_eq_true rfl) rfl rfl ?_
  refine pw_aload_n (z := mo_) (pc := 0) dX12_fairest_0 rfl rfl ?_
  refine pw_iconst (pc := 1) dX12_fairest_1 ?_
  refine pw_pI (x := 0) (pc := 2) dX12_fairest_2 fX12_1 (im_mo_ hM) k_mo_ rfl rfl (by first | omega) ?_
  obtain ⟨g2, e2⟩ : ∃ x, x = up_ h mo_ 0 0 := ⟨_, rfl⟩
  refine pw_heq e2 ?_
  refine pw_iconst (pc := 5) dX12_fairest_5 ?_
  refine pw_istore_n (lv1 := [some (rr_ G mo_), some (ii_ (-1)), none, none, none]) (pc := 6) dX12_fairest_6 rfl (by decide) rfl rfl ?_
  refine pw_iconst (pc := 7) dX12_fairest_7 ?_
  refine pw_istore_n (lv1 := [some (rr_ G mo_), some (ii_ (-1)), some (ii_ 0), none, none]) (pc := 8) dX12_fairest_8 rfl (by decide) rfl rfl ?_
  refine pw_iconst (pc := 9) dX12_fairest_9 ?_
  refine pw_istore_n (lv1 := [some (rr_ G mo_), some (ii_ (-1)), some (ii_ 0), some (ii_ 0), none]) (pc := 10) dX12_fairest_10 rfl (by decide) rfl rfl ?_
  have L11 : ∀ (nn : Nat) (b : Int) (l : Int) (k : Int) (hq : PH_), (0 ≤ k ∧ k ≤ h mRoads 3) → (off_ [mTotals, mSeatsThen, mFacts, mPile, mSits, mCalledPlans, mo_] h hq) → (∀ q, q ≠ 0 → hq mo_ q = h mo_ q) → (hq mo_ 0 = 0) → (0 < h mRoads 2 → (b, l) = fal_ (h mRoads) P Q k.toNat) → (-1 ≤ b ∧ b ≤ k ∧ ir_ l ∧ (¬ 0 < h mRoads 2 → b = -1)) → ((h mRoads 3 - k + 1 : Int) ≤ nn) → PW G RX12 cX12_fairest 5 (some .int) (rm_ 6) 0 0 (zm_ G (qi_ (fun z h' => off_ [mTotals, mSeatsThen, mFacts, mPile, mSits, mCalledPlans, mo_] h h' ∧ (∀ q, q ≠ 0 → h' mo_ q = h mo_ q) ∧ h' mo_ 0 = 0 ∧ z = fai_ (h mRoads) P Q))) 11 [some (rr_ G mo_), some (ii_ b), some (ii_ l), some (ii_ k), none] [] hq := by
    intro nn
    induction nn with
    | zero => intro b l k hq ak af ao a0 ab ar ams; exfalso; omega
    | succ nn ih11 =>
      intro b l k hq ak af ao a0 ab ar ams
      refine pw_iload_n (z := k) (pc := 11) dX12_fairest_11 rfl rfl ?_
      refine pw_aload_n (z := mo_) (pc := 12) dX12_fairest_12 rfl rfl ?_
      refine pw_getR (r := mRoads) (pc := 13) dX12_fairest_13 fX12_97 (im_mo_ hM) k_mo_ rfl fr_mRoads ?_
      refine pw_iconst (pc := 16) dX12_fairest_16 ?_
      refine pw_iald (pc := 17) dX12_fairest_17 (im_mRoads hM) k_mRoads 160 l_mRoads (by first | omega) (by first | omega) (by first | omega) (fun r17 => ?_)
      have n_hq_mRoads : hq mRoads = h mRoads := (af mRoads (by decide))
      rw [n_hq_mRoads] at r17 ⊢
      refine pw_icmp_ge (t := 64) (pc := 18) dX12_fairest_18 (by decide) (by first | omega | (simp only [n_hq_mRoads]; omega)) (by first | omega | (simp only [n_hq_mRoads]; omega)) (fun c18 => ?_) (fun c18 => ?_)
      · refine pw_iload_n (z := b) (pc := 64) dX12_fairest_64 rfl rfl ?_
        exact pw_iret (pc := 65) dX12_fairest_65 (by first | omega | (simp only [n_hq_mRoads]; omega)) (by
                  refine ⟨af, ao, a0, ?_⟩
                  unfold fai_
                  by_cases c : 0 < h mRoads 2
                  · rw [if_t c, ← show k = h mRoads 3 by omega, ← ab c]
                  · rw [if_f c]; omega)
      · refine pw_aload_n (z := mo_) (pc := 21) dX12_fairest_21 rfl rfl ?_
        refine pw_callV (c := 12) (o := mo_) (As := []) (rest := []) (pc := 22) dX12_fairest_22 (c_riders hM hq) lX12_334 mX12_riders vX12_riders (im_mo_ hM) k_mo_ rfl rfl rfl (by decide) ⟨Nat.zero_le _, Nat.zero_le _⟩ (Nat.le_of_ble_eq_true rfl) (k_i (fun z22 h22 y22 q22 => ?_))
        obtain ⟨rfl, rfl⟩ := q22
        rw [n_hq_mRoads] at y22 ⊢
        refine pw_if_le (t := 64) (pc := 25) dX12_fairest_25 (by decide) (by first | omega | (simp only [n_hq_mRoads]; omega)) (fun c25 => ?_) (fun c25 => ?_)
        · refine pw_iload_n (z := b) (pc := 64) dX12_fairest_64 rfl rfl ?_
          exact pw_iret (pc := 65) dX12_fairest_65 (by first | omega | (simp only [n_hq_mRoads]; omega)) (by
                    refine ⟨af, ao, a0, ?_⟩
                    unfold fai_
                    by_cases c : 0 < h mRoads 2
                    · rw [if_t c, ← show k = h mRoads 3 by omega, ← ab c]
                    · rw [if_f c]; omega)
        · have nr : hq mRoads = h mRoads := af mRoads (by decide)
          have J58 : ∀ (b2 : Int) (l2 : Int) (h2 : PH_), (off_ [mTotals, mSeatsThen, mFacts, mPile, mSits, mCalledPlans, mo_] h h2) → (∀ q, q ≠ 0 → h2 mo_ q = h mo_ q) → (h2 mo_ 0 = 0) → ((b2, l2) = fal_ (h mRoads) P Q (k + 1).toNat) → (-1 ≤ b2 ∧ b2 ≤ k + 1 ∧ ir_ l2) → PW G RX12 cX12_fairest 5 (some .int) (rm_ 6) 0 0 (zm_ G (qi_ (fun z h' => off_ [mTotals, mSeatsThen, mFacts, mPile, mSits, mCalledPlans, mo_] h h' ∧ (∀ q, q ≠ 0 → h' mo_ q = h mo_ q) ∧ h' mo_ 0 = 0 ∧ z = fai_ (h mRoads) P Q))) 58 [some (rr_ G mo_), some (ii_ b2), some (ii_ l2), some (ii_ k), none] [] h2 := by
            intro b2 l2 h2 jf jo j0 jb jr
            refine pw_iinc (z := k) (lv1 := [some (rr_ G mo_), some (ii_ b2), some (ii_ l2), some (ii_ (k + 1)), none]) (pc := 58) dX12_fairest_58 rfl (by decide) rfl rfl ?_
            refine pw_goto (t := 11) (pc := 61) dX12_fairest_61 (by decide) ?_
            exact ih11 _ _ _ _ (by omega) (jf) (jo) (j0) (fun _ => jb) (by omega) (by omega)
          refine pw_aload_n (z := mo_) (pc := 28) dX12_fairest_28 rfl rfl ?_
          refine pw_iload_n (z := k) (pc := 29) dX12_fairest_29 rfl rfl ?_
          refine pw_callV (c := 12) (o := mo_) (As := [ii_ k]) (rest := []) (pc := 30) dX12_fairest_30 (c_isJourney hM hq (by rw [nr]; omega) (by rw [nr]; omega) (by rw [nr]; omega) (by rw [nr]; omega) (by rw [nr]; exact hpa) P (by rw [nr, af mOp (by decide), af mArg (by decide)]; exact hw) (k) (by first | omega | (simp only [n_hq_mRoads]; omega)) (Q (k)) (by rw [nr, af mOp (by decide), af mArg (by decide)]; exact (hQ _ (by first | omega | (simp only [n_hq_mRoads]; omega)) (by first | omega | (simp only [n_hq_mRoads]; omega))).1) (hQ _ (by first | omega | (simp only [n_hq_mRoads]; omega)) (by first | omega | (simp only [n_hq_mRoads]; omega))).2) lX12_507 mX12_isJourney vX12_isJourney (im_mo_ hM) k_mo_ rfl rfl rfl (by decide) ⟨Nat.zero_le _, Nat.zero_le _⟩ (Nat.le_of_ble_eq_true rfl) (k_i (fun z30 h30 y30 q30 => ?_))
          obtain ⟨f30, w30⟩ := q30
          rw [nr] at w30
          have jz : z30 = 0 ∨ z30 = 1 := by rcases w30 with w | w; exact Or.inl w.1; exact Or.inr w.1
          refine pw_if_eq (t := 58) (pc := 33) dX12_fairest_33 (by decide) (by first | omega | (simp only [n_hq_mRoads]; omega)) (fun c33 => ?_) (fun c33 => ?_)
          · exact J58 _ _ _ (off_tr af (off_mo f30 (by decide))) (fun q q0 => by rw [f30 mo_ (by decide)]; exact ao q q0) (by rw [f30 mo_ (by decide)]; exact a0) (by
                    rw [fal_s ak.1, ← ab (by omega)]
                    first
                    | (rcases w30 with u | u
                       · rw [u.2]; rfl
                       · exfalso; omega)
                    | (rw [q1]; show _ = (if b < 0 ∨ spr_ q.1 0 (h mRoads 2) < l then (k, spr_ q.1 0 (h mRoads 2)) else (b, l)); rw [← w39]; first | (rw [if_pos (by omega)]; done) | (rw [if_neg (by omega)]; done))) (by omega)
          · obtain ⟨q, q1, q2, q3⟩ : ∃ q, cjn_ (h mRoads) P (Q k) (h mRoads 1).toNat = some q ∧ (∀ r, 0 ≤ r → r < h mRoads 2 → h30 mTotals r = q.1 r ∧ -1000000 ≤ q.1 r ∧ q.1 r ≤ 1000000) ∧ (∀ x, 0 ≤ x → x < h mRoads 1 → h30 mCalledPlans x = q.2.2 x) := by
              rcases w30 with w | w
              · exfalso; omega
              · exact w.2
            have n30 : h30 mRoads = h mRoads := by rw [f30 mRoads (by decide)]; exact nr
            refine pw_aload_n (z := mo_) (pc := 36) dX12_fairest_36 rfl rfl ?_
            refine pw_iconst (pc := 37) dX12_fairest_37 ?_
            refine pw_callV (c := 12) (o := mo_) (As := [ii_ 0]) (rest := []) (pc := 38) dX12_fairest_38 (c_spreadAt hM h30 (by rw [n30]; omega) (by rw [n30]; omega) (by rw [n30]; omega) 0 (by first | omega | (simp only [n_hq_mRoads]; omega)) (fun r r0 r1 => by rw [n30] at r1; have := q2 r r0 r1; rw [Int.zero_add, this.1]; exact this.2)) lX12_431 mX12_spreadAt vX12_spreadAt (im_mo_ hM) k_mo_ rfl rfl rfl (by decide) ⟨Nat.zero_le _, Nat.zero_le _⟩ (Nat.le_of_ble_eq_true rfl) (k_i (fun z38 h38 y38 q38 => ?_))
            obtain ⟨rfl, w38⟩ := q38
            rw [n30] at w38
            have w39 : z38 = spr_ q.1 0 (h mRoads 2) := by rw [w38]; exact spr_cg (by omega) (fun r r0 r1 => (q2 r r0 r1).1)
            refine pw_istore (lv1 := [some (rr_ G mo_), some (ii_ b), some (ii_ l), some (ii_ k), some (ii_ z38)]) (pc := 41) dX12_fairest_41 (by decide) rfl rfl ?_
            refine pw_iload_n (z := b) (pc := 43) dX12_fairest_43 rfl rfl ?_
            refine pw_if_lt (t := 53) (pc := 44) dX12_fairest_44 (by decide) (by first | omega | (simp only [n_hq_mRoads]; omega)) (fun c44 => ?_) (fun c44 => ?_)
            · refine pw_iload_n (z := k) (pc := 53) dX12_fairest_53 rfl rfl ?_
              refine pw_istore_n (lv1 := [some (rr_ G mo_), some (ii_ k), some (ii_ l), some (ii_ k), some (ii_ z38)]) (pc := 54) dX12_fairest_54 rfl (by decide) rfl rfl ?_
              refine pw_iload (z := z38) (pc := 55) dX12_fairest_55 rfl ?_
              refine pw_istore_n (lv1 := [some (rr_ G mo_), some (ii_ k), some (ii_ z38), some (ii_ k), some (ii_ z38)]) (pc := 57) dX12_fairest_57 rfl (by decide) rfl rfl ?_
              refine pw_less (lv1 := [some (rr_ G mo_), some (ii_ k), some (ii_ z38), some (ii_ k), none]) rfl (by intro i v; (match i with | 0 => simp | 1 => simp | 2 => simp | 3 => simp | 4 => simp | n + 5 => simp)) ?_
              exact J58 _ _ _ (off_tr af (off_mo f30 (by decide))) (fun q q0 => by rw [f30 mo_ (by decide)]; exact ao q q0) (by rw [f30 mo_ (by decide)]; exact a0) (by
                      rw [fal_s ak.1, ← ab (by omega)]
                      first
                      | (rcases w30 with u | u
                         · rw [u.2]; rfl
                         · exfalso; omega)
                      | (rw [q1]; show _ = (if b < 0 ∨ spr_ q.1 0 (h mRoads 2) < l then (k, spr_ q.1 0 (h mRoads 2)) else (b, l)); rw [← w39]; first | (rw [if_pos (by omega)]; done) | (rw [if_neg (by omega)]; done))) (by omega)
            · refine pw_iload (z := z38) (pc := 47) dX12_fairest_47 rfl ?_
              refine pw_iload_n (z := l) (pc := 49) dX12_fairest_49 rfl rfl ?_
              refine pw_icmp_ge (t := 58) (pc := 50) dX12_fairest_50 (by decide) (by first | omega | (simp only [n_hq_mRoads]; omega)) (by first | omega | (simp only [n_hq_mRoads]; omega)) (fun c50 => ?_) (fun c50 => ?_)
              · refine pw_less (lv1 := [some (rr_ G mo_), some (ii_ b), some (ii_ l), some (ii_ k), none]) rfl (by intro i v; (match i with | 0 => simp | 1 => simp | 2 => simp | 3 => simp | 4 => simp | n + 5 => simp)) ?_
                exact J58 _ _ _ (off_tr af (off_mo f30 (by decide))) (fun q q0 => by rw [f30 mo_ (by decide)]; exact ao q q0) (by rw [f30 mo_ (by decide)]; exact a0) (by
                        rw [fal_s ak.1, ← ab (by omega)]
                        first
                        | (rcases w30 with u | u
                           · rw [u.2]; rfl
                           · exfalso; omega)
                        | (rw [q1]; show _ = (if b < 0 ∨ spr_ q.1 0 (h mRoads 2) < l then (k, spr_ q.1 0 (h mRoads 2)) else (b, l)); rw [← w39]; first | (rw [if_pos (by omega)]; done) | (rw [if_neg (by omega)]; done))) (by omega)
              · refine pw_iload_n (z := k) (pc := 53) dX12_fairest_53 rfl rfl ?_
                refine pw_istore_n (lv1 := [some (rr_ G mo_), some (ii_ k), some (ii_ l), some (ii_ k), some (ii_ z38)]) (pc := 54) dX12_fairest_54 rfl (by decide) rfl rfl ?_
                refine pw_iload (z := z38) (pc := 55) dX12_fairest_55 rfl ?_
                refine pw_istore_n (lv1 := [some (rr_ G mo_), some (ii_ k), some (ii_ z38), some (ii_ k), some (ii_ z38)]) (pc := 57) dX12_fairest_57 rfl (by decide) rfl rfl ?_
                refine pw_less (lv1 := [some (rr_ G mo_), some (ii_ k), some (ii_ z38), some (ii_ k), none]) rfl (by intro i v; (match i with | 0 => simp | 1 => simp | 2 => simp | 3 => simp | 4 => simp | n + 5 => simp)) ?_
                exact J58 _ _ _ (off_tr af (off_mo f30 (by decide))) (fun q q0 => by rw [f30 mo_ (by decide)]; exact ao q q0) (by rw [f30 mo_ (by decide)]; exact a0) (by
                        rw [fal_s ak.1, ← ab (by omega)]
                        first
                        | (rcases w30 with u | u
                           · rw [u.2]; rfl
                           · exfalso; omega)
                        | (rw [q1]; show _ = (if b < 0 ∨ spr_ q.1 0 (h mRoads 2) < l then (k, spr_ q.1 0 (h mRoads 2)) else (b, l)); rw [← w39]; first | (rw [if_pos (by omega)]; done) | (rw [if_neg (by omega)]; done))) (by omega)
  exact L11 _ _ _ _ _ (by omega) (by rw [e2]; exact off_up off_rf (by decide)) (fun q q0 => by rw [e2, up_at, if_neg q0]) (by rw [e2, up_same]) (fun _ => rfl) (by omega) (Int.self_le_toNat _)

