set_option maxHeartbeats 4000000 in
set_option maxRecDepth 100000 in
theorem c_areBeside {G : GT_} (hM : okM_ G) (h : PH_) (a b : Int) (h1 : 0 ≤ a ∧ a ≤ 3) (h2 : 0 ≤ b ∧ b ≤ 3) : PC G yX12_areBeside cX12_areBeside 5 (some .boolean) 1 [rr_ G mo_, ii_ a, ii_ b] h (qi_ (fun z h' => h = h' ∧ (z = 1 ∧ bes_ (h mRoads 10) a b ∨ z = 0 ∧ ¬ bes_ (h mRoads 10) a b))) := by
  refine PC.of (lv := [some (rr_ G mo_), some (ii_ a), some (ii_ b), none, none]) (by decide +kernel) (Nat.le_of_ble_eq_true rfl) rfl rfl ?_
  have J10 : ∀ (lo : Int), (lo = a ∧ a < b ∨ lo = b ∧ ¬ a < b) → PW G RX12 cX12_areBeside 5 (some .boolean) (rm_ 1) 0 0 (zm_ G (qi_ (fun z h' => h = h' ∧ (z = 1 ∧ bes_ (h mRoads 10) a b ∨ z = 0 ∧ ¬ bes_ (h mRoads 10) a b)))) 10 [some (rr_ G mo_), some (ii_ a), some (ii_ b), none, none] [ii_ lo] h := by
    intro lo hl
    refine pw_istore_n (lv1 := [some (rr_ G mo_), some (ii_ a), some (ii_ b), some (ii_ lo), none]) (pc := 10) dX12_areBeside_10 rfl (by decide) rfl rfl ?_
    have J21 : ∀ (hg : Int), (hg = b ∧ a < b ∨ hg = a ∧ ¬ a < b) → PW G RX12 cX12_areBeside 5 (some .boolean) (rm_ 1) 0 0 (zm_ G (qi_ (fun z h' => h = h' ∧ (z = 1 ∧ bes_ (h mRoads 10) a b ∨ z = 0 ∧ ¬ bes_ (h mRoads 10) a b)))) 21 [some (rr_ G mo_), some (ii_ a), some (ii_ b), some (ii_ lo), none] [ii_ hg] h := by
      intro hg hh
      refine pw_istore (lv1 := [some (rr_ G mo_), some (ii_ a), some (ii_ b), some (ii_ lo), some (ii_ hg)]) (pc := 21) dX12_areBeside_21 (by decide) rfl rfl ?_
      refine pw_iload (z := hg) (pc := 23) dX12_areBeside_23 rfl ?_
      refine pw_iload_n (z := lo) (pc := 25) dX12_areBeside_25 rfl rfl ?_
      refine pw_iconst (pc := 26) dX12_areBeside_26 ?_
      refine pw_iadd (pc := 27) dX12_areBeside_27 ?_
      refine pw_icmp_ne (t := 49) (pc := 28) dX12_areBeside_28 (by decide) (by first | omega) (by first | omega) (fun c28 => ?_) (fun c28 => ?_)
      · refine pw_iconst (pc := 49) dX12_areBeside_49 ?_
        exact pw_zret (pc := 50) dX12_areBeside_50 (by first | omega) (⟨rfl, by unfold bes_; rcases hl with ⟨rfl, hl⟩ | ⟨rfl, hl⟩ <;> rcases hh with ⟨rfl, hh⟩ | ⟨rfl, hh⟩ <;> omega⟩)
      · refine pw_aload_n (z := mo_) (pc := 31) dX12_areBeside_31 rfl rfl ?_
        refine pw_getR (r := mRoads) (pc := 32) dX12_areBeside_32 fX12_97 (im_mo_ hM) k_mo_ rfl fr_mRoads ?_
        refine pw_bipush (pc := 35) dX12_areBeside_35 rfl ?_
        refine pw_iald (pc := 37) dX12_areBeside_37 (im_mRoads hM) k_mRoads 160 l_mRoads (by first | omega) (by first | omega) (by first | omega) (fun r37 => ?_)
        refine pw_iload_n (z := lo) (pc := 38) dX12_areBeside_38 rfl rfl ?_
        refine pw_ishr (pc := 39) dX12_areBeside_39 (by first | omega) (by first | omega) ?_
        refine pw_iconst (pc := 40) dX12_areBeside_40 ?_
        refine pw_iand1 (pc := 41) dX12_areBeside_41 ?_
        refine pw_if_ne (t := 49) (pc := 42) dX12_areBeside_42 (by decide) (by first | omega) (fun c42 => ?_) (fun c42 => ?_)
        · refine pw_iconst (pc := 49) dX12_areBeside_49 ?_
          exact pw_zret (pc := 50) dX12_areBeside_50 (by first | omega) (⟨rfl, by unfold bes_; rcases hl with ⟨rfl, hl⟩ | ⟨rfl, hl⟩ <;> rcases hh with ⟨rfl, hh⟩ | ⟨rfl, hh⟩ <;> omega⟩)
        · refine pw_iconst (pc := 45) dX12_areBeside_45 ?_
          refine pw_goto (t := 50) (pc := 46) dX12_areBeside_46 (by decide) ?_
          exact pw_zret (pc := 50) dX12_areBeside_50 (by first | omega) (⟨rfl, by unfold bes_; rcases hl with ⟨rfl, hl⟩ | ⟨rfl, hl⟩ <;> rcases hh with ⟨rfl, hh⟩ | ⟨rfl, hh⟩ <;> omega⟩)
    refine pw_iload_n (z := a) (pc := 11) dX12_areBeside_11 rfl rfl ?_
    refine pw_iload_n (z := b) (pc := 12) dX12_areBeside_12 rfl rfl ?_
    refine pw_icmp_ge (t := 20) (pc := 13) dX12_areBeside_13 (by decide) (by first | omega) (by first | omega) (fun c13 => ?_) (fun c13 => ?_)
    · refine pw_iload_n (z := a) (pc := 20) dX12_areBeside_20 rfl rfl ?_
      exact J21 _ (by omega)
    · refine pw_iload_n (z := b) (pc := 16) dX12_areBeside_16 rfl rfl ?_
      refine pw_goto (t := 21) (pc := 17) dX12_areBeside_17 (by decide) ?_
      exact J21 _ (by omega)
  refine pw_iload_n (z := a) (pc := 0) dX12_areBeside_0 rfl rfl ?_
  refine pw_iload_n (z := b) (pc := 1) dX12_areBeside_1 rfl rfl ?_
  refine pw_icmp_ge (t := 9) (pc := 2) dX12_areBeside_2 (by decide) (by first | omega) (by first | omega) (fun c2 => ?_) (fun c2 => ?_)
  · refine pw_iload_n (z := b) (pc := 9) dX12_areBeside_9 rfl rfl ?_
    exact J10 _ (by omega)
  · refine pw_iload_n (z := a) (pc := 5) dX12_areBeside_5 rfl rfl ?_
    refine pw_goto (t := 10) (pc := 6) dX12_areBeside_6 (by decide) ?_
    exact J10 _ (by omega)

set_option maxHeartbeats 4000000 in
set_option maxRecDepth 100000 in
theorem c_maySit {G : GT_} (hM : okM_ G) (h : PH_) (hS : 2 ≤ h mRoads 0 ∧ h mRoads 0 ≤ 4) (hR : 0 ≤ h mRoads 2 ∧ h mRoads 2 ≤ h mRoads 0) (r s : Int) (h1 : 0 ≤ r ∧ r < 4) (h2 : 0 ≤ s ∧ s ≤ 3) : PC G yX12_maySit cX12_maySit 3 (some .boolean) 3 [rr_ G mo_, ii_ r, ii_ s] h (qi_ (fun z h' => h = h' ∧ (z = 1 ∧ may_ (h mRoads) r s ∨ z = 0 ∧ ¬ may_ (h mRoads) r s))) := by
  refine PC.of (lv := [some (rr_ G mo_), some (ii_ r), some (ii_ s)]) (by decide +kernel) (Nat.le_of_ble_eq_true rfl) rfl rfl ?_
  refine pw_aload_n (z := mo_) (pc := 0) dX12_maySit_0 rfl rfl ?_
  refine pw_iload_n (z := r) (pc := 1) dX12_maySit_1 rfl rfl ?_
  refine pw_iconst (pc := 2) dX12_maySit_2 ?_
  refine pw_callV (c := 12) (o := mo_) (As := [ii_ r, ii_ 3]) (rest := []) (pc := 3) dX12_maySit_3 (c_riderOf hM h (r) (3) (by first | omega) (by first | omega)) lX12_355 mX12_riderOf vX12_riderOf (im_mo_ hM) k_mo_ rfl rfl rfl (by decide) ⟨Nat.zero_le _, Nat.zero_le _⟩ (Nat.le_of_ble_eq_true rfl) (k_i (fun z3 h3 y3 q3 => ?_))
  obtain ⟨rfl, rfl⟩ := q3
  refine pw_iload_n (z := s) (pc := 6) dX12_maySit_6 rfl rfl ?_
  refine pw_ishr (pc := 7) dX12_maySit_7 (by first | omega) (by first | omega) ?_
  refine pw_iconst (pc := 8) dX12_maySit_8 ?_
  refine pw_iand1 (pc := 9) dX12_maySit_9 ?_
  refine pw_if_ne (t := 35) (pc := 10) dX12_maySit_10 (by decide) (by first | omega) (fun c10 => ?_) (fun c10 => ?_)
  · refine pw_iconst (pc := 35) dX12_maySit_35 ?_
    exact pw_zret (pc := 36) dX12_maySit_36 (by first | omega) (⟨rfl, by unfold may_; simp only [Int.add_zero] at *; grind⟩)
  · refine pw_aload_n (z := mo_) (pc := 13) dX12_maySit_13 rfl rfl ?_
    refine pw_iload_n (z := r) (pc := 14) dX12_maySit_14 rfl rfl ?_
    refine pw_iconst (pc := 15) dX12_maySit_15 ?_
    refine pw_callV (c := 12) (o := mo_) (As := [ii_ r, ii_ 0]) (rest := []) (pc := 16) dX12_maySit_16 (c_riderOf hM h (r) (0) (by first | omega) (by first | omega)) lX12_355 mX12_riderOf vX12_riderOf (im_mo_ hM) k_mo_ rfl rfl rfl (by decide) ⟨Nat.zero_le _, Nat.zero_le _⟩ (Nat.le_of_ble_eq_true rfl) (k_i (fun z16 h16 y16 q16 => ?_))
    obtain ⟨rfl, rfl⟩ := q16
    refine pw_iconst (pc := 19) dX12_maySit_19 ?_
    refine pw_icmp_ne (t := 31) (pc := 20) dX12_maySit_20 (by decide) (by first | omega) (by first | omega) (fun c20 => ?_) (fun c20 => ?_)
    · refine pw_iconst (pc := 31) dX12_maySit_31 ?_
      refine pw_goto (t := 36) (pc := 32) dX12_maySit_32 (by decide) ?_
      exact pw_zret (pc := 36) dX12_maySit_36 (by first | omega) (⟨rfl, by unfold may_; simp only [Int.add_zero] at *; grind⟩)
    · refine pw_aload_n (z := mo_) (pc := 23) dX12_maySit_23 rfl rfl ?_
      refine pw_iload_n (z := s) (pc := 24) dX12_maySit_24 rfl rfl ?_
      refine pw_callV (c := 12) (o := mo_) (As := [ii_ s]) (rest := []) (pc := 25) dX12_maySit_25 (c_isEnd hM h (s) (by first | omega) (by first | omega)) lX12_371 mX12_isEnd vX12_isEnd (im_mo_ hM) k_mo_ rfl rfl rfl (by decide) ⟨Nat.zero_le _, Nat.zero_le _⟩ (Nat.le_of_ble_eq_true rfl) (k_i (fun z25 h25 y25 q25 => ?_))
      obtain ⟨rfl, ⟨rfl, p25⟩ | ⟨rfl, p25⟩⟩ := q25
      · refine pw_if_eq (t := 35) (pc := 28) dX12_maySit_28 (by decide) (by first | omega) (fun c28 => absurd c28 (by decide)) (fun _ => ?_)
        refine pw_iconst (pc := 31) dX12_maySit_31 ?_
        refine pw_goto (t := 36) (pc := 32) dX12_maySit_32 (by decide) ?_
        exact pw_zret (pc := 36) dX12_maySit_36 (by first | omega) (⟨rfl, by unfold may_; simp only [Int.add_zero] at *; grind⟩)
      · refine pw_if_eq (t := 35) (pc := 28) dX12_maySit_28 (by decide) (by first | omega) (fun _ => ?_) (fun c28 => absurd c28 (by decide))
        refine pw_iconst (pc := 35) dX12_maySit_35 ?_
        exact pw_zret (pc := 36) dX12_maySit_36 (by first | omega) (⟨rfl, by unfold may_; simp only [Int.add_zero] at *; grind⟩)

set_option maxHeartbeats 4000000 in
set_option maxRecDepth 100000 in
theorem c_reads {G : GT_} (hM : okM_ G) (h : PH_) (hS : 2 ≤ h mRoads 0 ∧ h mRoads 0 ≤ 4) (hR : 0 ≤ h mRoads 2 ∧ h mRoads 2 ≤ h mRoads 0) (p : Int) (hp : ir_ p) : PC G yX12_reads cX12_reads 6 (some .boolean) 2 [rr_ G mo_, ii_ p] h (qi_ (fun z h' => off_ [mSits] h h' ∧ (0 ≤ p → ∀ r, 0 ≤ r → r < h mRoads 2 → h' mSits r = dg_ (h mRoads 2) p r) ∧ (z = 1 ∧ vp_ok (h mRoads 0) (h mRoads 2) p ∨ z = 0 ∧ ¬ vp_ok (h mRoads 0) (h mRoads 2) p))) := by
  refine PC.of (lv := [some (rr_ G mo_), some (ii_ p), none, none, none, none]) (by decide +kernel) (Nat.le_of_ble_eq_true rfl) rfl rfl ?_
  refine pw_iload_n (z := p) (pc := 0) dX12_reads_0 rfl rfl ?_
  refine pw_istore_n (lv1 := [some (rr_ G mo_), some (ii_ p), some (ii_ p), none, none, none]) (pc := 1) dX12_reads_1 rfl (by decide) rfl rfl ?_
  refine pw_iconst (pc := 2) dX12_reads_2 ?_
  refine pw_istore_n (lv1 := [some (rr_ G mo_), some (ii_ p), some (ii_ p), some (ii_ 0), none, none]) (pc := 3) dX12_reads_3 rfl (by decide) rfl rfl ?_
  have J13 : ∀ (is : Int), (is = 1 ∧ 0 ≤ p ∨ is = 0 ∧ ¬ 0 ≤ p) → PW G RX12 cX12_reads 6 (some .boolean) (rm_ 2) 0 0 (zm_ G (qi_ (fun z h' => off_ [mSits] h h' ∧ (0 ≤ p → ∀ r, 0 ≤ r → r < h mRoads 2 → h' mSits r = dg_ (h mRoads 2) p r) ∧ (z = 1 ∧ vp_ok (h mRoads 0) (h mRoads 2) p ∨ z = 0 ∧ ¬ vp_ok (h mRoads 0) (h mRoads 2) p)))) 13 [some (rr_ G mo_), some (ii_ p), some (ii_ p), some (ii_ 0), none, none] [ii_ is] h := by
    intro is hi
    refine pw_istore (lv1 := [some (rr_ G mo_), some (ii_ p), some (ii_ p), some (ii_ 0), some (ii_ is), none]) (pc := 13) dX12_reads_13 (by decide) rfl rfl ?_
    refine pw_aload_n (z := mo_) (pc := 15) dX12_reads_15 rfl rfl ?_
    refine pw_callV (c := 12) (o := mo_) (As := []) (rest := []) (pc := 16) dX12_reads_16 (c_riders hM h) lX12_334 mX12_riders vX12_riders (im_mo_ hM) k_mo_ rfl rfl rfl (by decide) ⟨Nat.zero_le _, Nat.zero_le _⟩ (Nat.le_of_ble_eq_true rfl) (k_i (fun z16 h16 y16 q16 => ?_))
    obtain ⟨rfl, rfl⟩ := q16
    refine pw_iconst (pc := 19) dX12_reads_19 ?_
    refine pw_isub (pc := 20) dX12_reads_20 ?_
    refine pw_istore (lv1 := [some (rr_ G mo_), some (ii_ p), some (ii_ p), some (ii_ 0), some (ii_ is), some (ii_ ((h mRoads 2) - 1))]) (pc := 21) dX12_reads_21 (by decide) rfl rfl ?_
    have L23 : ∀ (nn : Nat) (r : Int) (left : Int) (met : Int) (is : Int) (h1 : PH_), (-1 ≤ r ∧ r < h mRoads 2) → (off_ [mSits] h h1) → (ir_ left ∧ ir_ met) → (0 ≤ p → left = dv_ (h mRoads 2 - 1 - r).toNat p) → (0 ≤ p → ∀ q, r < q → q < h mRoads 2 → h1 mSits q = dg_ (h mRoads 2) p q) → (is = 1 → met = (rm4_ (h mRoads 2 - 1 - r).toNat p : Int)) → (is = 1 ∧ ro4_ (h mRoads 0) (h mRoads 2 - 1 - r).toNat p ∨ is = 0 ∧ ¬ ro4_ (h mRoads 0) (h mRoads 2 - 1 - r).toNat p) → (((h mRoads 2) + (r - h mRoads 2) + 2 : Int) ≤ nn) → PW G RX12 cX12_reads 6 (some .boolean) (rm_ 2) 0 0 (zm_ G (qi_ (fun z h' => off_ [mSits] h h' ∧ (0 ≤ p → ∀ r, 0 ≤ r → r < h mRoads 2 → h' mSits r = dg_ (h mRoads 2) p r) ∧ (z = 1 ∧ vp_ok (h mRoads 0) (h mRoads 2) p ∨ z = 0 ∧ ¬ vp_ok (h mRoads 0) (h mRoads 2) p)))) 23 [some (rr_ G mo_), some (ii_ p), some (ii_ left), some (ii_ met), some (ii_ is), some (ii_ r)] [] h1 := by
      intro nn
      induction nn with
      | zero => intro r left met is h1 ak af ar al ad am ai ams; exfalso; omega
      | succ nn ih23 =>
        intro r left met is h1 ak af ar al ad am ai ams
        refine pw_iload (z := r) (pc := 23) dX12_reads_23 rfl ?_
        have ai2 := dj_r ai
        have t4 := tq4_ ar.1
        refine pw_if_lt (t := 100) (pc := 25) dX12_reads_25 (by decide) (by first | omega) (fun c25 => ?_) (fun c25 => ?_)
        · have kz : (h mRoads 2 - 1 - r).toNat = (h mRoads 2).toNat := by omega
          have fo1 := af
          have fo2 : 0 ≤ p → ∀ q, 0 ≤ q → q < h mRoads 2 → h1 mSits q = dg_ (h mRoads 2) p q := fun h9 q h8 h7 => ad h9 q (by omega) h7
          refine pw_iload (z := is) (pc := 100) dX12_reads_100 rfl ?_
          refine pw_if_eq (t := 113) (pc := 102) dX12_reads_102 (by decide) (by first | omega) (fun c102 => ?_) (fun c102 => ?_)
          · refine pw_iconst (pc := 113) dX12_reads_113 ?_
            exact pw_zret (pc := 114) dX12_reads_114 (by first | omega) (by refine ⟨fo1, fo2, ?_⟩; unfold vp_ok; rw [← kz]; first | (refine Or.inr ⟨rfl, ?_⟩; rintro ⟨u1, u2⟩; first | exact dj_0 ai c102 u1 | (rw [← al (ro4_pos _ u1)] at u2; omega)) | (have u1 := dj_1 ai c102; refine Or.inl ⟨rfl, u1, ?_⟩; rw [← al (ro4_pos _ u1)]; omega))
          · refine pw_iload_n (z := left) (pc := 105) dX12_reads_105 rfl rfl ?_
            refine pw_if_ne (t := 113) (pc := 106) dX12_reads_106 (by decide) (by first | omega) (fun c106 => ?_) (fun c106 => ?_)
            · refine pw_iconst (pc := 113) dX12_reads_113 ?_
              exact pw_zret (pc := 114) dX12_reads_114 (by first | omega) (by refine ⟨fo1, fo2, ?_⟩; unfold vp_ok; rw [← kz]; first | (refine Or.inr ⟨rfl, ?_⟩; rintro ⟨u1, u2⟩; first | exact dj_0 ai c102 u1 | (rw [← al (ro4_pos _ u1)] at u2; omega)) | (have u1 := dj_1 ai c102; refine Or.inl ⟨rfl, u1, ?_⟩; rw [← al (ro4_pos _ u1)]; omega))
            · refine pw_iconst (pc := 109) dX12_reads_109 ?_
              refine pw_goto (t := 114) (pc := 110) dX12_reads_110 (by decide) ?_
              exact pw_zret (pc := 114) dX12_reads_114 (by first | omega) (by refine ⟨fo1, fo2, ?_⟩; unfold vp_ok; rw [← kz]; first | (refine Or.inr ⟨rfl, ?_⟩; rintro ⟨u1, u2⟩; first | exact dj_0 ai c102 u1 | (rw [← al (ro4_pos _ u1)] at u2; omega)) | (have u1 := dj_1 ai c102; refine Or.inl ⟨rfl, u1, ?_⟩; rw [← al (ro4_pos _ u1)]; omega))
        · refine pw_aload_n (z := mo_) (pc := 28) dX12_reads_28 rfl rfl ?_
          refine pw_getR (r := mSits) (pc := 29) dX12_reads_29 fX12_137 (im_mo_ hM) k_mo_ rfl fr_mSits ?_
          refine pw_iload (z := r) (pc := 32) dX12_reads_32 rfl ?_
          refine pw_iload_n (z := left) (pc := 34) dX12_reads_34 rfl rfl ?_
          refine pw_iconst (pc := 35) dX12_reads_35 ?_
          refine pw_irem (pc := 36) dX12_reads_36 (by first | omega) (by first | omega) ?_
          refine pw_iast (pc := 37) dX12_reads_37 (im_mSits hM) k_mSits 4 l_mSits (by first | omega) (by first | omega) (by first | omega) (by first | omega) ?_
          obtain ⟨g37, e37⟩ : ∃ x, x = up_ h1 mSits r (left.tmod 4) := ⟨_, rfl⟩
          refine pw_heq e37 ?_
          have kk : (h mRoads 2 - 1 - (r + -1)).toNat = (h mRoads 2 - 1 - r).toNat + 1 := by omega
          have fo : off_ [mSits] h g37 := by rw [e37]; exact off_up af (by decide)
          have f0 : g37 mRoads 0 = h mRoads 0 := by rw [fo mRoads (by decide)]
          have d1 : g37 mSits r = left.tmod 4 := by rw [e37, up_same]
          have d2 : 0 ≤ p → left.tmod 4 = dv_ (h mRoads 2 - 1 - r).toNat p % 4 ∧ left.tdiv 4 = dv_ (h mRoads 2 - 1 - r).toNat p / 4 := fun h9 => by
            rw [al h9]; exact ⟨Int.tmod_eq_emod_of_nonneg (dv_nn h9 _), Int.tdiv_eq_ediv_of_nonneg (dv_nn h9 _)⟩
          have d3 : ro4_ (h mRoads 0) (h mRoads 2 - 1 - r).toNat p → 0 ≤ p := ro4_pos _
          refine pw_iload_n (z := left) (pc := 38) dX12_reads_38 rfl rfl ?_
          refine pw_iconst (pc := 39) dX12_reads_39 ?_
          refine pw_idiv (pc := 40) dX12_reads_40 (by first | omega) (by first | omega) ?_
          refine pw_istore_n (lv1 := [some (rr_ G mo_), some (ii_ p), some (ii_ (left.tdiv 4)), some (ii_ met), some (ii_ is), some (ii_ r)]) (pc := 41) dX12_reads_41 rfl (by decide) rfl rfl ?_
          have J80 : ∀ (v : Int), (v = 1 ∧ ro4_ (h mRoads 0) ((h mRoads 2 - 1 - r).toNat + 1) p ∨ v = 0 ∧ ¬ ro4_ (h mRoads 0) ((h mRoads 2 - 1 - r).toNat + 1) p) → PW G RX12 cX12_reads 6 (some .boolean) (rm_ 2) 0 0 (zm_ G (qi_ (fun z h' => off_ [mSits] h h' ∧ (0 ≤ p → ∀ r, 0 ≤ r → r < h mRoads 2 → h' mSits r = dg_ (h mRoads 2) p r) ∧ (z = 1 ∧ vp_ok (h mRoads 0) (h mRoads 2) p ∨ z = 0 ∧ ¬ vp_ok (h mRoads 0) (h mRoads 2) p)))) 80 [some (rr_ G mo_), some (ii_ p), some (ii_ (left.tdiv 4)), some (ii_ met), some (ii_ is), some (ii_ r)] [ii_ v] g37 := by
            intro v hv
            have mm : v = 1 → ∀ w91 w92 : Int, (0 ≤ g37 mSits r → g37 mSits r < 31 → w91 = 2 ^ (g37 mSits r).toNat) → (0 ≤ met → 0 ≤ w91 → w92 = ((met.toNat ||| w91.toNat : Nat) : Int)) → w92 = (rm4_ ((h mRoads 2 - 1 - r).toNat + 1) p : Int) := by
              intro v1 w91 w92 x91 x92
              have u1 : ro4_ (h mRoads 0) (h mRoads 2 - 1 - r).toNat p := (dj_1 hv (by omega)).1
              have u2 := d3 u1
              have u3 := d2 u2
              have u4 := am (dj_t ai u1)
              have u5 : dv_ (h mRoads 2 - 1 - r).toNat p % 4 < 4 ∧ 0 ≤ dv_ (h mRoads 2 - 1 - r).toNat p % 4 := by omega
              rw [d1, u3.1] at x91
              have x91 := x91 (by omega) (by omega)
              have u6 : (2 : Int) ^ (dv_ (h mRoads 2 - 1 - r).toNat p % 4).toNat = ((2 ^ (dv_ (h mRoads 2 - 1 - r).toNat p % 4).toNat : Nat) : Int) := by norm_cast
              rw [u6] at x91
              have pz := Nat.two_pow_pos (dv_ (h mRoads 2 - 1 - r).toNat p % 4).toNat
              have x92 := x92 (by omega) (by omega)
              rw [x92, x91, u4, Int.toNat_natCast, Int.toNat_natCast]; rfl
            refine pw_istore (lv1 := [some (rr_ G mo_), some (ii_ p), some (ii_ (left.tdiv 4)), some (ii_ met), some (ii_ v), some (ii_ r)]) (pc := 80) dX12_reads_80 (by decide) rfl rfl ?_
            refine pw_iload_n (z := met) (pc := 82) dX12_reads_82 rfl rfl ?_
            refine pw_iconst (pc := 83) dX12_reads_83 ?_
            refine pw_aload_n (z := mo_) (pc := 84) dX12_reads_84 rfl rfl ?_
            refine pw_getR (r := mSits) (pc := 85) dX12_reads_85 fX12_137 (im_mo_ hM) k_mo_ rfl fr_mSits ?_
            refine pw_iload (z := r) (pc := 88) dX12_reads_88 rfl ?_
            refine pw_iald (pc := 90) dX12_reads_90 (im_mSits hM) k_mSits 4 l_mSits (by first | omega) (by first | omega) (by first | omega) (fun r90 => ?_)
            refine pw_ishlX (pc := 91) dX12_reads_91 (fun w91 r91 x91 => ?_)
            refine pw_iorX (pc := 92) dX12_reads_92 (by first | omega) (by first | omega) (fun w92 r92 x92 => ?_)
            refine pw_istore_n (lv1 := [some (rr_ G mo_), some (ii_ p), some (ii_ (left.tdiv 4)), some (ii_ w92), some (ii_ v), some (ii_ r)]) (pc := 93) dX12_reads_93 rfl (by decide) rfl rfl ?_
            refine pw_iinc (z := r) (lv1 := [some (rr_ G mo_), some (ii_ p), some (ii_ (left.tdiv 4)), some (ii_ w92), some (ii_ v), some (ii_ (r + (-1)))]) (pc := 94) dX12_reads_94 rfl (by decide) rfl rfl ?_
            refine pw_goto (t := 23) (pc := 97) dX12_reads_97 (by decide) ?_
            exact ih23 _ _ _ _ _ (by omega) (fo) (by omega) (fun h9 => by rw [kk]; exact (d2 h9).2) (fun h9 q h8 h7 => by by_cases h6 : r < q; exact (by rw [e37, up_at, if_neg (by omega)]; exact ad h9 q h6 h7); exact (by rw [show q = r by omega, d1, (d2 h9).1]; rfl)) (fun h9 => by rw [kk]; exact mm h9 _ _ x91 x92) (by rw [kk]; exact hv) (by omega)
          refine pw_iload (z := is) (pc := 42) dX12_reads_42 rfl ?_
          refine pw_if_eq (t := 79) (pc := 44) dX12_reads_44 (by decide) (by first | omega) (fun c44 => ?_) (fun c44 => ?_)
          · refine pw_iconst (pc := 79) dX12_reads_79 ?_
            exact J80 _ (by first | (refine Or.inr ⟨rfl, ?_⟩; unfold ro4_; rintro ⟨u1, u2, u3⟩; first | exact dj_0 ai c44 u1 | (have u4 := d2 (d3 u1); omega) | (rw [d1, d4.1, m0] at c72; exact c72 u3)) | (refine Or.inl ⟨rfl, ?_⟩; unfold ro4_; rw [d1, d4.1, m0] at c72; exact ⟨q0, by omega, c72⟩))
          · refine pw_aload_n (z := mo_) (pc := 47) dX12_reads_47 rfl rfl ?_
            refine pw_getR (r := mSits) (pc := 48) dX12_reads_48 fX12_137 (im_mo_ hM) k_mo_ rfl fr_mSits ?_
            refine pw_iload (z := r) (pc := 51) dX12_reads_51 rfl ?_
            refine pw_iald (pc := 53) dX12_reads_53 (im_mSits hM) k_mSits 4 l_mSits (by first | omega) (by first | omega) (by first | omega) (fun r53 => ?_)
            refine pw_aload_n (z := mo_) (pc := 54) dX12_reads_54 rfl rfl ?_
            refine pw_callV (c := 12) (o := mo_) (As := []) (rest := [ii_ (g37 mSits r)]) (pc := 55) dX12_reads_55 (c_seats hM g37) lX12_331 mX12_seats vX12_seats (im_mo_ hM) k_mo_ rfl rfl rfl (by decide) ⟨Nat.zero_le _, Nat.zero_le _⟩ (Nat.le_of_ble_eq_true rfl) (k_i (fun z55 h55 y55 q55 => ?_))
            obtain ⟨rfl, rfl⟩ := q55
            have n_g37_mRoads : g37 mRoads = h mRoads := ((show g37 mRoads = h1 mRoads from (by rw [e37]; exact up_off (by decide))).trans (show h1 mRoads = h mRoads from (af mRoads (by decide))))
            rw [n_g37_mRoads] at y55 ⊢
            refine pw_icmp_ge (t := 79) (pc := 58) dX12_reads_58 (by decide) (by first | omega | (simp only [n_g37_mRoads]; omega)) (by first | omega | (simp only [n_g37_mRoads]; omega)) (fun c58 => ?_) (fun c58 => ?_)
            · refine pw_iconst (pc := 79) dX12_reads_79 ?_
              exact J80 _ (by first | (refine Or.inr ⟨rfl, ?_⟩; unfold ro4_; rintro ⟨u1, u2, u3⟩; first | exact dj_0 ai c44 u1 | (have u4 := d2 (d3 u1); omega) | (rw [d1, d4.1, m0] at c72; exact c72 u3)) | (refine Or.inl ⟨rfl, ?_⟩; unfold ro4_; rw [d1, d4.1, m0] at c72; exact ⟨q0, by omega, c72⟩))
            · have q0 := dj_1 ai c44
              have p0 : 0 ≤ p := d3 q0
              have d4 := d2 p0
              have m0 := am (dj_t ai q0)
              have m1 := rm4_lt p (h mRoads 2 - 1 - r).toNat
              refine pw_iload_n (z := met) (pc := 61) dX12_reads_61 rfl rfl ?_
              refine pw_aload_n (z := mo_) (pc := 62) dX12_reads_62 rfl rfl ?_
              refine pw_getR (r := mSits) (pc := 63) dX12_reads_63 fX12_137 (im_mo_ hM) k_mo_ rfl fr_mSits ?_
              refine pw_iload (z := r) (pc := 66) dX12_reads_66 rfl ?_
              refine pw_iald (pc := 68) dX12_reads_68 (im_mSits hM) k_mSits 4 l_mSits (by first | omega | (simp only [n_g37_mRoads]; omega)) (by first | omega | (simp only [n_g37_mRoads]; omega)) (by first | omega | (simp only [n_g37_mRoads]; omega)) (fun r68 => ?_)
              refine pw_ishr (pc := 69) dX12_reads_69 (by first | omega | (simp only [n_g37_mRoads]; omega)) (by first | omega | (simp only [n_g37_mRoads]; omega)) ?_
              refine pw_iconst (pc := 70) dX12_reads_70 ?_
              refine pw_iand1 (pc := 71) dX12_reads_71 ?_
              refine pw_if_ne (t := 79) (pc := 72) dX12_reads_72 (by decide) (by first | omega | (simp only [n_g37_mRoads]; omega)) (fun c72 => ?_) (fun c72 => ?_)
              · refine pw_iconst (pc := 79) dX12_reads_79 ?_
                exact J80 _ (by first | (refine Or.inr ⟨rfl, ?_⟩; unfold ro4_; rintro ⟨u1, u2, u3⟩; first | exact dj_0 ai c44 u1 | (have u4 := d2 (d3 u1); omega) | (rw [d1, d4.1, m0] at c72; exact c72 u3)) | (refine Or.inl ⟨rfl, ?_⟩; unfold ro4_; rw [d1, d4.1, m0] at c72; exact ⟨q0, by omega, c72⟩))
              · refine pw_iconst (pc := 75) dX12_reads_75 ?_
                refine pw_goto (t := 80) (pc := 76) dX12_reads_76 (by decide) ?_
                exact J80 _ (by first | (refine Or.inr ⟨rfl, ?_⟩; unfold ro4_; rintro ⟨u1, u2, u3⟩; first | exact dj_0 ai c44 u1 | (have u4 := d2 (d3 u1); omega) | (rw [d1, d4.1, m0] at c72; exact c72 u3)) | (refine Or.inl ⟨rfl, ?_⟩; unfold ro4_; rw [d1, d4.1, m0] at c72; exact ⟨q0, by omega, c72⟩))
    exact L23 _ _ _ _ _ _ (by omega) (off_rf) (by omega) (fun _ => by rw [show (h mRoads 2 - 1 - (h mRoads 2 - 1)).toNat = 0 by omega]; rfl) (fun _ q _ _ => by omega) (fun _ => by rw [show (h mRoads 2 - 1 - (h mRoads 2 - 1)).toNat = 0 by omega]; rfl) (by rw [show (h mRoads 2 - 1 - (h mRoads 2 - 1)).toNat = 0 by omega]; unfold ro4_; exact hi) (Int.self_le_toNat _)
  refine pw_iload_n (z := p) (pc := 4) dX12_reads_4 rfl rfl ?_
  refine pw_if_lt (t := 12) (pc := 5) dX12_reads_5 (by decide) (by first | omega) (fun c5 => ?_) (fun c5 => ?_)
  · refine pw_iconst (pc := 12) dX12_reads_12 ?_
    exact J13 _ (by omega)
  · refine pw_iconst (pc := 8) dX12_reads_8 ?_
    refine pw_goto (t := 13) (pc := 9) dX12_reads_9 (by decide) ?_
    exact J13 _ (by omega)

