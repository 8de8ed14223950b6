set_option maxHeartbeats 4000000 in
set_option maxRecDepth 100000 in
theorem c_takes {G : GT_} (hM : okM_ G) (h : PH_) (hS : 2 ≤ h mRoads 0 ∧ h mRoads 0 ≤ 4) (hR : 0 ≤ h mRoads 2 ∧ h mRoads 2 ≤ h mRoads 0) (r t f : Int) (h1 : 0 ≤ r ∧ r < 4) (h2 : 0 ≤ t ∧ t ≤ 3) (h3 : 0 ≤ f ∧ f ≤ 15) : PC G yX12_takes cX12_takes 7 (some .int) 4 [rr_ G mo_, ii_ r, ii_ t, ii_ f] h (qi_ (fun z h' => h = h' ∧ z = tks_ (h mRoads) r t f (h mRoads 0).toNat)) := by
  refine PC.of (lv := [some (rr_ G mo_), some (ii_ r), some (ii_ t), some (ii_ f), none, none, none]) (by decide +kernel) (Nat.le_of_ble_eq_true rfl) rfl rfl ?_
  refine pw_iconst (pc := 0) dX12_takes_0 ?_
  refine pw_istore (lv1 := [some (rr_ G mo_), some (ii_ r), some (ii_ t), some (ii_ f), some (ii_ (-1)), none, none]) (pc := 1) dX12_takes_1 (by decide) rfl rfl ?_
  refine pw_iconst (pc := 3) dX12_takes_3 ?_
  refine pw_istore (lv1 := [some (rr_ G mo_), some (ii_ r), some (ii_ t), some (ii_ f), some (ii_ (-1)), some (ii_ 0), none]) (pc := 4) dX12_takes_4 (by decide) rfl rfl ?_
  have L6 : ∀ (nn : Nat) (w : Int) (s : Int), (0 ≤ s ∧ s ≤ h mRoads 0) → (w = tks_ (h mRoads) r t f s.toNat) → ((h mRoads 0 - s + 1 : Int) ≤ nn) → PW G RX12 cX12_takes 7 (some .int) (rm_ 4) 0 0 (zm_ G (qi_ (fun z h' => h = h' ∧ z = tks_ (h mRoads) r t f (h mRoads 0).toNat))) 6 [some (rr_ G mo_), some (ii_ r), some (ii_ t), some (ii_ f), some (ii_ w), some (ii_ s), none] [] h := by
    intro nn
    induction nn with
    | zero => intro w s ak aw ams; exfalso; omega
    | succ nn ih6 =>
      intro w s ak aw ams
      have tb := tks_b (h mRoads) r t f s.toNat
      refine pw_iload (z := s) (pc := 6) dX12_takes_6 rfl ?_
      refine pw_aload_n (z := mo_) (pc := 8) dX12_takes_8 rfl rfl ?_
      refine pw_callV (c := 12) (o := mo_) (As := []) (rest := [ii_ s]) (pc := 9) dX12_takes_9 (c_seats hM h) lX12_331 mX12_seats vX12_seats (im_mo_ hM) k_mo_ rfl rfl rfl (by decide) ⟨Nat.zero_le _, Nat.zero_le _⟩ (Nat.le_of_ble_eq_true rfl) (k_i (fun z9 h9 y9 q9 => ?_))
      obtain ⟨rfl, rfl⟩ := q9
      refine pw_icmp_ge (t := 88) (pc := 12) dX12_takes_12 (by decide) (by first | omega) (by first | omega) (fun c12 => ?_) (fun c12 => ?_)
      · refine pw_iload (z := w) (pc := 88) dX12_takes_88 rfl ?_
        exact pw_iret (pc := 90) dX12_takes_90 (by first | omega) (⟨rfl, by rw [aw, show s = h mRoads 0 by omega]⟩)
      · have J40 : ∀ (v : Int), (v = 1 ∧ (f / 2 ^ s.toNat % 2 = 1 ∧ may_ (h mRoads) r s) ∨ v = 0 ∧ ¬ (f / 2 ^ s.toNat % 2 = 1 ∧ may_ (h mRoads) r s)) → PW G RX12 cX12_takes 7 (some .int) (rm_ 4) 0 0 (zm_ G (qi_ (fun z h' => h = h' ∧ z = tks_ (h mRoads) r t f (h mRoads 0).toNat))) 40 [some (rr_ G mo_), some (ii_ r), some (ii_ t), some (ii_ f), some (ii_ w), some (ii_ s), none] [ii_ v] h := by
          intro v hv
          have v2 := dj_r hv
          refine pw_istore (lv1 := [some (rr_ G mo_), some (ii_ r), some (ii_ t), some (ii_ f), some (ii_ w), some (ii_ s), some (ii_ v)]) (pc := 40) dX12_takes_40 (by decide) rfl rfl ?_
          have J80 : ∀ (v3 : Int), (v3 = tks_ (h mRoads) r t f (s + 1).toNat) → PW G RX12 cX12_takes 7 (some .int) (rm_ 4) 0 0 (zm_ G (qi_ (fun z h' => h = h' ∧ z = tks_ (h mRoads) r t f (h mRoads 0).toNat))) 80 [some (rr_ G mo_), some (ii_ r), some (ii_ t), some (ii_ f), some (ii_ w), some (ii_ s), some (ii_ v)] [ii_ v3] h := by
            intro v3 hw2
            refine pw_istore (lv1 := [some (rr_ G mo_), some (ii_ r), some (ii_ t), some (ii_ f), some (ii_ v3), some (ii_ s), some (ii_ v)]) (pc := 80) dX12_takes_80 (by decide) rfl rfl ?_
            refine pw_iinc (z := s) (lv1 := [some (rr_ G mo_), some (ii_ r), some (ii_ t), some (ii_ f), some (ii_ v3), some (ii_ (s + 1)), some (ii_ v)]) (pc := 82) dX12_takes_82 rfl (by decide) rfl rfl ?_
            refine pw_goto (t := 6) (pc := 85) dX12_takes_85 (by decide) ?_
            refine pw_less (lv1 := [some (rr_ G mo_), some (ii_ r), some (ii_ t), some (ii_ f), some (ii_ v3), some (ii_ (s + 1)), none]) rfl (by intro i v; (match i with | 0 => simp | 1 => simp | 2 => simp | 3 => simp | 4 => simp | 5 => simp | 6 => simp | n + 7 => simp)) ?_
            exact ih6 _ _ (by omega) (hw2) (by omega)
          refine pw_iload (z := v) (pc := 42) dX12_takes_42 rfl ?_
          refine pw_if_eq (t := 78) (pc := 44) dX12_takes_44 (by decide) (by first | omega) (fun c44 => ?_) (fun c44 => ?_)
          · refine pw_iload (z := w) (pc := 78) dX12_takes_78 rfl ?_
            exact J80 _ (by rw [tks_s ak.1, ← aw]; first | exact (if_f (fun u => dj_0 hv c44 u.1)).symm | exact (if_t ⟨dj_1 hv c44, by omega⟩).symm | exact (if_f (fun u => by rcases u.2 with u | u <;> omega)).symm)
          · refine pw_iload (z := w) (pc := 47) dX12_takes_47 rfl ?_
            refine pw_if_lt (t := 73) (pc := 49) dX12_takes_49 (by decide) (by first | omega) (fun c49 => ?_) (fun c49 => ?_)
            · refine pw_iload (z := s) (pc := 73) dX12_takes_73 rfl ?_
              refine pw_goto (t := 80) (pc := 75) dX12_takes_75 (by decide) ?_
              exact J80 _ (by rw [tks_s ak.1, ← aw]; first | exact (if_f (fun u => dj_0 hv c44 u.1)).symm | exact (if_t ⟨dj_1 hv c44, by omega⟩).symm | exact (if_f (fun u => by rcases u.2 with u | u <;> omega)).symm)
            · refine pw_aload_n (z := mo_) (pc := 52) dX12_takes_52 rfl rfl ?_
              refine pw_iload_n (z := t) (pc := 53) dX12_takes_53 rfl rfl ?_
              refine pw_iconst (pc := 54) dX12_takes_54 ?_
              refine pw_iload (z := s) (pc := 55) dX12_takes_55 rfl ?_
              refine pw_iadd (pc := 57) dX12_takes_57 ?_
              refine pw_callV (c := 12) (o := mo_) (As := [ii_ t, ii_ (1 + s)]) (rest := []) (pc := 58) dX12_takes_58 (c_stretchOf hM h (t) (1 + s) (by first | omega) (by first | omega)) lX12_381 mX12_stretchOf vX12_stretchOf (im_mo_ hM) k_mo_ rfl rfl rfl (by decide) ⟨Nat.zero_le _, Nat.zero_le _⟩ (Nat.le_of_ble_eq_true rfl) (k_i (fun z58 h58 y58 q58 => ?_))
              obtain ⟨rfl, rfl⟩ := q58
              refine pw_aload_n (z := mo_) (pc := 61) dX12_takes_61 rfl rfl ?_
              refine pw_iload_n (z := t) (pc := 62) dX12_takes_62 rfl rfl ?_
              refine pw_iconst (pc := 63) dX12_takes_63 ?_
              refine pw_iload (z := w) (pc := 64) dX12_takes_64 rfl ?_
              refine pw_iadd (pc := 66) dX12_takes_66 ?_
              refine pw_callV (c := 12) (o := mo_) (As := [ii_ t, ii_ (1 + w)]) (rest := [ii_ (h mRoads (11 + 5 * (t) + (1 + s)))]) (pc := 67) dX12_takes_67 (c_stretchOf hM h (t) (1 + w) (by first | omega) (by first | omega)) lX12_381 mX12_stretchOf vX12_stretchOf (im_mo_ hM) k_mo_ rfl rfl rfl (by decide) ⟨Nat.zero_le _, Nat.zero_le _⟩ (Nat.le_of_ble_eq_true rfl) (k_i (fun z67 h67 y67 q67 => ?_))
              obtain ⟨rfl, rfl⟩ := q67
              refine pw_icmp_le (t := 78) (pc := 70) dX12_takes_70 (by decide) (by first | omega) (by first | omega) (fun c70 => ?_) (fun c70 => ?_)
              · refine pw_iload (z := w) (pc := 78) dX12_takes_78 rfl ?_
                exact J80 _ (by rw [tks_s ak.1, ← aw]; first | exact (if_f (fun u => dj_0 hv c44 u.1)).symm | exact (if_t ⟨dj_1 hv c44, by omega⟩).symm | exact (if_f (fun u => by rcases u.2 with u | u <;> omega)).symm)
              · refine pw_iload (z := s) (pc := 73) dX12_takes_73 rfl ?_
                refine pw_goto (t := 80) (pc := 75) dX12_takes_75 (by decide) ?_
                exact J80 _ (by rw [tks_s ak.1, ← aw]; first | exact (if_f (fun u => dj_0 hv c44 u.1)).symm | exact (if_t ⟨dj_1 hv c44, by omega⟩).symm | exact (if_f (fun u => by rcases u.2 with u | u <;> omega)).symm)
        refine pw_iload_n (z := f) (pc := 15) dX12_takes_15 rfl rfl ?_
        refine pw_iload (z := s) (pc := 16) dX12_takes_16 rfl ?_
        refine pw_ishr (pc := 18) dX12_takes_18 (by first | omega) (by first | omega) ?_
        refine pw_iconst (pc := 19) dX12_takes_19 ?_
        refine pw_iand1 (pc := 20) dX12_takes_20 ?_
        refine pw_iconst (pc := 21) dX12_takes_21 ?_
        refine pw_icmp_ne (t := 39) (pc := 22) dX12_takes_22 (by decide) (by first | omega) (by first | omega) (fun c22 => ?_) (fun c22 => ?_)
        · refine pw_iconst (pc := 39) dX12_takes_39 ?_
          exact J40 _ (by first | exact Or.inr ⟨rfl, fun u => c22 u.1⟩ | exact Or.inr ⟨rfl, fun u => p29 u.2⟩ | exact Or.inl ⟨rfl, c22, p29⟩)
        · refine pw_aload_n (z := mo_) (pc := 25) dX12_takes_25 rfl rfl ?_
          refine pw_iload_n (z := r) (pc := 26) dX12_takes_26 rfl rfl ?_
          refine pw_iload (z := s) (pc := 27) dX12_takes_27 rfl ?_
          refine pw_callV (c := 12) (o := mo_) (As := [ii_ r, ii_ s]) (rest := []) (pc := 29) dX12_takes_29 (c_maySit hM h (by first | omega) (by first | omega) (r) (s) (by first | omega) (by first | omega)) lX12_374 mX12_maySit vX12_maySit (im_mo_ hM) k_mo_ rfl rfl rfl (by decide) ⟨Nat.zero_le _, Nat.zero_le _⟩ (Nat.le_of_ble_eq_true rfl) (k_i (fun z29 h29 y29 q29 => ?_))
          obtain ⟨rfl, ⟨rfl, p29⟩ | ⟨rfl, p29⟩⟩ := q29
          · refine pw_if_eq (t := 39) (pc := 32) dX12_takes_32 (by decide) (by first | omega) (fun c32 => absurd c32 (by decide)) (fun _ => ?_)
            refine pw_iconst (pc := 35) dX12_takes_35 ?_
            refine pw_goto (t := 40) (pc := 36) dX12_takes_36 (by decide) ?_
            exact J40 _ (by first | exact Or.inr ⟨rfl, fun u => c22 u.1⟩ | exact Or.inr ⟨rfl, fun u => p29 u.2⟩ | exact Or.inl ⟨rfl, c22, p29⟩)
          · refine pw_if_eq (t := 39) (pc := 32) dX12_takes_32 (by decide) (by first | omega) (fun _ => ?_) (fun c32 => absurd c32 (by decide))
            refine pw_iconst (pc := 39) dX12_takes_39 ?_
            exact J40 _ (by first | exact Or.inr ⟨rfl, fun u => c22 u.1⟩ | exact Or.inr ⟨rfl, fun u => p29 u.2⟩ | exact Or.inl ⟨rfl, c22, p29⟩)
  exact L6 _ _ _ (by omega) (rfl) (Int.self_le_toNat _)

set_option maxHeartbeats 4000000 in
set_option maxRecDepth 100000 in
theorem c_dashes {G : GT_} (hM : okM_ G) (h : PH_) (hS : 2 ≤ h mRoads 0 ∧ h mRoads 0 ≤ 4) (hR : 0 ≤ h mRoads 2 ∧ h mRoads 2 ≤ h mRoads 0) (hd : ∀ r, 0 ≤ r → r < h mRoads 2 → 1 ≤ h mRoads (31 + 4 * r + 1) ∧ h mRoads (31 + 4 * r + 1) ≤ 9) (f : Int) (h3 : 0 ≤ f ∧ f ≤ 15) : PC G yX12_dashes cX12_dashes 4 (some .int) 2 [rr_ G mo_, ii_ f] h (qi_ (fun z h' => h = h' ∧ z = das_ (h mRoads) f (h mRoads 2).toNat)) := by
  refine PC.of (lv := [some (rr_ G mo_), some (ii_ f), none, none]) (by decide +kernel) (Nat.le_of_ble_eq_true rfl) rfl rfl ?_
  refine pw_iconst (pc := 0) dX12_dashes_0 ?_
  refine pw_istore_n (lv1 := [some (rr_ G mo_), some (ii_ f), some (ii_ 0), none]) (pc := 1) dX12_dashes_1 rfl (by decide) rfl rfl ?_
  refine pw_iconst (pc := 2) dX12_dashes_2 ?_
  refine pw_istore_n (lv1 := [some (rr_ G mo_), some (ii_ f), some (ii_ 0), some (ii_ 0)]) (pc := 3) dX12_dashes_3 rfl (by decide) rfl rfl ?_
  have L4 : ∀ (nn : Nat) (n : Int) (r : Int), (0 ≤ r ∧ r ≤ h mRoads 2) → (n = das_ (h mRoads) f r.toNat) → ((h mRoads 2 - r + 1 : Int) ≤ nn) → PW G RX12 cX12_dashes 4 (some .int) (rm_ 2) 0 0 (zm_ G (qi_ (fun z h' => h = h' ∧ z = das_ (h mRoads) f (h mRoads 2).toNat))) 4 [some (rr_ G mo_), some (ii_ f), some (ii_ n), some (ii_ r)] [] h := by
    intro nn
    induction nn with
    | zero => intro n r ak an ams; exfalso; omega
    | succ nn ih4 =>
      intro n r ak an ams
      have db := das_b (left := f) r.toNat (fun q q0 q1 => hd q q0 (by omega))
      refine pw_iload_n (z := r) (pc := 4) dX12_dashes_4 rfl rfl ?_
      refine pw_aload_n (z := mo_) (pc := 5) dX12_dashes_5 rfl rfl ?_
      refine pw_callV (c := 12) (o := mo_) (As := []) (rest := [ii_ r]) (pc := 6) dX12_dashes_6 (c_riders hM h) lX12_334 mX12_riders vX12_riders (im_mo_ hM) k_mo_ rfl rfl rfl (by decide) ⟨Nat.zero_le _, Nat.zero_le _⟩ (Nat.le_of_ble_eq_true rfl) (k_i (fun z6 h6 y6 q6 => ?_))
      obtain ⟨rfl, rfl⟩ := q6
      refine pw_icmp_ge (t := 40) (pc := 9) dX12_dashes_9 (by decide) (by first | omega) (by first | omega) (fun c9 => ?_) (fun c9 => ?_)
      · refine pw_iload_n (z := n) (pc := 40) dX12_dashes_40 rfl rfl ?_
        exact pw_iret (pc := 41) dX12_dashes_41 (by first | omega) (⟨rfl, by rw [an, show r = h mRoads 2 by omega]⟩)
      · refine pw_iload_n (z := n) (pc := 12) dX12_dashes_12 rfl rfl ?_
        have J32 : ∀ (v : Int), (v = (if f / 2 ^ r.toNat % 2 = 1 then h mRoads (31 + 4 * r + 1) else 0) ∧ 0 ≤ v ∧ v ≤ 9) → PW G RX12 cX12_dashes 4 (some .int) (rm_ 2) 0 0 (zm_ G (qi_ (fun z h' => h = h' ∧ z = das_ (h mRoads) f (h mRoads 2).toNat))) 32 [some (rr_ G mo_), some (ii_ f), some (ii_ n), some (ii_ r)] [ii_ v, ii_ n] h := by
          intro v hv
          refine pw_iadd (pc := 32) dX12_dashes_32 ?_
          refine pw_istore_n (lv1 := [some (rr_ G mo_), some (ii_ f), some (ii_ (n + v)), some (ii_ r)]) (pc := 33) dX12_dashes_33 rfl (by decide) rfl rfl ?_
          refine pw_iinc (z := r) (lv1 := [some (rr_ G mo_), some (ii_ f), some (ii_ (n + v)), some (ii_ (r + 1))]) (pc := 34) dX12_dashes_34 rfl (by decide) rfl rfl ?_
          refine pw_goto (t := 4) (pc := 37) dX12_dashes_37 (by decide) ?_
          exact ih4 _ _ (by omega) (by rw [das_s ak.1, an, hv.1]) (by omega)
        refine pw_iload_n (z := f) (pc := 13) dX12_dashes_13 rfl rfl ?_
        refine pw_iload_n (z := r) (pc := 14) dX12_dashes_14 rfl rfl ?_
        refine pw_ishr (pc := 15) dX12_dashes_15 (by first | omega) (by first | omega) ?_
        refine pw_iconst (pc := 16) dX12_dashes_16 ?_
        refine pw_iand1 (pc := 17) dX12_dashes_17 ?_
        refine pw_iconst (pc := 18) dX12_dashes_18 ?_
        refine pw_icmp_ne (t := 31) (pc := 19) dX12_dashes_19 (by decide) (by first | omega) (by first | omega) (fun c19 => ?_) (fun c19 => ?_)
        · refine pw_iconst (pc := 31) dX12_dashes_31 ?_
          exact J32 _ (by first | (rw [if_pos c19]; have := hd r ak.1 (by omega); omega) | (rw [if_neg c19]; omega))
        · refine pw_aload_n (z := mo_) (pc := 22) dX12_dashes_22 rfl rfl ?_
          refine pw_iload_n (z := r) (pc := 23) dX12_dashes_23 rfl rfl ?_
          refine pw_iconst (pc := 24) dX12_dashes_24 ?_
          refine pw_callV (c := 12) (o := mo_) (As := [ii_ r, ii_ 1]) (rest := [ii_ n]) (pc := 25) dX12_dashes_25 (c_riderOf hM h (r) (1) (by first | omega) (by first | omega)) lX12_355 mX12_riderOf vX12_riderOf (im_mo_ hM) k_mo_ rfl rfl rfl (by decide) ⟨Nat.zero_le _, Nat.zero_le _⟩ (Nat.le_of_ble_eq_true rfl) (k_i (fun z25 h25 y25 q25 => ?_))
          obtain ⟨rfl, rfl⟩ := q25
          refine pw_goto (t := 32) (pc := 28) dX12_dashes_28 (by decide) ?_
          exact J32 _ (by first | (rw [if_pos c19]; have := hd r ak.1 (by omega); omega) | (rw [if_neg c19]; omega))
  exact L4 _ _ _ (by omega) (rfl) (Int.self_le_toNat _)

set_option maxHeartbeats 4000000 in
set_option maxRecDepth 100000 in
theorem c_planOf {G : GT_} (hM : okM_ G) (h : PH_) (hS : 2 ≤ h mRoads 0 ∧ h mRoads 0 ≤ 4) (hR : 0 ≤ h mRoads 2 ∧ h mRoads 2 ≤ h mRoads 0) (hs : ∀ r, 0 ≤ r → r < h mRoads 2 → 0 ≤ h mSits r ∧ h mSits r ≤ 3) : PC G yX12_planOf cX12_planOf 3 (some .int) 2 [rr_ G mo_] h (qi_ (fun z h' => h = h' ∧ z = pln_ (h mSits) (h mRoads 2).toNat)) := by
  refine PC.of (lv := [some (rr_ G mo_), none, none]) (by decide +kernel) (Nat.le_of_ble_eq_true rfl) rfl rfl ?_
  refine pw_iconst (pc := 0) dX12_planOf_0 ?_
  refine pw_istore_n (lv1 := [some (rr_ G mo_), some (ii_ 0), none]) (pc := 1) dX12_planOf_1 rfl (by decide) rfl rfl ?_
  refine pw_iconst (pc := 2) dX12_planOf_2 ?_
  refine pw_istore_n (lv1 := [some (rr_ G mo_), some (ii_ 0), some (ii_ 0)]) (pc := 3) dX12_planOf_3 rfl (by decide) rfl rfl ?_
  have L4 : ∀ (nn : Nat) (n : Int) (r : Int), (0 ≤ r ∧ r ≤ h mRoads 2) → (n = pln_ (h mSits) r.toNat) → ((h mRoads 2 - r + 1 : Int) ≤ nn) → PW G RX12 cX12_planOf 3 (some .int) (rm_ 2) 0 0 (zm_ G (qi_ (fun z h' => h = h' ∧ z = pln_ (h mSits) (h mRoads 2).toNat))) 4 [some (rr_ G mo_), some (ii_ n), some (ii_ r)] [] h := by
    intro nn
    induction nn with
    | zero => intro n r ak an ams; exfalso; omega
    | succ nn ih4 =>
      intro n r ak an ams
      have pb := pln_b (si := h mSits) r.toNat (by omega) (fun q q0 q1 => hs q q0 (by omega))
      have pe : (4 : Int) ^ r.toNat ≤ 256 := by have h5 : r = 0 ∨ r = 1 ∨ r = 2 ∨ r = 3 ∨ r = 4 := by omega
                                                rcases h5 with h5 | h5 | h5 | h5 | h5 <;> rw [h5] <;> decide
      refine pw_iload_n (z := r) (pc := 4) dX12_planOf_4 rfl rfl ?_
      refine pw_aload_n (z := mo_) (pc := 5) dX12_planOf_5 rfl rfl ?_
      refine pw_callV (c := 12) (o := mo_) (As := []) (rest := [ii_ r]) (pc := 6) dX12_planOf_6 (c_riders hM h) lX12_334 mX12_riders vX12_riders (im_mo_ hM) k_mo_ rfl rfl rfl (by decide) ⟨Nat.zero_le _, Nat.zero_le _⟩ (Nat.le_of_ble_eq_true rfl) (k_i (fun z6 h6 y6 q6 => ?_))
      obtain ⟨rfl, rfl⟩ := q6
      refine pw_icmp_ge (t := 29) (pc := 9) dX12_planOf_9 (by decide) (by first | omega) (by first | omega) (fun c9 => ?_) (fun c9 => ?_)
      · refine pw_iload_n (z := n) (pc := 29) dX12_planOf_29 rfl rfl ?_
        exact pw_iret (pc := 30) dX12_planOf_30 (by first | omega) (⟨rfl, by rw [an, show r = h mRoads 2 by omega]⟩)
      · refine pw_iconst (pc := 12) dX12_planOf_12 ?_
        refine pw_iload_n (z := n) (pc := 13) dX12_planOf_13 rfl rfl ?_
        refine pw_imul (pc := 14) dX12_planOf_14 ?_
        refine pw_aload_n (z := mo_) (pc := 15) dX12_planOf_15 rfl rfl ?_
        refine pw_getR (r := mSits) (pc := 16) dX12_planOf_16 fX12_137 (im_mo_ hM) k_mo_ rfl fr_mSits ?_
        refine pw_iload_n (z := r) (pc := 19) dX12_planOf_19 rfl rfl ?_
        refine pw_iald (pc := 20) dX12_planOf_20 (im_mSits hM) k_mSits 4 l_mSits (by first | omega) (by first | omega) (by first | omega) (fun r20 => ?_)
        refine pw_iadd (pc := 21) dX12_planOf_21 ?_
        refine pw_istore_n (lv1 := [some (rr_ G mo_), some (ii_ ((4 * n) + (h mSits r))), some (ii_ r)]) (pc := 22) dX12_planOf_22 rfl (by decide) rfl rfl ?_
        refine pw_iinc (z := r) (lv1 := [some (rr_ G mo_), some (ii_ ((4 * n) + (h mSits r))), some (ii_ (r + 1))]) (pc := 23) dX12_planOf_23 rfl (by decide) rfl rfl ?_
        refine pw_goto (t := 4) (pc := 26) dX12_planOf_26 (by decide) ?_
        exact ih4 _ _ (by omega) (by rw [pln_s ak.1, an]) (by omega)
  exact L4 _ _ _ (by omega) (rfl) (Int.self_le_toNat _)

set_option maxHeartbeats 4000000 in
set_option maxRecDepth 100000 in
theorem c_spreadAt {G : GT_} (hM : okM_ G) (h : PH_) (hS : 2 ≤ h mRoads 0 ∧ h mRoads 0 ≤ 4) (hR : 0 ≤ h mRoads 2 ∧ h mRoads 2 ≤ h mRoads 0) (hR1 : 1 ≤ h mRoads 2) (i : Int) (h1 : 0 ≤ i ∧ i ≤ 16) (hb : ∀ r, 0 ≤ r → r < h mRoads 2 → -1000000 ≤ h mTotals (i + r) ∧ h mTotals (i + r) ≤ 1000000) : PC G yX12_spreadAt cX12_spreadAt 5 (some .int) 2 [rr_ G mo_, ii_ i] h (qi_ (fun z h' => h = h' ∧ z = spr_ (h mTotals) i (h mRoads 2))) := by
  refine PC.of (lv := [some (rr_ G mo_), some (ii_ i), none, none, none]) (by decide +kernel) (Nat.le_of_ble_eq_true rfl) rfl rfl ?_
  refine pw_aload_n (z := mo_) (pc := 0) dX12_spreadAt_0 rfl rfl ?_
  refine pw_getR (r := mTotals) (pc := 1) dX12_spreadAt_1 fX12_152 (im_mo_ hM) k_mo_ rfl fr_mTotals ?_
  refine pw_iload_n (z := i) (pc := 4) dX12_spreadAt_4 rfl rfl ?_
  refine pw_iald (pc := 5) dX12_spreadAt_5 (im_mTotals hM) k_mTotals 20 l_mTotals (by first | omega) (by first | omega) (by first | omega) (fun r5 => ?_)
  refine pw_istore_n (lv1 := [some (rr_ G mo_), some (ii_ i), some (ii_ (h mTotals i)), none, none]) (pc := 6) dX12_spreadAt_6 rfl (by decide) rfl rfl ?_
  refine pw_aload_n (z := mo_) (pc := 7) dX12_spreadAt_7 rfl rfl ?_
  refine pw_getR (r := mTotals) (pc := 8) dX12_spreadAt_8 fX12_152 (im_mo_ hM) k_mo_ rfl fr_mTotals ?_
  refine pw_iload_n (z := i) (pc := 11) dX12_spreadAt_11 rfl rfl ?_
  refine pw_iald (pc := 12) dX12_spreadAt_12 (im_mTotals hM) k_mTotals 20 l_mTotals (by first | omega) (by first | omega) (by first | omega) (fun r12 => ?_)
  refine pw_istore_n (lv1 := [some (rr_ G mo_), some (ii_ i), some (ii_ (h mTotals i)), some (ii_ (h mTotals i)), none]) (pc := 13) dX12_spreadAt_13 rfl (by decide) rfl rfl ?_
  refine pw_iconst (pc := 14) dX12_spreadAt_14 ?_
  refine pw_istore (lv1 := [some (rr_ G mo_), some (ii_ i), some (ii_ (h mTotals i)), some (ii_ (h mTotals i)), some (ii_ 1)]) (pc := 15) dX12_spreadAt_15 (by decide) rfl rfl ?_
  have L17 : ∀ (nn : Nat) (lo : Int) (hg : Int) (r : Int), (1 ≤ r ∧ (r ≤ h mRoads 2 ∨ r = 1)) → (lo = mn_ (h mTotals) i (r - 1).toNat) → (hg = mx_ (h mTotals) i (r - 1).toNat) → ((h mRoads 2 - r + 4 : Int) ≤ nn) → PW G RX12 cX12_spreadAt 5 (some .int) (rm_ 2) 0 0 (zm_ G (qi_ (fun z h' => h = h' ∧ z = spr_ (h mTotals) i (h mRoads 2)))) 17 [some (rr_ G mo_), some (ii_ i), some (ii_ lo), some (ii_ hg), some (ii_ r)] [] h := by
    intro nn
    induction nn with
    | zero => intro lo hg r ak al ah ams; exfalso; omega
    | succ nn ih17 =>
      intro lo hg r ak al ah ams
      have mb := mn_b (f := h mTotals) (i := i) (B := 1000000) (r - 1).toNat (fun q q0 q1 => hb q q0 (by omega))
      have xb := mx_b (f := h mTotals) (i := i) (B := 1000000) (r - 1).toNat (fun q q0 q1 => hb q q0 (by omega))
      refine pw_iload (z := r) (pc := 17) dX12_spreadAt_17 rfl ?_
      refine pw_aload_n (z := mo_) (pc := 19) dX12_spreadAt_19 rfl rfl ?_
      refine pw_callV (c := 12) (o := mo_) (As := []) (rest := [ii_ r]) (pc := 20) dX12_spreadAt_20 (c_riders hM h) lX12_334 mX12_riders vX12_riders (im_mo_ hM) k_mo_ rfl rfl rfl (by decide) ⟨Nat.zero_le _, Nat.zero_le _⟩ (Nat.le_of_ble_eq_true rfl) (k_i (fun z20 h20 y20 q20 => ?_))
      obtain ⟨rfl, rfl⟩ := q20
      refine pw_icmp_ge (t := 86) (pc := 23) dX12_spreadAt_23 (by decide) (by first | omega) (by first | omega) (fun c23 => ?_) (fun c23 => ?_)
      · refine pw_iload_n (z := hg) (pc := 86) dX12_spreadAt_86 rfl rfl ?_
        refine pw_iload_n (z := lo) (pc := 87) dX12_spreadAt_87 rfl rfl ?_
        refine pw_isub (pc := 88) dX12_spreadAt_88 ?_
        exact pw_iret (pc := 89) dX12_spreadAt_89 (by first | omega) (⟨rfl, by unfold spr_; rw [al, ah, show (r - 1).toNat = (h mRoads 2 - 1).toNat by omega]⟩)
      · have J52 : ∀ (v : Int), (v = (if h mTotals (i + r) < lo then h mTotals (i + r) else lo)) → PW G RX12 cX12_spreadAt 5 (some .int) (rm_ 2) 0 0 (zm_ G (qi_ (fun z h' => h = h' ∧ z = spr_ (h mTotals) i (h mRoads 2)))) 52 [some (rr_ G mo_), some (ii_ i), some (ii_ lo), some (ii_ hg), some (ii_ r)] [ii_ v] h := by
          intro v hv1
          refine pw_istore_n (lv1 := [some (rr_ G mo_), some (ii_ i), some (ii_ v), some (ii_ hg), some (ii_ r)]) (pc := 52) dX12_spreadAt_52 rfl (by decide) rfl rfl ?_
          have J79 : ∀ (vx : Int), (vx = (if hg < h mTotals (i + r) then h mTotals (i + r) else hg)) → PW G RX12 cX12_spreadAt 5 (some .int) (rm_ 2) 0 0 (zm_ G (qi_ (fun z h' => h = h' ∧ z = spr_ (h mTotals) i (h mRoads 2)))) 79 [some (rr_ G mo_), some (ii_ i), some (ii_ v), some (ii_ hg), some (ii_ r)] [ii_ vx] h := by
            intro vx hv2
            refine pw_istore_n (lv1 := [some (rr_ G mo_), some (ii_ i), some (ii_ v), some (ii_ vx), some (ii_ r)]) (pc := 79) dX12_spreadAt_79 rfl (by decide) rfl rfl ?_
            refine pw_iinc (z := r) (lv1 := [some (rr_ G mo_), some (ii_ i), some (ii_ v), some (ii_ vx), some (ii_ (r + 1))]) (pc := 80) dX12_spreadAt_80 rfl (by decide) rfl rfl ?_
            refine pw_goto (t := 17) (pc := 83) dX12_spreadAt_83 (by decide) ?_
            exact ih17 _ _ _ (by omega) (by rw [mn_s (by omega), ← al]; exact hv1) (by rw [mx_s (by omega), ← ah]; exact hv2) (by omega)
          refine pw_aload_n (z := mo_) (pc := 53) dX12_spreadAt_53 rfl rfl ?_
          refine pw_getR (r := mTotals) (pc := 54) dX12_spreadAt_54 fX12_152 (im_mo_ hM) k_mo_ rfl fr_mTotals ?_
          refine pw_iload_n (z := i) (pc := 57) dX12_spreadAt_57 rfl rfl ?_
          refine pw_iload (z := r) (pc := 58) dX12_spreadAt_58 rfl ?_
          refine pw_iadd (pc := 60) dX12_spreadAt_60 ?_
          refine pw_iald (pc := 61) dX12_spreadAt_61 (im_mTotals hM) k_mTotals 20 l_mTotals (by first | omega) (by first | omega) (by first | omega) (fun r61 => ?_)
          refine pw_iload_n (z := hg) (pc := 62) dX12_spreadAt_62 rfl rfl ?_
          refine pw_icmp_le (t := 78) (pc := 63) dX12_spreadAt_63 (by decide) (by first | omega) (by first | omega) (fun c63 => ?_) (fun c63 => ?_)
          · refine pw_iload_n (z := hg) (pc := 78) dX12_spreadAt_78 rfl rfl ?_
            exact J79 _ (by first | (rw [if_pos (by omega)]; done) | (rw [if_neg (by omega)]; done))
          · refine pw_aload_n (z := mo_) (pc := 66) dX12_spreadAt_66 rfl rfl ?_
            refine pw_getR (r := mTotals) (pc := 67) dX12_spreadAt_67 fX12_152 (im_mo_ hM) k_mo_ rfl fr_mTotals ?_
            refine pw_iload_n (z := i) (pc := 70) dX12_spreadAt_70 rfl rfl ?_
            refine pw_iload (z := r) (pc := 71) dX12_spreadAt_71 rfl ?_
            refine pw_iadd (pc := 73) dX12_spreadAt_73 ?_
            refine pw_iald (pc := 74) dX12_spreadAt_74 (im_mTotals hM) k_mTotals 20 l_mTotals (by first | omega) (by first | omega) (by first | omega) (fun r74 => ?_)
            refine pw_goto (t := 79) (pc := 75) dX12_spreadAt_75 (by decide) ?_
            exact J79 _ (by first | (rw [if_pos (by omega)]; done) | (rw [if_neg (by omega)]; done))
        refine pw_aload_n (z := mo_) (pc := 26) dX12_spreadAt_26 rfl rfl ?_
        refine pw_getR (r := mTotals) (pc := 27) dX12_spreadAt_27 fX12_152 (im_mo_ hM) k_mo_ rfl fr_mTotals ?_
        refine pw_iload_n (z := i) (pc := 30) dX12_spreadAt_30 rfl rfl ?_
        refine pw_iload (z := r) (pc := 31) dX12_spreadAt_31 rfl ?_
        refine pw_iadd (pc := 33) dX12_spreadAt_33 ?_
        refine pw_iald (pc := 34) dX12_spreadAt_34 (im_mTotals hM) k_mTotals 20 l_mTotals (by first | omega) (by first | omega) (by first | omega) (fun r34 => ?_)
        refine pw_iload_n (z := lo) (pc := 35) dX12_spreadAt_35 rfl rfl ?_
        refine pw_icmp_ge (t := 51) (pc := 36) dX12_spreadAt_36 (by decide) (by first | omega) (by first | omega) (fun c36 => ?_) (fun c36 => ?_)
        · refine pw_iload_n (z := lo) (pc := 51) dX12_spreadAt_51 rfl rfl ?_
          exact J52 _ (by first | (rw [if_pos (by omega)]; done) | (rw [if_neg (by omega)]; done))
        · refine pw_aload_n (z := mo_) (pc := 39) dX12_spreadAt_39 rfl rfl ?_
          refine pw_getR (r := mTotals) (pc := 40) dX12_spreadAt_40 fX12_152 (im_mo_ hM) k_mo_ rfl fr_mTotals ?_
          refine pw_iload_n (z := i) (pc := 43) dX12_spreadAt_43 rfl rfl ?_
          refine pw_iload (z := r) (pc := 44) dX12_spreadAt_44 rfl ?_
          refine pw_iadd (pc := 46) dX12_spreadAt_46 ?_
          refine pw_iald (pc := 47) dX12_spreadAt_47 (im_mTotals hM) k_mTotals 20 l_mTotals (by first | omega) (by first | omega) (by first | omega) (fun r47 => ?_)
          refine pw_goto (t := 52) (pc := 48) dX12_spreadAt_48 (by decide) ?_
          exact J52 _ (by first | (rw [if_pos (by omega)]; done) | (rw [if_neg (by omega)]; done))
  exact L17 _ _ _ _ (by omega) (rfl) (rfl) (Int.self_le_toNat _)

set_option maxHeartbeats 4000000 in
set_option maxRecDepth 100000 in
theorem c_bits {G : GT_} (h : PH_) (x : Int) (h1 : ir_ x) : PC G yX12_bits cX12_bits 3 (some .int) 1 [ii_ x] h (qi_ (fun z h' => h = h' ∧ z = bit_ x 4)) := by
  refine PC.of (lv := [some (ii_ x), none, none]) (by decide +kernel) (Nat.le_of_ble_eq_true rfl) rfl rfl ?_
  refine pw_iconst (pc := 0) dX12_bits_0 ?_
  refine pw_istore_n (lv1 := [some (ii_ x), some (ii_ 0), none]) (pc := 1) dX12_bits_1 rfl (by decide) rfl rfl ?_
  refine pw_iconst (pc := 2) dX12_bits_2 ?_
  refine pw_istore_n (lv1 := [some (ii_ x), some (ii_ 0), some (ii_ 0)]) (pc := 3) dX12_bits_3 rfl (by decide) rfl rfl ?_
  have L4 : ∀ (nn : Nat) (n : Int) (k : Int), (0 ≤ k ∧ k ≤ 4) → (n = bit_ x k.toNat) → ((4 - k + 1 : Int) ≤ nn) → PW G RX12 cX12_bits 3 (some .int) (rm_ 1) 0 0 (zm_ G (qi_ (fun z h' => h = h' ∧ z = bit_ x 4))) 4 [some (ii_ x), some (ii_ n), some (ii_ k)] [] h := by
    intro nn
    induction nn with
    | zero => intro n k ak an ams; exfalso; omega
    | succ nn ih4 =>
      intro n k ak an ams
      have bb := bit_b x k.toNat
      have bc := bit_b x (k + 1).toNat
      rw [bit_s ak.1] at bc
      refine pw_iload_n (z := k) (pc := 4) dX12_bits_4 rfl rfl ?_
      refine pw_iconst (pc := 5) dX12_bits_5 ?_
      refine pw_icmp_ge (t := 23) (pc := 6) dX12_bits_6 (by decide) (by first | omega) (by first | omega) (fun c6 => ?_) (fun c6 => ?_)
      · refine pw_iload_n (z := n) (pc := 23) dX12_bits_23 rfl rfl ?_
        exact pw_iret (pc := 24) dX12_bits_24 (by first | omega) (⟨rfl, by rw [an, show k = 4 by omega]; rfl⟩)
      · refine pw_iload_n (z := n) (pc := 9) dX12_bits_9 rfl rfl ?_
        refine pw_iload_n (z := x) (pc := 10) dX12_bits_10 rfl rfl ?_
        refine pw_iload_n (z := k) (pc := 11) dX12_bits_11 rfl rfl ?_
        refine pw_ishr (pc := 12) dX12_bits_12 (by first | omega) (by first | omega) ?_
        refine pw_iconst (pc := 13) dX12_bits_13 ?_
        refine pw_iand1 (pc := 14) dX12_bits_14 ?_
        refine pw_iadd (pc := 15) dX12_bits_15 ?_
        refine pw_istore_n (lv1 := [some (ii_ x), some (ii_ (n + ((x / 2 ^ k.toNat) % 2))), some (ii_ k)]) (pc := 16) dX12_bits_16 rfl (by decide) rfl rfl ?_
        refine pw_iinc (z := k) (lv1 := [some (ii_ x), some (ii_ (n + ((x / 2 ^ k.toNat) % 2))), some (ii_ (k + 1))]) (pc := 17) dX12_bits_17 rfl (by decide) rfl rfl ?_
        refine pw_goto (t := 4) (pc := 20) dX12_bits_20 (by decide) ?_
        exact ih4 _ _ (by omega) (by rw [bit_s ak.1, an]) (by omega)
  exact L4 _ _ _ (by omega) (rfl) (Int.self_le_toNat _)

