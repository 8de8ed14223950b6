set_option maxHeartbeats 4000000 in
set_option maxRecDepth 100000 in
theorem c_changed {G : GT_} (hM : okM_ G) (h : PH_) (hS : 2 ≤ h mRoads 0 ∧ h mRoads 0 ≤ 4) (hR : 0 ≤ h mRoads 2 ∧ h mRoads 2 ≤ h mRoads 0) (a b : Int) (h1 : 0 ≤ a ∧ a ≤ 255) (h2 : 0 ≤ b ∧ b ≤ 255) : PC G yX12_changed cX12_changed 7 (some .int) 2 [rr_ G mo_, ii_ a, ii_ b] h (qi_ (fun z h' => h = h' ∧ z = (chg_ (h mRoads 2) a b (h mRoads 2).toNat : Int))) := by
  refine PC.of (lv := [some (rr_ G mo_), some (ii_ a), some (ii_ b), none, none, none, none]) (by decide +kernel) (Nat.le_of_ble_eq_true rfl) rfl rfl ?_
  refine pw_iload_n (z := a) (pc := 0) dX12_changed_0 rfl rfl ?_
  refine pw_istore_n (lv1 := [some (rr_ G mo_), some (ii_ a), some (ii_ b), some (ii_ a), none, none, none]) (pc := 1) dX12_changed_1 rfl (by decide) rfl rfl ?_
  refine pw_iload_n (z := b) (pc := 2) dX12_changed_2 rfl rfl ?_
  refine pw_istore (lv1 := [some (rr_ G mo_), some (ii_ a), some (ii_ b), some (ii_ a), some (ii_ b), none, none]) (pc := 3) dX12_changed_3 (by decide) rfl rfl ?_
  refine pw_iconst (pc := 5) dX12_changed_5 ?_
  refine pw_istore (lv1 := [some (rr_ G mo_), some (ii_ a), some (ii_ b), some (ii_ a), some (ii_ b), some (ii_ 0), none]) (pc := 6) dX12_changed_6 (by decide) rfl rfl ?_
  refine pw_aload_n (z := mo_) (pc := 8) dX12_changed_8 rfl rfl ?_
  refine pw_callV (c := 12) (o := mo_) (As := []) (rest := []) (pc := 9) dX12_changed_9 (c_riders hM h) lX12_334 mX12_riders vX12_riders (im_mo_ hM) k_mo_ rfl rfl rfl (by decide) ⟨Nat.zero_le _, Nat.zero_le _⟩ (Nat.le_of_ble_eq_true rfl) (k_i (fun z9 h9 y9 q9 => ?_))
  obtain ⟨rfl, rfl⟩ := q9
  refine pw_iconst (pc := 12) dX12_changed_12 ?_
  refine pw_isub (pc := 13) dX12_changed_13 ?_
  refine pw_istore (lv1 := [some (rr_ G mo_), some (ii_ a), some (ii_ b), some (ii_ a), some (ii_ b), some (ii_ 0), some (ii_ ((h mRoads 2) - 1))]) (pc := 14) dX12_changed_14 (by decide) rfl rfl ?_
  have L16 : ∀ (nn : Nat) (x : Int) (y : Int) (w : Int) (r : Int), (-1 ≤ r ∧ r < h mRoads 2) → (x = dv_ (h mRoads 2 - 1 - r).toNat a) → (y = dv_ (h mRoads 2 - 1 - r).toNat b) → (w = (chg_ (h mRoads 2) a b (h mRoads 2 - 1 - r).toNat : Int)) → ((r + 2 : Int) ≤ nn) → PW G RX12 cX12_changed 7 (some .int) (rm_ 2) 0 0 (zm_ G (qi_ (fun z h' => h = h' ∧ z = (chg_ (h mRoads 2) a b (h mRoads 2).toNat : Int)))) 16 [some (rr_ G mo_), some (ii_ a), some (ii_ b), some (ii_ x), some (ii_ y), some (ii_ w), some (ii_ r)] [] h := by
    intro nn
    induction nn with
    | zero => intro x y w r ak ax ay aw ams; exfalso; omega
    | succ nn ih16 =>
      intro x y w r ak ax ay aw ams
      have cl := chg_lt (R := h mRoads 2) (a := a) (b := b) (by omega) (h mRoads 2 - 1 - r).toNat (by omega)
      refine pw_iload (z := r) (pc := 16) dX12_changed_16 rfl ?_
      refine pw_if_lt (t := 60) (pc := 18) dX12_changed_18 (by decide) (by first | omega) (fun c18 => ?_) (fun c18 => ?_)
      · refine pw_iload (z := w) (pc := 60) dX12_changed_60 rfl ?_
        exact pw_iret (pc := 62) dX12_changed_62 (by first | omega) (⟨rfl, by rw [aw, show (h mRoads 2 - 1 - r).toNat = (h mRoads 2).toNat by omega]⟩)
      · have kk : (h mRoads 2 - 1 - (r + -1)).toNat = (h mRoads 2 - 1 - r).toNat + 1 := by omega
        have xa := dv_nn h1.1 (h mRoads 2 - 1 - r).toNat
        have xb := dv_nn h2.1 (h mRoads 2 - 1 - r).toNat
        have xc := dv_le h1.1 (h mRoads 2 - 1 - r).toNat
        have xd := dv_le h2.1 (h mRoads 2 - 1 - r).toNat
        have ta : x.tmod 4 = dv_ (h mRoads 2 - 1 - r).toNat a % 4 := by rw [ax]; exact Int.tmod_eq_emod_of_nonneg xa
        have tb : y.tmod 4 = dv_ (h mRoads 2 - 1 - r).toNat b % 4 := by rw [ay]; exact Int.tmod_eq_emod_of_nonneg xb
        have tc : x.tdiv 4 = dv_ (h mRoads 2 - 1 - r).toNat a / 4 := by rw [ax]; exact Int.tdiv_eq_ediv_of_nonneg xa
        have td : y.tdiv 4 = dv_ (h mRoads 2 - 1 - r).toNat b / 4 := by rw [ay]; exact Int.tdiv_eq_ediv_of_nonneg xb
        refine pw_iload (z := w) (pc := 21) dX12_changed_21 rfl ?_
        have J41 : ∀ (v : Int), (v = ((if dv_ (h mRoads 2 - 1 - r).toNat a % 4 = dv_ (h mRoads 2 - 1 - r).toNat b % 4 then 0 else 2 ^ (h mRoads 2 - 1 - ((h mRoads 2 - 1 - r).toNat : Int)).toNat : Nat) : Int) ∧ 0 ≤ v ∧ v < 16) → PW G RX12 cX12_changed 7 (some .int) (rm_ 2) 0 0 (zm_ G (qi_ (fun z h' => h = h' ∧ z = (chg_ (h mRoads 2) a b (h mRoads 2).toNat : Int)))) 41 [some (rr_ G mo_), some (ii_ a), some (ii_ b), some (ii_ x), some (ii_ y), some (ii_ w), some (ii_ r)] [ii_ v, ii_ w] h := by
          intro v hv
          refine pw_iorX (pc := 41) dX12_changed_41 (by first | omega) (by first | omega) (fun w41 r41 x41 => ?_)
          refine pw_istore (lv1 := [some (rr_ G mo_), some (ii_ a), some (ii_ b), some (ii_ x), some (ii_ y), some (ii_ w41), some (ii_ r)]) (pc := 42) dX12_changed_42 (by decide) rfl rfl ?_
          refine pw_iload_n (z := x) (pc := 44) dX12_changed_44 rfl rfl ?_
          refine pw_iconst (pc := 45) dX12_changed_45 ?_
          refine pw_idiv (pc := 46) dX12_changed_46 (by first | omega) (by first | omega) ?_
          refine pw_istore_n (lv1 := [some (rr_ G mo_), some (ii_ a), some (ii_ b), some (ii_ (x.tdiv 4)), some (ii_ y), some (ii_ w41), some (ii_ r)]) (pc := 47) dX12_changed_47 rfl (by decide) rfl rfl ?_
          refine pw_iload (z := y) (pc := 48) dX12_changed_48 rfl ?_
          refine pw_iconst (pc := 50) dX12_changed_50 ?_
          refine pw_idiv (pc := 51) dX12_changed_51 (by first | omega) (by first | omega) ?_
          refine pw_istore (lv1 := [some (rr_ G mo_), some (ii_ a), some (ii_ b), some (ii_ (x.tdiv 4)), some (ii_ (y.tdiv 4)), some (ii_ w41), some (ii_ r)]) (pc := 52) dX12_changed_52 (by decide) rfl rfl ?_
          refine pw_iinc (z := r) (lv1 := [some (rr_ G mo_), some (ii_ a), some (ii_ b), some (ii_ (x.tdiv 4)), some (ii_ (y.tdiv 4)), some (ii_ w41), some (ii_ (r + (-1)))]) (pc := 54) dX12_changed_54 rfl (by decide) rfl rfl ?_
          refine pw_goto (t := 16) (pc := 57) dX12_changed_57 (by decide) ?_
          exact ih16 _ _ _ _ (by omega) (by rw [kk, tc]; rfl) (by rw [kk, td]; rfl) (by
                    rw [kk, x41 (by omega) (by omega), aw, hv.1]
                    show _ = ((chg_ (h mRoads 2) a b (h mRoads 2 - 1 - r).toNat ||| _ : Nat) : Int)
                    rw [Int.toNat_natCast, Int.toNat_natCast]) (by omega)
        refine pw_iload_n (z := x) (pc := 23) dX12_changed_23 rfl rfl ?_
        refine pw_iconst (pc := 24) dX12_changed_24 ?_
        refine pw_irem (pc := 25) dX12_changed_25 (by first | omega) (by first | omega) ?_
        refine pw_iload (z := y) (pc := 26) dX12_changed_26 rfl ?_
        refine pw_iconst (pc := 28) dX12_changed_28 ?_
        refine pw_irem (pc := 29) dX12_changed_29 (by first | omega) (by first | omega) ?_
        refine pw_icmp_eq (t := 40) (pc := 30) dX12_changed_30 (by decide) (by first | omega) (by first | omega) (fun c30 => ?_) (fun c30 => ?_)
        · refine pw_iconst (pc := 40) dX12_changed_40 ?_
          exact J41 _ (by
                    rw [ta, tb] at c30
                    first
                    | (rw [if_pos c30]; omega)
                    | (rw [if_neg c30, show (h mRoads 2 - 1 - ((h mRoads 2 - 1 - r).toNat : Int)).toNat = r.toNat by omega]
                       refine ⟨pc_, ?_, ?_⟩
                       · have := pp_ (k := r.toNat); omega
                       · have h5 : r = 0 ∨ r = 1 ∨ r = 2 ∨ r = 3 := by omega
                         rcases h5 with h5 | h5 | h5 | h5 <;> rw [h5] <;> decide))
        · refine pw_iconst (pc := 33) dX12_changed_33 ?_
          refine pw_iload (z := r) (pc := 34) dX12_changed_34 rfl ?_
          refine pw_ishl1 (pc := 36) dX12_changed_36 (by first | omega) ?_
          refine pw_goto (t := 41) (pc := 37) dX12_changed_37 (by decide) ?_
          exact J41 _ (by
                    rw [ta, tb] at c30
                    first
                    | (rw [if_pos c30]; omega)
                    | (rw [if_neg c30, show (h mRoads 2 - 1 - ((h mRoads 2 - 1 - r).toNat : Int)).toNat = r.toNat by omega]
                       refine ⟨pc_, ?_, ?_⟩
                       · have := pp_ (k := r.toNat); omega
                       · have h5 : r = 0 ∨ r = 1 ∨ r = 2 ∨ r = 3 := by omega
                         rcases h5 with h5 | h5 | h5 | h5 <;> rw [h5] <;> decide))
  exact L16 _ _ _ _ _ (by omega) (by rw [show (h mRoads 2 - 1 - (h mRoads 2 - 1)).toNat = 0 by omega]; rfl) (by rw [show (h mRoads 2 - 1 - (h mRoads 2 - 1)).toNat = 0 by omega]; rfl) (by rw [show (h mRoads 2 - 1 - (h mRoads 2 - 1)).toNat = 0 by omega]; rfl) (Int.self_le_toNat _)

set_option maxHeartbeats 4000000 in
set_option maxRecDepth 100000 in
theorem c_leastLeft {G : GT_} (hM : okM_ G) (h : PH_) (hS : 2 ≤ h mRoads 0 ∧ h mRoads 0 ≤ 4) (hR : 0 ≤ h mRoads 2 ∧ h mRoads 2 ≤ h mRoads 0) (hs : ∀ r, 0 ≤ r → r < h mRoads 2 → 0 ≤ h mSits r ∧ h mSits r ≤ 3) : PC G yX12_leastLeft cX12_leastLeft 3 (some .int) 2 [rr_ G mo_] h (qi_ (fun z h' => h = h' ∧ z = lst_ (h mLeft) (h mSits) (h mRoads 2).toNat)) := by
  refine PC.of (lv := [some (rr_ G mo_), none, none]) (by decide +kernel) (Nat.le_of_ble_eq_true rfl) rfl rfl ?_
  refine pw_ldcw (z := 1000000000) (pc := 0) dX12_leastLeft_0 kX12_464 rfl ?_
  refine pw_istore_n (lv1 := [some (rr_ G mo_), some (ii_ 1000000000), none]) (pc := 3) dX12_leastLeft_3 rfl (by decide) rfl rfl ?_
  refine pw_iconst (pc := 4) dX12_leastLeft_4 ?_
  refine pw_istore_n (lv1 := [some (rr_ G mo_), some (ii_ 1000000000), some (ii_ 0)]) (pc := 5) dX12_leastLeft_5 rfl (by decide) rfl rfl ?_
  have L6 : ∀ (nn : Nat) (n : Int) (r : Int), (0 ≤ r ∧ r ≤ h mRoads 2) → (n = lst_ (h mLeft) (h mSits) r.toNat ∧ ir_ n) → ((h mRoads 2 - r + 1 : Int) ≤ nn) → PW G RX12 cX12_leastLeft 3 (some .int) (rm_ 2) 0 0 (zm_ G (qi_ (fun z h' => h = h' ∧ z = lst_ (h mLeft) (h mSits) (h mRoads 2).toNat))) 6 [some (rr_ G mo_), some (ii_ n), some (ii_ r)] [] h := by
    intro nn
    induction nn with
    | zero => intro n r ak an ams; exfalso; omega
    | succ nn ih6 =>
      intro n r ak an ams
      refine pw_iload_n (z := r) (pc := 6) dX12_leastLeft_6 rfl rfl ?_
      refine pw_aload_n (z := mo_) (pc := 7) dX12_leastLeft_7 rfl rfl ?_
      refine pw_callV (c := 12) (o := mo_) (As := []) (rest := [ii_ r]) (pc := 8) dX12_leastLeft_8 (c_riders hM h) lX12_334 mX12_riders vX12_riders (im_mo_ hM) k_mo_ rfl rfl rfl (by decide) ⟨Nat.zero_le _, Nat.zero_le _⟩ (Nat.le_of_ble_eq_true rfl) (k_i (fun z8 h8 y8 q8 => ?_))
      obtain ⟨rfl, rfl⟩ := q8
      refine pw_icmp_ge (t := 59) (pc := 11) dX12_leastLeft_11 (by decide) (by first | omega) (by first | omega) (fun c11 => ?_) (fun c11 => ?_)
      · refine pw_iload_n (z := n) (pc := 59) dX12_leastLeft_59 rfl rfl ?_
        exact pw_iret (pc := 60) dX12_leastLeft_60 (by first | omega) (⟨rfl, by rw [an.1, show r = h mRoads 2 by omega]⟩)
      · have hsr := hs r (by omega) (by omega)
        have J52 : ∀ (v : Int), (v = (if h mLeft (4 * r + h mSits r) < n then h mLeft (4 * r + h mSits r) else n) ∧ ir_ v) → PW G RX12 cX12_leastLeft 3 (some .int) (rm_ 2) 0 0 (zm_ G (qi_ (fun z h' => h = h' ∧ z = lst_ (h mLeft) (h mSits) (h mRoads 2).toNat))) 52 [some (rr_ G mo_), some (ii_ n), some (ii_ r)] [ii_ v] h := by
          intro v hv
          refine pw_istore_n (lv1 := [some (rr_ G mo_), some (ii_ v), some (ii_ r)]) (pc := 52) dX12_leastLeft_52 rfl (by decide) rfl rfl ?_
          refine pw_iinc (z := r) (lv1 := [some (rr_ G mo_), some (ii_ v), some (ii_ (r + 1))]) (pc := 53) dX12_leastLeft_53 rfl (by decide) rfl rfl ?_
          refine pw_goto (t := 6) (pc := 56) dX12_leastLeft_56 (by decide) ?_
          exact ih6 _ _ (by omega) (⟨by rw [lst_s ak.1, ← an.1]; exact hv.1, hv.2⟩) (by omega)
        refine pw_aload_n (z := mo_) (pc := 14) dX12_leastLeft_14 rfl rfl ?_
        refine pw_getR (r := mLeft) (pc := 15) dX12_leastLeft_15 fX12_167 (im_mo_ hM) k_mo_ rfl fr_mLeft ?_
        refine pw_iconst (pc := 18) dX12_leastLeft_18 ?_
        refine pw_iload_n (z := r) (pc := 19) dX12_leastLeft_19 rfl rfl ?_
        refine pw_imul (pc := 20) dX12_leastLeft_20 ?_
        refine pw_aload_n (z := mo_) (pc := 21) dX12_leastLeft_21 rfl rfl ?_
        refine pw_getR (r := mSits) (pc := 22) dX12_leastLeft_22 fX12_137 (im_mo_ hM) k_mo_ rfl fr_mSits ?_
        refine pw_iload_n (z := r) (pc := 25) dX12_leastLeft_25 rfl rfl ?_
        refine pw_iald (pc := 26) dX12_leastLeft_26 (im_mSits hM) k_mSits 4 l_mSits (by first | omega) (by first | omega) (by first | omega) (fun r26 => ?_)
        refine pw_iadd (pc := 27) dX12_leastLeft_27 ?_
        refine pw_iald (pc := 28) dX12_leastLeft_28 (im_mLeft hM) k_mLeft 16 l_mLeft (by first | omega) (by first | omega) (by first | omega) (fun r28 => ?_)
        refine pw_iload_n (z := n) (pc := 29) dX12_leastLeft_29 rfl rfl ?_
        refine pw_icmp_ge (t := 51) (pc := 30) dX12_leastLeft_30 (by decide) (by first | omega) (by first | omega) (fun c30 => ?_) (fun c30 => ?_)
        · refine pw_iload_n (z := n) (pc := 51) dX12_leastLeft_51 rfl rfl ?_
          exact J52 _ (by first | (rw [if_pos (by omega)]; exact ⟨rfl, by omega⟩) | (rw [if_neg (by omega)]; exact ⟨rfl, by omega⟩))
        · refine pw_aload_n (z := mo_) (pc := 33) dX12_leastLeft_33 rfl rfl ?_
          refine pw_getR (r := mLeft) (pc := 34) dX12_leastLeft_34 fX12_167 (im_mo_ hM) k_mo_ rfl fr_mLeft ?_
          refine pw_iconst (pc := 37) dX12_leastLeft_37 ?_
          refine pw_iload_n (z := r) (pc := 38) dX12_leastLeft_38 rfl rfl ?_
          refine pw_imul (pc := 39) dX12_leastLeft_39 ?_
          refine pw_aload_n (z := mo_) (pc := 40) dX12_leastLeft_40 rfl rfl ?_
          refine pw_getR (r := mSits) (pc := 41) dX12_leastLeft_41 fX12_137 (im_mo_ hM) k_mo_ rfl fr_mSits ?_
          refine pw_iload_n (z := r) (pc := 44) dX12_leastLeft_44 rfl rfl ?_
          refine pw_iald (pc := 45) dX12_leastLeft_45 (im_mSits hM) k_mSits 4 l_mSits (by first | omega) (by first | omega) (by first | omega) (fun r45 => ?_)
          refine pw_iadd (pc := 46) dX12_leastLeft_46 ?_
          refine pw_iald (pc := 47) dX12_leastLeft_47 (im_mLeft hM) k_mLeft 16 l_mLeft (by first | omega) (by first | omega) (by first | omega) (fun r47 => ?_)
          refine pw_goto (t := 52) (pc := 48) dX12_leastLeft_48 (by decide) ?_
          exact J52 _ (by first | (rw [if_pos (by omega)]; exact ⟨rfl, by omega⟩) | (rw [if_neg (by omega)]; exact ⟨rfl, by omega⟩))
  exact L6 _ _ _ (by omega) (⟨rfl, by omega⟩) (Int.self_le_toNat _)

set_option maxHeartbeats 4000000 in
set_option maxRecDepth 100000 in
theorem c_addUp {G : GT_} (hM : okM_ G) (h : PH_) (hS : 2 ≤ h mRoads 0 ∧ h mRoads 0 ≤ 4) (hR : 0 ≤ h mRoads 2 ∧ h mRoads 2 ≤ h mRoads 0) (hb : ∀ k, 0 ≤ k → k < 16 → 0 ≤ h mState (14 + k) ∧ h mState (14 + k) ≤ 99) (m : Int) (h1 : ir_ m) : PC G yX12_addUp cX12_addUp 7 (some .boolean) 2 [rr_ G mo_, ii_ m] h (qi_ (fun z h' => h = h' ∧ (z = 1 ∧ (h mRoads 2 = h mRoads 0 ∧ adu_ (h mState) (h mRoads 0) m (h mRoads 0).toNat) ∨ z = 0 ∧ ¬ (h mRoads 2 = h mRoads 0 ∧ adu_ (h mState) (h mRoads 0) m (h mRoads 0).toNat)))) := by
  refine PC.of (lv := [some (rr_ G mo_), some (ii_ m), none, none, none, none, none]) (by decide +kernel) (Nat.le_of_ble_eq_true rfl) rfl rfl ?_
  have J16 : ∀ (v : Int), (v = 1 ∧ (h mRoads 2 = h mRoads 0) ∨ v = 0 ∧ ¬ (h mRoads 2 = h mRoads 0)) → PW G RX12 cX12_addUp 7 (some .boolean) (rm_ 2) 0 0 (zm_ G (qi_ (fun z h' => h = h' ∧ (z = 1 ∧ (h mRoads 2 = h mRoads 0 ∧ adu_ (h mState) (h mRoads 0) m (h mRoads 0).toNat) ∨ z = 0 ∧ ¬ (h mRoads 2 = h mRoads 0 ∧ adu_ (h mState) (h mRoads 0) m (h mRoads 0).toNat))))) 16 [some (rr_ G mo_), some (ii_ m), none, none, none, none, none] [ii_ v] h := by
    intro v hv
    refine pw_istore_n (lv1 := [some (rr_ G mo_), some (ii_ m), some (ii_ v), none, none, none, none]) (pc := 16) dX12_addUp_16 rfl (by decide) rfl rfl ?_
    refine pw_iconst (pc := 17) dX12_addUp_17 ?_
    refine pw_istore_n (lv1 := [some (rr_ G mo_), some (ii_ m), some (ii_ v), some (ii_ 0), none, none, none]) (pc := 18) dX12_addUp_18 rfl (by decide) rfl rfl ?_
    have L19 : ∀ (nn : Nat) (is : Int) (k : Int), (0 ≤ k ∧ k ≤ h mRoads 0) → (is = 1 ∧ (h mRoads 2 = h mRoads 0 ∧ adu_ (h mState) (h mRoads 0) m k.toNat) ∨ is = 0 ∧ ¬ (h mRoads 2 = h mRoads 0 ∧ adu_ (h mState) (h mRoads 0) m k.toNat)) → ((h mRoads 0 - k + 1 : Int) ≤ nn) → PW G RX12 cX12_addUp 7 (some .boolean) (rm_ 2) 0 0 (zm_ G (qi_ (fun z h' => h = h' ∧ (z = 1 ∧ (h mRoads 2 = h mRoads 0 ∧ adu_ (h mState) (h mRoads 0) m (h mRoads 0).toNat) ∨ z = 0 ∧ ¬ (h mRoads 2 = h mRoads 0 ∧ adu_ (h mState) (h mRoads 0) m (h mRoads 0).toNat))))) 19 [some (rr_ G mo_), some (ii_ m), some (ii_ is), some (ii_ k), none, none, none] [] h := by
      intro nn
      induction nn with
      | zero => intro is k ak ai ams; exfalso; omega
      | succ nn ih19 =>
        intro is k ak ai ams
        have ai2 := dj_r ai
        refine pw_iload_n (z := k) (pc := 19) dX12_addUp_19 rfl rfl ?_
        refine pw_aload_n (z := mo_) (pc := 20) dX12_addUp_20 rfl rfl ?_
        refine pw_callV (c := 12) (o := mo_) (As := []) (rest := [ii_ k]) (pc := 21) dX12_addUp_21 (c_seats hM h) lX12_331 mX12_seats vX12_seats (im_mo_ hM) k_mo_ rfl rfl rfl (by decide) ⟨Nat.zero_le _, Nat.zero_le _⟩ (Nat.le_of_ble_eq_true rfl) (k_i (fun z21 h21 y21 q21 => ?_))
        obtain ⟨rfl, rfl⟩ := q21
        refine pw_icmp_ge (t := 117) (pc := 24) dX12_addUp_24 (by decide) (by first | omega) (by first | omega) (fun c24 => ?_) (fun c24 => ?_)
        · refine pw_iload_n (z := is) (pc := 117) dX12_addUp_117 rfl rfl ?_
          exact pw_zret (pc := 118) dX12_addUp_118 (by first | omega) (⟨rfl, by first | (refine dj_i ai ?_; rw [show k = h mRoads 0 by omega]; done) | exact Or.inr ⟨by omega, fun w => dj_0 ai (by omega) ⟨w.1, adu_d (by omega) w.2⟩⟩⟩)
        · refine pw_iload_n (z := is) (pc := 27) dX12_addUp_27 rfl rfl ?_
          refine pw_if_eq (t := 117) (pc := 28) dX12_addUp_28 (by decide) (by first | omega) (fun c28 => ?_) (fun c28 => ?_)
          · refine pw_iload_n (z := is) (pc := 117) dX12_addUp_117 rfl rfl ?_
            exact pw_zret (pc := 118) dX12_addUp_118 (by first | omega) (⟨rfl, by first | (refine dj_i ai ?_; rw [show k = h mRoads 0 by omega]; done) | exact Or.inr ⟨by omega, fun w => dj_0 ai (by omega) ⟨w.1, adu_d (by omega) w.2⟩⟩⟩)
          · refine pw_iconst (pc := 31) dX12_addUp_31 ?_
            refine pw_istore (lv1 := [some (rr_ G mo_), some (ii_ m), some (ii_ is), some (ii_ k), some (ii_ 0), none, none]) (pc := 32) dX12_addUp_32 (by decide) rfl rfl ?_
            refine pw_iconst (pc := 34) dX12_addUp_34 ?_
            refine pw_istore (lv1 := [some (rr_ G mo_), some (ii_ m), some (ii_ is), some (ii_ k), some (ii_ 0), some (ii_ 0), none]) (pc := 35) dX12_addUp_35 (by decide) rfl rfl ?_
            refine pw_iconst (pc := 37) dX12_addUp_37 ?_
            refine pw_istore (lv1 := [some (rr_ G mo_), some (ii_ m), some (ii_ is), some (ii_ k), some (ii_ 0), some (ii_ 0), some (ii_ 0)]) (pc := 38) dX12_addUp_38 (by decide) rfl rfl ?_
            have L40 : ∀ (nn : Nat) (a : Int) (d : Int) (e : Int), (0 ≤ e ∧ e ≤ h mRoads 0) → (a = acr_ (h mState) k e.toNat) → (d = dwn_ (h mState) k e.toNat) → ((h mRoads 0 - e + 1 : Int) ≤ nn) → PW G RX12 cX12_addUp 7 (some .boolean) (rm_ 2) 0 0 (zm_ G (qi_ (fun z h' => h = h' ∧ (z = 1 ∧ (h mRoads 2 = h mRoads 0 ∧ adu_ (h mState) (h mRoads 0) m (h mRoads 0).toNat) ∨ z = 0 ∧ ¬ (h mRoads 2 = h mRoads 0 ∧ adu_ (h mState) (h mRoads 0) m (h mRoads 0).toNat))))) 40 [some (rr_ G mo_), some (ii_ m), some (ii_ is), some (ii_ k), some (ii_ a), some (ii_ d), some (ii_ e)] [] h := by
              intro nn
              induction nn with
              | zero => intro a d e bk ba bd ams; exfalso; omega
              | succ nn ih40 =>
                intro a d e bk ba bd ams
                have ab := acr_b (f := h mState) (k := k) e.toNat (fun q q0 q1 => by have := hb (4 * k + q) (by omega) (by omega); rw [show 14 + 4 * k + q = 14 + (4 * k + q) by omega]; exact this)
                have db := dwn_b (f := h mState) (k := k) e.toNat (fun q q0 q1 => by have := hb (4 * q + k) (by omega) (by omega); rw [show 14 + 4 * q + k = 14 + (4 * q + k) by omega]; exact this)
                refine pw_iload (z := e) (pc := 40) dX12_addUp_40 rfl ?_
                refine pw_aload_n (z := mo_) (pc := 42) dX12_addUp_42 rfl rfl ?_
                refine pw_callV (c := 12) (o := mo_) (As := []) (rest := [ii_ e]) (pc := 43) dX12_addUp_43 (c_seats hM h) lX12_331 mX12_seats vX12_seats (im_mo_ hM) k_mo_ rfl rfl rfl (by decide) ⟨Nat.zero_le _, Nat.zero_le _⟩ (Nat.le_of_ble_eq_true rfl) (k_i (fun z43 h43 y43 q43 => ?_))
                obtain ⟨rfl, rfl⟩ := q43
                refine pw_icmp_ge (t := 93) (pc := 46) dX12_addUp_46 (by decide) (by first | omega) (by first | omega) (fun c46 => ?_) (fun c46 => ?_)
                · have J110 : ∀ (v : Int), (v = 1 ∧ (h mRoads 2 = h mRoads 0 ∧ adu_ (h mState) (h mRoads 0) m (k + 1).toNat) ∨ v = 0 ∧ ¬ (h mRoads 2 = h mRoads 0 ∧ adu_ (h mState) (h mRoads 0) m (k + 1).toNat)) → PW G RX12 cX12_addUp 7 (some .boolean) (rm_ 2) 0 0 (zm_ G (qi_ (fun z h' => h = h' ∧ (z = 1 ∧ (h mRoads 2 = h mRoads 0 ∧ adu_ (h mState) (h mRoads 0) m (h mRoads 0).toNat) ∨ z = 0 ∧ ¬ (h mRoads 2 = h mRoads 0 ∧ adu_ (h mState) (h mRoads 0) m (h mRoads 0).toNat))))) 110 [some (rr_ G mo_), some (ii_ m), some (ii_ is), some (ii_ k), some (ii_ a), some (ii_ d), some (ii_ e)] [ii_ v] h := by
                    intro v hv2
                    refine pw_istore_n (lv1 := [some (rr_ G mo_), some (ii_ m), some (ii_ v), some (ii_ k), some (ii_ a), some (ii_ d), some (ii_ e)]) (pc := 110) dX12_addUp_110 rfl (by decide) rfl rfl ?_
                    refine pw_iinc (z := k) (lv1 := [some (rr_ G mo_), some (ii_ m), some (ii_ v), some (ii_ (k + 1)), some (ii_ a), some (ii_ d), some (ii_ e)]) (pc := 111) dX12_addUp_111 rfl (by decide) rfl rfl ?_
                    refine pw_goto (t := 19) (pc := 114) dX12_addUp_114 (by decide) ?_
                    refine pw_less (lv1 := [some (rr_ G mo_), some (ii_ m), some (ii_ v), some (ii_ (k + 1)), none, none, none]) rfl (by intro i v; (match i with | 0 => simp | 1 => simp | 2 => simp | 3 => simp | 4 => simp | 5 => simp | 6 => simp | n + 7 => simp)) ?_
                    exact ih19 _ _ (by omega) (hv2) (by omega)
                  refine pw_iload (z := a) (pc := 93) dX12_addUp_93 rfl ?_
                  refine pw_iload_n (z := m) (pc := 95) dX12_addUp_95 rfl rfl ?_
                  refine pw_icmp_ne (t := 109) (pc := 96) dX12_addUp_96 (by decide) (by first | omega) (by first | omega) (fun c96 => ?_) (fun c96 => ?_)
                  · refine pw_iconst (pc := 109) dX12_addUp_109 ?_
                    exact J110 _ (by rw [adu_s ak.1, ← show e = h mRoads 0 by omega, ← ba, ← bd]; have u := dj_1 ai c28; rw [← show e = h mRoads 0 by omega] at u; first | exact Or.inr ⟨rfl, fun w => by have := w.2.2; omega⟩ | exact Or.inl ⟨rfl, by omega, u.2, by omega, by omega⟩)
                  · refine pw_iload (z := d) (pc := 99) dX12_addUp_99 rfl ?_
                    refine pw_iload_n (z := m) (pc := 101) dX12_addUp_101 rfl rfl ?_
                    refine pw_icmp_ne (t := 109) (pc := 102) dX12_addUp_102 (by decide) (by first | omega) (by first | omega) (fun c102 => ?_) (fun c102 => ?_)
                    · refine pw_iconst (pc := 109) dX12_addUp_109 ?_
                      exact J110 _ (by rw [adu_s ak.1, ← show e = h mRoads 0 by omega, ← ba, ← bd]; have u := dj_1 ai c28; rw [← show e = h mRoads 0 by omega] at u; first | exact Or.inr ⟨rfl, fun w => by have := w.2.2; omega⟩ | exact Or.inl ⟨rfl, by omega, u.2, by omega, by omega⟩)
                    · refine pw_iconst (pc := 105) dX12_addUp_105 ?_
                      refine pw_goto (t := 110) (pc := 106) dX12_addUp_106 (by decide) ?_
                      exact J110 _ (by rw [adu_s ak.1, ← show e = h mRoads 0 by omega, ← ba, ← bd]; have u := dj_1 ai c28; rw [← show e = h mRoads 0 by omega] at u; first | exact Or.inr ⟨rfl, fun w => by have := w.2.2; omega⟩ | exact Or.inl ⟨rfl, by omega, u.2, by omega, by omega⟩)
                · have x1 := hb (4 * k + e) (by omega) (by omega)
                  have x2 := hb (4 * e + k) (by omega) (by omega)
                  rw [show 14 + (4 * k + e) = 14 + 4 * k + e by omega] at x1
                  rw [show 14 + (4 * e + k) = 14 + 4 * e + k by omega] at x2
                  refine pw_iload (z := a) (pc := 49) dX12_addUp_49 rfl ?_
                  refine pw_aload_n (z := mo_) (pc := 51) dX12_addUp_51 rfl rfl ?_
                  refine pw_getR (r := mState) (pc := 52) dX12_addUp_52 fX12_130 (im_mo_ hM) k_mo_ rfl fr_mState ?_
                  refine pw_bipush (pc := 55) dX12_addUp_55 rfl ?_
                  refine pw_iconst (pc := 57) dX12_addUp_57 ?_
                  refine pw_iload_n (z := k) (pc := 58) dX12_addUp_58 rfl rfl ?_
                  refine pw_imul (pc := 59) dX12_addUp_59 ?_
                  refine pw_iadd (pc := 60) dX12_addUp_60 ?_
                  refine pw_iload (z := e) (pc := 61) dX12_addUp_61 rfl ?_
                  refine pw_iadd (pc := 63) dX12_addUp_63 ?_
                  refine pw_iald (pc := 64) dX12_addUp_64 (im_mState hM) k_mState 1760 l_mState (by first | omega) (by first | omega) (by first | omega) (fun r64 => ?_)
                  refine pw_iadd (pc := 65) dX12_addUp_65 ?_
                  refine pw_istore (lv1 := [some (rr_ G mo_), some (ii_ m), some (ii_ is), some (ii_ k), some (ii_ (a + (h mState ((14 + (4 * k)) + e)))), some (ii_ d), some (ii_ e)]) (pc := 66) dX12_addUp_66 (by decide) rfl rfl ?_
                  refine pw_iload (z := d) (pc := 68) dX12_addUp_68 rfl ?_
                  refine pw_aload_n (z := mo_) (pc := 70) dX12_addUp_70 rfl rfl ?_
                  refine pw_getR (r := mState) (pc := 71) dX12_addUp_71 fX12_130 (im_mo_ hM) k_mo_ rfl fr_mState ?_
                  refine pw_bipush (pc := 74) dX12_addUp_74 rfl ?_
                  refine pw_iconst (pc := 76) dX12_addUp_76 ?_
                  refine pw_iload (z := e) (pc := 77) dX12_addUp_77 rfl ?_
                  refine pw_imul (pc := 79) dX12_addUp_79 ?_
                  refine pw_iadd (pc := 80) dX12_addUp_80 ?_
                  refine pw_iload_n (z := k) (pc := 81) dX12_addUp_81 rfl rfl ?_
                  refine pw_iadd (pc := 82) dX12_addUp_82 ?_
                  refine pw_iald (pc := 83) dX12_addUp_83 (im_mState hM) k_mState 1760 l_mState (by first | omega) (by first | omega) (by first | omega) (fun r83 => ?_)
                  refine pw_iadd (pc := 84) dX12_addUp_84 ?_
                  refine pw_istore (lv1 := [some (rr_ G mo_), some (ii_ m), some (ii_ is), some (ii_ k), some (ii_ (a + (h mState ((14 + (4 * k)) + e)))), some (ii_ (d + (h mState ((14 + (4 * e)) + k)))), some (ii_ e)]) (pc := 85) dX12_addUp_85 (by decide) rfl rfl ?_
                  refine pw_iinc (z := e) (lv1 := [some (rr_ G mo_), some (ii_ m), some (ii_ is), some (ii_ k), some (ii_ (a + (h mState ((14 + (4 * k)) + e)))), some (ii_ (d + (h mState ((14 + (4 * e)) + k)))), some (ii_ (e + 1))]) (pc := 87) dX12_addUp_87 rfl (by decide) rfl rfl ?_
                  refine pw_goto (t := 40) (pc := 90) dX12_addUp_90 (by decide) ?_
                  exact ih40 _ _ _ (by omega) (by rw [acr_s bk.1, ba]) (by rw [dwn_s bk.1, bd]) (by omega)
            exact L40 _ _ _ _ (by omega) (rfl) (rfl) (Int.self_le_toNat _)
    exact L19 _ _ _ (by omega) (dj_i hv (by rw [show (0 : Int).toNat = 0 from rfl]; simp only [adu_, and_true])) (Int.self_le_toNat _)
  refine pw_aload_n (z := mo_) (pc := 0) dX12_addUp_0 rfl rfl ?_
  refine pw_callV (c := 12) (o := mo_) (As := []) (rest := []) (pc := 1) dX12_addUp_1 (c_riders hM h) lX12_334 mX12_riders vX12_riders (im_mo_ hM) k_mo_ rfl rfl rfl (by decide) ⟨Nat.zero_le _, Nat.zero_le _⟩ (Nat.le_of_ble_eq_true rfl) (k_i (fun z1 h1 y1 q1 => ?_))
  obtain ⟨rfl, rfl⟩ := q1
  refine pw_aload_n (z := mo_) (pc := 4) dX12_addUp_4 rfl rfl ?_
  refine pw_callV (c := 12) (o := mo_) (As := []) (rest := [ii_ (h mRoads 2)]) (pc := 5) dX12_addUp_5 (c_seats hM h) lX12_331 mX12_seats vX12_seats (im_mo_ hM) k_mo_ rfl rfl rfl (by decide) ⟨Nat.zero_le _, Nat.zero_le _⟩ (Nat.le_of_ble_eq_true rfl) (k_i (fun z5 h5 y5 q5 => ?_))
  obtain ⟨rfl, rfl⟩ := q5
  refine pw_icmp_ne (t := 15) (pc := 8) dX12_addUp_8 (by decide) (by first | omega) (by first | omega) (fun c8 => ?_) (fun c8 => ?_)
  · refine pw_iconst (pc := 15) dX12_addUp_15 ?_
    exact J16 _ (by first | exact Or.inl ⟨rfl, by omega⟩ | exact Or.inr ⟨rfl, by omega⟩)
  · refine pw_iconst (pc := 11) dX12_addUp_11 ?_
    refine pw_goto (t := 16) (pc := 12) dX12_addUp_12 (by decide) ?_
    exact J16 _ (by first | exact Or.inl ⟨rfl, by omega⟩ | exact Or.inr ⟨rfl, by omega⟩)

