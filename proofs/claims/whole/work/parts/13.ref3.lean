set_option maxHeartbeats 4000000 in
set_option maxRecDepth 100000 in
theorem c_isLawful {G : GT_} (hM : okM_ G) (h : PH_) (hS : 2 ≤ h mRoads 0 ∧ h mRoads 0 ≤ 4) (hR : 0 ≤ h mRoads 2 ∧ h mRoads 2 ≤ h mRoads 0) (hs : ∀ r, 0 ≤ r → r < h mRoads 2 → 0 ≤ h mSits r ∧ h mSits r ≤ 3) : PC G yX12_isLawful cX12_isLawful 4 (some .boolean) 4 [rr_ G mo_] h (qi_ (fun z h' => h = h' ∧ (z = 1 ∧ (lwf_ (h mRoads) (h mSits) (h mRoads 2).toNat) ∨ z = 0 ∧ ¬ (lwf_ (h mRoads) (h mSits) (h mRoads 2).toNat)))) := by
  refine PC.of (lv := [some (rr_ G mo_), none, none, none]) (by decide +kernel) (Nat.le_of_ble_eq_true rfl) rfl rfl ?_
  refine pw_iconst (pc := 0) dX12_isLawful_0 ?_
  refine pw_istore_n (lv1 := [some (rr_ G mo_), some (ii_ 1), none, none]) (pc := 1) dX12_isLawful_1 rfl (by decide) rfl rfl ?_
  refine pw_iconst (pc := 2) dX12_isLawful_2 ?_
  refine pw_istore_n (lv1 := [some (rr_ G mo_), some (ii_ 1), some (ii_ 0), none]) (pc := 3) dX12_isLawful_3 rfl (by decide) rfl rfl ?_
  have L4 : ∀ (nn : Nat) (is : Int) (r : Int), (0 ≤ r ∧ r ≤ h mRoads 2) → (is = 1 ∧ (lwf_ (h mRoads) (h mSits) r.toNat) ∨ is = 0 ∧ ¬ (lwf_ (h mRoads) (h mSits) r.toNat)) → ((h mRoads 2 - r + 1 : Int) ≤ nn) → PW G RX12 cX12_isLawful 4 (some .boolean) (rm_ 4) 0 0 (zm_ G (qi_ (fun z h' => h = h' ∧ (z = 1 ∧ (lwf_ (h mRoads) (h mSits) (h mRoads 2).toNat) ∨ z = 0 ∧ ¬ (lwf_ (h mRoads) (h mSits) (h mRoads 2).toNat))))) 4 [some (rr_ G mo_), some (ii_ is), some (ii_ r), none] [] h := by
    intro nn
    induction nn with
    | zero => intro is r ak ai ams; exfalso; omega
    | succ nn ih4 =>
      intro is r ak ai ams
      refine pw_iload_n (z := r) (pc := 4) dX12_isLawful_4 rfl rfl ?_
      refine pw_aload_n (z := mo_) (pc := 5) dX12_isLawful_5 rfl rfl ?_
      refine pw_callV (c := 12) (o := mo_) (As := []) (rest := [ii_ r]) (pc := 6) dX12_isLawful_6 (c_riders hM h) lX12_334 mX12_riders vX12_riders (im_mo_ hM) k_mo_ rfl rfl rfl (by decide) ⟨Nat.zero_le _, Nat.zero_le _⟩ (Nat.le_of_ble_eq_true rfl) (k_i (fun z6 h6 y6 q6 => ?_))
      obtain ⟨rfl, rfl⟩ := q6
      refine pw_icmp_ge (t := 100) (pc := 9) dX12_isLawful_9 (by decide) (by first | omega) (by first | omega) (fun c9 => ?_) (fun c9 => ?_)
      · refine pw_iload_n (z := is) (pc := 100) dX12_isLawful_100 rfl rfl ?_
        exact pw_zret (pc := 101) dX12_isLawful_101 (by first | omega) (⟨rfl, dj_i ai (by rw [show r = h mRoads 2 by omega])⟩)
      · have ai2 := dj_r ai
        have hsr := hs r (by omega) (by omega)
        have J35 : ∀ (v : Int), (v = 1 ∧ (lwf_ (h mRoads) (h mSits) r.toNat ∧ may_ (h mRoads) r (h mSits r)) ∨ v = 0 ∧ ¬ (lwf_ (h mRoads) (h mSits) r.toNat ∧ may_ (h mRoads) r (h mSits r))) → PW G RX12 cX12_isLawful 4 (some .boolean) (rm_ 4) 0 0 (zm_ G (qi_ (fun z h' => h = h' ∧ (z = 1 ∧ (lwf_ (h mRoads) (h mSits) (h mRoads 2).toNat) ∨ z = 0 ∧ ¬ (lwf_ (h mRoads) (h mSits) (h mRoads 2).toNat))))) 35 [some (rr_ G mo_), some (ii_ is), some (ii_ r), none] [ii_ v] h := by
          intro v hv
          refine pw_istore_n (lv1 := [some (rr_ G mo_), some (ii_ v), some (ii_ r), none]) (pc := 35) dX12_isLawful_35 rfl (by decide) rfl rfl ?_
          refine pw_iconst (pc := 36) dX12_isLawful_36 ?_
          refine pw_istore_n (lv1 := [some (rr_ G mo_), some (ii_ v), some (ii_ r), some (ii_ 0)]) (pc := 37) dX12_isLawful_37 rfl (by decide) rfl rfl ?_
          have L38 : ∀ (nn : Nat) (i2 : Int) (e : Int), (0 ≤ e ∧ e ≤ r) → (i2 = 1 ∧ (lwf_ (h mRoads) (h mSits) r.toNat ∧ may_ (h mRoads) r (h mSits r) ∧ lwt_ (h mRoads) (h mSits) r e.toNat) ∨ i2 = 0 ∧ ¬ (lwf_ (h mRoads) (h mSits) r.toNat ∧ may_ (h mRoads) r (h mSits r) ∧ lwt_ (h mRoads) (h mSits) r e.toNat)) → ((r - e + 1 : Int) ≤ nn) → PW G RX12 cX12_isLawful 4 (some .boolean) (rm_ 4) 0 0 (zm_ G (qi_ (fun z h' => h = h' ∧ (z = 1 ∧ (lwf_ (h mRoads) (h mSits) (h mRoads 2).toNat) ∨ z = 0 ∧ ¬ (lwf_ (h mRoads) (h mSits) (h mRoads 2).toNat))))) 38 [some (rr_ G mo_), some (ii_ i2), some (ii_ r), some (ii_ e)] [] h := by
            intro nn
            induction nn with
            | zero => intro i2 e bk bi ams; exfalso; omega
            | succ nn ih38 =>
              intro i2 e bk bi ams
              refine pw_iload_n (z := e) (pc := 38) dX12_isLawful_38 rfl rfl ?_
              refine pw_iload_n (z := r) (pc := 39) dX12_isLawful_39 rfl rfl ?_
              refine pw_icmp_ge (t := 94) (pc := 40) dX12_isLawful_40 (by decide) (by first | omega) (by first | omega) (fun c40 => ?_) (fun c40 => ?_)
              · refine pw_iinc (z := r) (lv1 := [some (rr_ G mo_), some (ii_ i2), some (ii_ (r + 1)), some (ii_ e)]) (pc := 94) dX12_isLawful_94 rfl (by decide) rfl rfl ?_
                refine pw_goto (t := 4) (pc := 97) dX12_isLawful_97 (by decide) ?_
                refine pw_less (lv1 := [some (rr_ G mo_), some (ii_ i2), some (ii_ (r + 1)), none]) rfl (by intro i v; (match i with | 0 => simp | 1 => simp | 2 => simp | 3 => simp | n + 4 => simp)) ?_
                exact ih4 _ _ (by omega) (dj_i bi (by rw [lwf_s (by omega), show e = r by omega])) (by omega)
              · have bi2 := dj_r bi
                have hse := hs e (by omega) (by omega)
                have J87 : ∀ (v2 : Int), (v2 = 1 ∧ (lwf_ (h mRoads) (h mSits) r.toNat ∧ may_ (h mRoads) r (h mSits r) ∧ lwt_ (h mRoads) (h mSits) r (e + 1).toNat) ∨ v2 = 0 ∧ ¬ (lwf_ (h mRoads) (h mSits) r.toNat ∧ may_ (h mRoads) r (h mSits r) ∧ lwt_ (h mRoads) (h mSits) r (e + 1).toNat)) → PW G RX12 cX12_isLawful 4 (some .boolean) (rm_ 4) 0 0 (zm_ G (qi_ (fun z h' => h = h' ∧ (z = 1 ∧ (lwf_ (h mRoads) (h mSits) (h mRoads 2).toNat) ∨ z = 0 ∧ ¬ (lwf_ (h mRoads) (h mSits) (h mRoads 2).toNat))))) 87 [some (rr_ G mo_), some (ii_ i2), some (ii_ r), some (ii_ e)] [ii_ v2] h := by
                  intro v2 hv2
                  refine pw_istore_n (lv1 := [some (rr_ G mo_), some (ii_ v2), some (ii_ r), some (ii_ e)]) (pc := 87) dX12_isLawful_87 rfl (by decide) rfl rfl ?_
                  refine pw_iinc (z := e) (lv1 := [some (rr_ G mo_), some (ii_ v2), some (ii_ r), some (ii_ (e + 1))]) (pc := 88) dX12_isLawful_88 rfl (by decide) rfl rfl ?_
                  refine pw_goto (t := 38) (pc := 91) dX12_isLawful_91 (by decide) ?_
                  exact ih38 _ _ (by omega) (hv2) (by omega)
                refine pw_iload_n (z := i2) (pc := 43) dX12_isLawful_43 rfl rfl ?_
                refine pw_if_eq (t := 86) (pc := 44) dX12_isLawful_44 (by decide) (by first | omega) (fun c44 => ?_) (fun c44 => ?_)
                · refine pw_iconst (pc := 86) dX12_isLawful_86 ?_
                  exact J87 _ (by rw [lwt_s (by omega)]; first | exact Or.inr ⟨rfl, fun u => dj_0 bi c44 ⟨u.1, u.2.1, u.2.2.1⟩⟩ | exact Or.inr ⟨rfl, fun u => u.2.2.2.elim (fun z => c60 z) (fun z => z p76)⟩ | (have u := dj_1 bi c44; exact Or.inl ⟨rfl, u.1, u.2.1, u.2.2, Or.inl c60⟩) | (have u := dj_1 bi c44; exact Or.inl ⟨rfl, u.1, u.2.1, u.2.2, Or.inr p76⟩))
                · refine pw_aload_n (z := mo_) (pc := 47) dX12_isLawful_47 rfl rfl ?_
                  refine pw_getR (r := mRoads) (pc := 48) dX12_isLawful_48 fX12_97 (im_mo_ hM) k_mo_ rfl fr_mRoads ?_
                  refine pw_bipush (pc := 51) dX12_isLawful_51 rfl ?_
                  refine pw_iconst (pc := 53) dX12_isLawful_53 ?_
                  refine pw_iload_n (z := r) (pc := 54) dX12_isLawful_54 rfl rfl ?_
                  refine pw_imul (pc := 55) dX12_isLawful_55 ?_
                  refine pw_iadd (pc := 56) dX12_isLawful_56 ?_
                  refine pw_iload_n (z := e) (pc := 57) dX12_isLawful_57 rfl rfl ?_
                  refine pw_iadd (pc := 58) dX12_isLawful_58 ?_
                  refine pw_iald (pc := 59) dX12_isLawful_59 (im_mRoads hM) k_mRoads 160 l_mRoads (by first | omega) (by first | omega) (by first | omega) (fun r59 => ?_)
                  refine pw_if_eq (t := 82) (pc := 60) dX12_isLawful_60 (by decide) (by first | omega) (fun c60 => ?_) (fun c60 => ?_)
                  · refine pw_iconst (pc := 82) dX12_isLawful_82 ?_
                    refine pw_goto (t := 87) (pc := 83) dX12_isLawful_83 (by decide) ?_
                    exact J87 _ (by rw [lwt_s (by omega)]; first | exact Or.inr ⟨rfl, fun u => dj_0 bi c44 ⟨u.1, u.2.1, u.2.2.1⟩⟩ | exact Or.inr ⟨rfl, fun u => u.2.2.2.elim (fun z => c60 z) (fun z => z p76)⟩ | (have u := dj_1 bi c44; exact Or.inl ⟨rfl, u.1, u.2.1, u.2.2, Or.inl c60⟩) | (have u := dj_1 bi c44; exact Or.inl ⟨rfl, u.1, u.2.1, u.2.2, Or.inr p76⟩))
                  · refine pw_aload_n (z := mo_) (pc := 63) dX12_isLawful_63 rfl rfl ?_
                    refine pw_aload_n (z := mo_) (pc := 64) dX12_isLawful_64 rfl rfl ?_
                    refine pw_getR (r := mSits) (pc := 65) dX12_isLawful_65 fX12_137 (im_mo_ hM) k_mo_ rfl fr_mSits ?_
                    refine pw_iload_n (z := r) (pc := 68) dX12_isLawful_68 rfl rfl ?_
                    refine pw_iald (pc := 69) dX12_isLawful_69 (im_mSits hM) k_mSits 4 l_mSits (by first | omega) (by first | omega) (by first | omega) (fun r69 => ?_)
                    refine pw_aload_n (z := mo_) (pc := 70) dX12_isLawful_70 rfl rfl ?_
                    refine pw_getR (r := mSits) (pc := 71) dX12_isLawful_71 fX12_137 (im_mo_ hM) k_mo_ rfl fr_mSits ?_
                    refine pw_iload_n (z := e) (pc := 74) dX12_isLawful_74 rfl rfl ?_
                    refine pw_iald (pc := 75) dX12_isLawful_75 (im_mSits hM) k_mSits 4 l_mSits (by first | omega) (by first | omega) (by first | omega) (fun r75 => ?_)
                    refine pw_callV (c := 12) (o := mo_) (As := [ii_ (h mSits r), ii_ (h mSits e)]) (rest := []) (pc := 76) dX12_isLawful_76 (c_areBeside hM h (h mSits r) (h mSits e) (by first | omega) (by first | omega)) lX12_378 mX12_areBeside vX12_areBeside (im_mo_ hM) k_mo_ rfl rfl rfl (by decide) ⟨Nat.zero_le _, Nat.zero_le _⟩ (Nat.le_of_ble_eq_true rfl) (k_i (fun z76 h76 y76 q76 => ?_))
                    obtain ⟨rfl, ⟨rfl, p76⟩ | ⟨rfl, p76⟩⟩ := q76
                    · refine pw_if_ne (t := 86) (pc := 79) dX12_isLawful_79 (by decide) (by first | omega) (fun _ => ?_) (fun c79 => absurd c79 (by decide))
                      refine pw_iconst (pc := 86) dX12_isLawful_86 ?_
                      exact J87 _ (by rw [lwt_s (by omega)]; first | exact Or.inr ⟨rfl, fun u => dj_0 bi c44 ⟨u.1, u.2.1, u.2.2.1⟩⟩ | exact Or.inr ⟨rfl, fun u => u.2.2.2.elim (fun z => c60 z) (fun z => z p76)⟩ | (have u := dj_1 bi c44; exact Or.inl ⟨rfl, u.1, u.2.1, u.2.2, Or.inl c60⟩) | (have u := dj_1 bi c44; exact Or.inl ⟨rfl, u.1, u.2.1, u.2.2, Or.inr p76⟩))
                    · refine pw_if_ne (t := 86) (pc := 79) dX12_isLawful_79 (by decide) (by first | omega) (fun c79 => absurd c79 (by decide)) (fun _ => ?_)
                      refine pw_iconst (pc := 82) dX12_isLawful_82 ?_
                      refine pw_goto (t := 87) (pc := 83) dX12_isLawful_83 (by decide) ?_
                      exact J87 _ (by rw [lwt_s (by omega)]; first | exact Or.inr ⟨rfl, fun u => dj_0 bi c44 ⟨u.1, u.2.1, u.2.2.1⟩⟩ | exact Or.inr ⟨rfl, fun u => u.2.2.2.elim (fun z => c60 z) (fun z => z p76)⟩ | (have u := dj_1 bi c44; exact Or.inl ⟨rfl, u.1, u.2.1, u.2.2, Or.inl c60⟩) | (have u := dj_1 bi c44; exact Or.inl ⟨rfl, u.1, u.2.1, u.2.2, Or.inr p76⟩))
          exact L38 _ _ _ (by omega) (dj_i hv (by rw [show (0 : Int).toNat = 0 from rfl]; simp only [lwt_, and_true])) (Int.self_le_toNat _)
        refine pw_iload_n (z := is) (pc := 12) dX12_isLawful_12 rfl rfl ?_
        refine pw_if_eq (t := 34) (pc := 13) dX12_isLawful_13 (by decide) (by first | omega) (fun c13 => ?_) (fun c13 => ?_)
        · refine pw_iconst (pc := 34) dX12_isLawful_34 ?_
          exact J35 _ (by first | exact Or.inr ⟨rfl, fun u => dj_0 ai c13 u.1⟩ | exact Or.inr ⟨rfl, fun u => p24 u.2⟩ | exact Or.inl ⟨rfl, dj_1 ai c13, p24⟩)
        · refine pw_aload_n (z := mo_) (pc := 16) dX12_isLawful_16 rfl rfl ?_
          refine pw_iload_n (z := r) (pc := 17) dX12_isLawful_17 rfl rfl ?_
          refine pw_aload_n (z := mo_) (pc := 18) dX12_isLawful_18 rfl rfl ?_
          refine pw_getR (r := mSits) (pc := 19) dX12_isLawful_19 fX12_137 (im_mo_ hM) k_mo_ rfl fr_mSits ?_
          refine pw_iload_n (z := r) (pc := 22) dX12_isLawful_22 rfl rfl ?_
          refine pw_iald (pc := 23) dX12_isLawful_23 (im_mSits hM) k_mSits 4 l_mSits (by first | omega) (by first | omega) (by first | omega) (fun r23 => ?_)
          refine pw_callV (c := 12) (o := mo_) (As := [ii_ r, ii_ (h mSits r)]) (rest := []) (pc := 24) dX12_isLawful_24 (c_maySit hM h (by first | omega) (by first | omega) (r) (h mSits r) (by first | omega) (by first | omega)) lX12_374 mX12_maySit vX12_maySit (im_mo_ hM) k_mo_ rfl rfl rfl (by decide) ⟨Nat.zero_le _, Nat.zero_le _⟩ (Nat.le_of_ble_eq_true rfl) (k_i (fun z24 h24 y24 q24 => ?_))
          obtain ⟨rfl, ⟨rfl, p24⟩ | ⟨rfl, p24⟩⟩ := q24
          · refine pw_if_eq (t := 34) (pc := 27) dX12_isLawful_27 (by decide) (by first | omega) (fun c27 => absurd c27 (by decide)) (fun _ => ?_)
            refine pw_iconst (pc := 30) dX12_isLawful_30 ?_
            refine pw_goto (t := 35) (pc := 31) dX12_isLawful_31 (by decide) ?_
            exact J35 _ (by first | exact Or.inr ⟨rfl, fun u => dj_0 ai c13 u.1⟩ | exact Or.inr ⟨rfl, fun u => p24 u.2⟩ | exact Or.inl ⟨rfl, dj_1 ai c13, p24⟩)
          · refine pw_if_eq (t := 34) (pc := 27) dX12_isLawful_27 (by decide) (by first | omega) (fun _ => ?_) (fun c27 => absurd c27 (by decide))
            refine pw_iconst (pc := 34) dX12_isLawful_34 ?_
            exact J35 _ (by first | exact Or.inr ⟨rfl, fun u => dj_0 ai c13 u.1⟩ | exact Or.inr ⟨rfl, fun u => p24 u.2⟩ | exact Or.inl ⟨rfl, dj_1 ai c13, p24⟩)
  exact L4 _ _ _ (by omega) (Or.inl ⟨rfl, trivial⟩) (Int.self_le_toNat _)

set_option maxHeartbeats 4000000 in
set_option maxRecDepth 100000 in
theorem c_tipOf {G : GT_} (hM : okM_ G) (h : PH_) (hS : 2 ≤ h mRoads 0 ∧ h mRoads 0 ≤ 4) (hR : 0 ≤ h mRoads 2 ∧ h mRoads 2 ≤ h mRoads 0) (hs : ∀ r, 0 ≤ r → r < h mRoads 2 → h mSits r ≤ 3) (r : Int) (hr : 0 ≤ r ∧ r < h mRoads 2) (hsr : 0 ≤ h mSits r) : PC G yX12_tipOf cX12_tipOf 4 (some .int) 2 [rr_ G mo_, ii_ r] h (qi_ (fun z h' => h = h' ∧ z = tip_ (h mRoads) (h mSits) r (h mRoads 2).toNat)) := by
  refine PC.of (lv := [some (rr_ G mo_), some (ii_ r), none, none]) (by decide +kernel) (Nat.le_of_ble_eq_true rfl) rfl rfl ?_
  refine pw_iconst (pc := 0) dX12_tipOf_0 ?_
  refine pw_istore_n (lv1 := [some (rr_ G mo_), some (ii_ r), some (ii_ 0), none]) (pc := 1) dX12_tipOf_1 rfl (by decide) rfl rfl ?_
  refine pw_iconst (pc := 2) dX12_tipOf_2 ?_
  refine pw_istore_n (lv1 := [some (rr_ G mo_), some (ii_ r), some (ii_ 0), some (ii_ 0)]) (pc := 3) dX12_tipOf_3 rfl (by decide) rfl rfl ?_
  have L4 : ∀ (nn : Nat) (n : Int) (e : Int), (0 ≤ e ∧ e ≤ h mRoads 2) → (n = tip_ (h mRoads) (h mSits) r e.toNat) → ((h mRoads 2 - e + 1 : Int) ≤ nn) → PW G RX12 cX12_tipOf 4 (some .int) (rm_ 2) 0 0 (zm_ G (qi_ (fun z h' => h = h' ∧ z = tip_ (h mRoads) (h mSits) r (h mRoads 2).toNat))) 4 [some (rr_ G mo_), some (ii_ r), some (ii_ n), some (ii_ e)] [] h := by
    intro nn
    induction nn with
    | zero => intro n e ak an ams; exfalso; omega
    | succ nn ih4 =>
      intro n e ak an ams
      have tn := tip_nn (h mRoads) (h mSits) r e.toNat
      refine pw_iload_n (z := e) (pc := 4) dX12_tipOf_4 rfl rfl ?_
      refine pw_aload_n (z := mo_) (pc := 5) dX12_tipOf_5 rfl rfl ?_
      refine pw_callV (c := 12) (o := mo_) (As := []) (rest := [ii_ e]) (pc := 6) dX12_tipOf_6 (c_riders hM h) lX12_334 mX12_riders vX12_riders (im_mo_ hM) k_mo_ rfl rfl rfl (by decide) ⟨Nat.zero_le _, Nat.zero_le _⟩ (Nat.le_of_ble_eq_true rfl) (k_i (fun z6 h6 y6 q6 => ?_))
      obtain ⟨rfl, rfl⟩ := q6
      refine pw_icmp_ge (t := 69) (pc := 9) dX12_tipOf_9 (by decide) (by first | omega) (by first | omega) (fun c9 => ?_) (fun c9 => ?_)
      · refine pw_iload_n (z := n) (pc := 69) dX12_tipOf_69 rfl rfl ?_
        exact pw_iret (pc := 70) dX12_tipOf_70 (by first | omega) (⟨rfl, by rw [an, show e = h mRoads 2 by omega]⟩)
      · have hse := hs e (by omega) (by omega)
        have hsr2 := hs r hr.1 hr.2
        refine pw_iload_n (z := n) (pc := 12) dX12_tipOf_12 rfl rfl ?_
        have J61 : ∀ (v : Int), (v = if_ (e ≠ r ∧ h mRoads (31 + 4 * e) = 2 ∧ 0 ≤ h mSits e ∧ bes_ (h mRoads 10) (h mSits r) (h mSits e)) 1 0) → PW G RX12 cX12_tipOf 4 (some .int) (rm_ 2) 0 0 (zm_ G (qi_ (fun z h' => h = h' ∧ z = tip_ (h mRoads) (h mSits) r (h mRoads 2).toNat))) 61 [some (rr_ G mo_), some (ii_ r), some (ii_ n), some (ii_ e)] [ii_ v, ii_ n] h := by
          intro v hv
          refine pw_iadd (pc := 61) dX12_tipOf_61 ?_
          refine pw_istore_n (lv1 := [some (rr_ G mo_), some (ii_ r), some (ii_ (n + v)), some (ii_ e)]) (pc := 62) dX12_tipOf_62 rfl (by decide) rfl rfl ?_
          refine pw_iinc (z := e) (lv1 := [some (rr_ G mo_), some (ii_ r), some (ii_ (n + v)), some (ii_ (e + 1))]) (pc := 63) dX12_tipOf_63 rfl (by decide) rfl rfl ?_
          refine pw_goto (t := 4) (pc := 66) dX12_tipOf_66 (by decide) ?_
          exact ih4 _ _ (by omega) (by rw [tip_s _ _ _ (by omega), an, hv]) (by omega)
        refine pw_iload_n (z := e) (pc := 13) dX12_tipOf_13 rfl rfl ?_
        refine pw_iload_n (z := r) (pc := 14) dX12_tipOf_14 rfl rfl ?_
        refine pw_icmp_eq (t := 60) (pc := 15) dX12_tipOf_15 (by decide) (by first | omega) (by first | omega) (fun c15 => ?_) (fun c15 => ?_)
        · refine pw_iconst (pc := 60) dX12_tipOf_60 ?_
          exact J61 _ (by (try simp only [Int.add_zero] at *); first | exact (if_t ⟨c15, by omega, by omega, p50⟩).symm | exact (if_f (by rintro ⟨u1, u2, u3, u4⟩; first | omega | exact p50 u4)).symm)
        · refine pw_aload_n (z := mo_) (pc := 18) dX12_tipOf_18 rfl rfl ?_
          refine pw_iload_n (z := e) (pc := 19) dX12_tipOf_19 rfl rfl ?_
          refine pw_iconst (pc := 20) dX12_tipOf_20 ?_
          refine pw_callV (c := 12) (o := mo_) (As := [ii_ e, ii_ 0]) (rest := [ii_ n]) (pc := 21) dX12_tipOf_21 (c_riderOf hM h (e) (0) (by first | omega) (by first | omega)) lX12_355 mX12_riderOf vX12_riderOf (im_mo_ hM) k_mo_ rfl rfl rfl (by decide) ⟨Nat.zero_le _, Nat.zero_le _⟩ (Nat.le_of_ble_eq_true rfl) (k_i (fun z21 h21 y21 q21 => ?_))
          obtain ⟨rfl, rfl⟩ := q21
          refine pw_iconst (pc := 24) dX12_tipOf_24 ?_
          refine pw_icmp_ne (t := 60) (pc := 25) dX12_tipOf_25 (by decide) (by first | omega) (by first | omega) (fun c25 => ?_) (fun c25 => ?_)
          · refine pw_iconst (pc := 60) dX12_tipOf_60 ?_
            exact J61 _ (by (try simp only [Int.add_zero] at *); first | exact (if_t ⟨c15, by omega, by omega, p50⟩).symm | exact (if_f (by rintro ⟨u1, u2, u3, u4⟩; first | omega | exact p50 u4)).symm)
          · refine pw_aload_n (z := mo_) (pc := 28) dX12_tipOf_28 rfl rfl ?_
            refine pw_getR (r := mSits) (pc := 29) dX12_tipOf_29 fX12_137 (im_mo_ hM) k_mo_ rfl fr_mSits ?_
            refine pw_iload_n (z := e) (pc := 32) dX12_tipOf_32 rfl rfl ?_
            refine pw_iald (pc := 33) dX12_tipOf_33 (im_mSits hM) k_mSits 4 l_mSits (by first | omega) (by first | omega) (by first | omega) (fun r33 => ?_)
            refine pw_if_lt (t := 60) (pc := 34) dX12_tipOf_34 (by decide) (by first | omega) (fun c34 => ?_) (fun c34 => ?_)
            · refine pw_iconst (pc := 60) dX12_tipOf_60 ?_
              exact J61 _ (by (try simp only [Int.add_zero] at *); first | exact (if_t ⟨c15, by omega, by omega, p50⟩).symm | exact (if_f (by rintro ⟨u1, u2, u3, u4⟩; first | omega | exact p50 u4)).symm)
            · refine pw_aload_n (z := mo_) (pc := 37) dX12_tipOf_37 rfl rfl ?_
              refine pw_aload_n (z := mo_) (pc := 38) dX12_tipOf_38 rfl rfl ?_
              refine pw_getR (r := mSits) (pc := 39) dX12_tipOf_39 fX12_137 (im_mo_ hM) k_mo_ rfl fr_mSits ?_
              refine pw_iload_n (z := r) (pc := 42) dX12_tipOf_42 rfl rfl ?_
              refine pw_iald (pc := 43) dX12_tipOf_43 (im_mSits hM) k_mSits 4 l_mSits (by first | omega) (by first | omega) (by first | omega) (fun r43 => ?_)
              refine pw_aload_n (z := mo_) (pc := 44) dX12_tipOf_44 rfl rfl ?_
              refine pw_getR (r := mSits) (pc := 45) dX12_tipOf_45 fX12_137 (im_mo_ hM) k_mo_ rfl fr_mSits ?_
              refine pw_iload_n (z := e) (pc := 48) dX12_tipOf_48 rfl rfl ?_
              refine pw_iald (pc := 49) dX12_tipOf_49 (im_mSits hM) k_mSits 4 l_mSits (by first | omega) (by first | omega) (by first | omega) (fun r49 => ?_)
              refine pw_callV (c := 12) (o := mo_) (As := [ii_ (h mSits r), ii_ (h mSits e)]) (rest := [ii_ n]) (pc := 50) dX12_tipOf_50 (c_areBeside hM h (h mSits r) (h mSits e) (by first | omega) (by first | omega)) lX12_378 mX12_areBeside vX12_areBeside (im_mo_ hM) k_mo_ rfl rfl rfl (by decide) ⟨Nat.zero_le _, Nat.zero_le _⟩ (Nat.le_of_ble_eq_true rfl) (k_i (fun z50 h50 y50 q50 => ?_))
              obtain ⟨rfl, ⟨rfl, p50⟩ | ⟨rfl, p50⟩⟩ := q50
              · refine pw_if_eq (t := 60) (pc := 53) dX12_tipOf_53 (by decide) (by first | omega) (fun c53 => absurd c53 (by decide)) (fun _ => ?_)
                refine pw_iconst (pc := 56) dX12_tipOf_56 ?_
                refine pw_goto (t := 61) (pc := 57) dX12_tipOf_57 (by decide) ?_
                exact J61 _ (by (try simp only [Int.add_zero] at *); first | exact (if_t ⟨c15, by omega, by omega, p50⟩).symm | exact (if_f (by rintro ⟨u1, u2, u3, u4⟩; first | omega | exact p50 u4)).symm)
              · refine pw_if_eq (t := 60) (pc := 53) dX12_tipOf_53 (by decide) (by first | omega) (fun _ => ?_) (fun c53 => absurd c53 (by decide))
                refine pw_iconst (pc := 60) dX12_tipOf_60 ?_
                exact J61 _ (by (try simp only [Int.add_zero] at *); first | exact (if_t ⟨c15, by omega, by omega, p50⟩).symm | exact (if_f (by rintro ⟨u1, u2, u3, u4⟩; first | omega | exact p50 u4)).symm)
  exact L4 _ _ _ (by omega) (rfl) (Int.self_le_toNat _)

