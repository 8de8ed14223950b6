set_option maxHeartbeats 4000000 in
set_option maxRecDepth 100000 in
theorem c_sitsOn {G : GT_} (hM : okM_ G) (h : PH_) (hS : 2 ≤ h mRoads 0 ∧ h mRoads 0 ≤ 4) (hR : 0 ≤ h mRoads 2 ∧ h mRoads 2 ≤ h mRoads 0) (b r s : Int) (h1 : 0 ≤ b ∧ b ≤ 1680) (h2 : 0 ≤ r ∧ r < 4) (h3 : ir_ s) : PC G yX12_sitsOn cX12_sitsOn 6 (some .int) 2 [rr_ G mo_, ii_ b, ii_ r, ii_ s] h (qi_ (fun z h' => z = who_ (fun e => h mState (b + 1 + e)) s (h mRoads 2).toNat ∧ h' = sc_ h mState (sit_ (h mState) b r s z))) := by
  refine PC.of (lv := [some (rr_ G mo_), some (ii_ b), some (ii_ r), some (ii_ s), none, none]) (by decide +kernel) (Nat.le_of_ble_eq_true rfl) rfl rfl ?_
  refine pw_iconst (pc := 0) dX12_sitsOn_0 ?_
  refine pw_istore (lv1 := [some (rr_ G mo_), some (ii_ b), some (ii_ r), some (ii_ s), some (ii_ (-1)), none]) (pc := 1) dX12_sitsOn_1 (by decide) rfl rfl ?_
  refine pw_iconst (pc := 3) dX12_sitsOn_3 ?_
  refine pw_istore (lv1 := [some (rr_ G mo_), some (ii_ b), some (ii_ r), some (ii_ s), some (ii_ (-1)), some (ii_ 0)]) (pc := 4) dX12_sitsOn_4 (by decide) rfl rfl ?_
  have L6 : ∀ (nn : Nat) (w : Int) (e : Int), (0 ≤ e ∧ e ≤ h mRoads 2) → (w = who_ (fun e => h mState (b + 1 + e)) s e.toNat) → ((h mRoads 2 - e + 1 : Int) ≤ nn) → PW G RX12 cX12_sitsOn 6 (some .int) (rm_ 2) 0 0 (zm_ G (qi_ (fun z h' => z = who_ (fun e => h mState (b + 1 + e)) s (h mRoads 2).toNat ∧ h' = sc_ h mState (sit_ (h mState) b r s z)))) 6 [some (rr_ G mo_), some (ii_ b), some (ii_ r), some (ii_ s), some (ii_ w), some (ii_ e)] [] h := by
    intro nn
    induction nn with
    | zero => intro w e ak aw ams; exfalso; omega
    | succ nn ih6 =>
      intro w e ak aw ams
      have wb := who_b (fun e => h mState (b + 1 + e)) s e.toNat
      refine pw_iload (z := e) (pc := 6) dX12_sitsOn_6 rfl ?_
      refine pw_aload_n (z := mo_) (pc := 8) dX12_sitsOn_8 rfl rfl ?_
      refine pw_callV (c := 12) (o := mo_) (As := []) (rest := [ii_ e]) (pc := 9) dX12_sitsOn_9 (c_riders hM h) lX12_334 mX12_riders vX12_riders (im_mo_ hM) k_mo_ rfl rfl rfl (by decide) ⟨Nat.zero_le _, Nat.zero_le _⟩ (Nat.le_of_ble_eq_true rfl) (k_i (fun z9 h9 y9 q9 => ?_))
      obtain ⟨rfl, rfl⟩ := q9
      refine pw_icmp_ge (t := 45) (pc := 12) dX12_sitsOn_12 (by decide) (by first | omega) (by first | omega) (fun c12 => ?_) (fun c12 => ?_)
      · have J71 : ∀ (h2 : PH_), (h2 = sc_ h mState (fun x => if 0 ≤ w ∧ x = b + 1 + w then h mState (b + 1 + r) else h mState x)) → PW G RX12 cX12_sitsOn 6 (some .int) (rm_ 2) 0 0 (zm_ G (qi_ (fun z h' => z = who_ (fun e => h mState (b + 1 + e)) s (h mRoads 2).toNat ∧ h' = sc_ h mState (sit_ (h mState) b r s z)))) 71 [some (rr_ G mo_), some (ii_ b), some (ii_ r), some (ii_ s), some (ii_ w), some (ii_ e)] [] h2 := by
          intro h2 hh
          refine pw_aload_n (z := mo_) (pc := 71) dX12_sitsOn_71 rfl rfl ?_
          refine pw_getR (r := mState) (pc := 72) dX12_sitsOn_72 fX12_130 (im_mo_ hM) k_mo_ rfl fr_mState ?_
          refine pw_iload_n (z := b) (pc := 75) dX12_sitsOn_75 rfl rfl ?_
          refine pw_iconst (pc := 76) dX12_sitsOn_76 ?_
          refine pw_iadd (pc := 77) dX12_sitsOn_77 ?_
          refine pw_iload_n (z := r) (pc := 78) dX12_sitsOn_78 rfl rfl ?_
          refine pw_iadd (pc := 79) dX12_sitsOn_79 ?_
          refine pw_iload_n (z := s) (pc := 80) dX12_sitsOn_80 rfl rfl ?_
          refine pw_iast (pc := 81) dX12_sitsOn_81 (im_mState hM) k_mState 1760 l_mState (by first | omega) (by first | omega) (by first | omega) (by first | omega) ?_
          obtain ⟨g81, e81⟩ : ∃ x, x = up_ h2 mState ((b + 1) + r) s := ⟨_, rfl⟩
          refine pw_heq e81 ?_
          refine pw_iload (z := w) (pc := 82) dX12_sitsOn_82 rfl ?_
          exact pw_iret (pc := 84) dX12_sitsOn_84 (by first | omega) (⟨by rw [aw, show e = h mRoads 2 by omega], sc_up hh e81 (fun y => by unfold sit_; rfl)⟩)
        refine pw_iload (z := w) (pc := 45) dX12_sitsOn_45 rfl ?_
        refine pw_if_lt (t := 71) (pc := 47) dX12_sitsOn_47 (by decide) (by first | omega) (fun c47 => ?_) (fun c47 => ?_)
        · exact J71 _ (by first | exact sc_id (fun y => by rw [if_neg (by omega)]) | exact sc_up (sc_id (fun _ => rfl)) e70 (fun y => by (repeat' split) <;> first | rfl | omega))
        · refine pw_aload_n (z := mo_) (pc := 50) dX12_sitsOn_50 rfl rfl ?_
          refine pw_getR (r := mState) (pc := 51) dX12_sitsOn_51 fX12_130 (im_mo_ hM) k_mo_ rfl fr_mState ?_
          refine pw_iload_n (z := b) (pc := 54) dX12_sitsOn_54 rfl rfl ?_
          refine pw_iconst (pc := 55) dX12_sitsOn_55 ?_
          refine pw_iadd (pc := 56) dX12_sitsOn_56 ?_
          refine pw_iload (z := w) (pc := 57) dX12_sitsOn_57 rfl ?_
          refine pw_iadd (pc := 59) dX12_sitsOn_59 ?_
          refine pw_aload_n (z := mo_) (pc := 60) dX12_sitsOn_60 rfl rfl ?_
          refine pw_getR (r := mState) (pc := 61) dX12_sitsOn_61 fX12_130 (im_mo_ hM) k_mo_ rfl fr_mState ?_
          refine pw_iload_n (z := b) (pc := 64) dX12_sitsOn_64 rfl rfl ?_
          refine pw_iconst (pc := 65) dX12_sitsOn_65 ?_
          refine pw_iadd (pc := 66) dX12_sitsOn_66 ?_
          refine pw_iload_n (z := r) (pc := 67) dX12_sitsOn_67 rfl rfl ?_
          refine pw_iadd (pc := 68) dX12_sitsOn_68 ?_
          refine pw_iald (pc := 69) dX12_sitsOn_69 (im_mState hM) k_mState 1760 l_mState (by first | omega) (by first | omega) (by first | omega) (fun r69 => ?_)
          refine pw_iast (pc := 70) dX12_sitsOn_70 (im_mState hM) k_mState 1760 l_mState (by first | omega) (by first | omega) (by first | omega) (by first | omega) ?_
          obtain ⟨g70, e70⟩ : ∃ x, x = up_ h mState ((b + 1) + w) (h mState ((b + 1) + r)) := ⟨_, rfl⟩
          refine pw_heq e70 ?_
          exact J71 _ (by first | exact sc_id (fun y => by rw [if_neg (by omega)]) | exact sc_up (sc_id (fun _ => rfl)) e70 (fun y => by (repeat' split) <;> first | rfl | omega))
      · have J37 : ∀ (v : Int), (v = (if h mState (b + 1 + e) = s then e else who_ (fun e => h mState (b + 1 + e)) s e.toNat)) → PW G RX12 cX12_sitsOn 6 (some .int) (rm_ 2) 0 0 (zm_ G (qi_ (fun z h' => z = who_ (fun e => h mState (b + 1 + e)) s (h mRoads 2).toNat ∧ h' = sc_ h mState (sit_ (h mState) b r s z)))) 37 [some (rr_ G mo_), some (ii_ b), some (ii_ r), some (ii_ s), some (ii_ w), some (ii_ e)] [ii_ v] h := by
          intro v hv
          refine pw_istore (lv1 := [some (rr_ G mo_), some (ii_ b), some (ii_ r), some (ii_ s), some (ii_ v), some (ii_ e)]) (pc := 37) dX12_sitsOn_37 (by decide) rfl rfl ?_
          refine pw_iinc (z := e) (lv1 := [some (rr_ G mo_), some (ii_ b), some (ii_ r), some (ii_ s), some (ii_ v), some (ii_ (e + 1))]) (pc := 39) dX12_sitsOn_39 rfl (by decide) rfl rfl ?_
          refine pw_goto (t := 6) (pc := 42) dX12_sitsOn_42 (by decide) ?_
          exact ih6 _ _ (by omega) (by rw [who_s (by omega)]; exact hv) (by omega)
        refine pw_aload_n (z := mo_) (pc := 15) dX12_sitsOn_15 rfl rfl ?_
        refine pw_getR (r := mState) (pc := 16) dX12_sitsOn_16 fX12_130 (im_mo_ hM) k_mo_ rfl fr_mState ?_
        refine pw_iload_n (z := b) (pc := 19) dX12_sitsOn_19 rfl rfl ?_
        refine pw_iconst (pc := 20) dX12_sitsOn_20 ?_
        refine pw_iadd (pc := 21) dX12_sitsOn_21 ?_
        refine pw_iload (z := e) (pc := 22) dX12_sitsOn_22 rfl ?_
        refine pw_iadd (pc := 24) dX12_sitsOn_24 ?_
        refine pw_iald (pc := 25) dX12_sitsOn_25 (im_mState hM) k_mState 1760 l_mState (by first | omega) (by first | omega) (by first | omega) (fun r25 => ?_)
        refine pw_iload_n (z := s) (pc := 26) dX12_sitsOn_26 rfl rfl ?_
        refine pw_icmp_ne (t := 35) (pc := 27) dX12_sitsOn_27 (by decide) (by first | omega) (by first | omega) (fun c27 => ?_) (fun c27 => ?_)
        · refine pw_iload (z := w) (pc := 35) dX12_sitsOn_35 rfl ?_
          exact J37 _ (by first | (rw [if_pos (by omega)]; done) | (rw [if_neg (by omega)]; exact aw))
        · refine pw_iload (z := e) (pc := 30) dX12_sitsOn_30 rfl ?_
          refine pw_goto (t := 37) (pc := 32) dX12_sitsOn_32 (by decide) ?_
          exact J37 _ (by first | (rw [if_pos (by omega)]; done) | (rw [if_neg (by omega)]; exact aw))
  exact L6 _ _ _ (by omega) (rfl) (Int.self_le_toNat _)

set_option maxHeartbeats 4000000 in
set_option maxRecDepth 100000 in
theorem c_mayDrive {G : GT_} (hM : okM_ G) (h : PH_) (hS : 2 ≤ h mRoads 0 ∧ h mRoads 0 ≤ 4) (hR : 0 ≤ h mRoads 2 ∧ h mRoads 2 ≤ h mRoads 0) (b : Int) (h1 : 0 ≤ b ∧ b ≤ 1680) (hse : ∀ r, 0 ≤ r → r < h mRoads 2 → h mState (b + 1 + r) ≤ 3) : PC G yX12_mayDrive cX12_mayDrive 4 (some .boolean) 5 [rr_ G mo_, ii_ b] h (qi_ (fun z h' => off_ [mSits] h h' ∧ (∀ r, 0 ≤ r → r < h mRoads 2 → h' mSits r = h mState (b + 1 + r)) ∧ (z = 1 ∧ (mdr_ (h mRoads) (h mState) b) ∨ z = 0 ∧ ¬ (mdr_ (h mRoads) (h mState) b)))) := by
  refine PC.of (lv := [some (rr_ G mo_), some (ii_ b), none, none]) (by decide +kernel) (Nat.le_of_ble_eq_true rfl) rfl rfl ?_
  have J20 : ∀ (v : Int), (v = 1 ∧ (h mState b < h mRoads 1) ∨ v = 0 ∧ ¬ (h mState b < h mRoads 1)) → PW G RX12 cX12_mayDrive 4 (some .boolean) (rm_ 5) 0 0 (zm_ G (qi_ (fun z h' => off_ [mSits] h h' ∧ (∀ r, 0 ≤ r → r < h mRoads 2 → h' mSits r = h mState (b + 1 + r)) ∧ (z = 1 ∧ (mdr_ (h mRoads) (h mState) b) ∨ z = 0 ∧ ¬ (mdr_ (h mRoads) (h mState) b))))) 20 [some (rr_ G mo_), some (ii_ b), none, none] [ii_ v] h := by
    intro v hv
    refine pw_istore_n (lv1 := [some (rr_ G mo_), some (ii_ b), some (ii_ v), none]) (pc := 20) dX12_mayDrive_20 rfl (by decide) rfl rfl ?_
    refine pw_iconst (pc := 21) dX12_mayDrive_21 ?_
    refine pw_istore_n (lv1 := [some (rr_ G mo_), some (ii_ b), some (ii_ v), some (ii_ 0)]) (pc := 22) dX12_mayDrive_22 rfl (by decide) rfl rfl ?_
    have L23 : ∀ (nn : Nat) (is : Int) (r : Int) (hq : PH_), (0 ≤ r ∧ r ≤ h mRoads 2) → (off_ [mSits] h hq) → (∀ q, 0 ≤ q → q < r → hq mSits q = h mState (b + 1 + q)) → (is = 1 ∧ (h mState b < h mRoads 1 ∧ alls_ (fun r => h mState (b + 1 + r)) r.toNat) ∨ is = 0 ∧ ¬ (h mState b < h mRoads 1 ∧ alls_ (fun r => h mState (b + 1 + r)) r.toNat)) → ((h mRoads 2 - r + 1 : Int) ≤ nn) → PW G RX12 cX12_mayDrive 4 (some .boolean) (rm_ 5) 0 0 (zm_ G (qi_ (fun z h' => off_ [mSits] h h' ∧ (∀ r, 0 ≤ r → r < h mRoads 2 → h' mSits r = h mState (b + 1 + r)) ∧ (z = 1 ∧ (mdr_ (h mRoads) (h mState) b) ∨ z = 0 ∧ ¬ (mdr_ (h mRoads) (h mState) b))))) 23 [some (rr_ G mo_), some (ii_ b), some (ii_ is), some (ii_ r)] [] hq := by
      intro nn
      induction nn with
      | zero => intro is r hq ak af ad ai ams; exfalso; omega
      | succ nn ih23 =>
        intro is r hq ak af ad ai ams
        have ai2 := dj_r ai
        refine pw_iload_n (z := r) (pc := 23) dX12_mayDrive_23 rfl rfl ?_
        refine pw_aload_n (z := mo_) (pc := 24) dX12_mayDrive_24 rfl rfl ?_
        refine pw_callV (c := 12) (o := mo_) (As := []) (rest := [ii_ r]) (pc := 25) dX12_mayDrive_25 (c_riders hM hq) lX12_334 mX12_riders vX12_riders (im_mo_ hM) k_mo_ rfl rfl rfl (by decide) ⟨Nat.zero_le _, Nat.zero_le _⟩ (Nat.le_of_ble_eq_true rfl) (k_i (fun z25 h25 y25 q25 => ?_))
        obtain ⟨rfl, rfl⟩ := q25
        have n_hq_mRoads : hq mRoads = h mRoads := (af mRoads (by decide))
        rw [n_hq_mRoads] at y25 ⊢
        refine pw_icmp_ge (t := 72) (pc := 28) dX12_mayDrive_28 (by decide) (by first | omega | (simp only [n_hq_mRoads]; omega)) (by first | omega | (simp only [n_hq_mRoads]; omega)) (fun c28 => ?_) (fun c28 => ?_)
        · have f2 : ∀ q, 0 ≤ q → q < h mRoads 2 → hq mSits q = h mState (b + 1 + q) := fun q q0 q1 => ad q q0 (by omega)
          have a2 := dj_i ai (show _ ↔ h mState b < h mRoads 1 ∧ alls_ (fun r => h mState (b + 1 + r)) (h mRoads 2).toNat by rw [show r = h mRoads 2 by omega])
          refine pw_iload_n (z := is) (pc := 72) dX12_mayDrive_72 rfl rfl ?_
          refine pw_if_eq (t := 87) (pc := 73) dX12_mayDrive_73 (by decide) (by first | omega | (simp only [n_hq_mRoads]; omega)) (fun c73 => ?_) (fun c73 => ?_)
          · refine pw_iconst (pc := 87) dX12_mayDrive_87 ?_
            exact pw_zret (pc := 88) dX12_mayDrive_88 (by first | omega | (simp only [n_hq_mRoads]; omega)) (⟨af, f2, by first | exact Or.inr ⟨rfl, fun u => dj_0 a2 c73 ⟨u.1, u.2.1⟩⟩ | exact Or.inr ⟨rfl, fun u => p77 u.2.2⟩ | exact Or.inl ⟨rfl, a3.1, a3.2, p77⟩⟩)
          · have a3 := dj_1 a2 c73
            have s_hq : ∀ q, 0 ≤ q → q < hq mRoads 2 → 0 ≤ hq mSits q ∧ hq mSits q ≤ 3 := fun q q0 q1 => by
              rw [n_hq_mRoads] at q1
              rw [f2 q q0 q1]; exact ⟨alls_e a3.2 q q0 (by omega), hse q q0 q1⟩
            have l_hq : lwf_ (hq mRoads) (hq mSits) (hq mRoads 2).toNat ↔ lwf_ (h mRoads) (fun r => h mState (b + 1 + r)) (h mRoads 2).toNat := by rw [n_hq_mRoads]; exact lwf_cg (fun e e0 e1 => f2 e e0 (by omega))
            refine pw_aload_n (z := mo_) (pc := 76) dX12_mayDrive_76 rfl rfl ?_
            refine pw_callV (c := 12) (o := mo_) (As := []) (rest := []) (pc := 77) dX12_mayDrive_77 (c_isLawful hM hq (by first | omega | (simp only [n_hq_mRoads]; omega)) (by first | omega | (simp only [n_hq_mRoads]; omega)) s_hq) lX12_396 mX12_isLawful vX12_isLawful (im_mo_ hM) k_mo_ rfl rfl rfl (by decide) ⟨Nat.zero_le _, Nat.zero_le _⟩ (Nat.le_of_ble_eq_true rfl) (k_i (fun z77 h77 y77 q77 => ?_))
            obtain ⟨rfl, ⟨rfl, p77⟩ | ⟨rfl, p77⟩⟩ := q77
            · rw [l_hq] at p77
              simp -failIfUnchanged only [n_hq_mRoads] at p77
              refine pw_if_eq (t := 87) (pc := 80) dX12_mayDrive_80 (by decide) (by first | omega | (simp only [n_hq_mRoads]; omega)) (fun c80 => absurd c80 (by decide)) (fun _ => ?_)
              refine pw_iconst (pc := 83) dX12_mayDrive_83 ?_
              refine pw_goto (t := 88) (pc := 84) dX12_mayDrive_84 (by decide) ?_
              exact pw_zret (pc := 88) dX12_mayDrive_88 (by first | omega | (simp only [n_hq_mRoads]; omega)) (⟨af, f2, by first | exact Or.inr ⟨rfl, fun u => dj_0 a2 c73 ⟨u.1, u.2.1⟩⟩ | exact Or.inr ⟨rfl, fun u => p77 u.2.2⟩ | exact Or.inl ⟨rfl, a3.1, a3.2, p77⟩⟩)
            · rw [l_hq] at p77
              simp -failIfUnchanged only [n_hq_mRoads] at p77
              refine pw_if_eq (t := 87) (pc := 80) dX12_mayDrive_80 (by decide) (by first | omega | (simp only [n_hq_mRoads]; omega)) (fun _ => ?_) (fun c80 => absurd c80 (by decide))
              refine pw_iconst (pc := 87) dX12_mayDrive_87 ?_
              exact pw_zret (pc := 88) dX12_mayDrive_88 (by first | omega | (simp only [n_hq_mRoads]; omega)) (⟨af, f2, by first | exact Or.inr ⟨rfl, fun u => dj_0 a2 c73 ⟨u.1, u.2.1⟩⟩ | exact Or.inr ⟨rfl, fun u => p77 u.2.2⟩ | exact Or.inl ⟨rfl, a3.1, a3.2, p77⟩⟩)
        · refine pw_aload_n (z := mo_) (pc := 31) dX12_mayDrive_31 rfl rfl ?_
          refine pw_getR (r := mSits) (pc := 32) dX12_mayDrive_32 fX12_137 (im_mo_ hM) k_mo_ rfl fr_mSits ?_
          refine pw_iload_n (z := r) (pc := 35) dX12_mayDrive_35 rfl rfl ?_
          refine pw_aload_n (z := mo_) (pc := 36) dX12_mayDrive_36 rfl rfl ?_
          refine pw_getR (r := mState) (pc := 37) dX12_mayDrive_37 fX12_130 (im_mo_ hM) k_mo_ rfl fr_mState ?_
          refine pw_iload_n (z := b) (pc := 40) dX12_mayDrive_40 rfl rfl ?_
          refine pw_iconst (pc := 41) dX12_mayDrive_41 ?_
          refine pw_iadd (pc := 42) dX12_mayDrive_42 ?_
          refine pw_iload_n (z := r) (pc := 43) dX12_mayDrive_43 rfl rfl ?_
          refine pw_iadd (pc := 44) dX12_mayDrive_44 ?_
          refine pw_iald (pc := 45) dX12_mayDrive_45 (im_mState hM) k_mState 1760 l_mState (by first | omega | (simp only [n_hq_mRoads]; omega)) (by first | omega | (simp only [n_hq_mRoads]; omega)) (by first | omega | (simp only [n_hq_mRoads]; omega)) (fun r45 => ?_)
          have n_hq_mState : hq mState = h mState := (af mState (by decide))
          rw [n_hq_mState] at r45 ⊢
          refine pw_iast (pc := 46) dX12_mayDrive_46 (im_mSits hM) k_mSits 4 l_mSits (by first | omega | (simp only [n_hq_mRoads, n_hq_mState]; omega)) (by first | omega | (simp only [n_hq_mRoads, n_hq_mState]; omega)) (by first | omega | (simp only [n_hq_mRoads, n_hq_mState]; omega)) (by first | omega | (simp only [n_hq_mRoads, n_hq_mState]; omega)) ?_
          obtain ⟨g46, e46⟩ : ∃ x, x = up_ hq mSits r (h mState ((b + 1) + r)) := ⟨_, rfl⟩
          refine pw_heq e46 ?_
          have J65 : ∀ (v : Int), (v = 1 ∧ (h mState b < h mRoads 1 ∧ alls_ (fun r => h mState (b + 1 + r)) (r + 1).toNat) ∨ v = 0 ∧ ¬ (h mState b < h mRoads 1 ∧ alls_ (fun r => h mState (b + 1 + r)) (r + 1).toNat)) → PW G RX12 cX12_mayDrive 4 (some .boolean) (rm_ 5) 0 0 (zm_ G (qi_ (fun z h' => off_ [mSits] h h' ∧ (∀ r, 0 ≤ r → r < h mRoads 2 → h' mSits r = h mState (b + 1 + r)) ∧ (z = 1 ∧ (mdr_ (h mRoads) (h mState) b) ∨ z = 0 ∧ ¬ (mdr_ (h mRoads) (h mState) b))))) 65 [some (rr_ G mo_), some (ii_ b), some (ii_ is), some (ii_ r)] [ii_ v] g46 := by
            intro v hv2
            refine pw_istore_n (lv1 := [some (rr_ G mo_), some (ii_ b), some (ii_ v), some (ii_ r)]) (pc := 65) dX12_mayDrive_65 rfl (by decide) rfl rfl ?_
            refine pw_iinc (z := r) (lv1 := [some (rr_ G mo_), some (ii_ b), some (ii_ v), some (ii_ (r + 1))]) (pc := 66) dX12_mayDrive_66 rfl (by decide) rfl rfl ?_
            refine pw_goto (t := 23) (pc := 69) dX12_mayDrive_69 (by decide) ?_
            exact ih23 _ _ _ (by omega) (by rw [e46]; exact off_up af (by decide)) (fun q q0 q1 => by rw [e46, up_at]; by_cases e : q = r; rw [if_pos e, e]; rw [if_neg e]; exact ad q q0 (by omega)) (hv2) (by omega)
          refine pw_iload_n (z := is) (pc := 47) dX12_mayDrive_47 rfl rfl ?_
          refine pw_if_eq (t := 64) (pc := 48) dX12_mayDrive_48 (by decide) (by first | omega | (simp only [n_hq_mRoads, n_hq_mState]; omega)) (fun c48 => ?_) (fun c48 => ?_)
          · refine pw_iconst (pc := 64) dX12_mayDrive_64 ?_
            exact J65 _ (by rw [alls_s (by omega)]; (try rw [e46, up_same] at c57); first | exact Or.inr ⟨rfl, fun u => dj_0 ai c48 ⟨u.1, u.2.1⟩⟩ | exact Or.inr ⟨rfl, fun u => by have := u.2.2; omega⟩ | (have u := dj_1 ai c48; exact Or.inl ⟨rfl, u.1, u.2, by omega⟩))
          · refine pw_aload_n (z := mo_) (pc := 51) dX12_mayDrive_51 rfl rfl ?_
            refine pw_getR (r := mSits) (pc := 52) dX12_mayDrive_52 fX12_137 (im_mo_ hM) k_mo_ rfl fr_mSits ?_
            refine pw_iload_n (z := r) (pc := 55) dX12_mayDrive_55 rfl rfl ?_
            refine pw_iald (pc := 56) dX12_mayDrive_56 (im_mSits hM) k_mSits 4 l_mSits (by first | omega | (simp only [n_hq_mRoads, n_hq_mState]; omega)) (by first | omega | (simp only [n_hq_mRoads, n_hq_mState]; omega)) (by first | omega | (simp only [n_hq_mRoads, n_hq_mState]; omega)) (fun r56 => ?_)
            refine pw_if_lt (t := 64) (pc := 57) dX12_mayDrive_57 (by decide) (by first | omega | (simp only [n_hq_mRoads, n_hq_mState]; omega)) (fun c57 => ?_) (fun c57 => ?_)
            · refine pw_iconst (pc := 64) dX12_mayDrive_64 ?_
              exact J65 _ (by rw [alls_s (by omega)]; (try rw [e46, up_same] at c57); first | exact Or.inr ⟨rfl, fun u => dj_0 ai c48 ⟨u.1, u.2.1⟩⟩ | exact Or.inr ⟨rfl, fun u => by have := u.2.2; omega⟩ | (have u := dj_1 ai c48; exact Or.inl ⟨rfl, u.1, u.2, by omega⟩))
            · refine pw_iconst (pc := 60) dX12_mayDrive_60 ?_
              refine pw_goto (t := 65) (pc := 61) dX12_mayDrive_61 (by decide) ?_
              exact J65 _ (by rw [alls_s (by omega)]; (try rw [e46, up_same] at c57); first | exact Or.inr ⟨rfl, fun u => dj_0 ai c48 ⟨u.1, u.2.1⟩⟩ | exact Or.inr ⟨rfl, fun u => by have := u.2.2; omega⟩ | (have u := dj_1 ai c48; exact Or.inl ⟨rfl, u.1, u.2, by omega⟩))
    exact L23 _ _ _ _ (by omega) (off_rf) (fun q _ _ => by omega) (dj_i hv (by rw [show (0 : Int).toNat = 0 from rfl]; simp only [alls_, and_true])) (Int.self_le_toNat _)
  refine pw_aload_n (z := mo_) (pc := 0) dX12_mayDrive_0 rfl rfl ?_
  refine pw_getR (r := mState) (pc := 1) dX12_mayDrive_1 fX12_130 (im_mo_ hM) k_mo_ rfl fr_mState ?_
  refine pw_iload_n (z := b) (pc := 4) dX12_mayDrive_4 rfl rfl ?_
  refine pw_iconst (pc := 5) dX12_mayDrive_5 ?_
  refine pw_iadd (pc := 6) dX12_mayDrive_6 ?_
  refine pw_iald (pc := 7) dX12_mayDrive_7 (im_mState hM) k_mState 1760 l_mState (by first | omega) (by first | omega) (by first | omega) (fun r7 => ?_)
  refine pw_aload_n (z := mo_) (pc := 8) dX12_mayDrive_8 rfl rfl ?_
  refine pw_callV (c := 12) (o := mo_) (As := []) (rest := [ii_ (h mState (b + 0))]) (pc := 9) dX12_mayDrive_9 (c_stretches hM h) lX12_368 mX12_stretches vX12_stretches (im_mo_ hM) k_mo_ rfl rfl rfl (by decide) ⟨Nat.zero_le _, Nat.zero_le _⟩ (Nat.le_of_ble_eq_true rfl) (k_i (fun z9 h9 y9 q9 => ?_))
  obtain ⟨rfl, rfl⟩ := q9
  refine pw_icmp_ge (t := 19) (pc := 12) dX12_mayDrive_12 (by decide) (by first | omega) (by first | omega) (fun c12 => ?_) (fun c12 => ?_)
  · refine pw_iconst (pc := 19) dX12_mayDrive_19 ?_
    exact J20 _ (by rw [Int.add_zero] at c12; first | exact Or.inl ⟨rfl, by omega⟩ | exact Or.inr ⟨rfl, by omega⟩)
  · refine pw_iconst (pc := 15) dX12_mayDrive_15 ?_
    refine pw_goto (t := 20) (pc := 16) dX12_mayDrive_16 (by decide) ?_
    exact J20 _ (by rw [Int.add_zero] at c12; first | exact Or.inl ⟨rfl, by omega⟩ | exact Or.inr ⟨rfl, by omega⟩)

