set_option maxHeartbeats 4000000 in
set_option maxRecDepth 100000 in
theorem c_isAsSeen {G : GT_} (hM : okM_ G) (h : PH_) (hS : 2 ≤ h mRoads 0 ∧ h mRoads 0 ≤ 4) (hR : 0 ≤ h mRoads 2 ∧ h mRoads 2 ≤ h mRoads 0) (hm : 0 ≤ h mState 30 ∧ h mState 30 ≤ 12) (hk : ∀ k, 0 ≤ k → k < h mState 30 → 0 ≤ h mState (31 + 4 * k) ∧ h mState (31 + 4 * k) < h mRoads 2) (p t : Int) (hp : 0 ≤ p ∧ p ≤ 255) (ht : ir_ t) : PC G yX12_isAsSeen cX12_isAsSeen 6 (some .boolean) 3 [rr_ G mo_, ii_ p, ii_ t] h (qi_ (fun z h' => off_ [mSits] h h' ∧ (z = 1 ∧ sen_ (h mState) (dg_ (h mRoads 2) p) t (h mState 30).toNat ∨ z = 0 ∧ ¬ sen_ (h mState) (dg_ (h mRoads 2) p) t (h mState 30).toNat))) := by
  refine PC.of (lv := [some (rr_ G mo_), some (ii_ p), some (ii_ t), none, none, none]) (by decide +kernel) (Nat.le_of_ble_eq_true rfl) rfl rfl ?_
  refine pw_aload_n (z := mo_) (pc := 0) dX12_isAsSeen_0 rfl rfl ?_
  refine pw_iload_n (z := p) (pc := 1) dX12_isAsSeen_1 rfl rfl ?_
  refine pw_callV (c := 12) (o := mo_) (As := [ii_ p]) (rest := []) (pc := 2) dX12_isAsSeen_2 (c_reads hM h (by first | omega) (by first | omega) p (by first | omega)) lX12_393 mX12_reads vX12_reads (im_mo_ hM) k_mo_ rfl rfl rfl (by decide) ⟨Nat.zero_le _, Nat.zero_le _⟩ (Nat.le_of_ble_eq_true rfl) (k_i (fun z2 h2 y2 q2 => ?_))
  obtain ⟨f2, d2, w2⟩ := q2
  have n6 : h2 mRoads = h mRoads := f2 mRoads (by decide)
  refine pw_pop (pc := 5) dX12_isAsSeen_5 rfl ?_
  refine pw_iconst (pc := 6) dX12_isAsSeen_6 ?_
  refine pw_istore_n (lv1 := [some (rr_ G mo_), some (ii_ p), some (ii_ t), some (ii_ 1), none, none]) (pc := 7) dX12_isAsSeen_7 rfl (by decide) rfl rfl ?_
  refine pw_iconst (pc := 8) dX12_isAsSeen_8 ?_
  refine pw_istore (lv1 := [some (rr_ G mo_), some (ii_ p), some (ii_ t), some (ii_ 1), some (ii_ 0), none]) (pc := 9) dX12_isAsSeen_9 (by decide) rfl rfl ?_
  have L11 : ∀ (nn : Nat) (e : Int) (k : Int), (0 ≤ k ∧ k ≤ h mState 30) → (e = 1 ∧ (sen_ (h mState) (dg_ (h mRoads 2) p) t k.toNat) ∨ e = 0 ∧ ¬ (sen_ (h mState) (dg_ (h mRoads 2) p) t k.toNat)) → ((h mState 30 - k + 1 : Int) ≤ nn) → PW G RX12 cX12_isAsSeen 6 (some .boolean) (rm_ 3) 0 0 (zm_ G (qi_ (fun z h' => off_ [mSits] h h' ∧ (z = 1 ∧ sen_ (h mState) (dg_ (h mRoads 2) p) t (h mState 30).toNat ∨ z = 0 ∧ ¬ sen_ (h mState) (dg_ (h mRoads 2) p) t (h mState 30).toNat)))) 11 [some (rr_ G mo_), some (ii_ p), some (ii_ t), some (ii_ e), some (ii_ k), none] [] h2 := by
    intro nn
    induction nn with
    | zero => intro e k ak ai ams; exfalso; omega
    | succ nn ih11 =>
      intro e k ak ai ams
      refine pw_iload (z := k) (pc := 11) dX12_isAsSeen_11 rfl ?_
      refine pw_aload_n (z := mo_) (pc := 13) dX12_isAsSeen_13 rfl rfl ?_
      refine pw_getR (r := mState) (pc := 14) dX12_isAsSeen_14 fX12_130 (im_mo_ hM) k_mo_ rfl fr_mState ?_
      refine pw_bipush (pc := 17) dX12_isAsSeen_17 rfl ?_
      refine pw_iald (pc := 19) dX12_isAsSeen_19 (im_mState hM) k_mState 1760 l_mState (by first | omega) (by first | omega) (by first | omega) (fun r19 => ?_)
      have n_h2_mState : h2 mState = h mState := (f2 mState (by decide))
      rw [n_h2_mState] at r19 ⊢
      refine pw_icmp_ge (t := 111) (pc := 20) dX12_isAsSeen_20 (by decide) (by first | omega | (simp only [n_h2_mState]; omega)) (by first | omega | (simp only [n_h2_mState]; omega)) (fun c20 => ?_) (fun c20 => ?_)
      · refine pw_iload_n (z := e) (pc := 111) dX12_isAsSeen_111 rfl rfl ?_
        exact pw_zret (pc := 112) dX12_isAsSeen_112 (by first | omega | (simp only [n_h2_mState]; omega)) (⟨f2, by rw [show h mState 30 = k by omega]; exact ai⟩)
      · have hkk := hk k ak.1 (by omega)
        have sd : h2 mSits (h mState (31 + 4 * k)) = dg_ (h mRoads 2) p (h mState (31 + 4 * k)) := d2 hp.1 _ hkk.1 hkk.2
        refine pw_bipush (pc := 23) dX12_isAsSeen_23 rfl ?_
        refine pw_iconst (pc := 25) dX12_isAsSeen_25 ?_
        refine pw_iload (z := k) (pc := 26) dX12_isAsSeen_26 rfl ?_
        refine pw_imul (pc := 28) dX12_isAsSeen_28 ?_
        refine pw_iadd (pc := 29) dX12_isAsSeen_29 ?_
        refine pw_istore (lv1 := [some (rr_ G mo_), some (ii_ p), some (ii_ t), some (ii_ e), some (ii_ k), some (ii_ (31 + (4 * k)))]) (pc := 30) dX12_isAsSeen_30 (by decide) rfl rfl ?_
        have J104 : ∀ (v : Int), (v = 1 ∧ (sen_ (h mState) (dg_ (h mRoads 2) p) t (k + 1).toNat) ∨ v = 0 ∧ ¬ (sen_ (h mState) (dg_ (h mRoads 2) p) t (k + 1).toNat)) → PW G RX12 cX12_isAsSeen 6 (some .boolean) (rm_ 3) 0 0 (zm_ G (qi_ (fun z h' => off_ [mSits] h h' ∧ (z = 1 ∧ sen_ (h mState) (dg_ (h mRoads 2) p) t (h mState 30).toNat ∨ z = 0 ∧ ¬ sen_ (h mState) (dg_ (h mRoads 2) p) t (h mState 30).toNat)))) 104 [some (rr_ G mo_), some (ii_ p), some (ii_ t), some (ii_ e), some (ii_ k), some (ii_ (31 + (4 * k)))] [ii_ v] h2 := by
          intro v hv
          refine pw_istore_n (lv1 := [some (rr_ G mo_), some (ii_ p), some (ii_ t), some (ii_ v), some (ii_ k), some (ii_ (31 + (4 * k)))]) (pc := 104) dX12_isAsSeen_104 rfl (by decide) rfl rfl ?_
          refine pw_iinc (z := k) (lv1 := [some (rr_ G mo_), some (ii_ p), some (ii_ t), some (ii_ v), some (ii_ (k + 1)), some (ii_ (31 + (4 * k)))]) (pc := 105) dX12_isAsSeen_105 rfl (by decide) rfl rfl ?_
          refine pw_goto (t := 11) (pc := 108) dX12_isAsSeen_108 (by decide) ?_
          refine pw_less (lv1 := [some (rr_ G mo_), some (ii_ p), some (ii_ t), some (ii_ v), some (ii_ (k + 1)), none]) rfl (by intro i v; (match i with | 0 => simp | 1 => simp | 2 => simp | 3 => simp | 4 => simp | 5 => simp | n + 6 => simp)) ?_
          exact ih11 _ _ (by omega) (hv) (by omega)
        refine pw_iload_n (z := e) (pc := 32) dX12_isAsSeen_32 rfl rfl ?_
        refine pw_if_eq (t := 103) (pc := 33) dX12_isAsSeen_33 (by decide) (by first | omega | (simp only [n_h2_mState]; omega)) (fun c33 => ?_) (fun c33 => ?_)
        · refine pw_iconst (pc := 103) dX12_isAsSeen_103 ?_
          exact J104 _ (by
                   first
                   | exact Or.inr ⟨rfl, fun c => dj_0 ai c33 ((sen_s ak.1).1 c).1⟩
                   | exact Or.inl ⟨rfl, (sen_s ak.1).2 ⟨dj_1 ai c33, Or.inl (by omega)⟩⟩
                   | exact Or.inl ⟨rfl, (sen_s ak.1).2 ⟨dj_1 ai c33, Or.inr (by rw [← sd]; omega)⟩⟩
                   | exact Or.inr ⟨rfl, fun c => by have c9 := ((sen_s ak.1).1 c).2; rw [← sd] at c9; omega⟩)
        · refine pw_aload_n (z := mo_) (pc := 36) dX12_isAsSeen_36 rfl rfl ?_
          refine pw_getR (r := mState) (pc := 37) dX12_isAsSeen_37 fX12_130 (im_mo_ hM) k_mo_ rfl fr_mState ?_
          refine pw_iload (z := 31 + (4 * k)) (pc := 40) dX12_isAsSeen_40 rfl ?_
          refine pw_iconst (pc := 42) dX12_isAsSeen_42 ?_
          refine pw_iadd (pc := 43) dX12_isAsSeen_43 ?_
          refine pw_iald (pc := 44) dX12_isAsSeen_44 (im_mState hM) k_mState 1760 l_mState (by first | omega | (simp only [n_h2_mState]; omega)) (by first | omega | (simp only [n_h2_mState]; omega)) (by first | omega | (simp only [n_h2_mState]; omega)) (fun r44 => ?_)
          rw [n_h2_mState] at r44 ⊢
          refine pw_iload_n (z := t) (pc := 45) dX12_isAsSeen_45 rfl rfl ?_
          refine pw_icmp_ne (t := 99) (pc := 46) dX12_isAsSeen_46 (by decide) (by first | omega | (simp only [n_h2_mState]; omega)) (by first | omega | (simp only [n_h2_mState]; omega)) (fun c46 => ?_) (fun c46 => ?_)
          · refine pw_iconst (pc := 99) dX12_isAsSeen_99 ?_
            refine pw_goto (t := 104) (pc := 100) dX12_isAsSeen_100 (by decide) ?_
            exact J104 _ (by
                     first
                     | exact Or.inr ⟨rfl, fun c => dj_0 ai c33 ((sen_s ak.1).1 c).1⟩
                     | exact Or.inl ⟨rfl, (sen_s ak.1).2 ⟨dj_1 ai c33, Or.inl (by omega)⟩⟩
                     | exact Or.inl ⟨rfl, (sen_s ak.1).2 ⟨dj_1 ai c33, Or.inr (by rw [← sd]; omega)⟩⟩
                     | exact Or.inr ⟨rfl, fun c => by have c9 := ((sen_s ak.1).1 c).2; rw [← sd] at c9; omega⟩)
          · refine pw_aload_n (z := mo_) (pc := 49) dX12_isAsSeen_49 rfl rfl ?_
            refine pw_getR (r := mSits) (pc := 50) dX12_isAsSeen_50 fX12_137 (im_mo_ hM) k_mo_ rfl fr_mSits ?_
            refine pw_aload_n (z := mo_) (pc := 53) dX12_isAsSeen_53 rfl rfl ?_
            refine pw_getR (r := mState) (pc := 54) dX12_isAsSeen_54 fX12_130 (im_mo_ hM) k_mo_ rfl fr_mState ?_
            refine pw_iload (z := 31 + (4 * k)) (pc := 57) dX12_isAsSeen_57 rfl ?_
            refine pw_iald (pc := 59) dX12_isAsSeen_59 (im_mState hM) k_mState 1760 l_mState (by first | omega | (simp only [n_h2_mState]; omega)) (by first | omega | (simp only [n_h2_mState]; omega)) (by first | omega | (simp only [n_h2_mState]; omega)) (fun r59 => ?_)
            rw [n_h2_mState] at r59 ⊢
            refine pw_iald (pc := 60) dX12_isAsSeen_60 (im_mSits hM) k_mSits 4 l_mSits (by first | omega | (simp only [n_h2_mState]; omega)) (by first | omega | (simp only [n_h2_mState]; omega)) (by first | omega | (simp only [n_h2_mState]; omega)) (fun r60 => ?_)
            refine pw_aload_n (z := mo_) (pc := 61) dX12_isAsSeen_61 rfl rfl ?_
            refine pw_getR (r := mState) (pc := 62) dX12_isAsSeen_62 fX12_130 (im_mo_ hM) k_mo_ rfl fr_mState ?_
            refine pw_iload (z := 31 + (4 * k)) (pc := 65) dX12_isAsSeen_65 rfl ?_
            refine pw_iconst (pc := 67) dX12_isAsSeen_67 ?_
            refine pw_iadd (pc := 68) dX12_isAsSeen_68 ?_
            refine pw_iald (pc := 69) dX12_isAsSeen_69 (im_mState hM) k_mState 1760 l_mState (by first | omega | (simp only [n_h2_mState]; omega)) (by first | omega | (simp only [n_h2_mState]; omega)) (by first | omega | (simp only [n_h2_mState]; omega)) (fun r69 => ?_)
            rw [n_h2_mState] at r69 ⊢
            refine pw_icmp_ne (t := 77) (pc := 70) dX12_isAsSeen_70 (by decide) (by first | omega | (simp only [n_h2_mState]; omega)) (by first | omega | (simp only [n_h2_mState]; omega)) (fun c70 => ?_) (fun c70 => ?_)
            · refine pw_iconst (pc := 77) dX12_isAsSeen_77 ?_
              refine pw_aload_n (z := mo_) (pc := 78) dX12_isAsSeen_78 rfl rfl ?_
              refine pw_getR (r := mState) (pc := 79) dX12_isAsSeen_79 fX12_130 (im_mo_ hM) k_mo_ rfl fr_mState ?_
              refine pw_iload (z := 31 + (4 * k)) (pc := 82) dX12_isAsSeen_82 rfl ?_
              refine pw_iconst (pc := 84) dX12_isAsSeen_84 ?_
              refine pw_iadd (pc := 85) dX12_isAsSeen_85 ?_
              refine pw_iald (pc := 86) dX12_isAsSeen_86 (im_mState hM) k_mState 1760 l_mState (by first | omega | (simp only [n_h2_mState]; omega)) (by first | omega | (simp only [n_h2_mState]; omega)) (by first | omega | (simp only [n_h2_mState]; omega)) (fun r86 => ?_)
              rw [n_h2_mState] at r86 ⊢
              refine pw_iconst (pc := 87) dX12_isAsSeen_87 ?_
              refine pw_icmp_ne (t := 95) (pc := 88) dX12_isAsSeen_88 (by decide) (by first | omega | (simp only [n_h2_mState]; omega)) (by first | omega | (simp only [n_h2_mState]; omega)) (fun c88 => ?_) (fun c88 => ?_)
              · refine pw_iconst (pc := 95) dX12_isAsSeen_95 ?_
                refine pw_icmp_ne (t := 103) (pc := 96) dX12_isAsSeen_96 (by decide) (by first | omega | (simp only [n_h2_mState]; omega)) (by first | omega | (simp only [n_h2_mState]; omega)) (fun c96 => absurd c96 (by decide)) (fun _ => ?_)
                refine pw_iconst (pc := 99) dX12_isAsSeen_99 ?_
                refine pw_goto (t := 104) (pc := 100) dX12_isAsSeen_100 (by decide) ?_
                exact J104 _ (by
                         first
                         | exact Or.inr ⟨rfl, fun c => dj_0 ai c33 ((sen_s ak.1).1 c).1⟩
                         | exact Or.inl ⟨rfl, (sen_s ak.1).2 ⟨dj_1 ai c33, Or.inl (by omega)⟩⟩
                         | exact Or.inl ⟨rfl, (sen_s ak.1).2 ⟨dj_1 ai c33, Or.inr (by rw [← sd]; omega)⟩⟩
                         | exact Or.inr ⟨rfl, fun c => by have c9 := ((sen_s ak.1).1 c).2; rw [← sd] at c9; omega⟩)
              · refine pw_iconst (pc := 91) dX12_isAsSeen_91 ?_
                refine pw_goto (t := 96) (pc := 92) dX12_isAsSeen_92 (by decide) ?_
                refine pw_icmp_ne (t := 103) (pc := 96) dX12_isAsSeen_96 (by decide) (by first | omega | (simp only [n_h2_mState]; omega)) (by first | omega | (simp only [n_h2_mState]; omega)) (fun _ => ?_) (fun c96 => absurd c96 (by decide))
                refine pw_iconst (pc := 103) dX12_isAsSeen_103 ?_
                exact J104 _ (by
                         first
                         | exact Or.inr ⟨rfl, fun c => dj_0 ai c33 ((sen_s ak.1).1 c).1⟩
                         | exact Or.inl ⟨rfl, (sen_s ak.1).2 ⟨dj_1 ai c33, Or.inl (by omega)⟩⟩
                         | exact Or.inl ⟨rfl, (sen_s ak.1).2 ⟨dj_1 ai c33, Or.inr (by rw [← sd]; omega)⟩⟩
                         | exact Or.inr ⟨rfl, fun c => by have c9 := ((sen_s ak.1).1 c).2; rw [← sd] at c9; omega⟩)
            · refine pw_iconst (pc := 73) dX12_isAsSeen_73 ?_
              refine pw_goto (t := 78) (pc := 74) dX12_isAsSeen_74 (by decide) ?_
              refine pw_aload_n (z := mo_) (pc := 78) dX12_isAsSeen_78 rfl rfl ?_
              refine pw_getR (r := mState) (pc := 79) dX12_isAsSeen_79 fX12_130 (im_mo_ hM) k_mo_ rfl fr_mState ?_
              refine pw_iload (z := 31 + (4 * k)) (pc := 82) dX12_isAsSeen_82 rfl ?_
              refine pw_iconst (pc := 84) dX12_isAsSeen_84 ?_
              refine pw_iadd (pc := 85) dX12_isAsSeen_85 ?_
              refine pw_iald (pc := 86) dX12_isAsSeen_86 (im_mState hM) k_mState 1760 l_mState (by first | omega | (simp only [n_h2_mState]; omega)) (by first | omega | (simp only [n_h2_mState]; omega)) (by first | omega | (simp only [n_h2_mState]; omega)) (fun r86 => ?_)
              rw [n_h2_mState] at r86 ⊢
              refine pw_iconst (pc := 87) dX12_isAsSeen_87 ?_
              refine pw_icmp_ne (t := 95) (pc := 88) dX12_isAsSeen_88 (by decide) (by first | omega | (simp only [n_h2_mState]; omega)) (by first | omega | (simp only [n_h2_mState]; omega)) (fun c88 => ?_) (fun c88 => ?_)
              · refine pw_iconst (pc := 95) dX12_isAsSeen_95 ?_
                refine pw_icmp_ne (t := 103) (pc := 96) dX12_isAsSeen_96 (by decide) (by first | omega | (simp only [n_h2_mState]; omega)) (by first | omega | (simp only [n_h2_mState]; omega)) (fun _ => ?_) (fun c96 => absurd c96 (by decide))
                refine pw_iconst (pc := 103) dX12_isAsSeen_103 ?_
                exact J104 _ (by
                         first
                         | exact Or.inr ⟨rfl, fun c => dj_0 ai c33 ((sen_s ak.1).1 c).1⟩
                         | exact Or.inl ⟨rfl, (sen_s ak.1).2 ⟨dj_1 ai c33, Or.inl (by omega)⟩⟩
                         | exact Or.inl ⟨rfl, (sen_s ak.1).2 ⟨dj_1 ai c33, Or.inr (by rw [← sd]; omega)⟩⟩
                         | exact Or.inr ⟨rfl, fun c => by have c9 := ((sen_s ak.1).1 c).2; rw [← sd] at c9; omega⟩)
              · refine pw_iconst (pc := 91) dX12_isAsSeen_91 ?_
                refine pw_goto (t := 96) (pc := 92) dX12_isAsSeen_92 (by decide) ?_
                refine pw_icmp_ne (t := 103) (pc := 96) dX12_isAsSeen_96 (by decide) (by first | omega | (simp only [n_h2_mState]; omega)) (by first | omega | (simp only [n_h2_mState]; omega)) (fun c96 => absurd c96 (by decide)) (fun _ => ?_)
                refine pw_iconst (pc := 99) dX12_isAsSeen_99 ?_
                refine pw_goto (t := 104) (pc := 100) dX12_isAsSeen_100 (by decide) ?_
                exact J104 _ (by
                         first
                         | exact Or.inr ⟨rfl, fun c => dj_0 ai c33 ((sen_s ak.1).1 c).1⟩
                         | exact Or.inl ⟨rfl, (sen_s ak.1).2 ⟨dj_1 ai c33, Or.inl (by omega)⟩⟩
                         | exact Or.inl ⟨rfl, (sen_s ak.1).2 ⟨dj_1 ai c33, Or.inr (by rw [← sd]; omega)⟩⟩
                         | exact Or.inr ⟨rfl, fun c => by have c9 := ((sen_s ak.1).1 c).2; rw [← sd] at c9; omega⟩)
  exact L11 _ _ _ (by omega) (Or.inl ⟨rfl, trivial⟩) (Int.self_le_toNat _)

