set_option maxHeartbeats 4000000 in
set_option maxRecDepth 100000 in
theorem c_toffees {G : GT_} (hM : okM_ G) (h : PH_) (hS : 2 ≤ h mRoads 0 ∧ h mRoads 0 ≤ 4) (hR : 0 ≤ h mRoads 2 ∧ h mRoads 2 ≤ h mRoads 0) (hT : 0 ≤ h mRoads 1 ∧ h mRoads 1 ≤ 4) (P : List (Int × Int)) (hw : 0 ≤ h mRoads 5 → law_ (h mOp) (h mArg) (h mRoads 5) P) (t w : Int) (h1 : ir_ t) (h2 : ir_ w) : PC G yX12_toffees cX12_toffees 9 (some .int) 5 [rr_ G mo_, ii_ t, ii_ w] h (qi_ (fun z h' => off_ [mSits, mFacts, mPile, mHas, mPrices, mo_] h h' ∧ (∀ q, q ≠ 0 → h' mo_ q = h mo_ q) ∧ h' mo_ 0 = 0 ∧ z = tof_ (h mRoads) P t w)) := by
  have hWb : ∀ r s : Int, 0 ≤ (fun r s => wv_ (h mRoads) P r s t 0) r s ∧ (fun r s => wv_ (h mRoads) P r s t 0) r s ≤ 999 := fun r s => wv_b _ _ _ _ _ _
  refine PC.of (lv := [some (rr_ G mo_), some (ii_ t), some (ii_ w), none, none, none, none, none, none]) (by decide +kernel) (Nat.le_of_ble_eq_true rfl) rfl rfl ?_
  refine pw_aload_n (z := mo_) (pc := 0) dX12_toffees_0 rfl rfl ?_
  refine pw_iconst (pc := 1) dX12_toffees_1 ?_
  refine pw_pI (x := 0) (pc := 2) dX12_toffees_2 fX12_1 (im_mo_ hM) k_mo_ rfl rfl (by first | omega) ?_
  obtain ⟨g2, e2⟩ : ∃ x, x = up_ h mo_ 0 0 := ⟨_, rfl⟩
  refine pw_heq e2 ?_
  refine pw_aload_n (z := mo_) (pc := 5) dX12_toffees_5 rfl rfl ?_
  refine pw_iload_n (z := t) (pc := 6) dX12_toffees_6 rfl rfl ?_
  have n_g2_mRoads : g2 mRoads = h mRoads := (by rw [e2]; exact up_off (by decide))
  refine pw_callV (c := 12) (o := mo_) (As := [ii_ t]) (rest := []) (pc := 7) dX12_toffees_7 (c_isStretch hM g2 (t) (by first | omega | (simp only [n_g2_mRoads]; omega)) (by first | omega | (simp only [n_g2_mRoads]; omega))) lX12_390 mX12_isStretch vX12_isStretch (im_mo_ hM) k_mo_ rfl rfl rfl (by decide) ⟨Nat.zero_le _, Nat.zero_le _⟩ (Nat.le_of_ble_eq_true rfl) (k_i (fun z7 h7 y7 q7 => ?_))
  obtain ⟨rfl, ⟨rfl, p7⟩ | ⟨rfl, p7⟩⟩ := q7
  · simp -failIfUnchanged only [n_g2_mRoads] at p7
    refine pw_if_eq (t := 38) (pc := 10) dX12_toffees_10 (by decide) (by first | omega | (simp only [n_g2_mRoads]; omega)) (fun c10 => absurd c10 (by decide)) (fun _ => ?_)
    refine pw_aload_n (z := mo_) (pc := 13) dX12_toffees_13 rfl rfl ?_
    refine pw_callV (c := 12) (o := mo_) (As := []) (rest := []) (pc := 14) dX12_toffees_14 (c_riders hM g2) lX12_334 mX12_riders vX12_riders (im_mo_ hM) k_mo_ rfl rfl rfl (by decide) ⟨Nat.zero_le _, Nat.zero_le _⟩ (Nat.le_of_ble_eq_true rfl) (k_i (fun z14 h14 y14 q14 => ?_))
    obtain ⟨rfl, rfl⟩ := q14
    rw [n_g2_mRoads] at y14 ⊢
    refine pw_aload_n (z := mo_) (pc := 17) dX12_toffees_17 rfl rfl ?_
    refine pw_callV (c := 12) (o := mo_) (As := []) (rest := [ii_ (h mRoads 2)]) (pc := 18) dX12_toffees_18 (c_seats hM g2) lX12_331 mX12_seats vX12_seats (im_mo_ hM) k_mo_ rfl rfl rfl (by decide) ⟨Nat.zero_le _, Nat.zero_le _⟩ (Nat.le_of_ble_eq_true rfl) (k_i (fun z18 h18 y18 q18 => ?_))
    obtain ⟨rfl, rfl⟩ := q18
    rw [n_g2_mRoads] at y18 ⊢
    refine pw_icmp_lt (t := 38) (pc := 21) dX12_toffees_21 (by decide) (by first | omega | (simp only [n_g2_mRoads]; omega)) (by first | omega | (simp only [n_g2_mRoads]; omega)) (fun c21 => ?_) (fun c21 => ?_)
    · refine pw_bipush (pc := 38) dX12_toffees_38 rfl ?_
      exact pw_iret (pc := 40) dX12_toffees_40 (by first | omega | (simp only [n_g2_mRoads]; omega)) (by
                first
                | exact ⟨by rw [e2]; exact off_up off_rf (by decide), fun q q0 => by rw [e2, up_at, if_neg q0], by rw [e2, up_same], by unfold tof_; rw [if_f (by omega)]⟩
                | (have kk8 : k = 8 := by omega
                   have am0 : ka mo_ = g2 mo_ := by rw [ka_ mo_ (by decide), df mo_ (by decide), f159 mo_ (by decide), af mo_ (by decide)]
                   refine ⟨off_tr gg (off_tr (off_tr (off_tr (off_mo af (by decide)) (off_mo f159 (by decide))) (off_mo df (by decide))) (off_mo ka_ (by decide))), fun q q0 => by rw [am0, e2, up_at, if_neg q0], by rw [am0, e2, up_same], ?_⟩
                   unfold tof_
                   rw [if_t gd]
                   have ab1 : b = (tbp_ (h mRoads 0) (h mRoads 2) (fun r s => wv_ (h mRoads) P r s t 0) 256).1 := by rw [show (256 : Int).toNat = 256 from rfl] at ab; rw [← ab]
                   rw [← ab1]
                   first
                   | (rw [if_pos (by omega)]; done)
                   | (rw [if_neg (by omega)]
                      have e := (kap w (by omega) (by omega)).1
                      rw [kk8] at e; exact e)))
    · refine pw_iload_n (z := w) (pc := 24) dX12_toffees_24 rfl rfl ?_
      refine pw_iconst (pc := 25) dX12_toffees_25 ?_
      refine pw_aload_n (z := mo_) (pc := 26) dX12_toffees_26 rfl rfl ?_
      refine pw_callV (c := 12) (o := mo_) (As := []) (rest := [ii_ (-1), ii_ w]) (pc := 27) dX12_toffees_27 (c_seats hM g2) lX12_331 mX12_seats vX12_seats (im_mo_ hM) k_mo_ rfl rfl rfl (by decide) ⟨Nat.zero_le _, Nat.zero_le _⟩ (Nat.le_of_ble_eq_true rfl) (k_i (fun z27 h27 y27 q27 => ?_))
      obtain ⟨rfl, rfl⟩ := q27
      rw [n_g2_mRoads] at y27 ⊢
      refine pw_iconst (pc := 30) dX12_toffees_30 ?_
      refine pw_isub (pc := 31) dX12_toffees_31 ?_
      refine pw_callS (As := [ii_ w, ii_ (-1), ii_ ((h mRoads 0) - 1)]) (rest := []) (pc := 32) dX12_toffees_32 (c_within g2 (w) (-1) ((h mRoads 0) - 1) (by first | omega | (simp only [n_g2_mRoads]; omega)) (by first | omega | (simp only [n_g2_mRoads]; omega)) (by first | omega | (simp only [n_g2_mRoads]; omega))) lX12_308 mX12_within sX12_within rfl rfl (by decide) ⟨Nat.zero_le _, Nat.zero_le _⟩ (Nat.le_of_ble_eq_true rfl) (k_i (fun z32 h32 y32 q32 => ?_))
      obtain ⟨rfl, ⟨rfl, p32⟩ | ⟨rfl, p32⟩⟩ := q32
      · simp -failIfUnchanged only [n_g2_mRoads] at p32
        refine pw_if_ne (t := 41) (pc := 35) dX12_toffees_35 (by decide) (by first | omega | (simp only [n_g2_mRoads]; omega)) (fun _ => ?_) (fun c35 => absurd c35 (by decide))
        have gd : (0 ≤ t ∧ t < h mRoads 1) ∧ h mRoads 0 ≤ h mRoads 2 ∧ -1 ≤ w ∧ w ≤ h mRoads 0 - 1 := by omega
        have gg : off_ [mSits, mFacts, mPile, mHas, mPrices, mo_] h g2 := by rw [e2]; exact off_up off_rf (by decide)
        refine pw_iconst (pc := 41) dX12_toffees_41 ?_
        refine pw_istore_n (lv1 := [some (rr_ G mo_), some (ii_ t), some (ii_ w), some (ii_ (-1)), none, none, none, none, none]) (pc := 42) dX12_toffees_42 rfl (by decide) rfl rfl ?_
        refine pw_iconst (pc := 43) dX12_toffees_43 ?_
        refine pw_istore (lv1 := [some (rr_ G mo_), some (ii_ t), some (ii_ w), some (ii_ (-1)), some (ii_ (-1)), none, none, none, none]) (pc := 44) dX12_toffees_44 (by decide) rfl rfl ?_
        refine pw_iconst (pc := 46) dX12_toffees_46 ?_
        refine pw_istore (lv1 := [some (rr_ G mo_), some (ii_ t), some (ii_ w), some (ii_ (-1)), some (ii_ (-1)), some (ii_ 0), none, none, none]) (pc := 47) dX12_toffees_47 (by decide) rfl rfl ?_
        have L49 : ∀ (nn : Nat) (b : Int) (m : Int) (p : Int) (hq : PH_), (0 ≤ p ∧ p ≤ 256) → (off_ [mSits, mFacts, mPile] g2 hq) → ((b, m) = tbp_ (h mRoads 0) (h mRoads 2) (fun r s => wv_ (h mRoads) P r s t 0) p.toNat) → (-1 ≤ b ∧ b ≤ 255 ∧ -1 ≤ m ∧ m ≤ 4000) → ((256 - p + 1 : Int) ≤ nn) → PW G RX12 cX12_toffees 9 (some .int) (rm_ 5) 0 0 (zm_ G (qi_ (fun z h' => off_ [mSits, mFacts, mPile, mHas, mPrices, mo_] h h' ∧ (∀ q, q ≠ 0 → h' mo_ q = h mo_ q) ∧ h' mo_ 0 = 0 ∧ z = tof_ (h mRoads) P t w))) 49 [some (rr_ G mo_), some (ii_ t), some (ii_ w), some (ii_ b), some (ii_ m), some (ii_ p), none, none, none] [] hq := by
          intro nn
          induction nn with
          | zero => intro b m p hq ak af ab am ams; exfalso; omega
          | succ nn ih49 =>
            intro b m p hq ak af ab am ams
            refine pw_iload (z := p) (pc := 49) dX12_toffees_49 rfl ?_
            refine pw_sipush (pc := 51) dX12_toffees_51 rfl ?_
            refine pw_icmp_ge (t := 157) (pc := 54) dX12_toffees_54 (by decide) (by first | omega | (simp only [n_g2_mRoads]; omega)) (by first | omega | (simp only [n_g2_mRoads]; omega)) (fun c54 => ?_) (fun c54 => ?_)
            · have nq : hq mRoads = h mRoads := by rw [af mRoads (by decide), e2, up_off (by decide)]
              have p6 : p = 256 := by omega
              rw [p6] at ab
              have b0 : (0 ≤ b ∧ b < 256) ∧ vp_ok (h mRoads 0) (h mRoads 2) b := by
                obtain ⟨q, q1, q2⟩ := vp_id hS
                rcases tbp_b (S := h mRoads 0) (R := h mRoads 2) (by omega) hWb 256 with u | u
                · exact absurd (by rw [show h mRoads 2 = h mRoads 0 by omega]; exact q2) (u.2 q q1)
                · have u1 := u.1
                  have u2 := u.2.2.1
                  rw [show (256 : Int).toNat = 256 from rfl] at ab
                  rw [← ab] at u1 u2; exact ⟨u1, u2⟩
              have bl : ∀ x, 0 ≤ x → x < h mRoads 2 → dg_ (h mRoads 2) b x < h mRoads 0 := fun x x0 x1 => vp_dg b0.2 ⟨x0, x1⟩
              refine pw_aload_n (z := mo_) (pc := 157) dX12_toffees_157 rfl rfl ?_
              refine pw_iload_n (z := b) (pc := 158) dX12_toffees_158 rfl rfl ?_
              have n_hq_mRoads : hq mRoads = h mRoads := ((show hq mRoads = g2 mRoads from (af mRoads (by decide))).trans (show g2 mRoads = h mRoads from (by rw [e2]; exact up_off (by decide))))
              refine pw_callV (c := 12) (o := mo_) (As := [ii_ b]) (rest := []) (pc := 159) dX12_toffees_159 (c_reads hM hq (by rw [nq]; omega) (by rw [nq]; omega) b (by first | omega | (simp only [n_g2_mRoads, n_hq_mRoads]; omega))) lX12_393 mX12_reads vX12_reads (im_mo_ hM) k_mo_ rfl rfl rfl (by decide) ⟨Nat.zero_le _, Nat.zero_le _⟩ (Nat.le_of_ble_eq_true rfl) (k_i (fun z159 h159 y159 q159 => ?_))
              obtain ⟨f159, d159, w159⟩ := q159
              refine pw_pop (pc := 162) dX12_toffees_162 rfl ?_
              refine pw_iconst (pc := 163) dX12_toffees_163 ?_
              refine pw_istore (lv1 := [some (rr_ G mo_), some (ii_ t), some (ii_ w), some (ii_ b), some (ii_ m), some (ii_ 0), none, none, none]) (pc := 164) dX12_toffees_164 (by decide) rfl rfl ?_
              have L166 : ∀ (nn : Nat) (r : Int) (kd : PH_), (0 ≤ r ∧ r ≤ h mRoads 2) → (off_ [mHas, mPrices] h159 kd) → (∀ x, 0 ≤ x → x < r → kd mHas x = dg_ (h mRoads 2) b x ∧ kd mPrices x = 0) → ((h mRoads 2 - r + 1 : Int) ≤ nn) → PW G RX12 cX12_toffees 9 (some .int) (rm_ 5) 0 0 (zm_ G (qi_ (fun z h' => off_ [mSits, mFacts, mPile, mHas, mPrices, mo_] h h' ∧ (∀ q, q ≠ 0 → h' mo_ q = h mo_ q) ∧ h' mo_ 0 = 0 ∧ z = tof_ (h mRoads) P t w))) 166 [some (rr_ G mo_), some (ii_ t), some (ii_ w), some (ii_ b), some (ii_ m), some (ii_ r), none, none, none] [] kd := by
                intro nn
                induction nn with
                | zero => intro r kd dk df dd ams; exfalso; omega
                | succ nn ih166 =>
                  intro r kd dk df dd ams
                  refine pw_iload (z := r) (pc := 166) dX12_toffees_166 rfl ?_
                  refine pw_aload_n (z := mo_) (pc := 168) dX12_toffees_168 rfl rfl ?_
                  refine pw_callV (c := 12) (o := mo_) (As := []) (rest := [ii_ r]) (pc := 169) dX12_toffees_169 (c_riders hM kd) lX12_334 mX12_riders vX12_riders (im_mo_ hM) k_mo_ rfl rfl rfl (by decide) ⟨Nat.zero_le _, Nat.zero_le _⟩ (Nat.le_of_ble_eq_true rfl) (k_i (fun z169 h169 y169 q169 => ?_))
                  obtain ⟨rfl, rfl⟩ := q169
                  have n_kd_mRoads : kd mRoads = h mRoads := ((((show kd mRoads = h159 mRoads from (df mRoads (by decide))).trans (show h159 mRoads = hq mRoads from (f159 mRoads (by decide)))).trans (show hq mRoads = g2 mRoads from (af mRoads (by decide)))).trans (show g2 mRoads = h mRoads from (by rw [e2]; exact up_off (by decide))))
                  rw [n_kd_mRoads] at y169 ⊢
                  refine pw_icmp_ge (t := 203) (pc := 172) dX12_toffees_172 (by decide) (by first | omega | (simp only [n_g2_mRoads, n_hq_mRoads, n_kd_mRoads]; omega)) (by first | omega | (simp only [n_g2_mRoads, n_hq_mRoads, n_kd_mRoads]; omega)) (fun c172 => ?_) (fun c172 => ?_)
                  · have nd : kd mRoads = h mRoads := by rw [df mRoads (by decide), f159 mRoads (by decide)]; exact nq
                    have dop : kd mOp = h mOp := by rw [df mOp (by decide), f159 mOp (by decide), af mOp (by decide), e2, up_off (by decide)]
                    have dar : kd mArg = h mArg := by rw [df mArg (by decide), f159 mArg (by decide), af mArg (by decide), e2, up_off (by decide)]
                    have dh : ∀ x, 0 ≤ x → x < h mRoads 2 → kd mHas x = dg_ (h mRoads 2) b x := fun x x0 x1 => (dd x x0 (by omega)).1
                    refine pw_iconst (pc := 203) dX12_toffees_203 ?_
                    refine pw_istore (lv1 := [some (rr_ G mo_), some (ii_ t), some (ii_ w), some (ii_ b), some (ii_ m), some (ii_ 0), none, none, none]) (pc := 204) dX12_toffees_204 (by decide) rfl rfl ?_
                    have L206 : ∀ (nn : Nat) (k : Int) (ka : PH_), (0 ≤ k ∧ k ≤ 8) → (off_ [mPrices, mFacts, mPile] kd ka) → (∀ x, 0 ≤ x → x < h mRoads 0 → ka mPrices x = tx3_ (fun r s => wv_ (h mRoads) P r s t 0) (dg_ (h mRoads 2) b) (h mRoads 0).toNat (h mRoads 2).toNat k.toNat (fun _ => 0) x ∧ 0 ≤ ka mPrices x ∧ ka mPrices x ≤ 15984 * k) → ((8 - k + 1 : Int) ≤ nn) → PW G RX12 cX12_toffees 9 (some .int) (rm_ 5) 0 0 (zm_ G (qi_ (fun z h' => off_ [mSits, mFacts, mPile, mHas, mPrices, mo_] h h' ∧ (∀ q, q ≠ 0 → h' mo_ q = h mo_ q) ∧ h' mo_ 0 = 0 ∧ z = tof_ (h mRoads) P t w))) 206 [some (rr_ G mo_), some (ii_ t), some (ii_ w), some (ii_ b), some (ii_ m), some (ii_ k), none, none, none] [] ka := by
                      intro nn
                      induction nn with
                      | zero => intro k ka kk_ ka_ kap ams; exfalso; omega
                      | succ nn ih206 =>
                        intro k ka kk_ ka_ kap ams
                        refine pw_iload (z := k) (pc := 206) dX12_toffees_206 rfl ?_
                        refine pw_bipush (pc := 208) dX12_toffees_208 rfl ?_
                        refine pw_icmp_ge (t := 327) (pc := 210) dX12_toffees_210 (by decide) (by first | omega | (simp only [n_g2_mRoads, n_hq_mRoads, n_kd_mRoads]; omega)) (by first | omega | (simp only [n_g2_mRoads, n_hq_mRoads, n_kd_mRoads]; omega)) (fun c210 => ?_) (fun c210 => ?_)
                        · refine pw_iload_n (z := w) (pc := 327) dX12_toffees_327 rfl rfl ?_
                          refine pw_if_ge (t := 335) (pc := 328) dX12_toffees_328 (by decide) (by first | omega | (simp only [n_g2_mRoads, n_hq_mRoads, n_kd_mRoads]; omega)) (fun c328 => ?_) (fun c328 => ?_)
                          · refine pw_aload_n (z := mo_) (pc := 335) dX12_toffees_335 rfl rfl ?_
                            refine pw_getR (r := mPrices) (pc := 336) dX12_toffees_336 fX12_173 (im_mo_ hM) k_mo_ rfl fr_mPrices ?_
                            refine pw_iload_n (z := w) (pc := 339) dX12_toffees_339 rfl rfl ?_
                            refine pw_iald (pc := 340) dX12_toffees_340 (im_mPrices hM) k_mPrices 4 l_mPrices (by first | omega | (simp only [n_g2_mRoads, n_hq_mRoads, n_kd_mRoads]; omega)) (by first | omega | (simp only [n_g2_mRoads, n_hq_mRoads, n_kd_mRoads]; omega)) (by first | omega | (simp only [n_g2_mRoads, n_hq_mRoads, n_kd_mRoads]; omega)) (fun r340 => ?_)
                            exact pw_iret (pc := 341) dX12_toffees_341 (by first | omega | (simp only [n_g2_mRoads, n_hq_mRoads, n_kd_mRoads]; omega)) (by
                                      first
                                      | exact ⟨by rw [e2]; exact off_up off_rf (by decide), fun q q0 => by rw [e2, up_at, if_neg q0], by rw [e2, up_same], by unfold tof_; rw [if_f (by omega)]⟩
                                      | (have kk8 : k = 8 := by omega
                                         have am0 : ka mo_ = g2 mo_ := by rw [ka_ mo_ (by decide), df mo_ (by decide), f159 mo_ (by decide), af mo_ (by decide)]
                                         refine ⟨off_tr gg (off_tr (off_tr (off_tr (off_mo af (by decide)) (off_mo f159 (by decide))) (off_mo df (by decide))) (off_mo ka_ (by decide))), fun q q0 => by rw [am0, e2, up_at, if_neg q0], by rw [am0, e2, up_same], ?_⟩
                                         unfold tof_
                                         rw [if_t gd]
                                         have ab1 : b = (tbp_ (h mRoads 0) (h mRoads 2) (fun r s => wv_ (h mRoads) P r s t 0) 256).1 := by rw [show (256 : Int).toNat = 256 from rfl] at ab; rw [← ab]
                                         rw [← ab1]
                                         first
                                         | (rw [if_pos (by omega)]; done)
                                         | (rw [if_neg (by omega)]
                                            have e := (kap w (by omega) (by omega)).1
                                            rw [kk8] at e; exact e)))
                          · refine pw_iload_n (z := b) (pc := 331) dX12_toffees_331 rfl rfl ?_
                            refine pw_goto (t := 341) (pc := 332) dX12_toffees_332 (by decide) ?_
                            exact pw_iret (pc := 341) dX12_toffees_341 (by first | omega | (simp only [n_g2_mRoads, n_hq_mRoads, n_kd_mRoads]; omega)) (by
                                      first
                                      | exact ⟨by rw [e2]; exact off_up off_rf (by decide), fun q q0 => by rw [e2, up_at, if_neg q0], by rw [e2, up_same], by unfold tof_; rw [if_f (by omega)]⟩
                                      | (have kk8 : k = 8 := by omega
                                         have am0 : ka mo_ = g2 mo_ := by rw [ka_ mo_ (by decide), df mo_ (by decide), f159 mo_ (by decide), af mo_ (by decide)]
                                         refine ⟨off_tr gg (off_tr (off_tr (off_tr (off_mo af (by decide)) (off_mo f159 (by decide))) (off_mo df (by decide))) (off_mo ka_ (by decide))), fun q q0 => by rw [am0, e2, up_at, if_neg q0], by rw [am0, e2, up_same], ?_⟩
                                         unfold tof_
                                         rw [if_t gd]
                                         have ab1 : b = (tbp_ (h mRoads 0) (h mRoads 2) (fun r s => wv_ (h mRoads) P r s t 0) 256).1 := by rw [show (256 : Int).toNat = 256 from rfl] at ab; rw [← ab]
                                         rw [← ab1]
                                         first
                                         | (rw [if_pos (by omega)]; done)
                                         | (rw [if_neg (by omega)]
                                            have e := (kap w (by omega) (by omega)).1
                                            rw [kk8] at e; exact e)))
                        · refine pw_iconst (pc := 213) dX12_toffees_213 ?_
                          refine pw_istore (lv1 := [some (rr_ G mo_), some (ii_ t), some (ii_ w), some (ii_ b), some (ii_ m), some (ii_ k), some (ii_ 0), none, none]) (pc := 214) dX12_toffees_214 (by decide) rfl rfl ?_
                          have L216 : ∀ (nn : Nat) (r : Int) (kb : PH_), (0 ≤ r ∧ r ≤ h mRoads 2) → (off_ [mPrices, mFacts, mPile] kd kb) → (∀ x, 0 ≤ x → x < h mRoads 0 → kb mPrices x = tx2_ (fun r s => wv_ (h mRoads) P r s t 0) (dg_ (h mRoads 2) b) (h mRoads 0).toNat r.toNat (tx3_ (fun r s => wv_ (h mRoads) P r s t 0) (dg_ (h mRoads 2) b) (h mRoads 0).toNat (h mRoads 2).toNat k.toNat (fun _ => 0)) x ∧ 0 ≤ kb mPrices x ∧ kb mPrices x ≤ 15984 * k + 3996 * r) → ((h mRoads 2 - r + 1 : Int) ≤ nn) → PW G RX12 cX12_toffees 9 (some .int) (rm_ 5) 0 0 (zm_ G (qi_ (fun z h' => off_ [mSits, mFacts, mPile, mHas, mPrices, mo_] h h' ∧ (∀ q, q ≠ 0 → h' mo_ q = h mo_ q) ∧ h' mo_ 0 = 0 ∧ z = tof_ (h mRoads) P t w))) 216 [some (rr_ G mo_), some (ii_ t), some (ii_ w), some (ii_ b), some (ii_ m), some (ii_ k), some (ii_ r), none, none] [] kb := by
                            intro nn
                            induction nn with
                            | zero => intro r kb kr kb_ kbp ams; exfalso; omega
                            | succ nn ih216 =>
                              intro r kb kr kb_ kbp ams
                              refine pw_iload (z := r) (pc := 216) dX12_toffees_216 rfl ?_
                              refine pw_aload_n (z := mo_) (pc := 218) dX12_toffees_218 rfl rfl ?_
                              refine pw_callV (c := 12) (o := mo_) (As := []) (rest := [ii_ r]) (pc := 219) dX12_toffees_219 (c_riders hM kb) lX12_334 mX12_riders vX12_riders (im_mo_ hM) k_mo_ rfl rfl rfl (by decide) ⟨Nat.zero_le _, Nat.zero_le _⟩ (Nat.le_of_ble_eq_true rfl) (k_i (fun z219 h219 y219 q219 => ?_))
                              obtain ⟨rfl, rfl⟩ := q219
                              have n_kb_mRoads : kb mRoads = h mRoads := (((((show kb mRoads = kd mRoads from (kb_ mRoads (by decide))).trans (show kd mRoads = h159 mRoads from (df mRoads (by decide)))).trans (show h159 mRoads = hq mRoads from (f159 mRoads (by decide)))).trans (show hq mRoads = g2 mRoads from (af mRoads (by decide)))).trans (show g2 mRoads = h mRoads from (by rw [e2]; exact up_off (by decide))))
                              rw [n_kb_mRoads] at y219 ⊢
                              refine pw_icmp_ge (t := 321) (pc := 222) dX12_toffees_222 (by decide) (by first | omega | (simp only [n_g2_mRoads, n_hq_mRoads, n_kb_mRoads, n_kd_mRoads]; omega)) (by first | omega | (simp only [n_g2_mRoads, n_hq_mRoads, n_kb_mRoads, n_kd_mRoads]; omega)) (fun c222 => ?_) (fun c222 => ?_)
                              · refine pw_iinc (z := k) (lv1 := [some (rr_ G mo_), some (ii_ t), some (ii_ w), some (ii_ b), some (ii_ m), some (ii_ (k + 1)), some (ii_ r), none, none]) (pc := 321) dX12_toffees_321 rfl (by decide) rfl rfl ?_
                                refine pw_goto (t := 206) (pc := 324) dX12_toffees_324 (by decide) ?_
                                refine pw_less (lv1 := [some (rr_ G mo_), some (ii_ t), some (ii_ w), some (ii_ b), some (ii_ m), some (ii_ (k + 1)), none, none, none]) rfl (by intro i v; (match i with | 0 => simp | 1 => simp | 2 => simp | 3 => simp | 4 => simp | 5 => simp | 6 => simp | 7 => simp | 8 => simp | n + 9 => simp)) ?_
                                exact ih206 _ _ (by omega) (kb_) (fun x x0 x1 => by rw [tx3_s kk_.1]; have e := kbp x x0 x1; rw [show r = h mRoads 2 by omega] at e; exact ⟨e.1, e.2.1, by omega⟩) (by omega)
                              · refine pw_iconst (pc := 225) dX12_toffees_225 ?_
                                refine pw_istore (lv1 := [some (rr_ G mo_), some (ii_ t), some (ii_ w), some (ii_ b), some (ii_ m), some (ii_ k), some (ii_ r), some (ii_ 0), none]) (pc := 226) dX12_toffees_226 (by decide) rfl rfl ?_
                                have L228 : ∀ (nn : Nat) (s : Int) (kk : PH_), (0 ≤ s ∧ s ≤ h mRoads 0) → (off_ [mPrices, mFacts, mPile] kd kk) → (∀ x, 0 ≤ x → x < h mRoads 0 → kk mPrices x = tx1_ (fun r s => wv_ (h mRoads) P r s t 0) (dg_ (h mRoads 2) b) r s.toNat (tx2_ (fun r s => wv_ (h mRoads) P r s t 0) (dg_ (h mRoads 2) b) (h mRoads 0).toNat r.toNat (tx3_ (fun r s => wv_ (h mRoads) P r s t 0) (dg_ (h mRoads 2) b) (h mRoads 0).toNat (h mRoads 2).toNat k.toNat (fun _ => 0))) x ∧ 0 ≤ kk mPrices x ∧ kk mPrices x ≤ 15984 * k + 3996 * r + 999 * s) → ((h mRoads 0 - s + 1 : Int) ≤ nn) → PW G RX12 cX12_toffees 9 (some .int) (rm_ 5) 0 0 (zm_ G (qi_ (fun z h' => off_ [mSits, mFacts, mPile, mHas, mPrices, mo_] h h' ∧ (∀ q, q ≠ 0 → h' mo_ q = h mo_ q) ∧ h' mo_ 0 = 0 ∧ z = tof_ (h mRoads) P t w))) 228 [some (rr_ G mo_), some (ii_ t), some (ii_ w), some (ii_ b), some (ii_ m), some (ii_ k), some (ii_ r), some (ii_ s), none] [] kk := by
                                  intro nn
                                  induction nn with
                                  | zero => intro s kk ks kf kp ams; exfalso; omega
                                  | succ nn ih228 =>
                                    intro s kk ks kf kp ams
                                    refine pw_iload (z := s) (pc := 228) dX12_toffees_228 rfl ?_
                                    refine pw_aload_n (z := mo_) (pc := 230) dX12_toffees_230 rfl rfl ?_
                                    refine pw_callV (c := 12) (o := mo_) (As := []) (rest := [ii_ s]) (pc := 231) dX12_toffees_231 (c_seats hM kk) lX12_331 mX12_seats vX12_seats (im_mo_ hM) k_mo_ rfl rfl rfl (by decide) ⟨Nat.zero_le _, Nat.zero_le _⟩ (Nat.le_of_ble_eq_true rfl) (k_i (fun z231 h231 y231 q231 => ?_))
                                    obtain ⟨rfl, rfl⟩ := q231
                                    have n_kk_mRoads : kk mRoads = h mRoads := (((((show kk mRoads = kd mRoads from (kf mRoads (by decide))).trans (show kd mRoads = h159 mRoads from (df mRoads (by decide)))).trans (show h159 mRoads = hq mRoads from (f159 mRoads (by decide)))).trans (show hq mRoads = g2 mRoads from (af mRoads (by decide)))).trans (show g2 mRoads = h mRoads from (by rw [e2]; exact up_off (by decide))))
                                    rw [n_kk_mRoads] at y231 ⊢
                                    refine pw_icmp_ge (t := 315) (pc := 234) dX12_toffees_234 (by decide) (by first | omega | (simp only [n_g2_mRoads, n_hq_mRoads, n_kb_mRoads, n_kd_mRoads, n_kk_mRoads]; omega)) (by first | omega | (simp only [n_g2_mRoads, n_hq_mRoads, n_kb_mRoads, n_kd_mRoads, n_kk_mRoads]; omega)) (fun c234 => ?_) (fun c234 => ?_)
                                    · refine pw_iinc (z := r) (lv1 := [some (rr_ G mo_), some (ii_ t), some (ii_ w), some (ii_ b), some (ii_ m), some (ii_ k), some (ii_ (r + 1)), some (ii_ s), none]) (pc := 315) dX12_toffees_315 rfl (by decide) rfl rfl ?_
                                      refine pw_goto (t := 216) (pc := 318) dX12_toffees_318 (by decide) ?_
                                      refine pw_less (lv1 := [some (rr_ G mo_), some (ii_ t), some (ii_ w), some (ii_ b), some (ii_ m), some (ii_ k), some (ii_ (r + 1)), none, none]) rfl (by intro i v; (match i with | 0 => simp | 1 => simp | 2 => simp | 3 => simp | 4 => simp | 5 => simp | 6 => simp | 7 => simp | 8 => simp | n + 9 => simp)) ?_
                                      exact ih216 _ _ (by omega) (kf) (fun x x0 x1 => by rw [tx2_s kr.1]; have e := kp x x0 x1; rw [show s = h mRoads 0 by omega] at e; exact ⟨e.1, e.2.1, by omega⟩) (by omega)
                                    · have nk : kk mRoads = h mRoads := by rw [kf mRoads (by decide)]; exact nd
                                      have dhr := dh r (by omega) (by omega)
                                      have dgr := dg_b (h mRoads 2) b r
                                      have dgl : dg_ (h mRoads 2) b r < h mRoads 0 := bl r (by omega) (by omega)
                                      have prr := kp (dg_ (h mRoads 2) b r) (by omega) (by omega)
                                      have prs := kp s (by omega) (by omega)
                                      refine pw_aload_n (z := mo_) (pc := 237) dX12_toffees_237 rfl rfl ?_
                                      refine pw_getR (r := mPrices) (pc := 238) dX12_toffees_238 fX12_173 (im_mo_ hM) k_mo_ rfl fr_mPrices ?_
                                      refine pw_aload_n (z := mo_) (pc := 241) dX12_toffees_241 rfl rfl ?_
                                      refine pw_getR (r := mHas) (pc := 242) dX12_toffees_242 fX12_176 (im_mo_ hM) k_mo_ rfl fr_mHas ?_
                                      refine pw_iload (z := r) (pc := 245) dX12_toffees_245 rfl ?_
                                      refine pw_iald (pc := 247) dX12_toffees_247 (im_mHas hM) k_mHas 4 l_mHas (by first | omega | (simp only [n_g2_mRoads, n_hq_mRoads, n_kb_mRoads, n_kd_mRoads, n_kk_mRoads]; omega)) (by first | omega | (simp only [n_g2_mRoads, n_hq_mRoads, n_kb_mRoads, n_kd_mRoads, n_kk_mRoads]; omega)) (by first | omega | (simp only [n_g2_mRoads, n_hq_mRoads, n_kb_mRoads, n_kd_mRoads, n_kk_mRoads]; omega)) (fun r247 => ?_)
                                      have n_kk_mHas : kk mHas = kd mHas := (kf mHas (by decide))
                                      rw [n_kk_mHas] at r247 ⊢
                                      rw [dhr]
                                      refine pw_iald (pc := 248) dX12_toffees_248 (im_mPrices hM) k_mPrices 4 l_mPrices (by first | omega | (simp only [n_g2_mRoads, n_hq_mRoads, n_kb_mRoads, n_kd_mRoads, n_kk_mHas, n_kk_mRoads]; omega)) (by first | omega | (simp only [n_g2_mRoads, n_hq_mRoads, n_kb_mRoads, n_kd_mRoads, n_kk_mHas, n_kk_mRoads]; omega)) (by first | omega | (simp only [n_g2_mRoads, n_hq_mRoads, n_kb_mRoads, n_kd_mRoads, n_kk_mHas, n_kk_mRoads]; omega)) (fun r248 => ?_)
                                      refine pw_aload_n (z := mo_) (pc := 249) dX12_toffees_249 rfl rfl ?_
                                      refine pw_iload (z := r) (pc := 250) dX12_toffees_250 rfl ?_
                                      refine pw_iload (z := s) (pc := 252) dX12_toffees_252 rfl ?_
                                      refine pw_iload_n (z := t) (pc := 254) dX12_toffees_254 rfl rfl ?_
                                      refine pw_iconst (pc := 255) dX12_toffees_255 ?_
                                      refine pw_callV (c := 12) (o := mo_) (As := [ii_ r, ii_ s, ii_ t, ii_ 0]) (rest := [ii_ (kk mPrices (dg_ (h mRoads 2) b r))]) (pc := 256) dX12_toffees_256 (c_worthOn hM kk (by rw [nk]; omega) (by rw [nk]; omega) P (by rw [nk, kf mOp (by decide), kf mArg (by decide), dop, dar]; exact hw) (r) (s) (t) 0 (by first | omega | (simp only [n_g2_mRoads, n_hq_mRoads, n_kb_mRoads, n_kd_mRoads, n_kk_mHas, n_kk_mRoads]; omega)) (by first | omega | (simp only [n_g2_mRoads, n_hq_mRoads, n_kb_mRoads, n_kd_mRoads, n_kk_mHas, n_kk_mRoads]; omega)) (by first | omega | (simp only [n_g2_mRoads, n_hq_mRoads, n_kb_mRoads, n_kd_mRoads, n_kk_mHas, n_kk_mRoads]; omega)) (by first | omega | (simp only [n_g2_mRoads, n_hq_mRoads, n_kb_mRoads, n_kd_mRoads, n_kk_mHas, n_kk_mRoads]; omega))) lX12_402 mX12_worthOn vX12_worthOn (im_mo_ hM) k_mo_ rfl rfl rfl (by decide) ⟨Nat.zero_le _, Nat.zero_le _⟩ (Nat.le_of_ble_eq_true rfl) (k_i (fun z256 h256 y256 q256 => ?_))
                                      obtain ⟨f256, w256⟩ := q256
                                      rw [nk] at w256
                                      have wb256 := wv_b (h mRoads) P (r) (s) (t) 0
                                      rw [← w256] at wb256
                                      refine pw_iadd (pc := 259) dX12_toffees_259 ?_
                                      refine pw_aload_n (z := mo_) (pc := 260) dX12_toffees_260 rfl rfl ?_
                                      refine pw_iload (z := r) (pc := 261) dX12_toffees_261 rfl ?_
                                      refine pw_aload_n (z := mo_) (pc := 263) dX12_toffees_263 rfl rfl ?_
                                      refine pw_getR (r := mHas) (pc := 264) dX12_toffees_264 fX12_176 (im_mo_ hM) k_mo_ rfl fr_mHas ?_
                                      refine pw_iload (z := r) (pc := 267) dX12_toffees_267 rfl ?_
                                      refine pw_iald (pc := 269) dX12_toffees_269 (im_mHas hM) k_mHas 4 l_mHas (by first | omega | (simp only [n_g2_mRoads, n_hq_mRoads, n_kb_mRoads, n_kd_mRoads, n_kk_mHas, n_kk_mRoads]; omega)) (by first | omega | (simp only [n_g2_mRoads, n_hq_mRoads, n_kb_mRoads, n_kd_mRoads, n_kk_mHas, n_kk_mRoads]; omega)) (by first | omega | (simp only [n_g2_mRoads, n_hq_mRoads, n_kb_mRoads, n_kd_mRoads, n_kk_mHas, n_kk_mRoads]; omega)) (fun r269 => ?_)
                                      have n_h256_mHas : h256 mHas = kd mHas := ((show h256 mHas = kk mHas from (f256 mHas (by decide))).trans (show kk mHas = kd mHas from (kf mHas (by decide))))
                                      rw [n_h256_mHas] at r269 ⊢
                                      rw [dhr]
                                      refine pw_iload_n (z := t) (pc := 270) dX12_toffees_270 rfl rfl ?_
                                      refine pw_iconst (pc := 271) dX12_toffees_271 ?_
                                      have n_h256_mRoads : h256 mRoads = h mRoads := ((((((show h256 mRoads = kk mRoads from (f256 mRoads (by decide))).trans (show kk mRoads = kd mRoads from (kf mRoads (by decide)))).trans (show kd mRoads = h159 mRoads from (df mRoads (by decide)))).trans (show h159 mRoads = hq mRoads from (f159 mRoads (by decide)))).trans (show hq mRoads = g2 mRoads from (af mRoads (by decide)))).trans (show g2 mRoads = h mRoads from (by rw [e2]; exact up_off (by decide))))
                                      refine pw_callV (c := 12) (o := mo_) (As := [ii_ r, ii_ (dg_ (h mRoads 2) b r), ii_ t, ii_ 0]) (rest := [ii_ ((kk mPrices (dg_ (h mRoads 2) b r)) + z256)]) (pc := 272) dX12_toffees_272 (c_worthOn hM h256 (by rw [(show h256 mRoads = h mRoads by rw [f256 mRoads (by decide)]; exact nk)]; omega) (by rw [(show h256 mRoads = h mRoads by rw [f256 mRoads (by decide)]; exact nk)]; omega) P (by rw [(show h256 mRoads = h mRoads by rw [f256 mRoads (by decide)]; exact nk), f256 mOp (by decide), f256 mArg (by decide), kf mOp (by decide), kf mArg (by decide), dop, dar]; exact hw) (r) (dg_ (h mRoads 2) b r) (t) 0 (by first | omega | (simp only [n_g2_mRoads, n_h256_mHas, n_h256_mRoads, n_hq_mRoads, n_kb_mRoads, n_kd_mRoads, n_kk_mHas, n_kk_mRoads]; omega)) (by first | omega | (simp only [n_g2_mRoads, n_h256_mHas, n_h256_mRoads, n_hq_mRoads, n_kb_mRoads, n_kd_mRoads, n_kk_mHas, n_kk_mRoads]; omega)) (by first | omega | (simp only [n_g2_mRoads, n_h256_mHas, n_h256_mRoads, n_hq_mRoads, n_kb_mRoads, n_kd_mRoads, n_kk_mHas, n_kk_mRoads]; omega)) (by first | omega | (simp only [n_g2_mRoads, n_h256_mHas, n_h256_mRoads, n_hq_mRoads, n_kb_mRoads, n_kd_mRoads, n_kk_mHas, n_kk_mRoads]; omega))) lX12_402 mX12_worthOn vX12_worthOn (im_mo_ hM) k_mo_ rfl rfl rfl (by decide) ⟨Nat.zero_le _, Nat.zero_le _⟩ (Nat.le_of_ble_eq_true rfl) (k_i (fun z272 h272 y272 q272 => ?_))
                                      obtain ⟨f272, w272⟩ := q272
                                      rw [(show h256 mRoads = h mRoads by rw [f256 mRoads (by decide)]; exact nk)] at w272
                                      have wb272 := wv_b (h mRoads) P (r) (dg_ (h mRoads 2) b r) (t) 0
                                      rw [← w272] at wb272
                                      refine pw_isub (pc := 275) dX12_toffees_275 ?_
                                      refine pw_istore (lv1 := [some (rr_ G mo_), some (ii_ t), some (ii_ w), some (ii_ b), some (ii_ m), some (ii_ k), some (ii_ r), some (ii_ s), some (ii_ (((kk mPrices (dg_ (h mRoads 2) b r)) + z256) - z272))]) (pc := 276) dX12_toffees_276 (by decide) rfl rfl ?_
                                      refine pw_aload_n (z := mo_) (pc := 278) dX12_toffees_278 rfl rfl ?_
                                      refine pw_getR (r := mPrices) (pc := 279) dX12_toffees_279 fX12_173 (im_mo_ hM) k_mo_ rfl fr_mPrices ?_
                                      refine pw_iload (z := s) (pc := 282) dX12_toffees_282 rfl ?_
                                      have J308 : ∀ (v3 : Int), (v3 = (if kk mPrices s < kk mPrices (dg_ (h mRoads 2) b r) + z256 - z272 then kk mPrices (dg_ (h mRoads 2) b r) + z256 - z272 else kk mPrices s) ∧ 0 ≤ v3 ∧ v3 ≤ 15984 * k + 3996 * r + 999 * s + 999) → PW G RX12 cX12_toffees 9 (some .int) (rm_ 5) 0 0 (zm_ G (qi_ (fun z h' => off_ [mSits, mFacts, mPile, mHas, mPrices, mo_] h h' ∧ (∀ q, q ≠ 0 → h' mo_ q = h mo_ q) ∧ h' mo_ 0 = 0 ∧ z = tof_ (h mRoads) P t w))) 308 [some (rr_ G mo_), some (ii_ t), some (ii_ w), some (ii_ b), some (ii_ m), some (ii_ k), some (ii_ r), some (ii_ s), none] [ii_ v3, ii_ s, rr_ G mPrices] h272 := by
                                        intro v3 hv3
                                        refine pw_iast (pc := 308) dX12_toffees_308 (im_mPrices hM) k_mPrices 4 l_mPrices (by first | omega | (simp only [n_g2_mRoads, n_h256_mHas, n_h256_mRoads, n_hq_mRoads, n_kb_mRoads, n_kd_mRoads, n_kk_mHas, n_kk_mRoads]; omega)) (by first | omega | (simp only [n_g2_mRoads, n_h256_mHas, n_h256_mRoads, n_hq_mRoads, n_kb_mRoads, n_kd_mRoads, n_kk_mHas, n_kk_mRoads]; omega)) (by first | omega | (simp only [n_g2_mRoads, n_h256_mHas, n_h256_mRoads, n_hq_mRoads, n_kb_mRoads, n_kd_mRoads, n_kk_mHas, n_kk_mRoads]; omega)) (by first | omega | (simp only [n_g2_mRoads, n_h256_mHas, n_h256_mRoads, n_hq_mRoads, n_kb_mRoads, n_kd_mRoads, n_kk_mHas, n_kk_mRoads]; omega)) ?_
                                        obtain ⟨g308, e308⟩ : ∃ x, x = up_ h272 mPrices s v3 := ⟨_, rfl⟩
                                        refine pw_heq e308 ?_
                                        refine pw_iinc (z := s) (lv1 := [some (rr_ G mo_), some (ii_ t), some (ii_ w), some (ii_ b), some (ii_ m), some (ii_ k), some (ii_ r), some (ii_ (s + 1)), none]) (pc := 309) dX12_toffees_309 rfl (by decide) rfl rfl ?_
                                        refine pw_goto (t := 228) (pc := 312) dX12_toffees_312 (by decide) ?_
                                        exact ih228 _ _ (by omega) (by rw [e308]; exact off_up (off_tr (off_tr kf (off_mo f256 (by decide))) (off_mo f272 (by decide))) (by decide)) (fun x x0 x1 => by
                                                  rw [e308, up_at, tx1_s ks.1]
                                                  unfold txs_ ob_
                                                  have px := kp x x0 x1
                                                  by_cases c : x = s
                                                  · rw [if_pos c, if_pos c, ← prr.1, ← prs.1]
                                                    show v3 = (if kk mPrices s < kk mPrices (dg_ (h mRoads 2) b r) + wv_ (h mRoads) P r s t 0 - wv_ (h mRoads) P r (dg_ (h mRoads 2) b r) t 0 then kk mPrices (dg_ (h mRoads 2) b r) + wv_ (h mRoads) P r s t 0 - wv_ (h mRoads) P r (dg_ (h mRoads 2) b r) t 0 else kk mPrices s) ∧ 0 ≤ v3 ∧ v3 ≤ 15984 * k + 3996 * r + 999 * (s + 1)
                                                    rw [← w256, ← w272]
                                                    exact ⟨hv3.1, hv3.2.1, by omega⟩
                                                  · rw [if_neg c, if_neg c, f272 mPrices (by decide), f256 mPrices (by decide)]
                                                    exact ⟨px.1, px.2.1, by omega⟩) (by omega)
                                      refine pw_iload (z := ((kk mPrices (dg_ (h mRoads 2) b r)) + z256) - z272) (pc := 284) dX12_toffees_284 rfl ?_
                                      refine pw_aload_n (z := mo_) (pc := 286) dX12_toffees_286 rfl rfl ?_
                                      refine pw_getR (r := mPrices) (pc := 287) dX12_toffees_287 fX12_173 (im_mo_ hM) k_mo_ rfl fr_mPrices ?_
                                      refine pw_iload (z := s) (pc := 290) dX12_toffees_290 rfl ?_
                                      refine pw_iald (pc := 292) dX12_toffees_292 (im_mPrices hM) k_mPrices 4 l_mPrices (by first | omega | (simp only [n_g2_mRoads, n_h256_mHas, n_h256_mRoads, n_hq_mRoads, n_kb_mRoads, n_kd_mRoads, n_kk_mHas, n_kk_mRoads]; omega)) (by first | omega | (simp only [n_g2_mRoads, n_h256_mHas, n_h256_mRoads, n_hq_mRoads, n_kb_mRoads, n_kd_mRoads, n_kk_mHas, n_kk_mRoads]; omega)) (by first | omega | (simp only [n_g2_mRoads, n_h256_mHas, n_h256_mRoads, n_hq_mRoads, n_kb_mRoads, n_kd_mRoads, n_kk_mHas, n_kk_mRoads]; omega)) (fun r292 => ?_)
                                      have n_h272_mPrices : h272 mPrices = kk mPrices := ((show h272 mPrices = h256 mPrices from (f272 mPrices (by decide))).trans (show h256 mPrices = kk mPrices from (f256 mPrices (by decide))))
                                      rw [n_h272_mPrices] at r292 ⊢
                                      refine pw_icmp_le (t := 301) (pc := 293) dX12_toffees_293 (by decide) (by first | omega | (simp only [n_g2_mRoads, n_h256_mHas, n_h256_mRoads, n_h272_mPrices, n_hq_mRoads, n_kb_mRoads, n_kd_mRoads, n_kk_mHas, n_kk_mRoads]; omega)) (by first | omega | (simp only [n_g2_mRoads, n_h256_mHas, n_h256_mRoads, n_h272_mPrices, n_hq_mRoads, n_kb_mRoads, n_kd_mRoads, n_kk_mHas, n_kk_mRoads]; omega)) (fun c293 => ?_) (fun c293 => ?_)
                                      · refine pw_aload_n (z := mo_) (pc := 301) dX12_toffees_301 rfl rfl ?_
                                        refine pw_getR (r := mPrices) (pc := 302) dX12_toffees_302 fX12_173 (im_mo_ hM) k_mo_ rfl fr_mPrices ?_
                                        refine pw_iload (z := s) (pc := 305) dX12_toffees_305 rfl ?_
                                        refine pw_iald (pc := 307) dX12_toffees_307 (im_mPrices hM) k_mPrices 4 l_mPrices (by first | omega | (simp only [n_g2_mRoads, n_h256_mHas, n_h256_mRoads, n_h272_mPrices, n_hq_mRoads, n_kb_mRoads, n_kd_mRoads, n_kk_mHas, n_kk_mRoads]; omega)) (by first | omega | (simp only [n_g2_mRoads, n_h256_mHas, n_h256_mRoads, n_h272_mPrices, n_hq_mRoads, n_kb_mRoads, n_kd_mRoads, n_kk_mHas, n_kk_mRoads]; omega)) (by first | omega | (simp only [n_g2_mRoads, n_h256_mHas, n_h256_mRoads, n_h272_mPrices, n_hq_mRoads, n_kb_mRoads, n_kd_mRoads, n_kk_mHas, n_kk_mRoads]; omega)) (fun r307 => ?_)
                                        rw [n_h272_mPrices] at r307 ⊢
                                        refine pw_less (lv1 := [some (rr_ G mo_), some (ii_ t), some (ii_ w), some (ii_ b), some (ii_ m), some (ii_ k), some (ii_ r), some (ii_ s), none]) rfl (by intro i v; (match i with | 0 => simp | 1 => simp | 2 => simp | 3 => simp | 4 => simp | 5 => simp | 6 => simp | 7 => simp | 8 => simp | n + 9 => simp)) ?_
                                        exact J308 _ (by first | (rw [if_pos (by omega)]; exact ⟨rfl, by omega, by omega⟩) | (rw [if_neg (by omega)]; exact ⟨rfl, by omega, by omega⟩))
                                      · refine pw_iload (z := ((kk mPrices (dg_ (h mRoads 2) b r)) + z256) - z272) (pc := 296) dX12_toffees_296 rfl ?_
                                        refine pw_goto (t := 308) (pc := 298) dX12_toffees_298 (by decide) ?_
                                        refine pw_less (lv1 := [some (rr_ G mo_), some (ii_ t), some (ii_ w), some (ii_ b), some (ii_ m), some (ii_ k), some (ii_ r), some (ii_ s), none]) rfl (by intro i v; (match i with | 0 => simp | 1 => simp | 2 => simp | 3 => simp | 4 => simp | 5 => simp | 6 => simp | 7 => simp | 8 => simp | n + 9 => simp)) ?_
                                        exact J308 _ (by first | (rw [if_pos (by omega)]; exact ⟨rfl, by omega, by omega⟩) | (rw [if_neg (by omega)]; exact ⟨rfl, by omega, by omega⟩))
                                exact L228 _ _ _ (by omega) (kb_) (fun x x0 x1 => by have e := kbp x x0 x1; exact ⟨e.1, e.2.1, by omega⟩) (Int.self_le_toNat _)
                          exact L216 _ _ _ (by omega) (ka_) (fun x x0 x1 => by have e := kap x x0 x1; exact ⟨e.1, e.2.1, by omega⟩) (Int.self_le_toNat _)
                    exact L206 _ _ _ (by omega) (off_rf) (fun x x0 x1 => by rw [(dd x x0 (by omega)).2]; exact ⟨rfl, by omega, by omega⟩) (Int.self_le_toNat _)
                  · have nd : kd mRoads = h mRoads := by rw [df mRoads (by decide), f159 mRoads (by decide)]; exact nq
                    have dgq : h159 mSits r = dg_ (h mRoads 2) b r := by rw [d159 (by omega) r (by omega) (by rw [nq]; omega), nq]
                    refine pw_aload_n (z := mo_) (pc := 175) dX12_toffees_175 rfl rfl ?_
                    refine pw_getR (r := mHas) (pc := 176) dX12_toffees_176 fX12_176 (im_mo_ hM) k_mo_ rfl fr_mHas ?_
                    refine pw_iload (z := r) (pc := 179) dX12_toffees_179 rfl ?_
                    refine pw_aload_n (z := mo_) (pc := 181) dX12_toffees_181 rfl rfl ?_
                    refine pw_getR (r := mSits) (pc := 182) dX12_toffees_182 fX12_137 (im_mo_ hM) k_mo_ rfl fr_mSits ?_
                    refine pw_iload (z := r) (pc := 185) dX12_toffees_185 rfl ?_
                    refine pw_iald (pc := 187) dX12_toffees_187 (im_mSits hM) k_mSits 4 l_mSits (by first | omega | (simp only [n_g2_mRoads, n_hq_mRoads, n_kd_mRoads]; omega)) (by first | omega | (simp only [n_g2_mRoads, n_hq_mRoads, n_kd_mRoads]; omega)) (by first | omega | (simp only [n_g2_mRoads, n_hq_mRoads, n_kd_mRoads]; omega)) (fun r187 => ?_)
                    have n_kd_mSits : kd mSits = h159 mSits := (df mSits (by decide))
                    rw [n_kd_mSits] at r187 ⊢
                    refine pw_iast (pc := 188) dX12_toffees_188 (im_mHas hM) k_mHas 4 l_mHas (by first | omega | (simp only [n_g2_mRoads, n_hq_mRoads, n_kd_mRoads, n_kd_mSits]; omega)) (by first | omega | (simp only [n_g2_mRoads, n_hq_mRoads, n_kd_mRoads, n_kd_mSits]; omega)) (by first | omega | (simp only [n_g2_mRoads, n_hq_mRoads, n_kd_mRoads, n_kd_mSits]; omega)) (by first | omega | (simp only [n_g2_mRoads, n_hq_mRoads, n_kd_mRoads, n_kd_mSits]; omega)) ?_
                    obtain ⟨g188, e188⟩ : ∃ x, x = up_ kd mHas r (h159 mSits r) := ⟨_, rfl⟩
                    refine pw_heq e188 ?_
                    refine pw_aload_n (z := mo_) (pc := 189) dX12_toffees_189 rfl rfl ?_
                    refine pw_getR (r := mPrices) (pc := 190) dX12_toffees_190 fX12_173 (im_mo_ hM) k_mo_ rfl fr_mPrices ?_
                    refine pw_iload (z := r) (pc := 193) dX12_toffees_193 rfl ?_
                    refine pw_iconst (pc := 195) dX12_toffees_195 ?_
                    refine pw_iast (pc := 196) dX12_toffees_196 (im_mPrices hM) k_mPrices 4 l_mPrices (by first | omega | (simp only [n_g2_mRoads, n_hq_mRoads, n_kd_mRoads, n_kd_mSits]; omega)) (by first | omega | (simp only [n_g2_mRoads, n_hq_mRoads, n_kd_mRoads, n_kd_mSits]; omega)) (by first | omega | (simp only [n_g2_mRoads, n_hq_mRoads, n_kd_mRoads, n_kd_mSits]; omega)) (by first | omega | (simp only [n_g2_mRoads, n_hq_mRoads, n_kd_mRoads, n_kd_mSits]; omega)) ?_
                    obtain ⟨g196, e196⟩ : ∃ x, x = up_ g188 mPrices r 0 := ⟨_, rfl⟩
                    refine pw_heq e196 ?_
                    refine pw_iinc (z := r) (lv1 := [some (rr_ G mo_), some (ii_ t), some (ii_ w), some (ii_ b), some (ii_ m), some (ii_ (r + 1)), none, none, none]) (pc := 197) dX12_toffees_197 rfl (by decide) rfl rfl ?_
                    refine pw_goto (t := 166) (pc := 200) dX12_toffees_200 (by decide) ?_
                    exact ih166 _ _ (by omega) (by rw [e196, e188]; exact off_up (off_up df (by decide)) (by decide)) (fun x x0 x1 => by
                              rw [e196, up_off (by decide), up_at, e188, up_at, up_off (by decide)]
                              by_cases c : x = r
                              · rw [if_pos c, if_pos c, c]; exact ⟨dgq, rfl⟩
                              · rw [if_neg c, if_neg c]; exact dd x x0 (by omega)) (by omega)
              exact L166 _ _ _ (by omega) (off_rf) (fun x _ _ => by omega) (Int.self_le_toNat _)
            · have nq : hq mRoads = h mRoads := by rw [af mRoads (by decide), e2, up_off (by decide)]
              refine pw_aload_n (z := mo_) (pc := 57) dX12_toffees_57 rfl rfl ?_
              refine pw_iload (z := p) (pc := 58) dX12_toffees_58 rfl ?_
              have n_hq_mRoads : hq mRoads = h mRoads := ((show hq mRoads = g2 mRoads from (af mRoads (by decide))).trans (show g2 mRoads = h mRoads from (by rw [e2]; exact up_off (by decide))))
              refine pw_callV (c := 12) (o := mo_) (As := [ii_ p]) (rest := []) (pc := 60) dX12_toffees_60 (c_reads hM hq (by rw [nq]; omega) (by rw [nq]; omega) p (by first | omega | (simp only [n_g2_mRoads, n_hq_mRoads]; omega))) lX12_393 mX12_reads vX12_reads (im_mo_ hM) k_mo_ rfl rfl rfl (by decide) ⟨Nat.zero_le _, Nat.zero_le _⟩ (Nat.le_of_ble_eq_true rfl) (k_i (fun z60 h60 y60 q60 => ?_))
              obtain ⟨f60, d60, w60⟩ := q60
              rw [nq] at w60
              have z60r := dj_r w60
              refine pw_istore (lv1 := [some (rr_ G mo_), some (ii_ t), some (ii_ w), some (ii_ b), some (ii_ m), some (ii_ p), some (ii_ z60), none, none]) (pc := 63) dX12_toffees_63 (by decide) rfl rfl ?_
              refine pw_iconst (pc := 65) dX12_toffees_65 ?_
              refine pw_istore (lv1 := [some (rr_ G mo_), some (ii_ t), some (ii_ w), some (ii_ b), some (ii_ m), some (ii_ p), some (ii_ z60), some (ii_ 0), none]) (pc := 66) dX12_toffees_66 (by decide) rfl rfl ?_
              refine pw_iconst (pc := 68) dX12_toffees_68 ?_
              refine pw_istore (lv1 := [some (rr_ G mo_), some (ii_ t), some (ii_ w), some (ii_ b), some (ii_ m), some (ii_ p), some (ii_ z60), some (ii_ 0), some (ii_ 0)]) (pc := 69) dX12_toffees_69 (by decide) rfl rfl ?_
              have L71 : ∀ (nn : Nat) (n : Int) (r : Int) (kc : PH_), (0 ≤ r ∧ r ≤ h mRoads 2) → (off_ [mFacts, mPile] h60 kc) → (z60 = 1 → n = tsm_ (fun r s => wv_ (h mRoads) P r s t 0) (h mRoads 2) p r.toNat) → (0 ≤ n ∧ n ≤ 999 * r) → ((h mRoads 2 - r + 1 : Int) ≤ nn) → PW G RX12 cX12_toffees 9 (some .int) (rm_ 5) 0 0 (zm_ G (qi_ (fun z h' => off_ [mSits, mFacts, mPile, mHas, mPrices, mo_] h h' ∧ (∀ q, q ≠ 0 → h' mo_ q = h mo_ q) ∧ h' mo_ 0 = 0 ∧ z = tof_ (h mRoads) P t w))) 71 [some (rr_ G mo_), some (ii_ t), some (ii_ w), some (ii_ b), some (ii_ m), some (ii_ p), some (ii_ z60), some (ii_ n), some (ii_ r)] [] kc := by
                intro nn
                induction nn with
                | zero => intro n r kc ck cf cn cb ams; exfalso; omega
                | succ nn ih71 =>
                  intro n r kc ck cf cn cb ams
                  refine pw_iload (z := r) (pc := 71) dX12_toffees_71 rfl ?_
                  refine pw_aload_n (z := mo_) (pc := 73) dX12_toffees_73 rfl rfl ?_
                  refine pw_callV (c := 12) (o := mo_) (As := []) (rest := [ii_ r]) (pc := 74) dX12_toffees_74 (c_riders hM kc) lX12_334 mX12_riders vX12_riders (im_mo_ hM) k_mo_ rfl rfl rfl (by decide) ⟨Nat.zero_le _, Nat.zero_le _⟩ (Nat.le_of_ble_eq_true rfl) (k_i (fun z74 h74 y74 q74 => ?_))
                  obtain ⟨rfl, rfl⟩ := q74
                  have n_kc_mRoads : kc mRoads = h mRoads := ((((show kc mRoads = h60 mRoads from (cf mRoads (by decide))).trans (show h60 mRoads = hq mRoads from (f60 mRoads (by decide)))).trans (show hq mRoads = g2 mRoads from (af mRoads (by decide)))).trans (show g2 mRoads = h mRoads from (by rw [e2]; exact up_off (by decide))))
                  rw [n_kc_mRoads] at y74 ⊢
                  refine pw_icmp_ge (t := 111) (pc := 77) dX12_toffees_77 (by decide) (by first | omega | (simp only [n_g2_mRoads, n_hq_mRoads, n_kc_mRoads]; omega)) (by first | omega | (simp only [n_g2_mRoads, n_hq_mRoads, n_kc_mRoads]; omega)) (fun c77 => ?_) (fun c77 => ?_)
                  · have rr : z60 = 1 → r = h mRoads 2 := fun _ => by omega
                    have J129 : ∀ (v : Int), (v = (if z60 = 1 ∧ m < n then p else b)) → PW G RX12 cX12_toffees 9 (some .int) (rm_ 5) 0 0 (zm_ G (qi_ (fun z h' => off_ [mSits, mFacts, mPile, mHas, mPrices, mo_] h h' ∧ (∀ q, q ≠ 0 → h' mo_ q = h mo_ q) ∧ h' mo_ 0 = 0 ∧ z = tof_ (h mRoads) P t w))) 129 [some (rr_ G mo_), some (ii_ t), some (ii_ w), some (ii_ b), some (ii_ m), some (ii_ p), some (ii_ z60), some (ii_ n), none] [ii_ v] kc := by
                      intro v hv1
                      refine pw_istore_n (lv1 := [some (rr_ G mo_), some (ii_ t), some (ii_ w), some (ii_ v), some (ii_ m), some (ii_ p), some (ii_ z60), some (ii_ n), none]) (pc := 129) dX12_toffees_129 rfl (by decide) rfl rfl ?_
                      have J149 : ∀ (v2 : Int), (v2 = (if z60 = 1 ∧ m < n then n else m)) → PW G RX12 cX12_toffees 9 (some .int) (rm_ 5) 0 0 (zm_ G (qi_ (fun z h' => off_ [mSits, mFacts, mPile, mHas, mPrices, mo_] h h' ∧ (∀ q, q ≠ 0 → h' mo_ q = h mo_ q) ∧ h' mo_ 0 = 0 ∧ z = tof_ (h mRoads) P t w))) 149 [some (rr_ G mo_), some (ii_ t), some (ii_ w), some (ii_ v), some (ii_ m), some (ii_ p), some (ii_ z60), some (ii_ n), none] [ii_ v2] kc := by
                        intro v2 hv2
                        refine pw_istore (lv1 := [some (rr_ G mo_), some (ii_ t), some (ii_ w), some (ii_ v), some (ii_ v2), some (ii_ p), some (ii_ z60), some (ii_ n), none]) (pc := 149) dX12_toffees_149 (by decide) rfl rfl ?_
                        refine pw_iinc (z := p) (lv1 := [some (rr_ G mo_), some (ii_ t), some (ii_ w), some (ii_ v), some (ii_ v2), some (ii_ (p + 1)), some (ii_ z60), some (ii_ n), none]) (pc := 151) dX12_toffees_151 rfl (by decide) rfl rfl ?_
                        refine pw_goto (t := 49) (pc := 154) dX12_toffees_154 (by decide) ?_
                        refine pw_less (lv1 := [some (rr_ G mo_), some (ii_ t), some (ii_ w), some (ii_ v), some (ii_ v2), some (ii_ (p + 1)), none, none, none]) rfl (by intro i v; (match i with | 0 => simp | 1 => simp | 2 => simp | 3 => simp | 4 => simp | 5 => simp | 6 => simp | 7 => simp | 8 => simp | n + 9 => simp)) ?_
                        exact ih49 _ _ _ _ (by omega) (off_tr (off_tr af (off_mo f60 (by decide))) (off_mo cf (by decide))) (by
                                  rw [tbp_s ak.1, ← ab]
                                  rcases w60 with u | u
                                  · have rr1 := rr u.1
                                    have cn1 := (cn u.1)
                                    rw [rr1] at cn1
                                    by_cases c : m < n
                                    · rw [hv1, hv2, if_pos ⟨u.1, c⟩, if_pos ⟨u.1, c⟩, if_t ⟨u.2, by rw [← cn1]; exact c⟩, ← cn1]
                                    · rw [hv1, hv2, if_neg (fun e => c e.2), if_neg (fun e => c e.2), if_f (fun e => c (by rw [cn1]; exact e.2))]
                                  · rw [hv1, hv2, if_neg (fun e => by omega), if_neg (fun e => by omega), if_f (fun e => u.2 e.1)]) (by have e1 := hv1; have e2 := hv2; split at e1 <;> split at e2 <;> omega) (by omega)
                      refine pw_iload (z := z60) (pc := 130) dX12_toffees_130 rfl ?_
                      refine pw_if_eq (t := 147) (pc := 132) dX12_toffees_132 (by decide) (by first | omega | (simp only [n_g2_mRoads, n_hq_mRoads, n_kc_mRoads]; omega)) (fun c132 => ?_) (fun c132 => ?_)
                      · refine pw_iload (z := m) (pc := 147) dX12_toffees_147 rfl ?_
                        exact J149 _ (by first | (rw [if_pos (by omega)]; done) | (rw [if_neg (by omega)]; done))
                      · refine pw_iload (z := n) (pc := 135) dX12_toffees_135 rfl ?_
                        refine pw_iload (z := m) (pc := 137) dX12_toffees_137 rfl ?_
                        refine pw_icmp_le (t := 147) (pc := 139) dX12_toffees_139 (by decide) (by first | omega | (simp only [n_g2_mRoads, n_hq_mRoads, n_kc_mRoads]; omega)) (by first | omega | (simp only [n_g2_mRoads, n_hq_mRoads, n_kc_mRoads]; omega)) (fun c139 => ?_) (fun c139 => ?_)
                        · refine pw_iload (z := m) (pc := 147) dX12_toffees_147 rfl ?_
                          exact J149 _ (by first | (rw [if_pos (by omega)]; done) | (rw [if_neg (by omega)]; done))
                        · refine pw_iload (z := n) (pc := 142) dX12_toffees_142 rfl ?_
                          refine pw_goto (t := 149) (pc := 144) dX12_toffees_144 (by decide) ?_
                          exact J149 _ (by first | (rw [if_pos (by omega)]; done) | (rw [if_neg (by omega)]; done))
                    refine pw_iload (z := z60) (pc := 111) dX12_toffees_111 rfl ?_
                    refine pw_if_eq (t := 128) (pc := 113) dX12_toffees_113 (by decide) (by first | omega | (simp only [n_g2_mRoads, n_hq_mRoads, n_kc_mRoads]; omega)) (fun c113 => ?_) (fun c113 => ?_)
                    · refine pw_iload_n (z := b) (pc := 128) dX12_toffees_128 rfl rfl ?_
                      refine pw_less (lv1 := [some (rr_ G mo_), some (ii_ t), some (ii_ w), some (ii_ b), some (ii_ m), some (ii_ p), some (ii_ z60), some (ii_ n), none]) rfl (by intro i v; (match i with | 0 => simp | 1 => simp | 2 => simp | 3 => simp | 4 => simp | 5 => simp | 6 => simp | 7 => simp | 8 => simp | n + 9 => simp)) ?_
                      exact J129 _ (by first | (rw [if_pos (by omega)]; done) | (rw [if_neg (by omega)]; done))
                    · refine pw_iload (z := n) (pc := 116) dX12_toffees_116 rfl ?_
                      refine pw_iload (z := m) (pc := 118) dX12_toffees_118 rfl ?_
                      refine pw_icmp_le (t := 128) (pc := 120) dX12_toffees_120 (by decide) (by first | omega | (simp only [n_g2_mRoads, n_hq_mRoads, n_kc_mRoads]; omega)) (by first | omega | (simp only [n_g2_mRoads, n_hq_mRoads, n_kc_mRoads]; omega)) (fun c120 => ?_) (fun c120 => ?_)
                      · refine pw_iload_n (z := b) (pc := 128) dX12_toffees_128 rfl rfl ?_
                        refine pw_less (lv1 := [some (rr_ G mo_), some (ii_ t), some (ii_ w), some (ii_ b), some (ii_ m), some (ii_ p), some (ii_ z60), some (ii_ n), none]) rfl (by intro i v; (match i with | 0 => simp | 1 => simp | 2 => simp | 3 => simp | 4 => simp | 5 => simp | 6 => simp | 7 => simp | 8 => simp | n + 9 => simp)) ?_
                        exact J129 _ (by first | (rw [if_pos (by omega)]; done) | (rw [if_neg (by omega)]; done))
                      · refine pw_iload (z := p) (pc := 123) dX12_toffees_123 rfl ?_
                        refine pw_goto (t := 129) (pc := 125) dX12_toffees_125 (by decide) ?_
                        refine pw_less (lv1 := [some (rr_ G mo_), some (ii_ t), some (ii_ w), some (ii_ b), some (ii_ m), some (ii_ p), some (ii_ z60), some (ii_ n), none]) rfl (by intro i v; (match i with | 0 => simp | 1 => simp | 2 => simp | 3 => simp | 4 => simp | 5 => simp | 6 => simp | 7 => simp | 8 => simp | n + 9 => simp)) ?_
                        exact J129 _ (by first | (rw [if_pos (by omega)]; done) | (rw [if_neg (by omega)]; done))
                  · refine pw_iload (z := z60) (pc := 80) dX12_toffees_80 rfl ?_
                    refine pw_if_eq (t := 111) (pc := 82) dX12_toffees_82 (by decide) (by first | omega | (simp only [n_g2_mRoads, n_hq_mRoads, n_kc_mRoads]; omega)) (fun c82 => ?_) (fun c82 => ?_)
                    · have rr : z60 = 1 → r = h mRoads 2 := fun _ => by omega
                      have J129 : ∀ (v : Int), (v = (if z60 = 1 ∧ m < n then p else b)) → PW G RX12 cX12_toffees 9 (some .int) (rm_ 5) 0 0 (zm_ G (qi_ (fun z h' => off_ [mSits, mFacts, mPile, mHas, mPrices, mo_] h h' ∧ (∀ q, q ≠ 0 → h' mo_ q = h mo_ q) ∧ h' mo_ 0 = 0 ∧ z = tof_ (h mRoads) P t w))) 129 [some (rr_ G mo_), some (ii_ t), some (ii_ w), some (ii_ b), some (ii_ m), some (ii_ p), some (ii_ z60), some (ii_ n), none] [ii_ v] kc := by
                        intro v hv1
                        refine pw_istore_n (lv1 := [some (rr_ G mo_), some (ii_ t), some (ii_ w), some (ii_ v), some (ii_ m), some (ii_ p), some (ii_ z60), some (ii_ n), none]) (pc := 129) dX12_toffees_129 rfl (by decide) rfl rfl ?_
                        have J149 : ∀ (v2 : Int), (v2 = (if z60 = 1 ∧ m < n then n else m)) → PW G RX12 cX12_toffees 9 (some .int) (rm_ 5) 0 0 (zm_ G (qi_ (fun z h' => off_ [mSits, mFacts, mPile, mHas, mPrices, mo_] h h' ∧ (∀ q, q ≠ 0 → h' mo_ q = h mo_ q) ∧ h' mo_ 0 = 0 ∧ z = tof_ (h mRoads) P t w))) 149 [some (rr_ G mo_), some (ii_ t), some (ii_ w), some (ii_ v), some (ii_ m), some (ii_ p), some (ii_ z60), some (ii_ n), none] [ii_ v2] kc := by
                          intro v2 hv2
                          refine pw_istore (lv1 := [some (rr_ G mo_), some (ii_ t), some (ii_ w), some (ii_ v), some (ii_ v2), some (ii_ p), some (ii_ z60), some (ii_ n), none]) (pc := 149) dX12_toffees_149 (by decide) rfl rfl ?_
                          refine pw_iinc (z := p) (lv1 := [some (rr_ G mo_), some (ii_ t), some (ii_ w), some (ii_ v), some (ii_ v2), some (ii_ (p + 1)), some (ii_ z60), some (ii_ n), none]) (pc := 151) dX12_toffees_151 rfl (by decide) rfl rfl ?_
                          refine pw_goto (t := 49) (pc := 154) dX12_toffees_154 (by decide) ?_
                          refine pw_less (lv1 := [some (rr_ G mo_), some (ii_ t), some (ii_ w), some (ii_ v), some (ii_ v2), some (ii_ (p + 1)), none, none, none]) rfl (by intro i v; (match i with | 0 => simp | 1 => simp | 2 => simp | 3 => simp | 4 => simp | 5 => simp | 6 => simp | 7 => simp | 8 => simp | n + 9 => simp)) ?_
                          exact ih49 _ _ _ _ (by omega) (off_tr (off_tr af (off_mo f60 (by decide))) (off_mo cf (by decide))) (by
                                    rw [tbp_s ak.1, ← ab]
                                    rcases w60 with u | u
                                    · have rr1 := rr u.1
                                      have cn1 := (cn u.1)
                                      rw [rr1] at cn1
                                      by_cases c : m < n
                                      · rw [hv1, hv2, if_pos ⟨u.1, c⟩, if_pos ⟨u.1, c⟩, if_t ⟨u.2, by rw [← cn1]; exact c⟩, ← cn1]
                                      · rw [hv1, hv2, if_neg (fun e => c e.2), if_neg (fun e => c e.2), if_f (fun e => c (by rw [cn1]; exact e.2))]
                                    · rw [hv1, hv2, if_neg (fun e => by omega), if_neg (fun e => by omega), if_f (fun e => u.2 e.1)]) (by have e1 := hv1; have e2 := hv2; split at e1 <;> split at e2 <;> omega) (by omega)
                        refine pw_iload (z := z60) (pc := 130) dX12_toffees_130 rfl ?_
                        refine pw_if_eq (t := 147) (pc := 132) dX12_toffees_132 (by decide) (by first | omega | (simp only [n_g2_mRoads, n_hq_mRoads, n_kc_mRoads]; omega)) (fun c132 => ?_) (fun c132 => ?_)
                        · refine pw_iload (z := m) (pc := 147) dX12_toffees_147 rfl ?_
                          exact J149 _ (by first | (rw [if_pos (by omega)]; done) | (rw [if_neg (by omega)]; done))
                        · refine pw_iload (z := n) (pc := 135) dX12_toffees_135 rfl ?_
                          refine pw_iload (z := m) (pc := 137) dX12_toffees_137 rfl ?_
                          refine pw_icmp_le (t := 147) (pc := 139) dX12_toffees_139 (by decide) (by first | omega | (simp only [n_g2_mRoads, n_hq_mRoads, n_kc_mRoads]; omega)) (by first | omega | (simp only [n_g2_mRoads, n_hq_mRoads, n_kc_mRoads]; omega)) (fun c139 => ?_) (fun c139 => ?_)
                          · refine pw_iload (z := m) (pc := 147) dX12_toffees_147 rfl ?_
                            exact J149 _ (by first | (rw [if_pos (by omega)]; done) | (rw [if_neg (by omega)]; done))
                          · refine pw_iload (z := n) (pc := 142) dX12_toffees_142 rfl ?_
                            refine pw_goto (t := 149) (pc := 144) dX12_toffees_144 (by decide) ?_
                            exact J149 _ (by first | (rw [if_pos (by omega)]; done) | (rw [if_neg (by omega)]; done))
                      refine pw_iload (z := z60) (pc := 111) dX12_toffees_111 rfl ?_
                      refine pw_if_eq (t := 128) (pc := 113) dX12_toffees_113 (by decide) (by first | omega | (simp only [n_g2_mRoads, n_hq_mRoads, n_kc_mRoads]; omega)) (fun c113 => ?_) (fun c113 => ?_)
                      · refine pw_iload_n (z := b) (pc := 128) dX12_toffees_128 rfl rfl ?_
                        refine pw_less (lv1 := [some (rr_ G mo_), some (ii_ t), some (ii_ w), some (ii_ b), some (ii_ m), some (ii_ p), some (ii_ z60), some (ii_ n), none]) rfl (by intro i v; (match i with | 0 => simp | 1 => simp | 2 => simp | 3 => simp | 4 => simp | 5 => simp | 6 => simp | 7 => simp | 8 => simp | n + 9 => simp)) ?_
                        exact J129 _ (by first | (rw [if_pos (by omega)]; done) | (rw [if_neg (by omega)]; done))
                      · refine pw_iload (z := n) (pc := 116) dX12_toffees_116 rfl ?_
                        refine pw_iload (z := m) (pc := 118) dX12_toffees_118 rfl ?_
                        refine pw_icmp_le (t := 128) (pc := 120) dX12_toffees_120 (by decide) (by first | omega | (simp only [n_g2_mRoads, n_hq_mRoads, n_kc_mRoads]; omega)) (by first | omega | (simp only [n_g2_mRoads, n_hq_mRoads, n_kc_mRoads]; omega)) (fun c120 => ?_) (fun c120 => ?_)
                        · refine pw_iload_n (z := b) (pc := 128) dX12_toffees_128 rfl rfl ?_
                          refine pw_less (lv1 := [some (rr_ G mo_), some (ii_ t), some (ii_ w), some (ii_ b), some (ii_ m), some (ii_ p), some (ii_ z60), some (ii_ n), none]) rfl (by intro i v; (match i with | 0 => simp | 1 => simp | 2 => simp | 3 => simp | 4 => simp | 5 => simp | 6 => simp | 7 => simp | 8 => simp | n + 9 => simp)) ?_
                          exact J129 _ (by first | (rw [if_pos (by omega)]; done) | (rw [if_neg (by omega)]; done))
                        · refine pw_iload (z := p) (pc := 123) dX12_toffees_123 rfl ?_
                          refine pw_goto (t := 129) (pc := 125) dX12_toffees_125 (by decide) ?_
                          refine pw_less (lv1 := [some (rr_ G mo_), some (ii_ t), some (ii_ w), some (ii_ b), some (ii_ m), some (ii_ p), some (ii_ z60), some (ii_ n), none]) rfl (by intro i v; (match i with | 0 => simp | 1 => simp | 2 => simp | 3 => simp | 4 => simp | 5 => simp | 6 => simp | 7 => simp | 8 => simp | n + 9 => simp)) ?_
                          exact J129 _ (by first | (rw [if_pos (by omega)]; done) | (rw [if_neg (by omega)]; done))
                    · have nc : kc mRoads = h mRoads := by rw [cf mRoads (by decide), f60 mRoads (by decide)]; exact nq
                      have dgr := dg_b (h mRoads 2) p r
                      have dgq : h60 mSits r = dg_ (h mRoads 2) p r := by rw [d60 (by omega) r (by omega) (by rw [nq]; omega), nq]
                      have z1 : z60 = 1 := by omega
                      refine pw_iload (z := n) (pc := 85) dX12_toffees_85 rfl ?_
                      refine pw_aload_n (z := mo_) (pc := 87) dX12_toffees_87 rfl rfl ?_
                      refine pw_iload (z := r) (pc := 88) dX12_toffees_88 rfl ?_
                      refine pw_aload_n (z := mo_) (pc := 90) dX12_toffees_90 rfl rfl ?_
                      refine pw_getR (r := mSits) (pc := 91) dX12_toffees_91 fX12_137 (im_mo_ hM) k_mo_ rfl fr_mSits ?_
                      refine pw_iload (z := r) (pc := 94) dX12_toffees_94 rfl ?_
                      refine pw_iald (pc := 96) dX12_toffees_96 (im_mSits hM) k_mSits 4 l_mSits (by first | omega | (simp only [n_g2_mRoads, n_hq_mRoads, n_kc_mRoads]; omega)) (by first | omega | (simp only [n_g2_mRoads, n_hq_mRoads, n_kc_mRoads]; omega)) (by first | omega | (simp only [n_g2_mRoads, n_hq_mRoads, n_kc_mRoads]; omega)) (fun r96 => ?_)
                      have n_kc_mSits : kc mSits = h60 mSits := (cf mSits (by decide))
                      rw [n_kc_mSits] at r96 ⊢
                      rw [dgq]
                      refine pw_iload_n (z := t) (pc := 97) dX12_toffees_97 rfl rfl ?_
                      refine pw_iconst (pc := 98) dX12_toffees_98 ?_
                      refine pw_callV (c := 12) (o := mo_) (As := [ii_ r, ii_ (dg_ (h mRoads 2) p r), ii_ t, ii_ 0]) (rest := [ii_ n]) (pc := 99) dX12_toffees_99 (c_worthOn hM kc (by rw [nc]; omega) (by rw [nc]; omega) P (by rw [nc, cf mOp (by decide), cf mArg (by decide), f60 mOp (by decide), f60 mArg (by decide), af mOp (by decide), af mArg (by decide), e2, up_off (by decide), up_off (by decide)]; exact hw) (r) (dg_ (h mRoads 2) p r) (t) 0 (by first | omega | (simp only [n_g2_mRoads, n_hq_mRoads, n_kc_mRoads, n_kc_mSits]; omega)) (by first | omega | (simp only [n_g2_mRoads, n_hq_mRoads, n_kc_mRoads, n_kc_mSits]; omega)) (by first | omega | (simp only [n_g2_mRoads, n_hq_mRoads, n_kc_mRoads, n_kc_mSits]; omega)) (by first | omega | (simp only [n_g2_mRoads, n_hq_mRoads, n_kc_mRoads, n_kc_mSits]; omega))) lX12_402 mX12_worthOn vX12_worthOn (im_mo_ hM) k_mo_ rfl rfl rfl (by decide) ⟨Nat.zero_le _, Nat.zero_le _⟩ (Nat.le_of_ble_eq_true rfl) (k_i (fun z99 h99 y99 q99 => ?_))
                      obtain ⟨f99, w99⟩ := q99
                      rw [nc] at w99
                      have wb99 := wv_b (h mRoads) P (r) (dg_ (h mRoads 2) p r) (t) 0
                      rw [← w99] at wb99
                      refine pw_iadd (pc := 102) dX12_toffees_102 ?_
                      refine pw_istore (lv1 := [some (rr_ G mo_), some (ii_ t), some (ii_ w), some (ii_ b), some (ii_ m), some (ii_ p), some (ii_ z60), some (ii_ (n + z99)), some (ii_ r)]) (pc := 103) dX12_toffees_103 (by decide) rfl rfl ?_
                      refine pw_iinc (z := r) (lv1 := [some (rr_ G mo_), some (ii_ t), some (ii_ w), some (ii_ b), some (ii_ m), some (ii_ p), some (ii_ z60), some (ii_ (n + z99)), some (ii_ (r + 1))]) (pc := 105) dX12_toffees_105 rfl (by decide) rfl rfl ?_
                      refine pw_goto (t := 71) (pc := 108) dX12_toffees_108 (by decide) ?_
                      exact ih71 _ _ _ (by omega) (off_tr cf f99) (fun _ => by rw [tsm_s ck.1, ← cn z1, w99]) (by omega) (by omega)
              exact L71 _ _ _ _ (by omega) (off_rf) (fun _ => rfl) (by omega) (Int.self_le_toNat _)
        exact L49 _ _ _ _ _ (by omega) (off_rf) (rfl) (by omega) (Int.self_le_toNat _)
      · simp -failIfUnchanged only [n_g2_mRoads] at p32
        refine pw_if_ne (t := 41) (pc := 35) dX12_toffees_35 (by decide) (by first | omega | (simp only [n_g2_mRoads]; omega)) (fun c35 => absurd c35 (by decide)) (fun _ => ?_)
        refine pw_bipush (pc := 38) dX12_toffees_38 rfl ?_
        exact pw_iret (pc := 40) dX12_toffees_40 (by first | omega | (simp only [n_g2_mRoads]; omega)) (by
                  first
                  | exact ⟨by rw [e2]; exact off_up off_rf (by decide), fun q q0 => by rw [e2, up_at, if_neg q0], by rw [e2, up_same], by unfold tof_; rw [if_f (by omega)]⟩
                  | (have kk8 : k = 8 := by omega
                     have am0 : ka mo_ = g2 mo_ := by rw [ka_ mo_ (by decide), df mo_ (by decide), f159 mo_ (by decide), af mo_ (by decide)]
                     refine ⟨off_tr gg (off_tr (off_tr (off_tr (off_mo af (by decide)) (off_mo f159 (by decide))) (off_mo df (by decide))) (off_mo ka_ (by decide))), fun q q0 => by rw [am0, e2, up_at, if_neg q0], by rw [am0, e2, up_same], ?_⟩
                     unfold tof_
                     rw [if_t gd]
                     have ab1 : b = (tbp_ (h mRoads 0) (h mRoads 2) (fun r s => wv_ (h mRoads) P r s t 0) 256).1 := by rw [show (256 : Int).toNat = 256 from rfl] at ab; rw [← ab]
                     rw [← ab1]
                     first
                     | (rw [if_pos (by omega)]; done)
                     | (rw [if_neg (by omega)]
                        have e := (kap w (by omega) (by omega)).1
                        rw [kk8] at e; exact e)))
  · simp -failIfUnchanged only [n_g2_mRoads] at p7
    refine pw_if_eq (t := 38) (pc := 10) dX12_toffees_10 (by decide) (by first | omega | (simp only [n_g2_mRoads]; omega)) (fun _ => ?_) (fun c10 => absurd c10 (by decide))
    refine pw_bipush (pc := 38) dX12_toffees_38 rfl ?_
    exact pw_iret (pc := 40) dX12_toffees_40 (by first | omega | (simp only [n_g2_mRoads]; omega)) (by
              first
              | exact ⟨by rw [e2]; exact off_up off_rf (by decide), fun q q0 => by rw [e2, up_at, if_neg q0], by rw [e2, up_same], by unfold tof_; rw [if_f (by omega)]⟩
              | (have kk8 : k = 8 := by omega
                 have am0 : ka mo_ = g2 mo_ := by rw [ka_ mo_ (by decide), df mo_ (by decide), f159 mo_ (by decide), af mo_ (by decide)]
                 refine ⟨off_tr gg (off_tr (off_tr (off_tr (off_mo af (by decide)) (off_mo f159 (by decide))) (off_mo df (by decide))) (off_mo ka_ (by decide))), fun q q0 => by rw [am0, e2, up_at, if_neg q0], by rw [am0, e2, up_same], ?_⟩
                 unfold tof_
                 rw [if_t gd]
                 have ab1 : b = (tbp_ (h mRoads 0) (h mRoads 2) (fun r s => wv_ (h mRoads) P r s t 0) 256).1 := by rw [show (256 : Int).toNat = 256 from rfl] at ab; rw [← ab]
                 rw [← ab1]
                 first
                 | (rw [if_pos (by omega)]; done)
                 | (rw [if_neg (by omega)]
                    have e := (kap w (by omega) (by omega)).1
                    rw [kk8] at e; exact e)))

