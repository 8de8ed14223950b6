set_option maxHeartbeats 4000000 in
set_option maxRecDepth 100000 in
theorem c_judged {G : GT_} (hM : okM_ G) (h : PH_) (hS : 2 ≤ h mRoads 0 ∧ h mRoads 0 ≤ 4) (hR : 0 ≤ h mRoads 2 ∧ h mRoads 2 ≤ h mRoads 0) (hT : 0 ≤ h mRoads 1 ∧ h mRoads 1 ≤ 4) (h4 : 0 ≤ h mRoads 4 ∧ h mRoads 4 ≤ 99) (hpa : ∀ r, 0 ≤ r → r < 4 → 0 ≤ h mRoads (31 + 4 * r + 2) ∧ h mRoads (31 + 4 * r + 2) ≤ 9999) (P : List (Int × Int)) (hw : 0 ≤ h mRoads 5 → law_ (h mOp) (h mArg) (h mRoads 5) P) (hl : (0 ≤ h mLines 0 ∧ h mLines 0 ≤ 20) ∧ ∀ k, 0 ≤ k → k < h mLines 0 → 0 ≤ h mLines (1 + 2 * k) → h mLines (1 + 2 * k) < h mRoads 2 ∧ 0 ≤ h mLines (2 + 2 * k) ∧ h mLines (2 + 2 * k) ≤ 3) (q : Int) (h1 : ir_ q) : PC G yX12_judged cX12_judged 4 (some .int) 6 [rr_ G mo_, ii_ q] h (qi_ (fun z h' => off_ [mState, mo_, mSits, mFacts, mPile] h h' ∧ h' mo_ = ob_ (h mo_) 0 0 ∧ (∀ x, x < 1680 → h' mState x = h mState x) ∧ z = (if q = -1 then jw_ (h mRoads) P (h mLines) (h mState) (h mLines 0).toNat else if 0 ≤ q ∧ q < h mRoads 2 then jf_ (h mRoads) P (h mLines) (h mState) (h mLines 0).toNat (1689 + q) else -99999))) := by
  refine PC.of (lv := [some (rr_ G mo_), some (ii_ q), none, none]) (by decide +kernel) (Nat.le_of_ble_eq_true rfl) rfl rfl ?_
  refine pw_aload_n (z := mo_) (pc := 0) dX12_judged_0 rfl rfl ?_
  refine pw_iconst (pc := 1) dX12_judged_1 ?_
  refine pw_pI (x := 0) (pc := 2) dX12_judged_2 fX12_1 (im_mo_ hM) k_mo_ rfl rfl (by first | omega) ?_
  obtain ⟨g2, e2⟩ : ∃ x, x = up_ h mo_ 0 0 := ⟨_, rfl⟩
  refine pw_heq e2 ?_
  have k1 : off_ [mState, mo_, mSits, mFacts, mPile] h g2 := by rw [e2]; exact off_up off_rf (by decide)
  have k2 : g2 mState = h mState := by rw [e2, up_off (by decide)]
  have k3 : g2 mo_ = ob_ (h mo_) 0 0 := by rw [e2, up_ob]
  have J22 : (q = -1 ∨ 0 ≤ q ∧ q < h mRoads 2) → PW G RX12 cX12_judged 4 (some .int) (rm_ 6) 0 0 (zm_ G (qi_ (fun z h' => off_ [mState, mo_, mSits, mFacts, mPile] h h' ∧ h' mo_ = ob_ (h mo_) 0 0 ∧ (∀ x, x < 1680 → h' mState x = h mState x) ∧ z = (if q = -1 then jw_ (h mRoads) P (h mLines) (h mState) (h mLines 0).toNat else if 0 ≤ q ∧ q < h mRoads 2 then jf_ (h mRoads) P (h mLines) (h mState) (h mLines 0).toNat (1689 + q) else -99999)))) 22 [some (rr_ G mo_), some (ii_ q), none, none] [] g2 := by
    intro hq9
    refine pw_aload_n (z := mo_) (pc := 22) dX12_judged_22 rfl rfl ?_
    refine pw_sipush (pc := 23) dX12_judged_23 rfl ?_
    refine pw_callV (c := 12) (o := mo_) (As := [ii_ 1680]) (rest := []) (pc := 26) dX12_judged_26 (c_starts hM g2 (1680) (by first | omega)) lX12_358 mX12_starts vX12_starts (im_mo_ hM) k_mo_ rfl rfl rfl (by decide) ⟨Nat.zero_le _, Nat.zero_le _⟩ (Nat.le_of_ble_eq_true rfl) (k_v (fun h26 q26 => ?_))
    refine pw_iconst (pc := 29) dX12_judged_29 ?_
    refine pw_istore_n (lv1 := [some (rr_ G mo_), some (ii_ q), some (ii_ (-1)), none]) (pc := 30) dX12_judged_30 rfl (by decide) rfl rfl ?_
    refine pw_iconst (pc := 31) dX12_judged_31 ?_
    refine pw_istore_n (lv1 := [some (rr_ G mo_), some (ii_ q), some (ii_ (-1)), some (ii_ 0)]) (pc := 32) dX12_judged_32 rfl (by decide) rfl rfl ?_
    have L33 : ∀ (nn : Nat) (w : Int) (k : Int) (hq : PH_), (0 ≤ k ∧ k ≤ h mLines 0) → (off_ [mState, mSits, mFacts, mPile] g2 hq) → (hq mState = jf_ (h mRoads) P (h mLines) (h mState) k.toNat) → (w = jw_ (h mRoads) P (h mLines) (h mState) k.toNat) → (tok_ (h mRoads) (jf_ (h mRoads) P (h mLines) (h mState) k.toNat) k) → (∀ x, x < 1680 → hq mState x = h mState x) → ((h mLines 0 - k + 1 : Int) ≤ nn) → PW G RX12 cX12_judged 4 (some .int) (rm_ 6) 0 0 (zm_ G (qi_ (fun z h' => off_ [mState, mo_, mSits, mFacts, mPile] h h' ∧ h' mo_ = ob_ (h mo_) 0 0 ∧ (∀ x, x < 1680 → h' mState x = h mState x) ∧ z = (if q = -1 then jw_ (h mRoads) P (h mLines) (h mState) (h mLines 0).toNat else if 0 ≤ q ∧ q < h mRoads 2 then jf_ (h mRoads) P (h mLines) (h mState) (h mLines 0).toNat (1689 + q) else -99999)))) 33 [some (rr_ G mo_), some (ii_ q), some (ii_ w), some (ii_ k)] [] hq := by
      intro nn
      induction nn with
      | zero => intro w k hq ak af am aw tk lo ams; exfalso; omega
      | succ nn ih33 =>
        intro w k hq ak af am aw tk lo ams
        have jwb : -1 ≤ w ∧ w < 20 := by rw [aw]; have := jw_b (h mRoads) P (h mLines) (h mState) k.toNat; omega
        refine pw_iload_n (z := k) (pc := 33) dX12_judged_33 rfl rfl ?_
        refine pw_aload_n (z := mo_) (pc := 34) dX12_judged_34 rfl rfl ?_
        refine pw_getR (r := mLines) (pc := 35) dX12_judged_35 fX12_118 (im_mo_ hM) k_mo_ rfl fr_mLines ?_
        refine pw_iconst (pc := 38) dX12_judged_38 ?_
        refine pw_iald (pc := 39) dX12_judged_39 (im_mLines hM) k_mLines 90 l_mLines (by first | omega) (by first | omega) (by first | omega) (fun r39 => ?_)
        have n_hq_mLines : hq mLines = h mLines := ((show hq mLines = g2 mLines from (af mLines (by decide))).trans (show g2 mLines = h mLines from (by rw [e2]; exact up_off (by decide))))
        rw [n_hq_mLines] at r39 ⊢
        refine pw_icmp_ge (t := 155) (pc := 40) dX12_judged_40 (by decide) (by first | omega | (simp only [n_hq_mLines]; omega)) (by first | omega | (simp only [n_hq_mLines]; omega)) (fun c40 => ?_) (fun c40 => ?_)
        · refine pw_iload_n (z := q) (pc := 155) dX12_judged_155 rfl rfl ?_
          refine pw_if_ge (t := 163) (pc := 156) dX12_judged_156 (by decide) (by first | omega | (simp only [n_hq_mLines]; omega)) (fun c156 => ?_) (fun c156 => ?_)
          · refine pw_aload_n (z := mo_) (pc := 163) dX12_judged_163 rfl rfl ?_
            refine pw_getR (r := mState) (pc := 164) dX12_judged_164 fX12_130 (im_mo_ hM) k_mo_ rfl fr_mState ?_
            refine pw_sipush (pc := 167) dX12_judged_167 rfl ?_
            refine pw_iload_n (z := q) (pc := 170) dX12_judged_170 rfl rfl ?_
            refine pw_iadd (pc := 171) dX12_judged_171 ?_
            refine pw_iald (pc := 172) dX12_judged_172 (im_mState hM) k_mState 1760 l_mState (by first | omega | (simp only [n_hq_mLines]; omega)) (by first | omega | (simp only [n_hq_mLines]; omega)) (by first | omega | (simp only [n_hq_mLines]; omega)) (fun r172 => ?_)
            exact pw_iret (pc := 173) dX12_judged_173 (by first | omega | (simp only [n_hq_mLines]; omega)) (by
                      have k4 : off_ [mState, mo_, mSits, mFacts, mPile] h hq := by first | exact k1 | exact off_tr k1 (off_mo af (by decide))
                      have k5 : hq mo_ = ob_ (h mo_) 0 0 := by first | exact k3 | rw [af mo_ (by decide), k3]
                      first
                      | exact ⟨k4, k5, fun x _ => by rw [k2], by rw [if_neg (by omega), if_neg (by omega)]⟩
                      | (refine ⟨k4, k5, lo, ?_⟩
                         first
                         | (rw [if_pos (by omega), aw, show k = h mLines 0 by omega]; done)
                         | (rw [if_neg (by omega), if_pos (by omega), am, show k = h mLines 0 by omega]; done)))
          · refine pw_iload_n (z := w) (pc := 159) dX12_judged_159 rfl rfl ?_
            refine pw_goto (t := 173) (pc := 160) dX12_judged_160 (by decide) ?_
            exact pw_iret (pc := 173) dX12_judged_173 (by first | omega | (simp only [n_hq_mLines]; omega)) (by
                      have k4 : off_ [mState, mo_, mSits, mFacts, mPile] h hq := by first | exact k1 | exact off_tr k1 (off_mo af (by decide))
                      have k5 : hq mo_ = ob_ (h mo_) 0 0 := by first | exact k3 | rw [af mo_ (by decide), k3]
                      first
                      | exact ⟨k4, k5, fun x _ => by rw [k2], by rw [if_neg (by omega), if_neg (by omega)]⟩
                      | (refine ⟨k4, k5, lo, ?_⟩
                         first
                         | (rw [if_pos (by omega), aw, show k = h mLines 0 by omega]; done)
                         | (rw [if_neg (by omega), if_pos (by omega), am, show k = h mLines 0 by omega]; done)))
        · have llk := hl.2 k (by omega) (by omega)
          have nqr : hq mRoads = h mRoads := by rw [af mRoads (by decide), e2, up_off (by decide)]
          have J149 : ∀ (v : Int) (h2 : PH_), (off_ [mState, mSits, mFacts, mPile] g2 h2) → (h2 mState = jf_ (h mRoads) P (h mLines) (h mState) (k + 1).toNat) → (v = jw_ (h mRoads) P (h mLines) (h mState) (k + 1).toNat) → (∀ x, x < 1680 → h2 mState x = h mState x) → PW G RX12 cX12_judged 4 (some .int) (rm_ 6) 0 0 (zm_ G (qi_ (fun z h' => off_ [mState, mo_, mSits, mFacts, mPile] h h' ∧ h' mo_ = ob_ (h mo_) 0 0 ∧ (∀ x, x < 1680 → h' mState x = h mState x) ∧ z = (if q = -1 then jw_ (h mRoads) P (h mLines) (h mState) (h mLines 0).toNat else if 0 ≤ q ∧ q < h mRoads 2 then jf_ (h mRoads) P (h mLines) (h mState) (h mLines 0).toNat (1689 + q) else -99999)))) 149 [some (rr_ G mo_), some (ii_ q), some (ii_ v), some (ii_ k)] [] h2 := by
            intro v h2 nf nm nw nl
            refine pw_iinc (z := k) (lv1 := [some (rr_ G mo_), some (ii_ q), some (ii_ v), some (ii_ (k + 1))]) (pc := 149) dX12_judged_149 rfl (by decide) rfl rfl ?_
            refine pw_goto (t := 33) (pc := 152) dX12_judged_152 (by decide) ?_
            exact ih33 _ _ _ (by omega) (nf) (nm) (nw) (by rw [jf_s ak.1]; exact tok_l h4 (by omega) ak.1 (fun u => by have := llk u; omega) tk) (nl) (by omega)
          refine pw_aload_n (z := mo_) (pc := 43) dX12_judged_43 rfl rfl ?_
          refine pw_getR (r := mLines) (pc := 44) dX12_judged_44 fX12_118 (im_mo_ hM) k_mo_ rfl fr_mLines ?_
          refine pw_iconst (pc := 47) dX12_judged_47 ?_
          refine pw_iconst (pc := 48) dX12_judged_48 ?_
          refine pw_iload_n (z := k) (pc := 49) dX12_judged_49 rfl rfl ?_
          refine pw_imul (pc := 50) dX12_judged_50 ?_
          refine pw_iadd (pc := 51) dX12_judged_51 ?_
          refine pw_iald (pc := 52) dX12_judged_52 (im_mLines hM) k_mLines 90 l_mLines (by first | omega | (simp only [n_hq_mLines]; omega)) (by first | omega | (simp only [n_hq_mLines]; omega)) (by first | omega | (simp only [n_hq_mLines]; omega)) (fun r52 => ?_)
          rw [n_hq_mLines] at r52 ⊢
          refine pw_if_lt (t := 119) (pc := 53) dX12_judged_53 (by decide) (by first | omega | (simp only [n_hq_mLines]; omega)) (fun c53 => ?_) (fun c53 => ?_)
          · have hse_hq : ∀ r, 0 ≤ r → r < hq mRoads 2 → hq mState (1680 + 1 + r) ≤ 3 := fun r r0 r1 => by rw [nqr] at r1; rw [am]; exact (tk.1 r r0 (by omega)).2
            have jl0 : jf_ (h mRoads) P (h mLines) (h mState) (k + 1).toNat = if_ (mdr_ (h mRoads) (jf_ (h mRoads) P (h mLines) (h mState) k.toNat) 1680) (drv_ (h mRoads) P (jf_ (h mRoads) P (h mLines) (h mState) k.toNat) (fun r => (jf_ (h mRoads) P (h mLines) (h mState) k.toNat) (1680 + 1 + r)) 1680) (jf_ (h mRoads) P (h mLines) (h mState) k.toNat) := by rw [jf_s ak.1]; unfold jl_; rw [if_f (by omega)]
            refine pw_aload_n (z := mo_) (pc := 119) dX12_judged_119 rfl rfl ?_
            refine pw_sipush (pc := 120) dX12_judged_120 rfl ?_
            have n_hq_mRoads : hq mRoads = h mRoads := ((show hq mRoads = g2 mRoads from (af mRoads (by decide))).trans (show g2 mRoads = h mRoads from (by rw [e2]; exact up_off (by decide))))
            refine pw_callV (c := 12) (o := mo_) (As := [ii_ 1680]) (rest := []) (pc := 123) dX12_judged_123 (c_mayDrive hM hq (by first | omega | (simp only [n_hq_mLines, n_hq_mRoads]; omega)) (by first | omega | (simp only [n_hq_mLines, n_hq_mRoads]; omega)) (1680) (by first | omega | (simp only [n_hq_mLines, n_hq_mRoads]; omega)) hse_hq) lX12_415 mX12_mayDrive vX12_mayDrive (im_mo_ hM) k_mo_ rfl rfl rfl (by decide) ⟨Nat.zero_le _, Nat.zero_le _⟩ (Nat.le_of_ble_eq_true rfl) (k_i (fun z123 h123 y123 q123 => ?_))
            obtain ⟨f123, d123, ⟨rfl, p123⟩ | ⟨rfl, p123⟩⟩ := q123
            · simp -failIfUnchanged only [n_hq_mLines, n_hq_mRoads] at p123
              refine pw_if_eq (t := 139) (pc := 126) dX12_judged_126 (by decide) (by first | omega | (simp only [n_hq_mLines, n_hq_mRoads]; omega)) (fun c126 => absurd c126 (by decide)) (fun _ => ?_)
              rw [am] at p123
              have p123a := p123.1
              have n12 : h123 mRoads = h mRoads := by rw [f123 mRoads (by decide), nqr]
              have s12 : h123 mState = jf_ (h mRoads) P (h mLines) (h mState) k.toNat := by rw [f123 mState (by decide), am]
              have sd : ∀ r, 0 ≤ r → r < h mRoads 2 → h123 mSits r = (jf_ (h mRoads) P (h mLines) (h mState) k.toNat) (1680 + 1 + r) := fun r r0 r1 => by rw [d123 r r0 (by rw [nqr]; exact r1), am]
              have hs12 : ∀ r, 0 ≤ r → r < h123 mRoads 2 → 0 ≤ h123 mSits r ∧ h123 mSits r ≤ 3 := fun r r0 r1 => by
                rw [n12] at r1; rw [sd r r0 r1]; exact ⟨alls_e p123.2.1 r r0 (by omega), (tk.1 r r0 (by omega)).2⟩
              have ht12 : ∀ r, 0 ≤ r → r < 4 → -1000000 ≤ h123 mState (1680 + 9 + r) ∧ h123 mState (1680 + 9 + r) ≤ 1000000 := fun r r0 r1 => by rw [s12]; have := tk.2.2 r r0 r1; omega
              have tk0 := tk.2.1
              refine pw_aload_n (z := mo_) (pc := 129) dX12_judged_129 rfl rfl ?_
              refine pw_sipush (pc := 130) dX12_judged_130 rfl ?_
              have n_h123_mRoads : h123 mRoads = h mRoads := (((show h123 mRoads = hq mRoads from (f123 mRoads (by decide))).trans (show hq mRoads = g2 mRoads from (af mRoads (by decide)))).trans (show g2 mRoads = h mRoads from (by rw [e2]; exact up_off (by decide))))
              have n_h123_mState : h123 mState = hq mState := (f123 mState (by decide))
              refine pw_callV (c := 12) (o := mo_) (As := [ii_ 1680]) (rest := []) (pc := 133) dX12_judged_133 (c_drives hM h123 (by rw [n12]; omega) (by rw [n12]; omega) P (by rw [n12, f123 mOp (by decide), f123 mArg (by decide), af mOp (by decide), af mArg (by decide), e2, up_off (by decide), up_off (by decide)]; exact hw) hs12 1680 (by first | omega | (simp only [n_h123_mRoads, n_h123_mState, n_hq_mLines, n_hq_mRoads]; omega)) (by rw [s12]; omega) (by rw [n12]; omega) ht12) lX12_418 mX12_drives vX12_drives (im_mo_ hM) k_mo_ rfl rfl rfl (by decide) ⟨Nat.zero_le _, Nat.zero_le _⟩ (Nat.le_of_ble_eq_true rfl) (k_v (fun h133 q133 => ?_))
              obtain ⟨f133, m133⟩ := q133
              refine pw_goto (t := 149) (pc := 136) dX12_judged_136 (by decide) ?_
              exact J149 _ _ (by first | exact af | exact off_tr af (off_mo (off_sce k112) (by decide)) | exact off_tr af (off_mo f123 (by decide)) | exact off_tr af (off_tr (off_mo f123 (by decide)) (off_mo f133 (by decide)))) (by first
                    | (rw [jf_s ak.1]; unfold jl_; rw [if_t (by omega), if_t (by rw [← am]; exact c85)]; exact am)
                    | (rw [jf_s ak.1]; unfold jl_; rw [if_t (by omega), if_f (by rw [← am]; exact c85), sc_in k112, w112, am, nqr])
                    | (rw [jl0, if_t p123, m133, n12, s12]; exact drv_cg2 sd)
                    | (rw [jl0, if_f (by rw [← am]; exact p123), f123 mState (by decide)]; exact am)) (by rw [jw_s ak.1]; first
                    | (rw [if_f (by rintro ⟨u1, u2, u3⟩; omega)]; exact aw)
                    | (rw [if_f (fun u => u.2.1 p123)]; exact aw)
                    | (rw [if_t ⟨by omega, by rw [← am]; exact p123, by omega⟩]; done)
                    | (rw [if_f (by rintro ⟨u1, u2, u3⟩; omega)]; exact aw)) (by first
                    | exact lo
                    | exact fun x x1 => by rw [sc_in k112]; unfold sit_; have wb := who_b (fun e => hq mState (1680 + 1 + e)) (h mLines (2 + 2 * k)) (hq mRoads 2).toNat; rw [if_neg (by omega), if_neg (by omega)]; exact lo x x1
                    | exact fun x x1 => by rw [f123 mState (by decide)]; exact lo x x1
                    | exact fun x x1 => by rw [m133]; unfold drv_ ob_ dr2_ dr1_; rw [if_neg (by omega), if_neg (by omega), if_neg (by omega), f123 mState (by decide)]; exact lo x x1)
            · simp -failIfUnchanged only [n_hq_mLines, n_hq_mRoads] at p123
              refine pw_if_eq (t := 139) (pc := 126) dX12_judged_126 (by decide) (by first | omega | (simp only [n_hq_mLines, n_hq_mRoads]; omega)) (fun _ => ?_) (fun c126 => absurd c126 (by decide))
              refine pw_iload_n (z := w) (pc := 139) dX12_judged_139 rfl rfl ?_
              refine pw_if_ge (t := 147) (pc := 140) dX12_judged_140 (by decide) (by first | omega | (simp only [n_hq_mLines, n_hq_mRoads]; omega)) (fun c140 => ?_) (fun c140 => ?_)
              · refine pw_iload_n (z := w) (pc := 147) dX12_judged_147 rfl rfl ?_
                refine pw_istore_n (lv1 := [some (rr_ G mo_), some (ii_ q), some (ii_ w), some (ii_ k)]) (pc := 148) dX12_judged_148 rfl (by decide) rfl rfl ?_
                exact J149 _ _ (by first | exact af | exact off_tr af (off_mo (off_sce k112) (by decide)) | exact off_tr af (off_mo f123 (by decide)) | exact off_tr af (off_tr (off_mo f123 (by decide)) (off_mo f133 (by decide)))) (by first
                      | (rw [jf_s ak.1]; unfold jl_; rw [if_t (by omega), if_t (by rw [← am]; exact c85)]; exact am)
                      | (rw [jf_s ak.1]; unfold jl_; rw [if_t (by omega), if_f (by rw [← am]; exact c85), sc_in k112, w112, am, nqr])
                      | (rw [jl0, if_t p123, m133, n12, s12]; exact drv_cg2 sd)
                      | (rw [jl0, if_f (by rw [← am]; exact p123), f123 mState (by decide)]; exact am)) (by rw [jw_s ak.1]; first
                      | (rw [if_f (by rintro ⟨u1, u2, u3⟩; omega)]; exact aw)
                      | (rw [if_f (fun u => u.2.1 p123)]; exact aw)
                      | (rw [if_t ⟨by omega, by rw [← am]; exact p123, by omega⟩]; done)
                      | (rw [if_f (by rintro ⟨u1, u2, u3⟩; omega)]; exact aw)) (by first
                      | exact lo
                      | exact fun x x1 => by rw [sc_in k112]; unfold sit_; have wb := who_b (fun e => hq mState (1680 + 1 + e)) (h mLines (2 + 2 * k)) (hq mRoads 2).toNat; rw [if_neg (by omega), if_neg (by omega)]; exact lo x x1
                      | exact fun x x1 => by rw [f123 mState (by decide)]; exact lo x x1
                      | exact fun x x1 => by rw [m133]; unfold drv_ ob_ dr2_ dr1_; rw [if_neg (by omega), if_neg (by omega), if_neg (by omega), f123 mState (by decide)]; exact lo x x1)
              · refine pw_iload_n (z := k) (pc := 143) dX12_judged_143 rfl rfl ?_
                refine pw_goto (t := 148) (pc := 144) dX12_judged_144 (by decide) ?_
                refine pw_istore_n (lv1 := [some (rr_ G mo_), some (ii_ q), some (ii_ k), some (ii_ k)]) (pc := 148) dX12_judged_148 rfl (by decide) rfl rfl ?_
                exact J149 _ _ (by first | exact af | exact off_tr af (off_mo (off_sce k112) (by decide)) | exact off_tr af (off_mo f123 (by decide)) | exact off_tr af (off_tr (off_mo f123 (by decide)) (off_mo f133 (by decide)))) (by first
                      | (rw [jf_s ak.1]; unfold jl_; rw [if_t (by omega), if_t (by rw [← am]; exact c85)]; exact am)
                      | (rw [jf_s ak.1]; unfold jl_; rw [if_t (by omega), if_f (by rw [← am]; exact c85), sc_in k112, w112, am, nqr])
                      | (rw [jl0, if_t p123, m133, n12, s12]; exact drv_cg2 sd)
                      | (rw [jl0, if_f (by rw [← am]; exact p123), f123 mState (by decide)]; exact am)) (by rw [jw_s ak.1]; first
                      | (rw [if_f (by rintro ⟨u1, u2, u3⟩; omega)]; exact aw)
                      | (rw [if_f (fun u => u.2.1 p123)]; exact aw)
                      | (rw [if_t ⟨by omega, by rw [← am]; exact p123, by omega⟩]; done)
                      | (rw [if_f (by rintro ⟨u1, u2, u3⟩; omega)]; exact aw)) (by first
                      | exact lo
                      | exact fun x x1 => by rw [sc_in k112]; unfold sit_; have wb := who_b (fun e => hq mState (1680 + 1 + e)) (h mLines (2 + 2 * k)) (hq mRoads 2).toNat; rw [if_neg (by omega), if_neg (by omega)]; exact lo x x1
                      | exact fun x x1 => by rw [f123 mState (by decide)]; exact lo x x1
                      | exact fun x x1 => by rw [m133]; unfold drv_ ob_ dr2_ dr1_; rw [if_neg (by omega), if_neg (by omega), if_neg (by omega), f123 mState (by decide)]; exact lo x x1)
          · refine pw_aload_n (z := mo_) (pc := 56) dX12_judged_56 rfl rfl ?_
            refine pw_getR (r := mState) (pc := 57) dX12_judged_57 fX12_130 (im_mo_ hM) k_mo_ rfl fr_mState ?_
            refine pw_sipush (pc := 60) dX12_judged_60 rfl ?_
            refine pw_aload_n (z := mo_) (pc := 63) dX12_judged_63 rfl rfl ?_
            refine pw_getR (r := mLines) (pc := 64) dX12_judged_64 fX12_118 (im_mo_ hM) k_mo_ rfl fr_mLines ?_
            refine pw_iconst (pc := 67) dX12_judged_67 ?_
            refine pw_iconst (pc := 68) dX12_judged_68 ?_
            refine pw_iload_n (z := k) (pc := 69) dX12_judged_69 rfl rfl ?_
            refine pw_imul (pc := 70) dX12_judged_70 ?_
            refine pw_iadd (pc := 71) dX12_judged_71 ?_
            refine pw_iald (pc := 72) dX12_judged_72 (im_mLines hM) k_mLines 90 l_mLines (by first | omega | (simp only [n_hq_mLines]; omega)) (by first | omega | (simp only [n_hq_mLines]; omega)) (by first | omega | (simp only [n_hq_mLines]; omega)) (fun r72 => ?_)
            rw [n_hq_mLines] at r72 ⊢
            refine pw_iadd (pc := 73) dX12_judged_73 ?_
            refine pw_iald (pc := 74) dX12_judged_74 (im_mState hM) k_mState 1760 l_mState (by first | omega | (simp only [n_hq_mLines]; omega)) (by first | omega | (simp only [n_hq_mLines]; omega)) (by first | omega | (simp only [n_hq_mLines]; omega)) (fun r74 => ?_)
            refine pw_aload_n (z := mo_) (pc := 75) dX12_judged_75 rfl rfl ?_
            refine pw_getR (r := mLines) (pc := 76) dX12_judged_76 fX12_118 (im_mo_ hM) k_mo_ rfl fr_mLines ?_
            refine pw_iconst (pc := 79) dX12_judged_79 ?_
            refine pw_iconst (pc := 80) dX12_judged_80 ?_
            refine pw_iload_n (z := k) (pc := 81) dX12_judged_81 rfl rfl ?_
            refine pw_imul (pc := 82) dX12_judged_82 ?_
            refine pw_iadd (pc := 83) dX12_judged_83 ?_
            refine pw_iald (pc := 84) dX12_judged_84 (im_mLines hM) k_mLines 90 l_mLines (by first | omega | (simp only [n_hq_mLines]; omega)) (by first | omega | (simp only [n_hq_mLines]; omega)) (by first | omega | (simp only [n_hq_mLines]; omega)) (fun r84 => ?_)
            rw [n_hq_mLines] at r84 ⊢
            refine pw_icmp_eq (t := 149) (pc := 85) dX12_judged_85 (by decide) (by first | omega | (simp only [n_hq_mLines]; omega)) (by first | omega | (simp only [n_hq_mLines]; omega)) (fun c85 => ?_) (fun c85 => ?_)
            · exact J149 _ _ (by first | exact af | exact off_tr af (off_mo (off_sce k112) (by decide)) | exact off_tr af (off_mo f123 (by decide)) | exact off_tr af (off_tr (off_mo f123 (by decide)) (off_mo f133 (by decide)))) (by first
                    | (rw [jf_s ak.1]; unfold jl_; rw [if_t (by omega), if_t (by rw [← am]; exact c85)]; exact am)
                    | (rw [jf_s ak.1]; unfold jl_; rw [if_t (by omega), if_f (by rw [← am]; exact c85), sc_in k112, w112, am, nqr])
                    | (rw [jl0, if_t p123, m133, n12, s12]; exact drv_cg2 sd)
                    | (rw [jl0, if_f (by rw [← am]; exact p123), f123 mState (by decide)]; exact am)) (by rw [jw_s ak.1]; first
                    | (rw [if_f (by rintro ⟨u1, u2, u3⟩; omega)]; exact aw)
                    | (rw [if_f (fun u => u.2.1 p123)]; exact aw)
                    | (rw [if_t ⟨by omega, by rw [← am]; exact p123, by omega⟩]; done)
                    | (rw [if_f (by rintro ⟨u1, u2, u3⟩; omega)]; exact aw)) (by first
                    | exact lo
                    | exact fun x x1 => by rw [sc_in k112]; unfold sit_; have wb := who_b (fun e => hq mState (1680 + 1 + e)) (h mLines (2 + 2 * k)) (hq mRoads 2).toNat; rw [if_neg (by omega), if_neg (by omega)]; exact lo x x1
                    | exact fun x x1 => by rw [f123 mState (by decide)]; exact lo x x1
                    | exact fun x x1 => by rw [m133]; unfold drv_ ob_ dr2_ dr1_; rw [if_neg (by omega), if_neg (by omega), if_neg (by omega), f123 mState (by decide)]; exact lo x x1)
            · refine pw_aload_n (z := mo_) (pc := 88) dX12_judged_88 rfl rfl ?_
              refine pw_sipush (pc := 89) dX12_judged_89 rfl ?_
              refine pw_aload_n (z := mo_) (pc := 92) dX12_judged_92 rfl rfl ?_
              refine pw_getR (r := mLines) (pc := 93) dX12_judged_93 fX12_118 (im_mo_ hM) k_mo_ rfl fr_mLines ?_
              refine pw_iconst (pc := 96) dX12_judged_96 ?_
              refine pw_iconst (pc := 97) dX12_judged_97 ?_
              refine pw_iload_n (z := k) (pc := 98) dX12_judged_98 rfl rfl ?_
              refine pw_imul (pc := 99) dX12_judged_99 ?_
              refine pw_iadd (pc := 100) dX12_judged_100 ?_
              refine pw_iald (pc := 101) dX12_judged_101 (im_mLines hM) k_mLines 90 l_mLines (by first | omega | (simp only [n_hq_mLines]; omega)) (by first | omega | (simp only [n_hq_mLines]; omega)) (by first | omega | (simp only [n_hq_mLines]; omega)) (fun r101 => ?_)
              rw [n_hq_mLines] at r101 ⊢
              refine pw_aload_n (z := mo_) (pc := 102) dX12_judged_102 rfl rfl ?_
              refine pw_getR (r := mLines) (pc := 103) dX12_judged_103 fX12_118 (im_mo_ hM) k_mo_ rfl fr_mLines ?_
              refine pw_iconst (pc := 106) dX12_judged_106 ?_
              refine pw_iconst (pc := 107) dX12_judged_107 ?_
              refine pw_iload_n (z := k) (pc := 108) dX12_judged_108 rfl rfl ?_
              refine pw_imul (pc := 109) dX12_judged_109 ?_
              refine pw_iadd (pc := 110) dX12_judged_110 ?_
              refine pw_iald (pc := 111) dX12_judged_111 (im_mLines hM) k_mLines 90 l_mLines (by first | omega | (simp only [n_hq_mLines]; omega)) (by first | omega | (simp only [n_hq_mLines]; omega)) (by first | omega | (simp only [n_hq_mLines]; omega)) (fun r111 => ?_)
              rw [n_hq_mLines] at r111 ⊢
              have n_hq_mRoads : hq mRoads = h mRoads := ((show hq mRoads = g2 mRoads from (af mRoads (by decide))).trans (show g2 mRoads = h mRoads from (by rw [e2]; exact up_off (by decide))))
              refine pw_callV (c := 12) (o := mo_) (As := [ii_ 1680, ii_ (h mLines (1 + (2 * k))), ii_ (h mLines (2 + (2 * k)))]) (rest := []) (pc := 112) dX12_judged_112 (c_sitsOn hM hq (by rw [nqr]; omega) (by rw [nqr]; omega) 1680 (h mLines (1 + (2 * k))) (h mLines (2 + (2 * k))) (by first | omega | (simp only [n_hq_mLines, n_hq_mRoads]; omega)) (by first | omega | (simp only [n_hq_mLines, n_hq_mRoads]; omega)) (by first | omega | (simp only [n_hq_mLines, n_hq_mRoads]; omega))) lX12_412 mX12_sitsOn vX12_sitsOn (im_mo_ hM) k_mo_ rfl rfl rfl (by decide) ⟨Nat.zero_le _, Nat.zero_le _⟩ (Nat.le_of_ble_eq_true rfl) (k_i (fun z112 h112 y112 q112 => ?_))
              obtain ⟨w112, k112⟩ := q112
              refine pw_pop (pc := 115) dX12_judged_115 rfl ?_
              refine pw_goto (t := 149) (pc := 116) dX12_judged_116 (by decide) ?_
              exact J149 _ _ (by first | exact af | exact off_tr af (off_mo (off_sce k112) (by decide)) | exact off_tr af (off_mo f123 (by decide)) | exact off_tr af (off_tr (off_mo f123 (by decide)) (off_mo f133 (by decide)))) (by first
                    | (rw [jf_s ak.1]; unfold jl_; rw [if_t (by omega), if_t (by rw [← am]; exact c85)]; exact am)
                    | (rw [jf_s ak.1]; unfold jl_; rw [if_t (by omega), if_f (by rw [← am]; exact c85), sc_in k112, w112, am, nqr])
                    | (rw [jl0, if_t p123, m133, n12, s12]; exact drv_cg2 sd)
                    | (rw [jl0, if_f (by rw [← am]; exact p123), f123 mState (by decide)]; exact am)) (by rw [jw_s ak.1]; first
                    | (rw [if_f (by rintro ⟨u1, u2, u3⟩; omega)]; exact aw)
                    | (rw [if_f (fun u => u.2.1 p123)]; exact aw)
                    | (rw [if_t ⟨by omega, by rw [← am]; exact p123, by omega⟩]; done)
                    | (rw [if_f (by rintro ⟨u1, u2, u3⟩; omega)]; exact aw)) (by first
                    | exact lo
                    | exact fun x x1 => by rw [sc_in k112]; unfold sit_; have wb := who_b (fun e => hq mState (1680 + 1 + e)) (h mLines (2 + 2 * k)) (hq mRoads 2).toNat; rw [if_neg (by omega), if_neg (by omega)]; exact lo x x1
                    | exact fun x x1 => by rw [f123 mState (by decide)]; exact lo x x1
                    | exact fun x x1 => by rw [m133]; unfold drv_ ob_ dr2_ dr1_; rw [if_neg (by omega), if_neg (by omega), if_neg (by omega), f123 mState (by decide)]; exact lo x x1)
    exact L33 _ _ _ _ (by omega) (off_mo (off_sce q26) (by decide)) (by rw [sc_in q26, e2, up_off (by decide), up_off (by decide)]; rfl) (rfl) (by
          refine ⟨fun r r0 r1 => ?_, ?_, fun r r0 r1 => ?_⟩
          · show -1 ≤ sta_ _ _ 1680 4 _ ∧ sta_ _ _ 1680 4 _ ≤ 3
            unfold sta_; rw [if_neg (by omega), if_pos (by omega)]; omega
          · show 0 ≤ sta_ _ _ 1680 4 1680
            unfold sta_; rw [if_pos rfl]; omega
          · show _ ≤ sta_ _ _ 1680 4 _ ∧ sta_ _ _ 1680 4 _ ≤ _
            unfold sta_; rw [if_neg (by omega), if_neg (by omega), if_neg (by omega), if_pos (by omega), show 1680 + 9 + r - 1680 - 9 = r by omega]
            have := hpa r r0 r1; omega) (fun x x1 => by rw [sc_in q26]; unfold sta_; rw [if_neg (by omega), if_neg (by omega), if_neg (by omega), if_neg (by omega), k2]) (Int.self_le_toNat _)
  refine pw_iload_n (z := q) (pc := 5) dX12_judged_5 rfl rfl ?_
  refine pw_iconst (pc := 6) dX12_judged_6 ?_
  refine pw_icmp_eq (t := 22) (pc := 7) dX12_judged_7 (by decide) (by first | omega) (by first | omega) (fun c7 => ?_) (fun c7 => ?_)
  · exact J22  (by omega)
  · refine pw_aload_n (z := mo_) (pc := 10) dX12_judged_10 rfl rfl ?_
    refine pw_iload_n (z := q) (pc := 11) dX12_judged_11 rfl rfl ?_
    have n_g2_mRoads : g2 mRoads = h mRoads := (by rw [e2]; exact up_off (by decide))
    refine pw_callV (c := 12) (o := mo_) (As := [ii_ q]) (rest := []) (pc := 12) dX12_judged_12 (c_isRider hM g2 (q) (by first | omega | (simp only [n_g2_mRoads]; omega)) (by first | omega | (simp only [n_g2_mRoads]; omega))) lX12_387 mX12_isRider vX12_isRider (im_mo_ hM) k_mo_ rfl rfl rfl (by decide) ⟨Nat.zero_le _, Nat.zero_le _⟩ (Nat.le_of_ble_eq_true rfl) (k_i (fun z12 h12 y12 q12 => ?_))
    obtain ⟨rfl, ⟨rfl, p12⟩ | ⟨rfl, p12⟩⟩ := q12
    · simp -failIfUnchanged only [n_g2_mRoads] at p12
      refine pw_if_ne (t := 22) (pc := 15) dX12_judged_15 (by decide) (by first | omega | (simp only [n_g2_mRoads]; omega)) (fun _ => ?_) (fun c15 => absurd c15 (by decide))
      exact J22  (by omega)
    · simp -failIfUnchanged only [n_g2_mRoads] at p12
      refine pw_if_ne (t := 22) (pc := 15) dX12_judged_15 (by decide) (by first | omega | (simp only [n_g2_mRoads]; omega)) (fun c15 => absurd c15 (by decide)) (fun _ => ?_)
      refine pw_ldcw (z := -99999) (pc := 18) dX12_judged_18 kX12_421 rfl ?_
      exact pw_iret (pc := 21) dX12_judged_21 (by first | omega | (simp only [n_g2_mRoads]; omega)) (by
                have k4 : off_ [mState, mo_, mSits, mFacts, mPile] h g2 := by first | exact k1 | exact off_tr k1 (off_mo af (by decide))
                have k5 : g2 mo_ = ob_ (h mo_) 0 0 := by first | exact k3 | rw [af mo_ (by decide), k3]
                first
                | exact ⟨k4, k5, fun x _ => by rw [k2], by rw [if_neg (by omega), if_neg (by omega)]⟩
                | (refine ⟨k4, k5, lo, ?_⟩
                   first
                   | (rw [if_pos (by omega), aw, show k = h mLines 0 by omega]; done)
                   | (rw [if_neg (by omega), if_pos (by omega), am, show k = h mLines 0 by omega]; done)))

