set_option maxHeartbeats 4000000 in
set_option maxRecDepth 100000 in
theorem c_valueAt {G : GT_} (hM : okM_ G) (h : PH_) (hS : 2 ≤ h mRoads 0 ∧ h mRoads 0 ≤ 4) (hR : 0 ≤ h mRoads 2 ∧ h mRoads 2 ≤ h mRoads 0) (hR1 : 1 ≤ h mRoads 2) (i : Int) (h1 : 0 ≤ i ∧ i ≤ 16) (hb : ∀ r, 0 ≤ r → r < h mRoads 2 → -1000000 ≤ h mTotals (i + r) ∧ h mTotals (i + r) ≤ 1000000) : PC G yX12_valueAt cX12_valueAt 5 (some .int) 3 [rr_ G mo_, ii_ i] h (qi_ (fun z h' => h = h' ∧ z = vat_ (h mo_ 39) (h mTotals) i (h mRoads 2))) := by
  refine PC.of (lv := [some (rr_ G mo_), some (ii_ i), none, none, none]) (by decide +kernel) (Nat.le_of_ble_eq_true rfl) rfl rfl ?_
  refine pw_aload_n (z := mo_) (pc := 0) dX12_valueAt_0 rfl rfl ?_
  refine pw_gI (x := 39) (pc := 1) dX12_valueAt_1 fX12_428 (im_mo_ hM) k_mo_ rfl rfl (fun r1 => ?_)
  refine pw_if_ne (t := 13) (pc := 4) dX12_valueAt_4 (by decide) (by first | omega) (fun c4 => ?_) (fun c4 => ?_)
  · refine pw_iconst (pc := 13) dX12_valueAt_13 ?_
    refine pw_istore_n (lv1 := [some (rr_ G mo_), some (ii_ i), some (ii_ 0), none, none]) (pc := 14) dX12_valueAt_14 rfl (by decide) rfl rfl ?_
    refine pw_aload_n (z := mo_) (pc := 15) dX12_valueAt_15 rfl rfl ?_
    refine pw_getR (r := mTotals) (pc := 16) dX12_valueAt_16 fX12_152 (im_mo_ hM) k_mo_ rfl fr_mTotals ?_
    refine pw_iload_n (z := i) (pc := 19) dX12_valueAt_19 rfl rfl ?_
    refine pw_iald (pc := 20) dX12_valueAt_20 (im_mTotals hM) k_mTotals 20 l_mTotals (by first | omega) (by first | omega) (by first | omega) (fun r20 => ?_)
    refine pw_istore_n (lv1 := [some (rr_ G mo_), some (ii_ i), some (ii_ 0), some (ii_ (h mTotals i)), none]) (pc := 21) dX12_valueAt_21 rfl (by decide) rfl rfl ?_
    refine pw_iconst (pc := 22) dX12_valueAt_22 ?_
    refine pw_istore (lv1 := [some (rr_ G mo_), some (ii_ i), some (ii_ 0), some (ii_ (h mTotals i)), some (ii_ 0)]) (pc := 23) dX12_valueAt_23 (by decide) rfl rfl ?_
    have L25 : ∀ (nn : Nat) (n : Int) (lo : Int) (r : Int), (0 ≤ r ∧ r ≤ h mRoads 2) → (n = sm_ (h mTotals) i r.toNat) → (lo = mn_ (h mTotals) i (r - 1).toNat) → ((h mRoads 2 - r + 1 : Int) ≤ nn) → PW G RX12 cX12_valueAt 5 (some .int) (rm_ 3) 0 0 (zm_ G (qi_ (fun z h' => h = h' ∧ z = vat_ (h mo_ 39) (h mTotals) i (h mRoads 2)))) 25 [some (rr_ G mo_), some (ii_ i), some (ii_ n), some (ii_ lo), some (ii_ r)] [] h := by
      intro nn
      induction nn with
      | zero => intro n lo r ak an al ams; exfalso; omega
      | succ nn ih25 =>
        intro n lo r ak an al ams
        have mb := mn_b (f := h mTotals) (i := i) (B := 1000000) (r - 1).toNat (fun q q0 q1 => hb q q0 (by omega))
        have sb := sm_b (f := h mTotals) (i := i) (B := 1000000) r.toNat (fun q q0 q1 => hb q q0 (by omega))
        refine pw_iload (z := r) (pc := 25) dX12_valueAt_25 rfl ?_
        refine pw_aload_n (z := mo_) (pc := 27) dX12_valueAt_27 rfl rfl ?_
        refine pw_callV (c := 12) (o := mo_) (As := []) (rest := [ii_ r]) (pc := 28) dX12_valueAt_28 (c_riders hM h) lX12_334 mX12_riders vX12_riders (im_mo_ hM) k_mo_ rfl rfl rfl (by decide) ⟨Nat.zero_le _, Nat.zero_le _⟩ (Nat.le_of_ble_eq_true rfl) (k_i (fun z28 h28 y28 q28 => ?_))
        obtain ⟨rfl, rfl⟩ := q28
        refine pw_icmp_ge (t := 79) (pc := 31) dX12_valueAt_31 (by decide) (by first | omega) (by first | omega) (fun c31 => ?_) (fun c31 => ?_)
        · refine pw_aload_n (z := mo_) (pc := 79) dX12_valueAt_79 rfl rfl ?_
          refine pw_gI (x := 39) (pc := 80) dX12_valueAt_80 fX12_428 (im_mo_ hM) k_mo_ rfl rfl (fun r80 => ?_)
          refine pw_iconst (pc := 83) dX12_valueAt_83 ?_
          refine pw_icmp_ne (t := 92) (pc := 84) dX12_valueAt_84 (by decide) (by first | omega) (by first | omega) (fun c84 => ?_) (fun c84 => ?_)
          · refine pw_iload_n (z := lo) (pc := 92) dX12_valueAt_92 rfl rfl ?_
            refine pw_ineg (pc := 93) dX12_valueAt_93 ?_
            exact pw_iret (pc := 94) dX12_valueAt_94 (by first | omega) (⟨rfl, by unfold vat_; first | (rw [if_pos c4]; exact w9) | (rw [if_neg c4, if_pos c84, an, show r = h mRoads 2 by omega]) | (rw [if_neg c4, if_neg c84, al, show r = h mRoads 2 by omega])⟩)
          · refine pw_iload_n (z := n) (pc := 87) dX12_valueAt_87 rfl rfl ?_
            refine pw_ineg (pc := 88) dX12_valueAt_88 ?_
            refine pw_goto (t := 94) (pc := 89) dX12_valueAt_89 (by decide) ?_
            exact pw_iret (pc := 94) dX12_valueAt_94 (by first | omega) (⟨rfl, by unfold vat_; first | (rw [if_pos c4]; exact w9) | (rw [if_neg c4, if_pos c84, an, show r = h mRoads 2 by omega]) | (rw [if_neg c4, if_neg c84, al, show r = h mRoads 2 by omega])⟩)
        · have hbr := hb r (by omega) (by omega)
          refine pw_iload_n (z := n) (pc := 34) dX12_valueAt_34 rfl rfl ?_
          refine pw_aload_n (z := mo_) (pc := 35) dX12_valueAt_35 rfl rfl ?_
          refine pw_getR (r := mTotals) (pc := 36) dX12_valueAt_36 fX12_152 (im_mo_ hM) k_mo_ rfl fr_mTotals ?_
          refine pw_iload_n (z := i) (pc := 39) dX12_valueAt_39 rfl rfl ?_
          refine pw_iload (z := r) (pc := 40) dX12_valueAt_40 rfl ?_
          refine pw_iadd (pc := 42) dX12_valueAt_42 ?_
          refine pw_iald (pc := 43) dX12_valueAt_43 (im_mTotals hM) k_mTotals 20 l_mTotals (by first | omega) (by first | omega) (by first | omega) (fun r43 => ?_)
          refine pw_iadd (pc := 44) dX12_valueAt_44 ?_
          refine pw_istore_n (lv1 := [some (rr_ G mo_), some (ii_ i), some (ii_ (n + (h mTotals (i + r)))), some (ii_ lo), some (ii_ r)]) (pc := 45) dX12_valueAt_45 rfl (by decide) rfl rfl ?_
          have J72 : ∀ (v : Int), (v = (if h mTotals (i + r) < lo then h mTotals (i + r) else lo)) → PW G RX12 cX12_valueAt 5 (some .int) (rm_ 3) 0 0 (zm_ G (qi_ (fun z h' => h = h' ∧ z = vat_ (h mo_ 39) (h mTotals) i (h mRoads 2)))) 72 [some (rr_ G mo_), some (ii_ i), some (ii_ (n + (h mTotals (i + r)))), some (ii_ lo), some (ii_ r)] [ii_ v] h := by
            intro v hv
            refine pw_istore_n (lv1 := [some (rr_ G mo_), some (ii_ i), some (ii_ (n + (h mTotals (i + r)))), some (ii_ v), some (ii_ r)]) (pc := 72) dX12_valueAt_72 rfl (by decide) rfl rfl ?_
            refine pw_iinc (z := r) (lv1 := [some (rr_ G mo_), some (ii_ i), some (ii_ (n + (h mTotals (i + r)))), some (ii_ v), some (ii_ (r + 1))]) (pc := 73) dX12_valueAt_73 rfl (by decide) rfl rfl ?_
            refine pw_goto (t := 25) (pc := 76) dX12_valueAt_76 (by decide) ?_
            exact ih25 _ _ _ (by omega) (by rw [sm_s ak.1, an]) (mn_t ak.1 al hv) (by omega)
          refine pw_aload_n (z := mo_) (pc := 46) dX12_valueAt_46 rfl rfl ?_
          refine pw_getR (r := mTotals) (pc := 47) dX12_valueAt_47 fX12_152 (im_mo_ hM) k_mo_ rfl fr_mTotals ?_
          refine pw_iload_n (z := i) (pc := 50) dX12_valueAt_50 rfl rfl ?_
          refine pw_iload (z := r) (pc := 51) dX12_valueAt_51 rfl ?_
          refine pw_iadd (pc := 53) dX12_valueAt_53 ?_
          refine pw_iald (pc := 54) dX12_valueAt_54 (im_mTotals hM) k_mTotals 20 l_mTotals (by first | omega) (by first | omega) (by first | omega) (fun r54 => ?_)
          refine pw_iload_n (z := lo) (pc := 55) dX12_valueAt_55 rfl rfl ?_
          refine pw_icmp_ge (t := 71) (pc := 56) dX12_valueAt_56 (by decide) (by first | omega) (by first | omega) (fun c56 => ?_) (fun c56 => ?_)
          · refine pw_iload_n (z := lo) (pc := 71) dX12_valueAt_71 rfl rfl ?_
            exact J72 _ (by first | (rw [if_pos (by omega)]; done) | (rw [if_neg (by omega)]; done))
          · refine pw_aload_n (z := mo_) (pc := 59) dX12_valueAt_59 rfl rfl ?_
            refine pw_getR (r := mTotals) (pc := 60) dX12_valueAt_60 fX12_152 (im_mo_ hM) k_mo_ rfl fr_mTotals ?_
            refine pw_iload_n (z := i) (pc := 63) dX12_valueAt_63 rfl rfl ?_
            refine pw_iload (z := r) (pc := 64) dX12_valueAt_64 rfl ?_
            refine pw_iadd (pc := 66) dX12_valueAt_66 ?_
            refine pw_iald (pc := 67) dX12_valueAt_67 (im_mTotals hM) k_mTotals 20 l_mTotals (by first | omega) (by first | omega) (by first | omega) (fun r67 => ?_)
            refine pw_goto (t := 72) (pc := 68) dX12_valueAt_68 (by decide) ?_
            exact J72 _ (by first | (rw [if_pos (by omega)]; done) | (rw [if_neg (by omega)]; done))
    exact L25 _ _ _ _ (by omega) (rfl) (rfl) (Int.self_le_toNat _)
  · refine pw_aload_n (z := mo_) (pc := 7) dX12_valueAt_7 rfl rfl ?_
    refine pw_iload_n (z := i) (pc := 8) dX12_valueAt_8 rfl rfl ?_
    refine pw_callV (c := 12) (o := mo_) (As := [ii_ i]) (rest := []) (pc := 9) dX12_valueAt_9 (c_spreadAt hM h (by first | omega) (by first | omega) hR1 i (by first | omega) hb) lX12_431 mX12_spreadAt vX12_spreadAt (im_mo_ hM) k_mo_ rfl rfl rfl (by decide) ⟨Nat.zero_le _, Nat.zero_le _⟩ (Nat.le_of_ble_eq_true rfl) (k_i (fun z9 h9 y9 q9 => ?_))
    obtain ⟨rfl, w9⟩ := q9
    exact pw_iret (pc := 12) dX12_valueAt_12 (by first | omega) (⟨rfl, by unfold vat_; first | (rw [if_pos c4]; exact w9) | (rw [if_neg c4, if_pos c84, an, show r = h mRoads 2 by omega]) | (rw [if_neg c4, if_neg c84, al, show r = h mRoads 2 by omega])⟩)

set_option maxHeartbeats 4000000 in
set_option maxRecDepth 100000 in
theorem c_looks {G : GT_} (hM : okM_ G) (h : PH_) (hS : 2 ≤ h mRoads 0 ∧ h mRoads 0 ≤ 4) (hR : 0 ≤ h mRoads 2 ∧ h mRoads 2 ≤ h mRoads 0) (hR1 : 1 ≤ h mRoads 2) (t : Int) (h1 : 0 ≤ t ∧ t ≤ 4) (hb : ∀ r, 0 ≤ r → r < h mRoads 2 → -1000000 ≤ h mTotals (4 * t + r) ∧ h mTotals (4 * t + r) ≤ 1000000) (hrow : ∀ k, 0 ≤ k → k < t → 0 ≤ h mRow k ∧ h mRow k < 24) (B0 : BT_) (hB : bst_ t (h mRoads 2) h B0) : PC G yX12_looks cX12_looks 5 none 4 [rr_ G mo_, ii_ t] h (qv_ (fun h' => off_ [mBestRow, mBestTotals, mo_] h h' ∧ (∀ k, k ≠ 41 → k ≠ 42 → k ≠ 43 → h' mo_ k = h mo_ k) ∧ bst_ t (h mRoads 2) h' (lok_ (h mo_ 39) (h mRoads 2) (fun k => h mLawfuls (h mRow k)) (fun r => h mTotals (4 * t + r)) (h mMoves t) B0))) := by
  refine PC.of (lv := [some (rr_ G mo_), some (ii_ t), none, none, none]) (by decide +kernel) (Nat.le_of_ble_eq_true rfl) rfl rfl ?_
  refine pw_aload_n (z := mo_) (pc := 0) dX12_looks_0 rfl rfl ?_
  refine pw_iconst (pc := 1) dX12_looks_1 ?_
  refine pw_iload_n (z := t) (pc := 2) dX12_looks_2 rfl rfl ?_
  refine pw_imul (pc := 3) dX12_looks_3 ?_
  refine pw_callV (c := 12) (o := mo_) (As := [ii_ (4 * t)]) (rest := []) (pc := 4) dX12_looks_4 (c_valueAt hM h (by first | omega) (by first | omega) hR1 (4 * t) (by first | omega) hb) lX12_434 mX12_valueAt vX12_valueAt (im_mo_ hM) k_mo_ rfl rfl rfl (by decide) ⟨Nat.zero_le _, Nat.zero_le _⟩ (Nat.le_of_ble_eq_true rfl) (k_i (fun z4 h4 y4 q4 => ?_))
  obtain ⟨rfl, w4⟩ := q4
  have vb := vat_b (so := h mo_ 39) (f := h mTotals) (i := 4 * t) (R := h mRoads 2) (by omega) hb
  have ve : z4 = vat_ (h mo_ 39) (fun r => h mTotals (4 * t + r)) 0 (h mRoads 2) := by rw [w4]; exact vat_cg hR1 (fun r r0 r1 => by rw [Int.zero_add])
  refine pw_istore_n (lv1 := [some (rr_ G mo_), some (ii_ t), some (ii_ z4), none, none]) (pc := 7) dX12_looks_7 rfl (by decide) rfl rfl ?_
  have hB0 : h mo_ 41 = 0 ∧ B0 = none ∨ h mo_ 41 = 1 ∧ ∃ q, B0 = some q ∧ h mo_ 42 = q.1 ∧ h mo_ 43 = q.2.1 := by
    cases B0 with
    | none => exact Or.inl ⟨hB, rfl⟩
    | some q => exact Or.inr ⟨hB.1, q, rfl, hB.2.1, hB.2.2.1⟩
  have J56 : ∀ (v : Int), (v = 1 ∧ (bet_ (h mo_ 39) z4 (h mMoves t) B0) ∨ v = 0 ∧ ¬ (bet_ (h mo_ 39) z4 (h mMoves t) B0)) → PW G RX12 cX12_looks 5 none (rm_ 4) 0 0 (zm_ G (qv_ (fun h' => off_ [mBestRow, mBestTotals, mo_] h h' ∧ (∀ k, k ≠ 41 → k ≠ 42 → k ≠ 43 → h' mo_ k = h mo_ k) ∧ bst_ t (h mRoads 2) h' (lok_ (h mo_ 39) (h mRoads 2) (fun k => h mLawfuls (h mRow k)) (fun r => h mTotals (4 * t + r)) (h mMoves t) B0)))) 56 [some (rr_ G mo_), some (ii_ t), some (ii_ z4), none, none] [ii_ v] h := by
    intro v hv
    refine pw_istore_n (lv1 := [some (rr_ G mo_), some (ii_ t), some (ii_ z4), some (ii_ v), none]) (pc := 56) dX12_looks_56 rfl (by decide) rfl rfl ?_
    refine pw_iload_n (z := v) (pc := 57) dX12_looks_57 rfl rfl ?_
    refine pw_if_eq (t := 148) (pc := 58) dX12_looks_58 (by decide) (by first | omega) (fun c58 => ?_) (fun c58 => ?_)
    · exact pw_vret (pc := 148) dX12_looks_148 (by
                first
                | (have nb := dj_0 hv c58
                   refine ⟨off_rf, fun _ _ _ _ => rfl, ?_⟩
                   unfold lok_; rw [← ve, if_f nb]; exact hB)
                | (have yb := dj_1 hv c58
                   have gm : g78 mo_ = ob_ (ob_ (ob_ (h mo_) 41 1) 42 z4) 43 (h mMoves t) := by rw [e78, up_ob, e68, up_ob, e63, up_ob]
                   have g0 : off_ [mBestRow, mBestTotals, mo_] h g78 := by rw [e78, e68, e63]; exact off_up (off_up (off_up off_rf (by decide)) (by decide)) (by decide)
                   have am0 : a2 mo_ = g78 mo_ := by rw [bf mo_ (by decide), af mo_ (by decide)]
                   refine ⟨off_tr g0 (off_tr (off_mo af (by decide)) (off_mo bf (by decide))), fun x x1 x2 x3 => ?_, ?_⟩
                   · rw [am0, gm]; unfold ob_; rw [if_neg x3, if_neg x2, if_neg x1]
                   · unfold lok_; rw [← ve, if_t yb]
                     refine ⟨?_, ?_, ?_, fun x x0 x1 => ?_, fun x x0 x1 => ?_⟩
                     · rw [am0, gm]; rfl
                     · rw [am0, gm]; rfl
                     · rw [am0, gm]; rfl
                     · rw [bf mBestRow (by decide)]; exact ad x x0 (by omega)
                     · exact bd x x0 (by omega)))
    · refine pw_aload_n (z := mo_) (pc := 61) dX12_looks_61 rfl rfl ?_
      refine pw_iconst (pc := 62) dX12_looks_62 ?_
      refine pw_pZ (x := 41) (pc := 63) dX12_looks_63 fX12_437 (im_mo_ hM) k_mo_ rfl rfl (by first | omega) ?_
      obtain ⟨g63, e63⟩ : ∃ x, x = up_ h mo_ 41 1 := ⟨_, rfl⟩
      refine pw_heq e63 ?_
      refine pw_aload_n (z := mo_) (pc := 66) dX12_looks_66 rfl rfl ?_
      refine pw_iload_n (z := z4) (pc := 67) dX12_looks_67 rfl rfl ?_
      refine pw_pI (x := 42) (pc := 68) dX12_looks_68 fX12_440 (im_mo_ hM) k_mo_ rfl rfl (by first | omega) ?_
      obtain ⟨g68, e68⟩ : ∃ x, x = up_ g63 mo_ 42 z4 := ⟨_, rfl⟩
      refine pw_heq e68 ?_
      refine pw_aload_n (z := mo_) (pc := 71) dX12_looks_71 rfl rfl ?_
      refine pw_aload_n (z := mo_) (pc := 72) dX12_looks_72 rfl rfl ?_
      refine pw_getR (r := mMoves) (pc := 73) dX12_looks_73 fX12_155 (im_mo_ hM) k_mo_ rfl fr_mMoves ?_
      refine pw_iload_n (z := t) (pc := 76) dX12_looks_76 rfl rfl ?_
      refine pw_iald (pc := 77) dX12_looks_77 (im_mMoves hM) k_mMoves 5 l_mMoves (by first | omega) (by first | omega) (by first | omega) (fun r77 => ?_)
      have n_g68_mMoves : g68 mMoves = h mMoves := ((show g68 mMoves = g63 mMoves from (by rw [e68]; exact up_off (by decide))).trans (show g63 mMoves = h mMoves from (by rw [e63]; exact up_off (by decide))))
      rw [n_g68_mMoves] at r77 ⊢
      refine pw_pI (x := 43) (pc := 78) dX12_looks_78 fX12_443 (im_mo_ hM) k_mo_ rfl rfl (by first | omega | (simp only [n_g68_mMoves]; omega)) ?_
      obtain ⟨g78, e78⟩ : ∃ x, x = up_ g68 mo_ 43 (h mMoves t) := ⟨_, rfl⟩
      refine pw_heq e78 ?_
      refine pw_iconst (pc := 81) dX12_looks_81 ?_
      refine pw_istore (lv1 := [some (rr_ G mo_), some (ii_ t), some (ii_ z4), some (ii_ v), some (ii_ 0)]) (pc := 82) dX12_looks_82 (by decide) rfl rfl ?_
      have L84 : ∀ (nn : Nat) (k : Int) (a1 : PH_), (0 ≤ k ∧ k ≤ t) → (off_ [mBestRow] g78 a1) → (∀ x, 0 ≤ x → x < k → a1 mBestRow x = h mLawfuls (h mRow x)) → ((t - k + 1 : Int) ≤ nn) → PW G RX12 cX12_looks 5 none (rm_ 4) 0 0 (zm_ G (qv_ (fun h' => off_ [mBestRow, mBestTotals, mo_] h h' ∧ (∀ k, k ≠ 41 → k ≠ 42 → k ≠ 43 → h' mo_ k = h mo_ k) ∧ bst_ t (h mRoads 2) h' (lok_ (h mo_ 39) (h mRoads 2) (fun k => h mLawfuls (h mRow k)) (fun r => h mTotals (4 * t + r)) (h mMoves t) B0)))) 84 [some (rr_ G mo_), some (ii_ t), some (ii_ z4), some (ii_ v), some (ii_ k)] [] a1 := by
        intro nn
        induction nn with
        | zero => intro k a1 ak af ad ams; exfalso; omega
        | succ nn ih84 =>
          intro k a1 ak af ad ams
          refine pw_iload (z := k) (pc := 84) dX12_looks_84 rfl ?_
          refine pw_iload_n (z := t) (pc := 86) dX12_looks_86 rfl rfl ?_
          refine pw_icmp_ge (t := 115) (pc := 87) dX12_looks_87 (by decide) (by first | omega | (simp only [n_g68_mMoves]; omega)) (by first | omega | (simp only [n_g68_mMoves]; omega)) (fun c87 => ?_) (fun c87 => ?_)
          · refine pw_iconst (pc := 115) dX12_looks_115 ?_
            refine pw_istore (lv1 := [some (rr_ G mo_), some (ii_ t), some (ii_ z4), some (ii_ v), some (ii_ 0)]) (pc := 116) dX12_looks_116 (by decide) rfl rfl ?_
            have L118 : ∀ (nn : Nat) (r : Int) (a2 : PH_), (0 ≤ r ∧ r ≤ 4) → (off_ [mBestTotals] a1 a2) → (∀ x, 0 ≤ x → x < r → a2 mBestTotals x = h mTotals (4 * t + x)) → ((4 - r + 1 : Int) ≤ nn) → PW G RX12 cX12_looks 5 none (rm_ 4) 0 0 (zm_ G (qv_ (fun h' => off_ [mBestRow, mBestTotals, mo_] h h' ∧ (∀ k, k ≠ 41 → k ≠ 42 → k ≠ 43 → h' mo_ k = h mo_ k) ∧ bst_ t (h mRoads 2) h' (lok_ (h mo_ 39) (h mRoads 2) (fun k => h mLawfuls (h mRow k)) (fun r => h mTotals (4 * t + r)) (h mMoves t) B0)))) 118 [some (rr_ G mo_), some (ii_ t), some (ii_ z4), some (ii_ v), some (ii_ r)] [] a2 := by
              intro nn
              induction nn with
              | zero => intro r a2 bk bf bd ams; exfalso; omega
              | succ nn ih118 =>
                intro r a2 bk bf bd ams
                refine pw_iload (z := r) (pc := 118) dX12_looks_118 rfl ?_
                refine pw_iconst (pc := 120) dX12_looks_120 ?_
                refine pw_icmp_ge (t := 148) (pc := 121) dX12_looks_121 (by decide) (by first | omega | (simp only [n_g68_mMoves]; omega)) (by first | omega | (simp only [n_g68_mMoves]; omega)) (fun c121 => ?_) (fun c121 => ?_)
                · exact pw_vret (pc := 148) dX12_looks_148 (by
                            first
                            | (have nb := dj_0 hv c58
                               refine ⟨off_rf, fun _ _ _ _ => rfl, ?_⟩
                               unfold lok_; rw [← ve, if_f nb]; exact hB)
                            | (have yb := dj_1 hv c58
                               have gm : g78 mo_ = ob_ (ob_ (ob_ (h mo_) 41 1) 42 z4) 43 (h mMoves t) := by rw [e78, up_ob, e68, up_ob, e63, up_ob]
                               have g0 : off_ [mBestRow, mBestTotals, mo_] h g78 := by rw [e78, e68, e63]; exact off_up (off_up (off_up off_rf (by decide)) (by decide)) (by decide)
                               have am0 : a2 mo_ = g78 mo_ := by rw [bf mo_ (by decide), af mo_ (by decide)]
                               refine ⟨off_tr g0 (off_tr (off_mo af (by decide)) (off_mo bf (by decide))), fun x x1 x2 x3 => ?_, ?_⟩
                               · rw [am0, gm]; unfold ob_; rw [if_neg x3, if_neg x2, if_neg x1]
                               · unfold lok_; rw [← ve, if_t yb]
                                 refine ⟨?_, ?_, ?_, fun x x0 x1 => ?_, fun x x0 x1 => ?_⟩
                                 · rw [am0, gm]; rfl
                                 · rw [am0, gm]; rfl
                                 · rw [am0, gm]; rfl
                                 · rw [bf mBestRow (by decide)]; exact ad x x0 (by omega)
                                 · exact bd x x0 (by omega)))
                · refine pw_aload_n (z := mo_) (pc := 124) dX12_looks_124 rfl rfl ?_
                  refine pw_getR (r := mBestTotals) (pc := 125) dX12_looks_125 fX12_164 (im_mo_ hM) k_mo_ rfl fr_mBestTotals ?_
                  refine pw_iload (z := r) (pc := 128) dX12_looks_128 rfl ?_
                  refine pw_aload_n (z := mo_) (pc := 130) dX12_looks_130 rfl rfl ?_
                  refine pw_getR (r := mTotals) (pc := 131) dX12_looks_131 fX12_152 (im_mo_ hM) k_mo_ rfl fr_mTotals ?_
                  refine pw_iconst (pc := 134) dX12_looks_134 ?_
                  refine pw_iload_n (z := t) (pc := 135) dX12_looks_135 rfl rfl ?_
                  refine pw_imul (pc := 136) dX12_looks_136 ?_
                  refine pw_iload (z := r) (pc := 137) dX12_looks_137 rfl ?_
                  refine pw_iadd (pc := 139) dX12_looks_139 ?_
                  refine pw_iald (pc := 140) dX12_looks_140 (im_mTotals hM) k_mTotals 20 l_mTotals (by first | omega | (simp only [n_g68_mMoves]; omega)) (by first | omega | (simp only [n_g68_mMoves]; omega)) (by first | omega | (simp only [n_g68_mMoves]; omega)) (fun r140 => ?_)
                  have n_a2_mTotals : a2 mTotals = h mTotals := (((((show a2 mTotals = a1 mTotals from (bf mTotals (by decide))).trans (show a1 mTotals = g78 mTotals from (af mTotals (by decide)))).trans (show g78 mTotals = g68 mTotals from (by rw [e78]; exact up_off (by decide)))).trans (show g68 mTotals = g63 mTotals from (by rw [e68]; exact up_off (by decide)))).trans (show g63 mTotals = h mTotals from (by rw [e63]; exact up_off (by decide))))
                  rw [n_a2_mTotals] at r140 ⊢
                  refine pw_iast (pc := 141) dX12_looks_141 (im_mBestTotals hM) k_mBestTotals 4 l_mBestTotals (by first | omega | (simp only [n_a2_mTotals, n_g68_mMoves]; omega)) (by first | omega | (simp only [n_a2_mTotals, n_g68_mMoves]; omega)) (by first | omega | (simp only [n_a2_mTotals, n_g68_mMoves]; omega)) (by first | omega | (simp only [n_a2_mTotals, n_g68_mMoves]; omega)) ?_
                  obtain ⟨g141, e141⟩ : ∃ x, x = up_ a2 mBestTotals r (h mTotals ((4 * t) + r)) := ⟨_, rfl⟩
                  refine pw_heq e141 ?_
                  refine pw_iinc (z := r) (lv1 := [some (rr_ G mo_), some (ii_ t), some (ii_ z4), some (ii_ v), some (ii_ (r + 1))]) (pc := 142) dX12_looks_142 rfl (by decide) rfl rfl ?_
                  refine pw_goto (t := 118) (pc := 145) dX12_looks_145 (by decide) ?_
                  exact ih118 _ _ (by omega) (by rw [e141]; exact off_up bf (by decide)) (fun x x0 x1 => by rw [e141, up_at]; by_cases c : x = r; exact (by rw [if_pos c, c]); exact (by rw [if_neg c]; exact bd x x0 (by omega))) (by omega)
            exact L118 _ _ _ (by omega) (off_rf) (fun x _ _ => by omega) (Int.self_le_toNat _)
          · have hrk := hrow k (by omega) (by omega)
            refine pw_aload_n (z := mo_) (pc := 90) dX12_looks_90 rfl rfl ?_
            refine pw_getR (r := mBestRow) (pc := 91) dX12_looks_91 fX12_161 (im_mo_ hM) k_mo_ rfl fr_mBestRow ?_
            refine pw_iload (z := k) (pc := 94) dX12_looks_94 rfl ?_
            refine pw_aload_n (z := mo_) (pc := 96) dX12_looks_96 rfl rfl ?_
            refine pw_getR (r := mLawfuls) (pc := 97) dX12_looks_97 fX12_140 (im_mo_ hM) k_mo_ rfl fr_mLawfuls ?_
            refine pw_aload_n (z := mo_) (pc := 100) dX12_looks_100 rfl rfl ?_
            refine pw_getR (r := mRow) (pc := 101) dX12_looks_101 fX12_149 (im_mo_ hM) k_mo_ rfl fr_mRow ?_
            refine pw_iload (z := k) (pc := 104) dX12_looks_104 rfl ?_
            refine pw_iald (pc := 106) dX12_looks_106 (im_mRow hM) k_mRow 5 l_mRow (by first | omega | (simp only [n_g68_mMoves]; omega)) (by first | omega | (simp only [n_g68_mMoves]; omega)) (by first | omega | (simp only [n_g68_mMoves]; omega)) (fun r106 => ?_)
            have n_a1_mRow : a1 mRow = h mRow := ((((show a1 mRow = g78 mRow from (af mRow (by decide))).trans (show g78 mRow = g68 mRow from (by rw [e78]; exact up_off (by decide)))).trans (show g68 mRow = g63 mRow from (by rw [e68]; exact up_off (by decide)))).trans (show g63 mRow = h mRow from (by rw [e63]; exact up_off (by decide))))
            rw [n_a1_mRow] at r106 ⊢
            refine pw_iald (pc := 107) dX12_looks_107 (im_mLawfuls hM) k_mLawfuls 24 l_mLawfuls (by first | omega | (simp only [n_a1_mRow, n_g68_mMoves]; omega)) (by first | omega | (simp only [n_a1_mRow, n_g68_mMoves]; omega)) (by first | omega | (simp only [n_a1_mRow, n_g68_mMoves]; omega)) (fun r107 => ?_)
            have n_a1_mLawfuls : a1 mLawfuls = h mLawfuls := ((((show a1 mLawfuls = g78 mLawfuls from (af mLawfuls (by decide))).trans (show g78 mLawfuls = g68 mLawfuls from (by rw [e78]; exact up_off (by decide)))).trans (show g68 mLawfuls = g63 mLawfuls from (by rw [e68]; exact up_off (by decide)))).trans (show g63 mLawfuls = h mLawfuls from (by rw [e63]; exact up_off (by decide))))
            rw [n_a1_mLawfuls] at r107 ⊢
            refine pw_iast (pc := 108) dX12_looks_108 (im_mBestRow hM) k_mBestRow 5 l_mBestRow (by first | omega | (simp only [n_a1_mLawfuls, n_a1_mRow, n_g68_mMoves]; omega)) (by first | omega | (simp only [n_a1_mLawfuls, n_a1_mRow, n_g68_mMoves]; omega)) (by first | omega | (simp only [n_a1_mLawfuls, n_a1_mRow, n_g68_mMoves]; omega)) (by first | omega | (simp only [n_a1_mLawfuls, n_a1_mRow, n_g68_mMoves]; omega)) ?_
            obtain ⟨g108, e108⟩ : ∃ x, x = up_ a1 mBestRow k (h mLawfuls (h mRow k)) := ⟨_, rfl⟩
            refine pw_heq e108 ?_
            refine pw_iinc (z := k) (lv1 := [some (rr_ G mo_), some (ii_ t), some (ii_ z4), some (ii_ v), some (ii_ (k + 1))]) (pc := 109) dX12_looks_109 rfl (by decide) rfl rfl ?_
            refine pw_goto (t := 84) (pc := 112) dX12_looks_112 (by decide) ?_
            exact ih84 _ _ (by omega) (by rw [e108]; exact off_up af (by decide)) (fun x x0 x1 => by rw [e108, up_at]; by_cases c : x = k; exact (by rw [if_pos c, c]); exact (by rw [if_neg c]; exact ad x x0 (by omega))) (by omega)
      exact L84 _ _ _ (by omega) (off_rf) (fun x _ _ => by omega) (Int.self_le_toNat _)
  refine pw_aload_n (z := mo_) (pc := 8) dX12_looks_8 rfl rfl ?_
  refine pw_gI (x := 41) (pc := 9) dX12_looks_9 fX12_437 (im_mo_ hM) k_mo_ rfl rfl (fun r9 => ?_)
  refine pw_if_eq (t := 51) (pc := 12) dX12_looks_12 (by decide) (by first | omega) (fun c12 => ?_) (fun c12 => ?_)
  · refine pw_iconst (pc := 51) dX12_looks_51 ?_
    refine pw_goto (t := 56) (pc := 52) dX12_looks_52 (by decide) ?_
    exact J56 _ (by
             rcases hB0 with ⟨b1, b2⟩ | ⟨b1, q, b2, b3, b4⟩
             · subst b2; first | exact Or.inl ⟨rfl, trivial⟩ | omega
             · subst b2; show _ ∧ (_ ∨ _) ∨ _ ∧ ¬ (_ ∨ _); omega)
  · refine pw_iload_n (z := z4) (pc := 15) dX12_looks_15 rfl rfl ?_
    refine pw_aload_n (z := mo_) (pc := 16) dX12_looks_16 rfl rfl ?_
    refine pw_gI (x := 42) (pc := 17) dX12_looks_17 fX12_440 (im_mo_ hM) k_mo_ rfl rfl (fun r17 => ?_)
    refine pw_icmp_lt (t := 51) (pc := 20) dX12_looks_20 (by decide) (by first | omega) (by first | omega) (fun c20 => ?_) (fun c20 => ?_)
    · refine pw_iconst (pc := 51) dX12_looks_51 ?_
      refine pw_goto (t := 56) (pc := 52) dX12_looks_52 (by decide) ?_
      exact J56 _ (by
               rcases hB0 with ⟨b1, b2⟩ | ⟨b1, q, b2, b3, b4⟩
               · subst b2; first | exact Or.inl ⟨rfl, trivial⟩ | omega
               · subst b2; show _ ∧ (_ ∨ _) ∨ _ ∧ ¬ (_ ∨ _); omega)
    · refine pw_aload_n (z := mo_) (pc := 23) dX12_looks_23 rfl rfl ?_
      refine pw_gI (x := 39) (pc := 24) dX12_looks_24 fX12_428 (im_mo_ hM) k_mo_ rfl rfl (fun r24 => ?_)
      refine pw_if_ne (t := 55) (pc := 27) dX12_looks_27 (by decide) (by first | omega) (fun c27 => ?_) (fun c27 => ?_)
      · refine pw_iconst (pc := 55) dX12_looks_55 ?_
        exact J56 _ (by
                 rcases hB0 with ⟨b1, b2⟩ | ⟨b1, q, b2, b3, b4⟩
                 · subst b2; first | exact Or.inl ⟨rfl, trivial⟩ | omega
                 · subst b2; show _ ∧ (_ ∨ _) ∨ _ ∧ ¬ (_ ∨ _); omega)
      · refine pw_iload_n (z := z4) (pc := 30) dX12_looks_30 rfl rfl ?_
        refine pw_aload_n (z := mo_) (pc := 31) dX12_looks_31 rfl rfl ?_
        refine pw_gI (x := 42) (pc := 32) dX12_looks_32 fX12_440 (im_mo_ hM) k_mo_ rfl rfl (fun r32 => ?_)
        refine pw_icmp_ne (t := 55) (pc := 35) dX12_looks_35 (by decide) (by first | omega) (by first | omega) (fun c35 => ?_) (fun c35 => ?_)
        · refine pw_iconst (pc := 55) dX12_looks_55 ?_
          exact J56 _ (by
                   rcases hB0 with ⟨b1, b2⟩ | ⟨b1, q, b2, b3, b4⟩
                   · subst b2; first | exact Or.inl ⟨rfl, trivial⟩ | omega
                   · subst b2; show _ ∧ (_ ∨ _) ∨ _ ∧ ¬ (_ ∨ _); omega)
        · refine pw_aload_n (z := mo_) (pc := 38) dX12_looks_38 rfl rfl ?_
          refine pw_getR (r := mMoves) (pc := 39) dX12_looks_39 fX12_155 (im_mo_ hM) k_mo_ rfl fr_mMoves ?_
          refine pw_iload_n (z := t) (pc := 42) dX12_looks_42 rfl rfl ?_
          refine pw_iald (pc := 43) dX12_looks_43 (im_mMoves hM) k_mMoves 5 l_mMoves (by first | omega) (by first | omega) (by first | omega) (fun r43 => ?_)
          refine pw_aload_n (z := mo_) (pc := 44) dX12_looks_44 rfl rfl ?_
          refine pw_gI (x := 43) (pc := 45) dX12_looks_45 fX12_443 (im_mo_ hM) k_mo_ rfl rfl (fun r45 => ?_)
          refine pw_icmp_ge (t := 55) (pc := 48) dX12_looks_48 (by decide) (by first | omega) (by first | omega) (fun c48 => ?_) (fun c48 => ?_)
          · refine pw_iconst (pc := 55) dX12_looks_55 ?_
            exact J56 _ (by
                     rcases hB0 with ⟨b1, b2⟩ | ⟨b1, q, b2, b3, b4⟩
                     · subst b2; first | exact Or.inl ⟨rfl, trivial⟩ | omega
                     · subst b2; show _ ∧ (_ ∨ _) ∨ _ ∧ ¬ (_ ∨ _); omega)
          · refine pw_iconst (pc := 51) dX12_looks_51 ?_
            refine pw_goto (t := 56) (pc := 52) dX12_looks_52 (by decide) ?_
            exact J56 _ (by
                     rcases hB0 with ⟨b1, b2⟩ | ⟨b1, q, b2, b3, b4⟩
                     · subst b2; first | exact Or.inl ⟨rfl, trivial⟩ | omega
                     · subst b2; show _ ∧ (_ ∨ _) ∨ _ ∧ ¬ (_ ∨ _); omega)

