set_option maxHeartbeats 4000000 in
set_option maxRecDepth 100000 in
theorem c_goes0 {G : GT_} (hM : okM_ G) (h : PH_) (P : List (Int × Int)) (t : Int) (B0 : BT_) (hp : gpr_ P 0 t h B0) : PC G yX12_goesThrough cX12_goesThrough 5 none (5 + 0) [rr_ G mo_, ii_ t] h (qv_ (fun h' => gps_ P 0 t h B0 h')) := by
  obtain ⟨hS, hR1, hT, h4, hf, ht, hm, hmm, hrow, hb, hB⟩ := hp
  have l24 := lpn_24 hS (by omega)
  refine PC.of (lv := [some (rr_ G mo_), some (ii_ t), none, none, none]) (by decide +kernel) (Nat.le_of_ble_eq_true rfl) rfl rfl ?_
  refine pw_iload_n (z := t) (pc := 0) dX12_goesThrough_0 rfl rfl ?_
  refine pw_aload_n (z := mo_) (pc := 1) dX12_goesThrough_1 rfl rfl ?_
  refine pw_callV (c := 12) (o := mo_) (As := []) (rest := [ii_ t]) (pc := 2) dX12_goesThrough_2 (c_stretches hM h) lX12_368 mX12_stretches vX12_stretches (im_mo_ hM) k_mo_ rfl rfl rfl (by constructor <;> simp only [rm_] <;> omega) ⟨Nat.zero_le _, Nat.zero_le _⟩ (Nat.le_of_ble_eq_true rfl) (k_i (fun z2 h2 y2 q2 => ?_))
  obtain ⟨rfl, rfl⟩ := q2
  refine pw_icmp_ne (t := 14) (pc := 5) dX12_goesThrough_5 (by decide) (by first | omega) (by first | omega) (fun c5 => ?_) (fun c5 => ?_)
  · exfalso; omega
  · refine pw_aload_n (z := mo_) (pc := 8) dX12_goesThrough_8 rfl rfl ?_
    refine pw_iload_n (z := t) (pc := 9) dX12_goesThrough_9 rfl rfl ?_
    refine pw_callV (c := 12) (o := mo_) (As := [ii_ t]) (rest := []) (pc := 10) dX12_goesThrough_10 (c_looks hM h hS (by first | omega) hR1.1 t (by first | omega) (fun r r0 r1 => by have := hb r r0 r1; omega) (fun k k0 k1 => by have := hrow k k0 k1; omega) B0 (by rw [show t = h mRoads 1 by omega]; exact hB)) lX12_446 mX12_looks vX12_looks (im_mo_ hM) k_mo_ rfl rfl rfl (by constructor <;> simp only [rm_] <;> omega) ⟨Nat.zero_le _, Nat.zero_le _⟩ (Nat.le_of_ble_eq_true rfl) (k_v (fun h10 q10 => ?_))
    obtain ⟨f10, m10, b10⟩ := q10
    exact pw_vret (pc := 13) dX12_goesThrough_13 (by
              refine ⟨off_mo f10 (by decide), m10, fun x _ => by rw [f10 mMoves (by decide)], fun x _ => by rw [f10 mRow (by decide)], fun x _ => by rw [f10 mTotals (by decide)], ?_⟩
              have e := lok_tr hR1.1 b10
              rw [show t = h mRoads 1 by omega] at e
              rw [show t = h mRoads 1 by omega]
              show bst_ _ _ _ (lok_ _ _ (trn_ _ (fun k => pL_ (h mRoads) (h mRow k))) _ _ _)
              rw [trn_cg (g := fun k => h mLawfuls (h mRow k)) (fun k k0 k1 => by
                have := hrow k k0 (by omega)
                show (lpn_ (h mRoads) 256).getD _ 0 = _
                rw [arr_at hf.2.1 this.1 this.2])]
              exact e)

set_option maxHeartbeats 1000000 in
set_option maxRecDepth 100000 in
theorem c_goesS {G : GT_} (hM : okM_ G) (h : PH_) (P : List (Int × Int)) (n : Nat) (IH : gpc_ G P n) (t : Int) (B0 : BT_) (hp : gpr_ P (n + 1) t h B0) : PC G yX12_goesThrough cX12_goesThrough 5 none (5 + (n + 1)) [rr_ G mo_, ii_ t] h (qv_ (fun h' => gps_ P (n + 1) t h B0 h')) := by
  obtain ⟨hS, hR1, hT, h4, hf, ht, hm, hmm, hrow, hb, hB⟩ := hp
  have l24 := lpn_24 hS (by omega)
  have tt : h mRoads 1 - 1 - (n : Int) = t := by omega
  have tn4 : t ≤ 3 := by omega
  refine PC.of (lv := [some (rr_ G mo_), some (ii_ t), none, none, none]) (by decide +kernel) (Nat.le_of_ble_eq_true rfl) rfl rfl ?_
  refine pw_iload_n (z := t) (pc := 0) dX12_goesThrough_0 rfl rfl ?_
  refine pw_aload_n (z := mo_) (pc := 1) dX12_goesThrough_1 rfl rfl ?_
  refine pw_callV (c := 12) (o := mo_) (As := []) (rest := [ii_ t]) (pc := 2) dX12_goesThrough_2 (c_stretches hM h) lX12_368 mX12_stretches vX12_stretches (im_mo_ hM) k_mo_ rfl rfl rfl (by constructor <;> simp only [rm_] <;> omega) ⟨Nat.zero_le _, Nat.zero_le _⟩ (Nat.le_of_ble_eq_true rfl) (k_i (fun z2 h2 y2 q2 => ?_))
  obtain ⟨rfl, rfl⟩ := q2
  refine pw_icmp_ne (t := 14) (pc := 5) dX12_goesThrough_5 (by decide) (by first | omega) (by first | omega) (fun c5 => ?_) (fun c5 => ?_)
  · refine pw_iconst (pc := 14) dX12_goesThrough_14 ?_
    refine pw_istore_n (lv1 := [some (rr_ G mo_), some (ii_ t), some (ii_ 0), none, none]) (pc := 15) dX12_goesThrough_15 rfl (by decide) rfl rfl ?_
    have L16 : ∀ (nn : Nat) (k : Int) (a1 : PH_), (0 ≤ k ∧ k ≤ (lpn_ (h mRoads) 256).length) → (off_ [mMoves, mRow, mTotals, mBestRow, mBestTotals, mo_] h a1) → (∀ x, x ≠ 41 → x ≠ 42 → x ≠ 43 → a1 mo_ x = h mo_ x) → (∀ x, x ≤ t → a1 mMoves x = h mMoves x) → (∀ x, x < t → a1 mRow x = h mRow x) → (∀ x, x < 4 * t + 4 → a1 mTotals x = h mTotals x) → (bst_ (h mRoads 1) (h mRoads 2) a1 ((List.range k.toNat).foldl (fun (B : BT_) (j : Nat) => if_ (h mMoves t + bit_ (gse_ (pC_ (h mRoads)) (h mRow) t (j : Int)) 4 ≤ h mo_ 40) (gtr_ (h mRoads) P (h mo_ 39) (h mo_ 40) n (ob_ (h mRow) t (j : Int)) (gto_ (h mRoads 4) (pW_ (h mRoads) P) (fun r => h mTotals (4 * t + r)) (gse_ (pC_ (h mRoads)) (h mRow) t (j : Int)) t (j : Int)) (h mMoves t + bit_ (gse_ (pC_ (h mRoads)) (h mRow) t (j : Int)) 4) B) B) B0)) → ((((lpn_ (h mRoads) 256).length : Int) - k + 1 : Int) ≤ nn) → PW G RX12 cX12_goesThrough 5 none (rm_ (5 + (n + 1))) 0 0 (zm_ G (qv_ (fun h' => gps_ P (n + 1) t h B0 h'))) 16 [some (rr_ G mo_), some (ii_ t), some (ii_ k), none, none] [] a1 := by
      intro nn
      induction nn with
      | zero => intro k a1 ak af ao am ar a_t aB ams; exfalso; omega
      | succ nn ih16 =>
        intro k a1 ak af ao am ar a_t aB ams
        have o40 : a1 mo_ 40 = h mo_ 40 := ao 40 (by decide) (by decide) (by decide)
        have o32 : a1 mo_ 32 = ((lpn_ (h mRoads) 256).length : Int) := by rw [ao 32 (by decide) (by decide) (by decide)]; exact hf.1
        have af5 : fpl_ (h mRoads) P a1 := fpl_mv (af mLawfuls (by decide)) (af mWorths (by decide)) (af mChanges (by decide)) (ao 32 (by decide) (by decide) (by decide)) hf
        refine pw_iload_n (z := k) (pc := 16) dX12_goesThrough_16 rfl rfl ?_
        refine pw_aload_n (z := mo_) (pc := 17) dX12_goesThrough_17 rfl rfl ?_
        refine pw_gI (x := 32) (pc := 18) dX12_goesThrough_18 fX12_422 (im_mo_ hM) k_mo_ rfl rfl (fun r18 => ?_)
        refine pw_icmp_ge (t := 185) (pc := 21) dX12_goesThrough_21 (by decide) (by first | omega) (by first | omega) (fun c21 => ?_) (fun c21 => ?_)
        · exact pw_vret (pc := 185) dX12_goesThrough_185 (by
                    refine ⟨af, ao, am, ar, a_t, ?_⟩
                    rw [gtr_s tt, show ((lpn_ (h mRoads) 256).length : Nat) = k.toNat by omega]
                    exact aB)
        · have n1 : a1 mRoads = h mRoads := af mRoads (by decide)
          have kl : k < (lpn_ (h mRoads) 256).length := by omega
          have J179 : ∀ (a2 : PH_), (off_ [mMoves, mRow, mTotals, mBestRow, mBestTotals, mo_] h a2) → (∀ x, x ≠ 41 → x ≠ 42 → x ≠ 43 → a2 mo_ x = h mo_ x) → (∀ x, x ≤ t → a2 mMoves x = h mMoves x) → (∀ x, x < t → a2 mRow x = h mRow x) → (∀ x, x < 4 * t + 4 → a2 mTotals x = h mTotals x) → (bst_ (h mRoads 1) (h mRoads 2) a2 ((List.range (k + 1).toNat).foldl (fun (B : BT_) (j : Nat) => if_ (h mMoves t + bit_ (gse_ (pC_ (h mRoads)) (h mRow) t (j : Int)) 4 ≤ h mo_ 40) (gtr_ (h mRoads) P (h mo_ 39) (h mo_ 40) n (ob_ (h mRow) t (j : Int)) (gto_ (h mRoads 4) (pW_ (h mRoads) P) (fun r => h mTotals (4 * t + r)) (gse_ (pC_ (h mRoads)) (h mRow) t (j : Int)) t (j : Int)) (h mMoves t + bit_ (gse_ (pC_ (h mRoads)) (h mRow) t (j : Int)) 4) B) B) B0)) → PW G RX12 cX12_goesThrough 5 none (rm_ (5 + (n + 1))) 0 0 (zm_ G (qv_ (fun h' => gps_ P (n + 1) t h B0 h'))) 179 [some (rr_ G mo_), some (ii_ t), some (ii_ k), none, none] [] a2 := by
            intro a2 jf jo jm jr jt jB
            refine pw_iinc (z := k) (lv1 := [some (rr_ G mo_), some (ii_ t), some (ii_ (k + 1)), none, none]) (pc := 179) dX12_goesThrough_179 rfl (by decide) rfl rfl ?_
            refine pw_goto (t := 16) (pc := 182) dX12_goesThrough_182 (by decide) ?_
            exact ih16 _ _ (by omega) (jf) (jo) (jm) (jr) (jt) (jB) (by omega)
          have J50 : ∀ (v : Int), (v = gse_ (pC_ (h mRoads)) (h mRow) t k ∧ 0 ≤ v ∧ v < 16) → PW G RX12 cX12_goesThrough 5 none (rm_ (5 + (n + 1))) 0 0 (zm_ G (qv_ (fun h' => gps_ P (n + 1) t h B0 h'))) 50 [some (rr_ G mo_), some (ii_ t), some (ii_ k), none, none] [ii_ v] a1 := by
            intro v hv
            refine pw_istore_n (lv1 := [some (rr_ G mo_), some (ii_ t), some (ii_ k), some (ii_ v), none]) (pc := 50) dX12_goesThrough_50 rfl (by decide) rfl rfl ?_
            have bb := bit_b v 4
            have amt : a1 mMoves t = h mMoves t := am t (by omega)
            refine pw_aload_n (z := mo_) (pc := 51) dX12_goesThrough_51 rfl rfl ?_
            refine pw_getR (r := mMoves) (pc := 52) dX12_goesThrough_52 fX12_155 (im_mo_ hM) k_mo_ rfl fr_mMoves ?_
            refine pw_iload_n (z := t) (pc := 55) dX12_goesThrough_55 rfl rfl ?_
            refine pw_iconst (pc := 56) dX12_goesThrough_56 ?_
            refine pw_iadd (pc := 57) dX12_goesThrough_57 ?_
            refine pw_aload_n (z := mo_) (pc := 58) dX12_goesThrough_58 rfl rfl ?_
            refine pw_getR (r := mMoves) (pc := 59) dX12_goesThrough_59 fX12_155 (im_mo_ hM) k_mo_ rfl fr_mMoves ?_
            refine pw_iload_n (z := t) (pc := 62) dX12_goesThrough_62 rfl rfl ?_
            refine pw_iald (pc := 63) dX12_goesThrough_63 (im_mMoves hM) k_mMoves 5 l_mMoves (by first | omega) (by first | omega) (by first | omega) (fun r63 => ?_)
            refine pw_iload_n (z := v) (pc := 64) dX12_goesThrough_64 rfl rfl ?_
            refine pw_callS (As := [ii_ v]) (rest := [ii_ (a1 mMoves t), ii_ (t + 1), rr_ G mMoves]) (pc := 65) dX12_goesThrough_65 (c_bits a1 v (by first | omega)) lX12_449 mX12_bits sX12_bits rfl rfl (by constructor <;> simp only [rm_] <;> omega) ⟨Nat.zero_le _, Nat.zero_le _⟩ (Nat.le_of_ble_eq_true rfl) (k_i (fun z65 h65 y65 q65 => ?_))
            obtain ⟨rfl, rfl⟩ := q65
            refine pw_iadd (pc := 68) dX12_goesThrough_68 ?_
            refine pw_iast (pc := 69) dX12_goesThrough_69 (im_mMoves hM) k_mMoves 5 l_mMoves (by first | omega) (by first | omega) (by first | omega) (by first | omega) ?_
            obtain ⟨g69, e69⟩ : ∃ x, x = up_ a1 mMoves (t + 1) ((a1 mMoves t) + (bit_ v 4)) := ⟨_, rfl⟩
            refine pw_heq e69 ?_
            refine pw_aload_n (z := mo_) (pc := 70) dX12_goesThrough_70 rfl rfl ?_
            refine pw_getR (r := mMoves) (pc := 71) dX12_goesThrough_71 fX12_155 (im_mo_ hM) k_mo_ rfl fr_mMoves ?_
            refine pw_iload_n (z := t) (pc := 74) dX12_goesThrough_74 rfl rfl ?_
            refine pw_iconst (pc := 75) dX12_goesThrough_75 ?_
            refine pw_iadd (pc := 76) dX12_goesThrough_76 ?_
            refine pw_iald (pc := 77) dX12_goesThrough_77 (im_mMoves hM) k_mMoves 5 l_mMoves (by first | omega) (by first | omega) (by first | omega) (fun r77 => ?_)
            refine pw_aload_n (z := mo_) (pc := 78) dX12_goesThrough_78 rfl rfl ?_
            refine pw_gI (x := 40) (pc := 79) dX12_goesThrough_79 fX12_452 (im_mo_ hM) k_mo_ rfl rfl (fun r79 => ?_)
            have n_g69_mo__40 : g69 mo_ 40 = a1 mo_ 40 := (by rw [e69, up_off (by decide)])
            rw [n_g69_mo__40] at r79 ⊢
            refine pw_icmp_gt (t := 179) (pc := 82) dX12_goesThrough_82 (by decide) (by first | omega | (simp only [n_g69_mo__40]; omega)) (by first | omega | (simp only [n_g69_mo__40]; omega)) (fun c82 => ?_) (fun c82 => ?_)
            · refine pw_less (lv1 := [some (rr_ G mo_), some (ii_ t), some (ii_ k), none, none]) rfl (by intro i v; (match i with | 0 => simp | 1 => simp | 2 => simp | 3 => simp | 4 => simp | n + 5 => simp)) ?_
              exact J179 _ (by first | (rw [e69]; exact off_up af (by decide)) | exact off_tr (off_tr (by rw [e91, e69]; exact off_up (off_up af (by decide)) (by decide)) (off_mo bf (by decide))) i1) (by first | exact fun x x1 x2 x3 => by rw [e69, up_off (by decide)]; exact ao x x1 x2 x3 | exact fun x x1 x2 x3 => by rw [i2 x x1 x2 x3, bf mo_ (by decide), e91, up_off (by decide), e69, up_off (by decide)]; exact ao x x1 x2 x3) (by first | exact fun x x1 => by rw [e69, up_at, if_neg (by omega)]; exact am x x1 | exact fun x x1 => by rw [i3 x (by omega), bf mMoves (by decide), e91, up_off (by decide), e69, up_at, if_neg (by omega)]; exact am x x1) (by first | exact fun x x1 => by rw [e69, up_off (by decide)]; exact ar x x1 | exact fun x x1 => by rw [i4 x (by omega), bf mRow (by decide), e91, up_at, if_neg (by omega), e69, up_off (by decide)]; exact ar x x1) (by first | exact fun x x1 => by rw [e69, up_off (by decide)]; exact a_t x x1 | exact fun x x1 => by rw [i5 x (by omega), bl x x1]) (by
                       rw [tn_s ak.1, List.range_succ, List.foldl_append]
                       show bst_ _ _ _ (if_ (h mMoves t + bit_ (gse_ (pC_ (h mRoads)) (h mRow) t (k.toNat : Int)) 4 ≤ h mo_ 40) _ _)
                       rw [tn_c ak.1]
                       first
                       | (rw [if_f (by rw [e69, up_same, amt, o40] at c82; rw [← hv.1]; omega)]; exact bst_mv (by rw [e69, up_off (by decide)]) (by rw [e69, up_off (by decide)]) (by rw [e69, up_off (by decide)]) aB)
                       | (rw [if_t mle]
                          have q1 : b1 mRoads = h mRoads := (bf mRoads (by decide)).trans (by rw [e91, up_off (by decide), e69, up_off (by decide), n1])
                          have q2 : b1 mo_ = a1 mo_ := (bf mo_ (by decide)).trans (by rw [e91, up_off (by decide), e69, up_off (by decide)])
                          have q3 : b1 mMoves (t + 1) = h mMoves t + bit_ (gse_ (pC_ (h mRoads)) (h mRow) t k) 4 := by rw [bf mMoves (by decide), e91, up_off (by decide), e69, up_same, hv.1, am t (by omega)]
                          rw [q1, q2, ao 39 (by decide) (by decide) (by decide), o40, q3] at i7
                          rw [gtr_cg n (row' := b1 mRow) (tot' := fun r => b1 mTotals (4 * (t + 1) + r)) (by omega) (fun j j0 j1 => by
                            rw [bf mRow (by decide), e91, up_ob]
                            unfold ob_
                            by_cases c : j = t
                            · rw [if_pos c, if_pos c]
                            · rw [if_neg c, if_neg c, e69, up_off (by decide), ar j (by omega)]) (fun r r0 r1 => by
                            show gto_ _ _ _ _ _ _ _ = b1 mTotals (4 * (t + 1) + r)
                            rw [show 4 * (t + 1) + r = 4 * t + 4 + r by omega, bt r r0 (by omega)])]
                          exact i7))
            · have mle : h mMoves t + bit_ (gse_ (pC_ (h mRoads)) (h mRow) t k) 4 ≤ h mo_ 40 := by rw [e69, up_same, amt, o40] at c82; rw [← hv.1]; omega
              refine pw_aload_n (z := mo_) (pc := 85) dX12_goesThrough_85 rfl rfl ?_
              refine pw_getR (r := mRow) (pc := 86) dX12_goesThrough_86 fX12_149 (im_mo_ hM) k_mo_ rfl fr_mRow ?_
              refine pw_iload_n (z := t) (pc := 89) dX12_goesThrough_89 rfl rfl ?_
              refine pw_iload_n (z := k) (pc := 90) dX12_goesThrough_90 rfl rfl ?_
              refine pw_iast (pc := 91) dX12_goesThrough_91 (im_mRow hM) k_mRow 5 l_mRow (by first | omega | (simp only [n_g69_mo__40]; omega)) (by first | omega | (simp only [n_g69_mo__40]; omega)) (by first | omega | (simp only [n_g69_mo__40]; omega)) (by first | omega | (simp only [n_g69_mo__40]; omega)) ?_
              obtain ⟨g91, e91⟩ : ∃ x, x = up_ g69 mRow t k := ⟨_, rfl⟩
              refine pw_heq e91 ?_
              refine pw_iconst (pc := 92) dX12_goesThrough_92 ?_
              refine pw_istore (lv1 := [some (rr_ G mo_), some (ii_ t), some (ii_ k), some (ii_ v), some (ii_ 0)]) (pc := 93) dX12_goesThrough_93 (by decide) rfl rfl ?_
              have L95 : ∀ (nn : Nat) (r : Int) (b1 : PH_), (0 ≤ r ∧ r ≤ h mRoads 2) → (off_ [mTotals] g91 b1) → (∀ x, x < 4 * t + 4 → b1 mTotals x = h mTotals x) → (∀ q, 0 ≤ q → q < r → b1 mTotals (4 * t + 4 + q) = gto_ (h mRoads 4) (pW_ (h mRoads) P) (fun r => h mTotals (4 * t + r)) (gse_ (pC_ (h mRoads)) (h mRow) t k) t k q) → ((h mRoads 2 - r + 1 : Int) ≤ nn) → PW G RX12 cX12_goesThrough 5 none (rm_ (5 + (n + 1))) 0 0 (zm_ G (qv_ (fun h' => gps_ P (n + 1) t h B0 h'))) 95 [some (rr_ G mo_), some (ii_ t), some (ii_ k), some (ii_ v), some (ii_ r)] [] b1 := by
                intro nn
                induction nn with
                | zero => intro r b1 bk bf bl bt ams; exfalso; omega
                | succ nn ih95 =>
                  intro r b1 bk bf bl bt ams
                  have n5 : b1 mRoads = h mRoads := (bf mRoads (by decide)).trans (by rw [e91, up_off (by decide), e69, up_off (by decide), n1])
                  refine pw_iload (z := r) (pc := 95) dX12_goesThrough_95 rfl ?_
                  refine pw_aload_n (z := mo_) (pc := 97) dX12_goesThrough_97 rfl rfl ?_
                  refine pw_callV (c := 12) (o := mo_) (As := []) (rest := [ii_ r]) (pc := 98) dX12_goesThrough_98 (c_riders hM b1) lX12_334 mX12_riders vX12_riders (im_mo_ hM) k_mo_ rfl rfl rfl (by constructor <;> simp only [rm_] <;> omega) ⟨Nat.zero_le _, Nat.zero_le _⟩ (Nat.le_of_ble_eq_true rfl) (k_i (fun z98 h98 y98 q98 => ?_))
                  obtain ⟨rfl, rfl⟩ := q98
                  have n_b1_mRoads : b1 mRoads = h mRoads := ((((show b1 mRoads = g91 mRoads from (bf mRoads (by decide))).trans (show g91 mRoads = g69 mRoads from (by rw [e91]; exact up_off (by decide)))).trans (show g69 mRoads = a1 mRoads from (by rw [e69]; exact up_off (by decide)))).trans (show a1 mRoads = h mRoads from (af mRoads (by decide))))
                  rw [n_b1_mRoads] at y98 ⊢
                  refine pw_icmp_ge (t := 172) (pc := 101) dX12_goesThrough_101 (by decide) (by first | omega | (simp only [n_b1_mRoads, n_g69_mo__40]; omega)) (by first | omega | (simp only [n_b1_mRoads, n_g69_mo__40]; omega)) (fun c101 => ?_) (fun c101 => ?_)
                  · have pre : gpr_ P n (t + 1) b1 (( (List.range k.toNat).foldl (fun (B : BT_) (j : Nat) => if_ (h mMoves t + bit_ (gse_ (pC_ (h mRoads)) (h mRow) t (j : Int)) 4 ≤ h mo_ 40) (gtr_ (h mRoads) P (h mo_ 39) (h mo_ 40) n (ob_ (h mRow) t (j : Int)) (gto_ (h mRoads 4) (pW_ (h mRoads) P) (fun r => h mTotals (4 * t + r)) (gse_ (pC_ (h mRoads)) (h mRow) t (j : Int)) t (j : Int)) (h mMoves t + bit_ (gse_ (pC_ (h mRoads)) (h mRow) t (j : Int)) 4) B) B) B0)) := by
                      have q1 : b1 mRoads = h mRoads := (bf mRoads (by decide)).trans (by rw [e91, up_off (by decide), e69, up_off (by decide), n1])
                      have q2 : b1 mo_ = a1 mo_ := (bf mo_ (by decide)).trans (by rw [e91, up_off (by decide), e69, up_off (by decide)])
                      refine ⟨by rw [q1]; exact hS, by rw [q1]; exact hR1, by rw [q1]; exact hT, by rw [q1]; exact h4, ?_, by rw [q1]; omega, ?_, by rw [q2, o40]; exact hmm, ?_, ?_, ?_⟩
                      · rw [q1]; exact fpl_mv (by rw [bf mLawfuls (by decide), e91, up_off (by decide), e69, up_off (by decide)]) (by rw [bf mWorths (by decide), e91, up_off (by decide), e69, up_off (by decide)]) (by rw [bf mChanges (by decide), e91, up_off (by decide), e69, up_off (by decide)]) (by rw [q2]) af5
                      · rw [bf mMoves (by decide), e91, up_off (by decide), e69, up_same]; rw [hv.1]; have := bit_b (gse_ (pC_ (h mRoads)) (h mRow) t k) 4; rw [am t (by omega)]; omega
                      · intro j j0 j1
                        rw [q1, bf mRow (by decide), e91, up_at]
                        by_cases c : j = t
                        · rw [if_pos c]; omega
                        · rw [if_neg c, e69, up_off (by decide), ar j (by omega)]; exact hrow j j0 (by omega)
                      · intro q q0 q1'
                        rw [q1] at q1'
                        rw [show 4 * (t + 1) + q = 4 * t + 4 + q by omega, bt q q0 (by omega)]
                        have w1 := hb q q0 q1'
                        have w2 := wsi_b (h mRoads) P (dg_ (h mRoads 2) ((lpn_ (h mRoads) 256).getD k.toNat 0)) q t
                        show _ ≤ h mTotals (4 * t + q) + wsi_ _ _ _ _ _ - _ ∧ h mTotals (4 * t + q) + wsi_ _ _ _ _ _ - _ ≤ _
                        split <;> omega
                      · rw [q1]; exact bst_mv (by rw [bf mBestRow (by decide), e91, up_off (by decide), e69, up_off (by decide)]) (by rw [bf mBestTotals (by decide), e91, up_off (by decide), e69, up_off (by decide)]) q2 aB
                    refine pw_aload_n (z := mo_) (pc := 172) dX12_goesThrough_172 rfl rfl ?_
                    refine pw_iload_n (z := t) (pc := 173) dX12_goesThrough_173 rfl rfl ?_
                    refine pw_iconst (pc := 174) dX12_goesThrough_174 ?_
                    refine pw_iadd (pc := 175) dX12_goesThrough_175 ?_
                    refine pw_callV (c := 12) (o := mo_) (As := [ii_ (t + 1)]) (rest := []) (pc := 176) dX12_goesThrough_176 (IH b1 (t + 1) ((List.range k.toNat).foldl (fun (B : BT_) (j : Nat) => if_ (h mMoves t + bit_ (gse_ (pC_ (h mRoads)) (h mRow) t (j : Int)) 4 ≤ h mo_ 40) (gtr_ (h mRoads) P (h mo_ 39) (h mo_ 40) n (ob_ (h mRow) t (j : Int)) (gto_ (h mRoads 4) (pW_ (h mRoads) P) (fun r => h mTotals (4 * t + r)) (gse_ (pC_ (h mRoads)) (h mRow) t (j : Int)) t (j : Int)) (h mMoves t + bit_ (gse_ (pC_ (h mRoads)) (h mRow) t (j : Int)) 4) B) B) B0) pre) lX12_455 mX12_goesThrough vX12_goesThrough (im_mo_ hM) k_mo_ rfl rfl rfl ⟨by show 5 + n + 1 ≤ 5 + (n + 1); omega, by show 19 + 5 + 60 * (5 + n) ≤ 60 * (5 + (n + 1)); omega⟩ ⟨Nat.zero_le _, Nat.zero_le _⟩ (Nat.le_of_ble_eq_true rfl) (k_v (fun h176 q176 => ?_))
                    obtain ⟨i1, i2, i3, i4, i5, i7⟩ := q176
                    refine pw_less (lv1 := [some (rr_ G mo_), some (ii_ t), some (ii_ k), none, none]) rfl (by intro i v; (match i with | 0 => simp | 1 => simp | 2 => simp | 3 => simp | 4 => simp | n + 5 => simp)) ?_
                    exact J179 _ (by first | (rw [e69]; exact off_up af (by decide)) | exact off_tr (off_tr (by rw [e91, e69]; exact off_up (off_up af (by decide)) (by decide)) (off_mo bf (by decide))) i1) (by first | exact fun x x1 x2 x3 => by rw [e69, up_off (by decide)]; exact ao x x1 x2 x3 | exact fun x x1 x2 x3 => by rw [i2 x x1 x2 x3, bf mo_ (by decide), e91, up_off (by decide), e69, up_off (by decide)]; exact ao x x1 x2 x3) (by first | exact fun x x1 => by rw [e69, up_at, if_neg (by omega)]; exact am x x1 | exact fun x x1 => by rw [i3 x (by omega), bf mMoves (by decide), e91, up_off (by decide), e69, up_at, if_neg (by omega)]; exact am x x1) (by first | exact fun x x1 => by rw [e69, up_off (by decide)]; exact ar x x1 | exact fun x x1 => by rw [i4 x (by omega), bf mRow (by decide), e91, up_at, if_neg (by omega), e69, up_off (by decide)]; exact ar x x1) (by first | exact fun x x1 => by rw [e69, up_off (by decide)]; exact a_t x x1 | exact fun x x1 => by rw [i5 x (by omega), bl x x1]) (by
                             rw [tn_s ak.1, List.range_succ, List.foldl_append]
                             show bst_ _ _ _ (if_ (h mMoves t + bit_ (gse_ (pC_ (h mRoads)) (h mRow) t (k.toNat : Int)) 4 ≤ h mo_ 40) _ _)
                             rw [tn_c ak.1]
                             first
                             | (rw [if_f (by rw [e69, up_same, amt, o40] at c82; rw [← hv.1]; omega)]; exact bst_mv (by rw [e69, up_off (by decide)]) (by rw [e69, up_off (by decide)]) (by rw [e69, up_off (by decide)]) aB)
                             | (rw [if_t mle]
                                have q1 : b1 mRoads = h mRoads := (bf mRoads (by decide)).trans (by rw [e91, up_off (by decide), e69, up_off (by decide), n1])
                                have q2 : b1 mo_ = a1 mo_ := (bf mo_ (by decide)).trans (by rw [e91, up_off (by decide), e69, up_off (by decide)])
                                have q3 : b1 mMoves (t + 1) = h mMoves t + bit_ (gse_ (pC_ (h mRoads)) (h mRow) t k) 4 := by rw [bf mMoves (by decide), e91, up_off (by decide), e69, up_same, hv.1, am t (by omega)]
                                rw [q1, q2, ao 39 (by decide) (by decide) (by decide), o40, q3] at i7
                                rw [gtr_cg n (row' := b1 mRow) (tot' := fun r => b1 mTotals (4 * (t + 1) + r)) (by omega) (fun j j0 j1 => by
                                  rw [bf mRow (by decide), e91, up_ob]
                                  unfold ob_
                                  by_cases c : j = t
                                  · rw [if_pos c, if_pos c]
                                  · rw [if_neg c, if_neg c, e69, up_off (by decide), ar j (by omega)]) (fun r r0 r1 => by
                                  show gto_ _ _ _ _ _ _ _ = b1 mTotals (4 * (t + 1) + r)
                                  rw [show 4 * (t + 1) + r = 4 * t + 4 + r by omega, bt r r0 (by omega)])]
                                exact i7))
                  · have t1 : b1 mTotals (4 * t + r) = h mTotals (4 * t + r) := bl _ (by omega)
                    have w1 : h mWorths (96 * t + 4 * k + r) = wsi_ (h mRoads) P (dg_ (h mRoads 2) ((lpn_ (h mRoads) 256).getD k.toNat 0)) r t := hf.2.2.1 k t r ak.1 (by omega) (by omega) bk.1 c101 (Or.inl kl)
                    have t2 := hb r bk.1 c101
                    have w2 := wsi_b (h mRoads) P (dg_ (h mRoads 2) ((lpn_ (h mRoads) 256).getD k.toNat 0)) r t
                    refine pw_aload_n (z := mo_) (pc := 104) dX12_goesThrough_104 rfl rfl ?_
                    refine pw_getR (r := mTotals) (pc := 105) dX12_goesThrough_105 fX12_152 (im_mo_ hM) k_mo_ rfl fr_mTotals ?_
                    refine pw_iconst (pc := 108) dX12_goesThrough_108 ?_
                    refine pw_iload_n (z := t) (pc := 109) dX12_goesThrough_109 rfl rfl ?_
                    refine pw_imul (pc := 110) dX12_goesThrough_110 ?_
                    refine pw_iconst (pc := 111) dX12_goesThrough_111 ?_
                    refine pw_iadd (pc := 112) dX12_goesThrough_112 ?_
                    refine pw_iload (z := r) (pc := 113) dX12_goesThrough_113 rfl ?_
                    refine pw_iadd (pc := 115) dX12_goesThrough_115 ?_
                    refine pw_aload_n (z := mo_) (pc := 116) dX12_goesThrough_116 rfl rfl ?_
                    refine pw_getR (r := mTotals) (pc := 117) dX12_goesThrough_117 fX12_152 (im_mo_ hM) k_mo_ rfl fr_mTotals ?_
                    refine pw_iconst (pc := 120) dX12_goesThrough_120 ?_
                    refine pw_iload_n (z := t) (pc := 121) dX12_goesThrough_121 rfl rfl ?_
                    refine pw_imul (pc := 122) dX12_goesThrough_122 ?_
                    refine pw_iload (z := r) (pc := 123) dX12_goesThrough_123 rfl ?_
                    refine pw_iadd (pc := 125) dX12_goesThrough_125 ?_
                    refine pw_iald (pc := 126) dX12_goesThrough_126 (im_mTotals hM) k_mTotals 20 l_mTotals (by first | omega | (simp only [n_b1_mRoads, n_g69_mo__40]; omega)) (by first | omega | (simp only [n_b1_mRoads, n_g69_mo__40]; omega)) (by first | omega | (simp only [n_b1_mRoads, n_g69_mo__40]; omega)) (fun r126 => ?_)
                    refine pw_aload_n (z := mo_) (pc := 127) dX12_goesThrough_127 rfl rfl ?_
                    refine pw_getR (r := mWorths) (pc := 128) dX12_goesThrough_128 fX12_143 (im_mo_ hM) k_mo_ rfl fr_mWorths ?_
                    refine pw_bipush (pc := 131) dX12_goesThrough_131 rfl ?_
                    refine pw_iload_n (z := t) (pc := 133) dX12_goesThrough_133 rfl rfl ?_
                    refine pw_imul (pc := 134) dX12_goesThrough_134 ?_
                    refine pw_iconst (pc := 135) dX12_goesThrough_135 ?_
                    refine pw_iload_n (z := k) (pc := 136) dX12_goesThrough_136 rfl rfl ?_
                    refine pw_imul (pc := 137) dX12_goesThrough_137 ?_
                    refine pw_iadd (pc := 138) dX12_goesThrough_138 ?_
                    refine pw_iload (z := r) (pc := 139) dX12_goesThrough_139 rfl ?_
                    refine pw_iadd (pc := 141) dX12_goesThrough_141 ?_
                    refine pw_iald (pc := 142) dX12_goesThrough_142 (im_mWorths hM) k_mWorths 384 l_mWorths (by first | omega | (simp only [n_b1_mRoads, n_g69_mo__40]; omega)) (by first | omega | (simp only [n_b1_mRoads, n_g69_mo__40]; omega)) (by first | omega | (simp only [n_b1_mRoads, n_g69_mo__40]; omega)) (fun r142 => ?_)
                    have n_b1_mWorths : b1 mWorths = h mWorths := ((((show b1 mWorths = g91 mWorths from (bf mWorths (by decide))).trans (show g91 mWorths = g69 mWorths from (by rw [e91]; exact up_off (by decide)))).trans (show g69 mWorths = a1 mWorths from (by rw [e69]; exact up_off (by decide)))).trans (show a1 mWorths = h mWorths from (af mWorths (by decide))))
                    rw [n_b1_mWorths] at r142 ⊢
                    refine pw_iadd (pc := 143) dX12_goesThrough_143 ?_
                    have J164 : ∀ (v2 : Int), (v2 = (if (gse_ (pC_ (h mRoads)) (h mRow) t k) / 2 ^ r.toNat % 2 = 1 then h mRoads 4 else 0) ∧ 0 ≤ v2 ∧ v2 ≤ 99) → PW G RX12 cX12_goesThrough 5 none (rm_ (5 + (n + 1))) 0 0 (zm_ G (qv_ (fun h' => gps_ P (n + 1) t h B0 h'))) 164 [some (rr_ G mo_), some (ii_ t), some (ii_ k), some (ii_ v), some (ii_ r)] [ii_ v2, ii_ (b1 mTotals (4 * t + r) + h mWorths (96 * t + 4 * k + r)), ii_ (4 * t + 4 + r), rr_ G mTotals] b1 := by
                      intro v2 hv2
                      refine pw_isub (pc := 164) dX12_goesThrough_164 ?_
                      refine pw_iast (pc := 165) dX12_goesThrough_165 (im_mTotals hM) k_mTotals 20 l_mTotals (by first | omega | (simp only [n_b1_mRoads, n_b1_mWorths, n_g69_mo__40]; omega)) (by first | omega | (simp only [n_b1_mRoads, n_b1_mWorths, n_g69_mo__40]; omega)) (by first | omega | (simp only [n_b1_mRoads, n_b1_mWorths, n_g69_mo__40]; omega)) (by first | omega | (simp only [n_b1_mRoads, n_b1_mWorths, n_g69_mo__40]; omega)) ?_
                      obtain ⟨g165, e165⟩ : ∃ x, x = up_ b1 mTotals (4 * t + 4 + r) ((b1 mTotals (4 * t + r) + h mWorths (96 * t + 4 * k + r)) - v2) := ⟨_, rfl⟩
                      refine pw_heq e165 ?_
                      refine pw_iinc (z := r) (lv1 := [some (rr_ G mo_), some (ii_ t), some (ii_ k), some (ii_ v), some (ii_ (r + 1))]) (pc := 166) dX12_goesThrough_166 rfl (by decide) rfl rfl ?_
                      refine pw_goto (t := 95) (pc := 169) dX12_goesThrough_169 (by decide) ?_
                      exact ih95 _ _ (by omega) (by rw [e165]; exact off_up bf (by decide)) (fun x x1 => by rw [e165, up_at, if_neg (by omega)]; exact bl x x1) (fun q q0 q1 => by rw [e165, up_at]; by_cases c : q = r; exact (by rw [if_pos (by omega), c]; show _ = h mTotals (4 * t + r) + wsi_ _ _ _ _ _ - _; rw [t1, w1, hv2.1]); exact (by rw [if_neg (by omega)]; exact bt q q0 (by omega))) (by omega)
                    refine pw_iload_n (z := v) (pc := 144) dX12_goesThrough_144 rfl rfl ?_
                    refine pw_iload (z := r) (pc := 145) dX12_goesThrough_145 rfl ?_
                    refine pw_ishr (pc := 147) dX12_goesThrough_147 (by first | omega | (simp only [n_b1_mRoads, n_b1_mWorths, n_g69_mo__40]; omega)) (by first | omega | (simp only [n_b1_mRoads, n_b1_mWorths, n_g69_mo__40]; omega)) ?_
                    refine pw_iconst (pc := 148) dX12_goesThrough_148 ?_
                    refine pw_iand1 (pc := 149) dX12_goesThrough_149 ?_
                    refine pw_iconst (pc := 150) dX12_goesThrough_150 ?_
                    refine pw_icmp_ne (t := 163) (pc := 151) dX12_goesThrough_151 (by decide) (by first | omega | (simp only [n_b1_mRoads, n_b1_mWorths, n_g69_mo__40]; omega)) (by first | omega | (simp only [n_b1_mRoads, n_b1_mWorths, n_g69_mo__40]; omega)) (fun c151 => ?_) (fun c151 => ?_)
                    · refine pw_iconst (pc := 163) dX12_goesThrough_163 ?_
                      exact J164 _ (by rw [← hv.1]; first | (rw [if_pos c151]; omega) | (rw [if_neg c151]; omega))
                    · refine pw_aload_n (z := mo_) (pc := 154) dX12_goesThrough_154 rfl rfl ?_
                      refine pw_getR (r := mRoads) (pc := 155) dX12_goesThrough_155 fX12_97 (im_mo_ hM) k_mo_ rfl fr_mRoads ?_
                      refine pw_iconst (pc := 158) dX12_goesThrough_158 ?_
                      refine pw_iald (pc := 159) dX12_goesThrough_159 (im_mRoads hM) k_mRoads 160 l_mRoads (by first | omega | (simp only [n_b1_mRoads, n_b1_mWorths, n_g69_mo__40]; omega)) (by first | omega | (simp only [n_b1_mRoads, n_b1_mWorths, n_g69_mo__40]; omega)) (by first | omega | (simp only [n_b1_mRoads, n_b1_mWorths, n_g69_mo__40]; omega)) (fun r159 => ?_)
                      rw [n_b1_mRoads] at r159 ⊢
                      refine pw_goto (t := 164) (pc := 160) dX12_goesThrough_160 (by decide) ?_
                      exact J164 _ (by rw [← hv.1]; first | (rw [if_pos c151]; omega) | (rw [if_neg c151]; omega))
              exact L95 _ _ _ (by omega) (off_rf) (fun x x1 => by rw [e91, up_off (by decide), e69, up_off (by decide)]; exact a_t x x1) (fun q _ _ => by omega) (Int.self_le_toNat _)
          refine pw_iload_n (z := t) (pc := 24) dX12_goesThrough_24 rfl rfl ?_
          refine pw_if_ne (t := 32) (pc := 25) dX12_goesThrough_25 (by decide) (by first | omega) (fun c25 => ?_) (fun c25 => ?_)
          · have hr1 := hrow (t - 1) (by omega) (by omega)
            have r11 : a1 mRow (t - 1) = h mRow (t - 1) := ar _ (by omega)
            refine pw_aload_n (z := mo_) (pc := 32) dX12_goesThrough_32 rfl rfl ?_
            refine pw_getR (r := mChanges) (pc := 33) dX12_goesThrough_33 fX12_146 (im_mo_ hM) k_mo_ rfl fr_mChanges ?_
            refine pw_bipush (pc := 36) dX12_goesThrough_36 rfl ?_
            refine pw_aload_n (z := mo_) (pc := 38) dX12_goesThrough_38 rfl rfl ?_
            refine pw_getR (r := mRow) (pc := 39) dX12_goesThrough_39 fX12_149 (im_mo_ hM) k_mo_ rfl fr_mRow ?_
            refine pw_iload_n (z := t) (pc := 42) dX12_goesThrough_42 rfl rfl ?_
            refine pw_iconst (pc := 43) dX12_goesThrough_43 ?_
            refine pw_isub (pc := 44) dX12_goesThrough_44 ?_
            refine pw_iald (pc := 45) dX12_goesThrough_45 (im_mRow hM) k_mRow 5 l_mRow (by first | omega) (by first | omega) (by first | omega) (fun r45 => ?_)
            refine pw_imul (pc := 46) dX12_goesThrough_46 ?_
            refine pw_iload_n (z := k) (pc := 47) dX12_goesThrough_47 rfl rfl ?_
            refine pw_iadd (pc := 48) dX12_goesThrough_48 ?_
            refine pw_iald (pc := 49) dX12_goesThrough_49 (im_mChanges hM) k_mChanges 576 l_mChanges (by first | omega) (by first | omega) (by first | omega) (fun r49 => ?_)
            have n_a1_mChanges : a1 mChanges = h mChanges := (af mChanges (by decide))
            rw [n_a1_mChanges] at r49 ⊢
            exact J50 _ (by
                     first
                     | (unfold gse_; rw [if_pos c25]; omega)
                     | (unfold gse_; rw [if_neg c25, r11]
                        have c1 := af5.2.2.2 (h mRow (t - 1)) k hr1.1 ak.1 kl (by omega)
                        have c2 := chg_lt (R := h mRoads 2) (a := (lpn_ (h mRoads) 256).getD (h mRow (t - 1)).toNat 0) (b := (lpn_ (h mRoads) 256).getD k.toNat 0) (by omega) (h mRoads 2).toNat (by omega)
                        rw [af mChanges (by decide)] at c1
                        rw [c1]; exact ⟨rfl, by omega, by omega⟩))
          · refine pw_iconst (pc := 28) dX12_goesThrough_28 ?_
            refine pw_goto (t := 50) (pc := 29) dX12_goesThrough_29 (by decide) ?_
            exact J50 _ (by
                     first
                     | (unfold gse_; rw [if_pos c25]; omega)
                     | (unfold gse_; rw [if_neg c25, r11]
                        have c1 := af5.2.2.2 (h mRow (t - 1)) k hr1.1 ak.1 kl (by omega)
                        have c2 := chg_lt (R := h mRoads 2) (a := (lpn_ (h mRoads) 256).getD (h mRow (t - 1)).toNat 0) (b := (lpn_ (h mRoads) 256).getD k.toNat 0) (by omega) (h mRoads 2).toNat (by omega)
                        rw [af mChanges (by decide)] at c1
                        rw [c1]; exact ⟨rfl, by omega, by omega⟩))
    exact L16 _ _ _ (by omega) (off_rf) (fun _ _ _ _ => rfl) (fun _ _ => rfl) (fun _ _ => rfl) (fun _ _ => rfl) (hB) (Int.self_le_toNat _)
  · exfalso; omega

theorem c_goes {G : GT_} (hM : okM_ G) (P : List (Int × Int)) : ∀ n : Nat, gpc_ G P n
  | 0 => fun h t B0 hp => c_goes0 hM h P t B0 hp
  | n + 1 => fun h t B0 hp => c_goesS hM h P n (c_goes hM P n) t B0 hp
