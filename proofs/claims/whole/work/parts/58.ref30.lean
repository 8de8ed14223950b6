set_option maxHeartbeats 4000000 in
set_option maxRecDepth 100000 in
theorem c_findPieces {G : GT_} (hM : okM_ G) (h : PH_) (hS : 2 ≤ h mRoads 0 ∧ h mRoads 0 ≤ 4) (hR : h mRoads 2 = h mRoads 0) (m : Int) (h1 : 0 ≤ m ∧ m ≤ 1000) (hp : piv_ (h mRoads 0) (fun x => h mState (14 + x)) m) : PC G yX12_findPieces cX12_findPieces 6 none 4 [rr_ G mo_, ii_ m] h (qv_ (fun h' => off_ [mLeft, mPieces, mSits, mo_] h h' ∧ (∀ k, k ≠ 48 → h' mo_ k = h mo_ k) ∧ h' mo_ 48 = ((pcs_ (h mRoads 0) (h mRoads 0) 16 (fun x => h mState (14 + x)) m).length : Int) ∧ (pcs_ (h mRoads 0) (h mRoads 0) 16 (fun x => h mState (14 + x)) m).length ≤ 16 ∧ pca_ (h' mPieces) (pcs_ (h mRoads 0) (h mRoads 0) 16 (fun x => h mState (14 + x)) m))) := by
  refine PC.of (lv := [some (rr_ G mo_), some (ii_ m), none, none, none, none]) (by decide +kernel) (Nat.le_of_ble_eq_true rfl) rfl rfl ?_
  refine pw_iconst (pc := 0) dX12_findPieces_0 ?_
  refine pw_istore_n (lv1 := [some (rr_ G mo_), some (ii_ m), some (ii_ 0), none, none, none]) (pc := 1) dX12_findPieces_1 rfl (by decide) rfl rfl ?_
  have L2 : ∀ (nn : Nat) (k : Int) (a1 : PH_), (0 ≤ k ∧ k ≤ 16) → (off_ [mLeft] h a1) → (∀ x, 0 ≤ x → x < k → a1 mLeft x = h mState (14 + x)) → ((16 - k + 1 : Int) ≤ nn) → PW G RX12 cX12_findPieces 6 none (rm_ 4) 0 0 (zm_ G (qv_ (fun h' => off_ [mLeft, mPieces, mSits, mo_] h h' ∧ (∀ k, k ≠ 48 → h' mo_ k = h mo_ k) ∧ h' mo_ 48 = ((pcs_ (h mRoads 0) (h mRoads 0) 16 (fun x => h mState (14 + x)) m).length : Int) ∧ (pcs_ (h mRoads 0) (h mRoads 0) 16 (fun x => h mState (14 + x)) m).length ≤ 16 ∧ pca_ (h' mPieces) (pcs_ (h mRoads 0) (h mRoads 0) 16 (fun x => h mState (14 + x)) m)))) 2 [some (rr_ G mo_), some (ii_ m), some (ii_ k), none, none, none] [] a1 := by
    intro nn
    induction nn with
    | zero => intro k a1 a_k a_f a_l ams; exfalso; omega
    | succ nn ih2 =>
      intro k a1 a_k a_f a_l ams
      refine pw_iload_n (z := k) (pc := 2) dX12_findPieces_2 rfl rfl ?_
      refine pw_bipush (pc := 3) dX12_findPieces_3 rfl ?_
      refine pw_icmp_ge (t := 29) (pc := 5) dX12_findPieces_5 (by decide) (by first | omega) (by first | omega) (fun c5 => ?_) (fun c5 => ?_)
      · refine pw_aload_n (z := mo_) (pc := 29) dX12_findPieces_29 rfl rfl ?_
        refine pw_iconst (pc := 30) dX12_findPieces_30 ?_
        refine pw_pI (x := 48) (pc := 31) dX12_findPieces_31 fX12_465 (im_mo_ hM) k_mo_ rfl rfl (by first | omega) ?_
        obtain ⟨g31, e31⟩ : ∃ x, x = up_ a1 mo_ 48 0 := ⟨_, rfl⟩
        refine pw_heq e31 ?_
        have gf : off_ [mLeft, mPieces, mSits, mo_] h g31 := by rw [e31]; exact off_up (off_mo a_f (by decide)) (by decide)
        refine pw_iload_n (z := m) (pc := 34) dX12_findPieces_34 rfl rfl ?_
        refine pw_istore_n (lv1 := [some (rr_ G mo_), some (ii_ m), some (ii_ m), none, none, none]) (pc := 35) dX12_findPieces_35 rfl (by decide) rfl rfl ?_
        have L36 : ∀ (nn : Nat) (yet : Int) (kl : Int → Int) (L1 : List (Int × Int)) (hq : PH_), (0 ≤ yet ∧ yet ≤ 1000) → (off_ [mLeft, mPieces, mSits, mo_] h hq) → (∀ k, k ≠ 48 → hq mo_ k = h mo_ k) → (∀ x, 0 ≤ x → x < 16 → hq mLeft x = kl x) → (piv_ (h mRoads 0) kl yet) → (hq mo_ 48 = (L1.length : Int)) → (L1.length + nz_ kl 16 ≤ 16) → (pca_ (hq mPieces) L1) → (L1 ++ pcs_ (h mRoads 0) (h mRoads 0) (16 - L1.length) kl yet = pcs_ (h mRoads 0) (h mRoads 0) 16 (fun x => h mState (14 + x)) m) → ((yet + 1 : Int) ≤ nn) → PW G RX12 cX12_findPieces 6 none (rm_ 4) 0 0 (zm_ G (qv_ (fun h' => off_ [mLeft, mPieces, mSits, mo_] h h' ∧ (∀ k, k ≠ 48 → h' mo_ k = h mo_ k) ∧ h' mo_ 48 = ((pcs_ (h mRoads 0) (h mRoads 0) 16 (fun x => h mState (14 + x)) m).length : Int) ∧ (pcs_ (h mRoads 0) (h mRoads 0) 16 (fun x => h mState (14 + x)) m).length ≤ 16 ∧ pca_ (h' mPieces) (pcs_ (h mRoads 0) (h mRoads 0) 16 (fun x => h mState (14 + x)) m)))) 36 [some (rr_ G mo_), some (ii_ m), some (ii_ yet), none, none, none] [] hq := by
          intro nn
          induction nn with
          | zero => intro yet kl L1 hq ak af ao al ap am an aa ae ams; exfalso; omega
          | succ nn ih36 =>
            intro yet kl L1 hq ak af ao al ap am an aa ae ams
            refine pw_iload_n (z := yet) (pc := 36) dX12_findPieces_36 rfl rfl ?_
            refine pw_if_le (t := 154) (pc := 37) dX12_findPieces_37 (by decide) (by first | omega) (fun c37 => ?_) (fun c37 => ?_)
            · exact pw_vret (pc := 154) dX12_findPieces_154 (by
                        have y0 : yet = 0 := by omega
                        have e9 : pcs_ (h mRoads 0) (h mRoads 0) (16 - L1.length) kl yet = [] := by
                          rw [y0]
                          cases 16 - L1.length with
                          | zero => rfl
                          | succ n => show (if (0 : Int) ≤ 0 then [] else _) = []; rw [if_pos (by omega)]
                        rw [e9, List.append_nil] at ae
                        rw [← ae]
                        exact ⟨af, ao, am, by omega, aa⟩)
            · have nq : hq mRoads = h mRoads := af mRoads (by decide)
              obtain ⟨s1, s2, s3, s4, s5⟩ := piv_s hS ap (show 0 < yet by omega)
              have lm : L1.length + 1 ≤ 16 := by omega
              refine pw_iconst (pc := 40) dX12_findPieces_40 ?_
              refine pw_istore_n (lv1 := [some (rr_ G mo_), some (ii_ m), some (ii_ yet), some (ii_ 0), none, none]) (pc := 41) dX12_findPieces_41 rfl (by decide) rfl rfl ?_
              have L42 : ∀ (nn : Nat) (p : Int) (ha : PH_), (0 ≤ p ∧ p < 256) → (off_ [mSits] hq ha) → (fs1_ (pq_ (h mRoads 0) (h mRoads 0) kl) (256 - p).toNat p = (pp0_ (h mRoads 0) (h mRoads 0) kl)) → (∃ q, p ≤ q ∧ q < 256 ∧ (pq_ (h mRoads 0) (h mRoads 0) kl) q) → ((256 - p : Int) ≤ nn) → PW G RX12 cX12_findPieces 6 none (rm_ 4) 0 0 (zm_ G (qv_ (fun h' => off_ [mLeft, mPieces, mSits, mo_] h h' ∧ (∀ k, k ≠ 48 → h' mo_ k = h mo_ k) ∧ h' mo_ 48 = ((pcs_ (h mRoads 0) (h mRoads 0) 16 (fun x => h mState (14 + x)) m).length : Int) ∧ (pcs_ (h mRoads 0) (h mRoads 0) 16 (fun x => h mState (14 + x)) m).length ≤ 16 ∧ pca_ (h' mPieces) (pcs_ (h mRoads 0) (h mRoads 0) 16 (fun x => h mState (14 + x)) m)))) 42 [some (rr_ G mo_), some (ii_ m), some (ii_ yet), some (ii_ p), none, none] [] ha := by
                intro nn
                induction nn with
                | zero => intro p ha bk bf be bq ams; exfalso; omega
                | succ nn ih42 =>
                  intro p ha bk bf be bq ams
                  have na : ha mRoads = h mRoads := by rw [bf mRoads (by decide)]; exact nq
                  have J57 : ∀ (h2 : PH_), (off_ [mSits] ha h2) → (¬ (pq_ (h mRoads 0) (h mRoads 0) kl) p) → PW G RX12 cX12_findPieces 6 none (rm_ 4) 0 0 (zm_ G (qv_ (fun h' => off_ [mLeft, mPieces, mSits, mo_] h h' ∧ (∀ k, k ≠ 48 → h' mo_ k = h mo_ k) ∧ h' mo_ 48 = ((pcs_ (h mRoads 0) (h mRoads 0) 16 (fun x => h mState (14 + x)) m).length : Int) ∧ (pcs_ (h mRoads 0) (h mRoads 0) 16 (fun x => h mState (14 + x)) m).length ≤ 16 ∧ pca_ (h' mPieces) (pcs_ (h mRoads 0) (h mRoads 0) 16 (fun x => h mState (14 + x)) m)))) 57 [some (rr_ G mo_), some (ii_ m), some (ii_ yet), some (ii_ p), none, none] [] h2 := by
                    intro h2 bf2 np
                    have bq2 : (0 ≤ p + 1 ∧ p + 1 < 256) ∧ fs1_ (pq_ (h mRoads 0) (h mRoads 0) kl) (256 - (p + 1)).toNat (p + 1) = (pp0_ (h mRoads 0) (h mRoads 0) kl) ∧ ∃ q, p + 1 ≤ q ∧ q < 256 ∧ (pq_ (h mRoads 0) (h mRoads 0) kl) q := by
                      obtain ⟨q, q1, q2, q3⟩ := bq
                      have ne : q ≠ p := fun e => np (by rw [← e]; exact q3)
                      refine ⟨by omega, ?_, q, by omega, q2, q3⟩
                      have e := be
                      rw [show (256 - p).toNat = (256 - (p + 1)).toNat + 1 by omega] at e
                      unfold fs1_ at e
                      rw [if_f np] at e
                      exact e
                    have f44 := bf2
                    
                    refine pw_iinc (z := p) (lv1 := [some (rr_ G mo_), some (ii_ m), some (ii_ yet), some (ii_ (p + 1)), none, none]) (pc := 57) dX12_findPieces_57 rfl (by decide) rfl rfl ?_
                    refine pw_goto (t := 42) (pc := 60) dX12_findPieces_60 (by decide) ?_
                    exact ih42 _ _ (by have := bq2; omega) (off_tr bf f44) (bq2.2.1) (bq2.2.2) (by omega)
                  refine pw_aload_n (z := mo_) (pc := 42) dX12_findPieces_42 rfl rfl ?_
                  refine pw_iload_n (z := p) (pc := 43) dX12_findPieces_43 rfl rfl ?_
                  have n_ha_mRoads : ha mRoads = h mRoads := ((show ha mRoads = hq mRoads from (bf mRoads (by decide))).trans (show hq mRoads = h mRoads from (af mRoads (by decide))))
                  refine pw_callV (c := 12) (o := mo_) (As := [ii_ p]) (rest := []) (pc := 44) dX12_findPieces_44 (c_reads hM ha (by rw [na]; omega) (by rw [na]; omega) p (by first | omega | (simp only [n_ha_mRoads]; omega))) lX12_393 mX12_reads vX12_reads (im_mo_ hM) k_mo_ rfl rfl rfl (by decide) ⟨Nat.zero_le _, Nat.zero_le _⟩ (Nat.le_of_ble_eq_true rfl) (k_i (fun z44 h44 y44 q44 => ?_))
                  obtain ⟨f44, d44, ⟨rfl, p44⟩ | ⟨rfl, p44⟩⟩ := q44
                  · rw [na, hR] at p44
                    have b9 : ∀ r, 0 ≤ r → r < h mRoads 0 → h44 mSits r = dg_ (h mRoads 0) p r := fun r r0 r1 => by rw [d44 (by omega) r r0 (by rw [na, hR]; exact r1), na, hR]
                    have qq_h44 : h44 mRoads = ha mRoads := f44 mRoads (by decide)
                    have s_h44 : ∀ r, 0 ≤ r → r < h44 mRoads 2 → 0 ≤ h44 mSits r ∧ h44 mSits r ≤ 3 := fun r r0 r1 => by rw [b9 r r0 (by rw [qq_h44, na, hR] at r1; exact r1)]; exact dg_b _ _ _
                    simp -failIfUnchanged only [n_ha_mRoads] at p44
                    refine pw_if_eq (t := 57) (pc := 47) dX12_findPieces_47 (by decide) (by first | omega | (simp only [n_ha_mRoads]; omega)) (fun c47 => absurd c47 (by decide)) (fun _ => ?_)
                    refine pw_aload_n (z := mo_) (pc := 50) dX12_findPieces_50 rfl rfl ?_
                    refine pw_callV (c := 12) (o := mo_) (As := []) (rest := []) (pc := 51) dX12_findPieces_51 (c_leastLeft hM h44 (by rw [qq_h44, na]; omega) (by rw [qq_h44, na]; omega) s_h44) lX12_468 mX12_leastLeft vX12_leastLeft (im_mo_ hM) k_mo_ rfl rfl rfl (by decide) ⟨Nat.zero_le _, Nat.zero_le _⟩ (Nat.le_of_ble_eq_true rfl) (k_i (fun z51 h51 y51 q51 => ?_))
                    obtain ⟨rfl, w51⟩ := q51
                    have lw : z51 = lst_ kl (dg_ (h mRoads 0) p) (h mRoads 0).toNat := by
                      rw [w51, qq_h44, na, hR]
                      exact lst_cg (fun r r0 r1 => by rw [b9 r r0 (by omega)]; have := dg_b (h mRoads 0) p r; rw [f44 mLeft (by decide), bf mLeft (by decide)]; exact al _ (by omega) (by omega))
                    refine pw_if_ne (t := 63) (pc := 54) dX12_findPieces_54 (by decide) (by first | omega | (simp only [n_ha_mRoads]; omega)) (fun c54 => ?_) (fun c54 => ?_)
                    · rw [qq_h44, na] at s_h44
                      have pk : (pq_ (h mRoads 0) (h mRoads 0) kl) p := ⟨p44, by rw [← lw]; exact c54⟩
                      have pe : p = (pp0_ (h mRoads 0) (h mRoads 0) kl) := by
                        have e := be
                        rw [show (256 - p).toNat = (255 - p).toNat + 1 by omega] at e
                        unfold fs1_ at e
                        rw [if_t pk] at e
                        exact e
                      have lv : z51 = (pv0_ (h mRoads 0) (h mRoads 0) kl) := by rw [lw, pe]; unfold pv0_; rfl
                      refine pw_aload_n (z := mo_) (pc := 63) dX12_findPieces_63 rfl rfl ?_
                      refine pw_callV (c := 12) (o := mo_) (As := []) (rest := []) (pc := 64) dX12_findPieces_64 (c_leastLeft hM h44 (by rw [qq_h44, na]; omega) (by rw [qq_h44, na]; omega) (by rw [qq_h44, na]; exact s_h44)) lX12_468 mX12_leastLeft vX12_leastLeft (im_mo_ hM) k_mo_ rfl rfl rfl (by decide) ⟨Nat.zero_le _, Nat.zero_le _⟩ (Nat.le_of_ble_eq_true rfl) (k_i (fun z64 h64 y64 q64 => ?_))
                      obtain ⟨rfl, w64⟩ := q64
                      have w65 : z64 = z51 := by rw [w64, w51]
                      rw [w65]
                      refine pw_istore (lv1 := [some (rr_ G mo_), some (ii_ m), some (ii_ yet), some (ii_ p), some (ii_ z51), none]) (pc := 67) dX12_findPieces_67 (by decide) rfl rfl ?_
                      refine pw_iconst (pc := 69) dX12_findPieces_69 ?_
                      refine pw_istore (lv1 := [some (rr_ G mo_), some (ii_ m), some (ii_ yet), some (ii_ p), some (ii_ z51), some (ii_ 0)]) (pc := 70) dX12_findPieces_70 (by decide) rfl rfl ?_
                      have L72 : ∀ (nn : Nat) (r : Int) (kc : PH_), (0 ≤ r ∧ r ≤ h mRoads 0) → (off_ [mLeft] h44 kc) → (∀ x, 0 ≤ x → x < 16 → kc mLeft x = pcl_ kl (dg_ (h mRoads 0) p) z51 r x) → ((h mRoads 0 - r + 1 : Int) ≤ nn) → PW G RX12 cX12_findPieces 6 none (rm_ 4) 0 0 (zm_ G (qv_ (fun h' => off_ [mLeft, mPieces, mSits, mo_] h h' ∧ (∀ k, k ≠ 48 → h' mo_ k = h mo_ k) ∧ h' mo_ 48 = ((pcs_ (h mRoads 0) (h mRoads 0) 16 (fun x => h mState (14 + x)) m).length : Int) ∧ (pcs_ (h mRoads 0) (h mRoads 0) 16 (fun x => h mState (14 + x)) m).length ≤ 16 ∧ pca_ (h' mPieces) (pcs_ (h mRoads 0) (h mRoads 0) 16 (fun x => h mState (14 + x)) m)))) 72 [some (rr_ G mo_), some (ii_ m), some (ii_ yet), some (ii_ p), some (ii_ z51), some (ii_ r)] [] kc := by
                        intro nn
                        induction nn with
                        | zero => intro r kc ck cf cl ams; exfalso; omega
                        | succ nn ih72 =>
                          intro r kc ck cf cl ams
                          refine pw_iload (z := r) (pc := 72) dX12_findPieces_72 rfl ?_
                          refine pw_aload_n (z := mo_) (pc := 74) dX12_findPieces_74 rfl rfl ?_
                          refine pw_callV (c := 12) (o := mo_) (As := []) (rest := [ii_ r]) (pc := 75) dX12_findPieces_75 (c_riders hM kc) lX12_334 mX12_riders vX12_riders (im_mo_ hM) k_mo_ rfl rfl rfl (by decide) ⟨Nat.zero_le _, Nat.zero_le _⟩ (Nat.le_of_ble_eq_true rfl) (k_i (fun z75 h75 y75 q75 => ?_))
                          obtain ⟨rfl, rfl⟩ := q75
                          have n_kc_mRoads : kc mRoads = h mRoads := ((((show kc mRoads = h44 mRoads from (cf mRoads (by decide))).trans (show h44 mRoads = ha mRoads from (f44 mRoads (by decide)))).trans (show ha mRoads = hq mRoads from (bf mRoads (by decide)))).trans (show hq mRoads = h mRoads from (af mRoads (by decide))))
                          rw [n_kc_mRoads] at y75 ⊢
                          refine pw_icmp_ge (t := 109) (pc := 78) dX12_findPieces_78 (by decide) (by first | omega | (simp only [n_ha_mRoads, n_kc_mRoads]; omega)) (by first | omega | (simp only [n_ha_mRoads, n_kc_mRoads]; omega)) (fun c78 => ?_) (fun c78 => ?_)
                          · have rR : r = h mRoads 0 := by omega
                            have m48 : kc mo_ 48 = (L1.length : Int) := by rw [cf mo_ (by decide), f44 mo_ (by decide), bf mo_ (by decide)]; exact am
                            refine pw_aload_n (z := mo_) (pc := 109) dX12_findPieces_109 rfl rfl ?_
                            refine pw_getR (r := mPieces) (pc := 110) dX12_findPieces_110 fX12_170 (im_mo_ hM) k_mo_ rfl fr_mPieces ?_
                            refine pw_iconst (pc := 113) dX12_findPieces_113 ?_
                            refine pw_aload_n (z := mo_) (pc := 114) dX12_findPieces_114 rfl rfl ?_
                            refine pw_gI (x := 48) (pc := 115) dX12_findPieces_115 fX12_465 (im_mo_ hM) k_mo_ rfl rfl (fun r115 => ?_)
                            have n_kc_mo__48 : kc mo_ 48 = hq mo_ 48 := (((show kc mo_ 48 = h44 mo_ 48 from (congrFun (cf mo_ (by decide)) 48)).trans (show h44 mo_ 48 = ha mo_ 48 from (congrFun (f44 mo_ (by decide)) 48))).trans (show ha mo_ 48 = hq mo_ 48 from (congrFun (bf mo_ (by decide)) 48)))
                            rw [n_kc_mo__48] at r115 ⊢
                            rw [am]
                            refine pw_imul (pc := 118) dX12_findPieces_118 ?_
                            refine pw_iload_n (z := p) (pc := 119) dX12_findPieces_119 rfl rfl ?_
                            refine pw_iast (pc := 120) dX12_findPieces_120 (im_mPieces hM) k_mPieces 40 l_mPieces (by first | omega | (simp only [n_ha_mRoads, n_kc_mRoads, n_kc_mo__48]; omega)) (by first | omega | (simp only [n_ha_mRoads, n_kc_mRoads, n_kc_mo__48]; omega)) (by first | omega | (simp only [n_ha_mRoads, n_kc_mRoads, n_kc_mo__48]; omega)) (by first | omega | (simp only [n_ha_mRoads, n_kc_mRoads, n_kc_mo__48]; omega)) ?_
                            obtain ⟨g120, e120⟩ : ∃ x, x = up_ kc mPieces (2 * (L1.length : Int)) p := ⟨_, rfl⟩
                            refine pw_heq e120 ?_
                            refine pw_aload_n (z := mo_) (pc := 121) dX12_findPieces_121 rfl rfl ?_
                            refine pw_getR (r := mPieces) (pc := 122) dX12_findPieces_122 fX12_170 (im_mo_ hM) k_mo_ rfl fr_mPieces ?_
                            refine pw_iconst (pc := 125) dX12_findPieces_125 ?_
                            refine pw_aload_n (z := mo_) (pc := 126) dX12_findPieces_126 rfl rfl ?_
                            refine pw_gI (x := 48) (pc := 127) dX12_findPieces_127 fX12_465 (im_mo_ hM) k_mo_ rfl rfl (fun r127 => ?_)
                            have n_g120_mo__48 : g120 mo_ 48 = hq mo_ 48 := ((((show g120 mo_ 48 = kc mo_ 48 from (by rw [e120, up_off (by decide)])).trans (show kc mo_ 48 = h44 mo_ 48 from (congrFun (cf mo_ (by decide)) 48))).trans (show h44 mo_ 48 = ha mo_ 48 from (congrFun (f44 mo_ (by decide)) 48))).trans (show ha mo_ 48 = hq mo_ 48 from (congrFun (bf mo_ (by decide)) 48)))
                            rw [n_g120_mo__48] at r127 ⊢
                            rw [am]
                            refine pw_imul (pc := 130) dX12_findPieces_130 ?_
                            refine pw_iconst (pc := 131) dX12_findPieces_131 ?_
                            refine pw_iadd (pc := 132) dX12_findPieces_132 ?_
                            refine pw_iload (z := z51) (pc := 133) dX12_findPieces_133 rfl ?_
                            refine pw_iast (pc := 135) dX12_findPieces_135 (im_mPieces hM) k_mPieces 40 l_mPieces (by first | omega | (simp only [n_g120_mo__48, n_ha_mRoads, n_kc_mRoads, n_kc_mo__48]; omega)) (by first | omega | (simp only [n_g120_mo__48, n_ha_mRoads, n_kc_mRoads, n_kc_mo__48]; omega)) (by first | omega | (simp only [n_g120_mo__48, n_ha_mRoads, n_kc_mRoads, n_kc_mo__48]; omega)) (by first | omega | (simp only [n_g120_mo__48, n_ha_mRoads, n_kc_mRoads, n_kc_mo__48]; omega)) ?_
                            obtain ⟨g135, e135⟩ : ∃ x, x = up_ g120 mPieces ((2 * (L1.length : Int)) + 1) z51 := ⟨_, rfl⟩
                            refine pw_heq e135 ?_
                            refine pw_aload_n (z := mo_) (pc := 136) dX12_findPieces_136 rfl rfl ?_
                            refine pw_dup (pc := 137) dX12_findPieces_137 rfl ?_
                            refine pw_gI (x := 48) (pc := 138) dX12_findPieces_138 fX12_465 (im_mo_ hM) k_mo_ rfl rfl (fun r138 => ?_)
                            have n_g135_mo__48 : g135 mo_ 48 = hq mo_ 48 := (((((show g135 mo_ 48 = g120 mo_ 48 from (by rw [e135, up_off (by decide)])).trans (show g120 mo_ 48 = kc mo_ 48 from (by rw [e120, up_off (by decide)]))).trans (show kc mo_ 48 = h44 mo_ 48 from (congrFun (cf mo_ (by decide)) 48))).trans (show h44 mo_ 48 = ha mo_ 48 from (congrFun (f44 mo_ (by decide)) 48))).trans (show ha mo_ 48 = hq mo_ 48 from (congrFun (bf mo_ (by decide)) 48)))
                            rw [n_g135_mo__48] at r138 ⊢
                            rw [am]
                            refine pw_iconst (pc := 141) dX12_findPieces_141 ?_
                            refine pw_iadd (pc := 142) dX12_findPieces_142 ?_
                            refine pw_pI (x := 48) (pc := 143) dX12_findPieces_143 fX12_465 (im_mo_ hM) k_mo_ rfl rfl (by first | omega | (simp only [n_g120_mo__48, n_g135_mo__48, n_ha_mRoads, n_kc_mRoads, n_kc_mo__48]; omega)) ?_
                            obtain ⟨g143, e143⟩ : ∃ x, x = up_ g135 mo_ 48 ((L1.length : Int) + 1) := ⟨_, rfl⟩
                            refine pw_heq e143 ?_
                            have g48 : g143 mo_ 48 = (L1.length : Int) + 1 := by rw [e143, up_same]
                            have nf : off_ [mLeft, mPieces, mSits, mo_] h g143 := by rw [e143, e135, e120]; exact off_up (off_up (off_up (off_tr (off_tr (off_tr af (off_mo bf (by decide))) (off_mo f44 (by decide))) (off_mo cf (by decide))) (by decide)) (by decide)) (by decide)
                            have nl : ∀ x, 0 ≤ x → x < 16 → g143 mLeft x = (pl0_ (h mRoads 0) (h mRoads 0) kl) x := fun x x0 x1 => by
                              rw [e143, up_off (by decide), e135, up_off (by decide), e120, up_off (by decide), cl x x0 x1, rR, lv, pe]; unfold pl0_; rfl
                            have npc : pca_ (g143 mPieces) (L1 ++ [((pp0_ (h mRoads 0) (h mRoads 0) kl), (pv0_ (h mRoads 0) (h mRoads 0) kl))]) := by
                              have e := pca_push (a := (pp0_ (h mRoads 0) (h mRoads 0) kl)) (b := (pv0_ (h mRoads 0) (h mRoads 0) kl)) aa
                              rw [e143, up_off (by decide), e135, up_ob, e120, up_ob, cf mPieces (by decide), f44 mPieces (by decide), bf mPieces (by decide), lv, pe]
                              exact e
                            have nlen : ((L1 ++ [((pp0_ (h mRoads 0) (h mRoads 0) kl), (pv0_ (h mRoads 0) (h mRoads 0) kl))]).length : Int) = (L1.length : Int) + 1 := by rw [List.length_append]; rfl
                            refine pw_iload_n (z := yet) (pc := 146) dX12_findPieces_146 rfl rfl ?_
                            refine pw_iload (z := z51) (pc := 147) dX12_findPieces_147 rfl ?_
                            refine pw_isub (pc := 149) dX12_findPieces_149 ?_
                            refine pw_istore_n (lv1 := [some (rr_ G mo_), some (ii_ m), some (ii_ (yet - z51)), some (ii_ p), some (ii_ z51), some (ii_ r)]) (pc := 150) dX12_findPieces_150 rfl (by decide) rfl rfl ?_
                            refine pw_goto (t := 36) (pc := 151) dX12_findPieces_151 (by decide) ?_
                            refine pw_less (lv1 := [some (rr_ G mo_), some (ii_ m), some (ii_ (yet - z51)), none, none, none]) rfl (by intro i v; (match i with | 0 => simp | 1 => simp | 2 => simp | 3 => simp | 4 => simp | 5 => simp | n + 6 => simp)) ?_
                            exact ih36 _ (pl0_ (h mRoads 0) (h mRoads 0) kl) (L1 ++ [((pp0_ (h mRoads 0) (h mRoads 0) kl), (pv0_ (h mRoads 0) (h mRoads 0) kl))]) _ (by omega) (nf) (fun k k1 => by rw [e143, up_at, if_neg k1, e135, up_off (by decide), e120, up_off (by decide), cf mo_ (by decide), f44 mo_ (by decide), bf mo_ (by decide)]; exact ao k k1) (nl) (by rw [lv]; exact s4) (by rw [nlen]; exact g48) (by omega) (npc) (by
                                      rw [← ae, show 16 - L1.length = (16 - (L1 ++ [((pp0_ (h mRoads 0) (h mRoads 0) kl), (pv0_ (h mRoads 0) (h mRoads 0) kl))]).length) + 1 by omega]
                                      show _ = L1 ++ (if yet ≤ 0 then [] else ((pp0_ (h mRoads 0) (h mRoads 0) kl), (pv0_ (h mRoads 0) (h mRoads 0) kl)) :: pcs_ (h mRoads 0) (h mRoads 0) (16 - (L1 ++ [((pp0_ (h mRoads 0) (h mRoads 0) kl), (pv0_ (h mRoads 0) (h mRoads 0) kl))]).length) (pl0_ (h mRoads 0) (h mRoads 0) kl) (yet - (pv0_ (h mRoads 0) (h mRoads 0) kl)))
                                      rw [if_neg (by omega), lv, List.append_assoc]; rfl) (by omega)
                          · have nc : kc mRoads = h mRoads := by rw [cf mRoads (by decide), f44 mRoads (by decide)]; exact na
                            have ncs : h44 mSits r = dg_ (h mRoads 0) p r := b9 r (by omega) (by omega)
                            have dgr := dg_b (h mRoads 0) p r
                            have clr := cl (4 * r + dg_ (h mRoads 0) p r) (by omega) (by omega)
                            have clz : pcl_ kl (dg_ (h mRoads 0) p) z51 r (4 * r + dg_ (h mRoads 0) p r) = kl (4 * r + dg_ (h mRoads 0) p r) := by unfold pcl_; rw [if_neg (by omega)]
                            have kb := (ap.1 (4 * r + dg_ (h mRoads 0) p r) (by omega) (by omega))
                            refine pw_aload_n (z := mo_) (pc := 81) dX12_findPieces_81 rfl rfl ?_
                            refine pw_getR (r := mLeft) (pc := 82) dX12_findPieces_82 fX12_167 (im_mo_ hM) k_mo_ rfl fr_mLeft ?_
                            refine pw_iconst (pc := 85) dX12_findPieces_85 ?_
                            refine pw_iload (z := r) (pc := 86) dX12_findPieces_86 rfl ?_
                            refine pw_imul (pc := 88) dX12_findPieces_88 ?_
                            refine pw_aload_n (z := mo_) (pc := 89) dX12_findPieces_89 rfl rfl ?_
                            refine pw_getR (r := mSits) (pc := 90) dX12_findPieces_90 fX12_137 (im_mo_ hM) k_mo_ rfl fr_mSits ?_
                            refine pw_iload (z := r) (pc := 93) dX12_findPieces_93 rfl ?_
                            refine pw_iald (pc := 95) dX12_findPieces_95 (im_mSits hM) k_mSits 4 l_mSits (by first | omega | (simp only [n_ha_mRoads, n_kc_mRoads]; omega)) (by first | omega | (simp only [n_ha_mRoads, n_kc_mRoads]; omega)) (by first | omega | (simp only [n_ha_mRoads, n_kc_mRoads]; omega)) (fun r95 => ?_)
                            have n_kc_mSits : kc mSits = h44 mSits := (cf mSits (by decide))
                            rw [n_kc_mSits] at r95 ⊢
                            rw [ncs]
                            refine pw_iadd (pc := 96) dX12_findPieces_96 ?_
                            refine pw_dup2 (pc := 97) dX12_findPieces_97 rfl rfl ?_
                            refine pw_iald (pc := 98) dX12_findPieces_98 (im_mLeft hM) k_mLeft 16 l_mLeft (by first | omega | (simp only [n_ha_mRoads, n_kc_mRoads, n_kc_mSits]; omega)) (by first | omega | (simp only [n_ha_mRoads, n_kc_mRoads, n_kc_mSits]; omega)) (by first | omega | (simp only [n_ha_mRoads, n_kc_mRoads, n_kc_mSits]; omega)) (fun r98 => ?_)
                            rw [(show kc mLeft (4 * r + dg_ (h mRoads 0) p r) = kl (4 * r + dg_ (h mRoads 0) p r) from clr.trans clz)]
                            refine pw_iload (z := z51) (pc := 99) dX12_findPieces_99 rfl ?_
                            refine pw_isub (pc := 101) dX12_findPieces_101 ?_
                            refine pw_iast (pc := 102) dX12_findPieces_102 (im_mLeft hM) k_mLeft 16 l_mLeft (by first | omega | (simp only [n_ha_mRoads, n_kc_mRoads, n_kc_mSits]; omega)) (by first | omega | (simp only [n_ha_mRoads, n_kc_mRoads, n_kc_mSits]; omega)) (by first | omega | (simp only [n_ha_mRoads, n_kc_mRoads, n_kc_mSits]; omega)) (by first | omega | (simp only [n_ha_mRoads, n_kc_mRoads, n_kc_mSits]; omega)) ?_
                            obtain ⟨g102, e102⟩ : ∃ x, x = up_ kc mLeft ((4 * r) + (dg_ (h mRoads 0) p r)) ((kl (4 * r + dg_ (h mRoads 0) p r)) - z51) := ⟨_, rfl⟩
                            refine pw_heq e102 ?_
                            refine pw_iinc (z := r) (lv1 := [some (rr_ G mo_), some (ii_ m), some (ii_ yet), some (ii_ p), some (ii_ z51), some (ii_ (r + 1))]) (pc := 103) dX12_findPieces_103 rfl (by decide) rfl rfl ?_
                            refine pw_goto (t := 72) (pc := 106) dX12_findPieces_106 (by decide) ?_
                            exact ih72 _ _ (by omega) (by rw [e102]; exact off_up cf (by decide)) (fun x x0 x1 => by
                                      rw [e102, up_at]
                                      by_cases c : x = 4 * r + dg_ (h mRoads 0) p r
                                      · rw [if_pos c, c]; unfold pcl_; rw [if_pos (by rw [show (4 * r + dg_ (h mRoads 0) p r) / 4 = r by omega]; omega)]
                                      · rw [if_neg c, cl x x0 x1]; unfold pcl_
                                        by_cases c2 : (0 ≤ x ∧ x < 4 * r) ∧ x % 4 = dg_ (h mRoads 0) p (x / 4)
                                        · rw [if_pos c2, if_pos ⟨by omega, c2.2⟩]
                                        · rw [if_neg c2, if_neg (fun e => c2 ⟨by
                                            have e2 := e.2
                                            by_cases c3 : x / 4 = r
                                            · rw [c3] at e2; omega
                                            · omega, e.2⟩)]) (by omega)
                      exact L72 _ _ _ (by omega) (off_rf) (fun x x0 x1 => by rw [f44 mLeft (by decide), bf mLeft (by decide), al x x0 x1]; unfold pcl_; rw [if_neg (by omega)]) (Int.self_le_toNat _)
                    · exact J57 _ (f44) (by first | exact fun u => p44 u.1 | exact fun u => u.2 (by rw [← lw]; omega))
                  · rw [na, hR] at p44
                    have b9 : ∀ r, 0 ≤ r → r < h mRoads 0 → h44 mSits r = dg_ (h mRoads 0) p r := fun r r0 r1 => by rw [d44 (by omega) r r0 (by rw [na, hR]; exact r1), na, hR]
                    simp -failIfUnchanged only [n_ha_mRoads] at p44
                    refine pw_if_eq (t := 57) (pc := 47) dX12_findPieces_47 (by decide) (by first | omega | (simp only [n_ha_mRoads]; omega)) (fun _ => ?_) (fun c47 => absurd c47 (by decide))
                    exact J57 _ (f44) (by first | exact fun u => p44 u.1 | exact fun u => u.2 (by rw [← lw]; omega))
              exact L42 _ _ _ (by omega) (off_rf) (rfl) (⟨_, s1.1, s1.2, s2⟩) (Int.self_le_toNat _)
        exact L36 _ _ (fun x => h mState (14 + x)) [] _ (by omega) (gf) (fun k k1 => by rw [e31, up_at, if_neg k1, a_f mo_ (by decide)]) (fun x x0 x1 => by rw [e31, up_off (by decide)]; exact a_l x x0 (by omega)) (hp) (by rw [e31, up_same]; rfl) (by have := nz_16 (lf := (fun x => h mState (14 + x))) 16; show 0 + _ ≤ 16; omega) (fun i hi => absurd hi (Nat.not_lt_zero i)) (rfl) (Int.self_le_toNat _)
      · refine pw_aload_n (z := mo_) (pc := 8) dX12_findPieces_8 rfl rfl ?_
        refine pw_getR (r := mLeft) (pc := 9) dX12_findPieces_9 fX12_167 (im_mo_ hM) k_mo_ rfl fr_mLeft ?_
        refine pw_iload_n (z := k) (pc := 12) dX12_findPieces_12 rfl rfl ?_
        refine pw_aload_n (z := mo_) (pc := 13) dX12_findPieces_13 rfl rfl ?_
        refine pw_getR (r := mState) (pc := 14) dX12_findPieces_14 fX12_130 (im_mo_ hM) k_mo_ rfl fr_mState ?_
        refine pw_bipush (pc := 17) dX12_findPieces_17 rfl ?_
        refine pw_iload_n (z := k) (pc := 19) dX12_findPieces_19 rfl rfl ?_
        refine pw_iadd (pc := 20) dX12_findPieces_20 ?_
        refine pw_iald (pc := 21) dX12_findPieces_21 (im_mState hM) k_mState 1760 l_mState (by first | omega) (by first | omega) (by first | omega) (fun r21 => ?_)
        have n_a1_mState : a1 mState = h mState := (a_f mState (by decide))
        rw [n_a1_mState] at r21 ⊢
        refine pw_iast (pc := 22) dX12_findPieces_22 (im_mLeft hM) k_mLeft 16 l_mLeft (by first | omega | (simp only [n_a1_mState]; omega)) (by first | omega | (simp only [n_a1_mState]; omega)) (by first | omega | (simp only [n_a1_mState]; omega)) (by first | omega | (simp only [n_a1_mState]; omega)) ?_
        obtain ⟨g22, e22⟩ : ∃ x, x = up_ a1 mLeft k (h mState (14 + k)) := ⟨_, rfl⟩
        refine pw_heq e22 ?_
        refine pw_iinc (z := k) (lv1 := [some (rr_ G mo_), some (ii_ m), some (ii_ (k + 1)), none, none, none]) (pc := 23) dX12_findPieces_23 rfl (by decide) rfl rfl ?_
        refine pw_goto (t := 2) (pc := 26) dX12_findPieces_26 (by decide) ?_
        exact ih2 _ _ (by omega) (by rw [e22]; exact off_up a_f (by decide)) (fun x x0 x1 => by rw [e22, up_at]; by_cases c : x = k; exact (by rw [if_pos c, c]); exact (by rw [if_neg c]; exact a_l x x0 (by omega))) (by omega)
  exact L2 _ _ _ (by omega) (off_rf) (fun x _ _ => by omega) (Int.self_le_toNat _)

set_option maxHeartbeats 4000000 in
set_option maxRecDepth 100000 in
theorem c_pieces {G : GT_} (hM : okM_ G) (h : PH_) (hS : 2 ≤ h mRoads 0 ∧ h mRoads 0 ≤ 4) (hR : 0 ≤ h mRoads 2 ∧ h mRoads 2 ≤ h mRoads 0) (hT : 0 ≤ h mRoads 1 ∧ h mRoads 1 ≤ 4) (hmi : ∀ t, 0 ≤ t → t < h mRoads 1 → 1 ≤ h mRoads (11 + 5 * t) ∧ h mRoads (11 + 5 * t) ≤ 99) (hb : ∀ k, 0 ≤ k → k < 16 → 0 ≤ h mState (14 + k) ∧ h mState (14 + k) ≤ 99) (t w : Int) (h1 : ir_ t) (h2 : ir_ w) : PC G yX12_pieces cX12_pieces 3 (some .int) 5 [rr_ G mo_, ii_ t, ii_ w] h (qi_ (fun z h' => off_ [mLeft, mPieces, mSits, mo_] h h' ∧ (∀ k, k ≠ 0 → k ≠ 48 → h' mo_ k = h mo_ k) ∧ h' mo_ 0 = 0 ∧ z = pcr_ (h mRoads) (h mState) t w)) := by
  refine PC.of (lv := [some (rr_ G mo_), some (ii_ t), some (ii_ w)]) (by decide +kernel) (Nat.le_of_ble_eq_true rfl) rfl rfl ?_
  refine pw_aload_n (z := mo_) (pc := 0) dX12_pieces_0 rfl rfl ?_
  refine pw_iconst (pc := 1) dX12_pieces_1 ?_
  refine pw_pI (x := 0) (pc := 2) dX12_pieces_2 fX12_1 (im_mo_ hM) k_mo_ rfl rfl (by first | omega) ?_
  obtain ⟨g2, e2⟩ : ∃ x, x = up_ h mo_ 0 0 := ⟨_, rfl⟩
  refine pw_heq e2 ?_
  refine pw_aload_n (z := mo_) (pc := 5) dX12_pieces_5 rfl rfl ?_
  refine pw_iload_n (z := t) (pc := 6) dX12_pieces_6 rfl rfl ?_
  have n_g2_mRoads : g2 mRoads = h mRoads := (by rw [e2]; exact up_off (by decide))
  refine pw_callV (c := 12) (o := mo_) (As := [ii_ t]) (rest := []) (pc := 7) dX12_pieces_7 (c_isStretch hM g2 (t) (by first | omega | (simp only [n_g2_mRoads]; omega)) (by first | omega | (simp only [n_g2_mRoads]; omega))) lX12_390 mX12_isStretch vX12_isStretch (im_mo_ hM) k_mo_ rfl rfl rfl (by decide) ⟨Nat.zero_le _, Nat.zero_le _⟩ (Nat.le_of_ble_eq_true rfl) (k_i (fun z7 h7 y7 q7 => ?_))
  obtain ⟨rfl, ⟨rfl, p7⟩ | ⟨rfl, p7⟩⟩ := q7
  · simp -failIfUnchanged only [n_g2_mRoads] at p7
    refine pw_if_eq (t := 41) (pc := 10) dX12_pieces_10 (by decide) (by first | omega | (simp only [n_g2_mRoads]; omega)) (fun c10 => absurd c10 (by decide)) (fun _ => ?_)
    refine pw_iload_n (z := w) (pc := 13) dX12_pieces_13 rfl rfl ?_
    refine pw_iconst (pc := 14) dX12_pieces_14 ?_
    refine pw_icmp_lt (t := 41) (pc := 15) dX12_pieces_15 (by decide) (by first | omega | (simp only [n_g2_mRoads]; omega)) (by first | omega | (simp only [n_g2_mRoads]; omega)) (fun c15 => ?_) (fun c15 => ?_)
    · refine pw_bipush (pc := 41) dX12_pieces_41 rfl ?_
      exact pw_iret (pc := 43) dX12_pieces_43 (by first | omega | (simp only [n_g2_mRoads]; omega)) (by
                have k2 : off_ [mLeft, mPieces, mSits, mo_] h g2 := by rw [e2]; exact off_up off_rf (by decide)
                first
                | (refine ⟨off_tr k2 f51, fun k k1 k3 => by rw [o51 k k3, e2, up_at, if_neg k1], by rw [o51 0 (by decide), e2, up_same], ?_⟩
                   unfold pcr_
                   rw [if_t ⟨by omega, by omega, by omega, p35.1, p35.2⟩, ← hLL]
                   unfold pcq_
                   first
                   | (rw [if_pos (by omega)]; exact m51)
                   | (rw [if_neg (by omega), if_neg (by omega)]; done)
                   | (rw [if_neg (by omega), if_pos (by omega)]
                      have e := a51 (w / 2).toNat (by omega)
                      rw [show (((w / 2).toNat : Nat) : Int) = w / 2 by omega] at e
                      by_cases c : w % 2 = 0
                      · rw [if_pos c, ← e.1]; congr 1; omega
                      · rw [if_neg c, ← e.2]; congr 1; omega))
                | exact ⟨k2, fun k k1 _ => by rw [e2, up_at, if_neg k1], by rw [e2, up_same], by unfold pcr_; first | (rw [if_f (by omega)]; done) | (rw [if_f (fun u => p35 ⟨u.2.2.2.1, u.2.2.2.2⟩)]; done) | (rw [if_f (fun u => by have := u.1; have := u.2.1; have := u.2.2.1; omega)]; done)⟩)
    · refine pw_aload_n (z := mo_) (pc := 18) dX12_pieces_18 rfl rfl ?_
      refine pw_getR (r := mState) (pc := 19) dX12_pieces_19 fX12_130 (im_mo_ hM) k_mo_ rfl fr_mState ?_
      refine pw_bipush (pc := 22) dX12_pieces_22 rfl ?_
      refine pw_iald (pc := 24) dX12_pieces_24 (im_mState hM) k_mState 1760 l_mState (by first | omega | (simp only [n_g2_mRoads]; omega)) (by first | omega | (simp only [n_g2_mRoads]; omega)) (by first | omega | (simp only [n_g2_mRoads]; omega)) (fun r24 => ?_)
      have n_g2_mState : g2 mState = h mState := (by rw [e2]; exact up_off (by decide))
      rw [n_g2_mState] at r24 ⊢
      refine pw_if_eq (t := 41) (pc := 25) dX12_pieces_25 (by decide) (by first | omega | (simp only [n_g2_mRoads, n_g2_mState]; omega)) (fun c25 => ?_) (fun c25 => ?_)
      · refine pw_bipush (pc := 41) dX12_pieces_41 rfl ?_
        exact pw_iret (pc := 43) dX12_pieces_43 (by first | omega | (simp only [n_g2_mRoads, n_g2_mState]; omega)) (by
                  have k2 : off_ [mLeft, mPieces, mSits, mo_] h g2 := by rw [e2]; exact off_up off_rf (by decide)
                  first
                  | (refine ⟨off_tr k2 f51, fun k k1 k3 => by rw [o51 k k3, e2, up_at, if_neg k1], by rw [o51 0 (by decide), e2, up_same], ?_⟩
                     unfold pcr_
                     rw [if_t ⟨by omega, by omega, by omega, p35.1, p35.2⟩, ← hLL]
                     unfold pcq_
                     first
                     | (rw [if_pos (by omega)]; exact m51)
                     | (rw [if_neg (by omega), if_neg (by omega)]; done)
                     | (rw [if_neg (by omega), if_pos (by omega)]
                        have e := a51 (w / 2).toNat (by omega)
                        rw [show (((w / 2).toNat : Nat) : Int) = w / 2 by omega] at e
                        by_cases c : w % 2 = 0
                        · rw [if_pos c, ← e.1]; congr 1; omega
                        · rw [if_neg c, ← e.2]; congr 1; omega))
                  | exact ⟨k2, fun k k1 _ => by rw [e2, up_at, if_neg k1], by rw [e2, up_same], by unfold pcr_; first | (rw [if_f (by omega)]; done) | (rw [if_f (fun u => p35 ⟨u.2.2.2.1, u.2.2.2.2⟩)]; done) | (rw [if_f (fun u => by have := u.1; have := u.2.1; have := u.2.2.1; omega)]; done)⟩)
      · have hmt := hmi t (by omega) (by omega)
        have ng : g2 mRoads = h mRoads := by rw [e2, up_off (by decide)]
        have ns : g2 mState = h mState := by rw [e2, up_off (by decide)]
        refine pw_aload_n (z := mo_) (pc := 28) dX12_pieces_28 rfl rfl ?_
        refine pw_aload_n (z := mo_) (pc := 29) dX12_pieces_29 rfl rfl ?_
        refine pw_iload_n (z := t) (pc := 30) dX12_pieces_30 rfl rfl ?_
        refine pw_iconst (pc := 31) dX12_pieces_31 ?_
        refine pw_callV (c := 12) (o := mo_) (As := [ii_ t, ii_ 0]) (rest := [rr_ G mo_]) (pc := 32) dX12_pieces_32 (c_stretchOf hM g2 (t) (0) (by first | omega | (simp only [n_g2_mRoads, n_g2_mState]; omega)) (by first | omega | (simp only [n_g2_mRoads, n_g2_mState]; omega))) lX12_381 mX12_stretchOf vX12_stretchOf (im_mo_ hM) k_mo_ rfl rfl rfl (by decide) ⟨Nat.zero_le _, Nat.zero_le _⟩ (Nat.le_of_ble_eq_true rfl) (k_i (fun z32 h32 y32 q32 => ?_))
        obtain ⟨rfl, rfl⟩ := q32
        rw [n_g2_mRoads] at y32 ⊢
        refine pw_callV (c := 12) (o := mo_) (As := [ii_ (h mRoads (11 + 5 * (t) + (0)))]) (rest := []) (pc := 35) dX12_pieces_35 (c_addUp hM g2 (by rw [ng]; omega) (by rw [ng]; omega) (by rw [ns]; exact hb) (h mRoads (11 + 5 * (t) + (0))) (by first | omega | (simp only [n_g2_mRoads, n_g2_mState]; omega))) lX12_471 mX12_addUp vX12_addUp (im_mo_ hM) k_mo_ rfl rfl rfl (by decide) ⟨Nat.zero_le _, Nat.zero_le _⟩ (Nat.le_of_ble_eq_true rfl) (k_i (fun z35 h35 y35 q35 => ?_))
        obtain ⟨rfl, ⟨rfl, p35⟩ | ⟨rfl, p35⟩⟩ := q35
        · rw [ng, ns, Int.add_zero] at p35
          simp -failIfUnchanged only [n_g2_mRoads, n_g2_mState] at p35
          refine pw_if_ne (t := 44) (pc := 38) dX12_pieces_38 (by decide) (by first | omega | (simp only [n_g2_mRoads, n_g2_mState]; omega)) (fun _ => ?_) (fun c38 => absurd c38 (by decide))
          refine pw_aload_n (z := mo_) (pc := 44) dX12_pieces_44 rfl rfl ?_
          refine pw_aload_n (z := mo_) (pc := 45) dX12_pieces_45 rfl rfl ?_
          refine pw_iload_n (z := t) (pc := 46) dX12_pieces_46 rfl rfl ?_
          refine pw_iconst (pc := 47) dX12_pieces_47 ?_
          refine pw_callV (c := 12) (o := mo_) (As := [ii_ t, ii_ 0]) (rest := [rr_ G mo_]) (pc := 48) dX12_pieces_48 (c_stretchOf hM g2 (t) (0) (by first | omega | (simp only [n_g2_mRoads, n_g2_mState]; omega)) (by first | omega | (simp only [n_g2_mRoads, n_g2_mState]; omega))) lX12_381 mX12_stretchOf vX12_stretchOf (im_mo_ hM) k_mo_ rfl rfl rfl (by decide) ⟨Nat.zero_le _, Nat.zero_le _⟩ (Nat.le_of_ble_eq_true rfl) (k_i (fun z48 h48 y48 q48 => ?_))
          obtain ⟨rfl, rfl⟩ := q48
          rw [n_g2_mRoads] at y48 ⊢
          refine pw_callV (c := 12) (o := mo_) (As := [ii_ (h mRoads (11 + 5 * (t) + (0)))]) (rest := []) (pc := 51) dX12_pieces_51 (c_findPieces hM g2 (by rw [ng]; exact hS) (by rw [ng]; exact p35.1) (h mRoads (11 + 5 * (t) + (0))) (by rw [Int.add_zero]; omega) (by rw [ng, ns, Int.add_zero]; exact ⟨hb, adl_of p35.2⟩)) lX12_474 mX12_findPieces vX12_findPieces (im_mo_ hM) k_mo_ rfl rfl rfl (by decide) ⟨Nat.zero_le _, Nat.zero_le _⟩ (Nat.le_of_ble_eq_true rfl) (k_v (fun h51 q51 => ?_))
          obtain ⟨f51, o51, m51, l51, a51⟩ := q51
          rw [ng, ns, Int.add_zero] at m51 l51 a51
          obtain ⟨LL, hLL⟩ : ∃ L, L = pcs_ (h mRoads 0) (h mRoads 0) 16 (fun x => h mState (14 + x)) (h mRoads (11 + 5 * t)) := ⟨_, rfl⟩
          rw [← hLL] at m51 l51 a51
          refine pw_iload_n (z := w) (pc := 54) dX12_pieces_54 rfl rfl ?_
          refine pw_if_ge (t := 65) (pc := 55) dX12_pieces_55 (by decide) (by first | omega | (simp only [n_g2_mRoads, n_g2_mState]; omega)) (fun c55 => ?_) (fun c55 => ?_)
          · refine pw_iload_n (z := w) (pc := 65) dX12_pieces_65 rfl rfl ?_
            refine pw_iconst (pc := 66) dX12_pieces_66 ?_
            refine pw_aload_n (z := mo_) (pc := 67) dX12_pieces_67 rfl rfl ?_
            refine pw_gI (x := 48) (pc := 68) dX12_pieces_68 fX12_465 (im_mo_ hM) k_mo_ rfl rfl (fun r68 => ?_)
            refine pw_imul (pc := 71) dX12_pieces_71 ?_
            refine pw_icmp_ge (t := 84) (pc := 72) dX12_pieces_72 (by decide) (by first | omega | (simp only [n_g2_mRoads, n_g2_mState]; omega)) (by first | omega | (simp only [n_g2_mRoads, n_g2_mState]; omega)) (fun c72 => ?_) (fun c72 => ?_)
            · refine pw_bipush (pc := 84) dX12_pieces_84 rfl ?_
              exact pw_iret (pc := 86) dX12_pieces_86 (by first | omega | (simp only [n_g2_mRoads, n_g2_mState]; omega)) (by
                        have k2 : off_ [mLeft, mPieces, mSits, mo_] h g2 := by rw [e2]; exact off_up off_rf (by decide)
                        first
                        | (refine ⟨off_tr k2 f51, fun k k1 k3 => by rw [o51 k k3, e2, up_at, if_neg k1], by rw [o51 0 (by decide), e2, up_same], ?_⟩
                           unfold pcr_
                           rw [if_t ⟨by omega, by omega, by omega, p35.1, p35.2⟩, ← hLL]
                           unfold pcq_
                           first
                           | (rw [if_pos (by omega)]; exact m51)
                           | (rw [if_neg (by omega), if_neg (by omega)]; done)
                           | (rw [if_neg (by omega), if_pos (by omega)]
                              have e := a51 (w / 2).toNat (by omega)
                              rw [show (((w / 2).toNat : Nat) : Int) = w / 2 by omega] at e
                              by_cases c : w % 2 = 0
                              · rw [if_pos c, ← e.1]; congr 1; omega
                              · rw [if_neg c, ← e.2]; congr 1; omega))
                        | exact ⟨k2, fun k k1 _ => by rw [e2, up_at, if_neg k1], by rw [e2, up_same], by unfold pcr_; first | (rw [if_f (by omega)]; done) | (rw [if_f (fun u => p35 ⟨u.2.2.2.1, u.2.2.2.2⟩)]; done) | (rw [if_f (fun u => by have := u.1; have := u.2.1; have := u.2.2.1; omega)]; done)⟩)
            · refine pw_aload_n (z := mo_) (pc := 75) dX12_pieces_75 rfl rfl ?_
              refine pw_getR (r := mPieces) (pc := 76) dX12_pieces_76 fX12_170 (im_mo_ hM) k_mo_ rfl fr_mPieces ?_
              refine pw_iload_n (z := w) (pc := 79) dX12_pieces_79 rfl rfl ?_
              refine pw_iald (pc := 80) dX12_pieces_80 (im_mPieces hM) k_mPieces 40 l_mPieces (by first | omega | (simp only [n_g2_mRoads, n_g2_mState]; omega)) (by first | omega | (simp only [n_g2_mRoads, n_g2_mState]; omega)) (by first | omega | (simp only [n_g2_mRoads, n_g2_mState]; omega)) (fun r80 => ?_)
              refine pw_goto (t := 86) (pc := 81) dX12_pieces_81 (by decide) ?_
              exact pw_iret (pc := 86) dX12_pieces_86 (by first | omega | (simp only [n_g2_mRoads, n_g2_mState]; omega)) (by
                        have k2 : off_ [mLeft, mPieces, mSits, mo_] h g2 := by rw [e2]; exact off_up off_rf (by decide)
                        first
                        | (refine ⟨off_tr k2 f51, fun k k1 k3 => by rw [o51 k k3, e2, up_at, if_neg k1], by rw [o51 0 (by decide), e2, up_same], ?_⟩
                           unfold pcr_
                           rw [if_t ⟨by omega, by omega, by omega, p35.1, p35.2⟩, ← hLL]
                           unfold pcq_
                           first
                           | (rw [if_pos (by omega)]; exact m51)
                           | (rw [if_neg (by omega), if_neg (by omega)]; done)
                           | (rw [if_neg (by omega), if_pos (by omega)]
                              have e := a51 (w / 2).toNat (by omega)
                              rw [show (((w / 2).toNat : Nat) : Int) = w / 2 by omega] at e
                              by_cases c : w % 2 = 0
                              · rw [if_pos c, ← e.1]; congr 1; omega
                              · rw [if_neg c, ← e.2]; congr 1; omega))
                        | exact ⟨k2, fun k k1 _ => by rw [e2, up_at, if_neg k1], by rw [e2, up_same], by unfold pcr_; first | (rw [if_f (by omega)]; done) | (rw [if_f (fun u => p35 ⟨u.2.2.2.1, u.2.2.2.2⟩)]; done) | (rw [if_f (fun u => by have := u.1; have := u.2.1; have := u.2.2.1; omega)]; done)⟩)
          · refine pw_aload_n (z := mo_) (pc := 58) dX12_pieces_58 rfl rfl ?_
            refine pw_gI (x := 48) (pc := 59) dX12_pieces_59 fX12_465 (im_mo_ hM) k_mo_ rfl rfl (fun r59 => ?_)
            refine pw_goto (t := 86) (pc := 62) dX12_pieces_62 (by decide) ?_
            exact pw_iret (pc := 86) dX12_pieces_86 (by first | omega | (simp only [n_g2_mRoads, n_g2_mState]; omega)) (by
                      have k2 : off_ [mLeft, mPieces, mSits, mo_] h g2 := by rw [e2]; exact off_up off_rf (by decide)
                      first
                      | (refine ⟨off_tr k2 f51, fun k k1 k3 => by rw [o51 k k3, e2, up_at, if_neg k1], by rw [o51 0 (by decide), e2, up_same], ?_⟩
                         unfold pcr_
                         rw [if_t ⟨by omega, by omega, by omega, p35.1, p35.2⟩, ← hLL]
                         unfold pcq_
                         first
                         | (rw [if_pos (by omega)]; exact m51)
                         | (rw [if_neg (by omega), if_neg (by omega)]; done)
                         | (rw [if_neg (by omega), if_pos (by omega)]
                            have e := a51 (w / 2).toNat (by omega)
                            rw [show (((w / 2).toNat : Nat) : Int) = w / 2 by omega] at e
                            by_cases c : w % 2 = 0
                            · rw [if_pos c, ← e.1]; congr 1; omega
                            · rw [if_neg c, ← e.2]; congr 1; omega))
                      | exact ⟨k2, fun k k1 _ => by rw [e2, up_at, if_neg k1], by rw [e2, up_same], by unfold pcr_; first | (rw [if_f (by omega)]; done) | (rw [if_f (fun u => p35 ⟨u.2.2.2.1, u.2.2.2.2⟩)]; done) | (rw [if_f (fun u => by have := u.1; have := u.2.1; have := u.2.2.1; omega)]; done)⟩)
        · rw [ng, ns, Int.add_zero] at p35
          simp -failIfUnchanged only [n_g2_mRoads, n_g2_mState] at p35
          refine pw_if_ne (t := 44) (pc := 38) dX12_pieces_38 (by decide) (by first | omega | (simp only [n_g2_mRoads, n_g2_mState]; omega)) (fun c38 => absurd c38 (by decide)) (fun _ => ?_)
          refine pw_bipush (pc := 41) dX12_pieces_41 rfl ?_
          exact pw_iret (pc := 43) dX12_pieces_43 (by first | omega | (simp only [n_g2_mRoads, n_g2_mState]; omega)) (by
                    have k2 : off_ [mLeft, mPieces, mSits, mo_] h g2 := by rw [e2]; exact off_up off_rf (by decide)
                    first
                    | (refine ⟨off_tr k2 f51, fun k k1 k3 => by rw [o51 k k3, e2, up_at, if_neg k1], by rw [o51 0 (by decide), e2, up_same], ?_⟩
                       unfold pcr_
                       rw [if_t ⟨by omega, by omega, by omega, p35.1, p35.2⟩, ← hLL]
                       unfold pcq_
                       first
                       | (rw [if_pos (by omega)]; exact m51)
                       | (rw [if_neg (by omega), if_neg (by omega)]; done)
                       | (rw [if_neg (by omega), if_pos (by omega)]
                          have e := a51 (w / 2).toNat (by omega)
                          rw [show (((w / 2).toNat : Nat) : Int) = w / 2 by omega] at e
                          by_cases c : w % 2 = 0
                          · rw [if_pos c, ← e.1]; congr 1; omega
                          · rw [if_neg c, ← e.2]; congr 1; omega))
                    | exact ⟨k2, fun k k1 _ => by rw [e2, up_at, if_neg k1], by rw [e2, up_same], by unfold pcr_; first | (rw [if_f (by omega)]; done) | (rw [if_f (fun u => p35 ⟨u.2.2.2.1, u.2.2.2.2⟩)]; done) | (rw [if_f (fun u => by have := u.1; have := u.2.1; have := u.2.2.1; omega)]; done)⟩)
  · simp -failIfUnchanged only [n_g2_mRoads] at p7
    refine pw_if_eq (t := 41) (pc := 10) dX12_pieces_10 (by decide) (by first | omega | (simp only [n_g2_mRoads]; omega)) (fun _ => ?_) (fun c10 => absurd c10 (by decide))
    refine pw_bipush (pc := 41) dX12_pieces_41 rfl ?_
    exact pw_iret (pc := 43) dX12_pieces_43 (by first | omega | (simp only [n_g2_mRoads]; omega)) (by
              have k2 : off_ [mLeft, mPieces, mSits, mo_] h g2 := by rw [e2]; exact off_up off_rf (by decide)
              first
              | (refine ⟨off_tr k2 f51, fun k k1 k3 => by rw [o51 k k3, e2, up_at, if_neg k1], by rw [o51 0 (by decide), e2, up_same], ?_⟩
                 unfold pcr_
                 rw [if_t ⟨by omega, by omega, by omega, p35.1, p35.2⟩, ← hLL]
                 unfold pcq_
                 first
                 | (rw [if_pos (by omega)]; exact m51)
                 | (rw [if_neg (by omega), if_neg (by omega)]; done)
                 | (rw [if_neg (by omega), if_pos (by omega)]
                    have e := a51 (w / 2).toNat (by omega)
                    rw [show (((w / 2).toNat : Nat) : Int) = w / 2 by omega] at e
                    by_cases c : w % 2 = 0
                    · rw [if_pos c, ← e.1]; congr 1; omega
                    · rw [if_neg c, ← e.2]; congr 1; omega))
              | exact ⟨k2, fun k k1 _ => by rw [e2, up_at, if_neg k1], by rw [e2, up_same], by unfold pcr_; first | (rw [if_f (by omega)]; done) | (rw [if_f (fun u => p35 ⟨u.2.2.2.1, u.2.2.2.2⟩)]; done) | (rw [if_f (fun u => by have := u.1; have := u.2.1; have := u.2.2.1; omega)]; done)⟩)

