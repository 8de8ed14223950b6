set_option maxHeartbeats 4000000 in
set_option maxRecDepth 100000 in
theorem c_findPlans {G : GT_} (hM : okM_ G) (h : PH_) (hS : 2 ≤ h mRoads 0 ∧ h mRoads 0 ≤ 4) (hR : 0 ≤ h mRoads 2 ∧ h mRoads 2 ≤ h mRoads 0) (hT : 0 ≤ h mRoads 1 ∧ h mRoads 1 ≤ 4) (P : List (Int × Int)) (hw : 0 ≤ h mRoads 5 → law_ (h mOp) (h mArg) (h mRoads 5) P) : PC G yX12_findPlans cX12_findPlans 4 none 5 [rr_ G mo_] h (qv_ (fun h' => off_ [mLawfuls, mWorths, mChanges, mPasts, mSits, mFacts, mPile, mo_] h h' ∧ (∀ k, k ≠ 32 → h' mo_ k = h mo_ k) ∧ fpl_ (h mRoads) P h' ∧ (∀ r, 0 ≤ r → r < 4 → h' mPasts r = h mRoads (31 + 4 * r + 2)))) := by
  refine PC.of (lv := [some (rr_ G mo_), none, none, none]) (by decide +kernel) (Nat.le_of_ble_eq_true rfl) rfl rfl ?_
  refine pw_aload_n (z := mo_) (pc := 0) dX12_findPlans_0 rfl rfl ?_
  refine pw_iconst (pc := 1) dX12_findPlans_1 ?_
  refine pw_pI (x := 32) (pc := 2) dX12_findPlans_2 fX12_422 (im_mo_ hM) k_mo_ rfl rfl (by first | omega) ?_
  obtain ⟨g2, e2⟩ : ∃ x, x = up_ h mo_ 32 0 := ⟨_, rfl⟩
  refine pw_heq e2 ?_
  refine pw_iconst (pc := 5) dX12_findPlans_5 ?_
  refine pw_istore_n (lv1 := [some (rr_ G mo_), some (ii_ 0), none, none]) (pc := 6) dX12_findPlans_6 rfl (by decide) rfl rfl ?_
  have L7 : ∀ (nn : Nat) (p : Int) (h1 : PH_), (0 ≤ p ∧ p ≤ 256) → (off_ [mLawfuls, mWorths, mChanges, mPasts, mSits, mFacts, mPile, mo_] h h1) → (∀ k, k ≠ 32 → h1 mo_ k = h mo_ k) → (h1 mo_ 32 = ((lpn_ (h mRoads) p.toNat).length : Int)) → (arr_ (h1 mLawfuls) (lpn_ (h mRoads) p.toNat)) → ((256 - p + 1 : Int) ≤ nn) → PW G RX12 cX12_findPlans 4 none (rm_ 5) 0 0 (zm_ G (qv_ (fun h' => off_ [mLawfuls, mWorths, mChanges, mPasts, mSits, mFacts, mPile, mo_] h h' ∧ (∀ k, k ≠ 32 → h' mo_ k = h mo_ k) ∧ fpl_ (h mRoads) P h' ∧ (∀ r, 0 ≤ r → r < 4 → h' mPasts r = h mRoads (31 + 4 * r + 2))))) 7 [some (rr_ G mo_), some (ii_ p), none, none] [] h1 := by
    intro nn
    induction nn with
    | zero => intro p h1 ak af ao am aa ams; exfalso; omega
    | succ nn ih7 =>
      intro p h1 ak af ao am aa ams
      refine pw_iload_n (z := p) (pc := 7) dX12_findPlans_7 rfl rfl ?_
      refine pw_sipush (pc := 8) dX12_findPlans_8 rfl ?_
      refine pw_icmp_ge (t := 55) (pc := 11) dX12_findPlans_11 (by decide) (by first | omega) (by first | omega) (fun c11 => ?_) (fun c11 => ?_)
      · refine pw_iconst (pc := 55) dX12_findPlans_55 ?_
        refine pw_istore_n (lv1 := [some (rr_ G mo_), some (ii_ 0), none, none]) (pc := 56) dX12_findPlans_56 rfl (by decide) rfl rfl ?_
        have L57 : ∀ (nn : Nat) (k : Int) (b1 : PH_), (0 ≤ k ∧ k ≤ (lpn_ (h mRoads) 256).length) → (off_ [mLawfuls, mWorths, mChanges, mPasts, mSits, mFacts, mPile, mo_] h b1) → (∀ x, x ≠ 32 → b1 mo_ x = h mo_ x) → (b1 mo_ 32 = ((lpn_ (h mRoads) 256).length : Int)) → (arr_ (b1 mLawfuls) (lpn_ (h mRoads) 256)) → (wok_ (h mRoads) P (lpn_ (h mRoads) 256) (b1 mWorths) k 0 0) → (cok_ (h mRoads) (lpn_ (h mRoads) 256) (b1 mChanges) k 0) → ((((lpn_ (h mRoads) 256).length : Int) - k + 1 : Int) ≤ nn) → PW G RX12 cX12_findPlans 4 none (rm_ 5) 0 0 (zm_ G (qv_ (fun h' => off_ [mLawfuls, mWorths, mChanges, mPasts, mSits, mFacts, mPile, mo_] h h' ∧ (∀ k, k ≠ 32 → h' mo_ k = h mo_ k) ∧ fpl_ (h mRoads) P h' ∧ (∀ r, 0 ≤ r → r < 4 → h' mPasts r = h mRoads (31 + 4 * r + 2))))) 57 [some (rr_ G mo_), some (ii_ k), none, none] [] b1 := by
          intro nn
          induction nn with
          | zero => intro k b1 ak2 bf bo bm ba bw bc ams; exfalso; omega
          | succ nn ih57 =>
            intro k b1 ak2 bf bo bm ba bw bc ams
            refine pw_iload_n (z := k) (pc := 57) dX12_findPlans_57 rfl rfl ?_
            refine pw_aload_n (z := mo_) (pc := 58) dX12_findPlans_58 rfl rfl ?_
            refine pw_gI (x := 32) (pc := 59) dX12_findPlans_59 fX12_422 (im_mo_ hM) k_mo_ rfl rfl (fun r59 => ?_)
            refine pw_icmp_ge (t := 189) (pc := 62) dX12_findPlans_62 (by decide) (by first | omega) (by first | omega) (fun c62 => ?_) (fun c62 => ?_)
            · refine pw_iconst (pc := 189) dX12_findPlans_189 ?_
              refine pw_istore_n (lv1 := [some (rr_ G mo_), some (ii_ 0), none, none]) (pc := 190) dX12_findPlans_190 rfl (by decide) rfl rfl ?_
              have L191 : ∀ (nn : Nat) (r : Int) (b6 : PH_), (0 ≤ r ∧ r ≤ 4) → (off_ [mPasts] b1 b6) → (∀ q, 0 ≤ q → q < r → b6 mPasts q = h mRoads (31 + 4 * q + 2)) → ((4 - r + 1 : Int) ≤ nn) → PW G RX12 cX12_findPlans 4 none (rm_ 5) 0 0 (zm_ G (qv_ (fun h' => off_ [mLawfuls, mWorths, mChanges, mPasts, mSits, mFacts, mPile, mo_] h h' ∧ (∀ k, k ≠ 32 → h' mo_ k = h mo_ k) ∧ fpl_ (h mRoads) P h' ∧ (∀ r, 0 ≤ r → r < 4 → h' mPasts r = h mRoads (31 + 4 * r + 2))))) 191 [some (rr_ G mo_), some (ii_ r), none, none] [] b6 := by
                intro nn
                induction nn with
                | zero => intro r b6 dk df dp ams; exfalso; omega
                | succ nn ih191 =>
                  intro r b6 dk df dp ams
                  refine pw_iload_n (z := r) (pc := 191) dX12_findPlans_191 rfl rfl ?_
                  refine pw_iconst (pc := 192) dX12_findPlans_192 ?_
                  refine pw_icmp_ge (t := 214) (pc := 193) dX12_findPlans_193 (by decide) (by first | omega) (by first | omega) (fun c193 => ?_) (fun c193 => ?_)
                  · exact pw_vret (pc := 214) dX12_findPlans_214 (by
                              refine ⟨off_tr bf (off_mo df (by decide)), fun x hx => by rw [df mo_ (by decide)]; exact bo x hx, ⟨by rw [df mo_ (by decide)]; exact bm, by rw [df mLawfuls (by decide)]; exact ba, ?_, ?_⟩, fun q q0 q1 => dp q q0 (by omega)⟩
                              · rw [df mWorths (by decide), ← show k = ((lpn_ (h mRoads) 256).length : Int) by omega]; exact bw
                              · rw [df mChanges (by decide), ← show k = ((lpn_ (h mRoads) 256).length : Int) by omega]; exact bc)
                  · refine pw_aload_n (z := mo_) (pc := 196) dX12_findPlans_196 rfl rfl ?_
                    refine pw_getR (r := mPasts) (pc := 197) dX12_findPlans_197 fX12_158 (im_mo_ hM) k_mo_ rfl fr_mPasts ?_
                    refine pw_iload_n (z := r) (pc := 200) dX12_findPlans_200 rfl rfl ?_
                    refine pw_aload_n (z := mo_) (pc := 201) dX12_findPlans_201 rfl rfl ?_
                    refine pw_iload_n (z := r) (pc := 202) dX12_findPlans_202 rfl rfl ?_
                    refine pw_iconst (pc := 203) dX12_findPlans_203 ?_
                    refine pw_callV (c := 12) (o := mo_) (As := [ii_ r, ii_ 2]) (rest := [ii_ r, rr_ G mPasts]) (pc := 204) dX12_findPlans_204 (c_riderOf hM b6 (r) (2) (by first | omega) (by first | omega)) lX12_355 mX12_riderOf vX12_riderOf (im_mo_ hM) k_mo_ rfl rfl rfl (by decide) ⟨Nat.zero_le _, Nat.zero_le _⟩ (Nat.le_of_ble_eq_true rfl) (k_i (fun z204 h204 y204 q204 => ?_))
                    obtain ⟨rfl, rfl⟩ := q204
                    have n_b6_mRoads : b6 mRoads = h mRoads := ((show b6 mRoads = b1 mRoads from (df mRoads (by decide))).trans (show b1 mRoads = h mRoads from (bf mRoads (by decide))))
                    rw [n_b6_mRoads] at y204 ⊢
                    refine pw_iast (pc := 207) dX12_findPlans_207 (im_mPasts hM) k_mPasts 4 l_mPasts (by first | omega | (simp only [n_b6_mRoads]; omega)) (by first | omega | (simp only [n_b6_mRoads]; omega)) (by first | omega | (simp only [n_b6_mRoads]; omega)) (by first | omega | (simp only [n_b6_mRoads]; omega)) ?_
                    obtain ⟨g207, e207⟩ : ∃ x, x = up_ b6 mPasts r (h mRoads (31 + 4 * (r) + (2))) := ⟨_, rfl⟩
                    refine pw_heq e207 ?_
                    refine pw_iinc (z := r) (lv1 := [some (rr_ G mo_), some (ii_ (r + 1)), none, none]) (pc := 208) dX12_findPlans_208 rfl (by decide) rfl rfl ?_
                    refine pw_goto (t := 191) (pc := 211) dX12_findPlans_211 (by decide) ?_
                    exact ih191 _ _ (by omega) (by rw [e207]; exact off_up df (by decide)) (fun q q0 q1 => by rw [e207, up_at]; by_cases c : q = r; rw [if_pos c, c]; rw [if_neg c]; exact dp q q0 (by omega)) (by omega)
              exact L191 _ _ _ (by omega) (off_rf) (fun q _ _ => by omega) (Int.self_le_toNat _)
            · have l24 := lpn_24 hS hR
              have lk : k.toNat < (lpn_ (h mRoads) 256).length := by omega
              have pk : b1 mLawfuls k = (lpn_ (h mRoads) 256).getD k.toNat 0 := arr_at ba ak2.1 (by omega)
              have pm := lpn_mem (getD_mem lk)
              have nb : b1 mRoads = h mRoads := bf mRoads (by decide)
              refine pw_aload_n (z := mo_) (pc := 65) dX12_findPlans_65 rfl rfl ?_
              refine pw_aload_n (z := mo_) (pc := 66) dX12_findPlans_66 rfl rfl ?_
              refine pw_getR (r := mLawfuls) (pc := 67) dX12_findPlans_67 fX12_140 (im_mo_ hM) k_mo_ rfl fr_mLawfuls ?_
              refine pw_iload_n (z := k) (pc := 70) dX12_findPlans_70 rfl rfl ?_
              refine pw_iald (pc := 71) dX12_findPlans_71 (im_mLawfuls hM) k_mLawfuls 24 l_mLawfuls (by first | omega) (by first | omega) (by first | omega) (fun r71 => ?_)
              have n_b1_mRoads : b1 mRoads = h mRoads := (bf mRoads (by decide))
              refine pw_callV (c := 12) (o := mo_) (As := [ii_ (b1 mLawfuls k)]) (rest := []) (pc := 72) dX12_findPlans_72 (c_reads hM b1 (by rw [nb]; omega) (by rw [nb]; omega) (b1 mLawfuls k) (by first | omega | (simp only [n_b1_mRoads]; omega))) lX12_393 mX12_reads vX12_reads (im_mo_ hM) k_mo_ rfl rfl rfl (by decide) ⟨Nat.zero_le _, Nat.zero_le _⟩ (Nat.le_of_ble_eq_true rfl) (k_i (fun z72 h72 y72 q72 => ?_))
              obtain ⟨f72, d72, w72⟩ := q72
              refine pw_pop (pc := 75) dX12_findPlans_75 rfl ?_
              have dd : ∀ r, 0 ≤ r → r < h mRoads 2 → h72 mSits r = dg_ (h mRoads 2) ((lpn_ (h mRoads) 256).getD k.toNat 0) r := fun r r0 r1 => by rw [d72 (by rw [pk]; exact pm.2.1) r r0 (by rw [nb]; exact r1), nb, pk]
              have ff : off_ [mLawfuls, mWorths, mChanges, mPasts, mSits, mFacts, mPile, mo_] h h72 := off_tr bf (off_mo f72 (by decide))
              refine pw_iconst (pc := 76) dX12_findPlans_76 ?_
              refine pw_istore_n (lv1 := [some (rr_ G mo_), some (ii_ k), some (ii_ 0), none]) (pc := 77) dX12_findPlans_77 rfl (by decide) rfl rfl ?_
              have L78 : ∀ (nn : Nat) (t : Int) (b2 : PH_), (0 ≤ t ∧ t ≤ h mRoads 1) → (off_ [mLawfuls, mWorths, mChanges, mPasts, mSits, mFacts, mPile, mo_] h b2) → (∀ x, x ≠ 32 → b2 mo_ x = h mo_ x) → (b2 mo_ 32 = ((lpn_ (h mRoads) 256).length : Int)) → (arr_ (b2 mLawfuls) (lpn_ (h mRoads) 256)) → (∀ r, 0 ≤ r → r < h mRoads 2 → b2 mSits r = dg_ (h mRoads 2) ((lpn_ (h mRoads) 256).getD k.toNat 0) r) → (wok_ (h mRoads) P (lpn_ (h mRoads) 256) (b2 mWorths) k t 0) → (cok_ (h mRoads) (lpn_ (h mRoads) 256) (b2 mChanges) k 0) → ((h mRoads 1 - t + 1 : Int) ≤ nn) → PW G RX12 cX12_findPlans 4 none (rm_ 5) 0 0 (zm_ G (qv_ (fun h' => off_ [mLawfuls, mWorths, mChanges, mPasts, mSits, mFacts, mPile, mo_] h h' ∧ (∀ k, k ≠ 32 → h' mo_ k = h mo_ k) ∧ fpl_ (h mRoads) P h' ∧ (∀ r, 0 ≤ r → r < 4 → h' mPasts r = h mRoads (31 + 4 * r + 2))))) 78 [some (rr_ G mo_), some (ii_ k), some (ii_ t), none] [] b2 := by
                intro nn
                induction nn with
                | zero => intro t b2 tk tf to tm ta td tw tc ams; exfalso; omega
                | succ nn ih78 =>
                  intro t b2 tk tf to tm ta td tw tc ams
                  refine pw_iload_n (z := t) (pc := 78) dX12_findPlans_78 rfl rfl ?_
                  refine pw_aload_n (z := mo_) (pc := 79) dX12_findPlans_79 rfl rfl ?_
                  refine pw_callV (c := 12) (o := mo_) (As := []) (rest := [ii_ t]) (pc := 80) dX12_findPlans_80 (c_stretches hM b2) lX12_368 mX12_stretches vX12_stretches (im_mo_ hM) k_mo_ rfl rfl rfl (by decide) ⟨Nat.zero_le _, Nat.zero_le _⟩ (Nat.le_of_ble_eq_true rfl) (k_i (fun z80 h80 y80 q80 => ?_))
                  obtain ⟨rfl, rfl⟩ := q80
                  have n_b2_mRoads : b2 mRoads = h mRoads := (tf mRoads (by decide))
                  rw [n_b2_mRoads] at y80 ⊢
                  refine pw_icmp_ge (t := 140) (pc := 83) dX12_findPlans_83 (by decide) (by first | omega | (simp only [n_b1_mRoads, n_b2_mRoads]; omega)) (by first | omega | (simp only [n_b1_mRoads, n_b2_mRoads]; omega)) (fun c83 => ?_) (fun c83 => ?_)
                  · refine pw_iconst (pc := 140) dX12_findPlans_140 ?_
                    refine pw_istore_n (lv1 := [some (rr_ G mo_), some (ii_ k), some (ii_ 0), none]) (pc := 141) dX12_findPlans_141 rfl (by decide) rfl rfl ?_
                    have L142 : ∀ (nn : Nat) (e : Int) (b5 : PH_), (0 ≤ e ∧ e ≤ (lpn_ (h mRoads) 256).length) → (off_ [mLawfuls, mWorths, mChanges, mPasts, mSits, mFacts, mPile, mo_] h b5) → (∀ x, x ≠ 32 → b5 mo_ x = h mo_ x) → (b5 mo_ 32 = ((lpn_ (h mRoads) 256).length : Int)) → (arr_ (b5 mLawfuls) (lpn_ (h mRoads) 256)) → (wok_ (h mRoads) P (lpn_ (h mRoads) 256) (b5 mWorths) k (h mRoads 1) 0) → (cok_ (h mRoads) (lpn_ (h mRoads) 256) (b5 mChanges) k e) → ((((lpn_ (h mRoads) 256).length : Int) - e + 1 : Int) ≤ nn) → PW G RX12 cX12_findPlans 4 none (rm_ 5) 0 0 (zm_ G (qv_ (fun h' => off_ [mLawfuls, mWorths, mChanges, mPasts, mSits, mFacts, mPile, mo_] h h' ∧ (∀ k, k ≠ 32 → h' mo_ k = h mo_ k) ∧ fpl_ (h mRoads) P h' ∧ (∀ r, 0 ≤ r → r < 4 → h' mPasts r = h mRoads (31 + 4 * r + 2))))) 142 [some (rr_ G mo_), some (ii_ k), some (ii_ e), none] [] b5 := by
                      intro nn
                      induction nn with
                      | zero => intro e b5 ck cf co cm ca cw cc ams; exfalso; omega
                      | succ nn ih142 =>
                        intro e b5 ck cf co cm ca cw cc ams
                        refine pw_iload_n (z := e) (pc := 142) dX12_findPlans_142 rfl rfl ?_
                        refine pw_aload_n (z := mo_) (pc := 143) dX12_findPlans_143 rfl rfl ?_
                        refine pw_gI (x := 32) (pc := 144) dX12_findPlans_144 fX12_422 (im_mo_ hM) k_mo_ rfl rfl (fun r144 => ?_)
                        refine pw_icmp_ge (t := 183) (pc := 147) dX12_findPlans_147 (by decide) (by first | omega | (simp only [n_b1_mRoads, n_b2_mRoads]; omega)) (by first | omega | (simp only [n_b1_mRoads, n_b2_mRoads]; omega)) (fun c147 => ?_) (fun c147 => ?_)
                        · refine pw_iinc (z := k) (lv1 := [some (rr_ G mo_), some (ii_ (k + 1)), some (ii_ e), none]) (pc := 183) dX12_findPlans_183 rfl (by decide) rfl rfl ?_
                          refine pw_goto (t := 57) (pc := 186) dX12_findPlans_186 (by decide) ?_
                          refine pw_less (lv1 := [some (rr_ G mo_), some (ii_ (k + 1)), none, none]) rfl (by intro i v; (match i with | 0 => simp | 1 => simp | 2 => simp | 3 => simp | n + 4 => simp)) ?_
                          exact ih57 _ _ (by omega) (cf) (co) (cm) (ca) (fun j u q j0 u0 u1 q0 q1 hh => cw j u q j0 u0 u1 q0 q1 (by omega)) (fun j i j0 i0 i1 hh => cc j i j0 i0 i1 (by omega)) (by omega)
                        · have l24 := lpn_24 hS hR
                          have pe : b5 mLawfuls e = (lpn_ (h mRoads) 256).getD e.toNat 0 := arr_at ca ck.1 (by omega)
                          have pk5 : b5 mLawfuls k = (lpn_ (h mRoads) 256).getD k.toNat 0 := arr_at ca ak2.1 (by omega)
                          have pme := lpn_mem (getD_mem (show e.toNat < (lpn_ (h mRoads) 256).length by omega))
                          have nr5 : b5 mRoads = h mRoads := cf mRoads (by decide)
                          have clt := chg_lt (R := h mRoads 2) (a := (lpn_ (h mRoads) 256).getD k.toNat 0) (b := (lpn_ (h mRoads) 256).getD e.toNat 0) (by omega) (h mRoads 2).toNat (by omega)
                          refine pw_aload_n (z := mo_) (pc := 150) dX12_findPlans_150 rfl rfl ?_
                          refine pw_getR (r := mChanges) (pc := 151) dX12_findPlans_151 fX12_146 (im_mo_ hM) k_mo_ rfl fr_mChanges ?_
                          refine pw_bipush (pc := 154) dX12_findPlans_154 rfl ?_
                          refine pw_iload_n (z := k) (pc := 156) dX12_findPlans_156 rfl rfl ?_
                          refine pw_imul (pc := 157) dX12_findPlans_157 ?_
                          refine pw_iload_n (z := e) (pc := 158) dX12_findPlans_158 rfl rfl ?_
                          refine pw_iadd (pc := 159) dX12_findPlans_159 ?_
                          refine pw_aload_n (z := mo_) (pc := 160) dX12_findPlans_160 rfl rfl ?_
                          refine pw_aload_n (z := mo_) (pc := 161) dX12_findPlans_161 rfl rfl ?_
                          refine pw_getR (r := mLawfuls) (pc := 162) dX12_findPlans_162 fX12_140 (im_mo_ hM) k_mo_ rfl fr_mLawfuls ?_
                          refine pw_iload_n (z := k) (pc := 165) dX12_findPlans_165 rfl rfl ?_
                          refine pw_iald (pc := 166) dX12_findPlans_166 (im_mLawfuls hM) k_mLawfuls 24 l_mLawfuls (by first | omega | (simp only [n_b1_mRoads, n_b2_mRoads]; omega)) (by first | omega | (simp only [n_b1_mRoads, n_b2_mRoads]; omega)) (by first | omega | (simp only [n_b1_mRoads, n_b2_mRoads]; omega)) (fun r166 => ?_)
                          refine pw_aload_n (z := mo_) (pc := 167) dX12_findPlans_167 rfl rfl ?_
                          refine pw_getR (r := mLawfuls) (pc := 168) dX12_findPlans_168 fX12_140 (im_mo_ hM) k_mo_ rfl fr_mLawfuls ?_
                          refine pw_iload_n (z := e) (pc := 171) dX12_findPlans_171 rfl rfl ?_
                          refine pw_iald (pc := 172) dX12_findPlans_172 (im_mLawfuls hM) k_mLawfuls 24 l_mLawfuls (by first | omega | (simp only [n_b1_mRoads, n_b2_mRoads]; omega)) (by first | omega | (simp only [n_b1_mRoads, n_b2_mRoads]; omega)) (by first | omega | (simp only [n_b1_mRoads, n_b2_mRoads]; omega)) (fun r172 => ?_)
                          refine pw_callV (c := 12) (o := mo_) (As := [ii_ (b5 mLawfuls k), ii_ (b5 mLawfuls e)]) (rest := [ii_ ((24 * k) + e), rr_ G mChanges]) (pc := 173) dX12_findPlans_173 (c_changed hM b5 (by rw [nr5]; omega) (by rw [nr5]; omega) (b5 mLawfuls k) (b5 mLawfuls e) (by rw [pk5]; omega) (by rw [pe]; omega)) lX12_425 mX12_changed vX12_changed (im_mo_ hM) k_mo_ rfl rfl rfl (by decide) ⟨Nat.zero_le _, Nat.zero_le _⟩ (Nat.le_of_ble_eq_true rfl) (k_i (fun z173 h173 y173 q173 => ?_))
                          obtain ⟨rfl, w173⟩ := q173
                          rw [nr5, pk5, pe] at w173
                          refine pw_iast (pc := 176) dX12_findPlans_176 (im_mChanges hM) k_mChanges 576 l_mChanges (by first | omega | (simp only [n_b1_mRoads, n_b2_mRoads]; omega)) (by first | omega | (simp only [n_b1_mRoads, n_b2_mRoads]; omega)) (by first | omega | (simp only [n_b1_mRoads, n_b2_mRoads]; omega)) (by first | omega | (simp only [n_b1_mRoads, n_b2_mRoads]; omega)) ?_
                          obtain ⟨g176, e176⟩ : ∃ x, x = up_ b5 mChanges ((24 * k) + e) z173 := ⟨_, rfl⟩
                          refine pw_heq e176 ?_
                          refine pw_iinc (z := e) (lv1 := [some (rr_ G mo_), some (ii_ k), some (ii_ (e + 1)), none]) (pc := 177) dX12_findPlans_177 rfl (by decide) rfl rfl ?_
                          refine pw_goto (t := 142) (pc := 180) dX12_findPlans_180 (by decide) ?_
                          exact ih142 _ _ (by omega) (by rw [e176]; exact off_up cf (by decide)) (fun x hx => by rw [e176, up_off (by decide)]; exact co x hx) (by rw [e176, up_off (by decide)]; exact cm) (by rw [e176, up_off (by decide)]; exact ca) (by rw [e176, up_off (by decide)]; exact cw) (fun j i j0 i0 i1 hh => by
                                    rw [e176, up_ob]
                                    show (if _ = _ then _ else _) = _
                                    by_cases c : j = k ∧ i = e
                                    · obtain ⟨rfl, rfl⟩ := c
                                      rw [if_pos rfl, w173]
                                    · rw [if_neg (by omega)]
                                      exact cc j i j0 i0 i1 (by omega)) (by omega)
                    exact L142 _ _ _ (by omega) (tf) (to) (tm) (ta) (by rw [← show t = h mRoads 1 by omega]; exact tw) (tc) (Int.self_le_toNat _)
                  · refine pw_iconst (pc := 86) dX12_findPlans_86 ?_
                    refine pw_istore_n (lv1 := [some (rr_ G mo_), some (ii_ k), some (ii_ t), some (ii_ 0)]) (pc := 87) dX12_findPlans_87 rfl (by decide) rfl rfl ?_
                    have L88 : ∀ (nn : Nat) (r : Int) (b3 : PH_), (0 ≤ r ∧ r ≤ h mRoads 2) → (off_ [mLawfuls, mWorths, mChanges, mPasts, mSits, mFacts, mPile, mo_] h b3) → (∀ x, x ≠ 32 → b3 mo_ x = h mo_ x) → (b3 mo_ 32 = ((lpn_ (h mRoads) 256).length : Int)) → (arr_ (b3 mLawfuls) (lpn_ (h mRoads) 256)) → (∀ r, 0 ≤ r → r < h mRoads 2 → b3 mSits r = dg_ (h mRoads 2) ((lpn_ (h mRoads) 256).getD k.toNat 0) r) → (wok_ (h mRoads) P (lpn_ (h mRoads) 256) (b3 mWorths) k t r) → (cok_ (h mRoads) (lpn_ (h mRoads) 256) (b3 mChanges) k 0) → ((h mRoads 2 - r + 1 : Int) ≤ nn) → PW G RX12 cX12_findPlans 4 none (rm_ 5) 0 0 (zm_ G (qv_ (fun h' => off_ [mLawfuls, mWorths, mChanges, mPasts, mSits, mFacts, mPile, mo_] h h' ∧ (∀ k, k ≠ 32 → h' mo_ k = h mo_ k) ∧ fpl_ (h mRoads) P h' ∧ (∀ r, 0 ≤ r → r < 4 → h' mPasts r = h mRoads (31 + 4 * r + 2))))) 88 [some (rr_ G mo_), some (ii_ k), some (ii_ t), some (ii_ r)] [] b3 := by
                      intro nn
                      induction nn with
                      | zero => intro r b3 rk rf ro rm ra rd rw_ rc ams; exfalso; omega
                      | succ nn ih88 =>
                        intro r b3 rk rf ro rm ra rd rw_ rc ams
                        refine pw_iload_n (z := r) (pc := 88) dX12_findPlans_88 rfl rfl ?_
                        refine pw_aload_n (z := mo_) (pc := 89) dX12_findPlans_89 rfl rfl ?_
                        refine pw_callV (c := 12) (o := mo_) (As := []) (rest := [ii_ r]) (pc := 90) dX12_findPlans_90 (c_riders hM b3) lX12_334 mX12_riders vX12_riders (im_mo_ hM) k_mo_ rfl rfl rfl (by decide) ⟨Nat.zero_le _, Nat.zero_le _⟩ (Nat.le_of_ble_eq_true rfl) (k_i (fun z90 h90 y90 q90 => ?_))
                        obtain ⟨rfl, rfl⟩ := q90
                        have n_b3_mRoads : b3 mRoads = h mRoads := (rf mRoads (by decide))
                        rw [n_b3_mRoads] at y90 ⊢
                        refine pw_icmp_ge (t := 134) (pc := 93) dX12_findPlans_93 (by decide) (by first | omega | (simp only [n_b1_mRoads, n_b2_mRoads, n_b3_mRoads]; omega)) (by first | omega | (simp only [n_b1_mRoads, n_b2_mRoads, n_b3_mRoads]; omega)) (fun c93 => ?_) (fun c93 => ?_)
                        · refine pw_iinc (z := t) (lv1 := [some (rr_ G mo_), some (ii_ k), some (ii_ (t + 1)), some (ii_ r)]) (pc := 134) dX12_findPlans_134 rfl (by decide) rfl rfl ?_
                          refine pw_goto (t := 78) (pc := 137) dX12_findPlans_137 (by decide) ?_
                          refine pw_less (lv1 := [some (rr_ G mo_), some (ii_ k), some (ii_ (t + 1)), none]) rfl (by intro i v; (match i with | 0 => simp | 1 => simp | 2 => simp | 3 => simp | n + 4 => simp)) ?_
                          exact ih78 _ _ (by omega) (rf) (ro) (rm) (ra) (rd) (fun j u q j0 u0 u1 q0 q1 hh => rw_ j u q j0 u0 u1 q0 q1 (by omega)) (rc) (by omega)
                        · have nr3 : b3 mRoads = h mRoads := rf mRoads (by decide)
                          have ss : ∀ q, 0 ≤ q → q < b3 mRoads 2 → 0 ≤ b3 mSits q ∧ b3 mSits q ≤ 3 := fun q q0 q1 => by rw [nr3] at q1; rw [rd q q0 q1]; exact dg_b _ _ _
                          have ssr := ss r (by omega) (by rw [nr3]; omega)
                          have tn := tip_nn (b3 mRoads) (b3 mSits) r (b3 mRoads 2).toNat
                          refine pw_aload_n (z := mo_) (pc := 96) dX12_findPlans_96 rfl rfl ?_
                          refine pw_getR (r := mWorths) (pc := 97) dX12_findPlans_97 fX12_143 (im_mo_ hM) k_mo_ rfl fr_mWorths ?_
                          refine pw_bipush (pc := 100) dX12_findPlans_100 rfl ?_
                          refine pw_iload_n (z := t) (pc := 102) dX12_findPlans_102 rfl rfl ?_
                          refine pw_imul (pc := 103) dX12_findPlans_103 ?_
                          refine pw_iconst (pc := 104) dX12_findPlans_104 ?_
                          refine pw_iload_n (z := k) (pc := 105) dX12_findPlans_105 rfl rfl ?_
                          refine pw_imul (pc := 106) dX12_findPlans_106 ?_
                          refine pw_iadd (pc := 107) dX12_findPlans_107 ?_
                          refine pw_iload_n (z := r) (pc := 108) dX12_findPlans_108 rfl rfl ?_
                          refine pw_iadd (pc := 109) dX12_findPlans_109 ?_
                          refine pw_aload_n (z := mo_) (pc := 110) dX12_findPlans_110 rfl rfl ?_
                          refine pw_iload_n (z := r) (pc := 111) dX12_findPlans_111 rfl rfl ?_
                          refine pw_aload_n (z := mo_) (pc := 112) dX12_findPlans_112 rfl rfl ?_
                          refine pw_getR (r := mSits) (pc := 113) dX12_findPlans_113 fX12_137 (im_mo_ hM) k_mo_ rfl fr_mSits ?_
                          refine pw_iload_n (z := r) (pc := 116) dX12_findPlans_116 rfl rfl ?_
                          refine pw_iald (pc := 117) dX12_findPlans_117 (im_mSits hM) k_mSits 4 l_mSits (by first | omega | (simp only [n_b1_mRoads, n_b2_mRoads, n_b3_mRoads]; omega)) (by first | omega | (simp only [n_b1_mRoads, n_b2_mRoads, n_b3_mRoads]; omega)) (by first | omega | (simp only [n_b1_mRoads, n_b2_mRoads, n_b3_mRoads]; omega)) (fun r117 => ?_)
                          refine pw_iload_n (z := t) (pc := 118) dX12_findPlans_118 rfl rfl ?_
                          refine pw_aload_n (z := mo_) (pc := 119) dX12_findPlans_119 rfl rfl ?_
                          refine pw_iload_n (z := r) (pc := 120) dX12_findPlans_120 rfl rfl ?_
                          refine pw_callV (c := 12) (o := mo_) (As := [ii_ r]) (rest := [ii_ t, ii_ (b3 mSits r), ii_ r, rr_ G mo_, ii_ (((96 * t) + (4 * k)) + r), rr_ G mWorths]) (pc := 121) dX12_findPlans_121 (c_tipOf hM b3 (by rw [nr3]; omega) (by rw [nr3]; omega) (fun q q0 q1 => (ss q q0 q1).2) r (by rw [nr3]; omega) ssr.1) lX12_399 mX12_tipOf vX12_tipOf (im_mo_ hM) k_mo_ rfl rfl rfl (by decide) ⟨Nat.zero_le _, Nat.zero_le _⟩ (Nat.le_of_ble_eq_true rfl) (k_i (fun z121 h121 y121 q121 => ?_))
                          obtain ⟨rfl, w121⟩ := q121
                          refine pw_callV (c := 12) (o := mo_) (As := [ii_ r, ii_ (b3 mSits r), ii_ t, ii_ z121]) (rest := [ii_ (((96 * t) + (4 * k)) + r), rr_ G mWorths]) (pc := 124) dX12_findPlans_124 (c_worthOn hM b3 (by rw [nr3]; omega) (by rw [nr3]; omega) P (by rw [nr3, rf mOp (by decide), rf mArg (by decide)]; exact hw) r (b3 mSits r) t z121 (by first | omega | (simp only [n_b1_mRoads, n_b2_mRoads, n_b3_mRoads]; omega)) ssr (by first | omega | (simp only [n_b1_mRoads, n_b2_mRoads, n_b3_mRoads]; omega)) (by first | omega | (simp only [n_b1_mRoads, n_b2_mRoads, n_b3_mRoads]; omega))) lX12_402 mX12_worthOn vX12_worthOn (im_mo_ hM) k_mo_ rfl rfl rfl (by decide) ⟨Nat.zero_le _, Nat.zero_le _⟩ (Nat.le_of_ble_eq_true rfl) (k_i (fun z124 h124 y124 q124 => ?_))
                          obtain ⟨f124, w124⟩ := q124
                          refine pw_iast (pc := 127) dX12_findPlans_127 (im_mWorths hM) k_mWorths 384 l_mWorths (by first | omega | (simp only [n_b1_mRoads, n_b2_mRoads, n_b3_mRoads]; omega)) (by first | omega | (simp only [n_b1_mRoads, n_b2_mRoads, n_b3_mRoads]; omega)) (by first | omega | (simp only [n_b1_mRoads, n_b2_mRoads, n_b3_mRoads]; omega)) (by first | omega | (simp only [n_b1_mRoads, n_b2_mRoads, n_b3_mRoads]; omega)) ?_
                          obtain ⟨g127, e127⟩ : ∃ x, x = up_ h124 mWorths (((96 * t) + (4 * k)) + r) z124 := ⟨_, rfl⟩
                          refine pw_heq e127 ?_
                          refine pw_iinc (z := r) (lv1 := [some (rr_ G mo_), some (ii_ k), some (ii_ t), some (ii_ (r + 1))]) (pc := 128) dX12_findPlans_128 rfl (by decide) rfl rfl ?_
                          refine pw_goto (t := 88) (pc := 131) dX12_findPlans_131 (by decide) ?_
                          exact ih88 _ _ (by omega) (by rw [e127]; exact off_up (off_tr rf (off_mo f124 (by decide))) (by decide)) (fun x hx => by rw [e127, up_off (by decide), f124 mo_ (by decide)]; exact ro x hx) (by rw [e127, up_off (by decide), f124 mo_ (by decide)]; exact rm) (by rw [e127, up_off (by decide), f124 mLawfuls (by decide)]; exact ra) (by rw [e127, up_off (by decide), f124 mSits (by decide)]; exact rd) (fun j u q j0 u0 u1 q0 q1 hh => by
                                    rw [e127, up_ob, f124 mWorths (by decide)]
                                    by_cases c : j = k ∧ u = t ∧ q = r
                                    · obtain ⟨rfl, rfl, rfl⟩ := c
                                      show (if _ = _ then _ else _) = _
                                      rw [if_pos rfl, w124, w121, nr3]
                                      exact wsi_cg ⟨q0, q1⟩ rd
                                    · show (if _ = _ then _ else _) = _
                                      rw [if_neg (by omega)]
                                      exact rw_ j u q j0 u0 u1 q0 q1 (by omega)) (by rw [e127, up_off (by decide), f124 mChanges (by decide)]; exact rc) (by omega)
                    exact L88 _ _ _ (by omega) (tf) (to) (tm) (ta) (td) (tw) (tc) (Int.self_le_toNat _)
              exact L78 _ _ _ (by omega) (ff) (fun x hx => by rw [f72 mo_ (by decide)]; exact bo x hx) (by rw [f72 mo_ (by decide)]; exact bm) (by rw [f72 mLawfuls (by decide)]; exact ba) (dd) (by rw [f72 mWorths (by decide)]; exact bw) (by rw [f72 mChanges (by decide)]; exact bc) (Int.self_le_toNat _)
        exact L57 _ _ _ (by omega) (af) (ao) (by rw [am, show p = 256 by omega]; rfl) (by have := aa; rw [show p = 256 by omega] at this; exact this) (fun j u q j0 u0 u1 q0 q1 hh => by omega) (fun j i j0 i0 i1 hh => by omega) (Int.self_le_toNat _)
      · have lm := lpn_mono (ro := h mRoads) (a := (p + 1).toNat) (b := 256) (by omega)
        have l24 := lpn_24 hS hR
        have J49 : ∀ (h2 : PH_), (off_ [mLawfuls, mWorths, mChanges, mPasts, mSits, mFacts, mPile, mo_] h h2) → (∀ k, k ≠ 32 → h2 mo_ k = h mo_ k) → (h2 mo_ 32 = ((lpn_ (h mRoads) (p + 1).toNat).length : Int)) → (arr_ (h2 mLawfuls) (lpn_ (h mRoads) (p + 1).toNat)) → PW G RX12 cX12_findPlans 4 none (rm_ 5) 0 0 (zm_ G (qv_ (fun h' => off_ [mLawfuls, mWorths, mChanges, mPasts, mSits, mFacts, mPile, mo_] h h' ∧ (∀ k, k ≠ 32 → h' mo_ k = h mo_ k) ∧ fpl_ (h mRoads) P h' ∧ (∀ r, 0 ≤ r → r < 4 → h' mPasts r = h mRoads (31 + 4 * r + 2))))) 49 [some (rr_ G mo_), some (ii_ p), none, none] [] h2 := by
          intro h2 jf jo jm ja
          refine pw_iinc (z := p) (lv1 := [some (rr_ G mo_), some (ii_ (p + 1)), none, none]) (pc := 49) dX12_findPlans_49 rfl (by decide) rfl rfl ?_
          refine pw_goto (t := 7) (pc := 52) dX12_findPlans_52 (by decide) ?_
          exact ih7 _ _ (by omega) (jf) (jo) (jm) (ja) (by omega)
        refine pw_aload_n (z := mo_) (pc := 14) dX12_findPlans_14 rfl rfl ?_
        refine pw_iload_n (z := p) (pc := 15) dX12_findPlans_15 rfl rfl ?_
        have n_h1_mRoads : h1 mRoads = h mRoads := (af mRoads (by decide))
        refine pw_callV (c := 12) (o := mo_) (As := [ii_ p]) (rest := []) (pc := 16) dX12_findPlans_16 (c_reads hM h1 (by first | omega | (simp only [n_h1_mRoads]; omega)) (by first | omega | (simp only [n_h1_mRoads]; omega)) (p) (by first | omega | (simp only [n_h1_mRoads]; omega))) lX12_393 mX12_reads vX12_reads (im_mo_ hM) k_mo_ rfl rfl rfl (by decide) ⟨Nat.zero_le _, Nat.zero_le _⟩ (Nat.le_of_ble_eq_true rfl) (k_i (fun z16 h16 y16 q16 => ?_))
        obtain ⟨f16, d16, ⟨rfl, p16⟩ | ⟨rfl, p16⟩⟩ := q16
        · have qq_h16 : h16 mRoads = h1 mRoads := f16 mRoads (by decide)
          have b_h16 : ∀ r, 0 ≤ r → r < h16 mRoads 2 → h16 mSits r = dg_ (h1 mRoads 2) (p) r := fun r r0 r1 => d16 (ro4_pos _ p16.1) r r0 (by rw [qq_h16] at r1; exact r1)
          have s_h16 : ∀ r, 0 ≤ r → r < h16 mRoads 2 → 0 ≤ h16 mSits r ∧ h16 mSits r ≤ 3 := fun r r0 r1 => by rw [b_h16 r r0 r1]; exact dg_b _ _ _
          have l_h16 : lwf_ (h16 mRoads) (h16 mSits) (h16 mRoads 2).toNat ↔ lp1_ (h1 mRoads) (p) := by unfold lp1_; rw [qq_h16]; exact lwf_cg (fun e e0 e1 => b_h16 e e0 (by rw [qq_h16]; omega))
          simp -failIfUnchanged only [n_h1_mRoads] at p16
          refine pw_if_eq (t := 49) (pc := 19) dX12_findPlans_19 (by decide) (by first | omega | (simp only [n_h1_mRoads]; omega)) (fun c19 => absurd c19 (by decide)) (fun _ => ?_)
          refine pw_aload_n (z := mo_) (pc := 22) dX12_findPlans_22 rfl rfl ?_
          have n_h16_mRoads : h16 mRoads = h mRoads := ((show h16 mRoads = h1 mRoads from (f16 mRoads (by decide))).trans (show h1 mRoads = h mRoads from (af mRoads (by decide))))
          refine pw_callV (c := 12) (o := mo_) (As := []) (rest := []) (pc := 23) dX12_findPlans_23 (c_isLawful hM h16 (by first | omega | (simp only [n_h16_mRoads, n_h1_mRoads]; omega)) (by first | omega | (simp only [n_h16_mRoads, n_h1_mRoads]; omega)) s_h16) lX12_396 mX12_isLawful vX12_isLawful (im_mo_ hM) k_mo_ rfl rfl rfl (by decide) ⟨Nat.zero_le _, Nat.zero_le _⟩ (Nat.le_of_ble_eq_true rfl) (k_i (fun z23 h23 y23 q23 => ?_))
          obtain ⟨rfl, ⟨rfl, p23⟩ | ⟨rfl, p23⟩⟩ := q23
          · rw [l_h16] at p23
            simp -failIfUnchanged only [n_h16_mRoads] at p23
            refine pw_if_eq (t := 49) (pc := 26) dX12_findPlans_26 (by decide) (by first | omega | (simp only [n_h16_mRoads, n_h1_mRoads]; omega)) (fun c26 => absurd c26 (by decide)) (fun _ => ?_)
            have lq : lpl_ (h mRoads) p := ⟨by simpa only [n_h1_mRoads] using p16, by simpa only [n_h1_mRoads] using p23⟩
            rw [lpn_s ak.1, if_t lq, List.length_append] at lm
            have lm1 : ([p] : List Int).length = 1 := rfl
            have m16 : h16 mo_ 32 = ((lpn_ (h mRoads) p.toNat).length : Int) := by rw [f16 mo_ (by decide)]; exact am
            refine pw_aload_n (z := mo_) (pc := 29) dX12_findPlans_29 rfl rfl ?_
            refine pw_getR (r := mLawfuls) (pc := 30) dX12_findPlans_30 fX12_140 (im_mo_ hM) k_mo_ rfl fr_mLawfuls ?_
            refine pw_aload_n (z := mo_) (pc := 33) dX12_findPlans_33 rfl rfl ?_
            refine pw_gI (x := 32) (pc := 34) dX12_findPlans_34 fX12_422 (im_mo_ hM) k_mo_ rfl rfl (fun r34 => ?_)
            have n_h16_mo__32 : h16 mo_ 32 = h1 mo_ 32 := (congrFun (f16 mo_ (by decide)) 32)
            rw [n_h16_mo__32] at r34 ⊢
            refine pw_iload_n (z := p) (pc := 37) dX12_findPlans_37 rfl rfl ?_
            refine pw_iast (pc := 38) dX12_findPlans_38 (im_mLawfuls hM) k_mLawfuls 24 l_mLawfuls (by first | omega | (simp only [n_h16_mRoads, n_h16_mo__32, n_h1_mRoads]; omega)) (by first | omega | (simp only [n_h16_mRoads, n_h16_mo__32, n_h1_mRoads]; omega)) (by first | omega | (simp only [n_h16_mRoads, n_h16_mo__32, n_h1_mRoads]; omega)) (by first | omega | (simp only [n_h16_mRoads, n_h16_mo__32, n_h1_mRoads]; omega)) ?_
            obtain ⟨g38, e38⟩ : ∃ x, x = up_ h16 mLawfuls (h1 mo_ 32) p := ⟨_, rfl⟩
            refine pw_heq e38 ?_
            refine pw_aload_n (z := mo_) (pc := 39) dX12_findPlans_39 rfl rfl ?_
            refine pw_dup (pc := 40) dX12_findPlans_40 rfl ?_
            refine pw_gI (x := 32) (pc := 41) dX12_findPlans_41 fX12_422 (im_mo_ hM) k_mo_ rfl rfl (fun r41 => ?_)
            have n_g38_mo__32 : g38 mo_ 32 = h1 mo_ 32 := ((show g38 mo_ 32 = h16 mo_ 32 from (by rw [e38, up_off (by decide)])).trans (show h16 mo_ 32 = h1 mo_ 32 from (congrFun (f16 mo_ (by decide)) 32)))
            rw [n_g38_mo__32] at r41 ⊢
            refine pw_iconst (pc := 44) dX12_findPlans_44 ?_
            refine pw_iadd (pc := 45) dX12_findPlans_45 ?_
            refine pw_pI (x := 32) (pc := 46) dX12_findPlans_46 fX12_422 (im_mo_ hM) k_mo_ rfl rfl (by first | omega | (simp only [n_g38_mo__32, n_h16_mRoads, n_h16_mo__32, n_h1_mRoads]; omega)) ?_
            obtain ⟨g46, e46⟩ : ∃ x, x = up_ g38 mo_ 32 ((h1 mo_ 32) + 1) := ⟨_, rfl⟩
            refine pw_heq e46 ?_
            exact J49 _ (by first | exact off_tr af (off_mo f16 (by decide)) | (rw [e46, e38]; exact off_up (off_up (off_tr af (off_mo f16 (by decide))) (by decide)) (by decide))) (by first | exact fun k hk => by rw [f16 mo_ (by decide)]; exact ao k hk | exact fun k hk => by rw [e46, up_at, if_neg hk, e38, up_off (by decide), f16 mo_ (by decide)]; exact ao k hk) (by rw [lpn_s ak.1]; first
                  | (rw [if_f (fun u => p16 (by simpa only [n_h1_mRoads] using u.1)), List.append_nil, f16 mo_ (by decide)]; exact am)
                  | (rw [if_f (fun u => p23 (by simpa only [n_h1_mRoads] using u.2)), List.append_nil, f16 mo_ (by decide)]; exact am)
                  | (rw [if_t lq, e46, up_same, List.length_append, lm1]; omega)) (by rw [lpn_s ak.1]; first
                  | (rw [if_f (fun u => p16 (by simpa only [n_h1_mRoads] using u.1)), List.append_nil, f16 mLawfuls (by decide)]; exact aa)
                  | (rw [if_f (fun u => p23 (by simpa only [n_h1_mRoads] using u.2)), List.append_nil, f16 mLawfuls (by decide)]; exact aa)
                  | (rw [if_t lq, e46, up_off (by decide), e38, up_ob, f16 mLawfuls (by decide), am]; exact arr_push aa))
          · rw [l_h16] at p23
            simp -failIfUnchanged only [n_h16_mRoads] at p23
            refine pw_if_eq (t := 49) (pc := 26) dX12_findPlans_26 (by decide) (by first | omega | (simp only [n_h16_mRoads, n_h1_mRoads]; omega)) (fun _ => ?_) (fun c26 => absurd c26 (by decide))
            exact J49 _ (by first | exact off_tr af (off_mo f16 (by decide)) | (rw [e46, e38]; exact off_up (off_up (off_tr af (off_mo f16 (by decide))) (by decide)) (by decide))) (by first | exact fun k hk => by rw [f16 mo_ (by decide)]; exact ao k hk | exact fun k hk => by rw [e46, up_at, if_neg hk, e38, up_off (by decide), f16 mo_ (by decide)]; exact ao k hk) (by rw [lpn_s ak.1]; first
                  | (rw [if_f (fun u => p16 (by simpa only [n_h1_mRoads] using u.1)), List.append_nil, f16 mo_ (by decide)]; exact am)
                  | (rw [if_f (fun u => p23 (by simpa only [n_h1_mRoads] using u.2)), List.append_nil, f16 mo_ (by decide)]; exact am)
                  | (rw [if_t lq, e46, up_same, List.length_append, lm1]; omega)) (by rw [lpn_s ak.1]; first
                  | (rw [if_f (fun u => p16 (by simpa only [n_h1_mRoads] using u.1)), List.append_nil, f16 mLawfuls (by decide)]; exact aa)
                  | (rw [if_f (fun u => p23 (by simpa only [n_h1_mRoads] using u.2)), List.append_nil, f16 mLawfuls (by decide)]; exact aa)
                  | (rw [if_t lq, e46, up_off (by decide), e38, up_ob, f16 mLawfuls (by decide), am]; exact arr_push aa))
        · simp -failIfUnchanged only [n_h1_mRoads] at p16
          refine pw_if_eq (t := 49) (pc := 19) dX12_findPlans_19 (by decide) (by first | omega | (simp only [n_h1_mRoads]; omega)) (fun _ => ?_) (fun c19 => absurd c19 (by decide))
          exact J49 _ (by first | exact off_tr af (off_mo f16 (by decide)) | (rw [e46, e38]; exact off_up (off_up (off_tr af (off_mo f16 (by decide))) (by decide)) (by decide))) (by first | exact fun k hk => by rw [f16 mo_ (by decide)]; exact ao k hk | exact fun k hk => by rw [e46, up_at, if_neg hk, e38, up_off (by decide), f16 mo_ (by decide)]; exact ao k hk) (by rw [lpn_s ak.1]; first
                | (rw [if_f (fun u => p16 (by simpa only [n_h1_mRoads] using u.1)), List.append_nil, f16 mo_ (by decide)]; exact am)
                | (rw [if_f (fun u => p23 (by simpa only [n_h1_mRoads] using u.2)), List.append_nil, f16 mo_ (by decide)]; exact am)
                | (rw [if_t lq, e46, up_same, List.length_append, lm1]; omega)) (by rw [lpn_s ak.1]; first
                | (rw [if_f (fun u => p16 (by simpa only [n_h1_mRoads] using u.1)), List.append_nil, f16 mLawfuls (by decide)]; exact aa)
                | (rw [if_f (fun u => p23 (by simpa only [n_h1_mRoads] using u.2)), List.append_nil, f16 mLawfuls (by decide)]; exact aa)
                | (rw [if_t lq, e46, up_off (by decide), e38, up_ob, f16 mLawfuls (by decide), am]; exact arr_push aa))
  exact L7 _ _ _ (by omega) (by rw [e2]; exact off_up off_rf (by decide)) (fun k hk => by rw [e2, up_at]; exact if_neg hk) (by rw [e2, up_same]; rfl) (fun k hk => absurd hk (Nat.not_lt_zero k)) (Int.self_le_toNat _)

