/-! ===== laws read ===== -/
theorem eml_cod {m : Int} (hm : m ≤ 5) : ∀ {l : CO_} {h : PH_}, 0 ≤ h mo_ 13 → cok2_ m l → cod_ (eml_ h (l ++ [(0, 0)]) mOp) (eml_ h (l ++ [(0, 0)]) mArg) (1100 + h mo_ 13) l
  | [], h, h0, _ => by
    show em1_ h (0, 0) mOp (1100 + h mo_ 13) = 0
    unfold em1_
    rw [up_off (by decide), up_off (by decide), up_same]
  | q :: l, h, h0, hc => by
    have hq := hc q List.mem_cons_self
    have e := eml_cod hm (l := l) (h := em1_ h q) (by rw [em1_13]; omega) (fun x hx => hc x (List.mem_cons_of_mem _ hx))
    have lo := eml_lo (l := l ++ [(0, 0)]) (h := em1_ h q) (by rw [em1_13]; omega) (x := 1100 + h mo_ 13) (by rw [em1_13]; omega)
    rw [em1_13, ← Int.add_assoc] at e
    show eml_ (em1_ h q) (l ++ [(0, 0)]) mOp (1100 + h mo_ 13) = q.1 ∧ eml_ (em1_ h q) (l ++ [(0, 0)]) mArg (1100 + h mo_ 13) = q.2 ∧ _
    rw [lo.1, lo.2]
    refine ⟨?_, ?_, hq.1, fun u => by have := hq.2.1 u; omega, e⟩
    · unfold em1_; rw [up_off (by decide), up_off (by decide), up_same]
    · unfold em1_; rw [up_off (by decide), up_same]
/-- what a law's reading leaves -/
def LW_ (tk : Nat → TK_) (N f m : Nat) (h : PH_) (a : Nat) (h' : PH_) : Prop := (off_ [mOp, mArg, mo_] h h' ∧ (∀ k, k ≠ 7 → k ≠ 8 → k ≠ 13 → k ≠ 21 → k ≠ 22 → h' mo_ k = h mo_ k) ∧ ∀ x, x < 1100 → h' mOp x = h mOp x ∧ h' mArg x = h mArg x) ∧ ((∃ q, lwe_ tk f m a = .ok q ∧ RPO_ tk N h' q.2 ∧ (h' mo_ 13 = h mo_ 13 + q.1.length + 1 ∧ h' mo_ 13 ≤ q.2) ∧ cod_ (h' mOp) (h' mArg) (1100 + h mo_ 13) q.1 ∧ ∀ x, x < 1100 + h mo_ 13 → h' mOp x = h mOp x ∧ h' mArg x = h mArg x) ∨ (∃ e, lwe_ tk f m a = .error e ∧ RPE_ tk N h' e))
theorem cod_cg {o r o2 r2 : Int → Int} : ∀ {P : CO_} {i : Int}, cod_ o r i P → (∀ x, i ≤ x → x ≤ i + P.length → o2 x = o x ∧ r2 x = r x) → cod_ o2 r2 i P
  | [], i, h, e => by show o2 i = 0; rw [(e i (by omega) (by show i ≤ i + ((0 : Nat) : Int); omega)).1]; exact h
  | q :: P, i, h, e => by
    have e0 := e i (by omega) (by omega)
    obtain ⟨h1, h2, h3, h4, h5⟩ := h
    exact ⟨e0.1.trans h1, e0.2.trans h2, h3, h4, cod_cg h5 (fun x x0 x1 => e x (by omega) (by rw [List.length_cons]; omega))⟩
theorem lwr_lo {h h' : PH_} {i : Int} {P : CO_} (H : lwr_ h i P) (e : ∀ x, x < 1100 + h mo_ 13 → h' mOp x = h mOp x ∧ h' mArg x = h mArg x) (hc : h mo_ 13 ≤ h' mo_ 13) : lwr_ h' i P := ⟨H.1, cod_cg H.2.1 (fun x x0 x1 => e x (by have := H.2.2; omega)), by have := H.2.2; omega⟩
theorem WR_lo {h h' : PH_} (e : ∀ x, x < 1100 + h mo_ 13 → h' mOp x = h mOp x ∧ h' mArg x = h mArg x) (hc : h mo_ 13 ≤ h' mo_ 13) (e4 : h' mRoads 85 = h mRoads 85) : ∀ {W : Option CO_}, WR_ h W → WR_ h' W
  | none, H => by show h' mRoads 85 = -1; rw [e4]; exact H
  | some P, H => by show lwr_ h' (h' mRoads 85) P; rw [e4]; exact lwr_lo H e hc
theorem RPE_of {tk : Nat → TK_} {N : Nat} {h h' : PH_} {e : Int} (H : RB_ tk N h) (f : off_ [mOp, mArg, mo_] h h') (h8 : h' mo_ 8 = e) (he : 0 < e ∧ e < 2147483648) (h7 : 0 ≤ h' mo_ 7 ∧ h' mo_ 7 ≤ N) : RPE_ tk N h' e := ⟨RB_mv H (f mSort (by decide)) (f mPlace (by decide)) (f mValue (by decide)) (f mWords (by decide)), h7, h8, he⟩

set_option maxHeartbeats 4000000 in
set_option maxRecDepth 100000 in
theorem c_readLaw {G : GT_} (hM : okM_ G) (h : PH_) (tk : Nat → TK_) (N f m : Nat) (hf : f + m ≤ 30) (hm : m ≤ 5) (a : Nat) (H : RPO_ tk N h a) (hc : 0 ≤ h mo_ 13 ∧ h mo_ 13 + 1 ≤ a) : PC G yX12_readLaw cX12_readLaw 3 none 33 [rr_ G mo_, ii_ (f : Int), ii_ (m : Int)] h (qv_ (fun h' => LW_ tk N f m h a h')) := by
  refine PC.of (lv := [some (rr_ G mo_), some (ii_ (f : Int)), some (ii_ (m : Int))]) (by decide +kernel) (Nat.le_of_ble_eq_true rfl) rfl rfl ?_
  refine pw_aload_n (z := mo_) (pc := 0) dX12_readLaw_0 rfl rfl ?_
  refine pw_iload_n (z := (f : Int)) (pc := 1) dX12_readLaw_1 rfl rfl ?_
  refine pw_pI (x := 21) (pc := 2) dX12_readLaw_2 fX12_315 (im_mo_ hM) k_mo_ rfl rfl (by first | omega) ?_
  obtain ⟨g2, e2⟩ : ∃ x, x = up_ h mo_ 21 (f : Int) := ⟨_, rfl⟩
  refine pw_heq e2 ?_
  refine pw_aload_n (z := mo_) (pc := 5) dX12_readLaw_5 rfl rfl ?_
  refine pw_iload_n (z := (m : Int)) (pc := 6) dX12_readLaw_6 rfl rfl ?_
  refine pw_pI (x := 22) (pc := 7) dX12_readLaw_7 fX12_318 (im_mo_ hM) k_mo_ rfl rfl (by first | omega) ?_
  obtain ⟨g7, e7⟩ : ∃ x, x = up_ g2 mo_ 22 (m : Int) := ⟨_, rfl⟩
  refine pw_heq e7 ?_
  have fg : off_ [mOp, mArg, mo_] h g7 ∧ (∀ k, k ≠ 21 → k ≠ 22 → g7 mo_ k = h mo_ k) := ⟨by rw [e7, e2]; exact off_up (off_up off_rf (by decide)) (by decide), fun k k1 k2 => by rw [e7, up_at, if_neg k2, e2, up_at, if_neg k1]⟩
  have go : g7 mOp = h mOp ∧ g7 mArg = h mArg := by rw [e7, e2]; exact ⟨by rw [up_off (by decide), up_off (by decide)], by rw [up_off (by decide), up_off (by decide)]⟩
  have ex : EX_ tk N f m g7 a := ⟨RS_mv (RPO_RS H) (fg.1 mSort (by decide)) (fg.1 mPlace (by decide)) (fg.1 mValue (by decide)) (fg.1 mWords (by decide)) (by rw [fg.2 7 (by decide) (by decide)]; exact H.2.1) H.2.2.1, by rw [fg.2 8 (by decide) (by decide)]; exact H.2.2.2, by rw [fg.2 13 (by decide) (by decide)]; omega, by rw [e7, up_at, if_neg (by decide), e2, up_same], by rw [e7, up_same], hf⟩
  have g13 : g7 mo_ 13 = h mo_ 13 := fg.2 13 (by decide) (by decide)
  refine pw_aload_n (z := mo_) (pc := 10) dX12_readLaw_10 rfl rfl ?_
  refine pw_iconst (pc := 11) dX12_readLaw_11 ?_
  refine pw_callV (c := 12) (o := mo_) (As := [ii_ 0]) (rest := []) (pc := 12) dX12_readLaw_12 (by have e := c_alls hM tk N f m 5 (by decide) g7 a ex; rw [show (5 : Int) - ((5 : Nat) : Int) = 0 by decide] at e; exact e) lX12_321 mX12_all vX12_all (im_mo_ hM) k_mo_ rfl rfl rfl (by decide) ⟨Nat.zero_le _, Nat.zero_le _⟩ (Nat.le_of_ble_eq_true rfl) (k_v (fun h12 q12 => ?_))
  have lt := LT_7 ex q12
  have N1 := H.1.1.2.2.2.1
  refine pw_nr (fun nr9 => ?_)
  have i8 := (nr9 mo_ 8).1 (by decide +kernel)
  refine pw_aload_n (z := mo_) (pc := 15) dX12_readLaw_15 rfl rfl ?_
  refine pw_iconst (pc := 16) dX12_readLaw_16 ?_
  refine pw_iconst (pc := 17) dX12_readLaw_17 ?_
  refine pw_callV (c := 12) (o := mo_) (As := [ii_ 0, ii_ 0]) (rest := []) (pc := 18) dX12_readLaw_18 (c_emit hM h12 (by first | omega) 0 0 (by first | omega) (by first | omega)) lX12_324 mX12_emit vX12_emit (im_mo_ hM) k_mo_ rfl rfl rfl (by decide) ⟨Nat.zero_le _, Nat.zero_le _⟩ (Nat.le_of_ble_eq_true rfl) (k_v (fun h18 q18 => ?_))
  have q99 : h18 = em1_ h12 (0, 0) := q18
  exact pw_vret (pc := 21) dX12_readLaw_21 (by
            rw [q99]
            have hw := H.1.2.2
            rcases q12 with ⟨q, x1, x2, x3, x4, x5⟩ | ⟨e, x1, x2⟩
            · have ge := lwe_g hw (show m ≤ 30 by omega) x1
              have e18 : em1_ h12 (0, 0) = okh_ g7 (q.1 ++ [(0, 0)]) q.2 := by rw [x2, okh_em]
              rw [e18]
              have o1 := okh_o (h := g7) (l := q.1 ++ [(0, 0)]) (a := q.2)
              have ol : ∀ x, x < 1100 + h mo_ 13 → okh_ g7 (q.1 ++ [(0, 0)]) q.2 mOp x = h mOp x ∧ okh_ g7 (q.1 ++ [(0, 0)]) q.2 mArg x = h mArg x := fun x hx => by
                have := okh_lo (h := g7) (l := q.1 ++ [(0, 0)]) (a := q.2) (by omega) (x := x) (by omega)
                rw [this.1, this.2, go.1, go.2]; exact ⟨rfl, rfl⟩
              have l1 : ((q.1 ++ [(0, 0)]).length : Int) = (q.1.length : Int) + 1 := by rw [List.length_append]; rfl
              have k13 : okh_ g7 (q.1 ++ [(0, 0)]) q.2 mo_ 13 = h mo_ 13 + q.1.length + 1 := by rw [okh_13, l1, g13]; omega
              refine ⟨⟨off_tr fg.1 o1, fun k k1 k2 k3 k4 k5 => by rw [okh_m k1 k3]; exact fg.2 k k4 k5, fun x hx => ol x (by omega)⟩, Or.inl ⟨q, x1, ?_, ?_, ?_, ol⟩⟩
              · exact ⟨RB_mv H.1 ((off_tr fg.1 o1) mSort (by decide)) ((off_tr fg.1 o1) mPlace (by decide)) ((off_tr fg.1 o1) mValue (by decide)) ((off_tr fg.1 o1) mWords (by decide)), okh_7, x5, by rw [okh_m (by decide) (by decide), fg.2 8 (by decide) (by decide)]; exact H.2.2.2⟩
              · rw [k13]; exact ⟨rfl, by omega⟩
              · have cd := eml_cod (m := (m : Int)) (by omega) (l := q.1) (h := g7) (by omega) ge.1.1
                rw [g13] at cd
                show cod_ (up_ (eml_ g7 (q.1 ++ [(0, 0)])) mo_ 7 (q.2 : Int) mOp) (up_ (eml_ g7 (q.1 ++ [(0, 0)])) mo_ 7 (q.2 : Int) mArg) _ _
                rw [up_off (by decide), up_off (by decide)]; exact cd
            · obtain ⟨b1, b2, b3, b4, b5, b6⟩ := x2
              have eo := em1_o (h := h12) (q := ((0 : Int), (0 : Int)))
              have el : ∀ x, x < 1100 → em1_ h12 (0, 0) mOp x = h mOp x ∧ em1_ h12 (0, 0) mArg x = h mArg x := fun x hx => by
                have e1 := em1_lo (h := h12) (q := ((0 : Int), (0 : Int))) (by omega) hx
                have e2 := b6 x hx
                rw [e1.1, e1.2, e2.1, e2.2, go.1, go.2]; exact ⟨rfl, rfl⟩
              have e9 : e < 2147483648 := by have := b3.1; omega
              refine ⟨⟨off_tr fg.1 (off_tr b1 eo), fun k k1 k2 k3 k4 k5 => by rw [em1_m k3, b2 k k1 k2 k3]; exact fg.2 k k4 k5, el⟩, Or.inr ⟨e, x1, RPE_of H.1 (off_tr fg.1 (off_tr b1 eo)) (by rw [em1_m (by decide)]; exact b3.1) ⟨b3.2, e9⟩ (by rw [em1_m (by decide)]; exact b4)⟩⟩)

set_option maxHeartbeats 4000000 in
set_option maxRecDepth 100000 in
theorem c_readWorth {G : GT_} (hM : okM_ G) (h : PH_) (tk : Nat → TK_) (N : Nat) (Z : ZT_) (a : Nat) (H : ZR_ tk N Z h a) (hn : (tk a).1 ≠ 0) : PC G yX12_readWorth cX12_readWorth 1 none 34 [rr_ G mo_] h (qv_ (fun h' => FRL_ h h' ∧ LP_ tk N h' (wln_ tk Z a))) := by
  have H0 := H
  obtain ⟨H1, H2, H3, H4, H5, H6, H7, H8⟩ := H0
  have R7 := RP_7 (X := .ok a) H1
  have A7 := H1.2.1
  have A8 := H1.2.2.2
  obtain ⟨v80, v81, v82, v83, v84, v90⟩ := roA_8 H2
  obtain ⟨⟨y0, y1, y2, y3, y4, y5⟩, yr, ys, ya, yn, ym⟩ := H8
  obtain ⟨n9, P9⟩ := RP_n H1 hn
  have hW : (Z.2.2.1 = none ∧ h mRoads 85 = -1) ∨ (Z.2.2.1 ≠ none ∧ 0 ≤ h mRoads 85) := by
    cases hx : Z.2.2.1 with
    | none => rw [hx] at H4; exact Or.inl ⟨rfl, H4⟩
    | some P => rw [hx] at H4; exact Or.inr ⟨by simp, H4.1⟩
  refine PC.of (lv := [some (rr_ G mo_)]) (by decide +kernel) (Nat.le_of_ble_eq_true rfl) rfl rfl ?_
  refine pw_aload_n (z := mo_) (pc := 0) dX12_readWorth_0 rfl rfl ?_
  refine pw_getR (r := mRoads) (pc := 1) dX12_readWorth_1 fX12_97 (im_mo_ hM) k_mo_ rfl fr_mRoads ?_
  refine pw_bipush (pc := 4) dX12_readWorth_4 rfl ?_
  refine pw_iald (pc := 6) dX12_readWorth_6 (im_mRoads hM) k_mRoads 160 l_mRoads (by first | omega) (by first | omega) (by first | omega) (fun r6 => ?_)
  refine pw_if_lt (t := 16) (pc := 7) dX12_readWorth_7 (by decide) (by first | omega) (fun c7 => ?_) (fun c7 => ?_)
  · refine pw_aload_n (z := mo_) (pc := 16) dX12_readWorth_16 rfl rfl ?_
    refine pw_dup (pc := 17) dX12_readWorth_17 rfl ?_
    refine pw_gI (x := 7) (pc := 18) dX12_readWorth_18 fX12_215 (im_mo_ hM) k_mo_ rfl rfl (fun r18 => ?_)
    refine pw_iconst (pc := 21) dX12_readWorth_21 ?_
    refine pw_iadd (pc := 22) dX12_readWorth_22 ?_
    refine pw_pI (x := 7) (pc := 23) dX12_readWorth_23 fX12_215 (im_mo_ hM) k_mo_ rfl rfl (by first | omega) ?_
    obtain ⟨g23, e23⟩ : ∃ x, x = up_ h mo_ 7 ((h mo_ 7) + 1) := ⟨_, rfl⟩
    refine pw_heq e23 ?_
    rw [← e23] at P9
    refine pw_aload_n (z := mo_) (pc := 26) dX12_readWorth_26 rfl rfl ?_
    refine pw_getR (r := mRoads) (pc := 27) dX12_readWorth_27 fX12_97 (im_mo_ hM) k_mo_ rfl fr_mRoads ?_
    refine pw_bipush (pc := 30) dX12_readWorth_30 rfl ?_
    refine pw_aload_n (z := mo_) (pc := 32) dX12_readWorth_32 rfl rfl ?_
    refine pw_gI (x := 13) (pc := 33) dX12_readWorth_33 fX12_252 (im_mo_ hM) k_mo_ rfl rfl (fun r33 => ?_)
    have n_g23_mo__13 : g23 mo_ 13 = h mo_ 13 := (by rw [e23, up_at]; exact if_neg (by decide))
    rw [n_g23_mo__13] at r33 ⊢
    refine pw_iast (pc := 36) dX12_readWorth_36 (im_mRoads hM) k_mRoads 160 l_mRoads (by first | omega | (simp only [n_g23_mo__13]; omega)) (by first | omega | (simp only [n_g23_mo__13]; omega)) (by first | omega | (simp only [n_g23_mo__13]; omega)) (by first | omega | (simp only [n_g23_mo__13]; omega)) ?_
    obtain ⟨g36, e36⟩ : ∃ x, x = up_ g23 mRoads 85 (h mo_ 13) := ⟨_, rfl⟩
    refine pw_heq e36 ?_
    have P10 : RPO_ tk N g36 (a + 1) := by rw [e36]; exact RP_r (X := .ok (a + 1)) P9
    have c13 : g36 mo_ 13 = h mo_ 13 := by rw [e36, up_off (by decide), e23, up_at, if_neg (by decide)]
    have wn : Z.2.2.1 = none := by rcases hW with u | u; exact u.1; (exfalso; omega)
    refine pw_aload_n (z := mo_) (pc := 37) dX12_readWorth_37 rfl rfl ?_
    refine pw_bipush (pc := 38) dX12_readWorth_38 rfl ?_
    refine pw_iconst (pc := 40) dX12_readWorth_40 ?_
    refine pw_callV (c := 12) (o := mo_) (As := [ii_ 22, ii_ 5]) (rest := []) (pc := 41) dX12_readWorth_41 (c_readLaw hM g36 tk N 22 5 (by decide) (by decide) (a + 1) P10 (by first | omega | (simp only [n_g23_mo__13]; omega))) lX12_328 mX12_readLaw vX12_readLaw (im_mo_ hM) k_mo_ rfl rfl rfl (by decide) ⟨Nat.zero_le _, Nat.zero_le _⟩ (Nat.le_of_ble_eq_true rfl) (k_v (fun h41 q41 => ?_))
    obtain ⟨f41, r41⟩ := q41
    exact pw_vret (pc := 44) dX12_readWorth_44 (by
              have fo : FRL_ h h41 := by
                refine FRL_tr (b := g36) (by rw [e36, e23]; exact FRL_tr (FRL_m (by decide)) (FRL_r (by decide))) ⟨off_mo f41.1 (by decide), fun k k1 k2 k3 _ _ k6 k7 => f41.2.1 k k1 k2 k3 k6 k7, fun x _ => by rw [f41.1 mRoads (by decide)], f41.2.2⟩
              refine ⟨fo, ?_⟩
              have e0 : wln_ tk Z a = bd_ (lwe_ tk 22 5 (a + 1)) (fun q => .ok ((Z.1, Z.2.1, some q.1, Z.2.2.2), q.2)) := by unfold wln_; rw [if_t wn]
              rcases r41 with ⟨q, x1, x2, x3, x4, x5⟩ | ⟨e, x1, x2⟩
              · have so : wln_ tk Z a = .ok ((Z.1, Z.2.1, some q.1, Z.2.2.2), q.2) := by rw [e0, bd_o x1]
                have sz := wln_z H1.1.2.2 H.2.2.2.2.2.2.2 (show q.2 ≤ 1000 by have := x2.2.2.1; omega) so
                rw [so]
                have r85 : h41 mRoads 85 = h mo_ 13 := by rw [f41.1 mRoads (by decide), e36, up_same]
                have ro : ∀ x, x ≠ 85 → h41 mRoads x = h mRoads x := fun x hx => by rw [f41.1 mRoads (by decide), e36, up_at, if_neg hx, e23, up_off (by decide)]
                have lo : ∀ x, x < 1100 + h mo_ 13 → h41 mOp x = h mOp x ∧ h41 mArg x = h mArg x := fun x hx => by
                  have := x5 x (by omega)
                  rw [this.1, this.2, e36, up_off (by decide), up_off (by decide), e23, up_off (by decide), up_off (by decide)]; exact ⟨rfl, rfl⟩
                refine ⟨x2, fun k k0 k1 k2 => by rw [ro _ (by omega)]; exact H2 k k0 k1 k2, ?_, ?_, fun j hj => ?_, ?_, ⟨by omega, by show h41 mo_ 13 ≤ (q.2 : Int); omega⟩, sz.1⟩
                · rw [f41.2.1 19 (by decide) (by decide) (by decide) (by decide) (by decide), f41.1 mReadNames (by decide), f41.1 mReadNameOf (by decide), e36, up_off (by decide), up_off (by decide), up_off (by decide), e23, up_at, if_neg (by decide), up_off (by decide), up_off (by decide)]
                  exact H3
                · show lwr_ h41 (h41 mRoads 85) q.1
                  rw [r85]
                  rw [c13] at x4
                  exact ⟨H7.1, x4, by omega⟩
                · have q3 := y3
                  have q4 := yn.2.1
                  have hj : j < Z.2.2.2.1.length := hj
                  rw [ro _ (by omega)]
                  exact lwr_lo (H5 j hj) lo (by omega)
                · rw [f41.2.1 20 (by decide) (by decide) (by decide) (by decide) (by decide), e36, up_off (by decide), e23, up_at, if_neg (by decide)]; exact H6
              · rw [e0, bd_e x1]; exact x2)
  · refine pw_aload_n (z := mo_) (pc := 10) dX12_readWorth_10 rfl rfl ?_
    refine pw_iconst (pc := 11) dX12_readWorth_11 ?_
    refine pw_callV (c := 12) (o := mo_) (As := [ii_ 3]) (rest := []) (pc := 12) dX12_readWorth_12 (c_wrong hM h (by first | omega) (by first | omega) 3 (by first | omega)) lX12_224 mX12_wrong vX12_wrong (im_mo_ hM) k_mo_ rfl rfl rfl (by decide) ⟨Nat.zero_le _, Nat.zero_le _⟩ (Nat.le_of_ble_eq_true rfl) (k_v (fun h12 q12 => ?_))
    exact pw_vret (pc := 15) dX12_readWorth_15 (by
              have w := RP_w (w := 3) H1 (by omega)
              unfold wln_
              rw [if_f (show ¬ Z.2.2.1 = none by rcases hW with u | u; (exfalso; omega); exact u.1), q12]
              exact ⟨by rw [w.1]; exact FRL_m (by decide), w.2⟩)

set_option maxHeartbeats 4000000 in
set_option maxRecDepth 100000 in
theorem c_readRule {G : GT_} (hM : okM_ G) (h : PH_) (tk : Nat → TK_) (N : Nat) (Z : ZT_) (a : Nat) (H : ZR_ tk N Z h a) (hn : (tk a).1 ≠ 0) : PC G yX12_readRule cX12_readRule 2 none 34 [rr_ G mo_] h (qv_ (fun h' => FRL_ h h' ∧ LP_ tk N h' (uln_ tk Z a))) := by
  have H0 := H
  obtain ⟨H1, H2, H3, H4, H5, H6, H7, H8⟩ := H0
  have R7 := RP_7 (X := .ok a) H1
  have A7 := H1.2.1
  have A8 := H1.2.2.2
  obtain ⟨v80, v81, v82, v83, v84, v90⟩ := roA_8 H2
  obtain ⟨⟨y0, y1, y2, y3, y4, y5⟩, yr, ys, ya, yn, ym⟩ := H8
  refine PC.of (lv := [some (rr_ G mo_), none]) (by decide +kernel) (Nat.le_of_ble_eq_true rfl) rfl rfl ?_
  refine pw_aload_n (z := mo_) (pc := 0) dX12_readRule_0 rfl rfl ?_
  refine pw_getR (r := mRoads) (pc := 1) dX12_readRule_1 fX12_97 (im_mo_ hM) k_mo_ rfl fr_mRoads ?_
  refine pw_bipush (pc := 4) dX12_readRule_4 rfl ?_
  refine pw_iald (pc := 6) dX12_readRule_6 (im_mRoads hM) k_mRoads 160 l_mRoads (by first | omega) (by first | omega) (by first | omega) (fun r6 => ?_)
  refine pw_istore_n (lv1 := [some (rr_ G mo_), some (ii_ (h mRoads 83))]) (pc := 7) dX12_readRule_7 rfl (by decide) rfl rfl ?_
  rw [v83]
  refine pw_iload_n (z := Z.1 3) (pc := 8) dX12_readRule_8 rfl rfl ?_
  refine pw_iconst (pc := 9) dX12_readRule_9 ?_
  refine pw_icmp_ne (t := 19) (pc := 10) dX12_readRule_10 (by decide) (by first | omega) (by first | omega) (fun c10 => ?_) (fun c10 => ?_)
  · have n8 : Z.2.1.length < 8 := by have := yn.1; omega
    refine pw_aload_n (z := mo_) (pc := 19) dX12_readRule_19 rfl rfl ?_
    refine pw_bipush (pc := 20) dX12_readRule_20 rfl ?_
    refine pw_callV (c := 12) (o := mo_) (As := [ii_ 20]) (rest := []) (pc := 22) dX12_readRule_22 (c_readName hM h tk N a H1 hn Z.2.1 H3 n8 20 (by first | omega)) lX12_301 mX12_readName vX12_readName (im_mo_ hM) k_mo_ rfl rfl rfl (by decide) ⟨Nat.zero_le _, Nat.zero_le _⟩ (Nat.le_of_ble_eq_true rfl) (k_v (fun h22 q22 => ?_))
    obtain ⟨f22, r22⟩ := q22
    have b8 : (0 ≤ h22 mo_ 8 ∧ h22 mo_ 8 < 2147483648) := by
      rcases r22 with ⟨nm, k1, k2, k3⟩ | ⟨e, u1, u2⟩
      · exact (RP_7 (X := .ok (a + 2)) k2).2.2.2.2
      · exact (RP_7 (X := .error e) u2).2.2.2.2
    refine pw_aload_n (z := mo_) (pc := 25) dX12_readRule_25 rfl rfl ?_
    refine pw_gI (x := 8) (pc := 26) dX12_readRule_26 fX12_218 (im_mo_ hM) k_mo_ rfl rfl (fun r26 => ?_)
    refine pw_if_le (t := 33) (pc := 29) dX12_readRule_29 (by decide) (by first | omega) (fun c29 => ?_) (fun c29 => ?_)
    · obtain ⟨nm, k1, k2, k3⟩ : ∃ nm, nnm_ tk Z.2.1 20 (a + 1) = .ok nm ∧ RPO_ tk N h22 (a + 2) ∧ nmr_ (h22 mo_ 19) (h22 mReadNames) (h22 mReadNameOf) nm := by
        rcases r22 with u | ⟨e, u1, u2⟩
        · exact u
        · exfalso; have := u2.2.2; omega
      have b13 : h22 mo_ 13 = h mo_ 13 := f22.2 13 (by decide) (by decide) (by decide)
      refine pw_aload_n (z := mo_) (pc := 33) dX12_readRule_33 rfl rfl ?_
      refine pw_getR (r := mRoads) (pc := 34) dX12_readRule_34 fX12_97 (im_mo_ hM) k_mo_ rfl fr_mRoads ?_
      refine pw_bipush (pc := 37) dX12_readRule_37 rfl ?_
      refine pw_iload_n (z := Z.1 3) (pc := 39) dX12_readRule_39 rfl rfl ?_
      refine pw_iadd (pc := 40) dX12_readRule_40 ?_
      refine pw_aload_n (z := mo_) (pc := 41) dX12_readRule_41 rfl rfl ?_
      refine pw_gI (x := 13) (pc := 42) dX12_readRule_42 fX12_252 (im_mo_ hM) k_mo_ rfl rfl (fun r42 => ?_)
      refine pw_iast (pc := 45) dX12_readRule_45 (im_mRoads hM) k_mRoads 160 l_mRoads (by first | omega) (by first | omega) (by first | omega) (by first | omega) ?_
      obtain ⟨g45, e45⟩ : ∃ x, x = up_ h22 mRoads (86 + (Z.1 3)) (h22 mo_ 13) := ⟨_, rfl⟩
      refine pw_heq e45 ?_
      have P10 : RPO_ tk N g45 (a + 2) := by rw [e45]; exact RP_r (X := .ok (a + 2)) k2
      have c13 : g45 mo_ 13 = h mo_ 13 := by rw [e45, up_off (by decide)]; exact b13
      refine pw_aload_n (z := mo_) (pc := 46) dX12_readRule_46 rfl rfl ?_
      refine pw_bipush (pc := 47) dX12_readRule_47 rfl ?_
      refine pw_iconst (pc := 49) dX12_readRule_49 ?_
      refine pw_callV (c := 12) (o := mo_) (As := [ii_ 27, ii_ 3]) (rest := []) (pc := 50) dX12_readRule_50 (c_readLaw hM g45 tk N 27 3 (by decide) (by decide) (a + 2) P10 (by first | omega)) lX12_328 mX12_readLaw vX12_readLaw (im_mo_ hM) k_mo_ rfl rfl rfl (by decide) ⟨Nat.zero_le _, Nat.zero_le _⟩ (Nat.le_of_ble_eq_true rfl) (k_v (fun h50 q50 => ?_))
      obtain ⟨f50, r50⟩ := q50
      have r83 : h50 mRoads 83 = Z.1 3 := by rw [f50.1 mRoads (by decide), e45, up_at, if_neg (by omega), f22.1 mRoads (by decide)]; exact v83
      refine pw_aload_n (z := mo_) (pc := 53) dX12_readRule_53 rfl rfl ?_
      refine pw_getR (r := mRoads) (pc := 54) dX12_readRule_54 fX12_97 (im_mo_ hM) k_mo_ rfl fr_mRoads ?_
      refine pw_bipush (pc := 57) dX12_readRule_57 rfl ?_
      refine pw_dup2 (pc := 59) dX12_readRule_59 rfl rfl ?_
      refine pw_iald (pc := 60) dX12_readRule_60 (im_mRoads hM) k_mRoads 160 l_mRoads (by first | omega) (by first | omega) (by first | omega) (fun r60 => ?_)
      refine pw_iconst (pc := 61) dX12_readRule_61 ?_
      refine pw_iadd (pc := 62) dX12_readRule_62 ?_
      refine pw_iast (pc := 63) dX12_readRule_63 (im_mRoads hM) k_mRoads 160 l_mRoads (by first | omega) (by first | omega) (by first | omega) (by first | omega) ?_
      obtain ⟨g63, e63⟩ : ∃ x, x = up_ h50 mRoads 83 ((h50 mRoads 83) + 1) := ⟨_, rfl⟩
      refine pw_heq e63 ?_
      exact pw_vret (pc := 64) dX12_readRule_64 (by
                have fo : FRL_ h g63 := by
                  rw [e63]
                  refine FRL_tr (FRL_tr (FRL_tr (FRL_rn f22) (b := h22) (c := g45) (by rw [e45]; exact FRL_r (by omega))) ⟨off_mo f50.1 (by decide), fun k k1 k2 k3 _ _ k6 k7 => f50.2.1 k k1 k2 k3 k6 k7, fun x _ => by rw [f50.1 mRoads (by decide)], f50.2.2⟩) (FRL_r (by decide))
                refine ⟨fo, ?_⟩
                have e0 : uln_ tk Z a = bd_ (lwe_ tk 27 3 (a + 2)) (fun q => .ok ((ob_ Z.1 3 (Z.1 3 + 1), nm, Z.2.2.1, Z.2.2.2.1 ++ [q.1], Z.2.2.2.2), q.2)) := by unfold uln_; rw [if_f (show ¬ Z.1 3 = 4 from c10), bd_o k1]
                rcases r50 with ⟨q, x1, x2, x3, x4, x5⟩ | ⟨e, x1, x2⟩
                · have so : uln_ tk Z a = .ok ((ob_ Z.1 3 (Z.1 3 + 1), nm, Z.2.2.1, Z.2.2.2.1 ++ [q.1], Z.2.2.2.2), q.2) := by rw [e0, bd_o x1]
                  have sz := uln_z H1.1.2.2 H.2.2.2.2.2.2.2 (show q.2 ≤ 1000 by have := x2.2.2.1; omega) so
                  rw [so]
                  have g13 : g63 mo_ 13 = h50 mo_ 13 := by rw [e63, up_off (by decide)]
                  have r86 : g63 mRoads (86 + Z.1 3) = h mo_ 13 := by rw [e63, up_at, if_neg (by omega), f50.1 mRoads (by decide), e45, up_same]; exact b13
                  have ro : ∀ x, x ≠ 86 + Z.1 3 → x ≠ 83 → g63 mRoads x = h mRoads x := fun x hx hy => by rw [e63, up_at, if_neg hy, f50.1 mRoads (by decide), e45, up_at, if_neg hx, f22.1 mRoads (by decide)]
                  have lo : ∀ x, x < 1100 + h mo_ 13 → g63 mOp x = h mOp x ∧ g63 mArg x = h mArg x := fun x hx => by
                    have := x5 x (by omega)
                    rw [e63, up_off (by decide), up_off (by decide), this.1, this.2, e45, up_off (by decide), up_off (by decide), f22.1 mOp (by decide), f22.1 mArg (by decide)]; exact ⟨rfl, rfl⟩
                  have q4 := yn.2.1
                  refine ⟨by rw [e63]; exact RP_r (X := .ok q.2) x2, ?_, ?_, ?_, fun j hj => ?_, ?_, ⟨by omega, by show g63 mo_ 13 ≤ (q.2 : Int); omega⟩, sz.1⟩
                  · intro k k0 k1 k9
                    show g63 mRoads (80 + k) = ob_ Z.1 3 (Z.1 3 + 1) k
                    unfold ob_
                    by_cases c3 : k = 3
                    · rw [if_pos c3, c3, e63, show (80 : Int) + 3 = 83 by decide, up_same, r83]
                    · rw [if_neg c3, ro _ (by omega) (by omega)]; exact H2 k k0 k1 k9
                  · rw [e63, up_off (by decide), up_off (by decide), up_off (by decide), f50.2.1 19 (by decide) (by decide) (by decide) (by decide) (by decide), f50.1 mReadNames (by decide), f50.1 mReadNameOf (by decide), e45, up_off (by decide), up_off (by decide), up_off (by decide)]
                    exact k3
                  · exact WR_lo lo (by omega) (ro 85 (by omega) (by omega)) H4
                  · have hj : j < (Z.2.2.2.1 ++ [q.1]).length := hj
                    rw [List.length_append] at hj
                    have hj : j < Z.2.2.2.1.length + 1 := hj
                    show lwr_ g63 (g63 mRoads (86 + (j : Int))) ((Z.2.2.2.1 ++ [q.1]).getD j [])
                    by_cases cj : j = Z.2.2.2.1.length
                    · rw [show (86 : Int) + (j : Int) = 86 + Z.1 3 by omega, r86, cj]
                      rw [c13] at x4
                      have ge : (Z.2.2.2.1 ++ [q.1]).getD Z.2.2.2.1.length [] = q.1 := by simp [List.getD_eq_getElem?_getD]
                      rw [ge]
                      exact ⟨H7.1, by rw [e63, up_off (by decide), up_off (by decide)]; exact x4, by omega⟩
                    · rw [ro _ (by omega) (by omega), List.getD_eq_getElem?_getD, List.getElem?_append_left (by omega), ← List.getD_eq_getElem?_getD]
                      exact lwr_lo (H5 j (by omega)) lo (by omega)
                  · rw [e63, up_off (by decide), f50.2.1 20 (by decide) (by decide) (by decide) (by decide) (by decide), e45, up_off (by decide), f22.2 20 (by decide) (by decide) (by decide)]; exact H6
                · rw [e0, bd_e x1]
                  show RPE_ tk N g63 e
                  rw [e63]; exact RP_r (X := .error e) x2)
    · exact pw_vret (pc := 32) dX12_readRule_32 (by
                refine ⟨FRL_rn f22, ?_⟩
                rcases r22 with ⟨nm, k1, k2, k3⟩ | ⟨e, u1, u2⟩
                · exfalso; have := k2.2.2.2; omega
                · have e0 : uln_ tk Z a = .error e := by unfold uln_; rw [if_f (show ¬ Z.1 3 = 4 from c10), bd_e u1]
                  rw [e0]; exact u2)
  · refine pw_aload_n (z := mo_) (pc := 13) dX12_readRule_13 rfl rfl ?_
    refine pw_iconst (pc := 14) dX12_readRule_14 ?_
    refine pw_callV (c := 12) (o := mo_) (As := [ii_ 5]) (rest := []) (pc := 15) dX12_readRule_15 (c_wrong hM h (by first | omega) (by first | omega) 5 (by first | omega)) lX12_224 mX12_wrong vX12_wrong (im_mo_ hM) k_mo_ rfl rfl rfl (by decide) ⟨Nat.zero_le _, Nat.zero_le _⟩ (Nat.le_of_ble_eq_true rfl) (k_v (fun h15 q15 => ?_))
    exact pw_vret (pc := 18) dX12_readRule_18 (by
              have w := RP_w (w := 5) H1 (by omega)
              unfold uln_
              rw [if_t (show Z.1 3 = 4 from c10), q15]
              exact ⟨by rw [w.1]; exact FRL_m (by decide), w.2⟩)

