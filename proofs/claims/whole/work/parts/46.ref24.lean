/-! ===== the tape's small steps ===== -/
theorem lc_z {a b : Int} (h : (if b < a then 1 else if a = b then 0 else -1 : Int) = 0) : a = b := by
  split at h
  · omega
  · split at h <;> omega
theorem lc_y {a b : Int} (h : ¬ (if b < a then 1 else if a = b then 0 else -1 : Int) = 0) : a ≠ b := by
  intro e; subst e; apply h; rw [if_neg (by omega), if_pos rfl]
def sgn_ (h : PH_) (c : Int) : Prop := h mo_ 8 = 0 ∧ h mSort (h mo_ 7) = 3 ∧ h mValue (h mo_ 7) = c
def wrd_ (h : PH_) (w : Int) : Prop := h mo_ 8 = 0 ∧ h mSort (h mo_ 7) = 1 ∧ h mValue (h mo_ 7) = h mWords w
noncomputable def wro_ (h : PH_) (w : Int) : PH_ := if_ (h mo_ 8 = 0) (up_ h mo_ 8 (w + 16 * h mPlace (h mo_ 7))) h

set_option maxHeartbeats 4000000 in
set_option maxRecDepth 100000 in
theorem c_emit {G : GT_} (hM : okM_ G) (h : PH_) (hc : 0 ≤ h mo_ 13 ∧ h mo_ 13 < 1100) (c a : Int) (h1 : ir_ c) (h2 : ir_ a) : PC G yX12_emit cX12_emit 3 none 1 [rr_ G mo_, ii_ c, ii_ a] h (qv_ (fun h' => h' = up_ (up_ (up_ h mOp (1100 + h mo_ 13) c) mArg (1100 + h mo_ 13) a) mo_ 13 (h mo_ 13 + 1))) := by
  refine PC.of (lv := [some (rr_ G mo_), some (ii_ c), some (ii_ a)]) (by decide +kernel) (Nat.le_of_ble_eq_true rfl) rfl rfl ?_
  refine pw_aload_n (z := mo_) (pc := 0) dX12_emit_0 rfl rfl ?_
  refine pw_getR (r := mOp) (pc := 1) dX12_emit_1 fX12_100 (im_mo_ hM) k_mo_ rfl fr_mOp ?_
  refine pw_sipush (pc := 4) dX12_emit_4 rfl ?_
  refine pw_aload_n (z := mo_) (pc := 7) dX12_emit_7 rfl rfl ?_
  refine pw_gI (x := 13) (pc := 8) dX12_emit_8 fX12_252 (im_mo_ hM) k_mo_ rfl rfl (fun r8 => ?_)
  refine pw_iadd (pc := 11) dX12_emit_11 ?_
  refine pw_iload_n (z := c) (pc := 12) dX12_emit_12 rfl rfl ?_
  refine pw_iast (pc := 13) dX12_emit_13 (im_mOp hM) k_mOp 2200 l_mOp (by first | omega) (by first | omega) (by first | omega) (by first | omega) ?_
  obtain ⟨g13, e13⟩ : ∃ x, x = up_ h mOp (1100 + (h mo_ 13)) c := ⟨_, rfl⟩
  refine pw_heq e13 ?_
  refine pw_aload_n (z := mo_) (pc := 14) dX12_emit_14 rfl rfl ?_
  refine pw_getR (r := mArg) (pc := 15) dX12_emit_15 fX12_103 (im_mo_ hM) k_mo_ rfl fr_mArg ?_
  refine pw_sipush (pc := 18) dX12_emit_18 rfl ?_
  refine pw_aload_n (z := mo_) (pc := 21) dX12_emit_21 rfl rfl ?_
  refine pw_gI (x := 13) (pc := 22) dX12_emit_22 fX12_252 (im_mo_ hM) k_mo_ rfl rfl (fun r22 => ?_)
  have n_g13_mo__13 : g13 mo_ 13 = h mo_ 13 := (by rw [e13, up_off (by decide)])
  rw [n_g13_mo__13] at r22 ⊢
  refine pw_iadd (pc := 25) dX12_emit_25 ?_
  refine pw_iload_n (z := a) (pc := 26) dX12_emit_26 rfl rfl ?_
  refine pw_iast (pc := 27) dX12_emit_27 (im_mArg hM) k_mArg 2200 l_mArg (by first | omega | (simp only [n_g13_mo__13]; omega)) (by first | omega | (simp only [n_g13_mo__13]; omega)) (by first | omega | (simp only [n_g13_mo__13]; omega)) (by first | omega | (simp only [n_g13_mo__13]; omega)) ?_
  obtain ⟨g27, e27⟩ : ∃ x, x = up_ g13 mArg (1100 + (h mo_ 13)) a := ⟨_, rfl⟩
  refine pw_heq e27 ?_
  refine pw_aload_n (z := mo_) (pc := 28) dX12_emit_28 rfl rfl ?_
  refine pw_dup (pc := 29) dX12_emit_29 rfl ?_
  refine pw_gI (x := 13) (pc := 30) dX12_emit_30 fX12_252 (im_mo_ hM) k_mo_ rfl rfl (fun r30 => ?_)
  have n_g27_mo__13 : g27 mo_ 13 = h mo_ 13 := ((show g27 mo_ 13 = g13 mo_ 13 from (by rw [e27, up_off (by decide)])).trans (show g13 mo_ 13 = h mo_ 13 from (by rw [e13, up_off (by decide)])))
  rw [n_g27_mo__13] at r30 ⊢
  refine pw_iconst (pc := 33) dX12_emit_33 ?_
  refine pw_iadd (pc := 34) dX12_emit_34 ?_
  refine pw_pI (x := 13) (pc := 35) dX12_emit_35 fX12_252 (im_mo_ hM) k_mo_ rfl rfl (by first | omega | (simp only [n_g13_mo__13, n_g27_mo__13]; omega)) ?_
  obtain ⟨g35, e35⟩ : ∃ x, x = up_ g27 mo_ 13 ((h mo_ 13) + 1) := ⟨_, rfl⟩
  refine pw_heq e35 ?_
  exact pw_vret (pc := 38) dX12_emit_38 (by rw [e35, e27, e13])

set_option maxHeartbeats 4000000 in
set_option maxRecDepth 100000 in
theorem c_isSign {G : GT_} (hM : okM_ G) (h : PH_) (ha : 0 ≤ h mo_ 7 ∧ h mo_ 7 ≤ 1001) (c : Int) (h1 : ir_ c) : PC G yX12_isSign cX12_isSign 2 (some .boolean) 1 [rr_ G mo_, ii_ c] h (qi_ (fun z h' => h = h' ∧ (z = 1 ∧ (sgn_ h c) ∨ z = 0 ∧ ¬ (sgn_ h c)))) := by
  refine PC.of (lv := [some (rr_ G mo_), some (ii_ c)]) (by decide +kernel) (Nat.le_of_ble_eq_true rfl) rfl rfl ?_
  refine pw_aload_n (z := mo_) (pc := 0) dX12_isSign_0 rfl rfl ?_
  refine pw_gI (x := 8) (pc := 1) dX12_isSign_1 fX12_218 (im_mo_ hM) k_mo_ rfl rfl (fun r1 => ?_)
  refine pw_if_ne (t := 39) (pc := 4) dX12_isSign_4 (by decide) (by first | omega) (fun c4 => ?_) (fun c4 => ?_)
  · refine pw_iconst (pc := 39) dX12_isSign_39 ?_
    exact pw_zret (pc := 40) dX12_isSign_40 (by first | omega) (by refine ⟨rfl, ?_⟩; first | exact Or.inl ⟨rfl, by omega, by omega, lc_z c32⟩ | exact Or.inr ⟨rfl, fun u => by have u1 := u.1; have u2 := u.2.1; omega⟩ | exact Or.inr ⟨rfl, fun u => lc_y c32 u.2.2⟩)
  · refine pw_aload_n (z := mo_) (pc := 7) dX12_isSign_7 rfl rfl ?_
    refine pw_getR (r := mSort) (pc := 8) dX12_isSign_8 fX12_24 (im_mo_ hM) k_mo_ rfl fr_mSort ?_
    refine pw_aload_n (z := mo_) (pc := 11) dX12_isSign_11 rfl rfl ?_
    refine pw_gI (x := 7) (pc := 12) dX12_isSign_12 fX12_215 (im_mo_ hM) k_mo_ rfl rfl (fun r12 => ?_)
    refine pw_iald (pc := 15) dX12_isSign_15 (im_mSort hM) k_mSort 1002 l_mSort (by first | omega) (by first | omega) (by first | omega) (fun r15 => ?_)
    refine pw_iconst (pc := 16) dX12_isSign_16 ?_
    refine pw_icmp_ne (t := 39) (pc := 17) dX12_isSign_17 (by decide) (by first | omega) (by first | omega) (fun c17 => ?_) (fun c17 => ?_)
    · refine pw_iconst (pc := 39) dX12_isSign_39 ?_
      exact pw_zret (pc := 40) dX12_isSign_40 (by first | omega) (by refine ⟨rfl, ?_⟩; first | exact Or.inl ⟨rfl, by omega, by omega, lc_z c32⟩ | exact Or.inr ⟨rfl, fun u => by have u1 := u.1; have u2 := u.2.1; omega⟩ | exact Or.inr ⟨rfl, fun u => lc_y c32 u.2.2⟩)
    · refine pw_aload_n (z := mo_) (pc := 20) dX12_isSign_20 rfl rfl ?_
      refine pw_getR (r := mValue) (pc := 21) dX12_isSign_21 fX12_30 (im_mo_ hM) k_mo_ rfl fr_mValue ?_
      refine pw_aload_n (z := mo_) (pc := 24) dX12_isSign_24 rfl rfl ?_
      refine pw_gI (x := 7) (pc := 25) dX12_isSign_25 fX12_215 (im_mo_ hM) k_mo_ rfl rfl (fun r25 => ?_)
      refine pw_lald (pc := 28) dX12_isSign_28 (im_mValue hM) k_mValue 1002 l_mValue (by first | omega) (by first | omega) (by first | omega) (fun r28 => ?_)
      refine pw_iload_n (z := c) (pc := 29) dX12_isSign_29 rfl rfl ?_
      refine pw_i2l (pc := 30) dX12_isSign_30 (by first | omega) ?_
      refine pw_lcmp (pc := 31) dX12_isSign_31 (by first | omega) (by first | omega) ?_
      refine pw_if_ne (t := 39) (pc := 32) dX12_isSign_32 (by decide) (by first | omega) (fun c32 => ?_) (fun c32 => ?_)
      · refine pw_iconst (pc := 39) dX12_isSign_39 ?_
        exact pw_zret (pc := 40) dX12_isSign_40 (by first | omega) (by refine ⟨rfl, ?_⟩; first | exact Or.inl ⟨rfl, by omega, by omega, lc_z c32⟩ | exact Or.inr ⟨rfl, fun u => by have u1 := u.1; have u2 := u.2.1; omega⟩ | exact Or.inr ⟨rfl, fun u => lc_y c32 u.2.2⟩)
      · refine pw_iconst (pc := 35) dX12_isSign_35 ?_
        refine pw_goto (t := 40) (pc := 36) dX12_isSign_36 (by decide) ?_
        exact pw_zret (pc := 40) dX12_isSign_40 (by first | omega) (by refine ⟨rfl, ?_⟩; first | exact Or.inl ⟨rfl, by omega, by omega, lc_z c32⟩ | exact Or.inr ⟨rfl, fun u => by have u1 := u.1; have u2 := u.2.1; omega⟩ | exact Or.inr ⟨rfl, fun u => lc_y c32 u.2.2⟩)

set_option maxHeartbeats 4000000 in
set_option maxRecDepth 100000 in
theorem c_isWord {G : GT_} (hM : okM_ G) (h : PH_) (ha : 0 ≤ h mo_ 7 ∧ h mo_ 7 ≤ 1001) (w : Int) (h1 : 0 ≤ w ∧ w < 30) : PC G yX12_isWord cX12_isWord 2 (some .boolean) 1 [rr_ G mo_, ii_ w] h (qi_ (fun z h' => h = h' ∧ (z = 1 ∧ (wrd_ h w) ∨ z = 0 ∧ ¬ (wrd_ h w)))) := by
  refine PC.of (lv := [some (rr_ G mo_), some (ii_ w)]) (by decide +kernel) (Nat.le_of_ble_eq_true rfl) rfl rfl ?_
  refine pw_aload_n (z := mo_) (pc := 0) dX12_isWord_0 rfl rfl ?_
  refine pw_gI (x := 8) (pc := 1) dX12_isWord_1 fX12_218 (im_mo_ hM) k_mo_ rfl rfl (fun r1 => ?_)
  refine pw_if_ne (t := 43) (pc := 4) dX12_isWord_4 (by decide) (by first | omega) (fun c4 => ?_) (fun c4 => ?_)
  · refine pw_iconst (pc := 43) dX12_isWord_43 ?_
    exact pw_zret (pc := 44) dX12_isWord_44 (by first | omega) (by refine ⟨rfl, ?_⟩; first | exact Or.inl ⟨rfl, by omega, by omega, lc_z c36⟩ | exact Or.inr ⟨rfl, fun u => by have u1 := u.1; have u2 := u.2.1; omega⟩ | exact Or.inr ⟨rfl, fun u => lc_y c36 u.2.2⟩)
  · refine pw_aload_n (z := mo_) (pc := 7) dX12_isWord_7 rfl rfl ?_
    refine pw_getR (r := mSort) (pc := 8) dX12_isWord_8 fX12_24 (im_mo_ hM) k_mo_ rfl fr_mSort ?_
    refine pw_aload_n (z := mo_) (pc := 11) dX12_isWord_11 rfl rfl ?_
    refine pw_gI (x := 7) (pc := 12) dX12_isWord_12 fX12_215 (im_mo_ hM) k_mo_ rfl rfl (fun r12 => ?_)
    refine pw_iald (pc := 15) dX12_isWord_15 (im_mSort hM) k_mSort 1002 l_mSort (by first | omega) (by first | omega) (by first | omega) (fun r15 => ?_)
    refine pw_iconst (pc := 16) dX12_isWord_16 ?_
    refine pw_icmp_ne (t := 43) (pc := 17) dX12_isWord_17 (by decide) (by first | omega) (by first | omega) (fun c17 => ?_) (fun c17 => ?_)
    · refine pw_iconst (pc := 43) dX12_isWord_43 ?_
      exact pw_zret (pc := 44) dX12_isWord_44 (by first | omega) (by refine ⟨rfl, ?_⟩; first | exact Or.inl ⟨rfl, by omega, by omega, lc_z c36⟩ | exact Or.inr ⟨rfl, fun u => by have u1 := u.1; have u2 := u.2.1; omega⟩ | exact Or.inr ⟨rfl, fun u => lc_y c36 u.2.2⟩)
    · refine pw_aload_n (z := mo_) (pc := 20) dX12_isWord_20 rfl rfl ?_
      refine pw_getR (r := mValue) (pc := 21) dX12_isWord_21 fX12_30 (im_mo_ hM) k_mo_ rfl fr_mValue ?_
      refine pw_aload_n (z := mo_) (pc := 24) dX12_isWord_24 rfl rfl ?_
      refine pw_gI (x := 7) (pc := 25) dX12_isWord_25 fX12_215 (im_mo_ hM) k_mo_ rfl rfl (fun r25 => ?_)
      refine pw_lald (pc := 28) dX12_isWord_28 (im_mValue hM) k_mValue 1002 l_mValue (by first | omega) (by first | omega) (by first | omega) (fun r28 => ?_)
      refine pw_aload_n (z := mo_) (pc := 29) dX12_isWord_29 rfl rfl ?_
      refine pw_getR (r := mWords) (pc := 30) dX12_isWord_30 fX12_94 (im_mo_ hM) k_mo_ rfl fr_mWords ?_
      refine pw_iload_n (z := w) (pc := 33) dX12_isWord_33 rfl rfl ?_
      refine pw_lald (pc := 34) dX12_isWord_34 (im_mWords hM) k_mWords 30 l_mWords (by first | omega) (by first | omega) (by first | omega) (fun r34 => ?_)
      refine pw_lcmp (pc := 35) dX12_isWord_35 (by first | omega) (by first | omega) ?_
      refine pw_if_ne (t := 43) (pc := 36) dX12_isWord_36 (by decide) (by first | omega) (fun c36 => ?_) (fun c36 => ?_)
      · refine pw_iconst (pc := 43) dX12_isWord_43 ?_
        exact pw_zret (pc := 44) dX12_isWord_44 (by first | omega) (by refine ⟨rfl, ?_⟩; first | exact Or.inl ⟨rfl, by omega, by omega, lc_z c36⟩ | exact Or.inr ⟨rfl, fun u => by have u1 := u.1; have u2 := u.2.1; omega⟩ | exact Or.inr ⟨rfl, fun u => lc_y c36 u.2.2⟩)
      · refine pw_iconst (pc := 39) dX12_isWord_39 ?_
        refine pw_goto (t := 44) (pc := 40) dX12_isWord_40 (by decide) ?_
        exact pw_zret (pc := 44) dX12_isWord_44 (by first | omega) (by refine ⟨rfl, ?_⟩; first | exact Or.inl ⟨rfl, by omega, by omega, lc_z c36⟩ | exact Or.inr ⟨rfl, fun u => by have u1 := u.1; have u2 := u.2.1; omega⟩ | exact Or.inr ⟨rfl, fun u => lc_y c36 u.2.2⟩)

set_option maxHeartbeats 4000000 in
set_option maxRecDepth 100000 in
theorem c_wrong {G : GT_} (hM : okM_ G) (h : PH_) (ha : 0 ≤ h mo_ 7 ∧ h mo_ 7 ≤ 1001) (hpl : 0 ≤ h mPlace (h mo_ 7) ∧ h mPlace (h mo_ 7) ≤ 100000) (w : Int) (h1 : 0 ≤ w ∧ w ≤ 5) : PC G yX12_wrong cX12_wrong 2 none 1 [rr_ G mo_, ii_ w] h (qv_ (fun h' => h' = wro_ h w)) := by
  refine PC.of (lv := [some (rr_ G mo_), some (ii_ w)]) (by decide +kernel) (Nat.le_of_ble_eq_true rfl) rfl rfl ?_
  refine pw_aload_n (z := mo_) (pc := 0) dX12_wrong_0 rfl rfl ?_
  refine pw_gI (x := 8) (pc := 1) dX12_wrong_1 fX12_218 (im_mo_ hM) k_mo_ rfl rfl (fun r1 => ?_)
  refine pw_if_ne (t := 25) (pc := 4) dX12_wrong_4 (by decide) (by first | omega) (fun c4 => ?_) (fun c4 => ?_)
  · exact pw_vret (pc := 25) dX12_wrong_25 (by unfold wro_; first | (rw [if_t (by omega), e22]; done) | (rw [if_f (by omega)]; done))
  · refine pw_aload_n (z := mo_) (pc := 7) dX12_wrong_7 rfl rfl ?_
    refine pw_iload_n (z := w) (pc := 8) dX12_wrong_8 rfl rfl ?_
    refine pw_bipush (pc := 9) dX12_wrong_9 rfl ?_
    refine pw_aload_n (z := mo_) (pc := 11) dX12_wrong_11 rfl rfl ?_
    refine pw_getR (r := mPlace) (pc := 12) dX12_wrong_12 fX12_27 (im_mo_ hM) k_mo_ rfl fr_mPlace ?_
    refine pw_aload_n (z := mo_) (pc := 15) dX12_wrong_15 rfl rfl ?_
    refine pw_gI (x := 7) (pc := 16) dX12_wrong_16 fX12_215 (im_mo_ hM) k_mo_ rfl rfl (fun r16 => ?_)
    refine pw_iald (pc := 19) dX12_wrong_19 (im_mPlace hM) k_mPlace 1002 l_mPlace (by first | omega) (by first | omega) (by first | omega) (fun r19 => ?_)
    refine pw_imul (pc := 20) dX12_wrong_20 ?_
    refine pw_iadd (pc := 21) dX12_wrong_21 ?_
    refine pw_pI (x := 8) (pc := 22) dX12_wrong_22 fX12_218 (im_mo_ hM) k_mo_ rfl rfl (by first | omega) ?_
    obtain ⟨g22, e22⟩ : ∃ x, x = up_ h mo_ 8 (w + (16 * (h mPlace (h mo_ 7)))) := ⟨_, rfl⟩
    refine pw_heq e22 ?_
    exact pw_vret (pc := 25) dX12_wrong_25 (by unfold wro_; first | (rw [if_t (by omega), e22]; done) | (rw [if_f (by omega)]; done))

set_option maxHeartbeats 4000000 in
set_option maxRecDepth 100000 in
theorem c_takeSign {G : GT_} (hM : okM_ G) (h : PH_) (ha : 0 ≤ h mo_ 7 ∧ h mo_ 7 ≤ 1001) (hpl : 0 ≤ h mPlace (h mo_ 7) ∧ h mPlace (h mo_ 7) ≤ 100000) (c : Int) (h1 : ir_ c) : PC G yX12_takeSign cX12_takeSign 2 none 2 [rr_ G mo_, ii_ c] h (qv_ (fun h' => h' = if_ (sgn_ h c) (up_ h mo_ 7 (h mo_ 7 + 1)) (wro_ h 1))) := by
  refine PC.of (lv := [some (rr_ G mo_), some (ii_ c)]) (by decide +kernel) (Nat.le_of_ble_eq_true rfl) rfl rfl ?_
  refine pw_aload_n (z := mo_) (pc := 0) dX12_takeSign_0 rfl rfl ?_
  refine pw_iload_n (z := c) (pc := 1) dX12_takeSign_1 rfl rfl ?_
  refine pw_callV (c := 12) (o := mo_) (As := [ii_ c]) (rest := []) (pc := 2) dX12_takeSign_2 (c_isSign hM h (by first | omega) (c) (by first | omega)) lX12_221 mX12_isSign vX12_isSign (im_mo_ hM) k_mo_ rfl rfl rfl (by decide) ⟨Nat.zero_le _, Nat.zero_le _⟩ (Nat.le_of_ble_eq_true rfl) (k_i (fun z2 h2 y2 q2 => ?_))
  obtain ⟨rfl, ⟨rfl, p2⟩ | ⟨rfl, p2⟩⟩ := q2
  · refine pw_if_eq (t := 21) (pc := 5) dX12_takeSign_5 (by decide) (by first | omega) (fun c5 => absurd c5 (by decide)) (fun _ => ?_)
    refine pw_aload_n (z := mo_) (pc := 8) dX12_takeSign_8 rfl rfl ?_
    refine pw_dup (pc := 9) dX12_takeSign_9 rfl ?_
    refine pw_gI (x := 7) (pc := 10) dX12_takeSign_10 fX12_215 (im_mo_ hM) k_mo_ rfl rfl (fun r10 => ?_)
    refine pw_iconst (pc := 13) dX12_takeSign_13 ?_
    refine pw_iadd (pc := 14) dX12_takeSign_14 ?_
    refine pw_pI (x := 7) (pc := 15) dX12_takeSign_15 fX12_215 (im_mo_ hM) k_mo_ rfl rfl (by first | omega) ?_
    obtain ⟨g15, e15⟩ : ∃ x, x = up_ h mo_ 7 ((h mo_ 7) + 1) := ⟨_, rfl⟩
    refine pw_heq e15 ?_
    refine pw_goto (t := 26) (pc := 18) dX12_takeSign_18 (by decide) ?_
    exact pw_vret (pc := 26) dX12_takeSign_26 (by first | (rw [if_t p2, e15]; done) | (rw [if_f p2]; exact q23))
  · refine pw_if_eq (t := 21) (pc := 5) dX12_takeSign_5 (by decide) (by first | omega) (fun _ => ?_) (fun c5 => absurd c5 (by decide))
    refine pw_aload_n (z := mo_) (pc := 21) dX12_takeSign_21 rfl rfl ?_
    refine pw_iconst (pc := 22) dX12_takeSign_22 ?_
    refine pw_callV (c := 12) (o := mo_) (As := [ii_ 1]) (rest := []) (pc := 23) dX12_takeSign_23 (c_wrong hM h ha hpl 1 (by first | omega)) lX12_224 mX12_wrong vX12_wrong (im_mo_ hM) k_mo_ rfl rfl rfl (by decide) ⟨Nat.zero_le _, Nat.zero_le _⟩ (Nat.le_of_ble_eq_true rfl) (k_v (fun h23 q23 => ?_))
    exact pw_vret (pc := 26) dX12_takeSign_26 (by first | (rw [if_t p2, e15]; done) | (rw [if_f p2]; exact q23))

set_option maxHeartbeats 4000000 in
set_option maxRecDepth 100000 in
theorem c_hasSign {G : GT_} (hM : okM_ G) (h : PH_) (ha : 0 ≤ h mo_ 7 ∧ h mo_ 7 ≤ 1001) (c : Int) (h1 : ir_ c) : PC G yX12_hasSign cX12_hasSign 3 (some .boolean) 2 [rr_ G mo_, ii_ c] h (qi_ (fun z h' => (z = 1 ∧ sgn_ h c ∧ h' = up_ h mo_ 7 (h mo_ 7 + 1)) ∨ (z = 0 ∧ ¬ sgn_ h c ∧ h' = up_ h mo_ 7 (h mo_ 7)))) := by
  refine PC.of (lv := [some (rr_ G mo_), some (ii_ c), none]) (by decide +kernel) (Nat.le_of_ble_eq_true rfl) rfl rfl ?_
  refine pw_aload_n (z := mo_) (pc := 0) dX12_hasSign_0 rfl rfl ?_
  refine pw_iload_n (z := c) (pc := 1) dX12_hasSign_1 rfl rfl ?_
  refine pw_callV (c := 12) (o := mo_) (As := [ii_ c]) (rest := []) (pc := 2) dX12_hasSign_2 (c_isSign hM h (by first | omega) (c) (by first | omega)) lX12_221 mX12_isSign vX12_isSign (im_mo_ hM) k_mo_ rfl rfl rfl (by decide) ⟨Nat.zero_le _, Nat.zero_le _⟩ (Nat.le_of_ble_eq_true rfl) (k_i (fun z2 h2 y2 q2 => ?_))
  obtain ⟨rfl, ⟨rfl, p2⟩ | ⟨rfl, p2⟩⟩ := q2
  · refine pw_istore_n (lv1 := [some (rr_ G mo_), some (ii_ c), some (ii_ 1)]) (pc := 5) dX12_hasSign_5 rfl (by decide) rfl rfl ?_
    refine pw_aload_n (z := mo_) (pc := 6) dX12_hasSign_6 rfl rfl ?_
    refine pw_dup (pc := 7) dX12_hasSign_7 rfl ?_
    refine pw_gI (x := 7) (pc := 8) dX12_hasSign_8 fX12_215 (im_mo_ hM) k_mo_ rfl rfl (fun r8 => ?_)
    refine pw_iload_n (z := 1) (pc := 11) dX12_hasSign_11 rfl rfl ?_
    refine pw_if_eq (t := 19) (pc := 12) dX12_hasSign_12 (by decide) (by first | omega) (fun c12 => absurd c12 (by decide)) (fun _ => ?_)
    refine pw_iconst (pc := 15) dX12_hasSign_15 ?_
    refine pw_goto (t := 20) (pc := 16) dX12_hasSign_16 (by decide) ?_
    refine pw_iadd (pc := 20) dX12_hasSign_20 ?_
    refine pw_pI (x := 7) (pc := 21) dX12_hasSign_21 fX12_215 (im_mo_ hM) k_mo_ rfl rfl (by first | omega) ?_
    obtain ⟨g21, e21⟩ : ∃ x, x = up_ h mo_ 7 ((h mo_ 7) + 1) := ⟨_, rfl⟩
    refine pw_heq e21 ?_
    refine pw_iload_n (z := 1) (pc := 24) dX12_hasSign_24 rfl rfl ?_
    exact pw_zret (pc := 25) dX12_hasSign_25 (by first | omega) (by first | exact Or.inl ⟨rfl, p2, by rw [e21]⟩ | exact Or.inr ⟨rfl, p2, by rw [e21, Int.add_zero]⟩)
  · refine pw_istore_n (lv1 := [some (rr_ G mo_), some (ii_ c), some (ii_ 0)]) (pc := 5) dX12_hasSign_5 rfl (by decide) rfl rfl ?_
    refine pw_aload_n (z := mo_) (pc := 6) dX12_hasSign_6 rfl rfl ?_
    refine pw_dup (pc := 7) dX12_hasSign_7 rfl ?_
    refine pw_gI (x := 7) (pc := 8) dX12_hasSign_8 fX12_215 (im_mo_ hM) k_mo_ rfl rfl (fun r8 => ?_)
    refine pw_iload_n (z := 0) (pc := 11) dX12_hasSign_11 rfl rfl ?_
    refine pw_if_eq (t := 19) (pc := 12) dX12_hasSign_12 (by decide) (by first | omega) (fun _ => ?_) (fun c12 => absurd c12 (by decide))
    refine pw_iconst (pc := 19) dX12_hasSign_19 ?_
    refine pw_iadd (pc := 20) dX12_hasSign_20 ?_
    refine pw_pI (x := 7) (pc := 21) dX12_hasSign_21 fX12_215 (im_mo_ hM) k_mo_ rfl rfl (by first | omega) ?_
    obtain ⟨g21, e21⟩ : ∃ x, x = up_ h mo_ 7 ((h mo_ 7) + 0) := ⟨_, rfl⟩
    refine pw_heq e21 ?_
    refine pw_iload_n (z := 0) (pc := 24) dX12_hasSign_24 rfl rfl ?_
    exact pw_zret (pc := 25) dX12_hasSign_25 (by first | omega) (by first | exact Or.inl ⟨rfl, p2, by rw [e21]⟩ | exact Or.inr ⟨rfl, p2, by rw [e21, Int.add_zero]⟩)

set_option maxHeartbeats 4000000 in
set_option maxRecDepth 100000 in
theorem c_hasWord {G : GT_} (hM : okM_ G) (h : PH_) (ha : 0 ≤ h mo_ 7 ∧ h mo_ 7 ≤ 1001) (c : Int) (h1 : 0 ≤ c ∧ c < 30) : PC G yX12_hasWord cX12_hasWord 3 (some .boolean) 2 [rr_ G mo_, ii_ c] h (qi_ (fun z h' => (z = 1 ∧ wrd_ h c ∧ h' = up_ h mo_ 7 (h mo_ 7 + 1)) ∨ (z = 0 ∧ ¬ wrd_ h c ∧ h' = up_ h mo_ 7 (h mo_ 7)))) := by
  refine PC.of (lv := [some (rr_ G mo_), some (ii_ c), none]) (by decide +kernel) (Nat.le_of_ble_eq_true rfl) rfl rfl ?_
  refine pw_aload_n (z := mo_) (pc := 0) dX12_hasWord_0 rfl rfl ?_
  refine pw_iload_n (z := c) (pc := 1) dX12_hasWord_1 rfl rfl ?_
  refine pw_callV (c := 12) (o := mo_) (As := [ii_ c]) (rest := []) (pc := 2) dX12_hasWord_2 (c_isWord hM h (by first | omega) (c) (by first | omega)) lX12_227 mX12_isWord vX12_isWord (im_mo_ hM) k_mo_ rfl rfl rfl (by decide) ⟨Nat.zero_le _, Nat.zero_le _⟩ (Nat.le_of_ble_eq_true rfl) (k_i (fun z2 h2 y2 q2 => ?_))
  obtain ⟨rfl, ⟨rfl, p2⟩ | ⟨rfl, p2⟩⟩ := q2
  · refine pw_istore_n (lv1 := [some (rr_ G mo_), some (ii_ c), some (ii_ 1)]) (pc := 5) dX12_hasWord_5 rfl (by decide) rfl rfl ?_
    refine pw_aload_n (z := mo_) (pc := 6) dX12_hasWord_6 rfl rfl ?_
    refine pw_dup (pc := 7) dX12_hasWord_7 rfl ?_
    refine pw_gI (x := 7) (pc := 8) dX12_hasWord_8 fX12_215 (im_mo_ hM) k_mo_ rfl rfl (fun r8 => ?_)
    refine pw_iload_n (z := 1) (pc := 11) dX12_hasWord_11 rfl rfl ?_
    refine pw_if_eq (t := 19) (pc := 12) dX12_hasWord_12 (by decide) (by first | omega) (fun c12 => absurd c12 (by decide)) (fun _ => ?_)
    refine pw_iconst (pc := 15) dX12_hasWord_15 ?_
    refine pw_goto (t := 20) (pc := 16) dX12_hasWord_16 (by decide) ?_
    refine pw_iadd (pc := 20) dX12_hasWord_20 ?_
    refine pw_pI (x := 7) (pc := 21) dX12_hasWord_21 fX12_215 (im_mo_ hM) k_mo_ rfl rfl (by first | omega) ?_
    obtain ⟨g21, e21⟩ : ∃ x, x = up_ h mo_ 7 ((h mo_ 7) + 1) := ⟨_, rfl⟩
    refine pw_heq e21 ?_
    refine pw_iload_n (z := 1) (pc := 24) dX12_hasWord_24 rfl rfl ?_
    exact pw_zret (pc := 25) dX12_hasWord_25 (by first | omega) (by first | exact Or.inl ⟨rfl, p2, by rw [e21]⟩ | exact Or.inr ⟨rfl, p2, by rw [e21, Int.add_zero]⟩)
  · refine pw_istore_n (lv1 := [some (rr_ G mo_), some (ii_ c), some (ii_ 0)]) (pc := 5) dX12_hasWord_5 rfl (by decide) rfl rfl ?_
    refine pw_aload_n (z := mo_) (pc := 6) dX12_hasWord_6 rfl rfl ?_
    refine pw_dup (pc := 7) dX12_hasWord_7 rfl ?_
    refine pw_gI (x := 7) (pc := 8) dX12_hasWord_8 fX12_215 (im_mo_ hM) k_mo_ rfl rfl (fun r8 => ?_)
    refine pw_iload_n (z := 0) (pc := 11) dX12_hasWord_11 rfl rfl ?_
    refine pw_if_eq (t := 19) (pc := 12) dX12_hasWord_12 (by decide) (by first | omega) (fun _ => ?_) (fun c12 => absurd c12 (by decide))
    refine pw_iconst (pc := 19) dX12_hasWord_19 ?_
    refine pw_iadd (pc := 20) dX12_hasWord_20 ?_
    refine pw_pI (x := 7) (pc := 21) dX12_hasWord_21 fX12_215 (im_mo_ hM) k_mo_ rfl rfl (by first | omega) ?_
    obtain ⟨g21, e21⟩ : ∃ x, x = up_ h mo_ 7 ((h mo_ 7) + 0) := ⟨_, rfl⟩
    refine pw_heq e21 ?_
    refine pw_iload_n (z := 0) (pc := 24) dX12_hasWord_24 rfl rfl ?_
    exact pw_zret (pc := 25) dX12_hasWord_25 (by first | omega) (by first | exact Or.inl ⟨rfl, p2, by rw [e21]⟩ | exact Or.inr ⟨rfl, p2, by rw [e21, Int.add_zero]⟩)

