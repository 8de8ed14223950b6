theorem nmr_push {k : Int} {f g : Int → Int} {nm : NM_} {w : List Int} {v : Int} (h : nmr_ k f g nm) (h7 : nm.length < 8) (hw : lok2_ w) : nmr_ (k + 1) (ob_ f k (enc_ 37 w)) (ob_ g k v) (nm ++ [(w, v)]) := by
  obtain ⟨h1, h2, h3⟩ := h
  have ln : (nm ++ [(w, v)]).length = nm.length + 1 := by rw [List.length_append]; rfl
  refine ⟨by rw [ln]; omega, by omega, fun i hi => ?_⟩
  rw [ln] at hi
  unfold ob_
  by_cases c : i = nm.length
  · subst c
    rw [if_pos h1.symm, if_pos h1.symm]
    simp [List.getD_eq_getElem?_getD]; exact hw
  · rw [if_neg (by omega), if_neg (by omega), List.getD_eq_getElem?_getD, List.getElem?_append_left (by omega), ← List.getD_eq_getElem?_getD]
    exact h3 i (by omega)

set_option maxHeartbeats 4000000 in
set_option maxRecDepth 100000 in
theorem c_readName {G : GT_} (hM : okM_ G) (h : PH_) (tk : Nat → TK_) (N : Nat) (a : Nat) (H : RPO_ tk N h a) (hn : (tk a).1 ≠ 0) (nm : NM_) (hm : nmr_ (h mo_ 19) (h mReadNames) (h mReadNameOf) nm) (h7 : nm.length < 8) (v : Int) (hv : ir_ v) : PC G yX12_readName cX12_readName 2 none 4 [rr_ G mo_, ii_ v] h (qv_ (fun h' => (off_ [mReadNames, mReadNameOf, mo_] h h' ∧ ∀ k, k ≠ 7 → k ≠ 8 → k ≠ 19 → h' mo_ k = h mo_ k) ∧ ((∃ nm', nnm_ tk nm v (a + 1) = .ok nm' ∧ RPO_ tk N h' (a + 2) ∧ nmr_ (h' mo_ 19) (h' mReadNames) (h' mReadNameOf) nm') ∨ (∃ e, nnm_ tk nm v (a + 1) = .error e ∧ RPE_ tk N h' e)))) := by
  have R7 := RP_7 (X := .ok a) H
  obtain ⟨n9, P9⟩ := RP_n H hn
  have A7 := H.2.1
  refine PC.of (lv := [some (rr_ G mo_), some (ii_ v)]) (by decide +kernel) (Nat.le_of_ble_eq_true rfl) rfl rfl ?_
  refine pw_aload_n (z := mo_) (pc := 0) dX12_readName_0 rfl rfl ?_
  refine pw_dup (pc := 1) dX12_readName_1 rfl ?_
  refine pw_gI (x := 7) (pc := 2) dX12_readName_2 fX12_215 (im_mo_ hM) k_mo_ rfl rfl (fun r2 => ?_)
  refine pw_iconst (pc := 5) dX12_readName_5 ?_
  refine pw_iadd (pc := 6) dX12_readName_6 ?_
  refine pw_pI (x := 7) (pc := 7) dX12_readName_7 fX12_215 (im_mo_ hM) k_mo_ rfl rfl (by first | omega) ?_
  obtain ⟨g7, e7⟩ : ∃ x, x = up_ h mo_ 7 ((h mo_ 7) + 1) := ⟨_, rfl⟩
  refine pw_heq e7 ?_
  have f7 : fr7_ h g7 := by rw [e7]; exact fr7_7
  rw [← e7] at P9
  have R9 := RP_7 (X := .ok (a + 1)) P9
  have m7 : nmr_ (g7 mo_ 19) (g7 mReadNames) (g7 mReadNameOf) nm := by rw [f7.2 19 (by decide) (by decide), f7.1 mReadNames (by decide), f7.1 mReadNameOf (by decide)]; exact hm
  have J38 : ∀ (hb : PH_), ((hb = g7 ∧ nam_ (tk (a + 1)) ∧ fnd_ nm (tk (a + 1)).2.2.2 < 0) ∨ (∃ e, nnm_ tk nm v (a + 1) = .error e ∧ RPE_ tk N hb e ∧ fr7_ g7 hb)) → PW G RX12 cX12_readName 2 none (rm_ 4) 0 0 (zm_ G (qv_ (fun h' => (off_ [mReadNames, mReadNameOf, mo_] h h' ∧ ∀ k, k ≠ 7 → k ≠ 8 → k ≠ 19 → h' mo_ k = h mo_ k) ∧ ((∃ nm', nnm_ tk nm v (a + 1) = .ok nm' ∧ RPO_ tk N h' (a + 2) ∧ nmr_ (h' mo_ 19) (h' mReadNames) (h' mReadNameOf) nm') ∨ (∃ e, nnm_ tk nm v (a + 1) = .error e ∧ RPE_ tk N h' e))))) 38 [some (rr_ G mo_), some (ii_ v)] [] hb := by
    intro hb hc
    have b8 : 0 ≤ hb mo_ 8 ∧ hb mo_ 8 < 2147483648 := by
      rcases hc with ⟨u1, u2, u3⟩ | ⟨e, u1, u2, u3⟩
      · rw [u1]; exact R9.2.2.2.2
      · have := u2.2.2; omega
    refine pw_aload_n (z := mo_) (pc := 38) dX12_readName_38 rfl rfl ?_
    refine pw_gI (x := 8) (pc := 39) dX12_readName_39 fX12_218 (im_mo_ hM) k_mo_ rfl rfl (fun r39 => ?_)
    refine pw_if_ne (t := 93) (pc := 42) dX12_readName_42 (by decide) (by first | omega) (fun c42 => ?_) (fun c42 => ?_)
    · exact pw_vret (pc := 93) dX12_readName_93 (by
                rcases hc with ⟨u1, u2, u3⟩ | ⟨e, u1, u2, u3⟩
                · exfalso; have := P9.2.2.2; rw [u1] at c42; omega
                · exact ⟨⟨off_mo (fr7_tr f7 u3).1 (by decide), fun k k1 k2 _ => (fr7_tr f7 u3).2 k k1 k2⟩, Or.inr ⟨e, u1, u2⟩⟩)
    · obtain ⟨u1, u2, u3⟩ : hb = g7 ∧ nam_ (tk (a + 1)) ∧ fnd_ nm (tk (a + 1)).2.2.2 < 0 := by
        rcases hc with u | ⟨e, u1, u2, u3⟩
        · exact u
        · exfalso; have := u2.2.2; omega
      have n1 := m7.1
      have n2 := m7.2.1
      have b19 : hb mo_ 19 = (nm.length : Int) := by rw [u1]; exact n1
      have b7 : hb mo_ 7 = ((a + 1 : Nat) : Int) := by rw [u1]; exact P9.2.1
      have tv : hb mValue (hb mo_ 7) = enc_ 37 (tk (a + 1)).2.2.2 := by rw [u1, P9.2.1]; exact (P9.1.1.1 (a + 1) P9.2.2.1).2.2.2 u2.1
      have bn : a + 1 ≠ N := fun e => by have := u2.1; rw [e, H.1.1.2.2.1] at this; omega
      refine pw_aload_n (z := mo_) (pc := 45) dX12_readName_45 rfl rfl ?_
      refine pw_getR (r := mReadNames) (pc := 46) dX12_readName_46 fX12_109 (im_mo_ hM) k_mo_ rfl fr_mReadNames ?_
      refine pw_aload_n (z := mo_) (pc := 49) dX12_readName_49 rfl rfl ?_
      refine pw_gI (x := 19) (pc := 50) dX12_readName_50 fX12_243 (im_mo_ hM) k_mo_ rfl rfl (fun r50 => ?_)
      refine pw_aload_n (z := mo_) (pc := 53) dX12_readName_53 rfl rfl ?_
      refine pw_getR (r := mValue) (pc := 54) dX12_readName_54 fX12_30 (im_mo_ hM) k_mo_ rfl fr_mValue ?_
      refine pw_aload_n (z := mo_) (pc := 57) dX12_readName_57 rfl rfl ?_
      refine pw_gI (x := 7) (pc := 58) dX12_readName_58 fX12_215 (im_mo_ hM) k_mo_ rfl rfl (fun r58 => ?_)
      refine pw_lald (pc := 61) dX12_readName_61 (im_mValue hM) k_mValue 1002 l_mValue (by first | omega) (by first | omega) (by first | omega) (fun r61 => ?_)
      refine pw_last (pc := 62) dX12_readName_62 (im_mReadNames hM) k_mReadNames 8 l_mReadNames (by first | omega) (by first | omega) (by first | omega) (by first | omega) ?_
      obtain ⟨g62, e62⟩ : ∃ x, x = up_ hb mReadNames (hb mo_ 19) (hb mValue (hb mo_ 7)) := ⟨_, rfl⟩
      refine pw_heq e62 ?_
      refine pw_aload_n (z := mo_) (pc := 63) dX12_readName_63 rfl rfl ?_
      refine pw_getR (r := mReadNameOf) (pc := 64) dX12_readName_64 fX12_115 (im_mo_ hM) k_mo_ rfl fr_mReadNameOf ?_
      refine pw_aload_n (z := mo_) (pc := 67) dX12_readName_67 rfl rfl ?_
      refine pw_gI (x := 19) (pc := 68) dX12_readName_68 fX12_243 (im_mo_ hM) k_mo_ rfl rfl (fun r68 => ?_)
      have n_g62_mo__19 : g62 mo_ 19 = hb mo_ 19 := (by rw [e62, up_off (by decide)])
      rw [n_g62_mo__19] at r68 ⊢
      refine pw_iload_n (z := v) (pc := 71) dX12_readName_71 rfl rfl ?_
      refine pw_iast (pc := 72) dX12_readName_72 (im_mReadNameOf hM) k_mReadNameOf 8 l_mReadNameOf (by first | omega | (simp only [n_g62_mo__19]; omega)) (by first | omega | (simp only [n_g62_mo__19]; omega)) (by first | omega | (simp only [n_g62_mo__19]; omega)) (by first | omega | (simp only [n_g62_mo__19]; omega)) ?_
      obtain ⟨g72, e72⟩ : ∃ x, x = up_ g62 mReadNameOf (hb mo_ 19) v := ⟨_, rfl⟩
      refine pw_heq e72 ?_
      refine pw_aload_n (z := mo_) (pc := 73) dX12_readName_73 rfl rfl ?_
      refine pw_dup (pc := 74) dX12_readName_74 rfl ?_
      refine pw_gI (x := 19) (pc := 75) dX12_readName_75 fX12_243 (im_mo_ hM) k_mo_ rfl rfl (fun r75 => ?_)
      have n_g72_mo__19 : g72 mo_ 19 = hb mo_ 19 := ((show g72 mo_ 19 = g62 mo_ 19 from (by rw [e72, up_off (by decide)])).trans (show g62 mo_ 19 = hb mo_ 19 from (by rw [e62, up_off (by decide)])))
      rw [n_g72_mo__19] at r75 ⊢
      refine pw_iconst (pc := 78) dX12_readName_78 ?_
      refine pw_iadd (pc := 79) dX12_readName_79 ?_
      refine pw_pI (x := 19) (pc := 80) dX12_readName_80 fX12_243 (im_mo_ hM) k_mo_ rfl rfl (by first | omega | (simp only [n_g62_mo__19, n_g72_mo__19]; omega)) ?_
      obtain ⟨g80, e80⟩ : ∃ x, x = up_ g72 mo_ 19 ((hb mo_ 19) + 1) := ⟨_, rfl⟩
      refine pw_heq e80 ?_
      refine pw_aload_n (z := mo_) (pc := 83) dX12_readName_83 rfl rfl ?_
      refine pw_dup (pc := 84) dX12_readName_84 rfl ?_
      refine pw_gI (x := 7) (pc := 85) dX12_readName_85 fX12_215 (im_mo_ hM) k_mo_ rfl rfl (fun r85 => ?_)
      have n_g80_mo__7 : g80 mo_ 7 = hb mo_ 7 := (((show g80 mo_ 7 = g72 mo_ 7 from (by rw [e80, up_at]; exact if_neg (by decide))).trans (show g72 mo_ 7 = g62 mo_ 7 from (by rw [e72, up_off (by decide)]))).trans (show g62 mo_ 7 = hb mo_ 7 from (by rw [e62, up_off (by decide)])))
      rw [n_g80_mo__7] at r85 ⊢
      refine pw_iconst (pc := 88) dX12_readName_88 ?_
      refine pw_iadd (pc := 89) dX12_readName_89 ?_
      refine pw_pI (x := 7) (pc := 90) dX12_readName_90 fX12_215 (im_mo_ hM) k_mo_ rfl rfl (by first | omega | (simp only [n_g62_mo__19, n_g72_mo__19, n_g80_mo__7]; omega)) ?_
      obtain ⟨g90, e90⟩ : ∃ x, x = up_ g80 mo_ 7 ((hb mo_ 7) + 1) := ⟨_, rfl⟩
      refine pw_heq e90 ?_
      exact pw_vret (pc := 93) dX12_readName_93 (by
                have fo : off_ [mReadNames, mReadNameOf, mo_] h g90 := by rw [e90, e80, e72, e62, u1]; exact off_up (off_up (off_up (off_up (off_mo f7.1 (by decide)) (by decide)) (by decide)) (by decide)) (by decide)
                refine ⟨⟨fo, fun k k1 k2 k3 => by rw [e90, up_at, if_neg k1, e80, up_at, if_neg k3, e72, up_off (by decide), e62, up_off (by decide), u1]; exact f7.2 k k1 k2⟩, Or.inl ⟨nm ++ [((tk (a + 1)).2.2.2, v)], by unfold nnm_; rw [if_t u2, if_f (by omega)], ?_, ?_⟩⟩
                · refine ⟨RB_mv H.1 (fo mSort (by decide)) (fo mPlace (by decide)) (fo mValue (by decide)) (fo mWords (by decide)), by rw [e90, up_same, b7]; rfl, by omega, ?_⟩
                  rw [e90, up_at, if_neg (by decide), e80, up_at, if_neg (by decide), e72, up_off (by decide), e62, up_off (by decide), u1]; exact P9.2.2.2
                · have pu := nmr_push (v := v) m7 h7 ((H.1.2.2 (a + 1)).1 u2.1).1
                  rw [e90, up_at, if_neg (by decide), up_off (by decide), up_off (by decide), e80, up_same, up_off (by decide), up_off (by decide), e72, up_off (by decide), up_ob, e62, up_ob, up_off (by decide), tv, u1]
                  exact pu)
  refine pw_aload_n (z := mo_) (pc := 10) dX12_readName_10 rfl rfl ?_
  refine pw_callV (c := 12) (o := mo_) (As := []) (rest := []) (pc := 11) dX12_readName_11 (c_isName hM g7 tk N (.ok (a + 1)) P9) lX12_289 mX12_isName vX12_isName (im_mo_ hM) k_mo_ rfl rfl rfl (by decide) ⟨Nat.zero_le _, Nat.zero_le _⟩ (Nat.le_of_ble_eq_true rfl) (k_i (fun z11 h11 y11 q11 => ?_))
  obtain ⟨rfl, ⟨rfl, p11⟩ | ⟨rfl, p11⟩⟩ := q11
  · refine pw_if_ne (t := 25) (pc := 14) dX12_readName_14 (by decide) (by first | omega) (fun _ => ?_) (fun c14 => absurd c14 (by decide))
    have nn : nam_ (tk (a + 1)) := by obtain ⟨b, e, u⟩ := p11; cases e; exact u
    refine pw_aload_n (z := mo_) (pc := 25) dX12_readName_25 rfl rfl ?_
    refine pw_iconst (pc := 26) dX12_readName_26 ?_
    refine pw_callV (c := 12) (o := mo_) (As := [ii_ 1]) (rest := []) (pc := 27) dX12_readName_27 (c_find1 hM g7 tk N (a + 1) P9 nn.1 nm m7) lX12_293 mX12_find vX12_find (im_mo_ hM) k_mo_ rfl rfl rfl (by decide) ⟨Nat.zero_le _, Nat.zero_le _⟩ (Nat.le_of_ble_eq_true rfl) (k_i (fun z27 h27 y27 q27 => ?_))
    obtain ⟨rfl, w27⟩ := q27
    refine pw_if_lt (t := 38) (pc := 30) dX12_readName_30 (by decide) (by first | omega) (fun c30 => ?_) (fun c30 => ?_)
    · exact J38 _ (by
              first
              | exact Or.inl ⟨rfl, nn, by omega⟩
              | (have w := RP_w (w := 3) P9 (by omega)
                 exact Or.inr ⟨_, by unfold nnm_; rw [if_t nn, if_t (show 0 ≤ fnd_ nm (tk (a + 1)).2.2.2 by rw [← w27]; omega)], by rw [q35]; exact w.2, by rw [q35, w.1]; exact fr7_8⟩)
              | (have w := RP_w (w := 1) P9 (by omega)
                 exact Or.inr ⟨_, by unfold nnm_; rw [if_f (fun u => p11 ⟨a + 1, rfl, u⟩)], by rw [q19]; exact w.2, by rw [q19, w.1]; exact fr7_8⟩))
    · refine pw_aload_n (z := mo_) (pc := 33) dX12_readName_33 rfl rfl ?_
      refine pw_iconst (pc := 34) dX12_readName_34 ?_
      refine pw_callV (c := 12) (o := mo_) (As := [ii_ 3]) (rest := []) (pc := 35) dX12_readName_35 (c_wrong hM g7 (by first | omega) (by first | omega) 3 (by first | omega)) lX12_224 mX12_wrong vX12_wrong (im_mo_ hM) k_mo_ rfl rfl rfl (by decide) ⟨Nat.zero_le _, Nat.zero_le _⟩ (Nat.le_of_ble_eq_true rfl) (k_v (fun h35 q35 => ?_))
      exact J38 _ (by
              first
              | exact Or.inl ⟨rfl, nn, by omega⟩
              | (have w := RP_w (w := 3) P9 (by omega)
                 exact Or.inr ⟨_, by unfold nnm_; rw [if_t nn, if_t (show 0 ≤ fnd_ nm (tk (a + 1)).2.2.2 by rw [← w27]; omega)], by rw [q35]; exact w.2, by rw [q35, w.1]; exact fr7_8⟩)
              | (have w := RP_w (w := 1) P9 (by omega)
                 exact Or.inr ⟨_, by unfold nnm_; rw [if_f (fun u => p11 ⟨a + 1, rfl, u⟩)], by rw [q19]; exact w.2, by rw [q19, w.1]; exact fr7_8⟩))
  · refine pw_if_ne (t := 25) (pc := 14) dX12_readName_14 (by decide) (by first | omega) (fun c14 => absurd c14 (by decide)) (fun _ => ?_)
    refine pw_aload_n (z := mo_) (pc := 17) dX12_readName_17 rfl rfl ?_
    refine pw_iconst (pc := 18) dX12_readName_18 ?_
    refine pw_callV (c := 12) (o := mo_) (As := [ii_ 1]) (rest := []) (pc := 19) dX12_readName_19 (c_wrong hM g7 (by first | omega) (by first | omega) 1 (by first | omega)) lX12_224 mX12_wrong vX12_wrong (im_mo_ hM) k_mo_ rfl rfl rfl (by decide) ⟨Nat.zero_le _, Nat.zero_le _⟩ (Nat.le_of_ble_eq_true rfl) (k_v (fun h19 q19 => ?_))
    refine pw_goto (t := 38) (pc := 22) dX12_readName_22 (by decide) ?_
    exact J38 _ (by
            first
            | exact Or.inl ⟨rfl, nn, by omega⟩
            | (have w := RP_w (w := 3) P9 (by omega)
               exact Or.inr ⟨_, by unfold nnm_; rw [if_t nn, if_t (show 0 ≤ fnd_ nm (tk (a + 1)).2.2.2 by rw [← w27]; omega)], by rw [q35]; exact w.2, by rw [q35, w.1]; exact fr7_8⟩)
            | (have w := RP_w (w := 1) P9 (by omega)
               exact Or.inr ⟨_, by unfold nnm_; rw [if_f (fun u => p11 ⟨a + 1, rfl, u⟩)], by rw [q19]; exact w.2, by rw [q19, w.1]; exact fr7_8⟩))

