theorem nmr_7 {h h' : PH_} {nm : NM_} (f : fr7_ h h') (H : nmr_ (h mo_ 19) (h mReadNames) (h mReadNameOf) nm) : nmr_ (h' mo_ 19) (h' mReadNames) (h' mReadNameOf) nm := by rw [f.2 19 (by decide) (by decide), f.1 mReadNames (by decide), f.1 mReadNameOf (by decide)]; exact H
/-- only roads and what has been read up to changed -/
theorem ZR_7 {tk : Nat → TK_} {N : Nat} {Z : ZT_} {h h1 h' : PH_} {a b : Nat} {ro : Int → Int} (H : ZR_ tk N Z h a) (R : RPO_ tk N h' b) (hab : a ≤ b) (f : off_ [mRoads, mo_] h h' ∧ ∀ k, k ≠ 7 → k ≠ 8 → h' mo_ k = h mo_ k) (e8 : ∀ x, 85 ≤ x → x ≤ 89 → h' mRoads x = h mRoads x) (hr : roA_ h' ro) (hz : zok_ (ro, Z.2)) : ZR_ tk N (ro, Z.2) h' b :=
  ZR_kp (ro := ro) (ft := Z.2.2.2.2) H R hab (f.1 mOp (by decide)) (f.1 mArg (by decide)) (f.2 13 (by decide) (by decide)) (f.1 mReadNames (by decide)) (f.1 mReadNameOf (by decide)) (f.2 19 (by decide) (by decide)) ((f.2 20 (by decide) (by decide)).trans H.2.2.2.2.2.1) e8 hr hz
theorem FRL_x {h h' : PH_} (f : off_ [mRoads, mo_] h h' ∧ ∀ k, k ≠ 7 → k ≠ 8 → h' mo_ k = h mo_ k) (e8 : ∀ x, x < 80 → h' mRoads x = h mRoads x) : FRL_ h h' := ⟨off_mo f.1 (by decide), fun k k1 k2 _ _ _ _ _ => f.2 k k1 k2, e8, fun x _ => by rw [f.1 mOp (by decide), f.1 mArg (by decide)]; exact ⟨rfl, rfl⟩⟩

theorem aln_e {tk : Nat → TK_} {Z : ZT_} {a : Nat} {e : Int} (u1 : bd_ (bd_ (rdh_ tk Z.2.1 (a + 1)) (fun _ => .ok (a + 2))) (rdh_ tk Z.2.1) = .error e) : aln_ tk Z a = .error e := by
  unfold aln_
  rcases hu : rdh_ tk Z.2.1 (a + 1) with e1 | u
  · rw [hu] at u1
    have u3 : (Except.error e1 : RE_ Int) = .error e := u1
    injection u3 with u3
    rw [u3]; rfl
  · rw [hu] at u1
    have u2 : rdh_ tk Z.2.1 (a + 2) = .error e := u1
    show bd_ (rdh_ tk Z.2.1 (a + 2)) _ = _
    exact bd_e u2

theorem vln_e {tk : Nat → TK_} {Z : ZT_} {a : Nat} {e : Int} (u1 : bd_ (bd_ (rdh_ tk Z.2.1 (a + 1)) (fun _ => .ok (a + 2))) (tkn_ tk 0 (Z.1 0 - 1)) = .error e) : vln_ tk Z a = .error e := by
  unfold vln_
  rcases hu : rdh_ tk Z.2.1 (a + 1) with e1 | u
  · rw [hu] at u1
    have u3 : (Except.error e1 : RE_ (Int × Nat)) = .error e := u1
    injection u3 with u3
    rw [u3]; rfl
  · rw [hu] at u1
    have u2 : tkn_ tk 0 (Z.1 0 - 1) (a + 2) = .error e := u1
    show bd_ (tkn_ tk 0 (Z.1 0 - 1) (a + 2)) _ = _
    exact bd_e u2

set_option maxHeartbeats 4000000 in
set_option maxRecDepth 100000 in
theorem c_readApart {G : GT_} (hM : okM_ G) (h : PH_) (tk : Nat → TK_) (N : Nat) (Z : ZT_) (a : Nat) (H : ZR_ tk N Z h a) (hn : (tk a).1 ≠ 0) : PC G yX12_readApart cX12_readApart 3 none 5 [rr_ G mo_] h (qv_ (fun h' => FRL_ h h' ∧ LP_ tk N h' (aln_ tk Z a))) := by
  have H0 := H
  obtain ⟨H1, H2, H3, H4, H5, H6, H7, H8⟩ := H0
  have R7 := RP_7 (X := .ok a) H1
  have A7 := H1.2.1
  have A8 := H1.2.2.2
  obtain ⟨v80, v81, v82, v83, v84, v90⟩ := roA_8 H2
  obtain ⟨⟨y0, y1, y2, y3, y4, y5⟩, yr, ys, ya, yn, ym⟩ := H8
  obtain ⟨n9, P9⟩ := RP_n H1 hn
  refine PC.of (lv := [some (rr_ G mo_), none, none]) (by decide +kernel) (Nat.le_of_ble_eq_true rfl) rfl rfl ?_
  refine pw_aload_n (z := mo_) (pc := 0) dX12_readApart_0 rfl rfl ?_
  refine pw_dup (pc := 1) dX12_readApart_1 rfl ?_
  refine pw_gI (x := 7) (pc := 2) dX12_readApart_2 fX12_215 (im_mo_ hM) k_mo_ rfl rfl (fun r2 => ?_)
  refine pw_iconst (pc := 5) dX12_readApart_5 ?_
  refine pw_iadd (pc := 6) dX12_readApart_6 ?_
  refine pw_pI (x := 7) (pc := 7) dX12_readApart_7 fX12_215 (im_mo_ hM) k_mo_ rfl rfl (by first | omega) ?_
  obtain ⟨g7, e7⟩ : ∃ x, x = up_ h mo_ 7 ((h mo_ 7) + 1) := ⟨_, rfl⟩
  refine pw_heq e7 ?_
  have f7 : fr7_ h g7 := by rw [e7]; exact fr7_7
  rw [← e7] at P9
  refine pw_aload_n (z := mo_) (pc := 10) dX12_readApart_10 rfl rfl ?_
  refine pw_iconst (pc := 11) dX12_readApart_11 ?_
  refine pw_callV (c := 12) (o := mo_) (As := [ii_ 1]) (rest := []) (pc := 12) dX12_readApart_12 (c_riderHere1 hM g7 tk N (.ok (a + 1)) P9 Z.2.1 (nmr_7 f7 H3)) lX12_312 mX12_riderHere vX12_riderHere (im_mo_ hM) k_mo_ rfl rfl rfl (by decide) ⟨Nat.zero_le _, Nat.zero_le _⟩ (Nat.le_of_ble_eq_true rfl) (k_i (fun z12 h12 y12 q12 => ?_))
  obtain ⟨f12, r12⟩ := q12
  have s12 : (0 ≤ h12 mo_ 8 ∧ h12 mo_ 8 < 2147483648) ∧ (0 ≤ h12 mo_ 7 ∧ h12 mo_ 7 ≤ N) := by
    have q := RP_7 (RP3_7 r12)
    exact ⟨q.2.2.2.2, q.1⟩
  refine pw_istore_n (lv1 := [some (rr_ G mo_), some (ii_ z12), none]) (pc := 15) dX12_readApart_15 rfl (by decide) rfl rfl ?_
  refine pw_aload_n (z := mo_) (pc := 16) dX12_readApart_16 rfl rfl ?_
  refine pw_dup (pc := 17) dX12_readApart_17 rfl ?_
  refine pw_gI (x := 7) (pc := 18) dX12_readApart_18 fX12_215 (im_mo_ hM) k_mo_ rfl rfl (fun r18 => ?_)
  have J33 : ∀ (v : Int), (v = 0 ∧ 0 < h12 mo_ 8 ∨ v = 1 ∧ h12 mo_ 8 = 0) → PW G RX12 cX12_readApart 3 none (rm_ 5) 0 0 (zm_ G (qv_ (fun h' => FRL_ h h' ∧ LP_ tk N h' (aln_ tk Z a)))) 33 [some (rr_ G mo_), some (ii_ z12), none] [ii_ v, ii_ (h12 mo_ 7), rr_ G mo_] h12 := by
    intro v hv
    refine pw_iadd (pc := 33) dX12_readApart_33 ?_
    refine pw_pI (x := 7) (pc := 34) dX12_readApart_34 fX12_215 (im_mo_ hM) k_mo_ rfl rfl (by first | omega) ?_
    obtain ⟨g34, e34⟩ : ∃ x, x = up_ h12 mo_ 7 ((h12 mo_ 7) + v) := ⟨_, rfl⟩
    refine pw_heq e34 ?_
    have r34 : RP_ tk N g34 (bd_ (rdh_ tk Z.2.1 (a + 1)) (fun _ => .ok (a + 2))) ∧ fr7_ g7 g34 ∧ ((∃ u, rdh_ tk Z.2.1 (a + 1) = .ok u ∧ z12 = u ∧ (0 ≤ u ∧ u ≤ 3)) ∨ (∃ e, rdh_ tk Z.2.1 (a + 1) = .error e)) := by
      rcases r12 with ⟨b, u, x1, x2, x3, x4, x5, x6⟩ | ⟨e, x1, x2⟩
      · cases x1
        have q8 : h12 mo_ 8 = 0 := x3.2.2.2
        have vv : v = 1 := by omega
        have pn := RP_n x3 (by rw [x6]; decide)
        refine ⟨by rw [bd_o x2, e34, vv]; exact pn.2, fr7_tr f12 (by rw [e34]; exact fr7_7), Or.inl ⟨u, x2, x4, x5⟩⟩
      · have x1 : rdh_ tk Z.2.1 (a + 1) = .error e := x1
        have q8 := x2.2.2
        have vv : v = 0 := by omega
        refine ⟨?_, fr7_tr f12 (by rw [e34]; exact fr7_7), Or.inr ⟨e, x1⟩⟩
        rw [bd_e x1]
        show RPE_ tk N g34 e
        rw [e34, vv, Int.add_zero, up_self]; exact x2
    refine pw_aload_n (z := mo_) (pc := 37) dX12_readApart_37 rfl rfl ?_
    refine pw_iconst (pc := 38) dX12_readApart_38 ?_
    refine pw_callV (c := 12) (o := mo_) (As := [ii_ 1]) (rest := []) (pc := 39) dX12_readApart_39 (c_riderHere1 hM g34 tk N (bd_ (rdh_ tk Z.2.1 (a + 1)) (fun _ => .ok (a + 2))) r34.1 Z.2.1 (nmr_7 (fr7_tr f7 r34.2.1) H3)) lX12_312 mX12_riderHere vX12_riderHere (im_mo_ hM) k_mo_ rfl rfl rfl (by decide) ⟨Nat.zero_le _, Nat.zero_le _⟩ (Nat.le_of_ble_eq_true rfl) (k_i (fun z39 h39 y39 q39 => ?_))
    obtain ⟨f39, r39⟩ := q39
    have s39 : (0 ≤ h39 mo_ 8 ∧ h39 mo_ 8 < 2147483648) := (RP_7 (RP3_7 r39)).2.2.2.2
    refine pw_istore_n (lv1 := [some (rr_ G mo_), some (ii_ z12), some (ii_ z39)]) (pc := 42) dX12_readApart_42 rfl (by decide) rfl rfl ?_
    have J77 : ∀ (hb : PH_), (((∃ u9 v9, rdh_ tk Z.2.1 (a + 1) = .ok u9 ∧ z12 = u9 ∧ (0 ≤ u9 ∧ u9 ≤ 3) ∧ rdh_ tk Z.2.1 (a + 2) = .ok v9 ∧ RPO_ tk N hb (a + 2) ∧ z39 = v9 ∧ (0 ≤ v9 ∧ v9 ≤ 3) ∧ (tk (a + 2)).1 = 1 ∧ ¬ (u9 = v9 ∨ Z.1 (47 + 4 * u9 + v9) = 1)) ∧ True) ∨ (∃ e, aln_ tk Z a = .error e ∧ RPE_ tk N hb e)) → (fr7_ h hb) → PW G RX12 cX12_readApart 3 none (rm_ 5) 0 0 (zm_ G (qv_ (fun h' => FRL_ h h' ∧ LP_ tk N h' (aln_ tk Z a)))) 77 [some (rr_ G mo_), some (ii_ z12), some (ii_ z39)] [] hb := by
      intro hb hc fc
      have b8 : 0 ≤ hb mo_ 8 ∧ hb mo_ 8 < 2147483648 := by
        rcases hc with ⟨⟨u9, v9, x2, x4, x5, w2, w3, w⟩, _⟩ | ⟨e, q1, q2⟩
        · have := w3.2.2.2; omega
        · have := q2.2.2; omega
      refine pw_aload_n (z := mo_) (pc := 77) dX12_readApart_77 rfl rfl ?_
      refine pw_gI (x := 8) (pc := 78) dX12_readApart_78 fX12_218 (im_mo_ hM) k_mo_ rfl rfl (fun r78 => ?_)
      refine pw_if_ne (t := 122) (pc := 81) dX12_readApart_81 (by decide) (by first | omega) (fun c81 => ?_) (fun c81 => ?_)
      · exact pw_vret (pc := 122) dX12_readApart_122 (by
                  refine ⟨FRL_7 fc, ?_⟩
                  rcases hc with ⟨⟨u9, v9, x2, x4, x5, w2, w3, w⟩, _⟩ | ⟨e, q1, q2⟩
                  · exfalso; have := w3.2.2.2; omega
                  · rw [q1]; exact q2)
      · obtain ⟨u9, v9, x2, x4, x5, w2, w3, w4, w5, w6, nt⟩ : ∃ u9 v9, rdh_ tk Z.2.1 (a + 1) = .ok u9 ∧ z12 = u9 ∧ (0 ≤ u9 ∧ u9 ≤ 3) ∧ rdh_ tk Z.2.1 (a + 2) = .ok v9 ∧ RPO_ tk N hb (a + 2) ∧ z39 = v9 ∧ (0 ≤ v9 ∧ v9 ≤ 3) ∧ (tk (a + 2)).1 = 1 ∧ ¬ (u9 = v9 ∨ Z.1 (47 + 4 * u9 + v9) = 1) := by
          rcases hc with ⟨x, _⟩ | ⟨e, q1, q2⟩
          · exact x
          · exfalso; have := q2.2.2; omega
        obtain ⟨n99, P99⟩ := RP_n w3 (by rw [w6]; decide)
        have b7 := w3.2.1
        refine pw_aload_n (z := mo_) (pc := 84) dX12_readApart_84 rfl rfl ?_
        refine pw_dup (pc := 85) dX12_readApart_85 rfl ?_
        refine pw_gI (x := 7) (pc := 86) dX12_readApart_86 fX12_215 (im_mo_ hM) k_mo_ rfl rfl (fun r86 => ?_)
        refine pw_iconst (pc := 89) dX12_readApart_89 ?_
        refine pw_iadd (pc := 90) dX12_readApart_90 ?_
        refine pw_pI (x := 7) (pc := 91) dX12_readApart_91 fX12_215 (im_mo_ hM) k_mo_ rfl rfl (by first | omega) ?_
        obtain ⟨g91, e91⟩ : ∃ x, x = up_ hb mo_ 7 ((hb mo_ 7) + 1) := ⟨_, rfl⟩
        refine pw_heq e91 ?_
        refine pw_aload_n (z := mo_) (pc := 94) dX12_readApart_94 rfl rfl ?_
        refine pw_getR (r := mRoads) (pc := 95) dX12_readApart_95 fX12_97 (im_mo_ hM) k_mo_ rfl fr_mRoads ?_
        refine pw_bipush (pc := 98) dX12_readApart_98 rfl ?_
        refine pw_iconst (pc := 100) dX12_readApart_100 ?_
        refine pw_iload_n (z := z12) (pc := 101) dX12_readApart_101 rfl rfl ?_
        refine pw_imul (pc := 102) dX12_readApart_102 ?_
        refine pw_iadd (pc := 103) dX12_readApart_103 ?_
        refine pw_iload_n (z := z39) (pc := 104) dX12_readApart_104 rfl rfl ?_
        refine pw_iadd (pc := 105) dX12_readApart_105 ?_
        refine pw_iconst (pc := 106) dX12_readApart_106 ?_
        refine pw_iast (pc := 107) dX12_readApart_107 (im_mRoads hM) k_mRoads 160 l_mRoads (by first | omega) (by first | omega) (by first | omega) (by first | omega) ?_
        obtain ⟨g107, e107⟩ : ∃ x, x = up_ g91 mRoads ((127 + (4 * z12)) + z39) 1 := ⟨_, rfl⟩
        refine pw_heq e107 ?_
        refine pw_aload_n (z := mo_) (pc := 108) dX12_readApart_108 rfl rfl ?_
        refine pw_getR (r := mRoads) (pc := 109) dX12_readApart_109 fX12_97 (im_mo_ hM) k_mo_ rfl fr_mRoads ?_
        refine pw_bipush (pc := 112) dX12_readApart_112 rfl ?_
        refine pw_iconst (pc := 114) dX12_readApart_114 ?_
        refine pw_iload_n (z := z39) (pc := 115) dX12_readApart_115 rfl rfl ?_
        refine pw_imul (pc := 116) dX12_readApart_116 ?_
        refine pw_iadd (pc := 117) dX12_readApart_117 ?_
        refine pw_iload_n (z := z12) (pc := 118) dX12_readApart_118 rfl rfl ?_
        refine pw_iadd (pc := 119) dX12_readApart_119 ?_
        refine pw_iconst (pc := 120) dX12_readApart_120 ?_
        refine pw_iast (pc := 121) dX12_readApart_121 (im_mRoads hM) k_mRoads 160 l_mRoads (by first | omega) (by first | omega) (by first | omega) (by first | omega) ?_
        obtain ⟨g121, e121⟩ : ∃ x, x = up_ g107 mRoads ((127 + (4 * z39)) + z12) 1 := ⟨_, rfl⟩
        refine pw_heq e121 ?_
        exact pw_vret (pc := 122) dX12_readApart_122 (by
                  have ff : off_ [mRoads, mo_] h g121 ∧ ∀ k, k ≠ 7 → k ≠ 8 → g121 mo_ k = h mo_ k := ⟨by rw [e121, e107, e91]; exact off_up (off_up (off_up (off_mo fc.1 (by decide)) (by decide)) (by decide)) (by decide), fun k k1 k2 => by rw [e121, up_off (by decide), e107, up_off (by decide), e91, up_at, if_neg k1]; exact fc.2 k k1 k2⟩
                  have lo : ∀ x, x < 127 → g121 mRoads x = h mRoads x := fun x hx => by rw [e121, up_at, if_neg (by omega), e107, up_at, if_neg (by omega), e91, up_off (by decide), fc.1 mRoads (by decide)]
                  refine ⟨FRL_x ff (fun x hx => lo x (by omega)), ?_⟩
                  have so : aln_ tk Z a = .ok ((ob_ (ob_ Z.1 (47 + 4 * u9 + v9) 1) (47 + 4 * v9 + u9) 1, Z.2), a + 3) := by unfold aln_; rw [bd_o x2, bd_o w2, if_f nt]
                  rw [so]
                  refine ZR_7 (h1 := h) H (by rw [e121, e107, e91]; exact RP_r (X := .ok (a + 3)) (RP_r (X := .ok (a + 3)) P99)) (by omega) ff (fun x x0 x1 => lo x (by omega)) ?_ (aln_z H.2.2.2.2.2.2.2 so).1
                  rw [e121, e107]
                  exact roA_u (roA_u (roA_m H2 (by rw [e91, up_off (by decide), fc.1 mRoads (by decide)])) (by omega) (by omega)) (by omega) (by omega))
    refine pw_aload_n (z := mo_) (pc := 43) dX12_readApart_43 rfl rfl ?_
    refine pw_gI (x := 8) (pc := 44) dX12_readApart_44 fX12_218 (im_mo_ hM) k_mo_ rfl rfl (fun r44 => ?_)
    refine pw_if_ne (t := 77) (pc := 47) dX12_readApart_47 (by decide) (by first | omega) (fun c47 => ?_) (fun c47 => ?_)
    · exact J77 _ (by
              first
              | (rcases r39 with ⟨b, v9, w1, w2, w3, w4, w5, w6⟩ | ⟨e, u1, u2⟩
                 · exfalso; have := w3.2.2.2; omega
                 · exact Or.inr ⟨e, aln_e u1, u2⟩)
              | exact Or.inl ⟨⟨u9, v9, x2, x4, x5, w2, w3, w4, w5, w6, by rw [← rr]; omega⟩, trivial⟩
              | (have w := RP_w (w := 3) w3 (by omega)
                 refine Or.inr ⟨flt_ tk 3 (a + 2), ?_, by rw [q74]; exact w.2⟩
                 unfold aln_
                 rw [bd_o x2, bd_o w2, if_t (by rw [← rr]; omega)])) (by first | exact fr7_tr (fr7_tr f7 r34.2.1) f39 | (have w := RP_w (w := 3) w3 (by omega); rw [q74, w.1]; exact fr7_tr (fr7_tr (fr7_tr f7 r34.2.1) f39) fr7_8))
    · obtain ⟨b, v9, w1, w2, w3, w4, w5, w6⟩ : ∃ b v, (bd_ (rdh_ tk Z.2.1 (a + 1)) (fun _ => .ok (a + 2))) = .ok b ∧ rdh_ tk Z.2.1 b = .ok v ∧ RPO_ tk N h39 b ∧ z39 = v ∧ (0 ≤ v ∧ v ≤ 3) ∧ (tk b).1 = 1 := by
        rcases r39 with u | ⟨e, u1, u2⟩
        · exact u
        · exfalso; have := u2.2.2; omega
      obtain ⟨u9, x2, x4, x5⟩ : ∃ u, rdh_ tk Z.2.1 (a + 1) = .ok u ∧ z12 = u ∧ (0 ≤ u ∧ u ≤ 3) := by
        rcases r34.2.2 with q | ⟨e, q⟩
        · exact q
        · exfalso; rw [bd_e q] at w1; cases w1
      rw [bd_o x2] at w1
      have w1b : b = a + 2 := by injection w1 with w1; exact w1.symm
      rw [w1b] at w2 w3 w6
      have W7 := RP_7 (X := .ok (a + 2)) w3
      have rr : h39 mRoads (127 + 4 * z12 + z39) = Z.1 (47 + 4 * u9 + v9) := by rw [(fr7_tr r34.2.1 f39).1 mRoads (by decide), f7.1 mRoads (by decide), x4, w4, show 127 + 4 * u9 + v9 = 80 + (47 + 4 * u9 + v9) by omega]; exact H2 _ (by omega) (by omega) (by omega)
      have J72 : (z12 = z39 ∨ h39 mRoads (127 + 4 * z12 + z39) = 1) → PW G RX12 cX12_readApart 3 none (rm_ 5) 0 0 (zm_ G (qv_ (fun h' => FRL_ h h' ∧ LP_ tk N h' (aln_ tk Z a)))) 72 [some (rr_ G mo_), some (ii_ z12), some (ii_ z39)] [] h39 := by
        intro h72
        refine pw_aload_n (z := mo_) (pc := 72) dX12_readApart_72 rfl rfl ?_
        refine pw_iconst (pc := 73) dX12_readApart_73 ?_
        refine pw_callV (c := 12) (o := mo_) (As := [ii_ 3]) (rest := []) (pc := 74) dX12_readApart_74 (c_wrong hM h39 (by first | omega) (by first | omega) 3 (by first | omega)) lX12_224 mX12_wrong vX12_wrong (im_mo_ hM) k_mo_ rfl rfl rfl (by decide) ⟨Nat.zero_le _, Nat.zero_le _⟩ (Nat.le_of_ble_eq_true rfl) (k_v (fun h74 q74 => ?_))
        exact J77 _ (by
                first
                | (rcases r39 with ⟨b, v9, w1, w2, w3, w4, w5, w6⟩ | ⟨e, u1, u2⟩
                   · exfalso; have := w3.2.2.2; omega
                   · exact Or.inr ⟨e, aln_e u1, u2⟩)
                | exact Or.inl ⟨⟨u9, v9, x2, x4, x5, w2, w3, w4, w5, w6, by rw [← rr]; omega⟩, trivial⟩
                | (have w := RP_w (w := 3) w3 (by omega)
                   refine Or.inr ⟨flt_ tk 3 (a + 2), ?_, by rw [q74]; exact w.2⟩
                   unfold aln_
                   rw [bd_o x2, bd_o w2, if_t (by rw [← rr]; omega)])) (by first | exact fr7_tr (fr7_tr f7 r34.2.1) f39 | (have w := RP_w (w := 3) w3 (by omega); rw [q74, w.1]; exact fr7_tr (fr7_tr (fr7_tr f7 r34.2.1) f39) fr7_8))
      refine pw_iload_n (z := z12) (pc := 50) dX12_readApart_50 rfl rfl ?_
      refine pw_iload_n (z := z39) (pc := 51) dX12_readApart_51 rfl rfl ?_
      refine pw_icmp_eq (t := 72) (pc := 52) dX12_readApart_52 (by decide) (by first | omega) (by first | omega) (fun c52 => ?_) (fun c52 => ?_)
      · exact J72  (by omega)
      · refine pw_aload_n (z := mo_) (pc := 55) dX12_readApart_55 rfl rfl ?_
        refine pw_getR (r := mRoads) (pc := 56) dX12_readApart_56 fX12_97 (im_mo_ hM) k_mo_ rfl fr_mRoads ?_
        refine pw_bipush (pc := 59) dX12_readApart_59 rfl ?_
        refine pw_iconst (pc := 61) dX12_readApart_61 ?_
        refine pw_iload_n (z := z12) (pc := 62) dX12_readApart_62 rfl rfl ?_
        refine pw_imul (pc := 63) dX12_readApart_63 ?_
        refine pw_iadd (pc := 64) dX12_readApart_64 ?_
        refine pw_iload_n (z := z39) (pc := 65) dX12_readApart_65 rfl rfl ?_
        refine pw_iadd (pc := 66) dX12_readApart_66 ?_
        refine pw_iald (pc := 67) dX12_readApart_67 (im_mRoads hM) k_mRoads 160 l_mRoads (by first | omega) (by first | omega) (by first | omega) (fun r67 => ?_)
        refine pw_iconst (pc := 68) dX12_readApart_68 ?_
        refine pw_icmp_ne (t := 77) (pc := 69) dX12_readApart_69 (by decide) (by first | omega) (by first | omega) (fun c69 => ?_) (fun c69 => ?_)
        · exact J77 _ (by
                  first
                  | (rcases r39 with ⟨b, v9, w1, w2, w3, w4, w5, w6⟩ | ⟨e, u1, u2⟩
                     · exfalso; have := w3.2.2.2; omega
                     · exact Or.inr ⟨e, aln_e u1, u2⟩)
                  | exact Or.inl ⟨⟨u9, v9, x2, x4, x5, w2, w3, w4, w5, w6, by rw [← rr]; omega⟩, trivial⟩
                  | (have w := RP_w (w := 3) w3 (by omega)
                     refine Or.inr ⟨flt_ tk 3 (a + 2), ?_, by rw [q74]; exact w.2⟩
                     unfold aln_
                     rw [bd_o x2, bd_o w2, if_t (by rw [← rr]; omega)])) (by first | exact fr7_tr (fr7_tr f7 r34.2.1) f39 | (have w := RP_w (w := 3) w3 (by omega); rw [q74, w.1]; exact fr7_tr (fr7_tr (fr7_tr f7 r34.2.1) f39) fr7_8))
        · exact J72  (by omega)
  refine pw_aload_n (z := mo_) (pc := 21) dX12_readApart_21 rfl rfl ?_
  refine pw_gI (x := 8) (pc := 22) dX12_readApart_22 fX12_218 (im_mo_ hM) k_mo_ rfl rfl (fun r22 => ?_)
  refine pw_if_le (t := 32) (pc := 25) dX12_readApart_25 (by decide) (by first | omega) (fun c25 => ?_) (fun c25 => ?_)
  · refine pw_iconst (pc := 32) dX12_readApart_32 ?_
    exact J33 _ (by omega)
  · refine pw_iconst (pc := 28) dX12_readApart_28 ?_
    refine pw_goto (t := 33) (pc := 29) dX12_readApart_29 (by decide) ?_
    exact J33 _ (by omega)

set_option maxHeartbeats 4000000 in
set_option maxRecDepth 100000 in
theorem c_readNever {G : GT_} (hM : okM_ G) (h : PH_) (tk : Nat → TK_) (N : Nat) (Z : ZT_) (a : Nat) (H : ZR_ tk N Z h a) (hn : (tk a).1 ≠ 0) : PC G yX12_readNever cX12_readNever 4 none 5 [rr_ G mo_] h (qv_ (fun h' => FRL_ h h' ∧ LP_ tk N h' (vln_ tk Z a))) := by
  have H0 := H
  obtain ⟨H1, H2, H3, H4, H5, H6, H7, H8⟩ := H0
  have R7 := RP_7 (X := .ok a) H1
  have A7 := H1.2.1
  have A8 := H1.2.2.2
  obtain ⟨v80, v81, v82, v83, v84, v90⟩ := roA_8 H2
  obtain ⟨⟨y0, y1, y2, y3, y4, y5⟩, yr, ys, ya, yn, ym⟩ := H8
  obtain ⟨n9, P9⟩ := RP_n H1 hn
  refine PC.of (lv := [some (rr_ G mo_), none, none, none]) (by decide +kernel) (Nat.le_of_ble_eq_true rfl) rfl rfl ?_
  refine pw_aload_n (z := mo_) (pc := 0) dX12_readNever_0 rfl rfl ?_
  refine pw_dup (pc := 1) dX12_readNever_1 rfl ?_
  refine pw_gI (x := 7) (pc := 2) dX12_readNever_2 fX12_215 (im_mo_ hM) k_mo_ rfl rfl (fun r2 => ?_)
  refine pw_iconst (pc := 5) dX12_readNever_5 ?_
  refine pw_iadd (pc := 6) dX12_readNever_6 ?_
  refine pw_pI (x := 7) (pc := 7) dX12_readNever_7 fX12_215 (im_mo_ hM) k_mo_ rfl rfl (by first | omega) ?_
  obtain ⟨g7, e7⟩ : ∃ x, x = up_ h mo_ 7 ((h mo_ 7) + 1) := ⟨_, rfl⟩
  refine pw_heq e7 ?_
  have f7 : fr7_ h g7 := by rw [e7]; exact fr7_7
  rw [← e7] at P9
  refine pw_aload_n (z := mo_) (pc := 10) dX12_readNever_10 rfl rfl ?_
  refine pw_iconst (pc := 11) dX12_readNever_11 ?_
  refine pw_callV (c := 12) (o := mo_) (As := [ii_ 1]) (rest := []) (pc := 12) dX12_readNever_12 (c_riderHere1 hM g7 tk N (.ok (a + 1)) P9 Z.2.1 (nmr_7 f7 H3)) lX12_312 mX12_riderHere vX12_riderHere (im_mo_ hM) k_mo_ rfl rfl rfl (by decide) ⟨Nat.zero_le _, Nat.zero_le _⟩ (Nat.le_of_ble_eq_true rfl) (k_i (fun z12 h12 y12 q12 => ?_))
  obtain ⟨f12, r12⟩ := q12
  have s12 : (0 ≤ h12 mo_ 8 ∧ h12 mo_ 8 < 2147483648) ∧ (0 ≤ h12 mo_ 7 ∧ h12 mo_ 7 ≤ N) := by
    have q := RP_7 (RP3_7 r12)
    exact ⟨q.2.2.2.2, q.1⟩
  refine pw_istore_n (lv1 := [some (rr_ G mo_), some (ii_ z12), none, none]) (pc := 15) dX12_readNever_15 rfl (by decide) rfl rfl ?_
  refine pw_aload_n (z := mo_) (pc := 16) dX12_readNever_16 rfl rfl ?_
  refine pw_dup (pc := 17) dX12_readNever_17 rfl ?_
  refine pw_gI (x := 7) (pc := 18) dX12_readNever_18 fX12_215 (im_mo_ hM) k_mo_ rfl rfl (fun r18 => ?_)
  have J33 : ∀ (v : Int), (v = 0 ∧ 0 < h12 mo_ 8 ∨ v = 1 ∧ h12 mo_ 8 = 0) → PW G RX12 cX12_readNever 4 none (rm_ 5) 0 0 (zm_ G (qv_ (fun h' => FRL_ h h' ∧ LP_ tk N h' (vln_ tk Z a)))) 33 [some (rr_ G mo_), some (ii_ z12), none, none] [ii_ v, ii_ (h12 mo_ 7), rr_ G mo_] h12 := by
    intro v hv
    refine pw_iadd (pc := 33) dX12_readNever_33 ?_
    refine pw_pI (x := 7) (pc := 34) dX12_readNever_34 fX12_215 (im_mo_ hM) k_mo_ rfl rfl (by first | omega) ?_
    obtain ⟨g34, e34⟩ : ∃ x, x = up_ h12 mo_ 7 ((h12 mo_ 7) + v) := ⟨_, rfl⟩
    refine pw_heq e34 ?_
    have r34 : RP_ tk N g34 (bd_ (rdh_ tk Z.2.1 (a + 1)) (fun _ => .ok (a + 2))) ∧ fr7_ g7 g34 ∧ ((∃ u, rdh_ tk Z.2.1 (a + 1) = .ok u ∧ z12 = u ∧ (0 ≤ u ∧ u ≤ 3)) ∨ (∃ e, rdh_ tk Z.2.1 (a + 1) = .error e)) := by
      rcases r12 with ⟨b, u, x1, x2, x3, x4, x5, x6⟩ | ⟨e, x1, x2⟩
      · cases x1
        have q8 : h12 mo_ 8 = 0 := x3.2.2.2
        have vv : v = 1 := by omega
        have pn := RP_n x3 (by rw [x6]; decide)
        refine ⟨by rw [bd_o x2, e34, vv]; exact pn.2, fr7_tr f12 (by rw [e34]; exact fr7_7), Or.inl ⟨u, x2, x4, x5⟩⟩
      · have x1 : rdh_ tk Z.2.1 (a + 1) = .error e := x1
        have q8 := x2.2.2
        have vv : v = 0 := by omega
        refine ⟨?_, fr7_tr f12 (by rw [e34]; exact fr7_7), Or.inr ⟨e, x1⟩⟩
        rw [bd_e x1]
        show RPE_ tk N g34 e
        rw [e34, vv, Int.add_zero, up_self]; exact x2
    have s80 : h12 mRoads 80 = Z.1 0 := by rw [f12.1 mRoads (by decide), f7.1 mRoads (by decide)]; exact v80
    refine pw_aload_n (z := mo_) (pc := 37) dX12_readNever_37 rfl rfl ?_
    refine pw_iconst (pc := 38) dX12_readNever_38 ?_
    refine pw_aload_n (z := mo_) (pc := 39) dX12_readNever_39 rfl rfl ?_
    refine pw_callV (c := 12) (o := mo_) (As := []) (rest := [ii_ 0, rr_ G mo_]) (pc := 40) dX12_readNever_40 (c_readSeats hM g34) lX12_297 mX12_readSeats vX12_readSeats (im_mo_ hM) k_mo_ rfl rfl rfl (by decide) ⟨Nat.zero_le _, Nat.zero_le _⟩ (Nat.le_of_ble_eq_true rfl) (k_i (fun z40 h40 y40 q40 => ?_))
    obtain ⟨rfl, rfl⟩ := q40
    have n_g34_mRoads : g34 mRoads = h12 mRoads := (by rw [e34]; exact up_off (by decide))
    rw [n_g34_mRoads] at y40 ⊢
    rw [s80]
    refine pw_iconst (pc := 43) dX12_readNever_43 ?_
    refine pw_isub (pc := 44) dX12_readNever_44 ?_
    refine pw_callV (c := 12) (o := mo_) (As := [ii_ 0, ii_ ((Z.1 0) - 1)]) (rest := []) (pc := 45) dX12_readNever_45 (c_takeNumber hM g34 tk N 0 (Z.1 0 - 1) (by first | omega | (simp only [n_g34_mRoads]; omega)) (by first | omega | (simp only [n_g34_mRoads]; omega)) (bd_ (rdh_ tk Z.2.1 (a + 1)) (fun _ => .ok (a + 2))) r34.1) lX12_236 mX12_takeNumber vX12_takeNumber (im_mo_ hM) k_mo_ rfl rfl rfl (by decide) ⟨Nat.zero_le _, Nat.zero_le _⟩ (Nat.le_of_ble_eq_true rfl) (k_i (fun z45 h45 y45 q45 => ?_))
    obtain ⟨f45, r45⟩ := q45
    have s45 : (0 ≤ h45 mo_ 8 ∧ h45 mo_ 8 < 2147483648) := (RP_7 (RP2_7 r45)).2.2.2.2
    refine pw_istore_n (lv1 := [some (rr_ G mo_), some (ii_ z12), some (ii_ z45), none]) (pc := 48) dX12_readNever_48 rfl (by decide) rfl rfl ?_
    refine pw_bipush (pc := 49) dX12_readNever_49 rfl ?_
    refine pw_iconst (pc := 51) dX12_readNever_51 ?_
    refine pw_iload_n (z := z12) (pc := 52) dX12_readNever_52 rfl rfl ?_
    refine pw_imul (pc := 53) dX12_readNever_53 ?_
    refine pw_iadd (pc := 54) dX12_readNever_54 ?_
    refine pw_iconst (pc := 55) dX12_readNever_55 ?_
    refine pw_iadd (pc := 56) dX12_readNever_56 ?_
    refine pw_istore_n (lv1 := [some (rr_ G mo_), some (ii_ z12), some (ii_ z45), some (ii_ ((111 + (4 * z12)) + 3))]) (pc := 57) dX12_readNever_57 rfl (by decide) rfl rfl ?_
    have J94 : ∀ (hb : PH_), ((∃ (u9 : Int) (q9 : Int × Nat), rdh_ tk Z.2.1 (a + 1) = .ok u9 ∧ z12 = u9 ∧ (0 ≤ u9 ∧ u9 ≤ 3) ∧ tkn_ tk 0 (Z.1 0 - 1) (a + 2) = .ok q9 ∧ z45 = q9.1 ∧ (hb = h45 ∧ RPO_ tk N hb (a + 3)) ∧ ¬ Z.1 (31 + 4 * u9 + 3) / 2 ^ q9.1.toNat % 2 = 1) ∨ (∃ e, vln_ tk Z a = .error e ∧ RPE_ tk N hb e)) → (fr7_ h hb) → PW G RX12 cX12_readNever 4 none (rm_ 5) 0 0 (zm_ G (qv_ (fun h' => FRL_ h h' ∧ LP_ tk N h' (vln_ tk Z a)))) 94 [some (rr_ G mo_), some (ii_ z12), some (ii_ z45), some (ii_ ((111 + (4 * z12)) + 3))] [] hb := by
      intro hb hc fc
      have b8 : 0 ≤ hb mo_ 8 ∧ hb mo_ 8 < 2147483648 := by
        rcases hc with ⟨u9, q9, x2, x4, x5, x1, x3, ⟨_, w3⟩, nt⟩ | ⟨e, q1, q2⟩
        · have := w3.2.2.2; omega
        · have := q2.2.2; omega
      refine pw_aload_n (z := mo_) (pc := 94) dX12_readNever_94 rfl rfl ?_
      refine pw_gI (x := 8) (pc := 95) dX12_readNever_95 fX12_218 (im_mo_ hM) k_mo_ rfl rfl (fun r95 => ?_)
      refine pw_if_ne (t := 113) (pc := 98) dX12_readNever_98 (by decide) (by first | omega | (simp only [n_g34_mRoads]; omega)) (fun c98 => ?_) (fun c98 => ?_)
      · exact pw_vret (pc := 113) dX12_readNever_113 (by
                  refine ⟨FRL_7 fc, ?_⟩
                  rcases hc with ⟨u9, q9, x2, x4, x5, x1, x3, ⟨_, w3⟩, nt⟩ | ⟨e, q1, q2⟩
                  · exfalso; have := w3.2.2.2; omega
                  · rw [q1]; exact q2)
      · obtain ⟨u9, q9, x2, x4, x5, x1, x3, hh, nt⟩ : ∃ (u9 : Int) (q9 : Int × Nat), rdh_ tk Z.2.1 (a + 1) = .ok u9 ∧ z12 = u9 ∧ (0 ≤ u9 ∧ u9 ≤ 3) ∧ tkn_ tk 0 (Z.1 0 - 1) (a + 2) = .ok q9 ∧ z45 = q9.1 ∧ (hb = h45 ∧ RPO_ tk N hb (a + 3)) ∧ ¬ Z.1 (31 + 4 * u9 + 3) / 2 ^ q9.1.toNat % 2 = 1 := by
          rcases hc with u | ⟨e, q1, q2⟩
          · exact u
          · exfalso; have := q2.2.2; omega
        have T9 := tkn_o x1
        have yv := (yr u9 (by omega) (by omega)).2.2.2
        have rr : hb mRoads (111 + 4 * z12 + 3) = Z.1 (31 + 4 * u9 + 3) := by rw [fc.1 mRoads (by decide), x4, show 111 + 4 * u9 + 3 = 80 + (31 + 4 * u9 + 3) by omega]; exact H2 _ (by omega) (by omega) (by omega)
        have bs := bset_ yv (show 0 ≤ q9.1 ∧ q9.1 < 4 by omega) nt
        have p8 := p8_ (s := z45) (by omega)
        refine pw_aload_n (z := mo_) (pc := 101) dX12_readNever_101 rfl rfl ?_
        refine pw_getR (r := mRoads) (pc := 102) dX12_readNever_102 fX12_97 (im_mo_ hM) k_mo_ rfl fr_mRoads ?_
        refine pw_iload_n (z := (111 + (4 * z12)) + 3) (pc := 105) dX12_readNever_105 rfl rfl ?_
        refine pw_dup2 (pc := 106) dX12_readNever_106 rfl rfl ?_
        refine pw_iald (pc := 107) dX12_readNever_107 (im_mRoads hM) k_mRoads 160 l_mRoads (by first | omega | (simp only [n_g34_mRoads]; omega)) (by first | omega | (simp only [n_g34_mRoads]; omega)) (by first | omega | (simp only [n_g34_mRoads]; omega)) (fun r107 => ?_)
        refine pw_iconst (pc := 108) dX12_readNever_108 ?_
        refine pw_iload_n (z := z45) (pc := 109) dX12_readNever_109 rfl rfl ?_
        refine pw_ishl1 (pc := 110) dX12_readNever_110 (by first | omega | (simp only [n_g34_mRoads]; omega)) ?_
        refine pw_iorX (pc := 111) dX12_readNever_111 (by first | omega | (simp only [n_g34_mRoads]; omega)) (by first | omega | (simp only [n_g34_mRoads]; omega)) (fun w111 r111 x111 => ?_)
        refine pw_iast (pc := 112) dX12_readNever_112 (im_mRoads hM) k_mRoads 160 l_mRoads (by first | omega | (simp only [n_g34_mRoads]; omega)) (by first | omega | (simp only [n_g34_mRoads]; omega)) (by first | omega | (simp only [n_g34_mRoads]; omega)) (by first | omega | (simp only [n_g34_mRoads]; omega)) ?_
        obtain ⟨g112, e112⟩ : ∃ x, x = up_ hb mRoads ((111 + (4 * z12)) + 3) w111 := ⟨_, rfl⟩
        refine pw_heq e112 ?_
        exact pw_vret (pc := 113) dX12_readNever_113 (by
                  have wv : w111 = Z.1 (31 + 4 * u9 + 3) + 2 ^ q9.1.toNat := by
                    have e1 := x111 (by omega) (by omega)
                    rw [rr, x3] at e1
                    rw [e1]; exact bs.1
                  have ff : off_ [mRoads, mo_] h g112 ∧ ∀ k, k ≠ 7 → k ≠ 8 → g112 mo_ k = h mo_ k := ⟨by rw [e112]; exact off_up (off_mo fc.1 (by decide)) (by decide), fun k k1 k2 => by rw [e112, up_off (by decide)]; exact fc.2 k k1 k2⟩
                  have lo : ∀ x, x < 111 → g112 mRoads x = h mRoads x := fun x hx => by rw [e112, up_at, if_neg (by omega), fc.1 mRoads (by decide)]
                  refine ⟨FRL_x ff (fun x hx => lo x (by omega)), ?_⟩
                  have so : vln_ tk Z a = .ok ((ob_ Z.1 (31 + 4 * u9 + 3) (Z.1 (31 + 4 * u9 + 3) + 2 ^ q9.1.toNat), Z.2), a + 3) := by unfold vln_; rw [bd_o x2, bd_o x1, if_f nt]
                  rw [so]
                  refine ZR_7 (h1 := h) H (by rw [e112]; exact RP_r (X := .ok (a + 3)) hh.2) (by omega) ff (fun x x0 x1 => lo x (by omega)) ?_ (vln_z H.2.2.2.2.2.2.2 so).1
                  rw [e112, wv]
                  exact roA_u (roA_m H2 (fc.1 mRoads (by decide))) (by omega) (by omega))
    refine pw_aload_n (z := mo_) (pc := 58) dX12_readNever_58 rfl rfl ?_
    refine pw_gI (x := 8) (pc := 59) dX12_readNever_59 fX12_218 (im_mo_ hM) k_mo_ rfl rfl (fun r59 => ?_)
    refine pw_if_ne (t := 94) (pc := 62) dX12_readNever_62 (by decide) (by first | omega | (simp only [n_g34_mRoads]; omega)) (fun c62 => ?_) (fun c62 => ?_)
    · exact J94 _ (by
              first
              | exact Or.inl ⟨u9, q9, x2, x4, x5, x1, x3.2, ⟨rfl, by rw [show a + 3 = q9.2 by omega]; exact x3.1⟩, by rw [← rr, ← x3.2]; exact c76⟩
              | (have w := RP_w (w := 3) k2 (by omega)
                 refine Or.inr ⟨flt_ tk 3 (a + 2), ?_, by rw [q91]; exact w.2⟩
                 unfold vln_
                 rw [bd_o x2, bd_o x1, if_t (by rw [← rr, ← x3.2]; exact c76)])
              | (cases hq : bd_ (bd_ (rdh_ tk Z.2.1 (a + 1)) (fun _ => .ok (a + 2))) (tkn_ tk 0 (Z.1 0 - 1)) with
                 | ok q => exfalso; rw [hq] at r45; have := r45.1.2.2.2; omega
                 | error e => rw [hq] at r45; exact Or.inr ⟨e, vln_e hq, r45.1⟩)) (by first | (have w := RP_w (w := 3) k2 (by omega); rw [q91, w.1, e86]; exact fr7_tr (fr7_tr (fr7_tr (fr7_tr f7 r34.2.1) f45) fr7_7) fr7_8) | exact fr7_tr (fr7_tr f7 r34.2.1) f45)
    · obtain ⟨q9, x1, x3⟩ : ∃ q : Int × Nat, bd_ (bd_ (rdh_ tk Z.2.1 (a + 1)) (fun _ => .ok (a + 2))) (tkn_ tk 0 (Z.1 0 - 1)) = .ok q ∧ RPO_ tk N h45 q.2 ∧ z45 = q.1 := by
        cases hq : bd_ (bd_ (rdh_ tk Z.2.1 (a + 1)) (fun _ => .ok (a + 2))) (tkn_ tk 0 (Z.1 0 - 1)) with
        | ok q => rw [hq] at r45; exact ⟨q, rfl, r45⟩
        | error e => exfalso; rw [hq] at r45; have := r45.1.2.2; omega
      obtain ⟨u9, x2, x4, x5⟩ : ∃ u, rdh_ tk Z.2.1 (a + 1) = .ok u ∧ z12 = u ∧ (0 ≤ u ∧ u ≤ 3) := by
        rcases r34.2.2 with q | ⟨e, q⟩
        · exact q
        · exfalso; rw [bd_e q] at x1; cases x1
      rw [bd_o x2] at x1
      have x1 : tkn_ tk 0 (Z.1 0 - 1) (a + 2) = .ok q9 := x1
      have T9 := tkn_o x1
      have yv := (yr u9 (by omega) (by omega)).2.2.2
      have rr : h45 mRoads (111 + 4 * z12 + 3) = Z.1 (31 + 4 * u9 + 3) := by rw [(fr7_tr r34.2.1 f45).1 mRoads (by decide), f7.1 mRoads (by decide), x4, show 111 + 4 * u9 + 3 = 80 + (31 + 4 * u9 + 3) by omega]; exact H2 _ (by omega) (by omega) (by omega)
      refine pw_aload_n (z := mo_) (pc := 65) dX12_readNever_65 rfl rfl ?_
      refine pw_getR (r := mRoads) (pc := 66) dX12_readNever_66 fX12_97 (im_mo_ hM) k_mo_ rfl fr_mRoads ?_
      refine pw_iload_n (z := (111 + (4 * z12)) + 3) (pc := 69) dX12_readNever_69 rfl rfl ?_
      refine pw_iald (pc := 70) dX12_readNever_70 (im_mRoads hM) k_mRoads 160 l_mRoads (by first | omega | (simp only [n_g34_mRoads]; omega)) (by first | omega | (simp only [n_g34_mRoads]; omega)) (by first | omega | (simp only [n_g34_mRoads]; omega)) (fun r70 => ?_)
      refine pw_iload_n (z := z45) (pc := 71) dX12_readNever_71 rfl rfl ?_
      refine pw_ishr (pc := 72) dX12_readNever_72 (by first | omega | (simp only [n_g34_mRoads]; omega)) (by first | omega | (simp only [n_g34_mRoads]; omega)) ?_
      refine pw_iconst (pc := 73) dX12_readNever_73 ?_
      refine pw_iand1 (pc := 74) dX12_readNever_74 ?_
      refine pw_iconst (pc := 75) dX12_readNever_75 ?_
      refine pw_icmp_ne (t := 94) (pc := 76) dX12_readNever_76 (by decide) (by first | omega | (simp only [n_g34_mRoads]; omega)) (by first | omega | (simp only [n_g34_mRoads]; omega)) (fun c76 => ?_) (fun c76 => ?_)
      · exact J94 _ (by
                first
                | exact Or.inl ⟨u9, q9, x2, x4, x5, x1, x3.2, ⟨rfl, by rw [show a + 3 = q9.2 by omega]; exact x3.1⟩, by rw [← rr, ← x3.2]; exact c76⟩
                | (have w := RP_w (w := 3) k2 (by omega)
                   refine Or.inr ⟨flt_ tk 3 (a + 2), ?_, by rw [q91]; exact w.2⟩
                   unfold vln_
                   rw [bd_o x2, bd_o x1, if_t (by rw [← rr, ← x3.2]; exact c76)])
                | (cases hq : bd_ (bd_ (rdh_ tk Z.2.1 (a + 1)) (fun _ => .ok (a + 2))) (tkn_ tk 0 (Z.1 0 - 1)) with
                   | ok q => exfalso; rw [hq] at r45; have := r45.1.2.2.2; omega
                   | error e => rw [hq] at r45; exact Or.inr ⟨e, vln_e hq, r45.1⟩)) (by first | (have w := RP_w (w := 3) k2 (by omega); rw [q91, w.1, e86]; exact fr7_tr (fr7_tr (fr7_tr (fr7_tr f7 r34.2.1) f45) fr7_7) fr7_8) | exact fr7_tr (fr7_tr f7 r34.2.1) f45)
      · have e90 : q9.2 = a + 3 := by omega
        rw [e90] at x3
        have b7 := x3.1.2.1
        refine pw_aload_n (z := mo_) (pc := 79) dX12_readNever_79 rfl rfl ?_
        refine pw_dup (pc := 80) dX12_readNever_80 rfl ?_
        refine pw_gI (x := 7) (pc := 81) dX12_readNever_81 fX12_215 (im_mo_ hM) k_mo_ rfl rfl (fun r81 => ?_)
        refine pw_iconst (pc := 84) dX12_readNever_84 ?_
        refine pw_isub (pc := 85) dX12_readNever_85 ?_
        refine pw_pI (x := 7) (pc := 86) dX12_readNever_86 fX12_215 (im_mo_ hM) k_mo_ rfl rfl (by first | omega | (simp only [n_g34_mRoads]; omega)) ?_
        obtain ⟨g86, e86⟩ : ∃ x, x = up_ h45 mo_ 7 ((h45 mo_ 7) - 1) := ⟨_, rfl⟩
        refine pw_heq e86 ?_
        have k2 : RPO_ tk N g86 (a + 2) := by
          have x31 := x3.1
          refine ⟨RB_7 x31.1 (by rw [e86]; exact fr7_7), by rw [e86, up_same, b7]; omega, by have := x31.2.2.1; omega, by rw [e86, up_at, if_neg (by decide)]; exact x31.2.2.2⟩
        have K7 := RP_7 (X := .ok (a + 2)) k2
        refine pw_aload_n (z := mo_) (pc := 89) dX12_readNever_89 rfl rfl ?_
        refine pw_iconst (pc := 90) dX12_readNever_90 ?_
        refine pw_callV (c := 12) (o := mo_) (As := [ii_ 3]) (rest := []) (pc := 91) dX12_readNever_91 (c_wrong hM g86 (by first | omega | (simp only [n_g34_mRoads]; omega)) (by first | omega | (simp only [n_g34_mRoads]; omega)) 3 (by first | omega | (simp only [n_g34_mRoads]; omega))) lX12_224 mX12_wrong vX12_wrong (im_mo_ hM) k_mo_ rfl rfl rfl (by decide) ⟨Nat.zero_le _, Nat.zero_le _⟩ (Nat.le_of_ble_eq_true rfl) (k_v (fun h91 q91 => ?_))
        exact J94 _ (by
                first
                | exact Or.inl ⟨u9, q9, x2, x4, x5, x1, x3.2, ⟨rfl, by rw [show a + 3 = q9.2 by omega]; exact x3.1⟩, by rw [← rr, ← x3.2]; exact c76⟩
                | (have w := RP_w (w := 3) k2 (by omega)
                   refine Or.inr ⟨flt_ tk 3 (a + 2), ?_, by rw [q91]; exact w.2⟩
                   unfold vln_
                   rw [bd_o x2, bd_o x1, if_t (by rw [← rr, ← x3.2]; exact c76)])
                | (cases hq : bd_ (bd_ (rdh_ tk Z.2.1 (a + 1)) (fun _ => .ok (a + 2))) (tkn_ tk 0 (Z.1 0 - 1)) with
                   | ok q => exfalso; rw [hq] at r45; have := r45.1.2.2.2; omega
                   | error e => rw [hq] at r45; exact Or.inr ⟨e, vln_e hq, r45.1⟩)) (by first | (have w := RP_w (w := 3) k2 (by omega); rw [q91, w.1, e86]; exact fr7_tr (fr7_tr (fr7_tr (fr7_tr f7 r34.2.1) f45) fr7_7) fr7_8) | exact fr7_tr (fr7_tr f7 r34.2.1) f45)
  refine pw_aload_n (z := mo_) (pc := 21) dX12_readNever_21 rfl rfl ?_
  refine pw_gI (x := 8) (pc := 22) dX12_readNever_22 fX12_218 (im_mo_ hM) k_mo_ rfl rfl (fun r22 => ?_)
  refine pw_if_le (t := 32) (pc := 25) dX12_readNever_25 (by decide) (by first | omega) (fun c25 => ?_) (fun c25 => ?_)
  · refine pw_iconst (pc := 32) dX12_readNever_32 ?_
    exact J33 _ (by omega)
  · refine pw_iconst (pc := 28) dX12_readNever_28 ?_
    refine pw_goto (t := 33) (pc := 29) dX12_readNever_29 (by decide) ?_
    exact J33 _ (by omega)

