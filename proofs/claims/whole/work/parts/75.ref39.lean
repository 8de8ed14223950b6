/-- what ZR_ needs, with new names and counts -/
theorem ZR_kn {tk : Nat → TK_} {N : Nat} {Z : ZT_} {h h' : PH_} {a b : Nat} {ro : Int → Int} {nm : NM_} (H : ZR_ tk N Z h a) (R : RPO_ tk N h' b) (hab : a ≤ b) (e1 : h' mOp = h mOp) (e2 : h' mArg = h mArg) (e3 : h' mo_ 13 = h mo_ 13) (e4 : nmr_ (h' mo_ 19) (h' mReadNames) (h' mReadNameOf) nm) (e7 : h' mo_ 20 = h mo_ 20) (e8 : ∀ x, 85 ≤ x → x ≤ 89 → h' mRoads x = h mRoads x) (hr : roA_ h' ro) (hz : zok_ (ro, nm, Z.2.2)) : ZR_ tk N (ro, nm, Z.2.2) h' b := by
  obtain ⟨h1, h2, h3, h4, h5, h6, h7, h8⟩ := H
  refine ⟨R, hr, e4, WR_mv e1 e2 e3 (e8 85 (by omega) (by omega)) h4, fun j hj => ?_, e7.trans h6, by omega, hz⟩
  have q3 := h8.1.2.2.2.1
  have q4 := h8.2.2.2.2.1.2.1
  have hj : j < Z.2.2.2.1.length := hj
  rw [e8 (86 + (j : Int)) (by omega) (by omega)]
  exact lwr_mv (h5 j hj) e1 e2 e3
theorem FRL_rn {h h' : PH_} (f : off_ [mReadNames, mReadNameOf, mo_] h h' ∧ ∀ k, k ≠ 7 → k ≠ 8 → k ≠ 19 → h' mo_ k = h mo_ k) : FRL_ h h' := ⟨off_mo f.1 (by decide), fun k k1 k2 _ k4 _ _ _ => f.2 k k1 k2 k4, fun x _ => by rw [f.1 mRoads (by decide)], fun x _ => by rw [f.1 mOp (by decide), f.1 mArg (by decide)]; exact ⟨rfl, rfl⟩⟩

set_option maxHeartbeats 4000000 in
set_option maxRecDepth 100000 in
theorem c_readRider {G : GT_} (hM : okM_ G) (h : PH_) (tk : Nat → TK_) (N : Nat) (Z : ZT_) (a : Nat) (H : ZR_ tk N Z h a) (hn : (tk a).1 ≠ 0) : PC G yX12_readRider cX12_readRider 4 none 5 [rr_ G mo_] h (qv_ (fun h' => FRL_ h h' ∧ LP_ tk N h' (rln_ tk Z a))) := by
  have H0 := H
  obtain ⟨H1, H2, H3, H4, H5, H6, H7, H8⟩ := H0
  have R7 := RP_7 (X := .ok a) H1
  have A7 := H1.2.1
  have A8 := H1.2.2.2
  obtain ⟨v80, v81, v82, v83, v84, v90⟩ := roA_8 H2
  obtain ⟨⟨y0, y1, y2, y3, y4, y5⟩, yr, ys, ya, yn, ym⟩ := H8
  have hw := H1.1.2.2
  refine PC.of (lv := [some (rr_ G mo_), none, none, none]) (by decide +kernel) (Nat.le_of_ble_eq_true rfl) rfl rfl ?_
  refine pw_aload_n (z := mo_) (pc := 0) dX12_readRider_0 rfl rfl ?_
  refine pw_getR (r := mRoads) (pc := 1) dX12_readRider_1 fX12_97 (im_mo_ hM) k_mo_ rfl fr_mRoads ?_
  refine pw_bipush (pc := 4) dX12_readRider_4 rfl ?_
  refine pw_iald (pc := 6) dX12_readRider_6 (im_mRoads hM) k_mRoads 160 l_mRoads (by first | omega) (by first | omega) (by first | omega) (fun r6 => ?_)
  refine pw_istore_n (lv1 := [some (rr_ G mo_), some (ii_ (h mRoads 82)), none, none]) (pc := 7) dX12_readRider_7 rfl (by decide) rfl rfl ?_
  rw [v82]
  refine pw_iload_n (z := Z.1 2) (pc := 8) dX12_readRider_8 rfl rfl ?_
  refine pw_aload_n (z := mo_) (pc := 9) dX12_readRider_9 rfl rfl ?_
  refine pw_callV (c := 12) (o := mo_) (As := []) (rest := [ii_ (Z.1 2)]) (pc := 10) dX12_readRider_10 (c_readSeats hM h) lX12_297 mX12_readSeats vX12_readSeats (im_mo_ hM) k_mo_ rfl rfl rfl (by decide) ⟨Nat.zero_le _, Nat.zero_le _⟩ (Nat.le_of_ble_eq_true rfl) (k_i (fun z10 h10 y10 q10 => ?_))
  obtain ⟨rfl, rfl⟩ := q10
  rw [v80]
  refine pw_icmp_ne (t := 22) (pc := 13) dX12_readRider_13 (by decide) (by first | omega) (by first | omega) (fun c13 => ?_) (fun c13 => ?_)
  · have n8 : Z.2.1.length < 8 := by have := yn.1; omega
    refine pw_aload_n (z := mo_) (pc := 22) dX12_readRider_22 rfl rfl ?_
    refine pw_iload_n (z := Z.1 2) (pc := 23) dX12_readRider_23 rfl rfl ?_
    refine pw_callV (c := 12) (o := mo_) (As := [ii_ (Z.1 2)]) (rest := []) (pc := 24) dX12_readRider_24 (c_readName hM h tk N a H1 hn Z.2.1 H3 n8 (Z.1 2) (by first | omega)) lX12_301 mX12_readName vX12_readName (im_mo_ hM) k_mo_ rfl rfl rfl (by decide) ⟨Nat.zero_le _, Nat.zero_le _⟩ (Nat.le_of_ble_eq_true rfl) (k_v (fun h24 q24 => ?_))
    obtain ⟨f24, r24⟩ := q24
    have b8 : (0 ≤ h24 mo_ 8 ∧ h24 mo_ 8 < 2147483648) ∧ (0 ≤ h24 mo_ 7 ∧ h24 mo_ 7 ≤ N) ∧ (0 ≤ h24 mPlace (h24 mo_ 7) ∧ h24 mPlace (h24 mo_ 7) ≤ 1000) := by
      rcases r24 with ⟨nm, k1, k2, k3⟩ | ⟨e, u1, u2⟩
      · have q := RP_7 (X := .ok (a + 2)) k2
        exact ⟨q.2.2.2.2, q.1, q.2.2.1⟩
      · have q := RP_7 (X := .error e) u2
        exact ⟨q.2.2.2.2, q.1, q.2.2.1⟩
    have J45 : ∀ (v : Int), ((∃ nm, nnm_ tk Z.2.1 (Z.1 2) (a + 1) = .ok nm ∧ RPO_ tk N h24 (a + 2) ∧ nmr_ (h24 mo_ 19) (h24 mReadNames) (h24 mReadNameOf) nm ∧ v = fcw_ (tk (a + 2)) 15 4) ∨ (∃ e, nnm_ tk Z.2.1 (Z.1 2) (a + 1) = .error e ∧ RPE_ tk N h24 e ∧ v = -1)) → (-1 ≤ v ∧ v ≤ 3) → PW G RX12 cX12_readRider 4 none (rm_ 5) 0 0 (zm_ G (qv_ (fun h' => FRL_ h h' ∧ LP_ tk N h' (rln_ tk Z a)))) 45 [some (rr_ G mo_), some (ii_ (Z.1 2)), none, none] [ii_ v] h24 := by
      intro v hv vr
      
      refine pw_istore_n (lv1 := [some (rr_ G mo_), some (ii_ (Z.1 2)), some (ii_ v), none]) (pc := 45) dX12_readRider_45 rfl (by decide) rfl rfl ?_
      refine pw_iload_n (z := v) (pc := 46) dX12_readRider_46 rfl rfl ?_
      refine pw_if_ge (t := 56) (pc := 47) dX12_readRider_47 (by decide) (by first | omega) (fun c47 => ?_) (fun c47 => ?_)
      · obtain ⟨nm, k1, k2, k3, k4⟩ : ∃ nm, nnm_ tk Z.2.1 (Z.1 2) (a + 1) = .ok nm ∧ RPO_ tk N h24 (a + 2) ∧ nmr_ (h24 mo_ 19) (h24 mReadNames) (h24 mReadNameOf) nm ∧ v = fcw_ (tk (a + 2)) 15 4 := by
          rcases hv with u | ⟨e, u1, u2, u3⟩
          · exact u
          · exfalso; omega
        have kd : knd_ tk (a + 2) = .ok v := by unfold knd_; rw [if_f (show ¬ fcw_ (tk (a + 2)) 15 4 < 0 by rw [← k4]; exact c47), k4]
        have K := knd_o kd
        obtain ⟨n9, P9⟩ := RP_n k2 (by rw [K.2.2]; decide)
        have B7 := k2.2.1
        have N9 := k2.1.1.2.2.2.1
        refine pw_aload_n (z := mo_) (pc := 56) dX12_readRider_56 rfl rfl ?_
        refine pw_dup (pc := 57) dX12_readRider_57 rfl ?_
        refine pw_gI (x := 7) (pc := 58) dX12_readRider_58 fX12_215 (im_mo_ hM) k_mo_ rfl rfl (fun r58 => ?_)
        refine pw_iconst (pc := 61) dX12_readRider_61 ?_
        refine pw_iadd (pc := 62) dX12_readRider_62 ?_
        refine pw_pI (x := 7) (pc := 63) dX12_readRider_63 fX12_215 (im_mo_ hM) k_mo_ rfl rfl (by first | omega) ?_
        obtain ⟨g63, e63⟩ : ∃ x, x = up_ h24 mo_ 7 ((h24 mo_ 7) + 1) := ⟨_, rfl⟩
        refine pw_heq e63 ?_
        refine pw_bipush (pc := 66) dX12_readRider_66 rfl ?_
        refine pw_iconst (pc := 68) dX12_readRider_68 ?_
        refine pw_iload_n (z := Z.1 2) (pc := 69) dX12_readRider_69 rfl rfl ?_
        refine pw_imul (pc := 70) dX12_readRider_70 ?_
        refine pw_iadd (pc := 71) dX12_readRider_71 ?_
        refine pw_istore_n (lv1 := [some (rr_ G mo_), some (ii_ (Z.1 2)), some (ii_ v), some (ii_ (111 + (4 * (Z.1 2))))]) (pc := 72) dX12_readRider_72 rfl (by decide) rfl rfl ?_
        rw [← e63] at P9
        refine pw_aload_n (z := mo_) (pc := 73) dX12_readRider_73 rfl rfl ?_
        refine pw_getR (r := mRoads) (pc := 74) dX12_readRider_74 fX12_97 (im_mo_ hM) k_mo_ rfl fr_mRoads ?_
        refine pw_iload_n (z := 111 + (4 * (Z.1 2))) (pc := 77) dX12_readRider_77 rfl rfl ?_
        refine pw_iload_n (z := v) (pc := 78) dX12_readRider_78 rfl rfl ?_
        refine pw_iast (pc := 79) dX12_readRider_79 (im_mRoads hM) k_mRoads 160 l_mRoads (by first | omega) (by first | omega) (by first | omega) (by first | omega) ?_
        obtain ⟨g79, e79⟩ : ∃ x, x = up_ g63 mRoads (111 + (4 * (Z.1 2))) v := ⟨_, rfl⟩
        refine pw_heq e79 ?_
        refine pw_aload_n (z := mo_) (pc := 80) dX12_readRider_80 rfl rfl ?_
        refine pw_getR (r := mRoads) (pc := 81) dX12_readRider_81 fX12_97 (im_mo_ hM) k_mo_ rfl fr_mRoads ?_
        refine pw_iload_n (z := 111 + (4 * (Z.1 2))) (pc := 84) dX12_readRider_84 rfl rfl ?_
        refine pw_iconst (pc := 85) dX12_readRider_85 ?_
        refine pw_iadd (pc := 86) dX12_readRider_86 ?_
        refine pw_aload_n (z := mo_) (pc := 87) dX12_readRider_87 rfl rfl ?_
        refine pw_iconst (pc := 88) dX12_readRider_88 ?_
        refine pw_iconst (pc := 89) dX12_readRider_89 ?_
        refine pw_bipush (pc := 90) dX12_readRider_90 rfl ?_
        refine pw_callV (c := 12) (o := mo_) (As := [ii_ 4, ii_ 1, ii_ 9]) (rest := [ii_ ((111 + (4 * (Z.1 2))) + 1), rr_ G mRoads]) (pc := 92) dX12_readRider_92 (c_takeAfter hM g79 tk N 4 (by decide) 1 9 (by first | omega) (by first | omega) (.ok (a + 3)) (by rw [e79]; exact RP_r (X := .ok (a + 3)) P9)) lX12_304 mX12_takeAfter vX12_takeAfter (im_mo_ hM) k_mo_ rfl rfl rfl (by decide) ⟨Nat.zero_le _, Nat.zero_le _⟩ (Nat.le_of_ble_eq_true rfl) (k_i (fun z92 h92 y92 q92 => ?_))
        obtain ⟨f92, r92⟩ := q92
        have r93 : RP2_ tk N h92 z92 (taf_ tk 4 1 9 (a + 3)) := r92
        refine pw_iast (pc := 95) dX12_readRider_95 (im_mRoads hM) k_mRoads 160 l_mRoads (by first | omega) (by first | omega) (by first | omega) (by first | omega) ?_
        obtain ⟨g95, e95⟩ : ∃ x, x = up_ h92 mRoads ((111 + (4 * (Z.1 2))) + 1) z92 := ⟨_, rfl⟩
        refine pw_heq e95 ?_
        refine pw_aload_n (z := mo_) (pc := 96) dX12_readRider_96 rfl rfl ?_
        refine pw_getR (r := mRoads) (pc := 97) dX12_readRider_97 fX12_97 (im_mo_ hM) k_mo_ rfl fr_mRoads ?_
        refine pw_iload_n (z := 111 + (4 * (Z.1 2))) (pc := 100) dX12_readRider_100 rfl rfl ?_
        refine pw_iconst (pc := 101) dX12_readRider_101 ?_
        refine pw_iadd (pc := 102) dX12_readRider_102 ?_
        refine pw_aload_n (z := mo_) (pc := 103) dX12_readRider_103 rfl rfl ?_
        refine pw_iconst (pc := 104) dX12_readRider_104 ?_
        refine pw_iconst (pc := 105) dX12_readRider_105 ?_
        refine pw_sipush (pc := 106) dX12_readRider_106 rfl ?_
        refine pw_callV (c := 12) (o := mo_) (As := [ii_ 5, ii_ 0, ii_ 9999]) (rest := [ii_ ((111 + (4 * (Z.1 2))) + 2), rr_ G mRoads]) (pc := 109) dX12_readRider_109 (c_takeAfter hM g95 tk N 5 (by decide) 0 9999 (by first | omega) (by first | omega) (bd_ (taf_ tk 4 1 9 (a + 3)) (fun q => .ok q.2)) (by rw [e95]; exact RP_r (RP2_7 r93))) lX12_304 mX12_takeAfter vX12_takeAfter (im_mo_ hM) k_mo_ rfl rfl rfl (by decide) ⟨Nat.zero_le _, Nat.zero_le _⟩ (Nat.le_of_ble_eq_true rfl) (k_i (fun z109 h109 y109 q109 => ?_))
        obtain ⟨f109, r109⟩ := q109
        have s82 : h109 mRoads 82 = Z.1 2 := by rw [f109.1 mRoads (by decide), e95, up_at, if_neg (by omega), f92.1 mRoads (by decide), e79, up_at, if_neg (by omega), e63, up_off (by decide), f24.1 mRoads (by decide)]; exact v82
        refine pw_iast (pc := 112) dX12_readRider_112 (im_mRoads hM) k_mRoads 160 l_mRoads (by first | omega) (by first | omega) (by first | omega) (by first | omega) ?_
        obtain ⟨g112, e112⟩ : ∃ x, x = up_ h109 mRoads ((111 + (4 * (Z.1 2))) + 2) z109 := ⟨_, rfl⟩
        refine pw_heq e112 ?_
        have s84 : g112 mRoads 82 = Z.1 2 := by rw [e112, up_at, if_neg (by omega)]; exact s82
        refine pw_aload_n (z := mo_) (pc := 113) dX12_readRider_113 rfl rfl ?_
        refine pw_getR (r := mRoads) (pc := 114) dX12_readRider_114 fX12_97 (im_mo_ hM) k_mo_ rfl fr_mRoads ?_
        refine pw_bipush (pc := 117) dX12_readRider_117 rfl ?_
        refine pw_dup2 (pc := 119) dX12_readRider_119 rfl rfl ?_
        refine pw_iald (pc := 120) dX12_readRider_120 (im_mRoads hM) k_mRoads 160 l_mRoads (by first | omega) (by first | omega) (by first | omega) (fun r120 => ?_)
        refine pw_iconst (pc := 121) dX12_readRider_121 ?_
        refine pw_iadd (pc := 122) dX12_readRider_122 ?_
        refine pw_iast (pc := 123) dX12_readRider_123 (im_mRoads hM) k_mRoads 160 l_mRoads (by first | omega) (by first | omega) (by first | omega) (by first | omega) ?_
        obtain ⟨g123, e123⟩ : ∃ x, x = up_ g112 mRoads 82 ((g112 mRoads 82) + 1) := ⟨_, rfl⟩
        refine pw_heq e123 ?_
        exact pw_vret (pc := 124) dX12_readRider_124 (by
                  have e0 : rln_ tk Z a = bd_ (nnm_ tk Z.2.1 (Z.1 2) (a + 1)) (fun nm => bd_ (knd_ tk (a + 2)) (fun k => bd_ (taf_ tk 4 1 9 (a + 3)) (fun d => bd_ (taf_ tk 5 0 9999 d.2) (fun p => .ok ((ob_ (ob_ (ob_ (ob_ Z.1 (31 + 4 * Z.1 2) k) (31 + 4 * Z.1 2 + 1) d.1) (31 + 4 * Z.1 2 + 2) p.1) 2 (Z.1 2 + 1), nm, Z.2.2), p.2))))) := by unfold rln_; rw [if_f (show ¬ Z.1 2 = Z.1 0 from c13)]
                  have fo : FRL_ h g123 := by
                    rw [e123, e112]
                    refine FRL_tr (FRL_tr (FRL_tr (FRL_tr (FRL_tr (FRL_rn f24) ?_) (FRL_7 f92)) ?_) (FRL_7 f109)) ?_
                    · rw [e79, e63]; exact FRL_tr (FRL_m (by decide)) (FRL_r (by omega))
                    · rw [e95]; exact FRL_r (by omega)
                    · exact FRL_tr (FRL_r (by omega)) (FRL_r (by omega))
                  refine ⟨fo, ?_⟩
                  rw [e0, bd_o k1, bd_o kd]
                  cases ht : taf_ tk 4 1 9 (a + 3) with
                  | error e =>
                    rw [ht] at r109
                    show RPE_ tk N g123 e
                    rw [e123, e112]
                    exact RP_r (X := .error e) (RP_r (X := .error e) r109.1)
                  | ok d =>
                    rw [ht] at r109 r93
                    have r110 : RP2_ tk N h109 z109 (taf_ tk 5 0 9999 d.2) := r109
                    rw [bd_o rfl]
                    cases hp : taf_ tk 5 0 9999 d.2 with
                    | error e =>
                      rw [hp] at r110
                      show RPE_ tk N g123 e
                      rw [e123, e112]
                      exact RP_r (X := .error e) (RP_r (X := .error e) r110.1)
                    | ok p =>
                      rw [hp] at r110
                      have so : rln_ tk Z a = .ok ((ob_ (ob_ (ob_ (ob_ Z.1 (31 + 4 * Z.1 2) v) (31 + 4 * Z.1 2 + 1) d.1) (31 + 4 * Z.1 2 + 2) p.1) 2 (Z.1 2 + 1), nm, Z.2.2), p.2) := by rw [e0, bd_o k1, bd_o kd, bd_o ht, bd_o hp]
                      have sz := rln_z hw H.2.2.2.2.2.2.2 so
                      show ZR_ tk N (_, nm, Z.2.2) g123 p.2
                      refine ZR_kn (ro := ob_ (ob_ (ob_ (ob_ Z.1 (31 + 4 * Z.1 2) v) (31 + 4 * Z.1 2 + 1) d.1) (31 + 4 * Z.1 2 + 2) p.1) 2 (Z.1 2 + 1)) H (by rw [e123, e112]; exact RP_r (X := .ok p.2) (RP_r (X := .ok p.2) r110.1)) (by have := sz.2; show a ≤ p.2; have q : a < p.2 := this; omega) ?_ ?_ ?_ ?_ ?_ (fun x x0 x1 => ?_) ?_ sz.1
                      · rw [e123, up_off (by decide), e112, up_off (by decide), f109.1 mOp (by decide), e95, up_off (by decide), f92.1 mOp (by decide), e79, up_off (by decide), e63, up_off (by decide), f24.1 mOp (by decide)]
                      · rw [e123, up_off (by decide), e112, up_off (by decide), f109.1 mArg (by decide), e95, up_off (by decide), f92.1 mArg (by decide), e79, up_off (by decide), e63, up_off (by decide), f24.1 mArg (by decide)]
                      · rw [e123, up_off (by decide), e112, up_off (by decide), f109.2 13 (by decide) (by decide), e95, up_off (by decide), f92.2 13 (by decide) (by decide), e79, up_off (by decide), e63, up_at, if_neg (by decide), f24.2 13 (by decide) (by decide) (by decide)]
                      · rw [e123, up_off (by decide), up_off (by decide), up_off (by decide), e112, up_off (by decide), up_off (by decide), up_off (by decide), f109.2 19 (by decide) (by decide), f109.1 mReadNames (by decide), f109.1 mReadNameOf (by decide), e95, up_off (by decide), up_off (by decide), up_off (by decide), f92.2 19 (by decide) (by decide), f92.1 mReadNames (by decide), f92.1 mReadNameOf (by decide), e79, up_off (by decide), up_off (by decide), up_off (by decide), e63, up_at, if_neg (by decide), up_off (by decide), up_off (by decide)]
                        exact k3
                      · rw [e123, up_off (by decide), e112, up_off (by decide), f109.2 20 (by decide) (by decide), e95, up_off (by decide), f92.2 20 (by decide) (by decide), e79, up_off (by decide), e63, up_at, if_neg (by decide), f24.2 20 (by decide) (by decide) (by decide)]
                      · rw [e123, up_at, if_neg (by omega), e112, up_at, if_neg (by omega), f109.1 mRoads (by decide), e95, up_at, if_neg (by omega), f92.1 mRoads (by decide), e79, up_at, if_neg (by omega), e63, up_off (by decide), f24.1 mRoads (by decide)]
                      · have a1 : roA_ g79 (ob_ Z.1 (31 + 4 * Z.1 2) v) := by rw [e79]; exact roA_u (roA_m H2 (by rw [e63, up_off (by decide), f24.1 mRoads (by decide)])) (by omega) (by omega)
                        have a2 : roA_ g95 (ob_ (ob_ Z.1 (31 + 4 * Z.1 2) v) (31 + 4 * Z.1 2 + 1) d.1) := by rw [e95, r93.2]; exact roA_u (roA_m a1 (f92.1 mRoads (by decide))) (by omega) (by omega)
                        have a3 : roA_ g112 (ob_ (ob_ (ob_ Z.1 (31 + 4 * Z.1 2) v) (31 + 4 * Z.1 2 + 1) d.1) (31 + 4 * Z.1 2 + 2) p.1) := by rw [e112, r110.2]; exact roA_u (roA_m a2 (f109.1 mRoads (by decide))) (by omega) (by omega)
                        rw [e123, s84]; exact roA_u a3 (by omega) (by omega))
      · refine pw_aload_n (z := mo_) (pc := 50) dX12_readRider_50 rfl rfl ?_
        refine pw_iconst (pc := 51) dX12_readRider_51 ?_
        refine pw_callV (c := 12) (o := mo_) (As := [ii_ 1]) (rest := []) (pc := 52) dX12_readRider_52 (c_wrong hM h24 (by first | omega) (by first | omega) 1 (by first | omega)) lX12_224 mX12_wrong vX12_wrong (im_mo_ hM) k_mo_ rfl rfl rfl (by decide) ⟨Nat.zero_le _, Nat.zero_le _⟩ (Nat.le_of_ble_eq_true rfl) (k_v (fun h52 q52 => ?_))
        exact pw_vret (pc := 55) dX12_readRider_55 (by
                  have e0 : rln_ tk Z a = bd_ (nnm_ tk Z.2.1 (Z.1 2) (a + 1)) (fun nm => bd_ (knd_ tk (a + 2)) (fun k => bd_ (taf_ tk 4 1 9 (a + 3)) (fun d => bd_ (taf_ tk 5 0 9999 d.2) (fun p => .ok ((ob_ (ob_ (ob_ (ob_ Z.1 (31 + 4 * Z.1 2) k) (31 + 4 * Z.1 2 + 1) d.1) (31 + 4 * Z.1 2 + 2) p.1) 2 (Z.1 2 + 1), nm, Z.2.2), p.2))))) := by unfold rln_; rw [if_f (show ¬ Z.1 2 = Z.1 0 from c13)]
                  rw [q52]
                  rcases hv with ⟨nm, k1, k2, k3, k4⟩ | ⟨e, u1, u2, u3⟩
                  · have w := RP_w (w := 1) k2 (by omega)
                    have kd : knd_ tk (a + 2) = .error (flt_ tk 1 (a + 2)) := by unfold knd_; rw [if_t (show fcw_ (tk (a + 2)) 15 4 < 0 by rw [← k4]; omega)]
                    rw [e0, bd_o k1, bd_e kd]
                    exact ⟨FRL_tr (FRL_rn f24) (by rw [w.1]; exact FRL_m (by decide)), w.2⟩
                  · have n8 : ¬ h24 mo_ 8 = 0 := by have := u2.2.2; omega
                    rw [e0, bd_e u1, wro_f n8]
                    exact ⟨FRL_rn f24, u2⟩)
    refine pw_aload_n (z := mo_) (pc := 27) dX12_readRider_27 rfl rfl ?_
    refine pw_gI (x := 8) (pc := 28) dX12_readRider_28 fX12_218 (im_mo_ hM) k_mo_ rfl rfl (fun r28 => ?_)
    refine pw_if_le (t := 38) (pc := 31) dX12_readRider_31 (by decide) (by first | omega) (fun c31 => ?_) (fun c31 => ?_)
    · refine pw_aload_n (z := mo_) (pc := 38) dX12_readRider_38 rfl rfl ?_
      refine pw_bipush (pc := 39) dX12_readRider_39 rfl ?_
      refine pw_iconst (pc := 41) dX12_readRider_41 ?_
      refine pw_callV (c := 12) (o := mo_) (As := [ii_ 15, ii_ 4]) (rest := []) (pc := 42) dX12_readRider_42 (c_wordHere hM h24 (by first | omega) 15 4 (by first | omega)) lX12_240 mX12_wordHere vX12_wordHere (im_mo_ hM) k_mo_ rfl rfl rfl (by decide) ⟨Nat.zero_le _, Nat.zero_le _⟩ (Nat.le_of_ble_eq_true rfl) (k_i (fun z42 h42 y42 q42 => ?_))
      obtain ⟨rfl, w42⟩ := q42
      exact J45 _ (by
              rcases r24 with ⟨nm, k1, k2, k3⟩ | ⟨e, u1, u2⟩
              · first
                | (exfalso; have := k2.2.2.2; omega)
                | (have w5 := RS_wh (RPO_RS k2) k2.2.2.2 (f := 15) 4 (by decide)
                   exact Or.inl ⟨nm, k1, k2, k3, by rw [w42]; exact w5⟩)
              · first
                | exact Or.inr ⟨e, u1, u2, rfl⟩
                | (exfalso; have := u2.2.2; omega)) (by first | omega | (have := whr_b h24 15 4; rw [w42]; show -1 ≤ whr_ h24 15 4 ∧ whr_ h24 15 4 ≤ 3; omega))
    · refine pw_iconst (pc := 34) dX12_readRider_34 ?_
      refine pw_goto (t := 45) (pc := 35) dX12_readRider_35 (by decide) ?_
      exact J45 _ (by
              rcases r24 with ⟨nm, k1, k2, k3⟩ | ⟨e, u1, u2⟩
              · first
                | (exfalso; have := k2.2.2.2; omega)
                | (have w5 := RS_wh (RPO_RS k2) k2.2.2.2 (f := 15) 4 (by decide)
                   exact Or.inl ⟨nm, k1, k2, k3, by rw [w42]; exact w5⟩)
              · first
                | exact Or.inr ⟨e, u1, u2, rfl⟩
                | (exfalso; have := u2.2.2; omega)) (by first | omega | (have := whr_b h24 15 4; rw [w42]; show -1 ≤ whr_ h24 15 4 ∧ whr_ h24 15 4 ≤ 3; omega))
  · refine pw_aload_n (z := mo_) (pc := 16) dX12_readRider_16 rfl rfl ?_
    refine pw_iconst (pc := 17) dX12_readRider_17 ?_
    refine pw_callV (c := 12) (o := mo_) (As := [ii_ 5]) (rest := []) (pc := 18) dX12_readRider_18 (c_wrong hM h (by first | omega) (by first | omega) 5 (by first | omega)) lX12_224 mX12_wrong vX12_wrong (im_mo_ hM) k_mo_ rfl rfl rfl (by decide) ⟨Nat.zero_le _, Nat.zero_le _⟩ (Nat.le_of_ble_eq_true rfl) (k_v (fun h18 q18 => ?_))
    exact pw_vret (pc := 21) dX12_readRider_21 (by
              have w := RP_w (w := 5) H1 (by omega)
              unfold rln_
              rw [if_t (show Z.1 2 = Z.1 0 from c13), q18]
              exact ⟨by rw [w.1]; exact FRL_m (by decide), w.2⟩)

