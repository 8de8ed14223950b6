set_option maxHeartbeats 4000000 in
set_option maxRecDepth 100000 in
theorem c_road {G : GT_} (hM : okM_ G) (h : PH_) (ht : tpo_ (h mTape, h mo_ 2)) (hws : wds_ h) : PC G yX12_road cX12_road 2 (some .int) 36 [rr_ G mo_] h (qi_ (fun z h' => RO_ h z h' (rod_ (tk_ (h mTape) (h mo_ 2))) ∧ h' mo_ 0 = 0 ∧ h' mo_ 2 = 0)) := by
  have htb : 0 ≤ h mo_ 2 ∧ h mo_ 2 ≤ 1000 := ht.1
  refine PC.of (lv := [some (rr_ G mo_), none]) (by decide +kernel) (Nat.le_of_ble_eq_true rfl) rfl rfl ?_
  refine pw_aload_n (z := mo_) (pc := 0) dX12_road_0 rfl rfl ?_
  refine pw_iconst (pc := 1) dX12_road_1 ?_
  refine pw_pI (x := 0) (pc := 2) dX12_road_2 fX12_1 (im_mo_ hM) k_mo_ rfl rfl (by first | omega) ?_
  obtain ⟨g2, e2⟩ : ∃ x, x = up_ h mo_ 0 0 := ⟨_, rfl⟩
  refine pw_heq e2 ?_
  have k2 : (g2 mTape, g2 mo_ 2) = (h mTape, h mo_ 2) := by rw [e2, up_off (by decide), up_at, if_neg (by decide)]
  refine pw_aload_n (z := mo_) (pc := 5) dX12_road_5 rfl rfl ?_
  refine pw_callV (c := 12) (o := mo_) (As := []) (rest := []) (pc := 6) dX12_road_6 (c_cutAll hM g2 (by rw [k2]; exact ht)) lX12_249 mX12_cutAll vX12_cutAll (im_mo_ hM) k_mo_ rfl rfl rfl (by decide) ⟨Nat.zero_le _, Nat.zero_le _⟩ (Nat.le_of_ble_eq_true rfl) (k_v (fun h6 q6 => ?_))
  obtain ⟨f6, o6, t6, a6, b6, N, hN⟩ := q6
  have k3 : g2 mTape = h mTape ∧ g2 mo_ 2 = h mo_ 2 := by rw [e2, up_off (by decide), up_at, if_neg (by decide)]; exact ⟨rfl, rfl⟩
  rw [k3.1, k3.2] at hN
  refine pw_aload_n (z := mo_) (pc := 9) dX12_road_9 rfl rfl ?_
  refine pw_iconst (pc := 10) dX12_road_10 ?_
  refine pw_pI (x := 13) (pc := 11) dX12_road_11 fX12_252 (im_mo_ hM) k_mo_ rfl rfl (by first | omega) ?_
  obtain ⟨g11, e11⟩ : ∃ x, x = up_ h6 mo_ 13 0 := ⟨_, rfl⟩
  refine pw_heq e11 ?_
  refine pw_aload_n (z := mo_) (pc := 14) dX12_road_14 rfl rfl ?_
  refine pw_iconst (pc := 15) dX12_road_15 ?_
  refine pw_pI (x := 19) (pc := 16) dX12_road_16 fX12_243 (im_mo_ hM) k_mo_ rfl rfl (by first | omega) ?_
  obtain ⟨g16, e16⟩ : ∃ x, x = up_ g11 mo_ 19 0 := ⟨_, rfl⟩
  refine pw_heq e16 ?_
  refine pw_aload_n (z := mo_) (pc := 19) dX12_road_19 rfl rfl ?_
  refine pw_iconst (pc := 20) dX12_road_20 ?_
  refine pw_pZ (x := 20) (pc := 21) dX12_road_21 fX12_255 (im_mo_ hM) k_mo_ rfl rfl (by first | omega) ?_
  obtain ⟨g21, e21⟩ : ∃ x, x = up_ g16 mo_ 20 0 := ⟨_, rfl⟩
  refine pw_heq e21 ?_
  have gb : RB_ (tk_ (h mTape) (h mo_ 2)) N g21 := by
    have f1 : off_ [mo_] h6 g21 := by rw [e21, e16, e11]; exact off_up (off_up (off_up off_rf (by decide)) (by decide)) (by decide)
    have w6 : wds_ h6 := fun w hw => by rw [f6 mWords (by decide), e2, up_off (by decide)]; exact hws w hw
    exact RB_mv ⟨hN, w6, tk_wf htb.1⟩ (f1 mSort (by decide)) (f1 mPlace (by decide)) (f1 mValue (by decide)) (f1 mWords (by decide))
  have N1 := hN.2.2.2.1
  have m21 : g21 mo_ = ob_ (ob_ (ob_ (h6 mo_) 13 0) 19 0) 20 0 := by rw [e21, up_ob, e16, up_ob, e11, up_ob]
  have p21 : prs_ h g21 := by
    refine ⟨off_tr (by rw [e2]; exact off_up off_rf (by decide)) (off_tr (off_mo f6 (by decide)) (by rw [e21, e16, e11]; exact off_up (off_up (off_up off_rf (by decide)) (by decide)) (by decide))), fun k k0 k2 k3 k7 k8 k13 k19 k20 k21 k22 => ?_, fun x _ => ?_, fun x _ => ?_⟩
    · rw [m21]; unfold ob_; rw [if_neg k20, if_neg k19, if_neg k13, o6 k k2 k3 k7 k8, e2, up_at, if_neg k0]
    · rw [e21, up_off (by decide), e16, up_off (by decide), e11, up_off (by decide), f6 mRoads (by decide), e2, up_off (by decide)]
    · rw [e21, up_off (by decide), up_off (by decide), e16, up_off (by decide), up_off (by decide), e11, up_off (by decide), up_off (by decide), f6 mOp (by decide), f6 mArg (by decide), e2, up_off (by decide), up_off (by decide)]; exact ⟨rfl, rfl⟩
  have z21 : g21 mo_ 0 = 0 ∧ g21 mo_ 2 = 0 := by rw [m21]; exact ⟨by show h6 mo_ 0 = 0; rw [o6 0 (by decide) (by decide) (by decide) (by decide), e2, up_same], t6⟩
  refine pw_aload_n (z := mo_) (pc := 24) dX12_road_24 rfl rfl ?_
  refine pw_bipush (pc := 25) dX12_road_25 rfl ?_
  refine pw_callV (c := 12) (o := mo_) (As := [ii_ 80]) (rest := []) (pc := 27) dX12_road_27 (c_stands hM g21 80 (by decide)) lX12_185 mX12_standsAsAlways vX12_standsAsAlways (im_mo_ hM) k_mo_ rfl rfl rfl (by decide) ⟨Nat.zero_le _, Nat.zero_le _⟩ (Nat.le_of_ble_eq_true rfl) (k_v (fun h27 q27 => ?_))
  obtain ⟨f27, l27, k27⟩ := q27
  have F27 : FRL_ g21 h27 := ⟨off_mo f27 (by decide), fun k _ _ _ _ _ _ _ => by rw [f27 mo_ (by decide)], fun x hx => l27 x (by omega), fun x _ => by rw [f27 mOp (by decide), f27 mArg (by decide)]; exact ⟨rfl, rfl⟩⟩
  have R27 : RPO_ (tk_ (h mTape) (h mo_ 2)) N h27 0 := ⟨RB_F gb F27, by rw [f27 mo_ (by decide), m21]; exact a6, Nat.zero_le _, by rw [f27 mo_ (by decide), m21]; exact b6⟩
  refine pw_aload_n (z := mo_) (pc := 30) dX12_road_30 rfl rfl ?_
  refine pw_iconst (pc := 31) dX12_road_31 ?_
  refine pw_callV (c := 12) (o := mo_) (As := [ii_ 0]) (rest := []) (pc := 32) dX12_road_32 (c_takeWord hM h27 (tk_ (h mTape) (h mo_ 2)) N 0 (by decide) (.ok 0) R27) lX12_233 mX12_takeWord vX12_takeWord (im_mo_ hM) k_mo_ rfl rfl rfl (by decide) ⟨Nat.zero_le _, Nat.zero_le _⟩ (Nat.le_of_ble_eq_true rfl) (k_v (fun h32 q32 => ?_))
  obtain ⟨f32, r32⟩ := q32
  have r33 : RP_ (tk_ (h mTape) (h mo_ 2)) N h32 (tkw_ (tk_ (h mTape) (h mo_ 2)) 0 0) := r32
  refine pw_aload_n (z := mo_) (pc := 35) dX12_road_35 rfl rfl ?_
  refine pw_getR (r := mRoads) (pc := 36) dX12_road_36 fX12_97 (im_mo_ hM) k_mo_ rfl fr_mRoads ?_
  refine pw_bipush (pc := 39) dX12_road_39 rfl ?_
  refine pw_aload_n (z := mo_) (pc := 41) dX12_road_41 rfl rfl ?_
  refine pw_iconst (pc := 42) dX12_road_42 ?_
  refine pw_iconst (pc := 43) dX12_road_43 ?_
  refine pw_callV (c := 12) (o := mo_) (As := [ii_ 2, ii_ 4]) (rest := [ii_ 80, rr_ G mRoads]) (pc := 44) dX12_road_44 (c_takeNumber hM h32 (tk_ (h mTape) (h mo_ 2)) N 2 4 (by first | omega) (by first | omega) (tkw_ (tk_ (h mTape) (h mo_ 2)) 0 0) r33) lX12_236 mX12_takeNumber vX12_takeNumber (im_mo_ hM) k_mo_ rfl rfl rfl (by decide) ⟨Nat.zero_le _, Nat.zero_le _⟩ (Nat.le_of_ble_eq_true rfl) (k_i (fun z44 h44 y44 q44 => ?_))
  obtain ⟨f44, r44⟩ := q44
  refine pw_iast (pc := 47) dX12_road_47 (im_mRoads hM) k_mRoads 160 l_mRoads (by first | omega) (by first | omega) (by first | omega) (by first | omega) ?_
  obtain ⟨g47, e47⟩ : ∃ x, x = up_ h44 mRoads 80 z44 := ⟨_, rfl⟩
  refine pw_heq e47 ?_
  refine pw_aload_n (z := mo_) (pc := 48) dX12_road_48 rfl rfl ?_
  refine pw_bipush (pc := 49) dX12_road_49 rfl ?_
  have R47 : RP_ (tk_ (h mTape) (h mo_ 2)) N g47 (bd_ (bd_ (tkw_ (tk_ (h mTape) (h mo_ 2)) 0 0) (tkn_ (tk_ (h mTape) (h mo_ 2)) 2 4)) (fun q => .ok q.2)) := by rw [e47]; exact RP_r (RP2_7 r44)
  have Q47 := RP_7 R47
  refine pw_callV (c := 12) (o := mo_) (As := [ii_ 59]) (rest := []) (pc := 51) dX12_road_51 (c_takeSign hM g47 (by first | omega) (by first | omega) 59 (by first | omega)) lX12_259 mX12_takeSign vX12_takeSign (im_mo_ hM) k_mo_ rfl rfl rfl (by decide) ⟨Nat.zero_le _, Nat.zero_le _⟩ (Nat.le_of_ble_eq_true rfl) (k_v (fun h51 q51 => ?_))
  obtain ⟨f51, r51⟩ := P_sign R47 q51
  have F51 : FRL_ g21 h51 := FRL_tr (FRL_tr (FRL_tr (FRL_tr F27 (FRL_7 f32)) (FRL_7 f44)) (by rw [e47]; exact FRL_r (by decide))) (FRL_7 f51)
  have st0 : rst2_ (tk_ (h mTape) (h mo_ 2)) N (rod_ (tk_ (h mTape) (h mo_ 2))) h51 := by
    have e0 : rod_ (tk_ (h mTape) (h mo_ 2)) = bd_ (bd_ (tkw_ (tk_ (h mTape) (h mo_ 2)) 0 0) (tkn_ (tk_ (h mTape) (h mo_ 2)) 2 4)) (fun q => bd_ (tks2_ (tk_ (h mTape) (h mo_ 2)) 59 q.2) (fun b => rlp_ (tk_ (h mTape) (h mo_ 2)) 1000 (ob_ ro0_ 0 q.1, [], none, [], 0) b)) := by unfold rod_; rw [bd_bd]
    cases hy : (bd_ (tkw_ (tk_ (h mTape) (h mo_ 2)) 0 0) (tkn_ (tk_ (h mTape) (h mo_ 2)) 2 4)) with
    | error e =>
      rw [hy] at r51
      rw [bd_e hy] at e0
      exact Or.inr ⟨e, e0, r51⟩
    | ok q =>
      rw [hy] at r51 r44
      rw [bd_o hy] at e0
      have r51 : RP_ (tk_ (h mTape) (h mo_ 2)) N h51 (tks2_ (tk_ (h mTape) (h mo_ 2)) 59 q.2) := r51
      obtain ⟨b1, y1, y2⟩ := bd_ok hy
      have y3 := tkn_o y2
      cases hs : tks2_ (tk_ (h mTape) (h mo_ 2)) 59 q.2 with
      | error e =>
        rw [hs] at r51
        have e0 : rod_ (tk_ (h mTape) (h mo_ 2)) = bd_ (tks2_ (tk_ (h mTape) (h mo_ 2)) 59 q.2) (fun b => rlp_ (tk_ (h mTape) (h mo_ 2)) 1000 (ob_ ro0_ 0 q.1, [], none, [], 0) b) := e0
        rw [bd_e hs] at e0
        exact Or.inr ⟨e, e0, r51⟩
      | ok b =>
        rw [hs] at r51
        have e0 : rod_ (tk_ (h mTape) (h mo_ 2)) = bd_ (tks2_ (tk_ (h mTape) (h mo_ 2)) 59 q.2) (fun b => rlp_ (tk_ (h mTape) (h mo_ 2)) 1000 (ob_ ro0_ 0 q.1, [], none, [], 0) b) := e0
        rw [bd_o hs] at e0
        have sb := (tks2_o hs).1
        have m51 : ∀ k, k ≠ 7 → k ≠ 8 → h51 mo_ k = g21 mo_ k := fun k k1 k2 => by rw [f51.2 k k1 k2, e47, up_off (by decide), f44.2 k k1 k2, f32.2 k k1 k2, f27 mo_ (by decide)]
        have ra : roA_ h51 (ob_ ro0_ 0 q.1) := by
          refine roA_m (h := g47) ?_ (f51.1 mRoads (by decide))
          rw [e47, r44.2]
          refine roA_u (k := 0) (roA_m (h := h27) (fun k k0 k1 _ => k27 k k0 k1) ?_) (by decide) (by decide)
          rw [f44.1 mRoads (by decide), f32.1 mRoads (by decide)]
        refine Or.inl ⟨_, b, 1000, e0, ⟨r51, ra, ⟨?_, Nat.zero_le _, fun i hi => absurd hi (Nat.not_lt_zero i)⟩, ?_, fun j hj => absurd hj (Nat.not_lt_zero j), ?_, ?_, zk_0 y3.1⟩, by omega⟩
        · rw [m51 19 (by decide) (by decide), m21]; rfl
        · show h51 mRoads 85 = -1
          rw [f51.1 mRoads (by decide), e47, up_at, if_neg (by decide), f44.1 mRoads (by decide), f32.1 mRoads (by decide)]
          exact k27 5 (by decide) (by decide)
        · rw [m51 20 (by decide) (by decide), m21]; rfl
        · rw [m51 13 (by decide) (by decide), m21]; show (0 : Int) ≤ 0 ∧ (0 : Int) ≤ _; omega
  have l7 := rst2_7 st0
  have L54 : ∀ (nn : Nat) (mm : Int) (hq : PH_), (FRL_ g21 hq) → (rst2_ (tk_ (h mTape) (h mo_ 2)) N (rod_ (tk_ (h mTape) (h mo_ 2))) hq) → (1 ≤ mm ∧ (hq mo_ 8 = 0 → (N : Int) - hq mo_ 7 + 2 ≤ mm)) → ((mm : Int) ≤ nn) → PW G RX12 cX12_road 2 (some .int) (rm_ 36) 0 0 (zm_ G (qi_ (fun z h' => RO_ h z h' (rod_ (tk_ (h mTape) (h mo_ 2))) ∧ h' mo_ 0 = 0 ∧ h' mo_ 2 = 0))) 54 [some (rr_ G mo_), none] [] hq := by
    intro nn
    induction nn with
    | zero => intro mm hq afr ast am ams; exfalso; omega
    | succ nn ih54 =>
      intro mm hq afr ast am ams
      have r7 := rst2_7 ast
      have J86 : (¬ hq mo_ 8 = 0 ∨ hq mSort (hq mo_ 7) = 0) → PW G RX12 cX12_road 2 (some .int) (rm_ 36) 0 0 (zm_ G (qi_ (fun z h' => RO_ h z h' (rod_ (tk_ (h mTape) (h mo_ 2))) ∧ h' mo_ 0 = 0 ∧ h' mo_ 2 = 0))) 86 [some (rr_ G mo_), none] [] hq := by
        intro hx86
        have r7 := rst2_7 ast
        refine pw_aload_n (z := mo_) (pc := 86) dX12_road_86 rfl rfl ?_
        refine pw_gI (x := 8) (pc := 87) dX12_road_87 fX12_218 (im_mo_ hM) k_mo_ rfl rfl (fun r87 => ?_)
        refine pw_if_le (t := 98) (pc := 90) dX12_road_90 (by decide) (by first | omega) (fun c90 => ?_) (fun c90 => ?_)
        · obtain ⟨Z, a, z1, z2⟩ : ∃ (Z : ZT_) (a : Nat), rod_ (tk_ (h mTape) (h mo_ 2)) = .ok Z ∧ ZR_ (tk_ (h mTape) (h mo_ 2)) N Z hq a := by
            rcases ast with ⟨Z, a, fu, z1, z2, z3⟩ | ⟨e, u1, u2⟩
            · refine ⟨Z, a, ?_, z2⟩
              rw [z1]
              refine rlp_0 ?_
              have ts : hq mSort (hq mo_ 7) = ((tk_ (h mTape) (h mo_ 2)) a).1 := by rw [z2.1.2.1]; exact (z2.1.1.1.1 a z2.1.2.2.1).1
              have h8 := z2.1.2.2.2
              rw [← ts]
              rcases hx86 with u | u
              · exfalso; exact u h8
              · exact u
            · exfalso; have := u2.2.2; omega
          have c13 := z2.2.2.2.2.2.2.1
          have a9 := z2.1.2.2.1
          have n19 := z2.2.2.1
          have n8 := n19.2.1
          refine pw_iconst (pc := 98) dX12_road_98 ?_
          refine pw_istore_n (lv1 := [some (rr_ G mo_), some (ii_ 0)]) (pc := 99) dX12_road_99 rfl (by decide) rfl rfl ?_
          have L100 : ∀ (nn : Nat) (k : Int) (ka : PH_), (0 ≤ k ∧ k ≤ 80) → (off_ [mRoads] hq ka) → ((∀ x, 0 ≤ x → x < k → ka mRoads x = hq mRoads (80 + x)) ∧ ∀ x, 80 ≤ x → ka mRoads x = hq mRoads x) → ((80 - k + 1 : Int) ≤ nn) → PW G RX12 cX12_road 2 (some .int) (rm_ 36) 0 0 (zm_ G (qi_ (fun z h' => RO_ h z h' (rod_ (tk_ (h mTape) (h mo_ 2))) ∧ h' mo_ 0 = 0 ∧ h' mo_ 2 = 0))) 100 [some (rr_ G mo_), some (ii_ k)] [] ka := by
            intro nn
            induction nn with
            | zero => intro k ka ak kf kr ams; exfalso; omega
            | succ nn ih100 =>
              intro k ka ak kf kr ams
              refine pw_iload_n (z := k) (pc := 100) dX12_road_100 rfl rfl ?_
              refine pw_bipush (pc := 101) dX12_road_101 rfl ?_
              refine pw_icmp_ge (t := 127) (pc := 103) dX12_road_103 (by decide) (by first | omega) (by first | omega) (fun c103 => ?_) (fun c103 => ?_)
              · refine pw_iconst (pc := 127) dX12_road_127 ?_
                refine pw_istore_n (lv1 := [some (rr_ G mo_), some (ii_ 0)]) (pc := 128) dX12_road_128 rfl (by decide) rfl rfl ?_
                have L129 : ∀ (nn : Nat) (k : Int) (kb : PH_), (0 ≤ k ∧ k ≤ hq mo_ 13) → (off_ [mOp, mArg] ka kb) → ((∀ x, 0 ≤ x → x < k → kb mOp x = hq mOp (1100 + x) ∧ kb mArg x = hq mArg (1100 + x)) ∧ ∀ x, 1100 ≤ x → kb mOp x = hq mOp x ∧ kb mArg x = hq mArg x) → ((hq mo_ 13 - k + 1 : Int) ≤ nn) → PW G RX12 cX12_road 2 (some .int) (rm_ 36) 0 0 (zm_ G (qi_ (fun z h' => RO_ h z h' (rod_ (tk_ (h mTape) (h mo_ 2))) ∧ h' mo_ 0 = 0 ∧ h' mo_ 2 = 0))) 129 [some (rr_ G mo_), some (ii_ k)] [] kb := by
                  intro nn
                  induction nn with
                  | zero => intro k kb bk bf br ams; exfalso; omega
                  | succ nn ih129 =>
                    intro k kb bk bf br ams
                    have b13 : kb mo_ 13 = hq mo_ 13 := by rw [bf mo_ (by decide), kf mo_ (by decide)]
                    refine pw_iload_n (z := k) (pc := 129) dX12_road_129 rfl rfl ?_
                    refine pw_aload_n (z := mo_) (pc := 130) dX12_road_130 rfl rfl ?_
                    refine pw_gI (x := 13) (pc := 131) dX12_road_131 fX12_252 (im_mo_ hM) k_mo_ rfl rfl (fun r131 => ?_)
                    refine pw_icmp_ge (t := 175) (pc := 134) dX12_road_134 (by decide) (by first | omega) (by first | omega) (fun c134 => ?_) (fun c134 => ?_)
                    · refine pw_iconst (pc := 175) dX12_road_175 ?_
                      refine pw_istore_n (lv1 := [some (rr_ G mo_), some (ii_ 0)]) (pc := 176) dX12_road_176 rfl (by decide) rfl rfl ?_
                      have L177 : ∀ (nn : Nat) (k : Int) (kc : PH_), (0 ≤ k ∧ k ≤ Z.2.1.length) → (off_ [mNames, mNameOf] kb kc) → (∀ x, 0 ≤ x → x < k → kc mNames x = hq mReadNames x ∧ kc mNameOf x = hq mReadNameOf x) → (((Z.2.1.length : Int) - k + 1 : Int) ≤ nn) → PW G RX12 cX12_road 2 (some .int) (rm_ 36) 0 0 (zm_ G (qi_ (fun z h' => RO_ h z h' (rod_ (tk_ (h mTape) (h mo_ 2))) ∧ h' mo_ 0 = 0 ∧ h' mo_ 2 = 0))) 177 [some (rr_ G mo_), some (ii_ k)] [] kc := by
                        intro nn
                        induction nn with
                        | zero => intro k kc ck cf cr ams; exfalso; omega
                        | succ nn ih177 =>
                          intro k kc ck cf cr ams
                          have c19 : kc mo_ 19 = (Z.2.1.length : Int) := by rw [cf mo_ (by decide), bf mo_ (by decide), kf mo_ (by decide)]; exact n19.1
                          refine pw_iload_n (z := k) (pc := 177) dX12_road_177 rfl rfl ?_
                          refine pw_aload_n (z := mo_) (pc := 178) dX12_road_178 rfl rfl ?_
                          refine pw_gI (x := 19) (pc := 179) dX12_road_179 fX12_243 (im_mo_ hM) k_mo_ rfl rfl (fun r179 => ?_)
                          refine pw_icmp_ge (t := 215) (pc := 182) dX12_road_182 (by decide) (by first | omega) (by first | omega) (fun c182 => ?_) (fun c182 => ?_)
                          · refine pw_aload_n (z := mo_) (pc := 215) dX12_road_215 rfl rfl ?_
                            refine pw_aload_n (z := mo_) (pc := 216) dX12_road_216 rfl rfl ?_
                            refine pw_gI (x := 19) (pc := 217) dX12_road_217 fX12_243 (im_mo_ hM) k_mo_ rfl rfl (fun r217 => ?_)
                            refine pw_pI (x := 18) (pc := 220) dX12_road_220 fX12_246 (im_mo_ hM) k_mo_ rfl rfl (by first | omega) ?_
                            obtain ⟨g220, e220⟩ : ∃ x, x = up_ kc mo_ 18 (kc mo_ 19) := ⟨_, rfl⟩
                            refine pw_heq e220 ?_
                            refine pw_aload_n (z := mo_) (pc := 223) dX12_road_223 rfl rfl ?_
                            refine pw_callV (c := 12) (o := mo_) (As := []) (rest := []) (pc := 224) dX12_road_224 (c_begins hM g220) lX12_189 mX12_begins vX12_begins (im_mo_ hM) k_mo_ rfl rfl rfl (by decide) ⟨Nat.zero_le _, Nat.zero_le _⟩ (Nat.le_of_ble_eq_true rfl) (k_v (fun h224 q224 => ?_))
                            obtain ⟨f224, s224, l224, m224, i224⟩ := q224
                            refine pw_iconst (pc := 227) dX12_road_227 ?_
                            exact pw_iret (pc := 228) dX12_road_228 (by first | omega) (by
                                      have p := prs_F p21 afr
                                      have gm : ∀ j, j ≠ 18 → g220 mo_ j = hq mo_ j := fun j hj => by rw [e220, up_at, if_neg hj, cf mo_ (by decide), bf mo_ (by decide), kf mo_ (by decide)]
                                      have gr : g220 mRoads = ka mRoads := by rw [e220, up_off (by decide), cf mRoads (by decide), bf mRoads (by decide)]
                                      have hr : h224 mRoads = ka mRoads := by rw [f224 mRoads (by decide), gr]
                                      have ho : h224 mOp = kb mOp ∧ h224 mArg = kb mArg := by rw [f224 mOp (by decide), f224 mArg (by decide), e220, up_off (by decide), up_off (by decide), cf mOp (by decide), cf mArg (by decide)]; exact ⟨rfl, rfl⟩
                                      have hm : ∀ j, j ≠ 28 → h224 mo_ j = g220 mo_ j := fun j hj => by rw [m224]; unfold ob_; rw [if_neg hj]
                                      have fo : off_ OL_ h h224 := off_tr (off_tr (off_tr (off_tr (off_mo p.1 (by decide)) (off_mo kf (by decide))) (off_mo bf (by decide))) (off_mo cf (by decide))) (off_tr (by rw [e220]; exact off_up off_rf (by decide)) (off_mo f224 (by decide)))
                                      have sq : g220 mState = h mState := by rw [e220, up_off (by decide), cf mState (by decide), bf mState (by decide), kf mState (by decide), p.1 mState (by decide)]
                                      have lq : g220 mLines = h mLines := by rw [e220, up_off (by decide), cf mLines (by decide), bf mLines (by decide), kf mLines (by decide), p.1 mLines (by decide)]
                                      obtain ⟨Z1, Z2, Z3, Z4, Z5, Z6, Z7, Z8⟩ := z2
                                      have opc : ∀ x, 0 ≤ x → x < hq mo_ 13 → h224 mOp x = hq mOp (1100 + x) ∧ h224 mArg x = hq mArg (1100 + x) := fun x x0 x1 => by rw [ho.1, ho.2]; exact br.1 x x0 (by omega)
                                      have rk : ∀ j, 0 ≤ j → j < 80 → h224 mRoads j = hq mRoads (80 + j) := fun j j0 j1 => by rw [hr]; exact kr.1 j j0 (by omega)
                                      refine ⟨?_, ?_, ?_⟩
                                      · rw [z1]
                                        refine ⟨rfl, fo, fun j j0 j2 j3 j7 j8 j13 j18 j19 j20 j21 j22 j28 => by rw [hm j j28, gm j j18]; exact p.2.1 j j0 j2 j3 j7 j8 j13 j19 j20 j21 j22, ⟨fun j j0 j1 j9 => by rw [rk j j0 j1]; exact Z2 j j0 j1 j9, ?_, ?_, fun j hj => ?_, Z8⟩, ?_, by rw [l224, lq], ?_, i224⟩
                                        · obtain ⟨N1, N2, N3⟩ := Z3
                                          refine ⟨by rw [hm 18 (by decide), e220, up_same, c19], N2, fun i hi => ?_⟩
                                          have c9 := cr (i : Int) (by omega) (by omega)
                                          rw [f224 mNames (by decide), f224 mNameOf (by decide), e220, up_off (by decide), up_off (by decide), c9.1, c9.2]
                                          exact N3 i hi
                                        · have r5 := rk 5 (by decide) (by decide)
                                          have r5 : h224 mRoads 5 = hq mRoads 85 := r5
                                          cases hW : Z.2.2.1 with
                                          | none => rw [hW] at Z4; show h224 mRoads 5 = -1; rw [r5]; exact Z4
                                          | some P =>
                                            rw [hW] at Z4
                                            have Z4 : lwr_ hq (hq mRoads 85) P := Z4
                                            show 0 ≤ h224 mRoads 5 ∧ law2_ (h224 mOp) (h224 mArg) (h224 mRoads 5) P
                                            rw [r5]
                                            exact ⟨Z4.1, law_sh Z4 (Z8.2.2.2.2.2.2.1 P hW) (by omega) opc⟩
                                        · have q3 := Z8.1.2.2.2.1
                                          have q4 := Z8.2.2.2.2.1.2.1
                                          have rj := rk (6 + (j : Int)) (by omega) (by omega)
                                          rw [rj, show (80 : Int) + (6 + (j : Int)) = 86 + (j : Int) by omega]
                                          refine law_sh (Z5 j hj) (Z8.2.2.2.2.2.2.2 _ ?_) (by omega) opc
                                          rw [List.getD_eq_getElem?_getD, List.getElem?_eq_getElem hj]
                                          exact List.getElem_mem hj
                                        · rw [s224, hr, gr, sq]
                                        · rw [m224]; unfold ob_; rw [if_pos rfl]
                                      · rw [hm 0 (by decide), gm 0 (by decide), afr.2.1 0 (by decide) (by decide) (by decide) (by decide) (by decide) (by decide) (by decide)]; exact z21.1
                                      · rw [hm 2 (by decide), gm 2 (by decide), afr.2.1 2 (by decide) (by decide) (by decide) (by decide) (by decide) (by decide) (by decide)]; exact z21.2)
                          · refine pw_aload_n (z := mo_) (pc := 185) dX12_road_185 rfl rfl ?_
                            refine pw_getR (r := mNames) (pc := 186) dX12_road_186 fX12_106 (im_mo_ hM) k_mo_ rfl fr_mNames ?_
                            refine pw_iload_n (z := k) (pc := 189) dX12_road_189 rfl rfl ?_
                            refine pw_aload_n (z := mo_) (pc := 190) dX12_road_190 rfl rfl ?_
                            refine pw_getR (r := mReadNames) (pc := 191) dX12_road_191 fX12_109 (im_mo_ hM) k_mo_ rfl fr_mReadNames ?_
                            refine pw_iload_n (z := k) (pc := 194) dX12_road_194 rfl rfl ?_
                            refine pw_lald (pc := 195) dX12_road_195 (im_mReadNames hM) k_mReadNames 8 l_mReadNames (by first | omega) (by first | omega) (by first | omega) (fun r195 => ?_)
                            refine pw_last (pc := 196) dX12_road_196 (im_mNames hM) k_mNames 8 l_mNames (by first | omega) (by first | omega) (by first | omega) (by first | omega) ?_
                            obtain ⟨g196, e196⟩ : ∃ x, x = up_ kc mNames k (kc mReadNames k) := ⟨_, rfl⟩
                            refine pw_heq e196 ?_
                            refine pw_aload_n (z := mo_) (pc := 197) dX12_road_197 rfl rfl ?_
                            refine pw_getR (r := mNameOf) (pc := 198) dX12_road_198 fX12_112 (im_mo_ hM) k_mo_ rfl fr_mNameOf ?_
                            refine pw_iload_n (z := k) (pc := 201) dX12_road_201 rfl rfl ?_
                            refine pw_aload_n (z := mo_) (pc := 202) dX12_road_202 rfl rfl ?_
                            refine pw_getR (r := mReadNameOf) (pc := 203) dX12_road_203 fX12_115 (im_mo_ hM) k_mo_ rfl fr_mReadNameOf ?_
                            refine pw_iload_n (z := k) (pc := 206) dX12_road_206 rfl rfl ?_
                            refine pw_iald (pc := 207) dX12_road_207 (im_mReadNameOf hM) k_mReadNameOf 8 l_mReadNameOf (by first | omega) (by first | omega) (by first | omega) (fun r207 => ?_)
                            have n_g196_mReadNameOf : g196 mReadNameOf = kc mReadNameOf := (by rw [e196]; exact up_off (by decide))
                            rw [n_g196_mReadNameOf] at r207 ⊢
                            refine pw_iast (pc := 208) dX12_road_208 (im_mNameOf hM) k_mNameOf 8 l_mNameOf (by first | omega | (simp only [n_g196_mReadNameOf]; omega)) (by first | omega | (simp only [n_g196_mReadNameOf]; omega)) (by first | omega | (simp only [n_g196_mReadNameOf]; omega)) (by first | omega | (simp only [n_g196_mReadNameOf]; omega)) ?_
                            obtain ⟨g208, e208⟩ : ∃ x, x = up_ g196 mNameOf k (kc mReadNameOf k) := ⟨_, rfl⟩
                            refine pw_heq e208 ?_
                            refine pw_iinc (z := k) (lv1 := [some (rr_ G mo_), some (ii_ (k + 1))]) (pc := 209) dX12_road_209 rfl (by decide) rfl rfl ?_
                            refine pw_goto (t := 177) (pc := 212) dX12_road_212 (by decide) ?_
                            exact ih177 _ _ (by omega) (by rw [e208, e196]; exact off_up (off_up cf (by decide)) (by decide)) (fun x x0 x1 => by
                                      rw [e208, up_off (by decide), up_at, e196, up_at, up_off (by decide)]
                                      by_cases c : x = k
                                      · rw [if_pos c, if_pos c, c, cf mReadNames (by decide), cf mReadNameOf (by decide), bf mReadNames (by decide), bf mReadNameOf (by decide), kf mReadNames (by decide), kf mReadNameOf (by decide)]; exact ⟨rfl, rfl⟩
                                      · rw [if_neg c, if_neg c]; exact cr x x0 (by omega)) (by omega)
                      exact L177 _ _ _ (by omega) (off_rf) (fun x _ _ => by omega) (Int.self_le_toNat _)
                    · refine pw_aload_n (z := mo_) (pc := 137) dX12_road_137 rfl rfl ?_
                      refine pw_getR (r := mOp) (pc := 138) dX12_road_138 fX12_100 (im_mo_ hM) k_mo_ rfl fr_mOp ?_
                      refine pw_iload_n (z := k) (pc := 141) dX12_road_141 rfl rfl ?_
                      refine pw_aload_n (z := mo_) (pc := 142) dX12_road_142 rfl rfl ?_
                      refine pw_getR (r := mOp) (pc := 143) dX12_road_143 fX12_100 (im_mo_ hM) k_mo_ rfl fr_mOp ?_
                      refine pw_sipush (pc := 146) dX12_road_146 rfl ?_
                      refine pw_iload_n (z := k) (pc := 149) dX12_road_149 rfl rfl ?_
                      refine pw_iadd (pc := 150) dX12_road_150 ?_
                      refine pw_iald (pc := 151) dX12_road_151 (im_mOp hM) k_mOp 2200 l_mOp (by first | omega) (by first | omega) (by first | omega) (fun r151 => ?_)
                      refine pw_iast (pc := 152) dX12_road_152 (im_mOp hM) k_mOp 2200 l_mOp (by first | omega) (by first | omega) (by first | omega) (by first | omega) ?_
                      obtain ⟨g152, e152⟩ : ∃ x, x = up_ kb mOp k (kb mOp (1100 + k)) := ⟨_, rfl⟩
                      refine pw_heq e152 ?_
                      refine pw_aload_n (z := mo_) (pc := 153) dX12_road_153 rfl rfl ?_
                      refine pw_getR (r := mArg) (pc := 154) dX12_road_154 fX12_103 (im_mo_ hM) k_mo_ rfl fr_mArg ?_
                      refine pw_iload_n (z := k) (pc := 157) dX12_road_157 rfl rfl ?_
                      refine pw_aload_n (z := mo_) (pc := 158) dX12_road_158 rfl rfl ?_
                      refine pw_getR (r := mArg) (pc := 159) dX12_road_159 fX12_103 (im_mo_ hM) k_mo_ rfl fr_mArg ?_
                      refine pw_sipush (pc := 162) dX12_road_162 rfl ?_
                      refine pw_iload_n (z := k) (pc := 165) dX12_road_165 rfl rfl ?_
                      refine pw_iadd (pc := 166) dX12_road_166 ?_
                      refine pw_iald (pc := 167) dX12_road_167 (im_mArg hM) k_mArg 2200 l_mArg (by first | omega) (by first | omega) (by first | omega) (fun r167 => ?_)
                      have n_g152_mArg : g152 mArg = kb mArg := (by rw [e152]; exact up_off (by decide))
                      rw [n_g152_mArg] at r167 ⊢
                      refine pw_iast (pc := 168) dX12_road_168 (im_mArg hM) k_mArg 2200 l_mArg (by first | omega | (simp only [n_g152_mArg]; omega)) (by first | omega | (simp only [n_g152_mArg]; omega)) (by first | omega | (simp only [n_g152_mArg]; omega)) (by first | omega | (simp only [n_g152_mArg]; omega)) ?_
                      obtain ⟨g168, e168⟩ : ∃ x, x = up_ g152 mArg k (kb mArg (1100 + k)) := ⟨_, rfl⟩
                      refine pw_heq e168 ?_
                      refine pw_iinc (z := k) (lv1 := [some (rr_ G mo_), some (ii_ (k + 1))]) (pc := 169) dX12_road_169 rfl (by decide) rfl rfl ?_
                      refine pw_goto (t := 129) (pc := 172) dX12_road_172 (by decide) ?_
                      exact ih129 _ _ (by omega) (by rw [e168, e152]; exact off_up (off_up bf (by decide)) (by decide)) (⟨fun x x0 x1 => by
                                rw [e168, up_off (by decide), up_at, e152, up_at, up_off (by decide)]
                                have b2 := br.2 (1100 + k) (by omega)
                                by_cases c : x = k
                                · rw [if_pos c, if_pos c, c, b2.1, b2.2]; exact ⟨rfl, rfl⟩
                                · rw [if_neg c, if_neg c]; exact br.1 x x0 (by omega), fun x hx => by
                                rw [e168, up_off (by decide), up_at, if_neg (by omega), e152, up_at, if_neg (by omega), up_off (by decide)]; exact br.2 x hx⟩) (by omega)
                exact L129 _ _ _ (by omega) (off_rf) (⟨fun x _ _ => by omega, fun x _ => by rw [kf mOp (by decide), kf mArg (by decide)]; exact ⟨rfl, rfl⟩⟩) (Int.self_le_toNat _)
              · refine pw_aload_n (z := mo_) (pc := 106) dX12_road_106 rfl rfl ?_
                refine pw_getR (r := mRoads) (pc := 107) dX12_road_107 fX12_97 (im_mo_ hM) k_mo_ rfl fr_mRoads ?_
                refine pw_iload_n (z := k) (pc := 110) dX12_road_110 rfl rfl ?_
                refine pw_aload_n (z := mo_) (pc := 111) dX12_road_111 rfl rfl ?_
                refine pw_getR (r := mRoads) (pc := 112) dX12_road_112 fX12_97 (im_mo_ hM) k_mo_ rfl fr_mRoads ?_
                refine pw_bipush (pc := 115) dX12_road_115 rfl ?_
                refine pw_iload_n (z := k) (pc := 117) dX12_road_117 rfl rfl ?_
                refine pw_iadd (pc := 118) dX12_road_118 ?_
                refine pw_iald (pc := 119) dX12_road_119 (im_mRoads hM) k_mRoads 160 l_mRoads (by first | omega) (by first | omega) (by first | omega) (fun r119 => ?_)
                refine pw_iast (pc := 120) dX12_road_120 (im_mRoads hM) k_mRoads 160 l_mRoads (by first | omega) (by first | omega) (by first | omega) (by first | omega) ?_
                obtain ⟨g120, e120⟩ : ∃ x, x = up_ ka mRoads k (ka mRoads (80 + k)) := ⟨_, rfl⟩
                refine pw_heq e120 ?_
                refine pw_iinc (z := k) (lv1 := [some (rr_ G mo_), some (ii_ (k + 1))]) (pc := 121) dX12_road_121 rfl (by decide) rfl rfl ?_
                refine pw_goto (t := 100) (pc := 124) dX12_road_124 (by decide) ?_
                exact ih100 _ _ (by omega) (by rw [e120]; exact off_up kf (by decide)) (⟨fun x x0 x1 => by rw [e120, up_at]; by_cases c : x = k; exact (by rw [if_pos c, c]; exact kr.2 _ (by omega)); exact (by rw [if_neg c]; exact kr.1 x x0 (by omega)), fun x hx => by rw [e120, up_at, if_neg (by omega)]; exact kr.2 x hx⟩) (by omega)
          exact L100 _ _ _ (by omega) (off_rf) (⟨fun x _ _ => by omega, fun _ _ => rfl⟩) (Int.self_le_toNat _)
        · refine pw_aload_n (z := mo_) (pc := 93) dX12_road_93 rfl rfl ?_
          refine pw_gI (x := 8) (pc := 94) dX12_road_94 fX12_218 (im_mo_ hM) k_mo_ rfl rfl (fun r94 => ?_)
          exact pw_iret (pc := 97) dX12_road_97 (by first | omega) (by
                    have p := prs_F p21 afr
                    refine ⟨?_, by rw [afr.2.1 0 (by decide) (by decide) (by decide) (by decide) (by decide) (by decide) (by decide)]; exact z21.1, by rw [afr.2.1 2 (by decide) (by decide) (by decide) (by decide) (by decide) (by decide) (by decide)]; exact z21.2⟩
                    rcases ast with ⟨Z, a, fu, z1, z2, z3⟩ | ⟨e, u1, u2⟩
                    · exfalso; have := z2.1.2.2.2; omega
                    · rw [u1]; exact ⟨u2.2.2.1, u2.2.2.2.1, p⟩)
      refine pw_aload_n (z := mo_) (pc := 54) dX12_road_54 rfl rfl ?_
      refine pw_gI (x := 8) (pc := 55) dX12_road_55 fX12_218 (im_mo_ hM) k_mo_ rfl rfl (fun r55 => ?_)
      refine pw_if_ne (t := 86) (pc := 58) dX12_road_58 (by decide) (by first | omega) (fun c58 => ?_) (fun c58 => ?_)
      · exact J86  (by first | exact Or.inl c58 | exact Or.inr c70)
      · obtain ⟨Z, a, fu, z1, z2, z3⟩ : ∃ (Z : ZT_) (a fu : Nat), rod_ (tk_ (h mTape) (h mo_ 2)) = rlp_ (tk_ (h mTape) (h mo_ 2)) fu Z a ∧ ZR_ (tk_ (h mTape) (h mo_ 2)) N Z hq a ∧ N < fu + a := by
          rcases ast with u | ⟨e, u1, u2⟩
          · exact u
          · exfalso; have := u2.2.2; omega
        have ts : hq mSort (hq mo_ 7) = ((tk_ (h mTape) (h mo_ 2)) a).1 := by rw [z2.1.2.1]; exact (z2.1.1.1.1 a z2.1.2.2.1).1
        refine pw_aload_n (z := mo_) (pc := 61) dX12_road_61 rfl rfl ?_
        refine pw_getR (r := mSort) (pc := 62) dX12_road_62 fX12_24 (im_mo_ hM) k_mo_ rfl fr_mSort ?_
        refine pw_aload_n (z := mo_) (pc := 65) dX12_road_65 rfl rfl ?_
        refine pw_gI (x := 7) (pc := 66) dX12_road_66 fX12_215 (im_mo_ hM) k_mo_ rfl rfl (fun r66 => ?_)
        refine pw_iald (pc := 69) dX12_road_69 (im_mSort hM) k_mSort 1002 l_mSort (by first | omega) (by first | omega) (by first | omega) (fun r69 => ?_)
        refine pw_if_eq (t := 86) (pc := 70) dX12_road_70 (by decide) (by first | omega) (fun c70 => ?_) (fun c70 => ?_)
        · exact J86  (by first | exact Or.inl c58 | exact Or.inr c70)
        · have nz : ¬ ((tk_ (h mTape) (h mo_ 2)) a).1 = 0 := by rw [← ts]; exact c70
          have bn : a ≠ N := fun e => nz (by rw [e]; exact hN.2.2.1)
          have an := z2.1.2.2.1
          obtain ⟨fv, rfl⟩ : ∃ fv, fu = fv + 1 := ⟨fu - 1, by omega⟩
          refine pw_aload_n (z := mo_) (pc := 73) dX12_road_73 rfl rfl ?_
          refine pw_callV (c := 12) (o := mo_) (As := []) (rest := []) (pc := 74) dX12_road_74 (c_readLine hM hq (tk_ (h mTape) (h mo_ 2)) N Z a z2) lX12_262 mX12_readLine vX12_readLine (im_mo_ hM) k_mo_ rfl rfl rfl (by decide) ⟨Nat.zero_le _, Nat.zero_le _⟩ (Nat.le_of_ble_eq_true rfl) (k_v (fun h74 q74 => ?_))
          obtain ⟨f74, r74⟩ := q74
          have s74 : (0 ≤ h74 mo_ 7 ∧ h74 mo_ 7 ≤ N) ∧ (0 ≤ h74 mPlace (h74 mo_ 7) ∧ h74 mPlace (h74 mo_ 7) ≤ 1000) := by
            cases hx : lin_ (tk_ (h mTape) (h mo_ 2)) Z a with
            | error e => rw [hx] at r74; have q := RP_7 (X := .error e) r74; exact ⟨q.1, q.2.2.1⟩
            | ok q => rw [hx] at r74; have r74 : ZR_ (tk_ (h mTape) (h mo_ 2)) N q.1 h74 q.2 := r74; have w := RP_7 (X := .ok q.2) r74.1; exact ⟨w.1, w.2.2.1⟩
          have l74 : ∀ q, lin_ (tk_ (h mTape) (h mo_ 2)) Z a = .ok q → a < q.2 := fun q hx => by
            rw [hx] at r74
            have r74 : ZR_ (tk_ (h mTape) (h mo_ 2)) N q.1 h74 q.2 := r74
            exact lin_z (tk_wf htb.1) z2.2.2.2.2.2.2.2 hx (by have := r74.1.2.2.1; omega)
          refine pw_aload_n (z := mo_) (pc := 77) dX12_road_77 rfl rfl ?_
          refine pw_bipush (pc := 78) dX12_road_78 rfl ?_
          refine pw_callV (c := 12) (o := mo_) (As := [ii_ 59]) (rest := []) (pc := 80) dX12_road_80 (c_takeSign hM h74 (by first | omega) (by first | omega) 59 (by first | omega)) lX12_259 mX12_takeSign vX12_takeSign (im_mo_ hM) k_mo_ rfl rfl rfl (by decide) ⟨Nat.zero_le _, Nat.zero_le _⟩ (Nat.le_of_ble_eq_true rfl) (k_v (fun h80 q80 => ?_))
          have ps : ∀ X, RP_ (tk_ (h mTape) (h mo_ 2)) N h74 X → fr7_ h74 h80 ∧ RP_ (tk_ (h mTape) (h mo_ 2)) N h80 (bd_ X (tks2_ (tk_ (h mTape) (h mo_ 2)) 59)) := fun X H => P_sign H q80
          have f80 : fr7_ h74 h80 := by
            cases hx : lin_ (tk_ (h mTape) (h mo_ 2)) Z a with
            | error e => rw [hx] at r74; exact (ps (.error e) r74).1
            | ok q => rw [hx] at r74; have r74 : ZR_ (tk_ (h mTape) (h mo_ 2)) N q.1 h74 q.2 := r74; exact (ps (.ok q.2) r74.1).1
          obtain ⟨st2, dm⟩ := rst2_go z1 nz z2 (by omega) r74 l74 f80 (fun X H => (ps X H).2)
          have am2 := am.2 (by omega)
          have a7 := z2.1.2.1
          refine pw_goto (t := 54) (pc := 83) dX12_road_83 (by decide) ?_
          exact ih54 (mm - 1) _ (FRL_tr (FRL_tr afr f74) (FRL_7 f80)) (st2) (by omega) (by omega)
  exact L54 _ ((N : Int) + 2) _ (F51) (st0) (by omega) (Int.self_le_toNat _)

