set_option maxHeartbeats 4000000 in
set_option maxRecDepth 100000 in
theorem c_shares {G : GT_} (hM : okM_ G) (h : PH_) (ht : tpo_ (h mTape, h mo_ 2)) (hws : wds_ h) (hS : 2 ≤ h mRoads 0 ∧ h mRoads 0 ≤ 4) (hR : 0 ≤ h mRoads 2 ∧ h mRoads 2 ≤ h mRoads 0) (hsh : (∀ k, 0 ≤ k → k < 16 → 0 ≤ h mReadShares k ∧ h mReadShares k ≤ 99)) : PC G yX12_shares cX12_shares 3 (some .int) 6 [rr_ G mo_] h (qi_ (fun z h' => (off_ [mSort, mPlace, mValue, mReadShares, mState, mo_] h h' ∧ (∀ k, k ≠ 0 → k ≠ 2 → k ≠ 3 → k ≠ 7 → k ≠ 8 → h' mo_ k = h mo_ k)) ∧ SO_ (h mRoads 0) (h mRoads 2) h z h' (shr_ (tk_ (h mTape) (h mo_ 2)) (h mRoads 0) (h mRoads 2)) ∧ h' mo_ 0 = 0 ∧ h' mo_ 2 = 0 ∧ (∀ k, 0 ≤ k → k < 16 → 0 ≤ h' mReadShares k ∧ h' mReadShares k ≤ 99))) := by
  have htb : 0 ≤ h mo_ 2 ∧ h mo_ 2 ≤ 1000 := ht.1
  refine PC.of (lv := [some (rr_ G mo_), none, none]) (by decide +kernel) (Nat.le_of_ble_eq_true rfl) rfl rfl ?_
  refine pw_aload_n (z := mo_) (pc := 0) dX12_shares_0 rfl rfl ?_
  refine pw_iconst (pc := 1) dX12_shares_1 ?_
  refine pw_pI (x := 0) (pc := 2) dX12_shares_2 fX12_1 (im_mo_ hM) k_mo_ rfl rfl (by first | omega) ?_
  obtain ⟨g2, e2⟩ : ∃ x, x = up_ h mo_ 0 0 := ⟨_, rfl⟩
  refine pw_heq e2 ?_
  have k2 : (g2 mTape, g2 mo_ 2) = (h mTape, h mo_ 2) := by rw [e2, up_off (by decide), up_at, if_neg (by decide)]
  refine pw_aload_n (z := mo_) (pc := 5) dX12_shares_5 rfl rfl ?_
  refine pw_callV (c := 12) (o := mo_) (As := []) (rest := []) (pc := 6) dX12_shares_6 (c_cutAll hM g2 (by rw [k2]; exact ht)) lX12_249 mX12_cutAll vX12_cutAll (im_mo_ hM) k_mo_ rfl rfl rfl (by decide) ⟨Nat.zero_le _, Nat.zero_le _⟩ (Nat.le_of_ble_eq_true rfl) (k_v (fun h6 q6 => ?_))
  obtain ⟨f6, o6, t6, a6, b6, N, hN⟩ := q6
  have k3 : g2 mTape = h mTape ∧ g2 mo_ 2 = h mo_ 2 := by rw [e2, up_off (by decide), up_at, if_neg (by decide)]; exact ⟨rfl, rfl⟩
  rw [k3.1, k3.2] at hN
  have N1 := hN.2.2.2.1
  have p6 : prj_ mReadShares h h6 ∧ h6 mo_ 0 = 0 ∧ h6 mo_ 2 = 0 ∧ (∀ k, 0 ≤ k → k < 16 → 0 ≤ h6 mReadShares k ∧ h6 mReadShares k ≤ 99) := ⟨⟨off_tr (by rw [e2]; exact off_up off_rf (by decide)) (off_mo f6 (by decide)), fun k k0 k2 k3 k7 k8 => by rw [o6 k k2 k3 k7 k8, e2, up_at, if_neg k0]⟩, by rw [o6 0 (by decide) (by decide) (by decide) (by decide), e2, up_same], t6, by rw [f6 mReadShares (by decide), e2, up_off (by decide)]; exact hsh⟩
  have st0 : (∃ (a : Nat) (f : Int → Int), (srl_ (tk_ (h mTape) (h mo_ 2)) (h mRoads 0) (h mRoads 2).toNat 0 0 (fun _ => 0)) = srl_ (tk_ (h mTape) (h mo_ 2)) (h mRoads 0) ((h mRoads 2) - 0).toNat 0 a f ∧ RPO_ (tk_ (h mTape) (h mo_ 2)) N h6 a ∧ shA_ (h6 mReadShares) f (h mRoads 0) 0 0) ∨ (∃ e, (srl_ (tk_ (h mTape) (h mo_ 2)) (h mRoads 0) (h mRoads 2).toNat 0 0 (fun _ => 0)) = .error e ∧ RPE_ (tk_ (h mTape) (h mo_ 2)) N h6 e) := Or.inl ⟨0, fun _ => 0, by rw [Int.sub_zero], ⟨⟨hN, fun w hw => by rw [f6 mWords (by decide), e2, up_off (by decide)]; exact hws w hw, tk_wf htb.1⟩, a6, Nat.zero_le _, b6⟩, fun i j i0 j0 j1 h => by omega⟩
  refine pw_iconst (pc := 9) dX12_shares_9 ?_
  refine pw_istore_n (lv1 := [some (rr_ G mo_), some (ii_ 0), none]) (pc := 10) dX12_shares_10 rfl (by decide) rfl rfl ?_
  have L11 : ∀ (nn : Nat) (r : Int) (hq : PH_), (0 ≤ r ∧ r ≤ h mRoads 2) → (prj_ mReadShares h hq ∧ hq mo_ 0 = 0 ∧ hq mo_ 2 = 0 ∧ (∀ k, 0 ≤ k → k < 16 → 0 ≤ hq mReadShares k ∧ hq mReadShares k ≤ 99)) → ((∃ (a : Nat) (f : Int → Int), (srl_ (tk_ (h mTape) (h mo_ 2)) (h mRoads 0) (h mRoads 2).toNat 0 0 (fun _ => 0)) = srl_ (tk_ (h mTape) (h mo_ 2)) (h mRoads 0) ((h mRoads 2) - r).toNat r a f ∧ RPO_ (tk_ (h mTape) (h mo_ 2)) N hq a ∧ shA_ (hq mReadShares) f (h mRoads 0) r 0) ∨ (∃ e, (srl_ (tk_ (h mTape) (h mo_ 2)) (h mRoads 0) (h mRoads 2).toNat 0 0 (fun _ => 0)) = .error e ∧ RPE_ (tk_ (h mTape) (h mo_ 2)) N hq e)) → ((h mRoads 2 - r + 1 : Int) ≤ nn) → PW G RX12 cX12_shares 3 (some .int) (rm_ 6) 0 0 (zm_ G (qi_ (fun z h' => (off_ [mSort, mPlace, mValue, mReadShares, mState, mo_] h h' ∧ (∀ k, k ≠ 0 → k ≠ 2 → k ≠ 3 → k ≠ 7 → k ≠ 8 → h' mo_ k = h mo_ k)) ∧ SO_ (h mRoads 0) (h mRoads 2) h z h' (shr_ (tk_ (h mTape) (h mo_ 2)) (h mRoads 0) (h mRoads 2)) ∧ h' mo_ 0 = 0 ∧ h' mo_ 2 = 0 ∧ (∀ k, 0 ≤ k → k < 16 → 0 ≤ h' mReadShares k ∧ h' mReadShares k ≤ 99)))) 11 [some (rr_ G mo_), some (ii_ r), none] [] hq := by
    intro nn
    induction nn with
    | zero => intro r hq ak apr ast ams; exfalso; omega
    | succ nn ih11 =>
      intro r hq ak apr ast ams
      have nr : hq mRoads = h mRoads := apr.1.1 mRoads (by decide)
      have s8 : (0 ≤ hq mo_ 8 ∧ hq mo_ 8 < 2147483648) ∧ (0 ≤ hq mo_ 7 ∧ hq mo_ 7 ≤ N) := by
        rcases ast with ⟨a, f, u1, u2, u3⟩ | ⟨e, u1, u2⟩
        · have q := RP_7 (X := .ok a) u2; exact ⟨q.2.2.2.2, q.1⟩
        · have q := RP_7 (X := .error e) u2; exact ⟨q.2.2.2.2, q.1⟩
      have n20 : hq mRoads 2 = h mRoads 2 := by rw [nr]
      have J84 : (¬ r < h mRoads 2 ∨ ¬ hq mo_ 8 = 0) → PW G RX12 cX12_shares 3 (some .int) (rm_ 6) 0 0 (zm_ G (qi_ (fun z h' => (off_ [mSort, mPlace, mValue, mReadShares, mState, mo_] h h' ∧ (∀ k, k ≠ 0 → k ≠ 2 → k ≠ 3 → k ≠ 7 → k ≠ 8 → h' mo_ k = h mo_ k)) ∧ SO_ (h mRoads 0) (h mRoads 2) h z h' (shr_ (tk_ (h mTape) (h mo_ 2)) (h mRoads 0) (h mRoads 2)) ∧ h' mo_ 0 = 0 ∧ h' mo_ 2 = 0 ∧ (∀ k, 0 ≤ k → k < 16 → 0 ≤ h' mReadShares k ∧ h' mReadShares k ≤ 99)))) 84 [some (rr_ G mo_), some (ii_ r), none] [] hq := by
        intro hx
        have xx : (∃ (a : Nat) (f : Int → Int), (srl_ (tk_ (h mTape) (h mo_ 2)) (h mRoads 0) (h mRoads 2).toNat 0 0 (fun _ => 0)) = .ok (f, a) ∧ RPO_ (tk_ (h mTape) (h mo_ 2)) N hq a ∧ shA_ (hq mReadShares) f (h mRoads 0) (h mRoads 2) 0) ∨ (∃ e, (srl_ (tk_ (h mTape) (h mo_ 2)) (h mRoads 0) (h mRoads 2).toNat 0 0 (fun _ => 0)) = .error e ∧ RPE_ (tk_ (h mTape) (h mo_ 2)) N hq e) := by
          rcases ast with ⟨a, f, u1, u2, u3⟩ | u
          · have r0 : r = (h mRoads 2) := by
              rcases hx with x | x
              · omega
              · exfalso; have := u2.2.2.2; omega
            rw [show ((h mRoads 2) - r).toNat = 0 by omega] at u1
            rw [r0] at u3
            exact Or.inl ⟨a, f, u1, u2, u3⟩
          · exact Or.inr u
        have J108 : ∀ (hc : PH_), ((∃ f, shr_ (tk_ (h mTape) (h mo_ 2)) (h mRoads 0) (h mRoads 2) = .ok f ∧ shA_ (hc mReadShares) f (h mRoads 0) (h mRoads 2) 0 ∧ hc mo_ 8 = 0) ∨ (∃ e, shr_ (tk_ (h mTape) (h mo_ 2)) (h mRoads 0) (h mRoads 2) = .error e ∧ hc mo_ 8 = e ∧ 0 < e)) → (fr7_ hq hc) → PW G RX12 cX12_shares 3 (some .int) (rm_ 6) 0 0 (zm_ G (qi_ (fun z h' => (off_ [mSort, mPlace, mValue, mReadShares, mState, mo_] h h' ∧ (∀ k, k ≠ 0 → k ≠ 2 → k ≠ 3 → k ≠ 7 → k ≠ 8 → h' mo_ k = h mo_ k)) ∧ SO_ (h mRoads 0) (h mRoads 2) h z h' (shr_ (tk_ (h mTape) (h mo_ 2)) (h mRoads 0) (h mRoads 2)) ∧ h' mo_ 0 = 0 ∧ h' mo_ 2 = 0 ∧ (∀ k, 0 ≤ k → k < 16 → 0 ≤ h' mReadShares k ∧ h' mReadShares k ≤ 99)))) 108 [some (rr_ G mo_), some (ii_ r), none] [] hc := by
          intro hc hcc fc
          have c8 : 0 ≤ hc mo_ 8 := by
            rcases hcc with ⟨f, x1, x2, x3⟩ | ⟨e, x1, x2, x3⟩ <;> omega
          have cpr : prj_ mReadShares h hc ∧ hc mo_ 0 = 0 ∧ hc mo_ 2 = 0 ∧ (∀ k, 0 ≤ k → k < 16 → 0 ≤ hc mReadShares k ∧ hc mReadShares k ≤ 99) := ⟨prj_7 apr.1 fc, by rw [fc.2 0 (by decide) (by decide)]; exact apr.2.1, by rw [fc.2 2 (by decide) (by decide)]; exact apr.2.2.1, by rw [fc.1 mReadShares (by decide)]; exact apr.2.2.2⟩
          refine pw_aload_n (z := mo_) (pc := 108) dX12_shares_108 rfl rfl ?_
          refine pw_gI (x := 8) (pc := 109) dX12_shares_109 fX12_218 (im_mo_ hM) k_mo_ rfl rfl (fun r109 => ?_)
          refine pw_if_le (t := 120) (pc := 112) dX12_shares_112 (by decide) (by first | omega) (fun c112 => ?_) (fun c112 => ?_)
          · obtain ⟨f, y1, y2⟩ : ∃ f, shr_ (tk_ (h mTape) (h mo_ 2)) (h mRoads 0) (h mRoads 2) = .ok f ∧ shA_ (hc mReadShares) f (h mRoads 0) (h mRoads 2) 0 := by
              rcases hcc with u | ⟨e, v1, v2⟩
              · exact ⟨u.choose, u.choose_spec.1, u.choose_spec.2.1⟩
              · exfalso; omega
            refine pw_aload_n (z := mo_) (pc := 120) dX12_shares_120 rfl rfl ?_
            refine pw_getR (r := mState) (pc := 121) dX12_shares_121 fX12_130 (im_mo_ hM) k_mo_ rfl fr_mState ?_
            refine pw_bipush (pc := 124) dX12_shares_124 rfl ?_
            refine pw_iconst (pc := 126) dX12_shares_126 ?_
            refine pw_iast (pc := 127) dX12_shares_127 (im_mState hM) k_mState 1760 l_mState (by first | omega) (by first | omega) (by first | omega) (by first | omega) ?_
            obtain ⟨g127, e127⟩ : ∃ x, x = up_ hc mState 13 1 := ⟨_, rfl⟩
            refine pw_heq e127 ?_
            refine pw_iconst (pc := 128) dX12_shares_128 ?_
            refine pw_istore_n (lv1 := [some (rr_ G mo_), some (ii_ 0), none]) (pc := 129) dX12_shares_129 rfl (by decide) rfl rfl ?_
            have L130 : ∀ (nn : Nat) (k : Int) (kc : PH_), (0 ≤ k ∧ k ≤ 16) → (off_ [mState] hc kc) → (kc mState 13 = 1 ∧ (∀ x, 0 ≤ x → x < k → kc mState (14 + x) = hc mReadShares x) ∧ (∀ x, x < 13 ∨ 30 ≤ x → kc mState x = hc mState x)) → ((16 - k + 1 : Int) ≤ nn) → PW G RX12 cX12_shares 3 (some .int) (rm_ 6) 0 0 (zm_ G (qi_ (fun z h' => (off_ [mSort, mPlace, mValue, mReadShares, mState, mo_] h h' ∧ (∀ k, k ≠ 0 → k ≠ 2 → k ≠ 3 → k ≠ 7 → k ≠ 8 → h' mo_ k = h mo_ k)) ∧ SO_ (h mRoads 0) (h mRoads 2) h z h' (shr_ (tk_ (h mTape) (h mo_ 2)) (h mRoads 0) (h mRoads 2)) ∧ h' mo_ 0 = 0 ∧ h' mo_ 2 = 0 ∧ (∀ k, 0 ≤ k → k < 16 → 0 ≤ h' mReadShares k ∧ h' mReadShares k ≤ 99)))) 130 [some (rr_ G mo_), some (ii_ k), none] [] kc := by
              intro nn
              induction nn with
              | zero => intro k kc ck cf cr ams; exfalso; omega
              | succ nn ih130 =>
                intro k kc ck cf cr ams
                refine pw_iload_n (z := k) (pc := 130) dX12_shares_130 rfl rfl ?_
                refine pw_bipush (pc := 131) dX12_shares_131 rfl ?_
                refine pw_icmp_ge (t := 157) (pc := 133) dX12_shares_133 (by decide) (by first | omega) (by first | omega) (fun c133 => ?_) (fun c133 => ?_)
                · refine pw_iconst (pc := 157) dX12_shares_157 ?_
                  exact pw_iret (pc := 158) dX12_shares_158 (by first | omega) (by
                            refine ⟨⟨off_tr (off_mo cpr.1.1 (by decide)) (off_mo cf (by decide)), fun j j0 j2 j3 j7 j8 => by rw [cf mo_ (by decide)]; exact cpr.1.2 j j0 j2 j3 j7 j8⟩, ?_, by rw [cf mo_ (by decide)]; exact cpr.2.1, by rw [cf mo_ (by decide)]; exact cpr.2.2.1, by rw [cf mReadShares (by decide)]; exact cpr.2.2.2⟩
                            rw [y1]
                            refine ⟨rfl, cr.1, fun i j i0 i1 j0 j1 => ?_, fun x hx => by rw [cr.2.2 x hx, cpr.1.1 mState (by decide)], fun j j0 j1 => ?_⟩
                            · rw [cr.2.1 (4 * i + j) (by omega) (by omega)]; exact y2 i j i0 j0 j1 (Or.inl i1)
                            · rw [cr.2.1 j j0 (by omega)]; exact cpr.2.2.2 j j0 j1)
                · refine pw_aload_n (z := mo_) (pc := 136) dX12_shares_136 rfl rfl ?_
                  refine pw_getR (r := mState) (pc := 137) dX12_shares_137 fX12_130 (im_mo_ hM) k_mo_ rfl fr_mState ?_
                  refine pw_bipush (pc := 140) dX12_shares_140 rfl ?_
                  refine pw_iload_n (z := k) (pc := 142) dX12_shares_142 rfl rfl ?_
                  refine pw_iadd (pc := 143) dX12_shares_143 ?_
                  refine pw_aload_n (z := mo_) (pc := 144) dX12_shares_144 rfl rfl ?_
                  refine pw_getR (r := mReadShares) (pc := 145) dX12_shares_145 fX12_121 (im_mo_ hM) k_mo_ rfl fr_mReadShares ?_
                  refine pw_iload_n (z := k) (pc := 148) dX12_shares_148 rfl rfl ?_
                  refine pw_iald (pc := 149) dX12_shares_149 (im_mReadShares hM) k_mReadShares 16 l_mReadShares (by first | omega) (by first | omega) (by first | omega) (fun r149 => ?_)
                  refine pw_iast (pc := 150) dX12_shares_150 (im_mState hM) k_mState 1760 l_mState (by first | omega) (by first | omega) (by first | omega) (by first | omega) ?_
                  obtain ⟨g150, e150⟩ : ∃ x, x = up_ kc mState (14 + k) (kc mReadShares k) := ⟨_, rfl⟩
                  refine pw_heq e150 ?_
                  refine pw_iinc (z := k) (lv1 := [some (rr_ G mo_), some (ii_ (k + 1)), none]) (pc := 151) dX12_shares_151 rfl (by decide) rfl rfl ?_
                  refine pw_goto (t := 130) (pc := 154) dX12_shares_154 (by decide) ?_
                  exact ih130 _ _ (by omega) (by rw [e150]; exact off_up cf (by decide)) (⟨by rw [e150, up_at, if_neg (by omega)]; exact cr.1, fun x x0 x1 => by
                            rw [e150, up_at]
                            by_cases c : x = k
                            · rw [if_pos (by omega), c, cf mReadShares (by decide)]
                            · rw [if_neg (by omega)]; exact cr.2.1 x x0 (by omega), fun x hx => by rw [e150, up_at, if_neg (by omega)]; exact cr.2.2 x hx⟩) (by omega)
            exact L130 _ _ _ (by omega) (by rw [e127]; exact off_up off_rf (by decide)) (⟨by rw [e127, up_same], fun x _ _ => by omega, fun x hx => by rw [e127, up_at, if_neg (by omega)]⟩) (Int.self_le_toNat _)
          · refine pw_aload_n (z := mo_) (pc := 115) dX12_shares_115 rfl rfl ?_
            refine pw_gI (x := 8) (pc := 116) dX12_shares_116 fX12_218 (im_mo_ hM) k_mo_ rfl rfl (fun r116 => ?_)
            exact pw_iret (pc := 119) dX12_shares_119 (by first | omega) (by
                      refine ⟨⟨off_mo cpr.1.1 (by decide), cpr.1.2⟩, ?_, cpr.2⟩
                      rcases hcc with ⟨f, x1, x2, x3⟩ | ⟨e, x1, x2, x3⟩
                      · exfalso; omega
                      · rw [x1]; exact ⟨x2, x3, cpr.1.1 mState (by decide)⟩)
        refine pw_aload_n (z := mo_) (pc := 84) dX12_shares_84 rfl rfl ?_
        refine pw_gI (x := 8) (pc := 85) dX12_shares_85 fX12_218 (im_mo_ hM) k_mo_ rfl rfl (fun r85 => ?_)
        refine pw_if_ne (t := 108) (pc := 88) dX12_shares_88 (by decide) (by first | omega) (fun c88 => ?_) (fun c88 => ?_)
        · exact J108 _ (by
                  first
                  | (rcases xx with ⟨a, f, u1, u2, u3⟩ | ⟨e, u1, u2⟩
                     · exfalso; have := u2.2.2.2; omega
                     · exact Or.inr ⟨e, by unfold shr_; rw [bd_e u1], u2.2.2.1, u2.2.2.2.1⟩)
                  | (refine Or.inl ⟨f, ?_, u3, u2.2.2.2⟩
                     rw [sh, if_t (by rw [← ts]; exact c100)])
                  | (have w := RP_w (w := 1) u2 (by omega)
                     refine Or.inr ⟨flt_ (tk_ (h mTape) (h mo_ 2)) 1 a, by rw [sh, if_f (by rw [← ts]; exact c100)], by rw [q105]; exact w.2.2.2.1, w.2.2.2.2.1⟩)) (by first | exact fr7_rf | (have w := RP_w (w := 1) u2 (by omega); rw [q105, w.1]; exact fr7_8))
        · obtain ⟨a, f, u1, u2, u3⟩ : ∃ (a : Nat) (f : Int → Int), (srl_ (tk_ (h mTape) (h mo_ 2)) (h mRoads 0) (h mRoads 2).toNat 0 0 (fun _ => 0)) = .ok (f, a) ∧ RPO_ (tk_ (h mTape) (h mo_ 2)) N hq a ∧ shA_ (hq mReadShares) f (h mRoads 0) (h mRoads 2) 0 := by
            rcases xx with u | ⟨e, u1, u2⟩
            · exact u
            · exfalso; have := u2.2.2; omega
          have ts : hq mSort (hq mo_ 7) = ((tk_ (h mTape) (h mo_ 2)) a).1 := by rw [u2.2.1]; exact (u2.1.1.1 a u2.2.2.1).1
          have Q7 := RP_7 (X := .ok a) u2
          have sh : shr_ (tk_ (h mTape) (h mo_ 2)) (h mRoads 0) (h mRoads 2) = if_ (((tk_ (h mTape) (h mo_ 2)) a).1 = 0) (.ok f) (.error (flt_ (tk_ (h mTape) (h mo_ 2)) 1 a)) := by unfold shr_; rw [bd_o u1]
          refine pw_aload_n (z := mo_) (pc := 91) dX12_shares_91 rfl rfl ?_
          refine pw_getR (r := mSort) (pc := 92) dX12_shares_92 fX12_24 (im_mo_ hM) k_mo_ rfl fr_mSort ?_
          refine pw_aload_n (z := mo_) (pc := 95) dX12_shares_95 rfl rfl ?_
          refine pw_gI (x := 7) (pc := 96) dX12_shares_96 fX12_215 (im_mo_ hM) k_mo_ rfl rfl (fun r96 => ?_)
          refine pw_iald (pc := 99) dX12_shares_99 (im_mSort hM) k_mSort 1002 l_mSort (by first | omega) (by first | omega) (by first | omega) (fun r99 => ?_)
          refine pw_if_eq (t := 108) (pc := 100) dX12_shares_100 (by decide) (by first | omega) (fun c100 => ?_) (fun c100 => ?_)
          · exact J108 _ (by
                    first
                    | (rcases xx with ⟨a, f, u1, u2, u3⟩ | ⟨e, u1, u2⟩
                       · exfalso; have := u2.2.2.2; omega
                       · exact Or.inr ⟨e, by unfold shr_; rw [bd_e u1], u2.2.2.1, u2.2.2.2.1⟩)
                    | (refine Or.inl ⟨f, ?_, u3, u2.2.2.2⟩
                       rw [sh, if_t (by rw [← ts]; exact c100)])
                    | (have w := RP_w (w := 1) u2 (by omega)
                       refine Or.inr ⟨flt_ (tk_ (h mTape) (h mo_ 2)) 1 a, by rw [sh, if_f (by rw [← ts]; exact c100)], by rw [q105]; exact w.2.2.2.1, w.2.2.2.2.1⟩)) (by first | exact fr7_rf | (have w := RP_w (w := 1) u2 (by omega); rw [q105, w.1]; exact fr7_8))
          · refine pw_aload_n (z := mo_) (pc := 103) dX12_shares_103 rfl rfl ?_
            refine pw_iconst (pc := 104) dX12_shares_104 ?_
            refine pw_callV (c := 12) (o := mo_) (As := [ii_ 1]) (rest := []) (pc := 105) dX12_shares_105 (c_wrong hM hq (by first | omega) (by first | omega) 1 (by first | omega)) lX12_224 mX12_wrong vX12_wrong (im_mo_ hM) k_mo_ rfl rfl rfl (by decide) ⟨Nat.zero_le _, Nat.zero_le _⟩ (Nat.le_of_ble_eq_true rfl) (k_v (fun h105 q105 => ?_))
            exact J108 _ (by
                    first
                    | (rcases xx with ⟨a, f, u1, u2, u3⟩ | ⟨e, u1, u2⟩
                       · exfalso; have := u2.2.2.2; omega
                       · exact Or.inr ⟨e, by unfold shr_; rw [bd_e u1], u2.2.2.1, u2.2.2.2.1⟩)
                    | (refine Or.inl ⟨f, ?_, u3, u2.2.2.2⟩
                       rw [sh, if_t (by rw [← ts]; exact c100)])
                    | (have w := RP_w (w := 1) u2 (by omega)
                       refine Or.inr ⟨flt_ (tk_ (h mTape) (h mo_ 2)) 1 a, by rw [sh, if_f (by rw [← ts]; exact c100)], by rw [q105]; exact w.2.2.2.1, w.2.2.2.2.1⟩)) (by first | exact fr7_rf | (have w := RP_w (w := 1) u2 (by omega); rw [q105, w.1]; exact fr7_8))
      refine pw_iload_n (z := r) (pc := 11) dX12_shares_11 rfl rfl ?_
      refine pw_aload_n (z := mo_) (pc := 12) dX12_shares_12 rfl rfl ?_
      refine pw_callV (c := 12) (o := mo_) (As := []) (rest := [ii_ r]) (pc := 13) dX12_shares_13 (c_riders hM hq) lX12_334 mX12_riders vX12_riders (im_mo_ hM) k_mo_ rfl rfl rfl (by decide) ⟨Nat.zero_le _, Nat.zero_le _⟩ (Nat.le_of_ble_eq_true rfl) (k_i (fun z13 h13 y13 q13 => ?_))
      obtain ⟨rfl, rfl⟩ := q13
      rw [n20]
      refine pw_icmp_ge (t := 84) (pc := 16) dX12_shares_16 (by decide) (by first | omega) (by first | omega) (fun c16 => ?_) (fun c16 => ?_)
      · exact J84  (by first | exact Or.inl (by omega) | exact Or.inr c23)
      · refine pw_aload_n (z := mo_) (pc := 19) dX12_shares_19 rfl rfl ?_
        refine pw_gI (x := 8) (pc := 20) dX12_shares_20 fX12_218 (im_mo_ hM) k_mo_ rfl rfl (fun r20 => ?_)
        refine pw_if_ne (t := 84) (pc := 23) dX12_shares_23 (by decide) (by first | omega) (fun c23 => ?_) (fun c23 => ?_)
        · exact J84  (by first | exact Or.inl (by omega) | exact Or.inr c23)
        · obtain ⟨a, f, u1, u2, u3⟩ : ∃ (a : Nat) (f : Int → Int), (srl_ (tk_ (h mTape) (h mo_ 2)) (h mRoads 0) (h mRoads 2).toNat 0 0 (fun _ => 0)) = srl_ (tk_ (h mTape) (h mo_ 2)) (h mRoads 0) ((h mRoads 2) - r).toNat r a f ∧ RPO_ (tk_ (h mTape) (h mo_ 2)) N hq a ∧ shA_ (hq mReadShares) f (h mRoads 0) r 0 := by
            rcases ast with u | ⟨e, u1, u2⟩
            · exact u
            · exfalso; have := u2.2.2; omega
          have u1 := u1
          rw [show ((h mRoads 2) - r).toNat = ((h mRoads 2) - (r + 1)).toNat + 1 by omega] at u1
          have u1 : (srl_ (tk_ (h mTape) (h mo_ 2)) (h mRoads 0) (h mRoads 2).toNat 0 0 (fun _ => 0)) = bd_ (srw_ (tk_ (h mTape) (h mo_ 2)) (h mRoads 0) r a f) (fun q => srl_ (tk_ (h mTape) (h mo_ 2)) (h mRoads 0) ((h mRoads 2) - (r + 1)).toNat (r + 1) q.2 q.1) := u1
          refine pw_aload_n (z := mo_) (pc := 26) dX12_shares_26 rfl rfl ?_
          refine pw_bipush (pc := 27) dX12_shares_27 rfl ?_
          refine pw_callV (c := 12) (o := mo_) (As := [ii_ 14]) (rest := []) (pc := 29) dX12_shares_29 (c_takeWord hM hq (tk_ (h mTape) (h mo_ 2)) N 14 (by decide) (.ok a) u2) lX12_233 mX12_takeWord vX12_takeWord (im_mo_ hM) k_mo_ rfl rfl rfl (by decide) ⟨Nat.zero_le _, Nat.zero_le _⟩ (Nat.le_of_ble_eq_true rfl) (k_v (fun h29 q29 => ?_))
          obtain ⟨f29, r29⟩ := q29
          have b0 : (∃ (b : Nat) (g : Int → Int), bd_ (tkw_ (tk_ (h mTape) (h mo_ 2)) 14 a) (fun b => sr1_ (tk_ (h mTape) (h mo_ 2)) (h mRoads 0).toNat (4 * r) b f) = sr1_ (tk_ (h mTape) (h mo_ 2)) ((h mRoads 0) - 0).toNat (4 * r + 0) b g ∧ RPO_ (tk_ (h mTape) (h mo_ 2)) N h29 b ∧ shA_ (h29 mReadShares) g (h mRoads 0) r 0) ∨ (∃ e, bd_ (tkw_ (tk_ (h mTape) (h mo_ 2)) 14 a) (fun b => sr1_ (tk_ (h mTape) (h mo_ 2)) (h mRoads 0).toNat (4 * r) b f) = .error e ∧ RPE_ (tk_ (h mTape) (h mo_ 2)) N h29 e) := by
            have r29 : RP_ (tk_ (h mTape) (h mo_ 2)) N h29 (tkw_ (tk_ (h mTape) (h mo_ 2)) 14 a) := r29
            cases hw : tkw_ (tk_ (h mTape) (h mo_ 2)) 14 a with
            | ok b => rw [hw] at r29; exact Or.inl ⟨b, f, by rw [bd_o rfl, Int.sub_zero, Int.add_zero], r29, by rw [f29.1 mReadShares (by decide)]; exact u3⟩
            | error e => rw [hw] at r29; exact Or.inr ⟨e, rfl, r29⟩
          have q29 : prj_ mReadShares h h29 ∧ h29 mo_ 0 = 0 ∧ h29 mo_ 2 = 0 ∧ (∀ k, 0 ≤ k → k < 16 → 0 ≤ h29 mReadShares k ∧ h29 mReadShares k ≤ 99) := ⟨prj_7 apr.1 f29, by rw [f29.2 0 (by decide) (by decide)]; exact apr.2.1, by rw [f29.2 2 (by decide) (by decide)]; exact apr.2.2.1, by rw [f29.1 mReadShares (by decide)]; exact apr.2.2.2⟩
          refine pw_iconst (pc := 32) dX12_shares_32 ?_
          refine pw_istore_n (lv1 := [some (rr_ G mo_), some (ii_ r), some (ii_ 0)]) (pc := 33) dX12_shares_33 rfl (by decide) rfl rfl ?_
          have L34 : ∀ (nn : Nat) (s : Int) (hb : PH_), (0 ≤ s ∧ s ≤ h mRoads 0) → (prj_ mReadShares h hb ∧ hb mo_ 0 = 0 ∧ hb mo_ 2 = 0 ∧ (∀ k, 0 ≤ k → k < 16 → 0 ≤ hb mReadShares k ∧ hb mReadShares k ≤ 99)) → ((∃ (b : Nat) (g : Int → Int), bd_ (tkw_ (tk_ (h mTape) (h mo_ 2)) 14 a) (fun b => sr1_ (tk_ (h mTape) (h mo_ 2)) (h mRoads 0).toNat (4 * r) b f) = sr1_ (tk_ (h mTape) (h mo_ 2)) ((h mRoads 0) - s).toNat (4 * r + s) b g ∧ RPO_ (tk_ (h mTape) (h mo_ 2)) N hb b ∧ shA_ (hb mReadShares) g (h mRoads 0) r s) ∨ (∃ e, bd_ (tkw_ (tk_ (h mTape) (h mo_ 2)) 14 a) (fun b => sr1_ (tk_ (h mTape) (h mo_ 2)) (h mRoads 0).toNat (4 * r) b f) = .error e ∧ RPE_ (tk_ (h mTape) (h mo_ 2)) N hb e)) → ((h mRoads 0 - s + 1 : Int) ≤ nn) → PW G RX12 cX12_shares 3 (some .int) (rm_ 6) 0 0 (zm_ G (qi_ (fun z h' => (off_ [mSort, mPlace, mValue, mReadShares, mState, mo_] h h' ∧ (∀ k, k ≠ 0 → k ≠ 2 → k ≠ 3 → k ≠ 7 → k ≠ 8 → h' mo_ k = h mo_ k)) ∧ SO_ (h mRoads 0) (h mRoads 2) h z h' (shr_ (tk_ (h mTape) (h mo_ 2)) (h mRoads 0) (h mRoads 2)) ∧ h' mo_ 0 = 0 ∧ h' mo_ 2 = 0 ∧ (∀ k, 0 ≤ k → k < 16 → 0 ≤ h' mReadShares k ∧ h' mReadShares k ≤ 99)))) 34 [some (rr_ G mo_), some (ii_ r), some (ii_ s)] [] hb := by
            intro nn
            induction nn with
            | zero => intro s hb bk bpr bst ams; exfalso; omega
            | succ nn ih34 =>
              intro s hb bk bpr bst ams
              have nb : hb mRoads 0 = h mRoads 0 := by rw [bpr.1.1 mRoads (by decide)]
              have t8 : (0 ≤ hb mo_ 8 ∧ hb mo_ 8 < 2147483648) ∧ (0 ≤ hb mo_ 7 ∧ hb mo_ 7 ≤ N) ∧ (0 ≤ hb mPlace (hb mo_ 7) ∧ hb mPlace (hb mo_ 7) ≤ 1000) := by
                rcases bst with ⟨b, g, v1, v2, v3⟩ | ⟨e, v1, v2⟩
                · have q := RP_7 (X := .ok b) v2; exact ⟨q.2.2.2.2, q.1, q.2.2.1⟩
                · have q := RP_7 (X := .error e) v2; exact ⟨q.2.2.2.2, q.1, q.2.2.1⟩
              have J72 : (¬ s < h mRoads 0 ∨ ¬ hb mo_ 8 = 0) → PW G RX12 cX12_shares 3 (some .int) (rm_ 6) 0 0 (zm_ G (qi_ (fun z h' => (off_ [mSort, mPlace, mValue, mReadShares, mState, mo_] h h' ∧ (∀ k, k ≠ 0 → k ≠ 2 → k ≠ 3 → k ≠ 7 → k ≠ 8 → h' mo_ k = h mo_ k)) ∧ SO_ (h mRoads 0) (h mRoads 2) h z h' (shr_ (tk_ (h mTape) (h mo_ 2)) (h mRoads 0) (h mRoads 2)) ∧ h' mo_ 0 = 0 ∧ h' mo_ 2 = 0 ∧ (∀ k, 0 ≤ k → k < 16 → 0 ≤ h' mReadShares k ∧ h' mReadShares k ≤ 99)))) 72 [some (rr_ G mo_), some (ii_ r), some (ii_ s)] [] hb := by
                intro hs
                have fw : (srw_ (tk_ (h mTape) (h mo_ 2)) (h mRoads 0) r a f) = bd_ (bd_ (tkw_ (tk_ (h mTape) (h mo_ 2)) 14 a) (fun b => sr1_ (tk_ (h mTape) (h mo_ 2)) (h mRoads 0).toNat (4 * r) b f)) (fun q => bd_ (tks2_ (tk_ (h mTape) (h mo_ 2)) 59 q.2) (fun c => .ok (q.1, c))) := by unfold srw_; rw [bd_bd]
                refine pw_aload_n (z := mo_) (pc := 72) dX12_shares_72 rfl rfl ?_
                refine pw_bipush (pc := 73) dX12_shares_73 rfl ?_
                refine pw_callV (c := 12) (o := mo_) (As := [ii_ 59]) (rest := []) (pc := 75) dX12_shares_75 (c_takeSign hM hb (by first | omega) (by first | omega) 59 (by first | omega)) lX12_259 mX12_takeSign vX12_takeSign (im_mo_ hM) k_mo_ rfl rfl rfl (by decide) ⟨Nat.zero_le _, Nat.zero_le _⟩ (Nat.le_of_ble_eq_true rfl) (k_v (fun h75 q75 => ?_))
                have ps : ∀ X, RP_ (tk_ (h mTape) (h mo_ 2)) N hb X → fr7_ hb h75 ∧ RP_ (tk_ (h mTape) (h mo_ 2)) N h75 (bd_ X (tks2_ (tk_ (h mTape) (h mo_ 2)) 59)) := fun X H => P_sign H q75
                have nx : fr7_ hb h75 ∧ ((∃ (a : Nat) (f : Int → Int), (srl_ (tk_ (h mTape) (h mo_ 2)) (h mRoads 0) (h mRoads 2).toNat 0 0 (fun _ => 0)) = srl_ (tk_ (h mTape) (h mo_ 2)) (h mRoads 0) ((h mRoads 2) - (r + 1)).toNat (r + 1) a f ∧ RPO_ (tk_ (h mTape) (h mo_ 2)) N h75 a ∧ shA_ (h75 mReadShares) f (h mRoads 0) (r + 1) 0) ∨ (∃ e, (srl_ (tk_ (h mTape) (h mo_ 2)) (h mRoads 0) (h mRoads 2).toNat 0 0 (fun _ => 0)) = .error e ∧ RPE_ (tk_ (h mTape) (h mo_ 2)) N h75 e)) := by
                  rcases bst with ⟨b, g, v1, v2, v3⟩ | ⟨e, v1, v2⟩
                  · have s0 : s = (h mRoads 0) := by
                      rcases hs with x | x
                      · omega
                      · exfalso; have := v2.2.2.2; omega
                    rw [show ((h mRoads 0) - s).toNat = 0 by omega] at v1
                    have v1 : bd_ (tkw_ (tk_ (h mTape) (h mo_ 2)) 14 a) (fun b => sr1_ (tk_ (h mTape) (h mo_ 2)) (h mRoads 0).toNat (4 * r) b f) = .ok (g, b) := v1
                    obtain ⟨p1, p2⟩ := ps (.ok b) v2
                    have p2 : RP_ (tk_ (h mTape) (h mo_ 2)) N h75 (tks2_ (tk_ (h mTape) (h mo_ 2)) 59 b) := p2
                    refine ⟨p1, ?_⟩
                    rw [bd_o v1] at fw
                    have fw : (srw_ (tk_ (h mTape) (h mo_ 2)) (h mRoads 0) r a f) = bd_ (tks2_ (tk_ (h mTape) (h mo_ 2)) 59 b) (fun c => .ok (g, c)) := fw
                    cases hk : tks2_ (tk_ (h mTape) (h mo_ 2)) 59 b with
                    | error e =>
                      rw [hk] at p2
                      rw [bd_e hk] at fw
                      rw [bd_e fw] at u1
                      exact Or.inr ⟨e, u1, p2⟩
                    | ok c =>
                      rw [hk] at p2
                      rw [bd_o hk] at fw
                      rw [bd_o fw] at u1
                      refine Or.inl ⟨c, g, u1, p2, fun i j i0 j0 j1 hh => ?_⟩
                      rw [p1.1 mReadShares (by decide)]
                      exact v3 i j i0 j0 j1 (by omega)
                  · obtain ⟨p1, p2⟩ := ps (.error e) v2
                    rw [bd_e v1] at fw
                    rw [bd_e fw] at u1
                    exact ⟨p1, Or.inr ⟨e, u1, p2⟩⟩
                refine pw_iinc (z := r) (lv1 := [some (rr_ G mo_), some (ii_ (r + 1)), some (ii_ s)]) (pc := 78) dX12_shares_78 rfl (by decide) rfl rfl ?_
                refine pw_goto (t := 11) (pc := 81) dX12_shares_81 (by decide) ?_
                refine pw_less (lv1 := [some (rr_ G mo_), some (ii_ (r + 1)), none]) rfl (by intro i v; (match i with | 0 => simp | 1 => simp | 2 => simp | n + 3 => simp)) ?_
                exact ih11 _ _ (by omega) (⟨prj_7 bpr.1 nx.1, by rw [nx.1.2 0 (by decide) (by decide)]; exact bpr.2.1, by rw [nx.1.2 2 (by decide) (by decide)]; exact bpr.2.2.1, by rw [nx.1.1 mReadShares (by decide)]; exact bpr.2.2.2⟩) (nx.2) (by omega)
              refine pw_iload_n (z := s) (pc := 34) dX12_shares_34 rfl rfl ?_
              refine pw_aload_n (z := mo_) (pc := 35) dX12_shares_35 rfl rfl ?_
              refine pw_callV (c := 12) (o := mo_) (As := []) (rest := [ii_ s]) (pc := 36) dX12_shares_36 (c_seats hM hb) lX12_331 mX12_seats vX12_seats (im_mo_ hM) k_mo_ rfl rfl rfl (by decide) ⟨Nat.zero_le _, Nat.zero_le _⟩ (Nat.le_of_ble_eq_true rfl) (k_i (fun z36 h36 y36 q36 => ?_))
              obtain ⟨rfl, rfl⟩ := q36
              rw [nb]
              refine pw_icmp_ge (t := 72) (pc := 39) dX12_shares_39 (by decide) (by first | omega) (by first | omega) (fun c39 => ?_) (fun c39 => ?_)
              · exact J72  (by first | exact Or.inl (by omega) | exact Or.inr c46)
              · refine pw_aload_n (z := mo_) (pc := 42) dX12_shares_42 rfl rfl ?_
                refine pw_gI (x := 8) (pc := 43) dX12_shares_43 fX12_218 (im_mo_ hM) k_mo_ rfl rfl (fun r43 => ?_)
                refine pw_if_ne (t := 72) (pc := 46) dX12_shares_46 (by decide) (by first | omega) (fun c46 => ?_) (fun c46 => ?_)
                · exact J72  (by first | exact Or.inl (by omega) | exact Or.inr c46)
                · obtain ⟨b, g, v1, v2, v3⟩ : ∃ (b : Nat) (g : Int → Int), bd_ (tkw_ (tk_ (h mTape) (h mo_ 2)) 14 a) (fun b => sr1_ (tk_ (h mTape) (h mo_ 2)) (h mRoads 0).toNat (4 * r) b f) = sr1_ (tk_ (h mTape) (h mo_ 2)) ((h mRoads 0) - s).toNat (4 * r + s) b g ∧ RPO_ (tk_ (h mTape) (h mo_ 2)) N hb b ∧ shA_ (hb mReadShares) g (h mRoads 0) r s := by
                    rcases bst with u | ⟨e, v1, v2⟩
                    · exact u
                    · exfalso; have := v2.2.2; omega
                  have v1 := v1
                  rw [show ((h mRoads 0) - s).toNat = ((h mRoads 0) - (s + 1)).toNat + 1 by omega] at v1
                  have v1 : bd_ (tkw_ (tk_ (h mTape) (h mo_ 2)) 14 a) (fun b => sr1_ (tk_ (h mTape) (h mo_ 2)) (h mRoads 0).toNat (4 * r) b f) = bd_ (tkn_ (tk_ (h mTape) (h mo_ 2)) 0 99 b) (fun q => sr1_ (tk_ (h mTape) (h mo_ 2)) ((h mRoads 0) - (s + 1)).toNat (4 * r + s + 1) q.2 (ob_ g (4 * r + s) q.1)) := v1
                  refine pw_aload_n (z := mo_) (pc := 49) dX12_shares_49 rfl rfl ?_
                  refine pw_getR (r := mReadShares) (pc := 50) dX12_shares_50 fX12_121 (im_mo_ hM) k_mo_ rfl fr_mReadShares ?_
                  refine pw_iconst (pc := 53) dX12_shares_53 ?_
                  refine pw_iload_n (z := r) (pc := 54) dX12_shares_54 rfl rfl ?_
                  refine pw_imul (pc := 55) dX12_shares_55 ?_
                  refine pw_iload_n (z := s) (pc := 56) dX12_shares_56 rfl rfl ?_
                  refine pw_iadd (pc := 57) dX12_shares_57 ?_
                  refine pw_aload_n (z := mo_) (pc := 58) dX12_shares_58 rfl rfl ?_
                  refine pw_iconst (pc := 59) dX12_shares_59 ?_
                  refine pw_bipush (pc := 60) dX12_shares_60 rfl ?_
                  refine pw_callV (c := 12) (o := mo_) (As := [ii_ 0, ii_ 99]) (rest := [ii_ ((4 * r) + s), rr_ G mReadShares]) (pc := 62) dX12_shares_62 (c_takeNumber hM hb (tk_ (h mTape) (h mo_ 2)) N 0 99 (by first | omega) (by first | omega) (.ok b) v2) lX12_236 mX12_takeNumber vX12_takeNumber (im_mo_ hM) k_mo_ rfl rfl rfl (by decide) ⟨Nat.zero_le _, Nat.zero_le _⟩ (Nat.le_of_ble_eq_true rfl) (k_i (fun z62 h62 y62 q62 => ?_))
                  obtain ⟨f62, r62⟩ := q62
                  have r63 : RP2_ (tk_ (h mTape) (h mo_ 2)) N h62 z62 (tkn_ (tk_ (h mTape) (h mo_ 2)) 0 99 b) := r62
                  have z62b : 0 ≤ z62 ∧ z62 ≤ 99 := by
                    cases hx : tkn_ (tk_ (h mTape) (h mo_ 2)) 0 99 b with
                    | ok q => rw [hx] at r63; have := (tkn_o hx).1; have := r63.2; omega
                    | error e => rw [hx] at r63; have := r63.2; omega
                  refine pw_iast (pc := 65) dX12_shares_65 (im_mReadShares hM) k_mReadShares 16 l_mReadShares (by first | omega) (by first | omega) (by first | omega) (by first | omega) ?_
                  obtain ⟨g65, e65⟩ : ∃ x, x = up_ h62 mReadShares ((4 * r) + s) z62 := ⟨_, rfl⟩
                  refine pw_heq e65 ?_
                  refine pw_iinc (z := s) (lv1 := [some (rr_ G mo_), some (ii_ r), some (ii_ (s + 1))]) (pc := 66) dX12_shares_66 rfl (by decide) rfl rfl ?_
                  refine pw_goto (t := 34) (pc := 69) dX12_shares_69 (by decide) ?_
                  exact ih34 _ _ (by omega) (⟨⟨by rw [e65]; exact off_up (prj_7 bpr.1 f62).1 (by decide), fun k k0 k2 k3 k7 k8 => by rw [e65, up_off (by decide)]; exact (prj_7 bpr.1 f62).2 k k0 k2 k3 k7 k8⟩, by rw [e65, up_off (by decide), f62.2 0 (by decide) (by decide)]; exact bpr.2.1, by rw [e65, up_off (by decide), f62.2 2 (by decide) (by decide)]; exact bpr.2.2.1, fun k k0 k1 => by
                            rw [e65, up_at]
                            by_cases c : k = 4 * r + s
                            · rw [if_pos c]; exact z62b
                            · rw [if_neg c, f62.1 mReadShares (by decide)]; exact bpr.2.2.2 k k0 k1⟩) (by
                            have mvO : ∀ c, RPO_ (tk_ (h mTape) (h mo_ 2)) N h62 c → RPO_ (tk_ (h mTape) (h mo_ 2)) N g65 c := fun c K => by rw [e65]; exact ⟨RB_mv K.1 (up_off (by decide)) (up_off (by decide)) (up_off (by decide)) (up_off (by decide)), by rw [up_off (by decide)]; exact K.2.1, K.2.2.1, by rw [up_off (by decide)]; exact K.2.2.2⟩
                            have mvE : ∀ c, RPE_ (tk_ (h mTape) (h mo_ 2)) N h62 c → RPE_ (tk_ (h mTape) (h mo_ 2)) N g65 c := fun c K => by rw [e65]; exact ⟨RB_mv K.1 (up_off (by decide)) (up_off (by decide)) (up_off (by decide)) (up_off (by decide)), by rw [up_off (by decide)]; exact K.2.1, by rw [up_off (by decide)]; exact K.2.2.1, K.2.2.2⟩
                            cases hx : tkn_ (tk_ (h mTape) (h mo_ 2)) 0 99 b with
                            | error e =>
                              rw [hx] at r63
                              rw [bd_e hx] at v1
                              exact Or.inr ⟨e, v1, mvE e r63.1⟩
                            | ok q =>
                              rw [hx] at r63
                              rw [bd_o hx] at v1
                              refine Or.inl ⟨q.2, ob_ g (4 * r + s) q.1, by rw [v1, Int.add_assoc (4 * r)], mvO q.2 r63.1, ?_⟩
                              rw [e65, up_ob, r63.2, f62.1 mReadShares (by decide)]
                              exact shA_u (by omega) v3 (by omega) (by omega)) (by omega)
          exact L34 _ _ _ (by omega) (q29) (b0) (Int.self_le_toNat _)
  exact L11 _ _ _ (by omega) (p6) (st0) (Int.self_le_toNat _)

