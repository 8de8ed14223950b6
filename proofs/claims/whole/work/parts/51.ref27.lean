set_option maxHeartbeats 4000000 in
set_option maxRecDepth 100000 in
theorem c_adds {G : GT_} (hM : okM_ G) (h : PH_) (N M a b : Int) (hN : 0 ≤ N ∧ N ≤ 256 * M) (hMb : 1 ≤ M ∧ M ≤ 40000000000) (ha : 1 ≤ a ∧ a ≤ b) (hb : b ≤ 157464) (hd : b ∣ M) (hf : frc_ h N M) : PC G yX12_adds cX12_adds 9 none 2 [rr_ G mo_, ll_ a, ll_ b] h (qv_ (fun h' => off_ [mo_] h h' ∧ (∀ k, k ≠ 51 → k ≠ 52 → h' mo_ k = h mo_ k) ∧ frc_ h' (N + a * (M / b)) M)) := by
  obtain ⟨fx, f0, f1, f2, f3⟩ := frc_x (show 0 < M by omega) hN.1 hf.1 hf.2
  obtain ⟨u, hu⟩ : ∃ u, u = h mo_ 51 := ⟨_, rfl⟩
  obtain ⟨v, hv⟩ : ∃ v, v = h mo_ 52 := ⟨_, rfl⟩
  refine PC.of (lv := [some (rr_ G mo_), some (ll_ a), none, some (ll_ b), none, none, none, none, none]) (by decide +kernel) (Nat.le_of_ble_eq_true rfl) rfl rfl ?_
  refine pw_lload_n (z := a) (pc := 0) dX12_adds_0 rfl rfl ?_
  refine pw_lload_n (z := b) (pc := 1) dX12_adds_1 rfl rfl ?_
  refine pw_callS (As := [ll_ a, ll_ b]) (rest := []) (pc := 2) dX12_adds_2 (c_common h a b (by first | omega) (by first | omega)) lX12_477 mX12_common sX12_common rfl rfl (by decide) ⟨Nat.zero_le _, Nat.zero_le _⟩ (Nat.le_of_ble_eq_true rfl) (k_l (fun z2 h2 y2 q2 => ?_))
  obtain ⟨rfl, w2⟩ := q2
  have g0 := Int.gcd_pos_of_ne_zero_right a (show b ≠ 0 by omega)
  obtain ⟨a1, ha1⟩ := Int.gcd_dvd_left a b
  obtain ⟨b1, hb1⟩ := Int.gcd_dvd_right a b
  rw [← w2] at ha1 hb1
  have z0 : 0 < z2 := by omega
  have b10 : 0 < b1 := by
    rcases Int.lt_or_le 0 b1 with c | c
    · exact c
    · have := Int.mul_nonpos_of_nonneg_of_nonpos (show 0 ≤ z2 by omega) c; omega
  have a10 : 0 < a1 := by
    rcases Int.lt_or_le 0 a1 with c | c
    · exact c
    · have := Int.mul_nonpos_of_nonneg_of_nonpos (show 0 ≤ z2 by omega) c; omega
  have b11 : b1 ≤ 157464 := by have : 1 * b1 ≤ z2 * b1 := Int.mul_le_mul_of_nonneg_right (by omega) (by omega); omega
  have a11 : a1 ≤ 157464 := by have : 1 * a1 ≤ z2 * a1 := Int.mul_le_mul_of_nonneg_right (by omega) (by omega); omega
  have tb : b.tdiv z2 = b1 := by rw [Int.tdiv_eq_ediv_of_nonneg (by omega), hb1]; exact Int.mul_ediv_cancel_left _ (by omega)
  have ta : a.tdiv z2 = a1 := by rw [Int.tdiv_eq_ediv_of_nonneg (by omega), ha1]; exact Int.mul_ediv_cancel_left _ (by omega)
  have k1 : 0 ≤ h mo_ 51 * b1 ∧ h mo_ 51 * b1 ≤ 10240000000000 * 157464 := ⟨Int.mul_nonneg (by omega) (by omega), Int.mul_le_mul (by omega) b11 (by omega) (by omega)⟩
  have k2 : 0 ≤ a1 * h mo_ 52 ∧ a1 * h mo_ 52 ≤ 157464 * 40000000000 := ⟨Int.mul_nonneg (by omega) (by omega), Int.mul_le_mul a11 (by omega) (by omega) (by omega)⟩
  have k3 : 0 < h mo_ 52 * b1 ∧ h mo_ 52 * b1 ≤ 40000000000 * 157464 := ⟨Int.mul_pos (by omega) (by omega), Int.mul_le_mul (by omega) b11 (by omega) (by omega)⟩
  refine pw_lstore (lv1 := [some (rr_ G mo_), some (ll_ a), none, some (ll_ b), none, some (ll_ z2), none, none, none]) (pc := 5) dX12_adds_5 (by decide) rfl rfl ?_
  refine pw_aload_n (z := mo_) (pc := 7) dX12_adds_7 rfl rfl ?_
  refine pw_aload_n (z := mo_) (pc := 8) dX12_adds_8 rfl rfl ?_
  refine pw_gJ (x := 51) (pc := 9) dX12_adds_9 fX12_481 (im_mo_ hM) k_mo_ rfl rfl (fun r9 => ?_)
  refine pw_lload_n (z := b) (pc := 12) dX12_adds_12 rfl rfl ?_
  refine pw_lload (z := z2) (pc := 13) dX12_adds_13 rfl ?_
  refine pw_ldiv (pc := 15) dX12_adds_15 (by first | omega) (by first | omega) ?_
  rw [tb]
  refine pw_lmul (pc := 16) dX12_adds_16 ?_
  refine pw_lload_n (z := a) (pc := 17) dX12_adds_17 rfl rfl ?_
  refine pw_lload (z := z2) (pc := 18) dX12_adds_18 rfl ?_
  refine pw_ldiv (pc := 20) dX12_adds_20 (by first | omega) (by first | omega) ?_
  rw [ta]
  refine pw_aload_n (z := mo_) (pc := 21) dX12_adds_21 rfl rfl ?_
  refine pw_gJ (x := 52) (pc := 22) dX12_adds_22 fX12_485 (im_mo_ hM) k_mo_ rfl rfl (fun r22 => ?_)
  refine pw_lmul (pc := 25) dX12_adds_25 ?_
  refine pw_ladd (pc := 26) dX12_adds_26 ?_
  refine pw_pJ (x := 51) (pc := 27) dX12_adds_27 fX12_481 (im_mo_ hM) k_mo_ rfl rfl (by first | omega) ?_
  obtain ⟨g27, e27⟩ : ∃ x, x = up_ h mo_ 51 (((h mo_ 51) * b1) + (a1 * (h mo_ 52))) := ⟨_, rfl⟩
  refine pw_heq e27 ?_
  refine pw_aload_n (z := mo_) (pc := 30) dX12_adds_30 rfl rfl ?_
  refine pw_aload_n (z := mo_) (pc := 31) dX12_adds_31 rfl rfl ?_
  refine pw_gJ (x := 52) (pc := 32) dX12_adds_32 fX12_485 (im_mo_ hM) k_mo_ rfl rfl (fun r32 => ?_)
  have n_g27_mo__52 : g27 mo_ 52 = h mo_ 52 := (by rw [e27, up_at]; exact if_neg (by decide))
  rw [n_g27_mo__52] at r32 ⊢
  refine pw_lload_n (z := b) (pc := 35) dX12_adds_35 rfl rfl ?_
  refine pw_lload (z := z2) (pc := 36) dX12_adds_36 rfl ?_
  refine pw_ldiv (pc := 38) dX12_adds_38 (by first | omega | (simp only [n_g27_mo__52]; omega)) (by first | omega | (simp only [n_g27_mo__52]; omega)) ?_
  rw [tb]
  refine pw_lmul (pc := 39) dX12_adds_39 ?_
  refine pw_pJ (x := 52) (pc := 40) dX12_adds_40 fX12_485 (im_mo_ hM) k_mo_ rfl rfl (by first | omega | (simp only [n_g27_mo__52]; omega)) ?_
  obtain ⟨g40, e40⟩ : ∃ x, x = up_ g27 mo_ 52 ((h mo_ 52) * b1) := ⟨_, rfl⟩
  refine pw_heq e40 ?_
  refine pw_aload_n (z := mo_) (pc := 43) dX12_adds_43 rfl rfl ?_
  refine pw_gJ (x := 51) (pc := 44) dX12_adds_44 fX12_481 (im_mo_ hM) k_mo_ rfl rfl (fun r44 => ?_)
  have n_g40_mo__51 : g40 mo_ 51 = g27 mo_ 51 := (by rw [e40, up_at]; exact if_neg (by decide))
  rw [n_g40_mo__51] at r44 ⊢
  rw [show g27 mo_ 51 = (((h mo_ 51) * b1) + (a1 * (h mo_ 52))) from by rw [e27, up_same]] at r44 ⊢
  refine pw_aload_n (z := mo_) (pc := 47) dX12_adds_47 rfl rfl ?_
  refine pw_gJ (x := 52) (pc := 48) dX12_adds_48 fX12_485 (im_mo_ hM) k_mo_ rfl rfl (fun r48 => ?_)
  rw [show g40 mo_ 52 = ((h mo_ 52) * b1) from by rw [e40, up_same]] at r48 ⊢
  refine pw_callS (As := [ll_ (((h mo_ 51) * b1) + (a1 * (h mo_ 52))), ll_ ((h mo_ 52) * b1)]) (rest := []) (pc := 51) dX12_adds_51 (c_common g40 (((h mo_ 51) * b1) + (a1 * (h mo_ 52))) ((h mo_ 52) * b1) (by first | omega | (simp only [n_g27_mo__52, n_g40_mo__51]; omega)) (by first | omega | (simp only [n_g27_mo__52, n_g40_mo__51]; omega))) lX12_477 mX12_common sX12_common rfl rfl (by decide) ⟨Nat.zero_le _, Nat.zero_le _⟩ (Nat.le_of_ble_eq_true rfl) (k_l (fun z51 h51 y51 q51 => ?_))
  obtain ⟨rfl, w51⟩ := q51
  have g1 := Int.gcd_pos_of_ne_zero_right (((h mo_ 51) * b1) + (a1 * (h mo_ 52))) (show (h mo_ 52) * b1 ≠ 0 by omega)
  have z1 : 0 < z51 := by omega
  have t1 : 0 ≤ (((h mo_ 51) * b1) + (a1 * (h mo_ 52))).tdiv z51 ∧ (((h mo_ 51) * b1) + (a1 * (h mo_ 52))).tdiv z51 ≤ (((h mo_ 51) * b1) + (a1 * (h mo_ 52))) := by rw [Int.tdiv_eq_ediv_of_nonneg (by omega)]; exact ⟨Int.ediv_nonneg (by omega) (by omega), Int.ediv_le_self _ (by omega)⟩
  have t2 : 0 ≤ ((h mo_ 52) * b1).tdiv z51 ∧ ((h mo_ 52) * b1).tdiv z51 ≤ ((h mo_ 52) * b1) := by rw [Int.tdiv_eq_ediv_of_nonneg (by omega)]; exact ⟨Int.ediv_nonneg (by omega) (by omega), Int.ediv_le_self _ (by omega)⟩
  refine pw_lstore (lv1 := [some (rr_ G mo_), some (ll_ a), none, some (ll_ b), none, some (ll_ z2), none, some (ll_ z51), none]) (pc := 54) dX12_adds_54 (by decide) rfl rfl ?_
  refine pw_aload_n (z := mo_) (pc := 56) dX12_adds_56 rfl rfl ?_
  refine pw_aload_n (z := mo_) (pc := 57) dX12_adds_57 rfl rfl ?_
  refine pw_gJ (x := 51) (pc := 58) dX12_adds_58 fX12_481 (im_mo_ hM) k_mo_ rfl rfl (fun r58 => ?_)
  rw [n_g40_mo__51] at r58 ⊢
  rw [show g27 mo_ 51 = (((h mo_ 51) * b1) + (a1 * (h mo_ 52))) from by rw [e27, up_same]] at r58 ⊢
  refine pw_lload (z := z51) (pc := 61) dX12_adds_61 rfl ?_
  refine pw_ldiv (pc := 63) dX12_adds_63 (by first | omega | (simp only [n_g27_mo__52, n_g40_mo__51]; omega)) (by first | omega | (simp only [n_g27_mo__52, n_g40_mo__51]; omega)) ?_
  refine pw_pJ (x := 51) (pc := 64) dX12_adds_64 fX12_481 (im_mo_ hM) k_mo_ rfl rfl (by first | omega | (simp only [n_g27_mo__52, n_g40_mo__51]; omega)) ?_
  obtain ⟨g64, e64⟩ : ∃ x, x = up_ g40 mo_ 51 ((((h mo_ 51) * b1) + (a1 * (h mo_ 52))).tdiv z51) := ⟨_, rfl⟩
  refine pw_heq e64 ?_
  refine pw_aload_n (z := mo_) (pc := 67) dX12_adds_67 rfl rfl ?_
  refine pw_aload_n (z := mo_) (pc := 68) dX12_adds_68 rfl rfl ?_
  refine pw_gJ (x := 52) (pc := 69) dX12_adds_69 fX12_485 (im_mo_ hM) k_mo_ rfl rfl (fun r69 => ?_)
  have n_g64_mo__52 : g64 mo_ 52 = g40 mo_ 52 := (by rw [e64, up_at]; exact if_neg (by decide))
  rw [n_g64_mo__52] at r69 ⊢
  rw [show g40 mo_ 52 = ((h mo_ 52) * b1) from by rw [e40, up_same]] at r69 ⊢
  refine pw_lload (z := z51) (pc := 72) dX12_adds_72 rfl ?_
  refine pw_ldiv (pc := 74) dX12_adds_74 (by first | omega | (simp only [n_g27_mo__52, n_g40_mo__51, n_g64_mo__52]; omega)) (by first | omega | (simp only [n_g27_mo__52, n_g40_mo__51, n_g64_mo__52]; omega)) ?_
  refine pw_pJ (x := 52) (pc := 75) dX12_adds_75 fX12_485 (im_mo_ hM) k_mo_ rfl rfl (by first | omega | (simp only [n_g27_mo__52, n_g40_mo__51, n_g64_mo__52]; omega)) ?_
  obtain ⟨g75, e75⟩ : ∃ x, x = up_ g64 mo_ 52 (((h mo_ 52) * b1).tdiv z51) := ⟨_, rfl⟩
  refine pw_heq e75 ?_
  exact pw_vret (pc := 78) dX12_adds_78 (by
            have V : ∀ x y : Int, x = (h mo_ 51 * b1) + (a1 * h mo_ 52) → y = h mo_ 52 * b1 → x * (h mo_ 52 * b) = (h mo_ 51 * b + a * h mo_ 52) * y := by
              intro x y e1 e2
              rw [e1, e2, hb1, ha1, Int.add_mul, Int.add_mul]
              congr 1 <;> ac_rfl
            have fa := frc_add (a := a) (b := b) (show 0 < M by omega) hN.1 (by omega) hd hf.1 hf.2 (x := (h mo_ 51 * b1) + (a1 * h mo_ 52)) (y := h mo_ 52 * b1) k3.1 (V _ _ rfl rfl)
            rw [← w51] at fa
            refine ⟨by rw [e75, e64, e40, e27]; exact off_up (off_up (off_up (off_up off_rf (by decide)) (by decide)) (by decide)) (by decide), fun k k1 k2 => by rw [e75, up_at, if_neg k2, e64, up_at, if_neg k1, e40, up_at, if_neg k2, e27, up_at, if_neg k1], ?_, ?_⟩
            · rw [e75, up_at, if_neg (by decide), e64, up_same, Int.tdiv_eq_ediv_of_nonneg (by omega)]; exact fa.1
            · rw [e75, up_same, Int.tdiv_eq_ediv_of_nonneg (by omega)]; exact fa.2)

set_option maxHeartbeats 4000000 in
set_option maxRecDepth 100000 in
theorem c_comeS {G : GT_} (hM : okM_ G) (h : PH_) (n : Nat) (IH : dpc_ G n) (t left free w se up dn N : Int) (hp : dpr_ (n + 1) t left free w se up dn N h) : PC G yX12_comeIn cX12_comeIn 16 none (5 + (n + 1)) [rr_ G mo_, ii_ t, ii_ left, ii_ free, ii_ w, ii_ se, ll_ up, ll_ dn] h (qv_ (fun h' => dps_ (n + 1) t left free w se up dn N h h')) := by
  obtain ⟨hS, hR, hd, ht, hse, hu, hf⟩ := hp
  have hR4 : 0 ≤ h mRoads 2 ∧ h mRoads 2 ≤ 4 := by omega
  have hu2 := hu
  obtain ⟨u1, u2, u3, u4, u5, u6, u7, u8⟩ := hu2
  have pb := pm_b (ro := h mRoads) (w := w.toNat) hR4 hd (by omega)
  have nb : n < 4 := by have := bcn_4 left.toNat (by omega); omega
  have dm := dnb_m (n + 1) (by omega)
  have dm0 := dnb_m n (by omega)
  obtain ⟨Q, hQ⟩ : ∃ Q, Q = 4 ^ n * (pm_ (h mRoads) w.toNat 1) := ⟨_, rfl⟩
  have qq : (pm_ (h mRoads) w.toNat 1) ≤ Q := by
    have : (1 : Int) * (pm_ (h mRoads) w.toNat 1) ≤ 4 ^ n * (pm_ (h mRoads) w.toNat 1) := Int.mul_le_mul_of_nonneg_right (by have : (0 : Int) < 4 ^ n := Int.pow_pos (by decide); omega) (by omega)
    omega
  have u9 : 0 ≤ N ∧ N + 4 * Q ≤ 256 * (pm_ (h mRoads) w.toNat 1) := by
    have e3 : (4 : Int) ^ (n + 1) * (pm_ (h mRoads) w.toNat 1) = 4 * Q := by rw [hQ, Int.pow_succ]; ac_rfl
    omega
  refine PC.of (lv := [some (rr_ G mo_), some (ii_ t), some (ii_ left), some (ii_ free), some (ii_ w), some (ii_ se), some (ll_ up), none, some (ll_ dn), none, none, none, none, none, none, none]) (by decide +kernel) (Nat.le_of_ble_eq_true rfl) rfl rfl ?_
  refine pw_iconst (pc := 0) dX12_comeIn_0 ?_
  refine pw_istore (lv1 := [some (rr_ G mo_), some (ii_ t), some (ii_ left), some (ii_ free), some (ii_ w), some (ii_ se), some (ll_ up), none, some (ll_ dn), none, some (ii_ 0), none, none, none, none, none]) (pc := 1) dX12_comeIn_1 (by decide) rfl rfl ?_
  have L3 : ∀ (nn : Nat) (r : Int) (hq : PH_), (0 ≤ r ∧ r ≤ h mRoads 2) → (off_ [mo_] h hq) → (∀ k, k ≠ 51 → k ≠ 52 → hq mo_ k = h mo_ k) → (frc_ hq ((List.range r.toNat).foldl (dst_ (h mRoads) t w se (pm_ (h mRoads) w.toNat 1) (din_ (h mRoads) t w se (pm_ (h mRoads) w.toNat 1) n) left free up dn) N) (pm_ (h mRoads) w.toNat 1)) → ((h mRoads 2 - r + 1 : Int) ≤ nn) → PW G RX12 cX12_comeIn 16 none (rm_ (5 + (n + 1))) 0 0 (zm_ G (qv_ (fun h' => dps_ (n + 1) t left free w se up dn N h h'))) 3 [some (rr_ G mo_), some (ii_ t), some (ii_ left), some (ii_ free), some (ii_ w), some (ii_ se), some (ll_ up), none, some (ll_ dn), none, some (ii_ r), none, none, none, none, none] [] hq := by
    intro nn
    induction nn with
    | zero => intro r hq ak af ao afr ams; exfalso; omega
    | succ nn ih3 =>
      intro r hq ak af ao afr ams
      have ab := dfl_b (t := t) (se := se) hR4 hd (by omega) hu r.toNat (by omega)
      rw [tn_c ak.1, ← hQ] at ab
      refine pw_iload (z := r) (pc := 3) dX12_comeIn_3 rfl ?_
      refine pw_aload_n (z := mo_) (pc := 5) dX12_comeIn_5 rfl rfl ?_
      refine pw_callV (c := 12) (o := mo_) (As := []) (rest := [ii_ r]) (pc := 6) dX12_comeIn_6 (c_riders hM hq) lX12_334 mX12_riders vX12_riders (im_mo_ hM) k_mo_ rfl rfl rfl (by constructor <;> simp only [rm_] <;> omega) ⟨Nat.zero_le _, Nat.zero_le _⟩ (Nat.le_of_ble_eq_true rfl) (k_i (fun z6 h6 y6 q6 => ?_))
      obtain ⟨rfl, rfl⟩ := q6
      have n_hq_mRoads : hq mRoads = h mRoads := (af mRoads (by decide))
      rw [n_hq_mRoads] at y6 ⊢
      refine pw_icmp_ge (t := 125) (pc := 9) dX12_comeIn_9 (by decide) (by first | omega | (simp only [n_hq_mRoads]; omega)) (by first | omega | (simp only [n_hq_mRoads]; omega)) (fun c9 => ?_) (fun c9 => ?_)
      · exact pw_vret (pc := 125) dX12_comeIn_125 (by
                  refine ⟨af, ao, ?_⟩
                  rw [show r = h mRoads 2 by omega] at afr
                  exact afr)
      · have js : (List.range (r + 1).toNat).foldl (dst_ (h mRoads) t w se (pm_ (h mRoads) w.toNat 1) (din_ (h mRoads) t w se (pm_ (h mRoads) w.toNat 1) n) left free up dn) N = (dst_ (h mRoads) t w se (pm_ (h mRoads) w.toNat 1) (din_ (h mRoads) t w se (pm_ (h mRoads) w.toNat 1) n) left free up dn) ((List.range r.toNat).foldl (dst_ (h mRoads) t w se (pm_ (h mRoads) w.toNat 1) (din_ (h mRoads) t w se (pm_ (h mRoads) w.toNat 1) n) left free up dn) N) r.toNat := by rw [tn_s ak.1, List.range_succ, List.foldl_append]; rfl
        have J119 : ∀ (h2 : PH_), (off_ [mo_] h h2) → (∀ k, k ≠ 51 → k ≠ 52 → h2 mo_ k = h mo_ k) → (frc_ h2 ((List.range (r + 1).toNat).foldl (dst_ (h mRoads) t w se (pm_ (h mRoads) w.toNat 1) (din_ (h mRoads) t w se (pm_ (h mRoads) w.toNat 1) n) left free up dn) N) (pm_ (h mRoads) w.toNat 1)) → PW G RX12 cX12_comeIn 16 none (rm_ (5 + (n + 1))) 0 0 (zm_ G (qv_ (fun h' => dps_ (n + 1) t left free w se up dn N h h'))) 119 [some (rr_ G mo_), some (ii_ t), some (ii_ left), some (ii_ free), some (ii_ w), some (ii_ se), some (ll_ up), none, some (ll_ dn), none, some (ii_ r), none, none, none, none, none] [] h2 := by
          intro h2 jf jo jr
          refine pw_iinc (z := r) (lv1 := [some (rr_ G mo_), some (ii_ t), some (ii_ left), some (ii_ free), some (ii_ w), some (ii_ se), some (ll_ up), none, some (ll_ dn), none, some (ii_ (r + 1)), none, none, none, none, none]) (pc := 119) dX12_comeIn_119 rfl (by decide) rfl rfl ?_
          refine pw_goto (t := 3) (pc := 122) dX12_comeIn_122 (by decide) ?_
          exact ih3 _ _ (by omega) (jf) (jo) (jr) (by omega)
        refine pw_iload_n (z := left) (pc := 12) dX12_comeIn_12 rfl rfl ?_
        refine pw_iload (z := r) (pc := 13) dX12_comeIn_13 rfl ?_
        refine pw_ishr (pc := 15) dX12_comeIn_15 (by first | omega | (simp only [n_hq_mRoads]; omega)) (by first | omega | (simp only [n_hq_mRoads]; omega)) ?_
        refine pw_iconst (pc := 16) dX12_comeIn_16 ?_
        refine pw_iand1 (pc := 17) dX12_comeIn_17 ?_
        refine pw_iconst (pc := 18) dX12_comeIn_18 ?_
        refine pw_icmp_ne (t := 119) (pc := 19) dX12_comeIn_19 (by decide) (by first | omega | (simp only [n_hq_mRoads]; omega)) (by first | omega | (simp only [n_hq_mRoads]; omega)) (fun c19 => ?_) (fun c19 => ?_)
        · exact J119 _ (by first | exact af | exact off_tr af f75 | exact off_tr af f116) (by first | exact ao | exact fun k k1 k2 => by rw [o75 k k1 k2]; exact ao k k1 k2 | exact fun k k1 k2 => by rw [o116 k k1 k2]; exact ao k k1 k2) (by
                   rw [js, dst_u]
                   first
                   | (rw [tn_c ak.1, if_f c19]; exact afr)
                   | (rw [tn_c ak.1, if_t c19, if_t c60, if_t (by rw [← w27]; exact c67), ← w49]; exact r75)
                   | (rw [tn_c ak.1, if_t c19, if_t c60, if_f (by rw [← w27]; exact c67)]; exact afr)
                   | (rw [tn_c ak.1, if_t c19, if_f c60, ← w27, ← fv.1, ← bw.1, ← w49]; exact r116))
        · have nq : hq mRoads = h mRoads := af mRoads (by decide)
          have dq := dpu_q hR4 hd hu (r := r) (by omega) c19
          obtain ⟨dq1, dq2, dq3, dq4⟩ := dq
          have dr := hd r (by omega) (by omega)
          have rQ : r * Q ≤ 3 * Q := Int.mul_le_mul_of_nonneg_right (by omega) (by omega)
          refine pw_aload_n (z := mo_) (pc := 22) dX12_comeIn_22 rfl rfl ?_
          refine pw_iload (z := r) (pc := 23) dX12_comeIn_23 rfl ?_
          refine pw_iload_n (z := t) (pc := 25) dX12_comeIn_25 rfl rfl ?_
          refine pw_iload_n (z := free) (pc := 26) dX12_comeIn_26 rfl rfl ?_
          refine pw_callV (c := 12) (o := mo_) (As := [ii_ r, ii_ t, ii_ free]) (rest := []) (pc := 27) dX12_comeIn_27 (c_takes hM hq (by first | omega | (simp only [n_hq_mRoads]; omega)) (by first | omega | (simp only [n_hq_mRoads]; omega)) (r) (t) (free) (by first | omega | (simp only [n_hq_mRoads]; omega)) (by first | omega | (simp only [n_hq_mRoads]; omega)) (by first | omega | (simp only [n_hq_mRoads]; omega))) lX12_488 mX12_takes vX12_takes (im_mo_ hM) k_mo_ rfl rfl rfl (by constructor <;> simp only [rm_] <;> omega) ⟨Nat.zero_le _, Nat.zero_le _⟩ (Nat.le_of_ble_eq_true rfl) (k_i (fun z27 h27 y27 q27 => ?_))
          obtain ⟨rfl, w27⟩ := q27
          refine pw_istore (lv1 := [some (rr_ G mo_), some (ii_ t), some (ii_ left), some (ii_ free), some (ii_ w), some (ii_ se), some (ll_ up), none, some (ll_ dn), none, some (ii_ r), some (ii_ z27), none, none, none, none]) (pc := 30) dX12_comeIn_30 (by decide) rfl rfl ?_
          rw [n_hq_mRoads] at w27
          have tb := tks_b (h mRoads) r t free (h mRoads 0).toNat
          have tf := tks_f (h mRoads) r t free (h mRoads 0).toNat
          rw [← w27] at tb tf
          have pz := p8_ (s := r) (by omega)
          refine pw_lload (z := up) (pc := 32) dX12_comeIn_32 rfl ?_
          refine pw_aload_n (z := mo_) (pc := 34) dX12_comeIn_34 rfl rfl ?_
          refine pw_iload (z := r) (pc := 35) dX12_comeIn_35 rfl ?_
          refine pw_iconst (pc := 37) dX12_comeIn_37 ?_
          refine pw_callV (c := 12) (o := mo_) (As := [ii_ r, ii_ 1]) (rest := [ll_ up]) (pc := 38) dX12_comeIn_38 (c_riderOf hM hq (r) (1) (by first | omega | (simp only [n_hq_mRoads]; omega)) (by first | omega | (simp only [n_hq_mRoads]; omega))) lX12_355 mX12_riderOf vX12_riderOf (im_mo_ hM) k_mo_ rfl rfl rfl (by constructor <;> simp only [rm_] <;> omega) ⟨Nat.zero_le _, Nat.zero_le _⟩ (Nat.le_of_ble_eq_true rfl) (k_i (fun z38 h38 y38 q38 => ?_))
          obtain ⟨rfl, rfl⟩ := q38
          rw [n_hq_mRoads] at y38 ⊢
          refine pw_i2l (pc := 41) dX12_comeIn_41 (by first | omega | (simp only [n_hq_mRoads]; omega)) ?_
          refine pw_lmul (pc := 42) dX12_comeIn_42 ?_
          refine pw_lstore (lv1 := [some (rr_ G mo_), some (ii_ t), some (ii_ left), some (ii_ free), some (ii_ w), some (ii_ se), some (ll_ up), none, some (ll_ dn), none, some (ii_ r), some (ii_ z27), some (ll_ (up * (h mRoads (31 + 4 * (r) + (1))))), none, none, none]) (pc := 43) dX12_comeIn_43 (by decide) rfl rfl ?_
          refine pw_lload (z := dn) (pc := 45) dX12_comeIn_45 rfl ?_
          refine pw_aload_n (z := mo_) (pc := 47) dX12_comeIn_47 rfl rfl ?_
          refine pw_iload_n (z := left) (pc := 48) dX12_comeIn_48 rfl rfl ?_
          refine pw_callV (c := 12) (o := mo_) (As := [ii_ left]) (rest := [ll_ dn]) (pc := 49) dX12_comeIn_49 (c_dashes hM hq (by rw [nq]; exact hS) (by rw [nq]; exact hR) (by rw [nq]; exact hd) left (by first | omega | (simp only [n_hq_mRoads]; omega))) lX12_491 mX12_dashes vX12_dashes (im_mo_ hM) k_mo_ rfl rfl rfl (by constructor <;> simp only [rm_] <;> omega) ⟨Nat.zero_le _, Nat.zero_le _⟩ (Nat.le_of_ble_eq_true rfl) (k_i (fun z49 h49 y49 q49 => ?_))
          obtain ⟨rfl, w49⟩ := q49
          rw [nq] at w49
          rw [← w49] at dq2 dq3 dq4
          refine pw_i2l (pc := 52) dX12_comeIn_52 (by first | omega | (simp only [n_hq_mRoads]; omega)) ?_
          refine pw_lmul (pc := 53) dX12_comeIn_53 ?_
          refine pw_lstore (lv1 := [some (rr_ G mo_), some (ii_ t), some (ii_ left), some (ii_ free), some (ii_ w), some (ii_ se), some (ll_ up), none, some (ll_ dn), none, some (ii_ r), some (ii_ z27), some (ll_ (up * (h mRoads (31 + 4 * (r) + (1))))), none, some (ll_ (dn * z49)), none]) (pc := 54) dX12_comeIn_54 (by decide) rfl rfl ?_
          refine pw_iload (z := r) (pc := 56) dX12_comeIn_56 rfl ?_
          refine pw_iload (z := w) (pc := 58) dX12_comeIn_58 rfl ?_
          refine pw_icmp_ne (t := 81) (pc := 60) dX12_comeIn_60 (by decide) (by first | omega | (simp only [n_hq_mRoads]; omega)) (by first | omega | (simp only [n_hq_mRoads]; omega)) (fun c60 => ?_) (fun c60 => ?_)
          · refine pw_aload_n (z := mo_) (pc := 81) dX12_comeIn_81 rfl rfl ?_
            refine pw_iload_n (z := t) (pc := 82) dX12_comeIn_82 rfl rfl ?_
            refine pw_iload_n (z := left) (pc := 83) dX12_comeIn_83 rfl rfl ?_
            refine pw_iconst (pc := 84) dX12_comeIn_84 ?_
            refine pw_iload (z := r) (pc := 85) dX12_comeIn_85 rfl ?_
            refine pw_ishl1 (pc := 87) dX12_comeIn_87 (by first | omega | (simp only [n_hq_mRoads]; omega)) ?_
            refine pw_iconst (pc := 88) dX12_comeIn_88 ?_
            refine pw_inot (pc := 89) dX12_comeIn_89 (by first | omega | (simp only [n_hq_mRoads]; omega)) ?_
            refine pw_iandX (pc := 90) dX12_comeIn_90 (by first | omega | (simp only [n_hq_mRoads]; omega)) (by first | omega | (simp only [n_hq_mRoads]; omega)) (fun w90 r90 x90 v90 => ?_)
            have bw := bclr_ (l := left) (r := r) (by omega) (by omega) c19 (v90 (by omega) (by omega))
            have J108 : ∀ (v : Int), (v = (if z27 < 0 then free else free - 2 ^ z27.toNat) ∧ 0 ≤ v ∧ v ≤ 15) → PW G RX12 cX12_comeIn 16 none (rm_ (5 + (n + 1))) 0 0 (zm_ G (qv_ (fun h' => dps_ (n + 1) t left free w se up dn N h h'))) 108 [some (rr_ G mo_), some (ii_ t), some (ii_ left), some (ii_ free), some (ii_ w), some (ii_ se), some (ll_ up), none, some (ll_ dn), none, some (ii_ r), some (ii_ z27), some (ll_ (up * (h mRoads (31 + 4 * (r) + (1))))), none, some (ll_ (dn * z49)), none] [ii_ v, ii_ w90, ii_ t, rr_ G mo_] hq := by
              intro v fv
              
              refine pw_iload (z := w) (pc := 108) dX12_comeIn_108 rfl ?_
              refine pw_iload (z := se) (pc := 110) dX12_comeIn_110 rfl ?_
              refine pw_lload (z := up * (h mRoads (31 + 4 * (r) + (1)))) (pc := 112) dX12_comeIn_112 rfl ?_
              refine pw_lload (z := dn * z49) (pc := 114) dX12_comeIn_114 rfl ?_
              have pr : dpr_ n t (w90) (v) w se (up * (h mRoads (31 + 4 * (r) + (1)))) (dn * z49) ((List.range r.toNat).foldl (dst_ (h mRoads) t w se (pm_ (h mRoads) w.toNat 1) (din_ (h mRoads) t w se (pm_ (h mRoads) w.toNat 1) n) left free up dn) N) hq := by
                refine ⟨by rw [nq]; exact hS, by rw [nq]; exact hR, by rw [nq]; exact hd, ht, hse, ?_, by rw [nq]; exact afr⟩
                rw [nq, bw.1, w49]
                exact dpu_s hR4 hd hu (r := r) (by omega) c19 (by omega) (by rw [← hQ]; exact ab) (by omega)
              refine pw_callV (c := 12) (o := mo_) (As := [ii_ t, ii_ w90, ii_ v, ii_ w, ii_ se, ll_ (up * (h mRoads (31 + 4 * (r) + (1)))), ll_ (dn * z49)]) (rest := []) (pc := 116) dX12_comeIn_116 (IH hq t (w90) (v) w se (up * (h mRoads (31 + 4 * (r) + (1)))) (dn * z49) ((List.range r.toNat).foldl (dst_ (h mRoads) t w se (pm_ (h mRoads) w.toNat 1) (din_ (h mRoads) t w se (pm_ (h mRoads) w.toNat 1) n) left free up dn) N) pr) lX12_498 mX12_comeIn vX12_comeIn (im_mo_ hM) k_mo_ rfl rfl rfl (by constructor <;> simp only [rm_] <;> omega) ⟨Nat.zero_le _, Nat.zero_le _⟩ (Nat.le_of_ble_eq_true rfl) (k_v (fun h116 q116 => ?_))
              obtain ⟨f116, o116, r116⟩ := q116
              rw [nq] at r116
              refine pw_less (lv1 := [some (rr_ G mo_), some (ii_ t), some (ii_ left), some (ii_ free), some (ii_ w), some (ii_ se), some (ll_ up), none, some (ll_ dn), none, some (ii_ r), none, none, none, none, none]) rfl (by intro i v; (match i with | 0 => simp | 1 => simp | 2 => simp | 3 => simp | 4 => simp | 5 => simp | 6 => simp | 7 => simp | 8 => simp | 9 => simp | 10 => simp | 11 => simp | 12 => simp | 13 => simp | 14 => simp | 15 => simp | n + 16 => simp)) ?_
              exact J119 _ (by first | exact af | exact off_tr af f75 | exact off_tr af f116) (by first | exact ao | exact fun k k1 k2 => by rw [o75 k k1 k2]; exact ao k k1 k2 | exact fun k k1 k2 => by rw [o116 k k1 k2]; exact ao k k1 k2) (by
                       rw [js, dst_u]
                       first
                       | (rw [tn_c ak.1, if_f c19]; exact afr)
                       | (rw [tn_c ak.1, if_t c19, if_t c60, if_t (by rw [← w27]; exact c67), ← w49]; exact r75)
                       | (rw [tn_c ak.1, if_t c19, if_t c60, if_f (by rw [← w27]; exact c67)]; exact afr)
                       | (rw [tn_c ak.1, if_t c19, if_f c60, ← w27, ← fv.1, ← bw.1, ← w49]; exact r116))
            refine pw_iload (z := z27) (pc := 91) dX12_comeIn_91 rfl ?_
            refine pw_if_ge (t := 100) (pc := 93) dX12_comeIn_93 (by decide) (by first | omega | (simp only [n_hq_mRoads]; omega)) (fun c93 => ?_) (fun c93 => ?_)
            · have p9 := p8_ (s := z27) (by omega)
              refine pw_iload_n (z := free) (pc := 100) dX12_comeIn_100 rfl rfl ?_
              refine pw_iconst (pc := 101) dX12_comeIn_101 ?_
              refine pw_iload (z := z27) (pc := 102) dX12_comeIn_102 rfl ?_
              refine pw_ishl1 (pc := 104) dX12_comeIn_104 (by first | omega | (simp only [n_hq_mRoads]; omega)) ?_
              refine pw_iconst (pc := 105) dX12_comeIn_105 ?_
              refine pw_inot (pc := 106) dX12_comeIn_106 (by first | omega | (simp only [n_hq_mRoads]; omega)) ?_
              refine pw_iandX (pc := 107) dX12_comeIn_107 (by first | omega | (simp only [n_hq_mRoads]; omega)) (by first | omega | (simp only [n_hq_mRoads]; omega)) (fun w107 r107 x107 v107 => ?_)
              exact J108 _ (by
                      first
                      | (rw [if_pos (by omega)]; omega)
                      | (rw [if_neg (by omega)]; have e := bclr_ (l := free) (r := z27) (by omega) (by omega) (tf (by omega)) (v107 (by omega) (by omega)); exact ⟨e.1, e.2.1, by omega⟩))
            · refine pw_iload_n (z := free) (pc := 96) dX12_comeIn_96 rfl rfl ?_
              refine pw_goto (t := 108) (pc := 97) dX12_comeIn_97 (by decide) ?_
              exact J108 _ (by
                      first
                      | (rw [if_pos (by omega)]; omega)
                      | (rw [if_neg (by omega)]; have e := bclr_ (l := free) (r := z27) (by omega) (by omega) (tf (by omega)) (v107 (by omega) (by omega)); exact ⟨e.1, e.2.1, by omega⟩))
          · refine pw_iload (z := z27) (pc := 63) dX12_comeIn_63 rfl ?_
            refine pw_iload (z := se) (pc := 65) dX12_comeIn_65 rfl ?_
            refine pw_icmp_ne (t := 119) (pc := 67) dX12_comeIn_67 (by decide) (by first | omega | (simp only [n_hq_mRoads]; omega)) (by first | omega | (simp only [n_hq_mRoads]; omega)) (fun c67 => ?_) (fun c67 => ?_)
            · refine pw_less (lv1 := [some (rr_ G mo_), some (ii_ t), some (ii_ left), some (ii_ free), some (ii_ w), some (ii_ se), some (ll_ up), none, some (ll_ dn), none, some (ii_ r), none, none, none, none, none]) rfl (by intro i v; (match i with | 0 => simp | 1 => simp | 2 => simp | 3 => simp | 4 => simp | 5 => simp | 6 => simp | 7 => simp | 8 => simp | 9 => simp | 10 => simp | 11 => simp | 12 => simp | 13 => simp | 14 => simp | 15 => simp | n + 16 => simp)) ?_
              exact J119 _ (by first | exact af | exact off_tr af f75 | exact off_tr af f116) (by first | exact ao | exact fun k k1 k2 => by rw [o75 k k1 k2]; exact ao k k1 k2 | exact fun k k1 k2 => by rw [o116 k k1 k2]; exact ao k k1 k2) (by
                       rw [js, dst_u]
                       first
                       | (rw [tn_c ak.1, if_f c19]; exact afr)
                       | (rw [tn_c ak.1, if_t c19, if_t c60, if_t (by rw [← w27]; exact c67), ← w49]; exact r75)
                       | (rw [tn_c ak.1, if_t c19, if_t c60, if_f (by rw [← w27]; exact c67)]; exact afr)
                       | (rw [tn_c ak.1, if_t c19, if_f c60, ← w27, ← fv.1, ← bw.1, ← w49]; exact r116))
            · refine pw_aload_n (z := mo_) (pc := 70) dX12_comeIn_70 rfl rfl ?_
              refine pw_lload (z := up * (h mRoads (31 + 4 * (r) + (1)))) (pc := 71) dX12_comeIn_71 rfl ?_
              refine pw_lload (z := dn * z49) (pc := 73) dX12_comeIn_73 rfl ?_
              refine pw_callV (c := 12) (o := mo_) (As := [ll_ (up * (h mRoads (31 + 4 * (r) + (1)))), ll_ (dn * z49)]) (rest := []) (pc := 75) dX12_comeIn_75 (c_adds hM hq ((List.range r.toNat).foldl (dst_ (h mRoads) t w se (pm_ (h mRoads) w.toNat 1) (din_ (h mRoads) t w se (pm_ (h mRoads) w.toNat 1) n) left free up dn) N) (pm_ (h mRoads) w.toNat 1) (up * (h mRoads (31 + 4 * (r) + (1)))) (dn * z49) (by first | omega | (simp only [n_hq_mRoads]; omega)) (by first | omega | (simp only [n_hq_mRoads]; omega)) ⟨dq3.1, dq3.2.1⟩ (by first | omega | (simp only [n_hq_mRoads]; omega)) (Int.dvd_trans dq4 (pm_mono (by first | omega | (simp only [n_hq_mRoads]; omega)))) afr) lX12_494 mX12_adds vX12_adds (im_mo_ hM) k_mo_ rfl rfl rfl (by constructor <;> simp only [rm_] <;> omega) ⟨Nat.zero_le _, Nat.zero_le _⟩ (Nat.le_of_ble_eq_true rfl) (k_v (fun h75 q75 => ?_))
              obtain ⟨f75, o75, r75⟩ := q75
              refine pw_goto (t := 119) (pc := 78) dX12_comeIn_78 (by decide) ?_
              refine pw_less (lv1 := [some (rr_ G mo_), some (ii_ t), some (ii_ left), some (ii_ free), some (ii_ w), some (ii_ se), some (ll_ up), none, some (ll_ dn), none, some (ii_ r), none, none, none, none, none]) rfl (by intro i v; (match i with | 0 => simp | 1 => simp | 2 => simp | 3 => simp | 4 => simp | 5 => simp | 6 => simp | 7 => simp | 8 => simp | 9 => simp | 10 => simp | 11 => simp | 12 => simp | 13 => simp | 14 => simp | 15 => simp | n + 16 => simp)) ?_
              exact J119 _ (by first | exact af | exact off_tr af f75 | exact off_tr af f116) (by first | exact ao | exact fun k k1 k2 => by rw [o75 k k1 k2]; exact ao k k1 k2 | exact fun k k1 k2 => by rw [o116 k k1 k2]; exact ao k k1 k2) (by
                       rw [js, dst_u]
                       first
                       | (rw [tn_c ak.1, if_f c19]; exact afr)
                       | (rw [tn_c ak.1, if_t c19, if_t c60, if_t (by rw [← w27]; exact c67), ← w49]; exact r75)
                       | (rw [tn_c ak.1, if_t c19, if_t c60, if_f (by rw [← w27]; exact c67)]; exact afr)
                       | (rw [tn_c ak.1, if_t c19, if_f c60, ← w27, ← fv.1, ← bw.1, ← w49]; exact r116))
  exact L3 _ _ _ (by omega) (off_rf) (fun _ _ _ => rfl) (hf) (Int.self_le_toNat _)

theorem c_come {G : GT_} (hM : okM_ G) : ∀ n : Nat, dpc_ G n
  | 0 => fun h t left free w se up dn N hp => by
    exfalso
    obtain ⟨hS, hR, hd, ht, hse, hu, hf⟩ := hp
    obtain ⟨u1, u2, u3, u4, u5⟩ := hu
    have z := bx_z left.toNat (by omega) u4
    rw [show left = 0 by omega, Int.zero_ediv] at u3
    exact absurd u3 (by decide)
  | n + 1 => fun h t left free w se up dn N hp => c_comeS hM h n (c_come hM n) t left free w se up dn N hp
set_option maxHeartbeats 4000000 in
set_option maxRecDepth 100000 in
theorem c_door {G : GT_} (hM : okM_ G) (h : PH_) (hS : 2 ≤ h mRoads 0 ∧ h mRoads 0 ≤ 4) (hR : 0 ≤ h mRoads 2 ∧ h mRoads 2 ≤ h mRoads 0) (hT : 0 ≤ h mRoads 1 ∧ h mRoads 1 ≤ 4) (hd : ∀ r, 0 ≤ r → r < h mRoads 2 → 1 ≤ h mRoads (31 + 4 * r + 1) ∧ h mRoads (31 + 4 * r + 1) ≤ 9) (t r s w : Int) (h1 : ir_ t) (h2 : ir_ r) (h3 : ir_ s) (h4 : ir_ w) : PC G yX12_door cX12_door 5 (some .long) 10 [rr_ G mo_, ii_ t, ii_ r, ii_ s, ii_ w] h (ql_ (fun z h' => off_ [mo_] h h' ∧ (∀ k, k ≠ 0 → k ≠ 51 → k ≠ 52 → h' mo_ k = h mo_ k) ∧ h' mo_ 0 = 0 ∧ z = doq_ (h mRoads) t r s w)) := by
  have bi := bx_i (h mRoads 2).toNat (by omega)
  have bj := bx_i (h mRoads 0).toNat (by omega)
  have pR : (2 : Int) ^ (h mRoads 2).toNat = ((2 ^ (h mRoads 2).toNat : Nat) : Int) := pc_
  have pS : (2 : Int) ^ (h mRoads 0).toNat = ((2 ^ (h mRoads 0).toNat : Nat) : Int) := pc_
  have qR := Nat.two_pow_pos (h mRoads 2).toNat
  have qS := Nat.two_pow_pos (h mRoads 0).toNat
  refine PC.of (lv := [some (rr_ G mo_), some (ii_ t), some (ii_ r), some (ii_ s), some (ii_ w)]) (by decide +kernel) (Nat.le_of_ble_eq_true rfl) rfl rfl ?_
  refine pw_aload_n (z := mo_) (pc := 0) dX12_door_0 rfl rfl ?_
  refine pw_iconst (pc := 1) dX12_door_1 ?_
  refine pw_pI (x := 0) (pc := 2) dX12_door_2 fX12_1 (im_mo_ hM) k_mo_ rfl rfl (by first | omega) ?_
  obtain ⟨g2, e2⟩ : ∃ x, x = up_ h mo_ 0 0 := ⟨_, rfl⟩
  refine pw_heq e2 ?_
  refine pw_aload_n (z := mo_) (pc := 5) dX12_door_5 rfl rfl ?_
  refine pw_iload_n (z := t) (pc := 6) dX12_door_6 rfl rfl ?_
  have n_g2_mRoads : g2 mRoads = h mRoads := (by rw [e2]; exact up_off (by decide))
  refine pw_callV (c := 12) (o := mo_) (As := [ii_ t]) (rest := []) (pc := 7) dX12_door_7 (c_isStretch hM g2 (t) (by first | omega | (simp only [n_g2_mRoads]; omega)) (by first | omega | (simp only [n_g2_mRoads]; omega))) lX12_390 mX12_isStretch vX12_isStretch (im_mo_ hM) k_mo_ rfl rfl rfl (by decide) ⟨Nat.zero_le _, Nat.zero_le _⟩ (Nat.le_of_ble_eq_true rfl) (k_i (fun z7 h7 y7 q7 => ?_))
  obtain ⟨rfl, ⟨rfl, p7⟩ | ⟨rfl, p7⟩⟩ := q7
  · simp -failIfUnchanged only [n_g2_mRoads] at p7
    refine pw_if_eq (t := 39) (pc := 10) dX12_door_10 (by decide) (by first | omega | (simp only [n_g2_mRoads]; omega)) (fun c10 => absurd c10 (by decide)) (fun _ => ?_)
    refine pw_aload_n (z := mo_) (pc := 13) dX12_door_13 rfl rfl ?_
    refine pw_iload_n (z := r) (pc := 14) dX12_door_14 rfl rfl ?_
    refine pw_callV (c := 12) (o := mo_) (As := [ii_ r]) (rest := []) (pc := 15) dX12_door_15 (c_isRider hM g2 (r) (by first | omega | (simp only [n_g2_mRoads]; omega)) (by first | omega | (simp only [n_g2_mRoads]; omega))) lX12_387 mX12_isRider vX12_isRider (im_mo_ hM) k_mo_ rfl rfl rfl (by decide) ⟨Nat.zero_le _, Nat.zero_le _⟩ (Nat.le_of_ble_eq_true rfl) (k_i (fun z15 h15 y15 q15 => ?_))
    obtain ⟨rfl, ⟨rfl, p15⟩ | ⟨rfl, p15⟩⟩ := q15
    · simp -failIfUnchanged only [n_g2_mRoads] at p15
      refine pw_if_eq (t := 39) (pc := 18) dX12_door_18 (by decide) (by first | omega | (simp only [n_g2_mRoads]; omega)) (fun c18 => absurd c18 (by decide)) (fun _ => ?_)
      refine pw_aload_n (z := mo_) (pc := 21) dX12_door_21 rfl rfl ?_
      refine pw_iload_n (z := s) (pc := 22) dX12_door_22 rfl rfl ?_
      refine pw_callV (c := 12) (o := mo_) (As := [ii_ s]) (rest := []) (pc := 23) dX12_door_23 (c_isSeat hM g2 (s) (by first | omega | (simp only [n_g2_mRoads]; omega)) (by first | omega | (simp only [n_g2_mRoads]; omega))) lX12_406 mX12_isSeat vX12_isSeat (im_mo_ hM) k_mo_ rfl rfl rfl (by decide) ⟨Nat.zero_le _, Nat.zero_le _⟩ (Nat.le_of_ble_eq_true rfl) (k_i (fun z23 h23 y23 q23 => ?_))
      obtain ⟨rfl, ⟨rfl, p23⟩ | ⟨rfl, p23⟩⟩ := q23
      · simp -failIfUnchanged only [n_g2_mRoads] at p23
        refine pw_if_eq (t := 39) (pc := 26) dX12_door_26 (by decide) (by first | omega | (simp only [n_g2_mRoads]; omega)) (fun c26 => absurd c26 (by decide)) (fun _ => ?_)
        refine pw_iload (z := w) (pc := 29) dX12_door_29 rfl ?_
        refine pw_iconst (pc := 31) dX12_door_31 ?_
        refine pw_iconst (pc := 32) dX12_door_32 ?_
        refine pw_callS (As := [ii_ w, ii_ 0, ii_ 1]) (rest := []) (pc := 33) dX12_door_33 (c_within g2 (w) (0) (1) (by first | omega | (simp only [n_g2_mRoads]; omega)) (by first | omega | (simp only [n_g2_mRoads]; omega)) (by first | omega | (simp only [n_g2_mRoads]; omega))) lX12_308 mX12_within sX12_within rfl rfl (by decide) ⟨Nat.zero_le _, Nat.zero_le _⟩ (Nat.le_of_ble_eq_true rfl) (k_i (fun z33 h33 y33 q33 => ?_))
        obtain ⟨rfl, ⟨rfl, p33⟩ | ⟨rfl, p33⟩⟩ := q33
        · simp -failIfUnchanged only [n_g2_mRoads] at p33
          refine pw_if_ne (t := 43) (pc := 36) dX12_door_36 (by decide) (by first | omega | (simp only [n_g2_mRoads]; omega)) (fun _ => ?_) (fun c36 => absurd c36 (by decide))
          have gd : (0 ≤ t ∧ t < h mRoads 1) ∧ (0 ≤ r ∧ r < h mRoads 2) ∧ (0 ≤ s ∧ s < h mRoads 0) ∧ 0 ≤ w ∧ w ≤ 1 := by omega
          refine pw_aload_n (z := mo_) (pc := 43) dX12_door_43 rfl rfl ?_
          refine pw_lconst (z := 0) (pc := 44) dX12_door_44 rfl ?_
          refine pw_pJ (x := 51) (pc := 45) dX12_door_45 fX12_481 (im_mo_ hM) k_mo_ rfl rfl (by first | omega | (simp only [n_g2_mRoads]; omega)) ?_
          obtain ⟨g45, e45⟩ : ∃ x, x = up_ g2 mo_ 51 0 := ⟨_, rfl⟩
          refine pw_heq e45 ?_
          refine pw_aload_n (z := mo_) (pc := 48) dX12_door_48 rfl rfl ?_
          refine pw_lconst (z := 1) (pc := 49) dX12_door_49 rfl ?_
          refine pw_pJ (x := 52) (pc := 50) dX12_door_50 fX12_485 (im_mo_ hM) k_mo_ rfl rfl (by first | omega | (simp only [n_g2_mRoads]; omega)) ?_
          obtain ⟨g50, e50⟩ : ∃ x, x = up_ g45 mo_ 52 1 := ⟨_, rfl⟩
          refine pw_heq e50 ?_
          have q1 : g50 mRoads = h mRoads := by rw [e50, up_off (by decide), e45, up_off (by decide), e2, up_off (by decide)]
          have q2 : g50 mo_ = ob_ (ob_ (ob_ (h mo_) 0 0) 51 0) 52 1 := by rw [e50, up_ob, e45, up_ob, e2, up_ob]
          have pb := pm_b (ro := h mRoads) (w := r.toNat) (by omega) hd (by omega)
          have du : dpu_ (h mRoads) (h mRoads 2).toNat (2 ^ (h mRoads 2).toNat - 1) (2 ^ (h mRoads 0).toNat - 1) r 1 1 0 := by
            have e1 : ((2 : Int) ^ (h mRoads 2).toNat - 1) = ((2 ^ (h mRoads 2).toNat - 1 : Nat) : Int) := by omega
            refine ⟨by omega, by omega, by rw [e1]; exact ib_.1.mpr (bi.2.2 r.toNat (by omega)), by rw [e1, Int.toNat_natCast]; exact bi.1, by omega, ⟨by omega, by omega, ?_⟩, Int.one_dvd _, by omega, ?_⟩
            · have h5 : (h mRoads 2).toNat = 1 ∨ (h mRoads 2).toNat = 2 ∨ (h mRoads 2).toNat = 3 ∨ (h mRoads 2).toNat = 4 := by omega
              rcases h5 with h5 | h5 | h5 | h5 <;> rw [h5] <;> decide
            · rw [Int.zero_add]
              refine Int.mul_le_mul_of_nonneg_right ?_ (by omega)
              have h5 : (h mRoads 2).toNat = 1 ∨ (h mRoads 2).toNat = 2 ∨ (h mRoads 2).toNat = 3 ∨ (h mRoads 2).toNat = 4 := by omega
              rcases h5 with h5 | h5 | h5 | h5 <;> rw [h5] <;> decide
          have fr : frc_ g50 0 (pm_ (h mRoads) r.toNat 1) := by
            have g : (Int.gcd 0 (pm_ (h mRoads) r.toNat 1) : Int) = pm_ (h mRoads) r.toNat 1 := by rw [Int.gcd_zero_left]; omega
            refine ⟨?_, ?_⟩
            · rw [q2, Int.zero_ediv]; rfl
            · rw [q2, g, Int.ediv_self (by omega)]; rfl
          have pr : dpr_ (h mRoads 2).toNat t (2 ^ (h mRoads 2).toNat - 1) (2 ^ (h mRoads 0).toNat - 1) r s 1 1 0 g50 := ⟨by rw [q1]; exact hS, by rw [q1]; exact hR, by rw [q1]; exact hd, by omega, by omega, by rw [q1]; exact du, by rw [q1]; exact fr⟩
          refine pw_aload_n (z := mo_) (pc := 53) dX12_door_53 rfl rfl ?_
          refine pw_iload_n (z := t) (pc := 54) dX12_door_54 rfl rfl ?_
          refine pw_iconst (pc := 55) dX12_door_55 ?_
          refine pw_aload_n (z := mo_) (pc := 56) dX12_door_56 rfl rfl ?_
          refine pw_callV (c := 12) (o := mo_) (As := []) (rest := [ii_ 1, ii_ t, rr_ G mo_]) (pc := 57) dX12_door_57 (c_riders hM g50) lX12_334 mX12_riders vX12_riders (im_mo_ hM) k_mo_ rfl rfl rfl (by decide) ⟨Nat.zero_le _, Nat.zero_le _⟩ (Nat.le_of_ble_eq_true rfl) (k_i (fun z57 h57 y57 q57 => ?_))
          obtain ⟨rfl, rfl⟩ := q57
          have n_g50_mRoads : g50 mRoads = h mRoads := (((show g50 mRoads = g45 mRoads from (by rw [e50]; exact up_off (by decide))).trans (show g45 mRoads = g2 mRoads from (by rw [e45]; exact up_off (by decide)))).trans (show g2 mRoads = h mRoads from (by rw [e2]; exact up_off (by decide))))
          rw [n_g50_mRoads] at y57 ⊢
          refine pw_ishl1 (pc := 60) dX12_door_60 (by first | omega | (simp only [n_g2_mRoads, n_g50_mRoads]; omega)) ?_
          refine pw_iconst (pc := 61) dX12_door_61 ?_
          refine pw_isub (pc := 62) dX12_door_62 ?_
          refine pw_iconst (pc := 63) dX12_door_63 ?_
          refine pw_aload_n (z := mo_) (pc := 64) dX12_door_64 rfl rfl ?_
          refine pw_callV (c := 12) (o := mo_) (As := []) (rest := [ii_ 1, ii_ ((2 ^ (h mRoads 2).toNat) - 1), ii_ t, rr_ G mo_]) (pc := 65) dX12_door_65 (c_seats hM g50) lX12_331 mX12_seats vX12_seats (im_mo_ hM) k_mo_ rfl rfl rfl (by decide) ⟨Nat.zero_le _, Nat.zero_le _⟩ (Nat.le_of_ble_eq_true rfl) (k_i (fun z65 h65 y65 q65 => ?_))
          obtain ⟨rfl, rfl⟩ := q65
          rw [n_g50_mRoads] at y65 ⊢
          refine pw_ishl1 (pc := 68) dX12_door_68 (by first | omega | (simp only [n_g2_mRoads, n_g50_mRoads]; omega)) ?_
          refine pw_iconst (pc := 69) dX12_door_69 ?_
          refine pw_isub (pc := 70) dX12_door_70 ?_
          refine pw_iload_n (z := r) (pc := 71) dX12_door_71 rfl rfl ?_
          refine pw_iload_n (z := s) (pc := 72) dX12_door_72 rfl rfl ?_
          refine pw_lconst (z := 1) (pc := 73) dX12_door_73 rfl ?_
          refine pw_lconst (z := 1) (pc := 74) dX12_door_74 rfl ?_
          refine pw_callV (c := 12) (o := mo_) (As := [ii_ t, ii_ ((2 ^ (h mRoads 2).toNat) - 1), ii_ ((2 ^ (h mRoads 0).toNat) - 1), ii_ r, ii_ s, ll_ 1, ll_ 1]) (rest := []) (pc := 75) dX12_door_75 (c_come hM (h mRoads 2).toNat g50 t (2 ^ (h mRoads 2).toNat - 1) (2 ^ (h mRoads 0).toNat - 1) r s 1 1 0 pr) lX12_498 mX12_comeIn vX12_comeIn (im_mo_ hM) k_mo_ rfl rfl rfl ⟨by show 5 + (h mRoads 2).toNat + 1 ≤ 10; omega, by show 19 + 16 + 60 * (5 + (h mRoads 2).toNat) ≤ 60 * 10; omega⟩ ⟨Nat.zero_le _, Nat.zero_le _⟩ (Nat.le_of_ble_eq_true rfl) (k_v (fun h75 q75 => ?_))
          obtain ⟨f75, o75, r75⟩ := q75
          rw [q1] at r75
          have r76 : frc_ h75 (dor_ (h mRoads) r s t) (pm_ (h mRoads) r.toNat 1) := r75
          have db := (din_b (t := t) (se := s) (by omega) hd (by omega) _ _ _ _ _ _ du).1
          have fx := frc_x (show 0 < pm_ (h mRoads) r.toNat 1 by omega) (show 0 ≤ dor_ (h mRoads) r s t from db) r76.1 r76.2
          refine pw_iload (z := w) (pc := 78) dX12_door_78 rfl ?_
          refine pw_if_ne (t := 90) (pc := 80) dX12_door_80 (by decide) (by first | omega | (simp only [n_g2_mRoads, n_g50_mRoads]; omega)) (fun c80 => ?_) (fun c80 => ?_)
          · refine pw_aload_n (z := mo_) (pc := 90) dX12_door_90 rfl rfl ?_
            refine pw_gJ (x := 52) (pc := 91) dX12_door_91 fX12_485 (im_mo_ hM) k_mo_ rfl rfl (fun r91 => ?_)
            exact pw_lret (pc := 94) dX12_door_94 (by first | omega | (simp only [n_g2_mRoads, n_g50_mRoads]; omega)) (by
                      first
                      | exact ⟨by rw [e2]; exact off_up off_rf (by decide), fun q q0 q1 q2 => by rw [e2, up_at, if_neg q0], by rw [e2, up_same], by unfold doq_; rw [if_f (by omega)]⟩
                      | (refine ⟨off_tr (by rw [e50, e45, e2]; exact off_up (off_up (off_up off_rf (by decide)) (by decide)) (by decide)) f75, fun q q0 q1 q9 => by rw [o75 q q1 q9, q2]; unfold ob_; rw [if_neg q9, if_neg q1, if_neg q0], by rw [o75 0 (by decide) (by decide), q2]; rfl, ?_⟩
                         unfold doq_
                         rw [if_t gd]
                         first
                         | (rw [if_pos (by omega)]; exact r76.1)
                         | (rw [if_neg (by omega)]; exact r76.2)))
          · refine pw_aload_n (z := mo_) (pc := 83) dX12_door_83 rfl rfl ?_
            refine pw_gJ (x := 51) (pc := 84) dX12_door_84 fX12_481 (im_mo_ hM) k_mo_ rfl rfl (fun r84 => ?_)
            refine pw_goto (t := 94) (pc := 87) dX12_door_87 (by decide) ?_
            exact pw_lret (pc := 94) dX12_door_94 (by first | omega | (simp only [n_g2_mRoads, n_g50_mRoads]; omega)) (by
                      first
                      | exact ⟨by rw [e2]; exact off_up off_rf (by decide), fun q q0 q1 q2 => by rw [e2, up_at, if_neg q0], by rw [e2, up_same], by unfold doq_; rw [if_f (by omega)]⟩
                      | (refine ⟨off_tr (by rw [e50, e45, e2]; exact off_up (off_up (off_up off_rf (by decide)) (by decide)) (by decide)) f75, fun q q0 q1 q9 => by rw [o75 q q1 q9, q2]; unfold ob_; rw [if_neg q9, if_neg q1, if_neg q0], by rw [o75 0 (by decide) (by decide), q2]; rfl, ?_⟩
                         unfold doq_
                         rw [if_t gd]
                         first
                         | (rw [if_pos (by omega)]; exact r76.1)
                         | (rw [if_neg (by omega)]; exact r76.2)))
        · simp -failIfUnchanged only [n_g2_mRoads] at p33
          refine pw_if_ne (t := 43) (pc := 36) dX12_door_36 (by decide) (by first | omega | (simp only [n_g2_mRoads]; omega)) (fun c36 => absurd c36 (by decide)) (fun _ => ?_)
          refine pw_ldc2 (z := -1) (pc := 39) dX12_door_39 kX12_502 rfl ?_
          exact pw_lret (pc := 42) dX12_door_42 (by first | omega | (simp only [n_g2_mRoads]; omega)) (by
                    first
                    | exact ⟨by rw [e2]; exact off_up off_rf (by decide), fun q q0 q1 q2 => by rw [e2, up_at, if_neg q0], by rw [e2, up_same], by unfold doq_; rw [if_f (by omega)]⟩
                    | (refine ⟨off_tr (by rw [e50, e45, e2]; exact off_up (off_up (off_up off_rf (by decide)) (by decide)) (by decide)) f75, fun q q0 q1 q9 => by rw [o75 q q1 q9, q2]; unfold ob_; rw [if_neg q9, if_neg q1, if_neg q0], by rw [o75 0 (by decide) (by decide), q2]; rfl, ?_⟩
                       unfold doq_
                       rw [if_t gd]
                       first
                       | (rw [if_pos (by omega)]; exact r76.1)
                       | (rw [if_neg (by omega)]; exact r76.2)))
      · simp -failIfUnchanged only [n_g2_mRoads] at p23
        refine pw_if_eq (t := 39) (pc := 26) dX12_door_26 (by decide) (by first | omega | (simp only [n_g2_mRoads]; omega)) (fun _ => ?_) (fun c26 => absurd c26 (by decide))
        refine pw_ldc2 (z := -1) (pc := 39) dX12_door_39 kX12_502 rfl ?_
        exact pw_lret (pc := 42) dX12_door_42 (by first | omega | (simp only [n_g2_mRoads]; omega)) (by
                  first
                  | exact ⟨by rw [e2]; exact off_up off_rf (by decide), fun q q0 q1 q2 => by rw [e2, up_at, if_neg q0], by rw [e2, up_same], by unfold doq_; rw [if_f (by omega)]⟩
                  | (refine ⟨off_tr (by rw [e50, e45, e2]; exact off_up (off_up (off_up off_rf (by decide)) (by decide)) (by decide)) f75, fun q q0 q1 q9 => by rw [o75 q q1 q9, q2]; unfold ob_; rw [if_neg q9, if_neg q1, if_neg q0], by rw [o75 0 (by decide) (by decide), q2]; rfl, ?_⟩
                     unfold doq_
                     rw [if_t gd]
                     first
                     | (rw [if_pos (by omega)]; exact r76.1)
                     | (rw [if_neg (by omega)]; exact r76.2)))
    · simp -failIfUnchanged only [n_g2_mRoads] at p15
      refine pw_if_eq (t := 39) (pc := 18) dX12_door_18 (by decide) (by first | omega | (simp only [n_g2_mRoads]; omega)) (fun _ => ?_) (fun c18 => absurd c18 (by decide))
      refine pw_ldc2 (z := -1) (pc := 39) dX12_door_39 kX12_502 rfl ?_
      exact pw_lret (pc := 42) dX12_door_42 (by first | omega | (simp only [n_g2_mRoads]; omega)) (by
                first
                | exact ⟨by rw [e2]; exact off_up off_rf (by decide), fun q q0 q1 q2 => by rw [e2, up_at, if_neg q0], by rw [e2, up_same], by unfold doq_; rw [if_f (by omega)]⟩
                | (refine ⟨off_tr (by rw [e50, e45, e2]; exact off_up (off_up (off_up off_rf (by decide)) (by decide)) (by decide)) f75, fun q q0 q1 q9 => by rw [o75 q q1 q9, q2]; unfold ob_; rw [if_neg q9, if_neg q1, if_neg q0], by rw [o75 0 (by decide) (by decide), q2]; rfl, ?_⟩
                   unfold doq_
                   rw [if_t gd]
                   first
                   | (rw [if_pos (by omega)]; exact r76.1)
                   | (rw [if_neg (by omega)]; exact r76.2)))
  · simp -failIfUnchanged only [n_g2_mRoads] at p7
    refine pw_if_eq (t := 39) (pc := 10) dX12_door_10 (by decide) (by first | omega | (simp only [n_g2_mRoads]; omega)) (fun _ => ?_) (fun c10 => absurd c10 (by decide))
    refine pw_ldc2 (z := -1) (pc := 39) dX12_door_39 kX12_502 rfl ?_
    exact pw_lret (pc := 42) dX12_door_42 (by first | omega | (simp only [n_g2_mRoads]; omega)) (by
              first
              | exact ⟨by rw [e2]; exact off_up off_rf (by decide), fun q q0 q1 q2 => by rw [e2, up_at, if_neg q0], by rw [e2, up_same], by unfold doq_; rw [if_f (by omega)]⟩
              | (refine ⟨off_tr (by rw [e50, e45, e2]; exact off_up (off_up (off_up off_rf (by decide)) (by decide)) (by decide)) f75, fun q q0 q1 q9 => by rw [o75 q q1 q9, q2]; unfold ob_; rw [if_neg q9, if_neg q1, if_neg q0], by rw [o75 0 (by decide) (by decide), q2]; rfl, ?_⟩
                 unfold doq_
                 rw [if_t gd]
                 first
                 | (rw [if_pos (by omega)]; exact r76.1)
                 | (rw [if_neg (by omega)]; exact r76.2)))

