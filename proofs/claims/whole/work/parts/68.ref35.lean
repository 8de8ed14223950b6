set_option maxHeartbeats 4000000 in
set_option maxRecDepth 100000 in
theorem c_takeWord {G : GT_} (hM : okM_ G) (h : PH_) (tk : Nat → TK_) (N : Nat) (w : Nat) (hw : w < 30) (X : RE_ Nat) (H : RP_ tk N h X) : PC G yX12_takeWord cX12_takeWord 2 none 3 [rr_ G mo_, ii_ (w : Int)] h (qv_ (fun h' => fr7_ h h' ∧ RP_ tk N h' (bd_ X (tkw_ tk w)))) := by
  have R7 := RP_7 H
  refine PC.of (lv := [some (rr_ G mo_), some (ii_ (w : Int))]) (by decide +kernel) (Nat.le_of_ble_eq_true rfl) rfl rfl ?_
  refine pw_aload_n (z := mo_) (pc := 0) dX12_takeWord_0 rfl rfl ?_
  refine pw_iload_n (z := (w : Int)) (pc := 1) dX12_takeWord_1 rfl rfl ?_
  refine pw_callV (c := 12) (o := mo_) (As := [ii_ (w : Int)]) (rest := []) (pc := 2) dX12_takeWord_2 (c_hasWord hM h (by first | omega) (w : Int) (by first | omega)) lX12_230 mX12_hasWord vX12_hasWord (im_mo_ hM) k_mo_ rfl rfl rfl (by decide) ⟨Nat.zero_le _, Nat.zero_le _⟩ (Nat.le_of_ble_eq_true rfl) (k_i (fun z2 h2 y2 q2 => ?_))
  obtain ⟨rfl, p2⟩ | ⟨rfl, p2⟩ := q2
  · have e2 : ¬ wrd_ h (w : Int) → h2 = h := fun u => by first | exact absurd p2.1 u | rw [p2.2, up_self]
    refine pw_if_ne (t := 13) (pc := 5) dX12_takeWord_5 (by decide) (by first | omega) (fun _ => ?_) (fun c5 => absurd c5 (by decide))
    exact pw_vret (pc := 13) dX12_takeWord_13 (by
              cases X with
              | ok a =>
                have H : RPO_ tk N h a := H
                have s := RS_wd (RPO_RS H) (w := w) hw
                show fr7_ h h2 ∧ RP_ tk N h2 (tkw_ tk w a)
                unfold tkw_
                first
                | (have q := (s.mp p2.1).2
                   rw [if_t q, p2.2]
                   exact ⟨fr7_7, (RP_n H (by rw [q.1]; decide)).2⟩)
                | (have w9 := RP_w (w := 1) H (by omega)
                   rw [if_f (fun u => p2.1 (s.mpr ⟨H.2.2.2, u⟩)), q10]
                   exact ⟨by rw [w9.1]; exact fr7_8, w9.2⟩)
              | error x =>
                have H : RPE_ tk N h x := H
                have n8 : ¬ h mo_ 8 = 0 := by have := H.2.2; omega
                first
                | exact absurd p2.1.1 n8
                | (rw [q10, wro_f n8]; exact ⟨fr7_rf, H⟩))
  · have e2 : ¬ wrd_ h (w : Int) → h2 = h := fun u => by first | exact absurd p2.1 u | rw [p2.2, up_self]
    refine pw_if_ne (t := 13) (pc := 5) dX12_takeWord_5 (by decide) (by first | omega) (fun c5 => absurd c5 (by decide)) (fun _ => ?_)
    refine pw_aload_n (z := mo_) (pc := 8) dX12_takeWord_8 rfl rfl ?_
    refine pw_iconst (pc := 9) dX12_takeWord_9 ?_
    refine pw_callV (c := 12) (o := mo_) (As := [ii_ 1]) (rest := []) (pc := 10) dX12_takeWord_10 (c_wrong hM h2 (by rw [e2 p2.1]; omega) (by rw [e2 p2.1]; omega) 1 (by first | omega)) lX12_224 mX12_wrong vX12_wrong (im_mo_ hM) k_mo_ rfl rfl rfl (by decide) ⟨Nat.zero_le _, Nat.zero_le _⟩ (Nat.le_of_ble_eq_true rfl) (k_v (fun h10 q10 => ?_))
    rw [e2 p2.1] at q10
    exact pw_vret (pc := 13) dX12_takeWord_13 (by
              cases X with
              | ok a =>
                have H : RPO_ tk N h a := H
                have s := RS_wd (RPO_RS H) (w := w) hw
                show fr7_ h h10 ∧ RP_ tk N h10 (tkw_ tk w a)
                unfold tkw_
                first
                | (have q := (s.mp p2.1).2
                   rw [if_t q, p2.2]
                   exact ⟨fr7_7, (RP_n H (by rw [q.1]; decide)).2⟩)
                | (have w9 := RP_w (w := 1) H (by omega)
                   rw [if_f (fun u => p2.1 (s.mpr ⟨H.2.2.2, u⟩)), q10]
                   exact ⟨by rw [w9.1]; exact fr7_8, w9.2⟩)
              | error x =>
                have H : RPE_ tk N h x := H
                have n8 : ¬ h mo_ 8 = 0 := by have := H.2.2; omega
                first
                | exact absurd p2.1.1 n8
                | (rw [q10, wro_f n8]; exact ⟨fr7_rf, H⟩))

set_option maxHeartbeats 4000000 in
set_option maxRecDepth 100000 in
theorem c_takeNumber {G : GT_} (hM : okM_ G) (h : PH_) (tk : Nat → TK_) (N : Nat) (lo hi : Int) (h1 : ir_ lo) (h2 : ir_ hi) (X : RE_ Nat) (H : RP_ tk N h X) : PC G yX12_takeNumber cX12_takeNumber 3 (some .int) 2 [rr_ G mo_, ii_ lo, ii_ hi] h (qi_ (fun z h' => fr7_ h h' ∧ RP2_ tk N h' z (bd_ X (tkn_ tk lo hi)))) := by
  have R7 := RP_7 H
  have key : ∀ a, X = .ok a → RPO_ tk N h a ∧ h mo_ 8 = 0 ∧ h mo_ 7 = (a : Int) ∧ h mSort (h mo_ 7) = (tk a).1 ∧ ((tk a).1 = 2 → h mValue (h mo_ 7) = (tk a).2.2.1) := fun a e => by
    rw [e] at H
    have H : RPO_ tk N h a := H
    have t := H.1.1.1 a H.2.2.1
    rw [← H.2.1] at t
    exact ⟨H, H.2.2.2, H.2.1, t.1, fun u => t.2.2.1 (Or.inl u)⟩
  have kez : ∀ x, X = .error x → RPE_ tk N h x ∧ 0 < h mo_ 8 := fun x e => by
    rw [e] at H
    have H : RPE_ tk N h x := H
    exact ⟨H, by have := H.2.2; omega⟩
  refine PC.of (lv := [some (rr_ G mo_), some (ii_ lo), some (ii_ hi)]) (by decide +kernel) (Nat.le_of_ble_eq_true rfl) rfl rfl ?_
  have J70 : ∀ (hb : PH_), ((hb = h ∧ (0 < h mo_ 8 ∨ h mo_ 8 = 0 ∧ h mSort (h mo_ 7) = 2 ∧ lo ≤ h mValue (h mo_ 7) ∧ h mValue (h mo_ 7) ≤ hi)) ∨ (h mo_ 8 = 0 ∧ h mSort (h mo_ 7) ≠ 2 ∧ hb = wro_ h 1) ∨ (h mo_ 8 = 0 ∧ h mSort (h mo_ 7) = 2 ∧ (h mValue (h mo_ 7) < lo ∨ hi < h mValue (h mo_ 7)) ∧ hb = wro_ h 4)) → PW G RX12 cX12_takeNumber 3 (some .int) (rm_ 2) 0 0 (zm_ G (qi_ (fun z h' => fr7_ h h' ∧ RP2_ tk N h' z (bd_ X (tkn_ tk lo hi))))) 70 [some (rr_ G mo_), some (ii_ lo), some (ii_ hi)] [] hb := by
    intro hb hc
    have b7 : (0 ≤ hb mo_ 7 ∧ hb mo_ 7 ≤ N) ∧ (0 ≤ hb mo_ 8 ∧ hb mo_ 8 < 2147483648) ∧ fr7_ h hb ∧ RP2_ tk N (if hb mo_ 8 = 0 then up_ hb mo_ 7 (hb mo_ 7 + 1) else hb) (if hb mo_ 8 = 0 then h mValue (h mo_ 7) else 0) (bd_ X (tkn_ tk lo hi)) ∧ (hb mo_ 8 = 0 → hb = h ∧ h mSort (h mo_ 7) = 2 ∧ 0 ≤ h mValue (h mo_ 7) ∧ h mValue (h mo_ 7) ≤ 9999) := by
      cases X with
      | ok a =>
        obtain ⟨K1, K2, K3, K4, K5⟩ := key a rfl
        show _ ∧ _ ∧ _ ∧ RP2_ tk N _ _ (tkn_ tk lo hi a) ∧ _
        unfold tkn_
        rcases hc with ⟨u1, u2⟩ | ⟨u1, u2, u3⟩ | ⟨u1, u2, u3, u4⟩
        · have u5 : h mSort (h mo_ 7) = 2 ∧ lo ≤ h mValue (h mo_ 7) ∧ h mValue (h mo_ 7) ≤ hi := by rcases u2 with u2 | u2; omega; exact u2.2
          rw [u1]
          rw [K4] at u5
          rw [if_t u5.1, if_t (by rw [← K5 u5.1]; exact u5.2), if_pos K2, if_pos K2]
          exact ⟨by omega, by omega, fr7_rf, ⟨(RP_n K1 (by rw [u5.1]; decide)).2, K5 u5.1⟩, fun _ => ⟨rfl, by rw [K4]; exact u5.1, by rw [K5 u5.1]; exact ((K1.1.2.2 a).2 u5.1)⟩⟩
        · have w9 := RP_w (w := 1) K1 (by omega)
          rw [K4] at u2
          have e8 : hb mo_ 8 = flt_ tk 1 a := by rw [u3, w9.1, up_same]
          have e7 : hb mo_ 7 = h mo_ 7 := by rw [u3, w9.1, up_at, if_neg (by decide)]
          have w3 := w9.2.2.2.2
          rw [if_f u2, if_neg (by omega), if_neg (by omega), u3]
          rw [← u3]
          exact ⟨by omega, by omega, by rw [u3, w9.1]; exact fr7_8, ⟨by rw [u3]; exact w9.2, rfl⟩, fun z => by omega⟩
        · have w9 := RP_w (w := 4) K1 (by omega)
          rw [K4] at u2
          rw [K5 u2] at u3
          have e8 : hb mo_ 8 = flt_ tk 4 a := by rw [u4, w9.1, up_same]
          have e7 : hb mo_ 7 = h mo_ 7 := by rw [u4, w9.1, up_at, if_neg (by decide)]
          have w3 := w9.2.2.2.2
          rw [if_t u2, if_f (by omega), if_neg (by omega), if_neg (by omega)]
          exact ⟨by omega, by omega, by rw [u4, w9.1]; exact fr7_8, ⟨by rw [u4]; exact w9.2, rfl⟩, fun z => by omega⟩
      | error x =>
        obtain ⟨K1, K2⟩ := kez x rfl
        have hh : hb = h := by
          rcases hc with u | u | u
          · exact u.1
          · omega
          · omega
        rw [hh, if_neg (by omega), if_neg (by omega)]
        exact ⟨by omega, by omega, fr7_rf, ⟨K1, rfl⟩, fun z => by omega⟩
    refine pw_aload_n (z := mo_) (pc := 70) dX12_takeNumber_70 rfl rfl ?_
    refine pw_gI (x := 8) (pc := 71) dX12_takeNumber_71 fX12_218 (im_mo_ hM) k_mo_ rfl rfl (fun r71 => ?_)
    refine pw_if_le (t := 79) (pc := 74) dX12_takeNumber_74 (by decide) (by first | omega) (fun c74 => ?_) (fun c74 => ?_)
    · have b8 : hb mo_ 8 = 0 := by omega
      have rb := b7.2.2.2.2 b8
      have hbv : hb mValue (hb mo_ 7 + 1 - 1) = h mValue (h mo_ 7) := by rw [rb.1]; congr 1; omega
      refine pw_aload_n (z := mo_) (pc := 79) dX12_takeNumber_79 rfl rfl ?_
      refine pw_dup (pc := 80) dX12_takeNumber_80 rfl ?_
      refine pw_gI (x := 7) (pc := 81) dX12_takeNumber_81 fX12_215 (im_mo_ hM) k_mo_ rfl rfl (fun r81 => ?_)
      refine pw_iconst (pc := 84) dX12_takeNumber_84 ?_
      refine pw_iadd (pc := 85) dX12_takeNumber_85 ?_
      refine pw_pI (x := 7) (pc := 86) dX12_takeNumber_86 fX12_215 (im_mo_ hM) k_mo_ rfl rfl (by first | omega) ?_
      obtain ⟨g86, e86⟩ : ∃ x, x = up_ hb mo_ 7 ((hb mo_ 7) + 1) := ⟨_, rfl⟩
      refine pw_heq e86 ?_
      refine pw_aload_n (z := mo_) (pc := 89) dX12_takeNumber_89 rfl rfl ?_
      refine pw_getR (r := mValue) (pc := 90) dX12_takeNumber_90 fX12_30 (im_mo_ hM) k_mo_ rfl fr_mValue ?_
      refine pw_aload_n (z := mo_) (pc := 93) dX12_takeNumber_93 rfl rfl ?_
      refine pw_gI (x := 7) (pc := 94) dX12_takeNumber_94 fX12_215 (im_mo_ hM) k_mo_ rfl rfl (fun r94 => ?_)
      rw [show g86 mo_ 7 = ((hb mo_ 7) + 1) from by rw [e86, up_same]] at r94 ⊢
      refine pw_iconst (pc := 97) dX12_takeNumber_97 ?_
      refine pw_isub (pc := 98) dX12_takeNumber_98 ?_
      refine pw_lald (pc := 99) dX12_takeNumber_99 (im_mValue hM) k_mValue 1002 l_mValue (by first | omega) (by first | omega) (by first | omega) (fun r99 => ?_)
      have n_g86_mValue : g86 mValue = hb mValue := (by rw [e86]; exact up_off (by decide))
      rw [n_g86_mValue] at r99 ⊢
      rw [hbv]
      refine pw_l2i (pc := 100) dX12_takeNumber_100 ?_
      exact pw_iret (pc := 101) dX12_takeNumber_101 (by first | omega | (simp only [n_g86_mValue]; omega)) (by
                have r := b7.2.2.2.1
                rw [if_pos b8, if_pos b8] at r
                rw [rb.1] at r
                have e9 : g86 = up_ h mo_ 7 (h mo_ 7 + 1) := by rw [e86, rb.1]
                rw [e9]
                exact ⟨fr7_7, r⟩)
    · refine pw_iconst (pc := 77) dX12_takeNumber_77 ?_
      exact pw_iret (pc := 78) dX12_takeNumber_78 (by first | omega) (by
                have b8 : ¬ hb mo_ 8 = 0 := by omega
                have r := b7.2.2.2.1
                rw [if_neg b8, if_neg b8] at r
                exact ⟨b7.2.2.1, r⟩)
  refine pw_aload_n (z := mo_) (pc := 0) dX12_takeNumber_0 rfl rfl ?_
  refine pw_gI (x := 8) (pc := 1) dX12_takeNumber_1 fX12_218 (im_mo_ hM) k_mo_ rfl rfl (fun r1 => ?_)
  refine pw_if_ne (t := 28) (pc := 4) dX12_takeNumber_4 (by decide) (by first | omega) (fun c4 => ?_) (fun c4 => ?_)
  · refine pw_aload_n (z := mo_) (pc := 28) dX12_takeNumber_28 rfl rfl ?_
    refine pw_gI (x := 8) (pc := 29) dX12_takeNumber_29 fX12_218 (im_mo_ hM) k_mo_ rfl rfl (fun r29 => ?_)
    refine pw_if_ne (t := 70) (pc := 32) dX12_takeNumber_32 (by decide) (by first | omega) (fun c32 => ?_) (fun c32 => ?_)
    · exact J70 _ (by
              first
              | exact Or.inr (Or.inl ⟨by omega, by omega, q22⟩)
              | exact Or.inl ⟨rfl, Or.inl (by omega)⟩
              | exact Or.inr (Or.inr ⟨by omega, by omega, Or.inl (lc_l c47), q67⟩)
              | exact Or.inr (Or.inr ⟨by omega, by omega, Or.inr (lc_g c62), q67⟩)
              | exact Or.inl ⟨rfl, Or.inr ⟨by omega, by omega, lc_nl c47, lc_ng c62⟩⟩)
    · refine pw_aload_n (z := mo_) (pc := 35) dX12_takeNumber_35 rfl rfl ?_
      refine pw_getR (r := mValue) (pc := 36) dX12_takeNumber_36 fX12_30 (im_mo_ hM) k_mo_ rfl fr_mValue ?_
      refine pw_aload_n (z := mo_) (pc := 39) dX12_takeNumber_39 rfl rfl ?_
      refine pw_gI (x := 7) (pc := 40) dX12_takeNumber_40 fX12_215 (im_mo_ hM) k_mo_ rfl rfl (fun r40 => ?_)
      refine pw_lald (pc := 43) dX12_takeNumber_43 (im_mValue hM) k_mValue 1002 l_mValue (by first | omega) (by first | omega) (by first | omega) (fun r43 => ?_)
      refine pw_iload_n (z := lo) (pc := 44) dX12_takeNumber_44 rfl rfl ?_
      refine pw_i2l (pc := 45) dX12_takeNumber_45 (by first | omega) ?_
      refine pw_lcmp (pc := 46) dX12_takeNumber_46 (by first | omega) (by first | omega) ?_
      refine pw_if_lt (t := 65) (pc := 47) dX12_takeNumber_47 (by decide) (by first | omega) (fun c47 => ?_) (fun c47 => ?_)
      · refine pw_aload_n (z := mo_) (pc := 65) dX12_takeNumber_65 rfl rfl ?_
        refine pw_iconst (pc := 66) dX12_takeNumber_66 ?_
        refine pw_callV (c := 12) (o := mo_) (As := [ii_ 4]) (rest := []) (pc := 67) dX12_takeNumber_67 (c_wrong hM h (by first | omega) (by first | omega) 4 (by first | omega)) lX12_224 mX12_wrong vX12_wrong (im_mo_ hM) k_mo_ rfl rfl rfl (by decide) ⟨Nat.zero_le _, Nat.zero_le _⟩ (Nat.le_of_ble_eq_true rfl) (k_v (fun h67 q67 => ?_))
        exact J70 _ (by
                first
                | exact Or.inr (Or.inl ⟨by omega, by omega, q22⟩)
                | exact Or.inl ⟨rfl, Or.inl (by omega)⟩
                | exact Or.inr (Or.inr ⟨by omega, by omega, Or.inl (lc_l c47), q67⟩)
                | exact Or.inr (Or.inr ⟨by omega, by omega, Or.inr (lc_g c62), q67⟩)
                | exact Or.inl ⟨rfl, Or.inr ⟨by omega, by omega, lc_nl c47, lc_ng c62⟩⟩)
      · refine pw_aload_n (z := mo_) (pc := 50) dX12_takeNumber_50 rfl rfl ?_
        refine pw_getR (r := mValue) (pc := 51) dX12_takeNumber_51 fX12_30 (im_mo_ hM) k_mo_ rfl fr_mValue ?_
        refine pw_aload_n (z := mo_) (pc := 54) dX12_takeNumber_54 rfl rfl ?_
        refine pw_gI (x := 7) (pc := 55) dX12_takeNumber_55 fX12_215 (im_mo_ hM) k_mo_ rfl rfl (fun r55 => ?_)
        refine pw_lald (pc := 58) dX12_takeNumber_58 (im_mValue hM) k_mValue 1002 l_mValue (by first | omega) (by first | omega) (by first | omega) (fun r58 => ?_)
        refine pw_iload_n (z := hi) (pc := 59) dX12_takeNumber_59 rfl rfl ?_
        refine pw_i2l (pc := 60) dX12_takeNumber_60 (by first | omega) ?_
        refine pw_lcmp (pc := 61) dX12_takeNumber_61 (by first | omega) (by first | omega) ?_
        refine pw_if_le (t := 70) (pc := 62) dX12_takeNumber_62 (by decide) (by first | omega) (fun c62 => ?_) (fun c62 => ?_)
        · exact J70 _ (by
                  first
                  | exact Or.inr (Or.inl ⟨by omega, by omega, q22⟩)
                  | exact Or.inl ⟨rfl, Or.inl (by omega)⟩
                  | exact Or.inr (Or.inr ⟨by omega, by omega, Or.inl (lc_l c47), q67⟩)
                  | exact Or.inr (Or.inr ⟨by omega, by omega, Or.inr (lc_g c62), q67⟩)
                  | exact Or.inl ⟨rfl, Or.inr ⟨by omega, by omega, lc_nl c47, lc_ng c62⟩⟩)
        · refine pw_aload_n (z := mo_) (pc := 65) dX12_takeNumber_65 rfl rfl ?_
          refine pw_iconst (pc := 66) dX12_takeNumber_66 ?_
          refine pw_callV (c := 12) (o := mo_) (As := [ii_ 4]) (rest := []) (pc := 67) dX12_takeNumber_67 (c_wrong hM h (by first | omega) (by first | omega) 4 (by first | omega)) lX12_224 mX12_wrong vX12_wrong (im_mo_ hM) k_mo_ rfl rfl rfl (by decide) ⟨Nat.zero_le _, Nat.zero_le _⟩ (Nat.le_of_ble_eq_true rfl) (k_v (fun h67 q67 => ?_))
          exact J70 _ (by
                  first
                  | exact Or.inr (Or.inl ⟨by omega, by omega, q22⟩)
                  | exact Or.inl ⟨rfl, Or.inl (by omega)⟩
                  | exact Or.inr (Or.inr ⟨by omega, by omega, Or.inl (lc_l c47), q67⟩)
                  | exact Or.inr (Or.inr ⟨by omega, by omega, Or.inr (lc_g c62), q67⟩)
                  | exact Or.inl ⟨rfl, Or.inr ⟨by omega, by omega, lc_nl c47, lc_ng c62⟩⟩)
  · refine pw_aload_n (z := mo_) (pc := 7) dX12_takeNumber_7 rfl rfl ?_
    refine pw_getR (r := mSort) (pc := 8) dX12_takeNumber_8 fX12_24 (im_mo_ hM) k_mo_ rfl fr_mSort ?_
    refine pw_aload_n (z := mo_) (pc := 11) dX12_takeNumber_11 rfl rfl ?_
    refine pw_gI (x := 7) (pc := 12) dX12_takeNumber_12 fX12_215 (im_mo_ hM) k_mo_ rfl rfl (fun r12 => ?_)
    refine pw_iald (pc := 15) dX12_takeNumber_15 (im_mSort hM) k_mSort 1002 l_mSort (by first | omega) (by first | omega) (by first | omega) (fun r15 => ?_)
    refine pw_iconst (pc := 16) dX12_takeNumber_16 ?_
    refine pw_icmp_eq (t := 28) (pc := 17) dX12_takeNumber_17 (by decide) (by first | omega) (by first | omega) (fun c17 => ?_) (fun c17 => ?_)
    · refine pw_aload_n (z := mo_) (pc := 28) dX12_takeNumber_28 rfl rfl ?_
      refine pw_gI (x := 8) (pc := 29) dX12_takeNumber_29 fX12_218 (im_mo_ hM) k_mo_ rfl rfl (fun r29 => ?_)
      refine pw_if_ne (t := 70) (pc := 32) dX12_takeNumber_32 (by decide) (by first | omega) (fun c32 => ?_) (fun c32 => ?_)
      · exact J70 _ (by
                first
                | exact Or.inr (Or.inl ⟨by omega, by omega, q22⟩)
                | exact Or.inl ⟨rfl, Or.inl (by omega)⟩
                | exact Or.inr (Or.inr ⟨by omega, by omega, Or.inl (lc_l c47), q67⟩)
                | exact Or.inr (Or.inr ⟨by omega, by omega, Or.inr (lc_g c62), q67⟩)
                | exact Or.inl ⟨rfl, Or.inr ⟨by omega, by omega, lc_nl c47, lc_ng c62⟩⟩)
      · refine pw_aload_n (z := mo_) (pc := 35) dX12_takeNumber_35 rfl rfl ?_
        refine pw_getR (r := mValue) (pc := 36) dX12_takeNumber_36 fX12_30 (im_mo_ hM) k_mo_ rfl fr_mValue ?_
        refine pw_aload_n (z := mo_) (pc := 39) dX12_takeNumber_39 rfl rfl ?_
        refine pw_gI (x := 7) (pc := 40) dX12_takeNumber_40 fX12_215 (im_mo_ hM) k_mo_ rfl rfl (fun r40 => ?_)
        refine pw_lald (pc := 43) dX12_takeNumber_43 (im_mValue hM) k_mValue 1002 l_mValue (by first | omega) (by first | omega) (by first | omega) (fun r43 => ?_)
        refine pw_iload_n (z := lo) (pc := 44) dX12_takeNumber_44 rfl rfl ?_
        refine pw_i2l (pc := 45) dX12_takeNumber_45 (by first | omega) ?_
        refine pw_lcmp (pc := 46) dX12_takeNumber_46 (by first | omega) (by first | omega) ?_
        refine pw_if_lt (t := 65) (pc := 47) dX12_takeNumber_47 (by decide) (by first | omega) (fun c47 => ?_) (fun c47 => ?_)
        · refine pw_aload_n (z := mo_) (pc := 65) dX12_takeNumber_65 rfl rfl ?_
          refine pw_iconst (pc := 66) dX12_takeNumber_66 ?_
          refine pw_callV (c := 12) (o := mo_) (As := [ii_ 4]) (rest := []) (pc := 67) dX12_takeNumber_67 (c_wrong hM h (by first | omega) (by first | omega) 4 (by first | omega)) lX12_224 mX12_wrong vX12_wrong (im_mo_ hM) k_mo_ rfl rfl rfl (by decide) ⟨Nat.zero_le _, Nat.zero_le _⟩ (Nat.le_of_ble_eq_true rfl) (k_v (fun h67 q67 => ?_))
          exact J70 _ (by
                  first
                  | exact Or.inr (Or.inl ⟨by omega, by omega, q22⟩)
                  | exact Or.inl ⟨rfl, Or.inl (by omega)⟩
                  | exact Or.inr (Or.inr ⟨by omega, by omega, Or.inl (lc_l c47), q67⟩)
                  | exact Or.inr (Or.inr ⟨by omega, by omega, Or.inr (lc_g c62), q67⟩)
                  | exact Or.inl ⟨rfl, Or.inr ⟨by omega, by omega, lc_nl c47, lc_ng c62⟩⟩)
        · refine pw_aload_n (z := mo_) (pc := 50) dX12_takeNumber_50 rfl rfl ?_
          refine pw_getR (r := mValue) (pc := 51) dX12_takeNumber_51 fX12_30 (im_mo_ hM) k_mo_ rfl fr_mValue ?_
          refine pw_aload_n (z := mo_) (pc := 54) dX12_takeNumber_54 rfl rfl ?_
          refine pw_gI (x := 7) (pc := 55) dX12_takeNumber_55 fX12_215 (im_mo_ hM) k_mo_ rfl rfl (fun r55 => ?_)
          refine pw_lald (pc := 58) dX12_takeNumber_58 (im_mValue hM) k_mValue 1002 l_mValue (by first | omega) (by first | omega) (by first | omega) (fun r58 => ?_)
          refine pw_iload_n (z := hi) (pc := 59) dX12_takeNumber_59 rfl rfl ?_
          refine pw_i2l (pc := 60) dX12_takeNumber_60 (by first | omega) ?_
          refine pw_lcmp (pc := 61) dX12_takeNumber_61 (by first | omega) (by first | omega) ?_
          refine pw_if_le (t := 70) (pc := 62) dX12_takeNumber_62 (by decide) (by first | omega) (fun c62 => ?_) (fun c62 => ?_)
          · exact J70 _ (by
                    first
                    | exact Or.inr (Or.inl ⟨by omega, by omega, q22⟩)
                    | exact Or.inl ⟨rfl, Or.inl (by omega)⟩
                    | exact Or.inr (Or.inr ⟨by omega, by omega, Or.inl (lc_l c47), q67⟩)
                    | exact Or.inr (Or.inr ⟨by omega, by omega, Or.inr (lc_g c62), q67⟩)
                    | exact Or.inl ⟨rfl, Or.inr ⟨by omega, by omega, lc_nl c47, lc_ng c62⟩⟩)
          · refine pw_aload_n (z := mo_) (pc := 65) dX12_takeNumber_65 rfl rfl ?_
            refine pw_iconst (pc := 66) dX12_takeNumber_66 ?_
            refine pw_callV (c := 12) (o := mo_) (As := [ii_ 4]) (rest := []) (pc := 67) dX12_takeNumber_67 (c_wrong hM h (by first | omega) (by first | omega) 4 (by first | omega)) lX12_224 mX12_wrong vX12_wrong (im_mo_ hM) k_mo_ rfl rfl rfl (by decide) ⟨Nat.zero_le _, Nat.zero_le _⟩ (Nat.le_of_ble_eq_true rfl) (k_v (fun h67 q67 => ?_))
            exact J70 _ (by
                    first
                    | exact Or.inr (Or.inl ⟨by omega, by omega, q22⟩)
                    | exact Or.inl ⟨rfl, Or.inl (by omega)⟩
                    | exact Or.inr (Or.inr ⟨by omega, by omega, Or.inl (lc_l c47), q67⟩)
                    | exact Or.inr (Or.inr ⟨by omega, by omega, Or.inr (lc_g c62), q67⟩)
                    | exact Or.inl ⟨rfl, Or.inr ⟨by omega, by omega, lc_nl c47, lc_ng c62⟩⟩)
    · refine pw_aload_n (z := mo_) (pc := 20) dX12_takeNumber_20 rfl rfl ?_
      refine pw_iconst (pc := 21) dX12_takeNumber_21 ?_
      refine pw_callV (c := 12) (o := mo_) (As := [ii_ 1]) (rest := []) (pc := 22) dX12_takeNumber_22 (c_wrong hM h (by first | omega) (by first | omega) 1 (by first | omega)) lX12_224 mX12_wrong vX12_wrong (im_mo_ hM) k_mo_ rfl rfl rfl (by decide) ⟨Nat.zero_le _, Nat.zero_le _⟩ (Nat.le_of_ble_eq_true rfl) (k_v (fun h22 q22 => ?_))
      refine pw_goto (t := 70) (pc := 25) dX12_takeNumber_25 (by decide) ?_
      exact J70 _ (by
              first
              | exact Or.inr (Or.inl ⟨by omega, by omega, q22⟩)
              | exact Or.inl ⟨rfl, Or.inl (by omega)⟩
              | exact Or.inr (Or.inr ⟨by omega, by omega, Or.inl (lc_l c47), q67⟩)
              | exact Or.inr (Or.inr ⟨by omega, by omega, Or.inr (lc_g c62), q67⟩)
              | exact Or.inl ⟨rfl, Or.inr ⟨by omega, by omega, lc_nl c47, lc_ng c62⟩⟩)

set_option maxHeartbeats 4000000 in
set_option maxRecDepth 100000 in
theorem c_takeAfter {G : GT_} (hM : okM_ G) (h : PH_) (tk : Nat → TK_) (N : Nat) (w : Nat) (hw : w < 30) (lo hi : Int) (hx1 : ir_ lo) (hx2 : ir_ hi) (X : RE_ Nat) (H : RP_ tk N h X) : PC G yX12_takeAfter cX12_takeAfter 4 (some .int) 4 [rr_ G mo_, ii_ (w : Int), ii_ lo, ii_ hi] h (qi_ (fun z h' => fr7_ h h' ∧ RP2_ tk N h' z (bd_ (bd_ X (tkw_ tk w)) (tkn_ tk lo hi)))) := by
  refine PC.of (lv := [some (rr_ G mo_), some (ii_ (w : Int)), some (ii_ lo), some (ii_ hi)]) (by decide +kernel) (Nat.le_of_ble_eq_true rfl) rfl rfl ?_
  refine pw_aload_n (z := mo_) (pc := 0) dX12_takeAfter_0 rfl rfl ?_
  refine pw_iload_n (z := (w : Int)) (pc := 1) dX12_takeAfter_1 rfl rfl ?_
  refine pw_callV (c := 12) (o := mo_) (As := [ii_ (w : Int)]) (rest := []) (pc := 2) dX12_takeAfter_2 (c_takeWord hM h tk N w hw X H) lX12_233 mX12_takeWord vX12_takeWord (im_mo_ hM) k_mo_ rfl rfl rfl (by decide) ⟨Nat.zero_le _, Nat.zero_le _⟩ (Nat.le_of_ble_eq_true rfl) (k_v (fun h2 q2 => ?_))
  obtain ⟨f2, r2⟩ := q2
  refine pw_aload_n (z := mo_) (pc := 5) dX12_takeAfter_5 rfl rfl ?_
  refine pw_iload_n (z := lo) (pc := 6) dX12_takeAfter_6 rfl rfl ?_
  refine pw_iload_n (z := hi) (pc := 7) dX12_takeAfter_7 rfl rfl ?_
  refine pw_callV (c := 12) (o := mo_) (As := [ii_ lo, ii_ hi]) (rest := []) (pc := 8) dX12_takeAfter_8 (c_takeNumber hM h2 tk N lo hi hx1 hx2 _ r2) lX12_236 mX12_takeNumber vX12_takeNumber (im_mo_ hM) k_mo_ rfl rfl rfl (by decide) ⟨Nat.zero_le _, Nat.zero_le _⟩ (Nat.le_of_ble_eq_true rfl) (k_i (fun z8 h8 y8 q8 => ?_))
  obtain ⟨f8, r8⟩ := q8
  exact pw_iret (pc := 11) dX12_takeAfter_11 (by first | omega) (⟨fr7_tr f2 f8, r8⟩)

set_option maxHeartbeats 4000000 in
set_option maxRecDepth 100000 in
theorem c_isName {G : GT_} (hM : okM_ G) (h : PH_) (tk : Nat → TK_) (N : Nat) (X : RE_ Nat) (H : RP_ tk N h X) : PC G yX12_isName cX12_isName 1 (some .boolean) 3 [rr_ G mo_] h (qi_ (fun z h' => h = h' ∧ (z = 1 ∧ (∃ a, X = .ok a ∧ nam_ (tk a)) ∨ z = 0 ∧ ¬ (∃ a, X = .ok a ∧ nam_ (tk a))))) := by
  have R7 := RP_7 H
  refine PC.of (lv := [some (rr_ G mo_)]) (by decide +kernel) (Nat.le_of_ble_eq_true rfl) rfl rfl ?_
  refine pw_aload_n (z := mo_) (pc := 0) dX12_isName_0 rfl rfl ?_
  refine pw_gI (x := 8) (pc := 1) dX12_isName_1 fX12_218 (im_mo_ hM) k_mo_ rfl rfl (fun r1 => ?_)
  refine pw_if_ne (t := 34) (pc := 4) dX12_isName_4 (by decide) (by first | omega) (fun c4 => ?_) (fun c4 => ?_)
  · refine pw_iconst (pc := 34) dX12_isName_34 ?_
    exact pw_zret (pc := 35) dX12_isName_35 (by first | omega) (by
              refine ⟨rfl, ?_⟩
              cases X with
              | ok a =>
                have H : RPO_ tk N h a := H
                have t := H.1.1.1 a H.2.2.1
                rw [← H.2.1] at t
                have H8 := H.2.2.2
                have t1 := t.1
                first
                | exact Or.inr ⟨rfl, fun ⟨b, e, u⟩ => by cases e; have := u.1; omega⟩
                | (have w5 := RS_wh (RPO_RS H) H8 (f := 0) 22 (by decide)
                   have w6 : z24 = fcw_ (tk a) 0 22 := by rw [w24]; exact w5
                   first
                   | exact Or.inr ⟨rfl, fun ⟨b, e, u⟩ => by cases e; have := u.2; omega⟩
                   | exact Or.inl ⟨rfl, a, rfl, by omega, by omega⟩)
              | error x =>
                have H : RPE_ tk N h x := H
                have H3 := H.2.2
                first
                | exact Or.inr ⟨rfl, fun ⟨b, e, u⟩ => by cases e⟩
                | omega)
  · refine pw_aload_n (z := mo_) (pc := 7) dX12_isName_7 rfl rfl ?_
    refine pw_getR (r := mSort) (pc := 8) dX12_isName_8 fX12_24 (im_mo_ hM) k_mo_ rfl fr_mSort ?_
    refine pw_aload_n (z := mo_) (pc := 11) dX12_isName_11 rfl rfl ?_
    refine pw_gI (x := 7) (pc := 12) dX12_isName_12 fX12_215 (im_mo_ hM) k_mo_ rfl rfl (fun r12 => ?_)
    refine pw_iald (pc := 15) dX12_isName_15 (im_mSort hM) k_mSort 1002 l_mSort (by first | omega) (by first | omega) (by first | omega) (fun r15 => ?_)
    refine pw_iconst (pc := 16) dX12_isName_16 ?_
    refine pw_icmp_ne (t := 34) (pc := 17) dX12_isName_17 (by decide) (by first | omega) (by first | omega) (fun c17 => ?_) (fun c17 => ?_)
    · refine pw_iconst (pc := 34) dX12_isName_34 ?_
      exact pw_zret (pc := 35) dX12_isName_35 (by first | omega) (by
                refine ⟨rfl, ?_⟩
                cases X with
                | ok a =>
                  have H : RPO_ tk N h a := H
                  have t := H.1.1.1 a H.2.2.1
                  rw [← H.2.1] at t
                  have H8 := H.2.2.2
                  have t1 := t.1
                  first
                  | exact Or.inr ⟨rfl, fun ⟨b, e, u⟩ => by cases e; have := u.1; omega⟩
                  | (have w5 := RS_wh (RPO_RS H) H8 (f := 0) 22 (by decide)
                     have w6 : z24 = fcw_ (tk a) 0 22 := by rw [w24]; exact w5
                     first
                     | exact Or.inr ⟨rfl, fun ⟨b, e, u⟩ => by cases e; have := u.2; omega⟩
                     | exact Or.inl ⟨rfl, a, rfl, by omega, by omega⟩)
                | error x =>
                  have H : RPE_ tk N h x := H
                  have H3 := H.2.2
                  first
                  | exact Or.inr ⟨rfl, fun ⟨b, e, u⟩ => by cases e⟩
                  | omega)
    · refine pw_aload_n (z := mo_) (pc := 20) dX12_isName_20 rfl rfl ?_
      refine pw_iconst (pc := 21) dX12_isName_21 ?_
      refine pw_bipush (pc := 22) dX12_isName_22 rfl ?_
      refine pw_callV (c := 12) (o := mo_) (As := [ii_ 0, ii_ 22]) (rest := []) (pc := 24) dX12_isName_24 (c_wordHere hM h (by first | omega) 0 22 (by first | omega)) lX12_240 mX12_wordHere vX12_wordHere (im_mo_ hM) k_mo_ rfl rfl rfl (by decide) ⟨Nat.zero_le _, Nat.zero_le _⟩ (Nat.le_of_ble_eq_true rfl) (k_i (fun z24 h24 y24 q24 => ?_))
      obtain ⟨rfl, w24⟩ := q24
      refine pw_if_ge (t := 34) (pc := 27) dX12_isName_27 (by decide) (by first | omega) (fun c27 => ?_) (fun c27 => ?_)
      · refine pw_iconst (pc := 34) dX12_isName_34 ?_
        exact pw_zret (pc := 35) dX12_isName_35 (by first | omega) (by
                  refine ⟨rfl, ?_⟩
                  cases X with
                  | ok a =>
                    have H : RPO_ tk N h a := H
                    have t := H.1.1.1 a H.2.2.1
                    rw [← H.2.1] at t
                    have H8 := H.2.2.2
                    have t1 := t.1
                    first
                    | exact Or.inr ⟨rfl, fun ⟨b, e, u⟩ => by cases e; have := u.1; omega⟩
                    | (have w5 := RS_wh (RPO_RS H) H8 (f := 0) 22 (by decide)
                       have w6 : z24 = fcw_ (tk a) 0 22 := by rw [w24]; exact w5
                       first
                       | exact Or.inr ⟨rfl, fun ⟨b, e, u⟩ => by cases e; have := u.2; omega⟩
                       | exact Or.inl ⟨rfl, a, rfl, by omega, by omega⟩)
                  | error x =>
                    have H : RPE_ tk N h x := H
                    have H3 := H.2.2
                    first
                    | exact Or.inr ⟨rfl, fun ⟨b, e, u⟩ => by cases e⟩
                    | omega)
      · refine pw_iconst (pc := 30) dX12_isName_30 ?_
        refine pw_goto (t := 35) (pc := 31) dX12_isName_31 (by decide) ?_
        exact pw_zret (pc := 35) dX12_isName_35 (by first | omega) (by
                  refine ⟨rfl, ?_⟩
                  cases X with
                  | ok a =>
                    have H : RPO_ tk N h a := H
                    have t := H.1.1.1 a H.2.2.1
                    rw [← H.2.1] at t
                    have H8 := H.2.2.2
                    have t1 := t.1
                    first
                    | exact Or.inr ⟨rfl, fun ⟨b, e, u⟩ => by cases e; have := u.1; omega⟩
                    | (have w5 := RS_wh (RPO_RS H) H8 (f := 0) 22 (by decide)
                       have w6 : z24 = fcw_ (tk a) 0 22 := by rw [w24]; exact w5
                       first
                       | exact Or.inr ⟨rfl, fun ⟨b, e, u⟩ => by cases e; have := u.2; omega⟩
                       | exact Or.inl ⟨rfl, a, rfl, by omega, by omega⟩)
                  | error x =>
                    have H : RPE_ tk N h x := H
                    have H3 := H.2.2
                    first
                    | exact Or.inr ⟨rfl, fun ⟨b, e, u⟩ => by cases e⟩
                    | omega)

set_option maxHeartbeats 4000000 in
set_option maxRecDepth 100000 in
theorem c_find1 {G : GT_} (hM : okM_ G) (h : PH_) (tk : Nat → TK_) (N : Nat) (a : Nat) (H : RPO_ tk N h a) (hw1 : (tk a).1 = 1) (nm : NM_) (hn : nmr_ (h mo_ 19) (h mReadNames) (h mReadNameOf) nm) : PC G yX12_find cX12_find 3 (some .int) 1 [rr_ G mo_, ii_ 1] h (qi_ (fun z h' => h = h' ∧ z = fnd_ nm (tk a).2.2.2)) := by
  have R7 := RP_7 (X := .ok a) H
  obtain ⟨n1, n2, n3⟩ := hn
  have tv : h mValue (h mo_ 7) = enc_ 37 (tk a).2.2.2 := by rw [H.2.1]; exact (H.1.1.1 a H.2.2.1).2.2.2 hw1
  have lw := ((H.1.2.2 a).1 hw1).1
  refine PC.of (lv := [some (rr_ G mo_), some (ii_ 1), none]) (by decide +kernel) (Nat.le_of_ble_eq_true rfl) rfl rfl ?_
  refine pw_iconst (pc := 0) dX12_find_0 ?_
  refine pw_istore_n (lv1 := [some (rr_ G mo_), some (ii_ 1), some (ii_ 0)]) (pc := 1) dX12_find_1 rfl (by decide) rfl rfl ?_
  have L2 : ∀ (nn : Nat) (k : Int), (0 ≤ k ∧ k ≤ nm.length) → (fnd_ nm (tk a).2.2.2 = fnd_ (nm.drop k.toNat) (tk a).2.2.2) → (((nm.length : Int) - k + 1 : Int) ≤ nn) → PW G RX12 cX12_find 3 (some .int) (rm_ 1) 0 0 (zm_ G (qi_ (fun z h' => h = h' ∧ z = fnd_ nm (tk a).2.2.2))) 2 [some (rr_ G mo_), some (ii_ 1), some (ii_ k)] [] h := by
    intro nn
    induction nn with
    | zero => intro k ak ae ams; exfalso; omega
    | succ nn ih2 =>
      intro k ak ae ams
      refine pw_iload_n (z := k) (pc := 2) dX12_find_2 rfl rfl ?_
      refine pw_iload_n (z := 1) (pc := 3) dX12_find_3 rfl rfl ?_
      refine pw_if_eq (t := 14) (pc := 4) dX12_find_4 (by decide) (by first | omega) (fun c4 => absurd c4 (by decide)) (fun _ => ?_)
      refine pw_aload_n (z := mo_) (pc := 7) dX12_find_7 rfl rfl ?_
      refine pw_gI (x := 19) (pc := 8) dX12_find_8 fX12_243 (im_mo_ hM) k_mo_ rfl rfl (fun r8 => ?_)
      refine pw_goto (t := 18) (pc := 11) dX12_find_11 (by decide) ?_
      refine pw_icmp_ge (t := 79) (pc := 18) dX12_find_18 (by decide) (by first | omega) (by first | omega) (fun c18 => ?_) (fun c18 => ?_)
      · refine pw_iconst (pc := 79) dX12_find_79 ?_
        exact pw_iret (pc := 80) dX12_find_80 (by first | omega) (⟨rfl, by rw [ae, show k.toNat = nm.length by omega, List.drop_length]; rfl⟩)
      · have kl : k.toNat < nm.length := by omega
        have e1 := n3 k.toNat kl
        rw [tn_c ak.1] at e1
        have e2 := fnd_dr (w := (tk a).2.2.2) kl
        refine pw_iload_n (z := 1) (pc := 21) dX12_find_21 rfl rfl ?_
        refine pw_if_eq (t := 34) (pc := 22) dX12_find_22 (by decide) (by first | omega) (fun c22 => absurd c22 (by decide)) (fun _ => ?_)
        refine pw_aload_n (z := mo_) (pc := 25) dX12_find_25 rfl rfl ?_
        refine pw_getR (r := mReadNames) (pc := 26) dX12_find_26 fX12_109 (im_mo_ hM) k_mo_ rfl fr_mReadNames ?_
        refine pw_iload_n (z := k) (pc := 29) dX12_find_29 rfl rfl ?_
        refine pw_lald (pc := 30) dX12_find_30 (im_mReadNames hM) k_mReadNames 8 l_mReadNames (by first | omega) (by first | omega) (by first | omega) (fun r30 => ?_)
        refine pw_goto (t := 40) (pc := 31) dX12_find_31 (by decide) ?_
        refine pw_aload_n (z := mo_) (pc := 40) dX12_find_40 rfl rfl ?_
        refine pw_getR (r := mValue) (pc := 41) dX12_find_41 fX12_30 (im_mo_ hM) k_mo_ rfl fr_mValue ?_
        refine pw_aload_n (z := mo_) (pc := 44) dX12_find_44 rfl rfl ?_
        refine pw_gI (x := 7) (pc := 45) dX12_find_45 fX12_215 (im_mo_ hM) k_mo_ rfl rfl (fun r45 => ?_)
        refine pw_lald (pc := 48) dX12_find_48 (im_mValue hM) k_mValue 1002 l_mValue (by first | omega) (by first | omega) (by first | omega) (fun r48 => ?_)
        refine pw_lcmp (pc := 49) dX12_find_49 (by first | omega) (by first | omega) ?_
        refine pw_if_ne (t := 73) (pc := 50) dX12_find_50 (by decide) (by first | omega) (fun c50 => ?_) (fun c50 => ?_)
        · refine pw_iinc (z := k) (lv1 := [some (rr_ G mo_), some (ii_ 1), some (ii_ (k + 1))]) (pc := 73) dX12_find_73 rfl (by decide) rfl rfl ?_
          refine pw_goto (t := 2) (pc := 76) dX12_find_76 (by decide) ?_
          exact ih2 _ (by omega) (by rw [ae, e2, if_f (fun u => lc_y c50 (by rw [e1.1, tv, u])), show (k + 1).toNat = k.toNat + 1 by omega]) (by omega)
        · refine pw_iload_n (z := 1) (pc := 53) dX12_find_53 rfl rfl ?_
          refine pw_if_eq (t := 66) (pc := 54) dX12_find_54 (by decide) (by first | omega) (fun c54 => absurd c54 (by decide)) (fun _ => ?_)
          refine pw_aload_n (z := mo_) (pc := 57) dX12_find_57 rfl rfl ?_
          refine pw_getR (r := mReadNameOf) (pc := 58) dX12_find_58 fX12_115 (im_mo_ hM) k_mo_ rfl fr_mReadNameOf ?_
          refine pw_iload_n (z := k) (pc := 61) dX12_find_61 rfl rfl ?_
          refine pw_iald (pc := 62) dX12_find_62 (im_mReadNameOf hM) k_mReadNameOf 8 l_mReadNameOf (by first | omega) (by first | omega) (by first | omega) (fun r62 => ?_)
          refine pw_goto (t := 72) (pc := 63) dX12_find_63 (by decide) ?_
          exact pw_iret (pc := 72) dX12_find_72 (by first | omega) (⟨rfl, by rw [ae, e2, if_t ((enc_eq (B := 37) (by decide) e1.2.2 lw).mp (by rw [← e1.1, ← tv]; exact lc_z c50))]; exact e1.2.1⟩)
  exact L2 _ _ (by omega) (rfl) (Int.self_le_toNat _)

set_option maxHeartbeats 4000000 in
set_option maxRecDepth 100000 in
theorem c_find0 {G : GT_} (hM : okM_ G) (h : PH_) (tk : Nat → TK_) (N : Nat) (a : Nat) (H : RPO_ tk N h a) (hw1 : (tk a).1 = 1) (nm : NM_) (hn : nmr_ (h mo_ 18) (h mNames) (h mNameOf) nm) : PC G yX12_find cX12_find 3 (some .int) 1 [rr_ G mo_, ii_ 0] h (qi_ (fun z h' => h = h' ∧ z = fnd_ nm (tk a).2.2.2)) := by
  have R7 := RP_7 (X := .ok a) H
  obtain ⟨n1, n2, n3⟩ := hn
  have tv : h mValue (h mo_ 7) = enc_ 37 (tk a).2.2.2 := by rw [H.2.1]; exact (H.1.1.1 a H.2.2.1).2.2.2 hw1
  have lw := ((H.1.2.2 a).1 hw1).1
  refine PC.of (lv := [some (rr_ G mo_), some (ii_ 0), none]) (by decide +kernel) (Nat.le_of_ble_eq_true rfl) rfl rfl ?_
  refine pw_iconst (pc := 0) dX12_find_0 ?_
  refine pw_istore_n (lv1 := [some (rr_ G mo_), some (ii_ 0), some (ii_ 0)]) (pc := 1) dX12_find_1 rfl (by decide) rfl rfl ?_
  have L2 : ∀ (nn : Nat) (k : Int), (0 ≤ k ∧ k ≤ nm.length) → (fnd_ nm (tk a).2.2.2 = fnd_ (nm.drop k.toNat) (tk a).2.2.2) → (((nm.length : Int) - k + 1 : Int) ≤ nn) → PW G RX12 cX12_find 3 (some .int) (rm_ 1) 0 0 (zm_ G (qi_ (fun z h' => h = h' ∧ z = fnd_ nm (tk a).2.2.2))) 2 [some (rr_ G mo_), some (ii_ 0), some (ii_ k)] [] h := by
    intro nn
    induction nn with
    | zero => intro k ak ae ams; exfalso; omega
    | succ nn ih2 =>
      intro k ak ae ams
      refine pw_iload_n (z := k) (pc := 2) dX12_find_2 rfl rfl ?_
      refine pw_iload_n (z := 0) (pc := 3) dX12_find_3 rfl rfl ?_
      refine pw_if_eq (t := 14) (pc := 4) dX12_find_4 (by decide) (by first | omega) (fun _ => ?_) (fun c4 => absurd c4 (by decide))
      refine pw_aload_n (z := mo_) (pc := 14) dX12_find_14 rfl rfl ?_
      refine pw_gI (x := 18) (pc := 15) dX12_find_15 fX12_246 (im_mo_ hM) k_mo_ rfl rfl (fun r15 => ?_)
      refine pw_icmp_ge (t := 79) (pc := 18) dX12_find_18 (by decide) (by first | omega) (by first | omega) (fun c18 => ?_) (fun c18 => ?_)
      · refine pw_iconst (pc := 79) dX12_find_79 ?_
        exact pw_iret (pc := 80) dX12_find_80 (by first | omega) (⟨rfl, by rw [ae, show k.toNat = nm.length by omega, List.drop_length]; rfl⟩)
      · have kl : k.toNat < nm.length := by omega
        have e1 := n3 k.toNat kl
        rw [tn_c ak.1] at e1
        have e2 := fnd_dr (w := (tk a).2.2.2) kl
        refine pw_iload_n (z := 0) (pc := 21) dX12_find_21 rfl rfl ?_
        refine pw_if_eq (t := 34) (pc := 22) dX12_find_22 (by decide) (by first | omega) (fun _ => ?_) (fun c22 => absurd c22 (by decide))
        refine pw_aload_n (z := mo_) (pc := 34) dX12_find_34 rfl rfl ?_
        refine pw_getR (r := mNames) (pc := 35) dX12_find_35 fX12_106 (im_mo_ hM) k_mo_ rfl fr_mNames ?_
        refine pw_iload_n (z := k) (pc := 38) dX12_find_38 rfl rfl ?_
        refine pw_lald (pc := 39) dX12_find_39 (im_mNames hM) k_mNames 8 l_mNames (by first | omega) (by first | omega) (by first | omega) (fun r39 => ?_)
        refine pw_aload_n (z := mo_) (pc := 40) dX12_find_40 rfl rfl ?_
        refine pw_getR (r := mValue) (pc := 41) dX12_find_41 fX12_30 (im_mo_ hM) k_mo_ rfl fr_mValue ?_
        refine pw_aload_n (z := mo_) (pc := 44) dX12_find_44 rfl rfl ?_
        refine pw_gI (x := 7) (pc := 45) dX12_find_45 fX12_215 (im_mo_ hM) k_mo_ rfl rfl (fun r45 => ?_)
        refine pw_lald (pc := 48) dX12_find_48 (im_mValue hM) k_mValue 1002 l_mValue (by first | omega) (by first | omega) (by first | omega) (fun r48 => ?_)
        refine pw_lcmp (pc := 49) dX12_find_49 (by first | omega) (by first | omega) ?_
        refine pw_if_ne (t := 73) (pc := 50) dX12_find_50 (by decide) (by first | omega) (fun c50 => ?_) (fun c50 => ?_)
        · refine pw_iinc (z := k) (lv1 := [some (rr_ G mo_), some (ii_ 0), some (ii_ (k + 1))]) (pc := 73) dX12_find_73 rfl (by decide) rfl rfl ?_
          refine pw_goto (t := 2) (pc := 76) dX12_find_76 (by decide) ?_
          exact ih2 _ (by omega) (by rw [ae, e2, if_f (fun u => lc_y c50 (by rw [e1.1, tv, u])), show (k + 1).toNat = k.toNat + 1 by omega]) (by omega)
        · refine pw_iload_n (z := 0) (pc := 53) dX12_find_53 rfl rfl ?_
          refine pw_if_eq (t := 66) (pc := 54) dX12_find_54 (by decide) (by first | omega) (fun _ => ?_) (fun c54 => absurd c54 (by decide))
          refine pw_aload_n (z := mo_) (pc := 66) dX12_find_66 rfl rfl ?_
          refine pw_getR (r := mNameOf) (pc := 67) dX12_find_67 fX12_112 (im_mo_ hM) k_mo_ rfl fr_mNameOf ?_
          refine pw_iload_n (z := k) (pc := 70) dX12_find_70 rfl rfl ?_
          refine pw_iald (pc := 71) dX12_find_71 (im_mNameOf hM) k_mNameOf 8 l_mNameOf (by first | omega) (by first | omega) (by first | omega) (fun r71 => ?_)
          exact pw_iret (pc := 72) dX12_find_72 (by first | omega) (⟨rfl, by rw [ae, e2, if_t ((enc_eq (B := 37) (by decide) e1.2.2 lw).mp (by rw [← e1.1, ← tv]; exact lc_z c50))]; exact e1.2.1⟩)
  exact L2 _ _ (by omega) (rfl) (Int.self_le_toNat _)

