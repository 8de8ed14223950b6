set_option maxHeartbeats 4000000 in
set_option maxRecDepth 100000 in
theorem d_agrees {G : GT_} (hC : okC_ G) (h : PH_) (m : Nat) (ho_m : is3_ m) (a : Nat) (k_a : kd_ a = 0) (l_a : ln_ a = 4) (ha : 36 ≤ a ∧ a < 173) (t : Int) (j1 : ir_ t) (hn : 0 ≤ h m 5 ∧ h m 5 ≤ 10) (hx : ∀ k, 0 ≤ k → k < h m 5 → 0 ≤ h (m + 6) (4 * k) ∧ h (m + 6) (4 * k) < 4) : PC G yX3_agrees cX3_agrees 6 (some .boolean) 1 [rr_ G m, rr_ G a, ii_ t] h (qi_ (fun z h' => h = h' ∧ (z = 1 ∧ agr_ (h (m + 6)) (h a) t (h m 5).toNat ∨ z = 0 ∧ ¬ agr_ (h (m + 6)) (h a) t (h m 5).toNat))) := by
  refine PC.of (lv := [some (rr_ G m), some (rr_ G a), some (ii_ t), none, none, none]) (by decide +kernel) (Nat.le_of_ble_eq_true rfl) rfl rfl ?_
  refine pw_iconst (pc := 0) dX3_agrees_0 ?_
  refine pw_istore_n (lv1 := [some (rr_ G m), some (rr_ G a), some (ii_ t), some (ii_ 0), none, none]) (pc := 1) dX3_agrees_1 rfl (by decide) rfl rfl ?_
  have L2 : ∀ (nn : Nat) (i : Int), (0 ≤ i ∧ i ≤ h m 5) → (agr_ (h (m + 6)) (h a) t i.toNat) → ((h m 5 - i + 1 : Int) ≤ nn) → PW G RX3 cX3_agrees 6 (some .boolean) (rm_ 1) 0 0 (zm_ G (qi_ (fun z h' => h = h' ∧ (z = 1 ∧ agr_ (h (m + 6)) (h a) t (h m 5).toNat ∨ z = 0 ∧ ¬ agr_ (h (m + 6)) (h a) t (h m 5).toNat)))) 2 [some (rr_ G m), some (rr_ G a), some (ii_ t), some (ii_ i), none, none] [] h := by
    intro nn
    induction nn with
    | zero => intro i ak ai ams; exfalso; omega
    | succ nn ih2 =>
      intro i ak ai ams
      refine pw_iload_n (z := i) (pc := 2) dX3_agrees_2 rfl rfl ?_
      refine pw_aload_n (z := m) (pc := 3) dX3_agrees_3 rfl rfl ?_
      refine pw_gI (x := 5) (pc := 4) dX3_agrees_4 fX3_33 (hC _ (by omega)) (kd3_0 ho_m) rfl rfl (fun r4 => ?_)
      refine pw_icmp_ge (t := 93) (pc := 7) dX3_agrees_7 (by decide) (by first | omega) (by first | omega) (fun c7 => ?_) (fun c7 => ?_)
      · refine pw_iconst (pc := 93) dX3_agrees_93 ?_
        exact pw_zret (pc := 94) dX3_agrees_94 (by first | omega) (⟨rfl, Or.inl ⟨rfl, by rw [show h m 5 = i by omega]; exact ai⟩⟩)
      · refine pw_iload_n (z := i) (pc := 10) dX3_agrees_10 rfl rfl ?_
        refine pw_bipush (pc := 11) dX3_agrees_11 rfl ?_
        refine pw_icmp_ge (t := 93) (pc := 13) dX3_agrees_13 (by decide) (by first | omega) (by first | omega) (fun c13 => ?_) (fun c13 => ?_)
        · refine pw_iconst (pc := 93) dX3_agrees_93 ?_
          exact pw_zret (pc := 94) dX3_agrees_94 (by first | omega) (⟨rfl, Or.inl ⟨rfl, by rw [show h m 5 = i by omega]; exact ai⟩⟩)
        · have hxi := hx i (by omega) (by omega)
          rw [show 4 * i = i * 4 by omega] at hxi
          refine pw_iload_n (z := i) (pc := 16) dX3_agrees_16 rfl rfl ?_
          refine pw_iconst (pc := 17) dX3_agrees_17 ?_
          refine pw_imul (pc := 18) dX3_agrees_18 ?_
          refine pw_istore (lv1 := [some (rr_ G m), some (rr_ G a), some (ii_ t), some (ii_ i), some (ii_ (i * 4)), none]) (pc := 19) dX3_agrees_19 (by decide) rfl rfl ?_
          refine pw_aload_n (z := a) (pc := 21) dX3_agrees_21 rfl rfl ?_
          refine pw_aload_n (z := m) (pc := 22) dX3_agrees_22 rfl rfl ?_
          refine pw_getR (r := (m + 6)) (pc := 23) dX3_agrees_23 fX3_22 (hC _ (by omega)) (kd3_0 ho_m) rfl rfl ?_
          refine pw_iload (z := i * 4) (pc := 26) dX3_agrees_26 rfl ?_
          refine pw_iald (pc := 28) dX3_agrees_28 (hC _ (by omega)) (kd3_6 ho_m) 40 (ln3_6 ho_m) (by first | omega) (by first | omega) (by first | omega) (fun r28 => ?_)
          refine pw_iald (pc := 29) dX3_agrees_29 (hC _ (by omega)) k_a 4 l_a (by first | omega) (by first | omega) (by first | omega) (fun r29 => ?_)
          refine pw_aload_n (z := m) (pc := 30) dX3_agrees_30 rfl rfl ?_
          refine pw_getR (r := (m + 6)) (pc := 31) dX3_agrees_31 fX3_22 (hC _ (by omega)) (kd3_0 ho_m) rfl rfl ?_
          refine pw_iload (z := i * 4) (pc := 34) dX3_agrees_34 rfl ?_
          refine pw_iconst (pc := 36) dX3_agrees_36 ?_
          refine pw_iadd (pc := 37) dX3_agrees_37 ?_
          refine pw_iald (pc := 38) dX3_agrees_38 (hC _ (by omega)) (kd3_6 ho_m) 40 (ln3_6 ho_m) (by first | omega) (by first | omega) (by first | omega) (fun r38 => ?_)
          refine pw_icmp_ne (t := 46) (pc := 39) dX3_agrees_39 (by decide) (by first | omega) (by first | omega) (fun c39 => ?_) (fun c39 => ?_)
          · refine pw_iconst (pc := 46) dX3_agrees_46 ?_
            refine pw_istore (lv1 := [some (rr_ G m), some (rr_ G a), some (ii_ t), some (ii_ i), some (ii_ (i * 4)), some (ii_ 0)]) (pc := 47) dX3_agrees_47 (by decide) rfl rfl ?_
            refine pw_aload_n (z := m) (pc := 49) dX3_agrees_49 rfl rfl ?_
            refine pw_getR (r := (m + 6)) (pc := 50) dX3_agrees_50 fX3_22 (hC _ (by omega)) (kd3_0 ho_m) rfl rfl ?_
            refine pw_iload (z := i * 4) (pc := 53) dX3_agrees_53 rfl ?_
            refine pw_iconst (pc := 55) dX3_agrees_55 ?_
            refine pw_iadd (pc := 56) dX3_agrees_56 ?_
            refine pw_iald (pc := 57) dX3_agrees_57 (hC _ (by omega)) (kd3_6 ho_m) 40 (ln3_6 ho_m) (by first | omega) (by first | omega) (by first | omega) (fun r57 => ?_)
            refine pw_iload_n (z := t) (pc := 58) dX3_agrees_58 rfl rfl ?_
            refine pw_icmp_ne (t := 87) (pc := 59) dX3_agrees_59 (by decide) (by first | omega) (by first | omega) (fun c59 => ?_) (fun c59 => ?_)
            · refine pw_iinc (z := i) (lv1 := [some (rr_ G m), some (rr_ G a), some (ii_ t), some (ii_ (i + 1)), some (ii_ (i * 4)), some (ii_ 0)]) (pc := 87) dX3_agrees_87 rfl (by decide) rfl rfl ?_
              refine pw_goto (t := 2) (pc := 90) dX3_agrees_90 (by decide) ?_
              refine pw_less (lv1 := [some (rr_ G m), some (rr_ G a), some (ii_ t), some (ii_ (i + 1)), none, none]) rfl (by intro i v; (match i with | 0 => simp | 1 => simp | 2 => simp | 3 => simp | 4 => simp | 5 => simp | n + 6 => simp)) ?_
              exact ih2 _ (by omega) (by rw [agr_s ak.1, show 4 * i = i * 4 by omega]; first | exact ⟨ai, fun u => absurd u c59⟩ | exact ⟨ai, fun _ => ⟨fun _ => c74, fun _ => c39⟩⟩ | exact ⟨ai, fun _ => ⟨fun q => absurd q c39, fun q => absurd q c74⟩⟩) (by omega)
            · refine pw_iload (z := 0) (pc := 62) dX3_agrees_62 rfl ?_
              refine pw_aload_n (z := m) (pc := 64) dX3_agrees_64 rfl rfl ?_
              refine pw_getR (r := (m + 6)) (pc := 65) dX3_agrees_65 fX3_22 (hC _ (by omega)) (kd3_0 ho_m) rfl rfl ?_
              refine pw_iload (z := i * 4) (pc := 68) dX3_agrees_68 rfl ?_
              refine pw_iconst (pc := 70) dX3_agrees_70 ?_
              refine pw_iadd (pc := 71) dX3_agrees_71 ?_
              refine pw_iald (pc := 72) dX3_agrees_72 (hC _ (by omega)) (kd3_6 ho_m) 40 (ln3_6 ho_m) (by first | omega) (by first | omega) (by first | omega) (fun r72 => ?_)
              refine pw_iconst (pc := 73) dX3_agrees_73 ?_
              refine pw_icmp_ne (t := 81) (pc := 74) dX3_agrees_74 (by decide) (by first | omega) (by first | omega) (fun c74 => ?_) (fun c74 => ?_)
              · refine pw_iconst (pc := 81) dX3_agrees_81 ?_
                refine pw_icmp_eq (t := 87) (pc := 82) dX3_agrees_82 (by decide) (by first | omega) (by first | omega) (fun _ => ?_) (fun c82 => absurd c82 (by decide))
                refine pw_iinc (z := i) (lv1 := [some (rr_ G m), some (rr_ G a), some (ii_ t), some (ii_ (i + 1)), some (ii_ (i * 4)), some (ii_ 0)]) (pc := 87) dX3_agrees_87 rfl (by decide) rfl rfl ?_
                refine pw_goto (t := 2) (pc := 90) dX3_agrees_90 (by decide) ?_
                refine pw_less (lv1 := [some (rr_ G m), some (rr_ G a), some (ii_ t), some (ii_ (i + 1)), none, none]) rfl (by intro i v; (match i with | 0 => simp | 1 => simp | 2 => simp | 3 => simp | 4 => simp | 5 => simp | n + 6 => simp)) ?_
                exact ih2 _ (by omega) (by rw [agr_s ak.1, show 4 * i = i * 4 by omega]; first | exact ⟨ai, fun u => absurd u c59⟩ | exact ⟨ai, fun _ => ⟨fun _ => c74, fun _ => c39⟩⟩ | exact ⟨ai, fun _ => ⟨fun q => absurd q c39, fun q => absurd q c74⟩⟩) (by omega)
              · refine pw_iconst (pc := 77) dX3_agrees_77 ?_
                refine pw_goto (t := 82) (pc := 78) dX3_agrees_78 (by decide) ?_
                refine pw_icmp_eq (t := 87) (pc := 82) dX3_agrees_82 (by decide) (by first | omega) (by first | omega) (fun c82 => absurd c82 (by decide)) (fun _ => ?_)
                refine pw_iconst (pc := 85) dX3_agrees_85 ?_
                exact pw_zret (pc := 86) dX3_agrees_86 (by first | omega) (⟨rfl, Or.inr ⟨rfl, fun u => by have q := agr_at u (k := i) (by omega) (by omega); rw [show 4 * i = i * 4 by omega] at q; have q2 := q c59; first | exact c74 (q2.mp c39) | exact c39 (q2.mpr c74)⟩⟩)
          · refine pw_iconst (pc := 42) dX3_agrees_42 ?_
            refine pw_goto (t := 47) (pc := 43) dX3_agrees_43 (by decide) ?_
            refine pw_istore (lv1 := [some (rr_ G m), some (rr_ G a), some (ii_ t), some (ii_ i), some (ii_ (i * 4)), some (ii_ 1)]) (pc := 47) dX3_agrees_47 (by decide) rfl rfl ?_
            refine pw_aload_n (z := m) (pc := 49) dX3_agrees_49 rfl rfl ?_
            refine pw_getR (r := (m + 6)) (pc := 50) dX3_agrees_50 fX3_22 (hC _ (by omega)) (kd3_0 ho_m) rfl rfl ?_
            refine pw_iload (z := i * 4) (pc := 53) dX3_agrees_53 rfl ?_
            refine pw_iconst (pc := 55) dX3_agrees_55 ?_
            refine pw_iadd (pc := 56) dX3_agrees_56 ?_
            refine pw_iald (pc := 57) dX3_agrees_57 (hC _ (by omega)) (kd3_6 ho_m) 40 (ln3_6 ho_m) (by first | omega) (by first | omega) (by first | omega) (fun r57 => ?_)
            refine pw_iload_n (z := t) (pc := 58) dX3_agrees_58 rfl rfl ?_
            refine pw_icmp_ne (t := 87) (pc := 59) dX3_agrees_59 (by decide) (by first | omega) (by first | omega) (fun c59 => ?_) (fun c59 => ?_)
            · refine pw_iinc (z := i) (lv1 := [some (rr_ G m), some (rr_ G a), some (ii_ t), some (ii_ (i + 1)), some (ii_ (i * 4)), some (ii_ 1)]) (pc := 87) dX3_agrees_87 rfl (by decide) rfl rfl ?_
              refine pw_goto (t := 2) (pc := 90) dX3_agrees_90 (by decide) ?_
              refine pw_less (lv1 := [some (rr_ G m), some (rr_ G a), some (ii_ t), some (ii_ (i + 1)), none, none]) rfl (by intro i v; (match i with | 0 => simp | 1 => simp | 2 => simp | 3 => simp | 4 => simp | 5 => simp | n + 6 => simp)) ?_
              exact ih2 _ (by omega) (by rw [agr_s ak.1, show 4 * i = i * 4 by omega]; first | exact ⟨ai, fun u => absurd u c59⟩ | exact ⟨ai, fun _ => ⟨fun _ => c74, fun _ => c39⟩⟩ | exact ⟨ai, fun _ => ⟨fun q => absurd q c39, fun q => absurd q c74⟩⟩) (by omega)
            · refine pw_iload (z := 1) (pc := 62) dX3_agrees_62 rfl ?_
              refine pw_aload_n (z := m) (pc := 64) dX3_agrees_64 rfl rfl ?_
              refine pw_getR (r := (m + 6)) (pc := 65) dX3_agrees_65 fX3_22 (hC _ (by omega)) (kd3_0 ho_m) rfl rfl ?_
              refine pw_iload (z := i * 4) (pc := 68) dX3_agrees_68 rfl ?_
              refine pw_iconst (pc := 70) dX3_agrees_70 ?_
              refine pw_iadd (pc := 71) dX3_agrees_71 ?_
              refine pw_iald (pc := 72) dX3_agrees_72 (hC _ (by omega)) (kd3_6 ho_m) 40 (ln3_6 ho_m) (by first | omega) (by first | omega) (by first | omega) (fun r72 => ?_)
              refine pw_iconst (pc := 73) dX3_agrees_73 ?_
              refine pw_icmp_ne (t := 81) (pc := 74) dX3_agrees_74 (by decide) (by first | omega) (by first | omega) (fun c74 => ?_) (fun c74 => ?_)
              · refine pw_iconst (pc := 81) dX3_agrees_81 ?_
                refine pw_icmp_eq (t := 87) (pc := 82) dX3_agrees_82 (by decide) (by first | omega) (by first | omega) (fun c82 => absurd c82 (by decide)) (fun _ => ?_)
                refine pw_iconst (pc := 85) dX3_agrees_85 ?_
                exact pw_zret (pc := 86) dX3_agrees_86 (by first | omega) (⟨rfl, Or.inr ⟨rfl, fun u => by have q := agr_at u (k := i) (by omega) (by omega); rw [show 4 * i = i * 4 by omega] at q; have q2 := q c59; first | exact c74 (q2.mp c39) | exact c39 (q2.mpr c74)⟩⟩)
              · refine pw_iconst (pc := 77) dX3_agrees_77 ?_
                refine pw_goto (t := 82) (pc := 78) dX3_agrees_78 (by decide) ?_
                refine pw_icmp_eq (t := 87) (pc := 82) dX3_agrees_82 (by decide) (by first | omega) (by first | omega) (fun _ => ?_) (fun c82 => absurd c82 (by decide))
                refine pw_iinc (z := i) (lv1 := [some (rr_ G m), some (rr_ G a), some (ii_ t), some (ii_ (i + 1)), some (ii_ (i * 4)), some (ii_ 1)]) (pc := 87) dX3_agrees_87 rfl (by decide) rfl rfl ?_
                refine pw_goto (t := 2) (pc := 90) dX3_agrees_90 (by decide) ?_
                refine pw_less (lv1 := [some (rr_ G m), some (rr_ G a), some (ii_ t), some (ii_ (i + 1)), none, none]) rfl (by intro i v; (match i with | 0 => simp | 1 => simp | 2 => simp | 3 => simp | 4 => simp | 5 => simp | n + 6 => simp)) ?_
                exact ih2 _ (by omega) (by rw [agr_s ak.1, show 4 * i = i * 4 by omega]; first | exact ⟨ai, fun u => absurd u c59⟩ | exact ⟨ai, fun _ => ⟨fun _ => c74, fun _ => c39⟩⟩ | exact ⟨ai, fun _ => ⟨fun q => absurd q c39, fun q => absurd q c74⟩⟩) (by omega)
  exact L2 _ _ (by omega) (trivial) (Int.self_le_toNat _)

set_option maxHeartbeats 4000000 in
set_option maxRecDepth 100000 in
theorem d_mbegin {G : GT_} (hC : okC_ G) (h : PH_) (m : Nat) (ho_m : is3_ m) (ho_n : is7_ (m + 1)) (o : Nat) (ho : is6_ o) : PC G yX3_begin cX3_begin 2 none 3 [rr_ G m, rr_ G o] h (qv_ (fun h' => off_ [m, m + 1, m + 2, m + 3, m + 4] h h' ∧ h' m 3 = 0 ∧ h' m 5 = 0 ∧ h' m 4 = h m 4 ∧ h' (m + 1) 3 = 0 ∧ ∀ r, 0 ≤ r → r < 4 → h' (m + 2) r = -1 ∧ h' (m + 3) r = -1 ∧ h' (m + 4) r = h (o + 5) r)) := by
  refine PC.of (lv := [some (rr_ G m), some (rr_ G o)]) (by decide +kernel) (Nat.le_of_ble_eq_true rfl) rfl rfl ?_
  refine pw_aload_n (z := m) (pc := 0) dX3_begin_0 rfl rfl ?_
  refine pw_getR (r := (m + 1)) (pc := 1) dX3_begin_1 fX3_12 (hC _ (by omega)) (kd3_0 ho_m) rfl rfl ?_
  refine pw_aload_n (z := o) (pc := 4) dX3_begin_4 rfl rfl ?_
  refine pw_callV (c := 7) (o := (m + 1)) (As := [rr_ G o]) (rest := []) (pc := 5) dX3_begin_5 (d_sbegin hC h (m + 1) ho_n o ho) lX3_25 mX7_begin vX7_begin (hC _ (by omega)) (kd3_1 ho_m) rfl rfl rfl (by decide) ⟨Nat.zero_le _, Nat.zero_le _⟩ (Nat.le_of_ble_eq_true rfl) (k_v (fun h5 q5 => ?_))
  obtain ⟨f5, b5, d5⟩ := q5
  refine pw_aload_n (z := m) (pc := 8) dX3_begin_8 rfl rfl ?_
  refine pw_iconst (pc := 9) dX3_begin_9 ?_
  refine pw_pZ (x := 3) (pc := 10) dX3_begin_10 fX3_29 (hC _ (by omega)) (kd3_0 ho_m) rfl rfl (by first | omega) ?_
  obtain ⟨g10, e10⟩ : ∃ x, x = up_ h5 m 3 0 := ⟨_, rfl⟩
  refine pw_heq e10 ?_
  refine pw_aload_n (z := m) (pc := 13) dX3_begin_13 rfl rfl ?_
  refine pw_iconst (pc := 14) dX3_begin_14 ?_
  refine pw_pI (x := 5) (pc := 15) dX3_begin_15 fX3_33 (hC _ (by omega)) (kd3_0 ho_m) rfl rfl (by first | omega) ?_
  obtain ⟨g15, e15⟩ : ∃ x, x = up_ g10 m 5 0 := ⟨_, rfl⟩
  refine pw_heq e15 ?_
  exact pw_vret (pc := 18) dX3_begin_18 (⟨by rw [e15, e10]; exact off_up (off_up (off_mo f5 (by intro i hi; simp at hi ⊢; omega)) (by simp)) (by simp), by rw [e15, up_at, if_neg (by decide), e10, up_same], by rw [e15, up_same], by rw [e15, up_at, if_neg (by decide), e10, up_at, if_neg (by decide), f5 m (by simp; omega)], by rw [e15, up_off (by omega), e10, up_off (by omega)]; exact b5, fun r u1 u2 => by
        rw [e15, up_off (by omega), up_off (by omega), up_off (by omega), e10, up_off (by omega), up_off (by omega), up_off (by omega)]; exact d5 r u1 u2⟩)

set_option maxHeartbeats 4000000 in
set_option maxRecDepth 100000 in
theorem d_mcopy {G : GT_} (hC : okC_ G) (h : PH_) (m : Nat) (ho_m : is3_ m) (ho_n : is7_ (m + 1)) (p : Nat) (ho_p : is3_ p) (ho_q : is7_ (p + 1)) (hd : p + 6 < m ∨ m + 6 < p) (hz : h p 3 = 0 ∨ h p 3 = 1) : PC G yX3_copy cX3_copy 2 none 3 [rr_ G m, rr_ G p] h (qv_ (fun h' => off_ [m, m + 1, m + 2, m + 3, m + 4, m + 5, m + 6] h h' ∧ h' m 3 = h p 3 ∧ h' m 5 = h p 5 ∧ h' m 4 = h m 4 ∧ h' (m + 1) 3 = h (p + 1) 3 ∧ (∀ r, 0 ≤ r → r < 4 → h' (m + 2) r = h (p + 2) r ∧ h' (m + 3) r = h (p + 3) r ∧ h' (m + 4) r = h (p + 4) r) ∧ (∀ x, 0 ≤ x → x < 16 → h' (m + 5) x = h (p + 5) x) ∧ (∀ x, 0 ≤ x → x < 40 → h' (m + 6) x = h (p + 6) x))) := by
  refine PC.of (lv := [some (rr_ G m), some (rr_ G p)]) (by decide +kernel) (Nat.le_of_ble_eq_true rfl) rfl rfl ?_
  refine pw_aload_n (z := m) (pc := 0) dX3_copy_0 rfl rfl ?_
  refine pw_getR (r := (m + 1)) (pc := 1) dX3_copy_1 fX3_12 (hC _ (by omega)) (kd3_0 ho_m) rfl rfl ?_
  refine pw_aload_n (z := p) (pc := 4) dX3_copy_4 rfl rfl ?_
  refine pw_getR (r := (p + 1)) (pc := 5) dX3_copy_5 fX3_12 (hC _ (by omega)) (kd3_0 ho_p) rfl rfl ?_
  refine pw_callV (c := 7) (o := (m + 1)) (As := [rr_ G (p + 1)]) (rest := []) (pc := 8) dX3_copy_8 (d_scopy hC h (m + 1) ho_n (p + 1) ho_q (by first | omega)) lX3_37 mX7_copy vX7_copy (hC _ (by omega)) (kd3_1 ho_m) rfl rfl rfl (by decide) ⟨Nat.zero_le _, Nat.zero_le _⟩ (Nat.le_of_ble_eq_true rfl) (k_v (fun h8 q8 => ?_))
  obtain ⟨f8, b8, d8⟩ := q8
  refine pw_aload_n (z := p) (pc := 11) dX3_copy_11 rfl rfl ?_
  refine pw_getR (r := (p + 5)) (pc := 12) dX3_copy_12 fX3_18 (hC _ (by omega)) (kd3_0 ho_p) rfl rfl ?_
  refine pw_iconst (pc := 15) dX3_copy_15 ?_
  refine pw_aload_n (z := m) (pc := 16) dX3_copy_16 rfl rfl ?_
  refine pw_getR (r := (m + 5)) (pc := 17) dX3_copy_17 fX3_18 (hC _ (by omega)) (kd3_0 ho_m) rfl rfl ?_
  refine pw_iconst (pc := 20) dX3_copy_20 ?_
  refine pw_aload_n (z := m) (pc := 21) dX3_copy_21 rfl rfl ?_
  refine pw_getR (r := (m + 5)) (pc := 22) dX3_copy_22 fX3_18 (hC _ (by omega)) (kd3_0 ho_m) rfl rfl ?_
  refine pw_alen (pc := 25) dX3_copy_25 (hC _ (by omega)) _ (kd3_5 ho_m) (by decide) 16 (ln3_5 ho_m) ?_
  refine pw_copy (n0 := 16) (n1 := 16) (pc := 26) dX3_copy_26 lX3_41 (hC _ (by omega)) (hC _ (by omega)) (kd3_5 ho_p) (kd3_5 ho_m) (ln3_5 ho_p) (ln3_5 ho_m) (by first | omega) (by first | omega) (by first | omega) (by decide) (by decide) (Nat.le_of_ble_eq_true rfl) ?_
  obtain ⟨g26, e26⟩ : ∃ x, x = sc_ h8 (m + 5) (fun x => if 0 ≤ x ∧ x < 0 + 16 then h8 (p + 5) (x - 0 + 0) else h8 (m + 5) x) := ⟨_, rfl⟩
  refine pw_heq e26 ?_
  have f26 : off_ [(m + 5)] h8 g26 := fun j hj => by rw [e26]; exact sc_off (by simpa using hj)
  refine pw_aload_n (z := p) (pc := 29) dX3_copy_29 rfl rfl ?_
  refine pw_getR (r := (p + 6)) (pc := 30) dX3_copy_30 fX3_22 (hC _ (by omega)) (kd3_0 ho_p) rfl rfl ?_
  refine pw_iconst (pc := 33) dX3_copy_33 ?_
  refine pw_aload_n (z := m) (pc := 34) dX3_copy_34 rfl rfl ?_
  refine pw_getR (r := (m + 6)) (pc := 35) dX3_copy_35 fX3_22 (hC _ (by omega)) (kd3_0 ho_m) rfl rfl ?_
  refine pw_iconst (pc := 38) dX3_copy_38 ?_
  refine pw_aload_n (z := m) (pc := 39) dX3_copy_39 rfl rfl ?_
  refine pw_getR (r := (m + 6)) (pc := 40) dX3_copy_40 fX3_22 (hC _ (by omega)) (kd3_0 ho_m) rfl rfl ?_
  refine pw_alen (pc := 43) dX3_copy_43 (hC _ (by omega)) _ (kd3_6 ho_m) (by decide) 40 (ln3_6 ho_m) ?_
  refine pw_copy (n0 := 40) (n1 := 40) (pc := 44) dX3_copy_44 lX3_41 (hC _ (by omega)) (hC _ (by omega)) (kd3_6 ho_p) (kd3_6 ho_m) (ln3_6 ho_p) (ln3_6 ho_m) (by first | omega) (by first | omega) (by first | omega) (by decide) (by decide) (Nat.le_of_ble_eq_true rfl) ?_
  obtain ⟨g44, e44⟩ : ∃ x, x = sc_ g26 (m + 6) (fun x => if 0 ≤ x ∧ x < 0 + 40 then g26 (p + 6) (x - 0 + 0) else g26 (m + 6) x) := ⟨_, rfl⟩
  refine pw_heq e44 ?_
  have f44 : off_ [(m + 6)] g26 g44 := fun j hj => by rw [e44]; exact sc_off (by simpa using hj)
  refine pw_aload_n (z := m) (pc := 47) dX3_copy_47 rfl rfl ?_
  refine pw_aload_n (z := p) (pc := 48) dX3_copy_48 rfl rfl ?_
  refine pw_gI (x := 3) (pc := 49) dX3_copy_49 fX3_29 (hC _ (by omega)) (kd3_0 ho_p) rfl rfl (fun r49 => ?_)
  have n_g44_p_3 : g44 p 3 = h p 3 := (((show g44 p 3 = g26 p 3 from (congrFun (f44 p (by first | decide | (simp; done) | (simp; omega))) 3)).trans (show g26 p 3 = h8 p 3 from (congrFun (f26 p (by first | decide | (simp; done) | (simp; omega))) 3))).trans (show h8 p 3 = h p 3 from (congrFun (f8 p (by first | decide | (simp; done) | (simp; omega))) 3)))
  rw [n_g44_p_3] at r49 ⊢
  refine pw_pZ (x := 3) (pc := 52) dX3_copy_52 fX3_29 (hC _ (by omega)) (kd3_0 ho_m) rfl rfl (by first | omega | (simp only [n_g44_p_3]; omega)) ?_
  obtain ⟨g52, e52⟩ : ∃ x, x = up_ g44 m 3 (h p 3) := ⟨_, rfl⟩
  refine pw_heq e52 ?_
  refine pw_aload_n (z := m) (pc := 55) dX3_copy_55 rfl rfl ?_
  refine pw_aload_n (z := p) (pc := 56) dX3_copy_56 rfl rfl ?_
  refine pw_gI (x := 5) (pc := 57) dX3_copy_57 fX3_33 (hC _ (by omega)) (kd3_0 ho_p) rfl rfl (fun r57 => ?_)
  have n_g52_p_5 : g52 p 5 = h p 5 := ((((show g52 p 5 = g44 p 5 from (by rw [e52, up_off (by first | decide | omega)])).trans (show g44 p 5 = g26 p 5 from (congrFun (f44 p (by first | decide | (simp; done) | (simp; omega))) 5))).trans (show g26 p 5 = h8 p 5 from (congrFun (f26 p (by first | decide | (simp; done) | (simp; omega))) 5))).trans (show h8 p 5 = h p 5 from (congrFun (f8 p (by first | decide | (simp; done) | (simp; omega))) 5)))
  rw [n_g52_p_5] at r57 ⊢
  refine pw_pI (x := 5) (pc := 60) dX3_copy_60 fX3_33 (hC _ (by omega)) (kd3_0 ho_m) rfl rfl (by first | omega | (simp only [n_g44_p_3, n_g52_p_5]; omega)) ?_
  obtain ⟨g60, e60⟩ : ∃ x, x = up_ g52 m 5 (h p 5) := ⟨_, rfl⟩
  refine pw_heq e60 ?_
  exact pw_vret (pc := 63) dX3_copy_63 (⟨fun j hj => by
        simp at hj
        rw [e60, up_off hj.1, e52, up_off hj.1, e44, sc_off (by omega), e26, sc_off (by omega)]
        exact f8 j (by simp; omega), by rw [e60, up_at, if_neg (by decide), e52, up_same], by rw [e60, up_same], by rw [e60, up_at, if_neg (by decide), e52, up_at, if_neg (by decide), e44, sc_off (by omega), e26, sc_off (by omega), f8 m (by simp; omega)], by rw [e60, up_off (by omega), e52, up_off (by omega), e44, sc_off (by omega), e26, sc_off (by omega)]; exact b8, fun r u1 u2 => by
        rw [e60, up_off (by omega), up_off (by omega), up_off (by omega), e52, up_off (by omega), up_off (by omega), up_off (by omega), e44, sc_off (by omega), sc_off (by omega), sc_off (by omega), e26, sc_off (by omega), sc_off (by omega), sc_off (by omega)]; exact d8 r u1 u2, fun x u1 u2 => by
        rw [e60, up_off (by omega), e52, up_off (by omega), e44, sc_off (by omega), e26, sc_at]
        show (if _ then _ else _) = _
        rw [if_pos (by omega), show x - 0 + 0 = x by omega, f8 (p + 5) (by simp; omega)], fun x u1 u2 => by
        rw [e60, up_off (by omega), e52, up_off (by omega), e44, sc_at]
        show (if _ then _ else _) = _
        rw [if_pos (by omega), show x - 0 + 0 = x by omega, e26, sc_off (by omega), f8 (p + 6) (by simp; omega)]⟩)

