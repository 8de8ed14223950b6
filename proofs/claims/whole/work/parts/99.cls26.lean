set_option maxHeartbeats 4000000 in
set_option maxRecDepth 100000 in
theorem d_comeS {G : GT_} (hC : okC_ G) (h : PH_) (o : Nat) (ho : is6_ o) (ro : Int → Int) (n : Nat) (IH : eqc_ G ro o n) (t c k left free w se up dn N : Int) (hp : eqr_ ro o (n + 1) t c k left free w se up dn N h) : PC G yX0_come cX0_come 11 none (5 + (n + 1)) [rr_ G 170, ii_ c, ii_ k, ll_ up, ll_ dn] h (qv_ (fun h' => eqs_ ro (n + 1) t left free w se up dn N h h')) := by
  obtain ⟨H, hlf, ht, hd, hc, hk, hcl, hkf, hse, hu, hf⟩ := hp
  have HB := H.2.1
  have HA := H.1
  have hl_h := hlf.1
  have hR4 : 0 ≤ ro 2 ∧ ro 2 ≤ 4 := by omega
  have hu2 := hu
  obtain ⟨u1, u2, u3, u4, u5, u6, u7, u8⟩ := hu2
  have pb := pm_b (ro := ro) (w := w.toNat) hR4 hd (by omega)
  have nb : n < 4 := by have := bcn_4 left.toNat (by omega); omega
  have dm := dnb_m (n + 1) (by omega)
  have dm0 := dnb_m n (by omega)
  obtain ⟨Q, hQ⟩ : ∃ Q, Q = 4 ^ n * (pm_ ro w.toNat 1) := ⟨_, rfl⟩
  have qq : (pm_ ro w.toNat 1) ≤ Q := by
    have : (1 : Int) * (pm_ ro w.toNat 1) ≤ 4 ^ n * (pm_ ro w.toNat 1) := Int.mul_le_mul_of_nonneg_right (by have : (0 : Int) < 4 ^ n := Int.pow_pos (by decide); omega) (by omega)
    omega
  have u9 : 0 ≤ N ∧ N + 4 * Q ≤ 256 * (pm_ ro w.toNat 1) := by
    have e3 : (4 : Int) ^ (n + 1) * (pm_ ro w.toNat 1) = 4 * Q := by rw [hQ, Int.pow_succ]; ac_rfl
    omega
  refine PC.of (lv := [some (rr_ G 170), some (ii_ c), some (ii_ k), some (ll_ up), none, some (ll_ dn), none, none, none, none, none]) (by decide +kernel) (Nat.le_of_ble_eq_true rfl) rfl rfl ?_
  refine pw_aload_n (z := 170) (pc := 0) dX0_come_0 rfl rfl ?_
  refine pw_iload_n (z := c) (pc := 1) dX0_come_1 rfl rfl ?_
  refine pw_callV (c := 0) (o := 170) (As := [ii_ c]) (rest := []) (pc := 2) dX0_come_2 (d_dashesLeft hC h o ho ro H hd hl_h c left hc hcl) lX0_43 mX0_dashesLeft vX0_dashesLeft (hC 170 (by decide)) (show kd_ 170 = 10 by decide +kernel) rfl rfl rfl (by constructor <;> simp only [rm_] <;> omega) ⟨Nat.zero_le _, Nat.zero_le _⟩ (Nat.le_of_ble_eq_true rfl) (k_i (fun z2 h2 y2 q2 => ?_))
  obtain ⟨rfl, w2⟩ := q2
  have db := das_b (ro := ro) (left := left) (ro 2).toNat (fun q q0 q1 => hd q q0 (by omega))
  rw [← w2] at db
  refine pw_istore (lv1 := [some (rr_ G 170), some (ii_ c), some (ii_ k), some (ll_ up), none, some (ll_ dn), none, some (ii_ z2), none, none, none]) (pc := 5) dX0_come_5 (by decide) rfl rfl ?_
  refine pw_iconst (pc := 7) dX0_come_7 ?_
  refine pw_istore (lv1 := [some (rr_ G 170), some (ii_ c), some (ii_ k), some (ll_ up), none, some (ll_ dn), none, some (ii_ z2), some (ii_ 0), none, none]) (pc := 8) dX0_come_8 (by decide) rfl rfl ?_
  have L10 : ∀ (nn : Nat) (r : Int) (hq : PH_), (0 ≤ r ∧ r ≤ ro 2) → (off_ [170] h hq) → (∀ j, j ≠ 8 → j ≠ 9 → hq 170 j = h 170 j) → (fra_ hq ((List.range r.toNat).foldl (dst_ ro t w se (pm_ ro w.toNat 1) (din_ ro t w se (pm_ ro w.toNat 1) n) left free up dn) N) (pm_ ro w.toNat 1)) → ((ro 2 - r + 1 : Int) ≤ nn) → PW G RX0 cX0_come 11 none (rm_ (5 + (n + 1))) 0 0 (zm_ G (qv_ (fun h' => eqs_ ro (n + 1) t left free w se up dn N h h'))) 10 [some (rr_ G 170), some (ii_ c), some (ii_ k), some (ll_ up), none, some (ll_ dn), none, some (ii_ z2), some (ii_ r), none, none] [] hq := by
    intro nn
    induction nn with
    | zero => intro r hq ak af ao afr ams; exfalso; omega
    | succ nn ih10 =>
      intro r hq ak af ao afr ams
      have ab := dfl_b (t := t) (se := se) hR4 hd (by omega) hu r.toNat (by omega)
      rw [tn_c ak.1, ← hQ] at ab
      have hl_hq : hq 170 0 = (o : Int) := (ao 0 (by decide) (by decide)).trans hlf.1
      have ho_1 : hq 170 1 = t := (ao 1 (by decide) (by decide)).trans hlf.2.1
      have ho_2 : hq 170 2 = w := (ao 2 (by decide) (by decide)).trans hlf.2.2.1
      have ho_3 : hq 170 3 = se := (ao 3 (by decide) (by decide)).trans hlf.2.2.2
      have Hq : CRD_ ro hq o := CRD_off H ho af (by simp)
      refine pw_iload (z := r) (pc := 10) dX0_come_10 rfl ?_
      refine pw_aload_n (z := 170) (pc := 12) dX0_come_12 rfl rfl ?_
      refine pw_gD (x := 0) (r := o) (pc := 13) dX0_come_13 fX0_18 (hC 170 (by decide)) (show kd_ 170 = 10 by decide +kernel) rfl rfl hl_hq ?_
      refine pw_gI (x := 2) (pc := 16) dX0_come_16 fX0_47 (hC _ (by omega)) (kd6_0 ho) rfl rfl (fun r16 => ?_)
      have n_hq_o_2 : hq o 2 = h o 2 := (congrFun (af o (by first | decide | (simp; done) | (simp; omega))) 2)
      rw [n_hq_o_2] at r16 ⊢
      refine pw_icmp_ge (t := 146) (pc := 19) dX0_come_19 (by decide) (by first | omega | (simp only [n_hq_o_2]; omega)) (by first | omega | (simp only [n_hq_o_2]; omega)) (fun c19 => ?_) (fun c19 => ?_)
      · exact pw_vret (pc := 146) dX0_come_146 (by
                  refine ⟨af, ao, ?_⟩
                  rw [show r = ro 2 by omega] at afr
                  exact afr)
      · have js : (List.range (r + 1).toNat).foldl (dst_ ro t w se (pm_ ro w.toNat 1) (din_ ro t w se (pm_ ro w.toNat 1) n) left free up dn) N = (dst_ ro t w se (pm_ ro w.toNat 1) (din_ ro t w se (pm_ ro w.toNat 1) n) left free up dn) ((List.range r.toNat).foldl (dst_ ro t w se (pm_ ro w.toNat 1) (din_ ro t w se (pm_ ro w.toNat 1) n) left free up dn) N) r.toNat := by rw [tn_s ak.1, List.range_succ, List.foldl_append]; rfl
        have cr := hcl r (by omega) (by omega)
        have rQ : r * Q ≤ 3 * Q := Int.mul_le_mul_of_nonneg_right (by omega) (by omega)
        have J140 : ∀ (h2 : PH_), (off_ [170] h h2) → (∀ j, j ≠ 8 → j ≠ 9 → h2 170 j = h 170 j) → (fra_ h2 ((List.range (r + 1).toNat).foldl (dst_ ro t w se (pm_ ro w.toNat 1) (din_ ro t w se (pm_ ro w.toNat 1) n) left free up dn) N) (pm_ ro w.toNat 1)) → PW G RX0 cX0_come 11 none (rm_ (5 + (n + 1))) 0 0 (zm_ G (qv_ (fun h' => eqs_ ro (n + 1) t left free w se up dn N h h'))) 140 [some (rr_ G 170), some (ii_ c), some (ii_ k), some (ll_ up), none, some (ll_ dn), none, some (ii_ z2), some (ii_ r), none, none] [] h2 := by
          intro h2 jf jo jr
          refine pw_iinc (z := r) (lv1 := [some (rr_ G 170), some (ii_ c), some (ii_ k), some (ll_ up), none, some (ll_ dn), none, some (ii_ z2), some (ii_ (r + 1)), none, none]) (pc := 140) dX0_come_140 rfl (by decide) rfl rfl ?_
          refine pw_goto (t := 10) (pc := 143) dX0_come_143 (by decide) ?_
          exact ih10 _ _ (by omega) (jf) (jo) (jr) (by omega)
        refine pw_iload_n (z := c) (pc := 22) dX0_come_22 rfl rfl ?_
        refine pw_iload (z := r) (pc := 23) dX0_come_23 rfl ?_
        refine pw_ishr (pc := 25) dX0_come_25 (by first | omega | (simp only [n_hq_o_2]; omega)) (by first | omega | (simp only [n_hq_o_2]; omega)) ?_
        refine pw_iconst (pc := 26) dX0_come_26 ?_
        refine pw_iand1 (pc := 27) dX0_come_27 ?_
        refine pw_if_ne (t := 140) (pc := 28) dX0_come_28 (by decide) (by first | omega | (simp only [n_hq_o_2]; omega)) (fun c28 => ?_) (fun c28 => ?_)
        · exact J140 _ (by first | exact af | exact off_tr af f137 | exact off_tr af f102) (by first | exact ao | exact fun k k1 k2 => by rw [o137 k k1 k2]; exact ao k k1 k2 | exact fun k k1 k2 => by rw [o102 k k1 k2]; exact ao k k1 k2) (by
                   rw [js, dst_u]
                   first
                   | (rw [tn_c ak.1, if_f (fun u => c28 (cr.mpr u))]; exact afr)
                   | (rw [tn_c ak.1, if_t lb, if_t c71, if_t (by rw [← w42]; exact c114), ← w2]; exact r137)
                   | (rw [tn_c ak.1, if_t lb, if_t c71, if_f (by rw [← w42]; exact c114)]; exact afr)
                   | (rw [tn_c ak.1, if_t lb, if_f c71, ← w42, ← w2]; exact r102))
        · have lb := cr.mp c28
          have dq := dpu_q hR4 hd hu (r := r) (by omega) lb
          obtain ⟨dq1, dq2, dq3, dq4⟩ := dq
          have dr := hd r (by omega) (by omega)
          have HR := (H.2.2.2.1 r (by omega) (by omega)).2.1
          rw [← w2] at dq2 dq3 dq4
          refine pw_aload_n (z := 170) (pc := 31) dX0_come_31 rfl rfl ?_
          refine pw_gD (x := 0) (r := o) (pc := 32) dX0_come_32 fX0_18 (hC 170 (by decide)) (show kd_ 170 = 10 by decide +kernel) rfl rfl hl_hq ?_
          refine pw_aload_n (z := 170) (pc := 35) dX0_come_35 rfl rfl ?_
          refine pw_gI (x := 1) (pc := 36) dX0_come_36 fX0_22 (hC 170 (by decide)) (show kd_ 170 = 10 by decide +kernel) rfl rfl (fun r36 => ?_)
          rw [(ho_1)]
          refine pw_iload (z := r) (pc := 39) dX0_come_39 rfl ?_
          refine pw_iload_n (z := k) (pc := 41) dX0_come_41 rfl rfl ?_
          refine pw_callV (c := 6) (o := o) (As := [ii_ t, ii_ r, ii_ k]) (rest := []) (pc := 42) dX0_come_42 (d_seatLeft hC hq o ho ro Hq t r k free ht (by first | omega | (simp only [n_hq_o_2]; omega)) hk hkf) lX0_52 mX6_seatLeft vX6_seatLeft (hC _ (by omega)) (kd6_0 ho) rfl rfl rfl (by constructor <;> simp only [rm_] <;> omega) ⟨Nat.zero_le _, Nat.zero_le _⟩ (Nat.le_of_ble_eq_true rfl) (k_i (fun z42 h42 y42 q42 => ?_))
          obtain ⟨rfl, w42⟩ := q42
          refine pw_istore (lv1 := [some (rr_ G 170), some (ii_ c), some (ii_ k), some (ll_ up), none, some (ll_ dn), none, some (ii_ z2), some (ii_ r), some (ii_ z42), none]) (pc := 45) dX0_come_45 (by decide) rfl rfl ?_
          have tb := tks_b ro r t free (ro 0).toNat
          have tf := tks_f ro r t free (ro 0).toNat
          rw [← w42] at tb tf
          have pz := p8_ (s := r) (by omega)
          have J63 : ∀ (v : Int), ((0 ≤ v ∧ v ≤ 15) ∧ (0 ≤ (if z42 < 0 then free else free - 2 ^ z42.toNat) ∧ (if z42 < 0 then free else free - 2 ^ z42.toNat) ≤ 15) ∧ cmp_ (ro 0) v (if z42 < 0 then free else free - 2 ^ z42.toNat)) → PW G RX0 cX0_come 11 none (rm_ (5 + (n + 1))) 0 0 (zm_ G (qv_ (fun h' => eqs_ ro (n + 1) t left free w se up dn N h h'))) 63 [some (rr_ G 170), some (ii_ c), some (ii_ k), some (ll_ up), none, some (ll_ dn), none, some (ii_ z2), some (ii_ r), some (ii_ z42), none] [ii_ v] hq := by
            intro v fv
            refine pw_istore (lv1 := [some (rr_ G 170), some (ii_ c), some (ii_ k), some (ll_ up), none, some (ll_ dn), none, some (ii_ z2), some (ii_ r), some (ii_ z42), some (ii_ v)]) (pc := 63) dX0_come_63 (by decide) rfl rfl ?_
            refine pw_iload (z := r) (pc := 65) dX0_come_65 rfl ?_
            refine pw_aload_n (z := 170) (pc := 67) dX0_come_67 rfl rfl ?_
            refine pw_gI (x := 2) (pc := 68) dX0_come_68 fX0_26 (hC 170 (by decide)) (show kd_ 170 = 10 by decide +kernel) rfl rfl (fun r68 => ?_)
            rw [(ho_2)]
            refine pw_icmp_eq (t := 108) (pc := 71) dX0_come_71 (by decide) (by first | omega | (simp only [n_hq_o_2]; omega)) (by first | omega | (simp only [n_hq_o_2]; omega)) (fun c71 => ?_) (fun c71 => ?_)
            · refine pw_iload (z := z42) (pc := 108) dX0_come_108 rfl ?_
              refine pw_aload_n (z := 170) (pc := 110) dX0_come_110 rfl rfl ?_
              refine pw_gI (x := 3) (pc := 111) dX0_come_111 fX0_29 (hC 170 (by decide)) (show kd_ 170 = 10 by decide +kernel) rfl rfl (fun r111 => ?_)
              rw [(ho_3)]
              refine pw_icmp_ne (t := 140) (pc := 114) dX0_come_114 (by decide) (by first | omega | (simp only [n_hq_o_2]; omega)) (by first | omega | (simp only [n_hq_o_2]; omega)) (fun c114 => ?_) (fun c114 => ?_)
              · refine pw_less (lv1 := [some (rr_ G 170), some (ii_ c), some (ii_ k), some (ll_ up), none, some (ll_ dn), none, some (ii_ z2), some (ii_ r), none, none]) rfl (by intro i v; (match i with | 0 => simp | 1 => simp | 2 => simp | 3 => simp | 4 => simp | 5 => simp | 6 => simp | 7 => simp | 8 => simp | 9 => simp | 10 => simp | n + 11 => simp)) ?_
                exact J140 _ (by first | exact af | exact off_tr af f137 | exact off_tr af f102) (by first | exact ao | exact fun k k1 k2 => by rw [o137 k k1 k2]; exact ao k k1 k2 | exact fun k k1 k2 => by rw [o102 k k1 k2]; exact ao k k1 k2) (by
                         rw [js, dst_u]
                         first
                         | (rw [tn_c ak.1, if_f (fun u => c28 (cr.mpr u))]; exact afr)
                         | (rw [tn_c ak.1, if_t lb, if_t c71, if_t (by rw [← w42]; exact c114), ← w2]; exact r137)
                         | (rw [tn_c ak.1, if_t lb, if_t c71, if_f (by rw [← w42]; exact c114)]; exact afr)
                         | (rw [tn_c ak.1, if_t lb, if_f c71, ← w42, ← w2]; exact r102))
              · refine pw_aload_n (z := 170) (pc := 117) dX0_come_117 rfl rfl ?_
                refine pw_lload_n (z := up) (pc := 118) dX0_come_118 rfl rfl ?_
                refine pw_aload_n (z := 170) (pc := 119) dX0_come_119 rfl rfl ?_
                refine pw_gD (x := 0) (r := o) (pc := 120) dX0_come_120 fX0_18 (hC 170 (by decide)) (show kd_ 170 = 10 by decide +kernel) rfl rfl hl_hq ?_
                refine pw_getR (r := (o + 4)) (pc := 123) dX0_come_123 fX0_56 (hC _ (by omega)) (kd6_0 ho) rfl rfl ?_
                refine pw_iload (z := r) (pc := 126) dX0_come_126 rfl ?_
                refine pw_iald (pc := 128) dX0_come_128 (hC _ (by omega)) (kd6_4 ho) 4 (ln6_4 ho) (by first | omega | (simp only [n_hq_o_2]; omega)) (by first | omega | (simp only [n_hq_o_2]; omega)) (by first | omega | (simp only [n_hq_o_2]; omega)) (fun r128 => ?_)
                have n_hq_o_4 : hq (o + 4) = h (o + 4) := (af (o + 4) (by first | decide | (simp; done) | (simp; omega)))
                rw [n_hq_o_4] at r128 ⊢
                rw [HR]
                refine pw_i2l (pc := 129) dX0_come_129 (by first | omega | (simp only [n_hq_o_2, n_hq_o_4]; omega)) ?_
                refine pw_lmul (pc := 130) dX0_come_130 ?_
                refine pw_lload (z := dn) (pc := 131) dX0_come_131 rfl ?_
                refine pw_iload (z := z2) (pc := 133) dX0_come_133 rfl ?_
                refine pw_i2l (pc := 135) dX0_come_135 (by first | omega | (simp only [n_hq_o_2, n_hq_o_4]; omega)) ?_
                refine pw_lmul (pc := 136) dX0_come_136 ?_
                refine pw_callV (c := 0) (o := 170) (As := [ll_ (up * (ro (31 + 4 * r + 1))), ll_ (dn * z2)]) (rest := []) (pc := 137) dX0_come_137 (d_add hC hq ((List.range r.toNat).foldl (dst_ ro t w se (pm_ ro w.toNat 1) (din_ ro t w se (pm_ ro w.toNat 1) n) left free up dn) N) (pm_ ro w.toNat 1) (up * (ro (31 + 4 * r + 1))) (dn * z2) (by first | omega | (simp only [n_hq_o_2, n_hq_o_4]; omega)) (by first | omega | (simp only [n_hq_o_2, n_hq_o_4]; omega)) ⟨dq3.1, dq3.2.1⟩ (by first | omega | (simp only [n_hq_o_2, n_hq_o_4]; omega)) (Int.dvd_trans dq4 (pm_mono (by first | omega | (simp only [n_hq_o_2, n_hq_o_4]; omega)))) afr) lX0_59 mX0_add vX0_add (hC 170 (by decide)) (show kd_ 170 = 10 by decide +kernel) rfl rfl rfl (by constructor <;> simp only [rm_] <;> omega) ⟨Nat.zero_le _, Nat.zero_le _⟩ (Nat.le_of_ble_eq_true rfl) (k_v (fun h137 q137 => ?_))
                obtain ⟨f137, o137, r137⟩ := q137
                refine pw_less (lv1 := [some (rr_ G 170), some (ii_ c), some (ii_ k), some (ll_ up), none, some (ll_ dn), none, some (ii_ z2), some (ii_ r), none, none]) rfl (by intro i v; (match i with | 0 => simp | 1 => simp | 2 => simp | 3 => simp | 4 => simp | 5 => simp | 6 => simp | 7 => simp | 8 => simp | 9 => simp | 10 => simp | n + 11 => simp)) ?_
                exact J140 _ (by first | exact af | exact off_tr af f137 | exact off_tr af f102) (by first | exact ao | exact fun k k1 k2 => by rw [o137 k k1 k2]; exact ao k k1 k2 | exact fun k k1 k2 => by rw [o102 k k1 k2]; exact ao k k1 k2) (by
                         rw [js, dst_u]
                         first
                         | (rw [tn_c ak.1, if_f (fun u => c28 (cr.mpr u))]; exact afr)
                         | (rw [tn_c ak.1, if_t lb, if_t c71, if_t (by rw [← w42]; exact c114), ← w2]; exact r137)
                         | (rw [tn_c ak.1, if_t lb, if_t c71, if_f (by rw [← w42]; exact c114)]; exact afr)
                         | (rw [tn_c ak.1, if_t lb, if_f c71, ← w42, ← w2]; exact r102))
            · refine pw_aload_n (z := 170) (pc := 74) dX0_come_74 rfl rfl ?_
              refine pw_iload_n (z := c) (pc := 75) dX0_come_75 rfl rfl ?_
              refine pw_iconst (pc := 76) dX0_come_76 ?_
              refine pw_iload (z := r) (pc := 77) dX0_come_77 rfl ?_
              refine pw_ishl1 (pc := 79) dX0_come_79 (by first | omega | (simp only [n_hq_o_2]; omega)) ?_
              refine pw_iorX (pc := 80) dX0_come_80 (by first | omega | (simp only [n_hq_o_2]; omega)) (by first | omega | (simp only [n_hq_o_2]; omega)) (fun w80 r80 x80 => ?_)
              have cw := cmp_s (r := r) (by omega) hc (by omega) (by omega) lb hcl (x80 (by omega) (by omega))
              refine pw_iload (z := v) (pc := 81) dX0_come_81 rfl ?_
              refine pw_lload_n (z := up) (pc := 83) dX0_come_83 rfl rfl ?_
              refine pw_aload_n (z := 170) (pc := 84) dX0_come_84 rfl rfl ?_
              refine pw_gD (x := 0) (r := o) (pc := 85) dX0_come_85 fX0_18 (hC 170 (by decide)) (show kd_ 170 = 10 by decide +kernel) rfl rfl hl_hq ?_
              refine pw_getR (r := (o + 4)) (pc := 88) dX0_come_88 fX0_56 (hC _ (by omega)) (kd6_0 ho) rfl rfl ?_
              refine pw_iload (z := r) (pc := 91) dX0_come_91 rfl ?_
              refine pw_iald (pc := 93) dX0_come_93 (hC _ (by omega)) (kd6_4 ho) 4 (ln6_4 ho) (by first | omega | (simp only [n_hq_o_2]; omega)) (by first | omega | (simp only [n_hq_o_2]; omega)) (by first | omega | (simp only [n_hq_o_2]; omega)) (fun r93 => ?_)
              have n_hq_o_4 : hq (o + 4) = h (o + 4) := (af (o + 4) (by first | decide | (simp; done) | (simp; omega)))
              rw [n_hq_o_4] at r93 ⊢
              rw [HR]
              refine pw_i2l (pc := 94) dX0_come_94 (by first | omega | (simp only [n_hq_o_2, n_hq_o_4]; omega)) ?_
              refine pw_lmul (pc := 95) dX0_come_95 ?_
              refine pw_lload (z := dn) (pc := 96) dX0_come_96 rfl ?_
              refine pw_iload (z := z2) (pc := 98) dX0_come_98 rfl ?_
              refine pw_i2l (pc := 100) dX0_come_100 (by first | omega | (simp only [n_hq_o_2, n_hq_o_4]; omega)) ?_
              refine pw_lmul (pc := 101) dX0_come_101 ?_
              have pr : eqr_ ro o n t (w80) (v) (left - 2 ^ r.toNat) (if z42 < 0 then free else free - 2 ^ z42.toNat) w se (up * (ro (31 + 4 * r + 1))) (dn * z2) ((List.range r.toNat).foldl (dst_ ro t w se (pm_ ro w.toNat 1) (din_ ro t w se (pm_ ro w.toNat 1) n) left free up dn) N) hq := by
                refine ⟨Hq, ⟨hl_hq, ho_1, ho_2, ho_3⟩, ht, hd, cw.1, fv.1, cw.2, fv.2.2, hse, ?_, afr⟩
                rw [w2]
                exact dpu_s hR4 hd hu (r := r) (by omega) lb (by omega) (by rw [← hQ]; exact ab) fv.2.1
              refine pw_callV (c := 0) (o := 170) (As := [ii_ w80, ii_ v, ll_ (up * (ro (31 + 4 * r + 1))), ll_ (dn * z2)]) (rest := []) (pc := 102) dX0_come_102 (IH hq t (w80) (v) (left - 2 ^ r.toNat) (if z42 < 0 then free else free - 2 ^ z42.toNat) w se (up * (ro (31 + 4 * r + 1))) (dn * z2) ((List.range r.toNat).foldl (dst_ ro t w se (pm_ ro w.toNat 1) (din_ ro t w se (pm_ ro w.toNat 1) n) left free up dn) N) pr) lX0_39 mX0_come vX0_come (hC 170 (by decide)) (show kd_ 170 = 10 by decide +kernel) rfl rfl rfl (by constructor <;> simp only [rm_] <;> omega) ⟨Nat.zero_le _, Nat.zero_le _⟩ (Nat.le_of_ble_eq_true rfl) (k_v (fun h102 q102 => ?_))
              obtain ⟨f102, o102, r102⟩ := q102
              refine pw_goto (t := 140) (pc := 105) dX0_come_105 (by decide) ?_
              refine pw_less (lv1 := [some (rr_ G 170), some (ii_ c), some (ii_ k), some (ll_ up), none, some (ll_ dn), none, some (ii_ z2), some (ii_ r), none, none]) rfl (by intro i v; (match i with | 0 => simp | 1 => simp | 2 => simp | 3 => simp | 4 => simp | 5 => simp | 6 => simp | 7 => simp | 8 => simp | 9 => simp | 10 => simp | n + 11 => simp)) ?_
              exact J140 _ (by first | exact af | exact off_tr af f137 | exact off_tr af f102) (by first | exact ao | exact fun k k1 k2 => by rw [o137 k k1 k2]; exact ao k k1 k2 | exact fun k k1 k2 => by rw [o102 k k1 k2]; exact ao k k1 k2) (by
                       rw [js, dst_u]
                       first
                       | (rw [tn_c ak.1, if_f (fun u => c28 (cr.mpr u))]; exact afr)
                       | (rw [tn_c ak.1, if_t lb, if_t c71, if_t (by rw [← w42]; exact c114), ← w2]; exact r137)
                       | (rw [tn_c ak.1, if_t lb, if_t c71, if_f (by rw [← w42]; exact c114)]; exact afr)
                       | (rw [tn_c ak.1, if_t lb, if_f c71, ← w42, ← w2]; exact r102))
          refine pw_iload (z := z42) (pc := 47) dX0_come_47 rfl ?_
          refine pw_iconst (pc := 49) dX0_come_49 ?_
          refine pw_icmp_ne (t := 57) (pc := 50) dX0_come_50 (by decide) (by first | omega | (simp only [n_hq_o_2]; omega)) (by first | omega | (simp only [n_hq_o_2]; omega)) (fun c50 => ?_) (fun c50 => ?_)
          · have p9 := p8_ (s := z42) (by omega)
            refine pw_iload_n (z := k) (pc := 57) dX0_come_57 rfl rfl ?_
            refine pw_iconst (pc := 58) dX0_come_58 ?_
            refine pw_iload (z := z42) (pc := 59) dX0_come_59 rfl ?_
            refine pw_ishl1 (pc := 61) dX0_come_61 (by first | omega | (simp only [n_hq_o_2]; omega)) ?_
            refine pw_iorX (pc := 62) dX0_come_62 (by first | omega | (simp only [n_hq_o_2]; omega)) (by first | omega | (simp only [n_hq_o_2]; omega)) (fun w62 r62 x62 => ?_)
            exact J63 _ (by
                    first
                    | (rw [if_pos (by omega)]; exact ⟨hk, by omega, hkf⟩)
                    | (rw [if_neg (by omega)]
                       have e := cmp_s (r := z42) (by omega) hk (by omega) (by omega) (tf (by omega)) hkf (x62 (by omega) (by omega))
                       have b := bx_f free.toNat (by omega) z42.toNat (by omega) (ib_.1.mp (by rw [tn_c u5.1]; exact tf (by omega)))
                       exact ⟨e.1, by rw [pc_]; omega, e.2⟩))
          · refine pw_iload_n (z := k) (pc := 53) dX0_come_53 rfl rfl ?_
            refine pw_goto (t := 63) (pc := 54) dX0_come_54 (by decide) ?_
            exact J63 _ (by
                    first
                    | (rw [if_pos (by omega)]; exact ⟨hk, by omega, hkf⟩)
                    | (rw [if_neg (by omega)]
                       have e := cmp_s (r := z42) (by omega) hk (by omega) (by omega) (tf (by omega)) hkf (x62 (by omega) (by omega))
                       have b := bx_f free.toNat (by omega) z42.toNat (by omega) (ib_.1.mp (by rw [tn_c u5.1]; exact tf (by omega)))
                       exact ⟨e.1, by rw [pc_]; omega, e.2⟩))
  exact L10 _ _ _ (by omega) (off_rf) (fun _ _ _ => rfl) (hf) (Int.self_le_toNat _)

theorem d_come {G : GT_} (hC : okC_ G) (o : Nat) (ho : is6_ o) (ro : Int → Int) : ∀ n : Nat, eqc_ G ro o n
  | 0 => fun h t c k left free w se up dn N hp => by
    exfalso
    obtain ⟨_, _, _, _, _, _, _, _, _, hu, _⟩ := hp
    obtain ⟨u1, u2, u3, u4, u5⟩ := hu
    have z := bx_z left.toNat (by omega) u4
    rw [show left = 0 by omega, Int.zero_ediv] at u3
    exact absurd u3 (by decide)
  | n + 1 => fun h t c k left free w se up dn N hp => d_comeS hC h o ho ro n (d_come hC o ho ro n) t c k left free w se up dn N hp
