set_option maxHeartbeats 4000000 in
set_option maxRecDepth 100000 in
theorem d_findPlan {G : GT_} (hC : okC_ G) (h : PH_) (o : Nat) (ho : is6_ o) (ro : Int → Int) (H : CRD_ ro h o) (P : List (Int × Int)) (hl : CLP_ ro P h o) (hm : CWM_ ro P h o) (t : Int) (h1 : 0 ≤ t ∧ t < ro 1) : PC G yX9_findPlan cX9_findPlan 7 none 4 [rr_ G 166, rr_ G o, ii_ t] h (qv_ (fun h' => off_ [166, 167, 168, o + 10, o + 11, o + 15] h h' ∧ CWM_ ro P h' o ∧ ∀ q, q = (tbp_ (ro 0) (ro 2) (fun r s => wv_ ro P r s t 0) ((2 : Int) ^ (2 * ro 2).toNat).toNat).1 → 0 ≤ q → h' 166 3 = q ∧ ∀ r, 0 ≤ r → r < ro 2 → h' 168 r = dg_ (ro 2) q r)) := by
  have HB := H.2.1
  have HA := H.1
  have hW : ∀ r s, 0 ≤ wv_ ro P r s t 0 ∧ wv_ ro P r s t 0 ≤ 999 := fun r s => wv_b _ _ _ _ _ _
  refine PC.of (lv := [some (rr_ G 166), some (rr_ G o), some (ii_ t), none, none, none, none]) (by decide +kernel) (Nat.le_of_ble_eq_true rfl) rfl rfl ?_
  refine pw_iconst (pc := 0) dX9_findPlan_0 ?_
  refine pw_istore_n (lv1 := [some (rr_ G 166), some (rr_ G o), some (ii_ t), some (ii_ (-1)), none, none, none]) (pc := 1) dX9_findPlan_1 rfl (by decide) rfl rfl ?_
  refine pw_iconst (pc := 2) dX9_findPlan_2 ?_
  refine pw_istore (lv1 := [some (rr_ G 166), some (rr_ G o), some (ii_ t), some (ii_ (-1)), some (ii_ 0), none, none]) (pc := 3) dX9_findPlan_3 (by decide) rfl rfl ?_
  have L5 : ∀ (nn : Nat) (m : Int) (n : Int) (hq : PH_), (0 ≤ n ∧ n ≤ 2 ^ (2 * ro 2).toNat) → (off_ [166, 167, 168, o + 10, o + 11, o + 15] h hq) → (CWM_ ro P hq o) → (m = (tbp_ (ro 0) (ro 2) (fun r s => wv_ ro P r s t 0) n.toNat).2 ∧ (0 ≤ (tbp_ (ro 0) (ro 2) (fun r s => wv_ ro P r s t 0) n.toNat).1 → hq 166 3 = (tbp_ (ro 0) (ro 2) (fun r s => wv_ ro P r s t 0) n.toNat).1 ∧ ∀ r, 0 ≤ r → r < ro 2 → hq 168 r = dg_ (ro 2) (tbp_ (ro 0) (ro 2) (fun r s => wv_ ro P r s t 0) n.toNat).1 r)) → ((2 ^ (2 * ro 2).toNat - n + 1 : Int) ≤ nn) → PW G RX9 cX9_findPlan 7 none (rm_ 4) 0 0 (zm_ G (qv_ (fun h' => off_ [166, 167, 168, o + 10, o + 11, o + 15] h h' ∧ CWM_ ro P h' o ∧ ∀ q, q = (tbp_ (ro 0) (ro 2) (fun r s => wv_ ro P r s t 0) ((2 : Int) ^ (2 * ro 2).toNat).toNat).1 → 0 ≤ q → h' 166 3 = q ∧ ∀ r, 0 ≤ r → r < ro 2 → h' 168 r = dg_ (ro 2) q r))) 5 [some (rr_ G 166), some (rr_ G o), some (ii_ t), some (ii_ m), some (ii_ n), none, none] [] hq := by
    intro nn
    induction nn with
    | zero => intro m n hq ak af am ai ams; exfalso; omega
    | succ nn ih5 =>
      intro m n hq ak af am ai ams
      have Hq : CRD_ ro hq o := CRD_cg H (fun k _ => congrFun (af _ (by simp; omega)) k) (af _ (by simp; omega)) (af _ (by simp; omega)) (af _ (by simp; omega)) (af _ (by simp; omega)) (af _ (by simp; omega)) (af _ (by simp; omega))
      have lq : CLP_ ro P hq o := CLP_cg hl (af _ (by simp; omega)) (af _ (by simp; omega)) (af _ (by simp; omega)) (af _ (by simp; omega))
      have p2 := p2R (R := h o 2) (by omega) (by omega)
      have e3 : (2 : Int) ^ (2 * h o 2).toNat = 2 ^ (2 * ro 2).toNat := by rw [HA.2.2.1]
      refine pw_iload (z := n) (pc := 5) dX9_findPlan_5 rfl ?_
      refine pw_iconst (pc := 7) dX9_findPlan_7 ?_
      refine pw_iconst (pc := 8) dX9_findPlan_8 ?_
      refine pw_aload_n (z := o) (pc := 9) dX9_findPlan_9 rfl rfl ?_
      refine pw_gI (x := 2) (pc := 10) dX9_findPlan_10 fX9_39 (hC _ (by omega)) (kd6_0 ho) rfl rfl (fun r10 => ?_)
      have n_hq_o_2 : hq o 2 = h o 2 := (congrFun (af o (by first | decide | (simp; done) | (simp; omega))) 2)
      rw [n_hq_o_2] at r10 ⊢
      refine pw_imul (pc := 13) dX9_findPlan_13 ?_
      refine pw_ishl1 (pc := 14) dX9_findPlan_14 (by first | omega | (simp only [n_hq_o_2]; omega)) ?_
      refine pw_icmp_ge (t := 110) (pc := 15) dX9_findPlan_15 (by decide) (by first | omega | (simp only [n_hq_o_2]; omega)) (by first | omega | (simp only [n_hq_o_2]; omega)) (fun c15 => ?_) (fun c15 => ?_)
      · exact pw_vret (pc := 110) dX9_findPlan_110 (⟨af, am, fun q hq1 q0 => by rw [show (2 : Int) ^ (2 * ro 2).toNat = n by omega] at hq1; subst hq1; exact ai.2 q0⟩)
      · refine pw_iconst (pc := 18) dX9_findPlan_18 ?_
        refine pw_istore (lv1 := [some (rr_ G 166), some (rr_ G o), some (ii_ t), some (ii_ m), some (ii_ n), some (ii_ (-1)), none]) (pc := 19) dX9_findPlan_19 (by decide) rfl rfl ?_
        have J75 : ∀ (v : Int) (hy : PH_), (off_ [166, 167, 168, o + 10, o + 11, o + 15] h hy) → (CWM_ ro P hy o) → (v = if_ (vp_ok (ro 0) (ro 2) n) (tsm_ (fun r s => wv_ ro P r s t 0) (ro 2) n (ro 2).toNat) (-1)) → (vp_ok (ro 0) (ro 2) n → ∀ r, 0 ≤ r → r < ro 2 → hy 167 r = dg_ (ro 2) n r) → (hy 166 = hq 166 ∧ hy 168 = hq 168) → PW G RX9 cX9_findPlan 7 none (rm_ 4) 0 0 (zm_ G (qv_ (fun h' => off_ [166, 167, 168, o + 10, o + 11, o + 15] h h' ∧ CWM_ ro P h' o ∧ ∀ q, q = (tbp_ (ro 0) (ro 2) (fun r s => wv_ ro P r s t 0) ((2 : Int) ^ (2 * ro 2).toNat).toNat).1 → 0 ≤ q → h' 166 3 = q ∧ ∀ r, 0 ≤ r → r < ro 2 → h' 168 r = dg_ (ro 2) q r))) 75 [some (rr_ G 166), some (rr_ G o), some (ii_ t), some (ii_ m), some (ii_ n), some (ii_ v), none] [] hy := by
          intro v hy cf cm cv cs c6
          have vb : -1 ≤ v ∧ v ≤ 4000 := by rw [cv]; by_cases c : vp_ok (ro 0) (ro 2) n; (rw [if_t c]; have := tsm_b (R := ro 2) (p := n) hW (ro 2).toNat; omega); (rw [if_f c]; omega)
          have mb : -1 ≤ m ∧ m ≤ 4000 := by
            rw [ai.1]
            rcases tbp_b (S := ro 0) (R := ro 2) (W := fun r s => wv_ ro P r s t 0) (by omega) hW n.toNat with q | q
            · rw [q.1]; show -1 ≤ (-1 : Int) ∧ (-1 : Int) ≤ 4000; omega
            · have := q.2.1; omega
          refine pw_iload (z := v) (pc := 75) dX9_findPlan_75 rfl ?_
          refine pw_iload_n (z := m) (pc := 77) dX9_findPlan_77 rfl rfl ?_
          refine pw_icmp_le (t := 104) (pc := 78) dX9_findPlan_78 (by decide) (by first | omega | (simp only [n_hq_o_2]; omega)) (by first | omega | (simp only [n_hq_o_2]; omega)) (fun c78 => ?_) (fun c78 => ?_)
          · refine pw_iinc (z := n) (lv1 := [some (rr_ G 166), some (rr_ G o), some (ii_ t), some (ii_ m), some (ii_ (n + 1)), some (ii_ v), none]) (pc := 104) dX9_findPlan_104 rfl (by decide) rfl rfl ?_
            refine pw_goto (t := 5) (pc := 107) dX9_findPlan_107 (by decide) ?_
            refine pw_less (lv1 := [some (rr_ G 166), some (rr_ G o), some (ii_ t), some (ii_ m), some (ii_ (n + 1)), none, none]) rfl (by intro i v; (match i with | 0 => simp | 1 => simp | 2 => simp | 3 => simp | 4 => simp | 5 => simp | 6 => simp | n + 7 => simp)) ?_
            exact ih5 _ _ _ (by omega) (by first | exact cf | exact off_tr (by rw [e87]; exact off_up cf (by simp)) (off_mo f101 (by simp))) (by first | exact cm | (have := cm; unfold CWM_ at *; rw [f101 (o + 15) (by simp; omega), e87, up_off (by omega)]; exact this)) (by
                    first
                    | (rw [tbp_s ak.1, if_f (fun u => by rw [if_t u.1] at cv; have := ai.1; have := u.2; omega)]
                       exact ⟨ai.1, fun w => by rw [c6.1, c6.2]; exact ai.2 w⟩)
                    | (have hv : vp_ok (ro 0) (ro 2) n := Classical.byContradiction (fun c => by rw [if_f c] at cv; omega)
                       rw [if_t hv] at cv
                       rw [tbp_s ak.1, if_t ⟨hv, by have := ai.1; omega⟩]
                       exact ⟨cv, fun _ => ⟨by rw [f101 166 (by decide), e87, up_same], fun r u1 u2 => by
                         rw [e101, sc_at]
                         show (if _ then _ else _) = _
                         rw [if_pos (by omega), show r - 0 + 0 = r by omega, e87, up_off (by decide)]; exact cs hv r u1 u2⟩⟩)) (by omega)
          · refine pw_iload (z := v) (pc := 81) dX9_findPlan_81 rfl ?_
            refine pw_istore_n (lv1 := [some (rr_ G 166), some (rr_ G o), some (ii_ t), some (ii_ v), some (ii_ n), some (ii_ v), none]) (pc := 83) dX9_findPlan_83 rfl (by decide) rfl rfl ?_
            refine pw_aload_n (z := 166) (pc := 84) dX9_findPlan_84 rfl rfl ?_
            refine pw_iload (z := n) (pc := 85) dX9_findPlan_85 rfl ?_
            refine pw_pI (x := 3) (pc := 87) dX9_findPlan_87 fX9_50 (hC 166 (by decide)) (show kd_ 166 = 19 by decide +kernel) rfl rfl (by first | omega | (simp only [n_hq_o_2]; omega)) ?_
            obtain ⟨g87, e87⟩ : ∃ x, x = up_ hy 166 3 n := ⟨_, rfl⟩
            refine pw_heq e87 ?_
            refine pw_aload_n (z := 166) (pc := 90) dX9_findPlan_90 rfl rfl ?_
            refine pw_getR (r := 167) (pc := 91) dX9_findPlan_91 fX9_9 (hC 166 (by decide)) (show kd_ 166 = 19 by decide +kernel) rfl (by decide +kernel) ?_
            refine pw_iconst (pc := 94) dX9_findPlan_94 ?_
            refine pw_aload_n (z := 166) (pc := 95) dX9_findPlan_95 rfl rfl ?_
            refine pw_getR (r := 168) (pc := 96) dX9_findPlan_96 fX9_15 (hC 166 (by decide)) (show kd_ 166 = 19 by decide +kernel) rfl (by decide +kernel) ?_
            refine pw_iconst (pc := 99) dX9_findPlan_99 ?_
            refine pw_iconst (pc := 100) dX9_findPlan_100 ?_
            refine pw_copy (n0 := 4) (n1 := 4) (pc := 101) dX9_findPlan_101 lX9_53 (hC 167 (by decide)) (hC 168 (by decide)) (show kd_ 167 = 0 by decide +kernel) (show kd_ 168 = 0 by decide +kernel) (by decide +kernel) (by decide +kernel) (by first | omega | (simp only [n_hq_o_2]; omega)) (by first | omega | (simp only [n_hq_o_2]; omega)) (by first | omega | (simp only [n_hq_o_2]; omega)) (by decide) (by decide) (Nat.le_of_ble_eq_true rfl) ?_
            obtain ⟨g101, e101⟩ : ∃ x, x = sc_ g87 168 (fun x => if 0 ≤ x ∧ x < 0 + 4 then g87 167 (x - 0 + 0) else g87 168 x) := ⟨_, rfl⟩
            refine pw_heq e101 ?_
            have f101 : off_ [168] g87 g101 := fun j hj => by rw [e101]; exact sc_off (by simpa using hj)
            refine pw_iinc (z := n) (lv1 := [some (rr_ G 166), some (rr_ G o), some (ii_ t), some (ii_ v), some (ii_ (n + 1)), some (ii_ v), none]) (pc := 104) dX9_findPlan_104 rfl (by decide) rfl rfl ?_
            refine pw_goto (t := 5) (pc := 107) dX9_findPlan_107 (by decide) ?_
            refine pw_less (lv1 := [some (rr_ G 166), some (rr_ G o), some (ii_ t), some (ii_ v), some (ii_ (n + 1)), none, none]) rfl (by intro i v; (match i with | 0 => simp | 1 => simp | 2 => simp | 3 => simp | 4 => simp | 5 => simp | 6 => simp | n + 7 => simp)) ?_
            exact ih5 _ _ _ (by omega) (by first | exact cf | exact off_tr (by rw [e87]; exact off_up cf (by simp)) (off_mo f101 (by simp))) (by first | exact cm | (have := cm; unfold CWM_ at *; rw [f101 (o + 15) (by simp; omega), e87, up_off (by omega)]; exact this)) (by
                    first
                    | (rw [tbp_s ak.1, if_f (fun u => by rw [if_t u.1] at cv; have := ai.1; have := u.2; omega)]
                       exact ⟨ai.1, fun w => by rw [c6.1, c6.2]; exact ai.2 w⟩)
                    | (have hv : vp_ok (ro 0) (ro 2) n := Classical.byContradiction (fun c => by rw [if_f c] at cv; omega)
                       rw [if_t hv] at cv
                       rw [tbp_s ak.1, if_t ⟨hv, by have := ai.1; omega⟩]
                       exact ⟨cv, fun _ => ⟨by rw [f101 166 (by decide), e87, up_same], fun r u1 u2 => by
                         rw [e101, sc_at]
                         show (if _ then _ else _) = _
                         rw [if_pos (by omega), show r - 0 + 0 = r by omega, e87, up_off (by decide)]; exact cs hv r u1 u2⟩⟩)) (by omega)
        refine pw_aload_n (z := o) (pc := 21) dX9_findPlan_21 rfl rfl ?_
        refine pw_iload (z := n) (pc := 22) dX9_findPlan_22 rfl ?_
        refine pw_aload_n (z := 166) (pc := 24) dX9_findPlan_24 rfl rfl ?_
        refine pw_getR (r := 167) (pc := 25) dX9_findPlan_25 fX9_9 (hC 166 (by decide)) (show kd_ 166 = 19 by decide +kernel) rfl (by decide +kernel) ?_
        refine pw_callV (c := 6) (o := o) (As := [ii_ n, rr_ G 167]) (rest := []) (pc := 28) dX9_findPlan_28 (d_unpack hC hq o ho ro Hq 167 (by decide +kernel) (by decide +kernel) (by decide) n (by first | omega | (simp only [n_hq_o_2]; omega))) lX9_42 mX6_unpack vX6_unpack (hC _ (by omega)) (kd6_0 ho) rfl rfl rfl (by decide) ⟨Nat.zero_le _, Nat.zero_le _⟩ (Nat.le_of_ble_eq_true rfl) (k_i (fun z28 h28 y28 q28 => ?_))
        obtain ⟨f28, ⟨rfl, p28⟩ | ⟨rfl, p28⟩, g28⟩ := q28
        · have fz : off_ [166, 167, 168, o + 10, o + 11, o + 15] h h28 := off_tr af (off_mo f28 (by simp))
          have m28 : CWM_ ro P h28 o := by have := am; unfold CWM_ at *; rw [f28 (o + 15) (by simp; omega)]; exact this
          have g28b := g28 rfl
          simp -failIfUnchanged only [n_hq_o_2] at p28
          refine pw_if_eq (t := 75) (pc := 31) dX9_findPlan_31 (by decide) (by first | omega | (simp only [n_hq_o_2]; omega)) (fun c31 => absurd c31 (by decide)) (fun _ => ?_)
          refine pw_iconst (pc := 34) dX9_findPlan_34 ?_
          refine pw_istore (lv1 := [some (rr_ G 166), some (rr_ G o), some (ii_ t), some (ii_ m), some (ii_ n), some (ii_ 0), none]) (pc := 35) dX9_findPlan_35 (by decide) rfl rfl ?_
          refine pw_iconst (pc := 37) dX9_findPlan_37 ?_
          refine pw_istore (lv1 := [some (rr_ G 166), some (rr_ G o), some (ii_ t), some (ii_ m), some (ii_ n), some (ii_ 0), some (ii_ 0)]) (pc := 38) dX9_findPlan_38 (by decide) rfl rfl ?_
          have L40 : ∀ (nn : Nat) (u : Int) (r : Int) (hz : PH_), (0 ≤ r ∧ r ≤ ro 2) → (off_ [o + 10, o + 11, o + 15] h28 hz) → (CWM_ ro P hz o) → (u = tsm_ (fun r s => wv_ ro P r s t 0) (ro 2) n r.toNat) → ((ro 2 - r + 1 : Int) ≤ nn) → PW G RX9 cX9_findPlan 7 none (rm_ 4) 0 0 (zm_ G (qv_ (fun h' => off_ [166, 167, 168, o + 10, o + 11, o + 15] h h' ∧ CWM_ ro P h' o ∧ ∀ q, q = (tbp_ (ro 0) (ro 2) (fun r s => wv_ ro P r s t 0) ((2 : Int) ^ (2 * ro 2).toNat).toNat).1 → 0 ≤ q → h' 166 3 = q ∧ ∀ r, 0 ≤ r → r < ro 2 → h' 168 r = dg_ (ro 2) q r))) 40 [some (rr_ G 166), some (rr_ G o), some (ii_ t), some (ii_ m), some (ii_ n), some (ii_ u), some (ii_ r)] [] hz := by
            intro nn
            induction nn with
            | zero => intro u r hz bk bf bm bu ams; exfalso; omega
            | succ nn ih40 =>
              intro u r hz bk bf bm bu ams
              have tb := tsm_b (R := ro 2) (p := n) hW r.toNat
              refine pw_iload (z := r) (pc := 40) dX9_findPlan_40 rfl ?_
              refine pw_aload_n (z := o) (pc := 42) dX9_findPlan_42 rfl rfl ?_
              refine pw_gI (x := 2) (pc := 43) dX9_findPlan_43 fX9_39 (hC _ (by omega)) (kd6_0 ho) rfl rfl (fun r43 => ?_)
              have n_hz_o_2 : hz o 2 = h o 2 := (((show hz o 2 = h28 o 2 from (congrFun (bf o (by first | decide | (simp; done) | (simp; omega))) 2)).trans (show h28 o 2 = hq o 2 from (congrFun (f28 o (by first | decide | (simp; done) | (simp; omega))) 2))).trans (show hq o 2 = h o 2 from (congrFun (af o (by first | decide | (simp; done) | (simp; omega))) 2)))
              rw [n_hz_o_2] at r43 ⊢
              refine pw_icmp_ge (t := 75) (pc := 46) dX9_findPlan_46 (by decide) (by first | omega | (simp only [n_hq_o_2, n_hz_o_2]; omega)) (by first | omega | (simp only [n_hq_o_2, n_hz_o_2]; omega)) (fun c46 => ?_) (fun c46 => ?_)
              · refine pw_less (lv1 := [some (rr_ G 166), some (rr_ G o), some (ii_ t), some (ii_ m), some (ii_ n), some (ii_ u), none]) rfl (by intro i v; (match i with | 0 => simp | 1 => simp | 2 => simp | 3 => simp | 4 => simp | 5 => simp | 6 => simp | n + 7 => simp)) ?_
                exact J75 _ _ (by first | exact fz | exact off_tr fz (off_mo bf (by simp))) (by first | exact bm | exact m28) (by first | (rw [if_f p28]) | (rw [if_t p28, bu, show r = ro 2 by omega])) (by first | (intro u; exact absurd u p28) | (intro _ r u1 u2; rw [bf 167 (by simp; omega)]; exact g28b r u1 u2)) (by first | exact ⟨f28 _ (by decide), f28 _ (by decide)⟩ | exact ⟨(bf _ (by simp; omega)).trans (f28 _ (by decide)), (bf _ (by simp; omega)).trans (f28 _ (by decide))⟩)
              · have hzf : off_ [166, 167, 168, o + 10, o + 11, o + 15] h hz := off_tr fz (off_mo bf (by simp))
                have Hz : CRD_ ro hz o := CRD_cg H (fun k _ => congrFun (hzf _ (by simp; omega)) k) (hzf _ (by simp; omega)) (hzf _ (by simp; omega)) (hzf _ (by simp; omega)) (hzf _ (by simp; omega)) (hzf _ (by simp; omega)) (hzf _ (by simp; omega))
                have lz : CLP_ ro P hz o := CLP_cg hl (hzf _ (by simp; omega)) (hzf _ (by simp; omega)) (hzf _ (by simp; omega)) (hzf _ (by simp; omega))
                have sr := g28b r (by omega) (by omega)
                have sd := dg_b (ro 2) n r
                have sv := vp_dg p28 (r := r) (by omega)
                have wb := hW r (dg_ (ro 2) n r)
                refine pw_iload (z := u) (pc := 49) dX9_findPlan_49 rfl ?_
                refine pw_aload_n (z := o) (pc := 51) dX9_findPlan_51 rfl rfl ?_
                refine pw_iload_n (z := t) (pc := 52) dX9_findPlan_52 rfl rfl ?_
                refine pw_iload (z := r) (pc := 53) dX9_findPlan_53 rfl ?_
                refine pw_aload_n (z := 166) (pc := 55) dX9_findPlan_55 rfl rfl ?_
                refine pw_getR (r := 167) (pc := 56) dX9_findPlan_56 fX9_9 (hC 166 (by decide)) (show kd_ 166 = 19 by decide +kernel) rfl (by decide +kernel) ?_
                refine pw_iload (z := r) (pc := 59) dX9_findPlan_59 rfl ?_
                refine pw_iald (pc := 61) dX9_findPlan_61 (hC 167 (by decide)) (show kd_ 167 = 0 by decide +kernel) 4 (by decide +kernel) (by first | omega | (simp only [n_hq_o_2, n_hz_o_2]; omega)) (by first | omega | (simp only [n_hq_o_2, n_hz_o_2]; omega)) (by first | omega | (simp only [n_hq_o_2, n_hz_o_2]; omega)) (fun r61 => ?_)
                have n_hz_167 : hz 167 = h28 167 := (bf 167 (by first | decide | (simp; done) | (simp; omega)))
                rw [n_hz_167] at r61 ⊢
                refine pw_iconst (pc := 62) dX9_findPlan_62 ?_
                refine pw_callV (c := 6) (o := o) (As := [ii_ t, ii_ r, ii_ (h28 167 r), ii_ 0]) (rest := [ii_ u]) (pc := 63) dX9_findPlan_63 (d_worthAt hC hz o ho ro Hz P lz bm t r (h28 167 r) 0 (by first | omega | (simp only [n_hq_o_2, n_hz_167, n_hz_o_2]; omega)) (by first | omega | (simp only [n_hq_o_2, n_hz_167, n_hz_o_2]; omega)) (by first | omega | (simp only [n_hq_o_2, n_hz_167, n_hz_o_2]; omega)) (by first | omega | (simp only [n_hq_o_2, n_hz_167, n_hz_o_2]; omega))) lX9_46 mX6_worthAt vX6_worthAt (hC _ (by omega)) (kd6_0 ho) rfl rfl rfl (by decide) ⟨Nat.zero_le _, Nat.zero_le _⟩ (Nat.le_of_ble_eq_true rfl) (k_i (fun z63 h63 y63 q63 => ?_))
                obtain ⟨u63, v63, w63⟩ := q63
                refine pw_iadd (pc := 66) dX9_findPlan_66 ?_
                refine pw_istore (lv1 := [some (rr_ G 166), some (rr_ G o), some (ii_ t), some (ii_ m), some (ii_ n), some (ii_ (u + z63)), some (ii_ r)]) (pc := 67) dX9_findPlan_67 (by decide) rfl rfl ?_
                refine pw_iinc (z := r) (lv1 := [some (rr_ G 166), some (rr_ G o), some (ii_ t), some (ii_ m), some (ii_ n), some (ii_ (u + z63)), some (ii_ (r + 1))]) (pc := 69) dX9_findPlan_69 rfl (by decide) rfl rfl ?_
                refine pw_goto (t := 40) (pc := 72) dX9_findPlan_72 (by decide) ?_
                exact ih40 _ _ _ (by omega) (off_tr bf u63) (v63) (by rw [tsm_s bk.1, bu, w63, sr]) (by omega)
          exact L40 _ _ _ _ (by omega) (off_rf) (m28) (rfl) (Int.self_le_toNat _)
        · have fz : off_ [166, 167, 168, o + 10, o + 11, o + 15] h h28 := off_tr af (off_mo f28 (by simp))
          have m28 : CWM_ ro P h28 o := by have := am; unfold CWM_ at *; rw [f28 (o + 15) (by simp; omega)]; exact this
          simp -failIfUnchanged only [n_hq_o_2] at p28
          refine pw_if_eq (t := 75) (pc := 31) dX9_findPlan_31 (by decide) (by first | omega | (simp only [n_hq_o_2]; omega)) (fun _ => ?_) (fun c31 => absurd c31 (by decide))
          exact J75 _ _ (by first | exact fz | exact off_tr fz (off_mo bf (by simp))) (by first | exact bm | exact m28) (by first | (rw [if_f p28]) | (rw [if_t p28, bu, show r = ro 2 by omega])) (by first | (intro u; exact absurd u p28) | (intro _ r u1 u2; rw [bf 167 (by simp; omega)]; exact g28b r u1 u2)) (by first | exact ⟨f28 _ (by decide), f28 _ (by decide)⟩ | exact ⟨(bf _ (by simp; omega)).trans (f28 _ (by decide)), (bf _ (by simp; omega)).trans (f28 _ (by decide))⟩)
  exact L5 _ _ _ _ (⟨by omega, by have := p2R (R := ro 2) (by omega) (by omega); omega⟩) (off_rf) (hm) (⟨rfl, fun u => by have : (0 : Int) ≤ -1 := u; omega⟩) (Int.self_le_toNat _)

