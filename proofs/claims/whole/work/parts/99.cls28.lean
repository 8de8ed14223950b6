set_option maxHeartbeats 4000000 in
set_option maxRecDepth 100000 in
theorem d_drawStretch {G : GT_} (hC : okC_ G) (h : PH_) (o : Nat) (ho : is6_ o) (ro : Int → Int) (H : CRD_ ro h o) (P : List (Int × Int)) (hl : CLP_ ro P h o) (hm : CWM_ ro P h o) (hd : ∀ r, 0 ≤ r → r < ro 2 → 1 ≤ ro (31 + 4 * r + 1) ∧ ro (31 + 4 * r + 1) ≤ 9) (hland : h 170 0 = (o : Int)) (hg : 0 ≤ h 170 4 ∧ h 170 4 < 2147483648) (hn : 0 ≤ h 170 7 ∧ h 170 7 ≤ 100000) (t : Int) (h1 : 0 ≤ t ∧ t < ro 1) (hb : ∀ r, 0 ≤ r → r < ro 2 → -500000 ≤ h 172 r ∧ h 172 r ≤ 500000) : PC G yX0_drawStretch cX0_drawStretch 7 none 5 [rr_ G 170, ii_ t] h (qv_ (fun h' => off_ [170, 171, 172, o + 10, o + 11, o + 15] h h' ∧ CWM_ ro P h' o ∧ h' 170 0 = (o : Int) ∧ h' 170 4 = (rdx_ ro t (h 170 4) (h 170 7)).1 ∧ h' 170 7 = (rdx_ ro t (h 170 4) (h 170 7)).2.2 ∧ (∀ r, 0 ≤ r → r < ro 2 → h' 172 r = h 172 r + if (rdx_ ro t (h 170 4) (h 170 7)).2.1 r < 0 then 0 else wsi_ ro P (rdx_ ro t (h 170 4) (h 170 7)).2.1 r t))) := by
  have HB := H.2.1
  have HA := H.1
  have hl_h := hland
  have hR4 : 0 ≤ ro 2 ∧ ro 2 ≤ 4 := by omega
  have bi := bx_i (ro 2).toNat (by omega)
  have bj := bx_i (ro 0).toNat (by omega)
  have pR : (2 : Int) ^ (ro 2).toNat = ((2 ^ (ro 2).toNat : Nat) : Int) := pc_
  have pS : (2 : Int) ^ (ro 0).toNat = ((2 ^ (ro 0).toNat : Nat) : Int) := pc_
  have qR := Nat.two_pow_pos (ro 2).toNat
  have qS := Nat.two_pow_pos (ro 0).toNat
  refine PC.of (lv := [some (rr_ G 170), some (ii_ t), none, none, none, none, none]) (by decide +kernel) (Nat.le_of_ble_eq_true rfl) rfl rfl ?_
  refine pw_iconst (pc := 0) dX0_drawStretch_0 ?_
  refine pw_istore_n (lv1 := [some (rr_ G 170), some (ii_ t), some (ii_ 0), none, none, none, none]) (pc := 1) dX0_drawStretch_1 rfl (by decide) rfl rfl ?_
  refine pw_iconst (pc := 2) dX0_drawStretch_2 ?_
  refine pw_istore_n (lv1 := [some (rr_ G 170), some (ii_ t), some (ii_ 0), some (ii_ 0), none, none, none]) (pc := 3) dX0_drawStretch_3 rfl (by decide) rfl rfl ?_
  refine pw_iconst (pc := 4) dX0_drawStretch_4 ?_
  refine pw_istore (lv1 := [some (rr_ G 170), some (ii_ t), some (ii_ 0), some (ii_ 0), some (ii_ 0), none, none]) (pc := 5) dX0_drawStretch_5 (by decide) rfl rfl ?_
  have L7 : ∀ (nn : Nat) (nn9 : Nat) (left : Int) (free : Int) (si : Int → Int) (no : Int) (c : Int) (k : Int) (i : Int) (hq : PH_), (0 ≤ i ∧ i ≤ ro 2 ∧ (nn9 : Int) = ro 2 - i) → (0 ≤ left ∧ left < 2 ^ (ro 2).toNat ∧ left ≤ 15 ∧ (0 ≤ free ∧ free ≤ 15) ∧ (0 ≤ c ∧ c ≤ 15) ∧ (0 ≤ k ∧ k ≤ 15)) → (cmp_ (ro 2) c left ∧ cmp_ (ro 0) k free) → (bcn_ left.toNat = nn9) → (off_ [170, 171] h hq) → (∀ j, j ≠ 4 → hq 170 j = h 170 j) → (0 ≤ hq 170 4 ∧ hq 170 4 < 2147483648) → (∀ r, 0 ≤ r → r < ro 2 → left / 2 ^ r.toNat % 2 = 0 → hq 171 r = si r ∧ -1 ≤ si r ∧ si r < ro 0 ∧ (0 ≤ si r → free / 2 ^ (si r).toNat % 2 = 0)) → (∀ e f, 0 ≤ e → e < ro 2 → 0 ≤ f → f < ro 2 → e ≠ f → left / 2 ^ e.toNat % 2 = 0 → left / 2 ^ f.toNat % 2 = 0 → 0 ≤ si f → si e ≠ si f) → (no = h 170 7 + cnl_ si left (ro 2).toNat) → (rdl_ ro t nn9 (hq 170 4) left free si no = rdx_ ro t (h 170 4) (h 170 7)) → ((ro 2 - i + 1 : Int) ≤ nn) → PW G RX0 cX0_drawStretch 7 none (rm_ 5) 0 0 (zm_ G (qv_ (fun h' => off_ [170, 171, 172, o + 10, o + 11, o + 15] h h' ∧ CWM_ ro P h' o ∧ h' 170 0 = (o : Int) ∧ h' 170 4 = (rdx_ ro t (h 170 4) (h 170 7)).1 ∧ h' 170 7 = (rdx_ ro t (h 170 4) (h 170 7)).2.2 ∧ (∀ r, 0 ≤ r → r < ro 2 → h' 172 r = h 172 r + if (rdx_ ro t (h 170 4) (h 170 7)).2.1 r < 0 then 0 else wsi_ ro P (rdx_ ro t (h 170 4) (h 170 7)).2.1 r t)))) 7 [some (rr_ G 170), some (ii_ t), some (ii_ c), some (ii_ k), some (ii_ i), none, none] [] hq := by
    intro nn
    induction nn with
    | zero => intro nn9 left free si no c k i hq ai al ac ab af ao ag asi adi an ar ams; exfalso; omega
    | succ nn ih7 =>
      intro nn9 left free si no c k i hq ai al ac ab af ao ag asi adi an ar ams
      have hl_hq : hq 170 0 = (o : Int) := (ao 0 (by decide)).trans hland
      have Hq : CRD_ ro hq o := CRD_off H ho af (by simp)
      refine pw_iload (z := i) (pc := 7) dX0_drawStretch_7 rfl ?_
      refine pw_aload_n (z := 170) (pc := 9) dX0_drawStretch_9 rfl rfl ?_
      refine pw_gD (x := 0) (r := o) (pc := 10) dX0_drawStretch_10 fX0_18 (hC 170 (by decide)) (show kd_ 170 = 10 by decide +kernel) rfl rfl hl_hq ?_
      refine pw_gI (x := 2) (pc := 13) dX0_drawStretch_13 fX0_47 (hC _ (by omega)) (kd6_0 ho) rfl rfl (fun r13 => ?_)
      have n_hq_o_2 : hq o 2 = h o 2 := (congrFun (af o (by first | decide | (simp; done) | (simp; omega))) 2)
      rw [n_hq_o_2] at r13 ⊢
      refine pw_icmp_ge (t := 78) (pc := 16) dX0_drawStretch_16 (by decide) (by first | omega | (simp only [n_hq_o_2]; omega)) (by first | omega | (simp only [n_hq_o_2]; omega)) (fun c16 => ?_) (fun c16 => ?_)
      · have n0 : nn9 = 0 := by omega
        have l0 : left = 0 := by have := bx_z left.toNat (by omega) (by omega); omega
        subst n0
        have X1 : rdx_ ro t (h 170 4) (h 170 7) = (hq 170 4, si, no) := by rw [← ar]; rfl
        have sd : ∀ r, 0 ≤ r → r < ro 2 → hq 171 r = si r ∧ -1 ≤ si r ∧ si r < ro 0 := fun r r0 r1 => by have := asi r r0 r1 (by rw [l0, Int.zero_ediv]; rfl); exact ⟨this.1, this.2.1, this.2.2.1⟩
        have sj : inj_ (hq 171) (ro 2) := fun e f e0 ef f1 hf => by
          rw [(sd e e0 (by omega)).1, (sd f (by omega) f1).1]
          rw [(sd f (by omega) f1).1] at hf
          exact adi e f e0 (by omega) (by omega) f1 (by omega) (by rw [l0, Int.zero_ediv]; rfl) (by rw [l0, Int.zero_ediv]; rfl) hf
        rw [l0] at an
        refine pw_iconst (pc := 78) dX0_drawStretch_78 ?_
        refine pw_istore (lv1 := [some (rr_ G 170), some (ii_ t), some (ii_ c), some (ii_ k), some (ii_ 0), none, none]) (pc := 79) dX0_drawStretch_79 (by decide) rfl rfl ?_
        have L81 : ∀ (nn : Nat) (r : Int) (b1 : PH_), (0 ≤ r ∧ r ≤ ro 2) → (off_ [170, 172, o + 10, o + 11, o + 15] hq b1) → (CWM_ ro P b1 o) → (∀ j, j ≠ 7 → b1 170 j = hq 170 j) → (b1 170 7 = h 170 7 + cnl_ si 0 r.toNat) → (∀ q, 0 ≤ q → q < ro 2 → b1 172 q = h 172 q + (if q < r then (if si q < 0 then 0 else wsi_ ro P si q t) else 0)) → ((ro 2 - r + 1 : Int) ≤ nn) → PW G RX0 cX0_drawStretch 7 none (rm_ 5) 0 0 (zm_ G (qv_ (fun h' => off_ [170, 171, 172, o + 10, o + 11, o + 15] h h' ∧ CWM_ ro P h' o ∧ h' 170 0 = (o : Int) ∧ h' 170 4 = (rdx_ ro t (h 170 4) (h 170 7)).1 ∧ h' 170 7 = (rdx_ ro t (h 170 4) (h 170 7)).2.2 ∧ (∀ r, 0 ≤ r → r < ro 2 → h' 172 r = h 172 r + if (rdx_ ro t (h 170 4) (h 170 7)).2.1 r < 0 then 0 else wsi_ ro P (rdx_ ro t (h 170 4) (h 170 7)).2.1 r t)))) 81 [some (rr_ G 170), some (ii_ t), none, none, some (ii_ r), none, none] [] b1 := by
          intro nn
          induction nn with
          | zero => intro r b1 bk bf bm bo7 bn bt ams; exfalso; omega
          | succ nn ih81 =>
            intro r b1 bk bf bm bo7 bn bt ams
            have hl_b1 : b1 170 0 = (o : Int) := (bo7 0 (by decide)).trans hl_hq
            have bff : off_ [170, 171, 172, o + 10, o + 11, o + 15] h b1 := off_tr (off_mo af (by simp)) (off_mo bf (by simp))
            have Hb : CRD_ ro b1 o := CRD_cg H (fun k _ => congrFun (bff _ (by simp; omega)) k) (bff _ (by simp; omega)) (bff _ (by simp; omega)) (bff _ (by simp; omega)) (bff _ (by simp; omega)) (bff _ (by simp; omega)) (bff _ (by simp; omega))
            have lb : CLP_ ro P b1 o := CLP_cg hl (bff _ (by simp; omega)) (bff _ (by simp; omega)) (bff _ (by simp; omega)) (bff _ (by simp; omega))
            refine pw_iload (z := r) (pc := 81) dX0_drawStretch_81 rfl ?_
            refine pw_aload_n (z := 170) (pc := 83) dX0_drawStretch_83 rfl rfl ?_
            refine pw_gD (x := 0) (r := o) (pc := 84) dX0_drawStretch_84 fX0_18 (hC 170 (by decide)) (show kd_ 170 = 10 by decide +kernel) rfl rfl hl_b1 ?_
            refine pw_gI (x := 2) (pc := 87) dX0_drawStretch_87 fX0_47 (hC _ (by omega)) (kd6_0 ho) rfl rfl (fun r87 => ?_)
            have n_b1_o_2 : b1 o 2 = h o 2 := ((show b1 o 2 = hq o 2 from (congrFun (bf o (by first | decide | (simp; done) | (simp; omega))) 2)).trans (show hq o 2 = h o 2 from (congrFun (af o (by first | decide | (simp; done) | (simp; omega))) 2)))
            rw [n_b1_o_2] at r87 ⊢
            refine pw_icmp_ge (t := 147) (pc := 90) dX0_drawStretch_90 (by decide) (by first | omega | (simp only [n_b1_o_2, n_hq_o_2]; omega)) (by first | omega | (simp only [n_b1_o_2, n_hq_o_2]; omega)) (fun c90 => ?_) (fun c90 => ?_)
            · exact pw_vret (pc := 147) dX0_drawStretch_147 (by
                        have rr : r = ro 2 := by omega
                        rw [X1]
                        refine ⟨bff, bm, hl_b1, bo7 4 (by decide), ?_, fun q q0 q1 => ?_⟩
                        · rw [bn, rr]; exact an.symm
                        · rw [bt q q0 q1, if_pos (by omega)])
            · have sr := sd r (by omega) (by omega)
              have hbr := hb r (by omega) (by omega)
              have nt1 : b1 172 r = h 172 r := by rw [bt r (by omega) (by omega), if_neg (by omega), Int.add_zero]
              have ns1 : b1 171 = hq 171 := bf 171 (by simp; omega)
              have cb := cnl_b (si := si) (left := 0) r.toNat
              have nr7 : b1 170 7 = h 170 7 + cnl_ si 0 r.toNat := bn
              have cb9 : 0 ≤ b1 170 7 ∧ b1 170 7 ≤ 100004 := by omega
              have ct := cnl_t (si := si) (r := r) (by omega)
              refine pw_aload_n (z := 170) (pc := 93) dX0_drawStretch_93 rfl rfl ?_
              refine pw_getR (r := 171) (pc := 94) dX0_drawStretch_94 fX0_9 (hC 170 (by decide)) (show kd_ 170 = 10 by decide +kernel) rfl (by decide +kernel) ?_
              refine pw_iload (z := r) (pc := 97) dX0_drawStretch_97 rfl ?_
              refine pw_iald (pc := 99) dX0_drawStretch_99 (hC 171 (by decide)) (show kd_ 171 = 0 by decide +kernel) 4 (by decide +kernel) (by first | omega | (simp only [n_b1_o_2, n_hq_o_2]; omega)) (by first | omega | (simp only [n_b1_o_2, n_hq_o_2]; omega)) (by first | omega | (simp only [n_b1_o_2, n_hq_o_2]; omega)) (fun r99 => ?_)
              have n_b1_171 : b1 171 = hq 171 := (bf 171 (by first | decide | (simp; done) | (simp; omega)))
              rw [n_b1_171] at r99 ⊢
              refine pw_iconst (pc := 100) dX0_drawStretch_100 ?_
              refine pw_icmp_ne (t := 117) (pc := 101) dX0_drawStretch_101 (by decide) (by first | omega | (simp only [n_b1_171, n_b1_o_2, n_hq_o_2]; omega)) (by first | omega | (simp only [n_b1_171, n_b1_o_2, n_hq_o_2]; omega)) (fun c101 => ?_) (fun c101 => ?_)
              · have sr0 : 0 ≤ hq 171 r := by omega
                refine pw_aload_n (z := 170) (pc := 117) dX0_drawStretch_117 rfl rfl ?_
                refine pw_getR (r := 172) (pc := 118) dX0_drawStretch_118 fX0_15 (hC 170 (by decide)) (show kd_ 170 = 10 by decide +kernel) rfl (by decide +kernel) ?_
                refine pw_iload (z := r) (pc := 121) dX0_drawStretch_121 rfl ?_
                refine pw_dup2 (pc := 123) dX0_drawStretch_123 rfl rfl ?_
                refine pw_iald (pc := 124) dX0_drawStretch_124 (hC 172 (by decide)) (show kd_ 172 = 0 by decide +kernel) 4 (by decide +kernel) (by first | omega | (simp only [n_b1_171, n_b1_o_2, n_hq_o_2]; omega)) (by first | omega | (simp only [n_b1_171, n_b1_o_2, n_hq_o_2]; omega)) (by first | omega | (simp only [n_b1_171, n_b1_o_2, n_hq_o_2]; omega)) (fun r124 => ?_)
                rw [nt1]
                refine pw_aload_n (z := 170) (pc := 125) dX0_drawStretch_125 rfl rfl ?_
                refine pw_gD (x := 0) (r := o) (pc := 126) dX0_drawStretch_126 fX0_18 (hC 170 (by decide)) (show kd_ 170 = 10 by decide +kernel) rfl rfl hl_b1 ?_
                refine pw_aload_n (z := 170) (pc := 129) dX0_drawStretch_129 rfl rfl ?_
                refine pw_getR (r := 171) (pc := 130) dX0_drawStretch_130 fX0_9 (hC 170 (by decide)) (show kd_ 170 = 10 by decide +kernel) rfl (by decide +kernel) ?_
                refine pw_iload (z := r) (pc := 133) dX0_drawStretch_133 rfl ?_
                refine pw_iload_n (z := t) (pc := 135) dX0_drawStretch_135 rfl rfl ?_
                refine pw_callV (c := 6) (o := o) (As := [rr_ G 171, ii_ r, ii_ t]) (rest := [ii_ (h 172 r), ii_ r, rr_ G 172]) (pc := 136) dX0_drawStretch_136 (d_worthOf hC b1 o ho ro Hb P lb bm 171 (by decide +kernel) (by decide +kernel) (by decide) (fun e u1 u2 => by rw [ns1]; have := sd e u1 u2; omega) (by rw [ns1]; exact sj) r t h1 (by first | omega | (simp only [n_b1_171, n_b1_o_2, n_hq_o_2]; omega)) (by rw [ns1]; omega)) lX0_92 mX6_worthOf vX6_worthOf (hC _ (by omega)) (kd6_0 ho) rfl rfl rfl (by decide) ⟨Nat.zero_le _, Nat.zero_le _⟩ (Nat.le_of_ble_eq_true rfl) (k_i (fun z136 h136 y136 q136 => ?_))
                obtain ⟨u136, v136, w136⟩ := q136
                have w137 : z136 = wsi_ ro P si r t := by rw [w136, ns1]; exact wsi_cg (by omega) (fun e e0 e1 => (sd e e0 e1).1)
                have wb := wsi_b ro P si r t
                refine pw_iadd (pc := 139) dX0_drawStretch_139 ?_
                refine pw_iast (pc := 140) dX0_drawStretch_140 (hC 172 (by decide)) (show kd_ 172 = 0 by decide +kernel) 4 (by decide +kernel) (by first | omega | (simp only [n_b1_171, n_b1_o_2, n_hq_o_2]; omega)) (by first | omega | (simp only [n_b1_171, n_b1_o_2, n_hq_o_2]; omega)) (by first | omega | (simp only [n_b1_171, n_b1_o_2, n_hq_o_2]; omega)) (by first | omega | (simp only [n_b1_171, n_b1_o_2, n_hq_o_2]; omega)) ?_
                obtain ⟨g140, e140⟩ : ∃ x, x = up_ h136 172 r ((h 172 r) + z136) := ⟨_, rfl⟩
                refine pw_heq e140 ?_
                refine pw_iinc (z := r) (lv1 := [some (rr_ G 170), some (ii_ t), none, none, some (ii_ (r + 1)), none, none]) (pc := 141) dX0_drawStretch_141 rfl (by decide) rfl rfl ?_
                refine pw_goto (t := 81) (pc := 144) dX0_drawStretch_144 (by decide) ?_
                exact ih81 _ _ (by omega) (by first | (rw [e111]; exact off_up bf (by simp)) | (rw [e140]; exact off_up (off_tr bf (off_mo u136 (by simp))) (by simp))) (by first | (have := bm; unfold CWM_ at *; rw [e111, up_off (by omega)]; exact this) | (have := v136; unfold CWM_ at *; rw [e140, up_off (by omega)]; exact this)) (by first | (intro j j1; rw [e111, up_at, if_neg j1]; exact bo7 j j1) | (intro j j1; rw [e140, up_off (by decide), u136 170 (by simp; omega)]; exact bo7 j j1)) (by first | (rw [e111, up_same, nr7, ct, if_pos (by omega)]; omega) | (rw [e140, up_off (by decide), u136 170 (by simp; omega), nr7, ct, if_neg (by omega)]; omega)) (fun q q0 q1 => by
                          first
                          | (rw [e111, up_off (by decide), bt q q0 q1]
                             by_cases c9 : q = r
                             · rw [if_neg (by omega), if_pos (by omega), if_pos (by rw [c9]; omega)]
                             · by_cases c2 : q < r
                               · rw [if_pos c2, if_pos (show q < r + 1 by omega)]
                               · rw [if_neg c2, if_neg (show ¬ q < r + 1 by omega)])
                          | (rw [e140, up_at]
                             by_cases c9 : q = r
                             · rw [if_pos c9, c9, if_pos (by omega), if_neg (by omega), w137]
                             · rw [if_neg c9, u136 172 (by simp; omega), bt q q0 q1]
                               by_cases c2 : q < r
                               · rw [if_pos c2, if_pos (show q < r + 1 by omega)]
                               · rw [if_neg c2, if_neg (show ¬ q < r + 1 by omega)])) (by omega)
              · refine pw_aload_n (z := 170) (pc := 104) dX0_drawStretch_104 rfl rfl ?_
                refine pw_dup (pc := 105) dX0_drawStretch_105 rfl ?_
                refine pw_gI (x := 7) (pc := 106) dX0_drawStretch_106 fX0_70 (hC 170 (by decide)) (show kd_ 170 = 10 by decide +kernel) rfl rfl (fun r106 => ?_)
                refine pw_iconst (pc := 109) dX0_drawStretch_109 ?_
                refine pw_iadd (pc := 110) dX0_drawStretch_110 ?_
                refine pw_pI (x := 7) (pc := 111) dX0_drawStretch_111 fX0_70 (hC 170 (by decide)) (show kd_ 170 = 10 by decide +kernel) rfl rfl (by first | omega | (simp only [n_b1_171, n_b1_o_2, n_hq_o_2]; omega)) ?_
                obtain ⟨g111, e111⟩ : ∃ x, x = up_ b1 170 7 ((b1 170 7) + 1) := ⟨_, rfl⟩
                refine pw_heq e111 ?_
                refine pw_goto (t := 141) (pc := 114) dX0_drawStretch_114 (by decide) ?_
                refine pw_iinc (z := r) (lv1 := [some (rr_ G 170), some (ii_ t), none, none, some (ii_ (r + 1)), none, none]) (pc := 141) dX0_drawStretch_141 rfl (by decide) rfl rfl ?_
                refine pw_goto (t := 81) (pc := 144) dX0_drawStretch_144 (by decide) ?_
                exact ih81 _ _ (by omega) (by first | (rw [e111]; exact off_up bf (by simp)) | (rw [e140]; exact off_up (off_tr bf (off_mo u136 (by simp))) (by simp))) (by first | (have := bm; unfold CWM_ at *; rw [e111, up_off (by omega)]; exact this) | (have := v136; unfold CWM_ at *; rw [e140, up_off (by omega)]; exact this)) (by first | (intro j j1; rw [e111, up_at, if_neg j1]; exact bo7 j j1) | (intro j j1; rw [e140, up_off (by decide), u136 170 (by simp; omega)]; exact bo7 j j1)) (by first | (rw [e111, up_same, nr7, ct, if_pos (by omega)]; omega) | (rw [e140, up_off (by decide), u136 170 (by simp; omega), nr7, ct, if_neg (by omega)]; omega)) (fun q q0 q1 => by
                          first
                          | (rw [e111, up_off (by decide), bt q q0 q1]
                             by_cases c9 : q = r
                             · rw [if_neg (by omega), if_pos (by omega), if_pos (by rw [c9]; omega)]
                             · by_cases c2 : q < r
                               · rw [if_pos c2, if_pos (show q < r + 1 by omega)]
                               · rw [if_neg c2, if_neg (show ¬ q < r + 1 by omega)])
                          | (rw [e140, up_at]
                             by_cases c9 : q = r
                             · rw [if_pos c9, c9, if_pos (by omega), if_neg (by omega), w137]
                             · rw [if_neg c9, u136 172 (by simp; omega), bt q q0 q1]
                               by_cases c2 : q < r
                               · rw [if_pos c2, if_pos (show q < r + 1 by omega)]
                               · rw [if_neg c2, if_neg (show ¬ q < r + 1 by omega)])) (by omega)
        refine pw_less (lv1 := [some (rr_ G 170), some (ii_ t), none, none, some (ii_ 0), none, none]) rfl (by intro i v; (match i with | 0 => simp | 1 => simp | 2 => simp | 3 => simp | 4 => simp | 5 => simp | 6 => simp | n + 7 => simp)) ?_
        exact L81 _ _ _ (by omega) (off_rf) (by have := hm; unfold CWM_ at *; rw [af (o + 15) (by simp; omega)]; exact this) (fun _ _ => rfl) (by rw [ao 7 (by decide)]; exact (Int.add_zero _).symm) (fun q q0 q1 => by rw [if_neg (by omega), af 172 (by decide), Int.add_zero]) (Int.self_le_toNat _)
      · have ok := rwh_ok (ro := ro) (left := left) (g := hq 170 4) (by omega) hd (by omega) (fun u => by rw [u] at ab; have : bcn_ (0 : Int).toNat = 0 := rfl; omega)
        obtain ⟨n, rfl⟩ : ∃ n, nn9 = n + 1 := ⟨nn9 - 1, by omega⟩
        refine pw_aload_n (z := 170) (pc := 19) dX0_drawStretch_19 rfl rfl ?_
        refine pw_iload_n (z := c) (pc := 20) dX0_drawStretch_20 rfl rfl ?_
        refine pw_callV (c := 0) (o := 170) (As := [ii_ c]) (rest := []) (pc := 21) dX0_drawStretch_21 (d_drawOne hC hq o ho ro Hq hd hl_hq ag c left (by first | omega | (simp only [n_hq_o_2]; omega)) ac.1 ok.1) lX0_89 mX0_drawOne vX0_drawOne (hC 170 (by decide)) (show kd_ 170 = 10 by decide +kernel) rfl rfl rfl (by decide) ⟨Nat.zero_le _, Nat.zero_le _⟩ (Nat.le_of_ble_eq_true rfl) (k_i (fun z21 h21 y21 q21 => ?_))
        obtain ⟨e21, w21⟩ := q21
        have f21 : off_ [170] hq h21 := by rw [e21]; exact off_up off_rf (by decide)
        have w22 : z21 = rwh_ ro left (hq 170 4) := w21
        rw [← w22] at ok
        have hl_h21 : h21 170 0 = (o : Int) := by rw [e21, up_at, if_neg (by decide)]; exact hl_hq
        have H21 : CRD_ ro h21 o := CRD_off Hq ho f21 (by simp)
        refine pw_istore (lv1 := [some (rr_ G 170), some (ii_ t), some (ii_ c), some (ii_ k), some (ii_ i), some (ii_ z21), none]) (pc := 24) dX0_drawStretch_24 (by decide) rfl rfl ?_
        refine pw_aload_n (z := 170) (pc := 26) dX0_drawStretch_26 rfl rfl ?_
        refine pw_gD (x := 0) (r := o) (pc := 27) dX0_drawStretch_27 fX0_18 (hC 170 (by decide)) (show kd_ 170 = 10 by decide +kernel) rfl rfl hl_h21 ?_
        refine pw_iload_n (z := t) (pc := 30) dX0_drawStretch_30 rfl rfl ?_
        refine pw_iload (z := z21) (pc := 31) dX0_drawStretch_31 rfl ?_
        refine pw_iload_n (z := k) (pc := 33) dX0_drawStretch_33 rfl rfl ?_
        refine pw_callV (c := 6) (o := o) (As := [ii_ t, ii_ z21, ii_ k]) (rest := []) (pc := 34) dX0_drawStretch_34 (d_seatLeft hC h21 o ho ro H21 t z21 k free h1 (by first | omega | (simp only [n_hq_o_2]; omega)) (by first | omega | (simp only [n_hq_o_2]; omega)) ac.2) lX0_52 mX6_seatLeft vX6_seatLeft (hC _ (by omega)) (kd6_0 ho) rfl rfl rfl (by decide) ⟨Nat.zero_le _, Nat.zero_le _⟩ (Nat.le_of_ble_eq_true rfl) (k_i (fun z34 h34 y34 q34 => ?_))
        obtain ⟨rfl, w34⟩ := q34
        refine pw_istore (lv1 := [some (rr_ G 170), some (ii_ t), some (ii_ c), some (ii_ k), some (ii_ i), some (ii_ z21), some (ii_ z34)]) (pc := 37) dX0_drawStretch_37 (by decide) rfl rfl ?_
        have tb := tks_b ro z21 t free (ro 0).toNat
        have tf := tks_f ro z21 t free (ro 0).toNat
        rw [← w34] at tb tf
        have pz := p8_ (s := z21) (by omega)
        have ew : z34 = rst_ ro t left free (hq 170 4) := by unfold rst_; rw [← w22]; exact w34
        refine pw_aload_n (z := 170) (pc := 39) dX0_drawStretch_39 rfl rfl ?_
        refine pw_getR (r := 171) (pc := 40) dX0_drawStretch_40 fX0_9 (hC 170 (by decide)) (show kd_ 170 = 10 by decide +kernel) rfl (by decide +kernel) ?_
        refine pw_iload (z := z21) (pc := 43) dX0_drawStretch_43 rfl ?_
        refine pw_iload (z := z34) (pc := 45) dX0_drawStretch_45 rfl ?_
        refine pw_iast (pc := 47) dX0_drawStretch_47 (hC 171 (by decide)) (show kd_ 171 = 0 by decide +kernel) 4 (by decide +kernel) (by first | omega | (simp only [n_hq_o_2]; omega)) (by first | omega | (simp only [n_hq_o_2]; omega)) (by first | omega | (simp only [n_hq_o_2]; omega)) (by first | omega | (simp only [n_hq_o_2]; omega)) ?_
        obtain ⟨g47, e47⟩ : ∃ x, x = up_ h21 171 z21 z34 := ⟨_, rfl⟩
        refine pw_heq e47 ?_
        refine pw_iload_n (z := c) (pc := 48) dX0_drawStretch_48 rfl rfl ?_
        refine pw_iconst (pc := 49) dX0_drawStretch_49 ?_
        refine pw_iload (z := z21) (pc := 50) dX0_drawStretch_50 rfl ?_
        refine pw_ishl1 (pc := 52) dX0_drawStretch_52 (by first | omega | (simp only [n_hq_o_2]; omega)) ?_
        refine pw_iorX (pc := 53) dX0_drawStretch_53 (by first | omega | (simp only [n_hq_o_2]; omega)) (by first | omega | (simp only [n_hq_o_2]; omega)) (fun w53 r53 x53 => ?_)
        have cw := cmp_s (r := z21) (by omega) (show 0 ≤ c ∧ c ≤ 15 by omega) (show 0 ≤ left ∧ left ≤ 15 by omega) (by omega) ok.2.2 ac.1 (x53 (by omega) (by omega))
        refine pw_istore_n (lv1 := [some (rr_ G 170), some (ii_ t), some (ii_ w53), some (ii_ k), some (ii_ i), some (ii_ z21), some (ii_ z34)]) (pc := 54) dX0_drawStretch_54 rfl (by decide) rfl rfl ?_
        have J71 : ∀ (v : Int), ((0 ≤ v ∧ v ≤ 15) ∧ (0 ≤ (if z34 < 0 then free else free - 2 ^ z34.toNat) ∧ (if z34 < 0 then free else free - 2 ^ z34.toNat) ≤ 15) ∧ cmp_ (ro 0) v (if z34 < 0 then free else free - 2 ^ z34.toNat)) → PW G RX0 cX0_drawStretch 7 none (rm_ 5) 0 0 (zm_ G (qv_ (fun h' => off_ [170, 171, 172, o + 10, o + 11, o + 15] h h' ∧ CWM_ ro P h' o ∧ h' 170 0 = (o : Int) ∧ h' 170 4 = (rdx_ ro t (h 170 4) (h 170 7)).1 ∧ h' 170 7 = (rdx_ ro t (h 170 4) (h 170 7)).2.2 ∧ (∀ r, 0 ≤ r → r < ro 2 → h' 172 r = h 172 r + if (rdx_ ro t (h 170 4) (h 170 7)).2.1 r < 0 then 0 else wsi_ ro P (rdx_ ro t (h 170 4) (h 170 7)).2.1 r t)))) 71 [some (rr_ G 170), some (ii_ t), some (ii_ w53), some (ii_ k), some (ii_ i), some (ii_ z21), some (ii_ z34)] [ii_ v] g47 := by
          intro v fv
          refine pw_istore_n (lv1 := [some (rr_ G 170), some (ii_ t), some (ii_ w53), some (ii_ v), some (ii_ i), some (ii_ z21), some (ii_ z34)]) (pc := 71) dX0_drawStretch_71 rfl (by decide) rfl rfl ?_
          have bl := bx_f left.toNat (by omega) z21.toNat (by omega) (ib_.1.mp (by rw [tn_c al.1]; exact ok.2.2))
          have bn := bx_n left.toNat (by omega) z21.toNat (by omega) (ib_.1.mp (by rw [tn_c al.1]; exact ok.2.2))
          have el : left - 2 ^ z21.toNat = ((left.toNat - 2 ^ z21.toNat : Nat) : Int) := by rw [pc_]; omega
          have l2 : left - 2 ^ z21.toNat < left := by omega
          have m4 : g47 170 4 = gn_ (hq 170 4) := by rw [e47, up_off (by decide), e21, up_same]
          have m171 : ∀ x, g47 171 x = if x = z21 then z34 else hq 171 x := fun x => by rw [e47, up_at, e21, up_off (by decide)]
          have bo : ∀ q, 0 ≤ q → q < ro 2 → (left - 2 ^ z21.toNat) / 2 ^ q.toNat % 2 = 0 → q ≠ z21 → left / 2 ^ q.toNat % 2 = 0 := fun q q0 q1 hx hne => by
            rw [el] at hx
            rcases bx_o left.toNat (by omega) z21.toNat (by omega) q.toNat (by omega) (ib_.1.mp (by rw [tn_c al.1]; exact ok.2.2)) (ib_.2.mp hx) with u | u
            · exfalso; omega
            · rw [← tn_c al.1]; exact ib_.2.mpr u
          refine pw_iinc (z := i) (lv1 := [some (rr_ G 170), some (ii_ t), some (ii_ w53), some (ii_ v), some (ii_ (i + 1)), some (ii_ z21), some (ii_ z34)]) (pc := 72) dX0_drawStretch_72 rfl (by decide) rfl rfl ?_
          refine pw_goto (t := 7) (pc := 75) dX0_drawStretch_75 (by decide) ?_
          refine pw_less (lv1 := [some (rr_ G 170), some (ii_ t), some (ii_ w53), some (ii_ v), some (ii_ (i + 1)), none, none]) rfl (by intro i v; (match i with | 0 => simp | 1 => simp | 2 => simp | 3 => simp | 4 => simp | 5 => simp | 6 => simp | n + 7 => simp)) ?_
          exact ih7 n (left - 2 ^ z21.toNat) (if z34 < 0 then free else free - 2 ^ z34.toNat) (ob_ si z21 z34) (no + if z34 < 0 then 1 else 0) _ _ _ _ (by omega) (by have := cw.1; have := fv.1; have := fv.2.1; omega) (⟨cw.2, fv.2.2⟩) (by rw [el, Int.toNat_natCast]; omega) (by rw [e47]; exact off_up (off_tr af (off_mo f21 (by decide))) (by decide)) (fun j j1 => by rw [e47, up_off (by decide), e21, up_at, if_neg j1]; exact ao j j1) (by rw [m4]; exact gn_b _) (fun r r0 r1 hx => by
                    rw [m171 r]
                    unfold ob_
                    by_cases c9 : r = z21
                    · rw [if_pos c9, if_pos c9]
                      refine ⟨rfl, by omega, by omega, fun s0 => ?_⟩
                      rw [if_neg (by omega)]
                      have bf := bx_f free.toNat (by omega) z34.toNat (by omega) (ib_.1.mp (by rw [tn_c (show 0 ≤ free by omega)]; exact tf s0))
                      have bw := bx_w free.toNat (by omega) z34.toNat (by omega) z34.toNat (by omega) (ib_.1.mp (by rw [tn_c (show 0 ≤ free by omega)]; exact tf s0))
                      rw [show free - 2 ^ z34.toNat = ((free.toNat - 2 ^ z34.toNat : Nat) : Int) by rw [pc_]; omega]
                      exact ib_.2.mpr (bw.mpr (Or.inl rfl))
                    · rw [if_neg c9, if_neg c9]
                      have q := asi r r0 r1 (bo r r0 r1 hx c9)
                      refine ⟨q.1, q.2.1, q.2.2.1, fun s0 => ?_⟩
                      by_cases c8 : z34 < 0
                      · rw [if_pos c8]; exact q.2.2.2 s0
                      · rw [if_neg c8]
                        have bf := bx_f free.toNat (by omega) z34.toNat (by omega) (ib_.1.mp (by rw [tn_c (show 0 ≤ free by omega)]; exact tf (by omega)))
                        have bw := bx_w free.toNat (by omega) z34.toNat (by omega) (si r).toNat (by omega) (ib_.1.mp (by rw [tn_c (show 0 ≤ free by omega)]; exact tf (by omega)))
                        rw [show free - 2 ^ z34.toNat = ((free.toNat - 2 ^ z34.toNat : Nat) : Int) by rw [pc_]; omega]
                        exact ib_.2.mpr (bw.mpr (Or.inr (ib_.2.mp (by rw [tn_c (show 0 ≤ free by omega)]; exact q.2.2.2 s0))))) (fun e f e0 e1 f0 f1 hne hx hy => by
                    unfold ob_
                    by_cases c9 : f = z21
                    · rw [if_pos c9, if_neg (by omega)]
                      intro s0 u
                      have q := asi e e0 e1 (bo e e0 e1 hx (by omega))
                      have q2 := q.2.2.2 (by omega)
                      have q3 := tf s0
                      rw [u] at q2; omega
                    · rw [if_neg c9]
                      intro s0
                      by_cases c8 : e = z21
                      · rw [if_pos c8]
                        intro u
                        have q := asi f f0 f1 (bo f f0 f1 hy c9)
                        have q2 := q.2.2.2 s0
                        have q3 := tf (by omega)
                        rw [← u] at q2; omega
                      · rw [if_neg c8]
                        exact adi e f e0 e1 f0 f1 hne (bo e e0 e1 hx c8) (bo f f0 f1 hy c9) s0) (by rw [cnl_s (by omega) (by omega) ok.2.2 _ (by omega), an]; have : (z21 < ((ro 2).toNat : Int) ∧ z34 < 0) ↔ z34 < 0 := ⟨fun u => u.2, fun u => ⟨by omega, u⟩⟩; simp only [this]; omega) (by rw [← ar, m4, rdl_1 w22 ew]) (by omega)
        refine pw_iload (z := z34) (pc := 55) dX0_drawStretch_55 rfl ?_
        refine pw_iconst (pc := 57) dX0_drawStretch_57 ?_
        refine pw_icmp_ne (t := 65) (pc := 58) dX0_drawStretch_58 (by decide) (by first | omega | (simp only [n_hq_o_2]; omega)) (by first | omega | (simp only [n_hq_o_2]; omega)) (fun c58 => ?_) (fun c58 => ?_)
        · have p9 := p8_ (s := z34) (by omega)
          refine pw_iload_n (z := k) (pc := 65) dX0_drawStretch_65 rfl rfl ?_
          refine pw_iconst (pc := 66) dX0_drawStretch_66 ?_
          refine pw_iload (z := z34) (pc := 67) dX0_drawStretch_67 rfl ?_
          refine pw_ishl1 (pc := 69) dX0_drawStretch_69 (by first | omega | (simp only [n_hq_o_2]; omega)) ?_
          refine pw_iorX (pc := 70) dX0_drawStretch_70 (by first | omega | (simp only [n_hq_o_2]; omega)) (by first | omega | (simp only [n_hq_o_2]; omega)) (fun w70 r70 x70 => ?_)
          exact J71 _ (by
                  first
                  | (rw [if_pos (by omega)]; exact ⟨by omega, by omega, ac.2⟩)
                  | (rw [if_neg (by omega)]
                     have e := cmp_s (r := z34) (by omega) (show 0 ≤ k ∧ k ≤ 15 by omega) (show 0 ≤ free ∧ free ≤ 15 by omega) (by omega) (tf (by omega)) ac.2 (x70 (by omega) (by omega))
                     have b := bx_f free.toNat (by omega) z34.toNat (by omega) (ib_.1.mp (by rw [tn_c (show 0 ≤ free by omega)]; exact tf (by omega)))
                     exact ⟨e.1, by rw [pc_]; omega, e.2⟩))
        · refine pw_iload_n (z := k) (pc := 61) dX0_drawStretch_61 rfl rfl ?_
          refine pw_goto (t := 71) (pc := 62) dX0_drawStretch_62 (by decide) ?_
          exact J71 _ (by
                  first
                  | (rw [if_pos (by omega)]; exact ⟨by omega, by omega, ac.2⟩)
                  | (rw [if_neg (by omega)]
                     have e := cmp_s (r := z34) (by omega) (show 0 ≤ k ∧ k ≤ 15 by omega) (show 0 ≤ free ∧ free ≤ 15 by omega) (by omega) (tf (by omega)) ac.2 (x70 (by omega) (by omega))
                     have b := bx_f free.toNat (by omega) z34.toNat (by omega) (ib_.1.mp (by rw [tn_c (show 0 ≤ free by omega)]; exact tf (by omega)))
                     exact ⟨e.1, by rw [pc_]; omega, e.2⟩))
  exact L7 _ (ro 2).toNat (2 ^ (ro 2).toNat - 1) (2 ^ (ro 0).toNat - 1) (fun _ => -1) (h 170 7) _ _ _ _ (by omega) (by omega) (⟨cmp_0 (by omega), cmp_0 (by omega)⟩) (by rw [pR, show (((2 ^ (ro 2).toNat : Nat) : Int) - 1).toNat = 2 ^ (ro 2).toNat - 1 by omega]; exact bi.1) (off_rf) (fun _ _ => rfl) (hg) (fun r r0 r1 hx => by exfalso; have e1 := bi.2.2 r.toNat (by omega); rw [pR, show (((2 ^ (ro 2).toNat : Nat) : Int) - 1) = ((2 ^ (ro 2).toNat - 1 : Nat) : Int) by omega] at hx; have e2 := ib_.2.mp hx; omega) (fun e f e0 e1 f0 f1 hne hx => by exfalso; have k1 := bi.2.2 e.toNat (by omega); rw [pR, show (((2 ^ (ro 2).toNat : Nat) : Int) - 1) = ((2 ^ (ro 2).toNat - 1 : Nat) : Int) by omega] at hx; have e2 := ib_.2.mp hx; omega) (by rw [cnl_0 (by omega) _ (by omega)]; omega) (rfl) (Int.self_le_toNat _)

