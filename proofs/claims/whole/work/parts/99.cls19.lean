theorem txs_g {W : Int → Int → Int} {hs : Int → Int} {r s g z : Int} {pr : Int → Int} (hg : g = W r (hs r) - pr (hs r)) (w : pr s < W r s - g ∧ z = W r s - g ∨ W r s - g ≤ pr s ∧ z = pr s) : ob_ pr s z = txs_ W hs r s pr := by
  unfold txs_
  congr 1
  split <;> omega
theorem txs_h {W : Int → Int → Int} {hs : Int → Int} {r s : Int} {pr : Int → Int} : txs_ W hs r s pr (hs r) = pr (hs r) := by
  unfold txs_ ob_
  by_cases c : hs r = s
  · rw [if_pos c, c]; rw [if_neg (by omega)]
  · rw [if_neg c]
theorem tx1_h {W : Int → Int → Int} {hs : Int → Int} {r : Int} {pr : Int → Int} : ∀ n, tx1_ W hs r n pr (hs r) = pr (hs r)
  | 0 => rfl
  | n + 1 => by show txs_ W hs r (n : Int) (tx1_ W hs r n pr) (hs r) = _; rw [txs_h, tx1_h n]

set_option maxHeartbeats 4000000 in
set_option maxRecDepth 100000 in
theorem d_pushUp {G : GT_} (hC : okC_ G) (h : PH_) (o : Nat) (ho : is6_ o) (ro : Int → Int) (H : CRD_ ro h o) (P : List (Int × Int)) (hl : CLP_ ro P h o) (hm : CWM_ ro P h o) (t : Int) (h1 : 0 ≤ t ∧ t < ro 1) (hs : ∀ r, 0 ≤ r → r < ro 2 → 0 ≤ h 168 r ∧ h 168 r < ro 0) (B : Int) (hB : 0 ≤ B ∧ B ≤ 1000000) (hp : ∀ r s, 0 ≤ r → r < ro 2 → 0 ≤ s → s ≤ ro 0 → ∀ x, 0 ≤ x → x < 4 → 0 ≤ tx1_ (fun r s => wv_ ro P r s t 0) (h 168) r s.toNat (tx2_ (fun r s => wv_ ro P r s t 0) (h 168) (ro 0).toNat r.toNat (h 169)) x ∧ tx1_ (fun r s => wv_ ro P r s t 0) (h 168) r s.toNat (tx2_ (fun r s => wv_ ro P r s t 0) (h 168) (ro 0).toNat r.toNat (h 169)) x ≤ B) : PC G yX9_pushUp cX9_pushUp 7 none 4 [rr_ G 166, rr_ G o, ii_ t] h (qv_ (fun h' => off_ [169, o + 10, o + 11, o + 15] h h' ∧ CWM_ ro P h' o ∧ h' 169 = tx2_ (fun r s => wv_ ro P r s t 0) (h 168) (ro 0).toNat (ro 2).toNat (h 169))) := by
  have HB := H.2.1
  have HA := H.1
  refine PC.of (lv := [some (rr_ G 166), some (rr_ G o), some (ii_ t), none, none, none, none]) (by decide +kernel) (Nat.le_of_ble_eq_true rfl) rfl rfl ?_
  refine pw_iconst (pc := 0) dX9_pushUp_0 ?_
  refine pw_istore_n (lv1 := [some (rr_ G 166), some (rr_ G o), some (ii_ t), some (ii_ 0), none, none, none]) (pc := 1) dX9_pushUp_1 rfl (by decide) rfl rfl ?_
  have L2 : ∀ (nn : Nat) (r : Int) (hq : PH_), (0 ≤ r ∧ r ≤ ro 2) → (off_ [169, o + 10, o + 11, o + 15] h hq) → (CWM_ ro P hq o) → (hq 169 = tx2_ (fun r s => wv_ ro P r s t 0) (h 168) (ro 0).toNat r.toNat (h 169)) → ((ro 2 - r + 1 : Int) ≤ nn) → PW G RX9 cX9_pushUp 7 none (rm_ 4) 0 0 (zm_ G (qv_ (fun h' => off_ [169, o + 10, o + 11, o + 15] h h' ∧ CWM_ ro P h' o ∧ h' 169 = tx2_ (fun r s => wv_ ro P r s t 0) (h 168) (ro 0).toNat (ro 2).toNat (h 169)))) 2 [some (rr_ G 166), some (rr_ G o), some (ii_ t), some (ii_ r), none, none, none] [] hq := by
    intro nn
    induction nn with
    | zero => intro r hq ak af am ap ams; exfalso; omega
    | succ nn ih2 =>
      intro r hq ak af am ap ams
      refine pw_iload_n (z := r) (pc := 2) dX9_pushUp_2 rfl rfl ?_
      refine pw_aload_n (z := o) (pc := 3) dX9_pushUp_3 rfl rfl ?_
      refine pw_gI (x := 2) (pc := 4) dX9_pushUp_4 fX9_39 (hC _ (by omega)) (kd6_0 ho) rfl rfl (fun r4 => ?_)
      have n_hq_o_2 : hq o 2 = h o 2 := (congrFun (af o (by first | decide | (simp; done) | (simp; omega))) 2)
      rw [n_hq_o_2] at r4 ⊢
      refine pw_icmp_ge (t := 90) (pc := 7) dX9_pushUp_7 (by decide) (by first | omega | (simp only [n_hq_o_2]; omega)) (by first | omega | (simp only [n_hq_o_2]; omega)) (fun c7 => ?_) (fun c7 => ?_)
      · exact pw_vret (pc := 90) dX9_pushUp_90 (⟨af, am, by rw [ap, show r = ro 2 by omega]⟩)
      · have hsr := hs r (by omega) (by omega)
        have Hq : CRD_ ro hq o := CRD_cg H (fun k _ => congrFun (af _ (by simp; omega)) k) (af _ (by simp; omega)) (af _ (by simp; omega)) (af _ (by simp; omega)) (af _ (by simp; omega)) (af _ (by simp; omega)) (af _ (by simp; omega))
        have lq : CLP_ ro P hq o := CLP_cg hl (af _ (by simp; omega)) (af _ (by simp; omega)) (af _ (by simp; omega)) (af _ (by simp; omega))
        have pr0 := hp r 0 (by omega) (by omega) (by omega) (by omega) (h 168 r) (by omega) (by omega)
        have pr1 : hq 169 (h 168 r) = tx2_ (fun r s => wv_ ro P r s t 0) (h 168) (ro 0).toNat r.toNat (h 169) (h 168 r) := by rw [ap]
        have pr2 : tx1_ (fun r s => wv_ ro P r s t 0) (h 168) r (0 : Int).toNat (tx2_ (fun r s => wv_ ro P r s t 0) (h 168) (ro 0).toNat r.toNat (h 169)) (h 168 r) = tx2_ (fun r s => wv_ ro P r s t 0) (h 168) (ro 0).toNat r.toNat (h 169) (h 168 r) := rfl
        have wb := wv_b ro P r (h 168 r) t 0
        refine pw_aload_n (z := 166) (pc := 10) dX9_pushUp_10 rfl rfl ?_
        refine pw_getR (r := 168) (pc := 11) dX9_pushUp_11 fX9_15 (hC 166 (by decide)) (show kd_ 166 = 19 by decide +kernel) rfl (by decide +kernel) ?_
        refine pw_iload_n (z := r) (pc := 14) dX9_pushUp_14 rfl rfl ?_
        refine pw_iald (pc := 15) dX9_pushUp_15 (hC 168 (by decide)) (show kd_ 168 = 0 by decide +kernel) 4 (by decide +kernel) (by first | omega | (simp only [n_hq_o_2]; omega)) (by first | omega | (simp only [n_hq_o_2]; omega)) (by first | omega | (simp only [n_hq_o_2]; omega)) (fun r15 => ?_)
        have n_hq_168 : hq 168 = h 168 := (af 168 (by first | decide | (simp; done) | (simp; omega)))
        rw [n_hq_168] at r15 ⊢
        refine pw_istore (lv1 := [some (rr_ G 166), some (rr_ G o), some (ii_ t), some (ii_ r), some (ii_ (h 168 r)), none, none]) (pc := 16) dX9_pushUp_16 (by decide) rfl rfl ?_
        refine pw_aload_n (z := o) (pc := 18) dX9_pushUp_18 rfl rfl ?_
        refine pw_iload_n (z := t) (pc := 19) dX9_pushUp_19 rfl rfl ?_
        refine pw_iload_n (z := r) (pc := 20) dX9_pushUp_20 rfl rfl ?_
        refine pw_iload (z := h 168 r) (pc := 21) dX9_pushUp_21 rfl ?_
        refine pw_iconst (pc := 23) dX9_pushUp_23 ?_
        refine pw_callV (c := 6) (o := o) (As := [ii_ t, ii_ r, ii_ (h 168 r), ii_ 0]) (rest := []) (pc := 24) dX9_pushUp_24 (d_worthAt hC hq o ho ro Hq P lq am t r (h 168 r) 0 (by first | omega | (simp only [n_hq_168, n_hq_o_2]; omega)) (by first | omega | (simp only [n_hq_168, n_hq_o_2]; omega)) (by first | omega | (simp only [n_hq_168, n_hq_o_2]; omega)) (by first | omega | (simp only [n_hq_168, n_hq_o_2]; omega))) lX9_46 mX6_worthAt vX6_worthAt (hC _ (by omega)) (kd6_0 ho) rfl rfl rfl (by decide) ⟨Nat.zero_le _, Nat.zero_le _⟩ (Nat.le_of_ble_eq_true rfl) (k_i (fun z24 h24 y24 q24 => ?_))
        obtain ⟨u24, v24, w24⟩ := q24
        refine pw_aload_n (z := 166) (pc := 27) dX9_pushUp_27 rfl rfl ?_
        refine pw_getR (r := 169) (pc := 28) dX9_pushUp_28 fX9_18 (hC 166 (by decide)) (show kd_ 166 = 19 by decide +kernel) rfl (by decide +kernel) ?_
        refine pw_iload (z := h 168 r) (pc := 31) dX9_pushUp_31 rfl ?_
        refine pw_iald (pc := 33) dX9_pushUp_33 (hC 169 (by decide)) (show kd_ 169 = 0 by decide +kernel) 4 (by decide +kernel) (by first | omega | (simp only [n_hq_168, n_hq_o_2]; omega)) (by first | omega | (simp only [n_hq_168, n_hq_o_2]; omega)) (by first | omega | (simp only [n_hq_168, n_hq_o_2]; omega)) (fun r33 => ?_)
        have n_h24_169 : h24 169 = hq 169 := (u24 169 (by first | decide | (simp; done) | (simp; omega)))
        rw [n_h24_169] at r33 ⊢
        refine pw_isub (pc := 34) dX9_pushUp_34 ?_
        refine pw_istore (lv1 := [some (rr_ G 166), some (rr_ G o), some (ii_ t), some (ii_ r), some (ii_ (h 168 r)), some (ii_ (z24 - (hq 169 (h 168 r)))), none]) (pc := 35) dX9_pushUp_35 (by decide) rfl rfl ?_
        refine pw_iconst (pc := 37) dX9_pushUp_37 ?_
        refine pw_istore (lv1 := [some (rr_ G 166), some (rr_ G o), some (ii_ t), some (ii_ r), some (ii_ (h 168 r)), some (ii_ (z24 - (hq 169 (h 168 r)))), some (ii_ 0)]) (pc := 38) dX9_pushUp_38 (by decide) rfl rfl ?_
        have L40 : ∀ (nn : Nat) (s : Int) (hz : PH_), (0 ≤ s ∧ s ≤ ro 0) → (off_ [169, o + 10, o + 11, o + 15] h hz) → (CWM_ ro P hz o) → (hz 169 = tx1_ (fun r s => wv_ ro P r s t 0) (h 168) r s.toNat (tx2_ (fun r s => wv_ ro P r s t 0) (h 168) (ro 0).toNat r.toNat (h 169))) → ((ro 0 - s + 1 : Int) ≤ nn) → PW G RX9 cX9_pushUp 7 none (rm_ 4) 0 0 (zm_ G (qv_ (fun h' => off_ [169, o + 10, o + 11, o + 15] h h' ∧ CWM_ ro P h' o ∧ h' 169 = tx2_ (fun r s => wv_ ro P r s t 0) (h 168) (ro 0).toNat (ro 2).toNat (h 169)))) 40 [some (rr_ G 166), some (rr_ G o), some (ii_ t), some (ii_ r), some (ii_ (h 168 r)), some (ii_ (z24 - (hq 169 (h 168 r)))), some (ii_ s)] [] hz := by
          intro nn
          induction nn with
          | zero => intro s hz bk bf bm bp ams; exfalso; omega
          | succ nn ih40 =>
            intro s hz bk bf bm bp ams
            refine pw_iload (z := s) (pc := 40) dX9_pushUp_40 rfl ?_
            refine pw_aload_n (z := o) (pc := 42) dX9_pushUp_42 rfl rfl ?_
            refine pw_gI (x := 0) (pc := 43) dX9_pushUp_43 fX9_31 (hC _ (by omega)) (kd6_0 ho) rfl rfl (fun r43 => ?_)
            have n_hz_o_0 : hz o 0 = h o 0 := (congrFun (bf o (by first | decide | (simp; done) | (simp; omega))) 0)
            rw [n_hz_o_0] at r43 ⊢
            refine pw_icmp_ge (t := 84) (pc := 46) dX9_pushUp_46 (by decide) (by first | omega | (simp only [n_h24_169, n_hq_168, n_hq_o_2, n_hz_o_0]; omega)) (by first | omega | (simp only [n_h24_169, n_hq_168, n_hq_o_2, n_hz_o_0]; omega)) (fun c46 => ?_) (fun c46 => ?_)
            · refine pw_iinc (z := r) (lv1 := [some (rr_ G 166), some (rr_ G o), some (ii_ t), some (ii_ (r + 1)), some (ii_ (h 168 r)), some (ii_ (z24 - (hq 169 (h 168 r)))), some (ii_ s)]) (pc := 84) dX9_pushUp_84 rfl (by decide) rfl rfl ?_
              refine pw_goto (t := 2) (pc := 87) dX9_pushUp_87 (by decide) ?_
              refine pw_less (lv1 := [some (rr_ G 166), some (rr_ G o), some (ii_ t), some (ii_ (r + 1)), none, none, none]) rfl (by intro i v; (match i with | 0 => simp | 1 => simp | 2 => simp | 3 => simp | 4 => simp | 5 => simp | 6 => simp | n + 7 => simp)) ?_
              exact ih2 _ _ (by omega) (bf) (bm) (by rw [tx2_s ak.1, bp, show s = ro 0 by omega]) (by omega)
            · have Hz : CRD_ ro hz o := CRD_cg H (fun k _ => congrFun (bf _ (by simp; omega)) k) (bf _ (by simp; omega)) (bf _ (by simp; omega)) (bf _ (by simp; omega)) (bf _ (by simp; omega)) (bf _ (by simp; omega)) (bf _ (by simp; omega))
              have lz : CLP_ ro P hz o := CLP_cg hl (bf _ (by simp; omega)) (bf _ (by simp; omega)) (bf _ (by simp; omega)) (bf _ (by simp; omega))
              have ps := hp r s (by omega) (by omega) (by omega) (by omega) s (by omega) (by omega)
              rw [← bp] at ps
              have wb2 := wv_b ro P r s t 0
              refine pw_aload_n (z := 166) (pc := 49) dX9_pushUp_49 rfl rfl ?_
              refine pw_getR (r := 169) (pc := 50) dX9_pushUp_50 fX9_18 (hC 166 (by decide)) (show kd_ 166 = 19 by decide +kernel) rfl (by decide +kernel) ?_
              refine pw_iload (z := s) (pc := 53) dX9_pushUp_53 rfl ?_
              refine pw_aload_n (z := 166) (pc := 55) dX9_pushUp_55 rfl rfl ?_
              refine pw_getR (r := 169) (pc := 56) dX9_pushUp_56 fX9_18 (hC 166 (by decide)) (show kd_ 166 = 19 by decide +kernel) rfl (by decide +kernel) ?_
              refine pw_iload (z := s) (pc := 59) dX9_pushUp_59 rfl ?_
              refine pw_iald (pc := 61) dX9_pushUp_61 (hC 169 (by decide)) (show kd_ 169 = 0 by decide +kernel) 4 (by decide +kernel) (by first | omega | (simp only [n_h24_169, n_hq_168, n_hq_o_2, n_hz_o_0]; omega)) (by first | omega | (simp only [n_h24_169, n_hq_168, n_hq_o_2, n_hz_o_0]; omega)) (by first | omega | (simp only [n_h24_169, n_hq_168, n_hq_o_2, n_hz_o_0]; omega)) (fun r61 => ?_)
              refine pw_aload_n (z := o) (pc := 62) dX9_pushUp_62 rfl rfl ?_
              refine pw_iload_n (z := t) (pc := 63) dX9_pushUp_63 rfl rfl ?_
              refine pw_iload_n (z := r) (pc := 64) dX9_pushUp_64 rfl rfl ?_
              refine pw_iload (z := s) (pc := 65) dX9_pushUp_65 rfl ?_
              refine pw_iconst (pc := 67) dX9_pushUp_67 ?_
              refine pw_callV (c := 6) (o := o) (As := [ii_ t, ii_ r, ii_ s, ii_ 0]) (rest := [ii_ (hz 169 s), ii_ s, rr_ G 169]) (pc := 68) dX9_pushUp_68 (d_worthAt hC hz o ho ro Hz P lz bm t r s 0 (by first | omega | (simp only [n_h24_169, n_hq_168, n_hq_o_2, n_hz_o_0]; omega)) (by first | omega | (simp only [n_h24_169, n_hq_168, n_hq_o_2, n_hz_o_0]; omega)) (by first | omega | (simp only [n_h24_169, n_hq_168, n_hq_o_2, n_hz_o_0]; omega)) (by first | omega | (simp only [n_h24_169, n_hq_168, n_hq_o_2, n_hz_o_0]; omega))) lX9_46 mX6_worthAt vX6_worthAt (hC _ (by omega)) (kd6_0 ho) rfl rfl rfl (by decide) ⟨Nat.zero_le _, Nat.zero_le _⟩ (Nat.le_of_ble_eq_true rfl) (k_i (fun z68 h68 y68 q68 => ?_))
              obtain ⟨u68, v68, w68⟩ := q68
              refine pw_iload (z := z24 - (hq 169 (h 168 r))) (pc := 71) dX9_pushUp_71 rfl ?_
              refine pw_isub (pc := 73) dX9_pushUp_73 ?_
              refine pw_mmax (pc := 74) dX9_pushUp_74 lX9_59 (by first | omega | (simp only [n_h24_169, n_hq_168, n_hq_o_2, n_hz_o_0]; omega)) (by first | omega | (simp only [n_h24_169, n_hq_168, n_hq_o_2, n_hz_o_0]; omega)) (by decide) ⟨Nat.zero_le _, Nat.zero_le _⟩ (Nat.le_of_ble_eq_true rfl) (fun z74 r74 w74 => ?_)
              refine pw_iast (pc := 77) dX9_pushUp_77 (hC 169 (by decide)) (show kd_ 169 = 0 by decide +kernel) 4 (by decide +kernel) (by first | omega | (simp only [n_h24_169, n_hq_168, n_hq_o_2, n_hz_o_0]; omega)) (by first | omega | (simp only [n_h24_169, n_hq_168, n_hq_o_2, n_hz_o_0]; omega)) (by first | omega | (simp only [n_h24_169, n_hq_168, n_hq_o_2, n_hz_o_0]; omega)) (by first | omega | (simp only [n_h24_169, n_hq_168, n_hq_o_2, n_hz_o_0]; omega)) ?_
              obtain ⟨g77, e77⟩ : ∃ x, x = up_ h68 169 s z74 := ⟨_, rfl⟩
              refine pw_heq e77 ?_
              refine pw_iinc (z := s) (lv1 := [some (rr_ G 166), some (rr_ G o), some (ii_ t), some (ii_ r), some (ii_ (h 168 r)), some (ii_ (z24 - (hq 169 (h 168 r)))), some (ii_ (s + 1))]) (pc := 78) dX9_pushUp_78 rfl (by decide) rfl rfl ?_
              refine pw_goto (t := 40) (pc := 81) dX9_pushUp_81 (by decide) ?_
              exact ih40 _ _ (by omega) (by rw [e77]; exact off_up (off_tr bf (off_mo u68 (by simp))) (by simp)) (by have := v68; unfold CWM_ at *; rw [e77, up_off (by omega)]; exact this) (by rw [tx1_s bk.1, ← bp, e77, up_ob, u68 169 (by simp; omega)]; exact txs_g (g := z24 - hq 169 (h 168 r)) (by rw [w24, bp, tx1_h, ap]) (by rw [← w68]; exact w74)) (by omega)
        exact L40 _ _ _ (by omega) (off_tr af (off_mo u24 (by simp))) (v24) (by rw [u24 169 (by simp; omega)]; exact ap) (Int.self_le_toNat _)
  exact L2 _ _ _ (by omega) (off_rf) (hm) (rfl) (Int.self_le_toNat _)

