set_option maxHeartbeats 4000000 in
set_option maxRecDepth 100000 in
theorem d_firstOf {G : GT_} (hC : okC_ G) (h : PH_) (o : Nat) (ho : is6_ o) (ro : Int → Int) (H : CRD_ ro h o) (P : List (Int × Int)) (hJ : CJP_ ro h o) (hG : CJG_ ro P h) (t : Int) (h1 : 0 ≤ t ∧ t < ro 1) (n : Nat) (hn : ro 1 - 1 - (n : Int) = t) (b : Int) (h2 : b = -1 ∨ 0 ≤ b ∧ b < (lpn_ ro 256).length) (hS : ∀ i : Int, 0 ≤ i → i < (lpn_ ro 256).length → h 155 (t * 24 + i) = srm_ ro P n i) : PC G yX1_firstOfMost cX1_firstOfMost 7 (some .int) 3 [rr_ G 151, ii_ t, ii_ b] h (qi_ (fun z h' => h = h' ∧ z = nxt_ ro P n b)) := by
  have HB := H.2.1
  have HA := H.1
  have l24 := lpn_24 (ro := ro) (by omega) (by omega)
  have hl_h := hJ.1
  have hN := hJ.2.1
  obtain ⟨F, hF⟩ : ∃ F, F = (fun k => smg_ ro P t b k + srm_ ro P n k) := ⟨_, rfl⟩
  have fb : 1 ≤ (lpn_ ro 256).length → ∀ k, (-4000 ≤ smg_ ro P t b k ∧ smg_ ro P t b k ≤ 4000) ∧ (-16000 ≤ srm_ ro P n k ∧ srm_ ro P n k ≤ 16000) := fun u k => by
    have := smg_b (P := P) (ro := ro) (by omega) (by omega) t b k
    have := srm_b (P := P) (ro := ro) (by omega) (by omega) u n k (by omega)
    omega
  refine PC.of (lv := [some (rr_ G 151), some (ii_ t), some (ii_ b), none, none, none, none]) (by decide +kernel) (Nat.le_of_ble_eq_true rfl) rfl rfl ?_
  refine pw_iconst (pc := 0) dX1_firstOfMost_0 ?_
  refine pw_istore_n (lv1 := [some (rr_ G 151), some (ii_ t), some (ii_ b), some (ii_ 0), none, none, none]) (pc := 1) dX1_firstOfMost_1 rfl (by decide) rfl rfl ?_
  refine pw_ldc (z := -2147483648) (pc := 2) dX1_firstOfMost_2 kX1_56 rfl ?_
  refine pw_istore (lv1 := [some (rr_ G 151), some (ii_ t), some (ii_ b), some (ii_ 0), some (ii_ (-2147483648)), none, none]) (pc := 4) dX1_firstOfMost_4 (by decide) rfl rfl ?_
  refine pw_iconst (pc := 6) dX1_firstOfMost_6 ?_
  refine pw_istore (lv1 := [some (rr_ G 151), some (ii_ t), some (ii_ b), some (ii_ 0), some (ii_ (-2147483648)), some (ii_ 0), none]) (pc := 7) dX1_firstOfMost_7 (by decide) rfl rfl ?_
  have L9 : ∀ (nn : Nat) (f : Int) (mo : Int) (k : Int), (0 ≤ k ∧ k ≤ (lpn_ ro 256).length) → (0 ≤ f ∧ f ≤ k) → (ir_ mo) → (f = (fmx_ F k.toNat).1 ∧ mo = (fmx_ F k.toNat).2) → ((((lpn_ ro 256).length : Int) - k + 1 : Int) ≤ nn) → PW G RX1 cX1_firstOfMost 7 (some .int) (rm_ 3) 0 0 (zm_ G (qi_ (fun z h' => h = h' ∧ z = nxt_ ro P n b))) 9 [some (rr_ G 151), some (ii_ t), some (ii_ b), some (ii_ f), some (ii_ mo), some (ii_ k), none] [] h := by
    intro nn
    induction nn with
    | zero => intro f mo k ak af ai ag ams; exfalso; omega
    | succ nn ih9 =>
      intro f mo k ak af ai ag ams
      refine pw_iload (z := k) (pc := 9) dX1_firstOfMost_9 rfl ?_
      refine pw_aload_n (z := 151) (pc := 11) dX1_firstOfMost_11 rfl rfl ?_
      refine pw_gD (x := 0) (r := o) (pc := 12) dX1_firstOfMost_12 fX1_39 (hC 151 (by decide)) (show kd_ 151 = 11 by decide +kernel) rfl rfl hl_h ?_
      refine pw_gI (x := 7) (pc := 15) dX1_firstOfMost_15 fX1_109 (hC _ (by omega)) (kd6_0 ho) rfl rfl (fun r15 => ?_)
      refine pw_icmp_ge (t := 64) (pc := 18) dX1_firstOfMost_18 (by decide) (by first | omega) (by first | omega) (fun c18 => ?_) (fun c18 => ?_)
      · refine pw_iload_n (z := f) (pc := 64) dX1_firstOfMost_64 rfl rfl ?_
        exact pw_iret (pc := 65) dX1_firstOfMost_65 (by first | omega) (⟨rfl, by
                  rw [ag.1, show k.toNat = (lpn_ ro 256).length by omega, hF]
                  unfold nxt_
                  rw [hn]⟩)
      · have fk := fb (by omega) k
        have sk := hS k (by omega) (by omega)
        refine pw_aload_n (z := 151) (pc := 21) dX1_firstOfMost_21 rfl rfl ?_
        refine pw_iload_n (z := t) (pc := 22) dX1_firstOfMost_22 rfl rfl ?_
        refine pw_iload_n (z := b) (pc := 23) dX1_firstOfMost_23 rfl rfl ?_
        refine pw_iload (z := k) (pc := 24) dX1_firstOfMost_24 rfl ?_
        refine pw_callV (c := 1) (o := 151) (As := [ii_ t, ii_ b, ii_ k]) (rest := []) (pc := 26) dX1_firstOfMost_26 (d_sumOf hC h o ho ro H P hJ hG t h1 b k h2 (by first | omega)) lX1_105 mX1_sumOf vX1_sumOf (hC 151 (by decide)) (show kd_ 151 = 11 by decide +kernel) rfl rfl rfl (by decide) ⟨Nat.zero_le _, Nat.zero_le _⟩ (Nat.le_of_ble_eq_true rfl) (k_i (fun z26 h26 y26 q26 => ?_))
        obtain ⟨rfl, w26⟩ := q26
        have w27 : z26 = smg_ ro P t b k := w26
        refine pw_aload_n (z := 151) (pc := 29) dX1_firstOfMost_29 rfl rfl ?_
        refine pw_getR (r := 155) (pc := 30) dX1_firstOfMost_30 fX1_21 (hC 151 (by decide)) (show kd_ 151 = 11 by decide +kernel) rfl (by decide +kernel) ?_
        refine pw_iload_n (z := t) (pc := 33) dX1_firstOfMost_33 rfl rfl ?_
        refine pw_bipush (pc := 34) dX1_firstOfMost_34 rfl ?_
        refine pw_imul (pc := 36) dX1_firstOfMost_36 ?_
        refine pw_iload (z := k) (pc := 37) dX1_firstOfMost_37 rfl ?_
        refine pw_iadd (pc := 39) dX1_firstOfMost_39 ?_
        refine pw_iald (pc := 40) dX1_firstOfMost_40 (hC 155 (by decide)) (show kd_ 155 = 0 by decide +kernel) 96 (by decide +kernel) (by first | omega) (by first | omega) (by first | omega) (fun r40 => ?_)
        refine pw_iadd (pc := 41) dX1_firstOfMost_41 ?_
        refine pw_istore (lv1 := [some (rr_ G 151), some (ii_ t), some (ii_ b), some (ii_ f), some (ii_ mo), some (ii_ k), some (ii_ (z26 + (h 155 ((t * 24) + k))))]) (pc := 42) dX1_firstOfMost_42 (by decide) rfl rfl ?_
        have w44 : z26 + h 155 (t * 24 + k) = F k := by rw [hF, w27, sk]
        refine pw_iload (z := z26 + (h 155 ((t * 24) + k))) (pc := 44) dX1_firstOfMost_44 rfl ?_
        refine pw_iload (z := mo) (pc := 46) dX1_firstOfMost_46 rfl ?_
        refine pw_icmp_le (t := 58) (pc := 48) dX1_firstOfMost_48 (by decide) (by first | omega) (by first | omega) (fun c48 => ?_) (fun c48 => ?_)
        · refine pw_iinc (z := k) (lv1 := [some (rr_ G 151), some (ii_ t), some (ii_ b), some (ii_ f), some (ii_ mo), some (ii_ (k + 1)), some (ii_ (z26 + (h 155 ((t * 24) + k))))]) (pc := 58) dX1_firstOfMost_58 rfl (by decide) rfl rfl ?_
          refine pw_goto (t := 9) (pc := 61) dX1_firstOfMost_61 (by decide) ?_
          refine pw_less (lv1 := [some (rr_ G 151), some (ii_ t), some (ii_ b), some (ii_ f), some (ii_ mo), some (ii_ (k + 1)), none]) rfl (by intro i v; (match i with | 0 => simp | 1 => simp | 2 => simp | 3 => simp | 4 => simp | 5 => simp | 6 => simp | n + 7 => simp)) ?_
          exact ih9 _ _ _ (by omega) (by omega) (by omega) (by
                    rw [fmx_s ak.1, ← w44]
                    first
                    | (rw [if_pos (by rw [← ag.2]; omega)]; exact ⟨rfl, rfl⟩)
                    | (rw [if_neg (by rw [← ag.2]; omega)]; exact ag)) (by omega)
        · refine pw_iload (z := z26 + (h 155 ((t * 24) + k))) (pc := 51) dX1_firstOfMost_51 rfl ?_
          refine pw_istore (lv1 := [some (rr_ G 151), some (ii_ t), some (ii_ b), some (ii_ f), some (ii_ (z26 + (h 155 ((t * 24) + k)))), some (ii_ k), some (ii_ (z26 + (h 155 ((t * 24) + k))))]) (pc := 53) dX1_firstOfMost_53 (by decide) rfl rfl ?_
          refine pw_iload (z := k) (pc := 55) dX1_firstOfMost_55 rfl ?_
          refine pw_istore_n (lv1 := [some (rr_ G 151), some (ii_ t), some (ii_ b), some (ii_ k), some (ii_ (z26 + (h 155 ((t * 24) + k)))), some (ii_ k), some (ii_ (z26 + (h 155 ((t * 24) + k))))]) (pc := 57) dX1_firstOfMost_57 rfl (by decide) rfl rfl ?_
          refine pw_iinc (z := k) (lv1 := [some (rr_ G 151), some (ii_ t), some (ii_ b), some (ii_ k), some (ii_ (z26 + (h 155 ((t * 24) + k)))), some (ii_ (k + 1)), some (ii_ (z26 + (h 155 ((t * 24) + k))))]) (pc := 58) dX1_firstOfMost_58 rfl (by decide) rfl rfl ?_
          refine pw_goto (t := 9) (pc := 61) dX1_firstOfMost_61 (by decide) ?_
          refine pw_less (lv1 := [some (rr_ G 151), some (ii_ t), some (ii_ b), some (ii_ k), some (ii_ (z26 + (h 155 ((t * 24) + k)))), some (ii_ (k + 1)), none]) rfl (by intro i v; (match i with | 0 => simp | 1 => simp | 2 => simp | 3 => simp | 4 => simp | 5 => simp | 6 => simp | n + 7 => simp)) ?_
          exact ih9 _ _ _ (by omega) (by omega) (by omega) (by
                    rw [fmx_s ak.1, ← w44]
                    first
                    | (rw [if_pos (by rw [← ag.2]; omega)]; exact ⟨rfl, rfl⟩)
                    | (rw [if_neg (by rw [← ag.2]; omega)]; exact ag)) (by omega)
  exact L9 _ _ _ _ (by omega) (by omega) (by constructor <;> decide) (⟨rfl, rfl⟩) (Int.self_le_toNat _)

set_option maxHeartbeats 4000000 in
set_option maxRecDepth 100000 in
theorem d_fillSum {G : GT_} (hC : okC_ G) (h : PH_) (o : Nat) (ho : is6_ o) (ro : Int → Int) (H : CRD_ ro h o) (P : List (Int × Int)) (hJ : CJP_ ro h o) (hG : CJG_ ro P h) : PC G yX1_fillSumLeft cX1_fillSumLeft 5 none 4 [rr_ G 151] h (qv_ (fun h' => off_ [155] h h' ∧ (∀ t i : Int, 0 ≤ t → t < ro 1 → 0 ≤ i → i < (lpn_ ro 256).length → h' 155 (t * 24 + i) = srm_ ro P (ro 1 - 1 - t).toNat i))) := by
  have HB := H.2.1
  have HA := H.1
  have l24 := lpn_24 (ro := ro) (by omega) (by omega)
  have hl_h := hJ.1
  have hN := hJ.2.1
  refine PC.of (lv := [some (rr_ G 151), none, none, none, none]) (by decide +kernel) (Nat.le_of_ble_eq_true rfl) rfl rfl ?_
  refine pw_aload_n (z := 151) (pc := 0) dX1_fillSumLeft_0 rfl rfl ?_
  refine pw_gD (x := 0) (r := o) (pc := 1) dX1_fillSumLeft_1 fX1_39 (hC 151 (by decide)) (show kd_ 151 = 11 by decide +kernel) rfl rfl hl_h ?_
  refine pw_gI (x := 1) (pc := 4) dX1_fillSumLeft_4 fX1_78 (hC _ (by omega)) (kd6_0 ho) rfl rfl (fun r4 => ?_)
  refine pw_iconst (pc := 7) dX1_fillSumLeft_7 ?_
  refine pw_isub (pc := 8) dX1_fillSumLeft_8 ?_
  refine pw_istore_n (lv1 := [some (rr_ G 151), some (ii_ ((h o 1) - 1)), none, none, none]) (pc := 9) dX1_fillSumLeft_9 rfl (by decide) rfl rfl ?_
  have L10 : ∀ (nn : Nat) (t : Int) (d1 : PH_), (-1 ≤ t ∧ t ≤ ro 1 - 1) → (off_ [155] h d1) → (∀ t1 i1 : Int, 0 ≤ t1 → t1 < ro 1 → 0 ≤ i1 → i1 < (lpn_ ro 256).length → t < t1 → d1 155 (t1 * 24 + i1) = srm_ ro P (ro 1 - 1 - t1).toNat i1) → ((t + 2 : Int) ≤ nn) → PW G RX1 cX1_fillSumLeft 5 none (rm_ 4) 0 0 (zm_ G (qv_ (fun h' => off_ [155] h h' ∧ (∀ t i : Int, 0 ≤ t → t < ro 1 → 0 ≤ i → i < (lpn_ ro 256).length → h' 155 (t * 24 + i) = srm_ ro P (ro 1 - 1 - t).toNat i)))) 10 [some (rr_ G 151), some (ii_ t), none, none, none] [] d1 := by
    intro nn
    induction nn with
    | zero => intro t d1 dk df dd ams; exfalso; omega
    | succ nn ih10 =>
      intro t d1 dk df dd ams
      have Hd : CRD_ ro d1 o := CRD_off H ho df (by simp)
      have Jd : CJP_ ro d1 o := by
        refine ⟨by rw [df 151 (by decide)]; exact hJ.1, ?_⟩
        have := hJ.2
        unfold CPL_ at *
        rw [df o (by simp; omega), df (o + 14) (by simp; omega)]; exact this
      have hl_d1 := Jd.1
      have Gd : CJG_ ro P d1 := by unfold CJG_ at *; rw [df 153 (by decide)]; exact hG
      refine pw_iload_n (z := t) (pc := 10) dX1_fillSumLeft_10 rfl rfl ?_
      refine pw_if_lt (t := 102) (pc := 11) dX1_fillSumLeft_11 (by decide) (by first | omega) (fun c11 => ?_) (fun c11 => ?_)
      · exact pw_vret (pc := 102) dX1_fillSumLeft_102 (⟨df, fun t1 i1 u1 u2 u3 u4 => dd t1 i1 u1 u2 u3 u4 (by omega)⟩)
      · refine pw_iconst (pc := 14) dX1_fillSumLeft_14 ?_
        refine pw_istore_n (lv1 := [some (rr_ G 151), some (ii_ t), some (ii_ 0), none, none]) (pc := 15) dX1_fillSumLeft_15 rfl (by decide) rfl rfl ?_
        have L16 : ∀ (nn : Nat) (i : Int) (e1 : PH_), (0 ≤ i ∧ i ≤ (lpn_ ro 256).length) → (off_ [155] h e1) → (∀ t1 i1 : Int, 0 ≤ t1 → t1 < ro 1 → 0 ≤ i1 → i1 < (lpn_ ro 256).length → (t < t1 ∨ t1 = t ∧ i1 < i) → e1 155 (t1 * 24 + i1) = srm_ ro P (ro 1 - 1 - t1).toNat i1) → ((((lpn_ ro 256).length : Int) - i + 1 : Int) ≤ nn) → PW G RX1 cX1_fillSumLeft 5 none (rm_ 4) 0 0 (zm_ G (qv_ (fun h' => off_ [155] h h' ∧ (∀ t i : Int, 0 ≤ t → t < ro 1 → 0 ≤ i → i < (lpn_ ro 256).length → h' 155 (t * 24 + i) = srm_ ro P (ro 1 - 1 - t).toNat i)))) 16 [some (rr_ G 151), some (ii_ t), some (ii_ i), none, none] [] e1 := by
          intro nn
          induction nn with
          | zero => intro i e1 ek ef ed ams; exfalso; omega
          | succ nn ih16 =>
            intro i e1 ek ef ed ams
            have He : CRD_ ro e1 o := CRD_off H ho ef (by simp)
            have Je : CJP_ ro e1 o := by
              refine ⟨by rw [ef 151 (by decide)]; exact hJ.1, ?_⟩
              have := hJ.2
              unfold CPL_ at *
              rw [ef o (by simp; omega), ef (o + 14) (by simp; omega)]; exact this
            have hl_e1 := Je.1
            have Ge : CJG_ ro P e1 := by unfold CJG_ at *; rw [ef 153 (by decide)]; exact hG
            refine pw_iload_n (z := i) (pc := 16) dX1_fillSumLeft_16 rfl rfl ?_
            refine pw_aload_n (z := 151) (pc := 17) dX1_fillSumLeft_17 rfl rfl ?_
            have n_e1_151_0 : e1 151 0 = h 151 0 := (congrFun (ef 151 (by first | decide | (simp; done) | (simp; omega))) 0)
            refine pw_gD (x := 0) (r := o) (pc := 18) dX1_fillSumLeft_18 fX1_39 (hC 151 (by decide)) (show kd_ 151 = 11 by decide +kernel) rfl rfl (n_e1_151_0.trans hl_h) ?_
            refine pw_gI (x := 7) (pc := 21) dX1_fillSumLeft_21 fX1_109 (hC _ (by omega)) (kd6_0 ho) rfl rfl (fun r21 => ?_)
            have n_e1_o_7 : e1 o 7 = h o 7 := (congrFun (ef o (by first | decide | (simp; done) | (simp; omega))) 7)
            rw [n_e1_o_7] at r21 ⊢
            refine pw_icmp_ge (t := 96) (pc := 24) dX1_fillSumLeft_24 (by decide) (by first | omega | (simp only [n_e1_151_0, n_e1_o_7]; omega)) (by first | omega | (simp only [n_e1_151_0, n_e1_o_7]; omega)) (fun c24 => ?_) (fun c24 => ?_)
            · refine pw_iinc (z := t) (lv1 := [some (rr_ G 151), some (ii_ (t + (-1))), some (ii_ i), none, none]) (pc := 96) dX1_fillSumLeft_96 rfl (by decide) rfl rfl ?_
              refine pw_goto (t := 10) (pc := 99) dX1_fillSumLeft_99 (by decide) ?_
              refine pw_less (lv1 := [some (rr_ G 151), some (ii_ (t + (-1))), none, none, none]) rfl (by intro i v; (match i with | 0 => simp | 1 => simp | 2 => simp | 3 => simp | 4 => simp | n + 5 => simp)) ?_
              exact ih10 _ _ (by omega) (ef) (fun t1 i1 u1 u2 u3 u4 u5 => ed t1 i1 u1 u2 u3 u4 (by omega)) (by omega)
            · refine pw_iconst (pc := 27) dX1_fillSumLeft_27 ?_
              refine pw_istore_n (lv1 := [some (rr_ G 151), some (ii_ t), some (ii_ i), some (ii_ 0), none]) (pc := 28) dX1_fillSumLeft_28 rfl (by decide) rfl rfl ?_
              refine pw_iload_n (z := t) (pc := 29) dX1_fillSumLeft_29 rfl rfl ?_
              refine pw_iconst (pc := 30) dX1_fillSumLeft_30 ?_
              refine pw_iadd (pc := 31) dX1_fillSumLeft_31 ?_
              refine pw_aload_n (z := 151) (pc := 32) dX1_fillSumLeft_32 rfl rfl ?_
              refine pw_gD (x := 0) (r := o) (pc := 33) dX1_fillSumLeft_33 fX1_39 (hC 151 (by decide)) (show kd_ 151 = 11 by decide +kernel) rfl rfl (n_e1_151_0.trans hl_h) ?_
              refine pw_gI (x := 1) (pc := 36) dX1_fillSumLeft_36 fX1_78 (hC _ (by omega)) (kd6_0 ho) rfl rfl (fun r36 => ?_)
              have n_e1_o_1 : e1 o 1 = h o 1 := (congrFun (ef o (by first | decide | (simp; done) | (simp; omega))) 1)
              rw [n_e1_o_1] at r36 ⊢
              refine pw_icmp_ge (t := 78) (pc := 39) dX1_fillSumLeft_39 (by decide) (by first | omega | (simp only [n_e1_151_0, n_e1_o_1, n_e1_o_7]; omega)) (by first | omega | (simp only [n_e1_151_0, n_e1_o_1, n_e1_o_7]; omega)) (fun c39 => ?_) (fun c39 => ?_)
              · refine pw_aload_n (z := 151) (pc := 78) dX1_fillSumLeft_78 rfl rfl ?_
                refine pw_getR (r := 155) (pc := 79) dX1_fillSumLeft_79 fX1_21 (hC 151 (by decide)) (show kd_ 151 = 11 by decide +kernel) rfl (by decide +kernel) ?_
                refine pw_iload_n (z := t) (pc := 82) dX1_fillSumLeft_82 rfl rfl ?_
                refine pw_bipush (pc := 83) dX1_fillSumLeft_83 rfl ?_
                refine pw_imul (pc := 85) dX1_fillSumLeft_85 ?_
                refine pw_iload_n (z := i) (pc := 86) dX1_fillSumLeft_86 rfl rfl ?_
                refine pw_iadd (pc := 87) dX1_fillSumLeft_87 ?_
                refine pw_iload_n (z := 0) (pc := 88) dX1_fillSumLeft_88 rfl rfl ?_
                refine pw_iast (pc := 89) dX1_fillSumLeft_89 (hC 155 (by decide)) (show kd_ 155 = 0 by decide +kernel) 96 (by decide +kernel) (by first | omega | (simp only [n_e1_151_0, n_e1_o_1, n_e1_o_7]; omega)) (by first | omega | (simp only [n_e1_151_0, n_e1_o_1, n_e1_o_7]; omega)) (by first | omega | (simp only [n_e1_151_0, n_e1_o_1, n_e1_o_7]; omega)) (by first | omega | (simp only [n_e1_151_0, n_e1_o_1, n_e1_o_7]; omega)) ?_
                obtain ⟨g89, e89⟩ : ∃ x, x = up_ e1 155 ((t * 24) + i) 0 := ⟨_, rfl⟩
                refine pw_heq e89 ?_
                refine pw_iinc (z := i) (lv1 := [some (rr_ G 151), some (ii_ t), some (ii_ (i + 1)), some (ii_ 0), none]) (pc := 90) dX1_fillSumLeft_90 rfl (by decide) rfl rfl ?_
                refine pw_goto (t := 16) (pc := 93) dX1_fillSumLeft_93 (by decide) ?_
                refine pw_less (lv1 := [some (rr_ G 151), some (ii_ t), some (ii_ (i + 1)), none, none]) rfl (by intro i v; (match i with | 0 => simp | 1 => simp | 2 => simp | 3 => simp | 4 => simp | n + 5 => simp)) ?_
                exact ih16 _ _ (by omega) (by rw [e89]; exact off_up ef (by decide)) (fun t1 i1 u1 u2 u3 u4 u5 => by
                          rw [e89, up_at]
                          by_cases c : t1 = t ∧ i1 = i
                          · obtain ⟨rfl, rfl⟩ := c
                            rw [if_pos rfl]
                            first
                            | (rw [show (ro 1 - 1 - t1).toNat = n + 1 by omega, nb.2, show ro 1 - 1 - (n : Int) = t1 + 1 by omega, ← w60, ← rv]; done)
                            | (rw [show (ro 1 - 1 - t1).toNat = 0 by omega]; rfl)
                          · rw [if_neg (by omega)]; exact ed t1 i1 u1 u2 u3 u4 (by omega)) (by omega)
              · obtain ⟨n, hn⟩ : ∃ n : Nat, n = (ro 1 - 1 - (t + 1)).toNat := ⟨_, rfl⟩
                have nb := nxt_b (ro := ro) (P := P) (by omega) (by omega) (by omega) n i (by omega)
                refine pw_aload_n (z := 151) (pc := 42) dX1_fillSumLeft_42 rfl rfl ?_
                refine pw_iload_n (z := t) (pc := 43) dX1_fillSumLeft_43 rfl rfl ?_
                refine pw_iconst (pc := 44) dX1_fillSumLeft_44 ?_
                refine pw_iadd (pc := 45) dX1_fillSumLeft_45 ?_
                refine pw_iload_n (z := i) (pc := 46) dX1_fillSumLeft_46 rfl rfl ?_
                refine pw_callV (c := 1) (o := 151) (As := [ii_ (t + 1), ii_ i]) (rest := []) (pc := 47) dX1_fillSumLeft_47 (d_firstOf hC e1 o ho ro He P Je Ge (t + 1) (by first | omega | (simp only [n_e1_151_0, n_e1_o_1, n_e1_o_7]; omega)) n (by first | omega | (simp only [n_e1_151_0, n_e1_o_1, n_e1_o_7]; omega)) i (by first | omega | (simp only [n_e1_151_0, n_e1_o_1, n_e1_o_7]; omega)) (fun i1 u1 u2 => by rw [hn]; exact ed (t + 1) i1 (by first | omega | (simp only [n_e1_151_0, n_e1_o_1, n_e1_o_7]; omega)) (by first | omega | (simp only [n_e1_151_0, n_e1_o_1, n_e1_o_7]; omega)) u1 u2 (by first | omega | (simp only [n_e1_151_0, n_e1_o_1, n_e1_o_7]; omega)))) lX1_97 mX1_firstOfMost vX1_firstOfMost (hC 151 (by decide)) (show kd_ 151 = 11 by decide +kernel) rfl rfl rfl (by decide) ⟨Nat.zero_le _, Nat.zero_le _⟩ (Nat.le_of_ble_eq_true rfl) (k_i (fun z47 h47 y47 q47 => ?_))
                obtain ⟨rfl, w47⟩ := q47
                rw [← w47] at nb
                refine pw_istore (lv1 := [some (rr_ G 151), some (ii_ t), some (ii_ i), some (ii_ 0), some (ii_ z47)]) (pc := 50) dX1_fillSumLeft_50 (by decide) rfl rfl ?_
                refine pw_aload_n (z := 151) (pc := 52) dX1_fillSumLeft_52 rfl rfl ?_
                refine pw_iload_n (z := t) (pc := 53) dX1_fillSumLeft_53 rfl rfl ?_
                refine pw_iconst (pc := 54) dX1_fillSumLeft_54 ?_
                refine pw_iadd (pc := 55) dX1_fillSumLeft_55 ?_
                refine pw_iload_n (z := i) (pc := 56) dX1_fillSumLeft_56 rfl rfl ?_
                refine pw_iload (z := z47) (pc := 57) dX1_fillSumLeft_57 rfl ?_
                refine pw_callV (c := 1) (o := 151) (As := [ii_ (t + 1), ii_ i, ii_ z47]) (rest := []) (pc := 59) dX1_fillSumLeft_59 (d_sumOf hC e1 o ho ro He P Je Ge (t + 1) (by first | omega | (simp only [n_e1_151_0, n_e1_o_1, n_e1_o_7]; omega)) i z47 (by first | omega | (simp only [n_e1_151_0, n_e1_o_1, n_e1_o_7]; omega)) (by first | omega | (simp only [n_e1_151_0, n_e1_o_1, n_e1_o_7]; omega))) lX1_105 mX1_sumOf vX1_sumOf (hC 151 (by decide)) (show kd_ 151 = 11 by decide +kernel) rfl rfl rfl (by decide) ⟨Nat.zero_le _, Nat.zero_le _⟩ (Nat.le_of_ble_eq_true rfl) (k_i (fun z59 h59 y59 q59 => ?_))
                obtain ⟨rfl, w59⟩ := q59
                have w60 : z59 = smg_ ro P (t + 1) i z47 := w59
                have sb := smg_b (ro := ro) (P := P) (by omega) (by omega) (t + 1) i z47
                have rb := srm_b (ro := ro) (P := P) (by omega) (by omega) (by omega) n z47 (by omega)
                have rv : e1 155 ((t + 1) * 24 + z47) = srm_ ro P n z47 := by rw [hn]; exact ed (t + 1) z47 (by omega) (by omega) (by omega) (by omega) (by omega)
                refine pw_aload_n (z := 151) (pc := 62) dX1_fillSumLeft_62 rfl rfl ?_
                refine pw_getR (r := 155) (pc := 63) dX1_fillSumLeft_63 fX1_21 (hC 151 (by decide)) (show kd_ 151 = 11 by decide +kernel) rfl (by decide +kernel) ?_
                refine pw_iload_n (z := t) (pc := 66) dX1_fillSumLeft_66 rfl rfl ?_
                refine pw_iconst (pc := 67) dX1_fillSumLeft_67 ?_
                refine pw_iadd (pc := 68) dX1_fillSumLeft_68 ?_
                refine pw_bipush (pc := 69) dX1_fillSumLeft_69 rfl ?_
                refine pw_imul (pc := 71) dX1_fillSumLeft_71 ?_
                refine pw_iload (z := z47) (pc := 72) dX1_fillSumLeft_72 rfl ?_
                refine pw_iadd (pc := 74) dX1_fillSumLeft_74 ?_
                refine pw_iald (pc := 75) dX1_fillSumLeft_75 (hC 155 (by decide)) (show kd_ 155 = 0 by decide +kernel) 96 (by decide +kernel) (by first | omega | (simp only [n_e1_151_0, n_e1_o_1, n_e1_o_7]; omega)) (by first | omega | (simp only [n_e1_151_0, n_e1_o_1, n_e1_o_7]; omega)) (by first | omega | (simp only [n_e1_151_0, n_e1_o_1, n_e1_o_7]; omega)) (fun r75 => ?_)
                refine pw_iadd (pc := 76) dX1_fillSumLeft_76 ?_
                refine pw_istore_n (lv1 := [some (rr_ G 151), some (ii_ t), some (ii_ i), some (ii_ (z59 + (e1 155 (((t + 1) * 24) + z47)))), some (ii_ z47)]) (pc := 77) dX1_fillSumLeft_77 rfl (by decide) rfl rfl ?_
                refine pw_aload_n (z := 151) (pc := 78) dX1_fillSumLeft_78 rfl rfl ?_
                refine pw_getR (r := 155) (pc := 79) dX1_fillSumLeft_79 fX1_21 (hC 151 (by decide)) (show kd_ 151 = 11 by decide +kernel) rfl (by decide +kernel) ?_
                refine pw_iload_n (z := t) (pc := 82) dX1_fillSumLeft_82 rfl rfl ?_
                refine pw_bipush (pc := 83) dX1_fillSumLeft_83 rfl ?_
                refine pw_imul (pc := 85) dX1_fillSumLeft_85 ?_
                refine pw_iload_n (z := i) (pc := 86) dX1_fillSumLeft_86 rfl rfl ?_
                refine pw_iadd (pc := 87) dX1_fillSumLeft_87 ?_
                refine pw_iload_n (z := z59 + (e1 155 (((t + 1) * 24) + z47))) (pc := 88) dX1_fillSumLeft_88 rfl rfl ?_
                refine pw_iast (pc := 89) dX1_fillSumLeft_89 (hC 155 (by decide)) (show kd_ 155 = 0 by decide +kernel) 96 (by decide +kernel) (by first | omega | (simp only [n_e1_151_0, n_e1_o_1, n_e1_o_7]; omega)) (by first | omega | (simp only [n_e1_151_0, n_e1_o_1, n_e1_o_7]; omega)) (by first | omega | (simp only [n_e1_151_0, n_e1_o_1, n_e1_o_7]; omega)) (by first | omega | (simp only [n_e1_151_0, n_e1_o_1, n_e1_o_7]; omega)) ?_
                obtain ⟨g89, e89⟩ : ∃ x, x = up_ e1 155 ((t * 24) + i) (z59 + (e1 155 (((t + 1) * 24) + z47))) := ⟨_, rfl⟩
                refine pw_heq e89 ?_
                refine pw_iinc (z := i) (lv1 := [some (rr_ G 151), some (ii_ t), some (ii_ (i + 1)), some (ii_ (z59 + (e1 155 (((t + 1) * 24) + z47)))), some (ii_ z47)]) (pc := 90) dX1_fillSumLeft_90 rfl (by decide) rfl rfl ?_
                refine pw_goto (t := 16) (pc := 93) dX1_fillSumLeft_93 (by decide) ?_
                refine pw_less (lv1 := [some (rr_ G 151), some (ii_ t), some (ii_ (i + 1)), none, none]) rfl (by intro i v; (match i with | 0 => simp | 1 => simp | 2 => simp | 3 => simp | 4 => simp | n + 5 => simp)) ?_
                exact ih16 _ _ (by omega) (by rw [e89]; exact off_up ef (by decide)) (fun t1 i1 u1 u2 u3 u4 u5 => by
                          rw [e89, up_at]
                          by_cases c : t1 = t ∧ i1 = i
                          · obtain ⟨rfl, rfl⟩ := c
                            rw [if_pos rfl]
                            first
                            | (rw [show (ro 1 - 1 - t1).toNat = n + 1 by omega, nb.2, show ro 1 - 1 - (n : Int) = t1 + 1 by omega, ← w60, ← rv]; done)
                            | (rw [show (ro 1 - 1 - t1).toNat = 0 by omega]; rfl)
                          · rw [if_neg (by omega)]; exact ed t1 i1 u1 u2 u3 u4 (by omega)) (by omega)
        exact L16 _ _ _ (by omega) (df) (fun t1 i1 u1 u2 u3 u4 u5 => dd t1 i1 u1 u2 u3 u4 (by omega)) (Int.self_le_toNat _)
  exact L10 _ _ _ (by omega) (off_rf) (fun t1 i1 u1 u2 u3 u4 u5 => by omega) (Int.self_le_toNat _)

set_option maxHeartbeats 4000000 in
set_option maxRecDepth 100000 in
theorem d_greatSum {G : GT_} (hC : okC_ G) (h : PH_) (o : Nat) (ho : is6_ o) (ro : Int → Int) (H : CRD_ ro h o) (P : List (Int × Int)) (hJ : CJP_ ro h o) (hG : CJG_ ro P h) (hpa : ∀ r, 0 ≤ r → r < ro 2 → 0 ≤ ro (31 + 4 * r + 2) ∧ ro (31 + 4 * r + 2) ≤ 9999) (hcd : ro 1 = 0 ∨ 0 < (lpn_ ro 256).length) (w : Int) (hw : w = -1 ∨ 0 ≤ w ∧ w < ro 1) : PC G yX1_greatestSum cX1_greatestSum 6 (some .int) 5 [rr_ G 151, ii_ w] h (qi_ (fun z h' => off_ [155] h h' ∧ z = (if w < 0 then sm_ (pas_ ro) 0 (ro 2).toNat + srm_ ro P (ro 1).toNat (-1) else pL_ ro (pth_ ro P w.toNat)))) := by
  have HB := H.2.1
  have HA := H.1
  have l24 := lpn_24 (ro := ro) (by omega) (by omega)
  have hl_h := hJ.1
  have hN := hJ.2.1
  refine PC.of (lv := [some (rr_ G 151), some (ii_ w), none, none, none, none]) (by decide +kernel) (Nat.le_of_ble_eq_true rfl) rfl rfl ?_
  refine pw_aload_n (z := 151) (pc := 0) dX1_greatestSum_0 rfl rfl ?_
  refine pw_callV (c := 1) (o := 151) (As := []) (rest := []) (pc := 1) dX1_greatestSum_1 (d_fillSum hC h o ho ro H P hJ hG) lX1_91 mX1_fillSumLeft vX1_fillSumLeft (hC 151 (by decide)) (show kd_ 151 = 11 by decide +kernel) rfl rfl rfl (by decide) ⟨Nat.zero_le _, Nat.zero_le _⟩ (Nat.le_of_ble_eq_true rfl) (k_v (fun h1 q1 => ?_))
  obtain ⟨f1, v1⟩ := q1
  have H1 : CRD_ ro h1 o := CRD_off H ho f1 (by simp)
  have J1 : CJP_ ro h1 o := by
    refine ⟨by rw [f1 151 (by decide)]; exact hJ.1, ?_⟩
    have := hJ.2
    unfold CPL_ at *
    rw [f1 o (by simp; omega), f1 (o + 14) (by simp; omega)]; exact this
  have hl_h1 := J1.1
  have G1 : CJG_ ro P h1 := by unfold CJG_ at *; rw [f1 153 (by decide)]; exact hG
  refine pw_iconst (pc := 4) dX1_greatestSum_4 ?_
  refine pw_istore_n (lv1 := [some (rr_ G 151), some (ii_ w), some (ii_ 0), none, none, none]) (pc := 5) dX1_greatestSum_5 rfl (by decide) rfl rfl ?_
  refine pw_iconst (pc := 6) dX1_greatestSum_6 ?_
  refine pw_istore_n (lv1 := [some (rr_ G 151), some (ii_ w), some (ii_ 0), some (ii_ 0), none, none]) (pc := 7) dX1_greatestSum_7 rfl (by decide) rfl rfl ?_
  have L8 : ∀ (nn : Nat) (s : Int) (r : Int), (0 ≤ r ∧ r ≤ ro 2) → (0 ≤ s ∧ s ≤ 10000 * r) → (s = sm_ (pas_ ro) 0 r.toNat) → ((ro 2 - r + 1 : Int) ≤ nn) → PW G RX1 cX1_greatestSum 6 (some .int) (rm_ 5) 0 0 (zm_ G (qi_ (fun z h' => off_ [155] h h' ∧ z = (if w < 0 then sm_ (pas_ ro) 0 (ro 2).toNat + srm_ ro P (ro 1).toNat (-1) else pL_ ro (pth_ ro P w.toNat))))) 8 [some (rr_ G 151), some (ii_ w), some (ii_ s), some (ii_ r), none, none] [] h1 := by
    intro nn
    induction nn with
    | zero => intro s r ak as av ams; exfalso; omega
    | succ nn ih8 =>
      intro s r ak as av ams
      refine pw_iload_n (z := r) (pc := 8) dX1_greatestSum_8 rfl rfl ?_
      refine pw_aload_n (z := 151) (pc := 9) dX1_greatestSum_9 rfl rfl ?_
      have n_h1_151_0 : h1 151 0 = h 151 0 := (congrFun (f1 151 (by first | decide | (simp; done) | (simp; omega))) 0)
      refine pw_gD (x := 0) (r := o) (pc := 10) dX1_greatestSum_10 fX1_39 (hC 151 (by decide)) (show kd_ 151 = 11 by decide +kernel) rfl rfl (n_h1_151_0.trans hl_h) ?_
      refine pw_gI (x := 2) (pc := 13) dX1_greatestSum_13 fX1_94 (hC _ (by omega)) (kd6_0 ho) rfl rfl (fun r13 => ?_)
      have n_h1_o_2 : h1 o 2 = h o 2 := (congrFun (f1 o (by first | decide | (simp; done) | (simp; omega))) 2)
      rw [n_h1_o_2] at r13 ⊢
      refine pw_icmp_ge (t := 37) (pc := 16) dX1_greatestSum_16 (by decide) (by first | omega | (simp only [n_h1_151_0, n_h1_o_2]; omega)) (by first | omega | (simp only [n_h1_151_0, n_h1_o_2]; omega)) (fun c16 => ?_) (fun c16 => ?_)
      · refine pw_iconst (pc := 37) dX1_greatestSum_37 ?_
        refine pw_istore_n (lv1 := [some (rr_ G 151), some (ii_ w), some (ii_ s), some (ii_ (-1)), none, none]) (pc := 38) dX1_greatestSum_38 rfl (by decide) rfl rfl ?_
        refine pw_iconst (pc := 39) dX1_greatestSum_39 ?_
        refine pw_istore (lv1 := [some (rr_ G 151), some (ii_ w), some (ii_ s), some (ii_ (-1)), some (ii_ 0), none]) (pc := 40) dX1_greatestSum_40 (by decide) rfl rfl ?_
        have L42 : ∀ (nn : Nat) (s2 : Int) (b : Int) (k : Int), (0 ≤ k ∧ k ≤ ro 1) → (b = -1 ∨ 0 ≤ b ∧ b < (lpn_ ro 256).length) → (b = (if k = 0 then -1 else pth_ ro P (k - 1).toNat)) → (-(20000 * k) ≤ s2 ∧ s2 ≤ 40000 + 20000 * k) → (s2 + srm_ ro P (ro 1 - k).toNat b = sm_ (pas_ ro) 0 (ro 2).toNat + srm_ ro P (ro 1).toNat (-1)) → (w < 0 ∨ k ≤ w) → ((ro 1 - k + 1 : Int) ≤ nn) → PW G RX1 cX1_greatestSum 6 (some .int) (rm_ 5) 0 0 (zm_ G (qi_ (fun z h' => off_ [155] h h' ∧ z = (if w < 0 then sm_ (pas_ ro) 0 (ro 2).toNat + srm_ ro P (ro 1).toNat (-1) else pL_ ro (pth_ ro P w.toNat))))) 42 [some (rr_ G 151), some (ii_ w), some (ii_ s2), some (ii_ b), some (ii_ k), none] [] h1 := by
          intro nn
          induction nn with
          | zero => intro s2 b k bk ab ae as2 av2 aw ams; exfalso; omega
          | succ nn ih42 =>
            intro s2 b k bk ab ae as2 av2 aw ams
            refine pw_iload (z := k) (pc := 42) dX1_greatestSum_42 rfl ?_
            refine pw_aload_n (z := 151) (pc := 44) dX1_greatestSum_44 rfl rfl ?_
            refine pw_gD (x := 0) (r := o) (pc := 45) dX1_greatestSum_45 fX1_39 (hC 151 (by decide)) (show kd_ 151 = 11 by decide +kernel) rfl rfl (n_h1_151_0.trans hl_h) ?_
            refine pw_gI (x := 1) (pc := 48) dX1_greatestSum_48 fX1_78 (hC _ (by omega)) (kd6_0 ho) rfl rfl (fun r48 => ?_)
            have n_h1_o_1 : h1 o 1 = h o 1 := (congrFun (f1 o (by first | decide | (simp; done) | (simp; omega))) 1)
            rw [n_h1_o_1] at r48 ⊢
            refine pw_icmp_ge (t := 100) (pc := 51) dX1_greatestSum_51 (by decide) (by first | omega | (simp only [n_h1_151_0, n_h1_o_1, n_h1_o_2]; omega)) (by first | omega | (simp only [n_h1_151_0, n_h1_o_1, n_h1_o_2]; omega)) (fun c51 => ?_) (fun c51 => ?_)
            · refine pw_iload_n (z := s2) (pc := 100) dX1_greatestSum_100 rfl rfl ?_
              exact pw_iret (pc := 101) dX1_greatestSum_101 (by first | omega | (simp only [n_h1_151_0, n_h1_o_1, n_h1_o_2]; omega)) (⟨f1, by rw [if_pos (by omega), ← av2, show (ro 1 - k).toNat = 0 by omega]; show _ = _ + 0; omega⟩)
            · obtain ⟨n, hn⟩ : ∃ n : Nat, n = (ro 1 - 1 - k).toNat := ⟨_, rfl⟩
              have nb := nxt_b (ro := ro) (P := P) (by omega) (by omega) (by omega) n b (by omega)
              have hb2 : b = -1 ∨ 0 ≤ b ∧ b < (lpn_ ro 256).length := ab
              refine pw_aload_n (z := 151) (pc := 54) dX1_greatestSum_54 rfl rfl ?_
              refine pw_iload (z := k) (pc := 55) dX1_greatestSum_55 rfl ?_
              refine pw_iload_n (z := b) (pc := 57) dX1_greatestSum_57 rfl rfl ?_
              refine pw_callV (c := 1) (o := 151) (As := [ii_ k, ii_ b]) (rest := []) (pc := 58) dX1_greatestSum_58 (d_firstOf hC h1 o ho ro H1 P J1 G1 k (by first | omega | (simp only [n_h1_151_0, n_h1_o_1, n_h1_o_2]; omega)) n (by first | omega | (simp only [n_h1_151_0, n_h1_o_1, n_h1_o_2]; omega)) b hb2 (fun i1 u1 u2 => by rw [hn]; exact v1 k i1 (by first | omega | (simp only [n_h1_151_0, n_h1_o_1, n_h1_o_2]; omega)) (by first | omega | (simp only [n_h1_151_0, n_h1_o_1, n_h1_o_2]; omega)) u1 u2)) lX1_97 mX1_firstOfMost vX1_firstOfMost (hC 151 (by decide)) (show kd_ 151 = 11 by decide +kernel) rfl rfl rfl (by decide) ⟨Nat.zero_le _, Nat.zero_le _⟩ (Nat.le_of_ble_eq_true rfl) (k_i (fun z58 h58 y58 q58 => ?_))
              obtain ⟨rfl, w58⟩ := q58
              rw [← w58] at nb
              refine pw_istore (lv1 := [some (rr_ G 151), some (ii_ w), some (ii_ s2), some (ii_ b), some (ii_ k), some (ii_ z58)]) (pc := 61) dX1_greatestSum_61 (by decide) rfl rfl ?_
              have pk : pth_ ro P k.toNat = z58 := by
                rw [w58]
                by_cases c : k = 0
                · rw [ae, if_pos c, c, hn, c]; show nxt_ ro P _ _ = _; rw [show ro 1 - 1 - 0 = ro 1 - 1 by omega]
                · rw [ae, if_neg c, hn]; exact pth_s (by omega)
              refine pw_iload (z := k) (pc := 63) dX1_greatestSum_63 rfl ?_
              refine pw_iload_n (z := w) (pc := 65) dX1_greatestSum_65 rfl rfl ?_
              refine pw_icmp_ne (t := 79) (pc := 66) dX1_greatestSum_66 (by decide) (by first | omega | (simp only [n_h1_151_0, n_h1_o_1, n_h1_o_2]; omega)) (by first | omega | (simp only [n_h1_151_0, n_h1_o_1, n_h1_o_2]; omega)) (fun c66 => ?_) (fun c66 => ?_)
              · refine pw_iload_n (z := s2) (pc := 79) dX1_greatestSum_79 rfl rfl ?_
                refine pw_aload_n (z := 151) (pc := 80) dX1_greatestSum_80 rfl rfl ?_
                refine pw_iload (z := k) (pc := 81) dX1_greatestSum_81 rfl ?_
                refine pw_iload_n (z := b) (pc := 83) dX1_greatestSum_83 rfl rfl ?_
                refine pw_iload (z := z58) (pc := 84) dX1_greatestSum_84 rfl ?_
                refine pw_callV (c := 1) (o := 151) (As := [ii_ k, ii_ b, ii_ z58]) (rest := [ii_ s2]) (pc := 86) dX1_greatestSum_86 (d_sumOf hC h1 o ho ro H1 P J1 G1 k (by first | omega | (simp only [n_h1_151_0, n_h1_o_1, n_h1_o_2]; omega)) b z58 hb2 (by first | omega | (simp only [n_h1_151_0, n_h1_o_1, n_h1_o_2]; omega))) lX1_105 mX1_sumOf vX1_sumOf (hC 151 (by decide)) (show kd_ 151 = 11 by decide +kernel) rfl rfl rfl (by decide) ⟨Nat.zero_le _, Nat.zero_le _⟩ (Nat.le_of_ble_eq_true rfl) (k_i (fun z86 h86 y86 q86 => ?_))
                obtain ⟨rfl, w86⟩ := q86
                have w87 : z86 = smg_ ro P k b z58 := w86
                have sb := smg_b (ro := ro) (P := P) (by omega) (by omega) k b z58
                refine pw_iadd (pc := 89) dX1_greatestSum_89 ?_
                refine pw_istore_n (lv1 := [some (rr_ G 151), some (ii_ w), some (ii_ (s2 + z86)), some (ii_ b), some (ii_ k), some (ii_ z58)]) (pc := 90) dX1_greatestSum_90 rfl (by decide) rfl rfl ?_
                refine pw_iload (z := z58) (pc := 91) dX1_greatestSum_91 rfl ?_
                refine pw_istore_n (lv1 := [some (rr_ G 151), some (ii_ w), some (ii_ (s2 + z86)), some (ii_ z58), some (ii_ k), some (ii_ z58)]) (pc := 93) dX1_greatestSum_93 rfl (by decide) rfl rfl ?_
                refine pw_iinc (z := k) (lv1 := [some (rr_ G 151), some (ii_ w), some (ii_ (s2 + z86)), some (ii_ z58), some (ii_ (k + 1)), some (ii_ z58)]) (pc := 94) dX1_greatestSum_94 rfl (by decide) rfl rfl ?_
                refine pw_goto (t := 42) (pc := 97) dX1_greatestSum_97 (by decide) ?_
                refine pw_less (lv1 := [some (rr_ G 151), some (ii_ w), some (ii_ (s2 + z86)), some (ii_ z58), some (ii_ (k + 1)), none]) rfl (by intro i v; (match i with | 0 => simp | 1 => simp | 2 => simp | 3 => simp | 4 => simp | 5 => simp | n + 6 => simp)) ?_
                exact ih42 _ _ _ (by omega) (Or.inr (by omega)) (by rw [if_neg (by omega), show k + 1 - 1 = k by omega, pk]) (by omega) (by rw [← av2, show (ro 1 - k).toNat = n + 1 by omega, nb.2, show ro 1 - 1 - (n : Int) = k by omega, ← w87, show (ro 1 - (k + 1)).toNat = n by omega]; omega) (by omega) (by omega)
              · have ck := CJP_at J1 (k := z58) (by omega) (by omega)
                have h7 := J1.2.1
                refine pw_aload_n (z := 151) (pc := 69) dX1_greatestSum_69 rfl rfl ?_
                refine pw_gD (x := 0) (r := o) (pc := 70) dX1_greatestSum_70 fX1_39 (hC 151 (by decide)) (show kd_ 151 = 11 by decide +kernel) rfl rfl (n_h1_151_0.trans hl_h) ?_
                refine pw_iload (z := z58) (pc := 73) dX1_greatestSum_73 rfl ?_
                refine pw_callV (c := 6) (o := o) (As := [ii_ z58]) (rest := []) (pc := 75) dX1_greatestSum_75 (d_planAt hC h1 o ho z58 (by first | omega | (simp only [n_h1_151_0, n_h1_o_1, n_h1_o_2]; omega)) (by first | omega | (simp only [n_h1_151_0, n_h1_o_1, n_h1_o_2]; omega))) lX1_101 mX6_planAt vX6_planAt (hC _ (by omega)) (kd6_0 ho) rfl rfl rfl (by decide) ⟨Nat.zero_le _, Nat.zero_le _⟩ (Nat.le_of_ble_eq_true rfl) (k_i (fun z75 h75 y75 q75 => ?_))
                obtain ⟨rfl, w75⟩ := q75
                exact pw_iret (pc := 78) dX1_greatestSum_78 (by first | omega | (simp only [n_h1_151_0, n_h1_o_1, n_h1_o_2]; omega)) (⟨f1, by rw [w75, if_pos (by omega), ck, if_neg (by omega), show w = k by omega, pk]⟩)
        exact L42 _ _ _ _ (by omega) (Or.inl rfl) (rfl) (by omega) (by rw [av, show r = ro 2 by omega, Int.sub_zero]) (by omega) (Int.self_le_toNat _)
      · have pr := hpa r (by omega) (by omega)
        have pv : h (o + 5) r = pas_ ro r := (H.2.2.2.1 r (by omega) (by omega)).2.2.1
        have pv2 : pas_ ro r = ro (31 + 4 * r + 2) := rfl
        refine pw_iload_n (z := s) (pc := 19) dX1_greatestSum_19 rfl rfl ?_
        refine pw_aload_n (z := 151) (pc := 20) dX1_greatestSum_20 rfl rfl ?_
        refine pw_gD (x := 0) (r := o) (pc := 21) dX1_greatestSum_21 fX1_39 (hC 151 (by decide)) (show kd_ 151 = 11 by decide +kernel) rfl rfl (n_h1_151_0.trans hl_h) ?_
        refine pw_getR (r := (o + 5)) (pc := 24) dX1_greatestSum_24 fX1_60 (hC _ (by omega)) (kd6_0 ho) rfl rfl ?_
        refine pw_iload_n (z := r) (pc := 27) dX1_greatestSum_27 rfl rfl ?_
        refine pw_iald (pc := 28) dX1_greatestSum_28 (hC _ (by omega)) (kd6_5 ho) 4 (ln6_5 ho) (by first | omega | (simp only [n_h1_151_0, n_h1_o_2]; omega)) (by first | omega | (simp only [n_h1_151_0, n_h1_o_2]; omega)) (by first | omega | (simp only [n_h1_151_0, n_h1_o_2]; omega)) (fun r28 => ?_)
        have n_h1_o_5 : h1 (o + 5) = h (o + 5) := (f1 (o + 5) (by first | decide | (simp; done) | (simp; omega)))
        rw [n_h1_o_5] at r28 ⊢
        refine pw_iadd (pc := 29) dX1_greatestSum_29 ?_
        refine pw_istore_n (lv1 := [some (rr_ G 151), some (ii_ w), some (ii_ (s + (h (o + 5) r))), some (ii_ r), none, none]) (pc := 30) dX1_greatestSum_30 rfl (by decide) rfl rfl ?_
        refine pw_iinc (z := r) (lv1 := [some (rr_ G 151), some (ii_ w), some (ii_ (s + (h (o + 5) r))), some (ii_ (r + 1)), none, none]) (pc := 31) dX1_greatestSum_31 rfl (by decide) rfl rfl ?_
        refine pw_goto (t := 8) (pc := 34) dX1_greatestSum_34 (by decide) ?_
        exact ih8 _ _ (by omega) (by omega) (by rw [sm_s ak.1, ← av, Int.zero_add, ← pv]) (by omega)
  exact L8 _ _ _ (by omega) (by omega) (rfl) (Int.self_le_toNat _)

