theorem evl_cd {f g : Int → Int} (hfg : ∀ k, 0 ≤ k → k ≤ 4 → f k = g k) {ft : Int → Int} : ∀ {P : List (Int × Int)} {i : Int} {st : List Int}, ccd_ ft i P → evl_ f P st = evl_ g P st
  | [], _, _, _ => rfl
  | (c, a) :: P, i, st, h => by
    have e : es_ f c a st = es_ g c a st := by
      unfold es_
      by_cases h2 : c = 2
      · have := h.2.2.2.1 h2
        rw [hfg a this.1 this.2]
      · rw [if_neg h2, if_neg h2]
    show evl_ f P (es_ f c a st) = evl_ g P (es_ g c a st)
    rw [e]
    exact evl_cd hfg h.2.2.2.2
theorem dpt_l : ∀ {P : List (Int × Int)}, dpt_ P 0 → 1 ≤ P.length
  | [], h => by cases h
  | q :: P, _ => by simp
/-- the law number k of the class's road -/
def CLA_ (h : PH_) (o : Nat) (k : Int) (P : List (Int × Int)) : Prop := ccd_ (h (o + 9)) (h (o + 12) k) P ∧ (0 ≤ h (o + 12) k ∧ h (o + 13) k = h (o + 12) k + P.length ∧ h (o + 13) k ≤ h (o + 8) 3 ∧ h (o + 8) 3 ≤ 1000) ∧ dpt_ P 0 ∧ dpb_ P 0
def CLP_ (ro : Int → Int) (P : List (Int × Int)) (h : PH_) (o : Nat) : Prop := (ro 5 < 0 → h (o + 13) 4 ≤ h (o + 12) 4) ∧ (0 ≤ ro 5 → CLA_ h o 4 P)
/-- what was worked out already -/
def CWM_ (ro : Int → Int) (P : List (Int × Int)) (h : PH_) (o : Nat) : Prop := ∀ t r s q, 0 ≤ t → t < 4 → 0 ≤ r → r < ro 2 → 0 ≤ s → s < ro 0 → 0 ≤ q → q < 3 → h (o + 15) (((t * 4 + r) * 4 + s) * 3 + q) = -1 ∨ h (o + 15) (((t * 4 + r) * 4 + s) * 3 + q) = wv_ ro P r s t q
theorem CWM_up {ro : Int → Int} {P : List (Int × Int)} {h g hy : PH_} {o : Nat} {t r s q z : Int} (H : CWM_ ro P h o) (hR : ro 2 ≤ 4 ∧ ro 0 ≤ 4) (e : hy (o + 15) = h (o + 15)) (eg : g = up_ hy (o + 15) (((t * 4 + r) * 4 + s) * 3 + q) z) (hz : z = wv_ ro P r s t q) (h1 : 0 ≤ r ∧ r < 4) (h2 : 0 ≤ s ∧ s < 4) (h3 : 0 ≤ q ∧ q < 3) : CWM_ ro P g o := by
  intro t' r' s' q' a1 a2 a3 a4 a5 a6 a7 a8
  rw [eg, up_at]
  by_cases c : ((t' * 4 + r') * 4 + s') * 3 + q' = ((t * 4 + r) * 4 + s) * 3 + q
  · rw [if_pos c]
    have e1 : t' = t ∧ r' = r ∧ s' = s ∧ q' = q := by omega
    obtain ⟨rfl, rfl, rfl, rfl⟩ := e1
    exact Or.inr hz
  · rw [if_neg c, e]
    exact H t' r' s' q' a1 a2 a3 a4 a5 a6 a7 a8
theorem cl9_m {v z y : Int} (h1 : 999 < v ∧ z = 999 ∨ v ≤ 999 ∧ z = v) (h2 : 0 < z ∧ y = z ∨ z ≤ 0 ∧ y = 0) : y = cl9_ v := by unfold cl9_; repeat' split <;> omega
theorem CLA_cg {h h' : PH_} {o : Nat} {k : Int} {P : List (Int × Int)} (H : CLA_ h o k P) (e1 : h' (o + 9) = h (o + 9)) (e2 : h' (o + 12) = h (o + 12)) (e3 : h' (o + 13) = h (o + 13)) (e4 : h' (o + 8) = h (o + 8)) : CLA_ h' o k P := by
  unfold CLA_ at *; rw [e1, e2, e3, e4]; exact H

set_option maxHeartbeats 4000000 in
set_option maxRecDepth 100000 in
theorem d_worthAt {G : GT_} (hC : okC_ G) (h : PH_) (o : Nat) (ho : is6_ o) (ro : Int → Int) (H : CRD_ ro h o) (P : List (Int × Int)) (hl : CLP_ ro P h o) (hm : CWM_ ro P h o) (t r s q : Int) (h1 : 0 ≤ t ∧ t < ro 1) (h2 : 0 ≤ r ∧ r < ro 2) (h3 : 0 ≤ s ∧ s < ro 0) (h4 : 0 ≤ q ∧ q < 3) : PC G yX6_worthAt cX6_worthAt 7 (some .int) 3 [rr_ G o, ii_ t, ii_ r, ii_ s, ii_ q] h (qi_ (fun z h' => off_ [o + 10, o + 11, o + 15] h h' ∧ CWM_ ro P h' o ∧ z = wv_ ro P r s t q)) := by
  have HB := H.2.1
  have HA := H.1
  have HR := H.2.2.2.1 r h2.1 h2.2
  have HH := CRD_h H h1 h3
  have HM := H.2.2.1 t 0 h1.1 h1.2 (by omega) (by omega)
  rw [Int.add_zero, Int.add_zero] at HM
  have wb := wv_b ro P r s t q
  refine PC.of (lv := [some (rr_ G o), some (ii_ t), some (ii_ r), some (ii_ s), some (ii_ q), none, none]) (by decide +kernel) (Nat.le_of_ble_eq_true rfl) rfl rfl ?_
  refine pw_iload_n (z := t) (pc := 0) dX6_worthAt_0 rfl rfl ?_
  refine pw_iconst (pc := 1) dX6_worthAt_1 ?_
  refine pw_imul (pc := 2) dX6_worthAt_2 ?_
  refine pw_iload_n (z := r) (pc := 3) dX6_worthAt_3 rfl rfl ?_
  refine pw_iadd (pc := 4) dX6_worthAt_4 ?_
  refine pw_iconst (pc := 5) dX6_worthAt_5 ?_
  refine pw_imul (pc := 6) dX6_worthAt_6 ?_
  refine pw_iload_n (z := s) (pc := 7) dX6_worthAt_7 rfl rfl ?_
  refine pw_iadd (pc := 8) dX6_worthAt_8 ?_
  refine pw_iconst (pc := 9) dX6_worthAt_9 ?_
  refine pw_imul (pc := 10) dX6_worthAt_10 ?_
  refine pw_iload (z := q) (pc := 11) dX6_worthAt_11 rfl ?_
  refine pw_iadd (pc := 13) dX6_worthAt_13 ?_
  refine pw_istore (lv1 := [some (rr_ G o), some (ii_ t), some (ii_ r), some (ii_ s), some (ii_ q), some (ii_ ((((((t * 4) + r) * 4) + s) * 3) + q)), none]) (pc := 14) dX6_worthAt_14 (by decide) rfl rfl ?_
  refine pw_iload (z := (((((t * 4) + r) * 4) + s) * 3) + q) (pc := 16) dX6_worthAt_16 rfl ?_
  refine pw_if_lt (t := 31) (pc := 18) dX6_worthAt_18 (by decide) (by first | first | omega | exact wr_ir _) (fun c18 => ?_) (fun c18 => ?_)
  · exfalso; omega
  · refine pw_iload (z := (((((t * 4) + r) * 4) + s) * 3) + q) (pc := 21) dX6_worthAt_21 rfl ?_
    refine pw_aload_n (z := o) (pc := 23) dX6_worthAt_23 rfl rfl ?_
    refine pw_getR (r := (o + 15)) (pc := 24) dX6_worthAt_24 fX6_50 (hC _ (by omega)) (kd6_0 ho) rfl rfl ?_
    refine pw_alen (pc := 27) dX6_worthAt_27 (hC _ (by omega)) _ (kd6_15 ho) (by decide) 192 (ln6_15 ho) ?_
    refine pw_icmp_lt (t := 33) (pc := 28) dX6_worthAt_28 (by decide) (by first | first | omega | exact wr_ir _) (by first | first | omega | exact wr_ir _) (fun c28 => ?_) (fun c28 => ?_)
    · have mm := hm t r s q (by omega) (by omega) (by omega) (by omega) (by omega) (by omega) (by omega) (by omega)
      have J189 : ∀ (hz : PH_), (off_ [o + 10, o + 11, o + 15] h hz) → (CWM_ ro P hz o) → (hz (o + 15) (((t * 4 + r) * 4 + s) * 3 + q) = wv_ ro P r s t q) → PW G RX6 cX6_worthAt 7 (some .int) (rm_ 3) 0 0 (zm_ G (qi_ (fun z h' => off_ [o + 10, o + 11, o + 15] h h' ∧ CWM_ ro P h' o ∧ z = wv_ ro P r s t q))) 189 [some (rr_ G o), some (ii_ t), some (ii_ r), some (ii_ s), some (ii_ q), some (ii_ ((((((t * 4) + r) * 4) + s) * 3) + q)), none] [] hz := by
        intro hz hf hw hv9
        refine pw_aload_n (z := o) (pc := 189) dX6_worthAt_189 rfl rfl ?_
        refine pw_getR (r := (o + 15)) (pc := 190) dX6_worthAt_190 fX6_50 (hC _ (by omega)) (kd6_0 ho) rfl rfl ?_
        refine pw_iload (z := (((((t * 4) + r) * 4) + s) * 3) + q) (pc := 193) dX6_worthAt_193 rfl ?_
        refine pw_iald (pc := 195) dX6_worthAt_195 (hC _ (by omega)) (kd6_15 ho) 192 (ln6_15 ho) (by first | first | omega | exact wr_ir _) (by first | first | omega | exact wr_ir _) (by first | first | omega | exact wr_ir _) (fun r195 => ?_)
        exact pw_iret (pc := 196) dX6_worthAt_196 (by first | first | omega | exact wr_ir _) (⟨hf, hw, hv9⟩)
      refine pw_aload_n (z := o) (pc := 33) dX6_worthAt_33 rfl rfl ?_
      refine pw_getR (r := (o + 15)) (pc := 34) dX6_worthAt_34 fX6_50 (hC _ (by omega)) (kd6_0 ho) rfl rfl ?_
      refine pw_iload (z := (((((t * 4) + r) * 4) + s) * 3) + q) (pc := 37) dX6_worthAt_37 rfl ?_
      refine pw_iald (pc := 39) dX6_worthAt_39 (hC _ (by omega)) (kd6_15 ho) 192 (ln6_15 ho) (by first | first | omega | exact wr_ir _) (by first | first | omega | exact wr_ir _) (by first | first | omega | exact wr_ir _) (fun r39 => ?_)
      refine pw_iconst (pc := 40) dX6_worthAt_40 ?_
      refine pw_icmp_ne (t := 189) (pc := 41) dX6_worthAt_41 (by decide) (by first | first | omega | exact wr_ir _) (by first | first | omega | exact wr_ir _) (fun c41 => ?_) (fun c41 => ?_)
      · exact J189 _ (by first | exact off_rf | (rw [e188]; exact off_up (off_mo hfy (by simp)) (by simp))) (by first | exact hm | exact CWM_up hm (by omega) (hfy _ (by simp)) e188 vv (by omega) (by omega) (by omega)) (by first | exact mm.resolve_left c41 | (rw [e188, up_same]; exact vv))
      · refine pw_aload_n (z := o) (pc := 44) dX6_worthAt_44 rfl rfl ?_
        refine pw_getR (r := (o + 8)) (pc := 45) dX6_worthAt_45 fX6_37 (hC _ (by omega)) (kd6_0 ho) rfl rfl ?_
        refine pw_getR (r := (o + 11)) (pc := 48) dX6_worthAt_48 fX6_124 (hC _ (by omega)) (kd6_8 ho) rfl rfl ?_
        refine pw_iconst (pc := 51) dX6_worthAt_51 ?_
        refine pw_aload_n (z := o) (pc := 52) dX6_worthAt_52 rfl rfl ?_
        refine pw_iload_n (z := t) (pc := 53) dX6_worthAt_53 rfl rfl ?_
        refine pw_iload_n (z := s) (pc := 54) dX6_worthAt_54 rfl rfl ?_
        refine pw_callV (c := 6) (o := o) (As := [ii_ t, ii_ s]) (rest := [ii_ 0, rr_ G (o + 11)]) (pc := 55) dX6_worthAt_55 (d_has hC h o ho t s (by first | first | omega | exact wr_ir _) (by first | first | omega | exact wr_ir _)) lX6_127 mX6_has vX6_has (hC _ (by omega)) (kd6_0 ho) rfl rfl rfl (by decide) ⟨Nat.zero_le _, Nat.zero_le _⟩ (Nat.le_of_ble_eq_true rfl) (k_i (fun z55 h55 y55 q55 => ?_))
        obtain ⟨rfl, w55⟩ := q55
        have q55 : z55 = ro (11 + 5 * t + (1 + s)) := by rw [w55]; exact HH
        refine pw_iast (pc := 58) dX6_worthAt_58 (hC _ (by omega)) (kd6_11 ho) 5 (ln6_11 ho) (by first | first | omega | exact wr_ir _) (by first | first | omega | exact wr_ir _) (by first | first | omega | exact wr_ir _) (by first | first | omega | exact wr_ir _) ?_
        obtain ⟨g58, e58⟩ : ∃ x, x = up_ h (o + 11) 0 z55 := ⟨_, rfl⟩
        refine pw_heq e58 ?_
        refine pw_aload_n (z := o) (pc := 59) dX6_worthAt_59 rfl rfl ?_
        refine pw_getR (r := (o + 8)) (pc := 60) dX6_worthAt_60 fX6_37 (hC _ (by omega)) (kd6_0 ho) rfl rfl ?_
        refine pw_getR (r := (o + 11)) (pc := 63) dX6_worthAt_63 fX6_124 (hC _ (by omega)) (kd6_8 ho) rfl rfl ?_
        refine pw_iconst (pc := 66) dX6_worthAt_66 ?_
        refine pw_aload_n (z := o) (pc := 67) dX6_worthAt_67 rfl rfl ?_
        refine pw_iload_n (z := t) (pc := 68) dX6_worthAt_68 rfl rfl ?_
        refine pw_callV (c := 6) (o := o) (As := [ii_ t]) (rest := [ii_ 1, rr_ G (o + 11)]) (pc := 69) dX6_worthAt_69 (d_minutesOf hC g58 o ho t (by first | first | omega | exact wr_ir _)) lX6_130 mX6_minutesOf vX6_minutesOf (hC _ (by omega)) (kd6_0 ho) rfl rfl rfl (by decide) ⟨Nat.zero_le _, Nat.zero_le _⟩ (Nat.le_of_ble_eq_true rfl) (k_i (fun z69 h69 y69 q69 => ?_))
        obtain ⟨rfl, w69⟩ := q69
        have q69 : z69 = ro (11 + 5 * t) := by rw [w69, e58, up_off (by omega)]; exact HM
        refine pw_iast (pc := 72) dX6_worthAt_72 (hC _ (by omega)) (kd6_11 ho) 5 (ln6_11 ho) (by first | first | omega | exact wr_ir _) (by first | first | omega | exact wr_ir _) (by first | first | omega | exact wr_ir _) (by first | first | omega | exact wr_ir _) ?_
        obtain ⟨g72, e72⟩ : ∃ x, x = up_ g58 (o + 11) 1 z69 := ⟨_, rfl⟩
        refine pw_heq e72 ?_
        refine pw_aload_n (z := o) (pc := 73) dX6_worthAt_73 rfl rfl ?_
        refine pw_getR (r := (o + 8)) (pc := 74) dX6_worthAt_74 fX6_37 (hC _ (by omega)) (kd6_0 ho) rfl rfl ?_
        refine pw_getR (r := (o + 11)) (pc := 77) dX6_worthAt_77 fX6_124 (hC _ (by omega)) (kd6_8 ho) rfl rfl ?_
        refine pw_iconst (pc := 80) dX6_worthAt_80 ?_
        refine pw_aload_n (z := o) (pc := 81) dX6_worthAt_81 rfl rfl ?_
        refine pw_getR (r := (o + 3)) (pc := 82) dX6_worthAt_82 fX6_19 (hC _ (by omega)) (kd6_0 ho) rfl rfl ?_
        refine pw_iload_n (z := r) (pc := 85) dX6_worthAt_85 rfl rfl ?_
        refine pw_iald (pc := 86) dX6_worthAt_86 (hC _ (by omega)) (kd6_3 ho) 4 (ln6_3 ho) (by first | first | omega | exact wr_ir _) (by first | first | omega | exact wr_ir _) (by first | first | omega | exact wr_ir _) (fun r86 => ?_)
        have n_g72_o_3 : g72 (o + 3) = h (o + 3) := ((show g72 (o + 3) = g58 (o + 3) from (by rw [e72]; exact up_off (by first | decide | omega))).trans (show g58 (o + 3) = h (o + 3) from (by rw [e58]; exact up_off (by first | decide | omega))))
        rw [n_g72_o_3] at r86 ⊢
        refine pw_iast (pc := 87) dX6_worthAt_87 (hC _ (by omega)) (kd6_11 ho) 5 (ln6_11 ho) (by first | first | omega | exact wr_ir _ | (simp only [n_g72_o_3]; omega)) (by first | first | omega | exact wr_ir _ | (simp only [n_g72_o_3]; omega)) (by first | first | omega | exact wr_ir _ | (simp only [n_g72_o_3]; omega)) (by first | first | omega | exact wr_ir _ | (simp only [n_g72_o_3]; omega)) ?_
        obtain ⟨g87, e87⟩ : ∃ x, x = up_ g72 (o + 11) 2 (h (o + 3) r) := ⟨_, rfl⟩
        refine pw_heq e87 ?_
        refine pw_aload_n (z := o) (pc := 88) dX6_worthAt_88 rfl rfl ?_
        refine pw_getR (r := (o + 8)) (pc := 89) dX6_worthAt_89 fX6_37 (hC _ (by omega)) (kd6_0 ho) rfl rfl ?_
        refine pw_getR (r := (o + 11)) (pc := 92) dX6_worthAt_92 fX6_124 (hC _ (by omega)) (kd6_8 ho) rfl rfl ?_
        refine pw_iconst (pc := 95) dX6_worthAt_95 ?_
        have e0 : g87 o 0 = ro 0 := by rw [e87, e72, e58, up_off (by omega), up_off (by omega), up_off (by omega)]; exact HA.1
        refine pw_aload_n (z := o) (pc := 96) dX6_worthAt_96 rfl rfl ?_
        refine pw_iload_n (z := s) (pc := 97) dX6_worthAt_97 rfl rfl ?_
        have J109 : ∀ (v : Int), (v = (if s = 0 ∨ s = ro 0 - 1 then 1 else 0)) → PW G RX6 cX6_worthAt 7 (some .int) (rm_ 3) 0 0 (zm_ G (qi_ (fun z h' => off_ [o + 10, o + 11, o + 15] h h' ∧ CWM_ ro P h' o ∧ z = wv_ ro P r s t q))) 109 [some (rr_ G o), some (ii_ t), some (ii_ r), some (ii_ s), some (ii_ q), some (ii_ ((((((t * 4) + r) * 4) + s) * 3) + q)), none] [ii_ v, ii_ 3, rr_ G (o + 11)] g87 := by
          intro v hv
          refine pw_iast (pc := 109) dX6_worthAt_109 (hC _ (by omega)) (kd6_11 ho) 5 (ln6_11 ho) (by first | first | omega | exact wr_ir _ | (simp only [n_g72_o_3]; omega)) (by first | first | omega | exact wr_ir _ | (simp only [n_g72_o_3]; omega)) (by first | first | omega | exact wr_ir _ | (simp only [n_g72_o_3]; omega)) (by first | first | omega | exact wr_ir _ | (simp only [n_g72_o_3]; omega)) ?_
          obtain ⟨g109, e109⟩ : ∃ x, x = up_ g87 (o + 11) 3 v := ⟨_, rfl⟩
          refine pw_heq e109 ?_
          refine pw_aload_n (z := o) (pc := 110) dX6_worthAt_110 rfl rfl ?_
          refine pw_getR (r := (o + 8)) (pc := 111) dX6_worthAt_111 fX6_37 (hC _ (by omega)) (kd6_0 ho) rfl rfl ?_
          refine pw_getR (r := (o + 11)) (pc := 114) dX6_worthAt_114 fX6_124 (hC _ (by omega)) (kd6_8 ho) rfl rfl ?_
          refine pw_iconst (pc := 117) dX6_worthAt_117 ?_
          refine pw_iload (z := q) (pc := 118) dX6_worthAt_118 rfl ?_
          refine pw_iast (pc := 120) dX6_worthAt_120 (hC _ (by omega)) (kd6_11 ho) 5 (ln6_11 ho) (by first | first | omega | exact wr_ir _ | (simp only [n_g72_o_3]; omega)) (by first | first | omega | exact wr_ir _ | (simp only [n_g72_o_3]; omega)) (by first | first | omega | exact wr_ir _ | (simp only [n_g72_o_3]; omega)) (by first | first | omega | exact wr_ir _ | (simp only [n_g72_o_3]; omega)) ?_
          obtain ⟨g120, e120⟩ : ∃ x, x = up_ g109 (o + 11) 4 q := ⟨_, rfl⟩
          refine pw_heq e120 ?_
          have qo : off_ [o + 11] h g120 := by rw [e120, e109, e87, e72, e58]; exact off_up (off_up (off_up (off_up (off_up off_rf (by simp)) (by simp)) (by simp)) (by simp)) (by simp)
          have q12 := qo (o + 12) (by simp)
          have q13 := qo (o + 13) (by simp)
          have q8 := qo (o + 8) (by simp)
          have q9 := qo (o + 9) (by simp)
          have q15 := qo (o + 15) (by simp)
          have q124 := congrFun q12 4
          have q134 := congrFun q13 4
          have nf : off_ [o + 10, o + 11] h g120 := off_mo qo (by simp)
          have fq : ∀ k, 0 ≤ k → k ≤ 4 → g120 (o + 11) k = wof_ ro r s t q k := by
            intro k k0 k4
            have kk : k = 0 ∨ k = 1 ∨ k = 2 ∨ k = 3 ∨ k = 4 := by omega
            rw [e120, e109, e87, e72, e58]
            rcases kk with rfl | rfl | rfl | rfl | rfl <;> simp [up_ap, wof_, hv, q55, q69, HR.1]
          have f0 := fq 0 (by decide) (by decide)
          have f1 := fq 1 (by decide) (by decide)
          have w0 : wof_ ro r s t q 0 = ro (11 + 5 * t + (1 + s)) := rfl
          have w1 : wof_ ro r s t q 1 = ro (11 + 5 * t) := rfl
          refine pw_aload_n (z := o) (pc := 121) dX6_worthAt_121 rfl rfl ?_
          refine pw_getR (r := (o + 8)) (pc := 122) dX6_worthAt_122 fX6_37 (hC _ (by omega)) (kd6_0 ho) rfl rfl ?_
          refine pw_getR (r := (o + 11)) (pc := 125) dX6_worthAt_125 fX6_124 (hC _ (by omega)) (kd6_8 ho) rfl rfl ?_
          refine pw_iconst (pc := 128) dX6_worthAt_128 ?_
          refine pw_iald (pc := 129) dX6_worthAt_129 (hC _ (by omega)) (kd6_11 ho) 5 (ln6_11 ho) (by first | first | omega | exact wr_ir _ | (simp only [n_g72_o_3]; omega)) (by first | first | omega | exact wr_ir _ | (simp only [n_g72_o_3]; omega)) (by first | first | omega | exact wr_ir _ | (simp only [n_g72_o_3]; omega)) (fun r129 => ?_)
          refine pw_aload_n (z := o) (pc := 130) dX6_worthAt_130 rfl rfl ?_
          refine pw_getR (r := (o + 8)) (pc := 131) dX6_worthAt_131 fX6_37 (hC _ (by omega)) (kd6_0 ho) rfl rfl ?_
          refine pw_getR (r := (o + 11)) (pc := 134) dX6_worthAt_134 fX6_124 (hC _ (by omega)) (kd6_8 ho) rfl rfl ?_
          refine pw_iconst (pc := 137) dX6_worthAt_137 ?_
          refine pw_iald (pc := 138) dX6_worthAt_138 (hC _ (by omega)) (kd6_11 ho) 5 (ln6_11 ho) (by first | first | omega | exact wr_ir _ | (simp only [n_g72_o_3]; omega)) (by first | first | omega | exact wr_ir _ | (simp only [n_g72_o_3]; omega)) (by first | first | omega | exact wr_ir _ | (simp only [n_g72_o_3]; omega)) (fun r138 => ?_)
          refine pw_imul (pc := 139) dX6_worthAt_139 ?_
          refine pw_norm ?_
          refine pw_istore (lv1 := [some (rr_ G o), some (ii_ t), some (ii_ r), some (ii_ s), some (ii_ q), some (ii_ ((((((t * 4) + r) * 4) + s) * 3) + q)), some (ii_ (wr_ ((g120 (o + 11) 0) * (g120 (o + 11) 1))))]) (pc := 140) dX6_worthAt_140 (by decide) rfl rfl ?_
          have J170 : ∀ (v6 : Int) (hy : PH_), (v6 = (if ro 5 < 0 then wr_ (ro (11 + 5 * t + (1 + s)) * ro (11 + 5 * t)) else ew_ (wof_ ro r s t q) P) ∧ ir_ v6) → (off_ [o + 10, o + 11] h hy) → PW G RX6 cX6_worthAt 7 (some .int) (rm_ 3) 0 0 (zm_ G (qi_ (fun z h' => off_ [o + 10, o + 11, o + 15] h h' ∧ CWM_ ro P h' o ∧ z = wv_ ro P r s t q))) 170 [some (rr_ G o), some (ii_ t), some (ii_ r), some (ii_ s), some (ii_ q), some (ii_ ((((((t * 4) + r) * 4) + s) * 3) + q)), some (ii_ v6)] [] hy := by
            intro v6 hy hvy hfy
            refine pw_aload_n (z := o) (pc := 170) dX6_worthAt_170 rfl rfl ?_
            refine pw_getR (r := (o + 15)) (pc := 171) dX6_worthAt_171 fX6_50 (hC _ (by omega)) (kd6_0 ho) rfl rfl ?_
            refine pw_iload (z := (((((t * 4) + r) * 4) + s) * 3) + q) (pc := 174) dX6_worthAt_174 rfl ?_
            refine pw_iconst (pc := 176) dX6_worthAt_176 ?_
            refine pw_iload (z := v6) (pc := 177) dX6_worthAt_177 rfl ?_
            refine pw_sipush (pc := 179) dX6_worthAt_179 rfl ?_
            refine pw_mmin (pc := 182) dX6_worthAt_182 lX6_92 (by first | first | omega | exact wr_ir _ | (simp only [n_g72_o_3]; omega)) (by first | first | omega | exact wr_ir _ | (simp only [n_g72_o_3]; omega)) (by decide) ⟨Nat.zero_le _, Nat.zero_le _⟩ (Nat.le_of_ble_eq_true rfl) (fun z182 r182 w182 => ?_)
            refine pw_mmax (pc := 185) dX6_worthAt_185 lX6_98 (by first | first | omega | exact wr_ir _ | (simp only [n_g72_o_3]; omega)) (by first | first | omega | exact wr_ir _ | (simp only [n_g72_o_3]; omega)) (by decide) ⟨Nat.zero_le _, Nat.zero_le _⟩ (Nat.le_of_ble_eq_true rfl) (fun z185 r185 w185 => ?_)
            have vv : z185 = wv_ ro P r s t q := by rw [cl9_m w182 w185, hvy.1]; rfl
            refine pw_iast (pc := 188) dX6_worthAt_188 (hC _ (by omega)) (kd6_15 ho) 192 (ln6_15 ho) (by first | first | omega | exact wr_ir _ | (simp only [n_g72_o_3]; omega)) (by first | first | omega | exact wr_ir _ | (simp only [n_g72_o_3]; omega)) (by first | first | omega | exact wr_ir _ | (simp only [n_g72_o_3]; omega)) (by first | first | omega | exact wr_ir _ | (simp only [n_g72_o_3]; omega)) ?_
            obtain ⟨g188, e188⟩ : ∃ x, x = up_ hy (o + 15) ((((((t * 4) + r) * 4) + s) * 3) + q) z185 := ⟨_, rfl⟩
            refine pw_heq e188 ?_
            refine pw_less (lv1 := [some (rr_ G o), some (ii_ t), some (ii_ r), some (ii_ s), some (ii_ q), some (ii_ ((((((t * 4) + r) * 4) + s) * 3) + q)), none]) rfl (by intro i v; (match i with | 0 => simp | 1 => simp | 2 => simp | 3 => simp | 4 => simp | 5 => simp | 6 => simp | n + 7 => simp)) ?_
            exact J189 _ (by first | exact off_rf | (rw [e188]; exact off_up (off_mo hfy (by simp)) (by simp))) (by first | exact hm | exact CWM_up hm (by omega) (hfy _ (by simp)) e188 vv (by omega) (by omega) (by omega)) (by first | exact mm.resolve_left c41 | (rw [e188, up_same]; exact vv))
          refine pw_aload_n (z := o) (pc := 142) dX6_worthAt_142 rfl rfl ?_
          refine pw_callV (c := 6) (o := o) (As := []) (rest := []) (pc := 143) dX6_worthAt_143 (d_worthTold hC g120 o ho) lX6_134 mX6_worthTold vX6_worthTold (hC _ (by omega)) (kd6_0 ho) rfl rfl rfl (by decide) ⟨Nat.zero_le _, Nat.zero_le _⟩ (Nat.le_of_ble_eq_true rfl) (k_i (fun z143 h143 y143 q143 => ?_))
          obtain ⟨rfl, ⟨rfl, p143⟩ | ⟨rfl, p143⟩⟩ := q143
          · refine pw_if_eq (t := 170) (pc := 146) dX6_worthAt_146 (by decide) (by first | first | omega | exact wr_ir _ | (simp only [n_g72_o_3]; omega)) (fun c146 => absurd c146 (by decide)) (fun _ => ?_)
            have lw : CLA_ g120 o 4 P := CLA_cg (hl.2 (by by_cases c : 0 ≤ ro 5; exact c; (have := hl.1 (by omega); omega))) q9 q12 q13 q8
            have lw2 := lw.2.1
            refine pw_aload_n (z := o) (pc := 149) dX6_worthAt_149 rfl rfl ?_
            refine pw_getR (r := (o + 8)) (pc := 150) dX6_worthAt_150 fX6_37 (hC _ (by omega)) (kd6_0 ho) rfl rfl ?_
            refine pw_aload_n (z := o) (pc := 153) dX6_worthAt_153 rfl rfl ?_
            refine pw_getR (r := (o + 12)) (pc := 154) dX6_worthAt_154 fX6_41 (hC _ (by omega)) (kd6_0 ho) rfl rfl ?_
            refine pw_iconst (pc := 157) dX6_worthAt_157 ?_
            refine pw_iald (pc := 158) dX6_worthAt_158 (hC _ (by omega)) (kd6_12 ho) 5 (ln6_12 ho) (by first | first | omega | exact wr_ir _ | (simp only [n_g72_o_3]; omega)) (by first | first | omega | exact wr_ir _ | (simp only [n_g72_o_3]; omega)) (by first | first | omega | exact wr_ir _ | (simp only [n_g72_o_3]; omega)) (fun r158 => ?_)
            have n_g120_o_12 : g120 (o + 12) = h (o + 12) := (((((show g120 (o + 12) = g109 (o + 12) from (by rw [e120]; exact up_off (by first | decide | omega))).trans (show g109 (o + 12) = g87 (o + 12) from (by rw [e109]; exact up_off (by first | decide | omega)))).trans (show g87 (o + 12) = g72 (o + 12) from (by rw [e87]; exact up_off (by first | decide | omega)))).trans (show g72 (o + 12) = g58 (o + 12) from (by rw [e72]; exact up_off (by first | decide | omega)))).trans (show g58 (o + 12) = h (o + 12) from (by rw [e58]; exact up_off (by first | decide | omega))))
            rw [n_g120_o_12] at r158 ⊢
            refine pw_aload_n (z := o) (pc := 159) dX6_worthAt_159 rfl rfl ?_
            refine pw_getR (r := (o + 13)) (pc := 160) dX6_worthAt_160 fX6_44 (hC _ (by omega)) (kd6_0 ho) rfl rfl ?_
            refine pw_iconst (pc := 163) dX6_worthAt_163 ?_
            refine pw_iald (pc := 164) dX6_worthAt_164 (hC _ (by omega)) (kd6_13 ho) 5 (ln6_13 ho) (by first | first | omega | exact wr_ir _ | (simp only [n_g120_o_12, n_g72_o_3]; omega)) (by first | first | omega | exact wr_ir _ | (simp only [n_g120_o_12, n_g72_o_3]; omega)) (by first | first | omega | exact wr_ir _ | (simp only [n_g120_o_12, n_g72_o_3]; omega)) (fun r164 => ?_)
            have n_g120_o_13 : g120 (o + 13) = h (o + 13) := (((((show g120 (o + 13) = g109 (o + 13) from (by rw [e120]; exact up_off (by first | decide | omega))).trans (show g109 (o + 13) = g87 (o + 13) from (by rw [e109]; exact up_off (by first | decide | omega)))).trans (show g87 (o + 13) = g72 (o + 13) from (by rw [e87]; exact up_off (by first | decide | omega)))).trans (show g72 (o + 13) = g58 (o + 13) from (by rw [e72]; exact up_off (by first | decide | omega)))).trans (show g58 (o + 13) = h (o + 13) from (by rw [e58]; exact up_off (by first | decide | omega))))
            rw [n_g120_o_13] at r164 ⊢
            refine pw_callV (c := 2) (o := (o + 8)) (As := [ii_ (h (o + 12) 4), ii_ (h (o + 13) 4)]) (rest := []) (pc := 165) dX6_worthAt_165 (d_workOut hC g120 o ho (h (o + 12) 4) (h (o + 13) 4) P (by rw [← q124]; exact lw.1) (by first | first | omega | exact wr_ir _ | (simp only [n_g120_o_12, n_g120_o_13, n_g72_o_3]; omega)) lw.2.2.1 lw.2.2.2) lX6_138 mX2_workOut vX2_workOut (hC _ (by omega)) (kd6_8 ho) rfl rfl rfl (by decide) ⟨Nat.zero_le _, Nat.zero_le _⟩ (Nat.le_of_ble_eq_true rfl) (k_i (fun z165 h165 y165 q165 => ?_))
            obtain ⟨f165, w165⟩ := q165
            refine pw_istore (lv1 := [some (rr_ G o), some (ii_ t), some (ii_ r), some (ii_ s), some (ii_ q), some (ii_ ((((((t * 4) + r) * 4) + s) * 3) + q)), some (ii_ z165)]) (pc := 168) dX6_worthAt_168 (by decide) rfl rfl ?_
            exact J170 _ _ (by first | (rw [if_neg (by intro u; have := hl.1 u; omega)]; refine ⟨?_, by omega⟩; rw [w165]; unfold ew_; rw [evl_cd fq lw.1]) | (rw [if_pos (by by_cases c : ro 5 < 0; exact c; (have lz := hl.2 (by omega); have lz1 := dpt_l lz.2.2.1; have lz2 := lz.2.1; omega)), f0, f1, w0, w1]; exact ⟨rfl, wr_ir _⟩)) (by first | exact off_tr nf (off_mo f165 (by simp)) | exact nf)
          · refine pw_if_eq (t := 170) (pc := 146) dX6_worthAt_146 (by decide) (by first | first | omega | exact wr_ir _ | (simp only [n_g72_o_3]; omega)) (fun _ => ?_) (fun c146 => absurd c146 (by decide))
            exact J170 _ _ (by first | (rw [if_neg (by intro u; have := hl.1 u; omega)]; refine ⟨?_, by omega⟩; rw [w165]; unfold ew_; rw [evl_cd fq lw.1]) | (rw [if_pos (by by_cases c : ro 5 < 0; exact c; (have lz := hl.2 (by omega); have lz1 := dpt_l lz.2.2.1; have lz2 := lz.2.1; omega)), f0, f1, w0, w1]; exact ⟨rfl, wr_ir _⟩)) (by first | exact off_tr nf (off_mo f165 (by simp)) | exact nf)
        refine pw_callV (c := 6) (o := o) (As := [ii_ s]) (rest := [ii_ 3, rr_ G (o + 11)]) (pc := 98) dX6_worthAt_98 (d_isEnd hC g87 o ho s (by first | first | omega | exact wr_ir _ | (simp only [n_g72_o_3]; omega)) (by first | first | omega | exact wr_ir _ | (simp only [n_g72_o_3]; omega))) lX6_101 mX6_isEnd vX6_isEnd (hC _ (by omega)) (kd6_0 ho) rfl rfl rfl (by decide) ⟨Nat.zero_le _, Nat.zero_le _⟩ (Nat.le_of_ble_eq_true rfl) (k_i (fun z98 h98 y98 q98 => ?_))
        obtain ⟨rfl, ⟨rfl, p98⟩ | ⟨rfl, p98⟩⟩ := q98
        · refine pw_if_eq (t := 108) (pc := 101) dX6_worthAt_101 (by decide) (by first | first | omega | exact wr_ir _ | (simp only [n_g72_o_3]; omega)) (fun c101 => absurd c101 (by decide)) (fun _ => ?_)
          refine pw_iconst (pc := 104) dX6_worthAt_104 ?_
          refine pw_goto (t := 109) (pc := 105) dX6_worthAt_105 (by decide) ?_
          exact J109 _ (by first | rw [if_pos (by omega)] | rw [if_neg (by omega)])
        · refine pw_if_eq (t := 108) (pc := 101) dX6_worthAt_101 (by decide) (by first | first | omega | exact wr_ir _ | (simp only [n_g72_o_3]; omega)) (fun _ => ?_) (fun c101 => absurd c101 (by decide))
          refine pw_iconst (pc := 108) dX6_worthAt_108 ?_
          exact J109 _ (by first | rw [if_pos (by omega)] | rw [if_neg (by omega)])
    · exfalso; omega

