theorem CLP_cg {ro : Int → Int} {P : List (Int × Int)} {h h' : PH_} {o : Nat} (H : CLP_ ro P h o) (e1 : h' (o + 9) = h (o + 9)) (e2 : h' (o + 12) = h (o + 12)) (e3 : h' (o + 13) = h (o + 13)) (e4 : h' (o + 8) = h (o + 8)) : CLP_ ro P h' o :=
  ⟨fun u => by rw [e2, e3]; exact H.1 u, fun u => CLA_cg (H.2 u) e1 e2 e3 e4⟩
/-- a rider's total when a stretch is driven -/
noncomputable def gon_ (ro : Int → Int) (P : List (Int × Int)) (se ah to : Int → Int) (t r : Int) : Int := to r + wsi_ ro P se r t - (if 0 < t ∧ se r ≠ ah r then ro 4 else 0)

set_option maxHeartbeats 4000000 in
set_option maxRecDepth 100000 in
theorem d_go {G : GT_} (hC : okC_ G) (h : PH_) (s : Nat) (ho_s : is7_ s) (o : Nat) (ho : is6_ o) (ro : Int → Int) (H : CRD_ ro h o) (P : List (Int × Int)) (hl : CLP_ ro P h o) (hm : CWM_ ro P h o) (ha : alw_ ro (h (s + 1))) (ht : 0 ≤ h s 3 ∧ h s 3 < ro 1) (hb : ∀ r, 0 ≤ r → r < ro 2 → -1000000 ≤ h (s + 3) r ∧ h (s + 3) r ≤ 1000000) : PC G yX7_go cX7_go 3 none 5 [rr_ G s, rr_ G o] h (qv_ (fun h' => off_ [s, s + 2, s + 3, o + 10, o + 11, o + 15] h h' ∧ CWM_ ro P h' o ∧ h' s 3 = h s 3 + 1 ∧ (∀ r, 0 ≤ r → r < 4 → h' (s + 2) r = h (s + 1) r) ∧ (∀ r, 0 ≤ r → r < ro 2 → h' (s + 3) r = gon_ ro P (h (s + 1)) (h (s + 2)) (h (s + 3)) (h s 3) r))) := by
  have HB := H.2.1
  have HA := H.1
  have hi := sea_inj ha.1
  refine PC.of (lv := [some (rr_ G s), some (rr_ G o), none]) (by decide +kernel) (Nat.le_of_ble_eq_true rfl) rfl rfl ?_
  refine pw_iconst (pc := 0) dX7_go_0 ?_
  refine pw_istore_n (lv1 := [some (rr_ G s), some (rr_ G o), some (ii_ 0)]) (pc := 1) dX7_go_1 rfl (by decide) rfl rfl ?_
  have L2 : ∀ (nn : Nat) (r : Int) (hq : PH_), (0 ≤ r ∧ r ≤ ro 2) → (off_ [s + 3, o + 10, o + 11, o + 15] h hq) → (CWM_ ro P hq o) → (∀ e, 0 ≤ e → e < r → hq (s + 3) e = gon_ ro P (h (s + 1)) (h (s + 2)) (h (s + 3)) (h s 3) e) → (∀ e, r ≤ e → e < ro 2 → hq (s + 3) e = h (s + 3) e) → ((ro 2 - r + 1 : Int) ≤ nn) → PW G RX7 cX7_go 3 none (rm_ 5) 0 0 (zm_ G (qv_ (fun h' => off_ [s, s + 2, s + 3, o + 10, o + 11, o + 15] h h' ∧ CWM_ ro P h' o ∧ h' s 3 = h s 3 + 1 ∧ (∀ r, 0 ≤ r → r < 4 → h' (s + 2) r = h (s + 1) r) ∧ (∀ r, 0 ≤ r → r < ro 2 → h' (s + 3) r = gon_ ro P (h (s + 1)) (h (s + 2)) (h (s + 3)) (h s 3) r)))) 2 [some (rr_ G s), some (rr_ G o), some (ii_ r)] [] hq := by
    intro nn
    induction nn with
    | zero => intro r hq ak af am at1 at2 ams; exfalso; omega
    | succ nn ih2 =>
      intro r hq ak af am at1 at2 ams
      refine pw_iload_n (z := r) (pc := 2) dX7_go_2 rfl rfl ?_
      refine pw_aload_n (z := o) (pc := 3) dX7_go_3 rfl rfl ?_
      refine pw_gI (x := 2) (pc := 4) dX7_go_4 fX7_42 (hC _ (by omega)) (kd6_0 ho) rfl rfl (fun r4 => ?_)
      have n_hq_o_2 : hq o 2 = h o 2 := (congrFun (af o (by first | decide | (simp; done) | (simp; omega))) 2)
      rw [n_hq_o_2] at r4 ⊢
      refine pw_icmp_ge (t := 73) (pc := 7) dX7_go_7 (by decide) (by first | omega | (simp only [n_hq_o_2]; omega)) (by first | omega | (simp only [n_hq_o_2]; omega)) (fun c7 => ?_) (fun c7 => ?_)
      · refine pw_aload_n (z := s) (pc := 73) dX7_go_73 rfl rfl ?_
        refine pw_getR (r := (s + 1)) (pc := 74) dX7_go_74 fX7_9 (hC _ (by omega)) (kd7_0 ho_s) rfl rfl ?_
        refine pw_iconst (pc := 77) dX7_go_77 ?_
        refine pw_aload_n (z := s) (pc := 78) dX7_go_78 rfl rfl ?_
        refine pw_getR (r := (s + 2)) (pc := 79) dX7_go_79 fX7_15 (hC _ (by omega)) (kd7_0 ho_s) rfl rfl ?_
        refine pw_iconst (pc := 82) dX7_go_82 ?_
        refine pw_iconst (pc := 83) dX7_go_83 ?_
        refine pw_copy (n0 := 4) (n1 := 4) (pc := 84) dX7_go_84 lX7_32 (hC _ (by omega)) (hC _ (by omega)) (kd7_1 ho_s) (kd7_2 ho_s) (ln7_1 ho_s) (ln7_2 ho_s) (by first | omega | (simp only [n_hq_o_2]; omega)) (by first | omega | (simp only [n_hq_o_2]; omega)) (by first | omega | (simp only [n_hq_o_2]; omega)) (by decide) (by decide) (Nat.le_of_ble_eq_true rfl) ?_
        obtain ⟨g84, e84⟩ : ∃ x, x = sc_ hq (s + 2) (fun x => if 0 ≤ x ∧ x < 0 + 4 then hq (s + 1) (x - 0 + 0) else hq (s + 2) x) := ⟨_, rfl⟩
        refine pw_heq e84 ?_
        have f84 : off_ [(s + 2)] hq g84 := fun j hj => by rw [e84]; exact sc_off (by simpa using hj)
        refine pw_aload_n (z := s) (pc := 87) dX7_go_87 rfl rfl ?_
        refine pw_dup (pc := 88) dX7_go_88 rfl ?_
        refine pw_gI (x := 3) (pc := 89) dX7_go_89 fX7_38 (hC _ (by omega)) (kd7_0 ho_s) rfl rfl (fun r89 => ?_)
        have n_g84_s_3 : g84 s 3 = h s 3 := ((show g84 s 3 = hq s 3 from (congrFun (f84 s (by first | decide | (simp; done) | (simp; omega))) 3)).trans (show hq s 3 = h s 3 from (congrFun (af s (by first | decide | (simp; done) | (simp; omega))) 3)))
        rw [n_g84_s_3] at r89 ⊢
        refine pw_iconst (pc := 92) dX7_go_92 ?_
        refine pw_iadd (pc := 93) dX7_go_93 ?_
        refine pw_pI (x := 3) (pc := 94) dX7_go_94 fX7_38 (hC _ (by omega)) (kd7_0 ho_s) rfl rfl (by first | omega | (simp only [n_g84_s_3, n_hq_o_2]; omega)) ?_
        obtain ⟨g94, e94⟩ : ∃ x, x = up_ g84 s 3 ((h s 3) + 1) := ⟨_, rfl⟩
        refine pw_heq e94 ?_
        exact pw_vret (pc := 97) dX7_go_97 (⟨fun j hj => by
              simp at hj
              rw [e94, up_off hj.1, e84, sc_off (by omega)]
              exact af j (by simp; omega), by have := am; unfold CWM_ at *; rw [e94, up_off (by omega), e84, sc_off (by omega)]; exact this, by rw [e94, up_same], fun e u1 u2 => by
              rw [e94, up_off (by omega), e84, sc_at]
              show (if _ then _ else _) = _
              rw [if_pos (by omega), show e - 0 + 0 = e by omega, af (s + 1) (by simp; omega)], fun e u1 u2 => by
              rw [e94, up_off (by omega), e84, sc_off (by omega)]; exact at1 e u1 (by omega)⟩)
      · have ha2 := (sea_at ha.1 (r := r) (by omega) (by omega)).1
        have hb2 := hb r (by omega) (by omega)
        have tq := at2 r (by omega) (by omega)
        have q1 : hq (s + 1) = h (s + 1) := af _ (by simp; omega)
        have Hq : CRD_ ro hq o := CRD_cg H (fun k _ => congrFun (af _ (by simp; omega)) k) (af _ (by simp; omega)) (af _ (by simp; omega)) (af _ (by simp; omega)) (af _ (by simp; omega)) (af _ (by simp; omega)) (af _ (by simp; omega))
        have lq : CLP_ ro P hq o := CLP_cg hl (af _ (by simp; omega)) (af _ (by simp; omega)) (af _ (by simp; omega)) (af _ (by simp; omega))
        have wb := wsi_b ro P (h (s + 1)) r (h s 3)
        refine pw_aload_n (z := s) (pc := 10) dX7_go_10 rfl rfl ?_
        refine pw_getR (r := (s + 3)) (pc := 11) dX7_go_11 fX7_18 (hC _ (by omega)) (kd7_0 ho_s) rfl rfl ?_
        refine pw_iload_n (z := r) (pc := 14) dX7_go_14 rfl rfl ?_
        refine pw_dup2 (pc := 15) dX7_go_15 rfl rfl ?_
        refine pw_iald (pc := 16) dX7_go_16 (hC _ (by omega)) (kd7_3 ho_s) 4 (ln7_3 ho_s) (by first | omega | (simp only [n_hq_o_2]; omega)) (by first | omega | (simp only [n_hq_o_2]; omega)) (by first | omega | (simp only [n_hq_o_2]; omega)) (fun r16 => ?_)
        refine pw_aload_n (z := o) (pc := 17) dX7_go_17 rfl rfl ?_
        refine pw_aload_n (z := s) (pc := 18) dX7_go_18 rfl rfl ?_
        refine pw_getR (r := (s + 1)) (pc := 19) dX7_go_19 fX7_9 (hC _ (by omega)) (kd7_0 ho_s) rfl rfl ?_
        refine pw_iload_n (z := r) (pc := 22) dX7_go_22 rfl rfl ?_
        refine pw_aload_n (z := s) (pc := 23) dX7_go_23 rfl rfl ?_
        refine pw_gI (x := 3) (pc := 24) dX7_go_24 fX7_38 (hC _ (by omega)) (kd7_0 ho_s) rfl rfl (fun r24 => ?_)
        have n_hq_s_3 : hq s 3 = h s 3 := (congrFun (af s (by first | decide | (simp; done) | (simp; omega))) 3)
        rw [n_hq_s_3] at r24 ⊢
        refine pw_callV (c := 6) (o := o) (As := [rr_ G (s + 1), ii_ r, ii_ (h s 3)]) (rest := [ii_ (hq (s + 3) r), ii_ r, rr_ G (s + 3)]) (pc := 27) dX7_go_27 (d_worthOf hC hq o ho ro Hq P lq am (s + 1) (kd7_1 ho_s) (ln7_1 ho_s) (by first | omega | (simp only [n_hq_o_2, n_hq_s_3]; omega)) (fun e u1 u2 => by rw [q1]; have := (sea_at ha.1 (r := e) u1 (by first | omega | (simp only [n_hq_o_2, n_hq_s_3]; omega))).1; omega) (by rw [q1]; exact hi) r (h s 3) (by first | omega | (simp only [n_hq_o_2, n_hq_s_3]; omega)) (by first | omega | (simp only [n_hq_o_2, n_hq_s_3]; omega)) (by rw [q1]; omega)) lX7_56 mX6_worthOf vX6_worthOf (hC _ (by omega)) (kd6_0 ho) rfl rfl rfl (by decide) ⟨Nat.zero_le _, Nat.zero_le _⟩ (Nat.le_of_ble_eq_true rfl) (k_i (fun z27 h27 y27 q27 => ?_))
        obtain ⟨u27, v27, w27⟩ := q27
        rw [q1] at w27
        refine pw_iadd (pc := 30) dX7_go_30 ?_
        refine pw_iast (pc := 31) dX7_go_31 (hC _ (by omega)) (kd7_3 ho_s) 4 (ln7_3 ho_s) (by first | omega | (simp only [n_hq_o_2, n_hq_s_3]; omega)) (by first | omega | (simp only [n_hq_o_2, n_hq_s_3]; omega)) (by first | omega | (simp only [n_hq_o_2, n_hq_s_3]; omega)) (by first | omega | (simp only [n_hq_o_2, n_hq_s_3]; omega)) ?_
        obtain ⟨g31, e31⟩ : ∃ x, x = up_ h27 (s + 3) r ((hq (s + 3) r) + z27) := ⟨_, rfl⟩
        refine pw_heq e31 ?_
        have v31 : g31 (s + 3) r = h (s + 3) r + wsi_ ro P (h (s + 1)) r (h s 3) := by rw [e31, up_same, tq, w27]
        have o31 : ∀ e, e ≠ r → g31 (s + 3) e = hq (s + 3) e := fun e he => by rw [e31, up_at, if_neg he, u27 _ (by simp; omega)]
        have f31 : off_ [s + 3, o + 10, o + 11, o + 15] h g31 := by rw [e31]; exact off_up (off_tr af (off_mo u27 (by simp))) (by simp)
        have m31 : CWM_ ro P g31 o := by have := v27; unfold CWM_ at *; rw [e31, up_off (by omega)]; exact this
        have f4 := HB.2.2.2
        have h5 := HA.2.2.2.2
        have J67 : ∀ (hz : PH_), (off_ [s + 3, o + 10, o + 11, o + 15] h hz) → (CWM_ ro P hz o) → (hz (s + 3) r = gon_ ro P (h (s + 1)) (h (s + 2)) (h (s + 3)) (h s 3) r) → (∀ e, e ≠ r → hz (s + 3) e = hq (s + 3) e) → PW G RX7 cX7_go 3 none (rm_ 5) 0 0 (zm_ G (qv_ (fun h' => off_ [s, s + 2, s + 3, o + 10, o + 11, o + 15] h h' ∧ CWM_ ro P h' o ∧ h' s 3 = h s 3 + 1 ∧ (∀ r, 0 ≤ r → r < 4 → h' (s + 2) r = h (s + 1) r) ∧ (∀ r, 0 ≤ r → r < ro 2 → h' (s + 3) r = gon_ ro P (h (s + 1)) (h (s + 2)) (h (s + 3)) (h s 3) r)))) 67 [some (rr_ G s), some (rr_ G o), some (ii_ r)] [] hz := by
          intro hz bf bm bv bo
          refine pw_iinc (z := r) (lv1 := [some (rr_ G s), some (rr_ G o), some (ii_ (r + 1))]) (pc := 67) dX7_go_67 rfl (by decide) rfl rfl ?_
          refine pw_goto (t := 2) (pc := 70) dX7_go_70 (by decide) ?_
          exact ih2 _ _ (by omega) (bf) (bm) (fun e u1 u2 => by by_cases c : e = r; (rw [c]; exact bv); (rw [bo e c]; exact at1 e u1 (by omega))) (fun e u1 u2 => by rw [bo e (by omega)]; exact at2 e (by omega) u2) (by omega)
        refine pw_aload_n (z := s) (pc := 32) dX7_go_32 rfl rfl ?_
        refine pw_gI (x := 3) (pc := 33) dX7_go_33 fX7_38 (hC _ (by omega)) (kd7_0 ho_s) rfl rfl (fun r33 => ?_)
        have n_g31_s_3 : g31 s 3 = h s 3 := (((show g31 s 3 = h27 s 3 from (by rw [e31, up_off (by first | decide | omega)])).trans (show h27 s 3 = hq s 3 from (congrFun (u27 s (by first | decide | (simp; done) | (simp; omega))) 3))).trans (show hq s 3 = h s 3 from (congrFun (af s (by first | decide | (simp; done) | (simp; omega))) 3)))
        rw [n_g31_s_3] at r33 ⊢
        refine pw_if_le (t := 67) (pc := 36) dX7_go_36 (by decide) (by first | omega | (simp only [n_g31_s_3, n_hq_o_2, n_hq_s_3]; omega)) (fun c36 => ?_) (fun c36 => ?_)
        · exact J67 _ (by first | exact f31 | (rw [e66]; exact off_up f31 (by simp))) (by first | exact m31 | (have := m31; unfold CWM_ at *; rw [e66, up_off (by omega)]; exact this)) (by unfold gon_; first | (rw [v31, if_neg (by omega)]; omega) | (rw [e66, up_same, v31, if_pos (by omega), h5])) (by first | exact o31 | (intro e he; rw [e66, up_at, if_neg he]; exact o31 e he))
        · refine pw_aload_n (z := s) (pc := 39) dX7_go_39 rfl rfl ?_
          refine pw_getR (r := (s + 1)) (pc := 40) dX7_go_40 fX7_9 (hC _ (by omega)) (kd7_0 ho_s) rfl rfl ?_
          refine pw_iload_n (z := r) (pc := 43) dX7_go_43 rfl rfl ?_
          refine pw_iald (pc := 44) dX7_go_44 (hC _ (by omega)) (kd7_1 ho_s) 4 (ln7_1 ho_s) (by first | omega | (simp only [n_g31_s_3, n_hq_o_2, n_hq_s_3]; omega)) (by first | omega | (simp only [n_g31_s_3, n_hq_o_2, n_hq_s_3]; omega)) (by first | omega | (simp only [n_g31_s_3, n_hq_o_2, n_hq_s_3]; omega)) (fun r44 => ?_)
          have n_g31_s_1 : g31 (s + 1) = h (s + 1) := (((show g31 (s + 1) = h27 (s + 1) from (by rw [e31]; exact up_off (by first | decide | omega))).trans (show h27 (s + 1) = hq (s + 1) from (u27 (s + 1) (by first | decide | (simp; done) | (simp; omega))))).trans (show hq (s + 1) = h (s + 1) from (af (s + 1) (by first | decide | (simp; done) | (simp; omega)))))
          rw [n_g31_s_1] at r44 ⊢
          refine pw_aload_n (z := s) (pc := 45) dX7_go_45 rfl rfl ?_
          refine pw_getR (r := (s + 2)) (pc := 46) dX7_go_46 fX7_15 (hC _ (by omega)) (kd7_0 ho_s) rfl rfl ?_
          refine pw_iload_n (z := r) (pc := 49) dX7_go_49 rfl rfl ?_
          refine pw_iald (pc := 50) dX7_go_50 (hC _ (by omega)) (kd7_2 ho_s) 4 (ln7_2 ho_s) (by first | omega | (simp only [n_g31_s_1, n_g31_s_3, n_hq_o_2, n_hq_s_3]; omega)) (by first | omega | (simp only [n_g31_s_1, n_g31_s_3, n_hq_o_2, n_hq_s_3]; omega)) (by first | omega | (simp only [n_g31_s_1, n_g31_s_3, n_hq_o_2, n_hq_s_3]; omega)) (fun r50 => ?_)
          have n_g31_s_2 : g31 (s + 2) = h (s + 2) := (((show g31 (s + 2) = h27 (s + 2) from (by rw [e31]; exact up_off (by first | decide | omega))).trans (show h27 (s + 2) = hq (s + 2) from (u27 (s + 2) (by first | decide | (simp; done) | (simp; omega))))).trans (show hq (s + 2) = h (s + 2) from (af (s + 2) (by first | decide | (simp; done) | (simp; omega)))))
          rw [n_g31_s_2] at r50 ⊢
          refine pw_icmp_eq (t := 67) (pc := 51) dX7_go_51 (by decide) (by first | omega | (simp only [n_g31_s_1, n_g31_s_2, n_g31_s_3, n_hq_o_2, n_hq_s_3]; omega)) (by first | omega | (simp only [n_g31_s_1, n_g31_s_2, n_g31_s_3, n_hq_o_2, n_hq_s_3]; omega)) (fun c51 => ?_) (fun c51 => ?_)
          · exact J67 _ (by first | exact f31 | (rw [e66]; exact off_up f31 (by simp))) (by first | exact m31 | (have := m31; unfold CWM_ at *; rw [e66, up_off (by omega)]; exact this)) (by unfold gon_; first | (rw [v31, if_neg (by omega)]; omega) | (rw [e66, up_same, v31, if_pos (by omega), h5])) (by first | exact o31 | (intro e he; rw [e66, up_at, if_neg he]; exact o31 e he))
          · refine pw_aload_n (z := s) (pc := 54) dX7_go_54 rfl rfl ?_
            refine pw_getR (r := (s + 3)) (pc := 55) dX7_go_55 fX7_18 (hC _ (by omega)) (kd7_0 ho_s) rfl rfl ?_
            refine pw_iload_n (z := r) (pc := 58) dX7_go_58 rfl rfl ?_
            refine pw_dup2 (pc := 59) dX7_go_59 rfl rfl ?_
            refine pw_iald (pc := 60) dX7_go_60 (hC _ (by omega)) (kd7_3 ho_s) 4 (ln7_3 ho_s) (by first | omega | (simp only [n_g31_s_1, n_g31_s_2, n_g31_s_3, n_hq_o_2, n_hq_s_3]; omega)) (by first | omega | (simp only [n_g31_s_1, n_g31_s_2, n_g31_s_3, n_hq_o_2, n_hq_s_3]; omega)) (by first | omega | (simp only [n_g31_s_1, n_g31_s_2, n_g31_s_3, n_hq_o_2, n_hq_s_3]; omega)) (fun r60 => ?_)
            refine pw_aload_n (z := o) (pc := 61) dX7_go_61 rfl rfl ?_
            refine pw_gI (x := 5) (pc := 62) dX7_go_62 fX7_60 (hC _ (by omega)) (kd6_0 ho) rfl rfl (fun r62 => ?_)
            have n_g31_o_5 : g31 o 5 = h o 5 := (((show g31 o 5 = h27 o 5 from (by rw [e31, up_off (by first | decide | omega)])).trans (show h27 o 5 = hq o 5 from (congrFun (u27 o (by first | decide | (simp; done) | (simp; omega))) 5))).trans (show hq o 5 = h o 5 from (congrFun (af o (by first | decide | (simp; done) | (simp; omega))) 5)))
            rw [n_g31_o_5] at r62 ⊢
            refine pw_isub (pc := 65) dX7_go_65 ?_
            refine pw_iast (pc := 66) dX7_go_66 (hC _ (by omega)) (kd7_3 ho_s) 4 (ln7_3 ho_s) (by first | omega | (simp only [n_g31_o_5, n_g31_s_1, n_g31_s_2, n_g31_s_3, n_hq_o_2, n_hq_s_3]; omega)) (by first | omega | (simp only [n_g31_o_5, n_g31_s_1, n_g31_s_2, n_g31_s_3, n_hq_o_2, n_hq_s_3]; omega)) (by first | omega | (simp only [n_g31_o_5, n_g31_s_1, n_g31_s_2, n_g31_s_3, n_hq_o_2, n_hq_s_3]; omega)) (by first | omega | (simp only [n_g31_o_5, n_g31_s_1, n_g31_s_2, n_g31_s_3, n_hq_o_2, n_hq_s_3]; omega)) ?_
            obtain ⟨g66, e66⟩ : ∃ x, x = up_ g31 (s + 3) r ((g31 (s + 3) r) - (h o 5)) := ⟨_, rfl⟩
            refine pw_heq e66 ?_
            exact J67 _ (by first | exact f31 | (rw [e66]; exact off_up f31 (by simp))) (by first | exact m31 | (have := m31; unfold CWM_ at *; rw [e66, up_off (by omega)]; exact this)) (by unfold gon_; first | (rw [v31, if_neg (by omega)]; omega) | (rw [e66, up_same, v31, if_pos (by omega), h5])) (by first | exact o31 | (intro e he; rw [e66, up_at, if_neg he]; exact o31 e he))
  exact L2 _ _ _ (by omega) (off_rf) (hm) (fun e _ _ => by omega) (fun e _ _ => rfl) (Int.self_le_toNat _)

