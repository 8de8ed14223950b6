set_option maxHeartbeats 4000000 in
set_option maxRecDepth 100000 in
theorem d_settle {G : GT_} (hC : okC_ G) (h : PH_) (o : Nat) (ho : is6_ o) (ro : Int → Int) (H : CRD_ ro h o) (P : List (Int × Int)) (hl : CLP_ ro P h o) (hm : CWM_ ro P h o) (t : Int) (h1 : 0 ≤ t ∧ t < ro 1) (hrs : ro 2 = ro 0) : PC G yX9_settle cX9_settle 4 none 5 [rr_ G 166, rr_ G o, ii_ t] h (qv_ (fun h' => off_ [166, 167, 168, 169, o + 10, o + 11, o + 15] h h' ∧ CWM_ ro P h' o ∧ h' 166 3 = (tbp_ (ro 0) (ro 2) (fun r s => wv_ ro P r s t 0) 256).1 ∧ (∀ x, 0 ≤ x → x < ro 0 → h' 169 x = tx3_ (fun r s => wv_ ro P r s t 0) (dg_ (ro 2) (tbp_ (ro 0) (ro 2) (fun r s => wv_ ro P r s t 0) 256).1) (ro 0).toNat (ro 2).toNat 8 (fun _ => 0) x ∧ ir_ (h' 169 x)))) := by
  have HB := H.2.1
  have HA := H.1
  have hW : ∀ r s, 0 ≤ wv_ ro P r s t 0 ∧ wv_ ro P r s t 0 ≤ 999 := fun r s => wv_b _ _ _ _ _ _
  have b256 := tbp_256 (S := ro 0) (R := ro 2) (W := (fun r s => wv_ ro P r s t 0)) (by omega) (by omega)
  obtain ⟨q, hq⟩ : ∃ q, q = (tbp_ (ro 0) (ro 2) (fun r s => wv_ ro P r s t 0) 256).1 := ⟨_, rfl⟩
  have q0 : (0 ≤ q ∧ q < 256) ∧ vp_ok (ro 0) (ro 2) q ∧ ∀ z : Nat, z < 256 → vp_ok (ro 0) (ro 2) z → tsm_ (fun r s => wv_ ro P r s t 0) (ro 2) z (ro 2).toNat ≤ tsm_ (fun r s => wv_ ro P r s t 0) (ro 2) q (ro 2).toNat := by
    obtain ⟨z, z1, z2⟩ := vp_id (S := ro 0) (by omega)
    rcases tbp_b (S := ro 0) (R := ro 2) (W := (fun r s => wv_ ro P r s t 0)) (by omega) hW 256 with u | u
    · exact absurd (by rw [hrs]; exact z2) (u.2 z z1)
    · rw [← hq] at u
      exact ⟨u.1, u.2.2.1, fun z z1 z2 => by rw [← u.2.2.2.1]; exact u.2.2.2.2 z z1 z2⟩
  have hsd : ∀ r, 0 ≤ r → r < ro 2 → 0 ≤ dg_ (ro 2) q r ∧ dg_ (ro 2) q r < ro 0 := fun r r0 r1 => ⟨(dg_b _ _ _).1, vp_dg q0.2.1 ⟨r0, r1⟩⟩
  refine PC.of (lv := [some (rr_ G 166), some (rr_ G o), some (ii_ t), none]) (by decide +kernel) (Nat.le_of_ble_eq_true rfl) rfl rfl ?_
  refine pw_aload_n (z := 166) (pc := 0) dX9_settle_0 rfl rfl ?_
  refine pw_aload_n (z := o) (pc := 1) dX9_settle_1 rfl rfl ?_
  refine pw_iload_n (z := t) (pc := 2) dX9_settle_2 rfl rfl ?_
  refine pw_callV (c := 9) (o := 166) (As := [rr_ G o, ii_ t]) (rest := []) (pc := 3) dX9_settle_3 (d_findPlan hC h o ho ro H P hl hm t h1) lX9_21 mX9_findPlan vX9_findPlan (hC 166 (by decide)) (show kd_ 166 = 19 by decide +kernel) rfl rfl rfl (by decide) ⟨Nat.zero_le _, Nat.zero_le _⟩ (Nat.le_of_ble_eq_true rfl) (k_v (fun h3 q3 => ?_))
  obtain ⟨u3, v3, w3⟩ := q3
  obtain ⟨w3a, w3b⟩ := w3 q (by rw [b256]; exact hq) q0.1.1
  refine pw_aload_n (z := 166) (pc := 6) dX9_settle_6 rfl rfl ?_
  refine pw_getR (r := 169) (pc := 7) dX9_settle_7 fX9_18 (hC 166 (by decide)) (show kd_ 166 = 19 by decide +kernel) rfl (by decide +kernel) ?_
  refine pw_iconst (pc := 10) dX9_settle_10 ?_
  refine pw_callS (As := [rr_ G 169, ii_ 0]) (rest := []) (pc := 11) dX9_settle_11 (j_fill hC h3 169 4 0 (by first | omega) (show kd_ 169 = 0 by decide +kernel) (by decide +kernel) (by omega) (by decide)) lX9_25 mJ7_fill_53178 sJ7_fill_53178 rfl rfl (by decide) ⟨Nat.zero_le _, Nat.zero_le _⟩ (Nat.le_of_ble_eq_true rfl) (k_v (fun h11 e11 => ?_))
  have f11 : off_ [169] h3 h11 := fun j hj => by rw [e11]; exact sc_off (by simpa using hj)
  refine pw_iconst (pc := 14) dX9_settle_14 ?_
  refine pw_istore_n (lv1 := [some (rr_ G 166), some (rr_ G o), some (ii_ t), some (ii_ 0)]) (pc := 15) dX9_settle_15 rfl (by decide) rfl rfl ?_
  have L16 : ∀ (nn : Nat) (k : Int) (hq1 : PH_), (0 ≤ k ∧ k ≤ ro 0) → (off_ [166, 167, 168, 169, o + 10, o + 11, o + 15] h hq1) → (CWM_ ro P hq1 o) → (hq1 168 = h3 168 ∧ hq1 166 = h3 166) → (∀ x, 0 ≤ x → x < 4 → 0 ≤ hq1 169 x ∧ hq1 169 x ≤ 15984 * k) → (∀ x, 0 ≤ x → x < ro 0 → hq1 169 x = tx3_ (fun r s => wv_ ro P r s t 0) (dg_ (ro 2) q) (ro 0).toNat (ro 2).toNat k.toNat (fun _ => 0) x) → ((ro 0 - k + 1 : Int) ≤ nn) → PW G RX9 cX9_settle 4 none (rm_ 5) 0 0 (zm_ G (qv_ (fun h' => off_ [166, 167, 168, 169, o + 10, o + 11, o + 15] h h' ∧ CWM_ ro P h' o ∧ h' 166 3 = (tbp_ (ro 0) (ro 2) (fun r s => wv_ ro P r s t 0) 256).1 ∧ (∀ x, 0 ≤ x → x < ro 0 → h' 169 x = tx3_ (fun r s => wv_ ro P r s t 0) (dg_ (ro 2) (tbp_ (ro 0) (ro 2) (fun r s => wv_ ro P r s t 0) 256).1) (ro 0).toNat (ro 2).toNat 8 (fun _ => 0) x ∧ ir_ (h' 169 x))))) 16 [some (rr_ G 166), some (rr_ G o), some (ii_ t), some (ii_ k)] [] hq1 := by
    intro nn
    induction nn with
    | zero => intro k hq1 ak af am ah ap ax ams; exfalso; omega
    | succ nn ih16 =>
      intro k hq1 ak af am ah ap ax ams
      have Hq : CRD_ ro hq1 o := CRD_cg H (fun k _ => congrFun (af _ (by simp; omega)) k) (af _ (by simp; omega)) (af _ (by simp; omega)) (af _ (by simp; omega)) (af _ (by simp; omega)) (af _ (by simp; omega)) (af _ (by simp; omega))
      have lq : CLP_ ro P hq1 o := CLP_cg hl (af _ (by simp; omega)) (af _ (by simp; omega)) (af _ (by simp; omega)) (af _ (by simp; omega))
      refine pw_iload_n (z := k) (pc := 16) dX9_settle_16 rfl rfl ?_
      refine pw_aload_n (z := o) (pc := 17) dX9_settle_17 rfl rfl ?_
      refine pw_gI (x := 0) (pc := 18) dX9_settle_18 fX9_31 (hC _ (by omega)) (kd6_0 ho) rfl rfl (fun r18 => ?_)
      have n_hq1_o_0 : hq1 o 0 = h o 0 := (congrFun (af o (by first | decide | (simp; done) | (simp; omega))) 0)
      rw [n_hq1_o_0] at r18 ⊢
      refine pw_icmp_ge (t := 36) (pc := 21) dX9_settle_21 (by decide) (by first | omega | (simp only [n_hq1_o_0]; omega)) (by first | omega | (simp only [n_hq1_o_0]; omega)) (fun c21 => ?_) (fun c21 => ?_)
      · exact pw_vret (pc := 36) dX9_settle_36 (⟨af, am, by rw [ah.2]; exact w3a.trans hq, fun x x0 x1 => ⟨by
              rw [← hq, ax x x0 x1, show k = ro 0 by omega]
              have st := stz_ (S := ro 0) (W := (fun r s => wv_ ro P r s t 0)) (p := q) (by omega) (by have := q0.2.1; rw [hrs] at this; exact this) (by have := q0.2.2; rw [hrs] at this; exact this)
              rw [hrs, st], by have := ap x x0 (by omega); omega⟩⟩)
      · refine pw_aload_n (z := 166) (pc := 24) dX9_settle_24 rfl rfl ?_
        refine pw_aload_n (z := o) (pc := 25) dX9_settle_25 rfl rfl ?_
        refine pw_iload_n (z := t) (pc := 26) dX9_settle_26 rfl rfl ?_
        refine pw_callV (c := 9) (o := 166) (As := [rr_ G o, ii_ t]) (rest := []) (pc := 27) dX9_settle_27 (d_pushUp hC hq1 o ho ro Hq P lq am t h1 (fun r r0 r1 => by rw [ah.1]; have := w3b r r0 r1; have := hsd r r0 r1; omega) (15984 * k + 20000) (by first | omega | (simp only [n_hq1_o_0]; omega)) (fun r s r0 r1 s0 s1 x x0 x1 => txp_bd (B := 15984 * k) (R := ro 2) (by first | omega | (simp only [n_hq1_o_0]; omega)) (by first | omega | (simp only [n_hq1_o_0]; omega)) hW (fun e e0 e1 => by rw [ah.1, w3b e e0 e1]; have := hsd e e0 e1; omega) ap r s r0 r1 s0 (by first | omega | (simp only [n_hq1_o_0]; omega)) x x0 x1)) lX9_36 mX9_pushUp vX9_pushUp (hC 166 (by decide)) (show kd_ 166 = 19 by decide +kernel) rfl rfl rfl (by decide) ⟨Nat.zero_le _, Nat.zero_le _⟩ (Nat.le_of_ble_eq_true rfl) (k_v (fun h27 q27 => ?_))
        obtain ⟨u27, v27, w27⟩ := q27
        have nb := tx2_bd (hs := hq1 168) (S := (ro 0).toNat) (B := 15984 * k) (R := ro 2) (W := (fun r s => wv_ ro P r s t 0)) (by omega) hW (fun e e0 e1 => by rw [ah.1, w3b e e0 e1]; have := hsd e e0 e1; omega) ap (ro 2).toNat (by omega)
        refine pw_iinc (z := k) (lv1 := [some (rr_ G 166), some (rr_ G o), some (ii_ t), some (ii_ (k + 1))]) (pc := 30) dX9_settle_30 rfl (by decide) rfl rfl ?_
        refine pw_goto (t := 16) (pc := 33) dX9_settle_33 (by decide) ?_
        exact ih16 _ _ (by omega) (off_tr af (off_mo u27 (by simp))) (v27) (⟨(u27 168 (by simp; omega)).trans ah.1, (u27 166 (by simp; omega)).trans ah.2⟩) (fun x x0 x1 => by rw [w27]; have := nb x x0 x1; omega) (fun x x0 x1 => by rw [w27, tx3_s ak.1]; exact tx2_cg (R := ro 2) (fun r r0 r1 => by rw [ah.1, w3b r r0 r1]; have := hsd r r0 r1; exact ⟨rfl, this.1, by omega⟩) (fun y y0 y1 => ax y y0 (by omega)) (ro 2).toNat (by omega) x x0 (by omega)) (by omega)
  exact L16 _ 0 _ (by omega) (off_tr (off_mo u3 (by simp)) (off_mo f11 (by simp))) (by have := v3; unfold CWM_ at *; rw [f11 (o + 15) (by simp; omega)]; exact this) (⟨f11 168 (by decide), f11 166 (by decide)⟩) (fun x x0 x1 => by have e : h11 169 x = 0 := (by rw [e11, sc_at]; exact if_pos (by omega)); rw [e]; omega) (fun x x0 x1 => by rw [e11, sc_at]; exact if_pos (by omega)) (Int.self_le_toNat _)

