theorem fst0_ex {A : Int → Prop} {N : Nat} : ∀ k : Nat, k < N → A (k : Int) → ∃ m : Int, fst0_ A N m := by
  intro k
  induction k using Nat.strongRecOn with
  | _ k ih =>
    intro hk ha
    by_cases c : ∃ j : Nat, j < k ∧ A (j : Int)
    · obtain ⟨j, j1, j2⟩ := c
      exact ih j j1 (by omega) j2
    · refine ⟨(k : Int), ⟨by omega, by omega, ha⟩, fun j j0 j1 u => c ⟨j.toNat, by omega, ?_⟩⟩
      rw [show ((j.toNat : Nat) : Int) = j by omega]; exact u
theorem fst0_un {A : Int → Prop} {N : Nat} {a b : Int} (h : fst0_ A N a) (g : fst0_ A N b) : a = b := by
  rcases Int.lt_trichotomy a b with u | u | u
  · exact absurd h.1.2.2 (g.2 a h.1.1 u)
  · exact u
  · exact absurd g.1.2.2 (h.2 b g.1.1 u)
theorem ffr_5 {ro f : Int → Int} (hT : 0 ≤ ro 1) (hp : 0 < pQ_ (lpn_ ro 256).length (SEF_ ro f) (ro 1).toNat) {j z : Int} (hj : 0 ≤ j ∧ j < ro 1) (hz : fst0_ (fun k => SEF_ ro f k j) (lpn_ ro 256).length z) : (ffr_ ro f).2.2.2 j = pL_ ro z := by
  have ch : ∀ t : Int, ∃ m : Int, 0 ≤ t → t < ro 1 → fst0_ (fun k => SEF_ ro f k t) (lpn_ ro 256).length m := fun t => by
    by_cases c : 0 ≤ t ∧ t < ro 1
    · obtain ⟨k, k1, k2⟩ := lfr_ne hT hp c
      obtain ⟨m, hm⟩ := fst0_ex (A := fun k => SEF_ ro f k t) k k1 k2
      exact ⟨m, fun _ _ => hm⟩
    · exact ⟨0, fun a b => absurd ⟨a, b⟩ c⟩
  have e0 : ∀ t : Int, 0 ≤ t → t < ro 1 → fst0_ (fun k => SEF_ ro f k t) (lpn_ ro 256).length (Classical.choose (ch t)) := fun t => Classical.choose_spec (ch t)
  rw [ffr_4 hT (mn := fun t => Classical.choose (ch t)) e0 j hj]
  show pL_ ro (Classical.choose (ch j)) = _
  rw [fst0_un (e0 j hj.1 hj.2) hz]
theorem ffr_b {ro f : Int → Int} (hS : 2 ≤ ro 0 ∧ ro 0 ≤ 4) (hR : 0 ≤ ro 2 ∧ ro 2 ≤ ro 0) (hT : 0 ≤ ro 1 ∧ ro 1 ≤ 4) : fok_ (ffr_ ro f) := (fth_b hT.2 (lpn_24 hS hR) (ro 1).toNat (fun _ => 0) 0 (0, sto_ (ro 1), 0, fun _ => 0) (by decide) ⟨Int.le_refl _, sto_b hT, show (0 : Nat) < 8 by decide⟩).1

set_option maxHeartbeats 4000000 in
set_option maxRecDepth 100000 in
theorem d_fits {G : GT_} (hC : okC_ G) (h : PH_) (o : Nat) (ho : is6_ o) (hL : h 0 2 = (o : Int)) (ro : Int → Int) (H : CRD_ ro h o) (hj : CPL_ ro h o) (f : Int → Int) (hq : SNC_ ro f h) (w : Int) (h1 : ir_ w) : PC G yX11_fits cX11_fits 3 (some .int) 6 [rr_ G 0, ii_ w] h (qi_ (fun z h' => off_ [148, 149] h h' ∧ z = fit_ ro f w)) := by
  have hL_h := hL
  have HB := H.2.1
  have HA := H.1
  have l24 := lpn_24 (ro := ro) HB.1 HB.2.1
  have fb := ffr_b (ro := ro) (f := f) HB.1 HB.2.1 HB.2.2.1
  have f1 := ffr_1 (ro := ro) (f := f) HB.2.2.1.1
  have pc0 := hj.1
  refine PC.of (lv := [some (rr_ G 0), some (ii_ w), none]) (by decide +kernel) (Nat.le_of_ble_eq_true rfl) rfl rfl ?_
  refine pw_iload_n (z := w) (pc := 0) dX11_fits_0 rfl rfl ?_
  refine pw_if_lt (t := 17) (pc := 1) dX11_fits_1 (by decide) (by first | omega) (fun c1 => ?_) (fun c1 => ?_)
  · refine pw_iconst (pc := 17) dX11_fits_17 ?_
    exact pw_iret (pc := 18) dX11_fits_18 (by first | omega) (⟨off_rf, by unfold fit_; rw [if_f (by omega)]⟩)
  · refine pw_iload_n (z := w) (pc := 4) dX11_fits_4 rfl rfl ?_
    refine pw_iconst (pc := 5) dX11_fits_5 ?_
    refine pw_aload_n (z := 0) (pc := 6) dX11_fits_6 rfl rfl ?_
    refine pw_gD (x := 2) (r := o) (pc := 7) dX11_fits_7 fX11_28 (hC 0 (by decide)) (show kd_ 0 = 21 by decide +kernel) rfl rfl hL_h ?_
    refine pw_gI (x := 1) (pc := 10) dX11_fits_10 fX11_239 (hC _ (by omega)) (kd6_0 ho) rfl rfl (fun r10 => ?_)
    refine pw_iadd (pc := 13) dX11_fits_13 ?_
    refine pw_icmp_lt (t := 19) (pc := 14) dX11_fits_14 (by decide) (by first | omega) (by first | omega) (fun c14 => ?_) (fun c14 => ?_)
    · refine pw_aload_n (z := 0) (pc := 19) dX11_fits_19 rfl rfl ?_
      refine pw_callV (c := 11) (o := 0) (As := []) (rest := []) (pc := 20) dX11_fits_20 (d_countFitting hC h o ho hL ro H hj f hq) lX11_313 mX11_countFitting vX11_countFitting (hC 0 (by decide)) (show kd_ 0 = 21 by decide +kernel) rfl rfl rfl (by decide) ⟨Nat.zero_le _, Nat.zero_le _⟩ (Nat.le_of_ble_eq_true rfl) (k_i (fun z20 h20 y20 q20 => ?_))
      obtain ⟨f20, w20, x20⟩ := q20
      refine pw_istore_n (lv1 := [some (rr_ G 0), some (ii_ w), some (ii_ z20)]) (pc := 23) dX11_fits_23 rfl (by decide) rfl rfl ?_
      have en : fit_ ro f w = fiq_ w (sto_ (ro 1)) (ffr_ ro f) := if_t (by omega)
      refine pw_iload_n (z := w) (pc := 24) dX11_fits_24 rfl rfl ?_
      refine pw_if_ne (t := 30) (pc := 25) dX11_fits_25 (by decide) (by first | omega) (fun c25 => ?_) (fun c25 => ?_)
      · refine pw_iload_n (z := z20) (pc := 30) dX11_fits_30 rfl rfl ?_
        refine pw_if_ne (t := 36) (pc := 31) dX11_fits_31 (by decide) (by first | omega) (fun c31 => ?_) (fun c31 => ?_)
        · have hp : 0 < pQ_ (lpn_ ro 256).length (SEF_ ro f) (ro 1).toNat := by omega
          have L20 : h20 0 2 = (o : Int) := by rw [f20 0 (by simp)]; exact hL
          have H20 : CRD_ ro h20 o := CRD_off H ho f20 (by simp)
          refine pw_iload_n (z := w) (pc := 36) dX11_fits_36 rfl rfl ?_
          refine pw_iconst (pc := 37) dX11_fits_37 ?_
          refine pw_icmp_ge (t := 56) (pc := 38) dX11_fits_38 (by decide) (by first | omega) (by first | omega) (fun c38 => ?_) (fun c38 => ?_)
          · obtain ⟨n, en1, F⟩ := x20 (w - 3).toNat (by omega)
            rw [tn_c (show 0 ≤ w - 3 by omega)] at en1 F
            have nb := FSN_b F l24
            have n0 : n ≠ 0 := fun u => by
              obtain ⟨k, k1, k2⟩ := lfr_ne (ro := ro) (f := f) HB.2.2.1.1 hp (s := w - 3) (by omega)
              exact (FSN_z F).mp u k k1 k2
            refine pw_aload_n (z := 0) (pc := 56) dX11_fits_56 rfl rfl ?_
            have n_h20_0_2 : h20 0 2 = h 0 2 := (congrFun (f20 0 (by first | decide | (simp; done) | (simp; omega))) 2)
            refine pw_gD (x := 2) (r := o) (pc := 57) dX11_fits_57 fX11_28 (hC 0 (by decide)) (show kd_ 0 = 21 by decide +kernel) rfl rfl (n_h20_0_2.trans hL_h) ?_
            refine pw_aload_n (z := 0) (pc := 60) dX11_fits_60 rfl rfl ?_
            refine pw_getR (r := 148) (pc := 61) dX11_fits_61 fX11_71 (hC 0 (by decide)) (show kd_ 0 = 21 by decide +kernel) rfl (by decide +kernel) ?_
            refine pw_iload_n (z := w) (pc := 64) dX11_fits_64 rfl rfl ?_
            refine pw_iconst (pc := 65) dX11_fits_65 ?_
            refine pw_isub (pc := 66) dX11_fits_66 ?_
            refine pw_iald (pc := 67) dX11_fits_67 (hC 148 (by decide)) (show kd_ 148 = 0 by decide +kernel) 4 (by decide +kernel) (by first | omega | (simp only [n_h20_0_2]; omega)) (by first | omega | (simp only [n_h20_0_2]; omega)) (by first | omega | (simp only [n_h20_0_2]; omega)) (fun r67 => ?_)
            refine pw_callS (As := [ii_ (h20 148 (w - 3))]) (rest := [rr_ G o]) (pc := 68) dX11_fits_68 (j_ntz h20 (h20 148 (w - 3)) (by first | omega | (simp only [n_h20_0_2]; omega))) lX11_320 mJ6_numberOfTrailingZeros_0f7a4 sJ6_numberOfTrailingZeros_0f7a4 rfl rfl (by decide) ⟨Nat.zero_le _, Nat.zero_le _⟩ (Nat.le_of_ble_eq_true rfl) (k_i (fun z68 h68 y68 q68 => ?_))
            obtain ⟨rfl, b68, t68, l68⟩ := q68
            have fs : fst0_ (fun k => SEF_ ro f k (w - 3)) (lpn_ ro 256).length z68 := by
              rw [en1] at t68 l68
              have t := (FSN_bit F z68.toNat).mp t68
              rw [tn_c b68.1] at t
              refine ⟨⟨b68.1, by omega, t.2⟩, fun j j0 j1 u => ?_⟩
              have q := l68 j.toNat (by omega)
              have r := (FSN_bit F j.toNat).mpr ⟨by omega, by rw [tn_c j0]; exact u⟩
              omega
            have fl := fs.1
            refine pw_callV (c := 6) (o := o) (As := [ii_ z68]) (rest := []) (pc := 71) dX11_fits_71 (d_planAt hC h20 o ho z68 (by first | omega | (simp only [n_h20_0_2]; omega)) (by rw [f20 o (by simp; omega)]; omega)) lX11_325 mX6_planAt vX6_planAt (hC _ (by omega)) (kd6_0 ho) rfl rfl rfl (by decide) ⟨Nat.zero_le _, Nat.zero_le _⟩ (Nat.le_of_ble_eq_true rfl) (k_i (fun z71 h71 y71 q71 => ?_))
            obtain ⟨rfl, w71⟩ := q71
            exact pw_iret (pc := 74) dX11_fits_74 (by first | omega | (simp only [n_h20_0_2]; omega)) (⟨f20, by
                      rw [en]; unfold fiq_
                      rw [if_neg (by omega), if_neg (by omega), if_neg (by omega), if_neg (by omega), ffr_5 HB.2.2.1.1 hp (by omega) fs, w71, f20 o (by simp; omega), f20 (o + 14) (by simp; omega), if_pos (by omega)]
                      exact arr_at hj.2 b68.1 fl.2.1⟩)
          · refine pw_aload_n (z := 0) (pc := 41) dX11_fits_41 rfl rfl ?_
            refine pw_iload_n (z := w) (pc := 42) dX11_fits_42 rfl rfl ?_
            refine pw_iconst (pc := 43) dX11_fits_43 ?_
            refine pw_icmp_ne (t := 51) (pc := 44) dX11_fits_44 (by decide) (by first | omega) (by first | omega) (fun c44 => ?_) (fun c44 => ?_)
            · refine pw_iconst (pc := 51) dX11_fits_51 ?_
              refine pw_callV (c := 11) (o := 0) (As := [ii_ 0]) (rest := []) (pc := 52) dX11_fits_52 (d_stopsChanged hC h20 o ho L20 ro H20 (lpn_ ro 256).length l24 (SEF_ ro f) x20 0 (by decide)) lX11_316 mX11_stopsChanged vX11_stopsChanged (hC 0 (by decide)) (show kd_ 0 = 21 by decide +kernel) rfl rfl rfl (by decide) ⟨Nat.zero_le _, Nat.zero_le _⟩ (Nat.le_of_ble_eq_true rfl) (k_i (fun z52 h52 y52 q52 => ?_))
              obtain ⟨rfl, m, w52, F52⟩ := q52
              exact pw_iret (pc := 55) dX11_fits_55 (by first | omega) (⟨f20, by
                        rw [en]; unfold fiq_
                        rw [if_neg (by omega), if_neg (by omega), w52]
                        first
                        | (rw [if_pos (by omega), FSN_un F52 (ffr_2 (f := f) (by omega) HB.2.2.1 hp fb.2.1)])
                        | (rw [if_neg (by omega), if_pos (by omega), FSN_un F52 (ffr_3 (f := f) (by omega) HB.2.2.1 hp fb.2.2)])⟩)
            · refine pw_iconst (pc := 47) dX11_fits_47 ?_
              refine pw_goto (t := 52) (pc := 48) dX11_fits_48 (by decide) ?_
              refine pw_callV (c := 11) (o := 0) (As := [ii_ 1]) (rest := []) (pc := 52) dX11_fits_52 (d_stopsChanged hC h20 o ho L20 ro H20 (lpn_ ro 256).length l24 (SEF_ ro f) x20 1 (by decide)) lX11_316 mX11_stopsChanged vX11_stopsChanged (hC 0 (by decide)) (show kd_ 0 = 21 by decide +kernel) rfl rfl rfl (by decide) ⟨Nat.zero_le _, Nat.zero_le _⟩ (Nat.le_of_ble_eq_true rfl) (k_i (fun z52 h52 y52 q52 => ?_))
              obtain ⟨rfl, m, w52, F52⟩ := q52
              exact pw_iret (pc := 55) dX11_fits_55 (by first | omega) (⟨f20, by
                        rw [en]; unfold fiq_
                        rw [if_neg (by omega), if_neg (by omega), w52]
                        first
                        | (rw [if_pos (by omega), FSN_un F52 (ffr_2 (f := f) (by omega) HB.2.2.1 hp fb.2.1)])
                        | (rw [if_neg (by omega), if_pos (by omega), FSN_un F52 (ffr_3 (f := f) (by omega) HB.2.2.1 hp fb.2.2)])⟩)
        · refine pw_iconst (pc := 34) dX11_fits_34 ?_
          exact pw_iret (pc := 35) dX11_fits_35 (by first | omega) (⟨f20, by rw [en]; unfold fiq_; rw [if_neg (by omega), if_pos (by omega)]⟩)
      · refine pw_iload_n (z := z20) (pc := 28) dX11_fits_28 rfl rfl ?_
        exact pw_iret (pc := 29) dX11_fits_29 (by first | omega) (⟨f20, by rw [en]; unfold fiq_; rw [if_pos (by omega), f1]; exact w20⟩)
    · refine pw_iconst (pc := 17) dX11_fits_17 ?_
      exact pw_iret (pc := 18) dX11_fits_18 (by first | omega) (⟨off_rf, by unfold fit_; rw [if_f (by omega)]⟩)

