set_option maxHeartbeats 4000000 in
set_option maxRecDepth 100000 in
theorem d_dashesLeft {G : GT_} (hC : okC_ G) (h : PH_) (o : Nat) (ho : is6_ o) (ro : Int → Int) (H : CRD_ ro h o) (hd : ∀ r, 0 ≤ r → r < ro 2 → 1 ≤ ro (31 + 4 * r + 1) ∧ ro (31 + 4 * r + 1) ≤ 9) (hland : h 170 0 = (o : Int)) (c f : Int) (hc : 0 ≤ c ∧ c ≤ 15) (hf : ∀ r, 0 ≤ r → r < ro 2 → (c / 2 ^ r.toNat % 2 = 0 ↔ f / 2 ^ r.toNat % 2 = 1)) : PC G yX0_dashesLeft cX0_dashesLeft 4 (some .int) 1 [rr_ G 170, ii_ c] h (qi_ (fun z h' => h = h' ∧ z = das_ ro f (ro 2).toNat)) := by
  have HB := H.2.1
  have HA := H.1
  refine PC.of (lv := [some (rr_ G 170), some (ii_ c), none, none]) (by decide +kernel) (Nat.le_of_ble_eq_true rfl) rfl rfl ?_
  refine pw_iconst (pc := 0) dX0_dashesLeft_0 ?_
  refine pw_istore_n (lv1 := [some (rr_ G 170), some (ii_ c), some (ii_ 0), none]) (pc := 1) dX0_dashesLeft_1 rfl (by decide) rfl rfl ?_
  refine pw_iconst (pc := 2) dX0_dashesLeft_2 ?_
  refine pw_istore_n (lv1 := [some (rr_ G 170), some (ii_ c), some (ii_ 0), some (ii_ 0)]) (pc := 3) dX0_dashesLeft_3 rfl (by decide) rfl rfl ?_
  have L4 : ∀ (nn : Nat) (n : Int) (r : Int), (0 ≤ r ∧ r ≤ ro 2) → (n = das_ ro f r.toNat) → ((ro 2 - r + 1 : Int) ≤ nn) → PW G RX0 cX0_dashesLeft 4 (some .int) (rm_ 1) 0 0 (zm_ G (qi_ (fun z h' => h = h' ∧ z = das_ ro f (ro 2).toNat))) 4 [some (rr_ G 170), some (ii_ c), some (ii_ n), some (ii_ r)] [] h := by
    intro nn
    induction nn with
    | zero => intro n r ak an ams; exfalso; omega
    | succ nn ih4 =>
      intro n r ak an ams
      have db := das_b (left := f) r.toNat (fun q q0 q1 => hd q q0 (by omega))
      refine pw_iload_n (z := r) (pc := 4) dX0_dashesLeft_4 rfl rfl ?_
      refine pw_aload_n (z := 170) (pc := 5) dX0_dashesLeft_5 rfl rfl ?_
      refine pw_gD (x := 0) (r := o) (pc := 6) dX0_dashesLeft_6 fX0_18 (hC 170 (by decide)) (show kd_ 170 = 10 by decide +kernel) rfl rfl hland ?_
      refine pw_gI (x := 2) (pc := 9) dX0_dashesLeft_9 fX0_47 (hC _ (by omega)) (kd6_0 ho) rfl rfl (fun r9 => ?_)
      refine pw_icmp_ge (t := 41) (pc := 12) dX0_dashesLeft_12 (by decide) (by first | omega) (by first | omega) (fun c12 => ?_) (fun c12 => ?_)
      · refine pw_iload_n (z := n) (pc := 41) dX0_dashesLeft_41 rfl rfl ?_
        exact pw_iret (pc := 42) dX0_dashesLeft_42 (by first | omega) (⟨rfl, by rw [an, show r = ro 2 by omega]⟩)
      · refine pw_iload_n (z := c) (pc := 15) dX0_dashesLeft_15 rfl rfl ?_
        refine pw_iload_n (z := r) (pc := 16) dX0_dashesLeft_16 rfl rfl ?_
        refine pw_ishr (pc := 17) dX0_dashesLeft_17 (by first | omega) (by first | omega) ?_
        refine pw_iconst (pc := 18) dX0_dashesLeft_18 ?_
        refine pw_iand1 (pc := 19) dX0_dashesLeft_19 ?_
        refine pw_if_ne (t := 35) (pc := 20) dX0_dashesLeft_20 (by decide) (by first | omega) (fun c20 => ?_) (fun c20 => ?_)
        · refine pw_iinc (z := r) (lv1 := [some (rr_ G 170), some (ii_ c), some (ii_ n), some (ii_ (r + 1))]) (pc := 35) dX0_dashesLeft_35 rfl (by decide) rfl rfl ?_
          refine pw_goto (t := 4) (pc := 38) dX0_dashesLeft_38 (by decide) ?_
          exact ih4 _ _ (by omega) (by have hfr := hf r (by omega) (by omega); have HR := H.2.2.2.1 r (by omega) (by omega); have hdr := hd r (by omega) (by omega); rw [das_s ak.1, ← an]; first | (rw [if_pos (hfr.mp c20)]; omega) | (rw [if_neg (fun u => c20 (hfr.mpr u))]; omega) | (rw [if_t (hfr.mp c20)]; omega) | (rw [if_f (fun u => c20 (hfr.mpr u))]; omega)) (by omega)
        · refine pw_iload_n (z := n) (pc := 23) dX0_dashesLeft_23 rfl rfl ?_
          refine pw_aload_n (z := 170) (pc := 24) dX0_dashesLeft_24 rfl rfl ?_
          refine pw_gD (x := 0) (r := o) (pc := 25) dX0_dashesLeft_25 fX0_18 (hC 170 (by decide)) (show kd_ 170 = 10 by decide +kernel) rfl rfl hland ?_
          refine pw_getR (r := (o + 4)) (pc := 28) dX0_dashesLeft_28 fX0_56 (hC _ (by omega)) (kd6_0 ho) rfl rfl ?_
          refine pw_iload_n (z := r) (pc := 31) dX0_dashesLeft_31 rfl rfl ?_
          refine pw_iald (pc := 32) dX0_dashesLeft_32 (hC _ (by omega)) (kd6_4 ho) 4 (ln6_4 ho) (by first | omega) (by first | omega) (by first | omega) (fun r32 => ?_)
          refine pw_iadd (pc := 33) dX0_dashesLeft_33 ?_
          refine pw_istore_n (lv1 := [some (rr_ G 170), some (ii_ c), some (ii_ (n + (h (o + 4) r))), some (ii_ r)]) (pc := 34) dX0_dashesLeft_34 rfl (by decide) rfl rfl ?_
          refine pw_iinc (z := r) (lv1 := [some (rr_ G 170), some (ii_ c), some (ii_ (n + (h (o + 4) r))), some (ii_ (r + 1))]) (pc := 35) dX0_dashesLeft_35 rfl (by decide) rfl rfl ?_
          refine pw_goto (t := 4) (pc := 38) dX0_dashesLeft_38 (by decide) ?_
          exact ih4 _ _ (by omega) (by have hfr := hf r (by omega) (by omega); have HR := H.2.2.2.1 r (by omega) (by omega); have hdr := hd r (by omega) (by omega); rw [das_s ak.1, ← an]; first | (rw [if_pos (hfr.mp c20)]; omega) | (rw [if_neg (fun u => c20 (hfr.mpr u))]; omega) | (rw [if_t (hfr.mp c20)]; omega) | (rw [if_f (fun u => c20 (hfr.mpr u))]; omega)) (by omega)
  exact L4 _ _ _ (by omega) (rfl) (Int.self_le_toNat _)

