set_option maxHeartbeats 4000000 in
set_option maxRecDepth 100000 in
theorem d_put {G : GT_} (hC : okC_ G) (h : PH_) (o : Nat) (ho : is6_ o) (v : Int) (hv : ir_ v) (hn : 0 ≤ h (o + 8) 3 ∧ h (o + 8) 3 < 1000) : PC G yX2_put cX2_put 2 none 1 [rr_ G (o + 8), ii_ v] h (qv_ (fun h' => off_ [o + 8, o + 9] h h' ∧ h' (o + 8) 3 = h (o + 8) 3 + 1 ∧ h' (o + 9) = ob_ (h (o + 9)) (h (o + 8) 3) v)) := by
  refine PC.of (lv := [some (rr_ G (o + 8)), some (ii_ v)]) (by decide +kernel) (Nat.le_of_ble_eq_true rfl) rfl rfl ?_
  refine pw_aload_n (z := (o + 8)) (pc := 0) dX2_put_0 rfl rfl ?_
  refine pw_gI (x := 3) (pc := 1) dX2_put_1 fX2_21 (hC _ (by omega)) (kd6_8 ho) rfl rfl (fun r1 => ?_)
  refine pw_sipush (pc := 4) dX2_put_4 rfl ?_
  refine pw_icmp_ge (t := 30) (pc := 7) dX2_put_7 (by decide) (by first | omega) (by first | omega) (fun c7 => ?_) (fun c7 => ?_)
  · exact pw_vret (pc := 30) dX2_put_30 (by first | (exfalso; omega) | exact ⟨by rw [e27, e19]; exact off_up (off_up off_rf (by simp)) (by simp), by rw [e27, up_same], by rw [e27, up_off (by omega), e19, up_ob]⟩)
  · refine pw_aload_n (z := (o + 8)) (pc := 10) dX2_put_10 rfl rfl ?_
    refine pw_getR (r := (o + 9)) (pc := 11) dX2_put_11 fX2_9 (hC _ (by omega)) (kd6_8 ho) rfl rfl ?_
    refine pw_aload_n (z := (o + 8)) (pc := 14) dX2_put_14 rfl rfl ?_
    refine pw_gI (x := 3) (pc := 15) dX2_put_15 fX2_21 (hC _ (by omega)) (kd6_8 ho) rfl rfl (fun r15 => ?_)
    refine pw_iload_n (z := v) (pc := 18) dX2_put_18 rfl rfl ?_
    refine pw_iast (pc := 19) dX2_put_19 (hC _ (by omega)) (kd6_9 ho) 1000 (ln6_9 ho) (by first | omega) (by first | omega) (by first | omega) (by first | omega) ?_
    obtain ⟨g19, e19⟩ : ∃ x, x = up_ h (o + 9) (h (o + 8) 3) v := ⟨_, rfl⟩
    refine pw_heq e19 ?_
    refine pw_aload_n (z := (o + 8)) (pc := 20) dX2_put_20 rfl rfl ?_
    refine pw_dup (pc := 21) dX2_put_21 rfl ?_
    refine pw_gI (x := 3) (pc := 22) dX2_put_22 fX2_21 (hC _ (by omega)) (kd6_8 ho) rfl rfl (fun r22 => ?_)
    have n_g19_o_8_3 : g19 (o + 8) 3 = h (o + 8) 3 := (by rw [e19, up_off (by first | decide | omega)])
    rw [n_g19_o_8_3] at r22 ⊢
    refine pw_iconst (pc := 25) dX2_put_25 ?_
    refine pw_iadd (pc := 26) dX2_put_26 ?_
    refine pw_pI (x := 3) (pc := 27) dX2_put_27 fX2_21 (hC _ (by omega)) (kd6_8 ho) rfl rfl (by first | omega | (simp only [n_g19_o_8_3]; omega)) ?_
    obtain ⟨g27, e27⟩ : ∃ x, x = up_ g19 (o + 8) 3 ((h (o + 8) 3) + 1) := ⟨_, rfl⟩
    refine pw_heq e27 ?_
    exact pw_vret (pc := 30) dX2_put_30 (by first | (exfalso; omega) | exact ⟨by rw [e27, e19]; exact off_up (off_up off_rf (by simp)) (by simp), by rw [e27, up_same], by rw [e27, up_off (by omega), e19, up_ob]⟩)

