set_option maxHeartbeats 4000000 in
set_option maxRecDepth 100000 in
theorem j_bitCount {G : GT_} (h : PH_) (x : Int) (hx : 0 ≤ x ∧ x < 16777216) : PC G yJ6_bitCount_0f7a4 cJ6_bitCount_0f7a4 1 (some .int) 1 [ii_ x] h (qi_ (fun z h' => h = h' ∧ z = bit_ x 24 ∧ 0 ≤ z ∧ z ≤ 24)) := by
  obtain ⟨N, A1, X1, A2, A3, A4, n0, n1, n2, n3, n4, n5, n6, n7, n8, n9, n10⟩ := bct_ hx
  obtain ⟨b, hbb⟩ : ∃ b, b = bit_ x 24 := ⟨_, rfl⟩
  rw [← hbb] at n8 n9 n10
  refine PC.of (lv := [some (ii_ x)]) (by decide +kernel) (Nat.le_of_ble_eq_true rfl) rfl rfl ?_
  refine pw_iload_n (z := x) (pc := 0) dJ6_bitCount_0f7a4_0 rfl rfl ?_
  refine pw_iload_n (z := x) (pc := 1) dJ6_bitCount_0f7a4_1 rfl rfl ?_
  refine pw_iconst (pc := 2) dJ6_bitCount_0f7a4_2 ?_
  refine pw_iushr (m := 2) (pc := 3) dJ6_bitCount_0f7a4_3 (by first | omega) (by decide) (by decide) ?_
  refine pw_ldcw (z := 1431655765) (pc := 4) dJ6_bitCount_0f7a4_4 kJ6_265 rfl ?_
  refine pw_iandX (pc := 7) dJ6_bitCount_0f7a4_7 (by first | omega) (by first | omega) (fun w7 r7 x7 v7 => ?_)
  have q7 : w7 = (A1 : Int) := by rw [x7 (by omega) (by omega), n1, show (x / 2).toNat = N / 2 by omega, show (1431655765 : Int).toNat = 1431655765 from rfl]
  have q8 : x - w7 = (X1 : Int) := by omega
  refine pw_isub (pc := 8) dJ6_bitCount_0f7a4_8 ?_
  refine pw_istore_n (lv1 := [some (ii_ (x - w7))]) (pc := 9) dJ6_bitCount_0f7a4_9 rfl (by decide) rfl rfl ?_
  refine pw_iload_n (z := x - w7) (pc := 10) dJ6_bitCount_0f7a4_10 rfl rfl ?_
  refine pw_ldcw (z := 858993459) (pc := 11) dJ6_bitCount_0f7a4_11 kJ6_266 rfl ?_
  refine pw_iandX (pc := 14) dJ6_bitCount_0f7a4_14 (by first | omega) (by first | omega) (fun w14 r14 x14 v14 => ?_)
  have q14 : w14 = (A2 : Int) := by rw [x14 (by omega) (by omega), n3, q8, Int.toNat_natCast, show (858993459 : Int).toNat = 858993459 from rfl]
  refine pw_iload_n (z := x - w7) (pc := 15) dJ6_bitCount_0f7a4_15 rfl rfl ?_
  refine pw_iconst (pc := 16) dJ6_bitCount_0f7a4_16 ?_
  refine pw_iushr (m := 4) (pc := 17) dJ6_bitCount_0f7a4_17 (by first | omega) (by decide) (by decide) ?_
  refine pw_ldcw (z := 858993459) (pc := 18) dJ6_bitCount_0f7a4_18 kJ6_266 rfl ?_
  refine pw_iandX (pc := 21) dJ6_bitCount_0f7a4_21 (by first | omega) (by first | omega) (fun w21 r21 x21 v21 => ?_)
  have q21 : w21 = (A3 : Int) := by rw [x21 (by omega) (by omega), n4, q8, show ((X1 : Int) / 4).toNat = X1 / 4 by omega, show (858993459 : Int).toNat = 858993459 from rfl]
  have q22 : w14 + w21 = ((A2 + A3 : Nat) : Int) := by omega
  refine pw_iadd (pc := 22) dJ6_bitCount_0f7a4_22 ?_
  refine pw_istore_n (lv1 := [some (ii_ (w14 + w21))]) (pc := 23) dJ6_bitCount_0f7a4_23 rfl (by decide) rfl rfl ?_
  refine pw_iload_n (z := w14 + w21) (pc := 24) dJ6_bitCount_0f7a4_24 rfl rfl ?_
  refine pw_iload_n (z := w14 + w21) (pc := 25) dJ6_bitCount_0f7a4_25 rfl rfl ?_
  refine pw_iconst (pc := 26) dJ6_bitCount_0f7a4_26 ?_
  refine pw_iushr (m := 16) (pc := 27) dJ6_bitCount_0f7a4_27 (by first | omega) (by decide) (by decide) ?_
  refine pw_iadd (pc := 28) dJ6_bitCount_0f7a4_28 ?_
  refine pw_ldcw (z := 252645135) (pc := 29) dJ6_bitCount_0f7a4_29 kJ6_267 rfl ?_
  refine pw_iandX (pc := 32) dJ6_bitCount_0f7a4_32 (by first | omega) (by first | omega) (fun w32 r32 x32 v32 => ?_)
  have q32 : w32 = (A4 : Int) := by rw [x32 (by omega) (by omega), n5, q22, show (((A2 + A3 : Nat) : Int) + ((A2 + A3 : Nat) : Int) / 16).toNat = (A2 + A3) + (A2 + A3) / 16 by omega, show (252645135 : Int).toNat = 252645135 from rfl]
  refine pw_istore_n (lv1 := [some (ii_ w32)]) (pc := 33) dJ6_bitCount_0f7a4_33 rfl (by decide) rfl rfl ?_
  refine pw_iload_n (z := w32) (pc := 34) dJ6_bitCount_0f7a4_34 rfl rfl ?_
  refine pw_iload_n (z := w32) (pc := 35) dJ6_bitCount_0f7a4_35 rfl rfl ?_
  refine pw_bipush (pc := 36) dJ6_bitCount_0f7a4_36 rfl ?_
  refine pw_iushr (m := 256) (pc := 38) dJ6_bitCount_0f7a4_38 (by first | omega) (by decide) (by decide) ?_
  refine pw_iadd (pc := 39) dJ6_bitCount_0f7a4_39 ?_
  refine pw_istore_n (lv1 := [some (ii_ (w32 + (w32 / 256)))]) (pc := 40) dJ6_bitCount_0f7a4_40 rfl (by decide) rfl rfl ?_
  refine pw_iload_n (z := w32 + (w32 / 256)) (pc := 41) dJ6_bitCount_0f7a4_41 rfl rfl ?_
  refine pw_iload_n (z := w32 + (w32 / 256)) (pc := 42) dJ6_bitCount_0f7a4_42 rfl rfl ?_
  refine pw_bipush (pc := 43) dJ6_bitCount_0f7a4_43 rfl ?_
  refine pw_iushr (m := 65536) (pc := 45) dJ6_bitCount_0f7a4_45 (by first | omega) (by decide) (by decide) ?_
  refine pw_iadd (pc := 46) dJ6_bitCount_0f7a4_46 ?_
  refine pw_istore_n (lv1 := [some (ii_ ((w32 + (w32 / 256)) + ((w32 + (w32 / 256)) / 65536)))]) (pc := 47) dJ6_bitCount_0f7a4_47 rfl (by decide) rfl rfl ?_
  refine pw_iload_n (z := (w32 + (w32 / 256)) + ((w32 + (w32 / 256)) / 65536)) (pc := 48) dJ6_bitCount_0f7a4_48 rfl rfl ?_
  refine pw_bipush (pc := 49) dJ6_bitCount_0f7a4_49 rfl ?_
  refine pw_iandX (pc := 51) dJ6_bitCount_0f7a4_51 (by first | omega) (by first | omega) (fun w51 r51 x51 v51 => ?_)
  have q51 : w51 = b := by rw [x51 (by omega) (by omega), ← n8, q32, show (((A4 : Int) + (A4 : Int) / 256) + ((A4 : Int) + (A4 : Int) / 256) / 65536).toNat = (A4 + A4 / 256) + (A4 + A4 / 256) / 65536 by omega, show (63 : Int).toNat = 63 from rfl]
  exact pw_iret (pc := 52) dJ6_bitCount_0f7a4_52 (by first | omega) (⟨rfl, q51.trans hbb, by omega, by omega⟩)

