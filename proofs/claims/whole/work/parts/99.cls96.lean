def ek7 (G : GT_) (E : Nat → va_E) (n i : Nat) : Nat → va_E := eS_ (eS_ (eS_ (eS_ (eS_ (eS_ (E) (n) (.inl (gc_ G 0, (4, .inl (fun _ => Int32.ofInt 0))))) i (.inr (7, [.ref (gb_ G + (n)), .null, .null, .int 0]))) (n + 1) (.inl (gc_ G 0, (4, .inl (fun _ => Int32.ofInt 0))))) i (.inr (7, [.ref (gb_ G + (n)), .ref (gb_ G + (n + 1)), .null, .int 0]))) (n + 2) (.inl (gc_ G 0, (4, .inl (fun _ => Int32.ofInt 0))))) i (.inr (7, [.ref (gb_ G + (n)), .ref (gb_ G + (n + 1)), .ref (gb_ G + (n + 2)), .int 0]))

theorem eo7 {G : GT_} {E : Nat → va_E} {n i j : Nat} (hj : j < n) (hi : j ≠ i) : ek7 G E n i j = E j := by
  unfold ek7
  repeat rw [eS_off (by omega)]

set_option maxHeartbeats 2000000 in
theorem k_X7 {G : GT_} {n i : Nat} {E : Nat → va_E} (hi : i < n) (hE : E i = .inr (7, [.null, .null, .null, .int 0])) : KN G yX7_init cX7_init 1 1 3 12 [.ref (gb_ G + i)] n E (n + 3) (ek7 G E n i) := by
  refine KN.of (lv := [some (.ref (gb_ G + i))]) (by decide +kernel) rfl (Nat.le_of_ble_eq_true rfl) rfl rfl ?_
  refine n_aload_n (pc := 0) dX7_init_0 rfl rfl ?_
  refine n_obj (pc := 1) dX7_init_1 (List.mem_filter.mpr ⟨by decide +kernel, by decide +kernel⟩) oi_i oi_c (by decide) (by decide) ?_
  refine n_aload_n (pc := 4) dX7_init_4 rfl rfl ?_
  refine n_iconst (pc := 5) dX7_init_5 ?_
  refine n_newa (t0 := 0) (N := 4) (ty := .int) (4, .inl (fun _ => Int32.ofInt 0)) (pc := 6) dX7_init_6 rfl rfl (fun _ _ h => h) ac_i (by decide) rfl (fun _ => rfl) (by decide) ⟨by decide, by decide⟩ ?_
  refine n_putF (i := i) (c := 7) (k := 0) (fs := [.null, .null, .null, .int 0]) (ty := .array .int) (pc := 8) dX7_init_8 fX7_9 rfl (fun q hq => by cases hq; rfl) (by omega) ((eS_off (by omega)).trans (hE)) (by decide +kernel) rfl rfl (Nat.le_of_ble_eq_true rfl) ?_
  refine n_aload_n (pc := 11) dX7_init_11 rfl rfl ?_
  refine n_iconst (pc := 12) dX7_init_12 ?_
  refine n_newa (t0 := 0) (N := 4) (ty := .int) (4, .inl (fun _ => Int32.ofInt 0)) (pc := 13) dX7_init_13 rfl rfl (fun _ _ h => h) ac_i (by decide) rfl (fun _ => rfl) (by decide) ⟨by decide, by decide⟩ ?_
  refine n_putF (i := i) (c := 7) (k := 1) (fs := [.ref (gb_ G + (n)), .null, .null, .int 0]) (ty := .array .int) (pc := 15) dX7_init_15 fX7_15 rfl (fun q hq => by cases hq; rfl) (by omega) ((eS_off (by omega)).trans (eS_same)) (by decide +kernel) rfl rfl (Nat.le_of_ble_eq_true rfl) ?_
  refine n_aload_n (pc := 18) dX7_init_18 rfl rfl ?_
  refine n_iconst (pc := 19) dX7_init_19 ?_
  refine n_newa (t0 := 0) (N := 4) (ty := .int) (4, .inl (fun _ => Int32.ofInt 0)) (pc := 20) dX7_init_20 rfl rfl (fun _ _ h => h) ac_i (by decide) rfl (fun _ => rfl) (by decide) ⟨by decide, by decide⟩ ?_
  refine n_putF (i := i) (c := 7) (k := 2) (fs := [.ref (gb_ G + (n)), .ref (gb_ G + (n + 1)), .null, .int 0]) (ty := .array .int) (pc := 22) dX7_init_22 fX7_18 rfl (fun q hq => by cases hq; rfl) (by omega) ((eS_off (by omega)).trans (eS_same)) (by decide +kernel) rfl rfl (Nat.le_of_ble_eq_true rfl) ?_
  exact n_vret (pc := 25) dX7_init_25 (by decide) (by decide)

def ek8 (G : GT_) (E : Nat → va_E) (n i : Nat) : Nat → va_E := eS_ (eS_ (E) (n) (.inl (gc_ G 3, (1000, .inl (fun _ => Int32.ofInt 0))))) i (.inr (8, [.ref (gb_ G + (n)), .int 0, .int 0, .int 0, .int 0, .int 0, .long 0]))

theorem eo8 {G : GT_} {E : Nat → va_E} {n i j : Nat} (hj : j < n) (hi : j ≠ i) : ek8 G E n i j = E j := by
  unfold ek8
  repeat rw [eS_off (by omega)]

set_option maxHeartbeats 2000000 in
theorem k_X8 {G : GT_} {n i : Nat} {E : Nat → va_E} (hi : i < n) (hE : E i = .inr (8, [.null, .int 0, .int 0, .int 0, .int 0, .int 0, .long 0])) : KN G yX8_init cX8_init 1 1 1 1000 [.ref (gb_ G + i)] n E (n + 1) (ek8 G E n i) := by
  refine KN.of (lv := [some (.ref (gb_ G + i))]) (by decide +kernel) rfl (Nat.le_of_ble_eq_true rfl) rfl rfl ?_
  refine n_aload_n (pc := 0) dX8_init_0 rfl rfl ?_
  refine n_obj (pc := 1) dX8_init_1 (List.mem_filter.mpr ⟨by decide +kernel, by decide +kernel⟩) oi_i oi_c (by decide) (by decide) ?_
  refine n_aload_n (pc := 4) dX8_init_4 rfl rfl ?_
  refine n_sipush (pc := 5) dX8_init_5 rfl ?_
  refine n_newa (t0 := 3) (N := 1000) (ty := .char) (1000, .inl (fun _ => Int32.ofInt 0)) (pc := 8) dX8_init_8 rfl rfl (fun _ _ h => h) ac_c (by decide) rfl (fun _ => rfl) (by decide) ⟨by decide, by decide⟩ ?_
  refine n_putF (i := i) (c := 8) (k := 0) (fs := [.null, .int 0, .int 0, .int 0, .int 0, .int 0, .long 0]) (ty := .array .char) (pc := 10) dX8_init_10 fX8_9 rfl (fun q hq => by cases hq; rfl) (by omega) ((eS_off (by omega)).trans (hE)) (by decide +kernel) rfl rfl (Nat.le_of_ble_eq_true rfl) ?_
  exact n_vret (pc := 13) dX8_init_13 (by decide) (by decide)

def ek9 (G : GT_) (E : Nat → va_E) (n i : Nat) : Nat → va_E := eS_ (eS_ (eS_ (eS_ (eS_ (eS_ (E) (n) (.inl (gc_ G 0, (4, .inl (fun _ => Int32.ofInt 0))))) i (.inr (9, [.ref (gb_ G + (n)), .null, .null, .int 0]))) (n + 1) (.inl (gc_ G 0, (4, .inl (fun _ => Int32.ofInt 0))))) i (.inr (9, [.ref (gb_ G + (n)), .ref (gb_ G + (n + 1)), .null, .int 0]))) (n + 2) (.inl (gc_ G 0, (4, .inl (fun _ => Int32.ofInt 0))))) i (.inr (9, [.ref (gb_ G + (n)), .ref (gb_ G + (n + 1)), .ref (gb_ G + (n + 2)), .int 0]))

theorem eo9 {G : GT_} {E : Nat → va_E} {n i j : Nat} (hj : j < n) (hi : j ≠ i) : ek9 G E n i j = E j := by
  unfold ek9
  repeat rw [eS_off (by omega)]

set_option maxHeartbeats 2000000 in
theorem k_X9 {G : GT_} {n i : Nat} {E : Nat → va_E} (hi : i < n) (hE : E i = .inr (9, [.null, .null, .null, .int 0])) : KN G yX9_init cX9_init 1 1 3 12 [.ref (gb_ G + i)] n E (n + 3) (ek9 G E n i) := by
  refine KN.of (lv := [some (.ref (gb_ G + i))]) (by decide +kernel) rfl (Nat.le_of_ble_eq_true rfl) rfl rfl ?_
  refine n_aload_n (pc := 0) dX9_init_0 rfl rfl ?_
  refine n_obj (pc := 1) dX9_init_1 (List.mem_filter.mpr ⟨by decide +kernel, by decide +kernel⟩) oi_i oi_c (by decide) (by decide) ?_
  refine n_aload_n (pc := 4) dX9_init_4 rfl rfl ?_
  refine n_iconst (pc := 5) dX9_init_5 ?_
  refine n_newa (t0 := 0) (N := 4) (ty := .int) (4, .inl (fun _ => Int32.ofInt 0)) (pc := 6) dX9_init_6 rfl rfl (fun _ _ h => h) ac_i (by decide) rfl (fun _ => rfl) (by decide) ⟨by decide, by decide⟩ ?_
  refine n_putF (i := i) (c := 9) (k := 0) (fs := [.null, .null, .null, .int 0]) (ty := .array .int) (pc := 8) dX9_init_8 fX9_9 rfl (fun q hq => by cases hq; rfl) (by omega) ((eS_off (by omega)).trans (hE)) (by decide +kernel) rfl rfl (Nat.le_of_ble_eq_true rfl) ?_
  refine n_aload_n (pc := 11) dX9_init_11 rfl rfl ?_
  refine n_iconst (pc := 12) dX9_init_12 ?_
  refine n_newa (t0 := 0) (N := 4) (ty := .int) (4, .inl (fun _ => Int32.ofInt 0)) (pc := 13) dX9_init_13 rfl rfl (fun _ _ h => h) ac_i (by decide) rfl (fun _ => rfl) (by decide) ⟨by decide, by decide⟩ ?_
  refine n_putF (i := i) (c := 9) (k := 1) (fs := [.ref (gb_ G + (n)), .null, .null, .int 0]) (ty := .array .int) (pc := 15) dX9_init_15 fX9_15 rfl (fun q hq => by cases hq; rfl) (by omega) ((eS_off (by omega)).trans (eS_same)) (by decide +kernel) rfl rfl (Nat.le_of_ble_eq_true rfl) ?_
  refine n_aload_n (pc := 18) dX9_init_18 rfl rfl ?_
  refine n_iconst (pc := 19) dX9_init_19 ?_
  refine n_newa (t0 := 0) (N := 4) (ty := .int) (4, .inl (fun _ => Int32.ofInt 0)) (pc := 20) dX9_init_20 rfl rfl (fun _ _ h => h) ac_i (by decide) rfl (fun _ => rfl) (by decide) ⟨by decide, by decide⟩ ?_
  refine n_putF (i := i) (c := 9) (k := 2) (fs := [.ref (gb_ G + (n)), .ref (gb_ G + (n + 1)), .null, .int 0]) (ty := .array .int) (pc := 22) dX9_init_22 fX9_18 rfl (fun q hq => by cases hq; rfl) (by omega) ((eS_off (by omega)).trans (eS_same)) (by decide +kernel) rfl rfl (Nat.le_of_ble_eq_true rfl) ?_
  exact n_vret (pc := 25) dX9_init_25 (by decide) (by decide)

def ek10 (G : GT_) (E : Nat → va_E) (n i : Nat) : Nat → va_E := eS_ (eS_ (eS_ (eS_ (E) (n) (.inl (gc_ G 0, (20, .inl (fun _ => Int32.ofInt 0))))) i (.inr (10, [.ref (gb_ G + (n)), .null, .int 0]))) (n + 1) (.inl (gc_ G 0, (20, .inl (fun _ => Int32.ofInt 0))))) i (.inr (10, [.ref (gb_ G + (n)), .ref (gb_ G + (n + 1)), .int 0]))

theorem eo10 {G : GT_} {E : Nat → va_E} {n i j : Nat} (hj : j < n) (hi : j ≠ i) : ek10 G E n i j = E j := by
  unfold ek10
  repeat rw [eS_off (by omega)]

set_option maxHeartbeats 2000000 in
theorem k_X10 {G : GT_} {n i : Nat} {E : Nat → va_E} (hi : i < n) (hE : E i = .inr (10, [.null, .null, .int 0])) : KN G yX10_init cX10_init 1 1 2 40 [.ref (gb_ G + i)] n E (n + 2) (ek10 G E n i) := by
  refine KN.of (lv := [some (.ref (gb_ G + i))]) (by decide +kernel) rfl (Nat.le_of_ble_eq_true rfl) rfl rfl ?_
  refine n_aload_n (pc := 0) dX10_init_0 rfl rfl ?_
  refine n_obj (pc := 1) dX10_init_1 (List.mem_filter.mpr ⟨by decide +kernel, by decide +kernel⟩) oi_i oi_c (by decide) (by decide) ?_
  refine n_aload_n (pc := 4) dX10_init_4 rfl rfl ?_
  refine n_bipush (pc := 5) dX10_init_5 rfl ?_
  refine n_newa (t0 := 0) (N := 20) (ty := .int) (20, .inl (fun _ => Int32.ofInt 0)) (pc := 7) dX10_init_7 rfl rfl (fun _ _ h => h) ac_i (by decide) rfl (fun _ => rfl) (by decide) ⟨by decide, by decide⟩ ?_
  refine n_putF (i := i) (c := 10) (k := 0) (fs := [.null, .null, .int 0]) (ty := .array .int) (pc := 9) dX10_init_9 fX10_9 rfl (fun q hq => by cases hq; rfl) (by omega) ((eS_off (by omega)).trans (hE)) (by decide +kernel) rfl rfl (Nat.le_of_ble_eq_true rfl) ?_
  refine n_aload_n (pc := 12) dX10_init_12 rfl rfl ?_
  refine n_bipush (pc := 13) dX10_init_13 rfl ?_
  refine n_newa (t0 := 0) (N := 20) (ty := .int) (20, .inl (fun _ => Int32.ofInt 0)) (pc := 15) dX10_init_15 rfl rfl (fun _ _ h => h) ac_i (by decide) rfl (fun _ => rfl) (by decide) ⟨by decide, by decide⟩ ?_
  refine n_putF (i := i) (c := 10) (k := 1) (fs := [.ref (gb_ G + (n)), .null, .int 0]) (ty := .array .int) (pc := 17) dX10_init_17 fX10_15 rfl (fun q hq => by cases hq; rfl) (by omega) ((eS_off (by omega)).trans (eS_same)) (by decide +kernel) rfl rfl (Nat.le_of_ble_eq_true rfl) ?_
  exact n_vret (pc := 20) dX10_init_20 (by decide) (by decide)

def ek0 (G : GT_) (E : Nat → va_E) (n i : Nat) : Nat → va_E := eS_ (eS_ (eS_ (eS_ (E) (n) (.inl (gc_ G 0, (4, .inl (fun _ => Int32.ofInt 0))))) i (.inr (0, [.null, .int 0, .int 0, .int 0, .long 0, .ref (gb_ G + (n)), .null, .int 0, .long 0, .long 0]))) (n + 1) (.inl (gc_ G 0, (4, .inl (fun _ => Int32.ofInt 0))))) i (.inr (0, [.null, .int 0, .int 0, .int 0, .long 0, .ref (gb_ G + (n)), .ref (gb_ G + (n + 1)), .int 0, .long 0, .long 0]))

theorem eo0 {G : GT_} {E : Nat → va_E} {n i j : Nat} (hj : j < n) (hi : j ≠ i) : ek0 G E n i j = E j := by
  unfold ek0
  repeat rw [eS_off (by omega)]

set_option maxHeartbeats 2000000 in
theorem k_X0 {G : GT_} {n i : Nat} {E : Nat → va_E} (hi : i < n) (hE : E i = .inr (0, [.null, .int 0, .int 0, .int 0, .long 0, .null, .null, .int 0, .long 0, .long 0])) : KN G yX0_init cX0_init 1 1 2 8 [.ref (gb_ G + i)] n E (n + 2) (ek0 G E n i) := by
  refine KN.of (lv := [some (.ref (gb_ G + i))]) (by decide +kernel) rfl (Nat.le_of_ble_eq_true rfl) rfl rfl ?_
  refine n_aload_n (pc := 0) dX0_init_0 rfl rfl ?_
  refine n_obj (pc := 1) dX0_init_1 (List.mem_filter.mpr ⟨by decide +kernel, by decide +kernel⟩) oi_i oi_c (by decide) (by decide) ?_
  refine n_aload_n (pc := 4) dX0_init_4 rfl rfl ?_
  refine n_iconst (pc := 5) dX0_init_5 ?_
  refine n_newa (t0 := 0) (N := 4) (ty := .int) (4, .inl (fun _ => Int32.ofInt 0)) (pc := 6) dX0_init_6 rfl rfl (fun _ _ h => h) ac_i (by decide) rfl (fun _ => rfl) (by decide) ⟨by decide, by decide⟩ ?_
  refine n_putF (i := i) (c := 0) (k := 5) (fs := [.null, .int 0, .int 0, .int 0, .long 0, .null, .null, .int 0, .long 0, .long 0]) (ty := .array .int) (pc := 8) dX0_init_8 fX0_9 rfl (fun q hq => by cases hq; rfl) (by omega) ((eS_off (by omega)).trans (hE)) (by decide +kernel) rfl rfl (Nat.le_of_ble_eq_true rfl) ?_
  refine n_aload_n (pc := 11) dX0_init_11 rfl rfl ?_
  refine n_iconst (pc := 12) dX0_init_12 ?_
  refine n_newa (t0 := 0) (N := 4) (ty := .int) (4, .inl (fun _ => Int32.ofInt 0)) (pc := 13) dX0_init_13 rfl rfl (fun _ _ h => h) ac_i (by decide) rfl (fun _ => rfl) (by decide) ⟨by decide, by decide⟩ ?_
  refine n_putF (i := i) (c := 0) (k := 6) (fs := [.null, .int 0, .int 0, .int 0, .long 0, .ref (gb_ G + (n)), .null, .int 0, .long 0, .long 0]) (ty := .array .int) (pc := 15) dX0_init_15 fX0_15 rfl (fun q hq => by cases hq; rfl) (by omega) ((eS_off (by omega)).trans (eS_same)) (by decide +kernel) rfl rfl (Nat.le_of_ble_eq_true rfl) ?_
  exact n_vret (pc := 18) dX0_init_18 (by decide) (by decide)

def ek1 (G : GT_) (E : Nat → va_E) (n i : Nat) : Nat → va_E := eS_ (eS_ (eS_ (eS_ (eS_ (eS_ (eS_ (eS_ (eS_ (eS_ (eS_ (eS_ (eS_ (eS_ (eS_ (eS_ (eS_ (eS_ (E) (n) (.inl (gc_ G 0, (4, .inl (fun _ => Int32.ofInt 0))))) i (.inr (1, [.null, .int 0, .ref (gb_ G + (n)), .null, .null, .null, .null, .null, .null, .null, .null, .int 0, .int 0, .int 0, .int 0, .int 0, .int 0]))) (n + 1) (.inl (gc_ G 0, (384, .inl (fun _ => Int32.ofInt 0))))) i (.inr (1, [.null, .int 0, .ref (gb_ G + (n)), .ref (gb_ G + (n + 1)), .null, .null, .null, .null, .null, .null, .null, .int 0, .int 0, .int 0, .int 0, .int 0, .int 0]))) (n + 2) (.inl (gc_ G 0, (1920, .inl (fun _ => Int32.ofInt 0))))) i (.inr (1, [.null, .int 0, .ref (gb_ G + (n)), .ref (gb_ G + (n + 1)), .ref (gb_ G + (n + 2)), .null, .null, .null, .null, .null, .null, .int 0, .int 0, .int 0, .int 0, .int 0, .int 0]))) (n + 3) (.inl (gc_ G 0, (96, .inl (fun _ => Int32.ofInt 0))))) i (.inr (1, [.null, .int 0, .ref (gb_ G + (n)), .ref (gb_ G + (n + 1)), .ref (gb_ G + (n + 2)), .ref (gb_ G + (n + 3)), .null, .null, .null, .null, .null, .int 0, .int 0, .int 0, .int 0, .int 0, .int 0]))) (n + 4) (.inl (gc_ G 0, (20, .inl (fun _ => Int32.ofInt 0))))) i (.inr (1, [.null, .int 0, .ref (gb_ G + (n)), .ref (gb_ G + (n + 1)), .ref (gb_ G + (n + 2)), .ref (gb_ G + (n + 3)), .ref (gb_ G + (n + 4)), .null, .null, .null, .null, .int 0, .int 0, .int 0, .int 0, .int 0, .int 0]))) (n + 5) (.inl (gc_ G 0, (4, .inl (fun _ => Int32.ofInt 0))))) i (.inr (1, [.null, .int 0, .ref (gb_ G + (n)), .ref (gb_ G + (n + 1)), .ref (gb_ G + (n + 2)), .ref (gb_ G + (n + 3)), .ref (gb_ G + (n + 4)), .ref (gb_ G + (n + 5)), .null, .null, .null, .int 0, .int 0, .int 0, .int 0, .int 0, .int 0]))) (n + 6) (.inl (gc_ G 0, (4, .inl (fun _ => Int32.ofInt 0))))) i (.inr (1, [.null, .int 0, .ref (gb_ G + (n)), .ref (gb_ G + (n + 1)), .ref (gb_ G + (n + 2)), .ref (gb_ G + (n + 3)), .ref (gb_ G + (n + 4)), .ref (gb_ G + (n + 5)), .ref (gb_ G + (n + 6)), .null, .null, .int 0, .int 0, .int 0, .int 0, .int 0, .int 0]))) (n + 7) (.inl (gc_ G 0, (4, .inl (fun _ => Int32.ofInt 0))))) i (.inr (1, [.null, .int 0, .ref (gb_ G + (n)), .ref (gb_ G + (n + 1)), .ref (gb_ G + (n + 2)), .ref (gb_ G + (n + 3)), .ref (gb_ G + (n + 4)), .ref (gb_ G + (n + 5)), .ref (gb_ G + (n + 6)), .ref (gb_ G + (n + 7)), .null, .int 0, .int 0, .int 0, .int 0, .int 0, .int 0]))) (n + 8) (.inl (gc_ G 0, (78, .inl (fun _ => Int32.ofInt 0))))) i (.inr (1, [.null, .int 0, .ref (gb_ G + (n)), .ref (gb_ G + (n + 1)), .ref (gb_ G + (n + 2)), .ref (gb_ G + (n + 3)), .ref (gb_ G + (n + 4)), .ref (gb_ G + (n + 5)), .ref (gb_ G + (n + 6)), .ref (gb_ G + (n + 7)), .ref (gb_ G + (n + 8)), .int 0, .int 0, .int 0, .int 0, .int 0, .int 0]))

theorem eo1 {G : GT_} {E : Nat → va_E} {n i j : Nat} (hj : j < n) (hi : j ≠ i) : ek1 G E n i j = E j := by
  unfold ek1
  repeat rw [eS_off (by omega)]

set_option maxHeartbeats 2000000 in
theorem k_X1 {G : GT_} {n i : Nat} {E : Nat → va_E} (hi : i < n) (hE : E i = .inr (1, [.null, .int 0, .null, .null, .null, .null, .null, .null, .null, .null, .null, .int 0, .int 0, .int 0, .int 0, .int 0, .int 0])) : KN G yX1_init cX1_init 1 1 9 2514 [.ref (gb_ G + i)] n E (n + 9) (ek1 G E n i) := by
  refine KN.of (lv := [some (.ref (gb_ G + i))]) (by decide +kernel) rfl (Nat.le_of_ble_eq_true rfl) rfl rfl ?_
  refine n_aload_n (pc := 0) dX1_init_0 rfl rfl ?_
  refine n_obj (pc := 1) dX1_init_1 (List.mem_filter.mpr ⟨by decide +kernel, by decide +kernel⟩) oi_i oi_c (by decide) (by decide) ?_
  refine n_aload_n (pc := 4) dX1_init_4 rfl rfl ?_
  refine n_iconst (pc := 5) dX1_init_5 ?_
  refine n_newa (t0 := 0) (N := 4) (ty := .int) (4, .inl (fun _ => Int32.ofInt 0)) (pc := 6) dX1_init_6 rfl rfl (fun _ _ h => h) ac_i (by decide) rfl (fun _ => rfl) (by decide) ⟨by decide, by decide⟩ ?_
  refine n_putF (i := i) (c := 1) (k := 2) (fs := [.null, .int 0, .null, .null, .null, .null, .null, .null, .null, .null, .null, .int 0, .int 0, .int 0, .int 0, .int 0, .int 0]) (ty := .array .int) (pc := 8) dX1_init_8 fX1_9 rfl (fun q hq => by cases hq; rfl) (by omega) ((eS_off (by omega)).trans (hE)) (by decide +kernel) rfl rfl (Nat.le_of_ble_eq_true rfl) ?_
  refine n_aload_n (pc := 11) dX1_init_11 rfl rfl ?_
  refine n_sipush (pc := 12) dX1_init_12 rfl ?_
  refine n_newa (t0 := 0) (N := 384) (ty := .int) (384, .inl (fun _ => Int32.ofInt 0)) (pc := 15) dX1_init_15 rfl rfl (fun _ _ h => h) ac_i (by decide) rfl (fun _ => rfl) (by decide) ⟨by decide, by decide⟩ ?_
  refine n_putF (i := i) (c := 1) (k := 3) (fs := [.null, .int 0, .ref (gb_ G + (n)), .null, .null, .null, .null, .null, .null, .null, .null, .int 0, .int 0, .int 0, .int 0, .int 0, .int 0]) (ty := .array .int) (pc := 17) dX1_init_17 fX1_15 rfl (fun q hq => by cases hq; rfl) (by omega) ((eS_off (by omega)).trans (eS_same)) (by decide +kernel) rfl rfl (Nat.le_of_ble_eq_true rfl) ?_
  refine n_aload_n (pc := 20) dX1_init_20 rfl rfl ?_
  refine n_sipush (pc := 21) dX1_init_21 rfl ?_
  refine n_newa (t0 := 0) (N := 1920) (ty := .int) (1920, .inl (fun _ => Int32.ofInt 0)) (pc := 24) dX1_init_24 rfl rfl (fun _ _ h => h) ac_i (by decide) rfl (fun _ => rfl) (by decide) ⟨by decide, by decide⟩ ?_
  refine n_putF (i := i) (c := 1) (k := 4) (fs := [.null, .int 0, .ref (gb_ G + (n)), .ref (gb_ G + (n + 1)), .null, .null, .null, .null, .null, .null, .null, .int 0, .int 0, .int 0, .int 0, .int 0, .int 0]) (ty := .array .int) (pc := 26) dX1_init_26 fX1_18 rfl (fun q hq => by cases hq; rfl) (by omega) ((eS_off (by omega)).trans (eS_same)) (by decide +kernel) rfl rfl (Nat.le_of_ble_eq_true rfl) ?_
  refine n_aload_n (pc := 29) dX1_init_29 rfl rfl ?_
  refine n_bipush (pc := 30) dX1_init_30 rfl ?_
  refine n_newa (t0 := 0) (N := 96) (ty := .int) (96, .inl (fun _ => Int32.ofInt 0)) (pc := 32) dX1_init_32 rfl rfl (fun _ _ h => h) ac_i (by decide) rfl (fun _ => rfl) (by decide) ⟨by decide, by decide⟩ ?_
  refine n_putF (i := i) (c := 1) (k := 5) (fs := [.null, .int 0, .ref (gb_ G + (n)), .ref (gb_ G + (n + 1)), .ref (gb_ G + (n + 2)), .null, .null, .null, .null, .null, .null, .int 0, .int 0, .int 0, .int 0, .int 0, .int 0]) (ty := .array .int) (pc := 34) dX1_init_34 fX1_21 rfl (fun q hq => by cases hq; rfl) (by omega) ((eS_off (by omega)).trans (eS_same)) (by decide +kernel) rfl rfl (Nat.le_of_ble_eq_true rfl) ?_
  refine n_aload_n (pc := 37) dX1_init_37 rfl rfl ?_
  refine n_bipush (pc := 38) dX1_init_38 rfl ?_
  refine n_newa (t0 := 0) (N := 20) (ty := .int) (20, .inl (fun _ => Int32.ofInt 0)) (pc := 40) dX1_init_40 rfl rfl (fun _ _ h => h) ac_i (by decide) rfl (fun _ => rfl) (by decide) ⟨by decide, by decide⟩ ?_
  refine n_putF (i := i) (c := 1) (k := 6) (fs := [.null, .int 0, .ref (gb_ G + (n)), .ref (gb_ G + (n + 1)), .ref (gb_ G + (n + 2)), .ref (gb_ G + (n + 3)), .null, .null, .null, .null, .null, .int 0, .int 0, .int 0, .int 0, .int 0, .int 0]) (ty := .array .int) (pc := 42) dX1_init_42 fX1_24 rfl (fun q hq => by cases hq; rfl) (by omega) ((eS_off (by omega)).trans (eS_same)) (by decide +kernel) rfl rfl (Nat.le_of_ble_eq_true rfl) ?_
  refine n_aload_n (pc := 45) dX1_init_45 rfl rfl ?_
  refine n_iconst (pc := 46) dX1_init_46 ?_
  refine n_newa (t0 := 0) (N := 4) (ty := .int) (4, .inl (fun _ => Int32.ofInt 0)) (pc := 47) dX1_init_47 rfl rfl (fun _ _ h => h) ac_i (by decide) rfl (fun _ => rfl) (by decide) ⟨by decide, by decide⟩ ?_
  refine n_putF (i := i) (c := 1) (k := 7) (fs := [.null, .int 0, .ref (gb_ G + (n)), .ref (gb_ G + (n + 1)), .ref (gb_ G + (n + 2)), .ref (gb_ G + (n + 3)), .ref (gb_ G + (n + 4)), .null, .null, .null, .null, .int 0, .int 0, .int 0, .int 0, .int 0, .int 0]) (ty := .array .int) (pc := 49) dX1_init_49 fX1_27 rfl (fun q hq => by cases hq; rfl) (by omega) ((eS_off (by omega)).trans (eS_same)) (by decide +kernel) rfl rfl (Nat.le_of_ble_eq_true rfl) ?_
  refine n_aload_n (pc := 52) dX1_init_52 rfl rfl ?_
  refine n_iconst (pc := 53) dX1_init_53 ?_
  refine n_newa (t0 := 0) (N := 4) (ty := .int) (4, .inl (fun _ => Int32.ofInt 0)) (pc := 54) dX1_init_54 rfl rfl (fun _ _ h => h) ac_i (by decide) rfl (fun _ => rfl) (by decide) ⟨by decide, by decide⟩ ?_
  refine n_putF (i := i) (c := 1) (k := 8) (fs := [.null, .int 0, .ref (gb_ G + (n)), .ref (gb_ G + (n + 1)), .ref (gb_ G + (n + 2)), .ref (gb_ G + (n + 3)), .ref (gb_ G + (n + 4)), .ref (gb_ G + (n + 5)), .null, .null, .null, .int 0, .int 0, .int 0, .int 0, .int 0, .int 0]) (ty := .array .int) (pc := 56) dX1_init_56 fX1_30 rfl (fun q hq => by cases hq; rfl) (by omega) ((eS_off (by omega)).trans (eS_same)) (by decide +kernel) rfl rfl (Nat.le_of_ble_eq_true rfl) ?_
  refine n_aload_n (pc := 59) dX1_init_59 rfl rfl ?_
  refine n_iconst (pc := 60) dX1_init_60 ?_
  refine n_newa (t0 := 0) (N := 4) (ty := .int) (4, .inl (fun _ => Int32.ofInt 0)) (pc := 61) dX1_init_61 rfl rfl (fun _ _ h => h) ac_i (by decide) rfl (fun _ => rfl) (by decide) ⟨by decide, by decide⟩ ?_
  refine n_putF (i := i) (c := 1) (k := 9) (fs := [.null, .int 0, .ref (gb_ G + (n)), .ref (gb_ G + (n + 1)), .ref (gb_ G + (n + 2)), .ref (gb_ G + (n + 3)), .ref (gb_ G + (n + 4)), .ref (gb_ G + (n + 5)), .ref (gb_ G + (n + 6)), .null, .null, .int 0, .int 0, .int 0, .int 0, .int 0, .int 0]) (ty := .array .int) (pc := 63) dX1_init_63 fX1_33 rfl (fun q hq => by cases hq; rfl) (by omega) ((eS_off (by omega)).trans (eS_same)) (by decide +kernel) rfl rfl (Nat.le_of_ble_eq_true rfl) ?_
  refine n_aload_n (pc := 66) dX1_init_66 rfl rfl ?_
  refine n_bipush (pc := 67) dX1_init_67 rfl ?_
  refine n_newa (t0 := 0) (N := 78) (ty := .int) (78, .inl (fun _ => Int32.ofInt 0)) (pc := 69) dX1_init_69 rfl rfl (fun _ _ h => h) ac_i (by decide) rfl (fun _ => rfl) (by decide) ⟨by decide, by decide⟩ ?_
  refine n_putF (i := i) (c := 1) (k := 10) (fs := [.null, .int 0, .ref (gb_ G + (n)), .ref (gb_ G + (n + 1)), .ref (gb_ G + (n + 2)), .ref (gb_ G + (n + 3)), .ref (gb_ G + (n + 4)), .ref (gb_ G + (n + 5)), .ref (gb_ G + (n + 6)), .ref (gb_ G + (n + 7)), .null, .int 0, .int 0, .int 0, .int 0, .int 0, .int 0]) (ty := .array .int) (pc := 71) dX1_init_71 fX1_36 rfl (fun q hq => by cases hq; rfl) (by omega) ((eS_off (by omega)).trans (eS_same)) (by decide +kernel) rfl rfl (Nat.le_of_ble_eq_true rfl) ?_
  exact n_vret (pc := 74) dX1_init_74 (by decide) (by decide)

def ek2 (G : GT_) (E : Nat → va_E) (n i : Nat) : Nat → va_E := eS_ (eS_ (eS_ (eS_ (eS_ (eS_ (E) (n) (.inl (gc_ G 0, (1000, .inl (fun _ => Int32.ofInt 0))))) i (.inr (2, [.ref (gb_ G + (n)), .null, .null, .int 0]))) (n + 1) (.inl (gc_ G 0, (32, .inl (fun _ => Int32.ofInt 0))))) i (.inr (2, [.ref (gb_ G + (n)), .ref (gb_ G + (n + 1)), .null, .int 0]))) (n + 2) (.inl (gc_ G 0, (5, .inl (fun _ => Int32.ofInt 0))))) i (.inr (2, [.ref (gb_ G + (n)), .ref (gb_ G + (n + 1)), .ref (gb_ G + (n + 2)), .int 0]))

theorem eo2 {G : GT_} {E : Nat → va_E} {n i j : Nat} (hj : j < n) (hi : j ≠ i) : ek2 G E n i j = E j := by
  unfold ek2
  repeat rw [eS_off (by omega)]

set_option maxHeartbeats 2000000 in
theorem k_X2 {G : GT_} {n i : Nat} {E : Nat → va_E} (hi : i < n) (hE : E i = .inr (2, [.null, .null, .null, .int 0])) : KN G yX2_init cX2_init 1 1 3 1037 [.ref (gb_ G + i)] n E (n + 3) (ek2 G E n i) := by
  refine KN.of (lv := [some (.ref (gb_ G + i))]) (by decide +kernel) rfl (Nat.le_of_ble_eq_true rfl) rfl rfl ?_
  refine n_aload_n (pc := 0) dX2_init_0 rfl rfl ?_
  refine n_obj (pc := 1) dX2_init_1 (List.mem_filter.mpr ⟨by decide +kernel, by decide +kernel⟩) oi_i oi_c (by decide) (by decide) ?_
  refine n_aload_n (pc := 4) dX2_init_4 rfl rfl ?_
  refine n_sipush (pc := 5) dX2_init_5 rfl ?_
  refine n_newa (t0 := 0) (N := 1000) (ty := .int) (1000, .inl (fun _ => Int32.ofInt 0)) (pc := 8) dX2_init_8 rfl rfl (fun _ _ h => h) ac_i (by decide) rfl (fun _ => rfl) (by decide) ⟨by decide, by decide⟩ ?_
  refine n_putF (i := i) (c := 2) (k := 0) (fs := [.null, .null, .null, .int 0]) (ty := .array .int) (pc := 10) dX2_init_10 fX2_9 rfl (fun q hq => by cases hq; rfl) (by omega) ((eS_off (by omega)).trans (hE)) (by decide +kernel) rfl rfl (Nat.le_of_ble_eq_true rfl) ?_
  refine n_aload_n (pc := 13) dX2_init_13 rfl rfl ?_
  refine n_bipush (pc := 14) dX2_init_14 rfl ?_
  refine n_newa (t0 := 0) (N := 32) (ty := .int) (32, .inl (fun _ => Int32.ofInt 0)) (pc := 16) dX2_init_16 rfl rfl (fun _ _ h => h) ac_i (by decide) rfl (fun _ => rfl) (by decide) ⟨by decide, by decide⟩ ?_
  refine n_putF (i := i) (c := 2) (k := 1) (fs := [.ref (gb_ G + (n)), .null, .null, .int 0]) (ty := .array .int) (pc := 18) dX2_init_18 fX2_15 rfl (fun q hq => by cases hq; rfl) (by omega) ((eS_off (by omega)).trans (eS_same)) (by decide +kernel) rfl rfl (Nat.le_of_ble_eq_true rfl) ?_
  refine n_aload_n (pc := 21) dX2_init_21 rfl rfl ?_
  refine n_iconst (pc := 22) dX2_init_22 ?_
  refine n_newa (t0 := 0) (N := 5) (ty := .int) (5, .inl (fun _ => Int32.ofInt 0)) (pc := 23) dX2_init_23 rfl rfl (fun _ _ h => h) ac_i (by decide) rfl (fun _ => rfl) (by decide) ⟨by decide, by decide⟩ ?_
  refine n_putF (i := i) (c := 2) (k := 2) (fs := [.ref (gb_ G + (n)), .ref (gb_ G + (n + 1)), .null, .int 0]) (ty := .array .int) (pc := 25) dX2_init_25 fX2_18 rfl (fun q hq => by cases hq; rfl) (by omega) ((eS_off (by omega)).trans (eS_same)) (by decide +kernel) rfl rfl (Nat.le_of_ble_eq_true rfl) ?_
  exact n_vret (pc := 28) dX2_init_28 (by decide) (by decide)

def ek4 (G : GT_) (E : Nat → va_E) (n i : Nat) : Nat → va_E := eS_ (eS_ (eS_ (eS_ (eS_ (eS_ (eS_ (eS_ (E) (n) (.inl (gc_ G 0, (16, .inl (fun _ => Int32.ofInt 0))))) i (.inr (4, [.ref (gb_ G + (n)), .null, .null, .null, .int 0]))) (n + 1) (.inl (gc_ G 0, (4, .inl (fun _ => Int32.ofInt 0))))) i (.inr (4, [.ref (gb_ G + (n)), .ref (gb_ G + (n + 1)), .null, .null, .int 0]))) (n + 2) (.inl (gc_ G 0, (16, .inl (fun _ => Int32.ofInt 0))))) i (.inr (4, [.ref (gb_ G + (n)), .ref (gb_ G + (n + 1)), .ref (gb_ G + (n + 2)), .null, .int 0]))) (n + 3) (.inl (gc_ G 0, (16, .inl (fun _ => Int32.ofInt 0))))) i (.inr (4, [.ref (gb_ G + (n)), .ref (gb_ G + (n + 1)), .ref (gb_ G + (n + 2)), .ref (gb_ G + (n + 3)), .int 0]))

theorem eo4 {G : GT_} {E : Nat → va_E} {n i j : Nat} (hj : j < n) (hi : j ≠ i) : ek4 G E n i j = E j := by
  unfold ek4
  repeat rw [eS_off (by omega)]

set_option maxHeartbeats 2000000 in
theorem k_X4 {G : GT_} {n i : Nat} {E : Nat → va_E} (hi : i < n) (hE : E i = .inr (4, [.null, .null, .null, .null, .int 0])) : KN G yX4_init cX4_init 1 1 4 52 [.ref (gb_ G + i)] n E (n + 4) (ek4 G E n i) := by
  refine KN.of (lv := [some (.ref (gb_ G + i))]) (by decide +kernel) rfl (Nat.le_of_ble_eq_true rfl) rfl rfl ?_
  refine n_aload_n (pc := 0) dX4_init_0 rfl rfl ?_
  refine n_obj (pc := 1) dX4_init_1 (List.mem_filter.mpr ⟨by decide +kernel, by decide +kernel⟩) oi_i oi_c (by decide) (by decide) ?_
  refine n_aload_n (pc := 4) dX4_init_4 rfl rfl ?_
  refine n_bipush (pc := 5) dX4_init_5 rfl ?_
  refine n_newa (t0 := 0) (N := 16) (ty := .int) (16, .inl (fun _ => Int32.ofInt 0)) (pc := 7) dX4_init_7 rfl rfl (fun _ _ h => h) ac_i (by decide) rfl (fun _ => rfl) (by decide) ⟨by decide, by decide⟩ ?_
  refine n_putF (i := i) (c := 4) (k := 0) (fs := [.null, .null, .null, .null, .int 0]) (ty := .array .int) (pc := 9) dX4_init_9 fX4_9 rfl (fun q hq => by cases hq; rfl) (by omega) ((eS_off (by omega)).trans (hE)) (by decide +kernel) rfl rfl (Nat.le_of_ble_eq_true rfl) ?_
  refine n_aload_n (pc := 12) dX4_init_12 rfl rfl ?_
  refine n_iconst (pc := 13) dX4_init_13 ?_
  refine n_newa (t0 := 0) (N := 4) (ty := .int) (4, .inl (fun _ => Int32.ofInt 0)) (pc := 14) dX4_init_14 rfl rfl (fun _ _ h => h) ac_i (by decide) rfl (fun _ => rfl) (by decide) ⟨by decide, by decide⟩ ?_
  refine n_putF (i := i) (c := 4) (k := 1) (fs := [.ref (gb_ G + (n)), .null, .null, .null, .int 0]) (ty := .array .int) (pc := 16) dX4_init_16 fX4_15 rfl (fun q hq => by cases hq; rfl) (by omega) ((eS_off (by omega)).trans (eS_same)) (by decide +kernel) rfl rfl (Nat.le_of_ble_eq_true rfl) ?_
  refine n_aload_n (pc := 19) dX4_init_19 rfl rfl ?_
  refine n_bipush (pc := 20) dX4_init_20 rfl ?_
  refine n_newa (t0 := 0) (N := 16) (ty := .int) (16, .inl (fun _ => Int32.ofInt 0)) (pc := 22) dX4_init_22 rfl rfl (fun _ _ h => h) ac_i (by decide) rfl (fun _ => rfl) (by decide) ⟨by decide, by decide⟩ ?_
  refine n_putF (i := i) (c := 4) (k := 2) (fs := [.ref (gb_ G + (n)), .ref (gb_ G + (n + 1)), .null, .null, .int 0]) (ty := .array .int) (pc := 24) dX4_init_24 fX4_18 rfl (fun q hq => by cases hq; rfl) (by omega) ((eS_off (by omega)).trans (eS_same)) (by decide +kernel) rfl rfl (Nat.le_of_ble_eq_true rfl) ?_
  refine n_aload_n (pc := 27) dX4_init_27 rfl rfl ?_
  refine n_bipush (pc := 28) dX4_init_28 rfl ?_
  refine n_newa (t0 := 0) (N := 16) (ty := .int) (16, .inl (fun _ => Int32.ofInt 0)) (pc := 30) dX4_init_30 rfl rfl (fun _ _ h => h) ac_i (by decide) rfl (fun _ => rfl) (by decide) ⟨by decide, by decide⟩ ?_
  refine n_putF (i := i) (c := 4) (k := 3) (fs := [.ref (gb_ G + (n)), .ref (gb_ G + (n + 1)), .ref (gb_ G + (n + 2)), .null, .int 0]) (ty := .array .int) (pc := 32) dX4_init_32 fX4_21 rfl (fun q hq => by cases hq; rfl) (by omega) ((eS_off (by omega)).trans (eS_same)) (by decide +kernel) rfl rfl (Nat.le_of_ble_eq_true rfl) ?_
  exact n_vret (pc := 35) dX4_init_35 (by decide) (by decide)

def ek3 (G : GT_) (E : Nat → va_E) (n i : Nat) : Nat → va_E := eS_ (eS_ (eS_ (eS_ (eS_ (ek7 G (eS_ (E) (n) (.inr (7, [.null, .null, .null, .int 0]))) (n + 1) (n)) i (.inr (3, [.ref (gb_ G + (n)), .null, .null, .int 0, .int 0, .int 0]))) (n + 4) (.inl (gc_ G 0, (16, .inl (fun _ => Int32.ofInt 0))))) i (.inr (3, [.ref (gb_ G + (n)), .ref (gb_ G + (n + 4)), .null, .int 0, .int 0, .int 0]))) (n + 5) (.inl (gc_ G 0, (40, .inl (fun _ => Int32.ofInt 0))))) i (.inr (3, [.ref (gb_ G + (n)), .ref (gb_ G + (n + 4)), .ref (gb_ G + (n + 5)), .int 0, .int 0, .int 0]))

theorem eo3 {G : GT_} {E : Nat → va_E} {n i j : Nat} (hj : j < n) (hi : j ≠ i) : ek3 G E n i j = E j := by
  unfold ek3
  first | rw [eS_off (by omega)] | rfl
  repeat (first | rw [eS_off (by omega)] | rw [eo7 (by omega) (by omega)] | rw [eo2 (by omega) (by omega)])

set_option maxHeartbeats 2000000 in
theorem k_X3 {G : GT_} (hN : gN_ G) {n i : Nat} {E : Nat → va_E} (hi : i < n) (hE : E i = .inr (3, [.null, .null, .null, .int 0, .int 0, .int 0])) : KN G yX3_init cX3_init 1 2 6 72 [.ref (gb_ G + i)] n E (n + 6) (ek3 G E n i) := by
  refine KN.of (lv := [some (.ref (gb_ G + i))]) (by decide +kernel) rfl (Nat.le_of_ble_eq_true rfl) rfl rfl ?_
  refine n_aload_n (pc := 0) dX3_init_0 rfl rfl ?_
  refine n_obj (pc := 1) dX3_init_1 (List.mem_filter.mpr ⟨by decide +kernel, by decide +kernel⟩) oi_i oi_c (by decide) (by decide) ?_
  refine n_aload_n (pc := 4) dX3_init_4 rfl rfl ?_
  refine n_new (c := 7) (N := 4) (C := RX7) (T := TX7) tyX7 [.null, .null, .null, .int 0] (pc := 5) dX3_init_5 (List.mem_filter.mpr ⟨by decide +kernel, by decide +kernel⟩) (List.mem_filter.mpr ⟨by decide +kernel, by decide +kernel⟩) mX7_init.2.1 rfl tyX7_ok (fun j hj => match j, hj with | 0, _ => rfl | 1, _ => rfl | 2, _ => rfl | 3, _ => rfl | x + 4, h => absurd h (by omega)) ⟨by decide, by decide⟩ ?_
  refine n_dup (pc := 8) dX3_init_8 ?_
  refine n_callN hN (pc := 9) dX3_init_9 (k_X7 (n := n + 1) (i := n) (E := eS_ (E) (n) (.inr (7, [.null, .null, .null, .int 0]))) (by omega) eS_same) rfl (by decide +kernel) mX7_init.1 mX7_init.2.1 (List.mem_filter.mpr ⟨by decide +kernel, by decide +kernel⟩) rfl (by decide +kernel) rfl (by decide) ⟨by decide, by decide⟩ (Nat.le_of_ble_eq_true rfl) ?_
  refine n_putF (i := i) (c := 3) (k := 0) (fs := [.null, .null, .null, .int 0, .int 0, .int 0]) (ty := .object "MiddleSeat$Seating") (pc := 12) dX3_init_12 fX3_12 rfl (fun q hq => by cases hq; rfl) (by omega) ((eo7 (by omega) (by omega)).trans ((eS_off (by omega)).trans (hE))) (by decide +kernel) rfl rfl (Nat.le_of_ble_eq_true rfl) ?_
  refine n_aload_n (pc := 15) dX3_init_15 rfl rfl ?_
  refine n_bipush (pc := 16) dX3_init_16 rfl ?_
  refine n_newa (t0 := 0) (N := 16) (ty := .int) (16, .inl (fun _ => Int32.ofInt 0)) (pc := 18) dX3_init_18 rfl rfl (fun _ _ h => h) ac_i (by decide) rfl (fun _ => rfl) (by decide) ⟨by decide, by decide⟩ ?_
  refine n_putF (i := i) (c := 3) (k := 1) (fs := [.ref (gb_ G + (n)), .null, .null, .int 0, .int 0, .int 0]) (ty := .array .int) (pc := 20) dX3_init_20 fX3_18 rfl (fun q hq => by cases hq; rfl) (by omega) ((eS_off (by omega)).trans (eS_same)) (by decide +kernel) rfl rfl (Nat.le_of_ble_eq_true rfl) ?_
  refine n_aload_n (pc := 23) dX3_init_23 rfl rfl ?_
  refine n_bipush (pc := 24) dX3_init_24 rfl ?_
  refine n_newa (t0 := 0) (N := 40) (ty := .int) (40, .inl (fun _ => Int32.ofInt 0)) (pc := 26) dX3_init_26 rfl rfl (fun _ _ h => h) ac_i (by decide) rfl (fun _ => rfl) (by decide) ⟨by decide, by decide⟩ ?_
  refine n_putF (i := i) (c := 3) (k := 2) (fs := [.ref (gb_ G + (n)), .ref (gb_ G + (n + 4)), .null, .int 0, .int 0, .int 0]) (ty := .array .int) (pc := 28) dX3_init_28 fX3_22 rfl (fun q hq => by cases hq; rfl) (by omega) ((eS_off (by omega)).trans (eS_same)) (by decide +kernel) rfl rfl (Nat.le_of_ble_eq_true rfl) ?_
  exact n_vret (pc := 31) dX3_init_31 (by decide) (by decide)

def ek6 (G : GT_) (E : Nat → va_E) (n i : Nat) : Nat → va_E := eS_ (eS_ (eS_ (eS_ (eS_ (eS_ (eS_ (eS_ (eS_ (ek2 G (eS_ (eS_ (eS_ (eS_ (eS_ (eS_ (eS_ (eS_ (eS_ (eS_ (eS_ (eS_ (eS_ (eS_ (eS_ (E) (n) (.inl (gc_ G 0, (20, .inl (fun _ => Int32.ofInt 0))))) i (.inr (6, [.int 0, .int 0, .int 0, .int 0, .int 0, .int 0, .int 0, .int 0, .ref (gb_ G + (n)), .null, .null, .null, .null, .null, .null, .null, .null, .null, .null, .null]))) (n + 1) (.inl (gc_ G 1, (8, .inr (.inl (fun _ => Int64.ofInt 0)))))) i (.inr (6, [.int 0, .int 0, .int 0, .int 0, .int 0, .int 0, .int 0, .int 0, .ref (gb_ G + (n)), .ref (gb_ G + (n + 1)), .null, .null, .null, .null, .null, .null, .null, .null, .null, .null]))) (n + 2) (.inl (gc_ G 0, (4, .inl (fun _ => Int32.ofInt 0))))) i (.inr (6, [.int 0, .int 0, .int 0, .int 0, .int 0, .int 0, .int 0, .int 0, .ref (gb_ G + (n)), .ref (gb_ G + (n + 1)), .ref (gb_ G + (n + 2)), .null, .null, .null, .null, .null, .null, .null, .null, .null]))) (n + 3) (.inl (gc_ G 0, (4, .inl (fun _ => Int32.ofInt 0))))) i (.inr (6, [.int 0, .int 0, .int 0, .int 0, .int 0, .int 0, .int 0, .int 0, .ref (gb_ G + (n)), .ref (gb_ G + (n + 1)), .ref (gb_ G + (n + 2)), .ref (gb_ G + (n + 3)), .null, .null, .null, .null, .null, .null, .null, .null]))) (n + 4) (.inl (gc_ G 0, (4, .inl (fun _ => Int32.ofInt 0))))) i (.inr (6, [.int 0, .int 0, .int 0, .int 0, .int 0, .int 0, .int 0, .int 0, .ref (gb_ G + (n)), .ref (gb_ G + (n + 1)), .ref (gb_ G + (n + 2)), .ref (gb_ G + (n + 3)), .ref (gb_ G + (n + 4)), .null, .null, .null, .null, .null, .null, .null]))) (n + 5) (.inl (gc_ G 0, (4, .inl (fun _ => Int32.ofInt 0))))) i (.inr (6, [.int 0, .int 0, .int 0, .int 0, .int 0, .int 0, .int 0, .int 0, .ref (gb_ G + (n)), .ref (gb_ G + (n + 1)), .ref (gb_ G + (n + 2)), .ref (gb_ G + (n + 3)), .ref (gb_ G + (n + 4)), .ref (gb_ G + (n + 5)), .null, .null, .null, .null, .null, .null]))) (n + 6) (.inl (gc_ G 0, (4, .inl (fun _ => Int32.ofInt 0))))) i (.inr (6, [.int 0, .int 0, .int 0, .int 0, .int 0, .int 0, .int 0, .int 0, .ref (gb_ G + (n)), .ref (gb_ G + (n + 1)), .ref (gb_ G + (n + 2)), .ref (gb_ G + (n + 3)), .ref (gb_ G + (n + 4)), .ref (gb_ G + (n + 5)), .ref (gb_ G + (n + 6)), .null, .null, .null, .null, .null]))) (n + 7) (.inr (2, [.null, .null, .null, .int 0]))) (n + 8) (n + 7)) i (.inr (6, [.int 0, .int 0, .int 0, .int 0, .int 0, .int 0, .int 0, .int 0, .ref (gb_ G + (n)), .ref (gb_ G + (n + 1)), .ref (gb_ G + (n + 2)), .ref (gb_ G + (n + 3)), .ref (gb_ G + (n + 4)), .ref (gb_ G + (n + 5)), .ref (gb_ G + (n + 6)), .ref (gb_ G + (n + 7)), .null, .null, .null, .null]))) (n + 11) (.inl (gc_ G 0, (5, .inl (fun _ => Int32.ofInt 0))))) i (.inr (6, [.int 0, .int 0, .int 0, .int 0, .int 0, .int 0, .int 0, .int 0, .ref (gb_ G + (n)), .ref (gb_ G + (n + 1)), .ref (gb_ G + (n + 2)), .ref (gb_ G + (n + 3)), .ref (gb_ G + (n + 4)), .ref (gb_ G + (n + 5)), .ref (gb_ G + (n + 6)), .ref (gb_ G + (n + 7)), .ref (gb_ G + (n + 11)), .null, .null, .null]))) (n + 12) (.inl (gc_ G 0, (5, .inl (fun _ => Int32.ofInt 0))))) i (.inr (6, [.int 0, .int 0, .int 0, .int 0, .int 0, .int 0, .int 0, .int 0, .ref (gb_ G + (n)), .ref (gb_ G + (n + 1)), .ref (gb_ G + (n + 2)), .ref (gb_ G + (n + 3)), .ref (gb_ G + (n + 4)), .ref (gb_ G + (n + 5)), .ref (gb_ G + (n + 6)), .ref (gb_ G + (n + 7)), .ref (gb_ G + (n + 11)), .ref (gb_ G + (n + 12)), .null, .null]))) (n + 13) (.inl (gc_ G 0, (24, .inl (fun _ => Int32.ofInt 0))))) i (.inr (6, [.int 0, .int 0, .int 0, .int 0, .int 0, .int 0, .int 0, .int 0, .ref (gb_ G + (n)), .ref (gb_ G + (n + 1)), .ref (gb_ G + (n + 2)), .ref (gb_ G + (n + 3)), .ref (gb_ G + (n + 4)), .ref (gb_ G + (n + 5)), .ref (gb_ G + (n + 6)), .ref (gb_ G + (n + 7)), .ref (gb_ G + (n + 11)), .ref (gb_ G + (n + 12)), .ref (gb_ G + (n + 13)), .null]))) (n + 14) (.inl (gc_ G 0, (192, .inl (fun _ => Int32.ofInt 0))))) i (.inr (6, [.int 0, .int 0, .int 0, .int 0, .int 0, .int 0, .int 0, .int 0, .ref (gb_ G + (n)), .ref (gb_ G + (n + 1)), .ref (gb_ G + (n + 2)), .ref (gb_ G + (n + 3)), .ref (gb_ G + (n + 4)), .ref (gb_ G + (n + 5)), .ref (gb_ G + (n + 6)), .ref (gb_ G + (n + 7)), .ref (gb_ G + (n + 11)), .ref (gb_ G + (n + 12)), .ref (gb_ G + (n + 13)), .ref (gb_ G + (n + 14))]))

theorem eo6 {G : GT_} {E : Nat → va_E} {n i j : Nat} (hj : j < n) (hi : j ≠ i) : ek6 G E n i j = E j := by
  unfold ek6
  first | rw [eS_off (by omega)] | rfl
  repeat (first | rw [eS_off (by omega)] | rw [eo7 (by omega) (by omega)] | rw [eo2 (by omega) (by omega)])

set_option maxHeartbeats 2000000 in
theorem k_X6 {G : GT_} (hN : gN_ G) {n i : Nat} {E : Nat → va_E} (hi : i < n) (hE : E i = .inr (6, [.int 0, .int 0, .int 0, .int 0, .int 0, .int 0, .int 0, .int 0, .null, .null, .null, .null, .null, .null, .null, .null, .null, .null, .null, .null])) : KN G yX6_init cX6_init 1 2 15 1315 [.ref (gb_ G + i)] n E (n + 15) (ek6 G E n i) := by
  refine KN.of (lv := [some (.ref (gb_ G + i))]) (by decide +kernel) rfl (Nat.le_of_ble_eq_true rfl) rfl rfl ?_
  refine n_aload_n (pc := 0) dX6_init_0 rfl rfl ?_
  refine n_obj (pc := 1) dX6_init_1 (List.mem_filter.mpr ⟨by decide +kernel, by decide +kernel⟩) oi_i oi_c (by decide) (by decide) ?_
  refine n_aload_n (pc := 4) dX6_init_4 rfl rfl ?_
  refine n_bipush (pc := 5) dX6_init_5 rfl ?_
  refine n_newa (t0 := 0) (N := 20) (ty := .int) (20, .inl (fun _ => Int32.ofInt 0)) (pc := 7) dX6_init_7 rfl rfl (fun _ _ h => h) ac_i (by decide) rfl (fun _ => rfl) (by decide) ⟨by decide, by decide⟩ ?_
  refine n_putF (i := i) (c := 6) (k := 8) (fs := [.int 0, .int 0, .int 0, .int 0, .int 0, .int 0, .int 0, .int 0, .null, .null, .null, .null, .null, .null, .null, .null, .null, .null, .null, .null]) (ty := .array .int) (pc := 9) dX6_init_9 fX6_11 rfl (fun q hq => by cases hq; rfl) (by omega) ((eS_off (by omega)).trans (hE)) (by decide +kernel) rfl rfl (Nat.le_of_ble_eq_true rfl) ?_
  refine n_aload_n (pc := 12) dX6_init_12 rfl rfl ?_
  refine n_bipush (pc := 13) dX6_init_13 rfl ?_
  refine n_newa (t0 := 1) (N := 8) (ty := .long) (8, .inr (.inl (fun _ => Int64.ofInt 0))) (pc := 15) dX6_init_15 rfl rfl (fun _ _ h => h) ac_j (by decide) rfl (fun _ => rfl) (by decide) ⟨by decide, by decide⟩ ?_
  refine n_putF (i := i) (c := 6) (k := 9) (fs := [.int 0, .int 0, .int 0, .int 0, .int 0, .int 0, .int 0, .int 0, .ref (gb_ G + (n)), .null, .null, .null, .null, .null, .null, .null, .null, .null, .null, .null]) (ty := .array .long) (pc := 17) dX6_init_17 fX6_15 rfl (fun q hq => by cases hq; rfl) (by omega) ((eS_off (by omega)).trans (eS_same)) (by decide +kernel) rfl rfl (Nat.le_of_ble_eq_true rfl) ?_
  refine n_aload_n (pc := 20) dX6_init_20 rfl rfl ?_
  refine n_iconst (pc := 21) dX6_init_21 ?_
  refine n_newa (t0 := 0) (N := 4) (ty := .int) (4, .inl (fun _ => Int32.ofInt 0)) (pc := 22) dX6_init_22 rfl rfl (fun _ _ h => h) ac_i (by decide) rfl (fun _ => rfl) (by decide) ⟨by decide, by decide⟩ ?_
  refine n_putF (i := i) (c := 6) (k := 10) (fs := [.int 0, .int 0, .int 0, .int 0, .int 0, .int 0, .int 0, .int 0, .ref (gb_ G + (n)), .ref (gb_ G + (n + 1)), .null, .null, .null, .null, .null, .null, .null, .null, .null, .null]) (ty := .array .int) (pc := 24) dX6_init_24 fX6_19 rfl (fun q hq => by cases hq; rfl) (by omega) ((eS_off (by omega)).trans (eS_same)) (by decide +kernel) rfl rfl (Nat.le_of_ble_eq_true rfl) ?_
  refine n_aload_n (pc := 27) dX6_init_27 rfl rfl ?_
  refine n_iconst (pc := 28) dX6_init_28 ?_
  refine n_newa (t0 := 0) (N := 4) (ty := .int) (4, .inl (fun _ => Int32.ofInt 0)) (pc := 29) dX6_init_29 rfl rfl (fun _ _ h => h) ac_i (by decide) rfl (fun _ => rfl) (by decide) ⟨by decide, by decide⟩ ?_
  refine n_putF (i := i) (c := 6) (k := 11) (fs := [.int 0, .int 0, .int 0, .int 0, .int 0, .int 0, .int 0, .int 0, .ref (gb_ G + (n)), .ref (gb_ G + (n + 1)), .ref (gb_ G + (n + 2)), .null, .null, .null, .null, .null, .null, .null, .null, .null]) (ty := .array .int) (pc := 31) dX6_init_31 fX6_22 rfl (fun q hq => by cases hq; rfl) (by omega) ((eS_off (by omega)).trans (eS_same)) (by decide +kernel) rfl rfl (Nat.le_of_ble_eq_true rfl) ?_
  refine n_aload_n (pc := 34) dX6_init_34 rfl rfl ?_
  refine n_iconst (pc := 35) dX6_init_35 ?_
  refine n_newa (t0 := 0) (N := 4) (ty := .int) (4, .inl (fun _ => Int32.ofInt 0)) (pc := 36) dX6_init_36 rfl rfl (fun _ _ h => h) ac_i (by decide) rfl (fun _ => rfl) (by decide) ⟨by decide, by decide⟩ ?_
  refine n_putF (i := i) (c := 6) (k := 12) (fs := [.int 0, .int 0, .int 0, .int 0, .int 0, .int 0, .int 0, .int 0, .ref (gb_ G + (n)), .ref (gb_ G + (n + 1)), .ref (gb_ G + (n + 2)), .ref (gb_ G + (n + 3)), .null, .null, .null, .null, .null, .null, .null, .null]) (ty := .array .int) (pc := 38) dX6_init_38 fX6_25 rfl (fun q hq => by cases hq; rfl) (by omega) ((eS_off (by omega)).trans (eS_same)) (by decide +kernel) rfl rfl (Nat.le_of_ble_eq_true rfl) ?_
  refine n_aload_n (pc := 41) dX6_init_41 rfl rfl ?_
  refine n_iconst (pc := 42) dX6_init_42 ?_
  refine n_newa (t0 := 0) (N := 4) (ty := .int) (4, .inl (fun _ => Int32.ofInt 0)) (pc := 43) dX6_init_43 rfl rfl (fun _ _ h => h) ac_i (by decide) rfl (fun _ => rfl) (by decide) ⟨by decide, by decide⟩ ?_
  refine n_putF (i := i) (c := 6) (k := 13) (fs := [.int 0, .int 0, .int 0, .int 0, .int 0, .int 0, .int 0, .int 0, .ref (gb_ G + (n)), .ref (gb_ G + (n + 1)), .ref (gb_ G + (n + 2)), .ref (gb_ G + (n + 3)), .ref (gb_ G + (n + 4)), .null, .null, .null, .null, .null, .null, .null]) (ty := .array .int) (pc := 45) dX6_init_45 fX6_28 rfl (fun q hq => by cases hq; rfl) (by omega) ((eS_off (by omega)).trans (eS_same)) (by decide +kernel) rfl rfl (Nat.le_of_ble_eq_true rfl) ?_
  refine n_aload_n (pc := 48) dX6_init_48 rfl rfl ?_
  refine n_iconst (pc := 49) dX6_init_49 ?_
  refine n_newa (t0 := 0) (N := 4) (ty := .int) (4, .inl (fun _ => Int32.ofInt 0)) (pc := 50) dX6_init_50 rfl rfl (fun _ _ h => h) ac_i (by decide) rfl (fun _ => rfl) (by decide) ⟨by decide, by decide⟩ ?_
  refine n_putF (i := i) (c := 6) (k := 14) (fs := [.int 0, .int 0, .int 0, .int 0, .int 0, .int 0, .int 0, .int 0, .ref (gb_ G + (n)), .ref (gb_ G + (n + 1)), .ref (gb_ G + (n + 2)), .ref (gb_ G + (n + 3)), .ref (gb_ G + (n + 4)), .ref (gb_ G + (n + 5)), .null, .null, .null, .null, .null, .null]) (ty := .array .int) (pc := 52) dX6_init_52 fX6_31 rfl (fun q hq => by cases hq; rfl) (by omega) ((eS_off (by omega)).trans (eS_same)) (by decide +kernel) rfl rfl (Nat.le_of_ble_eq_true rfl) ?_
  refine n_aload_n (pc := 55) dX6_init_55 rfl rfl ?_
  refine n_new (c := 2) (N := 4) (C := RX2) (T := TX2) tyX2 [.null, .null, .null, .int 0] (pc := 56) dX6_init_56 (List.mem_filter.mpr ⟨by decide +kernel, by decide +kernel⟩) (List.mem_filter.mpr ⟨by decide +kernel, by decide +kernel⟩) mX2_init.2.1 rfl tyX2_ok (fun j hj => match j, hj with | 0, _ => rfl | 1, _ => rfl | 2, _ => rfl | 3, _ => rfl | x + 4, h => absurd h (by omega)) ⟨by decide, by decide⟩ ?_
  refine n_dup (pc := 59) dX6_init_59 ?_
  refine n_callN hN (pc := 60) dX6_init_60 (k_X2 (n := n + 8) (i := n + 7) (E := eS_ (eS_ (eS_ (eS_ (eS_ (eS_ (eS_ (eS_ (eS_ (eS_ (eS_ (eS_ (eS_ (eS_ (eS_ (E) (n) (.inl (gc_ G 0, (20, .inl (fun _ => Int32.ofInt 0))))) i (.inr (6, [.int 0, .int 0, .int 0, .int 0, .int 0, .int 0, .int 0, .int 0, .ref (gb_ G + (n)), .null, .null, .null, .null, .null, .null, .null, .null, .null, .null, .null]))) (n + 1) (.inl (gc_ G 1, (8, .inr (.inl (fun _ => Int64.ofInt 0)))))) i (.inr (6, [.int 0, .int 0, .int 0, .int 0, .int 0, .int 0, .int 0, .int 0, .ref (gb_ G + (n)), .ref (gb_ G + (n + 1)), .null, .null, .null, .null, .null, .null, .null, .null, .null, .null]))) (n + 2) (.inl (gc_ G 0, (4, .inl (fun _ => Int32.ofInt 0))))) i (.inr (6, [.int 0, .int 0, .int 0, .int 0, .int 0, .int 0, .int 0, .int 0, .ref (gb_ G + (n)), .ref (gb_ G + (n + 1)), .ref (gb_ G + (n + 2)), .null, .null, .null, .null, .null, .null, .null, .null, .null]))) (n + 3) (.inl (gc_ G 0, (4, .inl (fun _ => Int32.ofInt 0))))) i (.inr (6, [.int 0, .int 0, .int 0, .int 0, .int 0, .int 0, .int 0, .int 0, .ref (gb_ G + (n)), .ref (gb_ G + (n + 1)), .ref (gb_ G + (n + 2)), .ref (gb_ G + (n + 3)), .null, .null, .null, .null, .null, .null, .null, .null]))) (n + 4) (.inl (gc_ G 0, (4, .inl (fun _ => Int32.ofInt 0))))) i (.inr (6, [.int 0, .int 0, .int 0, .int 0, .int 0, .int 0, .int 0, .int 0, .ref (gb_ G + (n)), .ref (gb_ G + (n + 1)), .ref (gb_ G + (n + 2)), .ref (gb_ G + (n + 3)), .ref (gb_ G + (n + 4)), .null, .null, .null, .null, .null, .null, .null]))) (n + 5) (.inl (gc_ G 0, (4, .inl (fun _ => Int32.ofInt 0))))) i (.inr (6, [.int 0, .int 0, .int 0, .int 0, .int 0, .int 0, .int 0, .int 0, .ref (gb_ G + (n)), .ref (gb_ G + (n + 1)), .ref (gb_ G + (n + 2)), .ref (gb_ G + (n + 3)), .ref (gb_ G + (n + 4)), .ref (gb_ G + (n + 5)), .null, .null, .null, .null, .null, .null]))) (n + 6) (.inl (gc_ G 0, (4, .inl (fun _ => Int32.ofInt 0))))) i (.inr (6, [.int 0, .int 0, .int 0, .int 0, .int 0, .int 0, .int 0, .int 0, .ref (gb_ G + (n)), .ref (gb_ G + (n + 1)), .ref (gb_ G + (n + 2)), .ref (gb_ G + (n + 3)), .ref (gb_ G + (n + 4)), .ref (gb_ G + (n + 5)), .ref (gb_ G + (n + 6)), .null, .null, .null, .null, .null]))) (n + 7) (.inr (2, [.null, .null, .null, .int 0]))) (by omega) eS_same) rfl (by decide +kernel) mX2_init.1 mX2_init.2.1 (List.mem_filter.mpr ⟨by decide +kernel, by decide +kernel⟩) rfl (by decide +kernel) rfl (by decide) ⟨by decide, by decide⟩ (Nat.le_of_ble_eq_true rfl) ?_
  refine n_putF (i := i) (c := 6) (k := 15) (fs := [.int 0, .int 0, .int 0, .int 0, .int 0, .int 0, .int 0, .int 0, .ref (gb_ G + (n)), .ref (gb_ G + (n + 1)), .ref (gb_ G + (n + 2)), .ref (gb_ G + (n + 3)), .ref (gb_ G + (n + 4)), .ref (gb_ G + (n + 5)), .ref (gb_ G + (n + 6)), .null, .null, .null, .null, .null]) (ty := .object "MiddleSeat$Law") (pc := 63) dX6_init_63 fX6_37 rfl (fun q hq => by cases hq; rfl) (by omega) ((eo2 (by omega) (by omega)).trans ((eS_off (by omega)).trans (eS_same))) (by decide +kernel) rfl rfl (Nat.le_of_ble_eq_true rfl) ?_
  refine n_aload_n (pc := 66) dX6_init_66 rfl rfl ?_
  refine n_iconst (pc := 67) dX6_init_67 ?_
  refine n_newa (t0 := 0) (N := 5) (ty := .int) (5, .inl (fun _ => Int32.ofInt 0)) (pc := 68) dX6_init_68 rfl rfl (fun _ _ h => h) ac_i (by decide) rfl (fun _ => rfl) (by decide) ⟨by decide, by decide⟩ ?_
  refine n_putF (i := i) (c := 6) (k := 16) (fs := [.int 0, .int 0, .int 0, .int 0, .int 0, .int 0, .int 0, .int 0, .ref (gb_ G + (n)), .ref (gb_ G + (n + 1)), .ref (gb_ G + (n + 2)), .ref (gb_ G + (n + 3)), .ref (gb_ G + (n + 4)), .ref (gb_ G + (n + 5)), .ref (gb_ G + (n + 6)), .ref (gb_ G + (n + 7)), .null, .null, .null, .null]) (ty := .array .int) (pc := 70) dX6_init_70 fX6_41 rfl (fun q hq => by cases hq; rfl) (by omega) ((eS_off (by omega)).trans (eS_same)) (by decide +kernel) rfl rfl (Nat.le_of_ble_eq_true rfl) ?_
  refine n_aload_n (pc := 73) dX6_init_73 rfl rfl ?_
  refine n_iconst (pc := 74) dX6_init_74 ?_
  refine n_newa (t0 := 0) (N := 5) (ty := .int) (5, .inl (fun _ => Int32.ofInt 0)) (pc := 75) dX6_init_75 rfl rfl (fun _ _ h => h) ac_i (by decide) rfl (fun _ => rfl) (by decide) ⟨by decide, by decide⟩ ?_
  refine n_putF (i := i) (c := 6) (k := 17) (fs := [.int 0, .int 0, .int 0, .int 0, .int 0, .int 0, .int 0, .int 0, .ref (gb_ G + (n)), .ref (gb_ G + (n + 1)), .ref (gb_ G + (n + 2)), .ref (gb_ G + (n + 3)), .ref (gb_ G + (n + 4)), .ref (gb_ G + (n + 5)), .ref (gb_ G + (n + 6)), .ref (gb_ G + (n + 7)), .ref (gb_ G + (n + 11)), .null, .null, .null]) (ty := .array .int) (pc := 77) dX6_init_77 fX6_44 rfl (fun q hq => by cases hq; rfl) (by omega) ((eS_off (by omega)).trans (eS_same)) (by decide +kernel) rfl rfl (Nat.le_of_ble_eq_true rfl) ?_
  refine n_aload_n (pc := 80) dX6_init_80 rfl rfl ?_
  refine n_bipush (pc := 81) dX6_init_81 rfl ?_
  refine n_newa (t0 := 0) (N := 24) (ty := .int) (24, .inl (fun _ => Int32.ofInt 0)) (pc := 83) dX6_init_83 rfl rfl (fun _ _ h => h) ac_i (by decide) rfl (fun _ => rfl) (by decide) ⟨by decide, by decide⟩ ?_
  refine n_putF (i := i) (c := 6) (k := 18) (fs := [.int 0, .int 0, .int 0, .int 0, .int 0, .int 0, .int 0, .int 0, .ref (gb_ G + (n)), .ref (gb_ G + (n + 1)), .ref (gb_ G + (n + 2)), .ref (gb_ G + (n + 3)), .ref (gb_ G + (n + 4)), .ref (gb_ G + (n + 5)), .ref (gb_ G + (n + 6)), .ref (gb_ G + (n + 7)), .ref (gb_ G + (n + 11)), .ref (gb_ G + (n + 12)), .null, .null]) (ty := .array .int) (pc := 85) dX6_init_85 fX6_47 rfl (fun q hq => by cases hq; rfl) (by omega) ((eS_off (by omega)).trans (eS_same)) (by decide +kernel) rfl rfl (Nat.le_of_ble_eq_true rfl) ?_
  refine n_aload_n (pc := 88) dX6_init_88 rfl rfl ?_
  refine n_sipush (pc := 89) dX6_init_89 rfl ?_
  refine n_newa (t0 := 0) (N := 192) (ty := .int) (192, .inl (fun _ => Int32.ofInt 0)) (pc := 92) dX6_init_92 rfl rfl (fun _ _ h => h) ac_i (by decide) rfl (fun _ => rfl) (by decide) ⟨by decide, by decide⟩ ?_
  refine n_putF (i := i) (c := 6) (k := 19) (fs := [.int 0, .int 0, .int 0, .int 0, .int 0, .int 0, .int 0, .int 0, .ref (gb_ G + (n)), .ref (gb_ G + (n + 1)), .ref (gb_ G + (n + 2)), .ref (gb_ G + (n + 3)), .ref (gb_ G + (n + 4)), .ref (gb_ G + (n + 5)), .ref (gb_ G + (n + 6)), .ref (gb_ G + (n + 7)), .ref (gb_ G + (n + 11)), .ref (gb_ G + (n + 12)), .ref (gb_ G + (n + 13)), .null]) (ty := .array .int) (pc := 94) dX6_init_94 fX6_50 rfl (fun q hq => by cases hq; rfl) (by omega) ((eS_off (by omega)).trans (eS_same)) (by decide +kernel) rfl rfl (Nat.le_of_ble_eq_true rfl) ?_
  exact n_vret (pc := 97) dX6_init_97 (by decide) (by decide)

