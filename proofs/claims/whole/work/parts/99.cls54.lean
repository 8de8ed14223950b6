/-! ===== the class's road while it is read ===== -/
def CAV_ (ro : Int → Int) (h : PH_) (o : Nat) : Prop := (∀ r, 0 ≤ r → r < 4 → h (o + 7) r = ro (31 + 4 * r + 3)) ∧ (∀ r, 0 ≤ r → r < 4 → (0 ≤ h (o + 6) r ∧ h (o + 6) r ≤ 15) ∧ ∀ e, 0 ≤ e → e < 4 → (h (o + 6) r / 2 ^ e.toNat % 2 = 1 ↔ ro (47 + 4 * r + e) = 1))
def CW1_ (h : PH_) (o : Nat) : Option CO_ → Prop
  | none => h (o + 13) 4 ≤ h (o + 12) 4
  | some P => CLA_ h o 4 P ∧ 1 ≤ P.length
def CWQ_ (W : Option CO_) (Q : List CO_) (h : PH_) (o : Nat) : Prop := CW1_ h o W ∧ ∀ j : Nat, j < Q.length → CLA_ h o (j : Int) (Q.getD j [])
def CZ_ (Z : ZT_) (h : PH_) (o : Nat) (a : Nat) : Prop := CRD_ Z.1 h o ∧ (h o 3 = Z.1 3 ∧ h o 6 = Z.2.2.2.2 ∧ h o 7 = 0) ∧ CAV_ Z.1 h o ∧ CNM_ Z.2.1 (h (o + 2)) (Z.1 2) (Z.1 3) ∧ CWQ_ Z.2.2.1 Z.2.2.2.1 h o ∧ (0 ≤ h (o + 8) 3 ∧ h (o + 8) 3 ≤ a) ∧ (∀ x, 0 ≤ x → x < 192 → h (o + 15) x = -1) ∧ zok_ Z
def RLC_ (o : Nat) : List Nat := [1, 3, o, o + 1, o + 2, o + 3, o + 4, o + 5, o + 6, o + 7, o + 8, o + 9, o + 12, o + 13]
def LNF_ (o : Nat) (h h' : PH_) : Prop := off_ (RLC_ o) h h' ∧ (∀ k, k ≠ 2 → k ≠ 3 → k ≠ 4 → k ≠ 5 → h' 3 k = h 3 k) ∧ h' 1 2 = h 1 2
theorem LNF_rf {o : Nat} {h : PH_} : LNF_ o h h := ⟨off_rf, fun _ _ _ _ _ => rfl, rfl⟩
theorem LNF_tr {o : Nat} {a b c : PH_} (h1 : LNF_ o a b) (h2 : LNF_ o b c) : LNF_ o a c := ⟨off_tr h1.1 h2.1, fun k k2 k3 k4 k5 => (h2.2.1 k k2 k3 k4 k5).trans (h1.2.1 k k2 k3 k4 k5), h2.2.2.trans h1.2.2⟩
theorem LNF_3 {o : Nat} {ks : List Int} {a b : PH_} (h : fr3_ ks a b) (hk : ∀ k, k ∈ ks → k = 2 ∨ k = 3 ∨ k = 4 ∨ k = 5) : LNF_ o a b := ⟨off_mo h.1 (by simp [RLC_]), fun k k2 k3 k4 k5 => h.2.1 k (fun u => by have := hk k u; omega), h.2.2⟩
theorem LNF_u {o i : Nat} {h : PH_} {x z : Int} (hi : i ∈ RLC_ o) (h1 : i ≠ 1) (h3 : i ≠ 3) : LNF_ o h (up_ h i x z) := ⟨off_up off_rf hi, fun k _ _ _ _ => by rw [up_off (fun u => h3 u.symm)], by rw [up_off (fun u => h1 u.symm)]⟩
def LNR_ (tp : Int → Int) (n : Int) (o : Nat) (X : LR_) (z : Int) (h' : PH_) : Prop := (z = 1 ∧ ∃ q, X = .ok q ∧ isS_ (tk_ tp n q.2) 59 ∧ CPO_ tp n h' (q.2 + 1) ∧ (q.2 : Int) + 1 ≤ n ∧ CZ_ q.1 h' o (q.2 + 1)) ∨ (z = 0 ∧ ∃ e, (X = .error e ∨ ∃ q, X = .ok q ∧ tks2_ (tk_ tp n) 59 q.2 = .error e) ∧ h' 3 3 = e ∧ 0 < e)
theorem CLA_mv {h h' : PH_} {o : Nat} {k : Int} {P : CO_} (H : CLA_ h o k P) (e9 : h' (o + 9) = h (o + 9)) (e12 : h' (o + 12) = h (o + 12)) (e13 : h' (o + 13) = h (o + 13)) (e8 : h' (o + 8) 3 = h (o + 8) 3) : CLA_ h' o k P := by unfold CLA_ at *; rw [e9, e12, e13, e8]; exact H
theorem CWQ_mv {W : Option CO_} {Q : List CO_} {h h' : PH_} {o : Nat} (H : CWQ_ W Q h o) (e9 : h' (o + 9) = h (o + 9)) (e12 : h' (o + 12) = h (o + 12)) (e13 : h' (o + 13) = h (o + 13)) (e8 : h' (o + 8) 3 = h (o + 8) 3) : CWQ_ W Q h' o := by
  refine ⟨?_, fun j hj => CLA_mv (H.2 j hj) e9 e12 e13 e8⟩
  cases W with
  | none => show h' (o + 13) 4 ≤ h' (o + 12) 4; rw [e12, e13]; exact H.1
  | some P => exact ⟨CLA_mv H.1.1 e9 e12 e13 e8, H.1.2⟩
theorem CZ_f {Z : ZT_} {h h' : PH_} {o a b : Nat} (ho : is6_ o) (H : CZ_ Z h o a) (f : off_ [1, 3] h h') (hab : a ≤ b) : CZ_ Z h' o b := by
  have e : ∀ i, i ≠ 1 → i ≠ 3 → h' i = h i := fun i i1 i3 => f i (by simp; exact ⟨i1, i3⟩)
  obtain ⟨z1, z2, z3, z4, z5, z6, z7, z8⟩ := H
  refine ⟨CRD_cg z1 (fun k _ => congrFun (e o (by omega) (by omega)) k) (e _ (by omega) (by omega)) (e _ (by omega) (by omega)) (e _ (by omega) (by omega)) (e _ (by omega) (by omega)) (e _ (by omega) (by omega)) (e _ (by omega) (by omega)), by rw [e o (by omega) (by omega)]; exact z2, ?_, by rw [e _ (by omega) (by omega)]; exact z4, CWQ_mv z5 (e _ (by omega) (by omega)) (e _ (by omega) (by omega)) (e _ (by omega) (by omega)) (by rw [e _ (by omega) (by omega)]), by rw [e _ (by omega) (by omega)]; omega, by rw [e _ (by omega) (by omega)]; exact z7, z8⟩
  unfold CAV_ at *
  rw [e (o + 7) (by omega) (by omega), e (o + 6) (by omega) (by omega)]; exact z3
/-- gaps, fight, what is never: one slot -/
theorem CZ_gap {Z : ZT_} {h : PH_} {o a b : Nat} {v : Int} (ho : is6_ o) (H : CZ_ Z h o a) (hz : zok_ (ob_ Z.1 10 v, Z.2)) (hab : a ≤ b) : CZ_ (ob_ Z.1 10 v, Z.2) (up_ h o 4 v) o b := by
  obtain ⟨z1, z2, z3, z4, z5, z6, z7, z8⟩ := H
  have e : ∀ i, i ≠ o → up_ h o 4 v i = h i := fun i hi => up_off hi
  have eo : ∀ k, k ≠ 4 → up_ h o 4 v o k = h o k := fun k hk => by rw [up_at, if_neg hk]
  have er : ∀ k, k ≠ 10 → ob_ Z.1 10 v k = Z.1 k := fun k hk => if_neg hk
  refine ⟨?_, ?_, ?_, ?_, CWQ_mv z5 (e _ (by omega)) (e _ (by omega)) (e _ (by omega)) (by rw [e _ (by omega)]), by rw [e _ (by omega)]; omega, by rw [e _ (by omega)]; exact z7, hz⟩
  · obtain ⟨⟨c0, c1, c2, c4, c5⟩, cb, ct, cr, ca⟩ := z1
    show CRD_ (ob_ Z.1 10 v) _ _
    unfold CRD_
    rw [eo 0 (by decide), eo 1 (by decide), eo 2 (by decide), eo 5 (by decide), up_same, er 0 (by decide), er 1 (by decide), er 2 (by decide), er 4 (by decide), e (o + 1) (by omega), e (o + 3) (by omega), e (o + 4) (by omega), e (o + 5) (by omega), e (o + 6) (by omega), e (o + 7) (by omega)]
    refine ⟨⟨c0, c1, c2, rfl, c5⟩, cb, fun t w t0 t1 w0 w1 => by rw [er _ (by omega)]; exact ct t w t0 t1 w0 w1, fun r r0 r1 => by rw [er _ (by omega), er _ (by omega), er _ (by omega), er _ (by omega)]; exact cr r r0 r1, fun r x r0 r1 x0 x1 => by rw [er _ (by omega)]; exact ca r x r0 r1 x0 x1⟩
  · rw [eo 3 (by decide), eo 6 (by decide), eo 7 (by decide)]; exact ⟨by rw [z2.1]; exact (er 3 (by decide)).symm, z2.2⟩
  · show CAV_ (ob_ Z.1 10 v) _ _
    unfold CAV_ at *
    rw [e (o + 7) (by omega), e (o + 6) (by omega)]
    exact ⟨fun r r0 r1 => by rw [er _ (by omega)]; exact z3.1 r r0 r1, fun r r0 r1 => ⟨(z3.2 r r0 r1).1, fun x x0 x1 => by rw [er _ (by omega)]; exact (z3.2 r r0 r1).2 x x0 x1⟩⟩
  · show CNM_ Z.2.1 _ (ob_ Z.1 10 v 2) (ob_ Z.1 10 v 3)
    rw [er 2 (by decide), er 3 (by decide), e _ (by omega)]; exact z4
theorem CZ_fight {Z : ZT_} {h : PH_} {o a b : Nat} {v : Int} (ho : is6_ o) (H : CZ_ Z h o a) (hz : zok_ (ob_ Z.1 4 v, Z.2.1, Z.2.2.1, Z.2.2.2.1, 1)) (hab : a ≤ b) : CZ_ (ob_ Z.1 4 v, Z.2.1, Z.2.2.1, Z.2.2.2.1, 1) (up_ (up_ h o 5 v) o 6 1) o b := by
  obtain ⟨z1, z2, z3, z4, z5, z6, z7, z8⟩ := H
  have e : ∀ i, i ≠ o → up_ (up_ h o 5 v) o 6 1 i = h i := fun i hi => by rw [up_off hi, up_off hi]
  have eo : ∀ k, k ≠ 5 → k ≠ 6 → up_ (up_ h o 5 v) o 6 1 o k = h o k := fun k h5 h6 => by rw [up_at, if_neg h6, up_at, if_neg h5]
  have er : ∀ k, k ≠ 4 → ob_ Z.1 4 v k = Z.1 k := fun k hk => if_neg hk
  have zb := hz.1
  refine ⟨?_, ?_, ?_, ?_, CWQ_mv z5 (e _ (by omega)) (e _ (by omega)) (e _ (by omega)) (by rw [e _ (by omega)]), by rw [e _ (by omega)]; omega, by rw [e _ (by omega)]; exact z7, hz⟩
  · obtain ⟨⟨c0, c1, c2, c4, c5⟩, cb, ct, cr, ca⟩ := z1
    show CRD_ (ob_ Z.1 4 v) _ _
    unfold CRD_
    rw [eo 0 (by decide) (by decide), eo 1 (by decide) (by decide), eo 2 (by decide) (by decide), eo 4 (by decide) (by decide), er 0 (by decide), er 1 (by decide), er 2 (by decide), er 10 (by decide), e (o + 1) (by omega), e (o + 3) (by omega), e (o + 4) (by omega), e (o + 5) (by omega), e (o + 6) (by omega), e (o + 7) (by omega)]
    refine ⟨⟨c0, c1, c2, c4, by rw [up_at, if_neg (by decide), up_same]; rfl⟩, ⟨cb.1, cb.2.1, cb.2.2.1, zb.2.2.2.2.1⟩, fun t w t0 t1 w0 w1 => by rw [er _ (by omega)]; exact ct t w t0 t1 w0 w1, fun r r0 r1 => by rw [er _ (by omega), er _ (by omega), er _ (by omega), er _ (by omega)]; exact cr r r0 r1, fun r x r0 r1 x0 x1 => by rw [er _ (by omega)]; exact ca r x r0 r1 x0 x1⟩
  · rw [eo 3 (by decide) (by decide), up_same, eo 7 (by decide) (by decide)]; exact ⟨by rw [z2.1]; exact (er 3 (by decide)).symm, rfl, z2.2.2⟩
  · show CAV_ (ob_ Z.1 4 v) _ _
    unfold CAV_ at *
    rw [e (o + 7) (by omega), e (o + 6) (by omega)]
    exact ⟨fun r r0 r1 => by rw [er _ (by omega)]; exact z3.1 r r0 r1, fun r r0 r1 => ⟨(z3.2 r r0 r1).1, fun x x0 x1 => by rw [er _ (by omega)]; exact (z3.2 r r0 r1).2 x x0 x1⟩⟩
  · show CNM_ Z.2.1 _ (ob_ Z.1 4 v 2) (ob_ Z.1 4 v 3)
    rw [er 2 (by decide), er 3 (by decide), e _ (by omega)]; exact z4
theorem CZ_never {Z : ZT_} {h : PH_} {o a b : Nat} {u v : Int} (ho : is6_ o) (H : CZ_ Z h o a) (hu : 0 ≤ u ∧ u < 4) (hz : zok_ (ob_ Z.1 (31 + 4 * u + 3) v, Z.2)) (hab : a ≤ b) : CZ_ (ob_ Z.1 (31 + 4 * u + 3) v, Z.2) (up_ h (o + 7) u v) o b := by
  obtain ⟨z1, z2, z3, z4, z5, z6, z7, z8⟩ := H
  have e : ∀ i, i ≠ o + 7 → up_ h (o + 7) u v i = h i := fun i hi => up_off hi
  have er : ∀ k, k ≠ 31 + 4 * u + 3 → ob_ Z.1 (31 + 4 * u + 3) v k = Z.1 k := fun k hk => if_neg hk
  have e7 : ∀ r, 0 ≤ r → r < 4 → up_ h (o + 7) u v (o + 7) r = ob_ Z.1 (31 + 4 * u + 3) v (31 + 4 * r + 3) := fun r r0 r1 => by
    rw [up_at]; unfold ob_
    by_cases c : r = u
    · rw [if_pos c, if_pos (by omega)]
    · rw [if_neg c, if_neg (by omega)]; exact z3.1 r r0 r1
  refine ⟨?_, ?_, ?_, ?_, CWQ_mv z5 (e _ (by omega)) (e _ (by omega)) (e _ (by omega)) (by rw [e _ (by omega)]), by rw [e _ (by omega)]; omega, by rw [e _ (by omega)]; exact z7, hz⟩
  · obtain ⟨⟨c0, c1, c2, c4, c5⟩, cb, ct, cr, ca⟩ := z1
    show CRD_ (ob_ Z.1 (31 + 4 * u + 3) v) _ _
    unfold CRD_
    rw [e o (by omega), er 0 (by omega), er 1 (by omega), er 2 (by omega), er 4 (by omega), er 10 (by omega), e (o + 1) (by omega), e (o + 3) (by omega), e (o + 4) (by omega), e (o + 5) (by omega), e (o + 6) (by omega)]
    refine ⟨⟨c0, c1, c2, c4, c5⟩, cb, fun t w t0 t1 w0 w1 => by rw [er _ (by omega)]; exact ct t w t0 t1 w0 w1, fun r r0 r1 => ?_, fun r x r0 r1 x0 x1 => by rw [er _ (by omega)]; exact ca r x r0 r1 x0 x1⟩
    have q := cr r r0 r1
    rw [er (31 + 4 * r) (by omega), er (31 + 4 * r + 1) (by omega), er (31 + 4 * r + 2) (by omega)]
    exact ⟨q.1, q.2.1, q.2.2.1, e7 r r0 (by omega)⟩
  · rw [e o (by omega)]; exact ⟨by rw [z2.1]; exact (er 3 (by omega)).symm, z2.2⟩
  · show CAV_ (ob_ Z.1 (31 + 4 * u + 3) v) _ _
    unfold CAV_ at *
    rw [e (o + 6) (by omega)]
    exact ⟨e7, fun r r0 r1 => ⟨(z3.2 r r0 r1).1, fun x x0 x1 => by rw [er _ (by omega)]; exact (z3.2 r r0 r1).2 x x0 x1⟩⟩
  · show CNM_ Z.2.1 _ (ob_ Z.1 (31 + 4 * u + 3) v 2) (ob_ Z.1 (31 + 4 * u + 3) v 3)
    rw [er 2 (by omega), er 3 (by omega), e _ (by omega)]; exact z4
theorem trd_e {tk : Nat → TK_} {nm : NM_} {a : Nat} {e : Int} (h : trd_ tk nm a = .error e) : rdh_ tk nm a = .error e := by
  unfold trd_ at h
  cases x : rdh_ tk nm a with
  | error y =>
    rw [x] at h
    have h : (Except.error y : RE_ (Int × Nat)) = .error e := h
    injection h with h
    rw [h]
  | ok v => rw [x] at h; cases h
def CPD_ (tp : Int → Int) (n : Int) (h : PH_) (z : Int) (X : RE_ Nat) : Prop := (z = 1 ∧ ∃ a, X = .ok a ∧ CPO_ tp n h a) ∨ (z = 0 ∧ ∃ e, X = .error e ∧ h 3 3 = e ∧ 0 < e)
theorem CPR_w {tp : Int → Int} {n : Int} {h : PH_} {z : Int} {X : RE_ Nat} (H : CPR_ tp n h z X) : CPD_ tp n h z X := CPR_d H

set_option maxHeartbeats 4000000 in
set_option maxRecDepth 100000 in
theorem d_gapLine {G : GT_} (hC : okC_ G) (h : PH_) (tp : Int → Int) (n : Int) (o : Nat) (ho : is6_ o) (a : Nat) (H : CPO_ tp n h a) (hland : h 3 1 = (o : Int)) (Z : ZT_) (hZ : CZ_ Z h o a) (hne : (tk_ tp n a).1 ≠ 0) : PC G yX5_gapLine cX5_gapLine 1 (some .boolean) 8 [rr_ G 3] h (qi_ (fun z h' => LNF_ o h h' ∧ LNR_ tp n o (gln_ (tk_ tp n) Z a) z h')) := by
  have HB := CPO_b H
  have hl_h := hland
  have HA := hZ.1.1
  have zk := hZ.2.2.2.2.2.2.2
  have zb := zk.1
  have an := tk_lt HB.1.1 hne
  have e0 := HA.1
  refine PC.of (lv := [some (rr_ G 3)]) (by decide +kernel) (Nat.le_of_ble_eq_true rfl) rfl rfl ?_
  refine pw_aload_n (z := 3) (pc := 0) dX5_gapLine_0 rfl rfl ?_
  refine pw_getR (r := 1) (pc := 1) dX5_gapLine_1 fX5_17 (hC 3 (by decide)) (show kd_ 3 = 15 by decide +kernel) rfl (by decide +kernel) ?_
  refine pw_callV (c := 8) (o := 1) (As := []) (rest := []) (pc := 4) dX5_gapLine_4 (d_step hC h tp n HB.2.2.2.2.2.1 (a + 1) HB.2.2.2.2.2.2.1) lX5_111 mX8_step vX8_step (hC 1 (by decide)) (show kd_ 1 = 18 by decide +kernel) rfl rfl rfl (by decide) ⟨Nat.zero_le _, Nat.zero_le _⟩ (Nat.le_of_ble_eq_true rfl) (k_v (fun h4 q4 => ?_))
  obtain ⟨f4, k4, p4⟩ := q4
  obtain ⟨H4, F4⟩ := CPO_st H f4 k4 p4
  have hl_h4 : h4 3 1 = (o : Int) := by rw [F4.2.1 1 (by simp)]; exact hland
  have N4 : LNF_ o h h4 := LNF_3 F4 (by simp)
  refine pw_aload_n (z := 3) (pc := 7) dX5_gapLine_7 rfl rfl ?_
  refine pw_iconst (pc := 8) dX5_gapLine_8 ?_
  refine pw_aload_n (z := 3) (pc := 9) dX5_gapLine_9 rfl rfl ?_
  have n_h4_3_1 : h4 3 1 = h 3 1 := (congrFun (f4 3 (by first | decide | (simp; done) | (simp; omega))) 1)
  refine pw_gD (x := 1) (r := o) (pc := 10) dX5_gapLine_10 fX5_94 (hC 3 (by decide)) (show kd_ 3 = 15 by decide +kernel) rfl rfl (n_h4_3_1.trans hl_h) ?_
  refine pw_gI (x := 0) (pc := 13) dX5_gapLine_13 fX5_151 (hC _ (by omega)) (kd6_0 ho) rfl rfl (fun r13 => ?_)
  have n_h4_o_0 : h4 o 0 = h o 0 := (congrFun (f4 o (by first | decide | (simp; done) | (simp; omega))) 0)
  rw [n_h4_o_0] at r13 ⊢
  refine pw_iconst (pc := 16) dX5_gapLine_16 ?_
  refine pw_isub (pc := 17) dX5_gapLine_17 ?_
  refine pw_callV (c := 5) (o := 3) (As := [ii_ 0, ii_ ((h o 0) - 2)]) (rest := []) (pc := 18) dX5_gapLine_18 (d_takeNum hC h4 tp n (a + 1) H4 0 ((h o 0) - 2) (by first | omega | (simp only [n_h4_3_1, n_h4_o_0]; omega)) (by first | omega | (simp only [n_h4_3_1, n_h4_o_0]; omega))) lX5_147 mX5_takeNumber vX5_takeNumber (hC 3 (by decide)) (show kd_ 3 = 15 by decide +kernel) rfl rfl rfl (by decide) ⟨Nat.zero_le _, Nat.zero_le _⟩ (Nat.le_of_ble_eq_true rfl) (k_i (fun z18 h18 y18 q18 => ?_))
  replace q18 := (⟨q18.1, CPN_d q18.2⟩ : _ ∧ _)
  obtain ⟨f18, ⟨rfl, p18⟩ | ⟨rfl, p18⟩⟩ := q18
  · have N18 : LNF_ o h h18 := LNF_tr N4 (LNF_3 f18 (by simp))
    rw [e0] at p18
    obtain ⟨⟨s18, b18⟩, t18, H18, n18⟩ := p18
    have H18 : CPO_ tp n h18 b18 := H18
    have n18 : h18 3 4 = s18 := n18
    obtain ⟨sb18, be18, te18⟩ := tkn_o t18
    have sb18 : 0 ≤ s18 ∧ s18 ≤ Z.1 0 - 2 := sb18
    have be18 : b18 = a + 1 + 1 := be18
    have hl_h18 : h18 3 1 = (o : Int) := by rw [f18.2.1 1 (by simp)]; exact hl_h4
    have bn18 := tk_lt HB.1.1 (show (tk_ tp n (a + 1)).1 ≠ 0 by rw [te18]; decide)
    have p18 := t18
    simp -failIfUnchanged only [n_h4_3_1, n_h4_o_0] at p18
    refine pw_if_ne (t := 26) (pc := 21) dX5_gapLine_21 (by decide) (by first | omega | (simp only [n_h4_3_1, n_h4_o_0]; omega)) (fun _ => ?_) (fun c21 => absurd c21 (by decide))
    refine pw_aload_n (z := 3) (pc := 26) dX5_gapLine_26 rfl rfl ?_
    refine pw_gD (x := 1) (r := o) (pc := 27) dX5_gapLine_27 fX5_94 (hC 3 (by decide)) (show kd_ 3 = 15 by decide +kernel) rfl rfl hl_h18 ?_
    refine pw_gI (x := 4) (pc := 30) dX5_gapLine_30 fX5_195 (hC _ (by omega)) (kd6_0 ho) rfl rfl (fun r30 => ?_)
    have n_h18_o_4 : h18 o 4 = h o 4 := ((show h18 o 4 = h4 o 4 from (congrFun (f18.1 o (by first | decide | (simp; done) | (simp; omega))) 4)).trans (show h4 o 4 = h o 4 from (congrFun (f4 o (by first | decide | (simp; done) | (simp; omega))) 4)))
    rw [n_h18_o_4] at r30 ⊢
    refine pw_aload_n (z := 3) (pc := 33) dX5_gapLine_33 rfl rfl ?_
    refine pw_gI (x := 4) (pc := 34) dX5_gapLine_34 fX5_118 (hC 3 (by decide)) (show kd_ 3 = 15 by decide +kernel) rfl rfl (fun r34 => ?_)
    have sh := sb18
    rw [n18]
    refine pw_ishr (pc := 37) dX5_gapLine_37 (by first | omega | (simp only [n_h18_o_4, n_h4_3_1, n_h4_o_0]; omega)) (by first | omega | (simp only [n_h18_o_4, n_h4_3_1, n_h4_o_0]; omega)) ?_
    refine pw_iconst (pc := 38) dX5_gapLine_38 ?_
    refine pw_iand1 (pc := 39) dX5_gapLine_39 ?_
    refine pw_if_eq (t := 49) (pc := 40) dX5_gapLine_40 (by decide) (by first | omega | (simp only [n_h18_o_4, n_h4_3_1, n_h4_o_0]; omega)) (fun c40 => ?_) (fun c40 => ?_)
    · have nb : ¬ Z.1 10 / 2 ^ s18.toNat % 2 = 1 := by rw [← HA.2.2.2.1]; omega
      have p2 := p2m (m := s18) (by omega)
      have bs := bset_ (v := Z.1 10) (s := s18) (by omega) (by omega) nb
      refine pw_aload_n (z := 3) (pc := 49) dX5_gapLine_49 rfl rfl ?_
      refine pw_gD (x := 1) (r := o) (pc := 50) dX5_gapLine_50 fX5_94 (hC 3 (by decide)) (show kd_ 3 = 15 by decide +kernel) rfl rfl hl_h18 ?_
      refine pw_dup (pc := 53) dX5_gapLine_53 rfl ?_
      refine pw_gI (x := 4) (pc := 54) dX5_gapLine_54 fX5_195 (hC _ (by omega)) (kd6_0 ho) rfl rfl (fun r54 => ?_)
      rw [n_h18_o_4] at r54 ⊢
      refine pw_iconst (pc := 57) dX5_gapLine_57 ?_
      refine pw_aload_n (z := 3) (pc := 58) dX5_gapLine_58 rfl rfl ?_
      refine pw_gI (x := 4) (pc := 59) dX5_gapLine_59 fX5_118 (hC 3 (by decide)) (show kd_ 3 = 15 by decide +kernel) rfl rfl (fun r59 => ?_)
      rw [n18]
      refine pw_ishl1 (pc := 62) dX5_gapLine_62 (by first | omega | (simp only [n_h18_o_4, n_h4_3_1, n_h4_o_0]; omega)) ?_
      refine pw_iorX (pc := 63) dX5_gapLine_63 (by first | omega | (simp only [n_h18_o_4, n_h4_3_1, n_h4_o_0]; omega)) (by first | omega | (simp only [n_h18_o_4, n_h4_3_1, n_h4_o_0]; omega)) (fun w63 r63 x63 => ?_)
      have w64 : w63 = Z.1 10 + 2 ^ s18.toNat := by rw [x63 (by omega) (by omega), HA.2.2.2.1]; exact bs.1
      refine pw_pI (x := 4) (pc := 64) dX5_gapLine_64 fX5_195 (hC _ (by omega)) (kd6_0 ho) rfl rfl (by first | omega | (simp only [n_h18_o_4, n_h4_3_1, n_h4_o_0]; omega)) ?_
      obtain ⟨g64, e64⟩ : ∃ x, x = up_ h18 o 4 w63 := ⟨_, rfl⟩
      refine pw_heq e64 ?_
      have Hg64 : CPO_ tp n g64 b18 := CPO_mv H18 (by rw [e64, up_off (by omega)]) (by rw [e64, up_off (by omega)]) (by rw [e64, up_off (by omega)])
      refine pw_aload_n (z := 3) (pc := 67) dX5_gapLine_67 rfl rfl ?_
      refine pw_bipush (pc := 68) dX5_gapLine_68 rfl ?_
      refine pw_callV (c := 5) (o := 3) (As := [ii_ 59]) (rest := []) (pc := 70) dX5_gapLine_70 (d_takeSign hC g64 tp n (b18) Hg64 59 (by first | omega | (simp only [n_h18_o_4, n_h4_3_1, n_h4_o_0]; omega))) lX5_154 mX5_takeSign vX5_takeSign (hC 3 (by decide)) (show kd_ 3 = 15 by decide +kernel) rfl rfl rfl (by decide) ⟨Nat.zero_le _, Nat.zero_le _⟩ (Nat.le_of_ble_eq_true rfl) (k_i (fun z70 h70 y70 q70 => ?_))
      replace q70 := And.intro q70.1 (CPR_w q70.2)
      obtain ⟨f70, x70⟩ := q70
      have z01 : z70 = 0 ∨ z70 = 1 := by rcases x70 with x | x <;> omega
      exact pw_zret (pc := 73) dX5_gapLine_73 (by first | omega | (simp only [n_h18_o_4, n_h4_3_1, n_h4_o_0]; omega)) (by
                subst be18
                have XL := (show gln_ (tk_ tp n) Z a = .ok ((ob_ Z.1 10 (Z.1 10 + 2 ^ s18.toNat), Z.2), a + 2) by unfold gln_; rw [bd_o t18]; exact if_f nb)
                have CL := (show CZ_ (ob_ Z.1 10 (Z.1 10 + 2 ^ s18.toNat), Z.2) g64 o (a + 2) by rw [e64, w64]; exact CZ_gap ho (CZ_f ho hZ (off_tr (off_mo f4 (by decide)) f18.1) (Nat.le_refl a)) (gln_z zk XL).1 (by omega))
                refine ⟨LNF_tr (LNF_tr N18 (by rw [e64]; exact LNF_u (by simp [RLC_]) (by omega) (by omega))) (LNF_3 f70 (by simp)), ?_⟩
                rcases x70 with ⟨rfl, b, b1, b2⟩ | ⟨rfl, e, x1, x2⟩
                · obtain ⟨rfl, s⟩ := tks2_o b1
                  have bn := tk_lt HB.1.1 (show (tk_ tp n (a + 2)).1 ≠ 0 from fun u => absurd (s.1.symm.trans u) (by decide))
                  exact Or.inl ⟨rfl, _, XL, s, b2, by show ((a + 2 : Nat) : Int) + 1 ≤ n; omega, CZ_f ho CL f70.1 (by show a + 2 ≤ a + 2 + 1; omega)⟩
                · exact Or.inr ⟨rfl, e, Or.inr ⟨_, XL, x1⟩, x2⟩)
    · refine pw_aload_n (z := 3) (pc := 43) dX5_gapLine_43 rfl rfl ?_
      refine pw_iconst (pc := 44) dX5_gapLine_44 ?_
      refine pw_callV (c := 5) (o := 3) (As := [ii_ 3]) (rest := []) (pc := 45) dX5_gapLine_45 (d_takenW hC h18 tp n b18 H18 (a + 1) be18 3 (by first | omega | (simp only [n_h18_o_4, n_h4_3_1, n_h4_o_0]; omega))) lX5_189 mX5_takenWrong vX5_takenWrong (hC 3 (by decide)) (show kd_ 3 = 15 by decide +kernel) rfl rfl rfl (by decide) ⟨Nat.zero_le _, Nat.zero_le _⟩ (Nat.le_of_ble_eq_true rfl) (k_i (fun z45 h45 y45 q45 => ?_))
      obtain ⟨f45, x45, rfl⟩ := q45
      have fp45 := flt_p (tp := tp) (a := a + 1) HB.1 (w := 3) (by omega)
      exact pw_zret (pc := 48) dX5_gapLine_48 (by first | omega | (simp only [n_h18_o_4, n_h4_3_1, n_h4_o_0]; omega)) (⟨LNF_tr N18 (LNF_3 f45 (by simp)), Or.inr ⟨rfl, _, Or.inl (by unfold gln_; rw [bd_o t18]; exact if_t (by show Z.1 10 / 2 ^ s18.toNat % 2 = 1; rw [← HA.2.2.2.1]; omega)), x45, fp45.1⟩⟩)
  · have N18 : LNF_ o h h18 := LNF_tr N4 (LNF_3 f18 (by simp))
    rw [e0] at p18
    simp -failIfUnchanged only [n_h4_3_1, n_h4_o_0] at p18
    refine pw_if_ne (t := 26) (pc := 21) dX5_gapLine_21 (by decide) (by first | omega | (simp only [n_h4_3_1, n_h4_o_0]; omega)) (fun c21 => absurd c21 (by decide)) (fun _ => ?_)
    refine pw_iconst (pc := 24) dX5_gapLine_24 ?_
    exact pw_zret (pc := 25) dX5_gapLine_25 (by first | omega | (simp only [n_h4_3_1, n_h4_o_0]; omega)) (⟨N18, Or.inr ⟨rfl, by obtain ⟨e, x1, x2⟩ := p18; exact ⟨e, Or.inl (by unfold gln_; exact bd_e x1), x2⟩⟩⟩)

set_option maxHeartbeats 4000000 in
set_option maxRecDepth 100000 in
theorem d_fightLine {G : GT_} (hC : okC_ G) (h : PH_) (tp : Int → Int) (n : Int) (o : Nat) (ho : is6_ o) (a : Nat) (H : CPO_ tp n h a) (hland : h 3 1 = (o : Int)) (Z : ZT_) (hZ : CZ_ Z h o a) (hne : (tk_ tp n a).1 ≠ 0) : PC G yX5_fightLine cX5_fightLine 1 (some .boolean) 8 [rr_ G 3] h (qi_ (fun z h' => LNF_ o h h' ∧ LNR_ tp n o (fln_ (tk_ tp n) Z a) z h')) := by
  have HB := CPO_b H
  have hl_h := hland
  have HA := hZ.1.1
  have zk := hZ.2.2.2.2.2.2.2
  have zb := zk.1
  have an := tk_lt HB.1.1 hne
  have e6 := hZ.2.1.2.1
  have ft := zk.2.2.2.2.1.2.2
  refine PC.of (lv := [some (rr_ G 3)]) (by decide +kernel) (Nat.le_of_ble_eq_true rfl) rfl rfl ?_
  refine pw_aload_n (z := 3) (pc := 0) dX5_fightLine_0 rfl rfl ?_
  refine pw_gD (x := 1) (r := o) (pc := 1) dX5_fightLine_1 fX5_94 (hC 3 (by decide)) (show kd_ 3 = 15 by decide +kernel) rfl rfl hl_h ?_
  refine pw_gI (x := 6) (pc := 4) dX5_fightLine_4 fX5_198 (hC _ (by omega)) (kd6_0 ho) rfl rfl (fun r4 => ?_)
  refine pw_if_eq (t := 16) (pc := 7) dX5_fightLine_7 (by decide) (by first | omega) (fun c7 => ?_) (fun c7 => ?_)
  · refine pw_aload_n (z := 3) (pc := 16) dX5_fightLine_16 rfl rfl ?_
    refine pw_getR (r := 1) (pc := 17) dX5_fightLine_17 fX5_17 (hC 3 (by decide)) (show kd_ 3 = 15 by decide +kernel) rfl (by decide +kernel) ?_
    refine pw_callV (c := 8) (o := 1) (As := []) (rest := []) (pc := 20) dX5_fightLine_20 (d_step hC h tp n HB.2.2.2.2.2.1 (a + 1) HB.2.2.2.2.2.2.1) lX5_111 mX8_step vX8_step (hC 1 (by decide)) (show kd_ 1 = 18 by decide +kernel) rfl rfl rfl (by decide) ⟨Nat.zero_le _, Nat.zero_le _⟩ (Nat.le_of_ble_eq_true rfl) (k_v (fun h20 q20 => ?_))
    obtain ⟨f20, k20, p20⟩ := q20
    obtain ⟨H20, F20⟩ := CPO_st H f20 k20 p20
    have hl_h20 : h20 3 1 = (o : Int) := by rw [F20.2.1 1 (by simp)]; exact hland
    have N20 : LNF_ o h h20 := LNF_3 F20 (by simp)
    refine pw_aload_n (z := 3) (pc := 23) dX5_fightLine_23 rfl rfl ?_
    refine pw_iconst (pc := 24) dX5_fightLine_24 ?_
    refine pw_bipush (pc := 25) dX5_fightLine_25 rfl ?_
    refine pw_callV (c := 5) (o := 3) (As := [ii_ 0, ii_ 99]) (rest := []) (pc := 27) dX5_fightLine_27 (d_takeNum hC h20 tp n (a + 1) H20 0 (99) (by first | omega) (by first | omega)) lX5_147 mX5_takeNumber vX5_takeNumber (hC 3 (by decide)) (show kd_ 3 = 15 by decide +kernel) rfl rfl rfl (by decide) ⟨Nat.zero_le _, Nat.zero_le _⟩ (Nat.le_of_ble_eq_true rfl) (k_i (fun z27 h27 y27 q27 => ?_))
    replace q27 := (⟨q27.1, CPN_d q27.2⟩ : _ ∧ _)
    obtain ⟨f27, ⟨rfl, p27⟩ | ⟨rfl, p27⟩⟩ := q27
    · have N27 : LNF_ o h h27 := LNF_tr N20 (LNF_3 f27 (by simp))
      obtain ⟨⟨s27, b27⟩, t27, H27, n27⟩ := p27
      have H27 : CPO_ tp n h27 b27 := H27
      have n27 : h27 3 4 = s27 := n27
      obtain ⟨sb27, be27, te27⟩ := tkn_o t27
      have sb27 : 0 ≤ s27 ∧ s27 ≤ 99 := sb27
      have be27 : b27 = a + 1 + 1 := be27
      have hl_h27 : h27 3 1 = (o : Int) := by rw [f27.2.1 1 (by simp)]; exact hl_h20
      have bn27 := tk_lt HB.1.1 (show (tk_ tp n (a + 1)).1 ≠ 0 by rw [te27]; decide)
      have p27 := t27
      refine pw_if_ne (t := 35) (pc := 30) dX5_fightLine_30 (by decide) (by first | omega) (fun _ => ?_) (fun c30 => absurd c30 (by decide))
      refine pw_aload_n (z := 3) (pc := 35) dX5_fightLine_35 rfl rfl ?_
      refine pw_gD (x := 1) (r := o) (pc := 36) dX5_fightLine_36 fX5_94 (hC 3 (by decide)) (show kd_ 3 = 15 by decide +kernel) rfl rfl hl_h27 ?_
      refine pw_aload_n (z := 3) (pc := 39) dX5_fightLine_39 rfl rfl ?_
      refine pw_gI (x := 4) (pc := 40) dX5_fightLine_40 fX5_118 (hC 3 (by decide)) (show kd_ 3 = 15 by decide +kernel) rfl rfl (fun r40 => ?_)
      rw [n27]
      refine pw_pI (x := 5) (pc := 43) dX5_fightLine_43 fX5_202 (hC _ (by omega)) (kd6_0 ho) rfl rfl (by first | omega) ?_
      obtain ⟨g43, e43⟩ : ∃ x, x = up_ h27 o 5 s27 := ⟨_, rfl⟩
      refine pw_heq e43 ?_
      have hl_g43 : g43 3 1 = (o : Int) := by rw [e43, up_off (by omega)]; exact hl_h27
      refine pw_aload_n (z := 3) (pc := 46) dX5_fightLine_46 rfl rfl ?_
      have n_g43_3_1 : g43 3 1 = h27 3 1 := (by rw [e43, up_off (by first | decide | omega)])
      refine pw_gD (x := 1) (r := o) (pc := 47) dX5_fightLine_47 fX5_94 (hC 3 (by decide)) (show kd_ 3 = 15 by decide +kernel) rfl rfl (n_g43_3_1.trans hl_h27) ?_
      refine pw_iconst (pc := 50) dX5_fightLine_50 ?_
      refine pw_pZ (x := 6) (pc := 51) dX5_fightLine_51 fX5_198 (hC _ (by omega)) (kd6_0 ho) rfl rfl (by first | omega | (simp only [n_g43_3_1]; omega)) ?_
      obtain ⟨g51, e51⟩ : ∃ x, x = up_ g43 o 6 1 := ⟨_, rfl⟩
      refine pw_heq e51 ?_
      have Hg51 : CPO_ tp n g51 b27 := CPO_mv H27 (by rw [e51, up_off (by omega), e43, up_off (by omega)]) (by rw [e51, up_off (by omega), e43, up_off (by omega)]) (by rw [e51, up_off (by omega), e43, up_off (by omega)])
      refine pw_aload_n (z := 3) (pc := 54) dX5_fightLine_54 rfl rfl ?_
      refine pw_bipush (pc := 55) dX5_fightLine_55 rfl ?_
      refine pw_callV (c := 5) (o := 3) (As := [ii_ 59]) (rest := []) (pc := 57) dX5_fightLine_57 (d_takeSign hC g51 tp n (b27) Hg51 59 (by first | omega | (simp only [n_g43_3_1]; omega))) lX5_154 mX5_takeSign vX5_takeSign (hC 3 (by decide)) (show kd_ 3 = 15 by decide +kernel) rfl rfl rfl (by decide) ⟨Nat.zero_le _, Nat.zero_le _⟩ (Nat.le_of_ble_eq_true rfl) (k_i (fun z57 h57 y57 q57 => ?_))
      replace q57 := And.intro q57.1 (CPR_w q57.2)
      obtain ⟨f57, x57⟩ := q57
      have z01 : z57 = 0 ∨ z57 = 1 := by rcases x57 with x | x <;> omega
      exact pw_zret (pc := 60) dX5_fightLine_60 (by first | omega | (simp only [n_g43_3_1]; omega)) (by
                subst be27
                have XL := (show fln_ (tk_ tp n) Z a = .ok ((ob_ Z.1 4 s27, Z.2.1, Z.2.2.1, Z.2.2.2.1, 1), a + 2) by unfold fln_; rw [if_t (by omega)]; exact bd_o t27)
                have CL := (show CZ_ (ob_ Z.1 4 s27, Z.2.1, Z.2.2.1, Z.2.2.2.1, 1) g51 o (a + 2) by rw [e51, e43]; exact CZ_fight ho (CZ_f ho hZ (off_tr (off_mo f20 (by decide)) f27.1) (Nat.le_refl a)) (fln_z zk XL).1 (by omega))
                refine ⟨LNF_tr (LNF_tr N27 (by rw [e51, e43]; exact LNF_tr (LNF_u (by simp [RLC_]) (by omega) (by omega)) (LNF_u (by simp [RLC_]) (by omega) (by omega)))) (LNF_3 f57 (by simp)), ?_⟩
                rcases x57 with ⟨rfl, b, b1, b2⟩ | ⟨rfl, e, x1, x2⟩
                · obtain ⟨rfl, s⟩ := tks2_o b1
                  have bn := tk_lt HB.1.1 (show (tk_ tp n (a + 2)).1 ≠ 0 from fun u => absurd (s.1.symm.trans u) (by decide))
                  exact Or.inl ⟨rfl, _, XL, s, b2, by show ((a + 2 : Nat) : Int) + 1 ≤ n; omega, CZ_f ho CL f57.1 (by show a + 2 ≤ a + 2 + 1; omega)⟩
                · exact Or.inr ⟨rfl, e, Or.inr ⟨_, XL, x1⟩, x2⟩)
    · have N27 : LNF_ o h h27 := LNF_tr N20 (LNF_3 f27 (by simp))
      refine pw_if_ne (t := 35) (pc := 30) dX5_fightLine_30 (by decide) (by first | omega) (fun c30 => absurd c30 (by decide)) (fun _ => ?_)
      refine pw_iconst (pc := 33) dX5_fightLine_33 ?_
      exact pw_zret (pc := 34) dX5_fightLine_34 (by first | omega) (⟨N27, Or.inr ⟨rfl, by obtain ⟨e, x1, x2⟩ := p27; exact ⟨e, Or.inl (by unfold fln_; rw [if_t (by omega)]; exact bd_e x1), x2⟩⟩⟩)
  · refine pw_aload_n (z := 3) (pc := 10) dX5_fightLine_10 rfl rfl ?_
    refine pw_iconst (pc := 11) dX5_fightLine_11 ?_
    refine pw_callV (c := 5) (o := 3) (As := [ii_ 3]) (rest := []) (pc := 12) dX5_fightLine_12 (d_wrong hC h tp n a H 3 (by first | omega)) lX5_70 mX5_wrong vX5_wrong (hC 3 (by decide)) (show kd_ 3 = 15 by decide +kernel) rfl rfl rfl (by decide) ⟨Nat.zero_le _, Nat.zero_le _⟩ (Nat.le_of_ble_eq_true rfl) (k_i (fun z12 h12 y12 q12 => ?_))
    obtain ⟨f12, x12, rfl⟩ := q12
    have fp12 := flt_p (tp := tp) (a := a) HB.1 (w := 3) (by omega)
    exact pw_zret (pc := 15) dX5_fightLine_15 (by first | omega) (⟨LNF_3 f12 (by simp), Or.inr ⟨rfl, _, Or.inl (by unfold fln_; exact if_f (by omega)), x12, fp12.1⟩⟩)

set_option maxHeartbeats 4000000 in
set_option maxRecDepth 100000 in
theorem d_neverLine {G : GT_} (hC : okC_ G) (h : PH_) (tp : Int → Int) (n : Int) (o : Nat) (ho : is6_ o) (a : Nat) (H : CPO_ tp n h a) (hland : h 3 1 = (o : Int)) (Z : ZT_) (hZ : CZ_ Z h o a) (hne : (tk_ tp n a).1 ≠ 0) : PC G yX5_neverLine cX5_neverLine 1 (some .boolean) 9 [rr_ G 3] h (qi_ (fun z h' => LNF_ o h h' ∧ LNR_ tp n o (vln_ (tk_ tp n) Z a) z h')) := by
  have HB := CPO_b H
  have hl_h := hland
  have HA := hZ.1.1
  have zk := hZ.2.2.2.2.2.2.2
  have zb := zk.1
  have an := tk_lt HB.1.1 hne
  have e0 := HA.1
  have av := hZ.2.2.1.1
  refine PC.of (lv := [some (rr_ G 3)]) (by decide +kernel) (Nat.le_of_ble_eq_true rfl) rfl rfl ?_
  refine pw_aload_n (z := 3) (pc := 0) dX5_neverLine_0 rfl rfl ?_
  refine pw_getR (r := 1) (pc := 1) dX5_neverLine_1 fX5_17 (hC 3 (by decide)) (show kd_ 3 = 15 by decide +kernel) rfl (by decide +kernel) ?_
  refine pw_callV (c := 8) (o := 1) (As := []) (rest := []) (pc := 4) dX5_neverLine_4 (d_step hC h tp n HB.2.2.2.2.2.1 (a + 1) HB.2.2.2.2.2.2.1) lX5_111 mX8_step vX8_step (hC 1 (by decide)) (show kd_ 1 = 18 by decide +kernel) rfl rfl rfl (by decide) ⟨Nat.zero_le _, Nat.zero_le _⟩ (Nat.le_of_ble_eq_true rfl) (k_v (fun h4 q4 => ?_))
  obtain ⟨f4, k4, p4⟩ := q4
  obtain ⟨H4, F4⟩ := CPO_st H f4 k4 p4
  have hl_h4 : h4 3 1 = (o : Int) := by rw [F4.2.1 1 (by simp)]; exact hland
  have N4 : LNF_ o h h4 := LNF_3 F4 (by simp)
  have NM4 : CNM_ Z.2.1 (h4 (o + 2)) (Z.1 2) (Z.1 3) := by rw [f4 (o + 2) (by simp)]; exact hZ.2.2.2.1
  have RR4 : h4 o 2 = Z.1 2 ∧ 0 ≤ Z.1 2 ∧ Z.1 2 ≤ 4 := by rw [f4 o (by simp; omega)]; omega
  refine pw_aload_n (z := 3) (pc := 7) dX5_neverLine_7 rfl rfl ?_
  refine pw_callV (c := 5) (o := 3) (As := []) (rest := []) (pc := 8) dX5_neverLine_8 (d_takeRider hC h4 tp n o ho (a + 1) H4 hl_h4 Z.2.1 (Z.1 2) (Z.1 3) NM4 RR4) lX5_183 mX5_takeRider vX5_takeRider (hC 3 (by decide)) (show kd_ 3 = 15 by decide +kernel) rfl rfl rfl (by decide) ⟨Nat.zero_le _, Nat.zero_le _⟩ (Nat.le_of_ble_eq_true rfl) (k_i (fun z8 h8 y8 q8 => ?_))
  replace q8 := (⟨q8.1, CPK_d q8.2⟩ : _ ∧ _)
  obtain ⟨f8, ⟨rfl, p8⟩ | ⟨rfl, p8⟩⟩ := q8
  · have N8 : LNF_ o h h8 := LNF_tr N4 (LNF_3 f8 (by simp))
    obtain ⟨⟨u8, b8⟩, t8, H8, n8⟩ := p8
    have H8 : CPO_ tp n h8 b8 := H8
    have n8 : h8 3 5 = u8 := n8
    obtain ⟨w8, r8, k8⟩ := bd_ok t8
    have k8 : (Except.ok (w8, a + 1 + 1) : RE_ (Int × Nat)) = .ok (u8, b8) := k8
    obtain ⟨rfl, rfl⟩ : w8 = u8 ∧ a + 1 + 1 = b8 := by injection k8 with k8; injection k8 with k1 k2; exact ⟨k1, k2⟩
    obtain ⟨ub8, un8, uf8⟩ := rdh_o r8
    have hl_h8 : h8 3 1 = (o : Int) := by rw [f8.2.1 1 (by simp)]; exact hl_h4
    have bn8 := tk_lt HB.1.1 (show (tk_ tp n (a + 1)).1 ≠ 0 by rw [un8.1]; decide)
    have NM8 : CNM_ Z.2.1 (h8 (o + 2)) (Z.1 2) (Z.1 3) := by rw [f8.1 (o + 2) (by simp; omega)]; exact NM4
    have RR8 : h8 o 2 = Z.1 2 ∧ 0 ≤ Z.1 2 ∧ Z.1 2 ≤ 4 := by rw [f8.1 o (by simp; omega)]; exact RR4
    have n8 : h8 3 5 = w8 := n8
    have p8 := t8
    refine pw_if_eq (t := 31) (pc := 11) dX5_neverLine_11 (by decide) (by first | omega) (fun c11 => absurd c11 (by decide)) (fun _ => ?_)
    refine pw_aload_n (z := 3) (pc := 14) dX5_neverLine_14 rfl rfl ?_
    refine pw_iconst (pc := 15) dX5_neverLine_15 ?_
    refine pw_aload_n (z := 3) (pc := 16) dX5_neverLine_16 rfl rfl ?_
    refine pw_gD (x := 1) (r := o) (pc := 17) dX5_neverLine_17 fX5_94 (hC 3 (by decide)) (show kd_ 3 = 15 by decide +kernel) rfl rfl hl_h8 ?_
    refine pw_gI (x := 0) (pc := 20) dX5_neverLine_20 fX5_151 (hC _ (by omega)) (kd6_0 ho) rfl rfl (fun r20 => ?_)
    have n_h8_o_0 : h8 o 0 = h o 0 := ((show h8 o 0 = h4 o 0 from (congrFun (f8.1 o (by first | decide | (simp; done) | (simp; omega))) 0)).trans (show h4 o 0 = h o 0 from (congrFun (f4 o (by first | decide | (simp; done) | (simp; omega))) 0)))
    rw [n_h8_o_0] at r20 ⊢
    refine pw_iconst (pc := 23) dX5_neverLine_23 ?_
    refine pw_isub (pc := 24) dX5_neverLine_24 ?_
    refine pw_callV (c := 5) (o := 3) (As := [ii_ 0, ii_ ((h o 0) - 1)]) (rest := []) (pc := 25) dX5_neverLine_25 (d_takeNum hC h8 tp n (a + 1 + 1) H8 0 ((h o 0) - 1) (by first | omega | (simp only [n_h8_o_0]; omega)) (by first | omega | (simp only [n_h8_o_0]; omega))) lX5_147 mX5_takeNumber vX5_takeNumber (hC 3 (by decide)) (show kd_ 3 = 15 by decide +kernel) rfl rfl rfl (by decide) ⟨Nat.zero_le _, Nat.zero_le _⟩ (Nat.le_of_ble_eq_true rfl) (k_i (fun z25 h25 y25 q25 => ?_))
    replace q25 := (⟨q25.1, CPN_d q25.2⟩ : _ ∧ _)
    obtain ⟨f25, ⟨rfl, p25⟩ | ⟨rfl, p25⟩⟩ := q25
    · have N25 : LNF_ o h h25 := LNF_tr N8 (LNF_3 f25 (by simp))
      rw [e0] at p25
      obtain ⟨⟨s25, b25⟩, t25, H25, n25⟩ := p25
      have H25 : CPO_ tp n h25 b25 := H25
      have n25 : h25 3 4 = s25 := n25
      obtain ⟨sb25, be25, te25⟩ := tkn_o t25
      have sb25 : 0 ≤ s25 ∧ s25 ≤ Z.1 0 - 1 := sb25
      have be25 : b25 = a + 1 + 1 + 1 := be25
      have hl_h25 : h25 3 1 = (o : Int) := by rw [f25.2.1 1 (by simp)]; exact hl_h8
      have bn25 := tk_lt HB.1.1 (show (tk_ tp n (a + 1 + 1)).1 ≠ 0 by rw [te25]; decide)
      have p25 := t25
      simp -failIfUnchanged only [n_h8_o_0] at p25
      refine pw_if_ne (t := 33) (pc := 28) dX5_neverLine_28 (by decide) (by first | omega | (simp only [n_h8_o_0]; omega)) (fun _ => ?_) (fun c28 => absurd c28 (by decide))
      refine pw_aload_n (z := 3) (pc := 33) dX5_neverLine_33 rfl rfl ?_
      have n85 : h25 3 5 = w8 := by rw [f25.2.1 5 (by simp)]; exact n8
      have avu := av w8 (by omega) (by omega)
      have zr := (zk.2.1 w8 (by omega) (by omega)).2.2.2
      refine pw_gD (x := 1) (r := o) (pc := 34) dX5_neverLine_34 fX5_94 (hC 3 (by decide)) (show kd_ 3 = 15 by decide +kernel) rfl rfl hl_h25 ?_
      refine pw_getR (r := (o + 7)) (pc := 37) dX5_neverLine_37 fX5_192 (hC _ (by omega)) (kd6_0 ho) rfl rfl ?_
      refine pw_aload_n (z := 3) (pc := 40) dX5_neverLine_40 rfl rfl ?_
      refine pw_gI (x := 5) (pc := 41) dX5_neverLine_41 fX5_138 (hC 3 (by decide)) (show kd_ 3 = 15 by decide +kernel) rfl rfl (fun r41 => ?_)
      rw [n85]
      refine pw_iald (pc := 44) dX5_neverLine_44 (hC _ (by omega)) (kd6_7 ho) 4 (ln6_7 ho) (by first | omega | (simp only [n_h8_o_0]; omega)) (by first | omega | (simp only [n_h8_o_0]; omega)) (by first | omega | (simp only [n_h8_o_0]; omega)) (fun r44 => ?_)
      have n_h25_o_7 : h25 (o + 7) = h (o + 7) := (((show h25 (o + 7) = h8 (o + 7) from (f25.1 (o + 7) (by first | decide | (simp; done) | (simp; omega)))).trans (show h8 (o + 7) = h4 (o + 7) from (f8.1 (o + 7) (by first | decide | (simp; done) | (simp; omega))))).trans (show h4 (o + 7) = h (o + 7) from (f4 (o + 7) (by first | decide | (simp; done) | (simp; omega)))))
      rw [n_h25_o_7] at r44 ⊢
      refine pw_aload_n (z := 3) (pc := 45) dX5_neverLine_45 rfl rfl ?_
      refine pw_gI (x := 4) (pc := 46) dX5_neverLine_46 fX5_118 (hC 3 (by decide)) (show kd_ 3 = 15 by decide +kernel) rfl rfl (fun r46 => ?_)
      rw [n25]
      refine pw_ishr (pc := 49) dX5_neverLine_49 (by first | omega | (simp only [n_h25_o_7, n_h8_o_0]; omega)) (by first | omega | (simp only [n_h25_o_7, n_h8_o_0]; omega)) ?_
      refine pw_iconst (pc := 50) dX5_neverLine_50 ?_
      refine pw_iand1 (pc := 51) dX5_neverLine_51 ?_
      refine pw_if_eq (t := 61) (pc := 52) dX5_neverLine_52 (by decide) (by first | omega | (simp only [n_h25_o_7, n_h8_o_0]; omega)) (fun c52 => ?_) (fun c52 => ?_)
      · have nb : ¬ Z.1 (31 + 4 * w8 + 3) / 2 ^ s25.toNat % 2 = 1 := by rw [← avu]; omega
        have p2 := p2m (m := s25) (by omega)
        have bs := bset_ (v := Z.1 (31 + 4 * w8 + 3)) (s := s25) (by omega) (by omega) nb
        refine pw_aload_n (z := 3) (pc := 61) dX5_neverLine_61 rfl rfl ?_
        refine pw_gD (x := 1) (r := o) (pc := 62) dX5_neverLine_62 fX5_94 (hC 3 (by decide)) (show kd_ 3 = 15 by decide +kernel) rfl rfl hl_h25 ?_
        refine pw_getR (r := (o + 7)) (pc := 65) dX5_neverLine_65 fX5_192 (hC _ (by omega)) (kd6_0 ho) rfl rfl ?_
        refine pw_aload_n (z := 3) (pc := 68) dX5_neverLine_68 rfl rfl ?_
        refine pw_gI (x := 5) (pc := 69) dX5_neverLine_69 fX5_138 (hC 3 (by decide)) (show kd_ 3 = 15 by decide +kernel) rfl rfl (fun r69 => ?_)
        rw [n85]
        refine pw_dup2 (pc := 72) dX5_neverLine_72 rfl rfl ?_
        refine pw_iald (pc := 73) dX5_neverLine_73 (hC _ (by omega)) (kd6_7 ho) 4 (ln6_7 ho) (by first | omega | (simp only [n_h25_o_7, n_h8_o_0]; omega)) (by first | omega | (simp only [n_h25_o_7, n_h8_o_0]; omega)) (by first | omega | (simp only [n_h25_o_7, n_h8_o_0]; omega)) (fun r73 => ?_)
        rw [n_h25_o_7] at r73 ⊢
        refine pw_iconst (pc := 74) dX5_neverLine_74 ?_
        refine pw_aload_n (z := 3) (pc := 75) dX5_neverLine_75 rfl rfl ?_
        refine pw_gI (x := 4) (pc := 76) dX5_neverLine_76 fX5_118 (hC 3 (by decide)) (show kd_ 3 = 15 by decide +kernel) rfl rfl (fun r76 => ?_)
        rw [n25]
        refine pw_ishl1 (pc := 79) dX5_neverLine_79 (by first | omega | (simp only [n_h25_o_7, n_h8_o_0]; omega)) ?_
        refine pw_iorX (pc := 80) dX5_neverLine_80 (by first | omega | (simp only [n_h25_o_7, n_h8_o_0]; omega)) (by first | omega | (simp only [n_h25_o_7, n_h8_o_0]; omega)) (fun w80 r80 x80 => ?_)
        have w81 : w80 = Z.1 (31 + 4 * w8 + 3) + 2 ^ s25.toNat := by rw [x80 (by omega) (by omega), avu]; exact bs.1
        refine pw_iast (pc := 81) dX5_neverLine_81 (hC _ (by omega)) (kd6_7 ho) 4 (ln6_7 ho) (by first | omega | (simp only [n_h25_o_7, n_h8_o_0]; omega)) (by first | omega | (simp only [n_h25_o_7, n_h8_o_0]; omega)) (by first | omega | (simp only [n_h25_o_7, n_h8_o_0]; omega)) (by first | omega | (simp only [n_h25_o_7, n_h8_o_0]; omega)) ?_
        obtain ⟨g81, e81⟩ : ∃ x, x = up_ h25 (o + 7) w8 w80 := ⟨_, rfl⟩
        refine pw_heq e81 ?_
        have Hg81 : CPO_ tp n g81 b25 := CPO_mv H25 (by rw [e81, up_off (by omega)]) (by rw [e81, up_off (by omega)]) (by rw [e81, up_off (by omega)])
        refine pw_aload_n (z := 3) (pc := 82) dX5_neverLine_82 rfl rfl ?_
        refine pw_bipush (pc := 83) dX5_neverLine_83 rfl ?_
        refine pw_callV (c := 5) (o := 3) (As := [ii_ 59]) (rest := []) (pc := 85) dX5_neverLine_85 (d_takeSign hC g81 tp n (b25) Hg81 59 (by first | omega | (simp only [n_h25_o_7, n_h8_o_0]; omega))) lX5_154 mX5_takeSign vX5_takeSign (hC 3 (by decide)) (show kd_ 3 = 15 by decide +kernel) rfl rfl rfl (by decide) ⟨Nat.zero_le _, Nat.zero_le _⟩ (Nat.le_of_ble_eq_true rfl) (k_i (fun z85 h85 y85 q85 => ?_))
        replace q85 := And.intro q85.1 (CPR_w q85.2)
        obtain ⟨f85, x85⟩ := q85
        have z01 : z85 = 0 ∨ z85 = 1 := by rcases x85 with x | x <;> omega
        exact pw_zret (pc := 88) dX5_neverLine_88 (by first | omega | (simp only [n_h25_o_7, n_h8_o_0]; omega)) (by
                  subst be25
                  have XL := (show vln_ (tk_ tp n) Z a = .ok ((ob_ Z.1 (31 + 4 * w8 + 3) (Z.1 (31 + 4 * w8 + 3) + 2 ^ s25.toNat), Z.2), a + 3) by unfold vln_; rw [bd_o r8]; show bd_ (tkn_ _ _ _ (a + 1 + 1)) _ = _; rw [bd_o t25]; exact if_f nb)
                  have CL := (show CZ_ (ob_ Z.1 (31 + 4 * w8 + 3) (Z.1 (31 + 4 * w8 + 3) + 2 ^ s25.toNat), Z.2) g81 o (a + 3) by rw [e81, w81]; exact CZ_never ho (CZ_f ho hZ (off_tr (off_tr (off_mo f4 (by decide)) f8.1) f25.1) (Nat.le_refl a)) (by omega) (vln_z zk XL).1 (by omega))
                  refine ⟨LNF_tr (LNF_tr N25 (by rw [e81]; exact LNF_u (by simp [RLC_]) (by omega) (by omega))) (LNF_3 f85 (by simp)), ?_⟩
                  rcases x85 with ⟨rfl, b, b1, b2⟩ | ⟨rfl, e, x1, x2⟩
                  · obtain ⟨rfl, s⟩ := tks2_o b1
                    have bn := tk_lt HB.1.1 (show (tk_ tp n (a + 3)).1 ≠ 0 from fun u => absurd (s.1.symm.trans u) (by decide))
                    exact Or.inl ⟨rfl, _, XL, s, b2, by show ((a + 3 : Nat) : Int) + 1 ≤ n; omega, CZ_f ho CL f85.1 (by show a + 3 ≤ a + 3 + 1; omega)⟩
                  · exact Or.inr ⟨rfl, e, Or.inr ⟨_, XL, x1⟩, x2⟩)
      · refine pw_aload_n (z := 3) (pc := 55) dX5_neverLine_55 rfl rfl ?_
        refine pw_iconst (pc := 56) dX5_neverLine_56 ?_
        refine pw_callV (c := 5) (o := 3) (As := [ii_ 3]) (rest := []) (pc := 57) dX5_neverLine_57 (d_takenW hC h25 tp n b25 H25 (a + 1 + 1) be25 3 (by first | omega | (simp only [n_h25_o_7, n_h8_o_0]; omega))) lX5_189 mX5_takenWrong vX5_takenWrong (hC 3 (by decide)) (show kd_ 3 = 15 by decide +kernel) rfl rfl rfl (by decide) ⟨Nat.zero_le _, Nat.zero_le _⟩ (Nat.le_of_ble_eq_true rfl) (k_i (fun z57 h57 y57 q57 => ?_))
        obtain ⟨f57, x57, rfl⟩ := q57
        have fp57 := flt_p (tp := tp) (a := a + 1 + 1) HB.1 (w := 3) (by omega)
        exact pw_zret (pc := 60) dX5_neverLine_60 (by first | omega | (simp only [n_h25_o_7, n_h8_o_0]; omega)) (⟨LNF_tr N25 (LNF_3 f57 (by simp)), Or.inr ⟨rfl, _, Or.inl (by unfold vln_; rw [bd_o r8]; show bd_ (tkn_ _ _ _ (a + 1 + 1)) _ = _; rw [bd_o t25]; exact if_t (by show Z.1 (31 + 4 * w8 + 3) / 2 ^ s25.toNat % 2 = 1; rw [← avu]; omega)), x57, fp57.1⟩⟩)
    · have N25 : LNF_ o h h25 := LNF_tr N8 (LNF_3 f25 (by simp))
      rw [e0] at p25
      simp -failIfUnchanged only [n_h8_o_0] at p25
      refine pw_if_ne (t := 33) (pc := 28) dX5_neverLine_28 (by decide) (by first | omega | (simp only [n_h8_o_0]; omega)) (fun c28 => absurd c28 (by decide)) (fun _ => ?_)
      refine pw_iconst (pc := 31) dX5_neverLine_31 ?_
      exact pw_zret (pc := 32) dX5_neverLine_32 (by first | omega | (simp only [n_h8_o_0]; omega)) (⟨N25, Or.inr ⟨rfl, by obtain ⟨e, x1, x2⟩ := p25; exact ⟨e, Or.inl (by unfold vln_; rw [bd_o r8]; exact bd_e x1), x2⟩⟩⟩)
  · have N8 : LNF_ o h h8 := LNF_tr N4 (LNF_3 f8 (by simp))
    refine pw_if_eq (t := 31) (pc := 11) dX5_neverLine_11 (by decide) (by first | omega) (fun _ => ?_) (fun c11 => absurd c11 (by decide))
    refine pw_iconst (pc := 31) dX5_neverLine_31 ?_
    exact pw_zret (pc := 32) dX5_neverLine_32 (by first | omega) (⟨N8, Or.inr ⟨rfl, by obtain ⟨e, x1, x2⟩ := p8; exact ⟨e, Or.inl (by unfold vln_; exact bd_e (trd_e x1)), x2⟩⟩⟩)

