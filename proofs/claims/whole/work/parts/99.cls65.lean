/-! ===== rules that are called, by the class ===== -/
theorem pln_dg {si : Int → Int} {R r : Int} (hR : 0 ≤ R ∧ R ≤ 4) (hs : ∀ r, 0 ≤ r → r < R → 0 ≤ si r ∧ si r ≤ 3) (hr : 0 ≤ r ∧ r < R) : dg_ R (pln_ si R.toNat) r = si r := by
  obtain h | h | h | h : R = 1 ∨ R = 2 ∨ R = 3 ∨ R = 4 := by omega
  · subst h
    have s0 := hs 0 (by omega) (by omega)
    obtain rfl : r = 0 := by omega
    show (4 * 0 + si 0) % 4 = si 0
    omega
  · subst h
    have s0 := hs 0 (by omega) (by omega)
    have s1 := hs 1 (by omega) (by omega)
    obtain rfl | rfl : r = 0 ∨ r = 1 := by omega
    · show (4 * (4 * 0 + si 0) + si 1) / 4 % 4 = si 0
      omega
    · show (4 * (4 * 0 + si 0) + si 1) % 4 = si 1
      omega
  · subst h
    have s0 := hs 0 (by omega) (by omega)
    have s1 := hs 1 (by omega) (by omega)
    have s2 := hs 2 (by omega) (by omega)
    obtain rfl | rfl | rfl : r = 0 ∨ r = 1 ∨ r = 2 := by omega
    · show (4 * (4 * (4 * 0 + si 0) + si 1) + si 2) / 4 / 4 % 4 = si 0
      omega
    · show (4 * (4 * (4 * 0 + si 0) + si 1) + si 2) / 4 % 4 = si 1
      omega
    · show (4 * (4 * (4 * 0 + si 0) + si 1) + si 2) % 4 = si 2
      omega
  · subst h
    have s0 := hs 0 (by omega) (by omega)
    have s1 := hs 1 (by omega) (by omega)
    have s2 := hs 2 (by omega) (by omega)
    have s3 := hs 3 (by omega) (by omega)
    obtain rfl | rfl | rfl | rfl : r = 0 ∨ r = 1 ∨ r = 2 ∨ r = 3 := by omega
    · show (4 * (4 * (4 * (4 * 0 + si 0) + si 1) + si 2) + si 3) / 4 / 4 / 4 % 4 = si 0
      omega
    · show (4 * (4 * (4 * (4 * 0 + si 0) + si 1) + si 2) + si 3) / 4 / 4 % 4 = si 1
      omega
    · show (4 * (4 * (4 * (4 * 0 + si 0) + si 1) + si 2) + si 3) / 4 % 4 = si 2
      omega
    · show (4 * (4 * (4 * (4 * 0 + si 0) + si 1) + si 2) + si 3) % 4 = si 3
      omega
theorem pln_lt {si : Int → Int} {R : Int} (hR : 0 ≤ R ∧ R ≤ 4) (hs : ∀ r, 0 ≤ r → r < R → 0 ≤ si r ∧ si r ≤ 3) : 0 ≤ pln_ si R.toNat ∧ pln_ si R.toNat < 2 ^ (2 * R).toNat := by
  have b := pln_b (si := si) R.toNat (by omega) (fun r r0 r1 => hs r r0 (by omega))
  obtain h | h | h | h | h : R = 0 ∨ R = 1 ∨ R = 2 ∨ R = 3 ∨ R = 4 := by omega
  all_goals
    subst h
    exact b
theorem alw_pln {ro si : Int → Int} (hS : 2 ≤ ro 0 ∧ ro 0 ≤ 4) (hR : 0 ≤ ro 2 ∧ ro 2 ≤ ro 0) (hs : ∀ r, 0 ≤ r → r < ro 2 → 0 ≤ si r ∧ si r < ro 0) : alw_ ro si ↔ lpl_ ro (pln_ si (ro 2).toNat) := by
  have hs3 : ∀ r, 0 ≤ r → r < ro 2 → 0 ≤ si r ∧ si r ≤ 3 := fun r r0 r1 => by have := hs r r0 r1; omega
  have R4 : 0 ≤ ro 2 ∧ ro 2 ≤ 4 := by omega
  have d : ∀ r, 0 ≤ r → r < ro 2 → si r = dg_ (ro 2) (pln_ si (ro 2).toNat) r := fun r r0 r1 => (pln_dg R4 hs3 ⟨r0, r1⟩).symm
  have b := pln_lt R4 hs3
  constructor
  · intro h
    have v : vp_ok (ro 0) (ro 2) (pln_ si (ro 2).toNat) := (vp_sea hS R4).mpr ⟨b.1, b.2, (sea_cg (fun e e0 e1 => d e e0 (by omega))).mp h.1⟩
    exact (alw_lpl hS R4 v d).mp h
  · intro h
    exact (alw_lpl hS R4 h.1 d).mpr h
theorem cjn_le {ro : Int → Int} {P K : List (Int × Int)} {n : Nat} (h : cjn_ ro P K n = none) : ∀ m : Nat, cjn_ ro P K (n + m) = none := by
  intro m
  induction m with
  | zero => exact h
  | succ m ih => show (match cjn_ ro P K (n + m) with | none => none | some q => _) = none; rw [ih]
/-- a journey by the rule so far -/
def CJS_ (ro : Int → Int) (h : PH_) (t : Int) (q : JQ_) : Prop := h 143 3 = t ∧ (∀ r, 0 ≤ r → r < ro 2 → h 146 r = q.1 r ∧ -(1000 * t) ≤ h 146 r ∧ h 146 r ≤ 9999 + 1000 * t) ∧ (t = 0 → ∀ r, q.2.1 r = r) ∧ (0 < t → ∀ r, 0 ≤ r → r < ro 2 → h 144 r = q.2.1 r ∧ h 145 r = q.2.1 r) ∧ (∀ j, 0 ≤ j → j < t → h 147 j = q.2.2 j)
theorem fas_y {R k : Int} {b : Int × Int} {q : JQ_} (h : b.1 < 0 ∨ spr_ q.1 0 R < b.2) : fas_ R k b (some q) = (k, spr_ q.1 0 R) := if_pos h
theorem fas_n {R k : Int} {b : Int × Int} {q : JQ_} (h : ¬ (b.1 < 0 ∨ spr_ q.1 0 R < b.2)) : fas_ R k b (some q) = b := if_neg h
theorem fas_0 {R k : Int} {b : Int × Int} : fas_ R k b none = b := rfl

set_option maxHeartbeats 4000000 in
set_option maxRecDepth 100000 in
theorem d_goesByRule {G : GT_} (hC : okC_ G) (h : PH_) (o : Nat) (ho : is6_ o) (hL : h 0 2 = (o : Int)) (ro : Int → Int) (P : List (Int × Int)) (HC : CLD_ ro P h o) (hpa : ∀ r, 0 ≤ r → r < ro 2 → 0 ≤ ro (31 + 4 * r + 2) ∧ ro (31 + 4 * r + 2) ≤ 9999) (K : List (Int × Int)) (k : Int) (hk : 0 ≤ k ∧ k < 4) (hK : CLA_ h o k K) (h3 : lw3_ K) : PC G yX11_goesByRule cX11_goesByRule 3 (some .boolean) 6 [rr_ G 0, ii_ k] h (qi_ (fun z h' => off_ [143, 144, 145, 146, 147, o + 10, o + 11, o + 15] h h' ∧ CWM_ ro P h' o ∧ ((z = 1 ∧ ∃ q, cjn_ ro P K (ro 1).toNat = some q ∧ (∀ r, 0 ≤ r → r < ro 2 → h' 146 r = q.1 r ∧ -1000000 ≤ h' 146 r ∧ h' 146 r ≤ 1000000) ∧ ∀ j, 0 ≤ j → j < ro 1 → h' 147 j = q.2.2 j) ∨ (z = 0 ∧ cjn_ ro P K (ro 1).toNat = none)))) := by
  have H := HC.1
  have hL_h := hL
  have HB := H.2.1
  have HA := H.1
  refine PC.of (lv := [some (rr_ G 0), some (ii_ k), none]) (by decide +kernel) (Nat.le_of_ble_eq_true rfl) rfl rfl ?_
  refine pw_aload_n (z := 0) (pc := 0) dX11_goesByRule_0 rfl rfl ?_
  refine pw_getR (r := 143) (pc := 1) dX11_goesByRule_1 fX11_63 (hC 0 (by decide)) (show kd_ 0 = 21 by decide +kernel) rfl (by decide +kernel) ?_
  refine pw_aload_n (z := 0) (pc := 4) dX11_goesByRule_4 rfl rfl ?_
  refine pw_gD (x := 2) (r := o) (pc := 5) dX11_goesByRule_5 fX11_28 (hC 0 (by decide)) (show kd_ 0 = 21 by decide +kernel) rfl rfl hL_h ?_
  refine pw_callV (c := 7) (o := 143) (As := [rr_ G o]) (rest := []) (pc := 8) dX11_goesByRule_8 (d_sbegin hC h 143 is3_now.2.2 o ho) lX11_367 mX7_begin vX7_begin (hC 143 (by decide)) (show kd_ 143 = 17 by decide +kernel) rfl rfl rfl (by decide) ⟨Nat.zero_le _, Nat.zero_le _⟩ (Nat.le_of_ble_eq_true rfl) (k_v (fun h8 q8 => ?_))
  obtain ⟨f8, n8, r8⟩ := q8
  have F8 : off_ [143, 144, 145, 146, 147, o + 10, o + 11, o + 15] h h8 := off_mo f8 (by simp)
  have K8 : CLD_ ro P h8 o := CLD_off HC ho f8 (by simp)
  have S8 : CJS_ ro h8 0 (pas_ ro, (fun r => r), (fun _ => 0)) := ⟨n8, fun r r0 r1 => by
    have x := (r8 r r0 (by omega)).2.2
    rw [(H.2.2.2.1 r r0 r1).2.2.1] at x
    have x : h8 146 r = ro (31 + 4 * r + 2) := x
    have y := hpa r r0 r1
    exact ⟨x, by omega, by omega⟩, fun _ _ => rfl, fun u => absurd u (by decide), fun j j0 j1 => by omega⟩
  refine pw_iconst (pc := 11) dX11_goesByRule_11 ?_
  refine pw_istore_n (lv1 := [some (rr_ G 0), some (ii_ k), some (ii_ 0)]) (pc := 12) dX11_goesByRule_12 rfl (by decide) rfl rfl ?_
  have L13 : ∀ (nn : Nat) (t : Int) (q : JQ_) (hq : PH_), (0 ≤ t ∧ t ≤ ro 1) → (off_ [143, 144, 145, 146, 147, o + 10, o + 11, o + 15] h hq) → (CLD_ ro P hq o) → (cjn_ ro P K t.toNat = some q) → (CJS_ ro hq t q) → ((ro 1 - t + 1 : Int) ≤ nn) → PW G RX11 cX11_goesByRule 3 (some .boolean) (rm_ 6) 0 0 (zm_ G (qi_ (fun z h' => off_ [143, 144, 145, 146, 147, o + 10, o + 11, o + 15] h h' ∧ CWM_ ro P h' o ∧ ((z = 1 ∧ ∃ q, cjn_ ro P K (ro 1).toNat = some q ∧ (∀ r, 0 ≤ r → r < ro 2 → h' 146 r = q.1 r ∧ -1000000 ≤ h' 146 r ∧ h' 146 r ≤ 1000000) ∧ ∀ j, 0 ≤ j → j < ro 1 → h' 147 j = q.2.2 j) ∨ (z = 0 ∧ cjn_ ro P K (ro 1).toNat = none))))) 13 [some (rr_ G 0), some (ii_ k), some (ii_ t)] [] hq := by
    intro nn
    induction nn with
    | zero => intro t q hq at_ aF aK aq aS ams; exfalso; omega
    | succ nn ih13 =>
      intro t q hq at_ aF aK aq aS ams
      refine pw_iload_n (z := t) (pc := 13) dX11_goesByRule_13 rfl rfl ?_
      refine pw_aload_n (z := 0) (pc := 14) dX11_goesByRule_14 rfl rfl ?_
      have n_hq_0_2 : hq 0 2 = h 0 2 := (congrFun (aF 0 (by first | decide | (simp; done) | (simp; omega))) 2)
      refine pw_gD (x := 2) (r := o) (pc := 15) dX11_goesByRule_15 fX11_28 (hC 0 (by decide)) (show kd_ 0 = 21 by decide +kernel) rfl rfl (n_hq_0_2.trans hL_h) ?_
      refine pw_gI (x := 1) (pc := 18) dX11_goesByRule_18 fX11_239 (hC _ (by omega)) (kd6_0 ho) rfl rfl (fun r18 => ?_)
      have n_hq_o_1 : hq o 1 = h o 1 := (congrFun (aF o (by first | decide | (simp; done) | (simp; omega))) 1)
      rw [n_hq_o_1] at r18 ⊢
      refine pw_icmp_ge (t := 89) (pc := 21) dX11_goesByRule_21 (by decide) (by first | omega | (simp only [n_hq_0_2, n_hq_o_1]; omega)) (by first | omega | (simp only [n_hq_0_2, n_hq_o_1]; omega)) (fun c21 => ?_) (fun c21 => ?_)
      · refine pw_iconst (pc := 89) dX11_goesByRule_89 ?_
        exact pw_zret (pc := 90) dX11_goesByRule_90 (by first | omega | (simp only [n_hq_0_2, n_hq_o_1]; omega)) (⟨aF, aK.2.2, Or.inl ⟨rfl, q, by rw [show ro 1 = t by omega]; exact aq, fun r r0 r1 => by have x := aS.2.1 r r0 r1; exact ⟨x.1, by omega, by omega⟩, fun j j0 j1 => aS.2.2.2.2 j j0 (by omega)⟩⟩)
      · have KA : CLA_ hq o k K := CLA_mv hK (aF (o + 9) (by simp; omega)) (aF (o + 12) (by simp; omega)) (aF (o + 13) (by simp; omega)) (by rw [aF (o + 8) (by simp; omega)])
        have tlt : t < ro 1 := by omega
        refine pw_aload_n (z := 0) (pc := 24) dX11_goesByRule_24 rfl rfl ?_
        refine pw_getR (r := 143) (pc := 25) dX11_goesByRule_25 fX11_63 (hC 0 (by decide)) (show kd_ 0 = 21 by decide +kernel) rfl (by decide +kernel) ?_
        refine pw_aload_n (z := 0) (pc := 28) dX11_goesByRule_28 rfl rfl ?_
        refine pw_gD (x := 2) (r := o) (pc := 29) dX11_goesByRule_29 fX11_28 (hC 0 (by decide)) (show kd_ 0 = 21 by decide +kernel) rfl rfl (n_hq_0_2.trans hL_h) ?_
        refine pw_iload_n (z := k) (pc := 32) dX11_goesByRule_32 rfl rfl ?_
        refine pw_callV (c := 7) (o := 143) (As := [rr_ G o, ii_ k]) (rest := []) (pc := 33) dX11_goesByRule_33 (d_goBy hC hq 143 is3_now.2.2 o ho ro aK.1 K k hk KA h3) lX11_372 mX7_goBy vX7_goBy (hC 143 (by decide)) (show kd_ 143 = 17 by decide +kernel) rfl rfl rfl (by decide) ⟨Nat.zero_le _, Nat.zero_le _⟩ (Nat.le_of_ble_eq_true rfl) (k_v (fun h33 q33 => ?_))
        obtain ⟨f33, r33⟩ := q33
        have f33 : off_ [144, o + 10, o + 11] hq h33 := f33
        have n33 : h33 143 3 = t := by rw [f33 143 (by simp; omega)]; exact aS.1
        have s33 : ∀ r, 0 ≤ r → r < ro 2 → h33 144 r = cse_ ro K q.2.1 t r := fun r r0 r1 => by
          have x := r33 r r0 r1
          rw [aS.1] at x
          have x : h33 144 r = ew_ (f3_ (if t = 0 then r else hq 144 r) t r) K % ro 0 := x
          rw [x]
          show _ = ew_ (f3_ (q.2.1 r) t r) K % ro 0
          by_cases c : t = 0
          · rw [if_pos c, aS.2.2.1 c r]
          · rw [if_neg c, (aS.2.2.2.1 (by omega) r r0 r1).1]
        have b33 : ∀ r, 0 ≤ r → r < ro 2 → 0 ≤ h33 144 r ∧ h33 144 r < ro 0 := fun r r0 r1 => by rw [s33 r r0 r1]; exact ⟨Int.emod_nonneg _ (by omega), Int.emod_lt_of_pos _ (by omega)⟩
        have cp33 : pln_ (h33 144) (ro 2).toNat = cpl_ ro K q.2.1 t := pln_cg (fun e e0 e1 => s33 e e0 (by omega))
        have al33 : alw_ ro (h33 144) ↔ lpl_ ro (cpl_ ro K q.2.1 t) := by rw [← cp33]; exact alw_pln HB.1 HB.2.1 b33
        have F33 : off_ [143, 144, 145, 146, 147, o + 10, o + 11, o + 15] h h33 := off_tr aF (off_mo f33 (by simp))
        have K33 : CLD_ ro P h33 o := CLD_w aK ho f33 (by simp) (by unfold CWM_; rw [f33 (o + 15) (by simp; omega)]; exact aK.2.2)
        refine pw_aload_n (z := 0) (pc := 36) dX11_goesByRule_36 rfl rfl ?_
        refine pw_getR (r := 143) (pc := 37) dX11_goesByRule_37 fX11_63 (hC 0 (by decide)) (show kd_ 0 = 21 by decide +kernel) rfl (by decide +kernel) ?_
        refine pw_aload_n (z := 0) (pc := 40) dX11_goesByRule_40 rfl rfl ?_
        have n_h33_0_2 : h33 0 2 = h 0 2 := ((show h33 0 2 = hq 0 2 from (congrFun (f33 0 (by first | decide | (simp; done) | (simp; omega))) 2)).trans (show hq 0 2 = h 0 2 from (congrFun (aF 0 (by first | decide | (simp; done) | (simp; omega))) 2)))
        refine pw_gD (x := 2) (r := o) (pc := 41) dX11_goesByRule_41 fX11_28 (hC 0 (by decide)) (show kd_ 0 = 21 by decide +kernel) rfl rfl (n_h33_0_2.trans hL_h) ?_
        refine pw_callV (c := 7) (o := 143) (As := [rr_ G o]) (rest := []) (pc := 44) dX11_goesByRule_44 (d_canGo hC h33 143 is3_now.2.2 o ho ro K33.1 (fun r r0 r1 => by have x := b33 r r0 r1; show -1 ≤ h33 144 r ∧ h33 144 r ≤ 3; omega) (by first | omega | (simp only [n_h33_0_2, n_hq_0_2, n_hq_o_1]; omega))) lX11_213 mX7_canGo vX7_canGo (hC 143 (by decide)) (show kd_ 143 = 17 by decide +kernel) rfl rfl rfl (by decide) ⟨Nat.zero_le _, Nat.zero_le _⟩ (Nat.le_of_ble_eq_true rfl) (k_i (fun z44 h44 y44 q44 => ?_))
        obtain ⟨rfl, ⟨rfl, p44⟩ | ⟨rfl, p44⟩⟩ := q44
        · simp -failIfUnchanged only [n_h33_0_2] at p44
          refine pw_if_ne (t := 52) (pc := 47) dX11_goesByRule_47 (by decide) (by first | omega | (simp only [n_h33_0_2, n_hq_0_2, n_hq_o_1]; omega)) (fun _ => ?_) (fun c47 => absurd c47 (by decide))
          refine pw_aload_n (z := 0) (pc := 52) dX11_goesByRule_52 rfl rfl ?_
          refine pw_getR (r := 147) (pc := 53) dX11_goesByRule_53 fX11_67 (hC 0 (by decide)) (show kd_ 0 = 21 by decide +kernel) rfl (by decide +kernel) ?_
          refine pw_iload_n (z := t) (pc := 56) dX11_goesByRule_56 rfl rfl ?_
          refine pw_aload_n (z := 0) (pc := 57) dX11_goesByRule_57 rfl rfl ?_
          refine pw_gD (x := 2) (r := o) (pc := 58) dX11_goesByRule_58 fX11_28 (hC 0 (by decide)) (show kd_ 0 = 21 by decide +kernel) rfl rfl (n_h33_0_2.trans hL_h) ?_
          refine pw_aload_n (z := 0) (pc := 61) dX11_goesByRule_61 rfl rfl ?_
          refine pw_getR (r := 143) (pc := 62) dX11_goesByRule_62 fX11_63 (hC 0 (by decide)) (show kd_ 0 = 21 by decide +kernel) rfl (by decide +kernel) ?_
          refine pw_getR (r := 144) (pc := 65) dX11_goesByRule_65 fX11_170 (hC 143 (by decide)) (show kd_ 143 = 17 by decide +kernel) rfl (by decide +kernel) ?_
          refine pw_callV (c := 6) (o := o) (As := [rr_ G 144]) (rest := [ii_ t, rr_ G 147]) (pc := 68) dX11_goesByRule_68 (d_pack hC h33 o ho ro K33.1 144 (by decide +kernel) (by decide +kernel) (by decide) (fun r r0 r1 => by have x := b33 r r0 r1; omega)) lX11_375 mX6_pack vX6_pack (hC _ (by omega)) (kd6_0 ho) rfl rfl rfl (by decide) ⟨Nat.zero_le _, Nat.zero_le _⟩ (Nat.le_of_ble_eq_true rfl) (k_i (fun z68 h68 y68 q68 => ?_))
          obtain ⟨rfl, w68⟩ := q68
          refine pw_iast (pc := 71) dX11_goesByRule_71 (hC 147 (by decide)) (show kd_ 147 = 0 by decide +kernel) 4 (by decide +kernel) (by first | omega | (simp only [n_h33_0_2, n_hq_0_2, n_hq_o_1]; omega)) (by first | omega | (simp only [n_h33_0_2, n_hq_0_2, n_hq_o_1]; omega)) (by first | omega | (simp only [n_h33_0_2, n_hq_0_2, n_hq_o_1]; omega)) (by first | omega | (simp only [n_h33_0_2, n_hq_0_2, n_hq_o_1]; omega)) ?_
          obtain ⟨g71, e71⟩ : ∃ x, x = up_ h33 147 t z68 := ⟨_, rfl⟩
          refine pw_heq e71 ?_
          refine pw_aload_n (z := 0) (pc := 72) dX11_goesByRule_72 rfl rfl ?_
          refine pw_getR (r := 143) (pc := 73) dX11_goesByRule_73 fX11_63 (hC 0 (by decide)) (show kd_ 0 = 21 by decide +kernel) rfl (by decide +kernel) ?_
          refine pw_aload_n (z := 0) (pc := 76) dX11_goesByRule_76 rfl rfl ?_
          have n_g71_0_2 : g71 0 2 = h 0 2 := (((show g71 0 2 = h33 0 2 from (by rw [e71, up_off (by first | decide | omega)])).trans (show h33 0 2 = hq 0 2 from (congrFun (f33 0 (by first | decide | (simp; done) | (simp; omega))) 2))).trans (show hq 0 2 = h 0 2 from (congrFun (aF 0 (by first | decide | (simp; done) | (simp; omega))) 2)))
          refine pw_gD (x := 2) (r := o) (pc := 77) dX11_goesByRule_77 fX11_28 (hC 0 (by decide)) (show kd_ 0 = 21 by decide +kernel) rfl rfl (n_g71_0_2.trans hL_h) ?_
          have K71 : CLD_ ro P g71 o := CLD_off K33 ho (by rw [e71]; exact off_up (L := [147]) off_rf (by simp)) (by simp)
          refine pw_callV (c := 7) (o := 143) (As := [rr_ G o]) (rest := []) (pc := 80) dX11_goesByRule_80 (d_go hC g71 143 is3_now.2.2 o ho ro K71.1 P K71.2.1 K71.2.2 (by show alw_ ro (g71 144); rw [e71, up_off (by decide)]; exact p44.2) (by rw [e71, up_off (by decide), n33]; exact ⟨at_.1, tlt⟩) (fun r r0 r1 => by show -1000000 ≤ g71 146 r ∧ g71 146 r ≤ 1000000; rw [e71, up_off (by decide), f33 146 (by simp; omega)]; have x := aS.2.1 r r0 r1; omega)) lX11_217 mX7_go vX7_go (hC 143 (by decide)) (show kd_ 143 = 17 by decide +kernel) rfl rfl rfl (by decide) ⟨Nat.zero_le _, Nat.zero_le _⟩ (Nat.le_of_ble_eq_true rfl) (k_v (fun h80 q80 => ?_))
          obtain ⟨f80, m80, n80, a80, t80⟩ := q80
          have G71 : ∀ i, i ≠ 147 → g71 i = h33 i := fun i hi => by rw [e71, up_off hi]
          have q83 : cjn_ ro P K (t + 1).toNat = some (cnx_ ro P K t q) := by rw [cjn_s at_.1 aq, if_t (al33.mp p44.2)]
          have D33 : ∀ r, 0 ≤ r → r < ro 2 → dg_ (ro 2) (cpl_ ro K q.2.1 t) r = h33 144 r := fun r r0 r1 => by rw [← cp33]; exact pln_dg (by omega) (fun r r0 r1 => by have := b33 r r0 r1; omega) ⟨r0, r1⟩
          have S83 : CJS_ ro h80 (t + 1) (cnx_ ro P K t q) := by
            refine ⟨by rw [n80, G71 143 (by decide), n33], fun r r0 r1 => ?_, fun u => by omega, fun _ r r0 r1 => ⟨?_, ?_⟩, fun j j0 j1 => ?_⟩
            · have T : h80 146 r = (cnx_ ro P K t q).1 r := by
                have x := t80 r r0 r1
                rw [x]
                unfold gon_ cnx_
                show g71 146 r + wsi_ ro P (g71 144) r (g71 143 3) - (if 0 < g71 143 3 ∧ g71 144 r ≠ g71 145 r then ro 4 else 0) = q.1 r + (wsi_ ro P (dg_ (ro 2) (cpl_ ro K q.2.1 t)) r t - (if 0 < t ∧ ¬ q.2.1 r = dg_ (ro 2) (cpl_ ro K q.2.1 t) r then ro 4 else 0))
                rw [D33 r r0 r1, wsi_cg ⟨r0, r1⟩ (sj := h33 144) (fun e e0 e1 => D33 e e0 e1), G71 146 (by decide), G71 144 (by decide), G71 143 (by decide), G71 145 (by decide), n33, f33 146 (by simp; omega), f33 145 (by simp; omega), (aS.2.1 r r0 r1).1]
                have c : (if 0 < t ∧ h33 144 r ≠ hq 145 r then ro 4 else 0) = (if 0 < t ∧ ¬ q.2.1 r = h33 144 r then ro 4 else 0) := by
                  by_cases t0 : 0 < t
                  · rw [(aS.2.2.2.1 t0 r r0 r1).2]
                    by_cases e : h33 144 r = q.2.1 r
                    · rw [if_neg (fun u => u.2 e), if_neg (fun u => u.2 e.symm)]
                    · rw [if_pos ⟨t0, e⟩, if_pos ⟨t0, fun u => e u.symm⟩]
                  · rw [if_neg (fun u => t0 u.1), if_neg (fun u => t0 u.1)]
                rw [c]; omega
              have wb := wsi_b ro P (dg_ (ro 2) (cpl_ ro K q.2.1 t)) r t
              have tb := aS.2.1 r r0 r1
              refine ⟨T, ?_⟩
              rw [T]
              show -(1000 * (t + 1)) ≤ q.1 r + (wsi_ ro P (dg_ (ro 2) (cpl_ ro K q.2.1 t)) r t - (if 0 < t ∧ ¬ q.2.1 r = dg_ (ro 2) (cpl_ ro K q.2.1 t) r then ro 4 else 0)) ∧ q.1 r + (wsi_ ro P (dg_ (ro 2) (cpl_ ro K q.2.1 t)) r t - (if 0 < t ∧ ¬ q.2.1 r = dg_ (ro 2) (cpl_ ro K q.2.1 t) r then ro 4 else 0)) ≤ 9999 + 1000 * (t + 1)
              split <;> omega
            · show h80 144 r = dg_ (ro 2) (cpl_ ro K q.2.1 t) r
              rw [f80 144 (by simp; omega), G71 144 (by decide), D33 r r0 r1]
            · show h80 145 r = dg_ (ro 2) (cpl_ ro K q.2.1 t) r
              have x := a80 r r0 (by omega)
              have x : h80 145 r = g71 144 r := x
              rw [x, G71 144 (by decide), D33 r r0 r1]
            · show h80 147 j = ob_ q.2.2 t (cpl_ ro K q.2.1 t) j
              rw [f80 147 (by simp; omega), e71, up_at]
              unfold ob_
              by_cases c : j = t
              · rw [if_pos c, if_pos c, w68, cp33]
              · rw [if_neg c, if_neg c, f33 147 (by simp; omega)]; exact aS.2.2.2.2 j j0 (by omega)
          have F83 : off_ [143, 144, 145, 146, 147, o + 10, o + 11, o + 15] h h80 := off_tr (off_tr F33 (by rw [e71]; exact off_up off_rf (by simp))) (off_mo f80 (by simp))
          have K83 : CLD_ ro P h80 o := CLD_w K71 ho f80 (by simp) m80
          refine pw_iinc (z := t) (lv1 := [some (rr_ G 0), some (ii_ k), some (ii_ (t + 1))]) (pc := 83) dX11_goesByRule_83 rfl (by decide) rfl rfl ?_
          refine pw_goto (t := 13) (pc := 86) dX11_goesByRule_86 (by decide) ?_
          exact ih13 _ (cnx_ ro P K t q) _ (by omega) (F83) (K83) (q83) (S83) (by omega)
        · simp -failIfUnchanged only [n_h33_0_2] at p44
          refine pw_if_ne (t := 52) (pc := 47) dX11_goesByRule_47 (by decide) (by first | omega | (simp only [n_h33_0_2, n_hq_0_2, n_hq_o_1]; omega)) (fun c47 => absurd c47 (by decide)) (fun _ => ?_)
          refine pw_iconst (pc := 50) dX11_goesByRule_50 ?_
          have N51 : cjn_ ro P K (ro 1).toNat = none := by
            have e : cjn_ ro P K (t + 1).toNat = none := by
              rw [cjn_s at_.1 aq, if_f (fun u => p44 ⟨by rw [n33]; exact tlt, al33.mpr u⟩)]
            have le := cjn_le e ((ro 1).toNat - (t + 1).toNat)
            rw [show (t + 1).toNat + ((ro 1).toNat - (t + 1).toNat) = (ro 1).toNat by omega] at le
            exact le
          exact pw_zret (pc := 51) dX11_goesByRule_51 (by first | omega | (simp only [n_h33_0_2, n_hq_0_2, n_hq_o_1]; omega)) (⟨F33, K33.2.2, Or.inr ⟨rfl, N51⟩⟩)
  exact L13 _ _ (pas_ ro, (fun r => r), (fun _ => 0)) _ (by omega) (F8) (K8) (rfl) (S8) (Int.self_le_toNat _)

set_option maxHeartbeats 4000000 in
set_option maxRecDepth 100000 in
theorem d_called {G : GT_} (hC : okC_ G) (h : PH_) (o : Nat) (ho : is6_ o) (hL : h 0 2 = (o : Int)) (ro : Int → Int) (P : List (Int × Int)) (HC : CLD_ ro P h o) (hpa : ∀ r, 0 ≤ r → r < ro 2 → 0 ≤ ro (31 + 4 * r + 2) ∧ ro (31 + 4 * r + 2) ≤ 9999) (Q : Int → List (Int × Int)) (hr3 : h o 3 = ro 3 ∧ 0 ≤ ro 3 ∧ ro 3 ≤ 4) (hQ : ∀ k, 0 ≤ k → k < ro 3 → CLA_ h o k (Q k) ∧ lw3_ (Q k)) (k w : Int) (h1 : ir_ k) (h2 : ir_ w) : PC G yX11_called cX11_called 4 (some .int) 7 [rr_ G 0, ii_ k, ii_ w] h (qi_ (fun z h' => off_ [143, 144, 145, 146, 147, o + 10, o + 11, o + 15] h h' ∧ CWM_ ro P h' o ∧ z = cld_ ro P Q k w)) := by
  have H := HC.1
  have hL_h := hL
  have HB := H.2.1
  have HA := H.1
  refine PC.of (lv := [some (rr_ G 0), some (ii_ k), some (ii_ w), none]) (by decide +kernel) (Nat.le_of_ble_eq_true rfl) rfl rfl ?_
  refine pw_iload_n (z := k) (pc := 0) dX11_called_0 rfl rfl ?_
  refine pw_if_lt (t := 34) (pc := 1) dX11_called_1 (by decide) (by first | omega) (fun c1 => ?_) (fun c1 => ?_)
  · refine pw_iconst (pc := 34) dX11_called_34 ?_
    refine pw_istore_n (lv1 := [some (rr_ G 0), some (ii_ k), some (ii_ w), some (ii_ 0)]) (pc := 35) dX11_called_35 rfl (by decide) rfl rfl ?_
    refine pw_iload_n (z := 0) (pc := 36) dX11_called_36 rfl rfl ?_
    refine pw_if_eq (t := 58) (pc := 37) dX11_called_37 (by decide) (by first | omega) (fun _ => ?_) (fun c37 => absurd c37 (by decide))
    refine pw_iconst (pc := 58) dX11_called_58 ?_
    exact pw_iret (pc := 59) dX11_called_59 (by first | omega) (⟨off_rf, HC.2.2, by unfold cld_; rw [if_f (by omega)]⟩)
  · refine pw_iload_n (z := k) (pc := 4) dX11_called_4 rfl rfl ?_
    refine pw_aload_n (z := 0) (pc := 5) dX11_called_5 rfl rfl ?_
    refine pw_gD (x := 2) (r := o) (pc := 6) dX11_called_6 fX11_28 (hC 0 (by decide)) (show kd_ 0 = 21 by decide +kernel) rfl rfl hL_h ?_
    refine pw_gI (x := 3) (pc := 9) dX11_called_9 fX11_300 (hC _ (by omega)) (kd6_0 ho) rfl rfl (fun r9 => ?_)
    refine pw_icmp_ge (t := 34) (pc := 12) dX11_called_12 (by decide) (by first | omega) (by first | omega) (fun c12 => ?_) (fun c12 => ?_)
    · refine pw_iconst (pc := 34) dX11_called_34 ?_
      refine pw_istore_n (lv1 := [some (rr_ G 0), some (ii_ k), some (ii_ w), some (ii_ 0)]) (pc := 35) dX11_called_35 rfl (by decide) rfl rfl ?_
      refine pw_iload_n (z := 0) (pc := 36) dX11_called_36 rfl rfl ?_
      refine pw_if_eq (t := 58) (pc := 37) dX11_called_37 (by decide) (by first | omega) (fun _ => ?_) (fun c37 => absurd c37 (by decide))
      refine pw_iconst (pc := 58) dX11_called_58 ?_
      exact pw_iret (pc := 59) dX11_called_59 (by first | omega) (⟨off_rf, HC.2.2, by unfold cld_; rw [if_f (by omega)]⟩)
    · refine pw_iload_n (z := w) (pc := 15) dX11_called_15 rfl rfl ?_
      refine pw_if_lt (t := 34) (pc := 16) dX11_called_16 (by decide) (by first | omega) (fun c16 => ?_) (fun c16 => ?_)
      · refine pw_iconst (pc := 34) dX11_called_34 ?_
        refine pw_istore_n (lv1 := [some (rr_ G 0), some (ii_ k), some (ii_ w), some (ii_ 0)]) (pc := 35) dX11_called_35 rfl (by decide) rfl rfl ?_
        refine pw_iload_n (z := 0) (pc := 36) dX11_called_36 rfl rfl ?_
        refine pw_if_eq (t := 58) (pc := 37) dX11_called_37 (by decide) (by first | omega) (fun _ => ?_) (fun c37 => absurd c37 (by decide))
        refine pw_iconst (pc := 58) dX11_called_58 ?_
        exact pw_iret (pc := 59) dX11_called_59 (by first | omega) (⟨off_rf, HC.2.2, by unfold cld_; rw [if_f (by omega)]⟩)
      · refine pw_iload_n (z := w) (pc := 19) dX11_called_19 rfl rfl ?_
        refine pw_aload_n (z := 0) (pc := 20) dX11_called_20 rfl rfl ?_
        refine pw_gD (x := 2) (r := o) (pc := 21) dX11_called_21 fX11_28 (hC 0 (by decide)) (show kd_ 0 = 21 by decide +kernel) rfl rfl hL_h ?_
        refine pw_gI (x := 1) (pc := 24) dX11_called_24 fX11_239 (hC _ (by omega)) (kd6_0 ho) rfl rfl (fun r24 => ?_)
        refine pw_icmp_gt (t := 34) (pc := 27) dX11_called_27 (by decide) (by first | omega) (by first | omega) (fun c27 => ?_) (fun c27 => ?_)
        · refine pw_iconst (pc := 34) dX11_called_34 ?_
          refine pw_istore_n (lv1 := [some (rr_ G 0), some (ii_ k), some (ii_ w), some (ii_ 0)]) (pc := 35) dX11_called_35 rfl (by decide) rfl rfl ?_
          refine pw_iload_n (z := 0) (pc := 36) dX11_called_36 rfl rfl ?_
          refine pw_if_eq (t := 58) (pc := 37) dX11_called_37 (by decide) (by first | omega) (fun _ => ?_) (fun c37 => absurd c37 (by decide))
          refine pw_iconst (pc := 58) dX11_called_58 ?_
          exact pw_iret (pc := 59) dX11_called_59 (by first | omega) (⟨off_rf, HC.2.2, by unfold cld_; rw [if_f (by omega)]⟩)
        · refine pw_iconst (pc := 30) dX11_called_30 ?_
          refine pw_goto (t := 35) (pc := 31) dX11_called_31 (by decide) ?_
          refine pw_istore_n (lv1 := [some (rr_ G 0), some (ii_ k), some (ii_ w), some (ii_ 1)]) (pc := 35) dX11_called_35 rfl (by decide) rfl rfl ?_
          refine pw_iload_n (z := 1) (pc := 36) dX11_called_36 rfl rfl ?_
          refine pw_if_eq (t := 58) (pc := 37) dX11_called_37 (by decide) (by first | omega) (fun c37 => absurd c37 (by decide)) (fun _ => ?_)
          refine pw_aload_n (z := 0) (pc := 40) dX11_called_40 rfl rfl ?_
          refine pw_gD (x := 2) (r := o) (pc := 41) dX11_called_41 fX11_28 (hC 0 (by decide)) (show kd_ 0 = 21 by decide +kernel) rfl rfl hL_h ?_
          refine pw_gI (x := 2) (pc := 44) dX11_called_44 fX11_242 (hC _ (by omega)) (kd6_0 ho) rfl rfl (fun r44 => ?_)
          refine pw_if_eq (t := 58) (pc := 47) dX11_called_47 (by decide) (by first | omega) (fun c47 => ?_) (fun c47 => ?_)
          · refine pw_iconst (pc := 58) dX11_called_58 ?_
            exact pw_iret (pc := 59) dX11_called_59 (by first | omega) (⟨off_rf, HC.2.2, by unfold cld_; rw [if_f (by omega)]⟩)
          · refine pw_aload_n (z := 0) (pc := 50) dX11_called_50 rfl rfl ?_
            refine pw_iload_n (z := k) (pc := 51) dX11_called_51 rfl rfl ?_
            refine pw_callV (c := 11) (o := 0) (As := [ii_ k]) (rest := []) (pc := 52) dX11_called_52 (d_goesByRule hC h o ho hL ro P HC hpa (Q (k)) k (by first | omega) (hQ k (by first | omega) (by first | omega)).1 (hQ k (by first | omega) (by first | omega)).2) lX11_303 mX11_goesByRule vX11_goesByRule (hC 0 (by decide)) (show kd_ 0 = 21 by decide +kernel) rfl rfl rfl (by decide) ⟨Nat.zero_le _, Nat.zero_le _⟩ (Nat.le_of_ble_eq_true rfl) (k_i (fun z52 h52 y52 q52 => ?_))
            obtain ⟨f52, m52, ⟨rfl, p52⟩ | ⟨rfl, p52⟩⟩ := q52
            · obtain ⟨q, q52, t52, pl52⟩ := p52
              have p52 := q52
              refine pw_if_ne (t := 60) (pc := 55) dX11_called_55 (by decide) (by first | omega) (fun _ => ?_) (fun c55 => absurd c55 (by decide))
              refine pw_iload_n (z := w) (pc := 60) dX11_called_60 rfl rfl ?_
              refine pw_if_ne (t := 85) (pc := 61) dX11_called_61 (by decide) (by first | omega) (fun c61 => ?_) (fun c61 => ?_)
              · refine pw_aload_n (z := 0) (pc := 85) dX11_called_85 rfl rfl ?_
                refine pw_getR (r := 147) (pc := 86) dX11_called_86 fX11_67 (hC 0 (by decide)) (show kd_ 0 = 21 by decide +kernel) rfl (by decide +kernel) ?_
                refine pw_iload_n (z := w) (pc := 89) dX11_called_89 rfl rfl ?_
                refine pw_iconst (pc := 90) dX11_called_90 ?_
                refine pw_isub (pc := 91) dX11_called_91 ?_
                refine pw_iald (pc := 92) dX11_called_92 (hC 147 (by decide)) (show kd_ 147 = 0 by decide +kernel) 4 (by decide +kernel) (by first | omega) (by first | omega) (by first | omega) (fun r92 => ?_)
                exact pw_iret (pc := 93) dX11_called_93 (by first | omega) (⟨f52, m52, by
                          unfold cld_
                          rw [if_t (by omega), q52]
                          show _ = (if w = 0 then spr_ q.1 0 (ro 2) else q.2.2 (w - 1))
                          first
                          | (rw [if_pos (by omega), w79, HA.2.2.1]; exact spr_cg (by omega) (fun x x0 x1 => (t52 x x0 x1).1))
                          | (rw [if_neg (by omega)]; exact pl52 _ (by omega) (by omega))⟩)
              · refine pw_aload_n (z := 0) (pc := 64) dX11_called_64 rfl rfl ?_
                refine pw_getR (r := 143) (pc := 65) dX11_called_65 fX11_63 (hC 0 (by decide)) (show kd_ 0 = 21 by decide +kernel) rfl (by decide +kernel) ?_
                refine pw_getR (r := 146) (pc := 68) dX11_called_68 fX11_173 (hC 143 (by decide)) (show kd_ 143 = 17 by decide +kernel) rfl (by decide +kernel) ?_
                refine pw_iconst (pc := 71) dX11_called_71 ?_
                refine pw_aload_n (z := 0) (pc := 72) dX11_called_72 rfl rfl ?_
                have n_h52_0_2 : h52 0 2 = h 0 2 := (congrFun (f52 0 (by first | decide | (simp; done) | (simp; omega))) 2)
                refine pw_gD (x := 2) (r := o) (pc := 73) dX11_called_73 fX11_28 (hC 0 (by decide)) (show kd_ 0 = 21 by decide +kernel) rfl rfl (n_h52_0_2.trans hL_h) ?_
                refine pw_gI (x := 2) (pc := 76) dX11_called_76 fX11_242 (hC _ (by omega)) (kd6_0 ho) rfl rfl (fun r76 => ?_)
                have n_h52_o_2 : h52 o 2 = h o 2 := (congrFun (f52 o (by first | decide | (simp; done) | (simp; omega))) 2)
                rw [n_h52_o_2] at r76 ⊢
                refine pw_callS (As := [rr_ G 146, ii_ 0, ii_ (h o 2)]) (rest := []) (pc := 79) dX11_called_79 (d_spreadOf hC h52 146 4 (by decide +kernel) (by decide +kernel) (by decide) (by decide) 0 (h o 2) (by first | omega | (simp only [n_h52_0_2, n_h52_o_2]; omega)) (fun x x0 x1 => by have := t52 x x0 (by first | omega | (simp only [n_h52_0_2, n_h52_o_2]; omega)); omega)) lX11_306 mX11_spreadOf sX11_spreadOf rfl rfl (by decide) ⟨Nat.zero_le _, Nat.zero_le _⟩ (Nat.le_of_ble_eq_true rfl) (k_i (fun z79 h79 y79 q79 => ?_))
                obtain ⟨rfl, w79⟩ := q79
                refine pw_goto (t := 93) (pc := 82) dX11_called_82 (by decide) ?_
                exact pw_iret (pc := 93) dX11_called_93 (by first | omega | (simp only [n_h52_0_2, n_h52_o_2]; omega)) (⟨f52, m52, by
                          unfold cld_
                          rw [if_t (by omega), q52]
                          show _ = (if w = 0 then spr_ q.1 0 (ro 2) else q.2.2 (w - 1))
                          first
                          | (rw [if_pos (by omega), w79, HA.2.2.1]; exact spr_cg (by omega) (fun x x0 x1 => (t52 x x0 x1).1))
                          | (rw [if_neg (by omega)]; exact pl52 _ (by omega) (by omega))⟩)
            · refine pw_if_ne (t := 60) (pc := 55) dX11_called_55 (by decide) (by first | omega) (fun c55 => absurd c55 (by decide)) (fun _ => ?_)
              refine pw_iconst (pc := 58) dX11_called_58 ?_
              exact pw_iret (pc := 59) dX11_called_59 (by first | omega) (⟨f52, m52, by unfold cld_; rw [if_t (by omega), p52]; rfl⟩)

set_option maxHeartbeats 4000000 in
set_option maxRecDepth 100000 in
theorem d_fairest {G : GT_} (hC : okC_ G) (h : PH_) (o : Nat) (ho : is6_ o) (hL : h 0 2 = (o : Int)) (ro : Int → Int) (P : List (Int × Int)) (HC : CLD_ ro P h o) (hpa : ∀ r, 0 ≤ r → r < ro 2 → 0 ≤ ro (31 + 4 * r + 2) ∧ ro (31 + 4 * r + 2) ≤ 9999) (Q : Int → List (Int × Int)) (hr3 : h o 3 = ro 3 ∧ 0 ≤ ro 3 ∧ ro 3 ≤ 4) (hQ : ∀ k, 0 ≤ k → k < ro 3 → CLA_ h o k (Q k) ∧ lw3_ (Q k)) : PC G yX11_fairest cX11_fairest 5 (some .int) 7 [rr_ G 0] h (qi_ (fun z h' => off_ [143, 144, 145, 146, 147, o + 10, o + 11, o + 15] h h' ∧ CWM_ ro P h' o ∧ z = fai_ ro P Q)) := by
  have H := HC.1
  have hL_h := hL
  have HB := H.2.1
  have HA := H.1
  refine PC.of (lv := [some (rr_ G 0), none, none, none, none]) (by decide +kernel) (Nat.le_of_ble_eq_true rfl) rfl rfl ?_
  refine pw_iconst (pc := 0) dX11_fairest_0 ?_
  refine pw_istore_n (lv1 := [some (rr_ G 0), some (ii_ (-1)), none, none, none]) (pc := 1) dX11_fairest_1 rfl (by decide) rfl rfl ?_
  refine pw_iconst (pc := 2) dX11_fairest_2 ?_
  refine pw_istore_n (lv1 := [some (rr_ G 0), some (ii_ (-1)), some (ii_ 0), none, none]) (pc := 3) dX11_fairest_3 rfl (by decide) rfl rfl ?_
  refine pw_iconst (pc := 4) dX11_fairest_4 ?_
  refine pw_istore_n (lv1 := [some (rr_ G 0), some (ii_ (-1)), some (ii_ 0), some (ii_ 0), none]) (pc := 5) dX11_fairest_5 rfl (by decide) rfl rfl ?_
  have L6 : ∀ (nn : Nat) (bq : Int) (lq : Int) (k : Int) (hq : PH_), (0 ≤ k ∧ k ≤ ro 3) → (ir_ lq) → (off_ [143, 144, 145, 146, 147, o + 10, o + 11, o + 15] h hq) → (CLD_ ro P hq o) → (0 < ro 2 ∨ k = 0) → (bq = (fal_ ro P Q k.toNat).1 ∧ lq = (fal_ ro P Q k.toNat).2) → ((ro 3 - k + 1 : Int) ≤ nn) → PW G RX11 cX11_fairest 5 (some .int) (rm_ 7) 0 0 (zm_ G (qi_ (fun z h' => off_ [143, 144, 145, 146, 147, o + 10, o + 11, o + 15] h h' ∧ CWM_ ro P h' o ∧ z = fai_ ro P Q))) 6 [some (rr_ G 0), some (ii_ bq), some (ii_ lq), some (ii_ k), none] [] hq := by
    intro nn
    induction nn with
    | zero => intro bq lq k hq ak al aF aK ar ab ams; exfalso; omega
    | succ nn ih6 =>
      intro bq lq k hq ak al aF aK ar ab ams
      have fb := fal_b ro P Q k.toNat
      rw [← ab.1] at fb
      refine pw_iload_n (z := k) (pc := 6) dX11_fairest_6 rfl rfl ?_
      refine pw_aload_n (z := 0) (pc := 7) dX11_fairest_7 rfl rfl ?_
      have n_hq_0_2 : hq 0 2 = h 0 2 := (congrFun (aF 0 (by first | decide | (simp; done) | (simp; omega))) 2)
      refine pw_gD (x := 2) (r := o) (pc := 8) dX11_fairest_8 fX11_28 (hC 0 (by decide)) (show kd_ 0 = 21 by decide +kernel) rfl rfl (n_hq_0_2.trans hL_h) ?_
      refine pw_gI (x := 3) (pc := 11) dX11_fairest_11 fX11_300 (hC _ (by omega)) (kd6_0 ho) rfl rfl (fun r11 => ?_)
      have n_hq_o_3 : hq o 3 = h o 3 := (congrFun (aF o (by first | decide | (simp; done) | (simp; omega))) 3)
      rw [n_hq_o_3] at r11 ⊢
      refine pw_icmp_ge (t := 77) (pc := 14) dX11_fairest_14 (by decide) (by first | omega | (simp only [n_hq_0_2, n_hq_o_3]; omega)) (by first | omega | (simp only [n_hq_0_2, n_hq_o_3]; omega)) (fun c14 => ?_) (fun c14 => ?_)
      · refine pw_iload_n (z := bq) (pc := 77) dX11_fairest_77 rfl rfl ?_
        exact pw_iret (pc := 78) dX11_fairest_78 (by first | omega | (simp only [n_hq_0_2, n_hq_o_3]; omega)) (⟨aF, aK.2.2, by
                  unfold fai_
                  by_cases c : 0 < ro 2
                  · rw [if_t c, ab.1, show k = ro 3 by omega]
                  · rw [if_f c, ab.1, show k = 0 by omega]; rfl⟩)
      · refine pw_aload_n (z := 0) (pc := 17) dX11_fairest_17 rfl rfl ?_
        refine pw_gD (x := 2) (r := o) (pc := 18) dX11_fairest_18 fX11_28 (hC 0 (by decide)) (show kd_ 0 = 21 by decide +kernel) rfl rfl (n_hq_0_2.trans hL_h) ?_
        refine pw_gI (x := 2) (pc := 21) dX11_fairest_21 fX11_242 (hC _ (by omega)) (kd6_0 ho) rfl rfl (fun r21 => ?_)
        have n_hq_o_2 : hq o 2 = h o 2 := (congrFun (aF o (by first | decide | (simp; done) | (simp; omega))) 2)
        rw [n_hq_o_2] at r21 ⊢
        refine pw_if_le (t := 77) (pc := 24) dX11_fairest_24 (by decide) (by first | omega | (simp only [n_hq_0_2, n_hq_o_2, n_hq_o_3]; omega)) (fun c24 => ?_) (fun c24 => ?_)
        · refine pw_iload_n (z := bq) (pc := 77) dX11_fairest_77 rfl rfl ?_
          exact pw_iret (pc := 78) dX11_fairest_78 (by first | omega | (simp only [n_hq_0_2, n_hq_o_2, n_hq_o_3]; omega)) (⟨aF, aK.2.2, by
                    unfold fai_
                    by_cases c : 0 < ro 2
                    · rw [if_t c, ab.1, show k = ro 3 by omega]
                    · rw [if_f c, ab.1, show k = 0 by omega]; rfl⟩)
        · have fs := fal_s (ro := ro) (P := P) (Q := Q) ak.1
          refine pw_aload_n (z := 0) (pc := 27) dX11_fairest_27 rfl rfl ?_
          refine pw_iload_n (z := k) (pc := 28) dX11_fairest_28 rfl rfl ?_
          refine pw_callV (c := 11) (o := 0) (As := [ii_ k]) (rest := []) (pc := 29) dX11_fairest_29 (d_goesByRule hC hq o ho (by rw [aF 0 (by simp)]; exact hL) ro P aK hpa (Q (k)) k (by first | omega | (simp only [n_hq_0_2, n_hq_o_2, n_hq_o_3]; omega)) (CLA_mv (hQ k (by first | omega | (simp only [n_hq_0_2, n_hq_o_2, n_hq_o_3]; omega)) (by first | omega | (simp only [n_hq_0_2, n_hq_o_2, n_hq_o_3]; omega))).1 (aF (o + 9) (by simp; omega)) (aF (o + 12) (by simp; omega)) (aF (o + 13) (by simp; omega)) (by rw [aF (o + 8) (by simp; omega)])) (hQ k (by first | omega | (simp only [n_hq_0_2, n_hq_o_2, n_hq_o_3]; omega)) (by first | omega | (simp only [n_hq_0_2, n_hq_o_2, n_hq_o_3]; omega))).2) lX11_303 mX11_goesByRule vX11_goesByRule (hC 0 (by decide)) (show kd_ 0 = 21 by decide +kernel) rfl rfl rfl (by decide) ⟨Nat.zero_le _, Nat.zero_le _⟩ (Nat.le_of_ble_eq_true rfl) (k_i (fun z29 h29 y29 q29 => ?_))
          obtain ⟨f29, m29, ⟨rfl, p29⟩ | ⟨rfl, p29⟩⟩ := q29
          · obtain ⟨q, q29, t29, pl29⟩ := p29
            have p29 := q29
            simp -failIfUnchanged only [n_hq_0_2, n_hq_o_3, n_hq_o_2] at p29
            refine pw_if_eq (t := 71) (pc := 32) dX11_fairest_32 (by decide) (by first | omega | (simp only [n_hq_0_2, n_hq_o_2, n_hq_o_3]; omega)) (fun c32 => absurd c32 (by decide)) (fun _ => ?_)
            refine pw_aload_n (z := 0) (pc := 35) dX11_fairest_35 rfl rfl ?_
            refine pw_getR (r := 143) (pc := 36) dX11_fairest_36 fX11_63 (hC 0 (by decide)) (show kd_ 0 = 21 by decide +kernel) rfl (by decide +kernel) ?_
            refine pw_getR (r := 146) (pc := 39) dX11_fairest_39 fX11_173 (hC 143 (by decide)) (show kd_ 143 = 17 by decide +kernel) rfl (by decide +kernel) ?_
            refine pw_iconst (pc := 42) dX11_fairest_42 ?_
            refine pw_aload_n (z := 0) (pc := 43) dX11_fairest_43 rfl rfl ?_
            have n_h29_0_2 : h29 0 2 = h 0 2 := ((show h29 0 2 = hq 0 2 from (congrFun (f29 0 (by first | decide | (simp; done) | (simp; omega))) 2)).trans (show hq 0 2 = h 0 2 from (congrFun (aF 0 (by first | decide | (simp; done) | (simp; omega))) 2)))
            refine pw_gD (x := 2) (r := o) (pc := 44) dX11_fairest_44 fX11_28 (hC 0 (by decide)) (show kd_ 0 = 21 by decide +kernel) rfl rfl (n_h29_0_2.trans hL_h) ?_
            refine pw_gI (x := 2) (pc := 47) dX11_fairest_47 fX11_242 (hC _ (by omega)) (kd6_0 ho) rfl rfl (fun r47 => ?_)
            have n_h29_o_2 : h29 o 2 = h o 2 := ((show h29 o 2 = hq o 2 from (congrFun (f29 o (by first | decide | (simp; done) | (simp; omega))) 2)).trans (show hq o 2 = h o 2 from (congrFun (aF o (by first | decide | (simp; done) | (simp; omega))) 2)))
            rw [n_h29_o_2] at r47 ⊢
            refine pw_callS (As := [rr_ G 146, ii_ 0, ii_ (h o 2)]) (rest := []) (pc := 50) dX11_fairest_50 (d_spreadOf hC h29 146 4 (by decide +kernel) (by decide +kernel) (by decide) (by decide) 0 (h o 2) (by first | omega | (simp only [n_h29_0_2, n_h29_o_2, n_hq_0_2, n_hq_o_2, n_hq_o_3]; omega)) (fun x x0 x1 => by have := t29 x x0 (by first | omega | (simp only [n_h29_0_2, n_h29_o_2, n_hq_0_2, n_hq_o_2, n_hq_o_3]; omega)); omega)) lX11_306 mX11_spreadOf sX11_spreadOf rfl rfl (by decide) ⟨Nat.zero_le _, Nat.zero_le _⟩ (Nat.le_of_ble_eq_true rfl) (k_i (fun z50 h50 y50 q50 => ?_))
            obtain ⟨rfl, w50⟩ := q50
            refine pw_istore (lv1 := [some (rr_ G 0), some (ii_ bq), some (ii_ lq), some (ii_ k), some (ii_ z50)]) (pc := 53) dX11_fairest_53 (by decide) rfl rfl ?_
            have sp : z50 = spr_ q.1 0 (ro 2) := by rw [w50, HA.2.2.1]; exact spr_cg (by omega) (fun x x0 x1 => (t29 x x0 x1).1)
            refine pw_iload_n (z := bq) (pc := 55) dX11_fairest_55 rfl rfl ?_
            refine pw_iconst (pc := 56) dX11_fairest_56 ?_
            refine pw_icmp_eq (t := 66) (pc := 57) dX11_fairest_57 (by decide) (by first | omega | (simp only [n_h29_0_2, n_h29_o_2, n_hq_0_2, n_hq_o_2, n_hq_o_3]; omega)) (by first | omega | (simp only [n_h29_0_2, n_h29_o_2, n_hq_0_2, n_hq_o_2, n_hq_o_3]; omega)) (fun c57 => ?_) (fun c57 => ?_)
            · have X66 : (k, z50) = fal_ ro P Q (k + 1).toNat := by rw [fs, q29, fas_y (by rw [← ab.1, ← ab.2, ← sp]; omega), sp]
              refine pw_iload_n (z := k) (pc := 66) dX11_fairest_66 rfl rfl ?_
              refine pw_istore_n (lv1 := [some (rr_ G 0), some (ii_ k), some (ii_ lq), some (ii_ k), some (ii_ z50)]) (pc := 67) dX11_fairest_67 rfl (by decide) rfl rfl ?_
              refine pw_iload (z := z50) (pc := 68) dX11_fairest_68 rfl ?_
              refine pw_istore_n (lv1 := [some (rr_ G 0), some (ii_ k), some (ii_ z50), some (ii_ k), some (ii_ z50)]) (pc := 70) dX11_fairest_70 rfl (by decide) rfl rfl ?_
              have K71 : CLD_ ro P h29 o := CLD_w aK ho f29 (by simp) m29
              have F71 : off_ [143, 144, 145, 146, 147, o + 10, o + 11, o + 15] h h29 := off_tr aF f29
              refine pw_iinc (z := k) (lv1 := [some (rr_ G 0), some (ii_ k), some (ii_ z50), some (ii_ (k + 1)), some (ii_ z50)]) (pc := 71) dX11_fairest_71 rfl (by decide) rfl rfl ?_
              refine pw_goto (t := 6) (pc := 74) dX11_fairest_74 (by decide) ?_
              refine pw_less (lv1 := [some (rr_ G 0), some (ii_ k), some (ii_ z50), some (ii_ (k + 1)), none]) rfl (by intro i v; (match i with | 0 => simp | 1 => simp | 2 => simp | 3 => simp | 4 => simp | n + 5 => simp)) ?_
              exact ih6 _ _ _ _ (by omega) (by first | omega) (F71) (K71) (Or.inl (by omega)) (by first | (rw [← X66]; exact ⟨rfl, rfl⟩) | (rw [fs, p29, fas_0]; exact ab) | (rw [fs, q29, fas_n (by rw [← ab.1, ← ab.2, ← sp]; omega)]; exact ab)) (by omega)
            · refine pw_iload (z := z50) (pc := 60) dX11_fairest_60 rfl ?_
              refine pw_iload_n (z := lq) (pc := 62) dX11_fairest_62 rfl rfl ?_
              refine pw_icmp_ge (t := 71) (pc := 63) dX11_fairest_63 (by decide) (by first | omega | (simp only [n_h29_0_2, n_h29_o_2, n_hq_0_2, n_hq_o_2, n_hq_o_3]; omega)) (by first | omega | (simp only [n_h29_0_2, n_h29_o_2, n_hq_0_2, n_hq_o_2, n_hq_o_3]; omega)) (fun c63 => ?_) (fun c63 => ?_)
              · have K71 : CLD_ ro P h29 o := CLD_w aK ho f29 (by simp) m29
                have F71 : off_ [143, 144, 145, 146, 147, o + 10, o + 11, o + 15] h h29 := off_tr aF f29
                refine pw_iinc (z := k) (lv1 := [some (rr_ G 0), some (ii_ bq), some (ii_ lq), some (ii_ (k + 1)), some (ii_ z50)]) (pc := 71) dX11_fairest_71 rfl (by decide) rfl rfl ?_
                refine pw_goto (t := 6) (pc := 74) dX11_fairest_74 (by decide) ?_
                refine pw_less (lv1 := [some (rr_ G 0), some (ii_ bq), some (ii_ lq), some (ii_ (k + 1)), none]) rfl (by intro i v; (match i with | 0 => simp | 1 => simp | 2 => simp | 3 => simp | 4 => simp | n + 5 => simp)) ?_
                exact ih6 _ _ _ _ (by omega) (by first | omega) (F71) (K71) (Or.inl (by omega)) (by first | (rw [← X66]; exact ⟨rfl, rfl⟩) | (rw [fs, p29, fas_0]; exact ab) | (rw [fs, q29, fas_n (by rw [← ab.1, ← ab.2, ← sp]; omega)]; exact ab)) (by omega)
              · have X66 : (k, z50) = fal_ ro P Q (k + 1).toNat := by rw [fs, q29, fas_y (by rw [← ab.1, ← ab.2, ← sp]; omega), sp]
                refine pw_iload_n (z := k) (pc := 66) dX11_fairest_66 rfl rfl ?_
                refine pw_istore_n (lv1 := [some (rr_ G 0), some (ii_ k), some (ii_ lq), some (ii_ k), some (ii_ z50)]) (pc := 67) dX11_fairest_67 rfl (by decide) rfl rfl ?_
                refine pw_iload (z := z50) (pc := 68) dX11_fairest_68 rfl ?_
                refine pw_istore_n (lv1 := [some (rr_ G 0), some (ii_ k), some (ii_ z50), some (ii_ k), some (ii_ z50)]) (pc := 70) dX11_fairest_70 rfl (by decide) rfl rfl ?_
                have K71 : CLD_ ro P h29 o := CLD_w aK ho f29 (by simp) m29
                have F71 : off_ [143, 144, 145, 146, 147, o + 10, o + 11, o + 15] h h29 := off_tr aF f29
                refine pw_iinc (z := k) (lv1 := [some (rr_ G 0), some (ii_ k), some (ii_ z50), some (ii_ (k + 1)), some (ii_ z50)]) (pc := 71) dX11_fairest_71 rfl (by decide) rfl rfl ?_
                refine pw_goto (t := 6) (pc := 74) dX11_fairest_74 (by decide) ?_
                refine pw_less (lv1 := [some (rr_ G 0), some (ii_ k), some (ii_ z50), some (ii_ (k + 1)), none]) rfl (by intro i v; (match i with | 0 => simp | 1 => simp | 2 => simp | 3 => simp | 4 => simp | n + 5 => simp)) ?_
                exact ih6 _ _ _ _ (by omega) (by first | omega) (F71) (K71) (Or.inl (by omega)) (by first | (rw [← X66]; exact ⟨rfl, rfl⟩) | (rw [fs, p29, fas_0]; exact ab) | (rw [fs, q29, fas_n (by rw [← ab.1, ← ab.2, ← sp]; omega)]; exact ab)) (by omega)
          · simp -failIfUnchanged only [n_hq_0_2, n_hq_o_3, n_hq_o_2] at p29
            refine pw_if_eq (t := 71) (pc := 32) dX11_fairest_32 (by decide) (by first | omega | (simp only [n_hq_0_2, n_hq_o_2, n_hq_o_3]; omega)) (fun _ => ?_) (fun c32 => absurd c32 (by decide))
            have K71 : CLD_ ro P h29 o := CLD_w aK ho f29 (by simp) m29
            have F71 : off_ [143, 144, 145, 146, 147, o + 10, o + 11, o + 15] h h29 := off_tr aF f29
            refine pw_iinc (z := k) (lv1 := [some (rr_ G 0), some (ii_ bq), some (ii_ lq), some (ii_ (k + 1)), none]) (pc := 71) dX11_fairest_71 rfl (by decide) rfl rfl ?_
            refine pw_goto (t := 6) (pc := 74) dX11_fairest_74 (by decide) ?_
            exact ih6 _ _ _ _ (by omega) (by first | omega) (F71) (K71) (Or.inl (by omega)) (by first | (rw [← X66]; exact ⟨rfl, rfl⟩) | (rw [fs, p29, fas_0]; exact ab) | (rw [fs, q29, fas_n (by rw [← ab.1, ← ab.2, ← sp]; omega)]; exact ab)) (by omega)
  exact L6 _ _ _ _ _ (by omega) (by omega) (off_rf) (HC) (Or.inr rfl) (⟨rfl, rfl⟩) (Int.self_le_toNat _)

