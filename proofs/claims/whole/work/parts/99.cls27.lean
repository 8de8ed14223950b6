/-! ===== years, as the class draws them ===== -/
theorem bx_w (l : Nat) (hl : l < 16) (r : Nat) (hr : r < 4) (q : Nat) (hq : q < 4) (h1 : l / 2 ^ r % 2 = 1) : (l - 2 ^ r) / 2 ^ q % 2 = 0 ↔ (q = r ∨ l / 2 ^ q % 2 = 0) := by
  have k : ∀ l < 16, ∀ r < 4, ∀ q < 4, (l / 2 ^ r % 2 == 1) = true → (((l - 2 ^ r) / 2 ^ q % 2 == 0) == (q == r || l / 2 ^ q % 2 == 0)) = true := by decide +kernel
  have := k l hl r hr q hq (by simp [h1])
  rw [beq_iff_eq, Bool.eq_iff_iff, beq_iff_eq, Bool.or_eq_true, beq_iff_eq, beq_iff_eq] at this
  exact this
/-- how many of those who have come have none -/
def cnl_ (si : Int → Int) (left : Int) : Nat → Int
  | 0 => 0
  | n + 1 => cnl_ si left n + if left / 2 ^ n % 2 = 0 ∧ si n < 0 then 1 else 0
theorem cnl_b {si : Int → Int} {left : Int} : ∀ n, 0 ≤ cnl_ si left n ∧ cnl_ si left n ≤ n
  | 0 => by unfold cnl_; omega
  | n + 1 => by have := cnl_b (si := si) (left := left) n; unfold cnl_; split <;> omega
theorem cnl_0 {si : Int → Int} {R : Int} (hR : 0 ≤ R ∧ R ≤ 4) : ∀ n : Nat, (n : Int) ≤ R → cnl_ si (2 ^ R.toNat - 1) n = 0
  | 0, _ => rfl
  | n + 1, hn => by
    unfold cnl_
    rw [cnl_0 hR n (by omega), if_neg]; rfl
    have b := (bx_i R.toNat (by omega)).2.2 n (by omega)
    have e : ((2 : Int) ^ R.toNat - 1) = ((2 ^ R.toNat - 1 : Nat) : Int) := by have := Nat.two_pow_pos R.toNat; rw [pc_]; omega
    rw [e]
    intro u
    have := ib_.2.mp u.1
    omega
theorem cnl_s {si : Int → Int} {left w s : Int} (hl : 0 ≤ left ∧ left ≤ 15) (hw : 0 ≤ w ∧ w < 4) (hb : left / 2 ^ w.toNat % 2 = 1) : ∀ n : Nat, n ≤ 4 → cnl_ (ob_ si w s) (left - 2 ^ w.toNat) n = cnl_ si left n + if w < n ∧ s < 0 then 1 else 0
  | 0, _ => by unfold cnl_; rw [if_neg (by omega)]; rfl
  | n + 1, hn => by
    have e1 : left - 2 ^ w.toNat = ((left.toNat - 2 ^ w.toNat : Nat) : Int) := by
      have b1 := bx_f left.toNat (by omega) w.toNat (by omega) (ib_.1.mp (by rw [tn_c hl.1]; exact hb))
      rw [pc_]; omega
    have k := bx_w left.toNat (by omega) w.toNat (by omega) n (by omega) (ib_.1.mp (by rw [tn_c hl.1]; exact hb))
    have k2 : (left - 2 ^ w.toNat) / 2 ^ n % 2 = 0 ↔ ((n : Int) = w ∨ left / 2 ^ n % 2 = 0) := by
      constructor
      · intro u
        rw [e1] at u
        rcases k.mp (ib_.2.mp u) with v | v
        · exact Or.inl (by omega)
        · exact Or.inr (by rw [← tn_c hl.1]; exact ib_.2.mpr v)
      · intro u
        rw [e1]
        refine ib_.2.mpr (k.mpr ?_)
        rcases u with v | v
        · exact Or.inl (by omega)
        · exact Or.inr (ib_.2.mp (by rw [tn_c hl.1]; exact v))
    have ih := cnl_s (si := si) (s := s) hl hw hb n (by omega)
    have A : (if (left - 2 ^ w.toNat) / 2 ^ n % 2 = 0 ∧ ob_ si w s n < 0 then (1 : Int) else 0) = (if left / 2 ^ n % 2 = 0 ∧ si n < 0 then 1 else 0) + (if (n : Int) = w ∧ s < 0 then 1 else 0) := by
      by_cases c : (n : Int) = w
      · have hb2 : left / 2 ^ n % 2 = 1 := by rw [show n = w.toNat by omega]; exact hb
        have o1 : ob_ si w s n = s := by unfold ob_; rw [if_pos c]
        rw [o1, if_neg (show ¬ (left / 2 ^ n % 2 = 0 ∧ si n < 0) by omega)]
        by_cases c2 : s < 0
        · rw [if_pos (show (left - 2 ^ w.toNat) / 2 ^ n % 2 = 0 ∧ s < 0 from ⟨k2.mpr (Or.inl c), c2⟩), if_pos (show (n : Int) = w ∧ s < 0 from ⟨c, c2⟩)]; rfl
        · rw [if_neg (show ¬ ((left - 2 ^ w.toNat) / 2 ^ n % 2 = 0 ∧ s < 0) from fun u => c2 u.2), if_neg (show ¬ ((n : Int) = w ∧ s < 0) from fun u => c2 u.2)]; rfl
      · have o1 : ob_ si w s n = si n := by unfold ob_; rw [if_neg c]
        rw [o1, if_neg (show ¬ ((n : Int) = w ∧ s < 0) from fun u => c u.1)]
        by_cases c2 : left / 2 ^ n % 2 = 0 ∧ si n < 0
        · rw [if_pos c2, if_pos (show (left - 2 ^ w.toNat) / 2 ^ n % 2 = 0 ∧ si n < 0 from ⟨k2.mpr (Or.inr c2.1), c2.2⟩)]; rfl
        · rw [if_neg c2, if_neg (show ¬ ((left - 2 ^ w.toNat) / 2 ^ n % 2 = 0 ∧ si n < 0) from fun u => c2 ⟨(k2.mp u.1).resolve_left c, u.2⟩)]; rfl
    have Bq : (if w < ((n + 1 : Nat) : Int) ∧ s < 0 then (1 : Int) else 0) = (if w < (n : Int) ∧ s < 0 then 1 else 0) + (if (n : Int) = w ∧ s < 0 then 1 else 0) := by
      split <;> split <;> split <;> omega
    unfold cnl_
    rw [ih, A, Bq]
    omega
theorem cnl_t {si : Int → Int} {r : Int} (h : 0 ≤ r) : cnl_ si 0 (r + 1).toNat = cnl_ si 0 r.toNat + if si r < 0 then 1 else 0 := by
  rw [tn_s h]
  show cnl_ si 0 r.toNat + (if (0 : Int) / 2 ^ r.toNat % 2 = 0 ∧ si (r.toNat : Int) < 0 then 1 else 0) = _
  rw [tn_c h, Int.zero_ediv]
  by_cases c : si r < 0
  · rw [if_pos c, if_pos ⟨rfl, c⟩]
  · rw [if_neg c, if_neg (fun u => c u.2)]
theorem rdl_1 {ro : Int → Int} {t : Int} {n : Nat} {g left free no w s : Int} {si : Int → Int} (hw : w = rwh_ ro left g) (hs : s = rst_ ro t left free g) : rdl_ ro t (n + 1) g left free si no = rdl_ ro t n (gn_ g) (left - 2 ^ w.toNat) (if s < 0 then free else free - 2 ^ s.toNat) (ob_ si w s) (no + if s < 0 then 1 else 0) := by rw [hw, hs]; rfl

set_option maxHeartbeats 4000000 in
set_option maxRecDepth 100000 in
theorem d_findChance {G : GT_} (hC : okC_ G) (h : PH_) (o : Nat) (ho : is6_ o) (ro : Int → Int) (H : CRD_ ro h o) (hd : ∀ r, 0 ≤ r → r < ro 2 → 1 ≤ ro (31 + 4 * r + 1) ∧ ro (31 + 4 * r + 1) ≤ 9) (t : Int) (h1 : 0 ≤ t ∧ t < ro 1) (r s : Int) (h2 : 0 ≤ r ∧ r < ro 2) (h3 : ir_ s) : PC G yX0_findChance cX0_findChance 5 none 10 [rr_ G 170, rr_ G o, ii_ t, ii_ r, ii_ s] h (qv_ (fun h' => off_ [170] h h' ∧ h' 170 8 = (dor_ ro r s t) / (Int.gcd (dor_ ro r s t) (pm_ ro r.toNat 1) : Int) ∧ h' 170 9 = (pm_ ro r.toNat 1) / (Int.gcd (dor_ ro r s t) (pm_ ro r.toNat 1) : Int))) := by
  have HB := H.2.1
  have HA := H.1
  have hR4 : 0 ≤ ro 2 ∧ ro 2 ≤ 4 := by omega
  have bi := bx_i (ro 2).toNat (by omega)
  have bj := bx_i (ro 0).toNat (by omega)
  have pR : (2 : Int) ^ (ro 2).toNat = ((2 ^ (ro 2).toNat : Nat) : Int) := pc_
  have pS : (2 : Int) ^ (ro 0).toNat = ((2 ^ (ro 0).toNat : Nat) : Int) := pc_
  have qR := Nat.two_pow_pos (ro 2).toNat
  have qS := Nat.two_pow_pos (ro 0).toNat
  have pb := pm_b (ro := ro) (w := r.toNat) (by omega) hd (by omega)
  have du : dpu_ ro (ro 2).toNat (2 ^ (ro 2).toNat - 1) (2 ^ (ro 0).toNat - 1) r 1 1 0 := by
    have e1 : ((2 : Int) ^ (ro 2).toNat - 1) = ((2 ^ (ro 2).toNat - 1 : Nat) : Int) := by omega
    refine ⟨by omega, by omega, by rw [e1]; exact ib_.1.mpr (bi.2.2 r.toNat (by omega)), by rw [e1, Int.toNat_natCast]; exact bi.1, by omega, ⟨by omega, by omega, ?_⟩, Int.one_dvd _, by omega, ?_⟩
    · have h5 : (ro 2).toNat = 1 ∨ (ro 2).toNat = 2 ∨ (ro 2).toNat = 3 ∨ (ro 2).toNat = 4 := by omega
      rcases h5 with h5 | h5 | h5 | h5 <;> rw [h5] <;> decide
    · rw [Int.zero_add]
      refine Int.mul_le_mul_of_nonneg_right ?_ (by omega)
      have h5 : (ro 2).toNat = 1 ∨ (ro 2).toNat = 2 ∨ (ro 2).toNat = 3 ∨ (ro 2).toNat = 4 := by omega
      rcases h5 with h5 | h5 | h5 | h5 <;> rw [h5] <;> decide
  refine PC.of (lv := [some (rr_ G 170), some (rr_ G o), some (ii_ t), some (ii_ r), some (ii_ s)]) (by decide +kernel) (Nat.le_of_ble_eq_true rfl) rfl rfl ?_
  refine pw_aload_n (z := 170) (pc := 0) dX0_findChance_0 rfl rfl ?_
  refine pw_aload_n (z := o) (pc := 1) dX0_findChance_1 rfl rfl ?_
  refine pw_pD (x := 0) (nm := "MiddleSeat$Road") (pc := 2) dX0_findChance_2 fX0_18 (hC 170 (by decide)) (show kd_ 170 = 10 by decide +kernel) rfl rfl (by decide +kernel) (by first | omega) ?_
  obtain ⟨g2, e2⟩ : ∃ x, x = up_ h 170 0 ((o : Nat) : Int) := ⟨_, rfl⟩
  refine pw_heq e2 ?_
  refine pw_aload_n (z := 170) (pc := 5) dX0_findChance_5 rfl rfl ?_
  refine pw_iload_n (z := t) (pc := 6) dX0_findChance_6 rfl rfl ?_
  refine pw_pI (x := 1) (pc := 7) dX0_findChance_7 fX0_22 (hC 170 (by decide)) (show kd_ 170 = 10 by decide +kernel) rfl rfl (by first | omega) ?_
  obtain ⟨g7, e7⟩ : ∃ x, x = up_ g2 170 1 t := ⟨_, rfl⟩
  refine pw_heq e7 ?_
  refine pw_aload_n (z := 170) (pc := 10) dX0_findChance_10 rfl rfl ?_
  refine pw_iload_n (z := r) (pc := 11) dX0_findChance_11 rfl rfl ?_
  refine pw_pI (x := 2) (pc := 12) dX0_findChance_12 fX0_26 (hC 170 (by decide)) (show kd_ 170 = 10 by decide +kernel) rfl rfl (by first | omega) ?_
  obtain ⟨g12, e12⟩ : ∃ x, x = up_ g7 170 2 r := ⟨_, rfl⟩
  refine pw_heq e12 ?_
  refine pw_aload_n (z := 170) (pc := 15) dX0_findChance_15 rfl rfl ?_
  refine pw_iload (z := s) (pc := 16) dX0_findChance_16 rfl ?_
  refine pw_pI (x := 3) (pc := 18) dX0_findChance_18 fX0_29 (hC 170 (by decide)) (show kd_ 170 = 10 by decide +kernel) rfl rfl (by first | omega) ?_
  obtain ⟨g18, e18⟩ : ∃ x, x = up_ g12 170 3 s := ⟨_, rfl⟩
  refine pw_heq e18 ?_
  refine pw_aload_n (z := 170) (pc := 21) dX0_findChance_21 rfl rfl ?_
  refine pw_lconst (z := 0) (pc := 22) dX0_findChance_22 rfl ?_
  refine pw_pJ (x := 8) (pc := 23) dX0_findChance_23 fX0_32 (hC 170 (by decide)) (show kd_ 170 = 10 by decide +kernel) rfl rfl (by first | omega) ?_
  obtain ⟨g23, e23⟩ : ∃ x, x = up_ g18 170 8 0 := ⟨_, rfl⟩
  refine pw_heq e23 ?_
  refine pw_aload_n (z := 170) (pc := 26) dX0_findChance_26 rfl rfl ?_
  refine pw_lconst (z := 1) (pc := 27) dX0_findChance_27 rfl ?_
  refine pw_pJ (x := 9) (pc := 28) dX0_findChance_28 fX0_36 (hC 170 (by decide)) (show kd_ 170 = 10 by decide +kernel) rfl rfl (by first | omega) ?_
  obtain ⟨g28, e28⟩ : ∃ x, x = up_ g23 170 9 1 := ⟨_, rfl⟩
  refine pw_heq e28 ?_
  have gf : off_ [170] h g28 := by rw [e28, e23, e18, e12, e7, e2]; exact off_up (off_up (off_up (off_up (off_up (off_up off_rf (by decide)) (by decide)) (by decide)) (by decide)) (by decide)) (by decide)
  have gq : g28 170 = ob_ (ob_ (ob_ (ob_ (ob_ (ob_ (h 170) 0 (o : Int)) 1 t) 2 r) 3 s) 8 0) 9 1 := by rw [e28, up_ob, e23, up_ob, e18, up_ob, e12, up_ob, e7, up_ob, e2, up_ob]
  have fr : fra_ g28 0 (pm_ ro r.toNat 1) := by
    have g : (Int.gcd 0 (pm_ ro r.toNat 1) : Int) = (pm_ ro r.toNat 1) := by rw [Int.gcd_zero_left]; omega
    refine ⟨?_, ?_⟩
    · rw [gq, Int.zero_ediv]; rfl
    · rw [gq, g, Int.ediv_self (by omega)]; rfl
  have pr : eqr_ ro o (ro 2).toNat t 0 0 (2 ^ (ro 2).toNat - 1) (2 ^ (ro 0).toNat - 1) r s 1 1 0 g28 := ⟨CRD_off H ho gf (by simp), ⟨by rw [gq]; rfl, by rw [gq]; rfl, by rw [gq]; rfl, by rw [gq]; rfl⟩, h1, hd, by omega, by omega, cmp_0 (by omega), cmp_0 (by omega), h3, du, fr⟩
  refine pw_aload_n (z := 170) (pc := 31) dX0_findChance_31 rfl rfl ?_
  refine pw_iconst (pc := 32) dX0_findChance_32 ?_
  refine pw_iconst (pc := 33) dX0_findChance_33 ?_
  refine pw_lconst (z := 1) (pc := 34) dX0_findChance_34 rfl ?_
  refine pw_lconst (z := 1) (pc := 35) dX0_findChance_35 rfl ?_
  refine pw_callV (c := 0) (o := 170) (As := [ii_ 0, ii_ 0, ll_ 1, ll_ 1]) (rest := []) (pc := 36) dX0_findChance_36 (d_come hC o ho ro (ro 2).toNat g28 t 0 0 (2 ^ (ro 2).toNat - 1) (2 ^ (ro 0).toNat - 1) r s 1 1 0 pr) lX0_39 mX0_come vX0_come (hC 170 (by decide)) (show kd_ 170 = 10 by decide +kernel) rfl rfl rfl (by constructor <;> simp only [rm_] <;> omega) ⟨Nat.zero_le _, Nat.zero_le _⟩ (Nat.le_of_ble_eq_true rfl) (k_v (fun h36 q36 => ?_))
  obtain ⟨f36, o36, r36⟩ := q36
  exact pw_vret (pc := 39) dX0_findChance_39 (⟨off_tr gf f36, r36⟩)

set_option maxHeartbeats 4000000 in
set_option maxRecDepth 100000 in
theorem d_drawOne {G : GT_} (hC : okC_ G) (h : PH_) (o : Nat) (ho : is6_ o) (ro : Int → Int) (H : CRD_ ro h o) (hd : ∀ r, 0 ≤ r → r < ro 2 → 1 ≤ ro (31 + 4 * r + 1) ∧ ro (31 + 4 * r + 1) ≤ 9) (hland : h 170 0 = (o : Int)) (hg : 0 ≤ h 170 4 ∧ h 170 4 < 2147483648) (c f : Int) (hc : 0 ≤ c ∧ c ≤ 15) (hf : cmp_ (ro 2) c f) (hpos : 1 ≤ das_ ro f (ro 2).toNat) : PC G yX0_drawOne cX0_drawOne 7 (some .int) 2 [rr_ G 170, ii_ c] h (qi_ (fun z h' => h' = up_ h 170 4 (gn_ (h 170 4)) ∧ z = cmn_ ro f (ro 2) (ro 2).toNat 0 (gn_ (h 170 4) / 65536 % das_ ro f (ro 2).toNat))) := by
  have HB := H.2.1
  have HA := H.1
  have t1 : (h 170 4 * 1103515245 + 12345).tmod 2147483648 = gn_ (h 170 4) := Int.tmod_eq_emod_of_nonneg (by omega)
  have gb := gn_b (h 170 4)
  refine PC.of (lv := [some (rr_ G 170), some (ii_ c), none, none, none, none, none]) (by decide +kernel) (Nat.le_of_ble_eq_true rfl) rfl rfl ?_
  refine pw_aload_n (z := 170) (pc := 0) dX0_drawOne_0 rfl rfl ?_
  refine pw_iload_n (z := c) (pc := 1) dX0_drawOne_1 rfl rfl ?_
  refine pw_callV (c := 0) (o := 170) (As := [ii_ c]) (rest := []) (pc := 2) dX0_drawOne_2 (d_dashesLeft hC h o ho ro H hd hland c f hc hf) lX0_43 mX0_dashesLeft vX0_dashesLeft (hC 170 (by decide)) (show kd_ 170 = 10 by decide +kernel) rfl rfl rfl (by decide) ⟨Nat.zero_le _, Nat.zero_le _⟩ (Nat.le_of_ble_eq_true rfl) (k_i (fun z2 h2 y2 q2 => ?_))
  obtain ⟨rfl, w2⟩ := q2
  have db := das_b (ro := ro) (left := f) (ro 2).toNat (fun q q0 q1 => hd q q0 (by omega))
  rw [← w2] at db hpos
  refine pw_istore_n (lv1 := [some (rr_ G 170), some (ii_ c), some (ii_ z2), none, none, none, none]) (pc := 5) dX0_drawOne_5 rfl (by decide) rfl rfl ?_
  refine pw_aload_n (z := 170) (pc := 6) dX0_drawOne_6 rfl rfl ?_
  refine pw_aload_n (z := 170) (pc := 7) dX0_drawOne_7 rfl rfl ?_
  refine pw_gJ (x := 4) (pc := 8) dX0_drawOne_8 fX0_67 (hC 170 (by decide)) (show kd_ 170 = 10 by decide +kernel) rfl rfl (fun r8 => ?_)
  refine pw_ldc2 (z := 1103515245) (pc := 11) dX0_drawOne_11 kX0_96 rfl ?_
  refine pw_lmul (pc := 14) dX0_drawOne_14 ?_
  refine pw_ldc2 (z := 12345) (pc := 15) dX0_drawOne_15 kX0_98 rfl ?_
  refine pw_ladd (pc := 18) dX0_drawOne_18 ?_
  refine pw_ldc2 (z := 2147483648) (pc := 19) dX0_drawOne_19 kX0_100 rfl ?_
  refine pw_lrem (pc := 22) dX0_drawOne_22 (by first | omega) (by first | omega) ?_
  refine pw_pJ (x := 4) (pc := 23) dX0_drawOne_23 fX0_67 (hC 170 (by decide)) (show kd_ 170 = 10 by decide +kernel) rfl rfl (by first | omega) ?_
  obtain ⟨g23, e23⟩ : ∃ x, x = up_ h 170 4 ((((h 170 4) * 1103515245) + 12345).tmod 2147483648) := ⟨_, rfl⟩
  refine pw_heq e23 ?_
  refine pw_iload_n (z := z2) (pc := 26) dX0_drawOne_26 rfl rfl ?_
  refine pw_if_le (t := 44) (pc := 27) dX0_drawOne_27 (by decide) (by first | omega) (fun c27 => ?_) (fun c27 => ?_)
  · exfalso; omega
  · refine pw_aload_n (z := 170) (pc := 30) dX0_drawOne_30 rfl rfl ?_
    have v4 : g23 170 4 = gn_ (h 170 4) := by rw [e23, up_same, t1]
    have t2 : (g23 170 4).tdiv 65536 = gn_ (h 170 4) / 65536 := by rw [v4]; exact Int.tdiv_eq_ediv_of_nonneg gb.1
    have t3 : ((g23 170 4).tdiv 65536).tmod z2 = (gn_ (h 170 4) / 65536 % das_ ro f (ro 2).toNat) := by rw [t2, w2]; exact Int.tmod_eq_emod_of_nonneg (by omega)
    have t4 := Int.emod_nonneg (gn_ (h 170 4) / 65536) (show das_ ro f (ro 2).toNat ≠ 0 by omega)
    have t5 := Int.emod_lt_of_pos (gn_ (h 170 4) / 65536) (show 0 < das_ ro f (ro 2).toNat by omega)
    refine pw_gJ (x := 4) (pc := 31) dX0_drawOne_31 fX0_67 (hC 170 (by decide)) (show kd_ 170 = 10 by decide +kernel) rfl rfl (fun r31 => ?_)
    refine pw_ldc2 (z := 65536) (pc := 34) dX0_drawOne_34 kX0_102 rfl ?_
    refine pw_ldiv (pc := 37) dX0_drawOne_37 (by first | omega) (by first | omega) ?_
    refine pw_iload_n (z := z2) (pc := 38) dX0_drawOne_38 rfl rfl ?_
    refine pw_i2l (pc := 39) dX0_drawOne_39 (by first | omega) ?_
    refine pw_lrem (pc := 40) dX0_drawOne_40 (by first | omega) (by first | omega) ?_
    refine pw_goto (t := 45) (pc := 41) dX0_drawOne_41 (by decide) ?_
    refine pw_lstore_n (lv1 := [some (rr_ G 170), some (ii_ c), some (ii_ z2), some (ll_ (((g23 170 4).tdiv 65536).tmod z2)), none, none, none]) (pc := 45) dX0_drawOne_45 rfl (by decide) rfl rfl ?_
    refine pw_iconst (pc := 46) dX0_drawOne_46 ?_
    refine pw_istore (lv1 := [some (rr_ G 170), some (ii_ c), some (ii_ z2), some (ll_ (((g23 170 4).tdiv 65536).tmod z2)), none, some (ii_ 0), none]) (pc := 47) dX0_drawOne_47 (by decide) rfl rfl ?_
    refine pw_iconst (pc := 49) dX0_drawOne_49 ?_
    refine pw_istore (lv1 := [some (rr_ G 170), some (ii_ c), some (ii_ z2), some (ll_ (((g23 170 4).tdiv 65536).tmod z2)), none, some (ii_ 0), some (ii_ 0)]) (pc := 50) dX0_drawOne_50 (by decide) rfl rfl ?_
    have L52 : ∀ (nn : Nat) (v : Int) (la : Int) (r : Int), (0 ≤ r ∧ r ≤ ro 2) → (0 ≤ la ∧ la ≤ 4) → (0 ≤ v ∧ v ≤ 10000) → (cmn_ ro f (ro 2) (ro 2 - r).toNat r v = cmn_ ro f (ro 2) (ro 2).toNat 0 (gn_ (h 170 4) / 65536 % das_ ro f (ro 2).toNat)) → ((ro 2 - r + 1 : Int) ≤ nn) → PW G RX0 cX0_drawOne 7 (some .int) (rm_ 2) 0 0 (zm_ G (qi_ (fun z h' => h' = up_ h 170 4 (gn_ (h 170 4)) ∧ z = cmn_ ro f (ro 2) (ro 2).toNat 0 (gn_ (h 170 4) / 65536 % das_ ro f (ro 2).toNat)))) 52 [some (rr_ G 170), some (ii_ c), some (ii_ z2), some (ll_ v), none, some (ii_ la), some (ii_ r)] [] g23 := by
      intro nn
      induction nn with
      | zero => intro v la r ak al av ae ams; exfalso; omega
      | succ nn ih52 =>
        intro v la r ak al av ae ams
        refine pw_iload (z := r) (pc := 52) dX0_drawOne_52 rfl ?_
        refine pw_aload_n (z := 170) (pc := 54) dX0_drawOne_54 rfl rfl ?_
        have n_g23_170_0 : g23 170 0 = h 170 0 := (by rw [e23, up_at]; exact if_neg (by decide))
        refine pw_gD (x := 0) (r := o) (pc := 55) dX0_drawOne_55 fX0_18 (hC 170 (by decide)) (show kd_ 170 = 10 by decide +kernel) rfl rfl (n_g23_170_0.trans hland) ?_
        refine pw_gI (x := 2) (pc := 58) dX0_drawOne_58 fX0_47 (hC _ (by omega)) (kd6_0 ho) rfl rfl (fun r58 => ?_)
        have n_g23_o_2 : g23 o 2 = h o 2 := (by rw [e23, up_off (by first | decide | omega)])
        rw [n_g23_o_2] at r58 ⊢
        refine pw_icmp_ge (t := 106) (pc := 61) dX0_drawOne_61 (by decide) (by first | omega | (simp only [n_g23_170_0, n_g23_o_2]; omega)) (by first | omega | (simp only [n_g23_170_0, n_g23_o_2]; omega)) (fun c61 => ?_) (fun c61 => ?_)
        · refine pw_iload (z := la) (pc := 106) dX0_drawOne_106 rfl ?_
          exact pw_iret (pc := 108) dX0_drawOne_108 (by first | omega | (simp only [n_g23_170_0, n_g23_o_2]; omega)) (by
                    exfalso
                    rw [show (ro 2 - r).toNat = 0 by omega] at ae
                    have ok := cmn_ok (ro := ro) (left := f) (R := ro 2) (ro 2).toNat 0 (gn_ (h 170 4) / 65536 % das_ ro f (ro 2).toNat) (by omega) (by omega) (by omega) (by omega) (by show _ < _ - 0; omega)
                    rw [← ae] at ok
                    have : (0 : Int) ≤ -1 := ok.1
                    omega)
        · have tl : (ro 2 - r).toNat = (ro 2 - (r + 1)).toNat + 1 := by omega
          have cr := hf r (by omega) (by omega)
          have dr := hd r (by omega) (by omega)
          have HR := (H.2.2.2.1 r (by omega) (by omega)).2.1
          rw [tl, cmn_s] at ae
          refine pw_iload_n (z := c) (pc := 64) dX0_drawOne_64 rfl rfl ?_
          refine pw_iload (z := r) (pc := 65) dX0_drawOne_65 rfl ?_
          refine pw_ishr (pc := 67) dX0_drawOne_67 (by first | omega | (simp only [n_g23_170_0, n_g23_o_2]; omega)) (by first | omega | (simp only [n_g23_170_0, n_g23_o_2]; omega)) ?_
          refine pw_iconst (pc := 68) dX0_drawOne_68 ?_
          refine pw_iand1 (pc := 69) dX0_drawOne_69 ?_
          refine pw_if_ne (t := 100) (pc := 70) dX0_drawOne_70 (by decide) (by first | omega | (simp only [n_g23_170_0, n_g23_o_2]; omega)) (fun c70 => ?_) (fun c70 => ?_)
          · have aq : ∃ v2, v2 = (if f / 2 ^ r.toNat % 2 = 1 then v - ro (31 + 4 * r + 1) else v) ∧ 0 ≤ v2 ∧ v2 ≤ 10000 ∧ cmn_ ro f (ro 2) (ro 2 - (r + 1)).toNat (r + 1) v2 = cmn_ ro f (ro 2) (ro 2).toNat 0 (gn_ (h 170 4) / 65536 % das_ ro f (ro 2).toNat) := by
              first
              | (have nb : ¬ f / 2 ^ r.toNat % 2 = 1 := fun u => c70 (cr.mpr u)
                 rw [if_neg nb, if_neg (by omega), Int.sub_zero] at ae
                 exact ⟨v, by rw [if_neg nb], av.1, av.2, ae⟩)
              | (have q : ¬ v - ro (31 + 4 * r + 1) < 0 := (by revert c94; split <;> (try split) <;> intro c94 <;> omega)
                 rw [if_neg (by omega)] at ae
                 exact ⟨v - ro (31 + 4 * r + 1), by rw [if_pos (cr.mp c70)], by omega, by omega, ae⟩)
            obtain ⟨v2, aq1, aq2, aq3, aq4⟩ := aq
            refine pw_iinc (z := r) (lv1 := [some (rr_ G 170), some (ii_ c), some (ii_ z2), some (ll_ v), none, some (ii_ la), some (ii_ (r + 1))]) (pc := 100) dX0_drawOne_100 rfl (by decide) rfl rfl ?_
            refine pw_goto (t := 52) (pc := 103) dX0_drawOne_103 (by decide) ?_
            exact ih52 _ _ _ (by omega) (by omega) (by first | (rw [if_neg (fun u => c70 (cr.mpr u))] at aq1; omega) | (rw [if_pos (cr.mp c70)] at aq1; omega)) (by first | (rw [if_neg (fun u => c70 (cr.mpr u))] at aq1; rw [← aq1]; exact aq4) | (rw [if_pos (cr.mp c70)] at aq1; rw [← aq1]; exact aq4)) (by omega)
          · rw [if_pos (cr.mp c70)] at ae
            refine pw_iload (z := r) (pc := 73) dX0_drawOne_73 rfl ?_
            refine pw_istore (lv1 := [some (rr_ G 170), some (ii_ c), some (ii_ z2), some (ll_ v), none, some (ii_ r), some (ii_ r)]) (pc := 75) dX0_drawOne_75 (by decide) rfl rfl ?_
            refine pw_lload_n (z := v) (pc := 77) dX0_drawOne_77 rfl rfl ?_
            refine pw_aload_n (z := 170) (pc := 78) dX0_drawOne_78 rfl rfl ?_
            refine pw_gD (x := 0) (r := o) (pc := 79) dX0_drawOne_79 fX0_18 (hC 170 (by decide)) (show kd_ 170 = 10 by decide +kernel) rfl rfl (n_g23_170_0.trans hland) ?_
            refine pw_getR (r := (o + 4)) (pc := 82) dX0_drawOne_82 fX0_56 (hC _ (by omega)) (kd6_0 ho) rfl rfl ?_
            refine pw_iload (z := r) (pc := 85) dX0_drawOne_85 rfl ?_
            refine pw_iald (pc := 87) dX0_drawOne_87 (hC _ (by omega)) (kd6_4 ho) 4 (ln6_4 ho) (by first | omega | (simp only [n_g23_170_0, n_g23_o_2]; omega)) (by first | omega | (simp only [n_g23_170_0, n_g23_o_2]; omega)) (by first | omega | (simp only [n_g23_170_0, n_g23_o_2]; omega)) (fun r87 => ?_)
            have n_g23_o_4 : g23 (o + 4) = h (o + 4) := (by rw [e23]; exact up_off (by first | decide | omega))
            rw [n_g23_o_4] at r87 ⊢
            rw [HR]
            refine pw_i2l (pc := 88) dX0_drawOne_88 (by first | omega | (simp only [n_g23_170_0, n_g23_o_2, n_g23_o_4]; omega)) ?_
            refine pw_lsub (pc := 89) dX0_drawOne_89 ?_
            refine pw_lstore_n (lv1 := [some (rr_ G 170), some (ii_ c), some (ii_ z2), some (ll_ (v - (ro (31 + 4 * r + 1)))), none, some (ii_ r), some (ii_ r)]) (pc := 90) dX0_drawOne_90 rfl (by decide) rfl rfl ?_
            refine pw_lload_n (z := v - (ro (31 + 4 * r + 1))) (pc := 91) dX0_drawOne_91 rfl rfl ?_
            refine pw_lconst (z := 0) (pc := 92) dX0_drawOne_92 rfl ?_
            refine pw_lcmp (pc := 93) dX0_drawOne_93 (by first | omega | (simp only [n_g23_170_0, n_g23_o_2, n_g23_o_4]; omega)) (by first | omega | (simp only [n_g23_170_0, n_g23_o_2, n_g23_o_4]; omega)) ?_
            refine pw_if_ge (t := 100) (pc := 94) dX0_drawOne_94 (by decide) (by first | omega | (simp only [n_g23_170_0, n_g23_o_2, n_g23_o_4]; omega)) (fun c94 => ?_) (fun c94 => ?_)
            · have aq : ∃ v2, v2 = (if f / 2 ^ r.toNat % 2 = 1 then v - ro (31 + 4 * r + 1) else v) ∧ 0 ≤ v2 ∧ v2 ≤ 10000 ∧ cmn_ ro f (ro 2) (ro 2 - (r + 1)).toNat (r + 1) v2 = cmn_ ro f (ro 2) (ro 2).toNat 0 (gn_ (h 170 4) / 65536 % das_ ro f (ro 2).toNat) := by
                first
                | (have nb : ¬ f / 2 ^ r.toNat % 2 = 1 := fun u => c70 (cr.mpr u)
                   rw [if_neg nb, if_neg (by omega), Int.sub_zero] at ae
                   exact ⟨v, by rw [if_neg nb], av.1, av.2, ae⟩)
                | (have q : ¬ v - ro (31 + 4 * r + 1) < 0 := (by revert c94; split <;> (try split) <;> intro c94 <;> omega)
                   rw [if_neg (by omega)] at ae
                   exact ⟨v - ro (31 + 4 * r + 1), by rw [if_pos (cr.mp c70)], by omega, by omega, ae⟩)
              obtain ⟨v2, aq1, aq2, aq3, aq4⟩ := aq
              refine pw_iinc (z := r) (lv1 := [some (rr_ G 170), some (ii_ c), some (ii_ z2), some (ll_ (v - (ro (31 + 4 * r + 1)))), none, some (ii_ r), some (ii_ (r + 1))]) (pc := 100) dX0_drawOne_100 rfl (by decide) rfl rfl ?_
              refine pw_goto (t := 52) (pc := 103) dX0_drawOne_103 (by decide) ?_
              exact ih52 _ _ _ (by omega) (by omega) (by first | (rw [if_neg (fun u => c70 (cr.mpr u))] at aq1; omega) | (rw [if_pos (cr.mp c70)] at aq1; omega)) (by first | (rw [if_neg (fun u => c70 (cr.mpr u))] at aq1; rw [← aq1]; exact aq4) | (rw [if_pos (cr.mp c70)] at aq1; rw [← aq1]; exact aq4)) (by omega)
            · have q : v - ro (31 + 4 * r + 1) < 0 := by revert c94; split <;> (try split) <;> intro c94 <;> omega
              rw [if_pos (by omega)] at ae
              refine pw_iload (z := r) (pc := 97) dX0_drawOne_97 rfl ?_
              exact pw_iret (pc := 99) dX0_drawOne_99 (by first | omega | (simp only [n_g23_170_0, n_g23_o_2, n_g23_o_4]; omega)) (⟨by rw [e23, t1], ae⟩)
    exact L52 _ _ _ _ (by omega) (by omega) (by rw [t3]; omega) (by rw [Int.sub_zero, t3]) (Int.self_le_toNat _)

