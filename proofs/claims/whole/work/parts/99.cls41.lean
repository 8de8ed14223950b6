/-- what is asked of the evenest -/
def ans_ (ro : Int → Int) (w : Int) : BT_ → Int
  | none => -1
  | some q => if w = 0 then q.1 else if w = 1 then q.2.1 else if w - 2 < ro 1 then q.2.2.1 (w - 2) else -1
theorem orb_ (v m q : Nat) : ((v ||| 2 ^ m) / 2 ^ q % 2 = 1 ↔ v / 2 ^ q % 2 = 1 ∨ m = q) := by
  have e := Nat.testBit_or v (2 ^ m) q
  rw [Nat.testBit_two_pow, Nat.testBit_eq_decide_div_mod_eq, Nat.testBit_eq_decide_div_mod_eq] at e
  constructor
  · intro u; rw [decide_eq_true u] at e; have := e.symm; simpa using this
  · intro u
    have : decide ((v ||| 2 ^ m) / 2 ^ q % 2 = 1) = true := by rw [e]; simpa using u
    exact of_decide_eq_true this
/-- what is known of the evenest already -/
def jca_ (ro : Int → Int) (P : List (Int × Int)) (h : PH_) : Prop := (0 ≤ h 151 11 ∧ h 151 11 < 8192) ∧ ∀ m w : Int, 0 ≤ m → m ≤ 12 → h 151 11 / 2 ^ m.toNat % 2 = 1 → 0 ≤ w → w < 6 → h 160 (m * 6 + w) = ans_ ro w (skb_ ro P 0 m (pas_ ro))
theorem or_i {v w m : Int} (h0 : 0 ≤ v ∧ v < 8192) (hm : 0 ≤ m ∧ m ≤ 12) (e : w = ((v.toNat ||| ((2 : Int) ^ m.toNat).toNat : Nat) : Int)) : (0 ≤ w ∧ w < 8192) ∧ ∀ q : Int, 0 ≤ q → (w / 2 ^ q.toNat % 2 = 1 ↔ v / 2 ^ q.toNat % 2 = 1 ∨ m = q) := by
  have e2 : ((2 : Int) ^ m.toNat).toNat = 2 ^ m.toNat := by rw [pc_]; exact Int.toNat_natCast _
  rw [e2] at e
  have b : v.toNat ||| 2 ^ m.toNat < 2 ^ 13 := Nat.or_lt_two_pow (by omega) (Nat.pow_lt_pow_right (by decide) (by omega))
  refine ⟨by omega, fun q q0 => ?_⟩
  rw [e, ib_.1, orb_]
  have this := (ib_ (l := v.toNat) (k := q.toNat)).1
  rw [tn_c h0.1] at this
  rw [this]
  exact or_congr Iff.rfl ⟨fun u => by omega, fun u => by omega⟩
theorem p2m {m : Int} (hm : 0 ≤ m ∧ m ≤ 12) : (1 : Int) ≤ 2 ^ m.toNat ∧ (2 : Int) ^ m.toNat ≤ 4096 := by
  rw [pc_]
  have a := Nat.two_pow_pos m.toNat
  have b := Nat.pow_le_pow_right (n := 2) (by decide) (show m.toNat ≤ 12 by omega)
  omega
theorem gtr_mb {ro : Int → Int} {P : List (Int × Int)} {so mm : Int} : ∀ (n : Nat) (row tot : Int → Int) (m : Int) (B : BT_), 0 ≤ m → m ≤ mm → (∀ q, B = some q → 0 ≤ q.2.1 ∧ q.2.1 ≤ mm) → ∀ q, gtr_ ro P so mm n row tot m B = some q → 0 ≤ q.2.1 ∧ q.2.1 ≤ mm
  | 0, row, tot, m, B, h0, h1, hB => fun q hq => by
    unfold gtr_ gth_ lok_ at hq
    by_cases c : bet_ so (vat_ so (trn_ (ro 2) tot) 0 (ro 2)) m B
    · rw [if_t c] at hq; injection hq with hq; rw [← hq]; exact ⟨h0, h1⟩
    · rw [if_f c] at hq; exact hB q hq
  | n + 1, row, tot, m, B, h0, h1, hB => by
    rw [gtr_s rfl]
    generalize List.range (lpn_ ro 256).length = l
    induction l generalizing B with
    | nil => exact fun q hq => hB q hq
    | cons k l ih =>
      rw [List.foldl_cons]
      refine ih _ (fun q hq => ?_)
      have bb := bit_b (gse_ (pC_ ro) row (ro 1 - 1 - n) (k : Int)) 4
      by_cases c : m + bit_ (gse_ (pC_ ro) row (ro 1 - 1 - n) (k : Int)) 4 ≤ mm
      · rw [if_t c] at hq
        exact gtr_mb n _ _ _ B (by omega) c hB q hq
      · rw [if_f c] at hq; exact hB q hq
theorem skb_mb {ro : Int → Int} {P : List (Int × Int)} {so m : Int} {pa : Int → Int} (hm : 0 ≤ m ∧ m ≤ 12) {q : Int × Int × (Int → Int) × (Int → Int)} (e : skb_ ro P so m pa = some q) : 0 ≤ q.2.1 ∧ q.2.1 ≤ 12 := by
  have := gtr_mb (ro 1).toNat (fun _ => 0) pa 0 none (Int.le_refl 0) hm.1 (fun q hq => by cases hq) q e
  omega
theorem skb_e {ro : Int → Int} {P : List (Int × Int)} {so mm : Int} {pa : Int → Int} {n : Nat} (e : (ro 1).toNat = n) (row tot : Int → Int) (hT : 0 ≤ ro 1) (ht : ∀ r, 0 ≤ r → r < ro 2 → pa r = tot r) : skb_ ro P so mm pa = gtr_ ro P so mm n row tot 0 none := by
  subst e; exact gtr_cg _ (by omega) (fun j j0 j1 => by omega) ht
theorem jbs_tr {ro : Int → Int} {h : PH_} {X Y : BT_} (e : X = Y) (hb : jbs_ ro h X) : jbs_ ro h Y := e ▸ hb
theorem ans_v {ro : Int → Int} {w : Int} {q : Int × Int × (Int → Int) × (Int → Int)} : ans_ ro w (some q) = if w = 0 then q.1 else if w = 1 then q.2.1 else if w - 2 < ro 1 then q.2.2.1 (w - 2) else -1 := rfl
theorem ans_0 {ro : Int → Int} {q : Int × Int × (Int → Int) × (Int → Int)} : ans_ ro 0 (some q) = q.1 := by rw [ans_v, if_pos rfl]
theorem ans_1 {ro : Int → Int} {q : Int × Int × (Int → Int) × (Int → Int)} : ans_ ro 1 (some q) = q.2.1 := by rw [ans_v, if_neg (by decide), if_pos rfl]
theorem ans_p {ro : Int → Int} {q : Int × Int × (Int → Int) × (Int → Int)} {s : Int} (h0 : 0 ≤ s) (h1 : s < ro 1) : ans_ ro (2 + s) (some q) = q.2.2.1 s := by
  rw [ans_v, if_neg (by omega), if_neg (by omega), if_pos (by omega), show 2 + s - 2 = s by omega]
theorem ans_e {ro : Int → Int} {q : Int × Int × (Int → Int) × (Int → Int)} {s : Int} (h0 : 0 ≤ s) (h1 : ¬ s < ro 1) : ans_ ro (2 + s) (some q) = -1 := by
  rw [ans_v, if_neg (by omega), if_neg (by omega), if_neg (by omega)]

set_option linter.constructorNameAsVariable false in
set_option maxHeartbeats 4000000 in
set_option maxRecDepth 100000 in
theorem d_searchEv {G : GT_} (hC : okC_ G) (h : PH_) (o : Nat) (ho : is6_ o) (ro : Int → Int) (P : List (Int × Int)) (hjo : jon_ ro P o h) (hR : 1 ≤ ro 2) (m : Int) (hm : 0 ≤ m ∧ m ≤ 12) (hb : ∀ r, 0 ≤ r → r < ro 2 → -1000000 ≤ h 156 r ∧ h 156 r ≤ 1000000) : PC G yX1_searchEvenest cX1_searchEvenest 2 none 8 [rr_ G 151, ii_ m] h (qv_ (fun h' => off_ [151, 156, 157, 158, 159] h h' ∧ (∀ k, k ≠ 12 → k ≠ 14 → k ≠ 15 → h' 151 k = h 151 k) ∧ jbs_ ro h' (skb_ ro P 0 m (h 156)))) := by
  have H := hjo.1
  have hJ := hjo.2.1
  have HB := H.2.1
  have HA := H.1
  have l24 := lpn_24 (ro := ro) (by omega) (by omega)
  have hl_h := hJ.1
  have hN := hJ.2.1
  refine PC.of (lv := [some (rr_ G 151), some (ii_ m)]) (by decide +kernel) (Nat.le_of_ble_eq_true rfl) rfl rfl ?_
  refine pw_aload_n (z := 151) (pc := 0) dX1_searchEvenest_0 rfl rfl ?_
  refine pw_iload_n (z := m) (pc := 1) dX1_searchEvenest_1 rfl rfl ?_
  refine pw_pI (x := 12) (pc := 2) dX1_searchEvenest_2 fX1_155 (hC 151 (by decide)) (show kd_ 151 = 11 by decide +kernel) rfl rfl (by first | omega) ?_
  obtain ⟨g2, e2⟩ : ∃ x, x = up_ h 151 12 m := ⟨_, rfl⟩
  refine pw_heq e2 ?_
  refine pw_aload_n (z := 151) (pc := 5) dX1_searchEvenest_5 rfl rfl ?_
  refine pw_iconst (pc := 6) dX1_searchEvenest_6 ?_
  refine pw_pI (x := 15) (pc := 7) dX1_searchEvenest_7 fX1_158 (hC 151 (by decide)) (show kd_ 151 = 11 by decide +kernel) rfl rfl (by first | omega) ?_
  obtain ⟨g7, e7⟩ : ∃ x, x = up_ g2 151 15 0 := ⟨_, rfl⟩
  refine pw_heq e7 ?_
  refine pw_aload_n (z := 151) (pc := 10) dX1_searchEvenest_10 rfl rfl ?_
  refine pw_ldc (z := 2147483647) (pc := 11) dX1_searchEvenest_11 kX1_137 rfl ?_
  refine pw_pI (x := 14) (pc := 13) dX1_searchEvenest_13 fX1_161 (hC 151 (by decide)) (show kd_ 151 = 11 by decide +kernel) rfl rfl (by first | omega) ?_
  obtain ⟨g13, e13⟩ : ∃ x, x = up_ g7 151 14 2147483647 := ⟨_, rfl⟩
  refine pw_heq e13 ?_
  have k13 : ∀ k, g13 151 k = ob_ (ob_ (ob_ (h 151) 12 m) 15 0) 14 2147483647 k := fun k => by rw [e13, up_ob, e7, up_ob, e2, up_ob]
  have f13 : off_ [151, 156, 157, 158, 159] h g13 := by rw [e13, e7, e2]; exact off_up (off_up (off_up off_rf (by decide)) (by decide)) (by decide)
  have hl_g13 : g13 151 0 = (o : Int) := by rw [k13]; exact hJ.1
  have j13 := jon_mv ho f13 (by rw [k13]; rfl) hjo
  have t13 : g13 156 = h 156 := by rw [e13, up_off (by decide), e7, up_off (by decide), e2, up_off (by decide)]
  have s13 : g13 151 14 = 2147483647 := by rw [k13]; rfl
  refine pw_aload_n (z := 151) (pc := 16) dX1_searchEvenest_16 rfl rfl ?_
  have n_g13_151_0 : g13 151 0 = h 151 0 := (((show g13 151 0 = g7 151 0 from (by rw [e13, up_at]; exact if_neg (by decide))).trans (show g7 151 0 = g2 151 0 from (by rw [e7, up_at]; exact if_neg (by decide)))).trans (show g2 151 0 = h 151 0 from (by rw [e2, up_at]; exact if_neg (by decide))))
  refine pw_gD (x := 0) (r := o) (pc := 17) dX1_searchEvenest_17 fX1_39 (hC 151 (by decide)) (show kd_ 151 = 11 by decide +kernel) rfl rfl (n_g13_151_0.trans hl_h) ?_
  refine pw_gI (x := 1) (pc := 20) dX1_searchEvenest_20 fX1_78 (hC _ (by omega)) (kd6_0 ho) rfl rfl (fun r20 => ?_)
  have n_g13_o_1 : g13 o 1 = h o 1 := (((show g13 o 1 = g7 o 1 from (by rw [e13, up_off (by first | decide | omega)])).trans (show g7 o 1 = g2 o 1 from (by rw [e7, up_off (by first | decide | omega)]))).trans (show g2 o 1 = h o 1 from (by rw [e2, up_off (by first | decide | omega)])))
  rw [n_g13_o_1] at r20 ⊢
  refine pw_if_ne (t := 62) (pc := 23) dX1_searchEvenest_23 (by decide) (by first | omega | (simp only [n_g13_151_0, n_g13_o_1]; omega)) (fun c23 => ?_) (fun c23 => ?_)
  · have pre : epr_ ro P o (ro 1 - 1).toNat 0 0 none g13 := by
      refine ⟨j13, hR, by omega, by rw [k13]; exact hm, by omega, fun j j0 j1 => by omega, fun r r0 r1 => ?_, s13⟩
      rw [show 4 * (0 : Int) + r = r by omega, t13]
      have := hb r r0 r1
      omega
    refine pw_aload_n (z := 151) (pc := 62) dX1_searchEvenest_62 rfl rfl ?_
    refine pw_iconst (pc := 63) dX1_searchEvenest_63 ?_
    refine pw_iconst (pc := 64) dX1_searchEvenest_64 ?_
    refine pw_callV (c := 1) (o := 151) (As := [ii_ 0, ii_ 0]) (rest := []) (pc := 65) dX1_searchEvenest_65 (d_even hC ho ro P (ro 1 - 1).toNat g13 0 0 none pre) lX1_167 mX1_evenestFrom vX1_evenestFrom (hC 151 (by decide)) (show kd_ 151 = 11 by decide +kernel) rfl rfl rfl ⟨by show 4 + (ro 1 - 1).toNat + 1 ≤ 8; omega, by show 19 + 7 + 60 * (4 + (ro 1 - 1).toNat) ≤ 60 * 8; omega⟩ ⟨Nat.zero_le _, Nat.zero_le _⟩ (Nat.le_of_ble_eq_true rfl) (k_v (fun h65 q65 => ?_))
    obtain ⟨f65, b65⟩ := q65
    rw [show g13 151 12 = m by rw [k13]; rfl, ← skb_e (pa := h 156) (show (ro 1).toNat = (ro 1 - 1).toNat + 1 by omega) (g13 157) (fun r => g13 156 (4 * 0 + r)) (by omega) (fun r r0 r1 => by show h 156 r = g13 156 (4 * 0 + r); rw [t13, show 4 * (0 : Int) + r = r by omega])] at b65
    exact pw_vret (pc := 68) dX1_searchEvenest_68 (by
              refine ⟨off_tr f13 f65.1, fun k q1 q2 q3 => ?_, ?_⟩
              · rw [f65.2.1 k q2 q3, k13]; unfold ob_; rw [if_neg q2, if_neg q3, if_neg q1]
              · exact b65)
  · refine pw_aload_n (z := 151) (pc := 26) dX1_searchEvenest_26 rfl rfl ?_
    refine pw_aload_n (z := 151) (pc := 27) dX1_searchEvenest_27 rfl rfl ?_
    refine pw_getR (r := 156) (pc := 28) dX1_searchEvenest_28 fX1_24 (hC 151 (by decide)) (show kd_ 151 = 11 by decide +kernel) rfl (by decide +kernel) ?_
    refine pw_iconst (pc := 31) dX1_searchEvenest_31 ?_
    refine pw_aload_n (z := 151) (pc := 32) dX1_searchEvenest_32 rfl rfl ?_
    refine pw_gD (x := 0) (r := o) (pc := 33) dX1_searchEvenest_33 fX1_39 (hC 151 (by decide)) (show kd_ 151 = 11 by decide +kernel) rfl rfl (n_g13_151_0.trans hl_h) ?_
    refine pw_gI (x := 2) (pc := 36) dX1_searchEvenest_36 fX1_94 (hC _ (by omega)) (kd6_0 ho) rfl rfl (fun r36 => ?_)
    have n_g13_o_2 : g13 o 2 = h o 2 := (((show g13 o 2 = g7 o 2 from (by rw [e13, up_off (by first | decide | omega)])).trans (show g7 o 2 = g2 o 2 from (by rw [e7, up_off (by first | decide | omega)]))).trans (show g2 o 2 = h o 2 from (by rw [e2, up_off (by first | decide | omega)])))
    rw [n_g13_o_2] at r36 ⊢
    rw [HA.2.2.1]
    refine pw_callSN (As := [rr_ G 156, ii_ 0, ii_ (ro 2)]) (rest := [rr_ G 151]) (pc := 39) dX1_searchEvenest_39 rfl (d_spreadOf hC g13 156 20 (by decide +kernel) (by decide +kernel) (by decide) (by decide) 0 (ro 2) (by first | omega | (simp only [n_g13_151_0, n_g13_o_1, n_g13_o_2]; omega)) (fun x x0 x1 => by rw [t13]; have := hb x x0 (by first | omega | (simp only [n_g13_151_0, n_g13_o_1, n_g13_o_2]; omega)); omega)) mX11_spreadOf sX11_spreadOf rfl rfl (by decide) ⟨Nat.zero_le _, Nat.zero_le _⟩ (Nat.le_of_ble_eq_true rfl) (k_i (fun z39 h39 y39 q39 => ?_))
    obtain ⟨rfl, w39⟩ := q39
    rw [t13] at w39
    have sb := spr_b (f := h 156) (R := ro 2) (B := 1000000) hR hb
    refine pw_pI (x := 14) (pc := 42) dX1_searchEvenest_42 fX1_161 (hC 151 (by decide)) (show kd_ 151 = 11 by decide +kernel) rfl rfl (by first | omega | (simp only [n_g13_151_0, n_g13_o_1, n_g13_o_2]; omega)) ?_
    obtain ⟨g42, e42⟩ : ∃ x, x = up_ g13 151 14 z39 := ⟨_, rfl⟩
    refine pw_heq e42 ?_
    have hl_g42 : g42 151 0 = (o : Int) := by rw [e42, up_at, if_neg (by decide)]; exact hl_g13
    refine pw_aload_n (z := 151) (pc := 45) dX1_searchEvenest_45 rfl rfl ?_
    refine pw_getR (r := 156) (pc := 46) dX1_searchEvenest_46 fX1_24 (hC 151 (by decide)) (show kd_ 151 = 11 by decide +kernel) rfl (by decide +kernel) ?_
    refine pw_iconst (pc := 49) dX1_searchEvenest_49 ?_
    refine pw_aload_n (z := 151) (pc := 50) dX1_searchEvenest_50 rfl rfl ?_
    refine pw_getR (r := 159) (pc := 51) dX1_searchEvenest_51 fX1_33 (hC 151 (by decide)) (show kd_ 151 = 11 by decide +kernel) rfl (by decide +kernel) ?_
    refine pw_iconst (pc := 54) dX1_searchEvenest_54 ?_
    refine pw_iconst (pc := 55) dX1_searchEvenest_55 ?_
    refine pw_copy (n0 := 20) (n1 := 4) (pc := 56) dX1_searchEvenest_56 lX1_65 (hC 156 (by decide)) (hC 159 (by decide)) (show kd_ 156 = 0 by decide +kernel) (show kd_ 159 = 0 by decide +kernel) (by decide +kernel) (by decide +kernel) (by first | omega | (simp only [n_g13_151_0, n_g13_o_1, n_g13_o_2]; omega)) (by first | omega | (simp only [n_g13_151_0, n_g13_o_1, n_g13_o_2]; omega)) (by first | omega | (simp only [n_g13_151_0, n_g13_o_1, n_g13_o_2]; omega)) (by decide) (by decide) (Nat.le_of_ble_eq_true rfl) ?_
    obtain ⟨g56, e56⟩ : ∃ x, x = sc_ g42 159 (fun x => if 0 ≤ x ∧ x < 0 + 4 then g42 156 (x - 0 + 0) else g42 159 x) := ⟨_, rfl⟩
    refine pw_heq e56 ?_
    have f56 : off_ [159] g42 g56 := fun j hj => by rw [e56]; exact sc_off (by simpa using hj)
    refine pw_goto (t := 68) (pc := 59) dX1_searchEvenest_59 (by decide) ?_
    exact pw_vret (pc := 68) dX1_searchEvenest_68 (by
              have k56 : ∀ k, g56 151 k = ob_ (g13 151) 14 z39 k := fun k => by rw [f56 151 (by decide), e42, up_ob]
              refine ⟨off_tr (off_tr f13 (by rw [e42]; exact off_up off_rf (by decide))) (off_mo f56 (by decide)), fun k q1 q2 q3 => ?_, ?_⟩
              · rw [k56]; unfold ob_; rw [if_neg q2, k13]; unfold ob_; rw [if_neg q2, if_neg q3, if_neg q1]
              · have ek : skb_ ro P 0 m (h 156) = some (spr_ (h 156) 0 (ro 2), 0, trn_ (ro 1) (fun j => pL_ ro 0), trn_ (ro 2) (h 156)) := by
                  unfold skb_
                  rw [show (ro 1).toNat = 0 by omega]
                  exact lok_y hR trivial
                rw [ek]
                refine ⟨⟨by rw [k56]; exact w39, sb.1, by show spr_ _ _ _ ≤ _; omega⟩, by rw [k56]; show g13 151 15 = 0; rw [k13]; rfl, fun k k0 k1 => by omega, fun r r0 r1 => ?_⟩
                rw [e56, sc_at]
                show (if _ then _ else _) = trn_ _ _ _
                rw [if_pos (by omega), show r - 0 + 0 = r by omega, e42, up_off (by decide), t13, trn_at r0 r1])

set_option maxHeartbeats 4000000 in
set_option maxRecDepth 100000 in
theorem d_writeAns {G : GT_} (hC : okC_ G) (h : PH_) (o : Nat) (ho : is6_ o) (ro : Int → Int) (H : CRD_ ro h o) (hJ : CJP_ ro h o) (m : Int) (hm : 0 ≤ m ∧ m ≤ 12) (B : BT_) (hB : jbs_ ro h B) (hq : ∀ q, B = some q → 0 ≤ q.2.1 ∧ q.2.1 ≤ 12) : PC G yX1_writeAnswer cX1_writeAnswer 5 none 2 [rr_ G 151, ii_ (m * 6)] h (qv_ (fun h' => off_ [160] h h' ∧ (∀ w : Int, 0 ≤ w → w < 6 → h' 160 (m * 6 + w) = ans_ ro w B) ∧ (∀ x, x < m * 6 ∨ m * 6 + 6 ≤ x → h' 160 x = h 160 x))) := by
  have HB := H.2.1
  have HA := H.1
  have l24 := lpn_24 (ro := ro) (by omega) (by omega)
  have hl_h := hJ.1
  have hN := hJ.2.1
  refine PC.of (lv := [some (rr_ G 151), some (ii_ (m * 6)), none, none, none]) (by decide +kernel) (Nat.le_of_ble_eq_true rfl) rfl rfl ?_
  refine pw_aload_n (z := 151) (pc := 0) dX1_writeAnswer_0 rfl rfl ?_
  refine pw_gI (x := 14) (pc := 1) dX1_writeAnswer_1 fX1_161 (hC 151 (by decide)) (show kd_ 151 = 11 by decide +kernel) rfl rfl (fun r1 => ?_)
  refine pw_ldc (z := 2147483647) (pc := 4) dX1_writeAnswer_4 kX1_137 rfl ?_
  refine pw_icmp_eq (t := 13) (pc := 6) dX1_writeAnswer_6 (by decide) (by first | omega) (by first | omega) (fun c6 => ?_) (fun c6 => ?_)
  · have hq9 : B = none := by
      cases B with
      | none => rfl
      | some q => exfalso; have := hB.1; omega
    refine pw_iconst (pc := 13) dX1_writeAnswer_13 ?_
    refine pw_istore_n (lv1 := [some (rr_ G 151), some (ii_ (m * 6)), some (ii_ 0), none, none]) (pc := 14) dX1_writeAnswer_14 rfl (by decide) rfl rfl ?_
    refine pw_aload_n (z := 151) (pc := 15) dX1_writeAnswer_15 rfl rfl ?_
    refine pw_getR (r := 160) (pc := 16) dX1_writeAnswer_16 fX1_36 (hC 151 (by decide)) (show kd_ 151 = 11 by decide +kernel) rfl (by decide +kernel) ?_
    refine pw_iload_n (z := m * 6) (pc := 19) dX1_writeAnswer_19 rfl rfl ?_
    refine pw_iload_n (z := 0) (pc := 20) dX1_writeAnswer_20 rfl rfl ?_
    refine pw_if_eq (t := 31) (pc := 21) dX1_writeAnswer_21 (by decide) (by first | omega) (fun _ => ?_) (fun c21 => absurd c21 (by decide))
    refine pw_iconst (pc := 31) dX1_writeAnswer_31 ?_
    refine pw_iast (pc := 32) dX1_writeAnswer_32 (hC 160 (by decide)) (show kd_ 160 = 0 by decide +kernel) 78 (by decide +kernel) (by first | omega) (by first | omega) (by first | omega) (by first | omega) ?_
    obtain ⟨g32, e32⟩ : ∃ x, x = up_ h 160 (m * 6) (-1) := ⟨_, rfl⟩
    refine pw_heq e32 ?_
    refine pw_aload_n (z := 151) (pc := 33) dX1_writeAnswer_33 rfl rfl ?_
    refine pw_getR (r := 160) (pc := 34) dX1_writeAnswer_34 fX1_36 (hC 151 (by decide)) (show kd_ 151 = 11 by decide +kernel) rfl (by decide +kernel) ?_
    refine pw_iload_n (z := m * 6) (pc := 37) dX1_writeAnswer_37 rfl rfl ?_
    refine pw_iconst (pc := 38) dX1_writeAnswer_38 ?_
    refine pw_iadd (pc := 39) dX1_writeAnswer_39 ?_
    refine pw_iload_n (z := 0) (pc := 40) dX1_writeAnswer_40 rfl rfl ?_
    refine pw_if_eq (t := 51) (pc := 41) dX1_writeAnswer_41 (by decide) (by first | omega) (fun _ => ?_) (fun c41 => absurd c41 (by decide))
    refine pw_iconst (pc := 51) dX1_writeAnswer_51 ?_
    refine pw_iast (pc := 52) dX1_writeAnswer_52 (hC 160 (by decide)) (show kd_ 160 = 0 by decide +kernel) 78 (by decide +kernel) (by first | omega) (by first | omega) (by first | omega) (by first | omega) ?_
    obtain ⟨g52, e52⟩ : ∃ x, x = up_ g32 160 ((m * 6) + 1) (-1) := ⟨_, rfl⟩
    refine pw_heq e52 ?_
    refine pw_iconst (pc := 53) dX1_writeAnswer_53 ?_
    refine pw_istore_n (lv1 := [some (rr_ G 151), some (ii_ (m * 6)), some (ii_ 0), some (ii_ 0), none]) (pc := 54) dX1_writeAnswer_54 rfl (by decide) rfl rfl ?_
    have L55 : ∀ (nn : Nat) (s : Int) (a1 : PH_), (0 ≤ s ∧ s ≤ 4) → (off_ [160] h a1) → (∀ w : Int, 0 ≤ w → w < 2 + s → a1 160 (m * 6 + w) = ans_ ro w B) → (∀ x, x < m * 6 ∨ m * 6 + 6 ≤ x → a1 160 x = h 160 x) → ((4 - s + 1 : Int) ≤ nn) → PW G RX1 cX1_writeAnswer 5 none (rm_ 2) 0 0 (zm_ G (qv_ (fun h' => off_ [160] h h' ∧ (∀ w : Int, 0 ≤ w → w < 6 → h' 160 (m * 6 + w) = ans_ ro w B) ∧ (∀ x, x < m * 6 ∨ m * 6 + 6 ≤ x → h' 160 x = h 160 x)))) 55 [some (rr_ G 151), some (ii_ (m * 6)), some (ii_ 0), some (ii_ s), none] [] a1 := by
      intro nn
      induction nn with
      | zero => intro s a1 ak af aw ao ams; exfalso; omega
      | succ nn ih55 =>
        intro s a1 ak af aw ao ams
        have hl_a1 : a1 151 0 = (o : Int) := by rw [af 151 (by decide)]; exact hJ.1
        refine pw_iload_n (z := s) (pc := 55) dX1_writeAnswer_55 rfl rfl ?_
        refine pw_iconst (pc := 56) dX1_writeAnswer_56 ?_
        refine pw_icmp_ge (t := 120) (pc := 57) dX1_writeAnswer_57 (by decide) (by first | omega) (by first | omega) (fun c57 => ?_) (fun c57 => ?_)
        · exact pw_vret (pc := 120) dX1_writeAnswer_120 (⟨af, fun w w0 w1 => aw w w0 (by omega), ao⟩)
        · refine pw_iload_n (z := 0) (pc := 60) dX1_writeAnswer_60 rfl rfl ?_
          refine pw_if_eq (t := 79) (pc := 61) dX1_writeAnswer_61 (by decide) (by first | omega) (fun _ => ?_) (fun c61 => absurd c61 (by decide))
          refine pw_iconst (pc := 79) dX1_writeAnswer_79 ?_
          refine pw_istore (lv1 := [some (rr_ G 151), some (ii_ (m * 6)), some (ii_ 0), some (ii_ s), some (ii_ 0)]) (pc := 80) dX1_writeAnswer_80 (by decide) rfl rfl ?_
          refine pw_aload_n (z := 151) (pc := 82) dX1_writeAnswer_82 rfl rfl ?_
          refine pw_getR (r := 160) (pc := 83) dX1_writeAnswer_83 fX1_36 (hC 151 (by decide)) (show kd_ 151 = 11 by decide +kernel) rfl (by decide +kernel) ?_
          refine pw_iload_n (z := m * 6) (pc := 86) dX1_writeAnswer_86 rfl rfl ?_
          refine pw_iconst (pc := 87) dX1_writeAnswer_87 ?_
          refine pw_iadd (pc := 88) dX1_writeAnswer_88 ?_
          refine pw_iload_n (z := s) (pc := 89) dX1_writeAnswer_89 rfl rfl ?_
          refine pw_iadd (pc := 90) dX1_writeAnswer_90 ?_
          refine pw_iload (z := 0) (pc := 91) dX1_writeAnswer_91 rfl ?_
          refine pw_if_eq (t := 112) (pc := 93) dX1_writeAnswer_93 (by decide) (by first | omega) (fun _ => ?_) (fun c93 => absurd c93 (by decide))
          refine pw_iconst (pc := 112) dX1_writeAnswer_112 ?_
          refine pw_iast (pc := 113) dX1_writeAnswer_113 (hC 160 (by decide)) (show kd_ 160 = 0 by decide +kernel) 78 (by decide +kernel) (by first | omega) (by first | omega) (by first | omega) (by first | omega) ?_
          obtain ⟨g113, e113⟩ : ∃ x, x = up_ a1 160 (((m * 6) + 2) + s) (-1) := ⟨_, rfl⟩
          refine pw_heq e113 ?_
          refine pw_iinc (z := s) (lv1 := [some (rr_ G 151), some (ii_ (m * 6)), some (ii_ 0), some (ii_ (s + 1)), some (ii_ 0)]) (pc := 114) dX1_writeAnswer_114 rfl (by decide) rfl rfl ?_
          refine pw_goto (t := 55) (pc := 117) dX1_writeAnswer_117 (by decide) ?_
          refine pw_less (lv1 := [some (rr_ G 151), some (ii_ (m * 6)), some (ii_ 0), some (ii_ (s + 1)), none]) rfl (by intro i v; (match i with | 0 => simp | 1 => simp | 2 => simp | 3 => simp | 4 => simp | n + 5 => simp)) ?_
          exact ih55 _ _ (by omega) (by rw [e113]; exact off_up af (by decide)) (fun w w0 w1 => by
                    rw [e113, up_at]
                    by_cases c : w = 2 + s
                    · rw [if_pos (by omega), hq9, c]
                      first
                      | rfl
                      | (rw [ans_p (by omega) (by omega)]; exact w107)
                      | (rw [ans_e (by omega) (by omega)]; done)
                    · rw [if_neg (by omega)]; exact aw w w0 (by omega)) (fun x hx => by rw [e113, up_at, if_neg (by omega)]; exact ao x hx) (by omega)
    exact L55 _ _ _ (by omega) (by first | (rw [e52, e32]; exact off_up (off_up off_rf (by decide)) (by decide))) (fun w w0 w1 => by
              rw [e52, up_at]
              by_cases c : w = 1
              · rw [if_pos (by omega), hq9, c]
                first
                | rfl
                | (rw [ans_1]; exact hB9.2.1)
              · rw [if_neg (by omega), e32, up_at, if_pos (by omega), hq9, show w = 0 by omega]
                first
                | rfl
                | (rw [ans_0]; exact hB9.1.1)) (fun x hx => by rw [e52, up_at, if_neg (by omega), e32, up_at, if_neg (by omega)]) (Int.self_le_toNat _)
  · obtain ⟨q, hq9⟩ : ∃ q, B = some q := by
      cases B with
      | none => exact absurd hB c6
      | some q => exact ⟨q, rfl⟩
    have hB9 : jbs_ ro h (some q) := hq9 ▸ hB
    have hq2 := hq q hq9
    refine pw_iconst (pc := 9) dX1_writeAnswer_9 ?_
    refine pw_goto (t := 14) (pc := 10) dX1_writeAnswer_10 (by decide) ?_
    refine pw_istore_n (lv1 := [some (rr_ G 151), some (ii_ (m * 6)), some (ii_ 1), none, none]) (pc := 14) dX1_writeAnswer_14 rfl (by decide) rfl rfl ?_
    refine pw_aload_n (z := 151) (pc := 15) dX1_writeAnswer_15 rfl rfl ?_
    refine pw_getR (r := 160) (pc := 16) dX1_writeAnswer_16 fX1_36 (hC 151 (by decide)) (show kd_ 151 = 11 by decide +kernel) rfl (by decide +kernel) ?_
    refine pw_iload_n (z := m * 6) (pc := 19) dX1_writeAnswer_19 rfl rfl ?_
    refine pw_iload_n (z := 1) (pc := 20) dX1_writeAnswer_20 rfl rfl ?_
    refine pw_if_eq (t := 31) (pc := 21) dX1_writeAnswer_21 (by decide) (by first | omega) (fun c21 => absurd c21 (by decide)) (fun _ => ?_)
    refine pw_aload_n (z := 151) (pc := 24) dX1_writeAnswer_24 rfl rfl ?_
    refine pw_gI (x := 14) (pc := 25) dX1_writeAnswer_25 fX1_161 (hC 151 (by decide)) (show kd_ 151 = 11 by decide +kernel) rfl rfl (fun r25 => ?_)
    refine pw_goto (t := 32) (pc := 28) dX1_writeAnswer_28 (by decide) ?_
    refine pw_iast (pc := 32) dX1_writeAnswer_32 (hC 160 (by decide)) (show kd_ 160 = 0 by decide +kernel) 78 (by decide +kernel) (by first | omega) (by first | omega) (by first | omega) (by first | omega) ?_
    obtain ⟨g32, e32⟩ : ∃ x, x = up_ h 160 (m * 6) (h 151 14) := ⟨_, rfl⟩
    refine pw_heq e32 ?_
    refine pw_aload_n (z := 151) (pc := 33) dX1_writeAnswer_33 rfl rfl ?_
    refine pw_getR (r := 160) (pc := 34) dX1_writeAnswer_34 fX1_36 (hC 151 (by decide)) (show kd_ 151 = 11 by decide +kernel) rfl (by decide +kernel) ?_
    refine pw_iload_n (z := m * 6) (pc := 37) dX1_writeAnswer_37 rfl rfl ?_
    refine pw_iconst (pc := 38) dX1_writeAnswer_38 ?_
    refine pw_iadd (pc := 39) dX1_writeAnswer_39 ?_
    refine pw_iload_n (z := 1) (pc := 40) dX1_writeAnswer_40 rfl rfl ?_
    refine pw_if_eq (t := 51) (pc := 41) dX1_writeAnswer_41 (by decide) (by first | omega) (fun c41 => absurd c41 (by decide)) (fun _ => ?_)
    refine pw_aload_n (z := 151) (pc := 44) dX1_writeAnswer_44 rfl rfl ?_
    refine pw_gI (x := 15) (pc := 45) dX1_writeAnswer_45 fX1_158 (hC 151 (by decide)) (show kd_ 151 = 11 by decide +kernel) rfl rfl (fun r45 => ?_)
    have n_g32_151_15 : g32 151 15 = h 151 15 := (by rw [e32, up_off (by first | decide | omega)])
    rw [n_g32_151_15] at r45 ⊢
    refine pw_goto (t := 52) (pc := 48) dX1_writeAnswer_48 (by decide) ?_
    refine pw_iast (pc := 52) dX1_writeAnswer_52 (hC 160 (by decide)) (show kd_ 160 = 0 by decide +kernel) 78 (by decide +kernel) (by first | omega | (simp only [n_g32_151_15]; omega)) (by first | omega | (simp only [n_g32_151_15]; omega)) (by first | omega | (simp only [n_g32_151_15]; omega)) (by first | omega | (simp only [n_g32_151_15]; omega)) ?_
    obtain ⟨g52, e52⟩ : ∃ x, x = up_ g32 160 ((m * 6) + 1) (h 151 15) := ⟨_, rfl⟩
    refine pw_heq e52 ?_
    refine pw_iconst (pc := 53) dX1_writeAnswer_53 ?_
    refine pw_istore_n (lv1 := [some (rr_ G 151), some (ii_ (m * 6)), some (ii_ 1), some (ii_ 0), none]) (pc := 54) dX1_writeAnswer_54 rfl (by decide) rfl rfl ?_
    have L55 : ∀ (nn : Nat) (s : Int) (a1 : PH_), (0 ≤ s ∧ s ≤ 4) → (off_ [160] h a1) → (∀ w : Int, 0 ≤ w → w < 2 + s → a1 160 (m * 6 + w) = ans_ ro w B) → (∀ x, x < m * 6 ∨ m * 6 + 6 ≤ x → a1 160 x = h 160 x) → ((4 - s + 1 : Int) ≤ nn) → PW G RX1 cX1_writeAnswer 5 none (rm_ 2) 0 0 (zm_ G (qv_ (fun h' => off_ [160] h h' ∧ (∀ w : Int, 0 ≤ w → w < 6 → h' 160 (m * 6 + w) = ans_ ro w B) ∧ (∀ x, x < m * 6 ∨ m * 6 + 6 ≤ x → h' 160 x = h 160 x)))) 55 [some (rr_ G 151), some (ii_ (m * 6)), some (ii_ 1), some (ii_ s), none] [] a1 := by
      intro nn
      induction nn with
      | zero => intro s a1 ak af aw ao ams; exfalso; omega
      | succ nn ih55 =>
        intro s a1 ak af aw ao ams
        have hl_a1 : a1 151 0 = (o : Int) := by rw [af 151 (by decide)]; exact hJ.1
        refine pw_iload_n (z := s) (pc := 55) dX1_writeAnswer_55 rfl rfl ?_
        refine pw_iconst (pc := 56) dX1_writeAnswer_56 ?_
        refine pw_icmp_ge (t := 120) (pc := 57) dX1_writeAnswer_57 (by decide) (by first | omega | (simp only [n_g32_151_15]; omega)) (by first | omega | (simp only [n_g32_151_15]; omega)) (fun c57 => ?_) (fun c57 => ?_)
        · exact pw_vret (pc := 120) dX1_writeAnswer_120 (⟨af, fun w w0 w1 => aw w w0 (by omega), ao⟩)
        · refine pw_iload_n (z := 1) (pc := 60) dX1_writeAnswer_60 rfl rfl ?_
          refine pw_if_eq (t := 79) (pc := 61) dX1_writeAnswer_61 (by decide) (by first | omega | (simp only [n_g32_151_15]; omega)) (fun c61 => absurd c61 (by decide)) (fun _ => ?_)
          refine pw_iload_n (z := s) (pc := 64) dX1_writeAnswer_64 rfl rfl ?_
          refine pw_aload_n (z := 151) (pc := 65) dX1_writeAnswer_65 rfl rfl ?_
          have n_a1_151_0 : a1 151 0 = h 151 0 := (congrFun (af 151 (by first | decide | (simp; done) | (simp; omega))) 0)
          refine pw_gD (x := 0) (r := o) (pc := 66) dX1_writeAnswer_66 fX1_39 (hC 151 (by decide)) (show kd_ 151 = 11 by decide +kernel) rfl rfl (n_a1_151_0.trans hl_h) ?_
          refine pw_gI (x := 1) (pc := 69) dX1_writeAnswer_69 fX1_78 (hC _ (by omega)) (kd6_0 ho) rfl rfl (fun r69 => ?_)
          have n_a1_o_1 : a1 o 1 = h o 1 := (congrFun (af o (by first | decide | (simp; done) | (simp; omega))) 1)
          rw [n_a1_o_1] at r69 ⊢
          refine pw_icmp_ge (t := 79) (pc := 72) dX1_writeAnswer_72 (by decide) (by first | omega | (simp only [n_a1_151_0, n_a1_o_1, n_g32_151_15]; omega)) (by first | omega | (simp only [n_a1_151_0, n_a1_o_1, n_g32_151_15]; omega)) (fun c72 => ?_) (fun c72 => ?_)
          · refine pw_iconst (pc := 79) dX1_writeAnswer_79 ?_
            refine pw_istore (lv1 := [some (rr_ G 151), some (ii_ (m * 6)), some (ii_ 1), some (ii_ s), some (ii_ 0)]) (pc := 80) dX1_writeAnswer_80 (by decide) rfl rfl ?_
            refine pw_aload_n (z := 151) (pc := 82) dX1_writeAnswer_82 rfl rfl ?_
            refine pw_getR (r := 160) (pc := 83) dX1_writeAnswer_83 fX1_36 (hC 151 (by decide)) (show kd_ 151 = 11 by decide +kernel) rfl (by decide +kernel) ?_
            refine pw_iload_n (z := m * 6) (pc := 86) dX1_writeAnswer_86 rfl rfl ?_
            refine pw_iconst (pc := 87) dX1_writeAnswer_87 ?_
            refine pw_iadd (pc := 88) dX1_writeAnswer_88 ?_
            refine pw_iload_n (z := s) (pc := 89) dX1_writeAnswer_89 rfl rfl ?_
            refine pw_iadd (pc := 90) dX1_writeAnswer_90 ?_
            refine pw_iload (z := 0) (pc := 91) dX1_writeAnswer_91 rfl ?_
            refine pw_if_eq (t := 112) (pc := 93) dX1_writeAnswer_93 (by decide) (by first | omega | (simp only [n_a1_151_0, n_a1_o_1, n_g32_151_15]; omega)) (fun _ => ?_) (fun c93 => absurd c93 (by decide))
            refine pw_iconst (pc := 112) dX1_writeAnswer_112 ?_
            refine pw_iast (pc := 113) dX1_writeAnswer_113 (hC 160 (by decide)) (show kd_ 160 = 0 by decide +kernel) 78 (by decide +kernel) (by first | omega | (simp only [n_a1_151_0, n_a1_o_1, n_g32_151_15]; omega)) (by first | omega | (simp only [n_a1_151_0, n_a1_o_1, n_g32_151_15]; omega)) (by first | omega | (simp only [n_a1_151_0, n_a1_o_1, n_g32_151_15]; omega)) (by first | omega | (simp only [n_a1_151_0, n_a1_o_1, n_g32_151_15]; omega)) ?_
            obtain ⟨g113, e113⟩ : ∃ x, x = up_ a1 160 (((m * 6) + 2) + s) (-1) := ⟨_, rfl⟩
            refine pw_heq e113 ?_
            refine pw_iinc (z := s) (lv1 := [some (rr_ G 151), some (ii_ (m * 6)), some (ii_ 1), some (ii_ (s + 1)), some (ii_ 0)]) (pc := 114) dX1_writeAnswer_114 rfl (by decide) rfl rfl ?_
            refine pw_goto (t := 55) (pc := 117) dX1_writeAnswer_117 (by decide) ?_
            refine pw_less (lv1 := [some (rr_ G 151), some (ii_ (m * 6)), some (ii_ 1), some (ii_ (s + 1)), none]) rfl (by intro i v; (match i with | 0 => simp | 1 => simp | 2 => simp | 3 => simp | 4 => simp | n + 5 => simp)) ?_
            exact ih55 _ _ (by omega) (by rw [e113]; exact off_up af (by decide)) (fun w w0 w1 => by
                      rw [e113, up_at]
                      by_cases c : w = 2 + s
                      · rw [if_pos (by omega), hq9, c]
                        first
                        | rfl
                        | (rw [ans_p (by omega) (by omega)]; exact w107)
                        | (rw [ans_e (by omega) (by omega)]; done)
                      · rw [if_neg (by omega)]; exact aw w w0 (by omega)) (fun x hx => by rw [e113, up_at, if_neg (by omega)]; exact ao x hx) (by omega)
          · refine pw_iconst (pc := 75) dX1_writeAnswer_75 ?_
            refine pw_goto (t := 80) (pc := 76) dX1_writeAnswer_76 (by decide) ?_
            refine pw_istore (lv1 := [some (rr_ G 151), some (ii_ (m * 6)), some (ii_ 1), some (ii_ s), some (ii_ 1)]) (pc := 80) dX1_writeAnswer_80 (by decide) rfl rfl ?_
            refine pw_aload_n (z := 151) (pc := 82) dX1_writeAnswer_82 rfl rfl ?_
            refine pw_getR (r := 160) (pc := 83) dX1_writeAnswer_83 fX1_36 (hC 151 (by decide)) (show kd_ 151 = 11 by decide +kernel) rfl (by decide +kernel) ?_
            refine pw_iload_n (z := m * 6) (pc := 86) dX1_writeAnswer_86 rfl rfl ?_
            refine pw_iconst (pc := 87) dX1_writeAnswer_87 ?_
            refine pw_iadd (pc := 88) dX1_writeAnswer_88 ?_
            refine pw_iload_n (z := s) (pc := 89) dX1_writeAnswer_89 rfl rfl ?_
            refine pw_iadd (pc := 90) dX1_writeAnswer_90 ?_
            refine pw_iload (z := 1) (pc := 91) dX1_writeAnswer_91 rfl ?_
            refine pw_if_eq (t := 112) (pc := 93) dX1_writeAnswer_93 (by decide) (by first | omega | (simp only [n_a1_151_0, n_a1_o_1, n_g32_151_15]; omega)) (fun c93 => absurd c93 (by decide)) (fun _ => ?_)
            have bs := hB9.2.2.1 s (by omega) (by omega)
            have pk := CJP_at hJ bs.1.1 bs.1.2
            have qk := pL_b (ro := ro) (by omega) (by omega) bs.1.1 bs.1.2
            refine pw_aload_n (z := 151) (pc := 96) dX1_writeAnswer_96 rfl rfl ?_
            refine pw_gD (x := 0) (r := o) (pc := 97) dX1_writeAnswer_97 fX1_39 (hC 151 (by decide)) (show kd_ 151 = 11 by decide +kernel) rfl rfl (n_a1_151_0.trans hl_h) ?_
            refine pw_aload_n (z := 151) (pc := 100) dX1_writeAnswer_100 rfl rfl ?_
            refine pw_getR (r := 158) (pc := 101) dX1_writeAnswer_101 fX1_30 (hC 151 (by decide)) (show kd_ 151 = 11 by decide +kernel) rfl (by decide +kernel) ?_
            refine pw_iload_n (z := s) (pc := 104) dX1_writeAnswer_104 rfl rfl ?_
            refine pw_iald (pc := 105) dX1_writeAnswer_105 (hC 158 (by decide)) (show kd_ 158 = 0 by decide +kernel) 4 (by decide +kernel) (by first | omega | (simp only [n_a1_151_0, n_a1_o_1, n_g32_151_15]; omega)) (by first | omega | (simp only [n_a1_151_0, n_a1_o_1, n_g32_151_15]; omega)) (by first | omega | (simp only [n_a1_151_0, n_a1_o_1, n_g32_151_15]; omega)) (fun r105 => ?_)
            have n_a1_158 : a1 158 = h 158 := (af 158 (by first | decide | (simp; done) | (simp; omega)))
            rw [n_a1_158] at r105 ⊢
            refine pw_callV (c := 6) (o := o) (As := [ii_ (h 158 s)]) (rest := [ii_ (((m * 6) + 2) + s), rr_ G 160]) (pc := 106) dX1_writeAnswer_106 (d_planAt hC a1 o ho (h 158 s) (by first | omega | (simp only [n_a1_151_0, n_a1_158, n_a1_o_1, n_g32_151_15]; omega)) (by rw [show a1 o 7 = h o 7 by rw [af o (by simp; omega)]]; omega)) lX1_101 mX6_planAt vX6_planAt (hC _ (by omega)) (kd6_0 ho) rfl rfl rfl (by decide) ⟨Nat.zero_le _, Nat.zero_le _⟩ (Nat.le_of_ble_eq_true rfl) (k_i (fun z106 h106 y106 q106 => ?_))
            obtain ⟨rfl, w106⟩ := q106
            have w107 : z106 = q.2.2.1 s := by
              rw [w106, show a1 o 7 = h o 7 by rw [af o (by simp; omega)], if_pos (by omega), show a1 (o + 14) = h (o + 14) by rw [af (o + 14) (by simp; omega)], pk]
              exact bs.2
            refine pw_goto (t := 113) (pc := 109) dX1_writeAnswer_109 (by decide) ?_
            refine pw_iast (pc := 113) dX1_writeAnswer_113 (hC 160 (by decide)) (show kd_ 160 = 0 by decide +kernel) 78 (by decide +kernel) (by first | omega | (simp only [n_a1_151_0, n_a1_158, n_a1_o_1, n_g32_151_15]; omega)) (by first | omega | (simp only [n_a1_151_0, n_a1_158, n_a1_o_1, n_g32_151_15]; omega)) (by first | omega | (simp only [n_a1_151_0, n_a1_158, n_a1_o_1, n_g32_151_15]; omega)) (by first | omega | (simp only [n_a1_151_0, n_a1_158, n_a1_o_1, n_g32_151_15]; omega)) ?_
            obtain ⟨g113, e113⟩ : ∃ x, x = up_ a1 160 (((m * 6) + 2) + s) z106 := ⟨_, rfl⟩
            refine pw_heq e113 ?_
            refine pw_iinc (z := s) (lv1 := [some (rr_ G 151), some (ii_ (m * 6)), some (ii_ 1), some (ii_ (s + 1)), some (ii_ 1)]) (pc := 114) dX1_writeAnswer_114 rfl (by decide) rfl rfl ?_
            refine pw_goto (t := 55) (pc := 117) dX1_writeAnswer_117 (by decide) ?_
            refine pw_less (lv1 := [some (rr_ G 151), some (ii_ (m * 6)), some (ii_ 1), some (ii_ (s + 1)), none]) rfl (by intro i v; (match i with | 0 => simp | 1 => simp | 2 => simp | 3 => simp | 4 => simp | n + 5 => simp)) ?_
            exact ih55 _ _ (by omega) (by rw [e113]; exact off_up af (by decide)) (fun w w0 w1 => by
                      rw [e113, up_at]
                      by_cases c : w = 2 + s
                      · rw [if_pos (by omega), hq9, c]
                        first
                        | rfl
                        | (rw [ans_p (by omega) (by omega)]; exact w107)
                        | (rw [ans_e (by omega) (by omega)]; done)
                      · rw [if_neg (by omega)]; exact aw w w0 (by omega)) (fun x hx => by rw [e113, up_at, if_neg (by omega)]; exact ao x hx) (by omega)
    exact L55 _ _ _ (by omega) (by first | (rw [e52, e32]; exact off_up (off_up off_rf (by decide)) (by decide))) (fun w w0 w1 => by
              rw [e52, up_at]
              by_cases c : w = 1
              · rw [if_pos (by omega), hq9, c]
                first
                | rfl
                | (rw [ans_1]; exact hB9.2.1)
              · rw [if_neg (by omega), e32, up_at, if_pos (by omega), hq9, show w = 0 by omega]
                first
                | rfl
                | (rw [ans_0]; exact hB9.1.1)) (fun x hx => by rw [e52, up_at, if_neg (by omega), e32, up_at, if_neg (by omega)]) (Int.self_le_toNat _)

set_option maxHeartbeats 4000000 in
set_option maxRecDepth 100000 in
theorem d_evenestOf {G : GT_} (hC : okC_ G) (h : PH_) (o : Nat) (ho : is6_ o) (ro : Int → Int) (P : List (Int × Int)) (hjo : jon_ ro P o h) (hR : 1 ≤ ro 2) (hpa : ∀ r, 0 ≤ r → r < ro 2 → 0 ≤ ro (31 + 4 * r + 2) ∧ ro (31 + 4 * r + 2) ≤ 9999) (m w : Int) (hm : 0 ≤ m ∧ m ≤ 12) (hw : 0 ≤ w ∧ w < 6) (hca : jca_ ro P h) : PC G yX1_evenestOf cX1_evenestOf 3 (some .int) 9 [rr_ G 151, ii_ m, ii_ w] h (qi_ (fun z h' => off_ [151, 156, 157, 158, 159, 160] h h' ∧ (∀ k, k ≠ 11 → k ≠ 12 → k ≠ 14 → k ≠ 15 → h' 151 k = h 151 k) ∧ jca_ ro P h' ∧ z = ans_ ro w (skb_ ro P 0 m (pas_ ro)))) := by
  have H := hjo.1
  have hJ := hjo.2.1
  have HB := H.2.1
  have HA := H.1
  have l24 := lpn_24 (ro := ro) (by omega) (by omega)
  have hl_h := hJ.1
  have hN := hJ.2.1
  have pm := p2m hm
  have ca1 := hca.1
  refine PC.of (lv := [some (rr_ G 151), some (ii_ m), some (ii_ w)]) (by decide +kernel) (Nat.le_of_ble_eq_true rfl) rfl rfl ?_
  refine pw_iload_n (z := m) (pc := 0) dX1_evenestOf_0 rfl rfl ?_
  refine pw_if_lt (t := 20) (pc := 1) dX1_evenestOf_1 (by decide) (by first | omega) (fun c1 => ?_) (fun c1 => ?_)
  · exfalso; omega
  · refine pw_iload_n (z := m) (pc := 4) dX1_evenestOf_4 rfl rfl ?_
    refine pw_bipush (pc := 5) dX1_evenestOf_5 rfl ?_
    refine pw_icmp_gt (t := 20) (pc := 7) dX1_evenestOf_7 (by decide) (by first | omega) (by first | omega) (fun c7 => ?_) (fun c7 => ?_)
    · exfalso; omega
    · refine pw_iload_n (z := w) (pc := 10) dX1_evenestOf_10 rfl rfl ?_
      refine pw_if_lt (t := 20) (pc := 11) dX1_evenestOf_11 (by decide) (by first | omega) (fun c11 => ?_) (fun c11 => ?_)
      · exfalso; omega
      · refine pw_iload_n (z := w) (pc := 14) dX1_evenestOf_14 rfl rfl ?_
        refine pw_bipush (pc := 15) dX1_evenestOf_15 rfl ?_
        refine pw_icmp_lt (t := 22) (pc := 17) dX1_evenestOf_17 (by decide) (by first | omega) (by first | omega) (fun c17 => ?_) (fun c17 => ?_)
        · refine pw_aload_n (z := 151) (pc := 22) dX1_evenestOf_22 rfl rfl ?_
          refine pw_gI (x := 11) (pc := 23) dX1_evenestOf_23 fX1_47 (hC 151 (by decide)) (show kd_ 151 = 11 by decide +kernel) rfl rfl (fun r23 => ?_)
          refine pw_iload_n (z := m) (pc := 26) dX1_evenestOf_26 rfl rfl ?_
          refine pw_ishr (pc := 27) dX1_evenestOf_27 (by first | omega) (by first | omega) ?_
          refine pw_iconst (pc := 28) dX1_evenestOf_28 ?_
          refine pw_iand1 (pc := 29) dX1_evenestOf_29 ?_
          refine pw_if_ne (t := 75) (pc := 30) dX1_evenestOf_30 (by decide) (by first | omega) (fun c30 => ?_) (fun c30 => ?_)
          · refine pw_aload_n (z := 151) (pc := 75) dX1_evenestOf_75 rfl rfl ?_
            refine pw_getR (r := 160) (pc := 76) dX1_evenestOf_76 fX1_36 (hC 151 (by decide)) (show kd_ 151 = 11 by decide +kernel) rfl (by decide +kernel) ?_
            refine pw_iload_n (z := m) (pc := 79) dX1_evenestOf_79 rfl rfl ?_
            refine pw_bipush (pc := 80) dX1_evenestOf_80 rfl ?_
            refine pw_imul (pc := 82) dX1_evenestOf_82 ?_
            refine pw_iload_n (z := w) (pc := 83) dX1_evenestOf_83 rfl rfl ?_
            refine pw_iadd (pc := 84) dX1_evenestOf_84 ?_
            refine pw_iald (pc := 85) dX1_evenestOf_85 (hC 160 (by decide)) (show kd_ 160 = 0 by decide +kernel) 78 (by decide +kernel) (by first | omega) (by first | omega) (by first | omega) (fun r85 => ?_)
            exact pw_iret (pc := 86) dX1_evenestOf_86 (by first | omega) (by
                      first
                      | exact ⟨off_rf, fun _ _ _ _ _ => rfl, hca, hca.2 m w hm.1 hm.2 (by omega) hw.1 hw.2⟩
                      | exact ⟨off_tr (off_tr f59' (off_mo f64 (by decide))) (off_mo f72 (by decide)), fun k q1 q2 q3 q4 => by rw [k72 k q2 q3 q4]; exact if_neg q1, c72, a72 w hw.1 hw.2⟩)
          · refine pw_aload_n (z := 151) (pc := 33) dX1_evenestOf_33 rfl rfl ?_
            refine pw_dup (pc := 34) dX1_evenestOf_34 rfl ?_
            refine pw_gI (x := 11) (pc := 35) dX1_evenestOf_35 fX1_47 (hC 151 (by decide)) (show kd_ 151 = 11 by decide +kernel) rfl rfl (fun r35 => ?_)
            refine pw_iconst (pc := 38) dX1_evenestOf_38 ?_
            refine pw_iload_n (z := m) (pc := 39) dX1_evenestOf_39 rfl rfl ?_
            refine pw_ishl1 (pc := 40) dX1_evenestOf_40 (by first | omega) ?_
            refine pw_iorX (pc := 41) dX1_evenestOf_41 (by first | omega) (by first | omega) (fun w41 r41 x41 => ?_)
            have ob := or_i hca.1 hm (x41 (by omega) (by omega))
            refine pw_pI (x := 11) (pc := 42) dX1_evenestOf_42 fX1_47 (hC 151 (by decide)) (show kd_ 151 = 11 by decide +kernel) rfl rfl (by first | omega) ?_
            obtain ⟨g42, e42⟩ : ∃ x, x = up_ h 151 11 w41 := ⟨_, rfl⟩
            refine pw_heq e42 ?_
            have k42 : ∀ k, g42 151 k = ob_ (h 151) 11 w41 k := fun k => by rw [e42, up_ob]
            have hl_g42 : g42 151 0 = (o : Int) := by rw [k42]; exact hJ.1
            refine pw_aload_n (z := 151) (pc := 45) dX1_evenestOf_45 rfl rfl ?_
            have n_g42_151_0 : g42 151 0 = h 151 0 := (by rw [e42, up_at]; exact if_neg (by decide))
            refine pw_gD (x := 0) (r := o) (pc := 46) dX1_evenestOf_46 fX1_39 (hC 151 (by decide)) (show kd_ 151 = 11 by decide +kernel) rfl rfl (n_g42_151_0.trans hl_h) ?_
            refine pw_getR (r := (o + 5)) (pc := 49) dX1_evenestOf_49 fX1_60 (hC _ (by omega)) (kd6_0 ho) rfl rfl ?_
            refine pw_iconst (pc := 52) dX1_evenestOf_52 ?_
            refine pw_aload_n (z := 151) (pc := 53) dX1_evenestOf_53 rfl rfl ?_
            refine pw_getR (r := 156) (pc := 54) dX1_evenestOf_54 fX1_24 (hC 151 (by decide)) (show kd_ 151 = 11 by decide +kernel) rfl (by decide +kernel) ?_
            refine pw_iconst (pc := 57) dX1_evenestOf_57 ?_
            refine pw_iconst (pc := 58) dX1_evenestOf_58 ?_
            refine pw_copy (n0 := 4) (n1 := 20) (pc := 59) dX1_evenestOf_59 lX1_65 (hC _ (by omega)) (hC 156 (by decide)) (kd6_5 ho) (show kd_ 156 = 0 by decide +kernel) (ln6_5 ho) (by decide +kernel) (by first | omega | (simp only [n_g42_151_0]; omega)) (by first | omega | (simp only [n_g42_151_0]; omega)) (by first | omega | (simp only [n_g42_151_0]; omega)) (by decide) (by decide) (Nat.le_of_ble_eq_true rfl) ?_
            obtain ⟨g59, e59⟩ : ∃ x, x = sc_ g42 156 (fun x => if 0 ≤ x ∧ x < 0 + 4 then g42 (o + 5) (x - 0 + 0) else g42 156 x) := ⟨_, rfl⟩
            refine pw_heq e59 ?_
            have f59 : off_ [156] g42 g59 := fun j hj => by rw [e59]; exact sc_off (by simpa using hj)
            have f59' : off_ [151, 156, 157, 158, 159, 160] h g59 := off_tr (by rw [e42]; exact off_up off_rf (by decide)) (off_mo f59 (by decide))
            have j59 := jon_mv ho (show off_ [151, 156, 157, 158, 159] h g59 from off_tr (by rw [e42]; exact off_up off_rf (by decide)) (off_mo f59 (by decide))) (by rw [f59 151 (by decide), k42]; rfl) hjo
            have t59 : ∀ r, 0 ≤ r → r < ro 2 → g59 156 r = pas_ ro r := fun r r0 r1 => by
              rw [e59, sc_at]
              show (if _ then _ else _) = _
              rw [if_pos (by omega), show r - 0 + 0 = r by omega, e42, up_off (by omega)]
              exact (H.2.2.2.1 r r0 r1).2.2.1
            refine pw_aload_n (z := 151) (pc := 62) dX1_evenestOf_62 rfl rfl ?_
            refine pw_iload_n (z := m) (pc := 63) dX1_evenestOf_63 rfl rfl ?_
            refine pw_callV (c := 1) (o := 151) (As := [ii_ m]) (rest := []) (pc := 64) dX1_evenestOf_64 (d_searchEv hC g59 o ho ro P j59 hR m hm (fun r r0 r1 => by rw [t59 r r0 r1]; have := hpa r r0 r1; show -1000000 ≤ ro (31 + 4 * r + 2) ∧ ro (31 + 4 * r + 2) ≤ 1000000; omega)) lX1_71 mX1_searchEvenest vX1_searchEvenest (hC 151 (by decide)) (show kd_ 151 = 11 by decide +kernel) rfl rfl rfl (by decide) ⟨Nat.zero_le _, Nat.zero_le _⟩ (Nat.le_of_ble_eq_true rfl) (k_v (fun h64 q64 => ?_))
            obtain ⟨f64, o64, b64⟩ := q64
            rw [skb_cg (by omega) t59] at b64
            have j64 := jon_mv ho f64 (o64 0 (by decide) (by decide) (by decide)) j59
            refine pw_aload_n (z := 151) (pc := 67) dX1_evenestOf_67 rfl rfl ?_
            refine pw_iload_n (z := m) (pc := 68) dX1_evenestOf_68 rfl rfl ?_
            refine pw_bipush (pc := 69) dX1_evenestOf_69 rfl ?_
            refine pw_imul (pc := 71) dX1_evenestOf_71 ?_
            refine pw_callV (c := 1) (o := 151) (As := [ii_ (m * 6)]) (rest := []) (pc := 72) dX1_evenestOf_72 (d_writeAns hC h64 o ho ro j64.1 j64.2.1 m hm (skb_ ro P 0 m (pas_ ro)) b64 (fun q e => skb_mb (by first | omega | (simp only [n_g42_151_0]; omega)) e)) lX1_75 mX1_writeAnswer vX1_writeAnswer (hC 151 (by decide)) (show kd_ 151 = 11 by decide +kernel) rfl rfl rfl (by decide) ⟨Nat.zero_le _, Nat.zero_le _⟩ (Nat.le_of_ble_eq_true rfl) (k_v (fun h72 q72 => ?_))
            obtain ⟨f72, a72, n72⟩ := q72
            have k72 : ∀ k, k ≠ 12 → k ≠ 14 → k ≠ 15 → h72 151 k = ob_ (h 151) 11 w41 k := fun k k1 k2 k3 => by rw [f72 151 (by decide), o64 k k1 k2 k3, f59 151 (by decide), k42]
            have c72 : jca_ ro P h72 := by
              have e11 : h72 151 11 = w41 := by rw [k72 11 (by decide) (by decide) (by decide)]; rfl
              refine ⟨by rw [e11]; exact ob.1, fun m1 x u1 u2 u3 u4 u5 => ?_⟩
              rw [e11] at u3
              by_cases c : m1 = m
              · rw [c]; exact a72 x u4 u5
              · rw [n72 _ (by omega), f64 160 (by decide), f59 160 (by decide), e42, up_off (by decide)]
                rcases (ob.2 m1 u1).mp u3 with u | u
                · exact hca.2 m1 x u1 u2 u u4 u5
                · exact absurd u.symm c
            refine pw_aload_n (z := 151) (pc := 75) dX1_evenestOf_75 rfl rfl ?_
            refine pw_getR (r := 160) (pc := 76) dX1_evenestOf_76 fX1_36 (hC 151 (by decide)) (show kd_ 151 = 11 by decide +kernel) rfl (by decide +kernel) ?_
            refine pw_iload_n (z := m) (pc := 79) dX1_evenestOf_79 rfl rfl ?_
            refine pw_bipush (pc := 80) dX1_evenestOf_80 rfl ?_
            refine pw_imul (pc := 82) dX1_evenestOf_82 ?_
            refine pw_iload_n (z := w) (pc := 83) dX1_evenestOf_83 rfl rfl ?_
            refine pw_iadd (pc := 84) dX1_evenestOf_84 ?_
            refine pw_iald (pc := 85) dX1_evenestOf_85 (hC 160 (by decide)) (show kd_ 160 = 0 by decide +kernel) 78 (by decide +kernel) (by first | omega | (simp only [n_g42_151_0]; omega)) (by first | omega | (simp only [n_g42_151_0]; omega)) (by first | omega | (simp only [n_g42_151_0]; omega)) (fun r85 => ?_)
            exact pw_iret (pc := 86) dX1_evenestOf_86 (by first | omega | (simp only [n_g42_151_0]; omega)) (by
                      first
                      | exact ⟨off_rf, fun _ _ _ _ _ => rfl, hca, hca.2 m w hm.1 hm.2 (by omega) hw.1 hw.2⟩
                      | exact ⟨off_tr (off_tr f59' (off_mo f64 (by decide))) (off_mo f72 (by decide)), fun k q1 q2 q3 q4 => by rw [k72 k q2 q3 q4]; exact if_neg q1, c72, a72 w hw.1 hw.2⟩)
        · exfalso; omega

