/-! ===== the worst off ===== -/
def jls_ (h : PH_) : BT_ → Prop
  | none => h 151 16 = -2147483648
  | some q => h 151 16 = -q.1 ∧ -4000000 ≤ q.1 ∧ q.1 ≤ 4000000
theorem jls_bet {h : PH_} {v m : Int} (hv : -2147483648 < v) : ∀ {B : BT_}, jls_ h B → (h 151 16 < v ↔ bet_ 2 (-v) m B)
  | none, hb => ⟨fun _ => trivial, fun _ => by have : h 151 16 = -2147483648 := hb; omega⟩
  | some q, hb => by
    obtain ⟨h1, -, -⟩ := hb
    rw [h1]
    exact ⟨fun u => Or.inl (by omega), fun u => u.elim (fun u => by omega) (fun u => absurd u.1 (by decide))⟩
theorem jls_mv {h h' : PH_} {B : BT_} (e1 : h' 151 16 = h 151 16) (hb : jls_ h B) : jls_ h' B := by
  cases B with
  | none => show h' 151 16 = _; rw [e1]; exact hb
  | some q => unfold jls_ at *; rw [e1]; exact hb
theorem lmn_ex {f : Int → Int} : ∀ n : Nat, 1 ≤ n → (∀ k, 0 ≤ k → k < (n : Int) → f k < 2147483647) → ∃ k, (0 ≤ k ∧ k < (n : Int)) ∧ lmn_ f n = f k
  | 0, h, _ => by omega
  | n + 1, _, hb => by
    unfold lmn_
    by_cases c : f n < lmn_ f n
    · rw [if_pos c]; exact ⟨n, by omega, rfl⟩
    · rw [if_neg c]
      by_cases c0 : n = 0
      · exfalso; subst c0; have := hb 0 (by omega) (by omega); exact c this
      · obtain ⟨k, hk, e⟩ := lmn_ex (f := f) n (by omega) (fun k k0 k1 => hb k k0 (by omega))
        exact ⟨k, by omega, e⟩
theorem mn_tr {f : Int → Int} {R : Int} (hR : 1 ≤ R) : vat_ 2 (trn_ R f) 0 R = -(mn_ f 0 (R - 1).toNat) := by
  show -(mn_ _ 0 _) = _
  rw [mn_cg (g := f) (j := 0) (R - 1).toNat (fun r r0 r1 => by rw [Int.zero_add]; exact trn_at r0 (by omega))]
theorem lok2_n {ro : Int → Int} {P : List (Int × Int)} {mm m : Int} {row tot : Int → Int} {B : BT_} (hR : 1 ≤ ro 2) (hb : ¬ bet_ 2 (-(mn_ tot 0 (ro 2 - 1).toNat)) m B) : gtr_ ro P 2 mm 0 row tot m B = B := by
  show lok_ _ _ _ _ _ _ = _
  unfold lok_; rw [mn_tr hR]; exact if_f hb
theorem lok2_y {ro : Int → Int} {P : List (Int × Int)} {mm m : Int} {row tot : Int → Int} {B : BT_} (hR : 1 ≤ ro 2) (hb : bet_ 2 (-(mn_ tot 0 (ro 2 - 1).toNat)) m B) : gtr_ ro P 2 mm 0 row tot m B = some (-(mn_ tot 0 (ro 2 - 1).toNat), m, trn_ (ro 1) (fun j => pL_ ro (row j)), trn_ (ro 2) tot) := by
  show lok_ _ _ _ _ _ _ = _
  unfold lok_; rw [mn_tr hR]; exact if_t hb
def wfr_ (t : Int) (h h' : PH_) : Prop := off_ [151, 156, 157] h h' ∧ (∀ k, k ≠ 16 → h' 151 k = h 151 k) ∧ (∀ x, x < 4 * t + 4 → h' 156 x = h 156 x) ∧ (∀ x, x < t → h' 157 x = h 157 x)
theorem wfr_tr {t : Int} {a b c : PH_} (h1 : wfr_ t a b) (h2 : wfr_ t b c) : wfr_ t a c := ⟨off_tr h1.1 h2.1, fun k k1 => (h2.2.1 k k1).trans (h1.2.1 k k1), fun x x1 => (h2.2.2.1 x x1).trans (h1.2.2.1 x x1), fun x x1 => (h2.2.2.2 x x1).trans (h1.2.2.2 x x1)⟩
theorem wfr_up {t : Int} {a b c : PH_} (h1 : wfr_ t a b) (h2 : wfr_ (t + 1) b c) : wfr_ t a c := ⟨off_tr h1.1 h2.1, fun k k1 => (h2.2.1 k k1).trans (h1.2.1 k k1), fun x x1 => (h2.2.2.1 x (by omega)).trans (h1.2.2.1 x x1), fun x x1 => (h2.2.2.2 x (by omega)).trans (h1.2.2.2 x x1)⟩
def wpr_ (ro : Int → Int) (P : List (Int × Int)) (o : Nat) (n : Nat) (t m : Int) (B : BT_) (h : PH_) : Prop := jon_ ro P o h ∧ 1 ≤ ro 2 ∧ (t = ro 1 - 1 - n ∧ 0 ≤ t) ∧ (0 ≤ m ∧ (m = 0 ∨ m ≤ 4 * t - 4)) ∧ (∀ j, 0 ≤ j → j < t → 0 ≤ h 157 j ∧ h 157 j < (lpn_ ro 256).length) ∧ (∀ r, 0 ≤ r → r < ro 2 → -(1000000 + 1100 * t) ≤ h 156 (4 * t + r) ∧ h 156 (4 * t + r) ≤ 1000000 + 1100 * t) ∧ jls_ h B
def wpc_ (G : GT_) (ro : Int → Int) (P : List (Int × Int)) (o : Nat) (n : Nat) : Prop := ∀ (h : PH_) (t m : Int) (B : BT_), wpr_ ro P o n t m B h → PC G yX1_leastFrom cX1_leastFrom 4 none (3 + n) [rr_ G 151, ii_ t] h (qv_ (fun h' => wfr_ t h h' ∧ jls_ h' (gtr_ ro P 2 12 (n + 1) (h 157) (fun r => h 156 (4 * t + r)) m B)))

set_option maxHeartbeats 4000000 in
set_option maxRecDepth 100000 in
theorem d_least0 {G : GT_} (hC : okC_ G) (h : PH_) (o : Nat) (ho : is6_ o) (ro : Int → Int) (P : List (Int × Int)) (t m : Int) (B : BT_) (hp : wpr_ ro P o 0 t m B h) : PC G yX1_leastFrom cX1_leastFrom 4 none (3 + 0) [rr_ G 151, ii_ t] h (qv_ (fun h' => wfr_ t h h' ∧ jls_ h' (gtr_ ro P 2 12 (0 + 1) (h 157) (fun r => h 156 (4 * t + r)) m B))) := by
  obtain ⟨hjo, hR, ht, hm, hc, hb, hB⟩ := hp
  have H := hjo.1
  have hJ := hjo.2.1
  have HB := H.2.1
  have HA := H.1
  have l24 := lpn_24 (ro := ro) (by omega) (by omega)
  have hl_h := hJ.1
  have hN := hJ.2.1
  have hbf : bef_ (h 157) t = -1 ∨ 0 ≤ bef_ (h 157) t ∧ bef_ (h 157) t < (lpn_ ro 256).length := by
    unfold bef_
    by_cases c : t = 0
    · rw [if_pos c]; exact Or.inl rfl
    · rw [if_neg c]; exact Or.inr (hc _ (by omega) (by omega))
  have hrow : t ≠ 0 → 0 ≤ h 157 (t - 1) := fun u => (hc (t - 1) (by omega) (by omega)).1
  have gbb := fun (k r : Int) => gan_b (ro := ro) (P := P) (by omega) t (bef_ (h 157) t) k r
  refine PC.of (lv := [some (rr_ G 151), some (ii_ t), none, none]) (by decide +kernel) (Nat.le_of_ble_eq_true rfl) rfl rfl ?_
  refine pw_iconst (pc := 0) dX1_leastFrom_0 ?_
  refine pw_istore_n (lv1 := [some (rr_ G 151), some (ii_ t), some (ii_ 0), none]) (pc := 1) dX1_leastFrom_1 rfl (by decide) rfl rfl ?_
  have L2 : ∀ (nn : Nat) (k : Int) (a1 : PH_), (0 ≤ k ∧ k ≤ (lpn_ ro 256).length) → (wfr_ t h a1) → (jls_ a1 ((List.range k.toNat).foldl (est_ ro P 2 12 0 (h 157) (fun r => h 156 (4 * t + r)) m t) B)) → ((((lpn_ ro 256).length : Int) - k + 1 : Int) ≤ nn) → PW G RX1 cX1_leastFrom 4 none (rm_ (3 + 0)) 0 0 (zm_ G (qv_ (fun h' => wfr_ t h h' ∧ jls_ h' (gtr_ ro P 2 12 (0 + 1) (h 157) (fun r => h 156 (4 * t + r)) m B)))) 2 [some (rr_ G 151), some (ii_ t), some (ii_ k), none] [] a1 := by
    intro nn
    induction nn with
    | zero => intro k a1 ak af aB ams; exfalso; omega
    | succ nn ih2 =>
      intro k a1 ak af aB ams
      have ja := jon_mv ho (off_mo af.1 (by decide)) (af.2.1 0 (by decide)) hjo
      have Ha := ja.1
      have Ja := ja.2.1
      have Ga := ja.2.2.1
      have hl_a1 := Ja.1
      have HAa := Ha.1
      have hNa := Ja.2.1
      have ca : ∀ j, 0 ≤ j → j < t → 0 ≤ a1 157 j ∧ a1 157 j < (lpn_ ro 256).length := fun j j0 j1 => by rw [af.2.2.2 j j1]; exact hc j j0 j1
      have ta : ∀ r, 0 ≤ r → r < ro 2 → a1 156 (4 * t + r) = h 156 (4 * t + r) := fun r r0 r1 => af.2.2.1 _ (by omega)
      have mb := mov_b ro (bef_ (h 157) t) k
      have m0 : t = 0 → mov_ ro (bef_ (h 157) t) k = 0 := fun u => by unfold bef_; rw [if_pos u]; rfl
      have ba : bef_ (a1 157) t = bef_ (h 157) t := by
        unfold bef_
        by_cases c : t = 0
        · rw [if_pos c, if_pos c]
        · rw [if_neg c, if_neg c, af.2.2.2 (t - 1) (by omega)]
      refine pw_iload_n (z := k) (pc := 2) dX1_leastFrom_2 rfl rfl ?_
      refine pw_aload_n (z := 151) (pc := 3) dX1_leastFrom_3 rfl rfl ?_
      refine pw_gD (x := 0) (r := o) (pc := 4) dX1_leastFrom_4 fX1_39 (hC 151 (by decide)) (show kd_ 151 = 11 by decide +kernel) rfl rfl hl_a1 ?_
      refine pw_gI (x := 7) (pc := 7) dX1_leastFrom_7 fX1_109 (hC _ (by omega)) (kd6_0 ho) rfl rfl (fun r7 => ?_)
      have n_a1_o_7 : a1 o 7 = h o 7 := (congrFun (af.1 o (by first | decide | (simp; done) | (simp; omega))) 7)
      rw [n_a1_o_7] at r7 ⊢
      refine pw_icmp_ge (t := 76) (pc := 10) dX1_leastFrom_10 (by decide) (by first | omega | (simp only [n_a1_o_7]; omega)) (by first | omega | (simp only [n_a1_o_7]; omega)) (fun c10 => ?_) (fun c10 => ?_)
      · exact pw_vret (pc := 76) dX1_leastFrom_76 (by
                  refine ⟨af, ?_⟩
                  rw [est_a (t := t) (by omega) (by omega) ht.2 hrow, show (lpn_ ro 256).length = k.toNat by omega]
                  exact aB)
      · refine pw_aload_n (z := 151) (pc := 13) dX1_leastFrom_13 rfl rfl ?_
        refine pw_iload_n (z := t) (pc := 14) dX1_leastFrom_14 rfl rfl ?_
        refine pw_iload_n (z := k) (pc := 15) dX1_leastFrom_15 rfl rfl ?_
        refine pw_callV (c := 1) (o := 151) (As := [ii_ t, ii_ k]) (rest := []) (pc := 16) dX1_leastFrom_16 (d_choose hC a1 o ho ro Ha P Ja Ga t (by first | omega | (simp only [n_a1_o_7]; omega)) k (by first | omega | (simp only [n_a1_o_7]; omega)) ca (fun r r0 r1 => by rw [ta r r0 r1]; have := hb r r0 r1; omega)) lX1_177 mX1_choose vX1_choose (hC 151 (by decide)) (show kd_ 151 = 11 by decide +kernel) rfl rfl rfl (by constructor <;> simp only [rm_] <;> omega) ⟨Nat.zero_le _, Nat.zero_le _⟩ (Nat.le_of_ble_eq_true rfl) (k_v (fun h16 q16 => ?_))
        obtain ⟨f16, r16, l16, t16⟩ := q16
        have F16 : wfr_ t a1 h16 := ⟨off_mo f16 (by decide), fun q _ => by rw [f16 151 (by decide)], l16, fun x x1 => by rw [r16]; exact if_neg (by omega)⟩
        have j16 := jon_mv ho (off_mo F16.1 (by decide)) (F16.2.1 0 (by decide)) ja
        have hl_h16 := j16.2.1.1
        have b16 : jls_ h16 ((List.range k.toNat).foldl (est_ ro P 2 12 0 (h 157) (fun r => h 156 (4 * t + r)) m t) B) := jls_mv (by rw [f16 151 (by decide)]) aB
        have HA16 := j16.1.1
        have tb16 : ∀ r, 0 ≤ r → r < ro 2 → -2000000 ≤ h16 156 (4 * t + 4 + r) ∧ h16 156 (4 * t + 4 + r) ≤ 2000000 := fun r r0 r1 => by rw [t16 r r0 r1, ta r r0 r1, ba]; have := gbb k r; have := hb r r0 r1; omega
        refine pw_aload_n (z := 151) (pc := 19) dX1_leastFrom_19 rfl rfl ?_
        refine pw_iload_n (z := t) (pc := 20) dX1_leastFrom_20 rfl rfl ?_
        refine pw_iload_n (z := k) (pc := 21) dX1_leastFrom_21 rfl rfl ?_
        refine pw_callV (c := 1) (o := 151) (As := [ii_ t, ii_ k]) (rest := []) (pc := 22) dX1_leastFrom_22 (d_leastThat hC h16 o ho ro j16.1 P j16.2.1 j16.2.2.1 j16.2.2.2 t (by first | omega | (simp only [n_a1_o_7]; omega)) k (by first | omega | (simp only [n_a1_o_7]; omega)) tb16) lX1_196 mX1_leastThatCouldBe vX1_leastThatCouldBe (hC 151 (by decide)) (show kd_ 151 = 11 by decide +kernel) rfl rfl rfl (by constructor <;> simp only [rm_] <;> omega) ⟨Nat.zero_le _, Nat.zero_le _⟩ (Nat.le_of_ble_eq_true rfl) (k_i (fun z22 h22 y22 q22 => ?_))
        obtain ⟨rfl, w22⟩ := q22
        have lb := fun (c : Int) => leh_b (ro := ro) (P := P) (a := 4) (c := c) (by omega) (by omega) (ro 1 - 1 - t).toNat k (by omega)
        obtain ⟨c, hcc, ec⟩ := lmn_ex (f := fun r => h16 156 (4 * t + 4 + r) - leh_ ro P 4 r (ro 1 - 1 - t).toNat k) (ro 2).toNat (by omega) (fun r r0 r1 => by have := lb r; have := tb16 r r0 (by omega); show h16 156 (4 * t + 4 + r) - _ < _; omega)
        rw [← w22] at ec
        have zb : -2100000 ≤ z22 ∧ z22 ≤ 2100000 := by have := lb c; have := tb16 c hcc.1 (by omega); rw [ec]; show -2100000 ≤ h16 156 (4 * t + 4 + c) - _ ∧ h16 156 (4 * t + 4 + c) - _ ≤ 2100000; omega
        have jb := jls_bet (v := z22) (m := m + mov_ ro (bef_ (h 157) t) k) (by omega) b16
        refine pw_istore_n (lv1 := [some (rr_ G 151), some (ii_ t), some (ii_ k), some (ii_ z22)]) (pc := 25) dX1_leastFrom_25 rfl (by decide) rfl rfl ?_
        refine pw_iload_n (z := z22) (pc := 26) dX1_leastFrom_26 rfl rfl ?_
        refine pw_aload_n (z := 151) (pc := 27) dX1_leastFrom_27 rfl rfl ?_
        refine pw_gI (x := 16) (pc := 28) dX1_leastFrom_28 fX1_57 (hC 151 (by decide)) (show kd_ 151 = 11 by decide +kernel) rfl rfl (fun r28 => ?_)
        have n_h16_151_16 : h16 151 16 = a1 151 16 := (congrFun (f16 151 (by first | decide | (simp; done) | (simp; omega))) 16)
        rw [n_h16_151_16] at r28 ⊢
        refine pw_icmp_le (t := 57) (pc := 31) dX1_leastFrom_31 (by decide) (by first | omega | (simp only [n_a1_o_7, n_h16_151_16]; omega)) (by first | omega | (simp only [n_a1_o_7, n_h16_151_16]; omega)) (fun c31 => ?_) (fun c31 => ?_)
        · refine pw_iload_n (z := z22) (pc := 57) dX1_leastFrom_57 rfl rfl ?_
          refine pw_aload_n (z := 151) (pc := 58) dX1_leastFrom_58 rfl rfl ?_
          refine pw_gI (x := 16) (pc := 59) dX1_leastFrom_59 fX1_57 (hC 151 (by decide)) (show kd_ 151 = 11 by decide +kernel) rfl rfl (fun r59 => ?_)
          rw [n_h16_151_16] at r59 ⊢
          refine pw_icmp_le (t := 70) (pc := 62) dX1_leastFrom_62 (by decide) (by first | omega | (simp only [n_a1_o_7, n_h16_151_16]; omega)) (by first | omega | (simp only [n_a1_o_7, n_h16_151_16]; omega)) (fun c62 => ?_) (fun c62 => ?_)
          · refine pw_iinc (z := k) (lv1 := [some (rr_ G 151), some (ii_ t), some (ii_ (k + 1)), some (ii_ z22)]) (pc := 70) dX1_leastFrom_70 rfl (by decide) rfl rfl ?_
            refine pw_goto (t := 2) (pc := 73) dX1_leastFrom_73 (by decide) ?_
            refine pw_less (lv1 := [some (rr_ G 151), some (ii_ t), some (ii_ (k + 1)), none]) rfl (by intro i v; (match i with | 0 => simp | 1 => simp | 2 => simp | 3 => simp | n + 4 => simp)) ?_
            exact ih2 _ _ (by omega) (by first | exact wfr_tr af F16 | exact wfr_tr (wfr_tr af F16) (by rw [e67]; exact ⟨off_up off_rf (by decide), fun q q1 => by rw [up_at, if_neg q1], fun _ _ => by rw [up_off (by decide)], fun _ _ => by rw [up_off (by decide)]⟩)) (by
                      have eg : ∀ B0, gtr_ ro P 2 12 0 (ob_ (h 157) t k) (fun r => h 156 (4 * t + r) + gan_ ro P t (bef_ (h 157) t) k r) (m + mov_ ro (bef_ (h 157) t) k) B0 = gtr_ ro P 2 12 0 (h16 157) (fun r => h16 156 (4 * (t + 1) + r)) (m + mov_ ro (bef_ (h 157) t) k) B0 := fun B0 => gtr_cg 0 (by omega) (fun j j0 j1 => by
                          rw [r16]
                          unfold ob_
                          by_cases c : j = t
                          · rw [if_pos c, if_pos c]
                          · rw [if_neg c, if_neg c, af.2.2.2 j (by omega)]) (fun r r0 r1 => by
                          show h 156 (4 * t + r) + _ = h16 156 (4 * (t + 1) + r)
                          rw [show 4 * (t + 1) + r = 4 * t + 4 + r by omega, t16 r r0 r1, ta r r0 r1, ba])
                      rw [est_f ak.1, if_t (by omega), eg]
                      have em : mn_ (fun r => h16 156 (4 * (t + 1) + r)) 0 (ro 2 - 1).toNat = z22 := by
                        rw [w22, ← lmn_mn (by omega) (fun r r0 r1 => by show h16 156 (4 * (t + 1) + r) < _; rw [show 4 * (t + 1) + r = 4 * t + 4 + r by omega]; have := tb16 r r0 r1; omega)]
                        refine lmn_cg _ (fun r r0 r1 => ?_)
                        show h16 156 (4 * (t + 1) + r) = h16 156 (4 * t + 4 + r) - _
                        rw [show 4 * (t + 1) + r = 4 * t + 4 + r by omega, leh_0 (by omega), Int.sub_zero]
                      first
                      | (rw [lok2_n hR (by rw [em]; intro u; have := jb.mpr u; omega)]; exact b16)
                      | (rw [lok2_y hR (by rw [em]; exact jb.mp (by omega)), em]
                         exact ⟨by rw [e67, up_same]; show z22 = -(-z22); omega, by show -4000000 ≤ -z22; omega, by show -z22 ≤ 4000000; omega⟩)) (by omega)
          · refine pw_aload_n (z := 151) (pc := 65) dX1_leastFrom_65 rfl rfl ?_
            refine pw_iload_n (z := z22) (pc := 66) dX1_leastFrom_66 rfl rfl ?_
            refine pw_pI (x := 16) (pc := 67) dX1_leastFrom_67 fX1_57 (hC 151 (by decide)) (show kd_ 151 = 11 by decide +kernel) rfl rfl (by first | omega | (simp only [n_a1_o_7, n_h16_151_16]; omega)) ?_
            obtain ⟨g67, e67⟩ : ∃ x, x = up_ h16 151 16 z22 := ⟨_, rfl⟩
            refine pw_heq e67 ?_
            refine pw_iinc (z := k) (lv1 := [some (rr_ G 151), some (ii_ t), some (ii_ (k + 1)), some (ii_ z22)]) (pc := 70) dX1_leastFrom_70 rfl (by decide) rfl rfl ?_
            refine pw_goto (t := 2) (pc := 73) dX1_leastFrom_73 (by decide) ?_
            refine pw_less (lv1 := [some (rr_ G 151), some (ii_ t), some (ii_ (k + 1)), none]) rfl (by intro i v; (match i with | 0 => simp | 1 => simp | 2 => simp | 3 => simp | n + 4 => simp)) ?_
            exact ih2 _ _ (by omega) (by first | exact wfr_tr af F16 | exact wfr_tr (wfr_tr af F16) (by rw [e67]; exact ⟨off_up off_rf (by decide), fun q q1 => by rw [up_at, if_neg q1], fun _ _ => by rw [up_off (by decide)], fun _ _ => by rw [up_off (by decide)]⟩)) (by
                      have eg : ∀ B0, gtr_ ro P 2 12 0 (ob_ (h 157) t k) (fun r => h 156 (4 * t + r) + gan_ ro P t (bef_ (h 157) t) k r) (m + mov_ ro (bef_ (h 157) t) k) B0 = gtr_ ro P 2 12 0 (h16 157) (fun r => h16 156 (4 * (t + 1) + r)) (m + mov_ ro (bef_ (h 157) t) k) B0 := fun B0 => gtr_cg 0 (by omega) (fun j j0 j1 => by
                          rw [r16]
                          unfold ob_
                          by_cases c : j = t
                          · rw [if_pos c, if_pos c]
                          · rw [if_neg c, if_neg c, af.2.2.2 j (by omega)]) (fun r r0 r1 => by
                          show h 156 (4 * t + r) + _ = h16 156 (4 * (t + 1) + r)
                          rw [show 4 * (t + 1) + r = 4 * t + 4 + r by omega, t16 r r0 r1, ta r r0 r1, ba])
                      rw [est_f ak.1, if_t (by omega), eg]
                      have em : mn_ (fun r => h16 156 (4 * (t + 1) + r)) 0 (ro 2 - 1).toNat = z22 := by
                        rw [w22, ← lmn_mn (by omega) (fun r r0 r1 => by show h16 156 (4 * (t + 1) + r) < _; rw [show 4 * (t + 1) + r = 4 * t + 4 + r by omega]; have := tb16 r r0 r1; omega)]
                        refine lmn_cg _ (fun r r0 r1 => ?_)
                        show h16 156 (4 * (t + 1) + r) = h16 156 (4 * t + 4 + r) - _
                        rw [show 4 * (t + 1) + r = 4 * t + 4 + r by omega, leh_0 (by omega), Int.sub_zero]
                      first
                      | (rw [lok2_n hR (by rw [em]; intro u; have := jb.mpr u; omega)]; exact b16)
                      | (rw [lok2_y hR (by rw [em]; exact jb.mp (by omega)), em]
                         exact ⟨by rw [e67, up_same]; show z22 = -(-z22); omega, by show -4000000 ≤ -z22; omega, by show -z22 ≤ 4000000; omega⟩)) (by omega)
        · refine pw_iload_n (z := t) (pc := 34) dX1_leastFrom_34 rfl rfl ?_
          refine pw_iconst (pc := 35) dX1_leastFrom_35 ?_
          refine pw_iadd (pc := 36) dX1_leastFrom_36 ?_
          refine pw_aload_n (z := 151) (pc := 37) dX1_leastFrom_37 rfl rfl ?_
          have n_h16_151_0 : h16 151 0 = a1 151 0 := (congrFun (f16 151 (by first | decide | (simp; done) | (simp; omega))) 0)
          refine pw_gD (x := 0) (r := o) (pc := 38) dX1_leastFrom_38 fX1_39 (hC 151 (by decide)) (show kd_ 151 = 11 by decide +kernel) rfl rfl (n_h16_151_0.trans hl_a1) ?_
          refine pw_gI (x := 1) (pc := 41) dX1_leastFrom_41 fX1_78 (hC _ (by omega)) (kd6_0 ho) rfl rfl (fun r41 => ?_)
          have n_h16_o_1 : h16 o 1 = h o 1 := ((show h16 o 1 = a1 o 1 from (congrFun (f16 o (by first | decide | (simp; done) | (simp; omega))) 1)).trans (show a1 o 1 = h o 1 from (congrFun (af.1 o (by first | decide | (simp; done) | (simp; omega))) 1)))
          rw [n_h16_o_1] at r41 ⊢
          refine pw_icmp_ge (t := 57) (pc := 44) dX1_leastFrom_44 (by decide) (by first | omega | (simp only [n_a1_o_7, n_h16_151_0, n_h16_151_16, n_h16_o_1]; omega)) (by first | omega | (simp only [n_a1_o_7, n_h16_151_0, n_h16_151_16, n_h16_o_1]; omega)) (fun c44 => ?_) (fun c44 => ?_)
          · refine pw_iload_n (z := z22) (pc := 57) dX1_leastFrom_57 rfl rfl ?_
            refine pw_aload_n (z := 151) (pc := 58) dX1_leastFrom_58 rfl rfl ?_
            refine pw_gI (x := 16) (pc := 59) dX1_leastFrom_59 fX1_57 (hC 151 (by decide)) (show kd_ 151 = 11 by decide +kernel) rfl rfl (fun r59 => ?_)
            rw [n_h16_151_16] at r59 ⊢
            refine pw_icmp_le (t := 70) (pc := 62) dX1_leastFrom_62 (by decide) (by first | omega | (simp only [n_a1_o_7, n_h16_151_0, n_h16_151_16, n_h16_o_1]; omega)) (by first | omega | (simp only [n_a1_o_7, n_h16_151_0, n_h16_151_16, n_h16_o_1]; omega)) (fun c62 => ?_) (fun c62 => ?_)
            · refine pw_iinc (z := k) (lv1 := [some (rr_ G 151), some (ii_ t), some (ii_ (k + 1)), some (ii_ z22)]) (pc := 70) dX1_leastFrom_70 rfl (by decide) rfl rfl ?_
              refine pw_goto (t := 2) (pc := 73) dX1_leastFrom_73 (by decide) ?_
              refine pw_less (lv1 := [some (rr_ G 151), some (ii_ t), some (ii_ (k + 1)), none]) rfl (by intro i v; (match i with | 0 => simp | 1 => simp | 2 => simp | 3 => simp | n + 4 => simp)) ?_
              exact ih2 _ _ (by omega) (by first | exact wfr_tr af F16 | exact wfr_tr (wfr_tr af F16) (by rw [e67]; exact ⟨off_up off_rf (by decide), fun q q1 => by rw [up_at, if_neg q1], fun _ _ => by rw [up_off (by decide)], fun _ _ => by rw [up_off (by decide)]⟩)) (by
                        have eg : ∀ B0, gtr_ ro P 2 12 0 (ob_ (h 157) t k) (fun r => h 156 (4 * t + r) + gan_ ro P t (bef_ (h 157) t) k r) (m + mov_ ro (bef_ (h 157) t) k) B0 = gtr_ ro P 2 12 0 (h16 157) (fun r => h16 156 (4 * (t + 1) + r)) (m + mov_ ro (bef_ (h 157) t) k) B0 := fun B0 => gtr_cg 0 (by omega) (fun j j0 j1 => by
                            rw [r16]
                            unfold ob_
                            by_cases c : j = t
                            · rw [if_pos c, if_pos c]
                            · rw [if_neg c, if_neg c, af.2.2.2 j (by omega)]) (fun r r0 r1 => by
                            show h 156 (4 * t + r) + _ = h16 156 (4 * (t + 1) + r)
                            rw [show 4 * (t + 1) + r = 4 * t + 4 + r by omega, t16 r r0 r1, ta r r0 r1, ba])
                        rw [est_f ak.1, if_t (by omega), eg]
                        have em : mn_ (fun r => h16 156 (4 * (t + 1) + r)) 0 (ro 2 - 1).toNat = z22 := by
                          rw [w22, ← lmn_mn (by omega) (fun r r0 r1 => by show h16 156 (4 * (t + 1) + r) < _; rw [show 4 * (t + 1) + r = 4 * t + 4 + r by omega]; have := tb16 r r0 r1; omega)]
                          refine lmn_cg _ (fun r r0 r1 => ?_)
                          show h16 156 (4 * (t + 1) + r) = h16 156 (4 * t + 4 + r) - _
                          rw [show 4 * (t + 1) + r = 4 * t + 4 + r by omega, leh_0 (by omega), Int.sub_zero]
                        first
                        | (rw [lok2_n hR (by rw [em]; intro u; have := jb.mpr u; omega)]; exact b16)
                        | (rw [lok2_y hR (by rw [em]; exact jb.mp (by omega)), em]
                           exact ⟨by rw [e67, up_same]; show z22 = -(-z22); omega, by show -4000000 ≤ -z22; omega, by show -z22 ≤ 4000000; omega⟩)) (by omega)
            · refine pw_aload_n (z := 151) (pc := 65) dX1_leastFrom_65 rfl rfl ?_
              refine pw_iload_n (z := z22) (pc := 66) dX1_leastFrom_66 rfl rfl ?_
              refine pw_pI (x := 16) (pc := 67) dX1_leastFrom_67 fX1_57 (hC 151 (by decide)) (show kd_ 151 = 11 by decide +kernel) rfl rfl (by first | omega | (simp only [n_a1_o_7, n_h16_151_0, n_h16_151_16, n_h16_o_1]; omega)) ?_
              obtain ⟨g67, e67⟩ : ∃ x, x = up_ h16 151 16 z22 := ⟨_, rfl⟩
              refine pw_heq e67 ?_
              refine pw_iinc (z := k) (lv1 := [some (rr_ G 151), some (ii_ t), some (ii_ (k + 1)), some (ii_ z22)]) (pc := 70) dX1_leastFrom_70 rfl (by decide) rfl rfl ?_
              refine pw_goto (t := 2) (pc := 73) dX1_leastFrom_73 (by decide) ?_
              refine pw_less (lv1 := [some (rr_ G 151), some (ii_ t), some (ii_ (k + 1)), none]) rfl (by intro i v; (match i with | 0 => simp | 1 => simp | 2 => simp | 3 => simp | n + 4 => simp)) ?_
              exact ih2 _ _ (by omega) (by first | exact wfr_tr af F16 | exact wfr_tr (wfr_tr af F16) (by rw [e67]; exact ⟨off_up off_rf (by decide), fun q q1 => by rw [up_at, if_neg q1], fun _ _ => by rw [up_off (by decide)], fun _ _ => by rw [up_off (by decide)]⟩)) (by
                        have eg : ∀ B0, gtr_ ro P 2 12 0 (ob_ (h 157) t k) (fun r => h 156 (4 * t + r) + gan_ ro P t (bef_ (h 157) t) k r) (m + mov_ ro (bef_ (h 157) t) k) B0 = gtr_ ro P 2 12 0 (h16 157) (fun r => h16 156 (4 * (t + 1) + r)) (m + mov_ ro (bef_ (h 157) t) k) B0 := fun B0 => gtr_cg 0 (by omega) (fun j j0 j1 => by
                            rw [r16]
                            unfold ob_
                            by_cases c : j = t
                            · rw [if_pos c, if_pos c]
                            · rw [if_neg c, if_neg c, af.2.2.2 j (by omega)]) (fun r r0 r1 => by
                            show h 156 (4 * t + r) + _ = h16 156 (4 * (t + 1) + r)
                            rw [show 4 * (t + 1) + r = 4 * t + 4 + r by omega, t16 r r0 r1, ta r r0 r1, ba])
                        rw [est_f ak.1, if_t (by omega), eg]
                        have em : mn_ (fun r => h16 156 (4 * (t + 1) + r)) 0 (ro 2 - 1).toNat = z22 := by
                          rw [w22, ← lmn_mn (by omega) (fun r r0 r1 => by show h16 156 (4 * (t + 1) + r) < _; rw [show 4 * (t + 1) + r = 4 * t + 4 + r by omega]; have := tb16 r r0 r1; omega)]
                          refine lmn_cg _ (fun r r0 r1 => ?_)
                          show h16 156 (4 * (t + 1) + r) = h16 156 (4 * t + 4 + r) - _
                          rw [show 4 * (t + 1) + r = 4 * t + 4 + r by omega, leh_0 (by omega), Int.sub_zero]
                        first
                        | (rw [lok2_n hR (by rw [em]; intro u; have := jb.mpr u; omega)]; exact b16)
                        | (rw [lok2_y hR (by rw [em]; exact jb.mp (by omega)), em]
                           exact ⟨by rw [e67, up_same]; show z22 = -(-z22); omega, by show -4000000 ≤ -z22; omega, by show -z22 ≤ 4000000; omega⟩)) (by omega)
          · exfalso; omega
  exact L2 _ _ _ (by omega) (⟨off_rf, fun _ _ => rfl, fun _ _ => rfl, fun _ _ => rfl⟩) (hB) (Int.self_le_toNat _)

set_option linter.constructorNameAsVariable false in
set_option maxHeartbeats 4000000 in
set_option maxRecDepth 100000 in
theorem d_leastS {G : GT_} (hC : okC_ G) (h : PH_) (o : Nat) (ho : is6_ o) (ro : Int → Int) (P : List (Int × Int)) (n : Nat) (IH : wpc_ G ro P o n) (t m : Int) (B : BT_) (hp : wpr_ ro P o (n + 1) t m B h) : PC G yX1_leastFrom cX1_leastFrom 4 none (3 + (n + 1)) [rr_ G 151, ii_ t] h (qv_ (fun h' => wfr_ t h h' ∧ jls_ h' (gtr_ ro P 2 12 (n + 1 + 1) (h 157) (fun r => h 156 (4 * t + r)) m B))) := by
  obtain ⟨hjo, hR, ht, hm, hc, hb, hB⟩ := hp
  have H := hjo.1
  have hJ := hjo.2.1
  have HB := H.2.1
  have HA := H.1
  have l24 := lpn_24 (ro := ro) (by omega) (by omega)
  have hl_h := hJ.1
  have hN := hJ.2.1
  have hbf : bef_ (h 157) t = -1 ∨ 0 ≤ bef_ (h 157) t ∧ bef_ (h 157) t < (lpn_ ro 256).length := by
    unfold bef_
    by_cases c : t = 0
    · rw [if_pos c]; exact Or.inl rfl
    · rw [if_neg c]; exact Or.inr (hc _ (by omega) (by omega))
  have hrow : t ≠ 0 → 0 ≤ h 157 (t - 1) := fun u => (hc (t - 1) (by omega) (by omega)).1
  have gbb := fun (k r : Int) => gan_b (ro := ro) (P := P) (by omega) t (bef_ (h 157) t) k r
  refine PC.of (lv := [some (rr_ G 151), some (ii_ t), none, none]) (by decide +kernel) (Nat.le_of_ble_eq_true rfl) rfl rfl ?_
  refine pw_iconst (pc := 0) dX1_leastFrom_0 ?_
  refine pw_istore_n (lv1 := [some (rr_ G 151), some (ii_ t), some (ii_ 0), none]) (pc := 1) dX1_leastFrom_1 rfl (by decide) rfl rfl ?_
  have L2 : ∀ (nn : Nat) (k : Int) (a1 : PH_), (0 ≤ k ∧ k ≤ (lpn_ ro 256).length) → (wfr_ t h a1) → (jls_ a1 ((List.range k.toNat).foldl (est_ ro P 2 12 (n + 1) (h 157) (fun r => h 156 (4 * t + r)) m t) B)) → ((((lpn_ ro 256).length : Int) - k + 1 : Int) ≤ nn) → PW G RX1 cX1_leastFrom 4 none (rm_ (3 + (n + 1))) 0 0 (zm_ G (qv_ (fun h' => wfr_ t h h' ∧ jls_ h' (gtr_ ro P 2 12 (n + 1 + 1) (h 157) (fun r => h 156 (4 * t + r)) m B)))) 2 [some (rr_ G 151), some (ii_ t), some (ii_ k), none] [] a1 := by
    intro nn
    induction nn with
    | zero => intro k a1 ak af aB ams; exfalso; omega
    | succ nn ih2 =>
      intro k a1 ak af aB ams
      have ja := jon_mv ho (off_mo af.1 (by decide)) (af.2.1 0 (by decide)) hjo
      have Ha := ja.1
      have Ja := ja.2.1
      have Ga := ja.2.2.1
      have hl_a1 := Ja.1
      have HAa := Ha.1
      have hNa := Ja.2.1
      have ca : ∀ j, 0 ≤ j → j < t → 0 ≤ a1 157 j ∧ a1 157 j < (lpn_ ro 256).length := fun j j0 j1 => by rw [af.2.2.2 j j1]; exact hc j j0 j1
      have ta : ∀ r, 0 ≤ r → r < ro 2 → a1 156 (4 * t + r) = h 156 (4 * t + r) := fun r r0 r1 => af.2.2.1 _ (by omega)
      have mb := mov_b ro (bef_ (h 157) t) k
      have m0 : t = 0 → mov_ ro (bef_ (h 157) t) k = 0 := fun u => by unfold bef_; rw [if_pos u]; rfl
      have ba : bef_ (a1 157) t = bef_ (h 157) t := by
        unfold bef_
        by_cases c : t = 0
        · rw [if_pos c, if_pos c]
        · rw [if_neg c, if_neg c, af.2.2.2 (t - 1) (by omega)]
      refine pw_iload_n (z := k) (pc := 2) dX1_leastFrom_2 rfl rfl ?_
      refine pw_aload_n (z := 151) (pc := 3) dX1_leastFrom_3 rfl rfl ?_
      refine pw_gD (x := 0) (r := o) (pc := 4) dX1_leastFrom_4 fX1_39 (hC 151 (by decide)) (show kd_ 151 = 11 by decide +kernel) rfl rfl hl_a1 ?_
      refine pw_gI (x := 7) (pc := 7) dX1_leastFrom_7 fX1_109 (hC _ (by omega)) (kd6_0 ho) rfl rfl (fun r7 => ?_)
      have n_a1_o_7 : a1 o 7 = h o 7 := (congrFun (af.1 o (by first | decide | (simp; done) | (simp; omega))) 7)
      rw [n_a1_o_7] at r7 ⊢
      refine pw_icmp_ge (t := 76) (pc := 10) dX1_leastFrom_10 (by decide) (by first | omega | (simp only [n_a1_o_7]; omega)) (by first | omega | (simp only [n_a1_o_7]; omega)) (fun c10 => ?_) (fun c10 => ?_)
      · exact pw_vret (pc := 76) dX1_leastFrom_76 (by
                  refine ⟨af, ?_⟩
                  rw [est_a (t := t) (by omega) (by omega) ht.2 hrow, show (lpn_ ro 256).length = k.toNat by omega]
                  exact aB)
      · refine pw_aload_n (z := 151) (pc := 13) dX1_leastFrom_13 rfl rfl ?_
        refine pw_iload_n (z := t) (pc := 14) dX1_leastFrom_14 rfl rfl ?_
        refine pw_iload_n (z := k) (pc := 15) dX1_leastFrom_15 rfl rfl ?_
        refine pw_callV (c := 1) (o := 151) (As := [ii_ t, ii_ k]) (rest := []) (pc := 16) dX1_leastFrom_16 (d_choose hC a1 o ho ro Ha P Ja Ga t (by first | omega | (simp only [n_a1_o_7]; omega)) k (by first | omega | (simp only [n_a1_o_7]; omega)) ca (fun r r0 r1 => by rw [ta r r0 r1]; have := hb r r0 r1; omega)) lX1_177 mX1_choose vX1_choose (hC 151 (by decide)) (show kd_ 151 = 11 by decide +kernel) rfl rfl rfl (by constructor <;> simp only [rm_] <;> omega) ⟨Nat.zero_le _, Nat.zero_le _⟩ (Nat.le_of_ble_eq_true rfl) (k_v (fun h16 q16 => ?_))
        obtain ⟨f16, r16, l16, t16⟩ := q16
        have F16 : wfr_ t a1 h16 := ⟨off_mo f16 (by decide), fun q _ => by rw [f16 151 (by decide)], l16, fun x x1 => by rw [r16]; exact if_neg (by omega)⟩
        have j16 := jon_mv ho (off_mo F16.1 (by decide)) (F16.2.1 0 (by decide)) ja
        have hl_h16 := j16.2.1.1
        have b16 : jls_ h16 ((List.range k.toNat).foldl (est_ ro P 2 12 (n + 1) (h 157) (fun r => h 156 (4 * t + r)) m t) B) := jls_mv (by rw [f16 151 (by decide)]) aB
        have HA16 := j16.1.1
        have tb16 : ∀ r, 0 ≤ r → r < ro 2 → -2000000 ≤ h16 156 (4 * t + 4 + r) ∧ h16 156 (4 * t + 4 + r) ≤ 2000000 := fun r r0 r1 => by rw [t16 r r0 r1, ta r r0 r1, ba]; have := gbb k r; have := hb r r0 r1; omega
        have es : (List.range (k + 1).toNat).foldl (est_ ro P 2 12 (n + 1) (h 157) (fun r => h 156 (4 * t + r)) m t) B = gtr_ ro P 2 12 (n + 1) (h16 157) (fun r => h16 156 (4 * (t + 1) + r)) (m + mov_ ro (bef_ (h 157) t) k) ((List.range k.toNat).foldl (est_ ro P 2 12 (n + 1) (h 157) (fun r => h 156 (4 * t + r)) m t) B) := est_t ak.1 rfl (by omega) (by omega) (h16 157) (fun r => h16 156 (4 * (t + 1) + r)) (fun j j0 j1 => by
            rw [r16]
            unfold ob_
            by_cases c : j = t
            · rw [if_pos c, if_pos c]
            · rw [if_neg c, if_neg c, af.2.2.2 j (by omega)]) (fun r r0 r1 => by
            show h16 156 (4 * (t + 1) + r) = h 156 (4 * t + r) + _
            rw [show 4 * (t + 1) + r = 4 * t + 4 + r by omega, t16 r r0 r1, ta r r0 r1, ba])
        refine pw_aload_n (z := 151) (pc := 19) dX1_leastFrom_19 rfl rfl ?_
        refine pw_iload_n (z := t) (pc := 20) dX1_leastFrom_20 rfl rfl ?_
        refine pw_iload_n (z := k) (pc := 21) dX1_leastFrom_21 rfl rfl ?_
        refine pw_callV (c := 1) (o := 151) (As := [ii_ t, ii_ k]) (rest := []) (pc := 22) dX1_leastFrom_22 (d_leastThat hC h16 o ho ro j16.1 P j16.2.1 j16.2.2.1 j16.2.2.2 t (by first | omega | (simp only [n_a1_o_7]; omega)) k (by first | omega | (simp only [n_a1_o_7]; omega)) tb16) lX1_196 mX1_leastThatCouldBe vX1_leastThatCouldBe (hC 151 (by decide)) (show kd_ 151 = 11 by decide +kernel) rfl rfl rfl (by constructor <;> simp only [rm_] <;> omega) ⟨Nat.zero_le _, Nat.zero_le _⟩ (Nat.le_of_ble_eq_true rfl) (k_i (fun z22 h22 y22 q22 => ?_))
        obtain ⟨rfl, w22⟩ := q22
        have lb := fun (c : Int) => leh_b (ro := ro) (P := P) (a := 4) (c := c) (by omega) (by omega) (ro 1 - 1 - t).toNat k (by omega)
        obtain ⟨c, hcc, ec⟩ := lmn_ex (f := fun r => h16 156 (4 * t + 4 + r) - leh_ ro P 4 r (ro 1 - 1 - t).toNat k) (ro 2).toNat (by omega) (fun r r0 r1 => by have := lb r; have := tb16 r r0 (by omega); show h16 156 (4 * t + 4 + r) - _ < _; omega)
        rw [← w22] at ec
        have zb : -2100000 ≤ z22 ∧ z22 ≤ 2100000 := by have := lb c; have := tb16 c hcc.1 (by omega); rw [ec]; show -2100000 ≤ h16 156 (4 * t + 4 + c) - _ ∧ h16 156 (4 * t + 4 + c) - _ ≤ 2100000; omega
        have jb := jls_bet (v := z22) (m := m + mov_ ro (bef_ (h 157) t) k) (by omega) b16
        refine pw_istore_n (lv1 := [some (rr_ G 151), some (ii_ t), some (ii_ k), some (ii_ z22)]) (pc := 25) dX1_leastFrom_25 rfl (by decide) rfl rfl ?_
        refine pw_iload_n (z := z22) (pc := 26) dX1_leastFrom_26 rfl rfl ?_
        refine pw_aload_n (z := 151) (pc := 27) dX1_leastFrom_27 rfl rfl ?_
        refine pw_gI (x := 16) (pc := 28) dX1_leastFrom_28 fX1_57 (hC 151 (by decide)) (show kd_ 151 = 11 by decide +kernel) rfl rfl (fun r28 => ?_)
        have n_h16_151_16 : h16 151 16 = a1 151 16 := (congrFun (f16 151 (by first | decide | (simp; done) | (simp; omega))) 16)
        rw [n_h16_151_16] at r28 ⊢
        refine pw_icmp_le (t := 57) (pc := 31) dX1_leastFrom_31 (by decide) (by first | omega | (simp only [n_a1_o_7, n_h16_151_16]; omega)) (by first | omega | (simp only [n_a1_o_7, n_h16_151_16]; omega)) (fun c31 => ?_) (fun c31 => ?_)
        · refine pw_iload_n (z := z22) (pc := 57) dX1_leastFrom_57 rfl rfl ?_
          refine pw_aload_n (z := 151) (pc := 58) dX1_leastFrom_58 rfl rfl ?_
          refine pw_gI (x := 16) (pc := 59) dX1_leastFrom_59 fX1_57 (hC 151 (by decide)) (show kd_ 151 = 11 by decide +kernel) rfl rfl (fun r59 => ?_)
          rw [n_h16_151_16] at r59 ⊢
          refine pw_icmp_le (t := 70) (pc := 62) dX1_leastFrom_62 (by decide) (by first | omega | (simp only [n_a1_o_7, n_h16_151_16]; omega)) (by first | omega | (simp only [n_a1_o_7, n_h16_151_16]; omega)) (fun c62 => ?_) (fun c62 => ?_)
          · have fN := wfr_tr af F16
            have aN : jls_ h16 ((List.range (k + 1).toNat).foldl (est_ ro P 2 12 (n + 1) (h 157) (fun r => h 156 (4 * t + r)) m t) B) := by
              rw [es]
              have nb := gtr_nb2 (ro := ro) (P := P) (mm := 12) (D := z22) (by omega) (n + 1) (h16 157) (fun r => h16 156 (4 * (t + 1) + r)) (m + mov_ ro (bef_ (h 157) t) k) ((List.range k.toNat).foldl (est_ ro P 2 12 (n + 1) (h 157) (fun r => h 156 (4 * t + r)) m t) B) (by omega) (fun j j0 j1 => by
                rw [r16]
                unfold ob_
                by_cases c : j = t
                · rw [if_pos c]; omega
                · rw [if_neg c]; exact (ca j j0 (by omega)).1) (fun u => by have := jb.mpr u; omega) ⟨c, by omega, by
                  have e1 : h16 157 (ro 1 - 1 - ((n + 1 : Nat) : Int)) = k := by rw [r16]; exact if_pos (by omega)
                  rw [e1]
                  show h16 156 (4 * (t + 1) + c) - _ ≤ z22
                  rw [show 4 * (t + 1) + c = 4 * t + 4 + c by omega, ec, show (ro 1 - 1 - t).toNat = n + 1 by omega]
                  exact Int.le_refl _⟩
              rw [nb]
              exact b16
            refine pw_iinc (z := k) (lv1 := [some (rr_ G 151), some (ii_ t), some (ii_ (k + 1)), some (ii_ z22)]) (pc := 70) dX1_leastFrom_70 rfl (by decide) rfl rfl ?_
            refine pw_goto (t := 2) (pc := 73) dX1_leastFrom_73 (by decide) ?_
            refine pw_less (lv1 := [some (rr_ G 151), some (ii_ t), some (ii_ (k + 1)), none]) rfl (by intro i v; (match i with | 0 => simp | 1 => simp | 2 => simp | 3 => simp | n + 4 => simp)) ?_
            exact ih2 _ _ (by omega) (fN) (aN) (by omega)
          · exfalso; omega
        · refine pw_iload_n (z := t) (pc := 34) dX1_leastFrom_34 rfl rfl ?_
          refine pw_iconst (pc := 35) dX1_leastFrom_35 ?_
          refine pw_iadd (pc := 36) dX1_leastFrom_36 ?_
          refine pw_aload_n (z := 151) (pc := 37) dX1_leastFrom_37 rfl rfl ?_
          have n_h16_151_0 : h16 151 0 = a1 151 0 := (congrFun (f16 151 (by first | decide | (simp; done) | (simp; omega))) 0)
          refine pw_gD (x := 0) (r := o) (pc := 38) dX1_leastFrom_38 fX1_39 (hC 151 (by decide)) (show kd_ 151 = 11 by decide +kernel) rfl rfl (n_h16_151_0.trans hl_a1) ?_
          refine pw_gI (x := 1) (pc := 41) dX1_leastFrom_41 fX1_78 (hC _ (by omega)) (kd6_0 ho) rfl rfl (fun r41 => ?_)
          have n_h16_o_1 : h16 o 1 = h o 1 := ((show h16 o 1 = a1 o 1 from (congrFun (f16 o (by first | decide | (simp; done) | (simp; omega))) 1)).trans (show a1 o 1 = h o 1 from (congrFun (af.1 o (by first | decide | (simp; done) | (simp; omega))) 1)))
          rw [n_h16_o_1] at r41 ⊢
          refine pw_icmp_ge (t := 57) (pc := 44) dX1_leastFrom_44 (by decide) (by first | omega | (simp only [n_a1_o_7, n_h16_151_0, n_h16_151_16, n_h16_o_1]; omega)) (by first | omega | (simp only [n_a1_o_7, n_h16_151_0, n_h16_151_16, n_h16_o_1]; omega)) (fun c44 => ?_) (fun c44 => ?_)
          · refine pw_iload_n (z := z22) (pc := 57) dX1_leastFrom_57 rfl rfl ?_
            refine pw_aload_n (z := 151) (pc := 58) dX1_leastFrom_58 rfl rfl ?_
            refine pw_gI (x := 16) (pc := 59) dX1_leastFrom_59 fX1_57 (hC 151 (by decide)) (show kd_ 151 = 11 by decide +kernel) rfl rfl (fun r59 => ?_)
            rw [n_h16_151_16] at r59 ⊢
            refine pw_icmp_le (t := 70) (pc := 62) dX1_leastFrom_62 (by decide) (by first | omega | (simp only [n_a1_o_7, n_h16_151_0, n_h16_151_16, n_h16_o_1]; omega)) (by first | omega | (simp only [n_a1_o_7, n_h16_151_0, n_h16_151_16, n_h16_o_1]; omega)) (fun c62 => ?_) (fun c62 => ?_)
            · have fN := wfr_tr af F16
              have aN : jls_ h16 ((List.range (k + 1).toNat).foldl (est_ ro P 2 12 (n + 1) (h 157) (fun r => h 156 (4 * t + r)) m t) B) := by
                rw [es]
                have nb := gtr_nb2 (ro := ro) (P := P) (mm := 12) (D := z22) (by omega) (n + 1) (h16 157) (fun r => h16 156 (4 * (t + 1) + r)) (m + mov_ ro (bef_ (h 157) t) k) ((List.range k.toNat).foldl (est_ ro P 2 12 (n + 1) (h 157) (fun r => h 156 (4 * t + r)) m t) B) (by omega) (fun j j0 j1 => by
                  rw [r16]
                  unfold ob_
                  by_cases c : j = t
                  · rw [if_pos c]; omega
                  · rw [if_neg c]; exact (ca j j0 (by omega)).1) (fun u => by have := jb.mpr u; omega) ⟨c, by omega, by
                    have e1 : h16 157 (ro 1 - 1 - ((n + 1 : Nat) : Int)) = k := by rw [r16]; exact if_pos (by omega)
                    rw [e1]
                    show h16 156 (4 * (t + 1) + c) - _ ≤ z22
                    rw [show 4 * (t + 1) + c = 4 * t + 4 + c by omega, ec, show (ro 1 - 1 - t).toNat = n + 1 by omega]
                    exact Int.le_refl _⟩
                rw [nb]
                exact b16
              refine pw_iinc (z := k) (lv1 := [some (rr_ G 151), some (ii_ t), some (ii_ (k + 1)), some (ii_ z22)]) (pc := 70) dX1_leastFrom_70 rfl (by decide) rfl rfl ?_
              refine pw_goto (t := 2) (pc := 73) dX1_leastFrom_73 (by decide) ?_
              refine pw_less (lv1 := [some (rr_ G 151), some (ii_ t), some (ii_ (k + 1)), none]) rfl (by intro i v; (match i with | 0 => simp | 1 => simp | 2 => simp | 3 => simp | n + 4 => simp)) ?_
              exact ih2 _ _ (by omega) (fN) (aN) (by omega)
            · exfalso; omega
          · have pre : wpr_ ro P o n (t + 1) (m + mov_ ro (bef_ (h 157) t) k) ((List.range k.toNat).foldl (est_ ro P 2 12 (n + 1) (h 157) (fun r => h 156 (4 * t + r)) m t) B) h16 := by
              refine ⟨j16, hR, by omega, by omega, fun j j0 j1 => ?_, fun r r0 r1 => ?_, b16⟩
              · rw [r16]
                unfold ob_
                by_cases c : j = t
                · rw [if_pos c]; omega
                · rw [if_neg c]; exact ca j j0 (by omega)
              · rw [show 4 * (t + 1) + r = 4 * t + 4 + r by omega, t16 r r0 r1, ta r r0 r1, ba]
                have := gbb k r
                have := hb r r0 r1
                omega
            refine pw_aload_n (z := 151) (pc := 47) dX1_leastFrom_47 rfl rfl ?_
            refine pw_iload_n (z := t) (pc := 48) dX1_leastFrom_48 rfl rfl ?_
            refine pw_iconst (pc := 49) dX1_leastFrom_49 ?_
            refine pw_iadd (pc := 50) dX1_leastFrom_50 ?_
            refine pw_callV (c := 1) (o := 151) (As := [ii_ (t + 1)]) (rest := []) (pc := 51) dX1_leastFrom_51 (IH h16 (t + 1) (m + mov_ ro (bef_ (h 157) t) k) ((List.range k.toNat).foldl (est_ ro P 2 12 (n + 1) (h 157) (fun r => h 156 (4 * t + r)) m t) B) pre) lX1_85 mX1_leastFrom vX1_leastFrom (hC 151 (by decide)) (show kd_ 151 = 11 by decide +kernel) rfl rfl rfl ⟨by show 3 + n + 1 ≤ 3 + (n + 1); omega, by show 19 + 4 + 60 * (3 + n) ≤ 60 * (3 + (n + 1)); omega⟩ ⟨Nat.zero_le _, Nat.zero_le _⟩ (Nat.le_of_ble_eq_true rfl) (k_v (fun h51 q51 => ?_))
            obtain ⟨f51, b51⟩ := q51
            rw [← es] at b51
            have aN := b51
            have fN := wfr_tr af (wfr_up F16 f51)
            refine pw_goto (t := 70) (pc := 54) dX1_leastFrom_54 (by decide) ?_
            
            refine pw_iinc (z := k) (lv1 := [some (rr_ G 151), some (ii_ t), some (ii_ (k + 1)), some (ii_ z22)]) (pc := 70) dX1_leastFrom_70 rfl (by decide) rfl rfl ?_
            refine pw_goto (t := 2) (pc := 73) dX1_leastFrom_73 (by decide) ?_
            refine pw_less (lv1 := [some (rr_ G 151), some (ii_ t), some (ii_ (k + 1)), none]) rfl (by intro i v; (match i with | 0 => simp | 1 => simp | 2 => simp | 3 => simp | n + 4 => simp)) ?_
            exact ih2 _ _ (by omega) (fN) (aN) (by omega)
  exact L2 _ _ _ (by omega) (⟨off_rf, fun _ _ => rfl, fun _ _ => rfl, fun _ _ => rfl⟩) (hB) (Int.self_le_toNat _)

theorem d_least {G : GT_} (hC : okC_ G) {o : Nat} (ho : is6_ o) (ro : Int → Int) (P : List (Int × Int)) : ∀ n : Nat, wpc_ G ro P o n
  | 0 => fun h t m B hp => d_least0 hC h o ho ro P t m B hp
  | n + 1 => fun h t m B hp => d_leastS hC h o ho ro P n (d_least hC ho ro P n) t m B hp

