/-! ===== a road begins ===== -/
def BRD_ (ro : Int → Int) (o t : Nat) (h h' : PH_) : Prop := off_ [o, o + 14, 149, 151, 42, 43, 44, 45, 46, 50, 57, 64, 71, t, 0] h h' ∧ (∀ k, k ≠ 7 → h' o k = h o k) ∧ CPL_ ro h' o ∧ (h' 151 0 = (o : Int) ∧ h' 151 1 = 0 ∧ h' 151 11 = 0 ∧ h' 151 13 = 0 ∧ h' 151 16 = -2147483648) ∧ (h' 42 3 = 0 ∧ h' 42 5 = 0 ∧ h' 43 3 = 0) ∧ (∀ r, 0 ≤ r → r < 4 → h' 44 r = -1 ∧ h' 45 r = -1 ∧ h' 46 r = h (o + 5) r) ∧ (∀ m : Nat, m < 4 → h' (50 + 7 * m) 4 = 0 ∧ ∀ k, k ≠ 4 → h' (50 + 7 * m) k = h (50 + 7 * m) k) ∧ h' t 2 = 0 ∧ h' 0 9 = 0 ∧ ∀ k, k ≠ 9 → h' 0 k = h 0 k

theorem CZ_cg {Z : ZT_} {h h' : PH_} {o a : Nat} (ho : is6_ o) (H : CZ_ Z h o a) (e : ∀ i, 4 ≤ i → h' i = h i) : CZ_ Z h' o a := by
  obtain ⟨z1, z2, z3, z4, z5, z6, z7, z8⟩ := H
  refine ⟨CRD_cg z1 (fun k _ => congrFun (e o (by omega)) k) (e _ (by omega)) (e _ (by omega)) (e _ (by omega)) (e _ (by omega)) (e _ (by omega)) (e _ (by omega)), by rw [e o (by omega)]; exact z2, ?_, by rw [e _ (by omega)]; exact z4, CWQ_mv z5 (e _ (by omega)) (e _ (by omega)) (e _ (by omega)) (by rw [e _ (by omega)]), by rw [e _ (by omega)]; exact z6, by rw [e _ (by omega)]; exact z7, z8⟩
  unfold CAV_ at *
  rw [e (o + 7) (by omega), e (o + 6) (by omega)]; exact z3

set_option maxHeartbeats 4000000 in
set_option maxRecDepth 100000 in
theorem d_beginRoad {G : GT_} (hC : okC_ G) (h : PH_) (o : Nat) (ho : is6_ o) (hL : h 0 2 = (o : Int)) (ro : Int → Int) (H : CRD_ ro h o) (t : Nat) (ho_t : is10_ t) (hT : h 0 4 = (t : Int)) (hA : AR_ h) : PC G yX11_beginRoad cX11_beginRoad 2 none 6 [rr_ G 0] h (qv_ (fun h' => BRD_ ro o t h h')) := by
  have hL_h := hL
  have HB := H.2.1
  have HA := H.1
  have hT_h := hT
  refine PC.of (lv := [some (rr_ G 0), none]) (by decide +kernel) (Nat.le_of_ble_eq_true rfl) rfl rfl ?_
  refine pw_aload_n (z := 0) (pc := 0) dX11_beginRoad_0 rfl rfl ?_
  refine pw_gD (x := 2) (r := o) (pc := 1) dX11_beginRoad_1 fX11_28 (hC 0 (by decide)) (show kd_ 0 = 21 by decide +kernel) rfl rfl hL_h ?_
  refine pw_aload_n (z := 0) (pc := 4) dX11_beginRoad_4 rfl rfl ?_
  refine pw_getR (r := 149) (pc := 5) dX11_beginRoad_5 fX11_74 (hC 0 (by decide)) (show kd_ 0 = 21 by decide +kernel) rfl (by decide +kernel) ?_
  refine pw_callV (c := 6) (o := o) (As := [rr_ G 149]) (rest := []) (pc := 8) dX11_beginRoad_8 (d_listPlans hC h o ho ro H 149 (by decide +kernel) (by decide +kernel) (by decide)) lX11_354 mX6_listPlans vX6_listPlans (hC _ (by omega)) (kd6_0 ho) rfl rfl rfl (by decide) ⟨Nat.zero_le _, Nat.zero_le _⟩ (Nat.le_of_ble_eq_true rfl) (k_v (fun h8 q8 => ?_))
  obtain ⟨f8, k8, p8⟩ := q8
  refine pw_aload_n (z := 0) (pc := 11) dX11_beginRoad_11 rfl rfl ?_
  refine pw_getR (r := 151) (pc := 12) dX11_beginRoad_12 fX11_83 (hC 0 (by decide)) (show kd_ 0 = 21 by decide +kernel) rfl (by decide +kernel) ?_
  refine pw_aload_n (z := 0) (pc := 15) dX11_beginRoad_15 rfl rfl ?_
  have n_h8_0_2 : h8 0 2 = h 0 2 := (congrFun (f8 0 (by first | decide | (simp; done) | (simp; omega))) 2)
  refine pw_gD (x := 2) (r := o) (pc := 16) dX11_beginRoad_16 fX11_28 (hC 0 (by decide)) (show kd_ 0 = 21 by decide +kernel) rfl rfl (n_h8_0_2.trans hL_h) ?_
  refine pw_callV (c := 1) (o := 151) (As := [rr_ G o]) (rest := []) (pc := 19) dX11_beginRoad_19 (d_jbegin hC h8 o ho) lX11_358 mX1_begin vX1_begin (hC 151 (by decide)) (show kd_ 151 = 11 by decide +kernel) rfl rfl rfl (by decide) ⟨Nat.zero_le _, Nat.zero_le _⟩ (Nat.le_of_ble_eq_true rfl) (k_v (fun h19 q19 => ?_))
  obtain ⟨f19, j19⟩ := q19
  refine pw_aload_n (z := 0) (pc := 22) dX11_beginRoad_22 rfl rfl ?_
  refine pw_getR (r := 42) (pc := 23) dX11_beginRoad_23 fX11_48 (hC 0 (by decide)) (show kd_ 0 = 21 by decide +kernel) rfl (by decide +kernel) ?_
  refine pw_aload_n (z := 0) (pc := 26) dX11_beginRoad_26 rfl rfl ?_
  have n_h19_0_2 : h19 0 2 = h 0 2 := ((show h19 0 2 = h8 0 2 from (congrFun (f19 0 (by first | decide | (simp; done) | (simp; omega))) 2)).trans (show h8 0 2 = h 0 2 from (congrFun (f8 0 (by first | decide | (simp; done) | (simp; omega))) 2)))
  refine pw_gD (x := 2) (r := o) (pc := 27) dX11_beginRoad_27 fX11_28 (hC 0 (by decide)) (show kd_ 0 = 21 by decide +kernel) rfl rfl (n_h19_0_2.trans hL_h) ?_
  refine pw_callV (c := 3) (o := 42) (As := [rr_ G o]) (rest := []) (pc := 30) dX11_beginRoad_30 (d_mbegin hC h19 42 is3_now.1 is3_now.2.1 o ho) lX11_361 mX3_begin vX3_begin (hC 42 (by decide)) (show kd_ 42 = 13 by decide +kernel) rfl rfl rfl (by decide) ⟨Nat.zero_le _, Nat.zero_le _⟩ (Nat.le_of_ble_eq_true rfl) (k_v (fun h30 q30 => ?_))
  obtain ⟨f30, a30, b30, c30, d30, r30⟩ := q30
  refine pw_iconst (pc := 33) dX11_beginRoad_33 ?_
  refine pw_istore_n (lv1 := [some (rr_ G 0), some (ii_ 0)]) (pc := 34) dX11_beginRoad_34 rfl (by decide) rfl rfl ?_
  have L35 : ∀ (nn : Nat) (i : Int) (hq : PH_), (0 ≤ i ∧ i ≤ 4) → (off_ [50, 57, 64, 71] h30 hq) → (∀ m : Nat, (m : Int) < i → m < 4 → hq (50 + 7 * m) 4 = 0) → (∀ m : Nat, m < 4 → ∀ k, k ≠ 4 → hq (50 + 7 * m) k = h (50 + 7 * m) k) → ((4 - i + 1 : Int) ≤ nn) → PW G RX11 cX11_beginRoad 2 none (rm_ 6) 0 0 (zm_ G (qv_ (fun h' => BRD_ ro o t h h'))) 35 [some (rr_ G 0), some (ii_ i)] [] hq := by
    intro nn
    induction nn with
    | zero => intro i hq ai aF aM aK ams; exfalso; omega
    | succ nn ih35 =>
      intro i hq ai aF aM aK ams
      refine pw_iload_n (z := i) (pc := 35) dX11_beginRoad_35 rfl rfl ?_
      refine pw_iconst (pc := 36) dX11_beginRoad_36 ?_
      refine pw_icmp_ge (t := 56) (pc := 37) dX11_beginRoad_37 (by decide) (by first | omega | (simp only [n_h19_0_2, n_h8_0_2]; omega)) (by first | omega | (simp only [n_h19_0_2, n_h8_0_2]; omega)) (fun c37 => ?_) (fun c37 => ?_)
      · refine pw_aload_n (z := 0) (pc := 56) dX11_beginRoad_56 rfl rfl ?_
        have n_hq_0_4 : hq 0 4 = h 0 4 := ((((show hq 0 4 = h30 0 4 from (congrFun (aF 0 (by first | decide | (simp; done) | (simp; omega))) 4)).trans (show h30 0 4 = h19 0 4 from (congrFun (f30 0 (by first | decide | (simp; done) | (simp; omega))) 4))).trans (show h19 0 4 = h8 0 4 from (congrFun (f19 0 (by first | decide | (simp; done) | (simp; omega))) 4))).trans (show h8 0 4 = h 0 4 from (congrFun (f8 0 (by first | decide | (simp; done) | (simp; omega))) 4)))
        refine pw_gD (x := 4) (r := t) (pc := 57) dX11_beginRoad_57 fX11_38 (hC 0 (by decide)) (show kd_ 0 = 21 by decide +kernel) rfl rfl (n_hq_0_4.trans hT_h) ?_
        refine pw_iconst (pc := 60) dX11_beginRoad_60 ?_
        refine pw_pI (x := 2) (pc := 61) dX11_beginRoad_61 fX11_345 (hC _ (by omega)) (kd10_0 ho_t) rfl rfl (by first | omega | (simp only [n_h19_0_2, n_h8_0_2, n_hq_0_4]; omega)) ?_
        obtain ⟨g61, e61⟩ : ∃ x, x = up_ hq t 2 0 := ⟨_, rfl⟩
        refine pw_heq e61 ?_
        refine pw_aload_n (z := 0) (pc := 64) dX11_beginRoad_64 rfl rfl ?_
        refine pw_iconst (pc := 65) dX11_beginRoad_65 ?_
        refine pw_pI (x := 9) (pc := 66) dX11_beginRoad_66 fX11_224 (hC 0 (by decide)) (show kd_ 0 = 21 by decide +kernel) rfl rfl (by first | omega | (simp only [n_h19_0_2, n_h8_0_2, n_hq_0_4]; omega)) ?_
        obtain ⟨g66, e66⟩ : ∃ x, x = up_ g61 0 9 0 := ⟨_, rfl⟩
        refine pw_heq e66 ?_
        exact pw_vret (pc := 69) dX11_beginRoad_69 (by
                  have u : ∀ i, i ≠ 0 → i ≠ t → g66 i = hq i := fun i i0 it => by rw [e66, up_off i0, e61, up_off it]
                  have v : ∀ i, i ≠ 50 → i ≠ 57 → i ≠ 64 → i ≠ 71 → hq i = h30 i := fun i x1 x2 x3 x4 => aF i (by simp; exact ⟨x1, x2, x3, x4⟩)
                  have w : ∀ i, i ≠ 42 → i ≠ 43 → i ≠ 44 → i ≠ 45 → i ≠ 46 → h30 i = h19 i := fun i x1 x2 x3 x4 x5 => f30 i (by simp; exact ⟨x1, x2, x3, x4, x5⟩)
                  have O : g66 o = h8 o := by rw [u o (by omega) (by omega), v o (by omega) (by omega) (by omega) (by omega), w o (by omega) (by omega) (by omega) (by omega) (by omega), f19 o (by simp; omega)]
                  have O14 : g66 (o + 14) = h8 (o + 14) := by rw [u _ (by omega) (by omega), v _ (by omega) (by omega) (by omega) (by omega), w _ (by omega) (by omega) (by omega) (by omega) (by omega), f19 _ (by simp; omega)]
                  have J : g66 151 = h19 151 := by rw [u _ (by omega) (by omega), v _ (by omega) (by omega) (by omega) (by omega), w _ (by omega) (by omega) (by omega) (by omega) (by omega)]
                  have M : ∀ i, 42 ≤ i → i ≤ 46 → g66 i = h30 i := fun i x1 x2 => by rw [u _ (by omega) (by omega), v _ (by omega) (by omega) (by omega) (by omega)]
                  refine ⟨?_, fun k k7 => by rw [O]; exact k8 k k7, CPL_cg p8 O O14, by rw [J]; exact j19, ⟨by rw [M 42 (by omega) (by omega)]; exact a30, by rw [M 42 (by omega) (by omega)]; exact b30, by rw [M 43 (by omega) (by omega)]; exact d30⟩, fun r r0 r1 => ?_, fun m m4 => ⟨by rw [u _ (by omega) (by omega)]; exact aM m (by omega) m4, fun k k4 => by rw [u _ (by omega) (by omega)]; exact aK m m4 k k4⟩, by rw [e66, up_off (by omega), e61, up_same], by rw [e66, up_same], fun k k9 => ?_⟩
                  · rw [e66, e61]
                    exact off_up (off_up (off_tr (off_tr (off_tr (off_mo f8 (by simp)) (off_mo f19 (by simp))) (off_mo f30 (by simp))) (off_mo aF (by simp))) (by simp)) (by simp)
                  · rw [M 44 (by omega) (by omega), M 45 (by omega) (by omega), M 46 (by omega) (by omega)]
                    have x := r30 r r0 r1
                    rw [f19 (o + 5) (by simp; omega), f8 (o + 5) (by simp; omega)] at x
                    exact x
                  · rw [e66, up_at, if_neg k9, e61, up_off (by omega), v 0 (by omega) (by omega) (by omega) (by omega), w 0 (by omega) (by omega) (by omega) (by omega) (by omega), f19 0 (by simp), f8 0 (by simp; omega)])
      · obtain ⟨mn, hmn⟩ : ∃ mn : Nat, i = (mn : Int) ∧ mn < 4 := ⟨i.toNat, by omega, by omega⟩
        obtain ⟨q, hq0⟩ : ∃ q : Nat, q = 50 + 7 * mn := ⟨_, rfl⟩
        have ho_q : is3_ q := by rw [hq0]; exact (is3_all mn hmn.2).1
        have hqr : hq 49 i = (q : Int) := by rw [aF 49 (by simp), f30 49 (by simp), f19 49 (by simp), f8 49 (by simp; omega), hq0, hmn.1]; exact hA.1 mn hmn.2
        have qb : 50 ≤ q ∧ q ≤ 71 := by omega
        have qm : q = 50 ∨ q = 57 ∨ q = 64 ∨ q = 71 := by omega
        refine pw_aload_n (z := 0) (pc := 40) dX11_beginRoad_40 rfl rfl ?_
        refine pw_getR (r := 49) (pc := 41) dX11_beginRoad_41 fX11_52 (hC 0 (by decide)) (show kd_ 0 = 21 by decide +kernel) rfl (by decide +kernel) ?_
        refine pw_iload_n (z := i) (pc := 44) dX11_beginRoad_44 rfl rfl ?_
        refine pw_aald (r := q) (pc := 45) dX11_beginRoad_45 (hC 49 (by decide)) (show kd_ 49 = 4 by decide +kernel) (by decide) 4 (by decide +kernel) (by first | omega | (simp only [n_h19_0_2, n_h8_0_2]; omega)) (by first | omega | (simp only [n_h19_0_2, n_h8_0_2]; omega)) (by first | omega | (simp only [n_h19_0_2, n_h8_0_2]; omega)) hqr ?_
        refine pw_iconst (pc := 46) dX11_beginRoad_46 ?_
        refine pw_pZ (x := 4) (pc := 47) dX11_beginRoad_47 fX11_339 (hC _ (by omega)) (kd3_0 ho_q) rfl rfl (by first | omega | (simp only [n_h19_0_2, n_h8_0_2]; omega)) ?_
        obtain ⟨g47, e47⟩ : ∃ x, x = up_ hq q 4 0 := ⟨_, rfl⟩
        refine pw_heq e47 ?_
        have M47 : ∀ m : Nat, (m : Int) < i + 1 → m < 4 → g47 (50 + 7 * m) 4 = 0 := fun m m0 m4 => by
          rw [e47]
          by_cases c : 50 + 7 * m = q
          · rw [c, up_same]
          · rw [up_off c]; exact aM m (by omega) m4
        have K47 : ∀ m : Nat, m < 4 → ∀ k, k ≠ 4 → g47 (50 + 7 * m) k = h (50 + 7 * m) k := fun m m4 k k4 => by
          rw [e47, up_ap, if_neg (fun u => k4 u.2)]; exact aK m m4 k k4
        have F47 : off_ [50, 57, 64, 71] h30 g47 := by rw [e47]; exact off_up aF (by rcases qm with u | u | u | u <;> simp [u])
        refine pw_iinc (z := i) (lv1 := [some (rr_ G 0), some (ii_ (i + 1))]) (pc := 50) dX11_beginRoad_50 rfl (by decide) rfl rfl ?_
        refine pw_goto (t := 35) (pc := 53) dX11_beginRoad_53 (by decide) ?_
        exact ih35 _ _ (by omega) (F47) (M47) (K47) (by omega)
  exact L35 _ _ _ (by omega) (off_rf) (fun m m0 m4 => absurd m0 (by omega)) (fun m m4 k k4 => by rw [f30 _ (by simp; omega), f19 _ (by simp; omega), f8 _ (by simp; omega)]) (Int.self_le_toNat _)

set_option maxHeartbeats 4000000 in
set_option maxRecDepth 100000 in
theorem d_road {G : GT_} (hC : okC_ G) (h : PH_) (o : Nat) (ho : is6_ o) (hL : h 0 2 = (o : Int)) (o2 : Nat) (ho_o2 : is6_ o2) (hL2 : h 0 3 = (o2 : Int)) (t : Nat) (ho_t : is10_ t) (hT : h 0 4 = (t : Int)) (hA : AR_ h) (tp : Int → Int) (n : Int) (H : CTP_ tp n h) : PC G yX11_road cX11_road 3 (some .int) 46 [rr_ G 0] h (qi_ (fun z h' => (rod_ (tk_ tp n) = .error z ∧ 0 < z ∧ off_ (RLD_ o2) h h' ∧ h' 1 2 = 0) ∨ (∃ Z a h1, rod_ (tk_ tp n) = .ok Z ∧ z = 0 ∧ off_ (RLD_ o2 ++ [0]) h h1 ∧ h1 1 2 = 0 ∧ CZ_ Z h1 o2 a ∧ a ≤ 1000 ∧ h1 0 2 = (o2 : Int) ∧ h1 0 3 = (o : Int) ∧ (∀ k, k ≠ 2 → k ≠ 3 → h1 0 k = h 0 k) ∧ BRD_ Z.1 o2 t h1 h'))) := by
  have hL_h := hL
  have hL2_h := hL2
  have hT_h := hT
  refine PC.of (lv := [some (rr_ G 0), none, none]) (by decide +kernel) (Nat.le_of_ble_eq_true rfl) rfl rfl ?_
  refine pw_aload_n (z := 0) (pc := 0) dX11_road_0 rfl rfl ?_
  refine pw_getR (r := 3) (pc := 1) dX11_road_1 fX11_21 (hC 0 (by decide)) (show kd_ 0 = 21 by decide +kernel) rfl (by decide +kernel) ?_
  refine pw_aload_n (z := 0) (pc := 4) dX11_road_4 rfl rfl ?_
  refine pw_gD (x := 3) (r := o2) (pc := 5) dX11_road_5 fX11_32 (hC 0 (by decide)) (show kd_ 0 = 21 by decide +kernel) rfl rfl hL2_h ?_
  refine pw_callV (c := 5) (o := 3) (As := [rr_ G o2]) (rest := []) (pc := 8) dX11_road_8 (d_readRoad hC h o2 ho_o2 tp n H) lX11_122 mX5_readRoad vX5_readRoad (hC 3 (by decide)) (show kd_ 3 = 15 by decide +kernel) rfl rfl rfl (by decide) ⟨Nat.zero_le _, Nat.zero_le _⟩ (Nat.le_of_ble_eq_true rfl) (k_i (fun z8 h8 y8 q8 => ?_))
  have f8 : off_ [1, 3, o2, o2 + 1, o2 + 2, o2 + 3, o2 + 4, o2 + 5, o2 + 6, o2 + 7, o2 + 8, o2 + 9, o2 + 12, o2 + 13, o2 + 15] h h8 := q8.1
  refine pw_istore_n (lv1 := [some (rr_ G 0), some (ii_ z8), none]) (pc := 11) dX11_road_11 rfl (by decide) rfl rfl ?_
  refine pw_iload_n (z := z8) (pc := 12) dX11_road_12 rfl rfl ?_
  refine pw_if_ne (t := 38) (pc := 13) dX11_road_13 (by decide) (by first | omega) (fun c13 => ?_) (fun c13 => ?_)
  · refine pw_iload_n (z := z8) (pc := 38) dX11_road_38 rfl rfl ?_
    exact pw_iret (pc := 39) dX11_road_39 (by first | omega) (by rcases q8.2.2 with ⟨Z, a, x1, x2, x3, x4⟩ | x; exfalso; omega; exact Or.inl ⟨x.1, x.2, q8.1, q8.2.1⟩)
  · obtain ⟨Z, a, x1, x3, x4⟩ : ∃ Z a, rod_ (tk_ tp n) = .ok Z ∧ CZ_ Z h8 o2 a ∧ a ≤ 1000 := by
      rcases q8.2.2 with ⟨Z, a, x1, x2, x3, x4⟩ | x
      · exact ⟨Z, a, x1, x3, x4⟩
      · exfalso; omega
    refine pw_aload_n (z := 0) (pc := 16) dX11_road_16 rfl rfl ?_
    have n_h8_0_2 : h8 0 2 = h 0 2 := (congrFun (f8 0 (by first | decide | (simp; done) | (simp; omega))) 2)
    refine pw_gD (x := 2) (r := o) (pc := 17) dX11_road_17 fX11_28 (hC 0 (by decide)) (show kd_ 0 = 21 by decide +kernel) rfl rfl (n_h8_0_2.trans hL_h) ?_
    refine pw_astore_n (lv1 := [some (rr_ G 0), some (ii_ z8), some (rr_ G o)]) (pc := 20) dX11_road_20 rfl (by decide) rfl rfl ?_
    refine pw_aload_n (z := 0) (pc := 21) dX11_road_21 rfl rfl ?_
    refine pw_aload_n (z := 0) (pc := 22) dX11_road_22 rfl rfl ?_
    have n_h8_0_3 : h8 0 3 = h 0 3 := (congrFun (f8 0 (by first | decide | (simp; done) | (simp; omega))) 3)
    refine pw_gD (x := 3) (r := o2) (pc := 23) dX11_road_23 fX11_32 (hC 0 (by decide)) (show kd_ 0 = 21 by decide +kernel) rfl rfl (n_h8_0_3.trans hL2_h) ?_
    refine pw_pD (x := 2) (nm := "MiddleSeat$Road") (pc := 26) dX11_road_26 fX11_28 (hC 0 (by decide)) (show kd_ 0 = 21 by decide +kernel) rfl rfl (by decide +kernel) (by first | omega | (simp only [n_h8_0_2, n_h8_0_3]; omega)) ?_
    obtain ⟨g26, e26⟩ : ∃ x, x = up_ h8 0 2 ((o2 : Nat) : Int) := ⟨_, rfl⟩
    refine pw_heq e26 ?_
    refine pw_aload_n (z := 0) (pc := 29) dX11_road_29 rfl rfl ?_
    refine pw_aload_n (z := o) (pc := 30) dX11_road_30 rfl rfl ?_
    refine pw_pD (x := 3) (nm := "MiddleSeat$Road") (pc := 31) dX11_road_31 fX11_32 (hC 0 (by decide)) (show kd_ 0 = 21 by decide +kernel) rfl rfl (by decide +kernel) (by first | omega | (simp only [n_h8_0_2, n_h8_0_3]; omega)) ?_
    obtain ⟨g31, e31⟩ : ∃ x, x = up_ g26 0 3 ((o : Nat) : Int) := ⟨_, rfl⟩
    refine pw_heq e31 ?_
    have L31 : g31 0 2 = (o2 : Int) := by rw [e31, up_at, if_neg (by decide), e26, up_same]
    have K31 : ∀ k, k ≠ 2 → k ≠ 3 → g31 0 k = h 0 k := fun k k2 k3 => by rw [e31, up_at, if_neg k3, e26, up_at, if_neg k2, f8 0 (by simp; omega)]
    have U31 : ∀ i, i ≠ 0 → g31 i = h8 i := fun i hi => by rw [e31, up_off hi, e26, up_off hi]
    have Z31 : CZ_ Z g31 o2 a := CZ_cg ho_o2 x3 (fun i i0 => U31 i (by omega))
    have A31 : AR_ g31 := ⟨fun k hk => by rw [U31 49 (by decide), f8 49 (by simp; omega)]; exact hA.1 k hk, fun k hk => by rw [U31 78 (by decide), f8 78 (by simp; omega)]; exact hA.2 k hk⟩
    refine pw_aload_n (z := 0) (pc := 34) dX11_road_34 rfl rfl ?_
    refine pw_callV (c := 11) (o := 0) (As := []) (rest := []) (pc := 35) dX11_road_35 (d_beginRoad hC g31 o2 ho_o2 L31 Z.1 Z31.1 t ho_t (by rw [K31 4 (by decide) (by decide)]; exact hT) A31) lX11_111 mX11_beginRoad vX11_beginRoad (hC 0 (by decide)) (show kd_ 0 = 21 by decide +kernel) rfl rfl rfl (by decide) ⟨Nat.zero_le _, Nat.zero_le _⟩ (Nat.le_of_ble_eq_true rfl) (k_v (fun h35 q35 => ?_))
    refine pw_iload_n (z := z8) (pc := 38) dX11_road_38 rfl rfl ?_
    exact pw_iret (pc := 39) dX11_road_39 (by first | omega | (simp only [n_h8_0_2, n_h8_0_3]; omega)) (Or.inr ⟨Z, a, g31, x1, by omega, off_tr (off_mo f8 (by simp [RLD_])) (by rw [e31, e26]; exact off_up (off_up off_rf (by simp)) (by simp)), by rw [U31 1 (by decide)]; exact q8.2.1, Z31, x4, L31, by rw [e31, up_same], K31, q35⟩)

set_option maxHeartbeats 4000000 in
set_option maxRecDepth 100000 in
theorem d_journey {G : GT_} (hC : okC_ G) (h : PH_) (o : Nat) (ho : is6_ o) (hL : h 0 2 = (o : Int)) (t : Nat) (ho_t : is10_ t) (hT : h 0 4 = (t : Int)) (t2 : Nat) (ho_t2 : is10_ t2) (hT2 : h 0 5 = (t2 : Int)) (tp : Int → Int) (n : Int) (H : CTP_ tp n h) (Z : ZT_) (NM : CNM_ Z.2.1 (h (o + 2)) (Z.1 2) (Z.1 3)) (RR : h o 2 = Z.1 2 ∧ 0 ≤ Z.1 2 ∧ Z.1 2 ≤ 4) (hS : h o 0 = Z.1 0 ∧ 2 ≤ Z.1 0 ∧ Z.1 0 ≤ 4) : PC G yX11_journey cX11_journey 3 (some .int) 10 [rr_ G 0] h (qi_ (fun z h' => h' 1 2 = 0 ∧ ((jou_ (tk_ tp n) Z.2.1 (Z.1 0) = .error z ∧ 0 < z ∧ off_ (JFR_ t2) h h') ∨ (∃ L, jou_ (tk_ tp n) Z.2.1 (Z.1 0) = .ok L ∧ z = 0 ∧ off_ (0 :: JFR_ t2) h h' ∧ h' 0 4 = (t2 : Int) ∧ h' 0 5 = (t : Int) ∧ (∀ k, k ≠ 4 → k ≠ 5 → h' 0 k = h 0 k) ∧ h' t2 2 = (L.length : Int) ∧ L.length ≤ 20 ∧ jlc_ h' t2 L)))) := by
  have hL_h := hL
  have hT2_h := hT2
  have hT_h := hT
  have n0 : ¬ 0 = t2 := by omega
  have n1 : t2 ≠ 0 := by omega
  refine PC.of (lv := [some (rr_ G 0), none, none]) (by decide +kernel) (Nat.le_of_ble_eq_true rfl) rfl rfl ?_
  refine pw_aload_n (z := 0) (pc := 0) dX11_journey_0 rfl rfl ?_
  refine pw_getR (r := 3) (pc := 1) dX11_journey_1 fX11_21 (hC 0 (by decide)) (show kd_ 0 = 21 by decide +kernel) rfl (by decide +kernel) ?_
  refine pw_aload_n (z := 0) (pc := 4) dX11_journey_4 rfl rfl ?_
  refine pw_gD (x := 2) (r := o) (pc := 5) dX11_journey_5 fX11_28 (hC 0 (by decide)) (show kd_ 0 = 21 by decide +kernel) rfl rfl hL_h ?_
  refine pw_aload_n (z := 0) (pc := 8) dX11_journey_8 rfl rfl ?_
  refine pw_gD (x := 5) (r := t2) (pc := 9) dX11_journey_9 fX11_42 (hC 0 (by decide)) (show kd_ 0 = 21 by decide +kernel) rfl rfl hT2_h ?_
  refine pw_callV (c := 5) (o := 3) (As := [rr_ G o, rr_ G t2]) (rest := []) (pc := 12) dX11_journey_12 (d_readJourney hC h o ho tp n H t2 ho_t2 Z NM RR hS) lX11_126 mX5_readJourney vX5_readJourney (hC 3 (by decide)) (show kd_ 3 = 15 by decide +kernel) rfl rfl rfl (by decide) ⟨Nat.zero_le _, Nat.zero_le _⟩ (Nat.le_of_ble_eq_true rfl) (k_i (fun z12 h12 y12 q12 => ?_))
  have f12 : off_ [1, 3, t2, t2 + 1, t2 + 2] h h12 := q12.1
  refine pw_istore_n (lv1 := [some (rr_ G 0), some (ii_ z12), none]) (pc := 15) dX11_journey_15 rfl (by decide) rfl rfl ?_
  refine pw_iload_n (z := z12) (pc := 16) dX11_journey_16 rfl rfl ?_
  refine pw_if_ne (t := 38) (pc := 17) dX11_journey_17 (by decide) (by first | omega) (fun c17 => ?_) (fun c17 => ?_)
  · refine pw_iload_n (z := z12) (pc := 38) dX11_journey_38 rfl rfl ?_
    exact pw_iret (pc := 39) dX11_journey_39 (by first | omega) (by refine ⟨q12.2.1, ?_⟩; rcases q12.2.2 with ⟨L, x1, x2, x3⟩ | x; exfalso; omega; exact Or.inl ⟨x.1, x.2, q12.1⟩)
  · refine pw_aload_n (z := 0) (pc := 20) dX11_journey_20 rfl rfl ?_
    have n_h12_0_4 : h12 0 4 = h 0 4 := (congrFun (f12 0 (by first | decide | (simp; done) | (simp; omega))) 4)
    refine pw_gD (x := 4) (r := t) (pc := 21) dX11_journey_21 fX11_38 (hC 0 (by decide)) (show kd_ 0 = 21 by decide +kernel) rfl rfl (n_h12_0_4.trans hT_h) ?_
    refine pw_astore_n (lv1 := [some (rr_ G 0), some (ii_ z12), some (rr_ G t)]) (pc := 24) dX11_journey_24 rfl (by decide) rfl rfl ?_
    refine pw_aload_n (z := 0) (pc := 25) dX11_journey_25 rfl rfl ?_
    refine pw_aload_n (z := 0) (pc := 26) dX11_journey_26 rfl rfl ?_
    have n_h12_0_5 : h12 0 5 = h 0 5 := (congrFun (f12 0 (by first | decide | (simp; done) | (simp; omega))) 5)
    refine pw_gD (x := 5) (r := t2) (pc := 27) dX11_journey_27 fX11_42 (hC 0 (by decide)) (show kd_ 0 = 21 by decide +kernel) rfl rfl (n_h12_0_5.trans hT2_h) ?_
    refine pw_pD (x := 4) (nm := "MiddleSeat$Told") (pc := 30) dX11_journey_30 fX11_38 (hC 0 (by decide)) (show kd_ 0 = 21 by decide +kernel) rfl rfl (by decide +kernel) (by first | omega | (simp only [n_h12_0_4, n_h12_0_5]; omega)) ?_
    obtain ⟨g30, e30⟩ : ∃ x, x = up_ h12 0 4 ((t2 : Nat) : Int) := ⟨_, rfl⟩
    refine pw_heq e30 ?_
    refine pw_aload_n (z := 0) (pc := 33) dX11_journey_33 rfl rfl ?_
    refine pw_aload_n (z := t) (pc := 34) dX11_journey_34 rfl rfl ?_
    refine pw_pD (x := 5) (nm := "MiddleSeat$Told") (pc := 35) dX11_journey_35 fX11_42 (hC 0 (by decide)) (show kd_ 0 = 21 by decide +kernel) rfl rfl (by decide +kernel) (by first | omega | (simp only [n_h12_0_4, n_h12_0_5]; omega)) ?_
    obtain ⟨g35, e35⟩ : ∃ x, x = up_ g30 0 5 ((t : Nat) : Int) := ⟨_, rfl⟩
    refine pw_heq e35 ?_
    refine pw_iload_n (z := z12) (pc := 38) dX11_journey_38 rfl rfl ?_
    exact pw_iret (pc := 39) dX11_journey_39 (by first | omega | (simp only [n_h12_0_4, n_h12_0_5]; omega)) (by
              rcases q12.2.2 with ⟨L, x1, x2, x3, x4, x5⟩ | x
              · have u : ∀ i, i ≠ 0 → g35 i = h12 i := fun i hi => by rw [e35, up_off hi, e30, up_off hi]
                exact ⟨by rw [u 1 (by decide)]; exact q12.2.1, Or.inr ⟨L, x1, x2, off_tr (off_mo f12 (by simp [JFR_])) (by rw [e35, e30]; exact off_up (off_up off_rf (by simp)) (by simp)), by rw [e35, up_at, if_neg (by decide), e30, up_same], by rw [e35, up_same], fun k k4 k5 => by rw [e35, up_at, if_neg k5, e30, up_at, if_neg k4, f12 0 (by simp; exact n0)], by rw [u t2 n1]; exact x3, x4, jlc_cg x5 (u _ (by simp)) (u _ (by simp))⟩⟩
              · exfalso; omega)

set_option maxHeartbeats 4000000 in
set_option maxRecDepth 100000 in
theorem d_shares {G : GT_} (hC : okC_ G) (h : PH_) (o : Nat) (ho : is6_ o) (hL : h 0 2 = (o : Int)) (tp : Int → Int) (n : Int) (H : CTP_ tp n h) (S R : Int) (hS : h o 0 = S ∧ 2 ≤ S ∧ S ≤ 4) (hR : h o 2 = R ∧ 0 ≤ R ∧ R ≤ 4) (hb : smb_ h) : PC G yX11_shares cX11_shares 2 (some .int) 10 [rr_ G 0] h (qi_ (fun z h' => h' 1 2 = 0 ∧ smb_ h' ∧ ((shr_ (tk_ tp n) S R = .error z ∧ 0 < z ∧ off_ [1, 3, 150] h h') ∨ (∃ f, shr_ (tk_ tp n) S R = .ok f ∧ z = 0 ∧ off_ [1, 3, 150, 47, 42] h h' ∧ h' 42 3 = 1 ∧ (∀ k, k ≠ 3 → h' 42 k = h 42 k) ∧ shA_ (h' 47) f S R 0 ∧ ∀ k, 0 ≤ k → k < 16 → 0 ≤ h' 47 k ∧ h' 47 k ≤ 99)))) := by
  have hL_h := hL
  refine PC.of (lv := [some (rr_ G 0), none]) (by decide +kernel) (Nat.le_of_ble_eq_true rfl) rfl rfl ?_
  refine pw_aload_n (z := 0) (pc := 0) dX11_shares_0 rfl rfl ?_
  refine pw_getR (r := 3) (pc := 1) dX11_shares_1 fX11_21 (hC 0 (by decide)) (show kd_ 0 = 21 by decide +kernel) rfl (by decide +kernel) ?_
  refine pw_aload_n (z := 0) (pc := 4) dX11_shares_4 rfl rfl ?_
  refine pw_gD (x := 2) (r := o) (pc := 5) dX11_shares_5 fX11_28 (hC 0 (by decide)) (show kd_ 0 = 21 by decide +kernel) rfl rfl hL_h ?_
  refine pw_aload_n (z := 0) (pc := 8) dX11_shares_8 rfl rfl ?_
  refine pw_getR (r := 150) (pc := 9) dX11_shares_9 fX11_77 (hC 0 (by decide)) (show kd_ 0 = 21 by decide +kernel) rfl (by decide +kernel) ?_
  refine pw_callV (c := 5) (o := 3) (As := [rr_ G o, rr_ G 150]) (rest := []) (pc := 12) dX11_shares_12 (d_readShares hC h o ho tp n H S R hS hR hb) lX11_130 mX5_readShares vX5_readShares (hC 3 (by decide)) (show kd_ 3 = 15 by decide +kernel) rfl rfl rfl (by decide) ⟨Nat.zero_le _, Nat.zero_le _⟩ (Nat.le_of_ble_eq_true rfl) (k_i (fun z12 h12 y12 q12 => ?_))
  have f12 : off_ [1, 3, 150] h h12 := q12.1
  refine pw_istore_n (lv1 := [some (rr_ G 0), some (ii_ z12)]) (pc := 15) dX11_shares_15 rfl (by decide) rfl rfl ?_
  refine pw_iload_n (z := z12) (pc := 16) dX11_shares_16 rfl rfl ?_
  refine pw_if_ne (t := 49) (pc := 17) dX11_shares_17 (by decide) (by first | omega) (fun c17 => ?_) (fun c17 => ?_)
  · refine pw_iload_n (z := z12) (pc := 49) dX11_shares_49 rfl rfl ?_
    exact pw_iret (pc := 50) dX11_shares_50 (by first | omega) (by refine ⟨q12.2.1, q12.2.2.1, ?_⟩; rcases q12.2.2.2 with ⟨f, x1, x2, x3⟩ | x; exfalso; omega; exact Or.inl ⟨x.1, x.2, q12.1⟩)
  · refine pw_aload_n (z := 0) (pc := 20) dX11_shares_20 rfl rfl ?_
    refine pw_getR (r := 150) (pc := 21) dX11_shares_21 fX11_77 (hC 0 (by decide)) (show kd_ 0 = 21 by decide +kernel) rfl (by decide +kernel) ?_
    refine pw_iconst (pc := 24) dX11_shares_24 ?_
    refine pw_aload_n (z := 0) (pc := 25) dX11_shares_25 rfl rfl ?_
    refine pw_getR (r := 42) (pc := 26) dX11_shares_26 fX11_48 (hC 0 (by decide)) (show kd_ 0 = 21 by decide +kernel) rfl (by decide +kernel) ?_
    refine pw_getR (r := 47) (pc := 29) dX11_shares_29 fX11_134 (hC 42 (by decide)) (show kd_ 42 = 13 by decide +kernel) rfl (by decide +kernel) ?_
    refine pw_iconst (pc := 32) dX11_shares_32 ?_
    refine pw_aload_n (z := 0) (pc := 33) dX11_shares_33 rfl rfl ?_
    refine pw_getR (r := 150) (pc := 34) dX11_shares_34 fX11_77 (hC 0 (by decide)) (show kd_ 0 = 21 by decide +kernel) rfl (by decide +kernel) ?_
    refine pw_alen (pc := 37) dX11_shares_37 (hC 150 (by decide)) _ (show kd_ 150 = 0 by decide +kernel) (by decide) 16 (by decide +kernel) ?_
    refine pw_copy (n0 := 16) (n1 := 16) (pc := 38) dX11_shares_38 lX11_137 (hC 150 (by decide)) (hC 47 (by decide)) (show kd_ 150 = 0 by decide +kernel) (show kd_ 47 = 0 by decide +kernel) (by decide +kernel) (by decide +kernel) (by first | omega) (by first | omega) (by first | omega) (by decide) (by decide) (Nat.le_of_ble_eq_true rfl) ?_
    obtain ⟨g38, e38⟩ : ∃ x, x = sc_ h12 47 (fun x => if 0 ≤ x ∧ x < 0 + 16 then h12 150 (x - 0 + 0) else h12 47 x) := ⟨_, rfl⟩
    refine pw_heq e38 ?_
    have f38 : off_ [47] h12 g38 := fun j hj => by rw [e38]; exact sc_off (by simpa using hj)
    refine pw_aload_n (z := 0) (pc := 41) dX11_shares_41 rfl rfl ?_
    refine pw_getR (r := 42) (pc := 42) dX11_shares_42 fX11_48 (hC 0 (by decide)) (show kd_ 0 = 21 by decide +kernel) rfl (by decide +kernel) ?_
    refine pw_iconst (pc := 45) dX11_shares_45 ?_
    refine pw_pZ (x := 3) (pc := 46) dX11_shares_46 fX11_143 (hC 42 (by decide)) (show kd_ 42 = 13 by decide +kernel) rfl rfl (by first | omega) ?_
    obtain ⟨g46, e46⟩ : ∃ x, x = up_ g38 42 3 1 := ⟨_, rfl⟩
    refine pw_heq e46 ?_
    refine pw_iload_n (z := z12) (pc := 49) dX11_shares_49 rfl rfl ?_
    exact pw_iret (pc := 50) dX11_shares_50 (by first | omega) (by
              rcases q12.2.2.2 with ⟨f, x1, x2, x3⟩ | x
              · have u : ∀ i, i ≠ 42 → i ≠ 47 → g46 i = h12 i := fun i h42 h47 => by rw [e46, up_off h42, e38, sc_off h47]
                have w : ∀ k, 0 ≤ k → k < 16 → g46 47 k = h12 150 k := fun k k0 k1 => by rw [e46, up_off (by decide), e38, sc_at]; show (if 0 ≤ k ∧ k < 0 + 16 then h12 150 (k - 0 + 0) else h12 47 k) = _; rw [if_pos (by omega)]; congr 1; omega
                refine ⟨by rw [u 1 (by decide) (by decide)]; exact q12.2.1, fun k k0 k1 => by rw [u 150 (by decide) (by decide)]; exact q12.2.2.1 k k0 k1, Or.inr ⟨f, x1, x2, off_tr (off_mo f12 (by simp)) (by rw [e46, e38]; exact off_up (fun i hi => sc_off (fun e => hi (by simp [e]))) (by simp)), by rw [e46, up_same], fun k k3 => by rw [e46, up_at, if_neg k3, e38, sc_off (by decide), f12 42 (by simp)], fun i j i0 j0 j1 hij => ?_, fun k k0 k1 => by rw [w k k0 k1]; exact q12.2.2.1 k k0 k1⟩⟩
                rw [w _ (by omega) (by omega)]
                exact x3 i j i0 j0 j1 hij
              · exfalso; omega)

