theorem rsm_t {lf : Int → Int} {k e : Int} (h : 0 ≤ e) : rsm_ lf k (e + 1).toNat = rsm_ lf k e.toNat + lf (4 * k + e) := by rw [tn_s h]; show rsm_ lf k e.toNat + lf (4 * k + (e.toNat : Int)) = _; rw [tn_c h]
theorem csm_t {lf : Int → Int} {k e : Int} (h : 0 ≤ e) : csm_ lf k (e + 1).toNat = csm_ lf k e.toNat + lf (4 * e + k) := by rw [tn_s h]; show csm_ lf k e.toNat + lf (4 * (e.toNat : Int) + k) = _; rw [tn_c h]
theorem rsm_r {lf : Int → Int} {k : Int} (hk : 0 ≤ k ∧ k < 4) (hb : ∀ x, 0 ≤ x → x < 16 → 0 ≤ lf x ∧ lf x ≤ 99) : ∀ n : Nat, n ≤ 4 → 0 ≤ rsm_ lf k n ∧ rsm_ lf k n ≤ 99 * n
  | 0, _ => by unfold rsm_; omega
  | n + 1, h => by have := rsm_r hk hb n (by omega); have := hb (4 * k + n) (by omega) (by omega); unfold rsm_; omega
theorem csm_r {lf : Int → Int} {k : Int} (hk : 0 ≤ k ∧ k < 4) (hb : ∀ x, 0 ≤ x → x < 16 → 0 ≤ lf x ∧ lf x ≤ 99) : ∀ n : Nat, n ≤ 4 → 0 ≤ csm_ lf k n ∧ csm_ lf k n ≤ 99 * n
  | 0, _ => by unfold csm_; omega
  | n + 1, h => by have := csm_r hk hb n (by omega); have := hb (4 * n + k) (by omega) (by omega); unfold csm_; omega

set_option maxHeartbeats 4000000 in
set_option maxRecDepth 100000 in
theorem d_leastLeft {G : GT_} (hC : okC_ G) (h : PH_) (R : Int) (hR : 1 ≤ R ∧ R ≤ 4) (hs : ∀ r, 0 ≤ r → r < R → 0 ≤ h 163 r ∧ h 163 r ≤ 3) (hb : ∀ x, 0 ≤ x → x < 16 → 0 ≤ h 162 x ∧ h 162 x ≤ 99) : PC G yX4_leastLeft cX4_leastLeft 4 (some .int) 2 [rr_ G 161, ii_ R] h (qi_ (fun z h' => h = h' ∧ z = lst_ (h 162) (h 163) R.toNat ∧ 0 ≤ z ∧ z ≤ 99)) := by
  refine PC.of (lv := [some (rr_ G 161), some (ii_ R), none, none]) (by decide +kernel) (Nat.le_of_ble_eq_true rfl) rfl rfl ?_
  refine pw_ldc (z := 2147483647) (pc := 0) dX4_leastLeft_0 kX4_62 rfl ?_
  refine pw_istore_n (lv1 := [some (rr_ G 161), some (ii_ R), some (ii_ 2147483647), none]) (pc := 2) dX4_leastLeft_2 rfl (by decide) rfl rfl ?_
  refine pw_iconst (pc := 3) dX4_leastLeft_3 ?_
  refine pw_istore_n (lv1 := [some (rr_ G 161), some (ii_ R), some (ii_ 2147483647), some (ii_ 0)]) (pc := 4) dX4_leastLeft_4 rfl (by decide) rfl rfl ?_
  have L5 : ∀ (nn : Nat) (v : Int) (r : Int), (0 ≤ r ∧ r ≤ R) → ((r = 0 ∧ v = 2147483647) ∨ (1 ≤ r ∧ v = lst_ (h 162) (h 163) r.toNat ∧ 0 ≤ v ∧ v ≤ 99)) → ((R - r + 1 : Int) ≤ nn) → PW G RX4 cX4_leastLeft 4 (some .int) (rm_ 2) 0 0 (zm_ G (qi_ (fun z h' => h = h' ∧ z = lst_ (h 162) (h 163) R.toNat ∧ 0 ≤ z ∧ z ≤ 99))) 5 [some (rr_ G 161), some (ii_ R), some (ii_ v), some (ii_ r)] [] h := by
    intro nn
    induction nn with
    | zero => intro v r ak av ams; exfalso; omega
    | succ nn ih5 =>
      intro v r ak av ams
      refine pw_iload_n (z := r) (pc := 5) dX4_leastLeft_5 rfl rfl ?_
      refine pw_iload_n (z := R) (pc := 6) dX4_leastLeft_6 rfl rfl ?_
      refine pw_icmp_ge (t := 36) (pc := 7) dX4_leastLeft_7 (by decide) (by first | omega) (by first | omega) (fun c7 => ?_) (fun c7 => ?_)
      · refine pw_iload_n (z := v) (pc := 36) dX4_leastLeft_36 rfl rfl ?_
        exact pw_iret (pc := 37) dX4_leastLeft_37 (by first | omega) (⟨rfl, by
              rcases av with q | q
              · omega
              · rw [← show r = R by omega]; exact q.2⟩)
      · have hsr := hs r (by omega) (by omega)
        have hbr := hb (r * 4 + h 163 r) (by omega) (by omega)
        have ls := lst_s (lf := h 162) (si := h 163) (r := r) (by omega)
        rw [show 4 * r + h 163 r = r * 4 + h 163 r by omega] at ls
        refine pw_iload_n (z := v) (pc := 10) dX4_leastLeft_10 rfl rfl ?_
        refine pw_aload_n (z := 161) (pc := 11) dX4_leastLeft_11 rfl rfl ?_
        refine pw_getR (r := 162) (pc := 12) dX4_leastLeft_12 fX4_9 (hC 161 (by decide)) (show kd_ 161 = 14 by decide +kernel) rfl (by decide +kernel) ?_
        refine pw_iload_n (z := r) (pc := 15) dX4_leastLeft_15 rfl rfl ?_
        refine pw_iconst (pc := 16) dX4_leastLeft_16 ?_
        refine pw_imul (pc := 17) dX4_leastLeft_17 ?_
        refine pw_aload_n (z := 161) (pc := 18) dX4_leastLeft_18 rfl rfl ?_
        refine pw_getR (r := 163) (pc := 19) dX4_leastLeft_19 fX4_15 (hC 161 (by decide)) (show kd_ 161 = 14 by decide +kernel) rfl (by decide +kernel) ?_
        refine pw_iload_n (z := r) (pc := 22) dX4_leastLeft_22 rfl rfl ?_
        refine pw_iald (pc := 23) dX4_leastLeft_23 (hC 163 (by decide)) (show kd_ 163 = 0 by decide +kernel) 4 (by decide +kernel) (by first | omega) (by first | omega) (by first | omega) (fun r23 => ?_)
        refine pw_iadd (pc := 24) dX4_leastLeft_24 ?_
        refine pw_iald (pc := 25) dX4_leastLeft_25 (hC 162 (by decide)) (show kd_ 162 = 0 by decide +kernel) 16 (by decide +kernel) (by first | omega) (by first | omega) (by first | omega) (fun r25 => ?_)
        refine pw_mmin (pc := 26) dX4_leastLeft_26 lX4_63 (by first | omega) (by first | omega) (by decide) ⟨Nat.zero_le _, Nat.zero_le _⟩ (Nat.le_of_ble_eq_true rfl) (fun z26 r26 w26 => ?_)
        refine pw_istore_n (lv1 := [some (rr_ G 161), some (ii_ R), some (ii_ z26), some (ii_ r)]) (pc := 29) dX4_leastLeft_29 rfl (by decide) rfl rfl ?_
        refine pw_iinc (z := r) (lv1 := [some (rr_ G 161), some (ii_ R), some (ii_ z26), some (ii_ (r + 1))]) (pc := 30) dX4_leastLeft_30 rfl (by decide) rfl rfl ?_
        refine pw_goto (t := 5) (pc := 33) dX4_leastLeft_33 (by decide) ?_
        exact ih5 _ _ (by omega) (by
                refine Or.inr ⟨by omega, ?_, by omega, by omega⟩
                rw [ls]
                rcases av with q | q
                · rw [q.1, show lst_ (h 162) (h 163) (0 : Int).toNat = 1000000000 from rfl]; rw [q.1] at hbr w26; rw [if_pos (by omega)]; omega
                · rw [← q.2.1]; split <;> omega) (by omega)
  exact L5 _ _ _ (by omega) (Or.inl ⟨rfl, rfl⟩) (Int.self_le_toNat _)

set_option maxHeartbeats 4000000 in
set_option maxRecDepth 100000 in
theorem d_addsUp {G : GT_} (hC : okC_ G) (h : PH_) (o : Nat) (ho : is6_ o) (ro : Int → Int) (H : CRD_ ro h o) (a : Nat) (k_a : kd_ a = 0) (l_a : ln_ a = 16) (ha : 36 ≤ a ∧ a < 173) (hb : ∀ x, 0 ≤ x → x < 16 → 0 ≤ h a x ∧ h a x ≤ 99) (d : Int) (hd : ir_ d) : PC G yX4_addsUp cX4_addsUp 7 (some .boolean) 1 [rr_ G o, rr_ G a, ii_ d] h (qi_ (fun z h' => h = h' ∧ (z = 1 ∧ adl_ (h a) (ro 0) d ∨ z = 0 ∧ ¬ adl_ (h a) (ro 0) d))) := by
  have HB := H.2.1
  have HA := H.1
  refine PC.of (lv := [some (rr_ G o), some (rr_ G a), some (ii_ d), none, none, none, none]) (by decide +kernel) (Nat.le_of_ble_eq_true rfl) rfl rfl ?_
  refine pw_iconst (pc := 0) dX4_addsUp_0 ?_
  refine pw_istore_n (lv1 := [some (rr_ G o), some (rr_ G a), some (ii_ d), some (ii_ 0), none, none, none]) (pc := 1) dX4_addsUp_1 rfl (by decide) rfl rfl ?_
  have L2 : ∀ (nn : Nat) (k : Int), (0 ≤ k ∧ k ≤ ro 0) → (∀ e, 0 ≤ e → e < k → rsm_ (h a) e (ro 0).toNat = d ∧ csm_ (h a) e (ro 0).toNat = d) → ((ro 0 - k + 1 : Int) ≤ nn) → PW G RX4 cX4_addsUp 7 (some .boolean) (rm_ 1) 0 0 (zm_ G (qi_ (fun z h' => h = h' ∧ (z = 1 ∧ adl_ (h a) (ro 0) d ∨ z = 0 ∧ ¬ adl_ (h a) (ro 0) d)))) 2 [some (rr_ G o), some (rr_ G a), some (ii_ d), some (ii_ k), none, none, none] [] h := by
    intro nn
    induction nn with
    | zero => intro k ak ai ams; exfalso; omega
    | succ nn ih2 =>
      intro k ak ai ams
      refine pw_iload_n (z := k) (pc := 2) dX4_addsUp_2 rfl rfl ?_
      refine pw_aload_n (z := o) (pc := 3) dX4_addsUp_3 rfl rfl ?_
      refine pw_gI (x := 0) (pc := 4) dX4_addsUp_4 fX4_30 (hC _ (by omega)) (kd6_0 ho) rfl rfl (fun r4 => ?_)
      refine pw_icmp_ge (t := 80) (pc := 7) dX4_addsUp_7 (by decide) (by first | omega) (by first | omega) (fun c7 => ?_) (fun c7 => ?_)
      · refine pw_iconst (pc := 80) dX4_addsUp_80 ?_
        exact pw_zret (pc := 81) dX4_addsUp_81 (by first | omega) (⟨rfl, Or.inl ⟨rfl, fun e u1 u2 => ai e u1 (by omega)⟩⟩)
      · refine pw_iconst (pc := 10) dX4_addsUp_10 ?_
        refine pw_istore (lv1 := [some (rr_ G o), some (rr_ G a), some (ii_ d), some (ii_ k), some (ii_ 0), none, none]) (pc := 11) dX4_addsUp_11 (by decide) rfl rfl ?_
        refine pw_iconst (pc := 13) dX4_addsUp_13 ?_
        refine pw_istore (lv1 := [some (rr_ G o), some (rr_ G a), some (ii_ d), some (ii_ k), some (ii_ 0), some (ii_ 0), none]) (pc := 14) dX4_addsUp_14 (by decide) rfl rfl ?_
        refine pw_iconst (pc := 16) dX4_addsUp_16 ?_
        refine pw_istore (lv1 := [some (rr_ G o), some (rr_ G a), some (ii_ d), some (ii_ k), some (ii_ 0), some (ii_ 0), some (ii_ 0)]) (pc := 17) dX4_addsUp_17 (by decide) rfl rfl ?_
        have L19 : ∀ (nn : Nat) (x : Int) (y : Int) (j : Int), (0 ≤ j ∧ j ≤ ro 0) → (x = rsm_ (h a) k j.toNat) → (y = csm_ (h a) k j.toNat) → ((ro 0 - j + 1 : Int) ≤ nn) → PW G RX4 cX4_addsUp 7 (some .boolean) (rm_ 1) 0 0 (zm_ G (qi_ (fun z h' => h = h' ∧ (z = 1 ∧ adl_ (h a) (ro 0) d ∨ z = 0 ∧ ¬ adl_ (h a) (ro 0) d)))) 19 [some (rr_ G o), some (rr_ G a), some (ii_ d), some (ii_ k), some (ii_ x), some (ii_ y), some (ii_ j)] [] h := by
          intro nn
          induction nn with
          | zero => intro x y j bk bx bz ams; exfalso; omega
          | succ nn ih19 =>
            intro x y j bk bx bz ams
            have rb := rsm_r (lf := h a) (k := k) (by omega) hb j.toNat (by omega)
            have cb := csm_r (lf := h a) (k := k) (by omega) hb j.toNat (by omega)
            refine pw_iload (z := j) (pc := 19) dX4_addsUp_19 rfl ?_
            refine pw_aload_n (z := o) (pc := 21) dX4_addsUp_21 rfl rfl ?_
            refine pw_gI (x := 0) (pc := 22) dX4_addsUp_22 fX4_30 (hC _ (by omega)) (kd6_0 ho) rfl rfl (fun r22 => ?_)
            refine pw_icmp_ge (t := 60) (pc := 25) dX4_addsUp_25 (by decide) (by first | omega) (by first | omega) (fun c25 => ?_) (fun c25 => ?_)
            · refine pw_iload (z := x) (pc := 60) dX4_addsUp_60 rfl ?_
              refine pw_iload_n (z := d) (pc := 62) dX4_addsUp_62 rfl rfl ?_
              refine pw_icmp_ne (t := 72) (pc := 63) dX4_addsUp_63 (by decide) (by first | omega) (by first | omega) (fun c63 => ?_) (fun c63 => ?_)
              · refine pw_iconst (pc := 72) dX4_addsUp_72 ?_
                exact pw_zret (pc := 73) dX4_addsUp_73 (by first | omega) (⟨rfl, Or.inr ⟨rfl, fun u => by have q := u k (by omega) (by omega); rw [show ro 0 = j by omega] at q; omega⟩⟩)
              · refine pw_iload (z := y) (pc := 66) dX4_addsUp_66 rfl ?_
                refine pw_iload_n (z := d) (pc := 68) dX4_addsUp_68 rfl rfl ?_
                refine pw_icmp_eq (t := 74) (pc := 69) dX4_addsUp_69 (by decide) (by first | omega) (by first | omega) (fun c69 => ?_) (fun c69 => ?_)
                · refine pw_iinc (z := k) (lv1 := [some (rr_ G o), some (rr_ G a), some (ii_ d), some (ii_ (k + 1)), some (ii_ x), some (ii_ y), some (ii_ j)]) (pc := 74) dX4_addsUp_74 rfl (by decide) rfl rfl ?_
                  refine pw_goto (t := 2) (pc := 77) dX4_addsUp_77 (by decide) ?_
                  refine pw_less (lv1 := [some (rr_ G o), some (rr_ G a), some (ii_ d), some (ii_ (k + 1)), none, none, none]) rfl (by intro i v; (match i with | 0 => simp | 1 => simp | 2 => simp | 3 => simp | 4 => simp | 5 => simp | 6 => simp | n + 7 => simp)) ?_
                  exact ih2 _ (by omega) (fun e u1 u2 => by by_cases c : e = k; (rw [c, show ro 0 = j by omega]; omega); exact ai e u1 (by omega)) (by omega)
                · refine pw_iconst (pc := 72) dX4_addsUp_72 ?_
                  exact pw_zret (pc := 73) dX4_addsUp_73 (by first | omega) (⟨rfl, Or.inr ⟨rfl, fun u => by have q := u k (by omega) (by omega); rw [show ro 0 = j by omega] at q; omega⟩⟩)
            · have b1 := hb (k * 4 + j) (by omega) (by omega)
              have b2 := hb (j * 4 + k) (by omega) (by omega)
              have r1 := rsm_t (lf := h a) (k := k) (e := j) (by omega)
              have r2 := csm_t (lf := h a) (k := k) (e := j) (by omega)
              rw [show 4 * k + j = k * 4 + j by omega] at r1
              rw [show 4 * j + k = j * 4 + k by omega] at r2
              refine pw_iload (z := x) (pc := 28) dX4_addsUp_28 rfl ?_
              refine pw_aload_n (z := a) (pc := 30) dX4_addsUp_30 rfl rfl ?_
              refine pw_iload_n (z := k) (pc := 31) dX4_addsUp_31 rfl rfl ?_
              refine pw_iconst (pc := 32) dX4_addsUp_32 ?_
              refine pw_imul (pc := 33) dX4_addsUp_33 ?_
              refine pw_iload (z := j) (pc := 34) dX4_addsUp_34 rfl ?_
              refine pw_iadd (pc := 36) dX4_addsUp_36 ?_
              refine pw_iald (pc := 37) dX4_addsUp_37 (hC _ (by omega)) k_a 16 l_a (by first | omega) (by first | omega) (by first | omega) (fun r37 => ?_)
              refine pw_iadd (pc := 38) dX4_addsUp_38 ?_
              refine pw_istore (lv1 := [some (rr_ G o), some (rr_ G a), some (ii_ d), some (ii_ k), some (ii_ (x + (h a ((k * 4) + j)))), some (ii_ y), some (ii_ j)]) (pc := 39) dX4_addsUp_39 (by decide) rfl rfl ?_
              refine pw_iload (z := y) (pc := 41) dX4_addsUp_41 rfl ?_
              refine pw_aload_n (z := a) (pc := 43) dX4_addsUp_43 rfl rfl ?_
              refine pw_iload (z := j) (pc := 44) dX4_addsUp_44 rfl ?_
              refine pw_iconst (pc := 46) dX4_addsUp_46 ?_
              refine pw_imul (pc := 47) dX4_addsUp_47 ?_
              refine pw_iload_n (z := k) (pc := 48) dX4_addsUp_48 rfl rfl ?_
              refine pw_iadd (pc := 49) dX4_addsUp_49 ?_
              refine pw_iald (pc := 50) dX4_addsUp_50 (hC _ (by omega)) k_a 16 l_a (by first | omega) (by first | omega) (by first | omega) (fun r50 => ?_)
              refine pw_iadd (pc := 51) dX4_addsUp_51 ?_
              refine pw_istore (lv1 := [some (rr_ G o), some (rr_ G a), some (ii_ d), some (ii_ k), some (ii_ (x + (h a ((k * 4) + j)))), some (ii_ (y + (h a ((j * 4) + k)))), some (ii_ j)]) (pc := 52) dX4_addsUp_52 (by decide) rfl rfl ?_
              refine pw_iinc (z := j) (lv1 := [some (rr_ G o), some (rr_ G a), some (ii_ d), some (ii_ k), some (ii_ (x + (h a ((k * 4) + j)))), some (ii_ (y + (h a ((j * 4) + k)))), some (ii_ (j + 1))]) (pc := 54) dX4_addsUp_54 rfl (by decide) rfl rfl ?_
              refine pw_goto (t := 19) (pc := 57) dX4_addsUp_57 (by decide) ?_
              exact ih19 _ _ _ (by omega) (by omega) (by omega) (by omega)
        exact L19 _ _ _ _ (by omega) (rfl) (rfl) (Int.self_le_toNat _)
  exact L2 _ _ (by omega) (fun e _ _ => by omega) (Int.self_le_toNat _)

