/-- what the class's step works out -/
def joi_ (c a b : Int) : Int := if c = 20001 then (if ¬ a = 0 ∧ ¬ b = 0 then 1 else 0) else if c = 20002 then (if ¬ a = 0 ∨ ¬ b = 0 then 1 else 0) else if c = 20003 then (if a < b then 1 else 0) else if c = 20004 then (if a = b then 1 else 0) else if c = 20005 then wr_ (a + b) else if c = 20006 then wr_ (a - b) else wr_ (a * b)
/-- the class's step for a code of the reference -/
def cnv_ (q : Int × Int) : Int := if q.1 = 1 then q.2 else if q.1 = 2 then 10000 + q.2 else if q.1 = 3 then 20000 else if q.1 = 4 then 20005 else if q.1 = 5 then 20006 else if q.1 = 6 then 20007 else if q.1 = 7 then 20003 else if q.1 = 8 then 20004 else if q.1 = 9 then 20001 else 20002
theorem joi_bo {c x a b : Int} (h : 4 ≤ c ∧ c ≤ 10) : joi_ (cnv_ (c, x)) a b = bo_ c a b := by
  have : c = 4 ∨ c = 5 ∨ c = 6 ∨ c = 7 ∨ c = 8 ∨ c = 9 ∨ c = 10 := by omega
  rcases this with rfl | rfl | rfl | rfl | rfl | rfl | rfl <;> rfl
/-- the first of those below n, or none -/
def fst1_ (f : Int → Int) (w : Int) (n z : Int) : Prop := (0 ≤ z ∧ z < n ∧ f z = w ∧ ∀ e, 0 ≤ e → e < z → f e ≠ w) ∨ (z = -1 ∧ ∀ e, 0 ≤ e → e < n → f e ≠ w)
theorem CRD_h {ro : Int → Int} {h : PH_} {o : Nat} (H : CRD_ ro h o) {t s : Int} (h1 : 0 ≤ t ∧ t < ro 1) (h2 : 0 ≤ s ∧ s < ro 0) : h (o + 1) (5 * t + (1 + s)) = ro (11 + 5 * t + (1 + s)) := H.2.2.1 t (1 + s) h1.1 h1.2 (by omega) (by omega)
theorem tel_1 {f : Int → Int} {w n m z : Int} (an : ∀ e, 0 ≤ e → e < m → f (4 + e) ≠ w) (q : fst1_ f w n z) : z = -1 ∧ ¬ ((∃ e, 0 ≤ e ∧ e < m ∧ f (4 + e) = w) ∨ (∃ e, 0 ≤ e ∧ e < n ∧ f e = w)) ∨ ¬ z = -1 ∧ ((∃ e, 0 ≤ e ∧ e < m ∧ f (4 + e) = w) ∨ (∃ e, 0 ≤ e ∧ e < n ∧ f e = w)) := by
  rcases q with q | q
  · exact Or.inr ⟨by omega, Or.inr ⟨z, q.1, q.2.1, q.2.2.1⟩⟩
  · refine Or.inl ⟨q.1, ?_⟩
    rintro (⟨e, u1, u2, u3⟩ | ⟨e, u1, u2, u3⟩)
    · exact an e u1 u2 u3
    · exact q.2 e u1 u2 u3

set_option maxHeartbeats 4000000 in
set_option maxRecDepth 100000 in
theorem d_pack {G : GT_} (hC : okC_ G) (h : PH_) (o : Nat) (ho : is6_ o) (ro : Int → Int) (H : CRD_ ro h o) (a : Nat) (k_a : kd_ a = 0) (l_a : ln_ a = 4) (ha : 36 ≤ a ∧ a < 173) (hs : ∀ r, 0 ≤ r → r < ro 2 → 0 ≤ h a r ∧ h a r ≤ 3) : PC G yX6_pack cX6_pack 4 (some .int) 1 [rr_ G o, rr_ G a] h (qi_ (fun z h' => h = h' ∧ z = pln_ (h a) (ro 2).toNat)) := by
  have HB := H.2.1
  have HA := H.1
  refine PC.of (lv := [some (rr_ G o), some (rr_ G a), none, none]) (by decide +kernel) (Nat.le_of_ble_eq_true rfl) rfl rfl ?_
  refine pw_iconst (pc := 0) dX6_pack_0 ?_
  refine pw_istore_n (lv1 := [some (rr_ G o), some (rr_ G a), some (ii_ 0), none]) (pc := 1) dX6_pack_1 rfl (by decide) rfl rfl ?_
  refine pw_iconst (pc := 2) dX6_pack_2 ?_
  refine pw_istore_n (lv1 := [some (rr_ G o), some (rr_ G a), some (ii_ 0), some (ii_ 0)]) (pc := 3) dX6_pack_3 rfl (by decide) rfl rfl ?_
  have L4 : ∀ (nn : Nat) (n : Int) (r : Int), (0 ≤ r ∧ r ≤ ro 2) → (n = pln_ (h a) r.toNat) → ((ro 2 - r + 1 : Int) ≤ nn) → PW G RX6 cX6_pack 4 (some .int) (rm_ 1) 0 0 (zm_ G (qi_ (fun z h' => h = h' ∧ z = pln_ (h a) (ro 2).toNat))) 4 [some (rr_ G o), some (rr_ G a), some (ii_ n), some (ii_ r)] [] h := by
    intro nn
    induction nn with
    | zero => intro n r ak an ams; exfalso; omega
    | succ nn ih4 =>
      intro n r ak an ams
      refine pw_iload_n (z := r) (pc := 4) dX6_pack_4 rfl rfl ?_
      refine pw_aload_n (z := o) (pc := 5) dX6_pack_5 rfl rfl ?_
      refine pw_gI (x := 2) (pc := 6) dX6_pack_6 fX6_60 (hC _ (by omega)) (kd6_0 ho) rfl rfl (fun r6 => ?_)
      refine pw_icmp_ge (t := 26) (pc := 9) dX6_pack_9 (by decide) (by first | omega) (by first | omega) (fun c9 => ?_) (fun c9 => ?_)
      · have pb := pln_b (si := h a) r.toNat (by omega) (fun e u1 u2 => hs e u1 (by omega))
        have p4 : (4 : Int) ^ r.toNat ≤ 256 := by have : r = 0 ∨ r = 1 ∨ r = 2 ∨ r = 3 ∨ r = 4 := by omega
                                                  rcases this with rfl | rfl | rfl | rfl | rfl <;> decide
        refine pw_iload_n (z := n) (pc := 26) dX6_pack_26 rfl rfl ?_
        exact pw_iret (pc := 27) dX6_pack_27 (by first | omega) (⟨rfl, by rw [an, show r = ro 2 by omega]⟩)
      · have hsr := hs r (by omega) (by omega)
        have pb := pln_b (si := h a) r.toNat (by omega) (fun e u1 u2 => hs e u1 (by omega))
        have p4 : (4 : Int) ^ r.toNat ≤ 256 := by have : r = 0 ∨ r = 1 ∨ r = 2 ∨ r = 3 ∨ r = 4 := by omega
                                                  rcases this with rfl | rfl | rfl | rfl | rfl <;> decide
        refine pw_iload_n (z := n) (pc := 12) dX6_pack_12 rfl rfl ?_
        refine pw_iconst (pc := 13) dX6_pack_13 ?_
        refine pw_imul (pc := 14) dX6_pack_14 ?_
        refine pw_aload_n (z := a) (pc := 15) dX6_pack_15 rfl rfl ?_
        refine pw_iload_n (z := r) (pc := 16) dX6_pack_16 rfl rfl ?_
        refine pw_iald (pc := 17) dX6_pack_17 (hC _ (by omega)) k_a 4 l_a (by first | omega) (by first | omega) (by first | omega) (fun r17 => ?_)
        refine pw_iadd (pc := 18) dX6_pack_18 ?_
        refine pw_istore_n (lv1 := [some (rr_ G o), some (rr_ G a), some (ii_ ((n * 4) + (h a r))), some (ii_ r)]) (pc := 19) dX6_pack_19 rfl (by decide) rfl rfl ?_
        refine pw_iinc (z := r) (lv1 := [some (rr_ G o), some (rr_ G a), some (ii_ ((n * 4) + (h a r))), some (ii_ (r + 1))]) (pc := 20) dX6_pack_20 rfl (by decide) rfl rfl ?_
        refine pw_goto (t := 4) (pc := 23) dX6_pack_23 (by decide) ?_
        exact ih4 _ _ (by omega) (by rw [pln_s ak.1, an]; omega) (by omega)
  exact L4 _ _ _ (by omega) (rfl) (Int.self_le_toNat _)

set_option maxHeartbeats 4000000 in
set_option maxRecDepth 100000 in
theorem d_planAt {G : GT_} (hC : okC_ G) (h : PH_) (o : Nat) (ho : is6_ o) (i : Int) (h1 : ir_ i) (hc : 0 ≤ h o 7 ∧ h o 7 ≤ 24) : PC G yX6_planAt cX6_planAt 2 (some .int) 1 [rr_ G o, ii_ i] h (qi_ (fun z h' => h = h' ∧ z = if 0 ≤ i ∧ i < h o 7 then h (o + 14) i else -1)) := by
  refine PC.of (lv := [some (rr_ G o), some (ii_ i)]) (by decide +kernel) (Nat.le_of_ble_eq_true rfl) rfl rfl ?_
  refine pw_iload_n (z := i) (pc := 0) dX6_planAt_0 rfl rfl ?_
  refine pw_if_lt (t := 21) (pc := 1) dX6_planAt_1 (by decide) (by first | omega) (fun c1 => ?_) (fun c1 => ?_)
  · refine pw_iconst (pc := 21) dX6_planAt_21 ?_
    exact pw_iret (pc := 22) dX6_planAt_22 (by first | omega) (by first | exact ⟨rfl, (if_neg (by omega)).symm⟩ | exact ⟨rfl, (if_pos (by omega)).symm⟩)
  · refine pw_iload_n (z := i) (pc := 4) dX6_planAt_4 rfl rfl ?_
    refine pw_aload_n (z := o) (pc := 5) dX6_planAt_5 rfl rfl ?_
    refine pw_gI (x := 7) (pc := 6) dX6_planAt_6 fX6_76 (hC _ (by omega)) (kd6_0 ho) rfl rfl (fun r6 => ?_)
    refine pw_icmp_ge (t := 21) (pc := 9) dX6_planAt_9 (by decide) (by first | omega) (by first | omega) (fun c9 => ?_) (fun c9 => ?_)
    · refine pw_iconst (pc := 21) dX6_planAt_21 ?_
      exact pw_iret (pc := 22) dX6_planAt_22 (by first | omega) (by first | exact ⟨rfl, (if_neg (by omega)).symm⟩ | exact ⟨rfl, (if_pos (by omega)).symm⟩)
    · refine pw_aload_n (z := o) (pc := 12) dX6_planAt_12 rfl rfl ?_
      refine pw_getR (r := (o + 14)) (pc := 13) dX6_planAt_13 fX6_47 (hC _ (by omega)) (kd6_0 ho) rfl rfl ?_
      refine pw_iload_n (z := i) (pc := 16) dX6_planAt_16 rfl rfl ?_
      refine pw_iald (pc := 17) dX6_planAt_17 (hC _ (by omega)) (kd6_14 ho) 24 (ln6_14 ho) (by first | omega) (by first | omega) (by first | omega) (fun r17 => ?_)
      refine pw_goto (t := 22) (pc := 18) dX6_planAt_18 (by decide) ?_
      exact pw_iret (pc := 22) dX6_planAt_22 (by first | omega) (by first | exact ⟨rfl, (if_neg (by omega)).symm⟩ | exact ⟨rfl, (if_pos (by omega)).symm⟩)

set_option maxHeartbeats 4000000 in
set_option maxRecDepth 100000 in
theorem d_canBeDriven {G : GT_} (hC : okC_ G) (h : PH_) (o : Nat) (ho : is6_ o) (hc : 0 ≤ h o 7 ∧ h o 7 ≤ 24) : PC G yX6_canBeDriven cX6_canBeDriven 1 (some .boolean) 1 [rr_ G o] h (qi_ (fun z h' => h = h' ∧ (z = 1 ∧ (h o 1 = 0 ∨ 0 < h o 7) ∨ z = 0 ∧ ¬ (h o 1 = 0 ∨ 0 < h o 7)))) := by
  refine PC.of (lv := [some (rr_ G o)]) (by decide +kernel) (Nat.le_of_ble_eq_true rfl) rfl rfl ?_
  refine pw_aload_n (z := o) (pc := 0) dX6_canBeDriven_0 rfl rfl ?_
  refine pw_gI (x := 1) (pc := 1) dX6_canBeDriven_1 fX6_57 (hC _ (by omega)) (kd6_0 ho) rfl rfl (fun r1 => ?_)
  refine pw_if_eq (t := 14) (pc := 4) dX6_canBeDriven_4 (by decide) (by first | omega) (fun c4 => ?_) (fun c4 => ?_)
  · refine pw_iconst (pc := 14) dX6_canBeDriven_14 ?_
    refine pw_goto (t := 19) (pc := 15) dX6_canBeDriven_15 (by decide) ?_
    exact pw_zret (pc := 19) dX6_canBeDriven_19 (by first | omega) (⟨rfl, by omega⟩)
  · refine pw_aload_n (z := o) (pc := 7) dX6_canBeDriven_7 rfl rfl ?_
    refine pw_gI (x := 7) (pc := 8) dX6_canBeDriven_8 fX6_76 (hC _ (by omega)) (kd6_0 ho) rfl rfl (fun r8 => ?_)
    refine pw_if_le (t := 18) (pc := 11) dX6_canBeDriven_11 (by decide) (by first | omega) (fun c11 => ?_) (fun c11 => ?_)
    · refine pw_iconst (pc := 18) dX6_canBeDriven_18 ?_
      exact pw_zret (pc := 19) dX6_canBeDriven_19 (by first | omega) (⟨rfl, by omega⟩)
    · refine pw_iconst (pc := 14) dX6_canBeDriven_14 ?_
      refine pw_goto (t := 19) (pc := 15) dX6_canBeDriven_15 (by decide) ?_
      exact pw_zret (pc := 19) dX6_canBeDriven_19 (by first | omega) (⟨rfl, by omega⟩)

set_option maxHeartbeats 4000000 in
set_option maxRecDepth 100000 in
theorem d_seatLeft {G : GT_} (hC : okC_ G) (h : PH_) (o : Nat) (ho : is6_ o) (ro : Int → Int) (H : CRD_ ro h o) (t r k f : Int) (h1 : 0 ≤ t ∧ t < ro 1) (h2 : 0 ≤ r ∧ r < ro 2) (h3 : 0 ≤ k ∧ k ≤ 15) (hf : ∀ s, 0 ≤ s → s < ro 0 → (k / 2 ^ s.toNat % 2 = 0 ↔ f / 2 ^ s.toNat % 2 = 1)) : PC G yX6_seatLeft cX6_seatLeft 7 (some .int) 3 [rr_ G o, ii_ t, ii_ r, ii_ k] h (qi_ (fun z h' => h = h' ∧ z = tks_ ro r t f (ro 0).toNat)) := by
  have HB := H.2.1
  have HA := H.1
  refine PC.of (lv := [some (rr_ G o), some (ii_ t), some (ii_ r), some (ii_ k), none, none, none]) (by decide +kernel) (Nat.le_of_ble_eq_true rfl) rfl rfl ?_
  refine pw_iconst (pc := 0) dX6_seatLeft_0 ?_
  refine pw_istore (lv1 := [some (rr_ G o), some (ii_ t), some (ii_ r), some (ii_ k), some (ii_ (-1)), none, none]) (pc := 1) dX6_seatLeft_1 (by decide) rfl rfl ?_
  refine pw_iconst (pc := 3) dX6_seatLeft_3 ?_
  refine pw_istore (lv1 := [some (rr_ G o), some (ii_ t), some (ii_ r), some (ii_ k), some (ii_ (-1)), some (ii_ 0), none]) (pc := 4) dX6_seatLeft_4 (by decide) rfl rfl ?_
  have L6 : ∀ (nn : Nat) (w : Int) (s : Int), (0 ≤ s ∧ s ≤ ro 0) → (w = tks_ ro r t f s.toNat) → ((ro 0 - s + 1 : Int) ≤ nn) → PW G RX6 cX6_seatLeft 7 (some .int) (rm_ 3) 0 0 (zm_ G (qi_ (fun z h' => h = h' ∧ z = tks_ ro r t f (ro 0).toNat))) 6 [some (rr_ G o), some (ii_ t), some (ii_ r), some (ii_ k), some (ii_ w), some (ii_ s), none] [] h := by
    intro nn
    induction nn with
    | zero => intro w s ak aw ams; exfalso; omega
    | succ nn ih6 =>
      intro w s ak aw ams
      have tb := tks_b ro r t f s.toNat
      refine pw_iload (z := s) (pc := 6) dX6_seatLeft_6 rfl ?_
      refine pw_aload_n (z := o) (pc := 8) dX6_seatLeft_8 rfl rfl ?_
      refine pw_gI (x := 0) (pc := 9) dX6_seatLeft_9 fX6_53 (hC _ (by omega)) (kd6_0 ho) rfl rfl (fun r9 => ?_)
      refine pw_icmp_ge (t := 79) (pc := 12) dX6_seatLeft_12 (by decide) (by first | omega) (by first | omega) (fun c12 => ?_) (fun c12 => ?_)
      · refine pw_iload (z := w) (pc := 79) dX6_seatLeft_79 rfl ?_
        exact pw_iret (pc := 81) dX6_seatLeft_81 (by first | omega) (⟨rfl, by rw [aw, show s = ro 0 by omega]⟩)
      · have hfs := hf s (by omega) (by omega)
        have hh1 := CRD_h H (t := t) (s := s) (by omega) (by omega)
        refine pw_iload_n (z := k) (pc := 15) dX6_seatLeft_15 rfl rfl ?_
        refine pw_iload (z := s) (pc := 16) dX6_seatLeft_16 rfl ?_
        refine pw_ishr (pc := 18) dX6_seatLeft_18 (by first | omega) (by first | omega) ?_
        refine pw_iconst (pc := 19) dX6_seatLeft_19 ?_
        refine pw_iand1 (pc := 20) dX6_seatLeft_20 ?_
        refine pw_if_ne (t := 38) (pc := 21) dX6_seatLeft_21 (by decide) (by first | omega) (fun c21 => ?_) (fun c21 => ?_)
        · refine pw_iconst (pc := 38) dX6_seatLeft_38 ?_
          refine pw_istore (lv1 := [some (rr_ G o), some (ii_ t), some (ii_ r), some (ii_ k), some (ii_ w), some (ii_ s), some (ii_ 0)]) (pc := 39) dX6_seatLeft_39 (by decide) rfl rfl ?_
          refine pw_iload (z := 0) (pc := 41) dX6_seatLeft_41 rfl ?_
          refine pw_if_eq (t := 73) (pc := 43) dX6_seatLeft_43 (by decide) (by first | omega) (fun _ => ?_) (fun c43 => absurd c43 (by decide))
          refine pw_iinc (z := s) (lv1 := [some (rr_ G o), some (ii_ t), some (ii_ r), some (ii_ k), some (ii_ w), some (ii_ (s + 1)), some (ii_ 0)]) (pc := 73) dX6_seatLeft_73 rfl (by decide) rfl rfl ?_
          refine pw_goto (t := 6) (pc := 76) dX6_seatLeft_76 (by decide) ?_
          refine pw_less (lv1 := [some (rr_ G o), some (ii_ t), some (ii_ r), some (ii_ k), some (ii_ w), some (ii_ (s + 1)), none]) rfl (by intro i v; (match i with | 0 => simp | 1 => simp | 2 => simp | 3 => simp | 4 => simp | 5 => simp | 6 => simp | n + 7 => simp)) ?_
          exact ih6 _ _ (by omega) (by rw [tks_s ak.1, ← aw]; first | exact (if_f (fun u => c21 (hfs.mpr u.1.1))).symm | exact (if_f (fun u => p28 u.1.2)).symm | exact (if_t ⟨⟨hfs.mp c21, p28⟩, by omega⟩).symm | exact (if_f (fun u => by rcases u.2 with u | u <;> omega)).symm) (by omega)
        · refine pw_aload_n (z := o) (pc := 24) dX6_seatLeft_24 rfl rfl ?_
          refine pw_iload_n (z := r) (pc := 25) dX6_seatLeft_25 rfl rfl ?_
          refine pw_iload (z := s) (pc := 26) dX6_seatLeft_26 rfl ?_
          refine pw_callV (c := 6) (o := o) (As := [ii_ r, ii_ s]) (rest := []) (pc := 28) dX6_seatLeft_28 (d_maySit hC h o ho ro H (r) (s) (by first | omega) (by first | omega)) lX6_105 mX6_maySit vX6_maySit (hC _ (by omega)) (kd6_0 ho) rfl rfl rfl (by decide) ⟨Nat.zero_le _, Nat.zero_le _⟩ (Nat.le_of_ble_eq_true rfl) (k_i (fun z28 h28 y28 q28 => ?_))
          obtain ⟨rfl, ⟨rfl, p28⟩ | ⟨rfl, p28⟩⟩ := q28
          · refine pw_if_eq (t := 38) (pc := 31) dX6_seatLeft_31 (by decide) (by first | omega) (fun c31 => absurd c31 (by decide)) (fun _ => ?_)
            refine pw_iconst (pc := 34) dX6_seatLeft_34 ?_
            refine pw_goto (t := 39) (pc := 35) dX6_seatLeft_35 (by decide) ?_
            refine pw_istore (lv1 := [some (rr_ G o), some (ii_ t), some (ii_ r), some (ii_ k), some (ii_ w), some (ii_ s), some (ii_ 1)]) (pc := 39) dX6_seatLeft_39 (by decide) rfl rfl ?_
            refine pw_iload (z := 1) (pc := 41) dX6_seatLeft_41 rfl ?_
            refine pw_if_eq (t := 73) (pc := 43) dX6_seatLeft_43 (by decide) (by first | omega) (fun c43 => absurd c43 (by decide)) (fun _ => ?_)
            refine pw_iload (z := w) (pc := 46) dX6_seatLeft_46 rfl ?_
            refine pw_iconst (pc := 48) dX6_seatLeft_48 ?_
            refine pw_icmp_eq (t := 69) (pc := 49) dX6_seatLeft_49 (by decide) (by first | omega) (by first | omega) (fun c49 => ?_) (fun c49 => ?_)
            · refine pw_iload (z := s) (pc := 69) dX6_seatLeft_69 rfl ?_
              refine pw_istore (lv1 := [some (rr_ G o), some (ii_ t), some (ii_ r), some (ii_ k), some (ii_ s), some (ii_ s), some (ii_ 1)]) (pc := 71) dX6_seatLeft_71 (by decide) rfl rfl ?_
              refine pw_iinc (z := s) (lv1 := [some (rr_ G o), some (ii_ t), some (ii_ r), some (ii_ k), some (ii_ s), some (ii_ (s + 1)), some (ii_ 1)]) (pc := 73) dX6_seatLeft_73 rfl (by decide) rfl rfl ?_
              refine pw_goto (t := 6) (pc := 76) dX6_seatLeft_76 (by decide) ?_
              refine pw_less (lv1 := [some (rr_ G o), some (ii_ t), some (ii_ r), some (ii_ k), some (ii_ s), some (ii_ (s + 1)), none]) rfl (by intro i v; (match i with | 0 => simp | 1 => simp | 2 => simp | 3 => simp | 4 => simp | 5 => simp | 6 => simp | n + 7 => simp)) ?_
              exact ih6 _ _ (by omega) (by rw [tks_s ak.1, ← aw]; first | exact (if_f (fun u => c21 (hfs.mpr u.1.1))).symm | exact (if_f (fun u => p28 u.1.2)).symm | exact (if_t ⟨⟨hfs.mp c21, p28⟩, by omega⟩).symm | exact (if_f (fun u => by rcases u.2 with u | u <;> omega)).symm) (by omega)
            · refine pw_aload_n (z := o) (pc := 52) dX6_seatLeft_52 rfl rfl ?_
              refine pw_iload_n (z := t) (pc := 53) dX6_seatLeft_53 rfl rfl ?_
              refine pw_iload (z := s) (pc := 54) dX6_seatLeft_54 rfl ?_
              refine pw_callV (c := 6) (o := o) (As := [ii_ t, ii_ s]) (rest := []) (pc := 56) dX6_seatLeft_56 (d_has hC h o ho (t) (s) (by first | omega) (by first | omega)) lX6_127 mX6_has vX6_has (hC _ (by omega)) (kd6_0 ho) rfl rfl rfl (by decide) ⟨Nat.zero_le _, Nat.zero_le _⟩ (Nat.le_of_ble_eq_true rfl) (k_i (fun z56 h56 y56 q56 => ?_))
              obtain ⟨rfl, w56⟩ := q56
              have hh2 := CRD_h H (t := t) (s := w) (by omega) (by omega)
              refine pw_aload_n (z := o) (pc := 59) dX6_seatLeft_59 rfl rfl ?_
              refine pw_iload_n (z := t) (pc := 60) dX6_seatLeft_60 rfl rfl ?_
              refine pw_iload (z := w) (pc := 61) dX6_seatLeft_61 rfl ?_
              refine pw_callV (c := 6) (o := o) (As := [ii_ t, ii_ w]) (rest := [ii_ z56]) (pc := 63) dX6_seatLeft_63 (d_has hC h o ho (t) (w) (by first | omega) (by first | omega)) lX6_127 mX6_has vX6_has (hC _ (by omega)) (kd6_0 ho) rfl rfl rfl (by decide) ⟨Nat.zero_le _, Nat.zero_le _⟩ (Nat.le_of_ble_eq_true rfl) (k_i (fun z63 h63 y63 q63 => ?_))
              obtain ⟨rfl, w63⟩ := q63
              refine pw_icmp_le (t := 73) (pc := 66) dX6_seatLeft_66 (by decide) (by first | omega) (by first | omega) (fun c66 => ?_) (fun c66 => ?_)
              · refine pw_iinc (z := s) (lv1 := [some (rr_ G o), some (ii_ t), some (ii_ r), some (ii_ k), some (ii_ w), some (ii_ (s + 1)), some (ii_ 1)]) (pc := 73) dX6_seatLeft_73 rfl (by decide) rfl rfl ?_
                refine pw_goto (t := 6) (pc := 76) dX6_seatLeft_76 (by decide) ?_
                refine pw_less (lv1 := [some (rr_ G o), some (ii_ t), some (ii_ r), some (ii_ k), some (ii_ w), some (ii_ (s + 1)), none]) rfl (by intro i v; (match i with | 0 => simp | 1 => simp | 2 => simp | 3 => simp | 4 => simp | 5 => simp | 6 => simp | n + 7 => simp)) ?_
                exact ih6 _ _ (by omega) (by rw [tks_s ak.1, ← aw]; first | exact (if_f (fun u => c21 (hfs.mpr u.1.1))).symm | exact (if_f (fun u => p28 u.1.2)).symm | exact (if_t ⟨⟨hfs.mp c21, p28⟩, by omega⟩).symm | exact (if_f (fun u => by rcases u.2 with u | u <;> omega)).symm) (by omega)
              · refine pw_iload (z := s) (pc := 69) dX6_seatLeft_69 rfl ?_
                refine pw_istore (lv1 := [some (rr_ G o), some (ii_ t), some (ii_ r), some (ii_ k), some (ii_ s), some (ii_ s), some (ii_ 1)]) (pc := 71) dX6_seatLeft_71 (by decide) rfl rfl ?_
                refine pw_iinc (z := s) (lv1 := [some (rr_ G o), some (ii_ t), some (ii_ r), some (ii_ k), some (ii_ s), some (ii_ (s + 1)), some (ii_ 1)]) (pc := 73) dX6_seatLeft_73 rfl (by decide) rfl rfl ?_
                refine pw_goto (t := 6) (pc := 76) dX6_seatLeft_76 (by decide) ?_
                refine pw_less (lv1 := [some (rr_ G o), some (ii_ t), some (ii_ r), some (ii_ k), some (ii_ s), some (ii_ (s + 1)), none]) rfl (by intro i v; (match i with | 0 => simp | 1 => simp | 2 => simp | 3 => simp | 4 => simp | 5 => simp | 6 => simp | n + 7 => simp)) ?_
                exact ih6 _ _ (by omega) (by rw [tks_s ak.1, ← aw]; first | exact (if_f (fun u => c21 (hfs.mpr u.1.1))).symm | exact (if_f (fun u => p28 u.1.2)).symm | exact (if_t ⟨⟨hfs.mp c21, p28⟩, by omega⟩).symm | exact (if_f (fun u => by rcases u.2 with u | u <;> omega)).symm) (by omega)
          · refine pw_if_eq (t := 38) (pc := 31) dX6_seatLeft_31 (by decide) (by first | omega) (fun _ => ?_) (fun c31 => absurd c31 (by decide))
            refine pw_iconst (pc := 38) dX6_seatLeft_38 ?_
            refine pw_istore (lv1 := [some (rr_ G o), some (ii_ t), some (ii_ r), some (ii_ k), some (ii_ w), some (ii_ s), some (ii_ 0)]) (pc := 39) dX6_seatLeft_39 (by decide) rfl rfl ?_
            refine pw_iload (z := 0) (pc := 41) dX6_seatLeft_41 rfl ?_
            refine pw_if_eq (t := 73) (pc := 43) dX6_seatLeft_43 (by decide) (by first | omega) (fun _ => ?_) (fun c43 => absurd c43 (by decide))
            refine pw_iinc (z := s) (lv1 := [some (rr_ G o), some (ii_ t), some (ii_ r), some (ii_ k), some (ii_ w), some (ii_ (s + 1)), some (ii_ 0)]) (pc := 73) dX6_seatLeft_73 rfl (by decide) rfl rfl ?_
            refine pw_goto (t := 6) (pc := 76) dX6_seatLeft_76 (by decide) ?_
            refine pw_less (lv1 := [some (rr_ G o), some (ii_ t), some (ii_ r), some (ii_ k), some (ii_ w), some (ii_ (s + 1)), none]) rfl (by intro i v; (match i with | 0 => simp | 1 => simp | 2 => simp | 3 => simp | 4 => simp | 5 => simp | 6 => simp | n + 7 => simp)) ?_
            exact ih6 _ _ (by omega) (by rw [tks_s ak.1, ← aw]; first | exact (if_f (fun u => c21 (hfs.mpr u.1.1))).symm | exact (if_f (fun u => p28 u.1.2)).symm | exact (if_t ⟨⟨hfs.mp c21, p28⟩, by omega⟩).symm | exact (if_f (fun u => by rcases u.2 with u | u <;> omega)).symm) (by omega)
  exact L6 _ _ _ (by omega) (rfl) (Int.self_le_toNat _)

set_option maxHeartbeats 4000000 in
set_option maxRecDepth 100000 in
theorem d_riderNamed {G : GT_} (hC : okC_ G) (h : PH_) (o : Nat) (ho : is6_ o) (w : Int) (hw : lr_ w) (hR : 0 ≤ h o 2 ∧ h o 2 ≤ 4) : PC G yX6_riderNamed cX6_riderNamed 4 (some .int) 1 [rr_ G o, ll_ w] h (qi_ (fun z h' => h = h' ∧ fst1_ (h (o + 2)) w (h o 2) z)) := by
  refine PC.of (lv := [some (rr_ G o), some (ll_ w), none, none]) (by decide +kernel) (Nat.le_of_ble_eq_true rfl) rfl rfl ?_
  refine pw_iconst (pc := 0) dX6_riderNamed_0 ?_
  refine pw_istore_n (lv1 := [some (rr_ G o), some (ll_ w), none, some (ii_ 0)]) (pc := 1) dX6_riderNamed_1 rfl (by decide) rfl rfl ?_
  have L2 : ∀ (nn : Nat) (r : Int), (0 ≤ r ∧ r ≤ h o 2) → (∀ e, 0 ≤ e → e < r → h (o + 2) e ≠ w) → ((h o 2 - r + 1 : Int) ≤ nn) → PW G RX6 cX6_riderNamed 4 (some .int) (rm_ 1) 0 0 (zm_ G (qi_ (fun z h' => h = h' ∧ fst1_ (h (o + 2)) w (h o 2) z))) 2 [some (rr_ G o), some (ll_ w), none, some (ii_ r)] [] h := by
    intro nn
    induction nn with
    | zero => intro r ak an ams; exfalso; omega
    | succ nn ih2 =>
      intro r ak an ams
      refine pw_iload_n (z := r) (pc := 2) dX6_riderNamed_2 rfl rfl ?_
      refine pw_aload_n (z := o) (pc := 3) dX6_riderNamed_3 rfl rfl ?_
      refine pw_gI (x := 2) (pc := 4) dX6_riderNamed_4 fX6_60 (hC _ (by omega)) (kd6_0 ho) rfl rfl (fun r4 => ?_)
      refine pw_icmp_ge (t := 29) (pc := 7) dX6_riderNamed_7 (by decide) (by first | omega) (by first | omega) (fun c7 => ?_) (fun c7 => ?_)
      · refine pw_iconst (pc := 29) dX6_riderNamed_29 ?_
        exact pw_iret (pc := 30) dX6_riderNamed_30 (by first | omega) (⟨rfl, Or.inr ⟨rfl, fun e u1 u2 => an e u1 (by omega)⟩⟩)
      · refine pw_aload_n (z := o) (pc := 10) dX6_riderNamed_10 rfl rfl ?_
        refine pw_getR (r := (o + 2)) (pc := 11) dX6_riderNamed_11 fX6_15 (hC _ (by omega)) (kd6_0 ho) rfl rfl ?_
        refine pw_iload_n (z := r) (pc := 14) dX6_riderNamed_14 rfl rfl ?_
        refine pw_lald (pc := 15) dX6_riderNamed_15 (hC _ (by omega)) (kd6_2 ho) 8 (ln6_2 ho) (by first | omega) (by first | omega) (by first | omega) (fun r15 => ?_)
        refine pw_lload_n (z := w) (pc := 16) dX6_riderNamed_16 rfl rfl ?_
        refine pw_lcmp (pc := 17) dX6_riderNamed_17 (by first | omega) (by first | omega) ?_
        refine pw_if_ne (t := 23) (pc := 18) dX6_riderNamed_18 (by decide) (by first | omega) (fun c18 => ?_) (fun c18 => ?_)
        · refine pw_iinc (z := r) (lv1 := [some (rr_ G o), some (ll_ w), none, some (ii_ (r + 1))]) (pc := 23) dX6_riderNamed_23 rfl (by decide) rfl rfl ?_
          refine pw_goto (t := 2) (pc := 26) dX6_riderNamed_26 (by decide) ?_
          exact ih2 _ (by omega) (fun e u1 u2 => by by_cases c : e = r; (rw [c]; exact lc_y c18); exact an e u1 (by omega)) (by omega)
        · refine pw_iload_n (z := r) (pc := 21) dX6_riderNamed_21 rfl rfl ?_
          exact pw_iret (pc := 22) dX6_riderNamed_22 (by first | omega) (⟨rfl, Or.inl ⟨by omega, by omega, lc_z c18, an⟩⟩)
  exact L2 _ _ (by omega) (fun e _ _ => by omega) (Int.self_le_toNat _)

set_option maxHeartbeats 4000000 in
set_option maxRecDepth 100000 in
theorem d_tells {G : GT_} (hC : okC_ G) (h : PH_) (o : Nat) (ho : is6_ o) (w : Int) (hw : lr_ w) (hR : 0 ≤ h o 2 ∧ h o 2 ≤ 4) (hK : 0 ≤ h o 3 ∧ h o 3 ≤ 4) : PC G yX6_tells cX6_tells 4 (some .boolean) 2 [rr_ G o, ll_ w] h (qi_ (fun z h' => h = h' ∧ (z = 1 ∧ ((∃ e, 0 ≤ e ∧ e < h o 3 ∧ h (o + 2) (4 + e) = w) ∨ (∃ e, 0 ≤ e ∧ e < h o 2 ∧ h (o + 2) e = w)) ∨ z = 0 ∧ ¬ ((∃ e, 0 ≤ e ∧ e < h o 3 ∧ h (o + 2) (4 + e) = w) ∨ (∃ e, 0 ≤ e ∧ e < h o 2 ∧ h (o + 2) e = w))))) := by
  refine PC.of (lv := [some (rr_ G o), some (ll_ w), none, none]) (by decide +kernel) (Nat.le_of_ble_eq_true rfl) rfl rfl ?_
  refine pw_iconst (pc := 0) dX6_tells_0 ?_
  refine pw_istore_n (lv1 := [some (rr_ G o), some (ll_ w), none, some (ii_ 0)]) (pc := 1) dX6_tells_1 rfl (by decide) rfl rfl ?_
  have L2 : ∀ (nn : Nat) (r : Int), (0 ≤ r ∧ r ≤ h o 3) → (∀ e, 0 ≤ e → e < r → h (o + 2) (4 + e) ≠ w) → ((h o 3 - r + 1 : Int) ≤ nn) → PW G RX6 cX6_tells 4 (some .boolean) (rm_ 2) 0 0 (zm_ G (qi_ (fun z h' => h = h' ∧ (z = 1 ∧ ((∃ e, 0 ≤ e ∧ e < h o 3 ∧ h (o + 2) (4 + e) = w) ∨ (∃ e, 0 ≤ e ∧ e < h o 2 ∧ h (o + 2) e = w)) ∨ z = 0 ∧ ¬ ((∃ e, 0 ≤ e ∧ e < h o 3 ∧ h (o + 2) (4 + e) = w) ∨ (∃ e, 0 ≤ e ∧ e < h o 2 ∧ h (o + 2) e = w)))))) 2 [some (rr_ G o), some (ll_ w), none, some (ii_ r)] [] h := by
    intro nn
    induction nn with
    | zero => intro r ak an ams; exfalso; omega
    | succ nn ih2 =>
      intro r ak an ams
      refine pw_iload_n (z := r) (pc := 2) dX6_tells_2 rfl rfl ?_
      refine pw_aload_n (z := o) (pc := 3) dX6_tells_3 rfl rfl ?_
      refine pw_gI (x := 3) (pc := 4) dX6_tells_4 fX6_63 (hC _ (by omega)) (kd6_0 ho) rfl rfl (fun r4 => ?_)
      refine pw_icmp_ge (t := 31) (pc := 7) dX6_tells_7 (by decide) (by first | omega) (by first | omega) (fun c7 => ?_) (fun c7 => ?_)
      · refine pw_aload_n (z := o) (pc := 31) dX6_tells_31 rfl rfl ?_
        refine pw_lload_n (z := w) (pc := 32) dX6_tells_32 rfl rfl ?_
        refine pw_callV (c := 6) (o := o) (As := [ll_ w]) (rest := []) (pc := 33) dX6_tells_33 (d_riderNamed hC h o ho (w) (by first | omega) (by first | omega)) lX6_88 mX6_riderNamed vX6_riderNamed (hC _ (by omega)) (kd6_0 ho) rfl rfl rfl (by decide) ⟨Nat.zero_le _, Nat.zero_le _⟩ (Nat.le_of_ble_eq_true rfl) (k_i (fun z33 h33 y33 q33 => ?_))
        obtain ⟨rfl, w33⟩ := q33
        refine pw_iconst (pc := 36) dX6_tells_36 ?_
        refine pw_icmp_eq (t := 44) (pc := 37) dX6_tells_37 (by decide) (by first | omega) (by first | omega) (fun c37 => ?_) (fun c37 => ?_)
        · refine pw_iconst (pc := 44) dX6_tells_44 ?_
          exact pw_zret (pc := 45) dX6_tells_45 (by first | omega) (by rcases tel_1 (m := h o 3) (fun e u1 u2 => an e u1 (by omega)) w33 with q | q <;> first | exact ⟨rfl, Or.inl ⟨rfl, q.2⟩⟩ | exact ⟨rfl, Or.inr ⟨rfl, q.2⟩⟩ | (exfalso; omega))
        · refine pw_iconst (pc := 40) dX6_tells_40 ?_
          refine pw_goto (t := 45) (pc := 41) dX6_tells_41 (by decide) ?_
          exact pw_zret (pc := 45) dX6_tells_45 (by first | omega) (by rcases tel_1 (m := h o 3) (fun e u1 u2 => an e u1 (by omega)) w33 with q | q <;> first | exact ⟨rfl, Or.inl ⟨rfl, q.2⟩⟩ | exact ⟨rfl, Or.inr ⟨rfl, q.2⟩⟩ | (exfalso; omega))
      · refine pw_aload_n (z := o) (pc := 10) dX6_tells_10 rfl rfl ?_
        refine pw_getR (r := (o + 2)) (pc := 11) dX6_tells_11 fX6_15 (hC _ (by omega)) (kd6_0 ho) rfl rfl ?_
        refine pw_iconst (pc := 14) dX6_tells_14 ?_
        refine pw_iload_n (z := r) (pc := 15) dX6_tells_15 rfl rfl ?_
        refine pw_iadd (pc := 16) dX6_tells_16 ?_
        refine pw_lald (pc := 17) dX6_tells_17 (hC _ (by omega)) (kd6_2 ho) 8 (ln6_2 ho) (by first | omega) (by first | omega) (by first | omega) (fun r17 => ?_)
        refine pw_lload_n (z := w) (pc := 18) dX6_tells_18 rfl rfl ?_
        refine pw_lcmp (pc := 19) dX6_tells_19 (by first | omega) (by first | omega) ?_
        refine pw_if_ne (t := 25) (pc := 20) dX6_tells_20 (by decide) (by first | omega) (fun c20 => ?_) (fun c20 => ?_)
        · refine pw_iinc (z := r) (lv1 := [some (rr_ G o), some (ll_ w), none, some (ii_ (r + 1))]) (pc := 25) dX6_tells_25 rfl (by decide) rfl rfl ?_
          refine pw_goto (t := 2) (pc := 28) dX6_tells_28 (by decide) ?_
          exact ih2 _ (by omega) (fun e u1 u2 => by by_cases c : e = r; (rw [c]; exact lc_y c20); exact an e u1 (by omega)) (by omega)
        · refine pw_iconst (pc := 23) dX6_tells_23 ?_
          exact pw_zret (pc := 24) dX6_tells_24 (by first | omega) (⟨rfl, Or.inl ⟨rfl, Or.inl ⟨r, by omega, by omega, lc_z c20⟩⟩⟩)
  exact L2 _ _ (by omega) (fun e _ _ => by omega) (Int.self_le_toNat _)

set_option maxHeartbeats 4000000 in
set_option maxRecDepth 100000 in
theorem d_join {G : GT_} (hC : okC_ G) (h : PH_) (c a b : Int) (hc : 20001 ≤ c ∧ c ≤ 20007) (ha : ir_ a) (hb : ir_ b) : PC G yX2_join cX2_join 3 (some .int) 1 [ii_ c, ii_ a, ii_ b] h (qi_ (fun z h' => h = h' ∧ z = joi_ c a b)) := by
  refine PC.of (lv := [some (ii_ c), some (ii_ a), some (ii_ b)]) (by decide +kernel) (Nat.le_of_ble_eq_true rfl) rfl rfl ?_
  refine pw_iload_n (z := c) (pc := 0) dX2_join_0 rfl rfl ?_
  have sw1 : c = 20001 ∨ c = 20002 ∨ c = 20003 ∨ c = 20004 ∨ c = 20005 ∨ c = 20006 ∨ (c < 20001 ∨ 20006 < c) := by omega
  rcases sw1 with sw1 | sw1 | sw1 | sw1 | sw1 | sw1 | sw1
  · refine pw_tableIn (t := 40) (off := 39) (pc := 1) dX2_join_1 (by first | omega) (by omega) (by omega) (by rw [sw1]; rfl) (by decide) ?_
    refine pw_iload_n (z := a) (pc := 40) dX2_join_40 rfl rfl ?_
    refine pw_if_eq (t := 52) (pc := 41) dX2_join_41 (by decide) (by first | omega) (fun c41 => ?_) (fun c41 => ?_)
    · refine pw_iconst (pc := 52) dX2_join_52 ?_
      exact pw_iret (pc := 53) dX2_join_53 (by first | omega) (⟨rfl, by rw [sw1]; show _ = if ¬ a = 0 ∧ ¬ b = 0 then (1 : Int) else 0; split <;> omega⟩)
    · refine pw_iload_n (z := b) (pc := 44) dX2_join_44 rfl rfl ?_
      refine pw_if_eq (t := 52) (pc := 45) dX2_join_45 (by decide) (by first | omega) (fun c45 => ?_) (fun c45 => ?_)
      · refine pw_iconst (pc := 52) dX2_join_52 ?_
        exact pw_iret (pc := 53) dX2_join_53 (by first | omega) (⟨rfl, by rw [sw1]; show _ = if ¬ a = 0 ∧ ¬ b = 0 then (1 : Int) else 0; split <;> omega⟩)
      · refine pw_iconst (pc := 48) dX2_join_48 ?_
        refine pw_goto (t := 53) (pc := 49) dX2_join_49 (by decide) ?_
        exact pw_iret (pc := 53) dX2_join_53 (by first | omega) (⟨rfl, by rw [sw1]; show _ = if ¬ a = 0 ∧ ¬ b = 0 then (1 : Int) else 0; split <;> omega⟩)
  · refine pw_tableIn (t := 54) (off := 53) (pc := 1) dX2_join_1 (by first | omega) (by omega) (by omega) (by rw [sw1]; rfl) (by decide) ?_
    refine pw_iload_n (z := a) (pc := 54) dX2_join_54 rfl rfl ?_
    refine pw_if_ne (t := 62) (pc := 55) dX2_join_55 (by decide) (by first | omega) (fun c55 => ?_) (fun c55 => ?_)
    · refine pw_iconst (pc := 62) dX2_join_62 ?_
      refine pw_goto (t := 67) (pc := 63) dX2_join_63 (by decide) ?_
      exact pw_iret (pc := 67) dX2_join_67 (by first | omega) (⟨rfl, by rw [sw1]; show _ = if ¬ a = 0 ∨ ¬ b = 0 then (1 : Int) else 0; split <;> omega⟩)
    · refine pw_iload_n (z := b) (pc := 58) dX2_join_58 rfl rfl ?_
      refine pw_if_eq (t := 66) (pc := 59) dX2_join_59 (by decide) (by first | omega) (fun c59 => ?_) (fun c59 => ?_)
      · refine pw_iconst (pc := 66) dX2_join_66 ?_
        exact pw_iret (pc := 67) dX2_join_67 (by first | omega) (⟨rfl, by rw [sw1]; show _ = if ¬ a = 0 ∨ ¬ b = 0 then (1 : Int) else 0; split <;> omega⟩)
      · refine pw_iconst (pc := 62) dX2_join_62 ?_
        refine pw_goto (t := 67) (pc := 63) dX2_join_63 (by decide) ?_
        exact pw_iret (pc := 67) dX2_join_67 (by first | omega) (⟨rfl, by rw [sw1]; show _ = if ¬ a = 0 ∨ ¬ b = 0 then (1 : Int) else 0; split <;> omega⟩)
  · refine pw_tableIn (t := 68) (off := 67) (pc := 1) dX2_join_1 (by first | omega) (by omega) (by omega) (by rw [sw1]; rfl) (by decide) ?_
    refine pw_iload_n (z := a) (pc := 68) dX2_join_68 rfl rfl ?_
    refine pw_iload_n (z := b) (pc := 69) dX2_join_69 rfl rfl ?_
    refine pw_icmp_ge (t := 77) (pc := 70) dX2_join_70 (by decide) (by first | omega) (by first | omega) (fun c70 => ?_) (fun c70 => ?_)
    · refine pw_iconst (pc := 77) dX2_join_77 ?_
      exact pw_iret (pc := 78) dX2_join_78 (by first | omega) (⟨rfl, by rw [sw1]; show _ = if a < b then (1 : Int) else 0; split <;> omega⟩)
    · refine pw_iconst (pc := 73) dX2_join_73 ?_
      refine pw_goto (t := 78) (pc := 74) dX2_join_74 (by decide) ?_
      exact pw_iret (pc := 78) dX2_join_78 (by first | omega) (⟨rfl, by rw [sw1]; show _ = if a < b then (1 : Int) else 0; split <;> omega⟩)
  · refine pw_tableIn (t := 79) (off := 78) (pc := 1) dX2_join_1 (by first | omega) (by omega) (by omega) (by rw [sw1]; rfl) (by decide) ?_
    refine pw_iload_n (z := a) (pc := 79) dX2_join_79 rfl rfl ?_
    refine pw_iload_n (z := b) (pc := 80) dX2_join_80 rfl rfl ?_
    refine pw_icmp_ne (t := 88) (pc := 81) dX2_join_81 (by decide) (by first | omega) (by first | omega) (fun c81 => ?_) (fun c81 => ?_)
    · refine pw_iconst (pc := 88) dX2_join_88 ?_
      exact pw_iret (pc := 89) dX2_join_89 (by first | omega) (⟨rfl, by rw [sw1]; show _ = if a = b then (1 : Int) else 0; split <;> omega⟩)
    · refine pw_iconst (pc := 84) dX2_join_84 ?_
      refine pw_goto (t := 89) (pc := 85) dX2_join_85 (by decide) ?_
      exact pw_iret (pc := 89) dX2_join_89 (by first | omega) (⟨rfl, by rw [sw1]; show _ = if a = b then (1 : Int) else 0; split <;> omega⟩)
  · refine pw_tableIn (t := 90) (off := 89) (pc := 1) dX2_join_1 (by first | omega) (by omega) (by omega) (by rw [sw1]; rfl) (by decide) ?_
    refine pw_iload_n (z := a) (pc := 90) dX2_join_90 rfl rfl ?_
    refine pw_iload_n (z := b) (pc := 91) dX2_join_91 rfl rfl ?_
    refine pw_iadd (pc := 92) dX2_join_92 ?_
    have wq := wr_ir (a + b)
    refine pw_norm ?_
    exact pw_iret (pc := 93) dX2_join_93 (by first | omega) (⟨rfl, by rw [sw1]; rfl⟩)
  · refine pw_tableIn (t := 94) (off := 93) (pc := 1) dX2_join_1 (by first | omega) (by omega) (by omega) (by rw [sw1]; rfl) (by decide) ?_
    refine pw_iload_n (z := a) (pc := 94) dX2_join_94 rfl rfl ?_
    refine pw_iload_n (z := b) (pc := 95) dX2_join_95 rfl rfl ?_
    refine pw_isub (pc := 96) dX2_join_96 ?_
    have wq := wr_ir (a - b)
    refine pw_norm ?_
    exact pw_iret (pc := 97) dX2_join_97 (by first | omega) (⟨rfl, by rw [sw1]; rfl⟩)
  · refine pw_tableOut (t := 98) (pc := 1) dX2_join_1 (by first | omega) sw1 (by decide) ?_
    refine pw_iload_n (z := a) (pc := 98) dX2_join_98 rfl rfl ?_
    refine pw_iload_n (z := b) (pc := 99) dX2_join_99 rfl rfl ?_
    refine pw_imul (pc := 100) dX2_join_100 ?_
    have wq := wr_ir (a * b)
    refine pw_norm ?_
    exact pw_iret (pc := 101) dX2_join_101 (by first | omega) (⟨rfl, by rw [show c = 20007 by omega]; rfl⟩)

