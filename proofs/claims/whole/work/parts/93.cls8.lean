/-- how many sit on seat v -/
def ceq_ (si : Int → Int) (v : Int) : Nat → Int
  | 0 => 0
  | n + 1 => ceq_ si v n + if 0 ≤ si n ∧ si n = v then 1 else 0
/-- no two on one seat -/
def inj_ (si : Int → Int) (R : Int) : Prop := ∀ e f, 0 ≤ e → e < f → f < R → 0 ≤ si f → si e ≠ si f
theorem ceq_0 {si : Int → Int} {v : Int} : ∀ {n : Nat}, (∀ e : Int, 0 ≤ e → e < n → si e ≠ v) → ceq_ si v n = 0
  | 0, _ => rfl
  | n + 1, h => by
    show ceq_ si v n + _ = 0
    rw [ceq_0 (n := n) (fun e a b => h e a (by omega)), if_neg (fun u => h n (by omega) (by omega) u.2)]; rfl
theorem ceq_1 {si : Int → Int} {v R : Int} (hi : inj_ si R) : ∀ {n : Nat}, (n : Int) ≤ R → 0 ≤ ceq_ si v n ∧ ceq_ si v n ≤ 1
  | 0, _ => by show 0 ≤ (0 : Int) ∧ (0 : Int) ≤ 1; omega
  | n + 1, h => by
    have h1 := ceq_1 (v := v) hi (n := n) (by omega)
    show 0 ≤ ceq_ si v n + _ ∧ ceq_ si v n + _ ≤ 1
    by_cases c : 0 ≤ si n ∧ si n = v
    · rw [if_pos c, ceq_0 (fun e a b => by rw [← c.2]; exact hi e n a b (by omega) c.1)]; omega
    · rw [if_neg c]; omega
theorem tip_ce {ro si : Int → Int} {r : Int} : ∀ {n : Nat}, tip_ ro si r n ≤ ceq_ si (si r + 1) n + ceq_ si (si r - 1) n
  | 0 => by show (0 : Int) ≤ 0 + 0; omega
  | n + 1 => by
    have h1 := tip_ce (ro := ro) (si := si) (r := r) (n := n)
    unfold tip_ ceq_
    by_cases c : ((n : Int) ≠ r ∧ ro (31 + 4 * (n : Int)) = 2 ∧ 0 ≤ si n ∧ bes_ (ro 10) (si r) (si n))
    · rw [if_t c]
      rcases c.2.2.2 with u | u
      · rw [if_pos (by exact ⟨c.2.2.1, u.1⟩)]; split <;> omega
      · rw [if_pos (show 0 ≤ si n ∧ si n = si r - 1 from ⟨c.2.2.1, by omega⟩)]; split <;> omega
    · rw [if_f c]; split <;> split <;> omega
theorem tip_2 {ro si : Int → Int} {r R : Int} (hi : inj_ si R) {n : Nat} (h : (n : Int) ≤ R) : tip_ ro si r n ≤ 2 := by
  have := tip_ce (ro := ro) (si := si) (r := r) (n := n)
  have := ceq_1 (v := si r + 1) hi h
  have := ceq_1 (v := si r - 1) hi h
  omega
theorem sea_inj {S R : Int} {si : Int → Int} (h : sea_ S si R.toNat) : inj_ si R := fun e f a b c _ => dis_at (sea_at h (r := f) (by omega) (by omega)).2 a (by omega)
theorem bes_xx {g x : Int} : ¬ bes_ g x x := by unfold bes_; omega

set_option maxHeartbeats 4000000 in
set_option maxRecDepth 100000 in
theorem d_worthOf {G : GT_} (hC : okC_ G) (h : PH_) (o : Nat) (ho : is6_ o) (ro : Int → Int) (H : CRD_ ro h o) (P : List (Int × Int)) (hl : CLP_ ro P h o) (hm : CWM_ ro P h o) (a : Nat) (k_a : kd_ a = 0) (l_a : ln_ a = 4) (ha : 36 ≤ a ∧ a < 173) (hs : ∀ r, 0 ≤ r → r < ro 2 → -1 ≤ h a r ∧ h a r < ro 0) (hi : inj_ (h a) (ro 2)) (r t : Int) (h1 : 0 ≤ t ∧ t < ro 1) (h2 : 0 ≤ r ∧ r < ro 2) (h3 : 0 ≤ h a r) : PC G yX6_worthOf cX6_worthOf 6 (some .int) 4 [rr_ G o, rr_ G a, ii_ r, ii_ t] h (qi_ (fun z h' => off_ [o + 10, o + 11, o + 15] h h' ∧ CWM_ ro P h' o ∧ z = wsi_ ro P (h a) r t)) := by
  have HB := H.2.1
  have HA := H.1
  have hsr := hs r h2.1 h2.2
  refine PC.of (lv := [some (rr_ G o), some (rr_ G a), some (ii_ r), some (ii_ t), none, none]) (by decide +kernel) (Nat.le_of_ble_eq_true rfl) rfl rfl ?_
  refine pw_iconst (pc := 0) dX6_worthOf_0 ?_
  refine pw_istore (lv1 := [some (rr_ G o), some (rr_ G a), some (ii_ r), some (ii_ t), some (ii_ 0), none]) (pc := 1) dX6_worthOf_1 (by decide) rfl rfl ?_
  refine pw_iconst (pc := 3) dX6_worthOf_3 ?_
  refine pw_istore (lv1 := [some (rr_ G o), some (rr_ G a), some (ii_ r), some (ii_ t), some (ii_ 0), some (ii_ 0)]) (pc := 4) dX6_worthOf_4 (by decide) rfl rfl ?_
  have L6 : ∀ (nn : Nat) (n : Int) (e : Int), (0 ≤ e ∧ e ≤ ro 2) → (n = tip_ ro (h a) r e.toNat) → ((ro 2 - e + 1 : Int) ≤ nn) → PW G RX6 cX6_worthOf 6 (some .int) (rm_ 4) 0 0 (zm_ G (qi_ (fun z h' => off_ [o + 10, o + 11, o + 15] h h' ∧ CWM_ ro P h' o ∧ z = wsi_ ro P (h a) r t))) 6 [some (rr_ G o), some (rr_ G a), some (ii_ r), some (ii_ t), some (ii_ n), some (ii_ e)] [] h := by
    intro nn
    induction nn with
    | zero => intro n e ak an ams; exfalso; omega
    | succ nn ih6 =>
      intro n e ak an ams
      have tn := tip_nn ro (h a) r e.toNat
      refine pw_iload (z := e) (pc := 6) dX6_worthOf_6 rfl ?_
      refine pw_aload_n (z := o) (pc := 8) dX6_worthOf_8 rfl rfl ?_
      refine pw_gI (x := 2) (pc := 9) dX6_worthOf_9 fX6_60 (hC _ (by omega)) (kd6_0 ho) rfl rfl (fun r9 => ?_)
      refine pw_icmp_ge (t := 49) (pc := 12) dX6_worthOf_12 (by decide) (by first | omega) (by first | omega) (fun c12 => ?_) (fun c12 => ?_)
      · have t2 := tip_2 (ro := ro) (r := r) hi (n := e.toNat) (by omega)
        refine pw_aload_n (z := o) (pc := 49) dX6_worthOf_49 rfl rfl ?_
        refine pw_iload_n (z := t) (pc := 50) dX6_worthOf_50 rfl rfl ?_
        refine pw_iload_n (z := r) (pc := 51) dX6_worthOf_51 rfl rfl ?_
        refine pw_aload_n (z := a) (pc := 52) dX6_worthOf_52 rfl rfl ?_
        refine pw_iload_n (z := r) (pc := 53) dX6_worthOf_53 rfl rfl ?_
        refine pw_iald (pc := 54) dX6_worthOf_54 (hC _ (by omega)) k_a 4 l_a (by first | omega) (by first | omega) (by first | omega) (fun r54 => ?_)
        refine pw_iload (z := n) (pc := 55) dX6_worthOf_55 rfl ?_
        refine pw_callV (c := 6) (o := o) (As := [ii_ t, ii_ r, ii_ (h a r), ii_ n]) (rest := []) (pc := 57) dX6_worthOf_57 (d_worthAt hC h o ho ro H P hl hm t r (h a r) n (by first | omega) (by first | omega) (by first | omega) (by first | omega)) lX6_120 mX6_worthAt vX6_worthAt (hC _ (by omega)) (kd6_0 ho) rfl rfl rfl (by decide) ⟨Nat.zero_le _, Nat.zero_le _⟩ (Nat.le_of_ble_eq_true rfl) (k_i (fun z57 h57 y57 q57 => ?_))
        obtain ⟨u57, v57, w57⟩ := q57
        exact pw_iret (pc := 60) dX6_worthOf_60 (by first | omega) (⟨u57, v57, by rw [w57, an, show e = ro 2 by omega]; rfl⟩)
      · have hse := hs e (by omega) (by omega)
        have HR := H.2.2.2.1 e (by omega) (by omega)
        refine pw_aload_n (z := o) (pc := 15) dX6_worthOf_15 rfl rfl ?_
        refine pw_getR (r := (o + 3)) (pc := 16) dX6_worthOf_16 fX6_19 (hC _ (by omega)) (kd6_0 ho) rfl rfl ?_
        refine pw_iload (z := e) (pc := 19) dX6_worthOf_19 rfl ?_
        refine pw_iald (pc := 21) dX6_worthOf_21 (hC _ (by omega)) (kd6_3 ho) 4 (ln6_3 ho) (by first | omega) (by first | omega) (by first | omega) (fun r21 => ?_)
        refine pw_iconst (pc := 22) dX6_worthOf_22 ?_
        refine pw_icmp_ne (t := 43) (pc := 23) dX6_worthOf_23 (by decide) (by first | omega) (by first | omega) (fun c23 => ?_) (fun c23 => ?_)
        · refine pw_iinc (z := e) (lv1 := [some (rr_ G o), some (rr_ G a), some (ii_ r), some (ii_ t), some (ii_ n), some (ii_ (e + 1))]) (pc := 43) dX6_worthOf_43 rfl (by decide) rfl rfl ?_
          refine pw_goto (t := 6) (pc := 46) dX6_worthOf_46 (by decide) ?_
          exact ih6 _ _ (by omega) (by rw [tip_s _ _ _ ak.1, ← an]; first | (rw [if_t (show (e ≠ r ∧ ro (31 + 4 * e) = 2 ∧ 0 ≤ h a e ∧ bes_ (ro 10) (h a r) (h a e)) from ⟨fun q => by rw [q] at p34; exact bes_xx p34.2.2, by omega, p34.1, bes_sy.mp (by rw [← HA.2.2.2.1]; exact p34.2.2)⟩)]) | (rw [if_f (show ¬ (e ≠ r ∧ ro (31 + 4 * e) = 2 ∧ 0 ≤ h a e ∧ bes_ (ro 10) (h a r) (h a e)) from fun u => by first | omega | exact p34 ⟨u.2.2.1, h3, by rw [HA.2.2.2.1]; exact bes_sy.mp u.2.2.2⟩)]; omega)) (by omega)
        · refine pw_aload_n (z := o) (pc := 26) dX6_worthOf_26 rfl rfl ?_
          refine pw_aload_n (z := a) (pc := 27) dX6_worthOf_27 rfl rfl ?_
          refine pw_iload (z := e) (pc := 28) dX6_worthOf_28 rfl ?_
          refine pw_iald (pc := 30) dX6_worthOf_30 (hC _ (by omega)) k_a 4 l_a (by first | omega) (by first | omega) (by first | omega) (fun r30 => ?_)
          refine pw_aload_n (z := a) (pc := 31) dX6_worthOf_31 rfl rfl ?_
          refine pw_iload_n (z := r) (pc := 32) dX6_worthOf_32 rfl rfl ?_
          refine pw_iald (pc := 33) dX6_worthOf_33 (hC _ (by omega)) k_a 4 l_a (by first | omega) (by first | omega) (by first | omega) (fun r33 => ?_)
          refine pw_callV (c := 6) (o := o) (As := [ii_ (h a e), ii_ (h a r)]) (rest := []) (pc := 34) dX6_worthOf_34 (d_areBeside hC h o ho (h a e) (h a r) (by first | omega) (by first | omega)) lX6_109 mX6_areBeside vX6_areBeside (hC _ (by omega)) (kd6_0 ho) rfl rfl rfl (by decide) ⟨Nat.zero_le _, Nat.zero_le _⟩ (Nat.le_of_ble_eq_true rfl) (k_i (fun z34 h34 y34 q34 => ?_))
          obtain ⟨rfl, ⟨rfl, p34⟩ | ⟨rfl, p34⟩⟩ := q34
          · refine pw_if_eq (t := 43) (pc := 37) dX6_worthOf_37 (by decide) (by first | omega) (fun c37 => absurd c37 (by decide)) (fun _ => ?_)
            refine pw_iinc (z := n) (lv1 := [some (rr_ G o), some (rr_ G a), some (ii_ r), some (ii_ t), some (ii_ (n + 1)), some (ii_ e)]) (pc := 40) dX6_worthOf_40 rfl (by decide) rfl rfl ?_
            refine pw_iinc (z := e) (lv1 := [some (rr_ G o), some (rr_ G a), some (ii_ r), some (ii_ t), some (ii_ (n + 1)), some (ii_ (e + 1))]) (pc := 43) dX6_worthOf_43 rfl (by decide) rfl rfl ?_
            refine pw_goto (t := 6) (pc := 46) dX6_worthOf_46 (by decide) ?_
            exact ih6 _ _ (by omega) (by rw [tip_s _ _ _ ak.1, ← an]; first | (rw [if_t (show (e ≠ r ∧ ro (31 + 4 * e) = 2 ∧ 0 ≤ h a e ∧ bes_ (ro 10) (h a r) (h a e)) from ⟨fun q => by rw [q] at p34; exact bes_xx p34.2.2, by omega, p34.1, bes_sy.mp (by rw [← HA.2.2.2.1]; exact p34.2.2)⟩)]) | (rw [if_f (show ¬ (e ≠ r ∧ ro (31 + 4 * e) = 2 ∧ 0 ≤ h a e ∧ bes_ (ro 10) (h a r) (h a e)) from fun u => by first | omega | exact p34 ⟨u.2.2.1, h3, by rw [HA.2.2.2.1]; exact bes_sy.mp u.2.2.2⟩)]; omega)) (by omega)
          · refine pw_if_eq (t := 43) (pc := 37) dX6_worthOf_37 (by decide) (by first | omega) (fun _ => ?_) (fun c37 => absurd c37 (by decide))
            refine pw_iinc (z := e) (lv1 := [some (rr_ G o), some (rr_ G a), some (ii_ r), some (ii_ t), some (ii_ n), some (ii_ (e + 1))]) (pc := 43) dX6_worthOf_43 rfl (by decide) rfl rfl ?_
            refine pw_goto (t := 6) (pc := 46) dX6_worthOf_46 (by decide) ?_
            exact ih6 _ _ (by omega) (by rw [tip_s _ _ _ ak.1, ← an]; first | (rw [if_t (show (e ≠ r ∧ ro (31 + 4 * e) = 2 ∧ 0 ≤ h a e ∧ bes_ (ro 10) (h a r) (h a e)) from ⟨fun q => by rw [q] at p34; exact bes_xx p34.2.2, by omega, p34.1, bes_sy.mp (by rw [← HA.2.2.2.1]; exact p34.2.2)⟩)]) | (rw [if_f (show ¬ (e ≠ r ∧ ro (31 + 4 * e) = 2 ∧ 0 ≤ h a e ∧ bes_ (ro 10) (h a r) (h a e)) from fun u => by first | omega | exact p34 ⟨u.2.2.1, h3, by rw [HA.2.2.2.1]; exact bes_sy.mp u.2.2.2⟩)]; omega)) (by omega)
  exact L6 _ _ _ (by omega) (rfl) (Int.self_le_toNat _)

set_option maxHeartbeats 4000000 in
set_option maxRecDepth 100000 in
theorem d_seatByRule {G : GT_} (hC : okC_ G) (h : PH_) (o : Nat) (ho : is6_ o) (ro : Int → Int) (H : CRD_ ro h o) (K : List (Int × Int)) (k : Int) (hk : 0 ≤ k ∧ k < 4) (hl : CLA_ h o k K) (h3 : lw3_ K) (s t r : Int) (j1 : ir_ s) (j2 : ir_ t) (j3 : ir_ r) : PC G yX6_seatByRule cX6_seatByRule 6 (some .int) 3 [rr_ G o, ii_ k, ii_ s, ii_ t, ii_ r] h (qi_ (fun z h' => off_ [o + 10, o + 11] h h' ∧ z = ew_ (f3_ s t r) K % ro 0)) := by
  have HB := H.2.1
  have HA := H.1
  refine PC.of (lv := [some (rr_ G o), some (ii_ k), some (ii_ s), some (ii_ t), some (ii_ r), none]) (by decide +kernel) (Nat.le_of_ble_eq_true rfl) rfl rfl ?_
  refine pw_aload_n (z := o) (pc := 0) dX6_seatByRule_0 rfl rfl ?_
  refine pw_getR (r := (o + 8)) (pc := 1) dX6_seatByRule_1 fX6_37 (hC _ (by omega)) (kd6_0 ho) rfl rfl ?_
  refine pw_getR (r := (o + 11)) (pc := 4) dX6_seatByRule_4 fX6_124 (hC _ (by omega)) (kd6_8 ho) rfl rfl ?_
  refine pw_iconst (pc := 7) dX6_seatByRule_7 ?_
  refine pw_iload_n (z := s) (pc := 8) dX6_seatByRule_8 rfl rfl ?_
  refine pw_iast (pc := 9) dX6_seatByRule_9 (hC _ (by omega)) (kd6_11 ho) 5 (ln6_11 ho) (by first | omega) (by first | omega) (by first | omega) (by first | omega) ?_
  obtain ⟨g9, e9⟩ : ∃ x, x = up_ h (o + 11) 0 s := ⟨_, rfl⟩
  refine pw_heq e9 ?_
  refine pw_aload_n (z := o) (pc := 10) dX6_seatByRule_10 rfl rfl ?_
  refine pw_getR (r := (o + 8)) (pc := 11) dX6_seatByRule_11 fX6_37 (hC _ (by omega)) (kd6_0 ho) rfl rfl ?_
  refine pw_getR (r := (o + 11)) (pc := 14) dX6_seatByRule_14 fX6_124 (hC _ (by omega)) (kd6_8 ho) rfl rfl ?_
  refine pw_iconst (pc := 17) dX6_seatByRule_17 ?_
  refine pw_iload_n (z := t) (pc := 18) dX6_seatByRule_18 rfl rfl ?_
  refine pw_iast (pc := 19) dX6_seatByRule_19 (hC _ (by omega)) (kd6_11 ho) 5 (ln6_11 ho) (by first | omega) (by first | omega) (by first | omega) (by first | omega) ?_
  obtain ⟨g19, e19⟩ : ∃ x, x = up_ g9 (o + 11) 1 t := ⟨_, rfl⟩
  refine pw_heq e19 ?_
  refine pw_aload_n (z := o) (pc := 20) dX6_seatByRule_20 rfl rfl ?_
  refine pw_getR (r := (o + 8)) (pc := 21) dX6_seatByRule_21 fX6_37 (hC _ (by omega)) (kd6_0 ho) rfl rfl ?_
  refine pw_getR (r := (o + 11)) (pc := 24) dX6_seatByRule_24 fX6_124 (hC _ (by omega)) (kd6_8 ho) rfl rfl ?_
  refine pw_iconst (pc := 27) dX6_seatByRule_27 ?_
  refine pw_iload (z := r) (pc := 28) dX6_seatByRule_28 rfl ?_
  refine pw_iast (pc := 30) dX6_seatByRule_30 (hC _ (by omega)) (kd6_11 ho) 5 (ln6_11 ho) (by first | omega) (by first | omega) (by first | omega) (by first | omega) ?_
  obtain ⟨g30, e30⟩ : ∃ x, x = up_ g19 (o + 11) 2 r := ⟨_, rfl⟩
  refine pw_heq e30 ?_
  have qo : off_ [o + 11] h g30 := by rw [e30, e19, e9]; exact off_up (off_up (off_up off_rf (by simp)) (by simp)) (by simp)
  have q12 := qo (o + 12) (by simp)
  have q13 := qo (o + 13) (by simp)
  have lw : CLA_ g30 o k K := CLA_cg hl (qo _ (by simp)) q12 q13 (qo _ (by simp))
  have lw2 := lw.2.1
  have q124 := congrFun q12 k
  have q134 := congrFun q13 k
  have eq0 : g30 o 0 = ro 0 := by rw [qo o (by simp)]; exact HA.1
  refine pw_aload_n (z := o) (pc := 31) dX6_seatByRule_31 rfl rfl ?_
  refine pw_getR (r := (o + 8)) (pc := 32) dX6_seatByRule_32 fX6_37 (hC _ (by omega)) (kd6_0 ho) rfl rfl ?_
  refine pw_aload_n (z := o) (pc := 35) dX6_seatByRule_35 rfl rfl ?_
  refine pw_getR (r := (o + 12)) (pc := 36) dX6_seatByRule_36 fX6_41 (hC _ (by omega)) (kd6_0 ho) rfl rfl ?_
  refine pw_iload_n (z := k) (pc := 39) dX6_seatByRule_39 rfl rfl ?_
  refine pw_iald (pc := 40) dX6_seatByRule_40 (hC _ (by omega)) (kd6_12 ho) 5 (ln6_12 ho) (by first | omega) (by first | omega) (by first | omega) (fun r40 => ?_)
  have n_g30_o_12 : g30 (o + 12) = h (o + 12) := (((show g30 (o + 12) = g19 (o + 12) from (by rw [e30]; exact up_off (by first | decide | omega))).trans (show g19 (o + 12) = g9 (o + 12) from (by rw [e19]; exact up_off (by first | decide | omega)))).trans (show g9 (o + 12) = h (o + 12) from (by rw [e9]; exact up_off (by first | decide | omega))))
  rw [n_g30_o_12] at r40 ⊢
  refine pw_aload_n (z := o) (pc := 41) dX6_seatByRule_41 rfl rfl ?_
  refine pw_getR (r := (o + 13)) (pc := 42) dX6_seatByRule_42 fX6_44 (hC _ (by omega)) (kd6_0 ho) rfl rfl ?_
  refine pw_iload_n (z := k) (pc := 45) dX6_seatByRule_45 rfl rfl ?_
  refine pw_iald (pc := 46) dX6_seatByRule_46 (hC _ (by omega)) (kd6_13 ho) 5 (ln6_13 ho) (by first | omega | (simp only [n_g30_o_12]; omega)) (by first | omega | (simp only [n_g30_o_12]; omega)) (by first | omega | (simp only [n_g30_o_12]; omega)) (fun r46 => ?_)
  have n_g30_o_13 : g30 (o + 13) = h (o + 13) := (((show g30 (o + 13) = g19 (o + 13) from (by rw [e30]; exact up_off (by first | decide | omega))).trans (show g19 (o + 13) = g9 (o + 13) from (by rw [e19]; exact up_off (by first | decide | omega)))).trans (show g9 (o + 13) = h (o + 13) from (by rw [e9]; exact up_off (by first | decide | omega))))
  rw [n_g30_o_13] at r46 ⊢
  refine pw_callV (c := 2) (o := (o + 8)) (As := [ii_ (h (o + 12) k), ii_ (h (o + 13) k)]) (rest := []) (pc := 47) dX6_seatByRule_47 (d_workOut hC g30 o ho (h (o + 12) k) (h (o + 13) k) K (by rw [← q124]; exact lw.1) (by first | omega | (simp only [n_g30_o_12, n_g30_o_13]; omega)) lw.2.2.1 lw.2.2.2) lX6_138 mX2_workOut vX2_workOut (hC _ (by omega)) (kd6_8 ho) rfl rfl rfl (by decide) ⟨Nat.zero_le _, Nat.zero_le _⟩ (Nat.le_of_ble_eq_true rfl) (k_i (fun z47 h47 y47 q47 => ?_))
  obtain ⟨f47, w47⟩ := q47
  have e50 : h47 o 0 = ro 0 := by rw [f47 o (by simp)]; exact eq0
  refine pw_istore (lv1 := [some (rr_ G o), some (ii_ k), some (ii_ s), some (ii_ t), some (ii_ r), some (ii_ z47)]) (pc := 50) dX6_seatByRule_50 (by decide) rfl rfl ?_
  refine pw_aload_n (z := o) (pc := 52) dX6_seatByRule_52 rfl rfl ?_
  refine pw_gI (x := 0) (pc := 53) dX6_seatByRule_53 fX6_53 (hC _ (by omega)) (kd6_0 ho) rfl rfl (fun r53 => ?_)
  refine pw_if_le (t := 71) (pc := 56) dX6_seatByRule_56 (by decide) (by first | omega | (simp only [n_g30_o_12, n_g30_o_13]; omega)) (fun c56 => ?_) (fun c56 => ?_)
  · exfalso; omega
  · refine pw_iload (z := z47) (pc := 59) dX6_seatByRule_59 rfl ?_
    refine pw_aload_n (z := o) (pc := 61) dX6_seatByRule_61 rfl rfl ?_
    refine pw_gI (x := 0) (pc := 62) dX6_seatByRule_62 fX6_53 (hC _ (by omega)) (kd6_0 ho) rfl rfl (fun r62 => ?_)
    refine pw_fmod (pc := 65) dX6_seatByRule_65 lX6_141 (by first | omega | (simp only [n_g30_o_12, n_g30_o_13]; omega)) (by first | omega | (simp only [n_g30_o_12, n_g30_o_13]; omega)) (by decide) ⟨Nat.zero_le _, Nat.zero_le _⟩ (Nat.le_of_ble_eq_true rfl) ?_
    refine pw_goto (t := 72) (pc := 68) dX6_seatByRule_68 (by decide) ?_
    have m1 := Int.emod_nonneg z47 (show h47 o 0 ≠ 0 by omega)
    have m2 := Int.emod_lt_of_pos z47 (show 0 < h47 o 0 by omega)
    exact pw_iret (pc := 72) dX6_seatByRule_72 (by first | omega | (simp only [n_g30_o_12, n_g30_o_13]; omega)) (⟨off_tr (off_mo qo (by simp)) (off_mo f47 (by simp)), by rw [w47, e50]; unfold ew_; rw [evl_c3 (g := f3_ s t r) (by rw [e30, e19, e9]; simp [up_ap, f3_]) (by rw [e30, e19, e9]; simp [up_ap, f3_]) (by rw [e30, e19, e9]; simp [up_ap, f3_]) h3]⟩)

