theorem rsm_c2 {f g : Int → Int} {k : Int} (hk : 0 ≤ k ∧ k < 4) (h : ∀ x, 0 ≤ x → x < 16 → f x = g x) : ∀ n : Nat, n ≤ 4 → rsm_ f k n = rsm_ g k n ∧ csm_ f k n = csm_ g k n
  | 0, _ => ⟨rfl, rfl⟩
  | n + 1, hn => by
    have := rsm_c2 hk h n (by omega)
    unfold rsm_ csm_
    rw [this.1, this.2, h (4 * k + n) (by omega) (by omega), h (4 * n + k) (by omega) (by omega)]
    exact ⟨rfl, rfl⟩
theorem adl_c2 {f g : Int → Int} {S m : Int} (h : ∀ x, 0 ≤ x → x < 16 → f x = g x) (hS : S ≤ 4) (ha : adl_ g S m) : adl_ f S m := fun k k0 k1 => by
  have := rsm_c2 (k := k) (by omega) h S.toNat (by omega)
  rw [this.1, this.2]; exact ha k k0 k1

set_option maxHeartbeats 4000000 in
set_option maxRecDepth 100000 in
theorem d_cutUp {G : GT_} (hC : okC_ G) (h : PH_) (o : Nat) (ho : is6_ o) (ro : Int → Int) (H : CRD_ ro h o) (a : Nat) (k_a : kd_ a = 0) (l_a : ln_ a = 16) (ha : 36 ≤ a ∧ a < 161) (hb : ∀ x, 0 ≤ x → x < 16 → 0 ≤ h a x ∧ h a x ≤ 99) (t : Int) (h1 : 0 ≤ t ∧ t < ro 1) (hmi : 1 ≤ ro (11 + 5 * t) ∧ ro (11 + 5 * t) ≤ 99) : PC G yX4_cutUp cX4_cutUp 4 (some .boolean) 4 [rr_ G 161, rr_ G o, rr_ G a, ii_ t] h (qi_ (fun z h' => (z = 1 ∧ (ro 2 = ro 0 ∧ adl_ (h a) (ro 0) (ro (11 + 5 * t))) ∧ off_ [161, 162, 163, 164, 165] h h' ∧ ∃ lf L, (∀ x, 0 ≤ x → x < 16 → lf x = h a x) ∧ L = pcs_ (ro 0) (ro 0) 16 lf (ro (11 + 5 * t)) ∧ h' 161 4 = (L.length : Int) ∧ L.length ≤ 16 ∧ pcc_ (h' 164) (h' 165) L) ∨ (z = 0 ∧ h = h' ∧ ¬ (ro 2 = ro 0 ∧ adl_ (h a) (ro 0) (ro (11 + 5 * t)))))) := by
  have HB := H.2.1
  have HA := H.1
  have HM := H.2.2.1 t 0 h1.1 h1.2 (by omega) (by omega)
  rw [Int.add_zero, Int.add_zero] at HM
  refine PC.of (lv := [some (rr_ G 161), some (rr_ G o), some (rr_ G a), some (ii_ t)]) (by decide +kernel) (Nat.le_of_ble_eq_true rfl) rfl rfl ?_
  refine pw_aload_n (z := o) (pc := 0) dX4_cutUp_0 rfl rfl ?_
  refine pw_gI (x := 2) (pc := 1) dX4_cutUp_1 fX4_24 (hC _ (by omega)) (kd6_0 ho) rfl rfl (fun r1 => ?_)
  refine pw_aload_n (z := o) (pc := 4) dX4_cutUp_4 rfl rfl ?_
  refine pw_gI (x := 0) (pc := 5) dX4_cutUp_5 fX4_30 (hC _ (by omega)) (kd6_0 ho) rfl rfl (fun r5 => ?_)
  refine pw_icmp_ne (t := 24) (pc := 8) dX4_cutUp_8 (by decide) (by first | omega) (by first | omega) (fun c8 => ?_) (fun c8 => ?_)
  · refine pw_iconst (pc := 24) dX4_cutUp_24 ?_
    exact pw_zret (pc := 25) dX4_cutUp_25 (by first | omega) (by first | exact Or.inr ⟨rfl, rfl, fun u => p18 u.2⟩ | exact Or.inr ⟨rfl, rfl, fun u => by have := u.1; omega⟩)
  · refine pw_aload_n (z := o) (pc := 11) dX4_cutUp_11 rfl rfl ?_
    refine pw_aload_n (z := a) (pc := 12) dX4_cutUp_12 rfl rfl ?_
    refine pw_aload_n (z := o) (pc := 13) dX4_cutUp_13 rfl rfl ?_
    refine pw_iload_n (z := t) (pc := 14) dX4_cutUp_14 rfl rfl ?_
    refine pw_callV (c := 6) (o := o) (As := [ii_ t]) (rest := [rr_ G a, rr_ G o]) (pc := 15) dX4_cutUp_15 (d_minutesOf hC h o ho t (by first | omega)) lX4_32 mX6_minutesOf vX6_minutesOf (hC _ (by omega)) (kd6_0 ho) rfl rfl rfl (by decide) ⟨Nat.zero_le _, Nat.zero_le _⟩ (Nat.le_of_ble_eq_true rfl) (k_i (fun z15 h15 y15 q15 => ?_))
    obtain ⟨rfl, w15⟩ := q15
    have w15b : z15 = ro (11 + 5 * t) := by rw [w15]; exact HM
    refine pw_callS (As := [rr_ G o, rr_ G a, ii_ z15]) (rest := []) (pc := 18) dX4_cutUp_18 (d_addsUp hC h o ho ro H a k_a l_a (by first | omega) hb z15 (by first | omega)) lX4_36 mX4_addsUp sX4_addsUp rfl rfl (by decide) ⟨Nat.zero_le _, Nat.zero_le _⟩ (Nat.le_of_ble_eq_true rfl) (k_i (fun z18 h18 y18 q18 => ?_))
    obtain ⟨rfl, ⟨rfl, p18⟩ | ⟨rfl, p18⟩⟩ := q18
    · rw [w15b] at p18
      refine pw_if_ne (t := 26) (pc := 21) dX4_cutUp_21 (by decide) (by first | omega) (fun _ => ?_) (fun c21 => absurd c21 (by decide))
      refine pw_aload_n (z := a) (pc := 26) dX4_cutUp_26 rfl rfl ?_
      refine pw_iconst (pc := 27) dX4_cutUp_27 ?_
      refine pw_aload_n (z := 161) (pc := 28) dX4_cutUp_28 rfl rfl ?_
      refine pw_getR (r := 162) (pc := 29) dX4_cutUp_29 fX4_9 (hC 161 (by decide)) (show kd_ 161 = 14 by decide +kernel) rfl (by decide +kernel) ?_
      refine pw_iconst (pc := 32) dX4_cutUp_32 ?_
      refine pw_aload_n (z := 161) (pc := 33) dX4_cutUp_33 rfl rfl ?_
      refine pw_getR (r := 162) (pc := 34) dX4_cutUp_34 fX4_9 (hC 161 (by decide)) (show kd_ 161 = 14 by decide +kernel) rfl (by decide +kernel) ?_
      refine pw_alen (pc := 37) dX4_cutUp_37 (hC 162 (by decide)) _ (show kd_ 162 = 0 by decide +kernel) (by decide) 16 (by decide +kernel) ?_
      refine pw_copy (n0 := 16) (n1 := 16) (pc := 38) dX4_cutUp_38 lX4_40 (hC _ (by omega)) (hC 162 (by decide)) k_a (show kd_ 162 = 0 by decide +kernel) l_a (by decide +kernel) (by first | omega) (by first | omega) (by first | omega) (by decide) (by decide) (Nat.le_of_ble_eq_true rfl) ?_
      obtain ⟨g38, e38⟩ : ∃ x, x = sc_ h 162 (fun x => if 0 ≤ x ∧ x < 0 + 16 then h a (x - 0 + 0) else h 162 x) := ⟨_, rfl⟩
      refine pw_heq e38 ?_
      have f38 : off_ [162] h g38 := fun j hj => by rw [e38]; exact sc_off (by simpa using hj)
      have eRS : ro 2 = ro 0 := by omega
      have lf0 : ∀ x, 0 ≤ x → x < 16 → g38 162 x = h a x := fun x x0 x1 => by
        rw [e38, sc_at]
        show (if _ then _ else _) = _
        rw [if_pos (by omega), show x - 0 + 0 = x by omega]
      have piv0 : piv_ (ro 0) (g38 162) (ro (11 + 5 * t)) := ⟨fun x x0 x1 => by rw [lf0 x x0 x1]; exact hb x x0 x1, adl_c2 lf0 (by omega) p18⟩
      refine pw_aload_n (z := 161) (pc := 41) dX4_cutUp_41 rfl rfl ?_
      refine pw_iconst (pc := 42) dX4_cutUp_42 ?_
      refine pw_pI (x := 4) (pc := 43) dX4_cutUp_43 fX4_46 (hC 161 (by decide)) (show kd_ 161 = 14 by decide +kernel) rfl rfl (by first | omega) ?_
      obtain ⟨g43, e43⟩ : ∃ x, x = up_ g38 161 4 0 := ⟨_, rfl⟩
      refine pw_heq e43 ?_
      have L46 : ∀ (nn : Nat) (L1 : List (Int × Int)) (y : Int) (hq : PH_), (off_ [161, 162, 163, 164, 165] h hq) → (hq 161 4 = (L1.length : Int) ∧ L1.length ≤ 16) → (piv_ (ro 0) (hq 162) y) → (pcs_ (ro 0) (ro 0) 16 (g38 162) (ro (11 + 5 * t)) = L1 ++ pcs_ (ro 0) (ro 0) (16 - L1.length) (hq 162) y) → (pcc_ (hq 164) (hq 165) L1) → ((17 - (L1.length : Int) : Int) ≤ nn) → PW G RX4 cX4_cutUp 4 (some .boolean) (rm_ 4) 0 0 (zm_ G (qi_ (fun z h' => (z = 1 ∧ (ro 2 = ro 0 ∧ adl_ (h a) (ro 0) (ro (11 + 5 * t))) ∧ off_ [161, 162, 163, 164, 165] h h' ∧ ∃ lf L, (∀ x, 0 ≤ x → x < 16 → lf x = h a x) ∧ L = pcs_ (ro 0) (ro 0) 16 lf (ro (11 + 5 * t)) ∧ h' 161 4 = (L.length : Int) ∧ L.length ≤ 16 ∧ pcc_ (h' 164) (h' 165) L) ∨ (z = 0 ∧ h = h' ∧ ¬ (ro 2 = ro 0 ∧ adl_ (h a) (ro 0) (ro (11 + 5 * t))))))) 46 [some (rr_ G 161), some (rr_ G o), some (rr_ G a), some (ii_ t)] [] hq := by
        intro nn
        induction nn with
        | zero => intro L1 y hq af an ap aL aa ams; exfalso; omega
        | succ nn ih46 =>
          intro L1 y hq af an ap aL aa ams
          have Hq : CRD_ ro hq o := CRD_off H ho af (by simp)
          refine pw_aload_n (z := 161) (pc := 46) dX4_cutUp_46 rfl rfl ?_
          refine pw_gI (x := 4) (pc := 47) dX4_cutUp_47 fX4_46 (hC 161 (by decide)) (show kd_ 161 = 14 by decide +kernel) rfl rfl (fun r47 => ?_)
          refine pw_bipush (pc := 50) dX4_cutUp_50 rfl ?_
          refine pw_icmp_ge (t := 76) (pc := 52) dX4_cutUp_52 (by decide) (by first | omega) (by first | omega) (fun c52 => ?_) (fun c52 => ?_)
          · refine pw_iconst (pc := 76) dX4_cutUp_76 ?_
            exact pw_zret (pc := 77) dX4_cutUp_77 (by first | omega) (by
                  first
                  | (refine Or.inl ⟨rfl, ⟨eRS, p18⟩, off_tr af (off_mo p57.1 (by decide)), g38 162, L1, lf0, ?_, by rw [p57.1 161 (by decide)]; exact an.1, an.2, by rw [p57.1 164 (by decide), p57.1 165 (by decide)]; exact aa⟩
                     have nn := p57.2; rw [eRS] at nn
                     rw [aL, pcs_n (by omega) ap nn, List.append_nil])
                  | (refine Or.inl ⟨rfl, ⟨eRS, p18⟩, af, g38 162, L1, lf0, ?_, an.1, an.2, aa⟩
                     rw [aL, show 16 - L1.length = 0 by omega]; exact (List.append_nil _).symm))
          · refine pw_aload_n (z := 161) (pc := 55) dX4_cutUp_55 rfl rfl ?_
            refine pw_aload_n (z := o) (pc := 56) dX4_cutUp_56 rfl rfl ?_
            refine pw_callV (c := 4) (o := 161) (As := [rr_ G o]) (rest := []) (pc := 57) dX4_cutUp_57 (d_cutOne hC hq o ho ro Hq (by first | omega) ap.1 (by first | omega)) lX4_49 mX4_cutOne vX4_cutOne (hC 161 (by decide)) (show kd_ 161 = 14 by decide +kernel) rfl rfl rfl (by decide) ⟨Nat.zero_le _, Nat.zero_le _⟩ (Nat.le_of_ble_eq_true rfl) (k_i (fun z57 h57 y57 q57 => ?_))
            obtain ⟨rfl, p57⟩ | ⟨rfl, p57⟩ := q57
            · obtain ⟨f57, p, q1, q2, q3, q4, q5, q6⟩ := p57
              rw [eRS] at q1 q3 q4 q6
              have e161 : h57 161 4 = hq 161 4 := congrFun (f57 161 (by decide)) 4
              have pc := pcs_c (by omega) ap q1 q2 q3 (15 - L1.length)
              refine pw_if_eq (t := 76) (pc := 60) dX4_cutUp_60 (by decide) (by first | omega) (fun c60 => absurd c60 (by decide)) (fun _ => ?_)
              refine pw_aload_n (z := 161) (pc := 63) dX4_cutUp_63 rfl rfl ?_
              refine pw_dup (pc := 64) dX4_cutUp_64 rfl ?_
              refine pw_gI (x := 4) (pc := 65) dX4_cutUp_65 fX4_46 (hC 161 (by decide)) (show kd_ 161 = 14 by decide +kernel) rfl rfl (fun r65 => ?_)
              refine pw_iconst (pc := 68) dX4_cutUp_68 ?_
              refine pw_iadd (pc := 69) dX4_cutUp_69 ?_
              refine pw_pI (x := 4) (pc := 70) dX4_cutUp_70 fX4_46 (hC 161 (by decide)) (show kd_ 161 = 14 by decide +kernel) rfl rfl (by first | omega) ?_
              obtain ⟨g70, e70⟩ : ∃ x, x = up_ h57 161 4 ((h57 161 4) + 1) := ⟨_, rfl⟩
              refine pw_heq e70 ?_
              have ll : (L1 ++ [(p, lst_ (hq 162) (dg_ (ro 0) p) (ro 0).toNat)]).length = L1.length + 1 := by simp
              refine pw_goto (t := 46) (pc := 73) dX4_cutUp_73 (by decide) ?_
              exact ih46 (L1 ++ [(p, lst_ (hq 162) (dg_ (ro 0) p) (ro 0).toNat)]) (y - lst_ (hq 162) (dg_ (ro 0) p) (ro 0).toNat) _ (by rw [e70]; exact off_up (off_tr af (off_mo f57 (by decide))) (by decide)) (⟨by rw [e70, up_same, e161, an.1]; simp, by simp; omega⟩) (by rw [e70, up_off (by decide), q4]; exact pc.2) (by rw [e70, up_off (by decide), q4, aL, show 16 - L1.length = (15 - L1.length) + 1 by omega, pc.1]; simp) (by rw [e70, up_off (by decide), up_off (by decide), q5, q6, an.1]; exact pcc_push aa) (by omega)
            · refine pw_if_eq (t := 76) (pc := 60) dX4_cutUp_60 (by decide) (by first | omega) (fun _ => ?_) (fun c60 => absurd c60 (by decide))
              refine pw_iconst (pc := 76) dX4_cutUp_76 ?_
              exact pw_zret (pc := 77) dX4_cutUp_77 (by first | omega) (by
                    first
                    | (refine Or.inl ⟨rfl, ⟨eRS, p18⟩, off_tr af (off_mo p57.1 (by decide)), g38 162, L1, lf0, ?_, by rw [p57.1 161 (by decide)]; exact an.1, an.2, by rw [p57.1 164 (by decide), p57.1 165 (by decide)]; exact aa⟩
                       have nn := p57.2; rw [eRS] at nn
                       rw [aL, pcs_n (by omega) ap nn, List.append_nil])
                    | (refine Or.inl ⟨rfl, ⟨eRS, p18⟩, af, g38 162, L1, lf0, ?_, an.1, an.2, aa⟩
                       rw [aL, show 16 - L1.length = 0 by omega]; exact (List.append_nil _).symm))
      exact L46 _ [] (ro (11 + 5 * t)) _ (by rw [e43]; exact off_up (off_mo f38 (by decide)) (by decide)) (⟨by rw [e43, up_same]; rfl, by decide⟩) (by rw [e43, up_off (by decide)]; exact piv0) (by rw [e43, up_off (by decide)]; rfl) (fun i hi => by cases hi) (Int.self_le_toNat _)
    · rw [w15b] at p18
      refine pw_if_ne (t := 26) (pc := 21) dX4_cutUp_21 (by decide) (by first | omega) (fun c21 => absurd c21 (by decide)) (fun _ => ?_)
      refine pw_iconst (pc := 24) dX4_cutUp_24 ?_
      exact pw_zret (pc := 25) dX4_cutUp_25 (by first | omega) (by first | exact Or.inr ⟨rfl, rfl, fun u => p18 u.2⟩ | exact Or.inr ⟨rfl, rfl, fun u => by have := u.1; omega⟩)

