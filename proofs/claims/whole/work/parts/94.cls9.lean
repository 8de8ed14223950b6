/-- how many of the first n sit -/
def csn_ (f : Int → Int) : Nat → Int
  | 0 => 0
  | n + 1 => csn_ f n + if f n = -1 then 0 else 1
theorem csn_s {f : Int → Int} {r : Int} (h : 0 ≤ r) : csn_ f (r + 1).toNat = csn_ f r.toNat + if f r = -1 then 0 else 1 := by rw [tn_s h]; show csn_ f r.toNat + (if f (r.toNat : Int) = -1 then 0 else 1) = _; rw [tn_c h]
theorem csn_b {f : Int → Int} : ∀ n, 0 ≤ csn_ f n ∧ csn_ f n ≤ n
  | 0 => by show 0 ≤ (0 : Int) ∧ (0 : Int) ≤ 0; omega
  | n + 1 => by have := csn_b (f := f) n; unfold csn_; split <;> omega
/-- a rider takes a seat: who sat there -/
def tkq_ (f : Int → Int) (r g z : Int) (n : Int) : Prop := (z = -1 ∧ ∀ e, 0 ≤ e → e < n → e ≠ r → f e ≠ g) ∨ (0 ≤ z ∧ z < n ∧ z ≠ r ∧ f z = g)
def tkf_ (f : Int → Int) (r g z : Int) : Int → Int := fun x => if x = r then g else if 0 ≤ z ∧ x = z then f r else f x
theorem tkq_1 {f : Int → Int} {r g w e : Int} (h : tkq_ f r g w e) (he : e = r) : tkq_ f r g w (e + 1) := by
  rcases h with h | h
  · exact Or.inl ⟨h.1, fun x a b c => h.2 x a (by omega) c⟩
  · exact Or.inr ⟨h.1, by omega, h.2.2⟩
theorem tkq_b {f : Int → Int} {r g w e : Int} (h : tkq_ f r g w e) : -1 ≤ w ∧ (w < e ∨ w = -1) := by rcases h with h | h <;> omega
/-- what the seats are while the others are looked through -/
theorem tkq_e {h hq : PH_} {i : Nat} {r w e : Int} (ah : hq = sc_ h i (fun x => if 0 ≤ w ∧ x = w then h i r else h i x)) (hw : e ≠ w) : hq i e = h i e := by rw [ah, sc_at, if_neg (fun q => hw q.2)]
theorem tkq_w {f : Int → Int} {r g w e : Int} (h : tkq_ f r g w e) (he : 0 ≤ e) : e ≠ w := by rcases h with h | h <;> omega
theorem tkq_2 {h hq : PH_} {i : Nat} {r g w e : Int} (aw : tkq_ (h i) r g w e) (ah : hq = sc_ h i (fun x => if 0 ≤ w ∧ x = w then h i r else h i x)) (hu : ∀ e f, 0 ≤ e → e < 4 → 0 ≤ f → f < 4 → e ≠ f → h i e = g → h i f ≠ g) (h0 : 0 ≤ e) (h1 : e < 4) (h2 : 0 ≤ r) (hr : ¬ e = r) (hc : ¬ hq i e = g) : tkq_ (h i) r g w (e + 1) := by
  rw [tkq_e ah (tkq_w aw h0)] at hc
  rcases aw with aw | aw
  · refine Or.inl ⟨aw.1, fun x a b c => ?_⟩
    by_cases q : x = e
    · rw [q]; exact hc
    · exact aw.2 x a (by omega) c
  · exact Or.inr ⟨aw.1, by omega, aw.2.2⟩
theorem tkq_3 {h hq : PH_} {i : Nat} {r g w e : Int} (aw : tkq_ (h i) r g w e) (ah : hq = sc_ h i (fun x => if 0 ≤ w ∧ x = w then h i r else h i x)) (hu : ∀ e f, 0 ≤ e → e < 4 → 0 ≤ f → f < 4 → e ≠ f → h i e = g → h i f ≠ g) (h0 : 0 ≤ e) (h1 : e < 4) (hc : hq i e = g) : h i e = g := by
  rw [tkq_e ah (tkq_w aw h0)] at hc; exact hc
theorem tkq_4 {h hq : PH_} {i : Nat} {r g w e : Int} (aw : tkq_ (h i) r g w e) (ah : hq = sc_ h i (fun x => if 0 ≤ w ∧ x = w then h i r else h i x)) (hu : ∀ e f, 0 ≤ e → e < 4 → 0 ≤ f → f < 4 → e ≠ f → h i e = g → h i f ≠ g) (h0 : 0 ≤ e ∧ e < 4) (h1 : 0 ≤ r) (hr : ¬ e = r) (hc : hq i e = g) : up_ hq i e (hq i r) = sc_ h i (fun x => if 0 ≤ e ∧ x = e then h i r else h i x) := by
  have hc2 := tkq_3 aw ah hu h0.1 h0.2 hc
  have hw : w = -1 := by
    rcases aw with aw | aw
    · exact aw.1
    · exact absurd aw.2.2.2 (hu e w h0.1 h0.2 aw.1 (by omega) (by omega) hc2)
  have hq1 : hq = sc_ h i (fun x => if 0 ≤ w ∧ x = w then h i r else h i x) := ah
  have er : hq i r = h i r := tkq_e ah (by omega)
  rw [er, hq1]
  funext j x
  rw [up_ap]
  unfold sc_
  by_cases c : j = i
  · by_cases c2 : x = e
    · simp [c, c2, h0.1]
    · simp only [c, c2, and_false, if_false, if_true]
      rw [if_neg (by omega)]
  · simp [c]
theorem tkq_5 {h : PH_} {i : Nat} {r g w e : Int} (aw : tkq_ (h i) r g w e) : up_ (sc_ h i (fun x => if 0 ≤ w ∧ x = w then h i r else h i x)) i r g = sc_ h i (tkf_ (h i) r g w) := by
  funext j x
  rw [up_ap]
  unfold sc_ tkf_
  by_cases c : j = i
  · by_cases c2 : x = r <;> simp [c, c2]
  · simp [c]

set_option maxHeartbeats 4000000 in
set_option maxRecDepth 100000 in
theorem d_sbegin {G : GT_} (hC : okC_ G) (h : PH_) (s : Nat) (ho_s : is7_ s) (o : Nat) (ho : is6_ o) : PC G yX7_begin cX7_begin 2 none 2 [rr_ G s, rr_ G o] h (qv_ (fun h' => off_ [s, s + 1, s + 2, s + 3] h h' ∧ h' s 3 = 0 ∧ ∀ r, 0 ≤ r → r < 4 → h' (s + 1) r = -1 ∧ h' (s + 2) r = -1 ∧ h' (s + 3) r = h (o + 5) r)) := by
  refine PC.of (lv := [some (rr_ G s), some (rr_ G o)]) (by decide +kernel) (Nat.le_of_ble_eq_true rfl) rfl rfl ?_
  refine pw_aload_n (z := s) (pc := 0) dX7_begin_0 rfl rfl ?_
  refine pw_getR (r := (s + 1)) (pc := 1) dX7_begin_1 fX7_9 (hC _ (by omega)) (kd7_0 ho_s) rfl rfl ?_
  refine pw_iconst (pc := 4) dX7_begin_4 ?_
  refine pw_callS (As := [rr_ G (s + 1), ii_ (-1)]) (rest := []) (pc := 5) dX7_begin_5 (j_fill hC h (s + 1) 4 (-1) (by first | omega) (kd7_1 ho_s) (ln7_1 ho_s) (by omega) (by decide)) lX7_21 mJ7_fill_53178 sJ7_fill_53178 rfl rfl (by decide) ⟨Nat.zero_le _, Nat.zero_le _⟩ (Nat.le_of_ble_eq_true rfl) (k_v (fun h5 e5 => ?_))
  have f5 : off_ [(s + 1)] h h5 := fun j hj => by rw [e5]; exact sc_off (by simpa using hj)
  refine pw_aload_n (z := s) (pc := 8) dX7_begin_8 rfl rfl ?_
  refine pw_getR (r := (s + 2)) (pc := 9) dX7_begin_9 fX7_15 (hC _ (by omega)) (kd7_0 ho_s) rfl rfl ?_
  refine pw_iconst (pc := 12) dX7_begin_12 ?_
  refine pw_callS (As := [rr_ G (s + 2), ii_ (-1)]) (rest := []) (pc := 13) dX7_begin_13 (j_fill hC h5 (s + 2) 4 (-1) (by first | omega) (kd7_2 ho_s) (ln7_2 ho_s) (by omega) (by decide)) lX7_21 mJ7_fill_53178 sJ7_fill_53178 rfl rfl (by decide) ⟨Nat.zero_le _, Nat.zero_le _⟩ (Nat.le_of_ble_eq_true rfl) (k_v (fun h13 e13 => ?_))
  have f13 : off_ [(s + 2)] h5 h13 := fun j hj => by rw [e13]; exact sc_off (by simpa using hj)
  refine pw_aload_n (z := o) (pc := 16) dX7_begin_16 rfl rfl ?_
  refine pw_getR (r := (o + 5)) (pc := 17) dX7_begin_17 fX7_27 (hC _ (by omega)) (kd6_0 ho) rfl rfl ?_
  refine pw_iconst (pc := 20) dX7_begin_20 ?_
  refine pw_aload_n (z := s) (pc := 21) dX7_begin_21 rfl rfl ?_
  refine pw_getR (r := (s + 3)) (pc := 22) dX7_begin_22 fX7_18 (hC _ (by omega)) (kd7_0 ho_s) rfl rfl ?_
  refine pw_iconst (pc := 25) dX7_begin_25 ?_
  refine pw_iconst (pc := 26) dX7_begin_26 ?_
  refine pw_copy (n0 := 4) (n1 := 4) (pc := 27) dX7_begin_27 lX7_32 (hC _ (by omega)) (hC _ (by omega)) (kd6_5 ho) (kd7_3 ho_s) (ln6_5 ho) (ln7_3 ho_s) (by first | omega) (by first | omega) (by first | omega) (by decide) (by decide) (Nat.le_of_ble_eq_true rfl) ?_
  obtain ⟨g27, e27⟩ : ∃ x, x = sc_ h13 (s + 3) (fun x => if 0 ≤ x ∧ x < 0 + 4 then h13 (o + 5) (x - 0 + 0) else h13 (s + 3) x) := ⟨_, rfl⟩
  refine pw_heq e27 ?_
  have f27 : off_ [(s + 3)] h13 g27 := fun j hj => by rw [e27]; exact sc_off (by simpa using hj)
  refine pw_aload_n (z := s) (pc := 30) dX7_begin_30 rfl rfl ?_
  refine pw_iconst (pc := 31) dX7_begin_31 ?_
  refine pw_pI (x := 3) (pc := 32) dX7_begin_32 fX7_38 (hC _ (by omega)) (kd7_0 ho_s) rfl rfl (by first | omega) ?_
  obtain ⟨g32, e32⟩ : ∃ x, x = up_ g27 s 3 0 := ⟨_, rfl⟩
  refine pw_heq e32 ?_
  exact pw_vret (pc := 35) dX7_begin_35 (⟨fun j hj => by
        simp at hj
        rw [e32, up_off hj.1, e27, sc_off (by omega), e13, sc_off (by omega), e5, sc_off (by omega)], by rw [e32, up_same], fun r r0 r4 => by
        rw [e32, up_off (by omega), up_off (by omega), up_off (by omega), e27, sc_off (by omega), sc_off (by omega), sc_at, e13, sc_off (by omega), sc_at, sc_off (by omega), sc_off (by omega), e5, sc_at, sc_off (by omega)]
        refine ⟨if_pos (by omega), if_pos (by omega), ?_⟩
        show (if _ then _ else _) = _
        rw [if_pos (by omega), show r - 0 + 0 = r by omega, sc_off (by omega)]⟩)

set_option maxHeartbeats 4000000 in
set_option maxRecDepth 100000 in
theorem d_scopy {G : GT_} (hC : okC_ G) (h : PH_) (s : Nat) (ho_s : is7_ s) (p : Nat) (ho_p : is7_ p) (hd : p + 3 < s ∨ s + 3 < p) : PC G yX7_copy cX7_copy 2 none 2 [rr_ G s, rr_ G p] h (qv_ (fun h' => off_ [s, s + 1, s + 2, s + 3] h h' ∧ h' s 3 = h p 3 ∧ ∀ r, 0 ≤ r → r < 4 → h' (s + 1) r = h (p + 1) r ∧ h' (s + 2) r = h (p + 2) r ∧ h' (s + 3) r = h (p + 3) r)) := by
  refine PC.of (lv := [some (rr_ G s), some (rr_ G p)]) (by decide +kernel) (Nat.le_of_ble_eq_true rfl) rfl rfl ?_
  refine pw_aload_n (z := p) (pc := 0) dX7_copy_0 rfl rfl ?_
  refine pw_getR (r := (p + 1)) (pc := 1) dX7_copy_1 fX7_9 (hC _ (by omega)) (kd7_0 ho_p) rfl rfl ?_
  refine pw_iconst (pc := 4) dX7_copy_4 ?_
  refine pw_aload_n (z := s) (pc := 5) dX7_copy_5 rfl rfl ?_
  refine pw_getR (r := (s + 1)) (pc := 6) dX7_copy_6 fX7_9 (hC _ (by omega)) (kd7_0 ho_s) rfl rfl ?_
  refine pw_iconst (pc := 9) dX7_copy_9 ?_
  refine pw_iconst (pc := 10) dX7_copy_10 ?_
  refine pw_copy (n0 := 4) (n1 := 4) (pc := 11) dX7_copy_11 lX7_32 (hC _ (by omega)) (hC _ (by omega)) (kd7_1 ho_p) (kd7_1 ho_s) (ln7_1 ho_p) (ln7_1 ho_s) (by first | omega) (by first | omega) (by first | omega) (by decide) (by decide) (Nat.le_of_ble_eq_true rfl) ?_
  obtain ⟨g11, e11⟩ : ∃ x, x = sc_ h (s + 1) (fun x => if 0 ≤ x ∧ x < 0 + 4 then h (p + 1) (x - 0 + 0) else h (s + 1) x) := ⟨_, rfl⟩
  refine pw_heq e11 ?_
  have f11 : off_ [(s + 1)] h g11 := fun j hj => by rw [e11]; exact sc_off (by simpa using hj)
  refine pw_aload_n (z := p) (pc := 14) dX7_copy_14 rfl rfl ?_
  refine pw_getR (r := (p + 2)) (pc := 15) dX7_copy_15 fX7_15 (hC _ (by omega)) (kd7_0 ho_p) rfl rfl ?_
  refine pw_iconst (pc := 18) dX7_copy_18 ?_
  refine pw_aload_n (z := s) (pc := 19) dX7_copy_19 rfl rfl ?_
  refine pw_getR (r := (s + 2)) (pc := 20) dX7_copy_20 fX7_15 (hC _ (by omega)) (kd7_0 ho_s) rfl rfl ?_
  refine pw_iconst (pc := 23) dX7_copy_23 ?_
  refine pw_iconst (pc := 24) dX7_copy_24 ?_
  refine pw_copy (n0 := 4) (n1 := 4) (pc := 25) dX7_copy_25 lX7_32 (hC _ (by omega)) (hC _ (by omega)) (kd7_2 ho_p) (kd7_2 ho_s) (ln7_2 ho_p) (ln7_2 ho_s) (by first | omega) (by first | omega) (by first | omega) (by decide) (by decide) (Nat.le_of_ble_eq_true rfl) ?_
  obtain ⟨g25, e25⟩ : ∃ x, x = sc_ g11 (s + 2) (fun x => if 0 ≤ x ∧ x < 0 + 4 then g11 (p + 2) (x - 0 + 0) else g11 (s + 2) x) := ⟨_, rfl⟩
  refine pw_heq e25 ?_
  have f25 : off_ [(s + 2)] g11 g25 := fun j hj => by rw [e25]; exact sc_off (by simpa using hj)
  refine pw_aload_n (z := p) (pc := 28) dX7_copy_28 rfl rfl ?_
  refine pw_getR (r := (p + 3)) (pc := 29) dX7_copy_29 fX7_18 (hC _ (by omega)) (kd7_0 ho_p) rfl rfl ?_
  refine pw_iconst (pc := 32) dX7_copy_32 ?_
  refine pw_aload_n (z := s) (pc := 33) dX7_copy_33 rfl rfl ?_
  refine pw_getR (r := (s + 3)) (pc := 34) dX7_copy_34 fX7_18 (hC _ (by omega)) (kd7_0 ho_s) rfl rfl ?_
  refine pw_iconst (pc := 37) dX7_copy_37 ?_
  refine pw_iconst (pc := 38) dX7_copy_38 ?_
  refine pw_copy (n0 := 4) (n1 := 4) (pc := 39) dX7_copy_39 lX7_32 (hC _ (by omega)) (hC _ (by omega)) (kd7_3 ho_p) (kd7_3 ho_s) (ln7_3 ho_p) (ln7_3 ho_s) (by first | omega) (by first | omega) (by first | omega) (by decide) (by decide) (Nat.le_of_ble_eq_true rfl) ?_
  obtain ⟨g39, e39⟩ : ∃ x, x = sc_ g25 (s + 3) (fun x => if 0 ≤ x ∧ x < 0 + 4 then g25 (p + 3) (x - 0 + 0) else g25 (s + 3) x) := ⟨_, rfl⟩
  refine pw_heq e39 ?_
  have f39 : off_ [(s + 3)] g25 g39 := fun j hj => by rw [e39]; exact sc_off (by simpa using hj)
  refine pw_aload_n (z := s) (pc := 42) dX7_copy_42 rfl rfl ?_
  refine pw_aload_n (z := p) (pc := 43) dX7_copy_43 rfl rfl ?_
  refine pw_gI (x := 3) (pc := 44) dX7_copy_44 fX7_38 (hC _ (by omega)) (kd7_0 ho_p) rfl rfl (fun r44 => ?_)
  have n_g39_p_3 : g39 p 3 = h p 3 := (((show g39 p 3 = g25 p 3 from (congrFun (f39 p (by first | decide | (simp; done) | (simp; omega))) 3)).trans (show g25 p 3 = g11 p 3 from (congrFun (f25 p (by first | decide | (simp; done) | (simp; omega))) 3))).trans (show g11 p 3 = h p 3 from (congrFun (f11 p (by first | decide | (simp; done) | (simp; omega))) 3)))
  rw [n_g39_p_3] at r44 ⊢
  refine pw_pI (x := 3) (pc := 47) dX7_copy_47 fX7_38 (hC _ (by omega)) (kd7_0 ho_s) rfl rfl (by first | omega | (simp only [n_g39_p_3]; omega)) ?_
  obtain ⟨g47, e47⟩ : ∃ x, x = up_ g39 s 3 (h p 3) := ⟨_, rfl⟩
  refine pw_heq e47 ?_
  exact pw_vret (pc := 50) dX7_copy_50 (⟨fun j hj => by
        simp at hj
        rw [e47, up_off hj.1, e39, sc_off (by omega), e25, sc_off (by omega), e11, sc_off (by omega)], by rw [e47, up_same], fun r r0 r4 => by
        rw [e47, up_off (by omega), up_off (by omega), up_off (by omega), e39, sc_off (by omega), sc_off (by omega), sc_at, e25, sc_off (by omega), sc_at, sc_off (by omega), sc_off (by omega), e11, sc_at, sc_off (by omega), sc_off (by omega)]
        refine ⟨?_, ?_, ?_⟩ <;> (show (if _ then _ else _) = _; rw [if_pos (by omega), show r - 0 + 0 = r by omega]; (try rw [sc_off (by omega)]))⟩)

set_option maxHeartbeats 4000000 in
set_option maxRecDepth 100000 in
theorem d_countSitting {G : GT_} (hC : okC_ G) (h : PH_) (s : Nat) (ho_s : is7_ s) (R : Int) (hR : 0 ≤ R ∧ R ≤ 4) : PC G yX7_countSitting cX7_countSitting 4 (some .int) 1 [rr_ G s, ii_ R] h (qi_ (fun z h' => h = h' ∧ z = csn_ (h (s + 1)) R.toNat)) := by
  refine PC.of (lv := [some (rr_ G s), some (ii_ R), none, none]) (by decide +kernel) (Nat.le_of_ble_eq_true rfl) rfl rfl ?_
  refine pw_iconst (pc := 0) dX7_countSitting_0 ?_
  refine pw_istore_n (lv1 := [some (rr_ G s), some (ii_ R), some (ii_ 0), none]) (pc := 1) dX7_countSitting_1 rfl (by decide) rfl rfl ?_
  refine pw_iconst (pc := 2) dX7_countSitting_2 ?_
  refine pw_istore_n (lv1 := [some (rr_ G s), some (ii_ R), some (ii_ 0), some (ii_ 0)]) (pc := 3) dX7_countSitting_3 rfl (by decide) rfl rfl ?_
  have L4 : ∀ (nn : Nat) (n : Int) (r : Int), (0 ≤ r ∧ r ≤ R) → (n = csn_ (h (s + 1)) r.toNat) → ((R - r + 1 : Int) ≤ nn) → PW G RX7 cX7_countSitting 4 (some .int) (rm_ 1) 0 0 (zm_ G (qi_ (fun z h' => h = h' ∧ z = csn_ (h (s + 1)) R.toNat))) 4 [some (rr_ G s), some (ii_ R), some (ii_ n), some (ii_ r)] [] h := by
    intro nn
    induction nn with
    | zero => intro n r ak an ams; exfalso; omega
    | succ nn ih4 =>
      intro n r ak an ams
      have cb := csn_b (f := h (s + 1)) r.toNat
      refine pw_iload_n (z := r) (pc := 4) dX7_countSitting_4 rfl rfl ?_
      refine pw_iload_n (z := R) (pc := 5) dX7_countSitting_5 rfl rfl ?_
      refine pw_icmp_ge (t := 28) (pc := 6) dX7_countSitting_6 (by decide) (by first | omega) (by first | omega) (fun c6 => ?_) (fun c6 => ?_)
      · refine pw_iload_n (z := n) (pc := 28) dX7_countSitting_28 rfl rfl ?_
        exact pw_iret (pc := 29) dX7_countSitting_29 (by first | omega) (⟨rfl, by rw [an, show r = R by omega]⟩)
      · refine pw_aload_n (z := s) (pc := 9) dX7_countSitting_9 rfl rfl ?_
        refine pw_getR (r := (s + 1)) (pc := 10) dX7_countSitting_10 fX7_9 (hC _ (by omega)) (kd7_0 ho_s) rfl rfl ?_
        refine pw_iload_n (z := r) (pc := 13) dX7_countSitting_13 rfl rfl ?_
        refine pw_iald (pc := 14) dX7_countSitting_14 (hC _ (by omega)) (kd7_1 ho_s) 4 (ln7_1 ho_s) (by first | omega) (by first | omega) (by first | omega) (fun r14 => ?_)
        refine pw_iconst (pc := 15) dX7_countSitting_15 ?_
        refine pw_icmp_eq (t := 22) (pc := 16) dX7_countSitting_16 (by decide) (by first | omega) (by first | omega) (fun c16 => ?_) (fun c16 => ?_)
        · refine pw_iinc (z := r) (lv1 := [some (rr_ G s), some (ii_ R), some (ii_ n), some (ii_ (r + 1))]) (pc := 22) dX7_countSitting_22 rfl (by decide) rfl rfl ?_
          refine pw_goto (t := 4) (pc := 25) dX7_countSitting_25 (by decide) ?_
          exact ih4 _ _ (by omega) (by rw [csn_s ak.1, ← an]; first | (rw [if_pos c16]; omega) | rw [if_neg c16]) (by omega)
        · refine pw_iinc (z := n) (lv1 := [some (rr_ G s), some (ii_ R), some (ii_ (n + 1)), some (ii_ r)]) (pc := 19) dX7_countSitting_19 rfl (by decide) rfl rfl ?_
          refine pw_iinc (z := r) (lv1 := [some (rr_ G s), some (ii_ R), some (ii_ (n + 1)), some (ii_ (r + 1))]) (pc := 22) dX7_countSitting_22 rfl (by decide) rfl rfl ?_
          refine pw_goto (t := 4) (pc := 25) dX7_countSitting_25 (by decide) ?_
          exact ih4 _ _ (by omega) (by rw [csn_s ak.1, ← an]; first | (rw [if_pos c16]; omega) | rw [if_neg c16]) (by omega)
  exact L4 _ _ _ (by omega) (rfl) (Int.self_le_toNat _)

set_option maxHeartbeats 4000000 in
set_option maxRecDepth 100000 in
theorem d_canGo {G : GT_} (hC : okC_ G) (h : PH_) (s : Nat) (ho_s : is7_ s) (o : Nat) (ho : is6_ o) (ro : Int → Int) (H : CRD_ ro h o) (hs : ∀ r, 0 ≤ r → r < ro 2 → -1 ≤ h (s + 1) r ∧ h (s + 1) r ≤ 3) (hn : 0 ≤ h s 3 ∧ h s 3 ≤ 4) : PC G yX7_canGo cX7_canGo 2 (some .boolean) 5 [rr_ G s, rr_ G o] h (qi_ (fun z h' => h = h' ∧ (z = 1 ∧ (h s 3 < ro 1 ∧ alw_ ro (h (s + 1))) ∨ z = 0 ∧ ¬ (h s 3 < ro 1 ∧ alw_ ro (h (s + 1)))))) := by
  have HB := H.2.1
  have HA := H.1
  refine PC.of (lv := [some (rr_ G s), some (rr_ G o)]) (by decide +kernel) (Nat.le_of_ble_eq_true rfl) rfl rfl ?_
  refine pw_aload_n (z := s) (pc := 0) dX7_canGo_0 rfl rfl ?_
  refine pw_gI (x := 3) (pc := 1) dX7_canGo_1 fX7_38 (hC _ (by omega)) (kd7_0 ho_s) rfl rfl (fun r1 => ?_)
  refine pw_aload_n (z := o) (pc := 4) dX7_canGo_4 rfl rfl ?_
  refine pw_gI (x := 1) (pc := 5) dX7_canGo_5 fX7_49 (hC _ (by omega)) (kd6_0 ho) rfl rfl (fun r5 => ?_)
  refine pw_icmp_ge (t := 26) (pc := 8) dX7_canGo_8 (by decide) (by first | omega) (by first | omega) (fun c8 => ?_) (fun c8 => ?_)
  · refine pw_iconst (pc := 26) dX7_canGo_26 ?_
    exact pw_zret (pc := 27) dX7_canGo_27 (by first | omega) (by first | exact ⟨rfl, Or.inl ⟨rfl, by omega, p16⟩⟩ | exact ⟨rfl, Or.inr ⟨rfl, fun u => p16 u.2⟩⟩ | exact ⟨rfl, Or.inr ⟨rfl, fun u => by have := u.1; omega⟩⟩)
  · refine pw_aload_n (z := o) (pc := 11) dX7_canGo_11 rfl rfl ?_
    refine pw_aload_n (z := s) (pc := 12) dX7_canGo_12 rfl rfl ?_
    refine pw_getR (r := (s + 1)) (pc := 13) dX7_canGo_13 fX7_9 (hC _ (by omega)) (kd7_0 ho_s) rfl rfl ?_
    refine pw_callV (c := 6) (o := o) (As := [rr_ G (s + 1)]) (rest := []) (pc := 16) dX7_canGo_16 (d_allows hC h o ho ro H (s + 1) (kd7_1 ho_s) (ln7_1 ho_s) (by first | omega) hs) lX7_52 mX6_allows vX6_allows (hC _ (by omega)) (kd6_0 ho) rfl rfl rfl (by decide) ⟨Nat.zero_le _, Nat.zero_le _⟩ (Nat.le_of_ble_eq_true rfl) (k_i (fun z16 h16 y16 q16 => ?_))
    obtain ⟨rfl, ⟨rfl, p16⟩ | ⟨rfl, p16⟩⟩ := q16
    · refine pw_if_eq (t := 26) (pc := 19) dX7_canGo_19 (by decide) (by first | omega) (fun c19 => absurd c19 (by decide)) (fun _ => ?_)
      refine pw_iconst (pc := 22) dX7_canGo_22 ?_
      refine pw_goto (t := 27) (pc := 23) dX7_canGo_23 (by decide) ?_
      exact pw_zret (pc := 27) dX7_canGo_27 (by first | omega) (by first | exact ⟨rfl, Or.inl ⟨rfl, by omega, p16⟩⟩ | exact ⟨rfl, Or.inr ⟨rfl, fun u => p16 u.2⟩⟩ | exact ⟨rfl, Or.inr ⟨rfl, fun u => by have := u.1; omega⟩⟩)
    · refine pw_if_eq (t := 26) (pc := 19) dX7_canGo_19 (by decide) (by first | omega) (fun _ => ?_) (fun c19 => absurd c19 (by decide))
      refine pw_iconst (pc := 26) dX7_canGo_26 ?_
      exact pw_zret (pc := 27) dX7_canGo_27 (by first | omega) (by first | exact ⟨rfl, Or.inl ⟨rfl, by omega, p16⟩⟩ | exact ⟨rfl, Or.inr ⟨rfl, fun u => p16 u.2⟩⟩ | exact ⟨rfl, Or.inr ⟨rfl, fun u => by have := u.1; omega⟩⟩)

set_option maxHeartbeats 4000000 in
set_option maxRecDepth 100000 in
theorem d_take {G : GT_} (hC : okC_ G) (h : PH_) (s : Nat) (ho_s : is7_ s) (r g : Int) (hr : 0 ≤ r ∧ r < 4) (hg : 0 ≤ g ∧ g ≤ 3) (hu : ∀ e f, 0 ≤ e → e < 4 → 0 ≤ f → f < 4 → e ≠ f → h (s + 1) e = g → h (s + 1) f ≠ g) : PC G yX7_take cX7_take 5 (some .int) 1 [rr_ G s, ii_ r, ii_ g] h (qi_ (fun z h' => h' = sc_ h (s + 1) (tkf_ (h (s + 1)) r g z) ∧ tkq_ (h (s + 1)) r g z 4)) := by
  refine PC.of (lv := [some (rr_ G s), some (ii_ r), some (ii_ g), none, none]) (by decide +kernel) (Nat.le_of_ble_eq_true rfl) rfl rfl ?_
  refine pw_iconst (pc := 0) dX7_take_0 ?_
  refine pw_istore_n (lv1 := [some (rr_ G s), some (ii_ r), some (ii_ g), some (ii_ (-1)), none]) (pc := 1) dX7_take_1 rfl (by decide) rfl rfl ?_
  refine pw_iconst (pc := 2) dX7_take_2 ?_
  refine pw_istore (lv1 := [some (rr_ G s), some (ii_ r), some (ii_ g), some (ii_ (-1)), some (ii_ 0)]) (pc := 3) dX7_take_3 (by decide) rfl rfl ?_
  have L5 : ∀ (nn : Nat) (w : Int) (e : Int) (hq : PH_), (0 ≤ e ∧ e ≤ 4) → (tkq_ (h (s + 1)) r g w e) → (hq = sc_ h (s + 1) (fun x => if 0 ≤ w ∧ x = w then h (s + 1) r else h (s + 1) x)) → (((4 : Int) - e + 1 : Int) ≤ nn) → PW G RX7 cX7_take 5 (some .int) (rm_ 1) 0 0 (zm_ G (qi_ (fun z h' => h' = sc_ h (s + 1) (tkf_ (h (s + 1)) r g z) ∧ tkq_ (h (s + 1)) r g z 4))) 5 [some (rr_ G s), some (ii_ r), some (ii_ g), some (ii_ w), some (ii_ e)] [] hq := by
    intro nn
    induction nn with
    | zero => intro w e hq ak aw ah ams; exfalso; omega
    | succ nn ih5 =>
      intro w e hq ak aw ah ams
      have wb := tkq_b aw
      refine pw_iload (z := e) (pc := 5) dX7_take_5 rfl ?_
      refine pw_iconst (pc := 7) dX7_take_7 ?_
      refine pw_icmp_ge (t := 50) (pc := 8) dX7_take_8 (by decide) (by first | omega) (by first | omega) (fun c8 => ?_) (fun c8 => ?_)
      · refine pw_aload_n (z := s) (pc := 50) dX7_take_50 rfl rfl ?_
        refine pw_getR (r := (s + 1)) (pc := 51) dX7_take_51 fX7_9 (hC _ (by omega)) (kd7_0 ho_s) rfl rfl ?_
        refine pw_iload_n (z := r) (pc := 54) dX7_take_54 rfl rfl ?_
        refine pw_iload_n (z := g) (pc := 55) dX7_take_55 rfl rfl ?_
        refine pw_iast (pc := 56) dX7_take_56 (hC _ (by omega)) (kd7_1 ho_s) 4 (ln7_1 ho_s) (by first | omega) (by first | omega) (by first | omega) (by first | omega) ?_
        obtain ⟨g56, e56⟩ : ∃ x, x = up_ hq (s + 1) r g := ⟨_, rfl⟩
        refine pw_heq e56 ?_
        refine pw_iload_n (z := w) (pc := 57) dX7_take_57 rfl rfl ?_
        exact pw_iret (pc := 58) dX7_take_58 (by first | omega) (⟨by rw [e56, ah]; exact tkq_5 aw, by rw [show (4 : Int) = e by omega]; exact aw⟩)
      · refine pw_iload (z := e) (pc := 11) dX7_take_11 rfl ?_
        refine pw_iload_n (z := r) (pc := 13) dX7_take_13 rfl rfl ?_
        refine pw_icmp_eq (t := 44) (pc := 14) dX7_take_14 (by decide) (by first | omega) (by first | omega) (fun c14 => ?_) (fun c14 => ?_)
        · refine pw_iinc (z := e) (lv1 := [some (rr_ G s), some (ii_ r), some (ii_ g), some (ii_ w), some (ii_ (e + 1))]) (pc := 44) dX7_take_44 rfl (by decide) rfl rfl ?_
          refine pw_goto (t := 5) (pc := 47) dX7_take_47 (by decide) ?_
          exact ih5 _ _ _ (by omega) (by first | exact tkq_1 aw c14 | (exact tkq_2 aw ah hu (by omega) (by omega) (by omega) c14 c25) | exact Or.inr ⟨by omega, by omega, c14, tkq_3 aw ah hu (by omega) (by omega) c25⟩) (by first | exact ah | (rw [e43]; exact tkq_4 aw ah hu (by omega) (by omega) c14 c25)) (by omega)
        · refine pw_aload_n (z := s) (pc := 17) dX7_take_17 rfl rfl ?_
          refine pw_getR (r := (s + 1)) (pc := 18) dX7_take_18 fX7_9 (hC _ (by omega)) (kd7_0 ho_s) rfl rfl ?_
          refine pw_iload (z := e) (pc := 21) dX7_take_21 rfl ?_
          refine pw_iald (pc := 23) dX7_take_23 (hC _ (by omega)) (kd7_1 ho_s) 4 (ln7_1 ho_s) (by first | omega) (by first | omega) (by first | omega) (fun r23 => ?_)
          refine pw_iload_n (z := g) (pc := 24) dX7_take_24 rfl rfl ?_
          refine pw_icmp_ne (t := 44) (pc := 25) dX7_take_25 (by decide) (by first | omega) (by first | omega) (fun c25 => ?_) (fun c25 => ?_)
          · refine pw_iinc (z := e) (lv1 := [some (rr_ G s), some (ii_ r), some (ii_ g), some (ii_ w), some (ii_ (e + 1))]) (pc := 44) dX7_take_44 rfl (by decide) rfl rfl ?_
            refine pw_goto (t := 5) (pc := 47) dX7_take_47 (by decide) ?_
            exact ih5 _ _ _ (by omega) (by first | exact tkq_1 aw c14 | (exact tkq_2 aw ah hu (by omega) (by omega) (by omega) c14 c25) | exact Or.inr ⟨by omega, by omega, c14, tkq_3 aw ah hu (by omega) (by omega) c25⟩) (by first | exact ah | (rw [e43]; exact tkq_4 aw ah hu (by omega) (by omega) c14 c25)) (by omega)
          · refine pw_iload (z := e) (pc := 28) dX7_take_28 rfl ?_
            refine pw_istore_n (lv1 := [some (rr_ G s), some (ii_ r), some (ii_ g), some (ii_ e), some (ii_ e)]) (pc := 30) dX7_take_30 rfl (by decide) rfl rfl ?_
            refine pw_aload_n (z := s) (pc := 31) dX7_take_31 rfl rfl ?_
            refine pw_getR (r := (s + 1)) (pc := 32) dX7_take_32 fX7_9 (hC _ (by omega)) (kd7_0 ho_s) rfl rfl ?_
            refine pw_iload (z := e) (pc := 35) dX7_take_35 rfl ?_
            refine pw_aload_n (z := s) (pc := 37) dX7_take_37 rfl rfl ?_
            refine pw_getR (r := (s + 1)) (pc := 38) dX7_take_38 fX7_9 (hC _ (by omega)) (kd7_0 ho_s) rfl rfl ?_
            refine pw_iload_n (z := r) (pc := 41) dX7_take_41 rfl rfl ?_
            refine pw_iald (pc := 42) dX7_take_42 (hC _ (by omega)) (kd7_1 ho_s) 4 (ln7_1 ho_s) (by first | omega) (by first | omega) (by first | omega) (fun r42 => ?_)
            refine pw_iast (pc := 43) dX7_take_43 (hC _ (by omega)) (kd7_1 ho_s) 4 (ln7_1 ho_s) (by first | omega) (by first | omega) (by first | omega) (by first | omega) ?_
            obtain ⟨g43, e43⟩ : ∃ x, x = up_ hq (s + 1) e (hq (s + 1) r) := ⟨_, rfl⟩
            refine pw_heq e43 ?_
            refine pw_iinc (z := e) (lv1 := [some (rr_ G s), some (ii_ r), some (ii_ g), some (ii_ e), some (ii_ (e + 1))]) (pc := 44) dX7_take_44 rfl (by decide) rfl rfl ?_
            refine pw_goto (t := 5) (pc := 47) dX7_take_47 (by decide) ?_
            exact ih5 _ _ _ (by omega) (by first | exact tkq_1 aw c14 | (exact tkq_2 aw ah hu (by omega) (by omega) (by omega) c14 c25) | exact Or.inr ⟨by omega, by omega, c14, tkq_3 aw ah hu (by omega) (by omega) c25⟩) (by first | exact ah | (rw [e43]; exact tkq_4 aw ah hu (by omega) (by omega) c14 c25)) (by omega)
  exact L5 _ _ _ _ (by omega) (Or.inl ⟨rfl, fun e _ _ => by omega⟩) (sc_id (fun y => by rw [if_neg (by omega)])) (Int.self_le_toNat _)

