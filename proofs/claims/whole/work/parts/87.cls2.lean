/-! ===== the class's road ===== -/
/-- the road at o is the road ro -/
def CRD_ (ro : Int → Int) (h : PH_) (o : Nat) : Prop :=
  (h o 0 = ro 0 ∧ h o 1 = ro 1 ∧ h o 2 = ro 2 ∧ h o 4 = ro 10 ∧ h o 5 = ro 4) ∧
  ((2 ≤ ro 0 ∧ ro 0 ≤ 4) ∧ (0 ≤ ro 2 ∧ ro 2 ≤ ro 0) ∧ (0 ≤ ro 1 ∧ ro 1 ≤ 4) ∧ (0 ≤ ro 4 ∧ ro 4 ≤ 99)) ∧
  (∀ t w, 0 ≤ t → t < ro 1 → 0 ≤ w → w ≤ ro 0 → h (o + 1) (5 * t + w) = ro (11 + 5 * t + w)) ∧
  (∀ r, 0 ≤ r → r < ro 2 → h (o + 3) r = ro (31 + 4 * r) ∧ h (o + 4) r = ro (31 + 4 * r + 1) ∧ h (o + 5) r = ro (31 + 4 * r + 2) ∧ h (o + 7) r = ro (31 + 4 * r + 3)) ∧
  (∀ r e, 0 ≤ r → r < ro 2 → 0 ≤ e → e < r → (h (o + 6) r / 2 ^ e.toNat % 2 = 0 ↔ ro (47 + 4 * r + e) = 0))
theorem CRD_cg {ro : Int → Int} {h h' : PH_} {o : Nat} (H : CRD_ ro h o) (e0 : ∀ k, k ≠ 7 → h' o k = h o k) (e1 : h' (o + 1) = h (o + 1)) (e3 : h' (o + 3) = h (o + 3)) (e4 : h' (o + 4) = h (o + 4)) (e5 : h' (o + 5) = h (o + 5)) (e6 : h' (o + 6) = h (o + 6)) (e7 : h' (o + 7) = h (o + 7)) : CRD_ ro h' o := by
  unfold CRD_ at *
  rw [e1, e3, e4, e5, e6, e7, e0 0 (by decide), e0 1 (by decide), e0 2 (by decide), e0 4 (by decide), e0 5 (by decide)]
  exact H
/-- beside one another, both seats there -/
def bsc_ (g a b : Int) : Prop := 0 ≤ a ∧ 0 ≤ b ∧ bes_ g a b
theorem bes_sy {g a b : Int} : bes_ g a b ↔ bes_ g b a := by unfold bes_; exact or_comm
theorem bsc_i {g a b z : Int} (hz : a ≤ b ∧ z = a ∨ b < a ∧ z = b) (h0 : 0 ≤ z) (h1 : a < b ∧ b = z + 1 ∨ b ≤ a ∧ a = z + 1) : bsc_ g a b ↔ g / 2 ^ z.toNat % 2 = 0 := by
  unfold bsc_ bes_
  rcases h1 with h1 | h1
  · have : z = a := by omega
    subst this
    constructor
    · rintro ⟨_, _, ⟨_, u⟩ | ⟨u, _⟩⟩
      · exact u
      · omega
    · intro u; exact ⟨by omega, by omega, Or.inl ⟨by omega, u⟩⟩
  · have : z = b := by omega
    subst this
    constructor
    · rintro ⟨_, _, ⟨u, _⟩ | ⟨_, u⟩⟩
      · omega
      · exact u
    · intro u; exact ⟨by omega, by omega, Or.inr ⟨by omega, u⟩⟩
theorem bsc_n {g a b z : Int} (hz : a ≤ b ∧ z = a ∨ b < a ∧ z = b) (h : z < 0 ∨ ¬ (a < b ∧ b = z + 1 ∨ b ≤ a ∧ a = z + 1)) : ¬ bsc_ g a b := by
  unfold bsc_ bes_
  rintro ⟨_, _, ⟨u, _⟩ | ⟨u, _⟩⟩ <;> omega
/-- each on another seat -/
def dis_ (si : Int → Int) (r : Int) : Nat → Prop
  | 0 => True
  | e + 1 => dis_ si r e ∧ si e ≠ si r
def sea_ (S : Int) (si : Int → Int) : Nat → Prop
  | 0 => True
  | r + 1 => sea_ S si r ∧ (0 ≤ si r ∧ si r < S) ∧ dis_ si r r
theorem dis_s {si : Int → Int} {r e : Int} (h : 0 ≤ e) : dis_ si r (e + 1).toNat ↔ dis_ si r e.toNat ∧ si e ≠ si r := by rw [tn_s h]; show dis_ si r e.toNat ∧ _ ↔ _; rw [tn_c h]
theorem sea_s {S : Int} {si : Int → Int} {r : Int} (h : 0 ≤ r) : sea_ S si (r + 1).toNat ↔ sea_ S si r.toNat ∧ (0 ≤ si r ∧ si r < S) ∧ dis_ si r r.toNat := by rw [tn_s h]; show sea_ S si r.toNat ∧ _ ↔ _; rw [tn_c h]
theorem dis_le {si : Int → Int} {r : Int} : ∀ {n m : Nat}, m ≤ n → dis_ si r n → dis_ si r m
  | 0, m, hm, _ => by rw [show m = 0 by omega]; trivial
  | n + 1, m, hm, h => by
    by_cases c : m = n + 1
    · rw [c]; exact h
    · exact dis_le (n := n) (by omega) h.1
theorem sea_le {S : Int} {si : Int → Int} : ∀ {n m : Nat}, m ≤ n → sea_ S si n → sea_ S si m
  | 0, m, hm, _ => by rw [show m = 0 by omega]; trivial
  | n + 1, m, hm, h => by
    by_cases c : m = n + 1
    · rw [c]; exact h
    · exact sea_le (n := n) (by omega) h.1
theorem lwt_le {ro si : Int → Int} {r : Int} : ∀ {n m : Nat}, m ≤ n → lwt_ ro si r n → lwt_ ro si r m
  | 0, m, hm, _ => by rw [show m = 0 by omega]; trivial
  | n + 1, m, hm, h => by
    by_cases c : m = n + 1
    · rw [c]; exact h
    · exact lwt_le (n := n) (by omega) h.1
theorem lwf_le {ro si : Int → Int} : ∀ {n m : Nat}, m ≤ n → lwf_ ro si n → lwf_ ro si m
  | 0, m, hm, _ => by rw [show m = 0 by omega]; trivial
  | n + 1, m, hm, h => by
    by_cases c : m = n + 1
    · rw [c]; exact h
    · exact lwf_le (n := n) (by omega) h.1
theorem sea_at {S : Int} {si : Int → Int} {n : Nat} {r : Int} (h : sea_ S si n) (h0 : 0 ≤ r) (h1 : r < n) : (0 ≤ si r ∧ si r < S) ∧ dis_ si r r.toNat := ((sea_s h0).mp (sea_le (by omega) h)).2
theorem lwf_at {ro si : Int → Int} {n : Nat} {r : Int} (h : lwf_ ro si n) (h0 : 0 ≤ r) (h1 : r < n) : may_ ro r (si r) ∧ lwt_ ro si r r.toNat := ((lwf_s h0).mp (lwf_le (by omega) h)).2
theorem dis_at {si : Int → Int} {r : Int} {n : Nat} {e : Int} (h : dis_ si r n) (h0 : 0 ≤ e) (h1 : e < n) : si e ≠ si r := ((dis_s h0).mp (dis_le (by omega) h)).2
theorem lwt_at {ro si : Int → Int} {r : Int} {n : Nat} {e : Int} (h : lwt_ ro si r n) (h0 : 0 ≤ e) (h1 : e < n) : ro (47 + 4 * r + e) = 0 ∨ ¬ bes_ (ro 10) (si r) (si e) := ((lwt_s h0).mp (lwt_le (by omega) h)).2
/-- all sit lawfully, each on another seat -/
def alw_ (ro si : Int → Int) : Prop := sea_ (ro 0) si (ro 2).toNat ∧ lwf_ ro si (ro 2).toNat

set_option maxHeartbeats 4000000 in
set_option maxRecDepth 100000 in
theorem d_worthTold {G : GT_} (hC : okC_ G) (h : PH_) (o : Nat) (ho : is6_ o) : PC G yX6_worthTold cX6_worthTold 1 (some .boolean) 1 [rr_ G o] h (qi_ (fun z h' => h = h' ∧ (z = 1 ∧ (h (o + 12) 4 < h (o + 13) 4) ∨ z = 0 ∧ ¬ (h (o + 12) 4 < h (o + 13) 4)))) := by
  refine PC.of (lv := [some (rr_ G o)]) (by decide +kernel) (Nat.le_of_ble_eq_true rfl) rfl rfl ?_
  refine pw_aload_n (z := o) (pc := 0) dX6_worthTold_0 rfl rfl ?_
  refine pw_getR (r := (o + 13)) (pc := 1) dX6_worthTold_1 fX6_44 (hC _ (by omega)) (kd6_0 ho) rfl rfl ?_
  refine pw_iconst (pc := 4) dX6_worthTold_4 ?_
  refine pw_iald (pc := 5) dX6_worthTold_5 (hC _ (by omega)) (kd6_13 ho) 5 (ln6_13 ho) (by first | omega) (by first | omega) (by first | omega) (fun r5 => ?_)
  refine pw_aload_n (z := o) (pc := 6) dX6_worthTold_6 rfl rfl ?_
  refine pw_getR (r := (o + 12)) (pc := 7) dX6_worthTold_7 fX6_41 (hC _ (by omega)) (kd6_0 ho) rfl rfl ?_
  refine pw_iconst (pc := 10) dX6_worthTold_10 ?_
  refine pw_iald (pc := 11) dX6_worthTold_11 (hC _ (by omega)) (kd6_12 ho) 5 (ln6_12 ho) (by first | omega) (by first | omega) (by first | omega) (fun r11 => ?_)
  refine pw_icmp_le (t := 19) (pc := 12) dX6_worthTold_12 (by decide) (by first | omega) (by first | omega) (fun c12 => ?_) (fun c12 => ?_)
  · refine pw_iconst (pc := 19) dX6_worthTold_19 ?_
    exact pw_zret (pc := 20) dX6_worthTold_20 (by first | omega) (⟨rfl, by omega⟩)
  · refine pw_iconst (pc := 15) dX6_worthTold_15 ?_
    refine pw_goto (t := 20) (pc := 16) dX6_worthTold_16 (by decide) ?_
    exact pw_zret (pc := 20) dX6_worthTold_20 (by first | omega) (⟨rfl, by omega⟩)

set_option maxHeartbeats 4000000 in
set_option maxRecDepth 100000 in
theorem d_minutesOf {G : GT_} (hC : okC_ G) (h : PH_) (o : Nat) (ho : is6_ o) (t : Int) (h1 : 0 ≤ t ∧ t ≤ 3) : PC G yX6_minutesOf cX6_minutesOf 2 (some .int) 1 [rr_ G o, ii_ t] h (qi_ (fun z h' => h = h' ∧ z = h (o + 1) (5 * t))) := by
  refine PC.of (lv := [some (rr_ G o), some (ii_ t)]) (by decide +kernel) (Nat.le_of_ble_eq_true rfl) rfl rfl ?_
  refine pw_aload_n (z := o) (pc := 0) dX6_minutesOf_0 rfl rfl ?_
  refine pw_getR (r := (o + 1)) (pc := 1) dX6_minutesOf_1 fX6_11 (hC _ (by omega)) (kd6_0 ho) rfl rfl ?_
  refine pw_iload_n (z := t) (pc := 4) dX6_minutesOf_4 rfl rfl ?_
  refine pw_iconst (pc := 5) dX6_minutesOf_5 ?_
  refine pw_imul (pc := 6) dX6_minutesOf_6 ?_
  refine pw_iald (pc := 7) dX6_minutesOf_7 (hC _ (by omega)) (kd6_1 ho) 20 (ln6_1 ho) (by first | omega) (by first | omega) (by first | omega) (fun r7 => ?_)
  exact pw_iret (pc := 8) dX6_minutesOf_8 (by first | omega) (⟨rfl, by rw [Int.mul_comm]⟩)

set_option maxHeartbeats 4000000 in
set_option maxRecDepth 100000 in
theorem d_has {G : GT_} (hC : okC_ G) (h : PH_) (o : Nat) (ho : is6_ o) (t s : Int) (h1 : 0 ≤ t ∧ t ≤ 3) (h2 : 0 ≤ s ∧ s ≤ 3) : PC G yX6_has cX6_has 3 (some .int) 1 [rr_ G o, ii_ t, ii_ s] h (qi_ (fun z h' => h = h' ∧ z = h (o + 1) (5 * t + (1 + s)))) := by
  refine PC.of (lv := [some (rr_ G o), some (ii_ t), some (ii_ s)]) (by decide +kernel) (Nat.le_of_ble_eq_true rfl) rfl rfl ?_
  refine pw_aload_n (z := o) (pc := 0) dX6_has_0 rfl rfl ?_
  refine pw_getR (r := (o + 1)) (pc := 1) dX6_has_1 fX6_11 (hC _ (by omega)) (kd6_0 ho) rfl rfl ?_
  refine pw_iload_n (z := t) (pc := 4) dX6_has_4 rfl rfl ?_
  refine pw_iconst (pc := 5) dX6_has_5 ?_
  refine pw_imul (pc := 6) dX6_has_6 ?_
  refine pw_iconst (pc := 7) dX6_has_7 ?_
  refine pw_iadd (pc := 8) dX6_has_8 ?_
  refine pw_iload_n (z := s) (pc := 9) dX6_has_9 rfl rfl ?_
  refine pw_iadd (pc := 10) dX6_has_10 ?_
  refine pw_iald (pc := 11) dX6_has_11 (hC _ (by omega)) (kd6_1 ho) 20 (ln6_1 ho) (by first | omega) (by first | omega) (by first | omega) (fun r11 => ?_)
  exact pw_iret (pc := 12) dX6_has_12 (by first | omega) (⟨rfl, by rw [show t * 5 + 1 + s = 5 * t + (1 + s) by omega]⟩)

set_option maxHeartbeats 4000000 in
set_option maxRecDepth 100000 in
theorem d_areBeside {G : GT_} (hC : okC_ G) (h : PH_) (o : Nat) (ho : is6_ o) (a b : Int) (h1 : -4 ≤ a ∧ a ≤ 20) (h2 : -4 ≤ b ∧ b ≤ 20) : PC G yX6_areBeside cX6_areBeside 4 (some .boolean) 2 [rr_ G o, ii_ a, ii_ b] h (qi_ (fun z h' => h = h' ∧ (z = 1 ∧ (bsc_ (h o 4) a b) ∨ z = 0 ∧ ¬ (bsc_ (h o 4) a b)))) := by
  refine PC.of (lv := [some (rr_ G o), some (ii_ a), some (ii_ b), none]) (by decide +kernel) (Nat.le_of_ble_eq_true rfl) rfl rfl ?_
  refine pw_iload_n (z := a) (pc := 0) dX6_areBeside_0 rfl rfl ?_
  refine pw_iload_n (z := b) (pc := 1) dX6_areBeside_1 rfl rfl ?_
  refine pw_mmin (pc := 2) dX6_areBeside_2 lX6_92 (by first | omega) (by first | omega) (by decide) ⟨Nat.zero_le _, Nat.zero_le _⟩ (Nat.le_of_ble_eq_true rfl) (fun z2 r2 w2 => ?_)
  refine pw_istore_n (lv1 := [some (rr_ G o), some (ii_ a), some (ii_ b), some (ii_ z2)]) (pc := 5) dX6_areBeside_5 rfl (by decide) rfl rfl ?_
  refine pw_iload_n (z := z2) (pc := 6) dX6_areBeside_6 rfl rfl ?_
  refine pw_if_lt (t := 36) (pc := 7) dX6_areBeside_7 (by decide) (by first | omega) (fun c7 => ?_) (fun c7 => ?_)
  · refine pw_iconst (pc := 36) dX6_areBeside_36 ?_
    exact pw_zret (pc := 37) dX6_areBeside_37 (by first | omega) (by first | exact ⟨rfl, Or.inr ⟨rfl, bsc_n (z := z2) (by omega) (by omega)⟩⟩ | exact ⟨rfl, Or.inl ⟨rfl, (bsc_i (z := z2) (by omega) (by omega) (by omega)).mpr c29⟩⟩ | exact ⟨rfl, Or.inr ⟨rfl, fun u => c29 ((bsc_i (z := z2) (by omega) (by omega) (by omega)).mp u)⟩⟩)
  · refine pw_iload_n (z := a) (pc := 10) dX6_areBeside_10 rfl rfl ?_
    refine pw_iload_n (z := b) (pc := 11) dX6_areBeside_11 rfl rfl ?_
    refine pw_mmax (pc := 12) dX6_areBeside_12 lX6_98 (by first | omega) (by first | omega) (by decide) ⟨Nat.zero_le _, Nat.zero_le _⟩ (Nat.le_of_ble_eq_true rfl) (fun z12 r12 w12 => ?_)
    refine pw_iload_n (z := z2) (pc := 15) dX6_areBeside_15 rfl rfl ?_
    refine pw_iconst (pc := 16) dX6_areBeside_16 ?_
    refine pw_iadd (pc := 17) dX6_areBeside_17 ?_
    refine pw_icmp_ne (t := 36) (pc := 18) dX6_areBeside_18 (by decide) (by first | omega) (by first | omega) (fun c18 => ?_) (fun c18 => ?_)
    · refine pw_iconst (pc := 36) dX6_areBeside_36 ?_
      exact pw_zret (pc := 37) dX6_areBeside_37 (by first | omega) (by first | exact ⟨rfl, Or.inr ⟨rfl, bsc_n (z := z2) (by omega) (by omega)⟩⟩ | exact ⟨rfl, Or.inl ⟨rfl, (bsc_i (z := z2) (by omega) (by omega) (by omega)).mpr c29⟩⟩ | exact ⟨rfl, Or.inr ⟨rfl, fun u => c29 ((bsc_i (z := z2) (by omega) (by omega) (by omega)).mp u)⟩⟩)
    · refine pw_aload_n (z := o) (pc := 21) dX6_areBeside_21 rfl rfl ?_
      refine pw_gI (x := 4) (pc := 22) dX6_areBeside_22 fX6_66 (hC _ (by omega)) (kd6_0 ho) rfl rfl (fun r22 => ?_)
      refine pw_iload_n (z := z2) (pc := 25) dX6_areBeside_25 rfl rfl ?_
      refine pw_ishr (pc := 26) dX6_areBeside_26 (by first | omega) (by first | omega) ?_
      refine pw_iconst (pc := 27) dX6_areBeside_27 ?_
      refine pw_iand1 (pc := 28) dX6_areBeside_28 ?_
      refine pw_if_ne (t := 36) (pc := 29) dX6_areBeside_29 (by decide) (by first | omega) (fun c29 => ?_) (fun c29 => ?_)
      · refine pw_iconst (pc := 36) dX6_areBeside_36 ?_
        exact pw_zret (pc := 37) dX6_areBeside_37 (by first | omega) (by first | exact ⟨rfl, Or.inr ⟨rfl, bsc_n (z := z2) (by omega) (by omega)⟩⟩ | exact ⟨rfl, Or.inl ⟨rfl, (bsc_i (z := z2) (by omega) (by omega) (by omega)).mpr c29⟩⟩ | exact ⟨rfl, Or.inr ⟨rfl, fun u => c29 ((bsc_i (z := z2) (by omega) (by omega) (by omega)).mp u)⟩⟩)
      · refine pw_iconst (pc := 32) dX6_areBeside_32 ?_
        refine pw_goto (t := 37) (pc := 33) dX6_areBeside_33 (by decide) ?_
        exact pw_zret (pc := 37) dX6_areBeside_37 (by first | omega) (by first | exact ⟨rfl, Or.inr ⟨rfl, bsc_n (z := z2) (by omega) (by omega)⟩⟩ | exact ⟨rfl, Or.inl ⟨rfl, (bsc_i (z := z2) (by omega) (by omega) (by omega)).mpr c29⟩⟩ | exact ⟨rfl, Or.inr ⟨rfl, fun u => c29 ((bsc_i (z := z2) (by omega) (by omega) (by omega)).mp u)⟩⟩)

set_option maxHeartbeats 4000000 in
set_option maxRecDepth 100000 in
theorem d_isEnd {G : GT_} (hC : okC_ G) (h : PH_) (o : Nat) (ho : is6_ o) (s : Int) (h1 : ir_ s) (h2 : 0 ≤ h o 0 ∧ h o 0 ≤ 4) : PC G yX6_isEnd cX6_isEnd 2 (some .boolean) 1 [rr_ G o, ii_ s] h (qi_ (fun z h' => h = h' ∧ (z = 1 ∧ (s = 0 ∨ s = h o 0 - 1) ∨ z = 0 ∧ ¬ (s = 0 ∨ s = h o 0 - 1)))) := by
  refine PC.of (lv := [some (rr_ G o), some (ii_ s)]) (by decide +kernel) (Nat.le_of_ble_eq_true rfl) rfl rfl ?_
  refine pw_iload_n (z := s) (pc := 0) dX6_isEnd_0 rfl rfl ?_
  refine pw_if_eq (t := 14) (pc := 1) dX6_isEnd_1 (by decide) (by first | omega) (fun c1 => ?_) (fun c1 => ?_)
  · refine pw_iconst (pc := 14) dX6_isEnd_14 ?_
    refine pw_goto (t := 19) (pc := 15) dX6_isEnd_15 (by decide) ?_
    exact pw_zret (pc := 19) dX6_isEnd_19 (by first | omega) (⟨rfl, by omega⟩)
  · refine pw_iload_n (z := s) (pc := 4) dX6_isEnd_4 rfl rfl ?_
    refine pw_aload_n (z := o) (pc := 5) dX6_isEnd_5 rfl rfl ?_
    refine pw_gI (x := 0) (pc := 6) dX6_isEnd_6 fX6_53 (hC _ (by omega)) (kd6_0 ho) rfl rfl (fun r6 => ?_)
    refine pw_iconst (pc := 9) dX6_isEnd_9 ?_
    refine pw_isub (pc := 10) dX6_isEnd_10 ?_
    refine pw_icmp_ne (t := 18) (pc := 11) dX6_isEnd_11 (by decide) (by first | omega) (by first | omega) (fun c11 => ?_) (fun c11 => ?_)
    · refine pw_iconst (pc := 18) dX6_isEnd_18 ?_
      exact pw_zret (pc := 19) dX6_isEnd_19 (by first | omega) (⟨rfl, by omega⟩)
    · refine pw_iconst (pc := 14) dX6_isEnd_14 ?_
      refine pw_goto (t := 19) (pc := 15) dX6_isEnd_15 (by decide) ?_
      exact pw_zret (pc := 19) dX6_isEnd_19 (by first | omega) (⟨rfl, by omega⟩)

set_option maxHeartbeats 4000000 in
set_option maxRecDepth 100000 in
theorem d_maySit {G : GT_} (hC : okC_ G) (h : PH_) (o : Nat) (ho : is6_ o) (ro : Int → Int) (H : CRD_ ro h o) (r s : Int) (h1 : 0 ≤ r ∧ r < ro 2) (h2 : 0 ≤ s ∧ s ≤ 3) : PC G yX6_maySit cX6_maySit 3 (some .boolean) 2 [rr_ G o, ii_ r, ii_ s] h (qi_ (fun z h' => h = h' ∧ (z = 1 ∧ may_ ro r s ∨ z = 0 ∧ ¬ may_ ro r s))) := by
  have HB := H.2.1
  have HA := H.1
  have HR := H.2.2.2.1 r h1.1 h1.2
  refine PC.of (lv := [some (rr_ G o), some (ii_ r), some (ii_ s)]) (by decide +kernel) (Nat.le_of_ble_eq_true rfl) rfl rfl ?_
  refine pw_aload_n (z := o) (pc := 0) dX6_maySit_0 rfl rfl ?_
  refine pw_getR (r := (o + 7)) (pc := 1) dX6_maySit_1 fX6_31 (hC _ (by omega)) (kd6_0 ho) rfl rfl ?_
  refine pw_iload_n (z := r) (pc := 4) dX6_maySit_4 rfl rfl ?_
  refine pw_iald (pc := 5) dX6_maySit_5 (hC _ (by omega)) (kd6_7 ho) 4 (ln6_7 ho) (by first | omega) (by first | omega) (by first | omega) (fun r5 => ?_)
  refine pw_iload_n (z := s) (pc := 6) dX6_maySit_6 rfl rfl ?_
  refine pw_ishr (pc := 7) dX6_maySit_7 (by first | omega) (by first | omega) ?_
  refine pw_iconst (pc := 8) dX6_maySit_8 ?_
  refine pw_iand1 (pc := 9) dX6_maySit_9 ?_
  refine pw_if_ne (t := 35) (pc := 10) dX6_maySit_10 (by decide) (by first | omega) (fun c10 => ?_) (fun c10 => ?_)
  · refine pw_iconst (pc := 35) dX6_maySit_35 ?_
    exact pw_zret (pc := 36) dX6_maySit_36 (by first | omega) (by unfold may_; rw [← HR.1, ← HR.2.2.2]; first | exact ⟨rfl, Or.inl ⟨rfl, c10, by omega⟩⟩ | exact ⟨rfl, Or.inr ⟨rfl, fun u => c10 u.1⟩⟩ | exact ⟨rfl, Or.inr ⟨rfl, fun u => by have := u.2; omega⟩⟩)
  · refine pw_aload_n (z := o) (pc := 13) dX6_maySit_13 rfl rfl ?_
    refine pw_getR (r := (o + 3)) (pc := 14) dX6_maySit_14 fX6_19 (hC _ (by omega)) (kd6_0 ho) rfl rfl ?_
    refine pw_iload_n (z := r) (pc := 17) dX6_maySit_17 rfl rfl ?_
    refine pw_iald (pc := 18) dX6_maySit_18 (hC _ (by omega)) (kd6_3 ho) 4 (ln6_3 ho) (by first | omega) (by first | omega) (by first | omega) (fun r18 => ?_)
    refine pw_iconst (pc := 19) dX6_maySit_19 ?_
    refine pw_icmp_ne (t := 31) (pc := 20) dX6_maySit_20 (by decide) (by first | omega) (by first | omega) (fun c20 => ?_) (fun c20 => ?_)
    · refine pw_iconst (pc := 31) dX6_maySit_31 ?_
      refine pw_goto (t := 36) (pc := 32) dX6_maySit_32 (by decide) ?_
      exact pw_zret (pc := 36) dX6_maySit_36 (by first | omega) (by unfold may_; rw [← HR.1, ← HR.2.2.2]; first | exact ⟨rfl, Or.inl ⟨rfl, c10, by omega⟩⟩ | exact ⟨rfl, Or.inr ⟨rfl, fun u => c10 u.1⟩⟩ | exact ⟨rfl, Or.inr ⟨rfl, fun u => by have := u.2; omega⟩⟩)
    · refine pw_aload_n (z := o) (pc := 23) dX6_maySit_23 rfl rfl ?_
      refine pw_iload_n (z := s) (pc := 24) dX6_maySit_24 rfl rfl ?_
      refine pw_callV (c := 6) (o := o) (As := [ii_ s]) (rest := []) (pc := 25) dX6_maySit_25 (d_isEnd hC h o ho (s) (by first | omega) (by first | omega)) lX6_101 mX6_isEnd vX6_isEnd (hC _ (by omega)) (kd6_0 ho) rfl rfl rfl (by decide) ⟨Nat.zero_le _, Nat.zero_le _⟩ (Nat.le_of_ble_eq_true rfl) (k_i (fun z25 h25 y25 q25 => ?_))
      obtain ⟨rfl, ⟨rfl, p25⟩ | ⟨rfl, p25⟩⟩ := q25
      · refine pw_if_eq (t := 35) (pc := 28) dX6_maySit_28 (by decide) (by first | omega) (fun c28 => absurd c28 (by decide)) (fun _ => ?_)
        refine pw_iconst (pc := 31) dX6_maySit_31 ?_
        refine pw_goto (t := 36) (pc := 32) dX6_maySit_32 (by decide) ?_
        exact pw_zret (pc := 36) dX6_maySit_36 (by first | omega) (by unfold may_; rw [← HR.1, ← HR.2.2.2]; first | exact ⟨rfl, Or.inl ⟨rfl, c10, by omega⟩⟩ | exact ⟨rfl, Or.inr ⟨rfl, fun u => c10 u.1⟩⟩ | exact ⟨rfl, Or.inr ⟨rfl, fun u => by have := u.2; omega⟩⟩)
      · refine pw_if_eq (t := 35) (pc := 28) dX6_maySit_28 (by decide) (by first | omega) (fun _ => ?_) (fun c28 => absurd c28 (by decide))
        refine pw_iconst (pc := 35) dX6_maySit_35 ?_
        exact pw_zret (pc := 36) dX6_maySit_36 (by first | omega) (by unfold may_; rw [← HR.1, ← HR.2.2.2]; first | exact ⟨rfl, Or.inl ⟨rfl, c10, by omega⟩⟩ | exact ⟨rfl, Or.inr ⟨rfl, fun u => c10 u.1⟩⟩ | exact ⟨rfl, Or.inr ⟨rfl, fun u => by have := u.2; omega⟩⟩)

set_option maxHeartbeats 4000000 in
set_option maxRecDepth 100000 in
theorem d_allows {G : GT_} (hC : okC_ G) (h : PH_) (o : Nat) (ho : is6_ o) (ro : Int → Int) (H : CRD_ ro h o) (a : Nat) (k_a : kd_ a = 0) (l_a : ln_ a = 4) (ha : 36 ≤ a ∧ a < 173) (hs : ∀ r, 0 ≤ r → r < ro 2 → -1 ≤ h a r ∧ h a r ≤ 3) : PC G yX6_allows cX6_allows 5 (some .boolean) 4 [rr_ G o, rr_ G a] h (qi_ (fun z h' => h = h' ∧ (z = 1 ∧ alw_ ro (h a) ∨ z = 0 ∧ ¬ alw_ ro (h a)))) := by
  have HB := H.2.1
  have HA := H.1
  refine PC.of (lv := [some (rr_ G o), some (rr_ G a), none, none, none]) (by decide +kernel) (Nat.le_of_ble_eq_true rfl) rfl rfl ?_
  refine pw_iconst (pc := 0) dX6_allows_0 ?_
  refine pw_istore_n (lv1 := [some (rr_ G o), some (rr_ G a), some (ii_ 0), none, none]) (pc := 1) dX6_allows_1 rfl (by decide) rfl rfl ?_
  have L2 : ∀ (nn : Nat) (r : Int), (0 ≤ r ∧ r ≤ ro 2) → ((sea_ (ro 0) (h a) r.toNat ∧ lwf_ ro (h a) r.toNat)) → ((ro 2 - r + 1 : Int) ≤ nn) → PW G RX6 cX6_allows 5 (some .boolean) (rm_ 4) 0 0 (zm_ G (qi_ (fun z h' => h = h' ∧ (z = 1 ∧ alw_ ro (h a) ∨ z = 0 ∧ ¬ alw_ ro (h a))))) 2 [some (rr_ G o), some (rr_ G a), some (ii_ r), none, none] [] h := by
    intro nn
    induction nn with
    | zero => intro r ak ai ams; exfalso; omega
    | succ nn ih2 =>
      intro r ak ai ams
      refine pw_iload_n (z := r) (pc := 2) dX6_allows_2 rfl rfl ?_
      refine pw_aload_n (z := o) (pc := 3) dX6_allows_3 rfl rfl ?_
      refine pw_gI (x := 2) (pc := 4) dX6_allows_4 fX6_60 (hC _ (by omega)) (kd6_0 ho) rfl rfl (fun r4 => ?_)
      refine pw_icmp_ge (t := 107) (pc := 7) dX6_allows_7 (by decide) (by first | omega) (by first | omega) (fun c7 => ?_) (fun c7 => ?_)
      · refine pw_iconst (pc := 107) dX6_allows_107 ?_
        exact pw_zret (pc := 108) dX6_allows_108 (by first | omega) (⟨rfl, Or.inl ⟨rfl, by unfold alw_; rw [show ro 2 = r by omega]; exact ai⟩⟩)
      · have hsr := hs r (by omega) (by omega)
        refine pw_aload_n (z := a) (pc := 10) dX6_allows_10 rfl rfl ?_
        refine pw_iload_n (z := r) (pc := 11) dX6_allows_11 rfl rfl ?_
        refine pw_iald (pc := 12) dX6_allows_12 (hC _ (by omega)) k_a 4 l_a (by first | omega) (by first | omega) (by first | omega) (fun r12 => ?_)
        refine pw_if_lt (t := 37) (pc := 13) dX6_allows_13 (by decide) (by first | omega) (fun c13 => ?_) (fun c13 => ?_)
        · refine pw_iconst (pc := 37) dX6_allows_37 ?_
          exact pw_zret (pc := 38) dX6_allows_38 (by first | omega) (⟨rfl, Or.inr ⟨rfl, fun u => by have q1 := sea_at u.1 (r := r) (by omega) (by omega); have q2 := lwf_at u.2 (r := r) (by omega) (by omega); first | omega | exact p31 q2.1⟩⟩)
        · refine pw_aload_n (z := a) (pc := 16) dX6_allows_16 rfl rfl ?_
          refine pw_iload_n (z := r) (pc := 17) dX6_allows_17 rfl rfl ?_
          refine pw_iald (pc := 18) dX6_allows_18 (hC _ (by omega)) k_a 4 l_a (by first | omega) (by first | omega) (by first | omega) (fun r18 => ?_)
          refine pw_aload_n (z := o) (pc := 19) dX6_allows_19 rfl rfl ?_
          refine pw_gI (x := 0) (pc := 20) dX6_allows_20 fX6_53 (hC _ (by omega)) (kd6_0 ho) rfl rfl (fun r20 => ?_)
          refine pw_icmp_ge (t := 37) (pc := 23) dX6_allows_23 (by decide) (by first | omega) (by first | omega) (fun c23 => ?_) (fun c23 => ?_)
          · refine pw_iconst (pc := 37) dX6_allows_37 ?_
            exact pw_zret (pc := 38) dX6_allows_38 (by first | omega) (⟨rfl, Or.inr ⟨rfl, fun u => by have q1 := sea_at u.1 (r := r) (by omega) (by omega); have q2 := lwf_at u.2 (r := r) (by omega) (by omega); first | omega | exact p31 q2.1⟩⟩)
          · refine pw_aload_n (z := o) (pc := 26) dX6_allows_26 rfl rfl ?_
            refine pw_iload_n (z := r) (pc := 27) dX6_allows_27 rfl rfl ?_
            refine pw_aload_n (z := a) (pc := 28) dX6_allows_28 rfl rfl ?_
            refine pw_iload_n (z := r) (pc := 29) dX6_allows_29 rfl rfl ?_
            refine pw_iald (pc := 30) dX6_allows_30 (hC _ (by omega)) k_a 4 l_a (by first | omega) (by first | omega) (by first | omega) (fun r30 => ?_)
            refine pw_callV (c := 6) (o := o) (As := [ii_ r, ii_ (h a r)]) (rest := []) (pc := 31) dX6_allows_31 (d_maySit hC h o ho ro H (r) (h a r) (by first | omega) (by first | omega)) lX6_105 mX6_maySit vX6_maySit (hC _ (by omega)) (kd6_0 ho) rfl rfl rfl (by decide) ⟨Nat.zero_le _, Nat.zero_le _⟩ (Nat.le_of_ble_eq_true rfl) (k_i (fun z31 h31 y31 q31 => ?_))
            obtain ⟨rfl, ⟨rfl, p31⟩ | ⟨rfl, p31⟩⟩ := q31
            · refine pw_if_ne (t := 39) (pc := 34) dX6_allows_34 (by decide) (by first | omega) (fun _ => ?_) (fun c34 => absurd c34 (by decide))
              refine pw_iconst (pc := 39) dX6_allows_39 ?_
              refine pw_istore_n (lv1 := [some (rr_ G o), some (rr_ G a), some (ii_ r), some (ii_ 0), none]) (pc := 40) dX6_allows_40 rfl (by decide) rfl rfl ?_
              have L41 : ∀ (nn : Nat) (e : Int), (0 ≤ e ∧ e ≤ r) → (dis_ (h a) r e.toNat ∧ lwt_ ro (h a) r e.toNat) → ((r - e + 1 : Int) ≤ nn) → PW G RX6 cX6_allows 5 (some .boolean) (rm_ 4) 0 0 (zm_ G (qi_ (fun z h' => h = h' ∧ (z = 1 ∧ alw_ ro (h a) ∨ z = 0 ∧ ¬ alw_ ro (h a))))) 41 [some (rr_ G o), some (rr_ G a), some (ii_ r), some (ii_ e), none] [] h := by
                intro nn
                induction nn with
                | zero => intro e bk be ams; exfalso; omega
                | succ nn ih41 =>
                  intro e bk be ams
                  refine pw_iload_n (z := e) (pc := 41) dX6_allows_41 rfl rfl ?_
                  refine pw_iload_n (z := r) (pc := 42) dX6_allows_42 rfl rfl ?_
                  refine pw_icmp_ge (t := 101) (pc := 43) dX6_allows_43 (by decide) (by first | omega) (by first | omega) (fun c43 => ?_) (fun c43 => ?_)
                  · refine pw_iinc (z := r) (lv1 := [some (rr_ G o), some (rr_ G a), some (ii_ (r + 1)), some (ii_ e), none]) (pc := 101) dX6_allows_101 rfl (by decide) rfl rfl ?_
                    refine pw_goto (t := 2) (pc := 104) dX6_allows_104 (by decide) ?_
                    refine pw_less (lv1 := [some (rr_ G o), some (rr_ G a), some (ii_ (r + 1)), none, none]) rfl (by intro i v; (match i with | 0 => simp | 1 => simp | 2 => simp | 3 => simp | 4 => simp | n + 5 => simp)) ?_
                    exact ih2 _ (by omega) (by rw [sea_s (by omega), lwf_s (by omega)]; exact ⟨⟨ai.1, by omega, by have q := be.1; rw [show e = r by omega] at q; exact q⟩, ai.2, p31, by have q := be.2; rw [show e = r by omega] at q; exact q⟩) (by omega)
                  · have hse := hs e (by omega) (by omega)
                    have hap := H.2.2.2.2 r e (by omega) (by omega) (by omega) (by omega)
                    refine pw_aload_n (z := o) (pc := 46) dX6_allows_46 rfl rfl ?_
                    refine pw_getR (r := (o + 6)) (pc := 47) dX6_allows_47 fX6_28 (hC _ (by omega)) (kd6_0 ho) rfl rfl ?_
                    refine pw_iload_n (z := r) (pc := 50) dX6_allows_50 rfl rfl ?_
                    refine pw_iald (pc := 51) dX6_allows_51 (hC _ (by omega)) (kd6_6 ho) 4 (ln6_6 ho) (by first | omega) (by first | omega) (by first | omega) (fun r51 => ?_)
                    refine pw_iload_n (z := e) (pc := 52) dX6_allows_52 rfl rfl ?_
                    refine pw_ishr (pc := 53) dX6_allows_53 (by first | omega) (by first | omega) ?_
                    refine pw_iconst (pc := 54) dX6_allows_54 ?_
                    refine pw_iand1 (pc := 55) dX6_allows_55 ?_
                    refine pw_if_eq (t := 63) (pc := 56) dX6_allows_56 (by decide) (by first | omega) (fun c56 => ?_) (fun c56 => ?_)
                    · refine pw_iconst (pc := 63) dX6_allows_63 ?_
                      refine pw_istore (lv1 := [some (rr_ G o), some (rr_ G a), some (ii_ r), some (ii_ e), some (ii_ 0)]) (pc := 64) dX6_allows_64 (by decide) rfl rfl ?_
                      refine pw_aload_n (z := a) (pc := 66) dX6_allows_66 rfl rfl ?_
                      refine pw_iload_n (z := e) (pc := 67) dX6_allows_67 rfl rfl ?_
                      refine pw_iald (pc := 68) dX6_allows_68 (hC _ (by omega)) k_a 4 l_a (by first | omega) (by first | omega) (by first | omega) (fun r68 => ?_)
                      refine pw_aload_n (z := a) (pc := 69) dX6_allows_69 rfl rfl ?_
                      refine pw_iload_n (z := r) (pc := 70) dX6_allows_70 rfl rfl ?_
                      refine pw_iald (pc := 71) dX6_allows_71 (hC _ (by omega)) k_a 4 l_a (by first | omega) (by first | omega) (by first | omega) (fun r71 => ?_)
                      refine pw_icmp_eq (t := 93) (pc := 72) dX6_allows_72 (by decide) (by first | omega) (by first | omega) (fun c72 => ?_) (fun c72 => ?_)
                      · refine pw_iconst (pc := 93) dX6_allows_93 ?_
                        exact pw_zret (pc := 94) dX6_allows_94 (by first | omega) (⟨rfl, Or.inr ⟨rfl, fun u => by have q1 := dis_at (sea_at u.1 (r := r) (by omega) (by omega)).2 (e := e) (by omega) (by omega); have q2 := lwt_at (lwf_at u.2 (r := r) (by omega) (by omega)).2 (e := e) (by omega) (by omega); first | omega | (rcases q2 with q | q; exact c56 (hap.mpr q); exact q (bes_sy.mp (by rw [← HA.2.2.2.1]; exact p87.2.2)))⟩⟩)
                      · refine pw_iload (z := 0) (pc := 75) dX6_allows_75 rfl ?_
                        refine pw_if_eq (t := 95) (pc := 77) dX6_allows_77 (by decide) (by first | omega) (fun _ => ?_) (fun c77 => absurd c77 (by decide))
                        refine pw_iinc (z := e) (lv1 := [some (rr_ G o), some (rr_ G a), some (ii_ r), some (ii_ (e + 1)), some (ii_ 0)]) (pc := 95) dX6_allows_95 rfl (by decide) rfl rfl ?_
                        refine pw_goto (t := 41) (pc := 98) dX6_allows_98 (by decide) ?_
                        refine pw_less (lv1 := [some (rr_ G o), some (rr_ G a), some (ii_ r), some (ii_ (e + 1)), none]) rfl (by intro i v; (match i with | 0 => simp | 1 => simp | 2 => simp | 3 => simp | 4 => simp | n + 5 => simp)) ?_
                        exact ih41 _ (by omega) (by rw [dis_s (by omega), lwt_s (by omega)]; exact ⟨⟨be.1, by omega⟩, be.2, by first | exact Or.inl (hap.mp c56) | exact Or.inr (fun u => p87 ⟨(sea_at ai.1 bk.1 (by omega)).1.1, by omega, by rw [HA.2.2.2.1]; exact bes_sy.mp u⟩)⟩) (by omega)
                    · refine pw_iconst (pc := 59) dX6_allows_59 ?_
                      refine pw_goto (t := 64) (pc := 60) dX6_allows_60 (by decide) ?_
                      refine pw_istore (lv1 := [some (rr_ G o), some (rr_ G a), some (ii_ r), some (ii_ e), some (ii_ 1)]) (pc := 64) dX6_allows_64 (by decide) rfl rfl ?_
                      refine pw_aload_n (z := a) (pc := 66) dX6_allows_66 rfl rfl ?_
                      refine pw_iload_n (z := e) (pc := 67) dX6_allows_67 rfl rfl ?_
                      refine pw_iald (pc := 68) dX6_allows_68 (hC _ (by omega)) k_a 4 l_a (by first | omega) (by first | omega) (by first | omega) (fun r68 => ?_)
                      refine pw_aload_n (z := a) (pc := 69) dX6_allows_69 rfl rfl ?_
                      refine pw_iload_n (z := r) (pc := 70) dX6_allows_70 rfl rfl ?_
                      refine pw_iald (pc := 71) dX6_allows_71 (hC _ (by omega)) k_a 4 l_a (by first | omega) (by first | omega) (by first | omega) (fun r71 => ?_)
                      refine pw_icmp_eq (t := 93) (pc := 72) dX6_allows_72 (by decide) (by first | omega) (by first | omega) (fun c72 => ?_) (fun c72 => ?_)
                      · refine pw_iconst (pc := 93) dX6_allows_93 ?_
                        exact pw_zret (pc := 94) dX6_allows_94 (by first | omega) (⟨rfl, Or.inr ⟨rfl, fun u => by have q1 := dis_at (sea_at u.1 (r := r) (by omega) (by omega)).2 (e := e) (by omega) (by omega); have q2 := lwt_at (lwf_at u.2 (r := r) (by omega) (by omega)).2 (e := e) (by omega) (by omega); first | omega | (rcases q2 with q | q; exact c56 (hap.mpr q); exact q (bes_sy.mp (by rw [← HA.2.2.2.1]; exact p87.2.2)))⟩⟩)
                      · refine pw_iload (z := 1) (pc := 75) dX6_allows_75 rfl ?_
                        refine pw_if_eq (t := 95) (pc := 77) dX6_allows_77 (by decide) (by first | omega) (fun c77 => absurd c77 (by decide)) (fun _ => ?_)
                        refine pw_aload_n (z := o) (pc := 80) dX6_allows_80 rfl rfl ?_
                        refine pw_aload_n (z := a) (pc := 81) dX6_allows_81 rfl rfl ?_
                        refine pw_iload_n (z := e) (pc := 82) dX6_allows_82 rfl rfl ?_
                        refine pw_iald (pc := 83) dX6_allows_83 (hC _ (by omega)) k_a 4 l_a (by first | omega) (by first | omega) (by first | omega) (fun r83 => ?_)
                        refine pw_aload_n (z := a) (pc := 84) dX6_allows_84 rfl rfl ?_
                        refine pw_iload_n (z := r) (pc := 85) dX6_allows_85 rfl rfl ?_
                        refine pw_iald (pc := 86) dX6_allows_86 (hC _ (by omega)) k_a 4 l_a (by first | omega) (by first | omega) (by first | omega) (fun r86 => ?_)
                        refine pw_callV (c := 6) (o := o) (As := [ii_ (h a e), ii_ (h a r)]) (rest := []) (pc := 87) dX6_allows_87 (d_areBeside hC h o ho (h a e) (h a r) (by first | omega) (by first | omega)) lX6_109 mX6_areBeside vX6_areBeside (hC _ (by omega)) (kd6_0 ho) rfl rfl rfl (by decide) ⟨Nat.zero_le _, Nat.zero_le _⟩ (Nat.le_of_ble_eq_true rfl) (k_i (fun z87 h87 y87 q87 => ?_))
                        obtain ⟨rfl, ⟨rfl, p87⟩ | ⟨rfl, p87⟩⟩ := q87
                        · refine pw_if_eq (t := 95) (pc := 90) dX6_allows_90 (by decide) (by first | omega) (fun c90 => absurd c90 (by decide)) (fun _ => ?_)
                          refine pw_iconst (pc := 93) dX6_allows_93 ?_
                          exact pw_zret (pc := 94) dX6_allows_94 (by first | omega) (⟨rfl, Or.inr ⟨rfl, fun u => by have q1 := dis_at (sea_at u.1 (r := r) (by omega) (by omega)).2 (e := e) (by omega) (by omega); have q2 := lwt_at (lwf_at u.2 (r := r) (by omega) (by omega)).2 (e := e) (by omega) (by omega); first | omega | (rcases q2 with q | q; exact c56 (hap.mpr q); exact q (bes_sy.mp (by rw [← HA.2.2.2.1]; exact p87.2.2)))⟩⟩)
                        · refine pw_if_eq (t := 95) (pc := 90) dX6_allows_90 (by decide) (by first | omega) (fun _ => ?_) (fun c90 => absurd c90 (by decide))
                          refine pw_iinc (z := e) (lv1 := [some (rr_ G o), some (rr_ G a), some (ii_ r), some (ii_ (e + 1)), some (ii_ 1)]) (pc := 95) dX6_allows_95 rfl (by decide) rfl rfl ?_
                          refine pw_goto (t := 41) (pc := 98) dX6_allows_98 (by decide) ?_
                          refine pw_less (lv1 := [some (rr_ G o), some (rr_ G a), some (ii_ r), some (ii_ (e + 1)), none]) rfl (by intro i v; (match i with | 0 => simp | 1 => simp | 2 => simp | 3 => simp | 4 => simp | n + 5 => simp)) ?_
                          exact ih41 _ (by omega) (by rw [dis_s (by omega), lwt_s (by omega)]; exact ⟨⟨be.1, by omega⟩, be.2, by first | exact Or.inl (hap.mp c56) | exact Or.inr (fun u => p87 ⟨(sea_at ai.1 bk.1 (by omega)).1.1, by omega, by rw [HA.2.2.2.1]; exact bes_sy.mp u⟩)⟩) (by omega)
              exact L41 _ _ (by omega) (⟨trivial, trivial⟩) (Int.self_le_toNat _)
            · refine pw_if_ne (t := 39) (pc := 34) dX6_allows_34 (by decide) (by first | omega) (fun c34 => absurd c34 (by decide)) (fun _ => ?_)
              refine pw_iconst (pc := 37) dX6_allows_37 ?_
              exact pw_zret (pc := 38) dX6_allows_38 (by first | omega) (⟨rfl, Or.inr ⟨rfl, fun u => by have q1 := sea_at u.1 (r := r) (by omega) (by omega); have q2 := lwf_at u.2 (r := r) (by omega) (by omega); first | omega | exact p31 q2.1⟩⟩)
  exact L2 _ _ (by omega) (⟨trivial, trivial⟩) (Int.self_le_toNat _)

