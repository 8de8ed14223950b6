/-! ===== chances at the door ===== -/
theorem frac_ {x y N M : Int} (hy : 0 < y) (hM : 0 < M) (h : x * M = N * y) : x / (Int.gcd x y : Int) = N / (Int.gcd N M : Int) ∧ y / (Int.gcd x y : Int) = M / (Int.gcd N M : Int) := by
  have e : Rat.divInt x y = Rat.divInt N M := (Rat.divInt_eq_divInt_iff (by omega) (by omega)).mpr h
  have e1 := congrArg Rat.num e
  have e2 := congrArg Rat.den e
  rw [Rat.num_divInt, Rat.num_divInt, Int.sign_eq_one_of_pos hy, Int.sign_eq_one_of_pos hM, Int.one_mul, Int.one_mul, Int.gcd_comm y x, Int.gcd_comm M N] at e1
  rw [Rat.den_divInt, Rat.den_divInt, if_neg (by omega), if_neg (by omega), Int.gcd_comm y x, Int.gcd_comm M N] at e2
  refine ⟨e1, ?_⟩
  obtain ⟨a, rfl⟩ := Int.eq_ofNat_of_zero_le (Int.le_of_lt hy)
  obtain ⟨b, rfl⟩ := Int.eq_ofNat_of_zero_le (Int.le_of_lt hM)
  rw [Int.natAbs_natCast, Int.natAbs_natCast] at e2
  rw [← Int.natCast_ediv, ← Int.natCast_ediv, e2]
/-- above and below are N by M in lowest terms -/
def frc_ (h : PH_) (N M : Int) : Prop := h mo_ 51 = N / (Int.gcd N M : Int) ∧ h mo_ 52 = M / (Int.gcd N M : Int)
theorem frc_x {u v N M : Int} (hM : 0 < M) (hN : 0 ≤ N) (h1 : u = N / (Int.gcd N M : Int)) (h2 : v = M / (Int.gcd N M : Int)) : u * M = N * v ∧ 0 < v ∧ v ≤ M ∧ 0 ≤ u ∧ u ≤ N := by
  have g0 : 0 < (Int.gcd N M : Int) := by have := Int.gcd_pos_of_ne_zero_right N (show M ≠ 0 by omega); omega
  obtain ⟨a, ha⟩ := Int.gcd_dvd_left N M
  obtain ⟨b, hb⟩ := Int.gcd_dvd_right N M
  have e1 : u = a := by rw [h1]; conv => lhs; lhs; rw [ha]
                        exact Int.mul_ediv_cancel_left _ (by omega)
  have e2 : v = b := by rw [h2]; conv => lhs; lhs; rw [hb]
                        exact Int.mul_ediv_cancel_left _ (by omega)
  have b0 : 0 < b := by
    rcases Int.lt_trichotomy b 0 with c | c | c
    · have := Int.mul_neg_of_pos_of_neg g0 c; omega
    · rw [c, Int.mul_zero] at hb; omega
    · exact c
  have a0 : 0 ≤ a := by
    rcases Int.lt_or_le a 0 with c | c
    · have := Int.mul_neg_of_pos_of_neg g0 c; omega
    · exact c
  refine ⟨?_, by omega, ?_, by omega, ?_⟩
  · rw [e1, e2]
    generalize (Int.gcd N M : Int) = g at *
    rw [hb]; conv => rhs; rw [ha]
    rw [Int.mul_left_comm, Int.mul_assoc]
  · rw [e2]; have : 1 * b ≤ (Int.gcd N M : Int) * b := Int.mul_le_mul_of_nonneg_right (by omega) (by omega); omega
  · rw [e1]; have : 1 * a ≤ (Int.gcd N M : Int) * a := Int.mul_le_mul_of_nonneg_right (by omega) (by omega); omega
/-- one more chance, a by b, where b divides M -/
theorem frc_add {u v a b N M : Int} (hM : 0 < M) (hN : 0 ≤ N) (hb : 0 < b) (hd : b ∣ M) (h1 : u = N / (Int.gcd N M : Int)) (h2 : v = M / (Int.gcd N M : Int)) {x y : Int} (hy : 0 < y) (hx : x * (v * b) = (u * b + a * v) * y) : x / (Int.gcd x y : Int) = (N + a * (M / b)) / (Int.gcd (N + a * (M / b)) M : Int) ∧ y / (Int.gcd x y : Int) = M / (Int.gcd (N + a * (M / b)) M : Int) := by
  obtain ⟨e1, v0, _, _, _⟩ := frc_x hM hN h1 h2
  obtain ⟨k, hk⟩ := hd
  have ek : M / b = k := by rw [hk]; exact Int.mul_ediv_cancel_left _ (by omega)
  refine frac_ hy hM ?_
  rw [ek]
  have vb : v * b ≠ 0 := Int.mul_ne_zero (by omega) (by omega)
  apply Int.eq_of_mul_eq_mul_right vb
  have e3 : x * M * (v * b) = (x * (v * b)) * M := by ac_rfl
  rw [e3, hx]
  have e4 : (u * b + a * v) * y * M = (u * M) * (b * y) + (a * v * y) * M := by rw [Int.add_mul, Int.add_mul]; congr 1; ac_rfl
  have e5 : (N + a * k) * y * (v * b) = (N * v) * (b * y) + (a * v * y) * (b * k) := by rw [Int.add_mul, Int.add_mul]; congr 1 <;> ac_rfl
  rw [e4, e5, e1, ← hk]
/-! products over sets of riders -/
def prd_ (f : Nat → Int) : List Nat → Int
  | [] => 1
  | x :: l => f x * prd_ f l
theorem prd_split {f : Nat → Int} {p q : Nat → Bool} (hq : ∀ x, q x = true → p x = true) : ∀ l : List Nat, prd_ f (l.filter p) = prd_ f (l.filter q) * prd_ f (l.filter (fun x => p x && !q x))
  | [] => rfl
  | x :: l => by
    have ih := prd_split (f := f) hq l
    cases hp : p x <;> cases hqx : q x
    · simp [List.filter_cons, hp, hqx, ih]
    · have := hq x hqx; rw [hp] at this; cases this
    · simp only [List.filter_cons, hp, hqx, Bool.not_false, Bool.and_self, if_true, prd_, ih]
      simp only [Bool.false_eq_true, if_false]
      ac_rfl
    · simp only [List.filter_cons, hp, hqx, Bool.not_true, Bool.and_false, if_true, prd_, ih]
      simp only [Bool.false_eq_true, if_false]
      ac_rfl
theorem prd_dvd {f : Nat → Int} {x : Nat} : ∀ {l : List Nat}, x ∈ l → f x ∣ prd_ f l
  | y :: l, h => by
    rcases List.mem_cons.mp h with h | h
    · rw [h]; exact ⟨prd_ f l, rfl⟩
    · exact Int.dvd_mul_of_dvd_right (prd_dvd h)
theorem prd_pos {f : Nat → Int} : ∀ {l : List Nat}, (∀ x ∈ l, 1 ≤ f x) → 1 ≤ prd_ f l
  | [], _ => by show (1 : Int) ≤ 1; omega
  | y :: l, h => by
    have h1 := h y List.mem_cons_self
    have h2 := prd_pos (l := l) (fun x hx => h x (List.mem_cons_of_mem _ hx))
    show 1 ≤ f y * prd_ f l
    have : 1 * 1 ≤ f y * prd_ f l := Int.mul_le_mul h1 h2 (by omega) (by omega)
    omega
theorem prd_le {f g : Nat → Int} : ∀ {l : List Nat}, (∀ x ∈ l, 1 ≤ f x ∧ f x ≤ g x) → prd_ f l ≤ prd_ g l
  | [], _ => Int.le_refl _
  | y :: l, h => by
    have h1 := h y List.mem_cons_self
    have h2 := prd_le (f := f) (g := g) (l := l) (fun x hx => h x (List.mem_cons_of_mem _ hx))
    have h3 := prd_pos (f := f) (l := l) (fun x hx => (h x (List.mem_cons_of_mem _ hx)).1)
    exact Int.mul_le_mul h1.2 h2 (by omega) (by omega)
def msk_ (w n : Nat) : List Nat := (List.range 16).filter (fun s => decide (s / 2 ^ w % 2 = 1) && decide (n ≤ bcn_ s))
def pm_ (ro : Int → Int) (w n : Nat) : Int := prd_ (fun s => das_ ro (s : Int) (ro 2).toNat) (msk_ w n)
theorem pm_step {ro : Int → Int} {w n s : Nat} (hs : s < 16) (hw : s / 2 ^ w % 2 = 1) (hn : bcn_ s = n) : pm_ ro w (n + 1) * das_ ro (s : Int) (ro 2).toNat ∣ pm_ ro w n := by
  unfold pm_ msk_
  rw [prd_split (f := fun s => das_ ro (s : Int) (ro 2).toNat) (p := fun s => decide (s / 2 ^ w % 2 = 1) && decide (n ≤ bcn_ s)) (q := fun s => decide (s / 2 ^ w % 2 = 1) && decide (n + 1 ≤ bcn_ s)) (fun x hx => by simp at hx ⊢; omega) (List.range 16)]
  refine Int.mul_dvd_mul_left _ (prd_dvd (f := fun s => das_ ro (s : Int) (ro 2).toNat) ?_)
  rw [List.mem_filter]
  refine ⟨List.mem_range.mpr hs, ?_⟩
  simp; omega
theorem pm_mono {ro : Int → Int} {w m n : Nat} (h : m ≤ n) : pm_ ro w n ∣ pm_ ro w m := by
  unfold pm_ msk_
  rw [prd_split (f := fun s => das_ ro (s : Int) (ro 2).toNat) (p := fun s => decide (s / 2 ^ w % 2 = 1) && decide (m ≤ bcn_ s)) (q := fun s => decide (s / 2 ^ w % 2 = 1) && decide (n ≤ bcn_ s)) (fun x hx => by simp at hx ⊢; omega) (List.range 16)]
  exact ⟨_, rfl⟩
theorem das_9 {ro : Int → Int} {left : Int} : ∀ n : Nat, (∀ r, 0 ≤ r → r < (n : Int) → 1 ≤ ro (31 + 4 * r + 1) ∧ ro (31 + 4 * r + 1) ≤ 9) → das_ ro left n ≤ 9 * bit_ left n
  | 0, _ => by unfold das_ bit_; omega
  | n + 1, h => by
    have := das_9 (left := left) n (fun r r0 r1 => h r r0 (by omega))
    have := h n (by omega) (by omega)
    unfold das_ bit_; split <;> omega
theorem bit_c : ∀ (s : Nat), s < 16 → ∀ (n : Nat), n ≤ 4 → bit_ (s : Int) n ≤ (bcn_ s : Int) := by decide +kernel
theorem das_c {ro : Int → Int} {s : Nat} (hR : 0 ≤ ro 2 ∧ ro 2 ≤ 4) (hd : ∀ r, 0 ≤ r → r < ro 2 → 1 ≤ ro (31 + 4 * r + 1) ∧ ro (31 + 4 * r + 1) ≤ 9) (hs : s < 16) : das_ ro (s : Int) (ro 2).toNat ≤ 9 * (bcn_ s : Int) := by
  have h1 := das_9 (ro := ro) (left := (s : Int)) (ro 2).toNat (fun r r0 r1 => hd r r0 (by omega))
  have h2 := bit_c s hs (ro 2).toNat (by omega)
  omega
theorem pm_bd : ∀ w < 4, prd_ (fun s => 9 * (bcn_ s : Int)) (msk_ w 1) ≤ 40000000000 := by decide +kernel
theorem pm_b {ro : Int → Int} {w : Nat} (hR : 0 ≤ ro 2 ∧ ro 2 ≤ 4) (hd : ∀ r, 0 ≤ r → r < ro 2 → 1 ≤ ro (31 + 4 * r + 1) ∧ ro (31 + 4 * r + 1) ≤ 9) (hw : (w : Int) < ro 2) : 1 ≤ pm_ ro w 1 ∧ pm_ ro w 1 ≤ 40000000000 := by
  have h1 : ∀ x ∈ msk_ w 1, 1 ≤ das_ ro (x : Int) (ro 2).toNat ∧ das_ ro (x : Int) (ro 2).toNat ≤ 9 * (bcn_ x : Int) := fun x hx => by
    unfold msk_ at hx
    rw [List.mem_filter, List.mem_range] at hx
    obtain ⟨x1, x2⟩ := hx
    simp at x2
    exact ⟨das_pos _ (fun r r0 r1 => hd r r0 (by omega)) ⟨w, by omega, ib_.1.mpr x2.1⟩, das_c hR hd x1⟩
  refine ⟨prd_pos (fun x hx => (h1 x hx).1), Int.le_trans (prd_le h1) (pm_bd w (by omega))⟩
/-- how large the divisors get -/
def dnb_ : Nat → Int
  | 0 => 157464
  | 1 => 17496
  | 2 => 972
  | 3 => 36
  | _ => 1
theorem dnb_s : ∀ n < 4, dnb_ (n + 1) * (9 * ((n : Int) + 1)) = dnb_ n := by decide
theorem dnb_m : ∀ n < 5, dnb_ n ≤ 157464 := by decide
/-- the sum of chances, by M: who may come next, from the left -/
noncomputable def dst_ (ro : Int → Int) (t w se M : Int) (F : Int → Int → Int → Int → Int → Int) (left free up dn : Int) (N : Int) (r : Nat) : Int :=
  if_ (left / 2 ^ r % 2 = 1) (if_ ((r : Int) = w) (if_ (tks_ ro (r : Int) t free (ro 0).toNat = se) (N + up * ro (31 + 4 * (r : Int) + 1) * (M / (dn * das_ ro left (ro 2).toNat))) N)
    (F (left - 2 ^ r) (if tks_ ro (r : Int) t free (ro 0).toNat < 0 then free else free - 2 ^ (tks_ ro (r : Int) t free (ro 0).toNat).toNat) (up * ro (31 + 4 * (r : Int) + 1)) (dn * das_ ro left (ro 2).toNat) N)) N
theorem dst_u {ro : Int → Int} {t w se M : Int} {F : Int → Int → Int → Int → Int → Int} {left free up dn N : Int} {r : Nat} : dst_ ro t w se M F left free up dn N r = if_ (left / 2 ^ r % 2 = 1) (if_ ((r : Int) = w) (if_ (tks_ ro (r : Int) t free (ro 0).toNat = se) (N + up * ro (31 + 4 * (r : Int) + 1) * (M / (dn * das_ ro left (ro 2).toNat))) N)
    (F (left - 2 ^ r) (if tks_ ro (r : Int) t free (ro 0).toNat < 0 then free else free - 2 ^ (tks_ ro (r : Int) t free (ro 0).toNat).toNat) (up * ro (31 + 4 * (r : Int) + 1)) (dn * das_ ro left (ro 2).toNat) N)) N := rfl
noncomputable def din_ (ro : Int → Int) (t w se M : Int) : Nat → Int → Int → Int → Int → Int → Int
  | 0, _, _, _, _, N => N
  | n + 1, left, free, up, dn, N => (List.range (ro 2).toNat).foldl (dst_ ro t w se M (din_ ro t w se M n) left free up dn) N
noncomputable def dor_ (ro : Int → Int) (r s t : Int) : Int := din_ ro t r s (pm_ ro r.toNat 1) (ro 2).toNat (2 ^ (ro 2).toNat - 1) (2 ^ (ro 0).toNat - 1) 1 1 0
noncomputable def doq_ (ro : Int → Int) (t r s w : Int) : Int := if_ ((0 ≤ t ∧ t < ro 1) ∧ (0 ≤ r ∧ r < ro 2) ∧ (0 ≤ s ∧ s < ro 0) ∧ 0 ≤ w ∧ w ≤ 1) (if w = 0 then dor_ ro r s t / (Int.gcd (dor_ ro r s t) (pm_ ro r.toNat 1) : Int) else pm_ ro r.toNat 1 / (Int.gcd (dor_ ro r s t) (pm_ ro r.toNat 1) : Int)) (-1)
theorem bx_k (l : Nat) (hl : l < 16) (r : Nat) (hr : r < 4) (w : Nat) (hw : w < 4) (h1 : l / 2 ^ r % 2 = 1) (h2 : l / 2 ^ w % 2 = 1) (h3 : r ≠ w) : (l - 2 ^ r) / 2 ^ w % 2 = 1 := by
  have k : ∀ l < 16, ∀ r < 4, ∀ q < 4, ((l / 2 ^ r % 2 == 1 && l / 2 ^ q % 2 == 1 && r != q) = true) → ((l - 2 ^ r) / 2 ^ q % 2 == 1) = true := by decide
  have := k l hl r hr w hw (by simp [h1, h2, h3])
  simpa using this
theorem das_ge {ro : Int → Int} {left : Int} {r : Nat} (hb : left / 2 ^ r % 2 = 1) : ∀ n : Nat, (∀ r, 0 ≤ r → r < (n : Int) → 1 ≤ ro (31 + 4 * r + 1) ∧ ro (31 + 4 * r + 1) ≤ 9) → r < n → ro (31 + 4 * (r : Int) + 1) ≤ das_ ro left n
  | 0, _, h => by omega
  | n + 1, hd, h => by
    have h0 := das_b (left := left) n (fun r r0 r1 => hd r r0 (by omega))
    have h1 := hd n (by omega) (by omega)
    unfold das_
    by_cases c : r = n
    · subst c; rw [if_pos hb]; omega
    · have := das_ge (ro := ro) hb n (fun r r0 r1 => hd r r0 (by omega)) (by omega)
      split <;> omega
/-- what holds when they come in -/
def dpu_ (ro : Int → Int) (n : Nat) (left free w up dn N : Int) : Prop := (0 ≤ w ∧ w < ro 2) ∧ (0 ≤ left ∧ left < 2 ^ (ro 2).toNat ∧ left ≤ 15) ∧ left / 2 ^ w.toNat % 2 = 1 ∧ bcn_ left.toNat = n ∧ (0 ≤ free ∧ free ≤ 15) ∧ (1 ≤ up ∧ up ≤ dn ∧ dn ≤ dnb_ n) ∧ dn ∣ pm_ ro w.toNat (n + 1) ∧ (0 ≤ N ∧ N + 4 ^ n * pm_ ro w.toNat 1 ≤ 256 * pm_ ro w.toNat 1)
theorem bcn_4 : ∀ l < 16, bcn_ l ≤ 4 := by decide
theorem dpu_q {ro : Int → Int} {n : Nat} {left free w up dn N : Int} (hR : 0 ≤ ro 2 ∧ ro 2 ≤ 4) (hd : ∀ r, 0 ≤ r → r < ro 2 → 1 ≤ ro (31 + 4 * r + 1) ∧ ro (31 + 4 * r + 1) ≤ 9) (h : dpu_ ro (n + 1) left free w up dn N) {r : Int} (hr : 0 ≤ r ∧ r < ro 2) (hb : left / 2 ^ r.toNat % 2 = 1) : n < 4 ∧ (1 ≤ das_ ro left (ro 2).toNat ∧ das_ ro left (ro 2).toNat ≤ 9 * ((n : Int) + 1)) ∧ (1 ≤ up * ro (31 + 4 * r + 1) ∧ up * ro (31 + 4 * r + 1) ≤ dn * das_ ro left (ro 2).toNat ∧ dn * das_ ro left (ro 2).toNat ≤ dnb_ n) ∧ dn * das_ ro left (ro 2).toNat ∣ pm_ ro w.toNat (n + 1) := by
  obtain ⟨h1, h2, h3, h4, h5, h6, h7, h8⟩ := h
  have n4 := bcn_4 left.toNat (by omega)
  have d1 := hd r hr.1 hr.2
  have d2 := das_ge (ro := ro) (left := left) (r := r.toNat) hb (ro 2).toNat (fun r r0 r1 => hd r r0 (by omega)) (by omega)
  rw [tn_c hr.1] at d2
  have d3 := das_c (ro := ro) (s := left.toNat) hR hd (by omega)
  rw [tn_c h2.1, h4] at d3
  have d4 : (((n + 1 : Nat)) : Int) = (n : Int) + 1 := rfl
  rw [d4] at d3
  refine ⟨by omega, ⟨by omega, d3⟩, ⟨?_, ?_, ?_⟩, ?_⟩
  · have : 1 * 1 ≤ up * ro (31 + 4 * r + 1) := Int.mul_le_mul h6.1 d1.1 (by omega) (by omega)
    omega
  · exact Int.mul_le_mul h6.2.1 d2 (by omega) (by omega)
  · rw [← dnb_s n (by omega)]
    exact Int.mul_le_mul h6.2.2 d3 (by omega) (by omega)
  · have p1 := pm_step (ro := ro) (w := w.toNat) (s := left.toNat) (n := n + 1) (by omega) (ib_.1.mp (by rw [tn_c h2.1]; exact h3)) h4
    rw [tn_c h2.1] at p1
    exact Int.dvd_trans (Int.mul_dvd_mul_right _ h7) p1
theorem dpu_s {ro : Int → Int} {n : Nat} {left free w up dn N : Int} (hR : 0 ≤ ro 2 ∧ ro 2 ≤ 4) (hd : ∀ r, 0 ≤ r → r < ro 2 → 1 ≤ ro (31 + 4 * r + 1) ∧ ro (31 + 4 * r + 1) ≤ 9) (h : dpu_ ro (n + 1) left free w up dn N) {r : Int} (hr : 0 ≤ r ∧ r < ro 2) (hb : left / 2 ^ r.toNat % 2 = 1) (hw : r ≠ w) {N' f' : Int} (hN : N ≤ N' ∧ N' ≤ N + r * (4 ^ n * pm_ ro w.toNat 1)) (hf : 0 ≤ f' ∧ f' ≤ 15) : dpu_ ro n (left - 2 ^ r.toNat) f' w (up * ro (31 + 4 * r + 1)) (dn * das_ ro left (ro 2).toNat) N' := by
  obtain ⟨q1, q2, q3, q4⟩ := dpu_q hR hd h hr hb
  obtain ⟨h1, h2, h3, h4, h5, h6, h7, h8⟩ := h
  have pz := p8_ (s := r) (by omega)
  have b1 := bx_f left.toNat (by omega) r.toNat (by omega) (ib_.1.mp (by rw [tn_c h2.1]; exact hb))
  have e1 : left - 2 ^ r.toNat = ((left.toNat - 2 ^ r.toNat : Nat) : Int) := by rw [pc_]; omega
  have b2 := bx_n left.toNat (by omega) r.toNat (by omega) (ib_.1.mp (by rw [tn_c h2.1]; exact hb))
  have b3 := bx_k left.toNat (by omega) r.toNat (by omega) w.toNat (by omega) (ib_.1.mp (by rw [tn_c h2.1]; exact hb)) (ib_.1.mp (by rw [tn_c h2.1]; exact h3)) (by omega)
  have e2 : (left - 2 ^ r.toNat).toNat = left.toNat - 2 ^ r.toNat := by rw [e1, Int.toNat_natCast]
  have pb := pm_b (ro := ro) (w := w.toNat) hR hd (by omega)
  have qq : (0 : Int) ≤ 4 ^ n * pm_ ro w.toNat 1 := Int.mul_nonneg (Int.pow_nonneg (by decide)) (by omega)
  refine ⟨h1, by omega, ?_, by rw [e2]; omega, hf, q3, q4, by omega, ?_⟩
  · rw [e1]; exact ib_.1.mpr b3
  · have e3 : (4 : Int) ^ (n + 1) * pm_ ro w.toNat 1 = 4 * (4 ^ n * pm_ ro w.toNat 1) := by rw [Int.pow_succ]; ac_rfl
    rw [e3] at h8
    have e4 : r * (4 ^ n * pm_ ro w.toNat 1) ≤ 3 * (4 ^ n * pm_ ro w.toNat 1) := Int.mul_le_mul_of_nonneg_right (by omega) qq
    omega
theorem dpu_c {M a b : Int} (hM : 0 < M) (ha : 1 ≤ a ∧ a ≤ b) (hd : b ∣ M) : 0 ≤ a * (M / b) ∧ a * (M / b) ≤ M := by
  obtain ⟨k, rfl⟩ := hd
  have b0 : 0 < b := by omega
  rw [Int.mul_ediv_cancel_left _ (show b ≠ 0 by omega)]
  have k0 : 0 ≤ k := by
    rcases Int.lt_or_le k 0 with c | c
    · have := Int.mul_neg_of_pos_of_neg b0 c; omega
    · exact c
  exact ⟨Int.mul_nonneg (by omega) k0, Int.mul_le_mul_of_nonneg_right ha.2 k0⟩
/-- .. and how much it grows -/
theorem din_k {ro : Int → Int} {t w se : Int} (hR : 0 ≤ ro 2 ∧ ro 2 ≤ 4) (hd : ∀ r, 0 ≤ r → r < ro 2 → 1 ≤ ro (31 + 4 * r + 1) ∧ ro (31 + 4 * r + 1) ≤ 9) (hS : ro 0 ≤ 4) (n : Nat) (IH : ∀ (left free up dn N : Int), dpu_ ro n left free w up dn N → N ≤ din_ ro t w se (pm_ ro w.toNat 1) n left free up dn N ∧ din_ ro t w se (pm_ ro w.toNat 1) n left free up dn N ≤ N + 4 ^ n * pm_ ro w.toNat 1) {left free up dn N : Int} (h : dpu_ ro (n + 1) left free w up dn N) : ∀ k : Nat, (k : Int) ≤ ro 2 → N ≤ (List.range k).foldl (dst_ ro t w se (pm_ ro w.toNat 1) (din_ ro t w se (pm_ ro w.toNat 1) n) left free up dn) N ∧ (List.range k).foldl (dst_ ro t w se (pm_ ro w.toNat 1) (din_ ro t w se (pm_ ro w.toNat 1) n) left free up dn) N ≤ N + (k : Int) * (4 ^ n * pm_ ro w.toNat 1) := by
  have h1 := h.1
  have pb := pm_b (ro := ro) (w := w.toNat) hR hd (by omega)
  have qq : pm_ ro w.toNat 1 ≤ 4 ^ n * pm_ ro w.toNat 1 := by
    have : (1 : Int) * pm_ ro w.toNat 1 ≤ 4 ^ n * pm_ ro w.toNat 1 := Int.mul_le_mul_of_nonneg_right (by have : (0 : Int) < 4 ^ n := Int.pow_pos (by decide); omega) (by omega)
    omega
  intro k
  induction k with
  | zero => intro _; show N ≤ N ∧ N ≤ _; constructor <;> omega
  | succ k ih =>
    intro hk
    have ih := ih (by omega)
    rw [List.range_succ, List.foldl_append]
    show N ≤ dst_ _ _ _ _ _ _ _ _ _ _ _ k ∧ dst_ _ _ _ _ _ _ _ _ _ _ _ k ≤ _
    generalize (List.range k).foldl (dst_ ro t w se (pm_ ro w.toNat 1) (din_ ro t w se (pm_ ro w.toNat 1) n) left free up dn) N = N' at ih ⊢
    have e : ((k + 1 : Nat) : Int) * (4 ^ n * pm_ ro w.toNat 1) = (k : Int) * (4 ^ n * pm_ ro w.toNat 1) + 4 ^ n * pm_ ro w.toNat 1 := by rw [Int.natCast_add, Int.add_mul]; simp
    rw [e]
    unfold dst_
    by_cases c1 : left / 2 ^ k % 2 = 1
    · rw [if_t c1]
      have dq := dpu_q hR hd h (r := (k : Int)) ⟨by omega, by omega⟩ (by rw [Int.toNat_natCast]; exact c1)
      by_cases c2 : (k : Int) = w
      · rw [if_t c2]
        by_cases c3 : tks_ ro (k : Int) t free (ro 0).toNat = se
        · rw [if_t c3]
          have := dpu_c (M := pm_ ro w.toNat 1) (by omega) ⟨dq.2.2.1.1, dq.2.2.1.2.1⟩ (Int.dvd_trans dq.2.2.2 (pm_mono (by omega)))
          omega
        · rw [if_f c3]; omega
      · rw [if_f c2]
        have tb := tks_b ro (k : Int) t free (ro 0).toNat
        have tf := tks_f ro (k : Int) t free (ro 0).toNat
        have hf := h.2.2.2.2.1
        have := IH (left - 2 ^ k) (if tks_ ro (k : Int) t free (ro 0).toNat < 0 then free else free - 2 ^ (tks_ ro (k : Int) t free (ro 0).toNat).toNat) (up * ro (31 + 4 * (k : Int) + 1)) (dn * das_ ro left (ro 2).toNat) N' (by
          have := dpu_s hR hd h (r := (k : Int)) ⟨by omega, by omega⟩ (by rw [Int.toNat_natCast]; exact c1) c2 (N' := N') ih (f' := if tks_ ro (k : Int) t free (ro 0).toNat < 0 then free else free - 2 ^ (tks_ ro (k : Int) t free (ro 0).toNat).toNat) (by
            generalize tks_ ro (k : Int) t free (ro 0).toNat = s at *
            by_cases c4 : s < 0
            · rw [if_pos c4]; exact hf
            · rw [if_neg c4]
              have f1 := bx_f free.toNat (by omega) s.toNat (by omega) (ib_.1.mp (by rw [tn_c hf.1]; exact tf (by omega)))
              rw [pc_]; omega)
          rw [Int.toNat_natCast] at this; exact this)
        omega
    · rw [if_f c1]; omega
theorem din_b {ro : Int → Int} {t w se : Int} (hR : 0 ≤ ro 2 ∧ ro 2 ≤ 4) (hd : ∀ r, 0 ≤ r → r < ro 2 → 1 ≤ ro (31 + 4 * r + 1) ∧ ro (31 + 4 * r + 1) ≤ 9) (hS : ro 0 ≤ 4) : ∀ (n : Nat) (left free up dn N : Int), dpu_ ro n left free w up dn N → N ≤ din_ ro t w se (pm_ ro w.toNat 1) n left free up dn N ∧ din_ ro t w se (pm_ ro w.toNat 1) n left free up dn N ≤ N + 4 ^ n * pm_ ro w.toNat 1
  | 0, left, free, up, dn, N, h => by
    have pb := pm_b (ro := ro) (w := w.toNat) hR hd (by have := h.1; omega)
    unfold din_; omega
  | n + 1, left, free, up, dn, N, h => by
    have h1 := h.1
    have pb := pm_b (ro := ro) (w := w.toNat) hR hd (by omega)
    have this := din_k (t := t) (se := se) hR hd hS n (din_b hR hd hS n) h (ro 2).toNat (by omega)
    have q0 : (0 : Int) ≤ 4 ^ n * pm_ ro w.toNat 1 := Int.mul_nonneg (Int.pow_nonneg (by decide)) (by omega)
    unfold din_
    refine ⟨this.1, Int.le_trans this.2 ?_⟩
    have e3 : (4 : Int) ^ (n + 1) * pm_ ro w.toNat 1 = 4 * (4 ^ n * pm_ ro w.toNat 1) := by rw [Int.pow_succ]; ac_rfl
    have e4 : ((ro 2).toNat : Int) * (4 ^ n * pm_ ro w.toNat 1) ≤ 4 * (4 ^ n * pm_ ro w.toNat 1) := Int.mul_le_mul_of_nonneg_right (by omega) q0
    omega
theorem dfl_b {ro : Int → Int} {t w se : Int} {n : Nat} {left free up dn N : Int} (hR : 0 ≤ ro 2 ∧ ro 2 ≤ 4) (hd : ∀ r, 0 ≤ r → r < ro 2 → 1 ≤ ro (31 + 4 * r + 1) ∧ ro (31 + 4 * r + 1) ≤ 9) (hS : ro 0 ≤ 4) (h : dpu_ ro (n + 1) left free w up dn N) (k : Nat) (hk : (k : Int) ≤ ro 2) : N ≤ (List.range k).foldl (dst_ ro t w se (pm_ ro w.toNat 1) (din_ ro t w se (pm_ ro w.toNat 1) n) left free up dn) N ∧ (List.range k).foldl (dst_ ro t w se (pm_ ro w.toNat 1) (din_ ro t w se (pm_ ro w.toNat 1) n) left free up dn) N ≤ N + (k : Int) * (4 ^ n * pm_ ro w.toNat 1) := din_k hR hd hS n (din_b hR hd hS n) h k hk
def dpr_ (n : Nat) (t left free w se up dn N : Int) (h : PH_) : Prop := (2 ≤ h mRoads 0 ∧ h mRoads 0 ≤ 4) ∧ (0 ≤ h mRoads 2 ∧ h mRoads 2 ≤ h mRoads 0) ∧ (∀ r, 0 ≤ r → r < h mRoads 2 → 1 ≤ h mRoads (31 + 4 * r + 1) ∧ h mRoads (31 + 4 * r + 1) ≤ 9) ∧ (0 ≤ t ∧ t ≤ 3) ∧ ir_ se ∧ dpu_ (h mRoads) n left free w up dn N ∧ frc_ h N (pm_ (h mRoads) w.toNat 1)
def dps_ (n : Nat) (t left free w se up dn N : Int) (h h' : PH_) : Prop := off_ [mo_] h h' ∧ (∀ k, k ≠ 51 → k ≠ 52 → h' mo_ k = h mo_ k) ∧ frc_ h' (din_ (h mRoads) t w se (pm_ (h mRoads) w.toNat 1) n left free up dn N) (pm_ (h mRoads) w.toNat 1)
def dpc_ (G : GT_) (n : Nat) : Prop := ∀ (h : PH_) (t left free w se up dn N : Int), dpr_ n t left free w se up dn N h → PC G yX12_comeIn cX12_comeIn 16 none (5 + n) [rr_ G mo_, ii_ t, ii_ left, ii_ free, ii_ w, ii_ se, ll_ up, ll_ dn] h (qv_ (fun h' => dps_ n t left free w se up dn N h h'))
