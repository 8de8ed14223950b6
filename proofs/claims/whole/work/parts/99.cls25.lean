/-! ===== the class's door ===== -/
theorem dv2_ {x y : Int} {i : Nat} {B : Int} (hy : 0 < y) (hxy : y < x) (h : x * y * 2 ^ i ≤ B) : y * (x % y) * 2 ^ (i + 1) ≤ B := by
  have r0 := Int.emod_nonneg x (show y ≠ 0 by omega)
  have r1 := Int.emod_lt_of_pos x hy
  have e := Int.mul_ediv_add_emod x y
  have q1 : 1 ≤ x / y := by
    have := Int.ediv_le_ediv hy (show y ≤ x by omega)
    rw [Int.ediv_self (by omega)] at this; exact this
  have q2 : y * 1 ≤ y * (x / y) := Int.mul_le_mul_of_nonneg_left q1 (by omega)
  generalize x % y = r at *
  generalize y * (x / y) = z at *
  have p0 : (0 : Int) < 2 ^ i := pp_
  have e1 : y * r * 2 ^ (i + 1) = (2 * r) * (y * 2 ^ i) := by rw [Int.pow_succ]; ac_rfl
  have e2 : x * y * 2 ^ i = x * (y * 2 ^ i) := by ac_rfl
  rw [e1]; rw [e2] at h
  exact Int.le_trans (Int.mul_le_mul_of_nonneg_right (by omega) (Int.mul_nonneg (by omega) (by omega))) h
theorem dv1_ {x y : Int} (hy : 0 < y) (hy2 : y ≤ 9223372036854775807) : y * (x % y) * 2 ^ 1 ≤ 2 ^ 128 := by
  have r0 := Int.emod_nonneg x (show y ≠ 0 by omega)
  have r1 := Int.emod_lt_of_pos x hy
  have : y * (x % y) ≤ 9223372036854775807 * 9223372036854775807 := Int.mul_le_mul hy2 (by omega) r0 (by omega)
  generalize y * (x % y) = z at *
  have e : (2 : Int) ^ 128 = 340282366920938463463374607431768211456 := by decide +kernel
  rw [e]; omega
theorem dv3_ {x y : Int} (hy : 0 ≤ y) (hxy : y < x) (h : x * y * 2 ^ 200 ≤ 2 ^ 128) : y = 0 := by
  by_cases c : y = 0
  · exact c
  · exfalso
    have : 1 * 1 ≤ x * y := Int.mul_le_mul (by omega) (by omega) (by omega) (by omega)
    generalize x * y = z at *
    have e : (2 : Int) ^ 128 < 1 * 2 ^ 200 := by decide +kernel
    have : 1 * 2 ^ 200 ≤ z * 2 ^ 200 := Int.mul_le_mul_of_nonneg_right (by omega) (Int.pow_nonneg (by decide))
    generalize (2 : Int) ^ 200 = a at *
    generalize (2 : Int) ^ 128 = b at *
    omega
/-- the chance so far, in lowest terms -/
def fra_ (h : PH_) (N M : Int) : Prop := h 170 8 = N / (Int.gcd N M : Int) ∧ h 170 9 = M / (Int.gcd N M : Int)
/-- one set is what the other isn't -/
def cmp_ (R c f : Int) : Prop := ∀ r : Int, 0 ≤ r → r < R → (c / 2 ^ r.toNat % 2 = 0 ↔ f / 2 ^ r.toNat % 2 = 1)
theorem cmp_k (c : Nat) (hc : c < 16) (f : Nat) (hf : f < 16) (r : Nat) (hr : r < 4) (q : Nat) (hq : q < 4) (h1 : f / 2 ^ r % 2 = 1) (h2 : c / 2 ^ q % 2 = 0 ↔ f / 2 ^ q % 2 = 1) : ((c ||| 2 ^ r) / 2 ^ q % 2 = 0 ↔ (f - 2 ^ r) / 2 ^ q % 2 = 1) := by
  have k : ∀ c < 16, ∀ f < 16, ∀ r < 4, ∀ q < 4, ((f / 2 ^ r % 2 == 1 && ((c / 2 ^ q % 2 == 0) == (f / 2 ^ q % 2 == 1))) = true) → (((c ||| 2 ^ r) / 2 ^ q % 2 == 0) == ((f - 2 ^ r) / 2 ^ q % 2 == 1)) = true := by decide +kernel
  have := k c hc f hf r hr q hq (by simp only [Bool.and_eq_true, beq_iff_eq]; refine ⟨h1, ?_⟩; rw [Bool.eq_iff_iff, beq_iff_eq, beq_iff_eq]; exact h2)
  rw [beq_iff_eq, Bool.eq_iff_iff, beq_iff_eq, beq_iff_eq] at this
  exact this
/-- one more of them -/
theorem cmp_s {R c f r w : Int} (hR : R ≤ 4) (hc : 0 ≤ c ∧ c ≤ 15) (hf : 0 ≤ f ∧ f ≤ 15) (hr : 0 ≤ r ∧ r < 4) (h1 : f / 2 ^ r.toNat % 2 = 1) (h : cmp_ R c f) (hw : w = ((c.toNat ||| ((2 : Int) ^ r.toNat).toNat : Nat) : Int)) : (0 ≤ w ∧ w ≤ 15) ∧ cmp_ R w (f - 2 ^ r.toNat) := by
  rw [show ((2 : Int) ^ r.toNat).toNat = 2 ^ r.toNat by rw [pc_]; rfl] at hw
  have o := (or_k c.toNat (by omega) r.toNat (by omega) 0 (by decide)).1
  have b := bx_f f.toNat (by omega) r.toNat (by omega) (ib_.1.mp (by rw [tn_c hf.1]; exact h1))
  have e1 : f - 2 ^ r.toNat = ((f.toNat - 2 ^ r.toNat : Nat) : Int) := by rw [pc_]; omega
  refine ⟨by omega, fun q q0 q1 => ?_⟩
  have k := cmp_k c.toNat (by omega) f.toNat (by omega) r.toNat (by omega) q.toNat (by omega) (ib_.1.mp (by rw [tn_c hf.1]; exact h1)) (by
    have := h q q0 q1
    rw [← tn_c hc.1, ← tn_c hf.1] at this
    exact ⟨fun u => ib_.1.mp (this.mp (ib_.2.mpr u)), fun u => ib_.2.mp (this.mpr (ib_.1.mpr u))⟩)
  rw [hw, e1]
  exact ⟨fun u => ib_.1.mpr (k.mp (ib_.2.mp u)), fun u => ib_.2.mpr (k.mpr (ib_.1.mp u))⟩
theorem cmp_0 {R : Int} (hR : 0 ≤ R ∧ R ≤ 4) : cmp_ R 0 (2 ^ R.toNat - 1) := fun r r0 r1 => by
  have b := bx_i R.toNat (by omega)
  have e : ((2 : Int) ^ R.toNat - 1) = ((2 ^ R.toNat - 1 : Nat) : Int) := by have := Nat.two_pow_pos R.toNat; rw [pc_]; omega
  rw [e, Int.zero_ediv]
  exact ⟨fun _ => ib_.1.mpr (b.2.2 r.toNat (by omega)), fun _ => rfl⟩
def eqr_ (ro : Int → Int) (o n : Nat) (t c k left free w se up dn N : Int) (h : PH_) : Prop := CRD_ ro h o ∧ (h 170 0 = (o : Int) ∧ h 170 1 = t ∧ h 170 2 = w ∧ h 170 3 = se) ∧ (0 ≤ t ∧ t < ro 1) ∧ (∀ r, 0 ≤ r → r < ro 2 → 1 ≤ ro (31 + 4 * r + 1) ∧ ro (31 + 4 * r + 1) ≤ 9) ∧ (0 ≤ c ∧ c ≤ 15) ∧ (0 ≤ k ∧ k ≤ 15) ∧ cmp_ (ro 2) c left ∧ cmp_ (ro 0) k free ∧ ir_ se ∧ dpu_ ro n left free w up dn N ∧ fra_ h N (pm_ ro w.toNat 1)
def eqs_ (ro : Int → Int) (n : Nat) (t left free w se up dn N : Int) (h h' : PH_) : Prop := off_ [170] h h' ∧ (∀ j, j ≠ 8 → j ≠ 9 → h' 170 j = h 170 j) ∧ fra_ h' (din_ ro t w se (pm_ ro w.toNat 1) n left free up dn N) (pm_ ro w.toNat 1)
def eqc_ (G : GT_) (ro : Int → Int) (o n : Nat) : Prop := ∀ (h : PH_) (t c k left free w se up dn N : Int), eqr_ ro o n t c k left free w se up dn N h → PC G yX0_come cX0_come 11 none (5 + n) [rr_ G 170, ii_ c, ii_ k, ll_ up, ll_ dn] h (qv_ (fun h' => eqs_ ro n t left free w se up dn N h h'))

set_option maxHeartbeats 4000000 in
set_option maxRecDepth 100000 in
theorem d_divisor {G : GT_} (h : PH_) (a b : Int) (h1 : 0 ≤ a ∧ a ≤ 9223372036854775807) (h2 : 0 < b ∧ b ≤ 9223372036854775807) : PC G yX0_divisor cX0_divisor 11 (some .long) 1 [ll_ a, ll_ b] h (ql_ (fun z h' => h = h' ∧ z = (Int.gcd a b : Int))) := by
  refine PC.of (lv := [some (ll_ a), none, some (ll_ b), none, none, none, none, none, none, none, none]) (by decide +kernel) (Nat.le_of_ble_eq_true rfl) rfl rfl ?_
  refine pw_lload_n (z := a) (pc := 0) dX0_divisor_0 rfl rfl ?_
  refine pw_lstore (lv1 := [some (ll_ a), none, some (ll_ b), none, some (ll_ a), none, none, none, none, none, none]) (pc := 1) dX0_divisor_1 (by decide) rfl rfl ?_
  refine pw_lload_n (z := b) (pc := 3) dX0_divisor_3 rfl rfl ?_
  refine pw_lstore (lv1 := [some (ll_ a), none, some (ll_ b), none, some (ll_ a), none, some (ll_ b), none, none, none, none]) (pc := 4) dX0_divisor_4 (by decide) rfl rfl ?_
  refine pw_iconst (pc := 6) dX0_divisor_6 ?_
  refine pw_istore (lv1 := [some (ll_ a), none, some (ll_ b), none, some (ll_ a), none, some (ll_ b), none, some (ii_ 0), none, none]) (pc := 7) dX0_divisor_7 (by decide) rfl rfl ?_
  have L9 : ∀ (nn : Nat) (x : Int) (y : Int) (i : Int), (0 ≤ x ∧ x ≤ 9223372036854775807) → (0 ≤ y ∧ y ≤ 9223372036854775807) → (0 ≤ i ∧ i ≤ 200) → (Int.gcd x y = Int.gcd a b) → (i = 0 ∨ (y < x ∧ x * y * 2 ^ i.toNat ≤ 2 ^ 128)) → ((200 - i + 1 : Int) ≤ nn) → PW G RX0 cX0_divisor 11 (some .long) (rm_ 1) 0 0 (zm_ G (ql_ (fun z h' => h = h' ∧ z = (Int.gcd a b : Int)))) 9 [some (ll_ a), none, some (ll_ b), none, some (ll_ x), none, some (ll_ y), none, some (ii_ i), none, none] [] h := by
    intro nn
    induction nn with
    | zero => intro x y i ax ay ak ag ah ams; exfalso; omega
    | succ nn ih9 =>
      intro x y i ax ay ak ag ah ams
      refine pw_iload (z := i) (pc := 9) dX0_divisor_9 rfl ?_
      refine pw_sipush (pc := 11) dX0_divisor_11 rfl ?_
      refine pw_icmp_ge (t := 45) (pc := 14) dX0_divisor_14 (by decide) (by first | omega) (by first | omega) (fun c14 => ?_) (fun c14 => ?_)
      · have y0 : y = 0 := by
          first
          | exact lc_0 c21
          | (rcases ah with q | q
             · omega
             · have q2 := q.2
               rw [show i = 200 by omega] at q2
               exact dv3_ ay.1 q.1 q2)
        have xg : x = (Int.gcd a b : Int) := by rw [← ag, y0]; show x = ((Nat.gcd x.natAbs 0 : Nat) : Int); rw [Nat.gcd_zero_right]; omega
        have gp := Int.gcd_pos_of_ne_zero_right a (show b ≠ 0 by omega)
        refine pw_lload (z := x) (pc := 45) dX0_divisor_45 rfl ?_
        refine pw_lconst (z := 0) (pc := 47) dX0_divisor_47 rfl ?_
        refine pw_lcmp (pc := 48) dX0_divisor_48 (by first | omega) (by first | omega) ?_
        refine pw_if_le (t := 57) (pc := 49) dX0_divisor_49 (by decide) (by first | omega) (fun c49 => ?_) (fun c49 => ?_)
        · exfalso; have cc : x ≤ 0 := (by revert c49; split <;> (try split) <;> intro c49 <;> omega); omega
        · refine pw_lload (z := x) (pc := 52) dX0_divisor_52 rfl ?_
          refine pw_goto (t := 58) (pc := 54) dX0_divisor_54 (by decide) ?_
          exact pw_lret (pc := 58) dX0_divisor_58 (by first | omega) (⟨rfl, xg⟩)
      · refine pw_lload (z := y) (pc := 17) dX0_divisor_17 rfl ?_
        refine pw_lconst (z := 0) (pc := 19) dX0_divisor_19 rfl ?_
        refine pw_lcmp (pc := 20) dX0_divisor_20 (by first | omega) (by first | omega) ?_
        refine pw_if_eq (t := 45) (pc := 21) dX0_divisor_21 (by decide) (by first | omega) (fun c21 => ?_) (fun c21 => ?_)
        · have y0 : y = 0 := by
            first
            | exact lc_0 c21
            | (rcases ah with q | q
               · omega
               · have q2 := q.2
                 rw [show i = 200 by omega] at q2
                 exact dv3_ ay.1 q.1 q2)
          have xg : x = (Int.gcd a b : Int) := by rw [← ag, y0]; show x = ((Nat.gcd x.natAbs 0 : Nat) : Int); rw [Nat.gcd_zero_right]; omega
          have gp := Int.gcd_pos_of_ne_zero_right a (show b ≠ 0 by omega)
          refine pw_lload (z := x) (pc := 45) dX0_divisor_45 rfl ?_
          refine pw_lconst (z := 0) (pc := 47) dX0_divisor_47 rfl ?_
          refine pw_lcmp (pc := 48) dX0_divisor_48 (by first | omega) (by first | omega) ?_
          refine pw_if_le (t := 57) (pc := 49) dX0_divisor_49 (by decide) (by first | omega) (fun c49 => ?_) (fun c49 => ?_)
          · exfalso; have cc : x ≤ 0 := (by revert c49; split <;> (try split) <;> intro c49 <;> omega); omega
          · refine pw_lload (z := x) (pc := 52) dX0_divisor_52 rfl ?_
            refine pw_goto (t := 58) (pc := 54) dX0_divisor_54 (by decide) ?_
            exact pw_lret (pc := 58) dX0_divisor_58 (by first | omega) (⟨rfl, xg⟩)
        · have y0 := lc_n c21
          have tm : x.tmod y = x % y := Int.tmod_eq_emod_of_nonneg ax.1
          have m1 := Int.emod_nonneg x y0
          have m2 := Int.emod_lt_of_pos x (show 0 < y by omega)
          have bb : y * (x % y) * 2 ^ (i + 1).toNat ≤ 2 ^ 128 := by
            rw [tn_s ak.1]
            rcases ah with q | q
            · rw [q]; exact dv1_ (by omega) ay.2
            · exact dv2_ (by omega) q.1 q.2
          refine pw_lload (z := x) (pc := 24) dX0_divisor_24 rfl ?_
          refine pw_lload (z := y) (pc := 26) dX0_divisor_26 rfl ?_
          refine pw_lrem (pc := 28) dX0_divisor_28 (by first | omega) (by first | omega) ?_
          refine pw_lstore (lv1 := [some (ll_ a), none, some (ll_ b), none, some (ll_ x), none, some (ll_ y), none, some (ii_ i), some (ll_ (x.tmod y)), none]) (pc := 29) dX0_divisor_29 (by decide) rfl rfl ?_
          refine pw_lload (z := y) (pc := 31) dX0_divisor_31 rfl ?_
          refine pw_lstore (lv1 := [some (ll_ a), none, some (ll_ b), none, some (ll_ y), none, some (ll_ y), none, some (ii_ i), some (ll_ (x.tmod y)), none]) (pc := 33) dX0_divisor_33 (by decide) rfl rfl ?_
          refine pw_lload (z := x.tmod y) (pc := 35) dX0_divisor_35 rfl ?_
          refine pw_lstore (lv1 := [some (ll_ a), none, some (ll_ b), none, some (ll_ y), none, some (ll_ (x.tmod y)), none, some (ii_ i), some (ll_ (x.tmod y)), none]) (pc := 37) dX0_divisor_37 (by decide) rfl rfl ?_
          refine pw_iinc (z := i) (lv1 := [some (ll_ a), none, some (ll_ b), none, some (ll_ y), none, some (ll_ (x.tmod y)), none, some (ii_ (i + 1)), some (ll_ (x.tmod y)), none]) (pc := 39) dX0_divisor_39 rfl (by decide) rfl rfl ?_
          refine pw_goto (t := 9) (pc := 42) dX0_divisor_42 (by decide) ?_
          refine pw_less (lv1 := [some (ll_ a), none, some (ll_ b), none, some (ll_ y), none, some (ll_ (x.tmod y)), none, some (ii_ (i + 1)), none, none]) rfl (by intro i v; (match i with | 0 => simp | 1 => simp | 2 => simp | 3 => simp | 4 => simp | 5 => simp | 6 => simp | 7 => simp | 8 => simp | 9 => simp | 10 => simp | n + 11 => simp)) ?_
          exact ih9 _ _ _ (by omega) (by omega) (by omega) (by rw [tm, gcd_e ax.1 ay.1]; exact ag) (by rw [tm]; exact Or.inr ⟨by omega, bb⟩) (by omega)
  exact L9 _ _ _ _ (by omega) (by omega) (by omega) (rfl) (Or.inl rfl) (Int.self_le_toNat _)

set_option maxHeartbeats 4000000 in
set_option maxRecDepth 100000 in
theorem d_add {G : GT_} (hC : okC_ G) (h : PH_) (N M a b : Int) (hN : 0 ≤ N ∧ N ≤ 256 * M) (hMb : 1 ≤ M ∧ M ≤ 40000000000) (ha : 1 ≤ a ∧ a ≤ b) (hb : b ≤ 157464) (hd : b ∣ M) (hf : fra_ h N M) : PC G yX0_add cX0_add 13 none 2 [rr_ G 170, ll_ a, ll_ b] h (qv_ (fun h' => off_ [170] h h' ∧ (∀ k, k ≠ 8 → k ≠ 9 → h' 170 k = h 170 k) ∧ fra_ h' (N + a * (M / b)) M)) := by
  obtain ⟨fx, f0, f1, f2, f3⟩ := frc_x (show 0 < M by omega) hN.1 hf.1 hf.2
  refine PC.of (lv := [some (rr_ G 170), some (ll_ a), none, some (ll_ b), none, none, none, none, none, none, none, none, none]) (by decide +kernel) (Nat.le_of_ble_eq_true rfl) rfl rfl ?_
  refine pw_aload_n (z := 170) (pc := 0) dX0_add_0 rfl rfl ?_
  refine pw_gJ (x := 9) (pc := 1) dX0_add_1 fX0_36 (hC 170 (by decide)) (show kd_ 170 = 10 by decide +kernel) rfl rfl (fun r1 => ?_)
  refine pw_lload_n (z := b) (pc := 4) dX0_add_4 rfl rfl ?_
  refine pw_callS (As := [ll_ (h 170 9), ll_ b]) (rest := []) (pc := 5) dX0_add_5 (d_divisor h (h 170 9) b (by first | omega) (by first | omega)) lX0_63 mX0_divisor sX0_divisor rfl rfl (by decide) ⟨Nat.zero_le _, Nat.zero_le _⟩ (Nat.le_of_ble_eq_true rfl) (k_l (fun z5 h5 y5 q5 => ?_))
  obtain ⟨rfl, w5⟩ := q5
  have g0 := Int.gcd_pos_of_ne_zero_right (h 170 9) (show b ≠ 0 by omega)
  obtain ⟨v1, hv1⟩ := Int.gcd_dvd_left (h 170 9) b
  obtain ⟨b1, hb1⟩ := Int.gcd_dvd_right (h 170 9) b
  rw [← w5] at hv1 hb1
  have z0 : 0 < z5 := by omega
  have b10 : 0 < b1 := by
    rcases Int.lt_or_le 0 b1 with c | c
    · exact c
    · have := Int.mul_nonpos_of_nonneg_of_nonpos (show 0 ≤ z5 by omega) c; omega
  have v10 : 0 < v1 := by
    rcases Int.lt_or_le 0 v1 with c | c
    · exact c
    · have := Int.mul_nonpos_of_nonneg_of_nonpos (show 0 ≤ z5 by omega) c; omega
  have b11 : b1 ≤ 157464 := by have : 1 * b1 ≤ z5 * b1 := Int.mul_le_mul_of_nonneg_right (by omega) (by omega); omega
  have v11 : v1 ≤ 40000000000 := by have : 1 * v1 ≤ z5 * v1 := Int.mul_le_mul_of_nonneg_right (by omega) (by omega); omega
  have tb : b.tdiv z5 = b1 := by rw [Int.tdiv_eq_ediv_of_nonneg (by omega), hb1]; exact Int.mul_ediv_cancel_left _ (by omega)
  have ta : (h 170 9).tdiv z5 = v1 := by rw [Int.tdiv_eq_ediv_of_nonneg (by omega), hv1]; exact Int.mul_ediv_cancel_left _ (by omega)
  have k1 : 0 ≤ h 170 8 * b1 ∧ h 170 8 * b1 ≤ 10240000000000 * 157464 := ⟨Int.mul_nonneg (by omega) (by omega), Int.mul_le_mul (by omega) b11 (by omega) (by omega)⟩
  have k2 : 0 ≤ a * v1 ∧ a * v1 ≤ 157464 * 40000000000 := ⟨Int.mul_nonneg (by omega) (by omega), Int.mul_le_mul (by omega) v11 (by omega) (by omega)⟩
  have k3 : 0 < v1 * b ∧ v1 * b ≤ 40000000000 * 157464 := ⟨Int.mul_pos (by omega) (by omega), Int.mul_le_mul (by omega) hb (by omega) (by omega)⟩
  refine pw_lstore (lv1 := [some (rr_ G 170), some (ll_ a), none, some (ll_ b), none, some (ll_ z5), none, none, none, none, none, none, none]) (pc := 8) dX0_add_8 (by decide) rfl rfl ?_
  refine pw_aload_n (z := 170) (pc := 10) dX0_add_10 rfl rfl ?_
  refine pw_gJ (x := 8) (pc := 11) dX0_add_11 fX0_32 (hC 170 (by decide)) (show kd_ 170 = 10 by decide +kernel) rfl rfl (fun r11 => ?_)
  refine pw_lload_n (z := b) (pc := 14) dX0_add_14 rfl rfl ?_
  refine pw_lload (z := z5) (pc := 15) dX0_add_15 rfl ?_
  refine pw_ldiv (pc := 17) dX0_add_17 (by first | omega) (by first | omega) ?_
  rw [tb]
  refine pw_lmul (pc := 18) dX0_add_18 ?_
  refine pw_lload_n (z := a) (pc := 19) dX0_add_19 rfl rfl ?_
  refine pw_aload_n (z := 170) (pc := 20) dX0_add_20 rfl rfl ?_
  refine pw_gJ (x := 9) (pc := 21) dX0_add_21 fX0_36 (hC 170 (by decide)) (show kd_ 170 = 10 by decide +kernel) rfl rfl (fun r21 => ?_)
  refine pw_lload (z := z5) (pc := 24) dX0_add_24 rfl ?_
  refine pw_ldiv (pc := 26) dX0_add_26 (by first | omega) (by first | omega) ?_
  rw [ta]
  refine pw_lmul (pc := 27) dX0_add_27 ?_
  refine pw_ladd (pc := 28) dX0_add_28 ?_
  refine pw_lstore (lv1 := [some (rr_ G 170), some (ll_ a), none, some (ll_ b), none, some (ll_ z5), none, some (ll_ (((h 170 8) * b1) + (a * v1))), none, none, none, none, none]) (pc := 29) dX0_add_29 (by decide) rfl rfl ?_
  refine pw_aload_n (z := 170) (pc := 31) dX0_add_31 rfl rfl ?_
  refine pw_gJ (x := 9) (pc := 32) dX0_add_32 fX0_36 (hC 170 (by decide)) (show kd_ 170 = 10 by decide +kernel) rfl rfl (fun r32 => ?_)
  refine pw_lload (z := z5) (pc := 35) dX0_add_35 rfl ?_
  refine pw_ldiv (pc := 37) dX0_add_37 (by first | omega) (by first | omega) ?_
  rw [ta]
  refine pw_lload_n (z := b) (pc := 38) dX0_add_38 rfl rfl ?_
  refine pw_lmul (pc := 39) dX0_add_39 ?_
  refine pw_lstore (lv1 := [some (rr_ G 170), some (ll_ a), none, some (ll_ b), none, some (ll_ z5), none, some (ll_ (((h 170 8) * b1) + (a * v1))), none, some (ll_ (v1 * b)), none, none, none]) (pc := 40) dX0_add_40 (by decide) rfl rfl ?_
  refine pw_lload (z := ((h 170 8) * b1) + (a * v1)) (pc := 42) dX0_add_42 rfl ?_
  refine pw_lload (z := v1 * b) (pc := 44) dX0_add_44 rfl ?_
  refine pw_callS (As := [ll_ (((h 170 8) * b1) + (a * v1)), ll_ (v1 * b)]) (rest := []) (pc := 46) dX0_add_46 (d_divisor h (((h 170 8) * b1) + (a * v1)) (v1 * b) (by first | omega) (by first | omega)) lX0_63 mX0_divisor sX0_divisor rfl rfl (by decide) ⟨Nat.zero_le _, Nat.zero_le _⟩ (Nat.le_of_ble_eq_true rfl) (k_l (fun z46 h46 y46 q46 => ?_))
  obtain ⟨rfl, w46⟩ := q46
  have g1 := Int.gcd_pos_of_ne_zero_right (((h 170 8) * b1) + (a * v1)) (show v1 * b ≠ 0 by omega)
  have z1 : 0 < z46 := by omega
  have t1 : 0 ≤ (((h 170 8) * b1) + (a * v1)).tdiv z46 ∧ (((h 170 8) * b1) + (a * v1)).tdiv z46 ≤ (((h 170 8) * b1) + (a * v1)) := by rw [Int.tdiv_eq_ediv_of_nonneg (by omega)]; exact ⟨Int.ediv_nonneg (by omega) (by omega), Int.ediv_le_self _ (by omega)⟩
  have t2 : 0 ≤ (v1 * b).tdiv z46 ∧ (v1 * b).tdiv z46 ≤ (v1 * b) := by rw [Int.tdiv_eq_ediv_of_nonneg (by omega)]; exact ⟨Int.ediv_nonneg (by omega) (by omega), Int.ediv_le_self _ (by omega)⟩
  refine pw_lstore (lv1 := [some (rr_ G 170), some (ll_ a), none, some (ll_ b), none, some (ll_ z5), none, some (ll_ (((h 170 8) * b1) + (a * v1))), none, some (ll_ (v1 * b)), none, some (ll_ z46), none]) (pc := 49) dX0_add_49 (by decide) rfl rfl ?_
  refine pw_aload_n (z := 170) (pc := 51) dX0_add_51 rfl rfl ?_
  refine pw_lload (z := ((h 170 8) * b1) + (a * v1)) (pc := 52) dX0_add_52 rfl ?_
  refine pw_lload (z := z46) (pc := 54) dX0_add_54 rfl ?_
  refine pw_ldiv (pc := 56) dX0_add_56 (by first | omega) (by first | omega) ?_
  refine pw_pJ (x := 8) (pc := 57) dX0_add_57 fX0_32 (hC 170 (by decide)) (show kd_ 170 = 10 by decide +kernel) rfl rfl (by first | omega) ?_
  obtain ⟨g57, e57⟩ : ∃ x, x = up_ h 170 8 ((((h 170 8) * b1) + (a * v1)).tdiv z46) := ⟨_, rfl⟩
  refine pw_heq e57 ?_
  refine pw_aload_n (z := 170) (pc := 60) dX0_add_60 rfl rfl ?_
  refine pw_lload (z := v1 * b) (pc := 61) dX0_add_61 rfl ?_
  refine pw_lload (z := z46) (pc := 63) dX0_add_63 rfl ?_
  refine pw_ldiv (pc := 65) dX0_add_65 (by first | omega) (by first | omega) ?_
  refine pw_pJ (x := 9) (pc := 66) dX0_add_66 fX0_36 (hC 170 (by decide)) (show kd_ 170 = 10 by decide +kernel) rfl rfl (by first | omega) ?_
  obtain ⟨g66, e66⟩ : ∃ x, x = up_ g57 170 9 ((v1 * b).tdiv z46) := ⟨_, rfl⟩
  refine pw_heq e66 ?_
  exact pw_vret (pc := 69) dX0_add_69 (by
            have V : ∀ x y : Int, x = (h 170 8 * b1) + (a * v1) → y = v1 * b → x * (h 170 9 * b) = (h 170 8 * b + a * h 170 9) * y := by
              intro x y e1 e2
              rw [e1, e2]
              have q1 : h 170 8 * b + a * h 170 9 = z5 * ((h 170 8 * b1) + (a * v1)) := by
                rw [Int.mul_add]
                have u1 : h 170 8 * b = z5 * (h 170 8 * b1) := by rw [hb1]; ac_rfl
                have u2 : a * h 170 9 = z5 * (a * v1) := by rw [hv1]; ac_rfl
                rw [u1, u2]
              rw [q1]
              have q2 : h 170 9 * b = z5 * (v1 * b) := by rw [hv1]; ac_rfl
              rw [q2]; ac_rfl
            have fa := frc_add (a := a) (b := b) (show 0 < M by omega) hN.1 (by omega) hd hf.1 hf.2 (x := (h 170 8 * b1) + (a * v1)) (y := v1 * b) k3.1 (V _ _ rfl rfl)
            rw [← w46] at fa
            refine ⟨by rw [e66, e57]; exact off_up (off_up off_rf (by decide)) (by decide), fun k k1 k2 => by rw [e66, up_at, if_neg k2, e57, up_at, if_neg k1], ?_, ?_⟩
            · rw [e66, up_at, if_neg (by decide), e57, up_same, Int.tdiv_eq_ediv_of_nonneg (by omega)]; exact fa.1
            · rw [e66, up_same, Int.tdiv_eq_ediv_of_nonneg (by omega)]; exact fa.2)

