/-! ===== the common measure ===== -/
theorem gcd_e {x y : Int} (hx : 0 ≤ x) (hy : 0 ≤ y) : Int.gcd y (x % y) = Int.gcd x y := by
  obtain ⟨m, rfl⟩ := Int.eq_ofNat_of_zero_le hx
  obtain ⟨k, rfl⟩ := Int.eq_ofNat_of_zero_le hy
  rw [← Int.natCast_emod]
  show Nat.gcd k (m % k) = Nat.gcd m k
  rw [Nat.gcd_comm k (m % k), ← Nat.gcd_rec, Nat.gcd_comm]
theorem lc_0 {y : Int} (h : (if 0 < y then 1 else if y = 0 then 0 else -1 : Int) = 0) : y = 0 := by
  split at h
  · omega
  · split at h <;> omega
theorem lc_n {y : Int} (h : ¬ (if 0 < y then 1 else if y = 0 then 0 else -1 : Int) = 0) : y ≠ 0 := by
  intro e; subst e; exact h rfl

set_option maxHeartbeats 4000000 in
set_option maxRecDepth 100000 in
theorem c_common {G : GT_} (h : PH_) (a b : Int) (h1 : 0 ≤ a ∧ a ≤ 9223372036854775807) (h2 : 0 ≤ b ∧ b ≤ 9223372036854775807) : PC G yX12_common cX12_common 10 (some .long) 1 [ll_ a, ll_ b] h (ql_ (fun z h' => h = h' ∧ z = (Int.gcd a b : Int))) := by
  refine PC.of (lv := [some (ll_ a), none, some (ll_ b), none, none, none, none, none, none, none]) (by decide +kernel) (Nat.le_of_ble_eq_true rfl) rfl rfl ?_
  refine pw_lload_n (z := a) (pc := 0) dX12_common_0 rfl rfl ?_
  refine pw_lstore (lv1 := [some (ll_ a), none, some (ll_ b), none, some (ll_ a), none, none, none, none, none]) (pc := 1) dX12_common_1 (by decide) rfl rfl ?_
  refine pw_lload_n (z := b) (pc := 3) dX12_common_3 rfl rfl ?_
  refine pw_lstore (lv1 := [some (ll_ a), none, some (ll_ b), none, some (ll_ a), none, some (ll_ b), none, none, none]) (pc := 4) dX12_common_4 (by decide) rfl rfl ?_
  have L6 : ∀ (nn : Nat) (x : Int) (y : Int), (0 ≤ x ∧ x ≤ 9223372036854775807) → (0 ≤ y ∧ y ≤ 9223372036854775807) → (Int.gcd x y = Int.gcd a b) → ((y + 1 : Int) ≤ nn) → PW G RX12 cX12_common 10 (some .long) (rm_ 1) 0 0 (zm_ G (ql_ (fun z h' => h = h' ∧ z = (Int.gcd a b : Int)))) 6 [some (ll_ a), none, some (ll_ b), none, some (ll_ x), none, some (ll_ y), none, none, none] [] h := by
    intro nn
    induction nn with
    | zero => intro x y ax ay ag ams; exfalso; omega
    | succ nn ih6 =>
      intro x y ax ay ag ams
      refine pw_lload (z := y) (pc := 6) dX12_common_6 rfl ?_
      refine pw_lconst (z := 0) (pc := 8) dX12_common_8 rfl ?_
      refine pw_lcmp (pc := 9) dX12_common_9 (by first | omega) (by first | omega) ?_
      refine pw_if_eq (t := 31) (pc := 10) dX12_common_10 (by decide) (by first | omega) (fun c10 => ?_) (fun c10 => ?_)
      · have y0 := lc_0 c10
        refine pw_lload (z := x) (pc := 31) dX12_common_31 rfl ?_
        exact pw_lret (pc := 33) dX12_common_33 (by first | omega) (⟨rfl, by rw [← ag, y0]; show x = ((Nat.gcd x.natAbs 0 : Nat) : Int); rw [Nat.gcd_zero_right]; omega⟩)
      · have y0 := lc_n c10
        have tm : x.tmod y = x % y := Int.tmod_eq_emod_of_nonneg ax.1
        have m1 := Int.emod_nonneg x y0
        have m2 := Int.emod_lt_of_pos x (show 0 < y by omega)
        refine pw_lload (z := x) (pc := 13) dX12_common_13 rfl ?_
        refine pw_lload (z := y) (pc := 15) dX12_common_15 rfl ?_
        refine pw_lrem (pc := 17) dX12_common_17 (by first | omega) (by first | omega) ?_
        refine pw_lstore (lv1 := [some (ll_ a), none, some (ll_ b), none, some (ll_ x), none, some (ll_ y), none, some (ll_ (x.tmod y)), none]) (pc := 18) dX12_common_18 (by decide) rfl rfl ?_
        refine pw_lload (z := y) (pc := 20) dX12_common_20 rfl ?_
        refine pw_lstore (lv1 := [some (ll_ a), none, some (ll_ b), none, some (ll_ y), none, some (ll_ y), none, some (ll_ (x.tmod y)), none]) (pc := 22) dX12_common_22 (by decide) rfl rfl ?_
        refine pw_lload (z := x.tmod y) (pc := 24) dX12_common_24 rfl ?_
        refine pw_lstore (lv1 := [some (ll_ a), none, some (ll_ b), none, some (ll_ y), none, some (ll_ (x.tmod y)), none, some (ll_ (x.tmod y)), none]) (pc := 26) dX12_common_26 (by decide) rfl rfl ?_
        refine pw_goto (t := 6) (pc := 28) dX12_common_28 (by decide) ?_
        refine pw_less (lv1 := [some (ll_ a), none, some (ll_ b), none, some (ll_ y), none, some (ll_ (x.tmod y)), none, none, none]) rfl (by intro i v; (match i with | 0 => simp | 1 => simp | 2 => simp | 3 => simp | 4 => simp | 5 => simp | 6 => simp | 7 => simp | 8 => simp | 9 => simp | n + 10 => simp)) ?_
        exact ih6 _ _ (by omega) (by omega) (by rw [tm, gcd_e ax.1 ay.1]; exact ag) (by omega)
  exact L6 _ _ _ (by omega) (by omega) (rfl) (Int.self_le_toNat _)

