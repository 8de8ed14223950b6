/-! ===== the lowest bit ===== -/
section PWI
variable {G : GT_} {own : String} {cc : ByteArray} {nL : Nat} {rt : Option FieldType} {R : Room} {cs ss : Nat} {Zf : List Frame → Array Value → State → State → Prop} {pc : Nat} {lv : List (Option Value)} {st : List Value} {h : PH_}
theorem pw_iandI {a b : Int} (hd : decode cc pc = .ok (.iand, 1)) (ha : 0 ≤ a ∧ ir_ a) (hb : 0 ≤ b ∧ ir_ b) (k : PW G own cc nL rt R cs ss Zf (pc + 1) lv (ii_ ((b.toNat - (b.toNat &&& a.toNat) : Nat) : Int) :: st) h) : PW G own cc nL rt R cs ss Zf pc lv (ii_ b :: ii_ (-1 - a) :: st) h := by
  intro p e s m args below meth cd H locs ls X P S L
  refine lv_iand X.1 X.2.1 hd ?_
  obtain ⟨n, e1, e2, e3⟩ := i32_pos ha.1 ha.2
  obtain ⟨n2, e4, e5, e6⟩ := i32_pos hb.1 hb.2
  have q : Int32.ofInt (-1 - a) &&& Int32.ofInt b = Int32.ofInt ((b.toNat - (b.toNat &&& a.toNat) : Nat) : Int) := by
    rw [Int32.and_comm, e3, e6, e1, e4]
    exact i32_andn e5 e2
  rw [q]
  exact k p e s m args below meth cd H locs ls X P S L
end PWI
theorem tz_ex : ∀ n : Nat, 0 < n → ∃ z q : Nat, n = 2 ^ z * (2 * q + 1) := by
  intro n
  induction n using Nat.strongRecOn with
  | _ n ih =>
    intro hn
    by_cases c : n % 2 = 1
    · exact ⟨0, n / 2, by omega⟩
    · obtain ⟨z, q, e⟩ := ih (n / 2) (by omega) (by omega)
      refine ⟨z + 1, q, ?_⟩
      rw [Nat.pow_succ, show 2 ^ z * 2 * (2 * q + 1) = 2 * (2 ^ z * (2 * q + 1)) by rw [Nat.mul_comm (2 ^ z) 2, Nat.mul_assoc], ← e]
      omega
theorem tz_and (z q : Nat) : (2 ^ z * (2 * q) + (2 ^ z - 1)) &&& (2 ^ z * (2 * q + 1)) = 2 ^ z * (2 * q) := by
  have pz : 0 < 2 ^ z := Nat.pow_pos (by decide)
  have hl : 2 ^ z - 1 < 2 ^ z := by omega
  apply Nat.eq_of_testBit_eq
  intro j
  have e2 : 2 ^ z * (2 * q + 1) = 2 ^ z * (2 * q + 1) + 0 := rfl
  have e3 : 2 ^ z * (2 * q) = 2 ^ z * (2 * q) + 0 := rfl
  rw [Nat.testBit_and, Nat.testBit_two_pow_mul_add _ hl, e2, Nat.testBit_two_pow_mul_add _ pz]
  conv => rhs; rw [e3, Nat.testBit_two_pow_mul_add _ pz]
  by_cases c : j < z
  · rw [if_pos c, if_pos c, if_pos c, Nat.zero_testBit, Bool.and_false]
  · rw [if_neg c, if_neg c, if_neg c]
    cases hj : j - z with
    | zero => rw [Nat.testBit_zero, Nat.testBit_zero]; simp
    | succ k => rw [Nat.testBit_succ, Nat.testBit_succ, show 2 * q / 2 = q by omega, show (2 * q + 1) / 2 = q by omega, Bool.and_self]
theorem ntz_ {x : Int} (hx : 0 < x ∧ x < 16777216) : ∃ (z : Nat) (m : Int), (((x - 1).toNat - ((x - 1).toNat &&& x.toNat) : Nat) : Int) = m ∧ ((m = 0 ∧ z = 0) ∨ (m = 1 ∧ z = 1) ∨ (m = 3 ∧ z = 2) ∨ (m = 7 ∧ z = 3) ∨ (m = 15 ∧ z = 4) ∨ (m = 31 ∧ z = 5) ∨ (m = 63 ∧ z = 6) ∨ (m = 127 ∧ z = 7) ∨ (m = 255 ∧ z = 8) ∨ (m = 511 ∧ z = 9) ∨ (m = 1023 ∧ z = 10) ∨ (m = 2047 ∧ z = 11) ∨ (m = 4095 ∧ z = 12) ∨ (m = 8191 ∧ z = 13) ∨ (m = 16383 ∧ z = 14) ∨ (m = 32767 ∧ z = 15) ∨ (m = 65535 ∧ z = 16) ∨ (m = 131071 ∧ z = 17) ∨ (m = 262143 ∧ z = 18) ∨ (m = 524287 ∧ z = 19) ∨ (m = 1048575 ∧ z = 20) ∨ (m = 2097151 ∧ z = 21) ∨ (m = 4194303 ∧ z = 22) ∨ (m = 8388607 ∧ z = 23)) ∧ x / 2 ^ z % 2 = 1 ∧ ∀ j : Nat, j < z → x / 2 ^ j % 2 = 0 := by
  obtain ⟨z, q, e⟩ := tz_ex x.toNat (by omega)
  have pz : 0 < 2 ^ z := Nat.pow_pos (by decide)
  have e1 : (x - 1).toNat = 2 ^ z * (2 * q) + (2 ^ z - 1) := by
    have : x.toNat = 2 ^ z * (2 * q) + 2 ^ z := by rw [e, Nat.mul_add, Nat.mul_one]
    omega
  have z24 : z < 24 := by
    have b : 2 ^ z ≤ x.toNat := by rw [e]; exact Nat.le_mul_of_pos_right _ (by omega)
    rcases Nat.lt_or_ge z 24 with u | u
    · exact u
    · have := Nat.pow_le_pow_right (show 0 < 2 by decide) u
      have : (2 : Nat) ^ 24 = 16777216 := rfl
      omega
  have hx2 : x = ((2 ^ z * (2 * q + 1) : Nat) : Int) := by rw [← e]; omega
  refine ⟨z, ((2 ^ z - 1 : Nat) : Int), ?_, ?_, ?_, fun j hj => ?_⟩
  · rw [e1, e, tz_and]; congr 1; omega
  · clear e e1 hx2 hx pz
    have h : z = 0 ∨ z = 1 ∨ z = 2 ∨ z = 3 ∨ z = 4 ∨ z = 5 ∨ z = 6 ∨ z = 7 ∨ z = 8 ∨ z = 9 ∨ z = 10 ∨ z = 11 ∨ z = 12 ∨ z = 13 ∨ z = 14 ∨ z = 15 ∨ z = 16 ∨ z = 17 ∨ z = 18 ∨ z = 19 ∨ z = 20 ∨ z = 21 ∨ z = 22 ∨ z = 23 := by omega
    rcases h with rfl | rfl | rfl | rfl | rfl | rfl | rfl | rfl | rfl | rfl | rfl | rfl | rfl | rfl | rfl | rfl | rfl | rfl | rfl | rfl | rfl | rfl | rfl | rfl
    · exact Or.inl ⟨rfl, rfl⟩
    · exact Or.inr (Or.inl ⟨rfl, rfl⟩)
    · exact Or.inr (Or.inr (Or.inl ⟨rfl, rfl⟩))
    · exact Or.inr (Or.inr (Or.inr (Or.inl ⟨rfl, rfl⟩)))
    · exact Or.inr (Or.inr (Or.inr (Or.inr (Or.inl ⟨rfl, rfl⟩))))
    · exact Or.inr (Or.inr (Or.inr (Or.inr (Or.inr (Or.inl ⟨rfl, rfl⟩)))))
    · exact Or.inr (Or.inr (Or.inr (Or.inr (Or.inr (Or.inr (Or.inl ⟨rfl, rfl⟩))))))
    · exact Or.inr (Or.inr (Or.inr (Or.inr (Or.inr (Or.inr (Or.inr (Or.inl ⟨rfl, rfl⟩)))))))
    · exact Or.inr (Or.inr (Or.inr (Or.inr (Or.inr (Or.inr (Or.inr (Or.inr (Or.inl ⟨rfl, rfl⟩))))))))
    · exact Or.inr (Or.inr (Or.inr (Or.inr (Or.inr (Or.inr (Or.inr (Or.inr (Or.inr (Or.inl ⟨rfl, rfl⟩)))))))))
    · exact Or.inr (Or.inr (Or.inr (Or.inr (Or.inr (Or.inr (Or.inr (Or.inr (Or.inr (Or.inr (Or.inl ⟨rfl, rfl⟩))))))))))
    · exact Or.inr (Or.inr (Or.inr (Or.inr (Or.inr (Or.inr (Or.inr (Or.inr (Or.inr (Or.inr (Or.inr (Or.inl ⟨rfl, rfl⟩)))))))))))
    · exact Or.inr (Or.inr (Or.inr (Or.inr (Or.inr (Or.inr (Or.inr (Or.inr (Or.inr (Or.inr (Or.inr (Or.inr (Or.inl ⟨rfl, rfl⟩))))))))))))
    · exact Or.inr (Or.inr (Or.inr (Or.inr (Or.inr (Or.inr (Or.inr (Or.inr (Or.inr (Or.inr (Or.inr (Or.inr (Or.inr (Or.inl ⟨rfl, rfl⟩)))))))))))))
    · exact Or.inr (Or.inr (Or.inr (Or.inr (Or.inr (Or.inr (Or.inr (Or.inr (Or.inr (Or.inr (Or.inr (Or.inr (Or.inr (Or.inr (Or.inl ⟨rfl, rfl⟩))))))))))))))
    · exact Or.inr (Or.inr (Or.inr (Or.inr (Or.inr (Or.inr (Or.inr (Or.inr (Or.inr (Or.inr (Or.inr (Or.inr (Or.inr (Or.inr (Or.inr (Or.inl ⟨rfl, rfl⟩)))))))))))))))
    · exact Or.inr (Or.inr (Or.inr (Or.inr (Or.inr (Or.inr (Or.inr (Or.inr (Or.inr (Or.inr (Or.inr (Or.inr (Or.inr (Or.inr (Or.inr (Or.inr (Or.inl ⟨rfl, rfl⟩))))))))))))))))
    · exact Or.inr (Or.inr (Or.inr (Or.inr (Or.inr (Or.inr (Or.inr (Or.inr (Or.inr (Or.inr (Or.inr (Or.inr (Or.inr (Or.inr (Or.inr (Or.inr (Or.inr (Or.inl ⟨rfl, rfl⟩)))))))))))))))))
    · exact Or.inr (Or.inr (Or.inr (Or.inr (Or.inr (Or.inr (Or.inr (Or.inr (Or.inr (Or.inr (Or.inr (Or.inr (Or.inr (Or.inr (Or.inr (Or.inr (Or.inr (Or.inr (Or.inl ⟨rfl, rfl⟩))))))))))))))))))
    · exact Or.inr (Or.inr (Or.inr (Or.inr (Or.inr (Or.inr (Or.inr (Or.inr (Or.inr (Or.inr (Or.inr (Or.inr (Or.inr (Or.inr (Or.inr (Or.inr (Or.inr (Or.inr (Or.inr (Or.inl ⟨rfl, rfl⟩)))))))))))))))))))
    · exact Or.inr (Or.inr (Or.inr (Or.inr (Or.inr (Or.inr (Or.inr (Or.inr (Or.inr (Or.inr (Or.inr (Or.inr (Or.inr (Or.inr (Or.inr (Or.inr (Or.inr (Or.inr (Or.inr (Or.inr (Or.inl ⟨rfl, rfl⟩))))))))))))))))))))
    · exact Or.inr (Or.inr (Or.inr (Or.inr (Or.inr (Or.inr (Or.inr (Or.inr (Or.inr (Or.inr (Or.inr (Or.inr (Or.inr (Or.inr (Or.inr (Or.inr (Or.inr (Or.inr (Or.inr (Or.inr (Or.inr (Or.inl ⟨rfl, rfl⟩)))))))))))))))))))))
    · exact Or.inr (Or.inr (Or.inr (Or.inr (Or.inr (Or.inr (Or.inr (Or.inr (Or.inr (Or.inr (Or.inr (Or.inr (Or.inr (Or.inr (Or.inr (Or.inr (Or.inr (Or.inr (Or.inr (Or.inr (Or.inr (Or.inr (Or.inl ⟨rfl, rfl⟩))))))))))))))))))))))
    · exact Or.inr (Or.inr (Or.inr (Or.inr (Or.inr (Or.inr (Or.inr (Or.inr (Or.inr (Or.inr (Or.inr (Or.inr (Or.inr (Or.inr (Or.inr (Or.inr (Or.inr (Or.inr (Or.inr (Or.inr (Or.inr (Or.inr (Or.inr (⟨rfl, rfl⟩)))))))))))))))))))))))
  · rw [hx2, show (2 : Int) ^ z = ((2 ^ z : Nat) : Int) by simp, ← Int.natCast_ediv, Nat.mul_div_cancel_left _ pz]; omega
  · have pj : 0 < 2 ^ j := Nat.pow_pos (by decide)
    obtain ⟨d, rfl⟩ : ∃ d, z = j + (d + 1) := ⟨z - j - 1, by omega⟩
    rw [hx2, show (2 : Int) ^ j = ((2 ^ j : Nat) : Int) by simp, ← Int.natCast_ediv, Nat.pow_add, Nat.mul_assoc, Nat.mul_div_cancel_left _ pj, Nat.pow_succ, show 2 ^ d * 2 * (2 * q + 1) = 2 * (2 ^ d * (2 * q + 1)) by rw [Nat.mul_comm (2 ^ d) 2, Nat.mul_assoc]]
    omega

set_option maxHeartbeats 4000000 in
set_option maxRecDepth 100000 in
theorem j_ntz {G : GT_} (h : PH_) (x : Int) (hx : 0 < x ∧ x < 16777216) : PC G yJ6_numberOfTrailingZeros_0f7a4 cJ6_numberOfTrailingZeros_0f7a4 2 (some .int) 1 [ii_ x] h (qi_ (fun z h' => h = h' ∧ (0 ≤ z ∧ z < 24) ∧ x / 2 ^ z.toNat % 2 = 1 ∧ ∀ j : Nat, (j : Int) < z → x / 2 ^ j % 2 = 0)) := by
  obtain ⟨zz, m, hm, hT, hb, hl⟩ := ntz_ hx
  have mb : 0 ≤ m ∧ m < 16777216 := by omega
  refine PC.of (lv := [some (ii_ x), none]) (by decide +kernel) (Nat.le_of_ble_eq_true rfl) rfl rfl ?_
  refine pw_iload_n (z := x) (pc := 0) dJ6_numberOfTrailingZeros_0f7a4_0 rfl rfl ?_
  refine pw_iconst (pc := 1) dJ6_numberOfTrailingZeros_0f7a4_1 ?_
  refine pw_inot (pc := 2) dJ6_numberOfTrailingZeros_0f7a4_2 (by first | omega) ?_
  refine pw_iload_n (z := x) (pc := 3) dJ6_numberOfTrailingZeros_0f7a4_3 rfl rfl ?_
  refine pw_iconst (pc := 4) dJ6_numberOfTrailingZeros_0f7a4_4 ?_
  refine pw_isub (pc := 5) dJ6_numberOfTrailingZeros_0f7a4_5 ?_
  refine pw_iandI (pc := 6) dJ6_numberOfTrailingZeros_0f7a4_6 (by omega) (by omega) ?_
  rw [hm]
  refine pw_istore_n (lv1 := [some (ii_ m), none]) (pc := 7) dJ6_numberOfTrailingZeros_0f7a4_7 rfl (by decide) rfl rfl ?_
  refine pw_iload_n (z := m) (pc := 8) dJ6_numberOfTrailingZeros_0f7a4_8 rfl rfl ?_
  refine pw_if_gt (t := 17) (pc := 9) dJ6_numberOfTrailingZeros_0f7a4_9 (by decide) (by first | omega) (fun c9 => ?_) (fun c9 => ?_)
  · refine pw_iconst (pc := 17) dJ6_numberOfTrailingZeros_0f7a4_17 ?_
    refine pw_istore_n (lv1 := [some (ii_ m), some (ii_ 1)]) (pc := 18) dJ6_numberOfTrailingZeros_0f7a4_18 rfl (by decide) rfl rfl ?_
    refine pw_iload_n (z := m) (pc := 19) dJ6_numberOfTrailingZeros_0f7a4_19 rfl rfl ?_
    refine pw_ldcw (z := 65536) (pc := 20) dJ6_numberOfTrailingZeros_0f7a4_20 kJ6_264 rfl ?_
    refine pw_icmp_le (t := 34) (pc := 23) dJ6_numberOfTrailingZeros_0f7a4_23 (by decide) (by first | omega) (by first | omega) (fun c23 => ?_) (fun c23 => ?_)
    · refine pw_iload_n (z := m) (pc := 34) dJ6_numberOfTrailingZeros_0f7a4_34 rfl rfl ?_
      refine pw_sipush (pc := 35) dJ6_numberOfTrailingZeros_0f7a4_35 rfl ?_
      refine pw_icmp_le (t := 49) (pc := 38) dJ6_numberOfTrailingZeros_0f7a4_38 (by decide) (by first | omega) (by first | omega) (fun c38 => ?_) (fun c38 => ?_)
      · refine pw_iload_n (z := m) (pc := 49) dJ6_numberOfTrailingZeros_0f7a4_49 rfl rfl ?_
        refine pw_bipush (pc := 50) dJ6_numberOfTrailingZeros_0f7a4_50 rfl ?_
        refine pw_icmp_le (t := 62) (pc := 52) dJ6_numberOfTrailingZeros_0f7a4_52 (by decide) (by first | omega) (by first | omega) (fun c52 => ?_) (fun c52 => ?_)
        · refine pw_iload_n (z := m) (pc := 62) dJ6_numberOfTrailingZeros_0f7a4_62 rfl rfl ?_
          refine pw_iconst (pc := 63) dJ6_numberOfTrailingZeros_0f7a4_63 ?_
          refine pw_icmp_le (t := 74) (pc := 64) dJ6_numberOfTrailingZeros_0f7a4_64 (by decide) (by first | omega) (by first | omega) (fun c64 => ?_) (fun c64 => ?_)
          · refine pw_iload_n (z := 1) (pc := 74) dJ6_numberOfTrailingZeros_0f7a4_74 rfl rfl ?_
            refine pw_iload_n (z := m) (pc := 75) dJ6_numberOfTrailingZeros_0f7a4_75 rfl rfl ?_
            refine pw_iconst (pc := 76) dJ6_numberOfTrailingZeros_0f7a4_76 ?_
            refine pw_iushr (m := 2) (pc := 77) dJ6_numberOfTrailingZeros_0f7a4_77 (by first | omega) (by decide) (by decide) ?_
            refine pw_iadd (pc := 78) dJ6_numberOfTrailingZeros_0f7a4_78 ?_
            exact pw_iret (pc := 79) dJ6_numberOfTrailingZeros_0f7a4_79 (by first | omega) (by have e : 1 + (m / 2) = (zz : Int) := (by omega); rw [e]; exact ⟨rfl, by omega, by rw [Int.toNat_natCast]; exact hb, fun j hj => hl j (by omega)⟩)
          · refine pw_iinc (z := 1) (lv1 := [some (ii_ m), some (ii_ (1 + 2))]) (pc := 67) dJ6_numberOfTrailingZeros_0f7a4_67 rfl (by decide) rfl rfl ?_
            refine pw_iload_n (z := m) (pc := 70) dJ6_numberOfTrailingZeros_0f7a4_70 rfl rfl ?_
            refine pw_iconst (pc := 71) dJ6_numberOfTrailingZeros_0f7a4_71 ?_
            refine pw_iushr (m := 4) (pc := 72) dJ6_numberOfTrailingZeros_0f7a4_72 (by first | omega) (by decide) (by decide) ?_
            refine pw_istore_n (lv1 := [some (ii_ (m / 4)), some (ii_ (1 + 2))]) (pc := 73) dJ6_numberOfTrailingZeros_0f7a4_73 rfl (by decide) rfl rfl ?_
            refine pw_iload_n (z := 1 + 2) (pc := 74) dJ6_numberOfTrailingZeros_0f7a4_74 rfl rfl ?_
            refine pw_iload_n (z := m / 4) (pc := 75) dJ6_numberOfTrailingZeros_0f7a4_75 rfl rfl ?_
            refine pw_iconst (pc := 76) dJ6_numberOfTrailingZeros_0f7a4_76 ?_
            refine pw_iushr (m := 2) (pc := 77) dJ6_numberOfTrailingZeros_0f7a4_77 (by first | omega) (by decide) (by decide) ?_
            refine pw_iadd (pc := 78) dJ6_numberOfTrailingZeros_0f7a4_78 ?_
            exact pw_iret (pc := 79) dJ6_numberOfTrailingZeros_0f7a4_79 (by first | omega) (by have e : (1 + 2) + ((m / 4) / 2) = (zz : Int) := (by omega); rw [e]; exact ⟨rfl, by omega, by rw [Int.toNat_natCast]; exact hb, fun j hj => hl j (by omega)⟩)
        · refine pw_iinc (z := 1) (lv1 := [some (ii_ m), some (ii_ (1 + 4))]) (pc := 55) dJ6_numberOfTrailingZeros_0f7a4_55 rfl (by decide) rfl rfl ?_
          refine pw_iload_n (z := m) (pc := 58) dJ6_numberOfTrailingZeros_0f7a4_58 rfl rfl ?_
          refine pw_iconst (pc := 59) dJ6_numberOfTrailingZeros_0f7a4_59 ?_
          refine pw_iushr (m := 16) (pc := 60) dJ6_numberOfTrailingZeros_0f7a4_60 (by first | omega) (by decide) (by decide) ?_
          refine pw_istore_n (lv1 := [some (ii_ (m / 16)), some (ii_ (1 + 4))]) (pc := 61) dJ6_numberOfTrailingZeros_0f7a4_61 rfl (by decide) rfl rfl ?_
          refine pw_iload_n (z := m / 16) (pc := 62) dJ6_numberOfTrailingZeros_0f7a4_62 rfl rfl ?_
          refine pw_iconst (pc := 63) dJ6_numberOfTrailingZeros_0f7a4_63 ?_
          refine pw_icmp_le (t := 74) (pc := 64) dJ6_numberOfTrailingZeros_0f7a4_64 (by decide) (by first | omega) (by first | omega) (fun c64 => ?_) (fun c64 => ?_)
          · refine pw_iload_n (z := 1 + 4) (pc := 74) dJ6_numberOfTrailingZeros_0f7a4_74 rfl rfl ?_
            refine pw_iload_n (z := m / 16) (pc := 75) dJ6_numberOfTrailingZeros_0f7a4_75 rfl rfl ?_
            refine pw_iconst (pc := 76) dJ6_numberOfTrailingZeros_0f7a4_76 ?_
            refine pw_iushr (m := 2) (pc := 77) dJ6_numberOfTrailingZeros_0f7a4_77 (by first | omega) (by decide) (by decide) ?_
            refine pw_iadd (pc := 78) dJ6_numberOfTrailingZeros_0f7a4_78 ?_
            exact pw_iret (pc := 79) dJ6_numberOfTrailingZeros_0f7a4_79 (by first | omega) (by have e : (1 + 4) + ((m / 16) / 2) = (zz : Int) := (by omega); rw [e]; exact ⟨rfl, by omega, by rw [Int.toNat_natCast]; exact hb, fun j hj => hl j (by omega)⟩)
          · refine pw_iinc (z := 1 + 4) (lv1 := [some (ii_ (m / 16)), some (ii_ (1 + 4 + 2))]) (pc := 67) dJ6_numberOfTrailingZeros_0f7a4_67 rfl (by decide) rfl rfl ?_
            refine pw_iload_n (z := m / 16) (pc := 70) dJ6_numberOfTrailingZeros_0f7a4_70 rfl rfl ?_
            refine pw_iconst (pc := 71) dJ6_numberOfTrailingZeros_0f7a4_71 ?_
            refine pw_iushr (m := 4) (pc := 72) dJ6_numberOfTrailingZeros_0f7a4_72 (by first | omega) (by decide) (by decide) ?_
            refine pw_istore_n (lv1 := [some (ii_ ((m / 16) / 4)), some (ii_ (1 + 4 + 2))]) (pc := 73) dJ6_numberOfTrailingZeros_0f7a4_73 rfl (by decide) rfl rfl ?_
            refine pw_iload_n (z := 1 + 4 + 2) (pc := 74) dJ6_numberOfTrailingZeros_0f7a4_74 rfl rfl ?_
            refine pw_iload_n (z := (m / 16) / 4) (pc := 75) dJ6_numberOfTrailingZeros_0f7a4_75 rfl rfl ?_
            refine pw_iconst (pc := 76) dJ6_numberOfTrailingZeros_0f7a4_76 ?_
            refine pw_iushr (m := 2) (pc := 77) dJ6_numberOfTrailingZeros_0f7a4_77 (by first | omega) (by decide) (by decide) ?_
            refine pw_iadd (pc := 78) dJ6_numberOfTrailingZeros_0f7a4_78 ?_
            exact pw_iret (pc := 79) dJ6_numberOfTrailingZeros_0f7a4_79 (by first | omega) (by have e : (1 + 4 + 2) + (((m / 16) / 4) / 2) = (zz : Int) := (by omega); rw [e]; exact ⟨rfl, by omega, by rw [Int.toNat_natCast]; exact hb, fun j hj => hl j (by omega)⟩)
      · refine pw_iinc (z := 1) (lv1 := [some (ii_ m), some (ii_ (1 + 8))]) (pc := 41) dJ6_numberOfTrailingZeros_0f7a4_41 rfl (by decide) rfl rfl ?_
        refine pw_iload_n (z := m) (pc := 44) dJ6_numberOfTrailingZeros_0f7a4_44 rfl rfl ?_
        refine pw_bipush (pc := 45) dJ6_numberOfTrailingZeros_0f7a4_45 rfl ?_
        refine pw_iushr (m := 256) (pc := 47) dJ6_numberOfTrailingZeros_0f7a4_47 (by first | omega) (by decide) (by decide) ?_
        refine pw_istore_n (lv1 := [some (ii_ (m / 256)), some (ii_ (1 + 8))]) (pc := 48) dJ6_numberOfTrailingZeros_0f7a4_48 rfl (by decide) rfl rfl ?_
        refine pw_iload_n (z := m / 256) (pc := 49) dJ6_numberOfTrailingZeros_0f7a4_49 rfl rfl ?_
        refine pw_bipush (pc := 50) dJ6_numberOfTrailingZeros_0f7a4_50 rfl ?_
        refine pw_icmp_le (t := 62) (pc := 52) dJ6_numberOfTrailingZeros_0f7a4_52 (by decide) (by first | omega) (by first | omega) (fun c52 => ?_) (fun c52 => ?_)
        · refine pw_iload_n (z := m / 256) (pc := 62) dJ6_numberOfTrailingZeros_0f7a4_62 rfl rfl ?_
          refine pw_iconst (pc := 63) dJ6_numberOfTrailingZeros_0f7a4_63 ?_
          refine pw_icmp_le (t := 74) (pc := 64) dJ6_numberOfTrailingZeros_0f7a4_64 (by decide) (by first | omega) (by first | omega) (fun c64 => ?_) (fun c64 => ?_)
          · refine pw_iload_n (z := 1 + 8) (pc := 74) dJ6_numberOfTrailingZeros_0f7a4_74 rfl rfl ?_
            refine pw_iload_n (z := m / 256) (pc := 75) dJ6_numberOfTrailingZeros_0f7a4_75 rfl rfl ?_
            refine pw_iconst (pc := 76) dJ6_numberOfTrailingZeros_0f7a4_76 ?_
            refine pw_iushr (m := 2) (pc := 77) dJ6_numberOfTrailingZeros_0f7a4_77 (by first | omega) (by decide) (by decide) ?_
            refine pw_iadd (pc := 78) dJ6_numberOfTrailingZeros_0f7a4_78 ?_
            exact pw_iret (pc := 79) dJ6_numberOfTrailingZeros_0f7a4_79 (by first | omega) (by have e : (1 + 8) + ((m / 256) / 2) = (zz : Int) := (by omega); rw [e]; exact ⟨rfl, by omega, by rw [Int.toNat_natCast]; exact hb, fun j hj => hl j (by omega)⟩)
          · refine pw_iinc (z := 1 + 8) (lv1 := [some (ii_ (m / 256)), some (ii_ (1 + 8 + 2))]) (pc := 67) dJ6_numberOfTrailingZeros_0f7a4_67 rfl (by decide) rfl rfl ?_
            refine pw_iload_n (z := m / 256) (pc := 70) dJ6_numberOfTrailingZeros_0f7a4_70 rfl rfl ?_
            refine pw_iconst (pc := 71) dJ6_numberOfTrailingZeros_0f7a4_71 ?_
            refine pw_iushr (m := 4) (pc := 72) dJ6_numberOfTrailingZeros_0f7a4_72 (by first | omega) (by decide) (by decide) ?_
            refine pw_istore_n (lv1 := [some (ii_ ((m / 256) / 4)), some (ii_ (1 + 8 + 2))]) (pc := 73) dJ6_numberOfTrailingZeros_0f7a4_73 rfl (by decide) rfl rfl ?_
            refine pw_iload_n (z := 1 + 8 + 2) (pc := 74) dJ6_numberOfTrailingZeros_0f7a4_74 rfl rfl ?_
            refine pw_iload_n (z := (m / 256) / 4) (pc := 75) dJ6_numberOfTrailingZeros_0f7a4_75 rfl rfl ?_
            refine pw_iconst (pc := 76) dJ6_numberOfTrailingZeros_0f7a4_76 ?_
            refine pw_iushr (m := 2) (pc := 77) dJ6_numberOfTrailingZeros_0f7a4_77 (by first | omega) (by decide) (by decide) ?_
            refine pw_iadd (pc := 78) dJ6_numberOfTrailingZeros_0f7a4_78 ?_
            exact pw_iret (pc := 79) dJ6_numberOfTrailingZeros_0f7a4_79 (by first | omega) (by have e : (1 + 8 + 2) + (((m / 256) / 4) / 2) = (zz : Int) := (by omega); rw [e]; exact ⟨rfl, by omega, by rw [Int.toNat_natCast]; exact hb, fun j hj => hl j (by omega)⟩)
        · refine pw_iinc (z := 1 + 8) (lv1 := [some (ii_ (m / 256)), some (ii_ (1 + 8 + 4))]) (pc := 55) dJ6_numberOfTrailingZeros_0f7a4_55 rfl (by decide) rfl rfl ?_
          refine pw_iload_n (z := m / 256) (pc := 58) dJ6_numberOfTrailingZeros_0f7a4_58 rfl rfl ?_
          refine pw_iconst (pc := 59) dJ6_numberOfTrailingZeros_0f7a4_59 ?_
          refine pw_iushr (m := 16) (pc := 60) dJ6_numberOfTrailingZeros_0f7a4_60 (by first | omega) (by decide) (by decide) ?_
          refine pw_istore_n (lv1 := [some (ii_ ((m / 256) / 16)), some (ii_ (1 + 8 + 4))]) (pc := 61) dJ6_numberOfTrailingZeros_0f7a4_61 rfl (by decide) rfl rfl ?_
          refine pw_iload_n (z := (m / 256) / 16) (pc := 62) dJ6_numberOfTrailingZeros_0f7a4_62 rfl rfl ?_
          refine pw_iconst (pc := 63) dJ6_numberOfTrailingZeros_0f7a4_63 ?_
          refine pw_icmp_le (t := 74) (pc := 64) dJ6_numberOfTrailingZeros_0f7a4_64 (by decide) (by first | omega) (by first | omega) (fun c64 => ?_) (fun c64 => ?_)
          · refine pw_iload_n (z := 1 + 8 + 4) (pc := 74) dJ6_numberOfTrailingZeros_0f7a4_74 rfl rfl ?_
            refine pw_iload_n (z := (m / 256) / 16) (pc := 75) dJ6_numberOfTrailingZeros_0f7a4_75 rfl rfl ?_
            refine pw_iconst (pc := 76) dJ6_numberOfTrailingZeros_0f7a4_76 ?_
            refine pw_iushr (m := 2) (pc := 77) dJ6_numberOfTrailingZeros_0f7a4_77 (by first | omega) (by decide) (by decide) ?_
            refine pw_iadd (pc := 78) dJ6_numberOfTrailingZeros_0f7a4_78 ?_
            exact pw_iret (pc := 79) dJ6_numberOfTrailingZeros_0f7a4_79 (by first | omega) (by have e : (1 + 8 + 4) + (((m / 256) / 16) / 2) = (zz : Int) := (by omega); rw [e]; exact ⟨rfl, by omega, by rw [Int.toNat_natCast]; exact hb, fun j hj => hl j (by omega)⟩)
          · refine pw_iinc (z := 1 + 8 + 4) (lv1 := [some (ii_ ((m / 256) / 16)), some (ii_ (1 + 8 + 4 + 2))]) (pc := 67) dJ6_numberOfTrailingZeros_0f7a4_67 rfl (by decide) rfl rfl ?_
            refine pw_iload_n (z := (m / 256) / 16) (pc := 70) dJ6_numberOfTrailingZeros_0f7a4_70 rfl rfl ?_
            refine pw_iconst (pc := 71) dJ6_numberOfTrailingZeros_0f7a4_71 ?_
            refine pw_iushr (m := 4) (pc := 72) dJ6_numberOfTrailingZeros_0f7a4_72 (by first | omega) (by decide) (by decide) ?_
            refine pw_istore_n (lv1 := [some (ii_ (((m / 256) / 16) / 4)), some (ii_ (1 + 8 + 4 + 2))]) (pc := 73) dJ6_numberOfTrailingZeros_0f7a4_73 rfl (by decide) rfl rfl ?_
            refine pw_iload_n (z := 1 + 8 + 4 + 2) (pc := 74) dJ6_numberOfTrailingZeros_0f7a4_74 rfl rfl ?_
            refine pw_iload_n (z := ((m / 256) / 16) / 4) (pc := 75) dJ6_numberOfTrailingZeros_0f7a4_75 rfl rfl ?_
            refine pw_iconst (pc := 76) dJ6_numberOfTrailingZeros_0f7a4_76 ?_
            refine pw_iushr (m := 2) (pc := 77) dJ6_numberOfTrailingZeros_0f7a4_77 (by first | omega) (by decide) (by decide) ?_
            refine pw_iadd (pc := 78) dJ6_numberOfTrailingZeros_0f7a4_78 ?_
            exact pw_iret (pc := 79) dJ6_numberOfTrailingZeros_0f7a4_79 (by first | omega) (by have e : (1 + 8 + 4 + 2) + ((((m / 256) / 16) / 4) / 2) = (zz : Int) := (by omega); rw [e]; exact ⟨rfl, by omega, by rw [Int.toNat_natCast]; exact hb, fun j hj => hl j (by omega)⟩)
    · refine pw_iinc (z := 1) (lv1 := [some (ii_ m), some (ii_ (1 + 16))]) (pc := 26) dJ6_numberOfTrailingZeros_0f7a4_26 rfl (by decide) rfl rfl ?_
      refine pw_iload_n (z := m) (pc := 29) dJ6_numberOfTrailingZeros_0f7a4_29 rfl rfl ?_
      refine pw_bipush (pc := 30) dJ6_numberOfTrailingZeros_0f7a4_30 rfl ?_
      refine pw_iushr (m := 65536) (pc := 32) dJ6_numberOfTrailingZeros_0f7a4_32 (by first | omega) (by decide) (by decide) ?_
      refine pw_istore_n (lv1 := [some (ii_ (m / 65536)), some (ii_ (1 + 16))]) (pc := 33) dJ6_numberOfTrailingZeros_0f7a4_33 rfl (by decide) rfl rfl ?_
      refine pw_iload_n (z := m / 65536) (pc := 34) dJ6_numberOfTrailingZeros_0f7a4_34 rfl rfl ?_
      refine pw_sipush (pc := 35) dJ6_numberOfTrailingZeros_0f7a4_35 rfl ?_
      refine pw_icmp_le (t := 49) (pc := 38) dJ6_numberOfTrailingZeros_0f7a4_38 (by decide) (by first | omega) (by first | omega) (fun c38 => ?_) (fun c38 => ?_)
      · refine pw_iload_n (z := m / 65536) (pc := 49) dJ6_numberOfTrailingZeros_0f7a4_49 rfl rfl ?_
        refine pw_bipush (pc := 50) dJ6_numberOfTrailingZeros_0f7a4_50 rfl ?_
        refine pw_icmp_le (t := 62) (pc := 52) dJ6_numberOfTrailingZeros_0f7a4_52 (by decide) (by first | omega) (by first | omega) (fun c52 => ?_) (fun c52 => ?_)
        · refine pw_iload_n (z := m / 65536) (pc := 62) dJ6_numberOfTrailingZeros_0f7a4_62 rfl rfl ?_
          refine pw_iconst (pc := 63) dJ6_numberOfTrailingZeros_0f7a4_63 ?_
          refine pw_icmp_le (t := 74) (pc := 64) dJ6_numberOfTrailingZeros_0f7a4_64 (by decide) (by first | omega) (by first | omega) (fun c64 => ?_) (fun c64 => ?_)
          · refine pw_iload_n (z := 1 + 16) (pc := 74) dJ6_numberOfTrailingZeros_0f7a4_74 rfl rfl ?_
            refine pw_iload_n (z := m / 65536) (pc := 75) dJ6_numberOfTrailingZeros_0f7a4_75 rfl rfl ?_
            refine pw_iconst (pc := 76) dJ6_numberOfTrailingZeros_0f7a4_76 ?_
            refine pw_iushr (m := 2) (pc := 77) dJ6_numberOfTrailingZeros_0f7a4_77 (by first | omega) (by decide) (by decide) ?_
            refine pw_iadd (pc := 78) dJ6_numberOfTrailingZeros_0f7a4_78 ?_
            exact pw_iret (pc := 79) dJ6_numberOfTrailingZeros_0f7a4_79 (by first | omega) (by have e : (1 + 16) + ((m / 65536) / 2) = (zz : Int) := (by omega); rw [e]; exact ⟨rfl, by omega, by rw [Int.toNat_natCast]; exact hb, fun j hj => hl j (by omega)⟩)
          · refine pw_iinc (z := 1 + 16) (lv1 := [some (ii_ (m / 65536)), some (ii_ (1 + 16 + 2))]) (pc := 67) dJ6_numberOfTrailingZeros_0f7a4_67 rfl (by decide) rfl rfl ?_
            refine pw_iload_n (z := m / 65536) (pc := 70) dJ6_numberOfTrailingZeros_0f7a4_70 rfl rfl ?_
            refine pw_iconst (pc := 71) dJ6_numberOfTrailingZeros_0f7a4_71 ?_
            refine pw_iushr (m := 4) (pc := 72) dJ6_numberOfTrailingZeros_0f7a4_72 (by first | omega) (by decide) (by decide) ?_
            refine pw_istore_n (lv1 := [some (ii_ ((m / 65536) / 4)), some (ii_ (1 + 16 + 2))]) (pc := 73) dJ6_numberOfTrailingZeros_0f7a4_73 rfl (by decide) rfl rfl ?_
            refine pw_iload_n (z := 1 + 16 + 2) (pc := 74) dJ6_numberOfTrailingZeros_0f7a4_74 rfl rfl ?_
            refine pw_iload_n (z := (m / 65536) / 4) (pc := 75) dJ6_numberOfTrailingZeros_0f7a4_75 rfl rfl ?_
            refine pw_iconst (pc := 76) dJ6_numberOfTrailingZeros_0f7a4_76 ?_
            refine pw_iushr (m := 2) (pc := 77) dJ6_numberOfTrailingZeros_0f7a4_77 (by first | omega) (by decide) (by decide) ?_
            refine pw_iadd (pc := 78) dJ6_numberOfTrailingZeros_0f7a4_78 ?_
            exact pw_iret (pc := 79) dJ6_numberOfTrailingZeros_0f7a4_79 (by first | omega) (by have e : (1 + 16 + 2) + (((m / 65536) / 4) / 2) = (zz : Int) := (by omega); rw [e]; exact ⟨rfl, by omega, by rw [Int.toNat_natCast]; exact hb, fun j hj => hl j (by omega)⟩)
        · refine pw_iinc (z := 1 + 16) (lv1 := [some (ii_ (m / 65536)), some (ii_ (1 + 16 + 4))]) (pc := 55) dJ6_numberOfTrailingZeros_0f7a4_55 rfl (by decide) rfl rfl ?_
          refine pw_iload_n (z := m / 65536) (pc := 58) dJ6_numberOfTrailingZeros_0f7a4_58 rfl rfl ?_
          refine pw_iconst (pc := 59) dJ6_numberOfTrailingZeros_0f7a4_59 ?_
          refine pw_iushr (m := 16) (pc := 60) dJ6_numberOfTrailingZeros_0f7a4_60 (by first | omega) (by decide) (by decide) ?_
          refine pw_istore_n (lv1 := [some (ii_ ((m / 65536) / 16)), some (ii_ (1 + 16 + 4))]) (pc := 61) dJ6_numberOfTrailingZeros_0f7a4_61 rfl (by decide) rfl rfl ?_
          refine pw_iload_n (z := (m / 65536) / 16) (pc := 62) dJ6_numberOfTrailingZeros_0f7a4_62 rfl rfl ?_
          refine pw_iconst (pc := 63) dJ6_numberOfTrailingZeros_0f7a4_63 ?_
          refine pw_icmp_le (t := 74) (pc := 64) dJ6_numberOfTrailingZeros_0f7a4_64 (by decide) (by first | omega) (by first | omega) (fun c64 => ?_) (fun c64 => ?_)
          · refine pw_iload_n (z := 1 + 16 + 4) (pc := 74) dJ6_numberOfTrailingZeros_0f7a4_74 rfl rfl ?_
            refine pw_iload_n (z := (m / 65536) / 16) (pc := 75) dJ6_numberOfTrailingZeros_0f7a4_75 rfl rfl ?_
            refine pw_iconst (pc := 76) dJ6_numberOfTrailingZeros_0f7a4_76 ?_
            refine pw_iushr (m := 2) (pc := 77) dJ6_numberOfTrailingZeros_0f7a4_77 (by first | omega) (by decide) (by decide) ?_
            refine pw_iadd (pc := 78) dJ6_numberOfTrailingZeros_0f7a4_78 ?_
            exact pw_iret (pc := 79) dJ6_numberOfTrailingZeros_0f7a4_79 (by first | omega) (by have e : (1 + 16 + 4) + (((m / 65536) / 16) / 2) = (zz : Int) := (by omega); rw [e]; exact ⟨rfl, by omega, by rw [Int.toNat_natCast]; exact hb, fun j hj => hl j (by omega)⟩)
          · refine pw_iinc (z := 1 + 16 + 4) (lv1 := [some (ii_ ((m / 65536) / 16)), some (ii_ (1 + 16 + 4 + 2))]) (pc := 67) dJ6_numberOfTrailingZeros_0f7a4_67 rfl (by decide) rfl rfl ?_
            refine pw_iload_n (z := (m / 65536) / 16) (pc := 70) dJ6_numberOfTrailingZeros_0f7a4_70 rfl rfl ?_
            refine pw_iconst (pc := 71) dJ6_numberOfTrailingZeros_0f7a4_71 ?_
            refine pw_iushr (m := 4) (pc := 72) dJ6_numberOfTrailingZeros_0f7a4_72 (by first | omega) (by decide) (by decide) ?_
            refine pw_istore_n (lv1 := [some (ii_ (((m / 65536) / 16) / 4)), some (ii_ (1 + 16 + 4 + 2))]) (pc := 73) dJ6_numberOfTrailingZeros_0f7a4_73 rfl (by decide) rfl rfl ?_
            refine pw_iload_n (z := 1 + 16 + 4 + 2) (pc := 74) dJ6_numberOfTrailingZeros_0f7a4_74 rfl rfl ?_
            refine pw_iload_n (z := ((m / 65536) / 16) / 4) (pc := 75) dJ6_numberOfTrailingZeros_0f7a4_75 rfl rfl ?_
            refine pw_iconst (pc := 76) dJ6_numberOfTrailingZeros_0f7a4_76 ?_
            refine pw_iushr (m := 2) (pc := 77) dJ6_numberOfTrailingZeros_0f7a4_77 (by first | omega) (by decide) (by decide) ?_
            refine pw_iadd (pc := 78) dJ6_numberOfTrailingZeros_0f7a4_78 ?_
            exact pw_iret (pc := 79) dJ6_numberOfTrailingZeros_0f7a4_79 (by first | omega) (by have e : (1 + 16 + 4 + 2) + ((((m / 65536) / 16) / 4) / 2) = (zz : Int) := (by omega); rw [e]; exact ⟨rfl, by omega, by rw [Int.toNat_natCast]; exact hb, fun j hj => hl j (by omega)⟩)
      · refine pw_iinc (z := 1 + 16) (lv1 := [some (ii_ (m / 65536)), some (ii_ (1 + 16 + 8))]) (pc := 41) dJ6_numberOfTrailingZeros_0f7a4_41 rfl (by decide) rfl rfl ?_
        refine pw_iload_n (z := m / 65536) (pc := 44) dJ6_numberOfTrailingZeros_0f7a4_44 rfl rfl ?_
        refine pw_bipush (pc := 45) dJ6_numberOfTrailingZeros_0f7a4_45 rfl ?_
        refine pw_iushr (m := 256) (pc := 47) dJ6_numberOfTrailingZeros_0f7a4_47 (by first | omega) (by decide) (by decide) ?_
        refine pw_istore_n (lv1 := [some (ii_ ((m / 65536) / 256)), some (ii_ (1 + 16 + 8))]) (pc := 48) dJ6_numberOfTrailingZeros_0f7a4_48 rfl (by decide) rfl rfl ?_
        refine pw_iload_n (z := (m / 65536) / 256) (pc := 49) dJ6_numberOfTrailingZeros_0f7a4_49 rfl rfl ?_
        refine pw_bipush (pc := 50) dJ6_numberOfTrailingZeros_0f7a4_50 rfl ?_
        refine pw_icmp_le (t := 62) (pc := 52) dJ6_numberOfTrailingZeros_0f7a4_52 (by decide) (by first | omega) (by first | omega) (fun c52 => ?_) (fun c52 => ?_)
        · refine pw_iload_n (z := (m / 65536) / 256) (pc := 62) dJ6_numberOfTrailingZeros_0f7a4_62 rfl rfl ?_
          refine pw_iconst (pc := 63) dJ6_numberOfTrailingZeros_0f7a4_63 ?_
          refine pw_icmp_le (t := 74) (pc := 64) dJ6_numberOfTrailingZeros_0f7a4_64 (by decide) (by first | omega) (by first | omega) (fun c64 => ?_) (fun c64 => ?_)
          · refine pw_iload_n (z := 1 + 16 + 8) (pc := 74) dJ6_numberOfTrailingZeros_0f7a4_74 rfl rfl ?_
            refine pw_iload_n (z := (m / 65536) / 256) (pc := 75) dJ6_numberOfTrailingZeros_0f7a4_75 rfl rfl ?_
            refine pw_iconst (pc := 76) dJ6_numberOfTrailingZeros_0f7a4_76 ?_
            refine pw_iushr (m := 2) (pc := 77) dJ6_numberOfTrailingZeros_0f7a4_77 (by first | omega) (by decide) (by decide) ?_
            refine pw_iadd (pc := 78) dJ6_numberOfTrailingZeros_0f7a4_78 ?_
            exact pw_iret (pc := 79) dJ6_numberOfTrailingZeros_0f7a4_79 (by first | omega) (by have e : (1 + 16 + 8) + (((m / 65536) / 256) / 2) = (zz : Int) := (by omega); rw [e]; exact ⟨rfl, by omega, by rw [Int.toNat_natCast]; exact hb, fun j hj => hl j (by omega)⟩)
          · refine pw_iinc (z := 1 + 16 + 8) (lv1 := [some (ii_ ((m / 65536) / 256)), some (ii_ (1 + 16 + 8 + 2))]) (pc := 67) dJ6_numberOfTrailingZeros_0f7a4_67 rfl (by decide) rfl rfl ?_
            refine pw_iload_n (z := (m / 65536) / 256) (pc := 70) dJ6_numberOfTrailingZeros_0f7a4_70 rfl rfl ?_
            refine pw_iconst (pc := 71) dJ6_numberOfTrailingZeros_0f7a4_71 ?_
            refine pw_iushr (m := 4) (pc := 72) dJ6_numberOfTrailingZeros_0f7a4_72 (by first | omega) (by decide) (by decide) ?_
            refine pw_istore_n (lv1 := [some (ii_ (((m / 65536) / 256) / 4)), some (ii_ (1 + 16 + 8 + 2))]) (pc := 73) dJ6_numberOfTrailingZeros_0f7a4_73 rfl (by decide) rfl rfl ?_
            refine pw_iload_n (z := 1 + 16 + 8 + 2) (pc := 74) dJ6_numberOfTrailingZeros_0f7a4_74 rfl rfl ?_
            refine pw_iload_n (z := ((m / 65536) / 256) / 4) (pc := 75) dJ6_numberOfTrailingZeros_0f7a4_75 rfl rfl ?_
            refine pw_iconst (pc := 76) dJ6_numberOfTrailingZeros_0f7a4_76 ?_
            refine pw_iushr (m := 2) (pc := 77) dJ6_numberOfTrailingZeros_0f7a4_77 (by first | omega) (by decide) (by decide) ?_
            refine pw_iadd (pc := 78) dJ6_numberOfTrailingZeros_0f7a4_78 ?_
            exact pw_iret (pc := 79) dJ6_numberOfTrailingZeros_0f7a4_79 (by first | omega) (by have e : (1 + 16 + 8 + 2) + ((((m / 65536) / 256) / 4) / 2) = (zz : Int) := (by omega); rw [e]; exact ⟨rfl, by omega, by rw [Int.toNat_natCast]; exact hb, fun j hj => hl j (by omega)⟩)
        · refine pw_iinc (z := 1 + 16 + 8) (lv1 := [some (ii_ ((m / 65536) / 256)), some (ii_ (1 + 16 + 8 + 4))]) (pc := 55) dJ6_numberOfTrailingZeros_0f7a4_55 rfl (by decide) rfl rfl ?_
          refine pw_iload_n (z := (m / 65536) / 256) (pc := 58) dJ6_numberOfTrailingZeros_0f7a4_58 rfl rfl ?_
          refine pw_iconst (pc := 59) dJ6_numberOfTrailingZeros_0f7a4_59 ?_
          refine pw_iushr (m := 16) (pc := 60) dJ6_numberOfTrailingZeros_0f7a4_60 (by first | omega) (by decide) (by decide) ?_
          refine pw_istore_n (lv1 := [some (ii_ (((m / 65536) / 256) / 16)), some (ii_ (1 + 16 + 8 + 4))]) (pc := 61) dJ6_numberOfTrailingZeros_0f7a4_61 rfl (by decide) rfl rfl ?_
          refine pw_iload_n (z := ((m / 65536) / 256) / 16) (pc := 62) dJ6_numberOfTrailingZeros_0f7a4_62 rfl rfl ?_
          refine pw_iconst (pc := 63) dJ6_numberOfTrailingZeros_0f7a4_63 ?_
          refine pw_icmp_le (t := 74) (pc := 64) dJ6_numberOfTrailingZeros_0f7a4_64 (by decide) (by first | omega) (by first | omega) (fun c64 => ?_) (fun c64 => ?_)
          · refine pw_iload_n (z := 1 + 16 + 8 + 4) (pc := 74) dJ6_numberOfTrailingZeros_0f7a4_74 rfl rfl ?_
            refine pw_iload_n (z := ((m / 65536) / 256) / 16) (pc := 75) dJ6_numberOfTrailingZeros_0f7a4_75 rfl rfl ?_
            refine pw_iconst (pc := 76) dJ6_numberOfTrailingZeros_0f7a4_76 ?_
            refine pw_iushr (m := 2) (pc := 77) dJ6_numberOfTrailingZeros_0f7a4_77 (by first | omega) (by decide) (by decide) ?_
            refine pw_iadd (pc := 78) dJ6_numberOfTrailingZeros_0f7a4_78 ?_
            exact pw_iret (pc := 79) dJ6_numberOfTrailingZeros_0f7a4_79 (by first | omega) (by have e : (1 + 16 + 8 + 4) + ((((m / 65536) / 256) / 16) / 2) = (zz : Int) := (by omega); rw [e]; exact ⟨rfl, by omega, by rw [Int.toNat_natCast]; exact hb, fun j hj => hl j (by omega)⟩)
          · refine pw_iinc (z := 1 + 16 + 8 + 4) (lv1 := [some (ii_ (((m / 65536) / 256) / 16)), some (ii_ (1 + 16 + 8 + 4 + 2))]) (pc := 67) dJ6_numberOfTrailingZeros_0f7a4_67 rfl (by decide) rfl rfl ?_
            refine pw_iload_n (z := ((m / 65536) / 256) / 16) (pc := 70) dJ6_numberOfTrailingZeros_0f7a4_70 rfl rfl ?_
            refine pw_iconst (pc := 71) dJ6_numberOfTrailingZeros_0f7a4_71 ?_
            refine pw_iushr (m := 4) (pc := 72) dJ6_numberOfTrailingZeros_0f7a4_72 (by first | omega) (by decide) (by decide) ?_
            refine pw_istore_n (lv1 := [some (ii_ ((((m / 65536) / 256) / 16) / 4)), some (ii_ (1 + 16 + 8 + 4 + 2))]) (pc := 73) dJ6_numberOfTrailingZeros_0f7a4_73 rfl (by decide) rfl rfl ?_
            refine pw_iload_n (z := 1 + 16 + 8 + 4 + 2) (pc := 74) dJ6_numberOfTrailingZeros_0f7a4_74 rfl rfl ?_
            refine pw_iload_n (z := (((m / 65536) / 256) / 16) / 4) (pc := 75) dJ6_numberOfTrailingZeros_0f7a4_75 rfl rfl ?_
            refine pw_iconst (pc := 76) dJ6_numberOfTrailingZeros_0f7a4_76 ?_
            refine pw_iushr (m := 2) (pc := 77) dJ6_numberOfTrailingZeros_0f7a4_77 (by first | omega) (by decide) (by decide) ?_
            refine pw_iadd (pc := 78) dJ6_numberOfTrailingZeros_0f7a4_78 ?_
            exact pw_iret (pc := 79) dJ6_numberOfTrailingZeros_0f7a4_79 (by first | omega) (by have e : (1 + 16 + 8 + 4 + 2) + (((((m / 65536) / 256) / 16) / 4) / 2) = (zz : Int) := (by omega); rw [e]; exact ⟨rfl, by omega, by rw [Int.toNat_natCast]; exact hb, fun j hj => hl j (by omega)⟩)
  · refine pw_iload_n (z := m) (pc := 12) dJ6_numberOfTrailingZeros_0f7a4_12 rfl rfl ?_
    refine pw_bipush (pc := 13) dJ6_numberOfTrailingZeros_0f7a4_13 rfl ?_
    refine pw_iandX (pc := 15) dJ6_numberOfTrailingZeros_0f7a4_15 (by first | omega) (by first | omega) (fun w15 r15 x15 v15 => ?_)
    exact pw_iret (pc := 16) dJ6_numberOfTrailingZeros_0f7a4_16 (by first | omega) (by have e : w15 = (zz : Int) := (by rw [x15 (by omega) (by omega), show m.toNat = 0 by omega]; simp; omega); rw [e]; exact ⟨rfl, by omega, by rw [Int.toNat_natCast]; exact hb, fun j hj => hl j (by omega)⟩)

