/-! ===== how many bits ===== -/
theorem i32_um {b : Int} (hb : 0 ≤ b ∧ b < 32) : ((((Int32.ofInt b).toUInt32 &&& Int32.toUInt32 31)).toBitVec % 32).toNat = b.toNat := by
  have h : b = 0 ∨ b = 1 ∨ b = 2 ∨ b = 3 ∨ b = 4 ∨ b = 5 ∨ b = 6 ∨ b = 7 ∨ b = 8 ∨ b = 9 ∨ b = 10 ∨ b = 11 ∨ b = 12 ∨ b = 13 ∨ b = 14 ∨ b = 15 ∨ b = 16 ∨ b = 17 ∨ b = 18 ∨ b = 19 ∨ b = 20 ∨ b = 21 ∨ b = 22 ∨ b = 23 ∨ b = 24 ∨ b = 25 ∨ b = 26 ∨ b = 27 ∨ b = 28 ∨ b = 29 ∨ b = 30 ∨ b = 31 := by omega
  rcases h with rfl | rfl | rfl | rfl | rfl | rfl | rfl | rfl | rfl | rfl | rfl | rfl | rfl | rfl | rfl | rfl | rfl | rfl | rfl | rfl | rfl | rfl | rfl | rfl | rfl | rfl | rfl | rfl | rfl | rfl | rfl | rfl <;> decide +kernel
theorem i32_ushr {a b : Int} (ha : 0 ≤ a ∧ ir_ a) (hb : 0 ≤ b ∧ b < 32) : ((Int32.ofInt a).toUInt32 >>> ((Int32.ofInt b).toUInt32 &&& Int32.toUInt32 31)).toInt32 = Int32.ofInt (a / 2 ^ b.toNat) := by
  have hm : (Int32.ofInt a).toBitVec.msb = false := (i32_sgn _).mp (by rw [i32_zero, i32_le ir_0 ha.2]; exact ha.1)
  rw [← i32_shr ha.2 hb]
  apply Int32.toBitVec_inj.mp
  have e1 : (Int32.ofInt a >>> (Int32.ofInt b &&& 31)).toBitVec = (Int32.ofInt a).toBitVec.sshiftRight' ((Int32.ofInt b &&& 31).toBitVec.smod 32#32) := rfl
  rw [e1, BitVec.sshiftRight_eq', i32_sm hb, BitVec.sshiftRight_eq_of_msb_false hm]
  show ((Int32.ofInt a).toUInt32 >>> ((Int32.ofInt b).toUInt32 &&& Int32.toUInt32 31)).toBitVec = _
  rw [UInt32.toBitVec_shiftRight, BitVec.ushiftRight_eq', i32_um hb]
  rfl
section PWU
variable {G : GT_} {own : String} {cc : ByteArray} {nL : Nat} {rt : Option FieldType} {R : Room} {cs ss : Nat} {Zf : List Frame → Array Value → State → State → Prop} {pc : Nat} {lv : List (Option Value)} {st : List Value} {h : PH_}
theorem pw_iushr {a b m : Int} (hd : decode cc pc = .ok (.iushr, 1)) (ha : 0 ≤ a ∧ ir_ a) (hb : 0 ≤ b ∧ b < 32) (hm : 2 ^ b.toNat = m) (k : PW G own cc nL rt R cs ss Zf (pc + 1) lv (ii_ (a / m) :: st) h) : PW G own cc nL rt R cs ss Zf pc lv (ii_ b :: ii_ a :: st) h := by
  intro p e s m args below meth cd H locs ls X P S L
  refine lv_iushr X.1 X.2.1 hd (i32_ushr ha hb) ?_
  rw [hm]
  exact k p e s m args below meth cd H locs ls X P S L
end PWU
theorem and256 {a b c d : Nat} (hc : c < 2 ^ 8) (hd : d < 2 ^ 8) : (2 ^ 8 * a + c) &&& (2 ^ 8 * b + d) = 2 ^ 8 * (a &&& b) + (c &&& d) := by
  apply Nat.eq_of_testBit_eq
  intro j
  have h3 : c &&& d < 2 ^ 8 := Nat.and_lt_two_pow _ hd
  rw [Nat.testBit_and, Nat.testBit_two_pow_mul_add _ hc, Nat.testBit_two_pow_mul_add _ hd, Nat.testBit_two_pow_mul_add _ h3]
  split <;> simp [Nat.testBit_and]
theorem and24 {a b c d e f : Nat} (hb : b < 256) (hc : c < 256) (he : e < 256) (hf : f < 256) : (65536 * a + 256 * b + c) &&& (65536 * d + 256 * e + f) = 65536 * (a &&& d) + 256 * (b &&& e) + (c &&& f) := by
  have h1 := and256 (a := 256 * a + b) (b := 256 * d + e) (c := c) (d := f) hc hf
  have h2 := and256 (a := a) (b := d) (c := b) (d := e) hb he
  rw [show (2 : Nat) ^ 8 = 256 from rfl] at h1 h2
  rw [h2] at h1
  rw [show 65536 * a + 256 * b + c = 256 * (256 * a + b) + c by omega, show 65536 * d + 256 * e + f = 256 * (256 * d + e) + f by omega, h1]
  omega
def bf1_ (w : Nat) : Nat := w - (w / 2 &&& 85)
def bf2_ (w : Nat) : Nat := (bf1_ w &&& 51) + (bf1_ w / 4 &&& 51)
def bp8_ (w : Nat) : Nat := w % 2 + w / 2 % 2 + w / 4 % 2 + w / 8 % 2 + w / 16 % 2 + w / 32 % 2 + w / 64 % 2 + w / 128 % 2
theorem bk_1 : ∀ w < 256, ∀ b < 2, (w / 2 + 128 * b) &&& 85 = w / 2 &&& 85 ∧ (w / 2 &&& 85) ≤ w := by decide +kernel
theorem bk_2 : ∀ w < 256, ∀ b < 4, (bf1_ w / 4 + 64 * b) &&& 51 = bf1_ w / 4 &&& 51 := by decide +kernel
theorem bk_3 : ∀ w < 256, bf1_ w < 256 ∧ bf2_ w % 16 ≤ 4 ∧ bf2_ w / 16 ≤ 4 ∧ bf2_ w % 16 + bf2_ w / 16 = bp8_ w ∧ bp8_ w ≤ 8 := by decide +kernel
theorem and_15 (x : Nat) : x &&& 15 = x % 16 := Nat.and_two_pow_sub_one_eq_mod x 4
theorem and_63 (x : Nat) : x &&& 63 = x % 64 := Nat.and_two_pow_sub_one_eq_mod x 6
theorem bc_1 {z y w : Nat} (hz : z < 256) (hy : y < 256) (hw : w < 256) : (65536 * z + 256 * y + w) / 2 &&& 1431655765 = 65536 * (z / 2 &&& 85) + 256 * (y / 2 &&& 85) + (w / 2 &&& 85) := by
  have e1 : (65536 * z + 256 * y + w) / 2 = 65536 * (z / 2) + 256 * (y / 2 + 128 * (z % 2)) + (w / 2 + 128 * (y % 2)) := by omega
  rw [e1, show (1431655765 : Nat) = 65536 * 21845 + 256 * 85 + 85 from rfl, and24 (by omega) (by omega) (by decide) (by decide), (bk_1 y hy (z % 2) (by omega)).1, (bk_1 w hw (y % 2) (by omega)).1]
  have e2 : z / 2 &&& 21845 = z / 2 &&& 85 := by
    have := and256 (a := 0) (b := 85) (c := z / 2) (d := 85) (by show z / 2 < 256; omega) (by decide)
    rw [show (2 : Nat) ^ 8 * 0 + z / 2 = z / 2 by omega, show (2 : Nat) ^ 8 * 85 + 85 = 21845 from rfl, Nat.zero_and] at this
    rw [this]; omega
  rw [e2]
theorem bc_2 {z y w : Nat} (hz : z < 256) (hy : y < 256) (hw : w < 256) : ((65536 * bf1_ z + 256 * bf1_ y + bf1_ w) &&& 858993459) + ((65536 * bf1_ z + 256 * bf1_ y + bf1_ w) / 4 &&& 858993459) = 65536 * bf2_ z + 256 * bf2_ y + bf2_ w := by
  have b1 := (bk_3 z hz).1
  have b2 := (bk_3 y hy).1
  have b3 := (bk_3 w hw).1
  have e1 : (65536 * bf1_ z + 256 * bf1_ y + bf1_ w) / 4 = 65536 * (bf1_ z / 4) + 256 * (bf1_ y / 4 + 64 * (bf1_ z % 4)) + (bf1_ w / 4 + 64 * (bf1_ y % 4)) := by omega
  have m : ∀ v : Nat, v < 256 → v &&& 13107 = v &&& 51 := fun v hv => by
    have := and256 (a := 0) (b := 51) (c := v) (d := 51) (by show v < 256; omega) (by decide)
    rw [show (2 : Nat) ^ 8 * 0 + v = v by omega, show (2 : Nat) ^ 8 * 51 + 51 = 13107 from rfl, Nat.zero_and] at this
    rw [this]; omega
  rw [e1, show (858993459 : Nat) = 65536 * 13107 + 256 * 51 + 51 from rfl, and24 (by omega) (by omega) (by decide) (by decide), and24 (by omega) (by omega) (by decide) (by decide), bk_2 y hy (bf1_ z % 4) (by omega), bk_2 w hw (bf1_ y % 4) (by omega), m _ b1, m _ (by omega)]
  unfold bf2_
  omega
theorem bc_3 {z y w : Nat} (hz : z < 256) (hy : y < 256) (hw : w < 256) : ((65536 * bf2_ z + 256 * bf2_ y + bf2_ w) + (65536 * bf2_ z + 256 * bf2_ y + bf2_ w) / 16) &&& 252645135 = 65536 * bp8_ z + 256 * bp8_ y + bp8_ w := by
  have b1 := bk_3 z hz
  have b2 := bk_3 y hy
  have b3 := bk_3 w hw
  generalize bf2_ z = p at *
  generalize bf2_ y = q at *
  generalize bf2_ w = r at *
  have e1 : (65536 * p + 256 * q + r) + (65536 * p + 256 * q + r) / 16 = 65536 * (p + p / 16) + 256 * (q + q / 16 + 16 * (p % 16)) + (r + r / 16 + 16 * (q % 16)) := by omega
  have m : ∀ v : Nat, v < 256 → v &&& 3855 = v &&& 15 := fun v hv => by
    have := and256 (a := 0) (b := 15) (c := v) (d := 15) (by show v < 256; omega) (by decide)
    rw [show (2 : Nat) ^ 8 * 0 + v = v by omega, show (2 : Nat) ^ 8 * 15 + 15 = 3855 from rfl, Nat.zero_and] at this
    rw [this]; omega
  rw [e1, show (252645135 : Nat) = 65536 * 3855 + 256 * 15 + 15 from rfl, and24 (by omega) (by omega) (by decide) (by decide), m _ (by omega), and_15, and_15, and_15]
  omega
theorem bit_8 (a c : Int) (hc : 0 ≤ c ∧ c < 256) : ∀ n : Nat, bit_ (256 * a + c) (8 + n) = bit_ c 8 + bit_ a n
  | 0 => by
    show bit_ (256 * a + c) 8 = bit_ c 8 + 0
    have e : ∀ x : Int, bit_ x 8 = x % 2 + x / 2 % 2 + x / 4 % 2 + x / 8 % 2 + x / 16 % 2 + x / 32 % 2 + x / 64 % 2 + x / 128 % 2 := fun x => by
      show 0 + x / 1 % 2 + x / 2 % 2 + x / 4 % 2 + x / 8 % 2 + x / 16 % 2 + x / 32 % 2 + x / 64 % 2 + x / 128 % 2 = _
      rw [Int.ediv_one]; omega
    rw [e, e]; omega
  | n + 1 => by
    show bit_ (256 * a + c) (8 + n) + (256 * a + c) / 2 ^ (8 + n) % 2 = bit_ c 8 + (bit_ a n + a / 2 ^ n % 2)
    rw [bit_8 a c hc n, Int.pow_add, show ((2 : Int) ^ 8) = 256 from rfl, ← Int.ediv_ediv_of_nonneg (by decide), show (256 * a + c) / 256 = a by omega]
    omega
theorem bit_p8 (w : Nat) : bit_ (w : Int) 8 = (bp8_ w : Int) := by
  show 0 + (w : Int) / 1 % 2 + (w : Int) / 2 % 2 + (w : Int) / 4 % 2 + (w : Int) / 8 % 2 + (w : Int) / 16 % 2 + (w : Int) / 32 % 2 + (w : Int) / 64 % 2 + (w : Int) / 128 % 2 = _
  unfold bp8_
  rw [Int.ediv_one]; omega
theorem bit_24 {z y w : Nat} (hy : y < 256) (hw : w < 256) : bit_ ((65536 * z + 256 * y + w : Nat) : Int) 24 = ((bp8_ z + bp8_ y + bp8_ w : Nat) : Int) := by
  have e1 : bit_ (256 * (256 * (z : Int) + (y : Int)) + (w : Int)) 24 = bit_ (w : Int) 8 + bit_ (256 * (z : Int) + (y : Int)) 16 := bit_8 (256 * (z : Int) + (y : Int)) (w : Int) (by omega) 16
  have e2 : bit_ (256 * (z : Int) + (y : Int)) 16 = bit_ (y : Int) 8 + bit_ (z : Int) 8 := bit_8 (z : Int) (y : Int) (by omega) 8
  rw [show ((65536 * z + 256 * y + w : Nat) : Int) = 256 * (256 * (z : Int) + (y : Int)) + (w : Int) by omega]
  have p1 := bit_p8 w
  have p2 := bit_p8 y
  have p3 := bit_p8 z
  omega
theorem bct_ {x : Int} (hx : 0 ≤ x ∧ x < 16777216) : ∃ N A1 X1 A2 A3 A4 : Nat, x = (N : Int) ∧ A1 = N / 2 &&& 1431655765 ∧ X1 + A1 = N ∧ A2 = X1 &&& 858993459 ∧ A3 = X1 / 4 &&& 858993459 ∧ A4 = ((A2 + A3) + (A2 + A3) / 16) &&& 252645135 ∧ A2 + A3 ≤ 16777216 ∧ A4 ≤ 600000 ∧ ((((A4 + A4 / 256) + (A4 + A4 / 256) / 65536) &&& 63 : Nat) : Int) = bit_ x 24 ∧ 0 ≤ bit_ x 24 ∧ bit_ x 24 ≤ 24 := by
  obtain ⟨z, y, w, hz, hy, hw, ex⟩ : ∃ z y w : Nat, z < 256 ∧ y < 256 ∧ w < 256 ∧ x = ((65536 * z + 256 * y + w : Nat) : Int) := ⟨x.toNat / 65536, x.toNat / 256 % 256, x.toNat % 256, by omega, by omega, by omega, by omega⟩
  have z3 := bk_3 z hz
  have y3 := bk_3 y hy
  have w3 := bk_3 w hw
  have k4 := bit_24 (z := z) hy hw
  rw [← ex] at k4
  refine ⟨65536 * z + 256 * y + w, _, 65536 * bf1_ z + 256 * bf1_ y + bf1_ w, _, _, _, ex, rfl, ?_, rfl, rfl, rfl, ?_, ?_, ?_, ?_, ?_⟩
  · rw [bc_1 hz hy hw]
    have z1 := (bk_1 z hz 0 (by decide)).2
    have y1 := (bk_1 y hy 0 (by decide)).2
    have w1 := (bk_1 w hw 0 (by decide)).2
    unfold bf1_
    clear k4 z3 y3 w3 ex
    generalize z / 2 &&& 85 = a at *
    generalize y / 2 &&& 85 = b at *
    generalize w / 2 &&& 85 = c at *
    omega
  · rw [bc_2 hz hy hw]
    have a := z3.2.1
    have a2 := z3.2.2.1
    have b := y3.2.1
    have b2 := y3.2.2.1
    have c := w3.2.1
    have c2 := w3.2.2.1
    clear k4 z3 y3 w3 ex
    generalize bf2_ z = p at *
    generalize bf2_ y = q at *
    generalize bf2_ w = r at *
    omega
  · rw [bc_2 hz hy hw, bc_3 hz hy hw]
    have a := z3.2.2.2.2
    have b := y3.2.2.2.2
    have c := w3.2.2.2.2
    clear k4 z3 y3 w3 ex
    generalize bp8_ z = p at *
    generalize bp8_ y = q at *
    generalize bp8_ w = r at *
    omega
  · rw [bc_2 hz hy hw, bc_3 hz hy hw, k4, and_63]
    have a := z3.2.2.2.2
    have b := y3.2.2.2.2
    have c := w3.2.2.2.2
    clear k4 z3 y3 w3 ex
    generalize bp8_ z = p at *
    generalize bp8_ y = q at *
    generalize bp8_ w = r at *
    have e1 : (65536 * p + 256 * q + r) / 256 = 256 * p + q := by omega
    rw [e1]
    have e2 : (65536 * p + 256 * q + r + (256 * p + q)) / 65536 = p := by omega
    rw [e2]
    omega
  · rw [k4]; omega
  · rw [k4]
    have a := z3.2.2.2.2
    have b := y3.2.2.2.2
    have c := w3.2.2.2.2
    omega

