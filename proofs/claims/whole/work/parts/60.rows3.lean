/-! ===== shifts of longs, by whole bytes ===== -/
def by_ (b : Int) : Prop := b = 0 ∨ b = 8 ∨ b = 16 ∨ b = 24 ∨ b = 32 ∨ b = 40 ∨ b = 48 ∨ b = 56
theorem i64_sm {b : Int} (hb : by_ b) : (((Int32.ofInt b).toInt64 &&& 63).toBitVec.smod 64#64).toNat = b.toNat := by
  rcases hb with rfl | rfl | rfl | rfl | rfl | rfl | rfl | rfl <;> decide +kernel
theorem i64_shr {a b : Int} (ha : lr_ a) (hb : by_ b) : Int64.ofInt a >>> ((Int32.ofInt b).toInt64 &&& 63) = Int64.ofInt (a / 2 ^ b.toNat) := by
  apply Int64.toInt_inj.mp
  have e1 : (Int64.ofInt a >>> ((Int32.ofInt b).toInt64 &&& 63)).toBitVec = (Int64.ofInt a).toBitVec.sshiftRight' (((Int32.ofInt b).toInt64 &&& 63).toBitVec.smod 64#64) := rfl
  have hr : lr_ (a / 2 ^ b.toNat) := by
    have hp : (0 : Int) < 2 ^ b.toNat := Int.pow_pos (by decide)
    constructor
    · have h1 : (-9223372036854775808 : Int) ≤ (-9223372036854775808) / 2 ^ b.toNat := Int.le_ediv_of_mul_le hp (by have : (1 : Int) ≤ 2 ^ b.toNat := hp; generalize (2 : Int) ^ b.toNat = w at this ⊢; omega)
      exact Int.le_trans h1 (Int.ediv_le_ediv hp ha.1)
    · have h1 : a / 2 ^ b.toNat ≤ 9223372036854775807 / 2 ^ b.toNat := Int.ediv_le_ediv hp ha.2
      exact Int.le_trans h1 (Int.ediv_le_self _ (by decide))
  rw [i64_toInt hr, ← Int64.toInt_toBitVec, e1, BitVec.sshiftRight_eq', i64_sm hb, BitVec.toInt_sshiftRight, Int64.toInt_toBitVec, i64_toInt ha, Int.shiftRight_eq_div_pow]
  norm_cast
theorem lr_toInt (x : Int64) : lr_ x.toInt := by
  have h1 := Int64.minValue_le_toInt x
  have h2 := Int64.toInt_le x
  rw [i64_min] at h1; rw [i64_max] at h2
  exact ⟨h1, h2⟩
theorem i64_un {a : Int} (ha : lr_ a) : ((Int64.ofInt a).toUInt64.toNat : Int) = a % 18446744073709551616 := by
  have e : (Int64.ofInt a).toUInt64.toNat = (BitVec.ofInt 64 a).toNat := rfl
  rw [e, BitVec.toNat_ofInt]
  omega
theorem i64_ushr {a b : Int} (ha : lr_ a) (hb : by_ b) : ((Int64.ofInt a).toUInt64 >>> ((Int32.ofInt b).toInt64.toUInt64 &&& Int64.toUInt64 63)).toInt64.toInt % 256 = a / 2 ^ b.toNat % 256 := by
  have hu := i64_un ha
  have key : ∀ (k : Nat) (u : UInt64), k < 64 → ((Int32.ofInt b).toInt64.toUInt64 &&& Int64.toUInt64 63) = UInt64.ofNat k → (u >>> ((Int32.ofInt b).toInt64.toUInt64 &&& Int64.toUInt64 63)).toInt64.toInt = Int.bmod ((u.toNat / 2 ^ k : Nat) : Int) 18446744073709551616 := by
    intro k u hk e
    rw [e]
    have e2 : (u >>> UInt64.ofNat k).toInt64.toInt = (u >>> UInt64.ofNat k).toBitVec.toInt := rfl
    rw [e2, BitVec.toInt_eq_toNat_bmod]
    have e3 : (u >>> UInt64.ofNat k).toBitVec.toNat = u.toNat / 2 ^ k := by
      show (u >>> UInt64.ofNat k).toNat = _
      rw [UInt64.toNat_shiftRight, show (UInt64.ofNat k).toNat = k from Nat.mod_eq_of_lt (show k < 2 ^ 64 by omega), Nat.mod_eq_of_lt hk, Nat.shiftRight_eq_div_pow]
    rw [e3]
  have bm : ∀ x : Int, Int.bmod x 18446744073709551616 % 256 = x % 256 := by
    intro x
    rw [Int.bmod_def]
    split <;> omega
  rcases hb with rfl | rfl | rfl | rfl | rfl | rfl | rfl | rfl
  · rw [key 0 _ (by decide) (by decide), bm]; simp only [show (0 : Int).toNat = 0 from rfl, Nat.pow_zero, Int.pow_zero]; omega
  · rw [key 8 _ (by decide) (by decide), bm]; simp only [show (8 : Int).toNat = 8 from rfl]; omega
  · rw [key 16 _ (by decide) (by decide), bm]; simp only [show (16 : Int).toNat = 16 from rfl]; omega
  · rw [key 24 _ (by decide) (by decide), bm]; simp only [show (24 : Int).toNat = 24 from rfl]; omega
  · rw [key 32 _ (by decide) (by decide), bm]; simp only [show (32 : Int).toNat = 32 from rfl]; omega
  · rw [key 40 _ (by decide) (by decide), bm]; simp only [show (40 : Int).toNat = 40 from rfl]; omega
  · rw [key 48 _ (by decide) (by decide), bm]; simp only [show (48 : Int).toNat = 48 from rfl]; omega
  · rw [key 56 _ (by decide) (by decide), bm]; simp only [show (56 : Int).toNat = 56 from rfl]; omega
section PWS
variable {G : GT_} {own : String} {cc : ByteArray} {nL : Nat} {rt : Option FieldType} {R : Room} {cs ss : Nat} {Zf : List Frame → Array Value → State → State → Prop} {pc : Nat} {lv : List (Option Value)} {st : List Value} {h : PH_}
theorem pw_lshr {a b : Int} (hd : decode cc pc = .ok (.lshr, 1)) (ha : lr_ a) (hb : by_ b) (k : PW G own cc nL rt R cs ss Zf (pc + 1) lv (ll_ (a / 2 ^ b.toNat) :: st) h) : PW G own cc nL rt R cs ss Zf pc lv (ii_ b :: ll_ a :: st) h := by
  intro p e s m args below meth cd H locs ls X P S L
  exact lv_lshr X.1 X.2.1 hd (i64_shr ha hb) (k p e s m args below meth cd H locs ls X P S L)
theorem pw_lushr {a b : Int} (hd : decode cc pc = .ok (.lushr, 1)) (ha : lr_ a) (hb : by_ b) (k : ∀ w : Int, lr_ w → w % 256 = a / 2 ^ b.toNat % 256 → PW G own cc nL rt R cs ss Zf (pc + 1) lv (ll_ w :: st) h) : PW G own cc nL rt R cs ss Zf pc lv (ii_ b :: ll_ a :: st) h := by
  intro p e s m args below meth cd H locs ls X P S L
  refine lv_lushr X.1 X.2.1 hd rfl ?_
  have := k _ (lr_toInt _) (i64_ushr ha hb) p e s m args below meth cd H locs ls X P S L
  unfold ll_ at this; rw [Int64.ofInt_toInt] at this; exact this
end PWS
