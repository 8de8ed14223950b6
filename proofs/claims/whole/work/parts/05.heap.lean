/-! ===== numbers ===== -/
theorem i32_toInt {z : Int} (h : ir_ z) : (Int32.ofInt z).toInt = z := Int32.toInt_ofInt_of_le (by have := h.1; omega) (by have := h.2; omega)
theorem i64_toInt {z : Int} (h : lr_ z) : (Int64.ofInt z).toInt = z := Int64.toInt_ofInt_of_le (by have := h.1; omega) (by have := h.2; omega)
theorem i32_clamp {z : Int} (h0 : 0 ≤ z) (h : ir_ z) : (Int32.ofInt z).toNatClampNeg = z.toNat := by
  show (Int32.ofInt z).toInt.toNat = z.toNat
  rw [i32_toInt h]
theorem i32_lt {a b : Int} (ha : ir_ a) (hb : ir_ b) : Int32.ofInt a < Int32.ofInt b ↔ a < b := by
  rw [Int32.lt_iff_toInt_lt, i32_toInt ha, i32_toInt hb]
theorem i32_le {a b : Int} (ha : ir_ a) (hb : ir_ b) : Int32.ofInt a ≤ Int32.ofInt b ↔ a ≤ b := by
  rw [Int32.le_iff_toInt_le, i32_toInt ha, i32_toInt hb]
theorem i32_eq {a b : Int} (ha : ir_ a) (hb : ir_ b) : Int32.ofInt a = Int32.ofInt b ↔ a = b := by
  constructor
  · intro h
    rw [← i32_toInt ha, ← i32_toInt hb, h]
  · intro h; rw [h]
theorem i32_zero : (0 : Int32) = Int32.ofInt 0 := rfl
theorem ir_0 : ir_ 0 := by constructor <;> decide
theorem i64_lt {a b : Int} (ha : lr_ a) (hb : lr_ b) : Int64.ofInt a < Int64.ofInt b ↔ a < b := by
  rw [Int64.lt_iff_toInt_lt, i64_toInt ha, i64_toInt hb]
theorem i64_eq {a b : Int} (ha : lr_ a) (hb : lr_ b) : Int64.ofInt a = Int64.ofInt b ↔ a = b := by
  constructor
  · intro h
    rw [← i64_toInt ha, ← i64_toInt hb, h]
  · intro h; rw [h]
theorem pi_of {z : Int} {n : Nat} (h0 : 0 ≤ z) (h1 : z < n) (h : ir_ z) : vp_in (Int32.ofInt z) n := by
  intro hc
  rcases hc with hc | hc
  · rw [i32_zero, i32_lt h ir_0] at hc; omega
  · rw [i32_clamp h0 h] at hc; omega
/-! ===== numbers of the machine and of ours ===== -/
theorem i64_zero : (0 : Int64) = Int64.ofInt 0 := rfl
theorem lr_0 : lr_ 0 := by constructor <;> decide
theorem i32_ge {a b : Int} (ha : ir_ a) (hb : ir_ b) : Int32.ofInt b ≤ Int32.ofInt a ↔ ¬ a < b := by rw [i32_le hb ha]; omega
theorem i32_gt {a b : Int} (ha : ir_ a) (hb : ir_ b) : Int32.ofInt b < Int32.ofInt a ↔ b < a := i32_lt hb ha
theorem i32_le2 {a b : Int} (ha : ir_ a) (hb : ir_ b) : Int32.ofInt a ≤ Int32.ofInt b ↔ ¬ b < a := by rw [i32_le ha hb]; omega
theorem i32_min : Int32.minValue.toInt = -2147483648 := by decide
theorem i32_max : Int32.maxValue.toInt = 2147483647 := by decide
theorem i64_min : Int64.minValue.toInt = -9223372036854775808 := by decide
theorem i64_max : Int64.maxValue.toInt = 9223372036854775807 := by decide
theorem i32_div {a b : Int} (ha : ir_ a) (hb : 0 < b ∧ b ≤ 2147483647) : Int32.ofInt (a.tdiv b) = Int32.ofInt a / Int32.ofInt b := by
  exact Int32.ofInt_tdiv (by rw [i32_min]; exact ha.1) (by rw [i32_max]; exact ha.2) (by rw [i32_min]; omega) (by rw [i32_max]; omega)
theorem i32_mod {a b : Int} (ha : ir_ a) (hb : 0 < b ∧ b ≤ 2147483647) : Int32.ofInt (a.tmod b) = Int32.ofInt a % Int32.ofInt b := by
  exact Int32.ofInt_tmod (by rw [i32_min]; exact ha.1) (by rw [i32_max]; exact ha.2) (by rw [i32_min]; omega) (by rw [i32_max]; omega)
theorem i64_div {a b : Int} (ha : lr_ a) (hb : 0 < b ∧ b ≤ 9223372036854775807) : Int64.ofInt (a.tdiv b) = Int64.ofInt a / Int64.ofInt b := by
  exact Int64.ofInt_tdiv (by rw [i64_min]; exact ha.1) (by rw [i64_max]; exact ha.2) (by rw [i64_min]; omega) (by rw [i64_max]; omega)
theorem i64_mod {a b : Int} (ha : lr_ a) (hb : 0 < b ∧ b ≤ 9223372036854775807) : Int64.ofInt (a.tmod b) = Int64.ofInt a % Int64.ofInt b := by
  exact Int64.ofInt_tmod (by rw [i64_min]; exact ha.1) (by rw [i64_max]; exact ha.2) (by rw [i64_min]; omega) (by rw [i64_max]; omega)
theorem i32_i2l {a : Int} (ha : ir_ a) : (Int32.ofInt a).toInt64 = Int64.ofInt a := Int32.toInt64_ofInt (by rw [i32_min]; exact ha.1) (by rw [i32_max]; exact ha.2)
theorem i64_cmp {a b : Int} (ha : lr_ a) (hb : lr_ b) : lg_cmp (Int64.ofInt a) (Int64.ofInt b) = Int32.ofInt (if b < a then 1 else if a = b then 0 else -1) := by
  unfold lg_cmp
  have e1 := i64_lt hb ha
  have e2 := i64_eq ha hb
  by_cases h1 : b < a
  · simp [h1, e1.mpr h1]
  · by_cases h2 : a = b
    · subst h2; simp
    · have n1 : ¬ Int64.ofInt b < Int64.ofInt a := fun h => h1 (e1.mp h)
      have n2 : ¬ Int64.ofInt a = Int64.ofInt b := fun h => h2 (e2.mp h)
      simp [h1, h2, n1, n2]
theorem bv_small {n : Nat} (h : n < 2147483648) : (Int32.ofInt (n : Int)).toBitVec = BitVec.ofNat 32 n := by simp
theorem i32_i2c {a : Int} (ha : 0 ≤ a ∧ a < 65536) : ((Int32.ofInt a).toUInt32 % 65536).toInt32 = Int32.ofInt a := by
  obtain ⟨n, rfl⟩ := Int.eq_ofNat_of_zero_le ha.1
  apply Int32.toBitVec.inj
  apply BitVec.eq_of_toNat_eq
  simp
  omega
theorem nar_char {z : Int} (hz : 0 ≤ z ∧ z < 65536) : vp_nar .char (Int32.ofInt z) = Int32.ofInt z := by
  obtain ⟨n, rfl⟩ := Int.eq_ofNat_of_zero_le hz.1
  show (Int32.ofInt (n : Int)).toUInt32.toUInt16.toUInt32.toInt32 = _
  apply Int32.toBitVec.inj
  apply BitVec.eq_of_toNat_eq
  simp
  omega
theorem i32_iand {a b : Nat} (ha : a < 2147483648) (hb : b < 2147483648) : Int32.ofInt (a : Int) &&& Int32.ofInt (b : Int) = Int32.ofInt ((a &&& b : Nat) : Int) := by
  apply Int32.toBitVec.inj
  simp [BitVec.ofNat_and]
theorem i32_ior {a b : Nat} (ha : a < 2147483648) (hb : b < 2147483648) : Int32.ofInt (a : Int) ||| Int32.ofInt (b : Int) = Int32.ofInt ((a ||| b : Nat) : Int) := by
  apply Int32.toBitVec.inj
  simp [BitVec.ofNat_or]
theorem i32_ixor {a b : Nat} (ha : a < 2147483648) (hb : b < 2147483648) : Int32.ofInt (a : Int) ^^^ Int32.ofInt (b : Int) = Int32.ofInt ((a ^^^ b : Nat) : Int) := by
  apply Int32.toBitVec.inj
  simp [BitVec.ofNat_xor]
theorem i32_andmask (k : Nat) (hk : k < 31) {a : Int} : Int32.ofInt a &&& Int32.ofInt (2 ^ k - 1) = Int32.ofInt (a % 2 ^ k) := by
  apply Int32.toBitVec.inj
  apply BitVec.eq_of_toNat_eq
  rw [Int32.toBitVec_and, BitVec.toNat_and, Int32.toBitVec_ofInt, Int32.toBitVec_ofInt, Int32.toBitVec_ofInt]
  rw [BitVec.toNat_ofInt, BitVec.toNat_ofInt, BitVec.toNat_ofInt]
  have hp : (2 : Int) ^ k = ((2 ^ k : Nat) : Int) := by norm_cast
  have hp1 : 0 < 2 ^ k := Nat.two_pow_pos k
  have hp2 : 2 ^ k ≤ 2 ^ 30 := Nat.pow_le_pow_right (by decide) (by omega)
  have e1 : ((2 ^ k - 1 : Int) % ((2 ^ 32 : Nat) : Int)).toNat = 2 ^ k - 1 := by
    rw [hp, Int.emod_eq_of_lt (by omega) (by omega)]; omega
  have e2 : ((a % 2 ^ k) % ((2 ^ 32 : Nat) : Int)).toNat = (a % 2 ^ k).toNat := by
    rw [hp]
    have := Int.emod_nonneg a (show ((2 ^ k : Nat) : Int) ≠ 0 by omega)
    have := Int.emod_lt_of_pos a (show (0 : Int) < ((2 ^ k : Nat) : Int) by omega)
    rw [Int.emod_eq_of_lt (by omega) (by omega)]
  rw [e1, e2, Nat.and_two_pow_sub_one_eq_mod]
  have e3 : ((2 ^ 32 : Nat) : Int) = ((2 ^ k : Nat) : Int) * ((2 ^ (32 - k) : Nat) : Int) := by
    rw [← Int.natCast_mul, ← Nat.pow_add]
    congr 2
    omega
  have e4 : (a % ((2 ^ 32 : Nat) : Int)) % ((2 ^ k : Nat) : Int) = a % ((2 ^ k : Nat) : Int) := by
    exact Int.emod_emod_of_dvd a ⟨_, e3⟩
  have h0 := Int.emod_nonneg a (show ((2 ^ 32 : Nat) : Int) ≠ 0 by decide)
  rw [hp, ← e4]
  generalize a % ((2 ^ 32 : Nat) : Int) = y at h0 ⊢
  obtain ⟨n, rfl⟩ := Int.eq_ofNat_of_zero_le h0
  rw [Int.toNat_natCast, ← Int.natCast_emod, Int.toNat_natCast]
theorem i32_and1 {a : Int} : Int32.ofInt a &&& Int32.ofInt 1 = Int32.ofInt (a % 2) := i32_andmask 1 (by decide)
theorem i32_and3 {a : Int} : Int32.ofInt a &&& Int32.ofInt 3 = Int32.ofInt (a % 4) := i32_andmask 2 (by decide)
theorem i32_and31 {a : Int} : Int32.ofInt a &&& Int32.ofInt 31 = Int32.ofInt (a % 32) := i32_andmask 5 (by decide)
theorem i32_and255 {a : Int} : Int32.ofInt a &&& Int32.ofInt 255 = Int32.ofInt (a % 256) := i32_andmask 8 (by decide)
theorem i32_not {a : Int} (ha : ir_ a) : Int32.ofInt a ^^^ Int32.ofInt (-1) = Int32.ofInt (-1 - a) := by
  have e : Int32.ofInt a ^^^ Int32.ofInt (-1) = ~~~ Int32.ofInt a := by
    apply Int32.toBitVec.inj
    rw [Int32.toBitVec_xor, Int32.toBitVec_not]
    have : (Int32.ofInt (-1)).toBitVec = BitVec.allOnes 32 := by decide
    rw [this, BitVec.xor_allOnes]
  rw [e]
  have e2 : ~~~ Int32.ofInt a = - Int32.ofInt a - 1 := by
    apply Int32.toBitVec.inj
    show ~~~ (Int32.ofInt a).toBitVec = - (Int32.ofInt a).toBitVec - 1#32
    rw [BitVec.neg_eq_not_add, BitVec.add_sub_cancel]
  rw [e2, show (-1 - a : Int) = -a - 1 by omega, Int32.ofInt_sub, Int32.ofInt_neg]
  rfl
theorem i32_andn {a b : Nat} (ha : a < 2147483648) (hb : b < 2147483648) : Int32.ofInt (a : Int) &&& Int32.ofInt (-1 - (b : Int)) = Int32.ofInt ((a - (a &&& b) : Nat) : Int) := by
  rw [← i32_not (a := (b : Int)) (by constructor <;> omega)]
  have e : Int32.ofInt (b : Int) ^^^ Int32.ofInt (-1) = ~~~ Int32.ofInt (b : Int) := by
    apply Int32.toBitVec.inj
    rw [Int32.toBitVec_xor, Int32.toBitVec_not]
    have : (Int32.ofInt (-1)).toBitVec = BitVec.allOnes 32 := by decide
    rw [this, BitVec.xor_allOnes]
  rw [e]
  have hle : a &&& b ≤ a := Nat.and_le_left
  rw [show ((a - (a &&& b) : Nat) : Int) = (a : Int) - ((a &&& b : Nat) : Int) by omega, Int32.ofInt_sub, ← i32_iand ha hb]
  apply Int32.toBitVec.inj
  simp only [Int32.toBitVec_and, Int32.toBitVec_not, Int32.toBitVec_sub]
  generalize (Int32.ofInt (a : Int)).toBitVec = x
  generalize (Int32.ofInt (b : Int)).toBitVec = y
  have e1 : (x &&& ~~~ y) + (x &&& y) = x := by
    rw [BitVec.add_eq_or_of_and_eq_zero]
    · apply BitVec.eq_of_getLsbD_eq
      intro i hi
      simp only [BitVec.getLsbD_or, BitVec.getLsbD_and, BitVec.getLsbD_not, hi]
      cases x.getLsbD i <;> cases y.getLsbD i <;> rfl
    · apply BitVec.eq_of_getLsbD_eq
      intro i hi
      simp only [BitVec.getLsbD_and, BitVec.getLsbD_not, BitVec.getLsbD_zero, hi]
      cases x.getLsbD i <;> cases y.getLsbD i <;> rfl
  exact (BitVec.sub_eq_iff_eq_add.mpr e1.symm).symm
theorem i32_shl1 {b : Int} (hb : 0 ≤ b ∧ b < 31) : Int32.ofInt 1 <<< (Int32.ofInt b &&& 31) = Int32.ofInt (2 ^ b.toNat) := by
  have h : b = 0 ∨ b = 1 ∨ b = 2 ∨ b = 3 ∨ b = 4 ∨ b = 5 ∨ b = 6 ∨ b = 7 ∨ b = 8 ∨ b = 9 ∨ b = 10 ∨ b = 11 ∨ b = 12 ∨ b = 13 ∨ b = 14 ∨ b = 15 ∨ b = 16 ∨ b = 17 ∨ b = 18 ∨ b = 19 ∨ b = 20 ∨ b = 21 ∨ b = 22 ∨ b = 23 ∨ b = 24 ∨ b = 25 ∨ b = 26 ∨ b = 27 ∨ b = 28 ∨ b = 29 ∨ b = 30 := by omega
  rcases h with rfl | rfl | rfl | rfl | rfl | rfl | rfl | rfl | rfl | rfl | rfl | rfl | rfl | rfl | rfl | rfl | rfl | rfl | rfl | rfl | rfl | rfl | rfl | rfl | rfl | rfl | rfl | rfl | rfl | rfl | rfl <;> decide +kernel
theorem i32_sm {b : Int} (hb : 0 ≤ b ∧ b < 32) : ((Int32.ofInt b &&& 31).toBitVec.smod 32#32).toNat = b.toNat := by
  have h : b = 0 ∨ b = 1 ∨ b = 2 ∨ b = 3 ∨ b = 4 ∨ b = 5 ∨ b = 6 ∨ b = 7 ∨ b = 8 ∨ b = 9 ∨ b = 10 ∨ b = 11 ∨ b = 12 ∨ b = 13 ∨ b = 14 ∨ b = 15 ∨ b = 16 ∨ b = 17 ∨ b = 18 ∨ b = 19 ∨ b = 20 ∨ b = 21 ∨ b = 22 ∨ b = 23 ∨ b = 24 ∨ b = 25 ∨ b = 26 ∨ b = 27 ∨ b = 28 ∨ b = 29 ∨ b = 30 ∨ b = 31 := by omega
  rcases h with rfl | rfl | rfl | rfl | rfl | rfl | rfl | rfl | rfl | rfl | rfl | rfl | rfl | rfl | rfl | rfl | rfl | rfl | rfl | rfl | rfl | rfl | rfl | rfl | rfl | rfl | rfl | rfl | rfl | rfl | rfl | rfl <;> decide +kernel
theorem i32_shr {a b : Int} (ha : ir_ a) (hb : 0 ≤ b ∧ b < 32) : Int32.ofInt a >>> (Int32.ofInt b &&& 31) = Int32.ofInt (a / 2 ^ b.toNat) := by
  apply Int32.toInt_inj.mp
  have e1 : (Int32.ofInt a >>> (Int32.ofInt b &&& 31)).toBitVec = (Int32.ofInt a).toBitVec.sshiftRight' ((Int32.ofInt b &&& 31).toBitVec.smod 32#32) := rfl
  have hr : ir_ (a / 2 ^ b.toNat) := by
    have hp : (0 : Int) < 2 ^ b.toNat := Int.pow_pos (by decide)
    constructor
    · have h1 : (-2147483648 : Int) ≤ (-2147483648) / 2 ^ b.toNat := Int.le_ediv_of_mul_le hp (by have : (1 : Int) ≤ 2 ^ b.toNat := hp; generalize (2 : Int) ^ b.toNat = w at this ⊢; omega)
      exact Int.le_trans h1 (Int.ediv_le_ediv hp ha.1)
    · have h1 : a / 2 ^ b.toNat ≤ 2147483647 / 2 ^ b.toNat := Int.ediv_le_ediv hp ha.2
      exact Int.le_trans h1 (Int.ediv_le_self _ (by decide))
  rw [i32_toInt hr, ← Int32.toInt_toBitVec, e1, BitVec.sshiftRight_eq', i32_sm hb, BitVec.toInt_sshiftRight, Int32.toInt_toBitVec, i32_toInt ha, Int.shiftRight_eq_div_pow]
  norm_cast
/-! ===== the heap's rows ===== -/
theorem ws_at {G : GT_} (h : PH_) {i : Nat} (hi : i ∈ gi_ G) : ∃ q : Nat, (gi_ G)[q]? = some i ∧ (ws_ G h)[q]? = some (ga_ G i, cf_ G i (h i)) := by
  obtain ⟨q, hq⟩ := List.getElem?_of_mem hi
  refine ⟨q, hq, ?_⟩
  unfold ws_
  rw [List.getElem?_map, hq]
  rfl
theorem ws_set {G : GT_} {h h' : PH_} {i q : Nat} (hD : va_D (ag_ G) (ws_ G h)) (hq : (gi_ G)[q]? = some i) (hoff : ∀ j, j ≠ i → h' j = h j) : (ws_ G h).set q (ga_ G i, cf_ G i (h' i)) = ws_ G h' := by
  apply List.ext_getElem?
  intro k
  rw [List.getElem?_set]
  have hql : q < (gi_ G).length := (List.getElem?_eq_some_iff.mp hq).1
  by_cases hk : q = k
  · subst hk
    rw [if_pos rfl]
    unfold ws_
    rw [List.getElem?_map, hq]
    simp [hql]
  · rw [if_neg hk]
    unfold ws_
    rw [List.getElem?_map, List.getElem?_map]
    cases hk2 : (gi_ G)[k]? with
    | none => rfl
    | some j =>
      have hji : j ≠ i := by
        intro e
        subst e
        have h1 : (ws_ G h)[k]? = some (ga_ G j, cf_ G j (h j)) := by unfold ws_; rw [List.getElem?_map, hk2]; rfl
        have h2 : (ws_ G h)[q]? = some (ga_ G j, cf_ G j (h j)) := by unfold ws_; rw [List.getElem?_map, hq]; rfl
        exact hk (hD.1 q k _ _ h2 h1 rfl)
      simp only [Option.map_some, hoff j hji]
theorem fs_get {G : GT_} {f : Int → Int} {i c k t : Nat} (ht : (ft_ c)[k]? = some t) : (fs_ G f i c)[k]? = some (fv_ G f i c k t) := by
  unfold fs_
  rw [List.getElem?_mapIdx, ht]
  rfl
theorem fs_set {G : GT_} {f g : Int → Int} {i c k t : Nat} (ht : (ft_ c)[k]? = some t) (hg : ∀ y : Int, y ≠ (k : Int) → g y = f y) : (fs_ G f i c).set k (fv_ G g i c k t) = fs_ G g i c := by
  apply List.ext_getElem?
  intro j
  rw [List.getElem?_set]
  unfold fs_
  by_cases hk : k = j
  · subst hk
    rw [if_pos rfl, if_pos (by rw [List.length_mapIdx]; exact (List.getElem?_eq_some_iff.mp ht).1), List.getElem?_mapIdx, ht]
    rfl
  · rw [if_neg hk, List.getElem?_mapIdx, List.getElem?_mapIdx]
    cases hj : (ft_ c)[j]? with
    | none => rfl
    | some u =>
      have h1 : g (j : Int) = f (j : Int) := hg _ (by omega)
      simp only [Option.map_some, Option.some.injEq]
      unfold fv_
      split <;> simp [h1]
theorem fs_len {G : GT_} {f : Int → Int} {i c : Nat} : (fs_ G f i c).length = (ft_ c).length := by unfold fs_; rw [List.length_mapIdx]
theorem cf_obj {G : GT_} {i c : Nat} {f : Int → Int} (hk : kd_ i = c + 10) : cf_ G i f = .inr (c, fs_ G f i c) := by
  unfold cf_
  rw [hk, if_neg (by omega), if_pos (by omega), Nat.add_sub_cancel]
theorem cf_int {G : GT_} {i : Nat} {f : Int → Int} {t : Nat} (hk : kd_ i = t) (ht : t = 0 ∨ t = 2 ∨ t = 3) : cf_ G i f = .inl (gc_ G t, ln_ i, .inl (fun j => Int32.ofInt (f j))) := by
  unfold cf_
  rw [hk, if_neg (by omega), if_neg (by omega), if_neg (by omega)]
theorem cf_long {G : GT_} {i : Nat} {f : Int → Int} (hk : kd_ i = 1) : cf_ G i f = .inl (gc_ G 1, ln_ i, .inr (.inl (fun j => Int64.ofInt (f j)))) := by
  unfold cf_
  rw [if_pos hk]
theorem cf_ref {G : GT_} {i : Nat} {f : Int → Int} {t : Nat} (hk : kd_ i = t) (ht : t = 4 ∨ t = 5) : cf_ G i f = .inl (gc_ G t, ln_ i, .inr (.inr (.inr (.inr (fun j => some (ga_ G (f j).toNat)))))) := by
  unfold cf_
  rw [hk, if_neg (by omega), if_neg (by omega), if_pos ht]
theorem sl_obj {i c k t : Nat} (hk : kd_ i = c + 10) (ht : (ft_ c)[k]? = some t) (h1 : t ≠ 1) : sl_ i (k : Int) = false := by
  unfold sl_
  rw [hk]
  simp [ht, h1]
theorem sl_arr {i : Nat} {x : Int} (hk : kd_ i ≠ 1) (h2 : kd_ i < 10) : sl_ i x = false := by
  unfold sl_
  simp [hk]
  omega
/-- a class of the world: its fields are told in the tables, with types, under different names -/
def cl_ (C : String) (T : u_T) (N : Nat) : Prop := (∀ w ∈ u_ws C T N, w ∈ gt_) ∧ (∃ ty : Nat → FieldType, ∀ k, k < N → parseFieldDescriptor (T k).2.2.1 = some (ty k)) ∧ ∀ a, a < N → ∀ b, b < N → a ≠ b → (T a).2.1 ≠ (T b).2.1
theorem iX0_in : ∀ w ∈ u_ws RX0 TX0 10, w ∈ lw_tbl := by decide +kernel
theorem iX1_in : ∀ w ∈ u_ws RX1 TX1 17, w ∈ lw_tbl := by decide +kernel
theorem iX2_in : ∀ w ∈ u_ws RX2 TX2 4, w ∈ lw_tbl := by decide +kernel
theorem iX3_in : ∀ w ∈ u_ws RX3 TX3 6, w ∈ lw_tbl := by decide +kernel
theorem iX4_in : ∀ w ∈ u_ws RX4 TX4 5, w ∈ lw_tbl := by decide +kernel
theorem iX5_in : ∀ w ∈ u_ws RX5 TX5 6, w ∈ lw_tbl := by decide +kernel
theorem iX6_in : ∀ w ∈ u_ws RX6 TX6 20, w ∈ lw_tbl := by decide +kernel
theorem iX7_in : ∀ w ∈ u_ws RX7 TX7 4, w ∈ lw_tbl := by decide +kernel
theorem iX8_in : ∀ w ∈ u_ws RX8 TX8 7, w ∈ lw_tbl := by decide +kernel
theorem iX9_in : ∀ w ∈ u_ws RX9 TX9 4, w ∈ lw_tbl := by decide +kernel
theorem iX10_in : ∀ w ∈ u_ws RX10 TX10 3, w ∈ lw_tbl := by decide +kernel
theorem iX11_in : ∀ w ∈ u_ws RX11 TX11 20, w ∈ lw_tbl := by decide +kernel
theorem iX12_in : ∀ w ∈ u_ws RX12 TX12 60, w ∈ lw_tbl := by decide +kernel
theorem cl_ok (c : Nat) (C : String) (T : u_T) (N : Nat) (h : vwCl[c]? = some (C, T, N)) : cl_ C T N := by
  match c, h with
  | 0, h => cases h; exact ⟨gt_sub iX0_in (by decide +kernel), ⟨tyX0, tyX0_ok⟩, nmX0⟩
  | 1, h => cases h; exact ⟨gt_sub iX1_in (by decide +kernel), ⟨tyX1, tyX1_ok⟩, nmX1⟩
  | 2, h => cases h; exact ⟨gt_sub iX2_in (by decide +kernel), ⟨tyX2, tyX2_ok⟩, nmX2⟩
  | 3, h => cases h; exact ⟨gt_sub iX3_in (by decide +kernel), ⟨tyX3, tyX3_ok⟩, nmX3⟩
  | 4, h => cases h; exact ⟨gt_sub iX4_in (by decide +kernel), ⟨tyX4, tyX4_ok⟩, nmX4⟩
  | 5, h => cases h; exact ⟨gt_sub iX5_in (by decide +kernel), ⟨tyX5, tyX5_ok⟩, nmX5⟩
  | 6, h => cases h; exact ⟨gt_sub iX6_in (by decide +kernel), ⟨tyX6, tyX6_ok⟩, nmX6⟩
  | 7, h => cases h; exact ⟨gt_sub iX7_in (by decide +kernel), ⟨tyX7, tyX7_ok⟩, nmX7⟩
  | 8, h => cases h; exact ⟨gt_sub iX8_in (by decide +kernel), ⟨tyX8, tyX8_ok⟩, nmX8⟩
  | 9, h => cases h; exact ⟨gt_sub iX9_in (by decide +kernel), ⟨tyX9, tyX9_ok⟩, nmX9⟩
  | 10, h => cases h; exact ⟨gt_sub iX10_in (by decide +kernel), ⟨tyX10, tyX10_ok⟩, nmX10⟩
  | 11, h => cases h; exact ⟨gt_sub iX11_in (by decide +kernel), ⟨tyX11, tyX11_ok⟩, nmX11⟩
  | 12, h => cases h; exact ⟨gt_sub iX12_in (by decide +kernel), ⟨tyX12, tyX12_ok⟩, nmX12⟩
  | k + 13, h => simp [vwCl] at h
/-- a field as an instruction of a class names it -/
def fa_ (own : String) (idx c k : Nat) (d : String) (fin : Bool) : Prop := ∃ (C : String) (T : u_T) (N : Nat), vwCl[c]? = some (C, T, N) ∧ k < N ∧ (T k).2.2.1 = d ∧ (T k).2.2.2 = fin ∧ Cond.fieldLink own idx (T k).1 (T k).2.1 (T k).2.2.1 ∈ gt_
section PWR
variable {G : GT_} {own : String} {cc : ByteArray} {nL : Nat} {rt : Option FieldType} {R : Room} {cs ss : Nat} {Zf : List Frame → Array Value → State → State → Prop} {pc : Nat} {lv : List (Option Value)} {st : List Value} {h : PH_}
theorem pw_getV {idx o c k t : Nat} {d : String} {fin : Bool} (hd : decode cc pc = .ok (.getfield idx, 3)) (fa : fa_ own idx c k d fin) (ho : o ∈ gi_ G) (hk : kd_ o = c + 10) (ht : (ft_ c)[k]? = some t)
    (kk : PW G own cc nL rt R cs ss Zf (pc + 3) lv (fv_ G (h o) o c k t :: st) h) : PW G own cc nL rt R cs ss Zf pc lv (rr_ G o :: st) h := by
  obtain ⟨C, T, N, hc, hkN, -, -, hlk⟩ := fa
  intro p e s m args below meth cd H locs ls X P S L
  obtain ⟨q, hq, hw⟩ := ws_at h ho
  rw [cf_obj hk] at hw
  exact va_get (D := gd_ G) (ci := c) (C := C) (T := T) (N := N) X.1 X.2.1 X.2.2.2.2.2.2.1 (cl_ok c C T N hc).1 X.2.2.2.2.2.1 X.2.2.2.2.2.2.2.1 P.1 q hw hc k hkN (X.2.2.2.2.2.2.1 _ hlk) (fun _ h9 => h9) (fs_get ht) hd (kk p e s m args below meth cd H locs ls X P S L)
/-- a field of ints -/
theorem pw_getI {idx o c k : Nat} {d : String} {fin : Bool} (hd : decode cc pc = .ok (.getfield idx, 3)) (fa : fa_ own idx c k d fin) (ho : o ∈ gi_ G) (hk : kd_ o = c + 10) (ht : (ft_ c)[k]? = some 0)
    (kk : ir_ (h o k) → PW G own cc nL rt R cs ss Zf (pc + 3) lv (ii_ (h o k) :: st) h) : PW G own cc nL rt R cs ss Zf pc lv (rr_ G o :: st) h := by
  intro p e s m args below meth cd H locs ls X P S L
  exact pw_getV hd fa ho hk ht (kk ((P.2.2 o k).1 (sl_obj hk ht (by decide)))) p e s m args below meth cd H locs ls X P S L
theorem pw_getJ {idx o c k : Nat} {d : String} {fin : Bool} (hd : decode cc pc = .ok (.getfield idx, 3)) (fa : fa_ own idx c k d fin) (ho : o ∈ gi_ G) (hk : kd_ o = c + 10) (ht : (ft_ c)[k]? = some 1)
    (kk : lr_ (h o k) → PW G own cc nL rt R cs ss Zf (pc + 3) lv (ll_ (h o k) :: st) h) : PW G own cc nL rt R cs ss Zf pc lv (rr_ G o :: st) h := by
  intro p e s m args below meth cd H locs ls X P S L
  exact pw_getV hd fa ho hk ht (kk (P.2.2 o k).2) p e s m args below meth cd H locs ls X P S L
/-- a final reference: the cell is told by the layout -/
theorem pw_getR {idx o c k r : Nat} {d : String} {fin : Bool} (hd : decode cc pc = .ok (.getfield idx, 3)) (fa : fa_ own idx c k d fin) (ho : o ∈ gi_ G) (hk : kd_ o = c + 10) (ht : (ft_ c)[k]? = some 2) (hr : fr_ o c k = r)
    (kk : PW G own cc nL rt R cs ss Zf (pc + 3) lv (rr_ G r :: st) h) : PW G own cc nL rt R cs ss Zf pc lv (rr_ G o :: st) h :=
  pw_getV hd fa ho hk ht (by subst hr; exact kk)
/-- a reference that changes -/
theorem pw_getD {idx o c k r : Nat} {d : String} {fin : Bool} (hd : decode cc pc = .ok (.getfield idx, 3)) (fa : fa_ own idx c k d fin) (ho : o ∈ gi_ G) (hk : kd_ o = c + 10) (ht : (ft_ c)[k]? = some 3) (hr : h o k = (r : Int))
    (kk : PW G own cc nL rt R cs ss Zf (pc + 3) lv (rr_ G r :: st) h) : PW G own cc nL rt R cs ss Zf pc lv (rr_ G o :: st) h :=
  pw_getV hd fa ho hk ht (by
    have h1 : fv_ G (h o) o c k 3 = rr_ G r := by
      show rq_ G (h o k) = rr_ G r
      unfold rq_ rr_
      rw [hr, if_neg (by omega), Int.toNat_natCast]
    rw [h1]; exact kk)
theorem pw_putV {idx o c k t : Nat} {z : Int} {d : String} {ty : FieldType} (hd : decode cc pc = .ok (.putfield idx, 3)) (fa : fa_ own idx c k d false) (ho : o ∈ gi_ G) (hk : kd_ o = c + 10) (ht : (ft_ c)[k]? = some t) (hp : parseFieldDescriptor d = some ty)
    (hn : narrow ty (fv_ G (up_ h o k z o) o c k t) = fv_ G (up_ h o k z o) o c k t) (hf : fits ty (fv_ G (up_ h o k z o) o c k t) = true) (h1 : sl_ o k = false → ir_ z) (h2 : lr_ z)
    (kk : PW G own cc nL rt R cs ss Zf (pc + 3) lv st (up_ h o k z)) : PW G own cc nL rt R cs ss Zf pc lv (fv_ G (up_ h o k z o) o c k t :: rr_ G o :: st) h := by
  obtain ⟨C, T, N, hc, hkN, hdd, hfin, hlk⟩ := fa
  obtain ⟨hin, ⟨ty0, hty⟩, hnm⟩ := cl_ok c C T N hc
  intro p e s m args below meth cd H locs ls X P S L
  obtain ⟨q, hq, hw⟩ := ws_at h ho
  rw [cf_obj hk] at hw
  refine va_put (D := gd_ G) (ci := c) (C := C) (T := T) (N := N) (ty := ty) X.1 X.2.1 X.2.2.2.2.2.2.1 hin ty0 hty hnm X.2.2.2.2.2.1 X.2.2.2.2.2.2.2.1 P.1 P.2.1 S q hw hc k hkN (X.2.2.2.2.2.2.1 _ hlk) (fun _ h9 => h9) hfin (by rw [hdd]; exact hp) hn hf (by rw [fs_len]; exact (List.getElem?_eq_some_iff.mp ht).1) hd (fun H1 locs1 P1 D1 S1 => ?_)
  have e1 : (ws_ G h).set q (ga_ G o, .inr (c, (fs_ G (h o) o c).set k (fv_ G (up_ h o k z o) o c k t))) = ws_ G (up_ h o k z) := by
    rw [fs_set (g := up_ h o k z o) ht (fun y hy => by rw [up_at, if_neg hy]), ← cf_obj hk]
    exact ws_set P.2.1 hq (fun j hj => up_off hj)
  rw [e1] at P1 D1
  exact kk p e s m args below meth cd H1 locs1 ls X ⟨P1, D1, nr_up P.2.2 h1 h2⟩ S1 L
theorem lr_of_ir {z : Int} (h : ir_ z) : lr_ z := by constructor <;> (have := h.1; have := h.2; omega)
theorem pw_putI {idx o c k : Nat} {z : Int} (hd : decode cc pc = .ok (.putfield idx, 3)) (fa : fa_ own idx c k "I" false) (ho : o ∈ gi_ G) (hk : kd_ o = c + 10) (ht : (ft_ c)[k]? = some 0) (hz : ir_ z)
    (kk : PW G own cc nL rt R cs ss Zf (pc + 3) lv st (up_ h o k z)) : PW G own cc nL rt R cs ss Zf pc lv (ii_ z :: rr_ G o :: st) h := by
  have e : ii_ z = fv_ G (up_ h o k z o) o c k 0 := by show _ = ii_ (up_ h o k z o k); rw [up_same]
  rw [e]
  exact pw_putV (ty := .int) hd fa ho hk ht (by decide +kernel) rfl rfl (fun _ => hz) (lr_of_ir hz) kk
theorem pw_putZ {idx o c k : Nat} {z : Int} (hd : decode cc pc = .ok (.putfield idx, 3)) (fa : fa_ own idx c k "Z" false) (ho : o ∈ gi_ G) (hk : kd_ o = c + 10) (ht : (ft_ c)[k]? = some 0) (hz : z = 0 ∨ z = 1)
    (kk : PW G own cc nL rt R cs ss Zf (pc + 3) lv st (up_ h o k z)) : PW G own cc nL rt R cs ss Zf pc lv (ii_ z :: rr_ G o :: st) h := by
  have e : ii_ z = fv_ G (up_ h o k z o) o c k 0 := by show _ = ii_ (up_ h o k z o k); rw [up_same]
  have hn : narrow .boolean (ii_ z) = ii_ z := by rcases hz with rfl | rfl <;> rfl
  have hf : fits .boolean (ii_ z) = true := by rcases hz with rfl | rfl <;> rfl
  have hr : ir_ z := by rcases hz with rfl | rfl <;> (constructor <;> decide)
  rw [e] at hn hf ⊢
  exact pw_putV (ty := .boolean) hd fa ho hk ht (by decide +kernel) hn hf (fun _ => hr) (lr_of_ir hr) kk
theorem pw_putJ {idx o c k : Nat} {z : Int} (hd : decode cc pc = .ok (.putfield idx, 3)) (fa : fa_ own idx c k "J" false) (ho : o ∈ gi_ G) (hk : kd_ o = c + 10) (ht : (ft_ c)[k]? = some 1) (hz : lr_ z)
    (kk : PW G own cc nL rt R cs ss Zf (pc + 3) lv st (up_ h o k z)) : PW G own cc nL rt R cs ss Zf pc lv (ll_ z :: rr_ G o :: st) h := by
  have e : ll_ z = fv_ G (up_ h o k z o) o c k 1 := by show _ = ll_ (up_ h o k z o k); rw [up_same]
  have hs : sl_ o k = true := by unfold sl_; rw [hk]; simp [ht]
  rw [e]
  exact pw_putV (ty := .long) hd fa ho hk ht (by decide +kernel) rfl rfl (fun h9 => by rw [hs] at h9; cases h9) hz kk
theorem pw_putD {idx o c k r : Nat} {nm d : String} (hd : decode cc pc = .ok (.putfield idx, 3)) (fa : fa_ own idx c k d false) (ho : o ∈ gi_ G) (hk : kd_ o = c + 10) (ht : (ft_ c)[k]? = some 3) (hp : parseFieldDescriptor d = some (.object nm)) (hz : r < 4000)
    (kk : PW G own cc nL rt R cs ss Zf (pc + 3) lv st (up_ h o k (r : Int))) : PW G own cc nL rt R cs ss Zf pc lv (rr_ G r :: rr_ G o :: st) h := by
  have e : rr_ G r = fv_ G (up_ h o k (r : Int) o) o c k 3 := by
    show _ = rq_ G (up_ h o k (r : Int) o k)
    rw [up_same]; unfold rq_ rr_; rw [if_neg (by omega), Int.toNat_natCast]
  have hr : ir_ (r : Int) := by constructor <;> omega
  rw [e]
  exact pw_putV (ty := .object nm) hd fa ho hk ht hp (by rw [← e]; rfl) (by rw [← e]; rfl) (fun _ => hr) (lr_of_ir hr) kk
/-! arrays -/
theorem pw_iald {i : Nat} {x : Int} (hd : decode cc pc = .ok (.iaload, 1)) (hi : i ∈ gi_ G) (hk : kd_ i = 0) (n : Nat) (hl : ln_ i = n) (h0 : 0 ≤ x) (h1 : x < n) (h2 : ir_ x)
    (kk : ir_ (h i x) → PW G own cc nL rt R cs ss Zf (pc + 1) lv (ii_ (h i x) :: st) h) : PW G own cc nL rt R cs ss Zf pc lv (ii_ x :: rr_ G i :: st) h := by
  intro p e s m args below meth cd H locs ls X P S L
  obtain ⟨q, hq, hw⟩ := ws_at h hi
  rw [cf_int hk (by decide), hl] at hw
  refine va_iald (D := gd_ G) X.1 X.2.1 X.2.2.2.2.2.2.2.1 P.1 q 0 hw rfl (pi_of h0 h1 h2) hd ?_
  have e1 : ((Int32.ofInt x).toNatClampNeg : Int) = x := by rw [i32_clamp h0 h2]; omega
  rw [e1]
  exact kk ((P.2.2 i x).1 (sl_arr (by omega) (by omega))) p e s m args below meth cd H locs ls X P S L
theorem pw_lald {i : Nat} {x : Int} (hd : decode cc pc = .ok (.laload, 1)) (hi : i ∈ gi_ G) (hk : kd_ i = 1) (n : Nat) (hl : ln_ i = n) (h0 : 0 ≤ x) (h1 : x < n) (h2 : ir_ x)
    (kk : lr_ (h i x) → PW G own cc nL rt R cs ss Zf (pc + 1) lv (ll_ (h i x) :: st) h) : PW G own cc nL rt R cs ss Zf pc lv (ii_ x :: rr_ G i :: st) h := by
  intro p e s m args below meth cd H locs ls X P S L
  obtain ⟨q, hq, hw⟩ := ws_at h hi
  rw [cf_long hk, hl] at hw
  refine va_lald (D := gd_ G) X.1 X.2.1 X.2.2.2.2.2.2.2.1 P.1 q 1 hw rfl (pi_of h0 h1 h2) hd ?_
  have e1 : ((Int32.ofInt x).toNatClampNeg : Int) = x := by rw [i32_clamp h0 h2]; omega
  rw [e1]
  exact kk (P.2.2 i x).2 p e s m args below meth cd H locs ls X P S L
theorem pw_zald {i : Nat} {x : Int} (hd : decode cc pc = .ok (.baload, 1)) (hi : i ∈ gi_ G) (hk : kd_ i = 2) (n : Nat) (hl : ln_ i = n) (h0 : 0 ≤ x) (h1 : x < n) (h2 : ir_ x)
    (kk : ir_ (h i x) → PW G own cc nL rt R cs ss Zf (pc + 1) lv (ii_ (h i x) :: st) h) : PW G own cc nL rt R cs ss Zf pc lv (ii_ x :: rr_ G i :: st) h := by
  intro p e s m args below meth cd H locs ls X P S L
  obtain ⟨q, hq, hw⟩ := ws_at h hi
  rw [cf_int hk (by decide), hl] at hw
  refine va_zald (D := gd_ G) X.1 X.2.1 X.2.2.2.2.2.2.2.1 P.1 q 2 hw rfl (pi_of h0 h1 h2) hd ?_
  have e1 : ((Int32.ofInt x).toNatClampNeg : Int) = x := by rw [i32_clamp h0 h2]; omega
  rw [e1]
  exact kk ((P.2.2 i x).1 (sl_arr (by omega) (by omega))) p e s m args below meth cd H locs ls X P S L
theorem pw_cald {i : Nat} {x : Int} (hd : decode cc pc = .ok (.caload, 1)) (hi : i ∈ gi_ G) (hk : kd_ i = 3) (n : Nat) (hl : ln_ i = n) (h0 : 0 ≤ x) (h1 : x < n) (h2 : ir_ x)
    (kk : ir_ (h i x) → PW G own cc nL rt R cs ss Zf (pc + 1) lv (ii_ (h i x) :: st) h) : PW G own cc nL rt R cs ss Zf pc lv (ii_ x :: rr_ G i :: st) h := by
  intro p e s m args below meth cd H locs ls X P S L
  obtain ⟨q, hq, hw⟩ := ws_at h hi
  rw [cf_int hk (by decide), hl] at hw
  refine va_cald (D := gd_ G) X.1 X.2.1 X.2.2.2.2.2.2.2.1 P.1 q 3 hw rfl (pi_of h0 h1 h2) hd ?_
  have e1 : ((Int32.ofInt x).toNatClampNeg : Int) = x := by rw [i32_clamp h0 h2]; omega
  rw [e1]
  exact kk ((P.2.2 i x).1 (sl_arr (by omega) (by omega))) p e s m args below meth cd H locs ls X P S L
theorem arr_upd {h : PH_} {i : Nat} {x z : Int} (h0 : 0 ≤ x) : upd (fun j : Nat => Int32.ofInt (h i j)) x.toNat (Int32.ofInt z) = fun j : Nat => Int32.ofInt (up_ h i x z i j) := by
  funext j
  unfold upd
  rw [up_at]
  by_cases hj : j = x.toNat
  · rw [if_pos hj, if_pos (by omega)]
  · rw [if_neg hj, if_neg (by omega)]
theorem ws_arr {i q : Nat} {x z : Int} {v : vp_A} (hD : va_D (ag_ G) (ws_ G h)) (hq : (gi_ G)[q]? = some i) {t : Nat} (hc : cf_ G i (up_ h i x z i) = .inl (gc_ G t, v)) : (ws_ G h).set q (ga_ G i, .inl (gc_ G t, v)) = ws_ G (up_ h i x z) := by
  rw [← hc]
  exact ws_set hD hq (fun j hj => up_off hj)
theorem pw_iast {i : Nat} {x z : Int} (hd : decode cc pc = .ok (.iastore, 1)) (hi : i ∈ gi_ G) (hk : kd_ i = 0) (n : Nat) (hl : ln_ i = n) (h0 : 0 ≤ x) (h1 : x < n) (h2 : ir_ x) (hz : ir_ z)
    (kk : PW G own cc nL rt R cs ss Zf (pc + 1) lv st (up_ h i x z)) : PW G own cc nL rt R cs ss Zf pc lv (ii_ z :: ii_ x :: rr_ G i :: st) h := by
  intro p e s m args below meth cd H locs ls X P S L
  obtain ⟨q, hq, hw⟩ := ws_at h hi
  rw [cf_int hk (by decide), hl] at hw
  refine va_iast (D := gd_ G) X.1 X.2.1 X.2.2.2.2.2.2.2.1 P.1 P.2.1 S q 0 hw rfl (pi_of h0 h1 h2) hd (fun H1 locs1 P1 D1 S1 => ?_)
  rw [i32_clamp h0 h2, arr_upd h0, ws_arr P.2.1 hq (by rw [cf_int hk (by decide), hl])] at P1 D1
  exact kk p e s m args below meth cd H1 locs1 ls X ⟨P1, D1, nr_up P.2.2 (fun _ => hz) (lr_of_ir hz)⟩ S1 L
theorem pw_zast {i : Nat} {x z : Int} (hd : decode cc pc = .ok (.bastore, 1)) (hi : i ∈ gi_ G) (hk : kd_ i = 2) (n : Nat) (hl : ln_ i = n) (h0 : 0 ≤ x) (h1 : x < n) (h2 : ir_ x) (hz : z = 0 ∨ z = 1)
    (kk : PW G own cc nL rt R cs ss Zf (pc + 1) lv st (up_ h i x z)) : PW G own cc nL rt R cs ss Zf pc lv (ii_ z :: ii_ x :: rr_ G i :: st) h := by
  intro p e s m args below meth cd H locs ls X P S L
  obtain ⟨q, hq, hw⟩ := ws_at h hi
  rw [cf_int hk (by decide), hl] at hw
  refine va_zast (D := gd_ G) X.1 X.2.1 X.2.2.2.2.2.2.2.1 P.1 P.2.1 S q 2 hw rfl (pi_of h0 h1 h2) hd (fun H1 locs1 P1 D1 S1 => ?_)
  have hz2 : vp_nar .boolean (Int32.ofInt z) = Int32.ofInt z := by rcases hz with rfl | rfl <;> rfl
  have hz : ir_ z := by rcases hz with rfl | rfl <;> (constructor <;> decide)
  rw [hz2] at P1 D1
  rw [i32_clamp h0 h2, arr_upd h0, ws_arr P.2.1 hq (by rw [cf_int hk (by decide), hl])] at P1 D1
  exact kk p e s m args below meth cd H1 locs1 ls X ⟨P1, D1, nr_up P.2.2 (fun _ => hz) (lr_of_ir hz)⟩ S1 L
theorem pw_cast {i : Nat} {x z : Int} (hd : decode cc pc = .ok (.castore, 1)) (hi : i ∈ gi_ G) (hk : kd_ i = 3) (n : Nat) (hl : ln_ i = n) (h0 : 0 ≤ x) (h1 : x < n) (h2 : ir_ x) (hz : 0 ≤ z ∧ z < 65536)
    (kk : PW G own cc nL rt R cs ss Zf (pc + 1) lv st (up_ h i x z)) : PW G own cc nL rt R cs ss Zf pc lv (ii_ z :: ii_ x :: rr_ G i :: st) h := by
  intro p e s m args below meth cd H locs ls X P S L
  obtain ⟨q, hq, hw⟩ := ws_at h hi
  rw [cf_int hk (by decide), hl] at hw
  refine va_cast (D := gd_ G) X.1 X.2.1 X.2.2.2.2.2.2.2.1 P.1 P.2.1 S q 3 hw rfl (pi_of h0 h1 h2) hd (fun H1 locs1 P1 D1 S1 => ?_)
  have hz2 : vp_nar .char (Int32.ofInt z) = Int32.ofInt z := nar_char hz
  have hz : ir_ z := by constructor <;> omega
  rw [hz2] at P1 D1
  rw [i32_clamp h0 h2, arr_upd h0, ws_arr P.2.1 hq (by rw [cf_int hk (by decide), hl])] at P1 D1
  exact kk p e s m args below meth cd H1 locs1 ls X ⟨P1, D1, nr_up P.2.2 (fun _ => hz) (lr_of_ir hz)⟩ S1 L
theorem arr_updL {h : PH_} {i : Nat} {x z : Int} (h0 : 0 ≤ x) : vp_updL (fun j : Nat => Int64.ofInt (h i j)) x.toNat (Int64.ofInt z) = fun j : Nat => Int64.ofInt (up_ h i x z i j) := by
  funext j
  unfold vp_updL
  rw [up_at]
  by_cases hj : j = x.toNat
  · rw [if_pos hj, if_pos (by omega)]
  · rw [if_neg hj, if_neg (by omega)]
theorem pw_last {i : Nat} {x z : Int} (hd : decode cc pc = .ok (.lastore, 1)) (hi : i ∈ gi_ G) (hk : kd_ i = 1) (n : Nat) (hl : ln_ i = n) (h0 : 0 ≤ x) (h1 : x < n) (h2 : ir_ x) (hz : lr_ z)
    (kk : PW G own cc nL rt R cs ss Zf (pc + 1) lv st (up_ h i x z)) : PW G own cc nL rt R cs ss Zf pc lv (ll_ z :: ii_ x :: rr_ G i :: st) h := by
  intro p e s m args below meth cd H locs ls X P S L
  obtain ⟨q, hq, hw⟩ := ws_at h hi
  rw [cf_long hk, hl] at hw
  refine va_last (D := gd_ G) X.1 X.2.1 X.2.2.2.2.2.2.2.1 P.1 P.2.1 S q 1 hw rfl (pi_of h0 h1 h2) hd (fun H1 locs1 P1 D1 S1 => ?_)
  rw [i32_clamp h0 h2, arr_updL h0, ws_arr P.2.1 hq (by rw [cf_long hk, hl])] at P1 D1
  have hs : sl_ i x = true := by unfold sl_; rw [hk]; rfl
  exact kk p e s m args below meth cd H1 locs1 ls X ⟨P1, D1, nr_up P.2.2 (fun h9 => by rw [hs] at h9; cases h9) hz⟩ S1 L
theorem pw_aald {i r t : Nat} {x : Int} (hd : decode cc pc = .ok (.aaload, 1)) (hi : i ∈ gi_ G) (hk : kd_ i = t) (ht : t = 4 ∨ t = 5) (n : Nat) (hl : ln_ i = n) (h0 : 0 ≤ x) (h1 : x < n) (h2 : ir_ x) (hr : h i x = (r : Int))
    (kk : PW G own cc nL rt R cs ss Zf (pc + 1) lv (rr_ G r :: st) h) : PW G own cc nL rt R cs ss Zf pc lv (ii_ x :: rr_ G i :: st) h := by
  intro p e s m args below meth cd H locs ls X P S L
  obtain ⟨q, hq, hw⟩ := ws_at h hi
  rw [cf_ref hk ht, hl] at hw
  have e1 : ((Int32.ofInt x).toNatClampNeg : Int) = x := by rw [i32_clamp h0 h2]; omega
  have e2 : va_rf (some (ga_ G (h i ((Int32.ofInt x).toNatClampNeg : Int)).toNat)) = rr_ G r := by
    rw [e1, hr, Int.toNat_natCast]; rfl
  rcases ht with rfl | rfl
  · refine va_aldq (D := gd_ G) X.1 X.2.1 X.2.2.2.2.2.2.2.1 P.1 q 4 hw rfl (pi_of h0 h1 h2) hd ?_
    rw [e2]
    exact kk p e s m args below meth cd H locs ls X P S L
  · refine va_aldq (D := gd_ G) X.1 X.2.1 X.2.2.2.2.2.2.2.1 P.1 q 5 hw rfl (pi_of h0 h1 h2) hd ?_
    rw [e2]
    exact kk p e s m args below meth cd H locs ls X P S L
theorem pw_alen {i : Nat} (hd : decode cc pc = .ok (.arraylength, 1)) (hi : i ∈ gi_ G) (t : Nat) (hk : kd_ i = t) (ht : t < 6) (n : Nat) (hl : ln_ i = n)
    (kk : PW G own cc nL rt R cs ss Zf (pc + 1) lv (ii_ (n : Int) :: st) h) : PW G own cc nL rt R cs ss Zf pc lv (rr_ G i :: st) h := by
  intro p e s m args below meth cd H locs ls X P S L
  obtain ⟨q, hq, hw⟩ := ws_at h hi
  have hc : ∃ x : vp_A, cf_ G i (h i) = .inl (gc_ G t, x) ∧ x.1 = n := by
    have h6 : t = 0 ∨ t = 1 ∨ t = 2 ∨ t = 3 ∨ t = 4 ∨ t = 5 := by omega
    rcases h6 with rfl | rfl | rfl | rfl | rfl | rfl
    · exact ⟨_, cf_int hk (by decide), hl⟩
    · exact ⟨_, cf_long hk, hl⟩
    · exact ⟨_, cf_int hk (by decide), hl⟩
    · exact ⟨_, cf_int hk (by decide), hl⟩
    · exact ⟨_, cf_ref hk (by decide), hl⟩
    · exact ⟨_, cf_ref hk (by decide), hl⟩
  obtain ⟨x, hx, hn⟩ := hc
  rw [hx] at hw
  have ht2 : ∃ ty, (tys_ G)[t]? = some (gc_ G t, ty) := by
    have h6 : t = 0 ∨ t = 1 ∨ t = 2 ∨ t = 3 ∨ t = 4 ∨ t = 5 := by omega
    rcases h6 with rfl | rfl | rfl | rfl | rfl | rfl <;> exact ⟨_, rfl⟩
  obtain ⟨ty, hty⟩ := ht2
  exact va_alen (D := gd_ G) X.1 X.2.1 X.2.2.2.2.2.2.2.1 P.1 q t hw hty (v := Int32.ofInt (n : Int)) (by rw [hn]; rfl) hd (kk p e s m args below meth cd H locs ls X P S L)
end PWR
