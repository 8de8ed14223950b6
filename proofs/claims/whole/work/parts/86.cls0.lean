theorem ac_native : Cond.native arraycopyName ∈ gt_ := gn_3 30 (by decide +kernel) rfl
theorem ac_static : Cond.static arraycopyName ∈ gt_ := gn_3 29 (by decide +kernel) rfl
theorem ac_init : Cond.initialized "java/lang/System" ∈ gt_ := gn_1 15 (by decide +kernel) rfl
theorem lX7_32 : Cond.methodLink RX7 32 arraycopyName ∈ gt_ := gn_3 28 (by decide +kernel) rfl
theorem lX11_137 : Cond.methodLink RX11 137 arraycopyName ∈ gt_ := gn_4 138 (by decide +kernel) rfl
theorem lX1_65 : Cond.methodLink RX1 65 arraycopyName ∈ gt_ := gn_5 36 (by decide +kernel) rfl
theorem lX4_40 : Cond.methodLink RX4 40 arraycopyName ∈ gt_ := gn_5 126 (by decide +kernel) rfl
theorem lX9_53 : Cond.methodLink RX9 53 arraycopyName ∈ gt_ := gn_5 152 (by decide +kernel) rfl
theorem lX0_76 : Cond.methodLink RX0 76 arraycopyName ∈ gt_ := gn_6 13 (by decide +kernel) rfl
theorem lX3_41 : Cond.methodLink RX3 41 arraycopyName ∈ gt_ := gn_6 36 (by decide +kernel) rfl
theorem cmx_ : cJ9_max_7cf53 = Lib.Math.max.code := by decide +kernel
theorem cmn2_ : cJ9_min_7cf53 = Lib.Math.min.code := by decide +kernel
theorem cfm_ : cJ9_floorMod_7cf53 = Jvm.Free.MCB.FloorMod.yB := by decide +kernel
theorem i32_sgn (x : Int32) : 0 ≤ x ↔ x.toBitVec.msb = false := by
  rw [Int32.le_iff_toInt_le]
  show 0 ≤ x.toBitVec.toInt ↔ _
  rw [BitVec.msb_eq_toInt]
  simp
theorem fmod_i {a b : Int} (ha : ir_ a) (hb : 0 < b ∧ b ≤ 4) : Jvm.Free.MCB.fmod (Int32.ofInt a) (Int32.ofInt b) = Int32.ofInt (a % b) := by
  have hbr : ir_ b := ⟨by omega, by omega⟩
  have h1 : Jvm.Free.MCB.remI (Int32.ofInt a) (Int32.ofInt b) = Int32.ofInt (a.tmod b) := by
    unfold Jvm.Free.MCB.remI
    rw [← i32_div ha ⟨hb.1, by omega⟩, ← Int32.ofInt_mul, ← Int32.ofInt_sub]
    congr 1
    have := Int.mul_tdiv_add_tmod a b
    rw [Int.mul_comm (a.tdiv b) b]; omega
  have h2 : 0 ≤ (Int32.ofInt a ^^^ Int32.ofInt b) ↔ 0 ≤ a := by
    rw [i32_sgn, Int32.toBitVec_xor, BitVec.msb_xor]
    have eb : (Int32.ofInt b).toBitVec.msb = false := (i32_sgn _).mp (by rw [i32_zero, i32_le ir_0 hbr]; omega)
    rw [eb, Bool.xor_false, ← i32_sgn, i32_zero, i32_le ir_0 ha]
  have h3 := Int.tmod_lt_of_pos a hb.1
  have h4 := Int.lt_tmod_of_pos a hb.1
  have rt : ir_ (a.tmod b) := ⟨by omega, by omega⟩
  unfold Jvm.Free.MCB.fmod
  rw [h1]
  by_cases c : 0 ≤ a
  · rw [if_pos (h2.mpr c), Int.tmod_eq_emod_of_nonneg c]
  · rw [if_neg (fun q => c (h2.mp q))]
    have e := Int.mul_tdiv_add_tmod a b
    have h5 : a.tmod b ≤ 0 := by
      have := Int.tmod_nonneg b (show 0 ≤ -a by omega)
      rw [Int.neg_tmod] at this
      omega
    by_cases z : a.tmod b = 0
    · rw [if_pos (by rw [z]; rfl), z]
      congr 1
      rw [← e, z, Int.add_zero, Int.mul_emod_right]
    · rw [if_neg (fun q => z ((i32_eq rt ir_0).mp (by rw [q]; rfl))), ← Int32.ofInt_add]
      congr 1
      have : a % b = (a.tmod b + b) % b := by
        rw [Int.add_emod_right, ← e]
        rw [Int.mul_add_emod_self_left]
        rw [e]
      rw [this, Int.emod_eq_of_lt (by omega) (by omega)]
section PWC
variable {G : GT_} {own : String} {cc : ByteArray} {nL : Nat} {rt : Option FieldType} {R : Room} {cs ss : Nat} {Zf : List Frame → Array Value → State → State → Prop} {pc : Nat} {lv : List (Option Value)} {st : List Value} {h : PH_}
theorem pw_mmax {idx : Nat} {a b : Int} (hd : decode cc pc = .ok (.invokestatic idx, 3)) (hl : Cond.methodLink own idx yJ9_max_7cf53 ∈ gt_) (ha : ir_ a) (hb : ir_ b) (hR : 1 ≤ R.frames ∧ 21 ≤ R.locals) (hR2 : cs ≤ R.cells ∧ ss ≤ R.slots) (hcat : (st.map fun v => v.category).sum ≤ 8)
    (k : ∀ z : Int, ir_ z → (a < b ∧ z = b ∨ b ≤ a ∧ z = a) → PW G own cc nL rt R cs ss Zf (pc + 3) lv (ii_ z :: st) h) : PW G own cc nL rt R cs ss Zf pc lv (ii_ b :: ii_ a :: st) h := by
  intro p e s m args below meth cd H locs ls X P S L
  have hts := X.2.2.2.2.2.2.1
  refine va_mmax X.1 X.2.1 (X.2.2.1.trans L.1.symm) X.2.2.2.2.2.1 (hts _ hl) (hts _ sJ9_max_7cf53) (hts _ mJ9_max_7cf53.2.1) (by have := hts _ mJ9_max_7cf53.1; rw [cmx_] at this; exact this) hR.1 (by omega) hR2.1 hR2.2 hd ?_
  by_cases c : a < b
  · rw [if_pos ((i32_lt ha hb).mpr c)]
    exact k b hb (Or.inl ⟨c, rfl⟩) p e s m args below meth cd H locs ls X P S L
  · rw [if_neg (fun q => c ((i32_lt ha hb).mp q))]
    exact k a ha (Or.inr ⟨by omega, rfl⟩) p e s m args below meth cd H locs ls X P S L
theorem pw_mmin {idx : Nat} {a b : Int} (hd : decode cc pc = .ok (.invokestatic idx, 3)) (hl : Cond.methodLink own idx yJ9_min_7cf53 ∈ gt_) (ha : ir_ a) (hb : ir_ b) (hR : 1 ≤ R.frames ∧ 21 ≤ R.locals) (hR2 : cs ≤ R.cells ∧ ss ≤ R.slots) (hcat : (st.map fun v => v.category).sum ≤ 8)
    (k : ∀ z : Int, ir_ z → (b < a ∧ z = b ∨ a ≤ b ∧ z = a) → PW G own cc nL rt R cs ss Zf (pc + 3) lv (ii_ z :: st) h) : PW G own cc nL rt R cs ss Zf pc lv (ii_ b :: ii_ a :: st) h := by
  intro p e s m args below meth cd H locs ls X P S L
  have hts := X.2.2.2.2.2.2.1
  refine va_mmin X.1 X.2.1 (X.2.2.1.trans L.1.symm) X.2.2.2.2.2.1 (hts _ hl) (hts _ sJ9_min_7cf53) (hts _ mJ9_min_7cf53.2.1) (by have := hts _ mJ9_min_7cf53.1; rw [cmn2_] at this; exact this) hR.1 (by omega) hR2.1 hR2.2 hd ?_
  by_cases c : b < a
  · rw [if_pos ((i32_lt hb ha).mpr c)]
    exact k b hb (Or.inl ⟨c, rfl⟩) p e s m args below meth cd H locs ls X P S L
  · rw [if_neg (fun q => c ((i32_lt hb ha).mp q))]
    exact k a ha (Or.inr ⟨by omega, rfl⟩) p e s m args below meth cd H locs ls X P S L
/-- part of one array of ints over another -/
theorem pw_copy {idx i0 i1 n0 n1 : Nat} {sp dp n : Int} (hd : decode cc pc = .ok (.invokestatic idx, 3)) (hl : Cond.methodLink own idx arraycopyName ∈ gt_) (hi0 : i0 ∈ gi_ G) (hi1 : i1 ∈ gi_ G) (k0 : kd_ i0 = 0) (k1 : kd_ i1 = 0) (l0 : ln_ i0 = n0) (l1 : ln_ i1 = n1)
    (h1 : 0 ≤ sp ∧ sp + n ≤ n0) (h2 : 0 ≤ dp ∧ dp + n ≤ n1) (h3 : 0 ≤ n) (hb : n0 ≤ 2000 ∧ n1 ≤ 2000) (hR : 1 ≤ R.frames ∧ 26 ≤ R.locals) (hcat : (st.map fun v => v.category).sum ≤ 8)
    (k : PW G own cc nL rt R cs ss Zf (pc + 3) lv st (sc_ h i1 (fun x => if dp ≤ x ∧ x < dp + n then h i0 (x - dp + sp) else h i1 x))) : PW G own cc nL rt R cs ss Zf pc lv (ii_ n :: ii_ dp :: rr_ G i1 :: ii_ sp :: rr_ G i0 :: st) h := by
  intro p e s m args below meth cd H locs ls X P S L
  have hts := X.2.2.2.2.2.2.1
  obtain ⟨q0, hq0, hw0⟩ := ws_at h hi0
  obtain ⟨q1, hq1, hw1⟩ := ws_at h hi1
  rw [cf_int k0 (by decide), l0] at hw0
  rw [cf_int k1 (by decide), l1] at hw1
  have rs : ir_ sp := ⟨by omega, by omega⟩
  have rd : ir_ dp := ⟨by omega, by omega⟩
  have rn : ir_ n := ⟨by omega, by omega⟩
  have nn : ∀ {z : Int}, ir_ z → 0 ≤ z → ¬ Int32.ofInt z < 0 := fun r z0 q => by rw [i32_zero, i32_lt r ir_0] at q; omega
  refine va_copyi (D := gd_ G) X.1 X.2.1 (X.2.2.1.trans L.1.symm) X.2.2.2.2.2.1 (hts _ hl) (hts _ ac_native) (hts _ ac_static) (hts _ ac_init) X.2.2.2.2.2.2.2.1 P.1 P.2.1 S q0 q1 0 0 hw0 hw1 rfl rfl rfl (nn rs h1.1) (nn rd h2.1) (nn rn h3) (by rw [i32_clamp h1.1 rs, i32_clamp h3 rn]; omega) (by rw [i32_clamp h2.1 rd, i32_clamp h3 rn]; omega) (fun i _ => rfl) hR.1 (by show _ + (5 + 2 + 11) ≤ _; omega) hd (fun H1 locs1 P1 D1 S1 => ?_)
  have ee : (ws_ G h).set q1 (ga_ G i1, .inl (gc_ G 0, n1, .inl (va_cpy (fun j => Int32.ofInt (h i0 j)) (fun j => Int32.ofInt (h i1 j)) (Int32.ofInt sp).toNatClampNeg (Int32.ofInt dp).toNatClampNeg (Int32.ofInt n).toNatClampNeg))) = ws_ G (sc_ h i1 (fun x => if dp ≤ x ∧ x < dp + n then h i0 (x - dp + sp) else h i1 x)) := by
    rw [← ws_set (h' := sc_ h i1 (fun x => if dp ≤ x ∧ x < dp + n then h i0 (x - dp + sp) else h i1 x)) P.2.1 hq1 (fun j hj => sc_off hj), sc_at, cf_int k1 (by decide), l1]
    refine congrArg (fun f => (ws_ G h).set q1 (ga_ G i1, .inl (gc_ G 0, n1, .inl f))) ?_
    funext j
    unfold va_cpy
    rw [i32_clamp h1.1 rs, i32_clamp h2.1 rd, i32_clamp h3 rn]
    by_cases c : dp ≤ (j : Int) ∧ (j : Int) < dp + n
    · rw [if_pos c, if_pos (by omega)]
      show Int32.ofInt (h i0 ((sp.toNat + (j - dp.toNat) : Nat) : Int)) = _
      rw [show ((sp.toNat + (j - dp.toNat) : Nat) : Int) = (j : Int) - dp + sp by omega]
    · rw [if_neg c, if_neg (by omega)]
  rw [ee] at P1 D1
  refine k p e s m args below meth cd H1 locs1 ls X ⟨P1, D1, fun j x => ?_⟩ S1 L
  by_cases c : j = i1
  · subst c
    rw [sc_at]
    by_cases c2 : dp ≤ x ∧ x < dp + n
    · simp only [if_pos c2]
      have := P.2.2 i0 (x - dp + sp)
      have s0 : sl_ i0 (x - dp + sp) = false := by unfold sl_; rw [k0]; rfl
      exact ⟨fun _ => this.1 s0, this.2⟩
    · simp only [if_neg c2]
      exact P.2.2 j x
  · rw [sc_off c]; exact P.2.2 j x
theorem pw_fmod {idx : Nat} {a b : Int} (hd : decode cc pc = .ok (.invokestatic idx, 3)) (hl : Cond.methodLink own idx yJ9_floorMod_7cf53 ∈ gt_) (ha : ir_ a) (hb : 0 < b ∧ b ≤ 4) (hR : 1 ≤ R.frames ∧ 22 ≤ R.locals) (hR2 : cs ≤ R.cells ∧ ss ≤ R.slots) (hcat : (st.map fun v => v.category).sum ≤ 8)
    (k : PW G own cc nL rt R cs ss Zf (pc + 3) lv (ii_ (a % b) :: st) h) : PW G own cc nL rt R cs ss Zf pc lv (ii_ b :: ii_ a :: st) h := by
  intro p e s m args below meth cd H locs ls X P S L
  have hts := X.2.2.2.2.2.2.1
  have hcode := hts _ mJ9_floorMod_7cf53.1
  rw [cfm_] at hcode
  have hbr : ir_ b := ⟨by omega, by omega⟩
  have hb0 : Int32.ofInt b ≠ 0 := fun q => by rw [i32_zero, i32_eq hbr ir_0] at q; omega
  intro T hT X1
  obtain ⟨v, vm₁, ⟨U', l2, c2, s2⟩, hW₁, X', ⟨hp, hv⟩, go⟩ := callS X1 X.1 (y := yJ9_floorMod_7cf53) (bytes := Jvm.Free.MCB.FloorMod.yB) (maxL := 3) (ret := some .int) X.2.2.2.2.2.1 (hts _ hl) (hts _ sJ9_floorMod_7cf53) (hts _ mJ9_floorMod_7cf53.2.1) hcode (by decide +kernel) (Jvm.Free.MCB.FloorMod.pays (W := 8) (by omega) (by omega) hcode (hts _ mJ9_floorMod_7cf53.2.1)) (g := F0 m pc ls (ii_ b :: ii_ a :: st)) rfl (L.1.trans X.2.2.1.symm) (argsL := [ii_ a, ii_ b]) (rest := st) (fun sig q => by have := mJ9_floorMod_7cf53.2.2.2.2; rw [q] at this; exact (Option.some.inj this).symm) rfl (lv_room hcat) (by rw [X.2.1]; exact hd) (fun vm₁ hW => ⟨hR2.1, hR2.2, (Int32.ofInt a, Int32.ofInt b), rfl, hb0⟩)
  have hv1 := hv (Int32.ofInt a, Int32.ofInt b) ⟨rfl, hb0⟩
  obtain ⟨u1, u2, u3, u4⟩ := hp
  dsimp only [Pt.U, Pt.locs, Pt.cells, Pt.slots] at X' u1 u2 u3 u4 go
  subst u2; subst u3; subst u4
  obtain ⟨t, a1, b1⟩ := k p e s m args below meth cd H l2 ls X P S L U' (u1.trans hT) X'
  refine ⟨t, go t ?_, b1⟩
  rw [hv1, show Jvm.Free.MCB.fmod (Int32.ofInt a, Int32.ofInt b).1 (Int32.ofInt a, Int32.ofInt b).2 = Int32.ofInt (a % b) from fmod_i ha hb]
  exact a1
end PWC

