section PWI
variable {G : GT_} {own : String} {cc : ByteArray} {nL : Nat} {rt : Option FieldType} {R : Room} {cs ss : Nat} {Zf : List Frame → Array Value → State → State → Prop} {pc : Nat} {lv : List (Option Value)} {st : List Value} {h : PH_}
theorem pw_iconst {n : Int} (hd : decode cc pc = .ok (.iconst n, 1)) (k : PW G own cc nL rt R cs ss Zf (pc + 1) lv (ii_ n :: st) h) : PW G own cc nL rt R cs ss Zf pc lv (st) h := by
  intro p e s m args below meth cd H locs ls X P S L
  exact lv_iconst X.1 X.2.1 hd rfl (k p e s m args below meth cd H locs ls X P S L)
theorem pw_bipush {n : Int} (hd : decode cc pc = .ok (.bipush n, 2)) (hv : (Int8.ofInt n).toInt32 = Int32.ofInt n) (k : PW G own cc nL rt R cs ss Zf (pc + 2) lv (ii_ n :: st) h) : PW G own cc nL rt R cs ss Zf pc lv (st) h := by
  intro p e s m args below meth cd H locs ls X P S L
  exact lv_bipush X.1 X.2.1 hd hv (k p e s m args below meth cd H locs ls X P S L)
theorem pw_sipush {n : Int} (hd : decode cc pc = .ok (.sipush n, 3)) (hv : (Int16.ofInt n).toInt32 = Int32.ofInt n) (k : PW G own cc nL rt R cs ss Zf (pc + 3) lv (ii_ n :: st) h) : PW G own cc nL rt R cs ss Zf pc lv (st) h := by
  intro p e s m args below meth cd H locs ls X P S L
  exact lv_sipush X.1 X.2.1 hd hv (k p e s m args below meth cd H locs ls X P S L)
theorem pw_lconst {n : Fin 2} {z : Int} (hd : decode cc pc = .ok (.lconst n, 1)) (hv : Int64.ofNat (n : Nat) = Int64.ofInt z) (k : PW G own cc nL rt R cs ss Zf (pc + 1) lv (ll_ z :: st) h) : PW G own cc nL rt R cs ss Zf pc lv (st) h := by
  intro p e s m args below meth cd H locs ls X P S L
  exact lv_lconst X.1 X.2.1 hd hv (k p e s m args below meth cd H locs ls X P S L)
theorem pw_ldc {i : Nat} {v : Int32} {z : Int} (hd : decode cc pc = .ok (.ldc i, 2)) (hw : Cond.constant own i v ∈ gt_) (hv : v = Int32.ofInt z) (k : PW G own cc nL rt R cs ss Zf (pc + 2) lv (ii_ z :: st) h) : PW G own cc nL rt R cs ss Zf pc lv (st) h := by
  intro p e s m args below meth cd H locs ls X P S L
  subst hv
  exact lv_ldc X.1 X.2.1 X.2.2.2.2.2.1 (X.2.2.2.2.2.2.1 _ hw) hd (k p e s m args below meth cd H locs ls X P S L)
theorem pw_ldcw {i : Nat} {v : Int32} {z : Int} (hd : decode cc pc = .ok (.ldc_w i, 3)) (hw : Cond.constant own i v ∈ gt_) (hv : v = Int32.ofInt z) (k : PW G own cc nL rt R cs ss Zf (pc + 3) lv (ii_ z :: st) h) : PW G own cc nL rt R cs ss Zf pc lv (st) h := by
  intro p e s m args below meth cd H locs ls X P S L
  subst hv
  exact lv_ldcw X.1 X.2.1 X.2.2.2.2.2.1 (X.2.2.2.2.2.2.1 _ hw) hd (k p e s m args below meth cd H locs ls X P S L)
theorem pw_ldc2 {i : Nat} {v : Int64} {z : Int} (hd : decode cc pc = .ok (.ldc2_w i, 3)) (hw : Cond.constantLong own i v ∈ gt_) (hv : v = Int64.ofInt z) (k : PW G own cc nL rt R cs ss Zf (pc + 3) lv (ll_ z :: st) h) : PW G own cc nL rt R cs ss Zf pc lv (st) h := by
  intro p e s m args below meth cd H locs ls X P S L
  subst hv
  exact lv_ldc2 X.1 X.2.1 X.2.2.2.2.2.1 (X.2.2.2.2.2.2.1 _ hw) hd (k p e s m args below meth cd H locs ls X P S L)
theorem pw_ldcs {i : Nat} (j : Nat) {tx : String} (hd : decode cc pc = .ok (.ldc i, 2)) (hw : stT_[j]? = some (own, i, tx)) (k : PW G own cc nL rt R cs ss Zf (pc + 2) lv (rr_ G (3000 + j) :: st) h) : PW G own cc nL rt R cs ss Zf pc lv (st) h := by
  intro p e s m args below meth cd H locs ls X P S L
  exact va_ldcS X.1 X.2.1 X.2.2.2.2.2.1 (X.2.2.2.2.2.2.2.2.2.2 j _ hw) hd (k p e s m args below meth cd H locs ls X P S L)
theorem pw_iload_n {q : Fin 4} {i : Nat} {z : Int} (hd : decode cc pc = .ok (.iload_n q, 1)) (hi : (q : Nat) = i) (hl : lv[i]? = some (some (ii_ z))) (k : PW G own cc nL rt R cs ss Zf (pc + 1) lv (ii_ z :: st) h) : PW G own cc nL rt R cs ss Zf pc lv (st) h := by
  intro p e s m args below meth cd H locs ls X P S L
  exact lv_iload_n X.1 X.2.1 hd hi (L.2.2.2 i _ hl) (k p e s m args below meth cd H locs ls X P S L)
theorem pw_iload {i : Nat} {z : Int} (hd : decode cc pc = .ok (.iload i, 2)) (hl : lv[i]? = some (some (ii_ z))) (k : PW G own cc nL rt R cs ss Zf (pc + 2) lv (ii_ z :: st) h) : PW G own cc nL rt R cs ss Zf pc lv (st) h := by
  intro p e s m args below meth cd H locs ls X P S L
  exact lv_iload X.1 X.2.1 hd (L.2.2.2 i _ hl) (k p e s m args below meth cd H locs ls X P S L)
theorem pw_lload_n {q : Fin 4} {i : Nat} {z : Int} (hd : decode cc pc = .ok (.lload_n q, 1)) (hi : (q : Nat) = i) (hl : lv[i]? = some (some (ll_ z))) (k : PW G own cc nL rt R cs ss Zf (pc + 1) lv (ll_ z :: st) h) : PW G own cc nL rt R cs ss Zf pc lv (st) h := by
  intro p e s m args below meth cd H locs ls X P S L
  exact lv_lload_n X.1 X.2.1 hd hi (L.2.2.2 i _ hl) (k p e s m args below meth cd H locs ls X P S L)
theorem pw_lload {i : Nat} {z : Int} (hd : decode cc pc = .ok (.lload i, 2)) (hl : lv[i]? = some (some (ll_ z))) (k : PW G own cc nL rt R cs ss Zf (pc + 2) lv (ll_ z :: st) h) : PW G own cc nL rt R cs ss Zf pc lv (st) h := by
  intro p e s m args below meth cd H locs ls X P S L
  exact lv_lload X.1 X.2.1 hd (L.2.2.2 i _ hl) (k p e s m args below meth cd H locs ls X P S L)
theorem pw_aload_n {q : Fin 4} {i : Nat} {z : Nat} (hd : decode cc pc = .ok (.aload_n q, 1)) (hi : (q : Nat) = i) (hl : lv[i]? = some (some (rr_ G z))) (k : PW G own cc nL rt R cs ss Zf (pc + 1) lv (rr_ G z :: st) h) : PW G own cc nL rt R cs ss Zf pc lv (st) h := by
  intro p e s m args below meth cd H locs ls X P S L
  exact lv_aload_n X.1 X.2.1 hd hi (L.2.2.2 i _ hl) (k p e s m args below meth cd H locs ls X P S L)
theorem pw_aload {i : Nat} {z : Nat} (hd : decode cc pc = .ok (.aload i, 2)) (hl : lv[i]? = some (some (rr_ G z))) (k : PW G own cc nL rt R cs ss Zf (pc + 2) lv (rr_ G z :: st) h) : PW G own cc nL rt R cs ss Zf pc lv (st) h := by
  intro p e s m args below meth cd H locs ls X P S L
  exact lv_aload X.1 X.2.1 hd (L.2.2.2 i _ hl) (k p e s m args below meth cd H locs ls X P S L)
theorem pw_istore_n {q : Fin 4} {i : Nat} {z : Int} {lv1 : List (Option Value)} (hd : decode cc pc = .ok (.istore_n q, 1)) (hi : (q : Nat) = i) (hn : (i < nL)) (hp : pv_ lv i = true) (hl : (lv.set i (some (ii_ z))) = lv1) (k : PW G own cc nL rt R cs ss Zf (pc + 1) lv1 st h) : PW G own cc nL rt R cs ss Zf pc lv (ii_ z :: st) h := by
  intro p e s m args below meth cd H locs ls X P S L
  subst hl
  exact lv_istore_n X.1 X.2.1 hd hi (lh_has L) hn rfl (fun ls1 h1 => k p e s m args below meth cd H locs ls1 X P S (lh_st1 L.2.2.1 hp h1))
theorem pw_istore {i : Nat} {z : Int} {lv1 : List (Option Value)} (hd : decode cc pc = .ok (.istore i, 2)) (hn : (i < nL)) (hp : pv_ lv i = true) (hl : (lv.set i (some (ii_ z))) = lv1) (k : PW G own cc nL rt R cs ss Zf (pc + 2) lv1 st h) : PW G own cc nL rt R cs ss Zf pc lv (ii_ z :: st) h := by
  intro p e s m args below meth cd H locs ls X P S L
  subst hl
  exact lv_istore X.1 X.2.1 hd (lh_has L) hn rfl (fun ls1 h1 => k p e s m args below meth cd H locs ls1 X P S (lh_st1 L.2.2.1 hp h1))
theorem pw_lstore_n {q : Fin 4} {i : Nat} {z : Int} {lv1 : List (Option Value)} (hd : decode cc pc = .ok (.lstore_n q, 1)) (hi : (q : Nat) = i) (hn : (i + 1 < nL)) (hp : pv_ lv i = true) (hl : ((lv.set i (some (ll_ z))).set (i + 1) none) = lv1) (k : PW G own cc nL rt R cs ss Zf (pc + 1) lv1 st h) : PW G own cc nL rt R cs ss Zf pc lv (ll_ z :: st) h := by
  intro p e s m args below meth cd H locs ls X P S L
  subst hl
  exact lv_lstore_n X.1 X.2.1 hd hi (lh_has L) hn rfl (fun ls1 h1 => k p e s m args below meth cd H locs ls1 X P S (lh_st2 L.2.2.1 hp h1))
theorem pw_lstore {i : Nat} {z : Int} {lv1 : List (Option Value)} (hd : decode cc pc = .ok (.lstore i, 2)) (hn : (i + 1 < nL)) (hp : pv_ lv i = true) (hl : ((lv.set i (some (ll_ z))).set (i + 1) none) = lv1) (k : PW G own cc nL rt R cs ss Zf (pc + 2) lv1 st h) : PW G own cc nL rt R cs ss Zf pc lv (ll_ z :: st) h := by
  intro p e s m args below meth cd H locs ls X P S L
  subst hl
  exact lv_lstore X.1 X.2.1 hd (lh_has L) hn rfl (fun ls1 h1 => k p e s m args below meth cd H locs ls1 X P S (lh_st2 L.2.2.1 hp h1))
theorem pw_astore_n {q : Fin 4} {i : Nat} {z : Nat} {lv1 : List (Option Value)} (hd : decode cc pc = .ok (.astore_n q, 1)) (hi : (q : Nat) = i) (hn : (i < nL)) (hp : pv_ lv i = true) (hl : (lv.set i (some (rr_ G z))) = lv1) (k : PW G own cc nL rt R cs ss Zf (pc + 1) lv1 st h) : PW G own cc nL rt R cs ss Zf pc lv (rr_ G z :: st) h := by
  intro p e s m args below meth cd H locs ls X P S L
  subst hl
  exact lv_astore_n X.1 X.2.1 hd hi (lh_has L) hn rfl (fun ls1 h1 => k p e s m args below meth cd H locs ls1 X P S (lh_st1 L.2.2.1 hp h1))
theorem pw_astore {i : Nat} {z : Nat} {lv1 : List (Option Value)} (hd : decode cc pc = .ok (.astore i, 2)) (hn : (i < nL)) (hp : pv_ lv i = true) (hl : (lv.set i (some (rr_ G z))) = lv1) (k : PW G own cc nL rt R cs ss Zf (pc + 2) lv1 st h) : PW G own cc nL rt R cs ss Zf pc lv (rr_ G z :: st) h := by
  intro p e s m args below meth cd H locs ls X P S L
  subst hl
  exact lv_astore X.1 X.2.1 hd (lh_has L) hn rfl (fun ls1 h1 => k p e s m args below meth cd H locs ls1 X P S (lh_st1 L.2.2.1 hp h1))
theorem pw_iinc {i : Nat} {n z : Int} {lv1 : List (Option Value)} (hd : decode cc pc = .ok (.iinc i n, 3)) (h0 : lv[i]? = some (some (ii_ z))) (hn : i < nL) (hp : pv_ lv i = true) (hl : (lv.set i (some (ii_ (z + n)))) = lv1) (k : PW G own cc nL rt R cs ss Zf (pc + 3) lv1 st h) : PW G own cc nL rt R cs ss Zf pc lv st h := by
  intro p e s m args below meth cd H locs ls X P S L
  subst hl
  have hm : (i, ii_ z) ∈ lp_ lv := lp_mem.mpr h0
  obtain ⟨j, hj⟩ := List.getElem?_of_mem hm
  exact lv_iinc X.1 X.2.1 hd (lh_has L) hj (Int32.ofInt_add z n).symm hn rfl (fun ls1 h1 => k p e s m args below meth cd H locs ls1 X P S (lh_st1 L.2.2.1 hp h1))
theorem pw_iadd {a b : Int} (hd : decode cc pc = .ok (.iadd, 1)) (k : PW G own cc nL rt R cs ss Zf (pc + 1) lv (ii_ (a + b) :: st) h) : PW G own cc nL rt R cs ss Zf pc lv (ii_ b :: ii_ a :: st) h := by
  intro p e s m args below meth cd H locs ls X P S L
  refine lv_iadd X.1 X.2.1 hd ?_
  rw [← Int32.ofInt_add a b]
  exact k p e s m args below meth cd H locs ls X P S L
theorem pw_isub {a b : Int} (hd : decode cc pc = .ok (.isub, 1)) (k : PW G own cc nL rt R cs ss Zf (pc + 1) lv (ii_ (a - b) :: st) h) : PW G own cc nL rt R cs ss Zf pc lv (ii_ b :: ii_ a :: st) h := by
  intro p e s m args below meth cd H locs ls X P S L
  refine lv_isub X.1 X.2.1 hd ?_
  rw [← Int32.ofInt_sub a b]
  exact k p e s m args below meth cd H locs ls X P S L
theorem pw_imul {a b : Int} (hd : decode cc pc = .ok (.imul, 1)) (k : PW G own cc nL rt R cs ss Zf (pc + 1) lv (ii_ (a * b) :: st) h) : PW G own cc nL rt R cs ss Zf pc lv (ii_ b :: ii_ a :: st) h := by
  intro p e s m args below meth cd H locs ls X P S L
  refine lv_imul X.1 X.2.1 hd ?_
  rw [← Int32.ofInt_mul a b]
  exact k p e s m args below meth cd H locs ls X P S L
theorem pw_ladd {a b : Int} (hd : decode cc pc = .ok (.ladd, 1)) (k : PW G own cc nL rt R cs ss Zf (pc + 1) lv (ll_ (a + b) :: st) h) : PW G own cc nL rt R cs ss Zf pc lv (ll_ b :: ll_ a :: st) h := by
  intro p e s m args below meth cd H locs ls X P S L
  refine lv_ladd X.1 X.2.1 hd ?_
  rw [← Int64.ofInt_add a b]
  exact k p e s m args below meth cd H locs ls X P S L
theorem pw_lsub {a b : Int} (hd : decode cc pc = .ok (.lsub, 1)) (k : PW G own cc nL rt R cs ss Zf (pc + 1) lv (ll_ (a - b) :: st) h) : PW G own cc nL rt R cs ss Zf pc lv (ll_ b :: ll_ a :: st) h := by
  intro p e s m args below meth cd H locs ls X P S L
  refine lv_lsub X.1 X.2.1 hd ?_
  rw [← Int64.ofInt_sub a b]
  exact k p e s m args below meth cd H locs ls X P S L
theorem pw_lmul {a b : Int} (hd : decode cc pc = .ok (.lmul, 1)) (k : PW G own cc nL rt R cs ss Zf (pc + 1) lv (ll_ (a * b) :: st) h) : PW G own cc nL rt R cs ss Zf pc lv (ll_ b :: ll_ a :: st) h := by
  intro p e s m args below meth cd H locs ls X P S L
  refine lv_lmul X.1 X.2.1 hd ?_
  rw [← Int64.ofInt_mul a b]
  exact k p e s m args below meth cd H locs ls X P S L
theorem pw_ineg {a : Int} (hd : decode cc pc = .ok (.ineg, 1)) (k : PW G own cc nL rt R cs ss Zf (pc + 1) lv (ii_ (-a) :: st) h) : PW G own cc nL rt R cs ss Zf pc lv (ii_ a :: st) h := by
  intro p e s m args below meth cd H locs ls X P S L
  refine lv_ineg X.1 X.2.1 hd ?_
  have e1 : (0 : Int32) - Int32.ofInt a = Int32.ofInt (-a) := by rw [Int32.zero_sub, Int32.ofInt_neg]
  first
  | (rw [e1]; exact k p e s m args below meth cd H locs ls X P S L)
  | (rw [← Int32.ofInt_neg]; exact k p e s m args below meth cd H locs ls X P S L)
theorem pw_idiv {a b : Int} (hd : decode cc pc = .ok (.idiv, 1)) (ha : ir_ a) (hb : 0 < b ∧ b ≤ 2147483647) (k : PW G own cc nL rt R cs ss Zf (pc + 1) lv (ii_ (a.tdiv b) :: st) h) : PW G own cc nL rt R cs ss Zf pc lv (ii_ b :: ii_ a :: st) h := by
  intro p e s m args below meth cd H locs ls X P S L
  have hb2 : ir_ b := by constructor <;> omega
  refine lv_idiv X.1 X.2.1 hd (fun h9 => ?_) ?_
  · rw [i32_zero, i32_eq hb2 ir_0] at h9; omega
  · rw [← i32_div ha hb]; exact k p e s m args below meth cd H locs ls X P S L
theorem pw_irem {a b : Int} (hd : decode cc pc = .ok (.irem, 1)) (ha : ir_ a) (hb : 0 < b ∧ b ≤ 2147483647) (k : PW G own cc nL rt R cs ss Zf (pc + 1) lv (ii_ (a.tmod b) :: st) h) : PW G own cc nL rt R cs ss Zf pc lv (ii_ b :: ii_ a :: st) h := by
  intro p e s m args below meth cd H locs ls X P S L
  have hb2 : ir_ b := by constructor <;> omega
  refine lv_irem X.1 X.2.1 hd (fun h9 => ?_) ?_
  · rw [i32_zero, i32_eq hb2 ir_0] at h9; omega
  · rw [← i32_div ha hb, ← Int32.ofInt_mul, ← Int32.ofInt_sub, show a - a.tdiv b * b = a.tmod b by rw [Int.tmod_def, Int.mul_comm]]; exact k p e s m args below meth cd H locs ls X P S L
theorem pw_ldiv {a b : Int} (hd : decode cc pc = .ok (.ldiv, 1)) (ha : lr_ a) (hb : 0 < b ∧ b ≤ 9223372036854775807) (k : PW G own cc nL rt R cs ss Zf (pc + 1) lv (ll_ (a.tdiv b) :: st) h) : PW G own cc nL rt R cs ss Zf pc lv (ll_ b :: ll_ a :: st) h := by
  intro p e s m args below meth cd H locs ls X P S L
  have hb2 : lr_ b := by constructor <;> omega
  refine lv_ldiv X.1 X.2.1 hd (fun h9 => ?_) ?_
  · rw [i64_zero, i64_eq hb2 lr_0] at h9; omega
  · rw [← i64_div ha hb]; exact k p e s m args below meth cd H locs ls X P S L
theorem pw_lrem {a b : Int} (hd : decode cc pc = .ok (.lrem, 1)) (ha : lr_ a) (hb : 0 < b ∧ b ≤ 9223372036854775807) (k : PW G own cc nL rt R cs ss Zf (pc + 1) lv (ll_ (a.tmod b) :: st) h) : PW G own cc nL rt R cs ss Zf pc lv (ll_ b :: ll_ a :: st) h := by
  intro p e s m args below meth cd H locs ls X P S L
  have hb2 : lr_ b := by constructor <;> omega
  refine lv_lrem X.1 X.2.1 hd (fun h9 => ?_) ?_
  · rw [i64_zero, i64_eq hb2 lr_0] at h9; omega
  · rw [← i64_div ha hb, ← Int64.ofInt_mul, ← Int64.ofInt_sub, show a - a.tdiv b * b = a.tmod b by rw [Int.tmod_def, Int.mul_comm]]; exact k p e s m args below meth cd H locs ls X P S L
theorem pw_i2l {a : Int} (hd : decode cc pc = .ok (.i2l, 1)) (ha : ir_ a) (k : PW G own cc nL rt R cs ss Zf (pc + 1) lv (ll_ a :: st) h) : PW G own cc nL rt R cs ss Zf pc lv (ii_ a :: st) h := by
  intro p e s m args below meth cd H locs ls X P S L
  exact lv_i2l X.1 X.2.1 hd (i32_i2l ha) (k p e s m args below meth cd H locs ls X P S L)
theorem pw_l2i {a : Int} (hd : decode cc pc = .ok (.l2i, 1)) (k : PW G own cc nL rt R cs ss Zf (pc + 1) lv (ii_ a :: st) h) : PW G own cc nL rt R cs ss Zf pc lv (ll_ a :: st) h := by
  intro p e s m args below meth cd H locs ls X P S L
  exact lv_l2i X.1 X.2.1 hd (Int64.toInt32_ofInt) (k p e s m args below meth cd H locs ls X P S L)
theorem pw_i2c {a : Int} (hd : decode cc pc = .ok (.i2c, 1)) (ha : 0 ≤ a ∧ a < 65536) (k : PW G own cc nL rt R cs ss Zf (pc + 1) lv (ii_ a :: st) h) : PW G own cc nL rt R cs ss Zf pc lv (ii_ a :: st) h := by
  intro p e s m args below meth cd H locs ls X P S L
  exact lv_i2c X.1 X.2.1 hd (i32_i2c ha) (k p e s m args below meth cd H locs ls X P S L)
theorem pw_ishl1 {b : Int} (hd : decode cc pc = .ok (.ishl, 1)) (hb : 0 ≤ b ∧ b < 31) (k : PW G own cc nL rt R cs ss Zf (pc + 1) lv (ii_ (2 ^ b.toNat) :: st) h) : PW G own cc nL rt R cs ss Zf pc lv (ii_ b :: ii_ 1 :: st) h := by
  intro p e s m args below meth cd H locs ls X P S L
  refine lv_ishl X.1 X.2.1 hd ?_
  rw [i32_shl1 hb]
  exact k p e s m args below meth cd H locs ls X P S L
theorem pw_ishr {a b : Int} (hd : decode cc pc = .ok (.ishr, 1)) (ha : ir_ a) (hb : 0 ≤ b ∧ b < 32) (k : PW G own cc nL rt R cs ss Zf (pc + 1) lv (ii_ (a / 2 ^ b.toNat) :: st) h) : PW G own cc nL rt R cs ss Zf pc lv (ii_ b :: ii_ a :: st) h := by
  intro p e s m args below meth cd H locs ls X P S L
  refine lv_ishr X.1 X.2.1 hd ?_
  rw [i32_shr ha hb]
  exact k p e s m args below meth cd H locs ls X P S L
theorem pw_iand1 {a : Int} (hd : decode cc pc = .ok (.iand, 1)) (k : PW G own cc nL rt R cs ss Zf (pc + 1) lv (ii_ (a % 2) :: st) h) : PW G own cc nL rt R cs ss Zf pc lv (ii_ 1 :: ii_ a :: st) h := by
  intro p e s m args below meth cd H locs ls X P S L
  refine lv_iand X.1 X.2.1 hd ?_
  rw [i32_and1]
  exact k p e s m args below meth cd H locs ls X P S L
theorem pw_iand3 {a : Int} (hd : decode cc pc = .ok (.iand, 1)) (k : PW G own cc nL rt R cs ss Zf (pc + 1) lv (ii_ (a % 4) :: st) h) : PW G own cc nL rt R cs ss Zf pc lv (ii_ 3 :: ii_ a :: st) h := by
  intro p e s m args below meth cd H locs ls X P S L
  refine lv_iand X.1 X.2.1 hd ?_
  rw [i32_and3]
  exact k p e s m args below meth cd H locs ls X P S L
theorem pw_iand31 {a : Int} (hd : decode cc pc = .ok (.iand, 1)) (k : PW G own cc nL rt R cs ss Zf (pc + 1) lv (ii_ (a % 32) :: st) h) : PW G own cc nL rt R cs ss Zf pc lv (ii_ 31 :: ii_ a :: st) h := by
  intro p e s m args below meth cd H locs ls X P S L
  refine lv_iand X.1 X.2.1 hd ?_
  rw [i32_and31]
  exact k p e s m args below meth cd H locs ls X P S L
theorem pw_iand255 {a : Int} (hd : decode cc pc = .ok (.iand, 1)) (k : PW G own cc nL rt R cs ss Zf (pc + 1) lv (ii_ (a % 256) :: st) h) : PW G own cc nL rt R cs ss Zf pc lv (ii_ 255 :: ii_ a :: st) h := by
  intro p e s m args below meth cd H locs ls X P S L
  refine lv_iand X.1 X.2.1 hd ?_
  rw [i32_and255]
  exact k p e s m args below meth cd H locs ls X P S L
theorem pw_iand {a b : Nat} (hd : decode cc pc = .ok (.iand, 1)) (ha : a < 2147483648) (hb : b < 2147483648) (k : PW G own cc nL rt R cs ss Zf (pc + 1) lv (ii_ ((a &&& b : Nat) : Int) :: st) h) : PW G own cc nL rt R cs ss Zf pc lv (ii_ (b : Int) :: ii_ (a : Int) :: st) h := by
  intro p e s m args below meth cd H locs ls X P S L
  refine lv_iand X.1 X.2.1 hd ?_
  rw [i32_iand ha hb]
  exact k p e s m args below meth cd H locs ls X P S L
theorem pw_ior {a b : Nat} (hd : decode cc pc = .ok (.ior, 1)) (ha : a < 2147483648) (hb : b < 2147483648) (k : PW G own cc nL rt R cs ss Zf (pc + 1) lv (ii_ ((a ||| b : Nat) : Int) :: st) h) : PW G own cc nL rt R cs ss Zf pc lv (ii_ (b : Int) :: ii_ (a : Int) :: st) h := by
  intro p e s m args below meth cd H locs ls X P S L
  refine lv_ior X.1 X.2.1 hd ?_
  rw [i32_ior ha hb]
  exact k p e s m args below meth cd H locs ls X P S L
theorem pw_ixor {a b : Nat} (hd : decode cc pc = .ok (.ixor, 1)) (ha : a < 2147483648) (hb : b < 2147483648) (k : PW G own cc nL rt R cs ss Zf (pc + 1) lv (ii_ ((a ^^^ b : Nat) : Int) :: st) h) : PW G own cc nL rt R cs ss Zf pc lv (ii_ (b : Int) :: ii_ (a : Int) :: st) h := by
  intro p e s m args below meth cd H locs ls X P S L
  refine lv_ixor X.1 X.2.1 hd ?_
  rw [i32_ixor ha hb]
  exact k p e s m args below meth cd H locs ls X P S L
theorem pw_iandn {a b : Nat} (hd : decode cc pc = .ok (.iand, 1)) (ha : a < 2147483648) (hb : b < 2147483648) (k : PW G own cc nL rt R cs ss Zf (pc + 1) lv (ii_ ((a - (a &&& b) : Nat) : Int) :: st) h) : PW G own cc nL rt R cs ss Zf pc lv (ii_ (-1 - (b : Int)) :: ii_ (a : Int) :: st) h := by
  intro p e s m args below meth cd H locs ls X P S L
  refine lv_iand X.1 X.2.1 hd ?_
  rw [i32_andn ha hb]
  exact k p e s m args below meth cd H locs ls X P S L
theorem pw_inot {a : Int} (hd : decode cc pc = .ok (.ixor, 1)) (ha : ir_ a) (k : PW G own cc nL rt R cs ss Zf (pc + 1) lv (ii_ (-1 - a) :: st) h) : PW G own cc nL rt R cs ss Zf pc lv (ii_ (-1) :: ii_ a :: st) h := by
  intro p e s m args below meth cd H locs ls X P S L
  refine lv_ixor X.1 X.2.1 hd ?_
  rw [i32_not ha]
  exact k p e s m args below meth cd H locs ls X P S L
theorem pw_dup {v : Value} (hd : decode cc pc = .ok (.dup, 1)) (hv : v.category = 1) (k : PW G own cc nL rt R cs ss Zf (pc + 1) lv (v :: v :: st) h) : PW G own cc nL rt R cs ss Zf pc lv (v :: st) h := by
  intro p e s m args below meth cd H locs ls X P S L
  exact lv_dup X.1 X.2.1 hd hv (k p e s m args below meth cd H locs ls X P S L)
theorem pw_pop {v : Value} (hd : decode cc pc = .ok (.pop, 1)) (hv : v.category = 1) (k : PW G own cc nL rt R cs ss Zf (pc + 1) lv (st) h) : PW G own cc nL rt R cs ss Zf pc lv (v :: st) h := by
  intro p e s m args below meth cd H locs ls X P S L
  exact lv_pop X.1 X.2.1 hd hv (k p e s m args below meth cd H locs ls X P S L)
theorem pw_dup2 {v w : Value} (hd : decode cc pc = .ok (.dup2, 1)) (hv : v.category = 1) (hw : w.category = 1) (k : PW G own cc nL rt R cs ss Zf (pc + 1) lv (v :: w :: v :: w :: st) h) : PW G own cc nL rt R cs ss Zf pc lv (v :: w :: st) h := by
  intro p e s m args below meth cd H locs ls X P S L
  exact lv_dup2_11 X.1 X.2.1 hd hv hw (k p e s m args below meth cd H locs ls X P S L)
theorem pw_lcmp {a b : Int} (hd : decode cc pc = .ok (.lcmp, 1)) (ha : lr_ a) (hb : lr_ b) (k : PW G own cc nL rt R cs ss Zf (pc + 1) lv (ii_ (if b < a then 1 else if a = b then 0 else -1) :: st) h) : PW G own cc nL rt R cs ss Zf pc lv (ll_ b :: ll_ a :: st) h := by
  intro p e s m args below meth cd H locs ls X P S L
  refine W.lcmp X.1 X.2.1 hd ?_
  rw [i64_cmp ha hb]
  exact k p e s m args below meth cd H locs ls X P S L
theorem pw_icmp_eq {a b off : Int} {t : Nat} (hd : decode cc pc = .ok (.if_icmp .eq off, 3)) (ht : (pc : Int) + off = (t : Int)) (ha : ir_ a) (hb : ir_ b) (kt : a = b → PW G own cc nL rt R cs ss Zf t lv st h) (kf : ¬ a = b → PW G own cc nL rt R cs ss Zf (pc + 3) lv st h) : PW G own cc nL rt R cs ss Zf pc lv (ii_ b :: ii_ a :: st) h := by
  intro p e s m args below meth cd H locs ls X P S L
  have e1 := i32_eq ha hb
  refine lv_icmp_eq X.1 X.2.1 hd ht (fun h1 => kt (e1.mp h1) p e s m args below meth cd H locs ls X P S L) (fun h1 => (kf ((fun h8 => h1 (e1.mpr h8)))) p e s m args below meth cd H locs ls X P S L)

theorem pw_if_eq {a off : Int} {t : Nat} (hd : decode cc pc = .ok (.ifCond .eq off, 3)) (ht : (pc : Int) + off = (t : Int)) (ha : ir_ a) (kt : a = 0 → PW G own cc nL rt R cs ss Zf t lv st h) (kf : ¬ a = 0 → PW G own cc nL rt R cs ss Zf (pc + 3) lv st h) : PW G own cc nL rt R cs ss Zf pc lv (ii_ a :: st) h := by
  intro p e s m args below meth cd H locs ls X P S L
  have hb := ir_0
  have e1 := (i32_eq ha hb : _ ↔ (a = 0))
  rw [← i32_zero] at e1
  refine lv_if_eq X.1 X.2.1 hd ht (fun h1 => kt (e1.mp h1) p e s m args below meth cd H locs ls X P S L) (fun h1 => (kf (fun h8 => h1 (e1.mpr h8))) p e s m args below meth cd H locs ls X P S L)

theorem pw_icmp_ne {a b off : Int} {t : Nat} (hd : decode cc pc = .ok (.if_icmp .ne off, 3)) (ht : (pc : Int) + off = (t : Int)) (ha : ir_ a) (hb : ir_ b) (kt : ¬ a = b → PW G own cc nL rt R cs ss Zf t lv st h) (kf : a = b → PW G own cc nL rt R cs ss Zf (pc + 3) lv st h) : PW G own cc nL rt R cs ss Zf pc lv (ii_ b :: ii_ a :: st) h := by
  intro p e s m args below meth cd H locs ls X P S L
  have e1 := not_congr (i32_eq ha hb)
  refine lv_icmp_ne X.1 X.2.1 hd ht (fun h1 => kt (e1.mp h1) p e s m args below meth cd H locs ls X P S L) (fun h1 => (kf ((i32_eq ha hb).mp h1)) p e s m args below meth cd H locs ls X P S L)

theorem pw_if_ne {a off : Int} {t : Nat} (hd : decode cc pc = .ok (.ifCond .ne off, 3)) (ht : (pc : Int) + off = (t : Int)) (ha : ir_ a) (kt : ¬ a = 0 → PW G own cc nL rt R cs ss Zf t lv st h) (kf : a = 0 → PW G own cc nL rt R cs ss Zf (pc + 3) lv st h) : PW G own cc nL rt R cs ss Zf pc lv (ii_ a :: st) h := by
  intro p e s m args below meth cd H locs ls X P S L
  have hb := ir_0
  have e1 := (not_congr (i32_eq ha hb) : _ ↔ (¬ a = 0))
  rw [← i32_zero] at e1
  refine lv_if_ne X.1 X.2.1 hd ht (fun h1 => kt (e1.mp h1) p e s m args below meth cd H locs ls X P S L) (fun h1 => (kf ((i32_eq ha hb).mp (by rw [← i32_zero]; exact h1))) p e s m args below meth cd H locs ls X P S L)

theorem pw_icmp_lt {a b off : Int} {t : Nat} (hd : decode cc pc = .ok (.if_icmp .lt off, 3)) (ht : (pc : Int) + off = (t : Int)) (ha : ir_ a) (hb : ir_ b) (kt : a < b → PW G own cc nL rt R cs ss Zf t lv st h) (kf : ¬ a < b → PW G own cc nL rt R cs ss Zf (pc + 3) lv st h) : PW G own cc nL rt R cs ss Zf pc lv (ii_ b :: ii_ a :: st) h := by
  intro p e s m args below meth cd H locs ls X P S L
  have e1 := i32_lt ha hb
  refine lv_icmp_lt X.1 X.2.1 hd ht (fun h1 => kt (e1.mp h1) p e s m args below meth cd H locs ls X P S L) (fun h1 => (kf ((fun h8 => h1 (e1.mpr h8)))) p e s m args below meth cd H locs ls X P S L)

theorem pw_if_lt {a off : Int} {t : Nat} (hd : decode cc pc = .ok (.ifCond .lt off, 3)) (ht : (pc : Int) + off = (t : Int)) (ha : ir_ a) (kt : a < 0 → PW G own cc nL rt R cs ss Zf t lv st h) (kf : ¬ a < 0 → PW G own cc nL rt R cs ss Zf (pc + 3) lv st h) : PW G own cc nL rt R cs ss Zf pc lv (ii_ a :: st) h := by
  intro p e s m args below meth cd H locs ls X P S L
  have hb := ir_0
  have e1 := (i32_lt ha hb : _ ↔ (a < 0))
  rw [← i32_zero] at e1
  refine lv_if_lt X.1 X.2.1 hd ht (fun h1 => kt (e1.mp h1) p e s m args below meth cd H locs ls X P S L) (fun h1 => (kf (fun h8 => h1 (e1.mpr h8))) p e s m args below meth cd H locs ls X P S L)

theorem pw_icmp_ge {a b off : Int} {t : Nat} (hd : decode cc pc = .ok (.if_icmp .ge off, 3)) (ht : (pc : Int) + off = (t : Int)) (ha : ir_ a) (hb : ir_ b) (kt : ¬ a < b → PW G own cc nL rt R cs ss Zf t lv st h) (kf : a < b → PW G own cc nL rt R cs ss Zf (pc + 3) lv st h) : PW G own cc nL rt R cs ss Zf pc lv (ii_ b :: ii_ a :: st) h := by
  intro p e s m args below meth cd H locs ls X P S L
  have e1 := i32_ge ha hb
  refine lv_icmp_ge X.1 X.2.1 hd ht (fun h1 => kt (e1.mp h1) p e s m args below meth cd H locs ls X P S L) (fun h1 => (kf (Decidable.not_not.mp (fun h8 => h1 (e1.mpr h8)))) p e s m args below meth cd H locs ls X P S L)

theorem pw_if_ge {a off : Int} {t : Nat} (hd : decode cc pc = .ok (.ifCond .ge off, 3)) (ht : (pc : Int) + off = (t : Int)) (ha : ir_ a) (kt : ¬ a < 0 → PW G own cc nL rt R cs ss Zf t lv st h) (kf : a < 0 → PW G own cc nL rt R cs ss Zf (pc + 3) lv st h) : PW G own cc nL rt R cs ss Zf pc lv (ii_ a :: st) h := by
  intro p e s m args below meth cd H locs ls X P S L
  have hb := ir_0
  have e1 := (i32_ge ha hb : _ ↔ (¬ a < 0))
  rw [← i32_zero] at e1
  refine lv_if_ge X.1 X.2.1 hd ht (fun h1 => kt (e1.mp h1) p e s m args below meth cd H locs ls X P S L) (fun h1 => (kf (Decidable.not_not.mp (fun h8 => h1 (e1.mpr h8)))) p e s m args below meth cd H locs ls X P S L)

theorem pw_icmp_gt {a b off : Int} {t : Nat} (hd : decode cc pc = .ok (.if_icmp .gt off, 3)) (ht : (pc : Int) + off = (t : Int)) (ha : ir_ a) (hb : ir_ b) (kt : b < a → PW G own cc nL rt R cs ss Zf t lv st h) (kf : ¬ b < a → PW G own cc nL rt R cs ss Zf (pc + 3) lv st h) : PW G own cc nL rt R cs ss Zf pc lv (ii_ b :: ii_ a :: st) h := by
  intro p e s m args below meth cd H locs ls X P S L
  have e1 := i32_gt ha hb
  refine lv_icmp_gt X.1 X.2.1 hd ht (fun h1 => kt (e1.mp h1) p e s m args below meth cd H locs ls X P S L) (fun h1 => (kf ((fun h8 => h1 (e1.mpr h8)))) p e s m args below meth cd H locs ls X P S L)

theorem pw_if_gt {a off : Int} {t : Nat} (hd : decode cc pc = .ok (.ifCond .gt off, 3)) (ht : (pc : Int) + off = (t : Int)) (ha : ir_ a) (kt : 0 < a → PW G own cc nL rt R cs ss Zf t lv st h) (kf : ¬ 0 < a → PW G own cc nL rt R cs ss Zf (pc + 3) lv st h) : PW G own cc nL rt R cs ss Zf pc lv (ii_ a :: st) h := by
  intro p e s m args below meth cd H locs ls X P S L
  have hb := ir_0
  have e1 := (i32_gt ha hb : _ ↔ (0 < a))
  rw [← i32_zero] at e1
  refine lv_if_gt X.1 X.2.1 hd ht (fun h1 => kt (e1.mp h1) p e s m args below meth cd H locs ls X P S L) (fun h1 => (kf (fun h8 => h1 (e1.mpr h8))) p e s m args below meth cd H locs ls X P S L)

theorem pw_icmp_le {a b off : Int} {t : Nat} (hd : decode cc pc = .ok (.if_icmp .le off, 3)) (ht : (pc : Int) + off = (t : Int)) (ha : ir_ a) (hb : ir_ b) (kt : ¬ b < a → PW G own cc nL rt R cs ss Zf t lv st h) (kf : b < a → PW G own cc nL rt R cs ss Zf (pc + 3) lv st h) : PW G own cc nL rt R cs ss Zf pc lv (ii_ b :: ii_ a :: st) h := by
  intro p e s m args below meth cd H locs ls X P S L
  have e1 := i32_le2 ha hb
  refine lv_icmp_le X.1 X.2.1 hd ht (fun h1 => kt (e1.mp h1) p e s m args below meth cd H locs ls X P S L) (fun h1 => (kf (Decidable.not_not.mp (fun h8 => h1 (e1.mpr h8)))) p e s m args below meth cd H locs ls X P S L)

theorem pw_if_le {a off : Int} {t : Nat} (hd : decode cc pc = .ok (.ifCond .le off, 3)) (ht : (pc : Int) + off = (t : Int)) (ha : ir_ a) (kt : ¬ 0 < a → PW G own cc nL rt R cs ss Zf t lv st h) (kf : 0 < a → PW G own cc nL rt R cs ss Zf (pc + 3) lv st h) : PW G own cc nL rt R cs ss Zf pc lv (ii_ a :: st) h := by
  intro p e s m args below meth cd H locs ls X P S L
  have hb := ir_0
  have e1 := (i32_le2 ha hb : _ ↔ (¬ 0 < a))
  rw [← i32_zero] at e1
  refine lv_if_le X.1 X.2.1 hd ht (fun h1 => kt (e1.mp h1) p e s m args below meth cd H locs ls X P S L) (fun h1 => (kf (Decidable.not_not.mp (fun h8 => h1 (e1.mpr h8)))) p e s m args below meth cd H locs ls X P S L)

theorem pw_goto {off : Int} {t : Nat} (hd : decode cc pc = .ok (.goto off, 3)) (ht : (pc : Int) + off = (t : Int)) (k : PW G own cc nL rt R cs ss Zf t lv st h) : PW G own cc nL rt R cs ss Zf pc lv st h := by
  intro p e s m args below meth cd H locs ls X P S L
  exact lv_goto X.1 X.2.1 hd ht (k p e s m args below meth cd H locs ls X P S L)
theorem pw_tableIn {dflt lo hi off a : Int} {offs : Array Int} {len t : Nat} (hd : decode cc pc = .ok (.tableswitch dflt lo hi offs, len)) (ha : ir_ a) (h1 : lo ≤ a) (h2 : a ≤ hi) (ho : offs[(a - lo).toNat]? = some off) (ht : (pc : Int) + off = (t : Int)) (k : PW G own cc nL rt R cs ss Zf t lv st h) : PW G own cc nL rt R cs ss Zf pc lv (ii_ a :: st) h := by
  intro p e s m args below meth cd H locs ls X P S L
  exact lv_tableIn X.1 X.2.1 hd (by rw [i32_toInt ha]; omega) (by rw [i32_toInt ha]; omega) (by rw [i32_toInt ha]; exact ho) ht (k p e s m args below meth cd H locs ls X P S L)
theorem pw_tableOut {dflt lo hi a : Int} {offs : Array Int} {len t : Nat} (hd : decode cc pc = .ok (.tableswitch dflt lo hi offs, len)) (ha : ir_ a) (h1 : a < lo ∨ hi < a) (ht : (pc : Int) + dflt = (t : Int)) (k : PW G own cc nL rt R cs ss Zf t lv st h) : PW G own cc nL rt R cs ss Zf pc lv (ii_ a :: st) h := by
  intro p e s m args below meth cd H locs ls X P S L
  exact lv_tableOut X.1 X.2.1 hd (by rw [i32_toInt ha]; exact h1) ht (k p e s m args below meth cd H locs ls X P S L)
theorem pw_less {lv1 : List (Option Value)} (hl : lv1.length = lv.length) (hs : ∀ (i : Nat) (v : Value), lv1[i]? = some (some v) → lv[i]? = some (some v)) (k : PW G own cc nL rt R cs ss Zf pc lv1 st h) : PW G own cc nL rt R cs ss Zf pc lv st h := by
  intro p e s m args below meth cd H locs ls X P S L
  exact k p e s m args below meth cd H locs ls X P S (lh_less L hl hs)
theorem pw_nr (k : nr_ h → PW G own cc nL rt R cs ss Zf pc lv st h) : PW G own cc nL rt R cs ss Zf pc lv st h := by
  intro p e s m args below meth cd H locs ls X P S L
  exact k P.2.2 p e s m args below meth cd H locs ls X P S L
end PWI
section PWT
variable {G : GT_} {own : String} {cc : ByteArray} {nL : Nat} {rt : Option FieldType} {R : Room} {pc : Nat} {lv : List (Option Value)} {st : List Value} {h : PH_}
theorem pw_iret {Q : Int → PH_ → Prop} {z : Int} (hd : decode cc pc = .ok (.ireturn, 1)) (hz : ir_ z) (hq : Q z h) : PW G own cc nL (some .int) R 0 0 (zm_ G (qi_ Q)) pc lv [ii_ z] h := by
  intro p e s m args below meth cd H locs ls X P S L
  exact W.iret (Qc := fun _ st oc t => (∃ (r : Option Value) (h' : PH_), oc = .returned r ∧ qi_ Q r h' ∧ ph_ G h' t.heap) ∧ va_F (ag_ G) st t) X.1 X.2.1 X.2.2.2.1 (fun t ht hW => ⟨⟨_, h, rfl, ⟨z, rfl, hz, hq⟩, by rw [ht]; exact P⟩, S.F ht⟩) S.2.2 hd X.2.2.2.2.1
theorem pw_zret {Q : Int → PH_ → Prop} {z : Int} (hd : decode cc pc = .ok (.ireturn, 1)) (hz : z = 0 ∨ z = 1) (hq : Q z h) : PW G own cc nL (some .boolean) R 0 0 (zm_ G (qi_ Q)) pc lv [ii_ z] h := by
  intro p e s m args below meth cd H locs ls X P S L
  have hr : ir_ z := by rcases hz with rfl | rfl <;> (constructor <;> decide)
  exact W.zret (Qc := fun _ st oc t => (∃ (r : Option Value) (h' : PH_), oc = .returned r ∧ qi_ Q r h' ∧ ph_ G h' t.heap) ∧ va_F (ag_ G) st t) X.1 X.2.1 X.2.2.2.1 (by rcases hz with rfl | rfl <;> rfl) (fun t ht hW => ⟨⟨_, h, rfl, ⟨z, rfl, hr, hq⟩, by rw [ht]; exact P⟩, S.F ht⟩) S.2.2 hd X.2.2.2.2.1
theorem pw_lret {Q : Int → PH_ → Prop} {z : Int} (hd : decode cc pc = .ok (.lreturn, 1)) (hz : lr_ z) (hq : Q z h) : PW G own cc nL (some .long) R 0 0 (zm_ G (ql_ Q)) pc lv [ll_ z] h := by
  intro p e s m args below meth cd H locs ls X P S L
  exact W.lret (Qc := fun _ st oc t => (∃ (r : Option Value) (h' : PH_), oc = .returned r ∧ ql_ Q r h' ∧ ph_ G h' t.heap) ∧ va_F (ag_ G) st t) X.1 X.2.1 X.2.2.2.1 (fun t ht hW => ⟨⟨_, h, rfl, ⟨z, rfl, hz, hq⟩, by rw [ht]; exact P⟩, S.F ht⟩) S.2.2 hd X.2.2.2.2.1
theorem pw_vret {Q : PH_ → Prop} (hd : decode cc pc = .ok (.return_, 1)) (hq : Q h) : PW G own cc nL none R 0 0 (zm_ G (qv_ Q)) pc lv [] h := by
  intro p e s m args below meth cd H locs ls X P S L
  exact W.vret (Qc := fun _ st oc t => (∃ (r : Option Value) (h' : PH_), oc = .returned r ∧ qv_ Q r h' ∧ ph_ G h' t.heap) ∧ va_F (ag_ G) st t) X.1 X.2.1 X.2.2.2.1 (fun t ht hW => ⟨⟨_, h, rfl, ⟨rfl, hq⟩, by rw [ht]; exact P⟩, S.F ht⟩) S.2.2 hd X.2.2.2.2.1
end PWT
