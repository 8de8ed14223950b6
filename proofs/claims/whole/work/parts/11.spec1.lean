/-! ===== bit rows whose answer is told under conditions ===== -/
theorem ir_toInt (x : Int32) : ir_ x.toInt := by
  have h1 := Int32.minValue_le_toInt x
  have h2 := Int32.toInt_le x
  rw [i32_min] at h1; rw [i32_max] at h2
  exact ⟨h1, h2⟩
theorem i32_pos {a : Int} (h0 : 0 ≤ a) (h : ir_ a) : ∃ n : Nat, a = (n : Int) ∧ n < 2147483648 ∧ a.toNat = n := ⟨a.toNat, by omega, by omega, rfl⟩
section PWX
variable {G : GT_} {own : String} {cc : ByteArray} {nL : Nat} {rt : Option FieldType} {R : Room} {cs ss : Nat} {Zf : List Frame → Array Value → State → State → Prop} {pc : Nat} {lv : List (Option Value)} {st : List Value} {h : PH_}
theorem pw_iorX {a b : Int} (hd : decode cc pc = .ok (.ior, 1)) (ha : ir_ a) (hb : ir_ b) (k : ∀ w : Int, ir_ w → (0 ≤ a → 0 ≤ b → w = ((a.toNat ||| b.toNat : Nat) : Int)) → PW G own cc nL rt R cs ss Zf (pc + 1) lv (ii_ w :: st) h) : PW G own cc nL rt R cs ss Zf pc lv (ii_ b :: ii_ a :: st) h := by
  intro p e s m args below meth cd H locs ls X P S L
  refine lv_ior X.1 X.2.1 hd ?_
  have := k (Int32.ofInt a ||| Int32.ofInt b).toInt (ir_toInt _) (fun h1 h2 => ?_) p e s m args below meth cd H locs ls X P S L
  · unfold ii_ at this; rw [Int32.ofInt_toInt] at this; exact this
  · obtain ⟨n, e1, e2, e3⟩ := i32_pos h1 ha
    obtain ⟨n2, e4, e5, e6⟩ := i32_pos h2 hb
    rw [e3, e6, e1, e4, i32_ior e2 e5, i32_toInt]
    have := Nat.or_lt_two_pow (show n < 2 ^ 31 by omega) (show n2 < 2 ^ 31 by omega)
    constructor <;> omega
theorem pw_ixorX {a b : Int} (hd : decode cc pc = .ok (.ixor, 1)) (ha : ir_ a) (hb : ir_ b) (k : ∀ w : Int, ir_ w → (0 ≤ a → 0 ≤ b → w = ((a.toNat ^^^ b.toNat : Nat) : Int)) → PW G own cc nL rt R cs ss Zf (pc + 1) lv (ii_ w :: st) h) : PW G own cc nL rt R cs ss Zf pc lv (ii_ b :: ii_ a :: st) h := by
  intro p e s m args below meth cd H locs ls X P S L
  refine lv_ixor X.1 X.2.1 hd ?_
  have := k (Int32.ofInt a ^^^ Int32.ofInt b).toInt (ir_toInt _) (fun h1 h2 => ?_) p e s m args below meth cd H locs ls X P S L
  · unfold ii_ at this; rw [Int32.ofInt_toInt] at this; exact this
  · obtain ⟨n, e1, e2, e3⟩ := i32_pos h1 ha
    obtain ⟨n2, e4, e5, e6⟩ := i32_pos h2 hb
    rw [e3, e6, e1, e4, i32_ixor e2 e5, i32_toInt]
    have := Nat.xor_lt_two_pow (show n < 2 ^ 31 by omega) (show n2 < 2 ^ 31 by omega)
    constructor <;> omega
theorem pw_iandX {a b : Int} (hd : decode cc pc = .ok (.iand, 1)) (ha : ir_ a) (hb : ir_ b) (k : ∀ w : Int, ir_ w → (0 ≤ a → 0 ≤ b → w = ((a.toNat &&& b.toNat : Nat) : Int)) → (0 ≤ a → b < 0 → w = ((a.toNat - (a.toNat &&& (-1 - b).toNat) : Nat) : Int)) → PW G own cc nL rt R cs ss Zf (pc + 1) lv (ii_ w :: st) h) : PW G own cc nL rt R cs ss Zf pc lv (ii_ b :: ii_ a :: st) h := by
  intro p e s m args below meth cd H locs ls X P S L
  refine lv_iand X.1 X.2.1 hd ?_
  have := k (Int32.ofInt a &&& Int32.ofInt b).toInt (ir_toInt _) (fun h1 h2 => ?_) (fun h1 h2 => ?_) p e s m args below meth cd H locs ls X P S L
  · unfold ii_ at this; rw [Int32.ofInt_toInt] at this; exact this
  · obtain ⟨n, e1, e2, e3⟩ := i32_pos h1 ha
    obtain ⟨n2, e4, e5, e6⟩ := i32_pos h2 hb
    rw [e3, e6, e1, e4, i32_iand e2 e5, i32_toInt]
    have := Nat.and_lt_two_pow n (show n2 < 2 ^ 31 by omega)
    constructor <;> omega
  · obtain ⟨n, e1, e2, e3⟩ := i32_pos h1 ha
    obtain ⟨n2, e4, e5, e6⟩ := i32_pos (show 0 ≤ -1 - b by omega) (by constructor <;> omega)
    rw [e3, e6, e1, show b = -1 - (n2 : Int) by omega, i32_andn e2 e5, i32_toInt]
    constructor <;> omega
theorem pw_ishlX {b : Int} (hd : decode cc pc = .ok (.ishl, 1)) (k : ∀ w : Int, ir_ w → (0 ≤ b → b < 31 → w = 2 ^ b.toNat) → PW G own cc nL rt R cs ss Zf (pc + 1) lv (ii_ w :: st) h) : PW G own cc nL rt R cs ss Zf pc lv (ii_ b :: ii_ 1 :: st) h := by
  intro p e s m args below meth cd H locs ls X P S L
  refine lv_ishl X.1 X.2.1 hd ?_
  have := k (Int32.ofInt 1 <<< (Int32.ofInt b &&& 31)).toInt (ir_toInt _) (fun h1 h2 => ?_) p e s m args below meth cd H locs ls X P S L
  · unfold ii_ at this; rw [Int32.ofInt_toInt] at this; exact this
  · rw [i32_shl1 ⟨h1, h2⟩, i32_toInt]
    have h3 : b = 0 ∨ b = 1 ∨ b = 2 ∨ b = 3 ∨ b = 4 ∨ b = 5 ∨ b = 6 ∨ b = 7 ∨ b = 8 ∨ b = 9 ∨ b = 10 ∨ b = 11 ∨ b = 12 ∨ b = 13 ∨ b = 14 ∨ b = 15 ∨ b = 16 ∨ b = 17 ∨ b = 18 ∨ b = 19 ∨ b = 20 ∨ b = 21 ∨ b = 22 ∨ b = 23 ∨ b = 24 ∨ b = 25 ∨ b = 26 ∨ b = 27 ∨ b = 28 ∨ b = 29 ∨ b = 30 := by omega
    rcases h3 with rfl | rfl | rfl | rfl | rfl | rfl | rfl | rfl | rfl | rfl | rfl | rfl | rfl | rfl | rfl | rfl | rfl | rfl | rfl | rfl | rfl | rfl | rfl | rfl | rfl | rfl | rfl | rfl | rfl | rfl | rfl <;> (constructor <;> decide)
theorem pw_heq {h1 : PH_} (e : h1 = h) (k : PW G own cc nL rt R cs ss Zf pc lv st h1) : PW G own cc nL rt R cs ss Zf pc lv st h := by rw [← e]; exact k
end PWX
/-! ===== what the reference reckons: plans ===== -/
/-- a number's fourths, again and again -/
def dv_ : Nat → Int → Int
  | 0, p => p
  | k + 1, p => dv_ k p / 4
/-- the seats met, and whether all is well so far -/
def rm4_ : Nat → Int → Nat
  | 0, _ => 0
  | k + 1, p => rm4_ k p ||| 2 ^ (dv_ k p % 4).toNat
def ro4_ (S : Int) : Nat → Int → Prop
  | 0, p => 0 ≤ p
  | k + 1, p => ro4_ S k p ∧ dv_ k p % 4 < S ∧ (rm4_ k p : Int) / 2 ^ (dv_ k p % 4).toNat % 2 = 0
/-- a PLAN of R riders on S seats -/
def vp_ok (S R p : Int) : Prop := ro4_ S R.toNat p ∧ dv_ R.toNat p = 0
def dg_ (R p r : Int) : Int := dv_ (R - 1 - r).toNat p % 4
theorem dv_nn {p : Int} (hp : 0 ≤ p) : ∀ k, 0 ≤ dv_ k p
  | 0 => hp
  | k + 1 => by have := dv_nn hp k; unfold dv_; omega
theorem dv_le {p : Int} (hp : 0 ≤ p) : ∀ k, dv_ k p ≤ p
  | 0 => Int.le_refl _
  | k + 1 => by have := dv_le hp k; have := dv_nn hp k; unfold dv_; omega
theorem rm4_lt (p : Int) : ∀ k, rm4_ k p < 16
  | 0 => by unfold rm4_; decide
  | k + 1 => by
    have h1 := rm4_lt p k
    have h2 : (dv_ k p % 4).toNat < 4 := by omega
    unfold rm4_
    refine Nat.or_lt_two_pow (n := 4) h1 ?_
    exact Nat.pow_lt_pow_right (by decide) h2
theorem ro4_pos {S p : Int} : ∀ k, ro4_ S k p → 0 ≤ p
  | 0, h => h
  | k + 1, h => ro4_pos k h.1
def bes_ (g a b : Int) : Prop := (b = a + 1 ∧ g / 2 ^ a.toNat % 2 = 0) ∨ (a = b + 1 ∧ g / 2 ^ b.toNat % 2 = 0)
/-- where a rider may sit -/
def may_ (ro : Int → Int) (r s : Int) : Prop := ro (31 + 4 * r + 3) / 2 ^ s.toNat % 2 = 0 ∧ (ro (31 + 4 * r) ≠ 1 ∨ s = 0 ∨ s = ro 0 - 1)
/-- lawful, for the riders below n -/
def lwt_ (ro si : Int → Int) (r : Int) : Nat → Prop
  | 0 => True
  | e + 1 => lwt_ ro si r e ∧ (ro (47 + 4 * r + e) = 0 ∨ ¬ bes_ (ro 10) (si r) (si e))
def lwf_ (ro si : Int → Int) : Nat → Prop
  | 0 => True
  | r + 1 => lwf_ ro si r ∧ may_ ro r (si r) ∧ lwt_ ro si r r
/-- sleepers beside -/
noncomputable def if_ {α : Type} (P : Prop) (a b : α) : α := @ite α P (Classical.propDecidable P) a b
theorem if_t {α : Type} {P : Prop} {a b : α} (h : P) : if_ P a b = a := by unfold if_; exact if_pos h
theorem if_f {α : Type} {P : Prop} {a b : α} (h : ¬ P) : if_ P a b = b := by unfold if_; exact if_neg h
noncomputable def tip_ (ro si : Int → Int) (r : Int) : Nat → Int
  | 0 => 0
  | e + 1 => tip_ ro si r e + if_ ((e : Int) ≠ r ∧ ro (31 + 4 * (e : Int)) = 2 ∧ 0 ≤ si e ∧ bes_ (ro 10) (si r) (si e)) 1 0
theorem tip_nn (ro si : Int → Int) (r : Int) : ∀ n, 0 ≤ tip_ ro si r n ∧ tip_ ro si r n ≤ n
  | 0 => by unfold tip_; omega
  | n + 1 => by
    have := tip_nn ro si r n
    unfold tip_
    by_cases h : ((n : Int) ≠ r ∧ ro (31 + 4 * (n : Int)) = 2 ∧ 0 ≤ si n ∧ bes_ (ro 10) (si r) (si n))
    · rw [if_t h]; omega
    · rw [if_f h]; omega
/-- off these cells nothing changed -/
def off_ (L : List Nat) (h h' : PH_) : Prop := ∀ i, i ∉ L → h' i = h i
theorem off_rf {L : List Nat} {h : PH_} : off_ L h h := fun _ _ => rfl
theorem off_tr {L : List Nat} {a b c : PH_} (h1 : off_ L a b) (h2 : off_ L b c) : off_ L a c := fun i hi => (h2 i hi).trans (h1 i hi)
theorem off_up {L : List Nat} {a b : PH_} {i : Nat} {x z : Int} (h1 : off_ L a b) (hi : i ∈ L) : off_ L a (up_ b i x z) := fun j hj => (up_off (h := b) (x := x) (z := z) (fun (e : j = i) => hj (by rw [e]; exact hi))).trans (h1 j hj)
theorem off_mo {L L' : List Nat} {a b : PH_} (h1 : off_ L a b) (hs : ∀ i ∈ L, i ∈ L') : off_ L' a b := fun i hi => h1 i (fun h => hi (hs i h))
theorem dj_t {z : Int} {P : Prop} (h : z = 1 ∧ P ∨ z = 0 ∧ ¬ P) (hp : P) : z = 1 := by rcases h with h | h; exact h.1; exact absurd hp h.2
theorem dj_f {z : Int} {P : Prop} (h : z = 1 ∧ P ∨ z = 0 ∧ ¬ P) (hp : ¬ P) : z = 0 := by rcases h with h | h; exact absurd h.2 hp; exact h.1
theorem dj_1 {z : Int} {P : Prop} (h : z = 1 ∧ P ∨ z = 0 ∧ ¬ P) (hz : ¬ z = 0) : P := by rcases h with h | h; exact h.2; exact absurd h.1 hz
theorem dj_0 {z : Int} {P : Prop} (h : z = 1 ∧ P ∨ z = 0 ∧ ¬ P) (hz : z = 0) : ¬ P := by rcases h with h | h; omega; exact h.2
theorem dj_r {z : Int} {P : Prop} (h : z = 1 ∧ P ∨ z = 0 ∧ ¬ P) : z = 0 ∨ z = 1 := by rcases h with h | h; exact Or.inr h.1; exact Or.inl h.1
theorem dj_i {z : Int} {P P' : Prop} (h : z = 1 ∧ P ∨ z = 0 ∧ ¬ P) (hp : P ↔ P') : z = 1 ∧ P' ∨ z = 0 ∧ ¬ P' := by rw [← hp]; exact h
theorem tq4_ {x : Int} (h : ir_ x) : ir_ (x.tdiv 4) ∧ -3 ≤ x.tmod 4 ∧ x.tmod 4 ≤ 3 := by
  have e := Int.mul_tdiv_add_tmod x 4
  have h1 := Int.tmod_lt_of_pos x (show (0 : Int) < 4 by decide)
  have h2 := Int.lt_tmod_of_pos x (show (0 : Int) < 4 by decide)
  generalize x.tdiv 4 = q at *
  generalize x.tmod 4 = m at *
  refine ⟨⟨?_, ?_⟩, ?_, ?_⟩ <;> omega
theorem pc_ {k : Nat} : (2 : Int) ^ k = ((2 ^ k : Nat) : Int) := by norm_cast
theorem pp_ {k : Nat} : (0 : Int) < 2 ^ k := by rw [pc_]; have := Nat.two_pow_pos k; omega
theorem tn_s {r : Int} (h : 0 ≤ r) : (r + 1).toNat = r.toNat + 1 := by omega
theorem tn_c {r : Int} (h : 0 ≤ r) : ((r.toNat : Nat) : Int) = r := by omega
theorem lwt_s {ro si : Int → Int} {r e : Int} (h : 0 ≤ e) : lwt_ ro si r (e + 1).toNat ↔ lwt_ ro si r e.toNat ∧ (ro (47 + 4 * r + e) = 0 ∨ ¬ bes_ (ro 10) (si r) (si e)) := by rw [tn_s h]; show lwt_ ro si r e.toNat ∧ _ ↔ _; rw [tn_c h]
theorem lwf_s {ro si : Int → Int} {r : Int} (h : 0 ≤ r) : lwf_ ro si (r + 1).toNat ↔ lwf_ ro si r.toNat ∧ may_ ro r (si r) ∧ lwt_ ro si r r.toNat := by rw [tn_s h]; show lwf_ ro si r.toNat ∧ _ ↔ _; rw [tn_c h]
theorem tip_s (ro si : Int → Int) (r : Int) {e : Int} (h : 0 ≤ e) : tip_ ro si r (e + 1).toNat = tip_ ro si r e.toNat + if_ (e ≠ r ∧ ro (31 + 4 * e) = 2 ∧ 0 ≤ si e ∧ bes_ (ro 10) (si r) (si e)) 1 0 := by rw [tn_s h]; show tip_ ro si r e.toNat + _ = _; rw [tn_c h]
