/-! ===== expressions ===== -/
/-- an int as the machine keeps it -/
def wr_ (z : Int) : Int := (Int32.ofInt z).toInt
theorem wr_ir (z : Int) : ir_ (wr_ z) := ir_toInt _
theorem wr_id {z : Int} (h : ir_ z) : wr_ z = z := i32_toInt h
theorem ii_wr (z : Int) : ii_ (wr_ z) = ii_ z := by unfold ii_ wr_; rw [Int32.ofInt_toInt]
section PWN
variable {G : GT_} {own : String} {cc : ByteArray} {nL : Nat} {rt : Option FieldType} {R : Room} {cs ss : Nat} {Zf : List Frame → Array Value → State → State → Prop} {pc : Nat} {lv : List (Option Value)} {st : List Value} {h : PH_}
theorem pw_norm {z : Int} (k : PW G own cc nL rt R cs ss Zf pc lv (ii_ (wr_ z) :: st) h) : PW G own cc nL rt R cs ss Zf pc lv (ii_ z :: st) h := by rw [← ii_wr]; exact k
end PWN
def bo_ (c a b : Int) : Int := if c = 4 then wr_ (a + b) else if c = 5 then wr_ (a - b) else if c = 6 then wr_ (a * b) else if c = 7 then (if a < b then 1 else 0) else if c = 8 then (if a = b then 1 else 0) else if c = 9 then (if ¬ a = 0 ∧ ¬ b = 0 then 1 else 0) else (if ¬ a = 0 ∨ ¬ b = 0 then 1 else 0)
theorem bo_ir (c a b : Int) : ir_ (bo_ c a b) := by
  unfold bo_
  repeat' split
  all_goals first | exact wr_ir _ | (constructor <;> decide)
/-- a step of an expression's code on the pile -/
def es_ (fa : Int → Int) (c a : Int) (st : List Int) : List Int := if c = 1 then a :: st else if c = 2 then fa a :: st else if c = 3 then (match st with
  | x :: r => (if x = 0 then 1 else 0) :: r
  | [] => []) else (match st with
  | y :: x :: r => bo_ c x y :: r
  | r => r)
def evl_ (fa : Int → Int) : List (Int × Int) → List Int → List Int
  | [], st => st
  | q :: P, st => evl_ fa P (es_ fa q.1 q.2 st)
/-- the code stands at i -/
def cod_ (op ar : Int → Int) : Int → List (Int × Int) → Prop
  | i, [] => op i = 0
  | i, q :: P => op i = q.1 ∧ ar i = q.2 ∧ (1 ≤ q.1 ∧ q.1 ≤ 10) ∧ (q.1 = 2 → 0 ≤ q.2 ∧ q.2 ≤ 4) ∧ cod_ op ar (i + 1) P
/-- no underflow, one number at last -/
def dpt_ : List (Int × Int) → Nat → Prop
  | [], n => n = 1
  | q :: P, n => if q.1 = 1 ∨ q.1 = 2 then dpt_ P (n + 1) else if q.1 = 3 then 1 ≤ n ∧ dpt_ P n else 2 ≤ n ∧ dpt_ P (n - 1)
/-- the pile as it lies -/
def stk_ (f : Int → Int) : List Int → Prop
  | [] => True
  | v :: st => f st.length = v ∧ stk_ f st
theorem stk_up {h : PH_} {i : Nat} {x z : Int} : ∀ {st : List Int}, stk_ (h i) st → (st.length : Int) ≤ x → stk_ (up_ h i x z i) st
  | [], _, _ => trivial
  | v :: st, hs, hx => ⟨by rw [up_at, if_neg (by simp at hx; omega)]; exact hs.1, stk_up hs.2 (by simp at hx; omega)⟩
theorem cod_no {op ar : Int → Int} {i : Int} : ∀ {P : List (Int × Int)}, cod_ op ar i P → op i = 0 → P = []
  | [], _, _ => rfl
  | q :: P, h, h0 => by unfold cod_ at h; omega
theorem cod_ne {op ar : Int → Int} {i : Int} : ∀ {P : List (Int × Int)}, cod_ op ar i P → ¬ op i = 0 → ∃ (c a : Int) (P3 : List (Int × Int)), P = (c, a) :: P3 ∧ op i = c ∧ ar i = a ∧ (1 ≤ c ∧ c ≤ 10) ∧ (c = 2 → 0 ≤ a ∧ a ≤ 4) ∧ cod_ op ar (i + 1) P3
  | [], h, h0 => absurd h h0
  | (c, a) :: P, h, h0 => ⟨c, a, P, rfl, h⟩
/-- what a law's code is worth -/
def ew_ (fa : Int → Int) (P : List (Int × Int)) : Int := (evl_ fa P []).headD 0
def cl9_ (v : Int) : Int := if v < 0 then 0 else if v > 999 then 999 else v
theorem es_1 {fa : Int → Int} {a : Int} {st : List Int} : es_ fa 1 a st = a :: st := rfl
theorem es_2 {fa : Int → Int} {a : Int} {st : List Int} : es_ fa 2 a st = fa a :: st := rfl
theorem es_3 {fa : Int → Int} {a x : Int} {st : List Int} : es_ fa 3 a (x :: st) = (if x = 0 then 1 else 0) :: st := rfl
theorem es_b {fa : Int → Int} {c a x y : Int} {st : List Int} (h : 4 ≤ c) : es_ fa c a (y :: x :: st) = bo_ c x y :: st := by
  unfold es_; rw [if_neg (by omega), if_neg (by omega), if_neg (by omega)]
theorem dpt_p {c a : Int} {P : List (Int × Int)} {n : Nat} (h : dpt_ ((c, a) :: P) n) (hc : c = 1 ∨ c = 2) : dpt_ P (n + 1) := by unfold dpt_ at h; rw [if_pos hc] at h; exact h
theorem dpt_n {c a : Int} {P : List (Int × Int)} {n : Nat} (h : dpt_ ((c, a) :: P) n) (hc : c = 3) : 1 ≤ n ∧ dpt_ P n := by unfold dpt_ at h; rw [if_neg (by omega), if_pos hc] at h; exact h
theorem dpt_b {c a : Int} {P : List (Int × Int)} {n : Nat} (h : dpt_ ((c, a) :: P) n) (hc : 4 ≤ c) : 2 ≤ n ∧ dpt_ P (n - 1) := by unfold dpt_ at h; rw [if_neg (by omega), if_neg (by omega)] at h; exact h
theorem len_1 {st : List Int} (h : 1 ≤ st.length) : ∃ x r, st = x :: r := by
  cases st with
  | nil => simp at h
  | cons x r => exact ⟨x, r, rfl⟩
theorem len_2 {st : List Int} (h : 2 ≤ st.length) : ∃ y x r, st = y :: x :: r := by
  match st, h with
  | y :: x :: r, _ => exact ⟨y, x, r, rfl⟩
theorem len_e {st : List Int} (h : st.length = 1) : ∃ x, st = [x] := by
  match st, h with
  | [x], _ => exact ⟨x, rfl⟩
/-- what a law reckons with -/
def wof_ (ro : Int → Int) (r s t tip : Int) : Int → Int := fun k => if k = 0 then ro (11 + 5 * t + (1 + s)) else if k = 1 then ro (11 + 5 * t) else if k = 2 then ro (31 + 4 * r) else if k = 3 then (if s = 0 ∨ s = ro 0 - 1 then 1 else 0) else tip
def wv_ (ro : Int → Int) (P : List (Int × Int)) (r s t tip : Int) : Int := cl9_ (if ro 5 < 0 then wr_ (ro (11 + 5 * t + (1 + s)) * ro (11 + 5 * t)) else ew_ (wof_ ro r s t tip) P)
theorem cl9_b (v : Int) : 0 ≤ cl9_ v ∧ cl9_ v ≤ 999 := by unfold cl9_; repeat' split <;> omega
theorem wv_b (ro : Int → Int) (P : List (Int × Int)) (r s t tip : Int) : 0 ≤ wv_ ro P r s t tip ∧ wv_ ro P r s t tip ≤ 999 := cl9_b _
theorem evl_cg {f g : Int → Int} (hfg : ∀ k, 0 ≤ k → k ≤ 4 → f k = g k) {op ar : Int → Int} : ∀ {P : List (Int × Int)} {i : Int} {st : List Int}, cod_ op ar i P → evl_ f P st = evl_ g P st
  | [], _, _, _ => rfl
  | (c, a) :: P, i, st, h => by
    have e : es_ f c a st = es_ g c a st := by
      unfold es_
      by_cases h2 : c = 2
      · have := h.2.2.2.1 h2
        rw [h2, if_neg (by decide), if_pos rfl, if_neg (by decide), if_pos rfl, hfg a this.1 this.2]
      · by_cases h1 : c = 1
        · rw [if_pos h1, if_pos h1]
        · rw [if_neg h1, if_neg h2, if_neg h1, if_neg h2]
    show evl_ f P (es_ f c a st) = evl_ g P (es_ g c a st)
    rw [e]
    exact evl_cg hfg h.2.2.2.2
/-- a law stands at i: its code P -/
def law_ (op ar : Int → Int) (i : Int) (P : List (Int × Int)) : Prop := cod_ op ar i P ∧ (0 ≤ i ∧ i + P.length < 2200) ∧ P.length ≤ 1100 ∧ dpt_ P 0
