/-! ===== a cell as a whole ===== -/
def sc_ (h : PH_) (i : Nat) (f : Int → Int) : PH_ := fun j => if j = i then f else h j
theorem sc_at (h : PH_) (i : Nat) (f : Int → Int) : sc_ h i f i = f := by simp [sc_]
theorem sc_off {h : PH_} {i : Nat} {f : Int → Int} {j : Nat} (hj : j ≠ i) : sc_ h i f j = h j := by simp [sc_, hj]
theorem sc_sc (h : PH_) (i : Nat) (f g : Int → Int) : sc_ (sc_ h i f) i g = sc_ h i g := by funext j; unfold sc_; by_cases e : j = i <;> simp [e]
theorem sc_self (h : PH_) (i : Nat) : sc_ h i (h i) = h := by funext j; unfold sc_; by_cases e : j = i <;> simp [e]
theorem up_sc (h : PH_) (i : Nat) (x z : Int) : up_ h i x z = sc_ h i (fun y => if y = x then z else h i y) := rfl
theorem off_sce {h h1 : PH_} {i : Nat} {f : Int → Int} (e : h1 = sc_ h i f) : off_ [i] h h1 := fun j hj => by rw [e]; exact sc_off (fun e2 => hj (by rw [e2]; exact List.mem_cons_self))
theorem sc_in {h h1 : PH_} {i : Nat} {f : Int → Int} (e : h1 = sc_ h i f) : h1 i = f := by rw [e]; exact sc_at h i f
theorem sc_up {h h1 g : PH_} {i : Nat} {f f' : Int → Int} {x z : Int} (e : h1 = sc_ h i f) (eg : g = up_ h1 i x z) (hf : ∀ y, (if y = x then z else f y) = f' y) : g = sc_ h i f' := by
  rw [eg, up_sc, sc_in e, e, sc_sc]
  exact congrArg (sc_ h i) (funext hf)
theorem sc_id {h : PH_} {i : Nat} {f : Int → Int} (hf : ∀ y, h i y = f y) : h = sc_ h i f := by rw [← funext hf, sc_self]
/-! the reference's states -/
def cpy_ (f : Int → Int) (fr to n : Int) : Int → Int := fun x => if to ≤ x ∧ x < to + n then f (x - to + fr) else f x
def sta_ (ro f : Int → Int) (b n : Int) : Int → Int := fun x => if x = b then 0 else if b + 1 ≤ x ∧ x < b + 1 + n then -1 else if b + 5 ≤ x ∧ x < b + 5 + n then -1 else if b + 9 ≤ x ∧ x < b + 9 + n then ro (31 + 4 * (x - b - 9) + 2) else f x
