/-! ===== a cell as a whole ===== -/
def sc_ (h : PH_) (i : Nat) (f : Int → Int) : PH_ := fun j => if j = i then f else h j
theorem sc_at (h : PH_) (i : Nat) (f : Int → Int) : sc_ h i f i = f := by simp [sc_]
theorem sc_off {h : PH_} {i : Nat} {f : Int → Int} {j : Nat} (hj : j ≠ i) : sc_ h i f j = h j := by simp [sc_, hj]
theorem sc_sc (h : PH_) (i : Nat) (f g : Int → Int) : sc_ (sc_ h i f) i g = sc_ h i g := by funext j; unfold sc_; by_cases e : j = i <;> simp [e]
theorem sc_self (h : PH_) (i : Nat) : sc_ h i (h i) = h := by funext j; unfold sc_; by_cases e : j = i <;> simp [e]
theorem up_sc (h : PH_) (i : Nat) (x z : Int) : up_ h i x z = sc_ h i (fun y => if y = x then z else h i y) := rfl
theorem off_sce {h h1 : PH_} {i : Nat} {f : Int → Int} (e : h1 = sc_ h i f) : off_ [i] h h1 := fun j hj => by rw [e]; exact sc_off (fun e2 => hj (by rw [e2]; exact List.mem_cons_self))
theorem sc_in {h h1 : PH_} {i : Nat} {f : Int → Int} (e : h1 = sc_ h i f) : h1 i = f := by rw [e]; exact sc_at h i f
theorem sc_up {h h1 g : PH_} {i : Nat} {f f' : Int → Int} {x z : Int} (e : h1 = sc_ h i f) (eg : g = up_ h1 i x z) (hf : ∀ y, (if y = x then z else f y) = f' y) : g = sc_ h i f' := by
  rw [eg, up_sc, sc_in e, e, sc_sc]
  exact congrArg (sc_ h i) (funext hf)
theorem sc_id {h : PH_} {i : Nat} {f : Int → Int} (hf : ∀ y, h i y = f y) : h = sc_ h i f := by rw [← funext hf, sc_self]
/-! the reference's states -/
def cpy_ (f : Int → Int) (fr to n : Int) : Int → Int := fun x => if to ≤ x ∧ x < to + n then f (x - to + fr) else f x
def sta_ (ro f : Int → Int) (b n : Int) : Int → Int := fun x => if x = b then 0 else if b + 1 ≤ x ∧ x < b + 1 + n then -1 else if b + 5 ≤ x ∧ x < b + 5 + n then -1 else if b + 9 ≤ x ∧ x < b + 9 + n then ro (31 + 4 * (x - b - 9) + 2) else f x
def bgn_ (ro f : Int → Int) : Int → Int := fun x => if x = 13 ∨ x = 30 then 0 else sta_ ro f 0 4 x
def shf_ (f : Int → Int) (k : Int) : Int → Int := fun x => if (400 ≤ x ∧ x < 400 + 80 * (k - 1)) ∧ (x - 400) % 80 < 13 then f (x + 80) else f x
def kep_ (f : Int → Int) (u : Int) : Int → Int := fun x => if u = 16 then (if 1600 ≤ x ∧ x < 1613 then f (x - 1600) else shf_ f 16 x) else (if 400 + 80 * u ≤ x ∧ x < 413 + 80 * u then f (x - (400 + 80 * u)) else f x)
def ob_ (f : Int → Int) (k z : Int) : Int → Int := fun y => if y = k then z else f y
theorem up_ob (h : PH_) (i : Nat) (x z : Int) : up_ h i x z i = ob_ (h i) x z := by funext y; rw [up_at]; rfl
def who_ (f : Int → Int) (s : Int) : Nat → Int
  | 0 => -1
  | e + 1 => if f e = s then e else who_ f s e
theorem who_s {f : Int → Int} {s e : Int} (h : 0 ≤ e) : who_ f s (e + 1).toNat = if f e = s then e else who_ f s e.toNat := by rw [tn_s h]; show (if f (e.toNat : Int) = s then (e.toNat : Int) else _) = _; rw [tn_c h]
theorem who_b (f : Int → Int) (s : Int) : ∀ n, -1 ≤ who_ f s n ∧ who_ f s n < (n : Int) ∨ n = 0 ∧ who_ f s n = -1
  | 0 => Or.inr ⟨rfl, rfl⟩
  | n + 1 => by
    have := who_b f s n
    refine Or.inl ?_
    unfold who_
    by_cases h : f n = s
    · rw [if_pos h]; omega
    · rw [if_neg h]; omega
def sit_ (f : Int → Int) (b r s w : Int) : Int → Int := fun x => if x = b + 1 + r then s else if 0 ≤ w ∧ x = b + 1 + w then f (b + 1 + r) else f x
def alls_ (f : Int → Int) : Nat → Prop
  | 0 => True
  | r + 1 => alls_ f r ∧ 0 ≤ f r
theorem alls_s {f : Int → Int} {r : Int} (h : 0 ≤ r) : alls_ f (r + 1).toNat ↔ alls_ f r.toNat ∧ 0 ≤ f r := by rw [tn_s h]; show alls_ f r.toNat ∧ 0 ≤ f (r.toNat : Int) ↔ _; rw [tn_c h]
theorem alls_e {f : Int → Int} : ∀ {n : Nat}, alls_ f n → ∀ r, 0 ≤ r → r < (n : Int) → 0 ≤ f r
  | 0, _, r, h0, h1 => by omega
  | n + 1, h, r, h0, h1 => by
    by_cases e : r = (n : Int)
    · rw [e]; exact h.2
    · exact alls_e h.1 r h0 (by omega)
/-- whether one may drive -/
def mdr_ (ro f : Int → Int) (b : Int) : Prop := f b < ro 1 ∧ alls_ (fun r => f (b + 1 + r)) (ro 2).toNat ∧ lwf_ ro (fun r => f (b + 1 + r)) (ro 2).toNat
/-- a drive -/
noncomputable def dr1_ (ro : Int → Int) (P : List (Int × Int)) (f si : Int → Int) (b n : Int) : Int → Int := fun x => if b + 9 ≤ x ∧ x < b + 9 + n then f x + (wsi_ ro P si (x - b - 9) (f b) - (if 0 ≤ f (x - 4) ∧ ¬ f (x - 4) = si (x - b - 9) then ro 4 else 0)) else f x
def dr2_ (f si : Int → Int) (b n : Int) : Int → Int := fun x => if b + 5 ≤ x ∧ x < b + 5 + n then si (x - b - 5) else f x
noncomputable def drv_ (ro : Int → Int) (P : List (Int × Int)) (f si : Int → Int) (b : Int) : Int → Int := ob_ (dr2_ (dr1_ ro P f si b (ro 2)) si b (ro 2)) b (f b + 1)
theorem wsi_b (ro : Int → Int) (P : List (Int × Int)) (si : Int → Int) (r t : Int) : 0 ≤ wsi_ ro P si r t ∧ wsi_ ro P si r t ≤ 999 := wv_b _ _ _ _ _ _
theorem drv_cg {ro : Int → Int} {P : List (Int × Int)} {f si sj : Int → Int} (h : ∀ r, 0 ≤ r → r < ro 2 → si r = sj r) : drv_ ro P f si 0 = drv_ ro P f sj 0 := by
  unfold drv_
  congr 1
  funext x
  unfold dr2_ dr1_
  by_cases x1 : 0 + 5 ≤ x ∧ x < 0 + 5 + ro 2
  · rw [if_pos x1, if_pos x1]; exact h _ (by omega) (by omega)
  · rw [if_neg x1, if_neg x1]
    by_cases x2 : 0 + 9 ≤ x ∧ x < 0 + 9 + ro 2
    · rw [if_pos x2, if_pos x2, wsi_cg (by omega) h, h _ (by omega) (by omega)]
    · rw [if_neg x2, if_neg x2]
theorem ob_self (f : Int → Int) (k : Int) : ob_ f k (f k) = f := by funext y; unfold ob_; by_cases e : y = k; rw [if_pos e, e]; rw [if_neg e]
