/-! ===== the search through all journeys ===== -/
def sm_ (f : Int → Int) (i : Int) : Nat → Int
  | 0 => 0
  | r + 1 => sm_ f i r + f (i + r)
theorem sm_s {f : Int → Int} {i r : Int} (h : 0 ≤ r) : sm_ f i (r + 1).toNat = sm_ f i r.toNat + f (i + r) := by rw [tn_s h]; show sm_ f i r.toNat + f (i + (r.toNat : Int)) = _; rw [tn_c h]
theorem sm_b {f : Int → Int} {i B : Int} : ∀ n : Nat, (∀ r, 0 ≤ r → r < (n : Int) → -B ≤ f (i + r) ∧ f (i + r) ≤ B) → -(B * n) ≤ sm_ f i n ∧ sm_ f i n ≤ B * n
  | 0, _ => by unfold sm_; simp
  | n + 1, h => by
    have h1 := sm_b (f := f) (i := i) (B := B) n (fun r r0 r1 => h r r0 (by omega))
    have h2 := h n (by omega) (by omega)
    unfold sm_
    rw [show B * ((n + 1 : Nat) : Int) = B * (n : Int) + B by rw [Int.natCast_add, Int.mul_add]; simp]
    omega
/-- what is sought: 0 the least spread, 1 the greatest sum, 2 the greatest least -/
def vat_ (so : Int) (f : Int → Int) (i R : Int) : Int := if so = 0 then spr_ f i R else if so = 1 then -(sm_ f i R.toNat) else -(mn_ f i (R - 1).toNat)
theorem vat_b {so : Int} {f : Int → Int} {i R : Int} (hR : 1 ≤ R ∧ R ≤ 4) (hb : ∀ r, 0 ≤ r → r < R → -1000000 ≤ f (i + r) ∧ f (i + r) ≤ 1000000) : -4000000 ≤ vat_ so f i R ∧ vat_ so f i R ≤ 4000000 := by
  have m1 := mn_b (f := f) (i := i) (B := 1000000) (R - 1).toNat (fun q q0 q1 => hb q q0 (by omega))
  have m2 := mx_b (f := f) (i := i) (B := 1000000) (R - 1).toNat (fun q q0 q1 => hb q q0 (by omega))
  have m3 := sm_b (f := f) (i := i) (B := 1000000) R.toNat (fun q q0 q1 => hb q q0 (by omega))
  unfold vat_ spr_
  split
  · omega
  · split <;> omega
/-- the best so far: value, moves, plans, totals -/
abbrev BT_ : Type := Option (Int × Int × (Int → Int) × (Int → Int))
def bst_ (T R : Int) (h : PH_) : BT_ → Prop
  | none => h mo_ 41 = 0
  | some q => h mo_ 41 = 1 ∧ h mo_ 42 = q.1 ∧ h mo_ 43 = q.2.1 ∧ (∀ k, 0 ≤ k → k < T → h mBestRow k = q.2.2.1 k) ∧ (∀ r, 0 ≤ r → r < R → h mBestTotals r = q.2.2.2 r)
/-- is it better? -/
def bet_ (so v m : Int) : BT_ → Prop
  | none => True
  | some q => v < q.1 ∨ so = 0 ∧ v = q.1 ∧ m < q.2.1
noncomputable def lok_ (so R : Int) (pl : Int → Int) (tot : Int → Int) (m : Int) (B : BT_) : BT_ := if_ (bet_ so (vat_ so tot 0 R) m B) (some (vat_ so tot 0 R, m, pl, tot)) B
theorem mn_cg {f g : Int → Int} {i j : Int} : ∀ n : Nat, (∀ r, 0 ≤ r → r ≤ (n : Int) → f (i + r) = g (j + r)) → mn_ f i n = mn_ g j n
  | 0, h => by have := h 0 (by omega) (by omega); rw [Int.add_zero, Int.add_zero] at this; exact this
  | n + 1, h => by unfold mn_; rw [mn_cg n (fun r r0 r1 => h r r0 (by omega)), h ((n : Int) + 1) (by omega) (by omega)]
theorem mx_cg {f g : Int → Int} {i j : Int} : ∀ n : Nat, (∀ r, 0 ≤ r → r ≤ (n : Int) → f (i + r) = g (j + r)) → mx_ f i n = mx_ g j n
  | 0, h => by have := h 0 (by omega) (by omega); rw [Int.add_zero, Int.add_zero] at this; exact this
  | n + 1, h => by unfold mx_; rw [mx_cg n (fun r r0 r1 => h r r0 (by omega)), h ((n : Int) + 1) (by omega) (by omega)]
theorem sm_cg {f g : Int → Int} {i j : Int} : ∀ n : Nat, (∀ r, 0 ≤ r → r < (n : Int) → f (i + r) = g (j + r)) → sm_ f i n = sm_ g j n
  | 0, _ => rfl
  | n + 1, h => by unfold sm_; rw [sm_cg n (fun r r0 r1 => h r r0 (by omega)), h n (by omega) (by omega)]
theorem vat_cg {so : Int} {f g : Int → Int} {i j R : Int} (hR : 1 ≤ R) (h : ∀ r, 0 ≤ r → r < R → f (i + r) = g (j + r)) : vat_ so f i R = vat_ so g j R := by
  unfold vat_ spr_
  rw [mn_cg (R - 1).toNat (fun r r0 r1 => h r r0 (by omega)), mx_cg (R - 1).toNat (fun r r0 r1 => h r r0 (by omega)), sm_cg R.toNat (fun r r0 r1 => h r r0 (by omega))]
theorem mn_t {f : Int → Int} {i r lo v : Int} (h0 : 0 ≤ r) (al : lo = mn_ f i (r - 1).toNat) (hv : v = if f (i + r) < lo then f (i + r) else lo) : v = mn_ f i (r + 1 - 1).toNat := by
  by_cases r1 : 1 ≤ r
  · rw [mn_s r1, ← al]; exact hv
  · have r0 : r = 0 := by omega
    subst r0
    have al2 : lo = f i := al
    rw [Int.add_zero, al2] at hv
    rw [hv]
    show _ = f i
    split <;> rfl
