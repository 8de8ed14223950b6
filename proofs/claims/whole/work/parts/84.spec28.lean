/-! ===== shares, as told ===== -/
noncomputable def sr1_ (tk : Nat → TK_) : Nat → Int → Nat → (Int → Int) → RE_ ((Int → Int) × Nat)
  | 0, _, a, f => .ok (f, a)
  | k + 1, i, a, f => bd_ (tkn_ tk 0 99 a) (fun q => sr1_ tk k (i + 1) q.2 (ob_ f i q.1))
noncomputable def srw_ (tk : Nat → TK_) (S r : Int) (a : Nat) (f : Int → Int) : RE_ ((Int → Int) × Nat) := bd_ (tkw_ tk 14 a) (fun b => bd_ (sr1_ tk S.toNat (4 * r) b f) (fun q => bd_ (tks2_ tk 59 q.2) (fun c => .ok (q.1, c))))
noncomputable def srl_ (tk : Nat → TK_) (S : Int) : Nat → Int → Nat → (Int → Int) → RE_ ((Int → Int) × Nat)
  | 0, _, a, f => .ok (f, a)
  | k + 1, r, a, f => bd_ (srw_ tk S r a f) (fun q => srl_ tk S k (r + 1) q.2 q.1)
noncomputable def shr_ (tk : Nat → TK_) (S R : Int) : RE_ (Int → Int) := bd_ (srl_ tk S R.toNat 0 0 (fun _ => 0)) (fun q => if_ ((tk q.2).1 = 0) (.ok q.1) (.error (flt_ tk 1 q.2)))
/-- rows below r, seats below s of row r -/
def shA_ (g f : Int → Int) (S r s : Int) : Prop := ∀ i j : Int, 0 ≤ i → 0 ≤ j → j < S → (i < r ∨ i = r ∧ j < s) → g (4 * i + j) = f (4 * i + j)
theorem shA_u {g f : Int → Int} {S r s z : Int} (hS : S ≤ 4) (H : shA_ g f S r s) (hr : 0 ≤ r) (hs : 0 ≤ s ∧ s < 4) : shA_ (ob_ g (4 * r + s) z) (ob_ f (4 * r + s) z) S r (s + 1) := fun i j i0 j0 j1 h => by
  unfold ob_
  by_cases c : 4 * i + j = 4 * r + s
  · rw [if_pos c, if_pos c]
  · rw [if_neg c, if_neg c]; exact H i j i0 j0 j1 (by omega)
def SO_ (S R : Int) (h : PH_) (z : Int) (h' : PH_) : RE_ (Int → Int) → Prop
  | .error e => z = e ∧ 0 < e ∧ h' mState = h mState
  | .ok f => z = 0 ∧ h' mState 13 = 1 ∧ (∀ i j, 0 ≤ i → i < R → 0 ≤ j → j < S → h' mState (14 + (4 * i + j)) = f (4 * i + j)) ∧ (∀ x, x < 13 ∨ 30 ≤ x → h' mState x = h mState x) ∧ ∀ k, 0 ≤ k → k < 16 → 0 ≤ h' mState (14 + k) ∧ h' mState (14 + k) ≤ 99
