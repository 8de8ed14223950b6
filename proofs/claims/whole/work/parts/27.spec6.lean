/-! ===== sums, leasts, choices ===== -/
noncomputable def tks_ (ro : Int → Int) (r t free : Int) : Nat → Int
  | 0 => -1
  | s + 1 => if_ ((free / 2 ^ s % 2 = 1 ∧ may_ ro r s) ∧ (tks_ ro r t free s < 0 ∨ ro (11 + 5 * t + (1 + tks_ ro r t free s)) < ro (11 + 5 * t + (1 + (s : Int))))) (s : Int) (tks_ ro r t free s)
theorem tks_s {ro : Int → Int} {r t free s : Int} (h : 0 ≤ s) : tks_ ro r t free (s + 1).toNat = if_ ((free / 2 ^ s.toNat % 2 = 1 ∧ may_ ro r s) ∧ (tks_ ro r t free s.toNat < 0 ∨ ro (11 + 5 * t + (1 + tks_ ro r t free s.toNat)) < ro (11 + 5 * t + (1 + s)))) s (tks_ ro r t free s.toNat) := by
  rw [tn_s h]; show if_ ((free / 2 ^ s.toNat % 2 = 1 ∧ may_ ro r (s.toNat : Int)) ∧ (_ ∨ _ < ro (11 + 5 * t + (1 + (s.toNat : Int))))) (s.toNat : Int) _ = _; rw [tn_c h]
theorem tks_b (ro : Int → Int) (r t free : Int) : ∀ n, -1 ≤ tks_ ro r t free n ∧ tks_ ro r t free n < (n : Int) ∨ n = 0 ∧ tks_ ro r t free n = -1
  | 0 => Or.inr ⟨rfl, rfl⟩
  | n + 1 => by
    have := tks_b ro r t free n
    refine Or.inl ?_
    unfold tks_
    by_cases c : ((free / 2 ^ n % 2 = 1 ∧ may_ ro r n) ∧ (tks_ ro r t free n < 0 ∨ ro (11 + 5 * t + (1 + tks_ ro r t free n)) < ro (11 + 5 * t + (1 + (n : Int)))))
    · rw [if_t c]; omega
    · rw [if_f c]; omega
def das_ (ro : Int → Int) (left : Int) : Nat → Int
  | 0 => 0
  | r + 1 => das_ ro left r + (if left / 2 ^ r % 2 = 1 then ro (31 + 4 * (r : Int) + 1) else 0)
theorem das_s {ro : Int → Int} {left r : Int} (h : 0 ≤ r) : das_ ro left (r + 1).toNat = das_ ro left r.toNat + (if left / 2 ^ r.toNat % 2 = 1 then ro (31 + 4 * r + 1) else 0) := by rw [tn_s h]; show das_ ro left r.toNat + (if _ then ro (31 + 4 * (r.toNat : Int) + 1) else 0) = _; rw [tn_c h]
theorem das_b {ro : Int → Int} {left : Int} : ∀ n : Nat, (∀ r, 0 ≤ r → r < (n : Int) → 1 ≤ ro (31 + 4 * r + 1) ∧ ro (31 + 4 * r + 1) ≤ 9) → 0 ≤ das_ ro left n ∧ das_ ro left n ≤ 9 * n
  | 0, _ => by unfold das_; omega
  | n + 1, h => by
    have := das_b (left := left) n (fun r r0 r1 => h r r0 (by omega))
    have := h n (by omega) (by omega)
    unfold das_; split <;> omega
def pln_ (si : Int → Int) : Nat → Int
  | 0 => 0
  | r + 1 => 4 * pln_ si r + si r
theorem pln_s {si : Int → Int} {r : Int} (h : 0 ≤ r) : pln_ si (r + 1).toNat = 4 * pln_ si r.toNat + si r := by rw [tn_s h]; show 4 * pln_ si r.toNat + si (r.toNat : Int) = _; rw [tn_c h]
theorem pln_b {si : Int → Int} : ∀ n : Nat, n ≤ 4 → (∀ r, 0 ≤ r → r < (n : Int) → 0 ≤ si r ∧ si r ≤ 3) → 0 ≤ pln_ si n ∧ pln_ si n < 4 ^ n
  | 0, _, _ => by unfold pln_; decide
  | n + 1, h4, h => by
    have h1 := pln_b (si := si) n (by omega) (fun r r0 r1 => h r r0 (by omega))
    have h2 := h n (by omega) (by omega)
    unfold pln_; rw [Int.pow_succ]; omega
/-- the least and the greatest of f i .. f (i + n) -/
def mn_ (f : Int → Int) (i : Int) : Nat → Int
  | 0 => f i
  | n + 1 => if f (i + ((n : Int) + 1)) < mn_ f i n then f (i + ((n : Int) + 1)) else mn_ f i n
def mx_ (f : Int → Int) (i : Int) : Nat → Int
  | 0 => f i
  | n + 1 => if mx_ f i n < f (i + ((n : Int) + 1)) then f (i + ((n : Int) + 1)) else mx_ f i n
theorem mn_s {f : Int → Int} {i r : Int} (h : 1 ≤ r) : mn_ f i (r + 1 - 1).toNat = if f (i + r) < mn_ f i (r - 1).toNat then f (i + r) else mn_ f i (r - 1).toNat := by
  rw [show (r + 1 - 1).toNat = (r - 1).toNat + 1 by omega]; show (if f (i + (((r - 1).toNat : Int) + 1)) < _ then f (i + (((r - 1).toNat : Int) + 1)) else _) = _; rw [show (((r - 1).toNat : Nat) : Int) + 1 = r by omega]
theorem mx_s {f : Int → Int} {i r : Int} (h : 1 ≤ r) : mx_ f i (r + 1 - 1).toNat = if mx_ f i (r - 1).toNat < f (i + r) then f (i + r) else mx_ f i (r - 1).toNat := by
  rw [show (r + 1 - 1).toNat = (r - 1).toNat + 1 by omega]; show (if _ < f (i + (((r - 1).toNat : Int) + 1)) then f (i + (((r - 1).toNat : Int) + 1)) else _) = _; rw [show (((r - 1).toNat : Nat) : Int) + 1 = r by omega]
theorem mn_b {f : Int → Int} {i B : Int} : ∀ n : Nat, (∀ r, 0 ≤ r → r ≤ (n : Int) → -B ≤ f (i + r) ∧ f (i + r) ≤ B) → -B ≤ mn_ f i n ∧ mn_ f i n ≤ B
  | 0, h => by have := h 0 (by omega) (by omega); rw [Int.add_zero] at this; exact this
  | n + 1, h => by have := mn_b (f := f) (i := i) (B := B) n (fun r r0 r1 => h r r0 (by omega)); have := h ((n : Int) + 1) (by omega) (by omega); unfold mn_; split <;> omega
theorem mx_b {f : Int → Int} {i B : Int} : ∀ n : Nat, (∀ r, 0 ≤ r → r ≤ (n : Int) → -B ≤ f (i + r) ∧ f (i + r) ≤ B) → -B ≤ mx_ f i n ∧ mx_ f i n ≤ B
  | 0, h => by have := h 0 (by omega) (by omega); rw [Int.add_zero] at this; exact this
  | n + 1, h => by have := mx_b (f := f) (i := i) (B := B) n (fun r r0 r1 => h r r0 (by omega)); have := h ((n : Int) + 1) (by omega) (by omega); unfold mx_; split <;> omega
def spr_ (f : Int → Int) (i R : Int) : Int := mx_ f i (R - 1).toNat - mn_ f i (R - 1).toNat
def bit_ (x : Int) : Nat → Int
  | 0 => 0
  | k + 1 => bit_ x k + x / 2 ^ k % 2
theorem bit_s {x k : Int} (h : 0 ≤ k) : bit_ x (k + 1).toNat = bit_ x k.toNat + x / 2 ^ k.toNat % 2 := by rw [tn_s h]; rfl
theorem bit_b (x : Int) : ∀ n, 0 ≤ bit_ x n ∧ bit_ x n ≤ n
  | 0 => by unfold bit_; omega
  | n + 1 => by have := bit_b x n; unfold bit_; omega
/-- who changes between two plans: bits -/
def chg_ (R : Int) (a b : Int) : Nat → Nat
  | 0 => 0
  | k + 1 => chg_ R a b k ||| (if dv_ k a % 4 = dv_ k b % 4 then 0 else 2 ^ (R - 1 - k).toNat)
theorem chg_lt {R a b : Int} (hR : 0 ≤ R ∧ R ≤ 4) : ∀ k : Nat, (k : Int) ≤ R → chg_ R a b k < 16
  | 0, _ => by unfold chg_; decide
  | k + 1, hk => by
    have h1 := chg_lt (a := a) (b := b) hR k (by omega)
    unfold chg_
    refine Nat.or_lt_two_pow (n := 4) h1 ?_
    split
    · decide
    · exact Nat.pow_lt_pow_right (by decide) (by omega)
/-- the least minutes left along a plan -/
def lst_ (lf si : Int → Int) : Nat → Int
  | 0 => 1000000000
  | r + 1 => if lf (4 * (r : Int) + si r) < lst_ lf si r then lf (4 * (r : Int) + si r) else lst_ lf si r
theorem lst_s {lf si : Int → Int} {r : Int} (h : 0 ≤ r) : lst_ lf si (r + 1).toNat = if lf (4 * r + si r) < lst_ lf si r.toNat then lf (4 * r + si r) else lst_ lf si r.toNat := by rw [tn_s h]; show (if lf (4 * (r.toNat : Int) + si (r.toNat : Int)) < _ then lf (4 * (r.toNat : Int) + si (r.toNat : Int)) else _) = _; rw [tn_c h]
/-- sums across and down -/
def acr_ (f : Int → Int) (k : Int) : Nat → Int
  | 0 => 0
  | e + 1 => acr_ f k e + f (14 + 4 * k + e)
def dwn_ (f : Int → Int) (k : Int) : Nat → Int
  | 0 => 0
  | e + 1 => dwn_ f k e + f (14 + 4 * (e : Int) + k)
theorem acr_s {f : Int → Int} {k e : Int} (h : 0 ≤ e) : acr_ f k (e + 1).toNat = acr_ f k e.toNat + f (14 + 4 * k + e) := by rw [tn_s h]; show acr_ f k e.toNat + f (14 + 4 * k + (e.toNat : Int)) = _; rw [tn_c h]
theorem dwn_s {f : Int → Int} {k e : Int} (h : 0 ≤ e) : dwn_ f k (e + 1).toNat = dwn_ f k e.toNat + f (14 + 4 * e + k) := by rw [tn_s h]; show dwn_ f k e.toNat + f (14 + 4 * (e.toNat : Int) + k) = _; rw [tn_c h]
theorem acr_b {f : Int → Int} {k : Int} : ∀ n : Nat, (∀ e, 0 ≤ e → e < (n : Int) → 0 ≤ f (14 + 4 * k + e) ∧ f (14 + 4 * k + e) ≤ 99) → 0 ≤ acr_ f k n ∧ acr_ f k n ≤ 99 * n
  | 0, _ => by unfold acr_; omega
  | n + 1, h => by have := acr_b (f := f) (k := k) n (fun e e0 e1 => h e e0 (by omega)); have := h n (by omega) (by omega); unfold acr_; omega
theorem dwn_b {f : Int → Int} {k : Int} : ∀ n : Nat, (∀ e, 0 ≤ e → e < (n : Int) → 0 ≤ f (14 + 4 * e + k) ∧ f (14 + 4 * e + k) ≤ 99) → 0 ≤ dwn_ f k n ∧ dwn_ f k n ≤ 99 * n
  | 0, _ => by unfold dwn_; omega
  | n + 1, h => by have := dwn_b (f := f) (k := k) n (fun e e0 e1 => h e e0 (by omega)); have := h n (by omega) (by omega); unfold dwn_; omega
def adu_ (f : Int → Int) (S m : Int) : Nat → Prop
  | 0 => True
  | k + 1 => adu_ f S m k ∧ acr_ f k S.toNat = m ∧ dwn_ f k S.toNat = m
theorem adu_s {f : Int → Int} {S m k : Int} (h : 0 ≤ k) : adu_ f S m (k + 1).toNat ↔ adu_ f S m k.toNat ∧ acr_ f k S.toNat = m ∧ dwn_ f k S.toNat = m := by rw [tn_s h]; show adu_ f S m k.toNat ∧ acr_ f (k.toNat : Int) S.toNat = m ∧ dwn_ f (k.toNat : Int) S.toNat = m ↔ _; rw [tn_c h]
theorem adu_d {f : Int → Int} {S m : Int} : ∀ {a b : Nat}, a ≤ b → adu_ f S m b → adu_ f S m a
  | a, 0, h, hb => by rw [show a = 0 by omega]; exact hb
  | a, b + 1, h, hb => by
    by_cases e : a = b + 1
    · rw [e]; exact hb
    · exact adu_d (by omega) hb.1
/-- whether a plan's seats are as seen on stretch t -/
def sen_ (f si : Int → Int) (t : Int) : Nat → Prop
  | 0 => True
  | k + 1 => sen_ f si t k ∧ (f (31 + 4 * (k : Int) + 2) ≠ t ∨ (si (f (31 + 4 * (k : Int))) = f (31 + 4 * (k : Int) + 1) ↔ f (31 + 4 * (k : Int) + 3) = 1))
theorem sen_s {f si : Int → Int} {t k : Int} (h : 0 ≤ k) : sen_ f si t (k + 1).toNat ↔ sen_ f si t k.toNat ∧ (f (31 + 4 * k + 2) ≠ t ∨ (si (f (31 + 4 * k)) = f (31 + 4 * k + 1) ↔ f (31 + 4 * k + 3) = 1)) := by rw [tn_s h]; show sen_ f si t k.toNat ∧ _ ↔ _; rw [tn_c h]
