/-! ===== the tape cut into tokens ===== -/
def bla_ (c : Int) : Prop := c = 10 ∨ c = 32
/-- the first place from k on that is none of these -/
noncomputable def rn_ (Q : Int → Prop) (tp : Int → Int) (n : Int) : Nat → Int → Int
  | 0, k => k
  | f + 1, k => if_ (k < n ∧ Q (tp k)) (rn_ Q tp n f (k + 1)) k
noncomputable def rnx_ (Q : Int → Prop) (tp : Int → Int) (n k : Int) : Int := rn_ Q tp n (n - k).toNat k
theorem rnx_t {Q : Int → Prop} {tp : Int → Int} {n k : Int} (h1 : k < n) (h2 : Q (tp k)) : rnx_ Q tp n k = rnx_ Q tp n (k + 1) := by
  unfold rnx_
  rw [show (n - k).toNat = (n - (k + 1)).toNat + 1 by omega]
  show if_ _ _ _ = _
  rw [if_t ⟨h1, h2⟩]
theorem rnx_f {Q : Int → Prop} {tp : Int → Int} {n k : Int} (h : ¬ (k < n ∧ Q (tp k))) : rnx_ Q tp n k = k := by
  unfold rnx_
  cases (n - k).toNat with
  | zero => rfl
  | succ f => show if_ _ _ _ = _; rw [if_f h]
theorem rn_b {Q : Int → Prop} {tp : Int → Int} {n : Int} : ∀ (f : Nat) (k : Int), f = (n - k).toNat → k ≤ n → k ≤ rn_ Q tp n f k ∧ rn_ Q tp n f k ≤ n ∧ (rn_ Q tp n f k < n → ¬ Q (tp (rn_ Q tp n f k))) ∧ ∀ x, k ≤ x → x < rn_ Q tp n f k → Q (tp x)
  | 0, k, hf, hk => by unfold rn_; exact ⟨by omega, by omega, fun h => by omega, fun x x0 x1 => by omega⟩
  | f + 1, k, hf, hk => by
    unfold rn_
    by_cases c : k < n ∧ Q (tp k)
    · rw [if_t c]
      have := rn_b (Q := Q) (tp := tp) (n := n) f (k + 1) (by omega) (by omega)
      refine ⟨by omega, this.2.1, this.2.2.1, fun x x0 x1 => ?_⟩
      by_cases e : x = k
      · rw [e]; exact c.2
      · exact this.2.2.2 x (by omega) x1
    · rw [if_f c]; exact ⟨by omega, hk, fun h q => c ⟨h, q⟩, fun x x0 x1 => by omega⟩
theorem rnx_b {Q : Int → Prop} {tp : Int → Int} {n k : Int} (hk : k ≤ n) : k ≤ rnx_ Q tp n k ∧ rnx_ Q tp n k ≤ n ∧ (rnx_ Q tp n k < n → ¬ Q (tp (rnx_ Q tp n k))) ∧ ∀ x, k ≤ x → x < rnx_ Q tp n k → Q (tp x) := rn_b _ _ rfl hk
/-- letters as numbers, to a base -/
def enc_ (B : Int) (l : List Int) : Int := l.foldl (fun a x => a * B + x) 0
/-- the letters from k to e -/
def wls_ (tp : Int → Int) : Nat → Int → List Int
  | 0, _ => []
  | f + 1, k => (tp k - 96) :: wls_ tp f (k + 1)
/-- digits from k on -/
def nus_ (tp : Int → Int) : Nat → Int → Int → Int
  | 0, _, v => v
  | f + 1, k, v => nus_ tp f (k + 1) (10 * v + tp k - 48)
/-- a token: its sort (0 the end, 1 word, 2 number, 3 sign, 4 none), place, number or sign, letters; and where it ends -/
abbrev TK_ : Type := Int × Int × Int × List Int
noncomputable def tpl_ (tp : Int → Int) (n k : Int) : Int := rnx_ bla_ tp n k
noncomputable def ten_ (tp : Int → Int) (n p : Int) : Int := if_ (n ≤ p) p (if_ (let_ (tp p)) (rnx_ let_ tp n p) (if_ (dig_ (tp p)) (rnx_ dig_ tp n p) (p + 1)))
noncomputable def tso_ (tp : Int → Int) (n p : Int) : Int := if_ (n ≤ p) 0 (if_ (let_ (tp p)) (if ten_ tp n p - p ≤ 8 then 1 else 4) (if_ (dig_ (tp p)) (if ten_ tp n p - p ≤ 4 then 2 else 4) (if_ (sof_ (tp p)) 3 4)))
noncomputable def tnu_ (tp : Int → Int) (n p : Int) : Int := if_ (dig_ (tp p)) (nus_ tp (ten_ tp n p - p).toNat p 0) (tp p)
noncomputable def twl_ (tp : Int → Int) (n p : Int) : List Int := wls_ tp (ten_ tp n p - p).toNat p
noncomputable def tok1_ (tp : Int → Int) (n p : Int) : TK_ := (tso_ tp n p, p, tnu_ tp n p, twl_ tp n p)
/-- where the i-th token is looked for -/
noncomputable def tkp_ (tp : Int → Int) (n : Int) : Nat → Int
  | 0 => 0
  | i + 1 => ten_ tp n (tpl_ tp n (tkp_ tp n i))
noncomputable def tk_ (tp : Int → Int) (n : Int) (i : Nat) : TK_ := tok1_ tp n (tpl_ tp n (tkp_ tp n i))
theorem ten_b {tp : Int → Int} {n p : Int} (hp : p ≤ n) : p ≤ ten_ tp n p ∧ ten_ tp n p ≤ n ∧ (p < n → p < ten_ tp n p) := by
  unfold ten_
  by_cases c0 : n ≤ p
  · rw [if_t c0]; omega
  · rw [if_f c0]
    by_cases c1 : let_ (tp p)
    · rw [if_t c1]
      have := rnx_b (Q := let_) (tp := tp) (n := n) (k := p + 1) (by omega)
      rw [rnx_t (by omega) c1]; omega
    · rw [if_f c1]
      by_cases c2 : dig_ (tp p)
      · rw [if_t c2]
        have := rnx_b (Q := dig_) (tp := tp) (n := n) (k := p + 1) (by omega)
        rw [rnx_t (by omega) c2]; omega
      · rw [if_f c2]; omega
theorem tkp_b {tp : Int → Int} {n : Int} (hn : 0 ≤ n) : ∀ i : Nat, 0 ≤ tkp_ tp n i ∧ tkp_ tp n i ≤ n
  | 0 => by unfold tkp_; omega
  | i + 1 => by
    have h1 := tkp_b (tp := tp) hn i
    have h2 := rnx_b (Q := bla_) (tp := tp) (n := n) (k := tkp_ tp n i) h1.2
    have h3 := ten_b (tp := tp) (n := n) (p := tpl_ tp n (tkp_ tp n i)) h2.2.1
    have h4 : tkp_ tp n (i + 1) = ten_ tp n (tpl_ tp n (tkp_ tp n i)) := rfl
    have h5 : tpl_ tp n (tkp_ tp n i) = rnx_ bla_ tp n (tkp_ tp n i) := rfl
    rw [h4]; rw [h5] at h3 ⊢; omega
theorem enc_s {B : Int} {l : List Int} {x : Int} : enc_ B (l ++ [x]) = enc_ B l * B + x := by unfold enc_; rw [List.foldl_append]; rfl
theorem enc_inj {B : Int} (hB : 27 ≤ B) : ∀ (a b : List Int), (∀ x ∈ a, 1 ≤ x ∧ x ≤ 26) → (∀ x ∈ b, 1 ≤ x ∧ x ≤ 26) → enc_ B a.reverse = enc_ B b.reverse → a = b
  | [], [], _, _, _ => rfl
  | [], y :: b, _, hb, h => by
    exfalso
    have nn : ∀ l : List Int, (∀ x ∈ l, 1 ≤ x ∧ x ≤ 26) → 0 ≤ enc_ B l.reverse := by
      intro l
      induction l with
      | nil => intro _; show (0 : Int) ≤ 0; omega
      | cons z l ih =>
        intro hl
        rw [List.reverse_cons, enc_s]
        have := ih (fun x hx => hl x (List.mem_cons_of_mem _ hx))
        have := hl z List.mem_cons_self
        have := Int.mul_nonneg (ih (fun x hx => hl x (List.mem_cons_of_mem _ hx))) (show 0 ≤ B by omega)
        omega
    rw [List.reverse_cons, enc_s] at h
    have h0 : enc_ B ([] : List Int).reverse = 0 := rfl
    have h1 := Int.mul_nonneg (nn b (fun x hx => hb x (List.mem_cons_of_mem _ hx))) (show 0 ≤ B by omega)
    have h2 := hb y List.mem_cons_self
    omega
  | x :: a, [], ha, hb, h => by
    exfalso
    have nn : ∀ l : List Int, (∀ x ∈ l, 1 ≤ x ∧ x ≤ 26) → 0 ≤ enc_ B l.reverse := by
      intro l
      induction l with
      | nil => intro _; show (0 : Int) ≤ 0; omega
      | cons z l ih =>
        intro hl
        rw [List.reverse_cons, enc_s]
        have := ih (fun x hx => hl x (List.mem_cons_of_mem _ hx))
        have := hl z List.mem_cons_self
        have := Int.mul_nonneg (ih (fun x hx => hl x (List.mem_cons_of_mem _ hx))) (show 0 ≤ B by omega)
        omega
    rw [List.reverse_cons, enc_s] at h
    have h0 : enc_ B ([] : List Int).reverse = 0 := rfl
    have h1 := Int.mul_nonneg (nn a (fun x hx => ha x (List.mem_cons_of_mem _ hx))) (show 0 ≤ B by omega)
    have h2 := ha x List.mem_cons_self
    omega
  | x :: a, y :: b, ha, hb, h => by
    rw [List.reverse_cons, List.reverse_cons, enc_s, enc_s] at h
    have h1 := ha x List.mem_cons_self
    have h2 := hb y List.mem_cons_self
    have e1 : (enc_ B a.reverse * B + x) % B = x := by rw [Int.add_comm, Int.add_mul_emod_self_right]; exact Int.emod_eq_of_lt (by omega) (by omega)
    have e2 : (enc_ B b.reverse * B + y) % B = y := by rw [Int.add_comm, Int.add_mul_emod_self_right]; exact Int.emod_eq_of_lt (by omega) (by omega)
    rw [h, e2] at e1
    subst e1
    have h3 : enc_ B a.reverse * B = enc_ B b.reverse * B := by omega
    have h4 := Int.eq_of_mul_eq_mul_right (show B ≠ 0 by omega) h3
    rw [enc_inj hB a b (fun x hx => ha x (List.mem_cons_of_mem _ hx)) (fun x hx => hb x (List.mem_cons_of_mem _ hx)) h4]
def lok2_ (l : List Int) : Prop := ∀ x ∈ l, 1 ≤ x ∧ x ≤ 26
theorem enc_eq {B : Int} (hB : 27 ≤ B) {a b : List Int} (ha : lok2_ a) (hb : lok2_ b) : enc_ B a = enc_ B b ↔ a = b := by
  constructor
  · intro h
    have := enc_inj hB a.reverse b.reverse (fun x hx => ha x (List.mem_reverse.mp hx)) (fun x hx => hb x (List.mem_reverse.mp hx)) (by rw [List.reverse_reverse, List.reverse_reverse]; exact h)
    exact List.reverse_inj.mp this
  · intro h; rw [h]
theorem wls_ok {tp : Int → Int} : ∀ (f : Nat) (k : Int), (∀ x, k ≤ x → x < k + f → let_ (tp x)) → lok2_ (wls_ tp f k) ∧ (wls_ tp f k).length = f
  | 0, k, _ => ⟨fun x hx => (by cases hx), rfl⟩
  | f + 1, k, h => by
    have h1 := wls_ok (tp := tp) f (k + 1) (fun x x0 x1 => h x (by omega) (by omega))
    have h2 := h k (by omega) (by omega)
    unfold let_ at h2
    refine ⟨fun x hx => ?_, by show (wls_ tp f (k + 1)).length + 1 = _; rw [h1.2]⟩
    unfold wls_ at hx
    rcases List.mem_cons.mp hx with e | e
    · rw [e]; omega
    · exact h1.1 x e
theorem wls_s {tp : Int → Int} : ∀ (f : Nat) (k : Int), wls_ tp (f + 1) k = wls_ tp f k ++ [tp (k + f) - 96]
  | 0, k => by show [tp k - 96] = [] ++ [tp (k + 0) - 96]; rw [Int.add_zero]; rfl
  | f + 1, k => by
    show (tp k - 96) :: wls_ tp (f + 1) (k + 1) = ((tp k - 96) :: wls_ tp f (k + 1)) ++ [tp (k + ((f + 1 : Nat) : Int)) - 96]
    rw [wls_s f (k + 1), show k + 1 + (f : Int) = k + ((f + 1 : Nat) : Int) by omega]; rfl
theorem nus_s {tp : Int → Int} : ∀ (f : Nat) (k v : Int), nus_ tp (f + 1) k v = 10 * nus_ tp f k v + tp (k + f) - 48
  | 0, k, v => by show 10 * v + tp k - 48 = 10 * v + tp (k + 0) - 48; rw [Int.add_zero]
  | f + 1, k, v => by
    show nus_ tp (f + 1) (k + 1) (10 * v + tp k - 48) = 10 * nus_ tp f (k + 1) (10 * v + tp k - 48) + tp (k + ((f + 1 : Nat) : Int)) - 48
    rw [nus_s f (k + 1), show k + 1 + (f : Int) = k + ((f + 1 : Nat) : Int) by omega]
theorem enc_b {B : Int} (hB : 27 ≤ B ∧ B ≤ 37) : ∀ (l : List Int), lok2_ l → 0 ≤ enc_ B l ∧ enc_ B l < B ^ l.length := by
  intro l
  have key : ∀ r : List Int, (∀ x ∈ r, 1 ≤ x ∧ x ≤ 26) → 0 ≤ enc_ B r.reverse ∧ enc_ B r.reverse < B ^ r.length := by
    intro r
    induction r with
    | nil => intro _; refine ⟨Int.le_refl _, ?_⟩; rw [List.length_nil, Int.pow_zero]; show (0 : Int) < 1; omega
    | cons x r ih =>
      intro h
      have i1 := ih (fun y hy => h y (List.mem_cons_of_mem _ hy))
      have i2 := h x List.mem_cons_self
      rw [List.reverse_cons, enc_s, List.length_cons, Int.pow_succ]
      have i3 := Int.mul_nonneg i1.1 (show 0 ≤ B by omega)
      have i4 : (enc_ B r.reverse + 1) * B ≤ B ^ r.length * B := Int.mul_le_mul_of_nonneg_right (by omega) (by omega)
      rw [Int.add_mul] at i4
      omega
  intro h
  have := key l.reverse (fun x hx => h x (List.mem_reverse.mp hx))
  rw [List.reverse_reverse, List.length_reverse] at this
  exact this
