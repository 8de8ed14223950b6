/-! ===== prices that are settled ===== -/
theorem tbp_all {S R : Int} {W : Int → Int → Int} (hS : 2 ≤ S ∧ S ≤ 4) (hR : 0 ≤ R ∧ R ≤ 4) : ∀ k : Nat, tbp_ S R W (((2 : Int) ^ (2 * R).toNat).toNat + k) = tbp_ S R W ((2 : Int) ^ (2 * R).toNat).toNat
  | 0 => rfl
  | k + 1 => by
    have e : tbp_ S R W ((((2 : Int) ^ (2 * R).toNat).toNat + k) + 1) = tbp_ S R W (((2 : Int) ^ (2 * R).toNat).toNat + k) := by
      show if_ _ _ _ = _
      refine if_f (fun u => ?_)
      have := ((vp_sea hS hR).mp u.1).2.1
      have := p2R hR.1 hR.2
      omega
    exact e.trans (tbp_all hS hR k)
theorem tbp_256 {S R : Int} {W : Int → Int → Int} (hS : 2 ≤ S ∧ S ≤ 4) (hR : 0 ≤ R ∧ R ≤ 4) : tbp_ S R W ((2 : Int) ^ (2 * R).toNat).toNat = tbp_ S R W 256 := by
  have := p2R hR.1 hR.2
  rw [← tbp_all hS hR (256 - ((2 : Int) ^ (2 * R).toNat).toNat)]
  congr 1
  omega
section TXP
variable {W : Int → Int → Int} {hs pr : Int → Int}
theorem txs_m {r s : Int} (x : Int) : pr x ≤ txs_ W hs r s pr x := by
  unfold txs_ ob_
  by_cases c : x = s
  · rw [if_pos c, c]; split <;> omega
  · rw [if_neg c]; exact Int.le_refl _
theorem tx1_m {r : Int} : ∀ (n : Nat) (x : Int), pr x ≤ tx1_ W hs r n pr x
  | 0, _ => Int.le_refl _
  | n + 1, x => Int.le_trans (tx1_m n x) (txs_m (pr := tx1_ W hs r n pr) x)
theorem tx2_m {S : Nat} : ∀ (n : Nat) (x : Int), pr x ≤ tx2_ W hs S n pr x
  | 0, _ => Int.le_refl _
  | n + 1, x => Int.le_trans (tx2_m n x) (tx1_m (pr := tx2_ W hs S n pr) S x)
theorem tx1_r {r : Int} : ∀ (n : Nat) (s : Int), 0 ≤ s → s < n → pr (hs r) + W r s - W r (hs r) ≤ tx1_ W hs r n pr s
  | 0, s, h0, h1 => by omega
  | n + 1, s, h0, h1 => by
    show _ ≤ txs_ W hs r (n : Int) (tx1_ W hs r n pr) s
    by_cases c : s = n
    · subst c
      unfold txs_ ob_
      rw [if_pos rfl, tx1_h]
      split <;> omega
    · exact Int.le_trans (tx1_r n s h0 (by omega)) (txs_m s)
theorem tx2_r {S : Nat} : ∀ (n : Nat) (r s : Int), 0 ≤ r → r < n → 0 ≤ s → s < S → pr (hs r) + W r s - W r (hs r) ≤ tx2_ W hs S n pr s
  | 0, r, s, h0, h1, _, _ => by omega
  | n + 1, r, s, h0, h1, h2, h3 => by
    show _ ≤ tx1_ W hs (n : Int) S (tx2_ W hs S n pr) s
    by_cases c : r = n
    · subst c
      have a1 := tx1_r (W := W) (hs := hs) (pr := tx2_ W hs S n pr) (r := (n : Int)) S s h2 h3
      have a2 := tx2_m (W := W) (hs := hs) (pr := pr) (S := S) n (hs n)
      omega
    · exact Int.le_trans (tx2_r n r s h0 (by omega) h2 h3) (tx1_m S s)
/-- no rider would rather: what can't be passed -/
def clr_ (W : Int → Int → Int) (hs : Int → Int) (R : Int) (E : Int → Int) : Prop := ∀ r q, 0 ≤ r → r < R → 0 ≤ q → q < R → E r + (W r (hs q) - W r (hs r)) ≤ E q
theorem txs_u {E : Int → Int} {R r s : Int} (hc : clr_ W hs R E) (hr : 0 ≤ r ∧ r < R) (h : ∀ q, 0 ≤ q → q < R → pr (hs q) ≤ E q) : ∀ q, 0 ≤ q → q < R → txs_ W hs r s pr (hs q) ≤ E q := fun q q0 q1 => by
  have a1 := h q q0 q1
  have a2 := h r hr.1 hr.2
  have a3 := hc r q hr.1 hr.2 q0 q1
  unfold txs_ ob_
  by_cases c : hs q = s
  · rw [if_pos c, ← c]; split <;> omega
  · rw [if_neg c]; exact a1
theorem tx1_u {E : Int → Int} {R r : Int} (hc : clr_ W hs R E) (hr : 0 ≤ r ∧ r < R) (h : ∀ q, 0 ≤ q → q < R → pr (hs q) ≤ E q) : ∀ (n : Nat) (q : Int), 0 ≤ q → q < R → tx1_ W hs r n pr (hs q) ≤ E q
  | 0 => h
  | n + 1 => txs_u hc hr (tx1_u hc hr h n)
theorem tx2_u {E : Int → Int} {R : Int} {S : Nat} (hc : clr_ W hs R E) (h : ∀ q, 0 ≤ q → q < R → pr (hs q) ≤ E q) : ∀ (n : Nat), n ≤ R → ∀ q, 0 ≤ q → q < R → tx2_ W hs S n pr (hs q) ≤ E q
  | 0, _ => h
  | n + 1, hn => tx1_u hc ⟨by omega, by omega⟩ (tx2_u hc h n (by omega)) S
theorem tx3_u {E : Int → Int} {R : Int} {S : Nat} (hR : 0 ≤ R) (hc : clr_ W hs R E) (h : ∀ q, 0 ≤ q → q < R → pr (hs q) ≤ E q) : ∀ (k : Nat) (q : Int), 0 ≤ q → q < R → tx3_ W hs S R.toNat k pr (hs q) ≤ E q
  | 0 => h
  | k + 1 => tx2_u hc (tx3_u hR hc h k) R.toNat (by omega)
theorem txs_c {r s : Int} (h : pr (hs r) + W r s - W r (hs r) ≤ pr s) : txs_ W hs r s pr = pr := by
  funext x
  unfold txs_ ob_
  by_cases c : x = s
  · rw [if_pos c, c, if_neg (by omega)]
  · rw [if_neg c]
theorem tx1_c {r : Int} : ∀ (n : Nat), (∀ s, 0 ≤ s → s < (n : Int) → pr (hs r) + W r s - W r (hs r) ≤ pr s) → tx1_ W hs r n pr = pr
  | 0, _ => rfl
  | n + 1, h => by
    show txs_ W hs r (n : Int) (tx1_ W hs r n pr) = pr
    rw [tx1_c n (fun s a b => h s a (by omega))]
    exact txs_c (h n (by omega) (by omega))
theorem tx2_c {S : Nat} : ∀ (n : Nat), (∀ r s, 0 ≤ r → r < (n : Int) → 0 ≤ s → s < (S : Int) → pr (hs r) + W r s - W r (hs r) ≤ pr s) → tx2_ W hs S n pr = pr
  | 0, _ => rfl
  | n + 1, h => by
    show tx1_ W hs (n : Int) S (tx2_ W hs S n pr) = pr
    rw [tx2_c n (fun r s a b => h r s a (by omega))]
    exact tx1_c S (fun s a b => h n s (by omega) (by omega) a b)
theorem tx3_c {S R : Nat} {k : Nat} (h : ∀ r s, 0 ≤ r → r < (R : Int) → 0 ≤ s → s < (S : Int) → tx3_ W hs S R k pr (hs r) + W r s - W r (hs r) ≤ tx3_ W hs S R k pr s) : ∀ j : Nat, tx3_ W hs S R (k + j) pr = tx3_ W hs S R k pr
  | 0 => rfl
  | j + 1 => by
    show tx2_ W hs S R (tx3_ W hs S R (k + j) pr) = _
    rw [tx3_c h j]
    exact tx2_c R h
theorem tx3_m {S R : Nat} (k : Nat) (x : Int) : tx3_ W hs S R k pr x ≤ tx3_ W hs S R (k + 1) pr x := tx2_m (pr := tx3_ W hs S R k pr) R x
end TXP
theorem mx_ge {f : Int → Int} : ∀ (n : Nat) (r : Int), 0 ≤ r → r ≤ (n : Int) → f r ≤ mx_ f 0 n
  | 0, r, h0, h1 => by rw [show r = 0 by omega]; exact Int.le_refl _
  | n + 1, r, h0, h1 => by
    unfold mx_
    by_cases c : r = (n : Int) + 1
    · rw [c, Int.zero_add]; split <;> omega
    · have := mx_ge (f := f) n r h0 (by omega)
      split <;> omega
theorem mx_ex {f : Int → Int} : ∀ (n : Nat), ∃ r : Int, 0 ≤ r ∧ r ≤ (n : Int) ∧ mx_ f 0 n = f r
  | 0 => ⟨0, by omega, by omega, rfl⟩
  | n + 1 => by
    obtain ⟨r, a, b, c⟩ := mx_ex (f := f) n
    unfold mx_
    by_cases d : mx_ f 0 n < f (0 + ((n : Int) + 1))
    · rw [if_pos d]; exact ⟨(n : Int) + 1, by omega, by omega, by rw [Int.zero_add]⟩
    · rw [if_neg d]; exact ⟨r, a, by omega, c⟩
/-- the best of all walks of k steps -/
def wlk_ (v : Int → Int → Int) (n : Nat) : Nat → Int → Int
  | 0, _ => 0
  | k + 1, q => mx_ (fun r => wlk_ v n k r + v r q) 0 n
theorem wlk_3 {v : Int → Int → Int} {n : Nat} (q : Int) : ∃ a b c : Int, (0 ≤ a ∧ a ≤ n) ∧ (0 ≤ b ∧ b ≤ n) ∧ (0 ≤ c ∧ c ≤ n) ∧ wlk_ v n 3 q = v a b + v b c + v c q := by
  obtain ⟨c, c0, c1, c2⟩ := mx_ex (f := fun r => wlk_ v n 2 r + v r q) n
  obtain ⟨b, b0, b1, b2⟩ := mx_ex (f := fun r => wlk_ v n 1 r + v r c) n
  obtain ⟨a, a0, a1, a2⟩ := mx_ex (f := fun r => wlk_ v n 0 r + v r b) n
  refine ⟨a, b, c, ⟨a0, a1⟩, ⟨b0, b1⟩, ⟨c0, c1⟩, ?_⟩
  show mx_ (fun r => wlk_ v n 2 r + v r q) 0 n = _
  rw [c2]
  show mx_ (fun r => wlk_ v n 1 r + v r c) 0 n + v c q = _
  rw [b2]
  show mx_ (fun r => wlk_ v n 0 r + v r b) 0 n + v b c + v c q = _
  rw [a2]
  show 0 + v a b + v b c + v c q = _
  omega
theorem wlk_g {v : Int → Int → Int} {n k : Nat} {r q : Int} (h : 0 ≤ r ∧ r ≤ n) : wlk_ v n k r + v r q ≤ wlk_ v n (k + 1) q := mx_ge (f := fun r => wlk_ v n k r + v r q) n r h.1 h.2
theorem wlk_g3 {v : Int → Int → Int} {n : Nat} {a b c q : Int} (ha : 0 ≤ a ∧ a ≤ n) (hb : 0 ≤ b ∧ b ≤ n) (hc : 0 ≤ c ∧ c ≤ n) : v a b + v b c + v c q ≤ wlk_ v n 3 q := by
  have h1 : wlk_ v n 0 a + v a b ≤ wlk_ v n 1 b := wlk_g ha
  have h2 : wlk_ v n 1 b + v b c ≤ wlk_ v n 2 c := wlk_g hb
  have h3 : wlk_ v n 2 c + v c q ≤ wlk_ v n 3 q := wlk_g hc
  have h0 : wlk_ v n 0 a = 0 := rfl
  omega
/-- no round brings anything -/
def cyc_ (v : Int → Int → Int) (R : Int) : Prop := (∀ a, v a a = 0) ∧ (∀ a b, 0 ≤ a → a < R → 0 ≤ b → b < R → v a b + v b a ≤ 0) ∧ (∀ a b c, 0 ≤ a → a < R → 0 ≤ b → b < R → 0 ≤ c → c < R → v a b + v b c + v c a ≤ 0) ∧ (∀ a b c d, 0 ≤ a → a < R → 0 ≤ b → b < R → 0 ≤ c → c < R → 0 ≤ d → d < R → v a b + v b c + v c d + v d a ≤ 0)
theorem pig_5 {a b c r q : Int} (ha : 0 ≤ a ∧ a ≤ 3) (hb : 0 ≤ b ∧ b ≤ 3) (hc : 0 ≤ c ∧ c ≤ 3) (hr : 0 ≤ r ∧ r ≤ 3) (hq : 0 ≤ q ∧ q ≤ 3) : a = b ∨ a = c ∨ a = r ∨ a = q ∨ b = c ∨ b = r ∨ b = q ∨ c = r ∨ c = q ∨ r = q := by
  by_cases h1 : a = b
  · exact Or.inl h1
  · by_cases h2 : a = c
    · exact Or.inr (Or.inl h2)
    · by_cases h3 : b = c
      · exact Or.inr (Or.inr (Or.inr (Or.inr (Or.inl h3))))
      · have : a = 0 ∨ a = 1 ∨ a = 2 ∨ a = 3 := by omega
        have : b = 0 ∨ b = 1 ∨ b = 2 ∨ b = 3 := by omega
        have : c = 0 ∨ c = 1 ∨ c = 2 ∨ c = 3 := by omega
        rcases ‹a = 0 ∨ a = 1 ∨ a = 2 ∨ a = 3› with rfl | rfl | rfl | rfl <;> rcases ‹b = 0 ∨ b = 1 ∨ b = 2 ∨ b = 3› with rfl | rfl | rfl | rfl <;> rcases ‹c = 0 ∨ c = 1 ∨ c = 2 ∨ c = 3› with rfl | rfl | rfl | rfl <;> omega
theorem wlk_cl {v : Int → Int → Int} {n : Nat} (hn : n ≤ 3) (hc : cyc_ v ((n : Int) + 1)) (r q : Int) (hr : 0 ≤ r ∧ r ≤ n) (hq : 0 ≤ q ∧ q ≤ n) : wlk_ v n 3 r + v r q ≤ wlk_ v n 3 q := by
  obtain ⟨a, b, c, ha, hb, hcc, e⟩ := wlk_3 (v := v) (n := n) r
  obtain ⟨k1, k2, k3, k4⟩ := hc
  rw [e]
  rcases pig_5 (a := a) (b := b) (c := c) (r := r) (q := q) (by omega) (by omega) (by omega) (by omega) (by omega) with h | h | h | h | h | h | h | h | h | h
  · have := wlk_g3 (v := v) (n := n) (q := q) hb hcc hr; rw [h, k1]; omega
  · have := wlk_g3 (v := v) (n := n) (q := q) hcc hcc hr; have := k2 a b (by omega) (by omega) (by omega) (by omega); have := k1 c; rw [← h] at *; omega
  · have := wlk_g3 (v := v) (n := n) (q := q) hr hr hr; have := k3 a b c (by omega) (by omega) (by omega) (by omega) (by omega) (by omega); have := k1 r; rw [← h] at *; omega
  · have := wlk_g3 (v := v) (n := n) (q := q) hq hq hq; have := k4 a b c r (by omega) (by omega) (by omega) (by omega) (by omega) (by omega) (by omega) (by omega); have := k1 q; rw [← h] at *; omega
  · have := wlk_g3 (v := v) (n := n) (q := q) ha hb hr; have := k1 b; rw [← h] at *; omega
  · have := wlk_g3 (v := v) (n := n) (q := q) ha ha hr; have := k2 b c (by omega) (by omega) (by omega) (by omega); have := k1 a; rw [← h] at *; omega
  · have := wlk_g3 (v := v) (n := n) (q := q) ha ha ha; have := k3 b c r (by omega) (by omega) (by omega) (by omega) (by omega) (by omega); have := k1 a; rw [← h] at *; omega
  · have := wlk_g3 (v := v) (n := n) (q := q) ha hb hcc; have := k1 c; rw [← h] at *; omega
  · have := wlk_g3 (v := v) (n := n) (q := q) ha hb hb; have := k2 c r (by omega) (by omega) (by omega) (by omega); have := k1 b; rw [← h] at *; omega
  · have := wlk_g3 (v := v) (n := n) (q := q) ha hb hcc; have := k1 r; rw [← h] at *; omega
theorem wlk_2 {v : Int → Int → Int} (hc : cyc_ v 2) (q : Int) (hq : 0 ≤ q ∧ q ≤ 1) : wlk_ v 1 3 q ≤ wlk_ v 1 2 q := by
  obtain ⟨a, b, c, ha, hb, hcc, e⟩ := wlk_3 (v := v) (n := 1) q
  obtain ⟨k1, k2, k3, k4⟩ := hc
  have g : ∀ x y : Int, (0 ≤ x ∧ x ≤ 1) → (0 ≤ y ∧ y ≤ 1) → v x y + v y q ≤ wlk_ v 1 2 q := fun x y hx hy => by
    have h1 : wlk_ v 1 0 x + v x y ≤ wlk_ v 1 1 y := wlk_g hx
    have h2 : wlk_ v 1 1 y + v y q ≤ wlk_ v 1 2 q := wlk_g hy
    have h0 : wlk_ v 1 0 x = 0 := rfl
    omega
  rw [e]
  have p : a = b ∨ b = c ∨ a = c := by omega
  rcases p with h | h | h
  · have := g b c hb hcc; rw [h, k1]; omega
  · have := g a b ha hb; have := k1 b; rw [← h] at *; omega
  · have := g c c hcc hcc; have := k2 a b (by omega) (by omega) (by omega) (by omega); have := k1 c; rw [← h] at *; omega
theorem cyc_of {v : Int → Int → Int} {R : Int} (h1 : ∀ a, v a a = 0) (h2 : ∀ a b, 0 ≤ a → a < R → 0 ≤ b → b < R → a ≠ b → v a b + v b a ≤ 0) (h3 : ∀ a b c, 0 ≤ a → a < R → 0 ≤ b → b < R → 0 ≤ c → c < R → a ≠ b → b ≠ c → c ≠ a → v a b + v b c + v c a ≤ 0) (h4 : ∀ a b c d, 0 ≤ a → a < R → 0 ≤ b → b < R → 0 ≤ c → c < R → 0 ≤ d → d < R → a ≠ b → a ≠ c → a ≠ d → b ≠ c → b ≠ d → c ≠ d → v a b + v b c + v c d + v d a ≤ 0) : cyc_ v R := by
  have k2 : ∀ a b, 0 ≤ a → a < R → 0 ≤ b → b < R → v a b + v b a ≤ 0 := fun a b a0 a1 b0 b1 => by
    by_cases c : a = b
    · rw [c, h1]; omega
    · exact h2 a b a0 a1 b0 b1 c
  have k3 : ∀ a b c, 0 ≤ a → a < R → 0 ≤ b → b < R → 0 ≤ c → c < R → v a b + v b c + v c a ≤ 0 := fun a b c a0 a1 b0 b1 c0 c1 => by
    by_cases e1 : a = b
    · have := k2 b c b0 b1 c0 c1; rw [e1, h1]; omega
    · by_cases e2 : b = c
      · have := k2 a b a0 a1 b0 b1; have := h1 b; rw [← e2] at *; omega
      · by_cases e3 : c = a
        · have := k2 a b a0 a1 b0 b1; have := h1 a; rw [e3] at *; omega
        · exact h3 a b c a0 a1 b0 b1 c0 c1 e1 e2 e3
  refine ⟨h1, k2, k3, fun a b c d a0 a1 b0 b1 c0 c1 d0 d1 => ?_⟩
  by_cases e1 : a = b
  · have := k3 b c d b0 b1 c0 c1 d0 d1; rw [e1, h1]; omega
  · by_cases e2 : a = c
    · have := k2 a b a0 a1 b0 b1; have := k2 a d a0 a1 d0 d1; rw [← e2] at *; omega
    · by_cases e3 : a = d
      · have := k3 a b c a0 a1 b0 b1 c0 c1; have := h1 a; rw [← e3] at *; omega
      · by_cases e4 : b = c
        · have := k3 a b d a0 a1 b0 b1 d0 d1; have := h1 b; rw [← e4] at *; omega
        · by_cases e5 : b = d
          · have := k2 a b a0 a1 b0 b1; have := k2 b c b0 b1 c0 c1; rw [← e5] at *; omega
          · by_cases e6 : c = d
            · have := k3 a b c a0 a1 b0 b1 c0 c1; have := h1 c; rw [← e6] at *; omega
            · exact h4 a b c d a0 a1 b0 b1 c0 c1 d0 d1 e1 e2 e3 e4 e5 e6

theorem cyc_2 {W : Int → Int → Int} {hs : Int → Int} (hr : (0 ≤ hs 0 ∧ hs 0 < 2) ∧ (0 ≤ hs 1 ∧ hs 1 < 2)) (hd : hs 0 ≠ hs 1) (ho : (∀ a b : Int, ((0 ≤ a ∧ a < 2) ∧ (0 ≤ b ∧ b < 2)) → (a ≠ b) → W 0 a + W 1 b ≤ W 0 (hs 0) + W 1 (hs 1))) : cyc_ (fun r q => W r (hs q) - W r (hs r)) 2 := by
  refine cyc_of (fun a => by show W a (hs a) - W a (hs a) = 0; omega) ?_ ?_ ?_
  · intro a b a0 a1 b0 b1 n0
    have qa : a = 0 ∨ a = 1 := by omega
    have qb : b = 0 ∨ b = 1 := by omega
    rcases qa with rfl | rfl
    · rcases qb with rfl | rfl
      · omega
      · have o := ho (hs 1) (hs 0) (by omega) (by omega)
        show (W 0 (hs 1) - W 0 (hs 0)) + (W 1 (hs 0) - W 1 (hs 1)) ≤ 0
        omega
    · rcases qb with rfl | rfl
      · have o := ho (hs 1) (hs 0) (by omega) (by omega)
        show (W 1 (hs 0) - W 1 (hs 1)) + (W 0 (hs 1) - W 0 (hs 0)) ≤ 0
        omega
      · omega
  · intro a b c a0 a1 b0 b1 c0 c1 n0 n1 n2
    have qa : a = 0 ∨ a = 1 := by omega
    have qb : b = 0 ∨ b = 1 := by omega
    have qc : c = 0 ∨ c = 1 := by omega
    exfalso
    rcases qa with rfl | rfl <;> rcases qb with rfl | rfl <;> rcases qc with rfl | rfl <;> omega
  · intro a b c d a0 a1 b0 b1 c0 c1 d0 d1 n0 n1 n2 n3 n4 n5
    have qa : a = 0 ∨ a = 1 := by omega
    have qb : b = 0 ∨ b = 1 := by omega
    have qc : c = 0 ∨ c = 1 := by omega
    have qd : d = 0 ∨ d = 1 := by omega
    exfalso
    rcases qa with rfl | rfl <;> rcases qb with rfl | rfl <;> rcases qc with rfl | rfl <;> rcases qd with rfl | rfl <;> omega

theorem opt_2 {W : Int → Int → Int} {p : Int} (hb : ∀ q : Nat, q < 256 → vp_ok 2 2 q → tsm_ W 2 q 2 ≤ tsm_ W 2 p 2) : ∀ a b : Int, ((0 ≤ a ∧ a < 2) ∧ (0 ≤ b ∧ b < 2)) → (a ≠ b) → W 0 a + W 1 b ≤ W 0 (dg_ 2 p 0) + W 1 (dg_ 2 p 1) := by
  intro a b hr hd
  obtain ⟨z, hz⟩ : ∃ z : Int, z = 4 * (a) + b := ⟨_, rfl⟩
  have d0 : dg_ 2 z 0 = a := by show ((z) / 4) % 4 = a; omega
  have d1 : dg_ 2 z 1 = b := by show (z) % 4 = b; omega
  have hv : vp_ok 2 2 z := (vp_sea (by omega) (by omega)).mpr ⟨by omega, by show z < 16; omega, ⟨⟨trivial, (show 0 ≤ dg_ 2 z 0 ∧ dg_ 2 z 0 < 2 by omega), trivial⟩, (show 0 ≤ dg_ 2 z 1 ∧ dg_ 2 z 1 < 2 by omega), ⟨trivial, show dg_ 2 z 0 ≠ dg_ 2 z 1 by omega⟩⟩⟩
  have e : ((z.toNat : Nat) : Int) = z := by omega
  have k := hb z.toNat (by omega) (by rw [e]; exact hv)
  rw [e] at k
  have k1 : tsm_ W 2 z 2 = W 0 a + W 1 b := by show 0 + W 0 (dg_ 2 z 0) + W 1 (dg_ 2 z 1) = _; rw [d0, d1]; omega
  have k2 : tsm_ W 2 p 2 = W 0 (dg_ 2 p 0) + W 1 (dg_ 2 p 1) := by show 0 + W 0 (dg_ 2 p 0) + W 1 (dg_ 2 p 1) = _; omega
  omega

theorem stn_2 {W : Int → Int → Int} {p : Int} (hv : vp_ok 2 2 p) (hb : ∀ q : Nat, q < 256 → vp_ok 2 2 q → tsm_ W 2 q 2 ≤ tsm_ W 2 p 2) : cyc_ (fun r q => W r (dg_ 2 p q) - W r (dg_ 2 p r)) 2 ∧ (∀ s, 0 ≤ s → s < 2 → ∃ q, 0 ≤ q ∧ q < (2 : Int) ∧ dg_ 2 p q = s) := by
  have hs := ((vp_sea (S := 2) (R := 2) (by omega) (by omega)).mp hv).2.2
  have s0 := sea_at (r := 0) hs (by omega) (by show (0 : Int) < ((2 : Int).toNat : Int); omega)
  have s1 := sea_at (r := 1) hs (by omega) (by show (1 : Int) < ((2 : Int).toNat : Int); omega)
  have n01 : dg_ 2 p 0 ≠ dg_ 2 p 1 := dis_at s1.2 (by omega) (by show (0 : Int) < ((1 : Int).toNat : Int); omega)
  refine ⟨cyc_2 (by omega) (by omega) (opt_2 hb), fun s s0 s1 => ?_⟩
  have : dg_ 2 p 0 = s ∨ dg_ 2 p 1 = s := by omega
  rcases this with k | k
  · exact ⟨0, by omega, by omega, k⟩
  · exact ⟨1, by omega, by omega, k⟩

theorem cyc_3 {W : Int → Int → Int} {hs : Int → Int} (hr : (0 ≤ hs 0 ∧ hs 0 < 3) ∧ (0 ≤ hs 1 ∧ hs 1 < 3) ∧ (0 ≤ hs 2 ∧ hs 2 < 3)) (hd : hs 0 ≠ hs 1 ∧ hs 0 ≠ hs 2 ∧ hs 1 ≠ hs 2) (ho : (∀ a b c : Int, ((0 ≤ a ∧ a < 3) ∧ (0 ≤ b ∧ b < 3) ∧ (0 ≤ c ∧ c < 3)) → (a ≠ b ∧ a ≠ c ∧ b ≠ c) → W 0 a + W 1 b + W 2 c ≤ W 0 (hs 0) + W 1 (hs 1) + W 2 (hs 2))) : cyc_ (fun r q => W r (hs q) - W r (hs r)) 3 := by
  refine cyc_of (fun a => by show W a (hs a) - W a (hs a) = 0; omega) ?_ ?_ ?_
  · intro a b a0 a1 b0 b1 n0
    have qa : a = 0 ∨ a = 1 ∨ a = 2 := by omega
    have qb : b = 0 ∨ b = 1 ∨ b = 2 := by omega
    rcases qa with rfl | rfl | rfl
    · rcases qb with rfl | rfl | rfl
      · omega
      · have o := ho (hs 1) (hs 0) (hs 2) (by omega) (by omega)
        show (W 0 (hs 1) - W 0 (hs 0)) + (W 1 (hs 0) - W 1 (hs 1)) ≤ 0
        omega
      · have o := ho (hs 2) (hs 1) (hs 0) (by omega) (by omega)
        show (W 0 (hs 2) - W 0 (hs 0)) + (W 2 (hs 0) - W 2 (hs 2)) ≤ 0
        omega
    · rcases qb with rfl | rfl | rfl
      · have o := ho (hs 1) (hs 0) (hs 2) (by omega) (by omega)
        show (W 1 (hs 0) - W 1 (hs 1)) + (W 0 (hs 1) - W 0 (hs 0)) ≤ 0
        omega
      · omega
      · have o := ho (hs 0) (hs 2) (hs 1) (by omega) (by omega)
        show (W 1 (hs 2) - W 1 (hs 1)) + (W 2 (hs 1) - W 2 (hs 2)) ≤ 0
        omega
    · rcases qb with rfl | rfl | rfl
      · have o := ho (hs 2) (hs 1) (hs 0) (by omega) (by omega)
        show (W 2 (hs 0) - W 2 (hs 2)) + (W 0 (hs 2) - W 0 (hs 0)) ≤ 0
        omega
      · have o := ho (hs 0) (hs 2) (hs 1) (by omega) (by omega)
        show (W 2 (hs 1) - W 2 (hs 2)) + (W 1 (hs 2) - W 1 (hs 1)) ≤ 0
        omega
      · omega
  · intro a b c a0 a1 b0 b1 c0 c1 n0 n1 n2
    have qa : a = 0 ∨ a = 1 ∨ a = 2 := by omega
    have qb : b = 0 ∨ b = 1 ∨ b = 2 := by omega
    have qc : c = 0 ∨ c = 1 ∨ c = 2 := by omega
    rcases qa with rfl | rfl | rfl
    · rcases qb with rfl | rfl | rfl
      · omega
      · rcases qc with rfl | rfl | rfl
        · omega
        · omega
        · have o := ho (hs 1) (hs 2) (hs 0) (by omega) (by omega)
          show (W 0 (hs 1) - W 0 (hs 0)) + (W 1 (hs 2) - W 1 (hs 1)) + (W 2 (hs 0) - W 2 (hs 2)) ≤ 0
          omega
      · rcases qc with rfl | rfl | rfl
        · omega
        · have o := ho (hs 2) (hs 0) (hs 1) (by omega) (by omega)
          show (W 0 (hs 2) - W 0 (hs 0)) + (W 2 (hs 1) - W 2 (hs 2)) + (W 1 (hs 0) - W 1 (hs 1)) ≤ 0
          omega
        · omega
    · rcases qb with rfl | rfl | rfl
      · rcases qc with rfl | rfl | rfl
        · omega
        · omega
        · have o := ho (hs 2) (hs 0) (hs 1) (by omega) (by omega)
          show (W 1 (hs 0) - W 1 (hs 1)) + (W 0 (hs 2) - W 0 (hs 0)) + (W 2 (hs 1) - W 2 (hs 2)) ≤ 0
          omega
      · omega
      · rcases qc with rfl | rfl | rfl
        · have o := ho (hs 1) (hs 2) (hs 0) (by omega) (by omega)
          show (W 1 (hs 2) - W 1 (hs 1)) + (W 2 (hs 0) - W 2 (hs 2)) + (W 0 (hs 1) - W 0 (hs 0)) ≤ 0
          omega
        · omega
        · omega
    · rcases qb with rfl | rfl | rfl
      · rcases qc with rfl | rfl | rfl
        · omega
        · have o := ho (hs 1) (hs 2) (hs 0) (by omega) (by omega)
          show (W 2 (hs 0) - W 2 (hs 2)) + (W 0 (hs 1) - W 0 (hs 0)) + (W 1 (hs 2) - W 1 (hs 1)) ≤ 0
          omega
        · omega
      · rcases qc with rfl | rfl | rfl
        · have o := ho (hs 2) (hs 0) (hs 1) (by omega) (by omega)
          show (W 2 (hs 1) - W 2 (hs 2)) + (W 1 (hs 0) - W 1 (hs 1)) + (W 0 (hs 2) - W 0 (hs 0)) ≤ 0
          omega
        · omega
        · omega
      · omega
  · intro a b c d a0 a1 b0 b1 c0 c1 d0 d1 n0 n1 n2 n3 n4 n5
    have qa : a = 0 ∨ a = 1 ∨ a = 2 := by omega
    have qb : b = 0 ∨ b = 1 ∨ b = 2 := by omega
    have qc : c = 0 ∨ c = 1 ∨ c = 2 := by omega
    have qd : d = 0 ∨ d = 1 ∨ d = 2 := by omega
    exfalso
    rcases qa with rfl | rfl | rfl <;> rcases qb with rfl | rfl | rfl <;> rcases qc with rfl | rfl | rfl <;> rcases qd with rfl | rfl | rfl <;> omega

theorem opt_3 {W : Int → Int → Int} {p : Int} (hb : ∀ q : Nat, q < 256 → vp_ok 3 3 q → tsm_ W 3 q 3 ≤ tsm_ W 3 p 3) : ∀ a b c : Int, ((0 ≤ a ∧ a < 3) ∧ (0 ≤ b ∧ b < 3) ∧ (0 ≤ c ∧ c < 3)) → (a ≠ b ∧ a ≠ c ∧ b ≠ c) → W 0 a + W 1 b + W 2 c ≤ W 0 (dg_ 3 p 0) + W 1 (dg_ 3 p 1) + W 2 (dg_ 3 p 2) := by
  intro a b c hr hd
  obtain ⟨z, hz⟩ : ∃ z : Int, z = 4 * (4 * (a) + b) + c := ⟨_, rfl⟩
  have d0 : dg_ 3 z 0 = a := by show (((z) / 4) / 4) % 4 = a; omega
  have d1 : dg_ 3 z 1 = b := by show ((z) / 4) % 4 = b; omega
  have d2 : dg_ 3 z 2 = c := by show (z) % 4 = c; omega
  have hv : vp_ok 3 3 z := (vp_sea (by omega) (by omega)).mpr ⟨by omega, by show z < 64; omega, ⟨⟨⟨trivial, (show 0 ≤ dg_ 3 z 0 ∧ dg_ 3 z 0 < 3 by omega), trivial⟩, (show 0 ≤ dg_ 3 z 1 ∧ dg_ 3 z 1 < 3 by omega), ⟨trivial, show dg_ 3 z 0 ≠ dg_ 3 z 1 by omega⟩⟩, (show 0 ≤ dg_ 3 z 2 ∧ dg_ 3 z 2 < 3 by omega), ⟨⟨trivial, show dg_ 3 z 0 ≠ dg_ 3 z 2 by omega⟩, show dg_ 3 z 1 ≠ dg_ 3 z 2 by omega⟩⟩⟩
  have e : ((z.toNat : Nat) : Int) = z := by omega
  have k := hb z.toNat (by omega) (by rw [e]; exact hv)
  rw [e] at k
  have k1 : tsm_ W 3 z 3 = W 0 a + W 1 b + W 2 c := by show 0 + W 0 (dg_ 3 z 0) + W 1 (dg_ 3 z 1) + W 2 (dg_ 3 z 2) = _; rw [d0, d1, d2]; omega
  have k2 : tsm_ W 3 p 3 = W 0 (dg_ 3 p 0) + W 1 (dg_ 3 p 1) + W 2 (dg_ 3 p 2) := by show 0 + W 0 (dg_ 3 p 0) + W 1 (dg_ 3 p 1) + W 2 (dg_ 3 p 2) = _; omega
  omega

theorem stn_3 {W : Int → Int → Int} {p : Int} (hv : vp_ok 3 3 p) (hb : ∀ q : Nat, q < 256 → vp_ok 3 3 q → tsm_ W 3 q 3 ≤ tsm_ W 3 p 3) : cyc_ (fun r q => W r (dg_ 3 p q) - W r (dg_ 3 p r)) 3 ∧ (∀ s, 0 ≤ s → s < 3 → ∃ q, 0 ≤ q ∧ q < (3 : Int) ∧ dg_ 3 p q = s) := by
  have hs := ((vp_sea (S := 3) (R := 3) (by omega) (by omega)).mp hv).2.2
  have s0 := sea_at (r := 0) hs (by omega) (by show (0 : Int) < ((3 : Int).toNat : Int); omega)
  have s1 := sea_at (r := 1) hs (by omega) (by show (1 : Int) < ((3 : Int).toNat : Int); omega)
  have s2 := sea_at (r := 2) hs (by omega) (by show (2 : Int) < ((3 : Int).toNat : Int); omega)
  have n01 : dg_ 3 p 0 ≠ dg_ 3 p 1 := dis_at s1.2 (by omega) (by show (0 : Int) < ((1 : Int).toNat : Int); omega)
  have n02 : dg_ 3 p 0 ≠ dg_ 3 p 2 := dis_at s2.2 (by omega) (by show (0 : Int) < ((2 : Int).toNat : Int); omega)
  have n12 : dg_ 3 p 1 ≠ dg_ 3 p 2 := dis_at s2.2 (by omega) (by show (1 : Int) < ((2 : Int).toNat : Int); omega)
  refine ⟨cyc_3 (by omega) (by omega) (opt_3 hb), fun s s0 s1 => ?_⟩
  have : dg_ 3 p 0 = s ∨ dg_ 3 p 1 = s ∨ dg_ 3 p 2 = s := by omega
  rcases this with k | k | k
  · exact ⟨0, by omega, by omega, k⟩
  · exact ⟨1, by omega, by omega, k⟩
  · exact ⟨2, by omega, by omega, k⟩

theorem cyc_4 {W : Int → Int → Int} {hs : Int → Int} (hr : (0 ≤ hs 0 ∧ hs 0 < 4) ∧ (0 ≤ hs 1 ∧ hs 1 < 4) ∧ (0 ≤ hs 2 ∧ hs 2 < 4) ∧ (0 ≤ hs 3 ∧ hs 3 < 4)) (hd : hs 0 ≠ hs 1 ∧ hs 0 ≠ hs 2 ∧ hs 0 ≠ hs 3 ∧ hs 1 ≠ hs 2 ∧ hs 1 ≠ hs 3 ∧ hs 2 ≠ hs 3) (ho : (∀ a b c d : Int, ((0 ≤ a ∧ a < 4) ∧ (0 ≤ b ∧ b < 4) ∧ (0 ≤ c ∧ c < 4) ∧ (0 ≤ d ∧ d < 4)) → (a ≠ b ∧ a ≠ c ∧ a ≠ d ∧ b ≠ c ∧ b ≠ d ∧ c ≠ d) → W 0 a + W 1 b + W 2 c + W 3 d ≤ W 0 (hs 0) + W 1 (hs 1) + W 2 (hs 2) + W 3 (hs 3))) : cyc_ (fun r q => W r (hs q) - W r (hs r)) 4 := by
  refine cyc_of (fun a => by show W a (hs a) - W a (hs a) = 0; omega) ?_ ?_ ?_
  · intro a b a0 a1 b0 b1 n0
    have qa : a = 0 ∨ a = 1 ∨ a = 2 ∨ a = 3 := by omega
    have qb : b = 0 ∨ b = 1 ∨ b = 2 ∨ b = 3 := by omega
    rcases qa with rfl | rfl | rfl | rfl
    · rcases qb with rfl | rfl | rfl | rfl
      · omega
      · have o := ho (hs 1) (hs 0) (hs 2) (hs 3) (by omega) (by omega)
        show (W 0 (hs 1) - W 0 (hs 0)) + (W 1 (hs 0) - W 1 (hs 1)) ≤ 0
        omega
      · have o := ho (hs 2) (hs 1) (hs 0) (hs 3) (by omega) (by omega)
        show (W 0 (hs 2) - W 0 (hs 0)) + (W 2 (hs 0) - W 2 (hs 2)) ≤ 0
        omega
      · have o := ho (hs 3) (hs 1) (hs 2) (hs 0) (by omega) (by omega)
        show (W 0 (hs 3) - W 0 (hs 0)) + (W 3 (hs 0) - W 3 (hs 3)) ≤ 0
        omega
    · rcases qb with rfl | rfl | rfl | rfl
      · have o := ho (hs 1) (hs 0) (hs 2) (hs 3) (by omega) (by omega)
        show (W 1 (hs 0) - W 1 (hs 1)) + (W 0 (hs 1) - W 0 (hs 0)) ≤ 0
        omega
      · omega
      · have o := ho (hs 0) (hs 2) (hs 1) (hs 3) (by omega) (by omega)
        show (W 1 (hs 2) - W 1 (hs 1)) + (W 2 (hs 1) - W 2 (hs 2)) ≤ 0
        omega
      · have o := ho (hs 0) (hs 3) (hs 2) (hs 1) (by omega) (by omega)
        show (W 1 (hs 3) - W 1 (hs 1)) + (W 3 (hs 1) - W 3 (hs 3)) ≤ 0
        omega
    · rcases qb with rfl | rfl | rfl | rfl
      · have o := ho (hs 2) (hs 1) (hs 0) (hs 3) (by omega) (by omega)
        show (W 2 (hs 0) - W 2 (hs 2)) + (W 0 (hs 2) - W 0 (hs 0)) ≤ 0
        omega
      · have o := ho (hs 0) (hs 2) (hs 1) (hs 3) (by omega) (by omega)
        show (W 2 (hs 1) - W 2 (hs 2)) + (W 1 (hs 2) - W 1 (hs 1)) ≤ 0
        omega
      · omega
      · have o := ho (hs 0) (hs 1) (hs 3) (hs 2) (by omega) (by omega)
        show (W 2 (hs 3) - W 2 (hs 2)) + (W 3 (hs 2) - W 3 (hs 3)) ≤ 0
        omega
    · rcases qb with rfl | rfl | rfl | rfl
      · have o := ho (hs 3) (hs 1) (hs 2) (hs 0) (by omega) (by omega)
        show (W 3 (hs 0) - W 3 (hs 3)) + (W 0 (hs 3) - W 0 (hs 0)) ≤ 0
        omega
      · have o := ho (hs 0) (hs 3) (hs 2) (hs 1) (by omega) (by omega)
        show (W 3 (hs 1) - W 3 (hs 3)) + (W 1 (hs 3) - W 1 (hs 1)) ≤ 0
        omega
      · have o := ho (hs 0) (hs 1) (hs 3) (hs 2) (by omega) (by omega)
        show (W 3 (hs 2) - W 3 (hs 3)) + (W 2 (hs 3) - W 2 (hs 2)) ≤ 0
        omega
      · omega
  · intro a b c a0 a1 b0 b1 c0 c1 n0 n1 n2
    have qa : a = 0 ∨ a = 1 ∨ a = 2 ∨ a = 3 := by omega
    have qb : b = 0 ∨ b = 1 ∨ b = 2 ∨ b = 3 := by omega
    have qc : c = 0 ∨ c = 1 ∨ c = 2 ∨ c = 3 := by omega
    rcases qa with rfl | rfl | rfl | rfl
    · rcases qb with rfl | rfl | rfl | rfl
      · omega
      · rcases qc with rfl | rfl | rfl | rfl
        · omega
        · omega
        · have o := ho (hs 1) (hs 2) (hs 0) (hs 3) (by omega) (by omega)
          show (W 0 (hs 1) - W 0 (hs 0)) + (W 1 (hs 2) - W 1 (hs 1)) + (W 2 (hs 0) - W 2 (hs 2)) ≤ 0
          omega
        · have o := ho (hs 1) (hs 3) (hs 2) (hs 0) (by omega) (by omega)
          show (W 0 (hs 1) - W 0 (hs 0)) + (W 1 (hs 3) - W 1 (hs 1)) + (W 3 (hs 0) - W 3 (hs 3)) ≤ 0
          omega
      · rcases qc with rfl | rfl | rfl | rfl
        · omega
        · have o := ho (hs 2) (hs 0) (hs 1) (hs 3) (by omega) (by omega)
          show (W 0 (hs 2) - W 0 (hs 0)) + (W 2 (hs 1) - W 2 (hs 2)) + (W 1 (hs 0) - W 1 (hs 1)) ≤ 0
          omega
        · omega
        · have o := ho (hs 2) (hs 1) (hs 3) (hs 0) (by omega) (by omega)
          show (W 0 (hs 2) - W 0 (hs 0)) + (W 2 (hs 3) - W 2 (hs 2)) + (W 3 (hs 0) - W 3 (hs 3)) ≤ 0
          omega
      · rcases qc with rfl | rfl | rfl | rfl
        · omega
        · have o := ho (hs 3) (hs 0) (hs 2) (hs 1) (by omega) (by omega)
          show (W 0 (hs 3) - W 0 (hs 0)) + (W 3 (hs 1) - W 3 (hs 3)) + (W 1 (hs 0) - W 1 (hs 1)) ≤ 0
          omega
        · have o := ho (hs 3) (hs 1) (hs 0) (hs 2) (by omega) (by omega)
          show (W 0 (hs 3) - W 0 (hs 0)) + (W 3 (hs 2) - W 3 (hs 3)) + (W 2 (hs 0) - W 2 (hs 2)) ≤ 0
          omega
        · omega
    · rcases qb with rfl | rfl | rfl | rfl
      · rcases qc with rfl | rfl | rfl | rfl
        · omega
        · omega
        · have o := ho (hs 2) (hs 0) (hs 1) (hs 3) (by omega) (by omega)
          show (W 1 (hs 0) - W 1 (hs 1)) + (W 0 (hs 2) - W 0 (hs 0)) + (W 2 (hs 1) - W 2 (hs 2)) ≤ 0
          omega
        · have o := ho (hs 3) (hs 0) (hs 2) (hs 1) (by omega) (by omega)
          show (W 1 (hs 0) - W 1 (hs 1)) + (W 0 (hs 3) - W 0 (hs 0)) + (W 3 (hs 1) - W 3 (hs 3)) ≤ 0
          omega
      · omega
      · rcases qc with rfl | rfl | rfl | rfl
        · have o := ho (hs 1) (hs 2) (hs 0) (hs 3) (by omega) (by omega)
          show (W 1 (hs 2) - W 1 (hs 1)) + (W 2 (hs 0) - W 2 (hs 2)) + (W 0 (hs 1) - W 0 (hs 0)) ≤ 0
          omega
        · omega
        · omega
        · have o := ho (hs 0) (hs 2) (hs 3) (hs 1) (by omega) (by omega)
          show (W 1 (hs 2) - W 1 (hs 1)) + (W 2 (hs 3) - W 2 (hs 2)) + (W 3 (hs 1) - W 3 (hs 3)) ≤ 0
          omega
      · rcases qc with rfl | rfl | rfl | rfl
        · have o := ho (hs 1) (hs 3) (hs 2) (hs 0) (by omega) (by omega)
          show (W 1 (hs 3) - W 1 (hs 1)) + (W 3 (hs 0) - W 3 (hs 3)) + (W 0 (hs 1) - W 0 (hs 0)) ≤ 0
          omega
        · omega
        · have o := ho (hs 0) (hs 3) (hs 1) (hs 2) (by omega) (by omega)
          show (W 1 (hs 3) - W 1 (hs 1)) + (W 3 (hs 2) - W 3 (hs 3)) + (W 2 (hs 1) - W 2 (hs 2)) ≤ 0
          omega
        · omega
    · rcases qb with rfl | rfl | rfl | rfl
      · rcases qc with rfl | rfl | rfl | rfl
        · omega
        · have o := ho (hs 1) (hs 2) (hs 0) (hs 3) (by omega) (by omega)
          show (W 2 (hs 0) - W 2 (hs 2)) + (W 0 (hs 1) - W 0 (hs 0)) + (W 1 (hs 2) - W 1 (hs 1)) ≤ 0
          omega
        · omega
        · have o := ho (hs 3) (hs 1) (hs 0) (hs 2) (by omega) (by omega)
          show (W 2 (hs 0) - W 2 (hs 2)) + (W 0 (hs 3) - W 0 (hs 0)) + (W 3 (hs 2) - W 3 (hs 3)) ≤ 0
          omega
      · rcases qc with rfl | rfl | rfl | rfl
        · have o := ho (hs 2) (hs 0) (hs 1) (hs 3) (by omega) (by omega)
          show (W 2 (hs 1) - W 2 (hs 2)) + (W 1 (hs 0) - W 1 (hs 1)) + (W 0 (hs 2) - W 0 (hs 0)) ≤ 0
          omega
        · omega
        · omega
        · have o := ho (hs 0) (hs 3) (hs 1) (hs 2) (by omega) (by omega)
          show (W 2 (hs 1) - W 2 (hs 2)) + (W 1 (hs 3) - W 1 (hs 1)) + (W 3 (hs 2) - W 3 (hs 3)) ≤ 0
          omega
      · omega
      · rcases qc with rfl | rfl | rfl | rfl
        · have o := ho (hs 2) (hs 1) (hs 3) (hs 0) (by omega) (by omega)
          show (W 2 (hs 3) - W 2 (hs 2)) + (W 3 (hs 0) - W 3 (hs 3)) + (W 0 (hs 2) - W 0 (hs 0)) ≤ 0
          omega
        · have o := ho (hs 0) (hs 2) (hs 3) (hs 1) (by omega) (by omega)
          show (W 2 (hs 3) - W 2 (hs 2)) + (W 3 (hs 1) - W 3 (hs 3)) + (W 1 (hs 2) - W 1 (hs 1)) ≤ 0
          omega
        · omega
        · omega
    · rcases qb with rfl | rfl | rfl | rfl
      · rcases qc with rfl | rfl | rfl | rfl
        · omega
        · have o := ho (hs 1) (hs 3) (hs 2) (hs 0) (by omega) (by omega)
          show (W 3 (hs 0) - W 3 (hs 3)) + (W 0 (hs 1) - W 0 (hs 0)) + (W 1 (hs 3) - W 1 (hs 1)) ≤ 0
          omega
        · have o := ho (hs 2) (hs 1) (hs 3) (hs 0) (by omega) (by omega)
          show (W 3 (hs 0) - W 3 (hs 3)) + (W 0 (hs 2) - W 0 (hs 0)) + (W 2 (hs 3) - W 2 (hs 2)) ≤ 0
          omega
        · omega
      · rcases qc with rfl | rfl | rfl | rfl
        · have o := ho (hs 3) (hs 0) (hs 2) (hs 1) (by omega) (by omega)
          show (W 3 (hs 1) - W 3 (hs 3)) + (W 1 (hs 0) - W 1 (hs 1)) + (W 0 (hs 3) - W 0 (hs 0)) ≤ 0
          omega
        · omega
        · have o := ho (hs 0) (hs 2) (hs 3) (hs 1) (by omega) (by omega)
          show (W 3 (hs 1) - W 3 (hs 3)) + (W 1 (hs 2) - W 1 (hs 1)) + (W 2 (hs 3) - W 2 (hs 2)) ≤ 0
          omega
        · omega
      · rcases qc with rfl | rfl | rfl | rfl
        · have o := ho (hs 3) (hs 1) (hs 0) (hs 2) (by omega) (by omega)
          show (W 3 (hs 2) - W 3 (hs 3)) + (W 2 (hs 0) - W 2 (hs 2)) + (W 0 (hs 3) - W 0 (hs 0)) ≤ 0
          omega
        · have o := ho (hs 0) (hs 3) (hs 1) (hs 2) (by omega) (by omega)
          show (W 3 (hs 2) - W 3 (hs 3)) + (W 2 (hs 1) - W 2 (hs 2)) + (W 1 (hs 3) - W 1 (hs 1)) ≤ 0
          omega
        · omega
        · omega
      · omega
  · intro a b c d a0 a1 b0 b1 c0 c1 d0 d1 n0 n1 n2 n3 n4 n5
    have qa : a = 0 ∨ a = 1 ∨ a = 2 ∨ a = 3 := by omega
    have qb : b = 0 ∨ b = 1 ∨ b = 2 ∨ b = 3 := by omega
    have qc : c = 0 ∨ c = 1 ∨ c = 2 ∨ c = 3 := by omega
    have qd : d = 0 ∨ d = 1 ∨ d = 2 ∨ d = 3 := by omega
    rcases qa with rfl | rfl | rfl | rfl
    · rcases qb with rfl | rfl | rfl | rfl
      · omega
      · rcases qc with rfl | rfl | rfl | rfl
        · omega
        · omega
        · rcases qd with rfl | rfl | rfl | rfl
          · omega
          · omega
          · omega
          · have o := ho (hs 1) (hs 2) (hs 3) (hs 0) (by omega) (by omega)
            show (W 0 (hs 1) - W 0 (hs 0)) + (W 1 (hs 2) - W 1 (hs 1)) + (W 2 (hs 3) - W 2 (hs 2)) + (W 3 (hs 0) - W 3 (hs 3)) ≤ 0
            omega
        · rcases qd with rfl | rfl | rfl | rfl
          · omega
          · omega
          · have o := ho (hs 1) (hs 3) (hs 0) (hs 2) (by omega) (by omega)
            show (W 0 (hs 1) - W 0 (hs 0)) + (W 1 (hs 3) - W 1 (hs 1)) + (W 3 (hs 2) - W 3 (hs 3)) + (W 2 (hs 0) - W 2 (hs 2)) ≤ 0
            omega
          · omega
      · rcases qc with rfl | rfl | rfl | rfl
        · omega
        · rcases qd with rfl | rfl | rfl | rfl
          · omega
          · omega
          · omega
          · have o := ho (hs 2) (hs 3) (hs 1) (hs 0) (by omega) (by omega)
            show (W 0 (hs 2) - W 0 (hs 0)) + (W 2 (hs 1) - W 2 (hs 2)) + (W 1 (hs 3) - W 1 (hs 1)) + (W 3 (hs 0) - W 3 (hs 3)) ≤ 0
            omega
        · omega
        · rcases qd with rfl | rfl | rfl | rfl
          · omega
          · have o := ho (hs 2) (hs 0) (hs 3) (hs 1) (by omega) (by omega)
            show (W 0 (hs 2) - W 0 (hs 0)) + (W 2 (hs 3) - W 2 (hs 2)) + (W 3 (hs 1) - W 3 (hs 3)) + (W 1 (hs 0) - W 1 (hs 1)) ≤ 0
            omega
          · omega
          · omega
      · rcases qc with rfl | rfl | rfl | rfl
        · omega
        · rcases qd with rfl | rfl | rfl | rfl
          · omega
          · omega
          · have o := ho (hs 3) (hs 2) (hs 0) (hs 1) (by omega) (by omega)
            show (W 0 (hs 3) - W 0 (hs 0)) + (W 3 (hs 1) - W 3 (hs 3)) + (W 1 (hs 2) - W 1 (hs 1)) + (W 2 (hs 0) - W 2 (hs 2)) ≤ 0
            omega
          · omega
        · rcases qd with rfl | rfl | rfl | rfl
          · omega
          · have o := ho (hs 3) (hs 0) (hs 1) (hs 2) (by omega) (by omega)
            show (W 0 (hs 3) - W 0 (hs 0)) + (W 3 (hs 2) - W 3 (hs 3)) + (W 2 (hs 1) - W 2 (hs 2)) + (W 1 (hs 0) - W 1 (hs 1)) ≤ 0
            omega
          · omega
          · omega
        · omega
    · rcases qb with rfl | rfl | rfl | rfl
      · rcases qc with rfl | rfl | rfl | rfl
        · omega
        · omega
        · rcases qd with rfl | rfl | rfl | rfl
          · omega
          · omega
          · omega
          · have o := ho (hs 2) (hs 0) (hs 3) (hs 1) (by omega) (by omega)
            show (W 1 (hs 0) - W 1 (hs 1)) + (W 0 (hs 2) - W 0 (hs 0)) + (W 2 (hs 3) - W 2 (hs 2)) + (W 3 (hs 1) - W 3 (hs 3)) ≤ 0
            omega
        · rcases qd with rfl | rfl | rfl | rfl
          · omega
          · omega
          · have o := ho (hs 3) (hs 0) (hs 1) (hs 2) (by omega) (by omega)
            show (W 1 (hs 0) - W 1 (hs 1)) + (W 0 (hs 3) - W 0 (hs 0)) + (W 3 (hs 2) - W 3 (hs 3)) + (W 2 (hs 1) - W 2 (hs 2)) ≤ 0
            omega
          · omega
      · omega
      · rcases qc with rfl | rfl | rfl | rfl
        · rcases qd with rfl | rfl | rfl | rfl
          · omega
          · omega
          · omega
          · have o := ho (hs 3) (hs 2) (hs 0) (hs 1) (by omega) (by omega)
            show (W 1 (hs 2) - W 1 (hs 1)) + (W 2 (hs 0) - W 2 (hs 2)) + (W 0 (hs 3) - W 0 (hs 0)) + (W 3 (hs 1) - W 3 (hs 3)) ≤ 0
            omega
        · omega
        · omega
        · rcases qd with rfl | rfl | rfl | rfl
          · have o := ho (hs 1) (hs 2) (hs 3) (hs 0) (by omega) (by omega)
            show (W 1 (hs 2) - W 1 (hs 1)) + (W 2 (hs 3) - W 2 (hs 2)) + (W 3 (hs 0) - W 3 (hs 3)) + (W 0 (hs 1) - W 0 (hs 0)) ≤ 0
            omega
          · omega
          · omega
          · omega
      · rcases qc with rfl | rfl | rfl | rfl
        · rcases qd with rfl | rfl | rfl | rfl
          · omega
          · omega
          · have o := ho (hs 2) (hs 3) (hs 1) (hs 0) (by omega) (by omega)
            show (W 1 (hs 3) - W 1 (hs 1)) + (W 3 (hs 0) - W 3 (hs 3)) + (W 0 (hs 2) - W 0 (hs 0)) + (W 2 (hs 1) - W 2 (hs 2)) ≤ 0
            omega
          · omega
        · omega
        · rcases qd with rfl | rfl | rfl | rfl
          · have o := ho (hs 1) (hs 3) (hs 0) (hs 2) (by omega) (by omega)
            show (W 1 (hs 3) - W 1 (hs 1)) + (W 3 (hs 2) - W 3 (hs 3)) + (W 2 (hs 0) - W 2 (hs 2)) + (W 0 (hs 1) - W 0 (hs 0)) ≤ 0
            omega
          · omega
          · omega
          · omega
        · omega
    · rcases qb with rfl | rfl | rfl | rfl
      · rcases qc with rfl | rfl | rfl | rfl
        · omega
        · rcases qd with rfl | rfl | rfl | rfl
          · omega
          · omega
          · omega
          · have o := ho (hs 1) (hs 3) (hs 0) (hs 2) (by omega) (by omega)
            show (W 2 (hs 0) - W 2 (hs 2)) + (W 0 (hs 1) - W 0 (hs 0)) + (W 1 (hs 3) - W 1 (hs 1)) + (W 3 (hs 2) - W 3 (hs 3)) ≤ 0
            omega
        · omega
        · rcases qd with rfl | rfl | rfl | rfl
          · omega
          · have o := ho (hs 3) (hs 2) (hs 0) (hs 1) (by omega) (by omega)
            show (W 2 (hs 0) - W 2 (hs 2)) + (W 0 (hs 3) - W 0 (hs 0)) + (W 3 (hs 1) - W 3 (hs 3)) + (W 1 (hs 2) - W 1 (hs 1)) ≤ 0
            omega
          · omega
          · omega
      · rcases qc with rfl | rfl | rfl | rfl
        · rcases qd with rfl | rfl | rfl | rfl
          · omega
          · omega
          · omega
          · have o := ho (hs 3) (hs 0) (hs 1) (hs 2) (by omega) (by omega)
            show (W 2 (hs 1) - W 2 (hs 2)) + (W 1 (hs 0) - W 1 (hs 1)) + (W 0 (hs 3) - W 0 (hs 0)) + (W 3 (hs 2) - W 3 (hs 3)) ≤ 0
            omega
        · omega
        · omega
        · rcases qd with rfl | rfl | rfl | rfl
          · have o := ho (hs 2) (hs 3) (hs 1) (hs 0) (by omega) (by omega)
            show (W 2 (hs 1) - W 2 (hs 2)) + (W 1 (hs 3) - W 1 (hs 1)) + (W 3 (hs 0) - W 3 (hs 3)) + (W 0 (hs 2) - W 0 (hs 0)) ≤ 0
            omega
          · omega
          · omega
          · omega
      · omega
      · rcases qc with rfl | rfl | rfl | rfl
        · rcases qd with rfl | rfl | rfl | rfl
          · omega
          · have o := ho (hs 1) (hs 2) (hs 3) (hs 0) (by omega) (by omega)
            show (W 2 (hs 3) - W 2 (hs 2)) + (W 3 (hs 0) - W 3 (hs 3)) + (W 0 (hs 1) - W 0 (hs 0)) + (W 1 (hs 2) - W 1 (hs 1)) ≤ 0
            omega
          · omega
          · omega
        · rcases qd with rfl | rfl | rfl | rfl
          · have o := ho (hs 2) (hs 0) (hs 3) (hs 1) (by omega) (by omega)
            show (W 2 (hs 3) - W 2 (hs 2)) + (W 3 (hs 1) - W 3 (hs 3)) + (W 1 (hs 0) - W 1 (hs 1)) + (W 0 (hs 2) - W 0 (hs 0)) ≤ 0
            omega
          · omega
          · omega
          · omega
        · omega
        · omega
    · rcases qb with rfl | rfl | rfl | rfl
      · rcases qc with rfl | rfl | rfl | rfl
        · omega
        · rcases qd with rfl | rfl | rfl | rfl
          · omega
          · omega
          · have o := ho (hs 1) (hs 2) (hs 3) (hs 0) (by omega) (by omega)
            show (W 3 (hs 0) - W 3 (hs 3)) + (W 0 (hs 1) - W 0 (hs 0)) + (W 1 (hs 2) - W 1 (hs 1)) + (W 2 (hs 3) - W 2 (hs 2)) ≤ 0
            omega
          · omega
        · rcases qd with rfl | rfl | rfl | rfl
          · omega
          · have o := ho (hs 2) (hs 3) (hs 1) (hs 0) (by omega) (by omega)
            show (W 3 (hs 0) - W 3 (hs 3)) + (W 0 (hs 2) - W 0 (hs 0)) + (W 2 (hs 1) - W 2 (hs 2)) + (W 1 (hs 3) - W 1 (hs 1)) ≤ 0
            omega
          · omega
          · omega
        · omega
      · rcases qc with rfl | rfl | rfl | rfl
        · rcases qd with rfl | rfl | rfl | rfl
          · omega
          · omega
          · have o := ho (hs 2) (hs 0) (hs 3) (hs 1) (by omega) (by omega)
            show (W 3 (hs 1) - W 3 (hs 3)) + (W 1 (hs 0) - W 1 (hs 1)) + (W 0 (hs 2) - W 0 (hs 0)) + (W 2 (hs 3) - W 2 (hs 2)) ≤ 0
            omega
          · omega
        · omega
        · rcases qd with rfl | rfl | rfl | rfl
          · have o := ho (hs 3) (hs 2) (hs 0) (hs 1) (by omega) (by omega)
            show (W 3 (hs 1) - W 3 (hs 3)) + (W 1 (hs 2) - W 1 (hs 1)) + (W 2 (hs 0) - W 2 (hs 2)) + (W 0 (hs 3) - W 0 (hs 0)) ≤ 0
            omega
          · omega
          · omega
          · omega
        · omega
      · rcases qc with rfl | rfl | rfl | rfl
        · rcases qd with rfl | rfl | rfl | rfl
          · omega
          · have o := ho (hs 1) (hs 3) (hs 0) (hs 2) (by omega) (by omega)
            show (W 3 (hs 2) - W 3 (hs 3)) + (W 2 (hs 0) - W 2 (hs 2)) + (W 0 (hs 1) - W 0 (hs 0)) + (W 1 (hs 3) - W 1 (hs 1)) ≤ 0
            omega
          · omega
          · omega
        · rcases qd with rfl | rfl | rfl | rfl
          · have o := ho (hs 3) (hs 0) (hs 1) (hs 2) (by omega) (by omega)
            show (W 3 (hs 2) - W 3 (hs 3)) + (W 2 (hs 1) - W 2 (hs 2)) + (W 1 (hs 0) - W 1 (hs 1)) + (W 0 (hs 3) - W 0 (hs 0)) ≤ 0
            omega
          · omega
          · omega
          · omega
        · omega
        · omega
      · omega

theorem opt_4 {W : Int → Int → Int} {p : Int} (hb : ∀ q : Nat, q < 256 → vp_ok 4 4 q → tsm_ W 4 q 4 ≤ tsm_ W 4 p 4) : ∀ a b c d : Int, ((0 ≤ a ∧ a < 4) ∧ (0 ≤ b ∧ b < 4) ∧ (0 ≤ c ∧ c < 4) ∧ (0 ≤ d ∧ d < 4)) → (a ≠ b ∧ a ≠ c ∧ a ≠ d ∧ b ≠ c ∧ b ≠ d ∧ c ≠ d) → W 0 a + W 1 b + W 2 c + W 3 d ≤ W 0 (dg_ 4 p 0) + W 1 (dg_ 4 p 1) + W 2 (dg_ 4 p 2) + W 3 (dg_ 4 p 3) := by
  intro a b c d hr hd
  obtain ⟨z, hz⟩ : ∃ z : Int, z = 4 * (4 * (4 * (a) + b) + c) + d := ⟨_, rfl⟩
  have d0 : dg_ 4 z 0 = a := by show ((((z) / 4) / 4) / 4) % 4 = a; omega
  have d1 : dg_ 4 z 1 = b := by show (((z) / 4) / 4) % 4 = b; omega
  have d2 : dg_ 4 z 2 = c := by show ((z) / 4) % 4 = c; omega
  have d3 : dg_ 4 z 3 = d := by show (z) % 4 = d; omega
  have hv : vp_ok 4 4 z := (vp_sea (by omega) (by omega)).mpr ⟨by omega, by show z < 256; omega, ⟨⟨⟨⟨trivial, (show 0 ≤ dg_ 4 z 0 ∧ dg_ 4 z 0 < 4 by omega), trivial⟩, (show 0 ≤ dg_ 4 z 1 ∧ dg_ 4 z 1 < 4 by omega), ⟨trivial, show dg_ 4 z 0 ≠ dg_ 4 z 1 by omega⟩⟩, (show 0 ≤ dg_ 4 z 2 ∧ dg_ 4 z 2 < 4 by omega), ⟨⟨trivial, show dg_ 4 z 0 ≠ dg_ 4 z 2 by omega⟩, show dg_ 4 z 1 ≠ dg_ 4 z 2 by omega⟩⟩, (show 0 ≤ dg_ 4 z 3 ∧ dg_ 4 z 3 < 4 by omega), ⟨⟨⟨trivial, show dg_ 4 z 0 ≠ dg_ 4 z 3 by omega⟩, show dg_ 4 z 1 ≠ dg_ 4 z 3 by omega⟩, show dg_ 4 z 2 ≠ dg_ 4 z 3 by omega⟩⟩⟩
  have e : ((z.toNat : Nat) : Int) = z := by omega
  have k := hb z.toNat (by omega) (by rw [e]; exact hv)
  rw [e] at k
  have k1 : tsm_ W 4 z 4 = W 0 a + W 1 b + W 2 c + W 3 d := by show 0 + W 0 (dg_ 4 z 0) + W 1 (dg_ 4 z 1) + W 2 (dg_ 4 z 2) + W 3 (dg_ 4 z 3) = _; rw [d0, d1, d2, d3]; omega
  have k2 : tsm_ W 4 p 4 = W 0 (dg_ 4 p 0) + W 1 (dg_ 4 p 1) + W 2 (dg_ 4 p 2) + W 3 (dg_ 4 p 3) := by show 0 + W 0 (dg_ 4 p 0) + W 1 (dg_ 4 p 1) + W 2 (dg_ 4 p 2) + W 3 (dg_ 4 p 3) = _; omega
  omega

theorem stn_4 {W : Int → Int → Int} {p : Int} (hv : vp_ok 4 4 p) (hb : ∀ q : Nat, q < 256 → vp_ok 4 4 q → tsm_ W 4 q 4 ≤ tsm_ W 4 p 4) : cyc_ (fun r q => W r (dg_ 4 p q) - W r (dg_ 4 p r)) 4 ∧ (∀ s, 0 ≤ s → s < 4 → ∃ q, 0 ≤ q ∧ q < (4 : Int) ∧ dg_ 4 p q = s) := by
  have hs := ((vp_sea (S := 4) (R := 4) (by omega) (by omega)).mp hv).2.2
  have s0 := sea_at (r := 0) hs (by omega) (by show (0 : Int) < ((4 : Int).toNat : Int); omega)
  have s1 := sea_at (r := 1) hs (by omega) (by show (1 : Int) < ((4 : Int).toNat : Int); omega)
  have s2 := sea_at (r := 2) hs (by omega) (by show (2 : Int) < ((4 : Int).toNat : Int); omega)
  have s3 := sea_at (r := 3) hs (by omega) (by show (3 : Int) < ((4 : Int).toNat : Int); omega)
  have n01 : dg_ 4 p 0 ≠ dg_ 4 p 1 := dis_at s1.2 (by omega) (by show (0 : Int) < ((1 : Int).toNat : Int); omega)
  have n02 : dg_ 4 p 0 ≠ dg_ 4 p 2 := dis_at s2.2 (by omega) (by show (0 : Int) < ((2 : Int).toNat : Int); omega)
  have n12 : dg_ 4 p 1 ≠ dg_ 4 p 2 := dis_at s2.2 (by omega) (by show (1 : Int) < ((2 : Int).toNat : Int); omega)
  have n03 : dg_ 4 p 0 ≠ dg_ 4 p 3 := dis_at s3.2 (by omega) (by show (0 : Int) < ((3 : Int).toNat : Int); omega)
  have n13 : dg_ 4 p 1 ≠ dg_ 4 p 3 := dis_at s3.2 (by omega) (by show (1 : Int) < ((3 : Int).toNat : Int); omega)
  have n23 : dg_ 4 p 2 ≠ dg_ 4 p 3 := dis_at s3.2 (by omega) (by show (2 : Int) < ((3 : Int).toNat : Int); omega)
  refine ⟨cyc_4 (by omega) (by omega) (opt_4 hb), fun s s0 s1 => ?_⟩
  have : dg_ 4 p 0 = s ∨ dg_ 4 p 1 = s ∨ dg_ 4 p 2 = s ∨ dg_ 4 p 3 = s := by omega
  rcases this with k | k | k | k
  · exact ⟨0, by omega, by omega, k⟩
  · exact ⟨1, by omega, by omega, k⟩
  · exact ⟨2, by omega, by omega, k⟩
  · exact ⟨3, by omega, by omega, k⟩

theorem stb_ {S : Int} {W : Int → Int → Int} {hs : Int → Int} (hS : 2 ≤ S ∧ S ≤ 4) (hh : ∀ q, 0 ≤ q → q < S → 0 ≤ hs q ∧ hs q < S) (hc : cyc_ (fun r q => W r (hs q) - W r (hs r)) S) (hj : ∀ s, 0 ≤ s → s < S → ∃ q, 0 ≤ q ∧ q < S ∧ hs q = s) : tx3_ W hs S.toNat S.toNat 8 (fun _ => 0) = tx3_ W hs S.toNat S.toNat S.toNat (fun _ => 0) := by
  obtain ⟨v, ev⟩ : ∃ v : Int → Int → Int, v = fun r q => W r (hs q) - W r (hs r) := ⟨_, rfl⟩
  have vv : ∀ r q, v r q = W r (hs q) - W r (hs r) := fun r q => by rw [ev]
  rw [← ev] at hc
  obtain ⟨n, en⟩ : ∃ n : Nat, S = (n : Int) + 1 := ⟨(S - 1).toNat, by omega⟩
  rw [en] at hc
  have cl := fun r q hr hq => wlk_cl (v := v) (n := n) (by omega) hc r q hr hq
  have up : ∀ (k : Nat) (q : Int), 0 ≤ q → q < S → tx3_ W hs S.toNat S.toNat k (fun _ => 0) (hs q) ≤ wlk_ v n 3 q := tx3_u (by omega) (fun r q r0 r1 q0 q1 => by rw [← vv]; exact cl r q (by omega) (by omega)) (fun q q0 q1 => by
    have := wlk_g3 (v := v) (n := n) (q := q) (a := q) (b := q) (c := q) (by omega) (by omega) (by omega)
    have := hc.1 q
    show 0 ≤ _
    omega)
  have lo : ∀ (k : Nat) (q : Int), 0 ≤ q → q < S → wlk_ v n k q ≤ tx3_ W hs S.toNat S.toNat k (fun _ => 0) (hs q) := by
    intro k
    induction k with
    | zero => intro q _ _; exact Int.le_refl _
    | succ k ih =>
      intro q q0 q1
      obtain ⟨r, r0, r1, r2⟩ := mx_ex (f := fun r => wlk_ v n k r + v r q) n
      show mx_ (fun r => wlk_ v n k r + v r q) 0 n ≤ tx2_ W hs S.toNat S.toNat (tx3_ W hs S.toNat S.toNat k (fun _ => 0)) (hs q)
      rw [r2]
      have a1 := ih r r0 (by omega)
      have a2 := tx2_r (W := W) (hs := hs) (pr := tx3_ W hs S.toNat S.toNat k (fun _ => 0)) (S := S.toNat) S.toNat r (hs q) r0 (by omega) (hh q q0 q1).1 (by have := (hh q q0 q1).2; omega)
      have a3 := vv r q
      show wlk_ v n k r + v r q ≤ _
      omega
  have fin : ∀ q, 0 ≤ q → q < S → wlk_ v n 3 q ≤ tx3_ W hs S.toNat S.toNat S.toNat (fun _ => 0) (hs q) := fun q q0 q1 => by
    have h3 : n = 1 ∨ n = 2 ∨ n = 3 := by omega
    rcases h3 with rfl | rfl | rfl
    · have e : S.toNat = 2 := by omega
      have a1 := lo 2 q q0 q1
      have a2 := wlk_2 hc q (by omega)
      rw [e] at a1 ⊢
      omega
    · have e : S.toNat = 3 := by omega
      have a1 := lo 3 q q0 q1
      rw [e] at a1 ⊢
      exact a1
    · have e : S.toNat = 4 := by omega
      have a1 := lo 3 q q0 q1
      rw [e] at a1 ⊢
      exact Int.le_trans a1 (tx3_m 3 (hs q))
  have := tx3_c (W := W) (hs := hs) (pr := fun _ => 0) (S := S.toNat) (R := S.toNat) (k := S.toNat) (fun r s r0 r1 s0 s1 => by
    obtain ⟨q, q0, q1, q2⟩ := hj s s0 (by omega)
    have a1 := up S.toNat r r0 (by omega)
    have a2 := cl r q (by omega) (by omega)
    have a3 := fin q q0 q1
    have a4 := vv r q
    rw [q2] at a3 a4
    omega) (8 - S.toNat)
  rw [show S.toNat + (8 - S.toNat) = 8 by omega] at this
  exact this
theorem stz_ {S : Int} {W : Int → Int → Int} {p : Int} (hS : 2 ≤ S ∧ S ≤ 4) (hv : vp_ok S S p) (hb : ∀ q : Nat, q < 256 → vp_ok S S q → tsm_ W S q S.toNat ≤ tsm_ W S p S.toNat) : tx3_ W (dg_ S p) S.toNat S.toNat 8 (fun _ => 0) = tx3_ W (dg_ S p) S.toNat S.toNat S.toNat (fun _ => 0) := by
  have hh : ∀ q, 0 ≤ q → q < S → 0 ≤ dg_ S p q ∧ dg_ S p q < S := fun q q0 q1 => ⟨(dg_b _ _ _).1, vp_dg hv ⟨q0, q1⟩⟩
  have h3 : S = 2 ∨ S = 3 ∨ S = 4 := by omega
  rcases h3 with rfl | rfl | rfl
  · have k := stn_2 hv hb; exact stb_ hS hh k.1 k.2
  · have k := stn_3 hv hb; exact stb_ hS hh k.1 k.2
  · have k := stn_4 hv hb; exact stb_ hS hh k.1 k.2
/-- how high a price gets -/
theorem txs_bd {W : Int → Int → Int} {hs : Int → Int} {r s B : Int} {pr : Int → Int} (hW : ∀ r s, 0 ≤ W r s ∧ W r s ≤ 999) (hr : 0 ≤ hs r ∧ hs r < 4) (h : ∀ x, 0 ≤ x → x < 4 → 0 ≤ pr x ∧ pr x ≤ B) (x : Int) (x0 : 0 ≤ x) (x1 : x < 4) : 0 ≤ txs_ W hs r s pr x ∧ txs_ W hs r s pr x ≤ B + 999 := by
  have a1 := h x x0 x1
  have a2 := h (hs r) hr.1 hr.2
  have a3 := hW r s
  have a4 := hW r (hs r)
  unfold txs_ ob_
  by_cases c : x = s
  · rw [if_pos c, ← c]; rw [← c] at a3; split <;> omega
  · rw [if_neg c]; omega
theorem tx1_bd {W : Int → Int → Int} {hs : Int → Int} {r B : Int} {pr : Int → Int} (hW : ∀ r s, 0 ≤ W r s ∧ W r s ≤ 999) (hr : 0 ≤ hs r ∧ hs r < 4) (h : ∀ x, 0 ≤ x → x < 4 → 0 ≤ pr x ∧ pr x ≤ B) : ∀ (n : Nat) (x : Int), 0 ≤ x → x < 4 → 0 ≤ tx1_ W hs r n pr x ∧ tx1_ W hs r n pr x ≤ B + 999 * n
  | 0, x, x0, x1 => by have := h x x0 x1; show 0 ≤ pr x ∧ pr x ≤ _; omega
  | n + 1, x, x0, x1 => by have := txs_bd (s := (n : Int)) (hs := hs) (r := r) hW hr (tx1_bd hW hr h n) x x0 x1; show 0 ≤ txs_ W hs r (n : Int) _ x ∧ txs_ W hs r (n : Int) _ x ≤ _; omega
theorem tx2_bd {W : Int → Int → Int} {hs : Int → Int} {S : Nat} {B R : Int} {pr : Int → Int} (hS : S ≤ 4) (hW : ∀ r s, 0 ≤ W r s ∧ W r s ≤ 999) (hr : ∀ r, 0 ≤ r → r < R → 0 ≤ hs r ∧ hs r < 4) (h : ∀ x, 0 ≤ x → x < 4 → 0 ≤ pr x ∧ pr x ≤ B) : ∀ (n : Nat), (n : Int) ≤ R → ∀ (x : Int), 0 ≤ x → x < 4 → 0 ≤ tx2_ W hs S n pr x ∧ tx2_ W hs S n pr x ≤ B + 3996 * n
  | 0, _, x, x0, x1 => by have := h x x0 x1; show 0 ≤ pr x ∧ pr x ≤ _; omega
  | n + 1, hn, x, x0, x1 => by have := tx1_bd (hs := hs) (r := (n : Int)) hW (hr n (by omega) (by omega)) (tx2_bd hS hW hr h n (by omega)) S x x0 x1; show 0 ≤ tx1_ W hs (n : Int) S _ x ∧ tx1_ W hs (n : Int) S _ x ≤ _; omega
theorem tx3_bd {W : Int → Int → Int} {hs : Int → Int} {S R : Nat} {pr : Int → Int} (hS : S ≤ 4) (hR : R ≤ 4) (hW : ∀ r s, 0 ≤ W r s ∧ W r s ≤ 999) (hr : ∀ r, 0 ≤ r → r < (R : Int) → 0 ≤ hs r ∧ hs r < 4) (h : ∀ x, 0 ≤ x → x < 4 → 0 ≤ pr x ∧ pr x ≤ 0) : ∀ (n : Nat) (x : Int), 0 ≤ x → x < 4 → 0 ≤ tx3_ W hs S R n pr x ∧ tx3_ W hs S R n pr x ≤ 15984 * n
  | 0, x, x0, x1 => by have := h x x0 x1; show 0 ≤ pr x ∧ pr x ≤ _; omega
  | n + 1, x, x0, x1 => by have := tx2_bd (hs := hs) hS hW hr (tx3_bd hS hR hW hr h n) R (Int.le_refl _) x x0 x1; show 0 ≤ tx2_ W hs S R _ x ∧ tx2_ W hs S R _ x ≤ _; omega
/-- what a round's pushes need -/
theorem txp_bd {W : Int → Int → Int} {hs : Int → Int} {S : Nat} {B R : Int} {pr : Int → Int} (hS : S ≤ 4) (hR : R ≤ 4) (hW : ∀ r s, 0 ≤ W r s ∧ W r s ≤ 999) (hr : ∀ r, 0 ≤ r → r < R → 0 ≤ hs r ∧ hs r < 4) (h : ∀ x, 0 ≤ x → x < 4 → 0 ≤ pr x ∧ pr x ≤ B) (r s : Int) (r0 : 0 ≤ r) (r1 : r < R) (s0 : 0 ≤ s) (s1 : s ≤ 4) (x : Int) (x0 : 0 ≤ x) (x1 : x < 4) : 0 ≤ tx1_ W hs r s.toNat (tx2_ W hs S r.toNat pr) x ∧ tx1_ W hs r s.toNat (tx2_ W hs S r.toNat pr) x ≤ B + 20000 := by
  have := tx1_bd (hs := hs) (r := r) hW (hr r r0 r1) (tx2_bd hS hW hr h r.toNat (by omega)) s.toNat x x0 x1
  omega
/-- prices are looked at on the seats alone -/
theorem txs_cg {W : Int → Int → Int} {hs hz pa pb : Int → Int} {S R r s : Int} (hh : hs r = hz r) (hr : 0 ≤ hs r ∧ hs r < S) (hs0 : 0 ≤ s ∧ s < S) (h : ∀ x, 0 ≤ x → x < S → pa x = pb x) : ∀ x, 0 ≤ x → x < S → txs_ W hs r s pa x = txs_ W hz r s pb x := fun x x0 x1 => by
  unfold txs_ ob_
  rw [← hh, h (hs r) hr.1 hr.2, h s hs0.1 hs0.2, h x x0 x1]
theorem tx1_cg {W : Int → Int → Int} {hs hz pa pb : Int → Int} {S r : Int} (hh : hs r = hz r) (hr : 0 ≤ hs r ∧ hs r < S) (h : ∀ x, 0 ≤ x → x < S → pa x = pb x) : ∀ n : Nat, (n : Int) ≤ S → ∀ x, 0 ≤ x → x < S → tx1_ W hs r n pa x = tx1_ W hz r n pb x
  | 0, _ => h
  | n + 1, hn => txs_cg (R := S) hh hr ⟨by omega, by omega⟩ (tx1_cg hh hr h n (by omega))
theorem tx2_cg {W : Int → Int → Int} {hs hz pa pb : Int → Int} {S : Nat} {R : Int} (hh : ∀ r, 0 ≤ r → r < R → hs r = hz r ∧ 0 ≤ hs r ∧ hs r < (S : Int)) (h : ∀ x, 0 ≤ x → x < (S : Int) → pa x = pb x) : ∀ n : Nat, (n : Int) ≤ R → ∀ x, 0 ≤ x → x < (S : Int) → tx2_ W hs S n pa x = tx2_ W hz S n pb x
  | 0, _ => h
  | n + 1, hn => tx1_cg (hh n (by omega) (by omega)).1 (hh n (by omega) (by omega)).2 (tx2_cg hh h n (by omega)) S (Int.le_refl _)
theorem tx3_cg {W : Int → Int → Int} {hs hz pa pb : Int → Int} {S R : Nat} (hh : ∀ r, 0 ≤ r → r < (R : Int) → hs r = hz r ∧ 0 ≤ hs r ∧ hs r < (S : Int)) (h : ∀ x, 0 ≤ x → x < (S : Int) → pa x = pb x) : ∀ (k : Nat) (x : Int), 0 ≤ x → x < (S : Int) → tx3_ W hs S R k pa x = tx3_ W hz S R k pb x
  | 0 => h
  | k + 1 => tx2_cg hh (tx3_cg hh h k) R (Int.le_refl _)

