/-! ===== the journeys that fit: a product of sets ===== -/
section FIT
variable {T : Int} {N : Nat} {pl : Int → Int} {CH : Int → Int → Int} {SE : Int → Int → Prop}
noncomputable def lf_ (T : Int) (N : Nat) (CH : Int → Int → Int) (SE : Int → Int → Prop) : Nat → (Int → Int) → Nat → List ((Int → Int) × Nat)
  | 0, row, s => [(row, s)]
  | n + 1, row, s => (List.range N).flatMap (fun (k : Nat) => if_ (SE (k : Int) (T - 1 - n)) (lf_ T N CH SE n (ob_ row (T - 1 - n) (k : Int)) (nst_ CH row (T - 1 - n) (k : Int) s)) [])
theorem fth_lf : ∀ (n : Nat) (row : Int → Int) (s : Nat) (F : FT_), fth_ T N pl CH SE n row s F = (lf_ T N CH SE n row s).foldl (fun F x => flf_ T pl x.1 x.2 F) F
  | 0, row, s, F => rfl
  | n + 1, row, s, F => by
    unfold fth_ lf_
    rw [List.foldl_flatMap]
    refine foldl_cg (fun F k _ => ?_)
    by_cases c : SE (k : Int) (T - 1 - n)
    · rw [if_t c, if_t c]; exact fth_lf n _ _ F
    · rw [if_f c, if_f c]; rfl
theorem flf_1 : ∀ (l : List ((Int → Int) × Nat)) (F : FT_), (l.foldl (fun F x => flf_ T pl x.1 x.2 F) F).1 = F.1 + (l.length : Int)
  | [], F => by show F.1 = F.1 + ((0 : Nat) : Int); omega
  | x :: l, F => by rw [List.foldl_cons, flf_1 l]; show F.1 + 1 + _ = F.1 + ((l.length + 1 : Nat) : Int); omega
theorem flf_2 (b : Nat) : ∀ (l : List ((Int → Int) × Nat)) (F : FT_), (l.foldl (fun F x => flf_ T pl x.1 x.2 F) F).2.1.testBit b = true ↔ F.2.1.testBit b = true ∧ ∀ x ∈ l, x.2.testBit b = true
  | [], F => by constructor; exact fun h => ⟨h, fun x hx => (by cases hx)⟩; exact fun h => h.1
  | x :: l, F => by
    rw [List.foldl_cons, flf_2 b l]
    show (F.2.1 &&& x.2).testBit b = true ∧ _ ↔ _
    rw [Nat.testBit_and, Bool.and_eq_true]
    constructor
    · rintro ⟨⟨h1, h2⟩, h3⟩
      exact ⟨h1, fun y hy => by rcases List.mem_cons.mp hy with rfl | hy; exact h2; exact h3 y hy⟩
    · rintro ⟨h1, h2⟩
      exact ⟨⟨h1, h2 x List.mem_cons_self⟩, fun y hy => h2 y (List.mem_cons_of_mem _ hy)⟩
theorem flf_3 (b : Nat) : ∀ (l : List ((Int → Int) × Nat)) (F : FT_), (l.foldl (fun F x => flf_ T pl x.1 x.2 F) F).2.2.1.testBit b = true ↔ F.2.2.1.testBit b = true ∨ ∃ x ∈ l, x.2.testBit b = true
  | [], F => by constructor; exact fun h => Or.inl h; exact fun h => by rcases h with h | ⟨x, hx, _⟩; exact h; cases hx
  | x :: l, F => by
    rw [List.foldl_cons, flf_3 b l]
    show (F.2.2.1 ||| x.2).testBit b = true ∨ _ ↔ _
    rw [Nat.testBit_or, Bool.or_eq_true]
    constructor
    · rintro ((h | h) | ⟨y, hy, h⟩)
      · exact Or.inl h
      · exact Or.inr ⟨x, List.mem_cons_self, h⟩
      · exact Or.inr ⟨y, List.mem_cons_of_mem _ hy, h⟩
    · rintro (h | ⟨y, hy, h⟩)
      · exact Or.inl (Or.inl h)
      · rcases List.mem_cons.mp hy with rfl | hy
        · exact Or.inl (Or.inr h)
        · exact Or.inr ⟨y, hy, h⟩
theorem flf_4a : ∀ (l : List ((Int → Int) × Nat)) (F : FT_), 0 < F.1 → (l.foldl (fun F x => flf_ T pl x.1 x.2 F) F).2.2.2 = F.2.2.2
  | [], F, _ => rfl
  | x :: l, F, h => by
    rw [List.foldl_cons, flf_4a l _ (by show 0 < F.1 + 1; omega)]
    show (if F.1 = 0 then _ else F.2.2.2) = _
    rw [if_neg (by omega)]
theorem flf_4 (x : (Int → Int) × Nat) (l : List ((Int → Int) × Nat)) (F : FT_) (h : F.1 = 0) : ((x :: l).foldl (fun F x => flf_ T pl x.1 x.2 F) F).2.2.2 = trn_ T (fun k => pl (x.1 k)) := by
  rw [List.foldl_cons, flf_4a l _ (by show 0 < F.1 + 1; omega)]
  show (if F.1 = 0 then _ else F.2.2.2) = _
  rw [if_pos h]
/-- how many of a set -/
noncomputable def nA_ (A : Int → Prop) : Nat → Nat
  | 0 => 0
  | k + 1 => nA_ A k + if_ (A (k : Int)) 1 0
noncomputable def pA_ (T : Int) (N : Nat) (SE : Int → Int → Prop) : Nat → Nat
  | 0 => 1
  | n + 1 => nA_ (fun k => SE k (T - 1 - n)) N * pA_ T N SE n
theorem fm_len {α : Type} {A : Int → Prop} {f : Nat → List α} {c : Nat} : ∀ (m : Nat), (∀ k, k < m → (f k).length = if_ (A (k : Int)) c 0) → ((List.range m).flatMap f).length = nA_ A m * c
  | 0, _ => by show 0 = 0 * c; omega
  | m + 1, h => by
    rw [List.range_succ, List.flatMap_append, List.length_append, fm_len m (fun k hk => h k (by omega))]
    show _ + (f m ++ []).length = (nA_ A m + if_ (A (m : Int)) 1 0) * c
    rw [List.append_nil, h m (by omega), Nat.add_mul]
    by_cases q : A (m : Int)
    · rw [if_t q, if_t q, Nat.one_mul]
    · rw [if_f q, if_f q, Nat.zero_mul]
theorem lf_len : ∀ (n : Nat) (row : Int → Int) (s : Nat), (lf_ T N CH SE n row s).length = pA_ T N SE n
  | 0, row, s => rfl
  | n + 1, row, s => by
    unfold lf_ pA_
    refine fm_len N (fun k hk => ?_)
    by_cases c : SE (k : Int) (T - 1 - n)
    · rw [if_t c, if_t c]; exact lf_len n _ _
    · rw [if_f c, if_f c]; rfl
/-- what is in it -/
theorem nst_t {CH : Int → Int → Int} {row : Int → Int} {t k : Int} {s b : Nat} : (nst_ CH row t k s).testBit b = true ↔ s.testBit b = true ∨ (t = (b : Int) + 1 ∧ CH (row b) k ≠ 0) := by
  unfold nst_
  by_cases c : 0 < t ∧ CH (row (t - 1)) k ≠ 0
  · rw [if_t c, Nat.testBit_or, Bool.or_eq_true, Nat.testBit_two_pow]
    constructor
    · rintro (h | h)
      · exact Or.inl h
      · have h := of_decide_eq_true h
        exact Or.inr ⟨by omega, by rw [show (b : Int) = t - 1 by omega]; exact c.2⟩
    · rintro (h | ⟨h1, h2⟩)
      · exact Or.inl h
      · exact Or.inr (decide_eq_true (by omega))
  · rw [if_f c]
    constructor
    · exact fun h => Or.inl h
    · rintro (h | ⟨h1, h2⟩)
      · exact h
      · exact absurd ⟨by omega, by rw [show t - 1 = (b : Int) by omega]; exact h2⟩ c
theorem lf_mem : ∀ (n : Nat) (row : Int → Int) (s : Nat) (x : (Int → Int) × Nat), x ∈ lf_ T N CH SE n row s → (∀ j, j < T - n ∨ T ≤ j → x.1 j = row j) ∧ (∀ j, T - n ≤ j → j < T → 0 ≤ x.1 j ∧ x.1 j < N ∧ SE (x.1 j) j) ∧ ∀ b : Nat, x.2.testBit b = true ↔ s.testBit b = true ∨ (T - n ≤ (b : Int) + 1 ∧ (b : Int) + 1 < T ∧ CH (x.1 b) (x.1 ((b : Int) + 1)) ≠ 0)
  | 0, row, s, x, hx => by
    have e : x = (row, s) := List.mem_singleton.mp hx
    subst e
    refine ⟨fun j _ => rfl, fun j h1 h2 => by exfalso; omega, fun b => ⟨fun h => Or.inl h, fun h => ?_⟩⟩
    rcases h with h | h
    · exact h
    · exfalso; omega
  | n + 1, row, s, x, hx => by
    unfold lf_ at hx
    obtain ⟨k, hk, hx⟩ := List.mem_flatMap.mp hx
    have hk := List.mem_range.mp hk
    by_cases c : SE (k : Int) (T - 1 - n)
    · rw [if_t c] at hx
      obtain ⟨e1, e2, e3⟩ := lf_mem n _ _ x hx
      have xt : x.1 (T - 1 - n) = (k : Int) := by rw [e1 _ (Or.inl (by omega))]; exact if_pos rfl
      have xo : ∀ j, j < T - 1 - n ∨ T ≤ j → x.1 j = row j := fun j hj => by rw [e1 j (by omega)]; exact if_neg (by omega)
      refine ⟨fun j hj => xo j (by omega), fun j h1 h2 => ?_, fun b => ?_⟩
      · by_cases q : j = T - 1 - n
        · rw [q, xt]; exact ⟨by omega, by omega, c⟩
        · exact e2 j (by omega) h2
      · rw [e3 b, nst_t]
        constructor
        · rintro ((h | ⟨h1, h2⟩) | ⟨h1, h2, h3⟩)
          · exact Or.inl h
          · by_cases d : T - 1 - (n : Int) < T
            · exact Or.inr ⟨by omega, by omega, by rw [xo b (by omega), ← h1, xt]; exact h2⟩
            · exfalso; omega
          · exact Or.inr ⟨by omega, h2, h3⟩
        · rintro (h | ⟨h1, h2, h3⟩)
          · exact Or.inl (Or.inl h)
          · by_cases q : (b : Int) + 1 = T - 1 - n
            · rw [q, xt, xo b (by omega)] at h3
              exact Or.inl (Or.inr ⟨q.symm, h3⟩)
            · exact Or.inr ⟨by omega, h2, h3⟩
    · rw [if_f c] at hx; cases hx
theorem lf_all : ∀ (n : Nat) (row rw' : Int → Int) (s : Nat), (∀ j, j < T - n ∨ T ≤ j → rw' j = row j) → (∀ j, T - n ≤ j → j < T → 0 ≤ rw' j ∧ rw' j < N ∧ SE (rw' j) j) → ∃ x ∈ lf_ T N CH SE n row s, ∀ j, x.1 j = rw' j
  | 0, row, rw', s, h1, h2 => ⟨(row, s), List.mem_singleton.mpr rfl, fun j => (h1 j (by omega)).symm⟩
  | n + 1, row, rw', s, h1, h2 => by
    obtain ⟨q0, q1, q2⟩ := h2 (T - 1 - n) (by omega) (by omega)
    obtain ⟨x, hx, e⟩ := lf_all n (ob_ row (T - 1 - n) (rw' (T - 1 - n))) rw' (nst_ CH row (T - 1 - n) (rw' (T - 1 - n)) s) (fun j hj => by
      unfold ob_
      by_cases c : j = T - 1 - n
      · rw [if_pos c, c]
      · rw [if_neg c]; exact h1 j (by omega)) (fun j a b => h2 j (by omega) b)
    refine ⟨x, ?_, e⟩
    unfold lf_
    refine List.mem_flatMap.mpr ⟨(rw' (T - 1 - n)).toNat, List.mem_range.mpr (by omega), ?_⟩
    rw [show (((rw' (T - 1 - n)).toNat : Nat) : Int) = rw' (T - 1 - n) by omega, if_t q2]
    exact hx
/-- the first -/
theorem fm_head {α : Type} {f : Nat → List α} {m k : Nat} {x : α} {l : List α} (hk : k < m) (h0 : ∀ j, j < k → f j = []) (h1 : f k = x :: l) : ∃ l', (List.range m).flatMap f = x :: l' := by
  obtain ⟨d, rfl⟩ : ∃ d, m = k + 1 + d := ⟨m - k - 1, by omega⟩
  rw [List.range_add, List.range_succ, List.flatMap_append, List.flatMap_append]
  have e0 : (List.range k).flatMap f = [] := by
    rw [List.flatMap_eq_nil_iff]
    exact fun j hj => h0 j (List.mem_range.mp hj)
  rw [e0, List.nil_append]
  show ∃ l', (f k ++ []) ++ _ = _
  rw [h1]
  exact ⟨_, rfl⟩
def fst0_ (A : Int → Prop) (N : Nat) (k : Int) : Prop := (0 ≤ k ∧ k < N ∧ A k) ∧ ∀ j, 0 ≤ j → j < k → ¬ A j
theorem lf_head : ∀ (n : Nat) (row mn : Int → Int) (s : Nat), (∀ j, T - n ≤ j → j < T → fst0_ (fun k => SE k j) N (mn j)) → ∃ x l, lf_ T N CH SE n row s = x :: l ∧ (∀ j, j < T - n ∨ T ≤ j → x.1 j = row j) ∧ ∀ j, T - n ≤ j → j < T → x.1 j = mn j
  | 0, row, mn, s, h => ⟨(row, s), [], rfl, fun _ _ => rfl, fun j h1 h2 => by exfalso; omega⟩
  | n + 1, row, mn, s, h => by
    obtain ⟨⟨q0, q1, q2⟩, q3⟩ := h (T - 1 - n) (by omega) (by omega)
    obtain ⟨x, l, e, e1, e2⟩ := lf_head n (ob_ row (T - 1 - n) (mn (T - 1 - n))) mn (nst_ CH row (T - 1 - n) (mn (T - 1 - n)) s) (fun j a b => h j (by omega) b)
    have kk : (((mn (T - 1 - n)).toNat : Nat) : Int) = mn (T - 1 - n) := by omega
    obtain ⟨l', el⟩ := fm_head (f := fun (k : Nat) => if_ (SE (k : Int) (T - 1 - n)) (lf_ T N CH SE n (ob_ row (T - 1 - n) (k : Int)) (nst_ CH row (T - 1 - n) (k : Int) s)) []) (m := N) (k := (mn (T - 1 - n)).toNat) (x := x) (l := l) (by omega) (fun j hj => if_f (q3 (j : Int) (by omega) (by omega))) (by rw [kk, if_t q2]; exact e)
    refine ⟨x, l', el, fun j hj => ?_, fun j a b => ?_⟩
    · rw [e1 j (by omega)]; exact if_neg (by omega)
    · by_cases c : j = T - 1 - n
      · rw [e1 j (Or.inl (by omega)), c]; exact if_pos rfl
      · exact e2 j (by omega) b
end FIT

