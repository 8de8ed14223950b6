/-! ===== what fits, counted by sets ===== -/
theorem chg_z {R a b : Int} : ∀ {n : Nat}, chg_ R a b n = 0 → ∀ k, k < n → dv_ k a % 4 = dv_ k b % 4
  | 0, _, k, hk => by omega
  | n + 1, h, k, hk => by
    unfold chg_ at h
    have l := Nat.left_le_or (n := chg_ R a b n) (m := (if dv_ n a % 4 = dv_ n b % 4 then 0 else 2 ^ (R - 1 - n).toNat))
    have r := Nat.right_le_or (n := chg_ R a b n) (m := (if dv_ n a % 4 = dv_ n b % 4 then 0 else 2 ^ (R - 1 - n).toNat))
    rw [h] at l r
    by_cases c : k = n
    · subst c
      by_cases q : dv_ k a % 4 = dv_ k b % 4
      · exact q
      · rw [if_neg q] at r
        have : 0 < 2 ^ (R - 1 - (k : Int)).toNat := Nat.pow_pos (by decide)
        omega
    · exact chg_z (R := R) (n := n) (by omega) k (by omega)
theorem chg_y {R a b : Int} {n : Nat} (h : a = b) : chg_ R a b n = 0 := by
  subst h
  induction n with
  | zero => rfl
  | succ n ih => unfold chg_; rw [ih, if_pos rfl]; rfl
theorem vp_eq {S R a b : Int} (hR : 0 ≤ R ∧ R ≤ 4) (ha : vp_ok S R a) (hb : vp_ok S R b) (h : ∀ k, k < R.toNat → dv_ k a % 4 = dv_ k b % 4) : a = b := by
  have a1 := ha.2
  have b1 := hb.2
  obtain h0 | h0 | h0 | h0 | h0 : R = 0 ∨ R = 1 ∨ R = 2 ∨ R = 3 ∨ R = 4 := by omega
  · subst h0
    have a1 : a = 0 := a1
    have b1 : b = 0 := b1
    omega
  · subst h0
    have q0 := h 0 (by decide)
    have q0 : a % 4 = b % 4 := q0
    have a1 : a / 4 = 0 := a1
    have b1 : b / 4 = 0 := b1
    omega
  · subst h0
    have q0 : a % 4 = b % 4 := h 0 (by decide)
    have q1 : a / 4 % 4 = b / 4 % 4 := h 1 (by decide)
    have a1 : a / 4 / 4 = 0 := a1
    have b1 : b / 4 / 4 = 0 := b1
    omega
  · subst h0
    have q0 : a % 4 = b % 4 := h 0 (by decide)
    have q1 : a / 4 % 4 = b / 4 % 4 := h 1 (by decide)
    have q2 : a / 4 / 4 % 4 = b / 4 / 4 % 4 := h 2 (by decide)
    have a1 : a / 4 / 4 / 4 = 0 := a1
    have b1 : b / 4 / 4 / 4 = 0 := b1
    omega
  · subst h0
    have q0 : a % 4 = b % 4 := h 0 (by decide)
    have q1 : a / 4 % 4 = b / 4 % 4 := h 1 (by decide)
    have q2 : a / 4 / 4 % 4 = b / 4 / 4 % 4 := h 2 (by decide)
    have q3 : a / 4 / 4 / 4 % 4 = b / 4 / 4 / 4 % 4 := h 3 (by decide)
    have a1 : a / 4 / 4 / 4 / 4 = 0 := a1
    have b1 : b / 4 / 4 / 4 / 4 = 0 := b1
    omega
theorem lpn_lt2 {ro : Int → Int} : ∀ (n i j : Nat), i < j → j < (lpn_ ro n).length → (lpn_ ro n).getD i 0 < (lpn_ ro n).getD j 0
  | 0, i, j, h, hj => by exact absurd hj (Nat.not_lt_zero j)
  | n + 1, i, j, h, hj => by
    unfold lpn_ at hj ⊢
    by_cases c : lpl_ ro n
    · rw [if_t c] at hj ⊢
      rw [List.length_append] at hj
      have hj : j < (lpn_ ro n).length + 1 := hj
      have e1 : (lpn_ ro n ++ [(n : Int)]).getD i 0 = (lpn_ ro n).getD i 0 := by rw [List.getD_eq_getElem?_getD, List.getElem?_append_left (by omega), ← List.getD_eq_getElem?_getD]
      rw [e1]
      by_cases d : j < (lpn_ ro n).length
      · have e2 : (lpn_ ro n ++ [(n : Int)]).getD j 0 = (lpn_ ro n).getD j 0 := by rw [List.getD_eq_getElem?_getD, List.getElem?_append_left d, ← List.getD_eq_getElem?_getD]
        rw [e2]; exact lpn_lt2 n i j h d
      · have e2 : (lpn_ ro n ++ [(n : Int)]).getD j 0 = n := by
          rw [List.getD_eq_getElem?_getD, List.getElem?_append_right (by omega), show j - (lpn_ ro n).length = 0 by omega]; rfl
        rw [e2]
        have hi : i < (lpn_ ro n).length := by omega
        have m : (lpn_ ro n).getD i 0 ∈ lpn_ ro n := by
          rw [List.getD_eq_getElem?_getD, List.getElem?_eq_getElem hi]; exact List.getElem_mem hi
        exact (lpn_mem m).2.2
    · rw [if_f c, List.append_nil] at hj ⊢
      exact lpn_lt2 n i j h hj
theorem pL_in {ro : Int → Int} {k : Int} (h : 0 ≤ k ∧ k < (lpn_ ro 256).length) : lpl_ ro (pL_ ro k) ∧ 0 ≤ pL_ ro k ∧ pL_ ro k < 256 := by
  have hi : k.toNat < (lpn_ ro 256).length := by omega
  have m : (lpn_ ro 256).getD k.toNat 0 ∈ lpn_ ro 256 := by
    rw [List.getD_eq_getElem?_getD, List.getElem?_eq_getElem hi]; exact List.getElem_mem hi
  exact lpn_mem m
theorem pC_ne {ro : Int → Int} (hR : 0 ≤ ro 2 ∧ ro 2 ≤ 4) {j k : Int} (hj : 0 ≤ j ∧ j < (lpn_ ro 256).length) (hk : 0 ≤ k ∧ k < (lpn_ ro 256).length) : pC_ ro j k ≠ 0 ↔ j ≠ k := by
  constructor
  · intro h e
    subst e
    exact h (by unfold pC_; rw [chg_y rfl]; rfl)
  · intro h e
    have e : ((chg_ (ro 2) (pL_ ro j) (pL_ ro k) (ro 2).toNat : Nat) : Int) = 0 := e
    have z := chg_z (n := (ro 2).toNat) (show chg_ (ro 2) (pL_ ro j) (pL_ ro k) (ro 2).toNat = 0 by omega)
    have q := vp_eq hR (pL_in hj).1.1 (pL_in hk).1.1 z
    rcases Nat.lt_or_ge j.toNat k.toNat with u | u
    · have := lpn_lt2 (ro := ro) 256 j.toNat k.toNat u (by omega)
      have q : (lpn_ ro 256).getD j.toNat 0 = (lpn_ ro 256).getD k.toNat 0 := q
      omega
    · have := lpn_lt2 (ro := ro) 256 k.toNat j.toNat (by omega) (by omega)
      have q : (lpn_ ro 256).getD j.toNat 0 = (lpn_ ro 256).getD k.toNat 0 := q
      omega
/-- a set as bits -/
def FSN_ (A : Int → Prop) (i n : Nat) : Prop := n < 2 ^ i ∧ ∀ k : Nat, n.testBit k = true ↔ k < i ∧ A (k : Int)
theorem FSN_0 {A : Int → Prop} : FSN_ A 0 0 := ⟨by decide, fun k => by rw [Nat.zero_testBit]; exact ⟨fun h => (by cases h), fun h => absurd h.1 (by omega)⟩⟩
theorem FSN_y {A : Int → Prop} {i n : Nat} (h : FSN_ A i n) (ha : A (i : Int)) : FSN_ A (i + 1) (n ||| 2 ^ i) := by
  refine ⟨Nat.or_lt_two_pow (Nat.lt_of_lt_of_le h.1 (Nat.pow_le_pow_right (by decide) (by omega))) (Nat.pow_lt_pow_right (by decide) (by omega)), fun k => ?_⟩
  rw [Nat.testBit_or, Bool.or_eq_true, Nat.testBit_two_pow, h.2 k, decide_eq_true_iff]
  constructor
  · rintro (h | rfl)
    · exact ⟨by omega, h.2⟩
    · exact ⟨by omega, ha⟩
  · rintro ⟨h1, h2⟩
    by_cases c : i = k
    · exact Or.inr c
    · exact Or.inl ⟨by omega, h2⟩
theorem FSN_n {A : Int → Prop} {i n : Nat} (h : FSN_ A i n) (ha : ¬ A (i : Int)) : FSN_ A (i + 1) n := by
  refine ⟨Nat.lt_of_lt_of_le h.1 (Nat.pow_le_pow_right (by decide) (by omega)), fun k => ?_⟩
  rw [h.2 k]
  constructor
  · rintro ⟨h1, h2⟩; exact ⟨by omega, h2⟩
  · rintro ⟨h1, h2⟩
    refine ⟨?_, h2⟩
    rcases Nat.lt_or_ge k i with u | u
    · exact u
    · exact absurd h2 (by rw [show k = i by omega]; exact ha)
theorem FSN_b {A : Int → Prop} {N n : Nat} (h : FSN_ A N n) (hN : N ≤ 24) : n < 16777216 := Nat.lt_of_lt_of_le h.1 (by have := Nat.pow_le_pow_right (show 0 < 2 by decide) hN; have e : (2 : Nat) ^ 24 = 16777216 := rfl; omega)
theorem FSN_bit {A : Int → Prop} {N n : Nat} (h : FSN_ A N n) (k : Nat) : (n : Int) / 2 ^ k % 2 = 1 ↔ k < N ∧ A (k : Int) := by
  rw [← h.2 k, Nat.testBit_eq_decide_div_mod_eq, decide_eq_true_iff, pc_, ← Int.natCast_ediv]
  omega
theorem bit_nA {x : Int} {A : Int → Prop} : ∀ m : Nat, (∀ k : Nat, k < m → (x / 2 ^ k % 2 = 1 ↔ A (k : Int))) → bit_ x m = (nA_ A m : Int)
  | 0, _ => rfl
  | m + 1, h => by
    unfold bit_ nA_
    rw [bit_nA m (fun k hk => h k (by omega))]
    have q := h m (by omega)
    by_cases c : A (m : Int)
    · rw [if_t c, q.mpr c]; omega
    · rw [if_f c]
      have : ¬ x / 2 ^ m % 2 = 1 := fun u => c (q.mp u)
      omega
theorem nA_ex {A B : Int → Prop} {N : Nat} (hb : ∀ k : Nat, k < N → (B (k : Int) ↔ A (k : Int))) (hn : ∀ k : Nat, N ≤ k → ¬ B (k : Int)) : ∀ m : Nat, N ≤ m → nA_ B m = nA_ A N := by
  have le : ∀ i : Nat, i ≤ N → nA_ B i = nA_ A i := by
    intro i
    induction i with
    | zero => intro _; rfl
    | succ i ih =>
      intro hi
      unfold nA_
      rw [ih (by omega)]
      have q := hb i (by omega)
      by_cases c : A (i : Int)
      · rw [if_t c, if_t (q.mpr c)]
      · rw [if_f c, if_f (fun u => c (q.mp u))]
  intro m
  induction m with
  | zero => intro h; rw [show N = 0 by omega]; rfl
  | succ m ih =>
    intro h
    by_cases c : N = m + 1
    · rw [← c]; exact le N (Nat.le_refl N)
    · show nA_ B m + if_ (B (m : Int)) 1 0 = nA_ A N
      rw [ih (by omega), if_f (hn m (by omega))]; omega
theorem FSN_cnt {A : Int → Prop} {N n : Nat} (h : FSN_ A N n) (hN : N ≤ 24) : bit_ (n : Int) 24 = (nA_ A N : Int) := by
  rw [bit_nA (A := fun k => k < N ∧ A k) 24 (fun k _ => (FSN_bit h k).trans ⟨fun u => ⟨by omega, u.2⟩, fun u => ⟨by omega, u.2⟩⟩)]
  rw [nA_ex (A := A) (N := N) (fun k hk => ⟨fun u => u.2, fun u => ⟨by omega, u⟩⟩) (fun k hk u => by omega) 24 hN]
theorem FSN_eq {A B : Int → Prop} {N n m : Nat} (h : FSN_ A N n) (g : FSN_ B N m) : n = m ↔ ∀ k : Nat, k < N → (A (k : Int) ↔ B (k : Int)) := by
  constructor
  · rintro rfl k hk
    constructor
    · intro u; exact ((g.2 k).mp ((h.2 k).mpr ⟨hk, u⟩)).2
    · intro u; exact ((h.2 k).mp ((g.2 k).mpr ⟨hk, u⟩)).2
  · intro u
    apply Nat.eq_of_testBit_eq
    intro k
    rw [Bool.eq_iff_iff, h.2 k, g.2 k]
    constructor
    · rintro ⟨a, b⟩; exact ⟨a, (u k a).mp b⟩
    · rintro ⟨a, b⟩; exact ⟨a, (u k a).mpr b⟩
theorem FSN_z {A : Int → Prop} {N n : Nat} (h : FSN_ A N n) : n = 0 ↔ ∀ k : Nat, k < N → ¬ A (k : Int) := by
  constructor
  · rintro rfl k hk u
    have := (h.2 k).mpr ⟨hk, u⟩
    rw [Nat.zero_testBit] at this; cases this
  · intro u
    apply Nat.eq_of_testBit_eq
    intro k
    rw [Nat.zero_testBit, Bool.eq_false_iff]
    intro q
    obtain ⟨q1, q2⟩ := (h.2 k).mp q
    exact u k q1 q2
theorem FSN_and {A B : Int → Prop} {N n m : Nat} (h : FSN_ A N n) (g : FSN_ B N m) : FSN_ (fun k => A k ∧ B k) N (n &&& m) := by
  refine ⟨Nat.and_lt_two_pow _ g.1, fun k => ?_⟩
  rw [Nat.testBit_and, Bool.and_eq_true, h.2 k, g.2 k]
  exact ⟨fun u => ⟨u.1.1, u.1.2, u.2.2⟩, fun u => ⟨⟨u.1, u.2.1⟩, u.1, u.2.2⟩⟩
theorem nA_pos {A : Int → Prop} : ∀ {N : Nat}, 0 < nA_ A N ↔ ∃ k : Nat, k < N ∧ A (k : Int)
  | 0 => ⟨fun h => absurd h (Nat.lt_irrefl 0), fun ⟨k, hk, _⟩ => absurd hk (Nat.not_lt_zero k)⟩
  | N + 1 => by
    unfold nA_
    by_cases c : A (N : Int)
    · rw [if_t c]; exact ⟨fun _ => ⟨N, by omega, c⟩, fun _ => by omega⟩
    · rw [if_f c]
      have := nA_pos (A := A) (N := N)
      constructor
      · intro h
        obtain ⟨k, k1, k2⟩ := this.mp (by omega)
        exact ⟨k, by omega, k2⟩
      · rintro ⟨k, k1, k2⟩
        rcases Nat.lt_or_ge k N with u | u
        · have := this.mpr ⟨k, u, k2⟩; omega
        · exact absurd k2 (by rw [show k = N by omega]; exact c)
theorem nA_le {A : Int → Prop} : ∀ {N : Nat}, nA_ A N ≤ N
  | 0 => Nat.le_refl 0
  | N + 1 => by
    unfold nA_
    have := nA_le (A := A) (N := N)
    by_cases c : A (N : Int)
    · rw [if_t c]; omega
    · rw [if_f c]; omega
theorem nA_1 {A : Int → Prop} : ∀ {N : Nat}, nA_ A N = 1 → ∀ {i j : Nat}, i < N → j < N → A (i : Int) → A (j : Int) → i = j
  | 0, h, i, j, hi, _, _, _ => by omega
  | N + 1, h, i, j, hi, hj, ai, aj => by
    unfold nA_ at h
    by_cases c : A (N : Int)
    · rw [if_t c] at h
      have z : ∀ k : Nat, k < N → ¬ A (k : Int) := fun k hk u => by
        have := nA_pos.mpr ⟨k, hk, u⟩
        omega
      have i1 : i = N := by rcases Nat.lt_or_ge i N with u | u; exact absurd ai (z i u); omega
      have j1 : j = N := by rcases Nat.lt_or_ge j N with u | u; exact absurd aj (z j u); omega
      omega
    · rw [if_f c] at h
      have ne : ∀ k : Nat, k < N + 1 → A (k : Int) → k < N := fun k hk u => by
        rcases Nat.lt_or_ge k N with v | v
        · exact v
        · exact absurd u (by rw [show k = N by omega]; exact c)
      exact nA_1 (by omega) (ne i hi ai) (ne j hj aj) ai aj
theorem nA_u {A : Int → Prop} {N i : Nat} (hi : i < N) (ai : A (i : Int)) (h : ∀ j : Nat, j < N → A (j : Int) → j = i) : nA_ A N = 1 := by
  have e : ∀ m : Nat, m ≤ N → nA_ A m = if i < m then 1 else 0 := by
    intro m
    induction m with
    | zero => intro _; rw [if_neg (by omega)]; rfl
    | succ m ih =>
      intro hm
      unfold nA_
      rw [ih (by omega)]
      by_cases c : A (m : Int)
      · have := h m (by omega) c
        rw [if_t c, if_neg (by omega), if_pos (by omega)]
      · rw [if_f c]
        by_cases d : i < m
        · rw [if_pos d, if_pos (by omega)]
        · rw [if_neg d]
          by_cases q : i = m
          · exact absurd ai (by rw [q]; exact c)
          · rw [if_neg (by omega)]
  rw [e N (Nat.le_refl N), if_pos hi]
/-- a product, from the begin -/
noncomputable def pQ_ (N : Nat) (SE : Int → Int → Prop) : Nat → Nat
  | 0 => 1
  | n + 1 => pQ_ N SE n * nA_ (fun k => SE k (n : Int)) N
theorem pQ_pA {N T : Nat} {SE : Int → Int → Prop} : ∀ n : Nat, n ≤ T → pQ_ N SE (T - n) * pA_ (T : Int) N SE n = pQ_ N SE T
  | 0, _ => by show pQ_ N SE (T - 0) * 1 = _; rw [Nat.mul_one]; rfl
  | n + 1, h => by
    have ih := pQ_pA (N := N) (T := T) (SE := SE) n (by omega)
    rw [← ih, show T - n = (T - (n + 1)) + 1 by omega]
    show _ * (nA_ (fun k => SE k ((T : Int) - 1 - n)) N * pA_ (T : Int) N SE n) = (_ * nA_ (fun k => SE k ((T - (n + 1) : Nat) : Int)) N) * _
    rw [show ((T - (n + 1) : Nat) : Int) = (T : Int) - 1 - n by omega, Nat.mul_assoc]
theorem pQ_b {N : Nat} {SE : Int → Int → Prop} (hN : N ≤ 24) : ∀ n : Nat, pQ_ N SE n ≤ 24 ^ n
  | 0 => Nat.le_refl 1
  | n + 1 => by
    unfold pQ_
    rw [Nat.pow_succ]
    exact Nat.mul_le_mul (pQ_b hN n) (Nat.le_trans nA_le hN)
theorem pQ_0 {N : Nat} {SE : Int → Int → Prop} : ∀ {n t : Nat}, t < n → 0 < pQ_ N SE n → 0 < nA_ (fun k => SE k (t : Int)) N
  | 0, t, h, _ => by omega
  | n + 1, t, h, hp => by
    unfold pQ_ at hp
    by_cases c : t = n
    · rw [c]; exact Nat.pos_of_mul_pos_left hp
    · exact pQ_0 (by omega) (Nat.pos_of_mul_pos_right hp)
theorem and_not8 : ∀ s < 8, ∀ x < 8, ∀ b < 3, (s - (s &&& x)).testBit b = (s.testBit b && !x.testBit b) := by decide +kernel
theorem sto_t {T : Int} (h : 0 ≤ T ∧ T ≤ 4) (b : Nat) : (sto_ T).testBit b = true ↔ (b : Int) + 1 < T := by
  unfold sto_
  rw [Nat.testBit_two_pow_sub_one, decide_eq_true_iff]
  omega

