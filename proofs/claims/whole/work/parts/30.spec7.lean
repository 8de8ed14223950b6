/-! ===== the lawful plans as a list ===== -/
def rb4_ (S : Int) : Nat → Int → Bool
  | 0, p => decide (0 ≤ p)
  | k + 1, p => rb4_ S k p && (decide (dv_ k p % 4 < S) && decide ((rm4_ k p : Int) / 2 ^ (dv_ k p % 4).toNat % 2 = 0))
theorem rb4_iff {S p : Int} : ∀ k, rb4_ S k p = true ↔ ro4_ S k p
  | 0 => by unfold rb4_ ro4_; simp
  | k + 1 => by
    have := rb4_iff (S := S) (p := p) k
    unfold rb4_ ro4_
    rw [Bool.and_eq_true, Bool.and_eq_true, decide_eq_true_eq, decide_eq_true_eq, this]
def vb_ (S R p : Int) : Bool := rb4_ S R.toNat p && decide (dv_ R.toNat p = 0)
theorem vb_iff {S R p : Int} : vb_ S R p = true ↔ vp_ok S R p := by
  unfold vb_ vp_ok
  rw [Bool.and_eq_true, decide_eq_true_eq, rb4_iff]
def cvb_ (S R : Int) : Nat → Nat
  | 0 => 0
  | n + 1 => cvb_ S R n + (if vb_ S R n then 1 else 0)
set_option maxRecDepth 100000 in
theorem cvb_24 : ∀ S ∈ [(2 : Int), 3, 4], ∀ R ∈ [(0 : Int), 1, 2, 3, 4], cvb_ S R 256 ≤ 24 := by decide +kernel
noncomputable def lpn_ (ro : Int → Int) : Nat → List Int
  | 0 => []
  | n + 1 => lpn_ ro n ++ if_ (lpl_ ro n) [(n : Int)] []
theorem lpn_cv {ro : Int → Int} : ∀ n, (lpn_ ro n).length ≤ cvb_ (ro 0) (ro 2) n
  | 0 => by unfold lpn_; simp
  | n + 1 => by
    have h1 := lpn_cv (ro := ro) n
    unfold lpn_ cvb_
    by_cases c : lpl_ ro n
    · rw [if_t c, if_pos (vb_iff.mpr c.1)]; simp; exact h1
    · rw [if_f c]; simp; omega
theorem lpn_24 {ro : Int → Int} (hS : 2 ≤ ro 0 ∧ ro 0 ≤ 4) (hR : 0 ≤ ro 2 ∧ ro 2 ≤ ro 0) : (lpn_ ro 256).length ≤ 24 := by
  refine Nat.le_trans (lpn_cv 256) (cvb_24 _ ?_ _ ?_)
  · have h : ro 0 = 2 ∨ ro 0 = 3 ∨ ro 0 = 4 := by omega
    rcases h with h | h | h <;> rw [h] <;> decide
  · have h : ro 2 = 0 ∨ ro 2 = 1 ∨ ro 2 = 2 ∨ ro 2 = 3 ∨ ro 2 = 4 := by omega
    rcases h with h | h | h | h | h <;> rw [h] <;> decide
theorem lpn_mono {ro : Int → Int} : ∀ {a b : Nat}, a ≤ b → (lpn_ ro a).length ≤ (lpn_ ro b).length
  | a, 0, h => by rw [show a = 0 by omega]; exact Nat.le_refl _
  | a, b + 1, h => by
    by_cases e : a = b + 1
    · rw [e]; exact Nat.le_refl _
    · have := lpn_mono (ro := ro) (a := a) (b := b) (by omega)
      rw [lpn_, List.length_append]; omega
theorem lpn_mem {ro : Int → Int} : ∀ {n : Nat} {q : Int}, q ∈ lpn_ ro n → lpl_ ro q ∧ 0 ≤ q ∧ q < (n : Int)
  | 0, q, h => by unfold lpn_ at h; simp at h
  | n + 1, q, h => by
    unfold lpn_ at h
    rcases List.mem_append.mp h with h | h
    · have := lpn_mem h; exact ⟨this.1, by omega, by omega⟩
    · by_cases c : lpl_ ro n
      · rw [if_t c] at h; simp at h; subst h; exact ⟨c, by omega, by omega⟩
      · rw [if_f c] at h; simp at h
theorem lpn_s {ro : Int → Int} {p : Int} (h : 0 ≤ p) : lpn_ ro (p + 1).toNat = lpn_ ro p.toNat ++ if_ (lpl_ ro p) [p] [] := by rw [tn_s h]; show lpn_ ro p.toNat ++ if_ (lpl_ ro (p.toNat : Int)) [(p.toNat : Int)] [] = _; rw [tn_c h]
/-- an array's beginning is a list -/
def arr_ (f : Int → Int) (l : List Int) : Prop := ∀ k : Nat, k < l.length → f k = l.getD k 0
theorem arr_at {f : Int → Int} {l : List Int} (h : arr_ f l) {k : Int} (h0 : 0 ≤ k) (h1 : k < l.length) : f k = l.getD k.toNat 0 := by have := h k.toNat (by omega); rw [tn_c h0] at this; exact this
theorem arr_push {f : Int → Int} {l : List Int} {z : Int} (h : arr_ f l) : arr_ (ob_ f l.length z) (l ++ [z]) := by
  intro k hk
  simp at hk
  unfold ob_
  by_cases e : k = l.length
  · subst e; rw [if_pos rfl]; simp
  · rw [if_neg (by omega), h k (by omega)]
    simp [List.getD_eq_getElem?_getD, List.getElem?_append_left (show k < l.length by omega)]
theorem getD_mem {l : List Int} {k : Nat} (h : k < l.length) : l.getD k 0 ∈ l := by
  rw [List.getD_eq_getElem?_getD, List.getElem?_eq_getElem h]
  exact List.getElem_mem h
/-- what each plan of the list brings each rider on each stretch, who changes between two -/
def wok_ (ro : Int → Int) (P : List (Int × Int)) (l : List Int) (f : Int → Int) (k t r : Int) : Prop := ∀ j u q : Int, 0 ≤ j → 0 ≤ u → u < ro 1 → 0 ≤ q → q < ro 2 → (j < k ∨ j = k ∧ (u < t ∨ u = t ∧ q < r)) → f (96 * u + 4 * j + q) = wsi_ ro P (dg_ (ro 2) (l.getD j.toNat 0)) q u
def cok_ (ro : Int → Int) (l : List Int) (f : Int → Int) (k e : Int) : Prop := ∀ j i : Int, 0 ≤ j → 0 ≤ i → i < l.length → (j < k ∨ j = k ∧ i < e) → f (24 * j + i) = (chg_ (ro 2) (l.getD j.toNat 0) (l.getD i.toNat 0) (ro 2).toNat : Int)
/-- the tables of plans stand -/
def fpl_ (ro : Int → Int) (P : List (Int × Int)) (h : PH_) : Prop := h mo_ 32 = ((lpn_ ro 256).length : Int) ∧ arr_ (h mLawfuls) (lpn_ ro 256) ∧ wok_ ro P (lpn_ ro 256) (h mWorths) (lpn_ ro 256).length 0 0 ∧ cok_ ro (lpn_ ro 256) (h mChanges) (lpn_ ro 256).length 0
