theorem fs1_e {Q : Int → Prop} : ∀ (f : Nat) {p0 p : Int}, p0 ≤ p → p < p0 + f → Q p → (∀ q, p0 ≤ q → q < p → ¬ Q q) → fs1_ Q f p0 = p
  | 0, p0, p, h0, h1, _, _ => by omega
  | f + 1, p0, p, h0, h1, hq, hn => by
    unfold fs1_
    by_cases c : p0 = p
    · subst c; exact if_t hq
    · rw [if_f (hn p0 (by omega) (by omega))]
      exact fs1_e f (by omega) (by omega) hq (fun q a b => hn q (by omega) b)
theorem piv_y {S : Int} {lf : Int → Int} {y : Int} (hS : 2 ≤ S ∧ S ≤ 4) (h : piv_ S lf y) : 0 ≤ y := by
  rw [← (h.2 0 (by omega) (by omega)).1]
  exact rsm_nn _ (fun e e0 e1 => (h.1 _ (by omega) (by omega)).1)
theorem piv_p {S : Int} {lf : Int → Int} {y p : Int} (hS : 2 ≤ S ∧ S ≤ 4) (h : piv_ S lf y) (hq : pq_ S S lf p) : 0 < y := by
  have y0 := piv_y hS h
  by_cases c : y = 0
  · subst c
    have z := piv_z hS h
    obtain ⟨r, r0, r1, e⟩ := lst_at (lf := lf) (si := dg_ S p) S.toNat (by omega) (fun r r0 r1 => by have := dg_b S p r; have := (h.1 (4 * r + dg_ S p r) (by omega) (by omega)).2; omega)
    have d := vp_dg hq.1 (r := r) ⟨r0, by omega⟩
    exact absurd (e.trans (z r (dg_ S p r) r0 (by omega) (dg_b _ _ _).1 d)) hq.2
  · omega
theorem pcs_c {S : Int} {lf : Int → Int} {y p : Int} (hS : 2 ≤ S ∧ S ≤ 4) (h : piv_ S lf y) (hq : pq_ S S lf p) (hp : 0 ≤ p ∧ p < 256) (hn : ∀ q, 0 ≤ q → q < p → ¬ pq_ S S lf q) (n : Nat) : pcs_ S S (n + 1) lf y = (p, lst_ lf (dg_ S p) S.toNat) :: pcs_ S S n (pcl_ lf (dg_ S p) (lst_ lf (dg_ S p) S.toNat) S) (y - lst_ lf (dg_ S p) S.toNat) ∧ piv_ S (pcl_ lf (dg_ S p) (lst_ lf (dg_ S p) S.toNat) S) (y - lst_ lf (dg_ S p) S.toNat) := by
  have y0 := piv_p hS h hq
  have e1 : pp0_ S S lf = p := fs1_e 256 hp.1 (by omega) hq hn
  have e2 : pv0_ S S lf = lst_ lf (dg_ S p) S.toNat := by unfold pv0_; rw [e1]
  have e3 : pl0_ S S lf = pcl_ lf (dg_ S p) (lst_ lf (dg_ S p) S.toNat) S := by unfold pl0_; rw [e2, e1]
  obtain ⟨_, _, _, s4, _⟩ := piv_s hS h y0
  rw [e2, e3] at s4
  refine ⟨?_, s4⟩
  show (if y ≤ 0 then [] else _) = _
  rw [if_neg (by omega), e1, e2, e3]
theorem pcs_n {S : Int} {lf : Int → Int} {y : Int} (hS : 2 ≤ S ∧ S ≤ 4) (h : piv_ S lf y) (hn : ∀ q, 0 ≤ q → ¬ pq_ S S lf q) : ∀ n : Nat, pcs_ S S n lf y = []
  | 0 => rfl
  | n + 1 => by
    show (if y ≤ 0 then [] else _) = _
    rw [if_pos]
    by_cases c : 0 < y
    · obtain ⟨q, q0, _, q2⟩ := piv_q hS h c
      exact absurd q2 (hn q q0)
    · omega
/-- the pieces lie in the class's cells -/
def pcc_ (f g : Int → Int) (L : List (Int × Int)) : Prop := ∀ i : Nat, i < L.length → f i = (L.getD i (0, 0)).1 ∧ g i = (L.getD i (0, 0)).2
theorem pcc_push {f g : Int → Int} {L : List (Int × Int)} {a b : Int} (h : pcc_ f g L) : pcc_ (ob_ f L.length a) (ob_ g L.length b) (L ++ [(a, b)]) := fun i hi => by
  simp at hi
  unfold ob_
  by_cases c : i = L.length
  · subst c; simp
  · rw [if_neg (by omega), if_neg (by omega), List.getD_eq_getElem?_getD, List.getElem?_append_left (by omega), ← List.getD_eq_getElem?_getD]
    exact h i (by omega)

