/-! ===== journeys and shares, as told ===== -/
abbrev JL_ : Type := List (Int × Int)
noncomputable def jck_ (tk : Nat → TK_) (n : Int) (a : Nat) : RE_ Nat := if_ (isW_ (tk a) 12 ∨ isW_ (tk a) 13) (if n = 20 then .error (flt_ tk 5 a) else .ok (a + 1)) (.error (flt_ tk 1 a))
noncomputable def jrd_ (tk : Nat → TK_) (nm : NM_) (b : Nat) : RE_ Nat := bd_ (rdh_ tk nm b) (fun _ => .ok (b + 1))
noncomputable def jl1_ (tk : Nat → TK_) (nm : NM_) (S n : Int) (a : Nat) : RE_ ((Int × Int) × Nat) := if_ (isW_ (tk a) 12) (bd_ (jck_ tk n a) (fun b => bd_ (rdh_ tk nm b) (fun r => bd_ (tkn_ tk 0 (S - 1) (b + 1)) (fun s => .ok ((r, s.1), s.2))))) (bd_ (jck_ tk n a) (fun b => .ok ((-1, -1), b)))
noncomputable def jlp_ (tk : Nat → TK_) (nm : NM_) (S : Int) : Nat → JL_ → Nat → RE_ JL_
  | 0, L, _ => .ok L
  | f + 1, L, a => if_ ((tk a).1 = 0) (.ok L) (bd_ (jl1_ tk nm S L.length a) (fun q => bd_ (tks2_ tk 59 q.2) (fun b => jlp_ tk nm S f (L ++ [q.1]) b)))
noncomputable def jou_ (tk : Nat → TK_) (nm : NM_) (S : Int) : RE_ JL_ := jlp_ tk nm S 1001 [] 0
theorem jlp_0 {tk : Nat → TK_} {nm : NM_} {S : Int} {f : Nat} {L : JL_} {a : Nat} (h : (tk a).1 = 0) : jlp_ tk nm S f L a = .ok L := by
  cases f with
  | zero => rfl
  | succ f => show if_ _ _ _ = _; rw [if_t h]
theorem jlp_s {tk : Nat → TK_} {nm : NM_} {S : Int} {f : Nat} {L : JL_} {a : Nat} (h : ¬ (tk a).1 = 0) : jlp_ tk nm S (f + 1) L a = bd_ (jl1_ tk nm S L.length a) (fun q => bd_ (tks2_ tk 59 q.2) (fun b => jlp_ tk nm S f (L ++ [q.1]) b)) := by
  show if_ _ _ _ = _; rw [if_f h]
theorem jck_o {tk : Nat → TK_} {n : Int} {a b : Nat} (h : jck_ tk n a = .ok b) : b = a + 1 ∧ n ≠ 20 ∧ (isW_ (tk a) 12 ∨ isW_ (tk a) 13) := by
  unfold jck_ at h
  by_cases c1 : isW_ (tk a) 12 ∨ isW_ (tk a) 13
  · rw [if_t c1] at h
    by_cases c2 : n = 20
    · rw [if_pos c2] at h; cases h
    · rw [if_neg c2] at h; cases h; exact ⟨rfl, c2, c1⟩
  · rw [if_f c1] at h; cases h
theorem jl1_o {tk : Nat → TK_} {nm : NM_} {S n : Int} {a : Nat} {q : (Int × Int) × Nat} (h : jl1_ tk nm S n a = .ok q) : a < q.2 ∧ n ≠ 20 ∧ ((0 ≤ q.1.1 ∧ q.1.1 ≤ 3 ∧ 0 ≤ q.1.2 ∧ q.1.2 ≤ S - 1 ∧ ∃ w, fnd_ nm w = q.1.1) ∨ q.1.1 = -1 ∧ q.1.2 = -1) := by
  unfold jl1_ at h
  by_cases c : isW_ (tk a) 12
  · rw [if_t c] at h
    obtain ⟨b, b1, h⟩ := bd_ok h
    obtain ⟨r, r1, h⟩ := bd_ok h
    obtain ⟨s, s1, h⟩ := bd_ok h
    cases h
    have B := jck_o b1
    have R := rdh_o r1
    have T := tkn_o s1
    exact ⟨by show a < s.2; omega, B.2.1, Or.inl ⟨R.1.1, R.1.2, T.1.1, T.1.2, _, R.2.2⟩⟩
  · rw [if_f c] at h
    obtain ⟨b, b1, h⟩ := bd_ok h
    cases h
    have B := jck_o b1
    exact ⟨by show a < b; omega, B.2.1, Or.inr ⟨rfl, rfl⟩⟩
def jla_ (f : Int → Int) (i : Int) (L : JL_) : Prop := ∀ j : Nat, j < L.length → f (i + 2 * (j : Int)) = (L.getD j (0, 0)).1 ∧ f (i + 1 + 2 * (j : Int)) = (L.getD j (0, 0)).2
theorem jla_push {f : Int → Int} {i : Int} {L : JL_} {a b : Int} (h : jla_ f i L) : jla_ (ob_ (ob_ f (i + 2 * (L.length : Int)) a) (i + 1 + 2 * (L.length : Int)) b) i (L ++ [(a, b)]) := fun j hj => by
  rw [List.length_append] at hj
  have hj : j < L.length + 1 := hj
  unfold ob_
  by_cases c : j = L.length
  · subst c
    rw [if_neg (by omega), if_pos rfl, if_pos rfl]; simp [List.getD_eq_getElem?_getD]
  · rw [if_neg (by omega), if_neg (by omega), if_neg (by omega), if_neg (by omega), List.getD_eq_getElem?_getD, List.getElem?_append_left (by omega), ← List.getD_eq_getElem?_getD]
    exact h j (by omega)
def jst_ (tk : Nat → TK_) (N : Nat) (nm : NM_) (S : Int) (n : Int) (hq : PH_) : Prop := (∃ (L : JL_) (a fu : Nat), jou_ tk nm S = jlp_ tk nm S fu L a ∧ RPO_ tk N hq a ∧ n = (L.length : Int) ∧ L.length ≤ 20 ∧ jla_ (hq mLines) 45 L ∧ N < fu + a ∧ (∀ q ∈ L, (0 ≤ q.1 ∧ q.1 ≤ 3 ∧ 0 ≤ q.2 ∧ q.2 ≤ S - 1 ∧ ∃ w, fnd_ nm w = q.1) ∨ q.1 = -1 ∧ q.2 = -1)) ∨ (∃ e, jou_ tk nm S = .error e ∧ RPE_ tk N hq e ∧ (0 ≤ n ∧ n ≤ 20))
/-- what no fault of a journey, of shares changes -/
def prj_ (A : Nat) (h h' : PH_) : Prop := off_ [mSort, mPlace, mValue, A, mo_] h h' ∧ (∀ k, k ≠ 0 → k ≠ 2 → k ≠ 3 → k ≠ 7 → k ≠ 8 → h' mo_ k = h mo_ k)
theorem prj_7 {A : Nat} {a b c : PH_} (h1 : prj_ A a b) (h2 : fr7_ b c) : prj_ A a c := ⟨off_tr h1.1 (off_mo h2.1 (fun i hi => by simp at hi; subst hi; simp)), fun k k0 k2 k3 k7 k8 => (h2.2 k k7 k8).trans (h1.2 k k0 k2 k3 k7 k8)⟩
def jqo_ (nm : NM_) (S : Int) (L : JL_) : Prop := ∀ q ∈ L, (0 ≤ q.1 ∧ q.1 ≤ 3 ∧ 0 ≤ q.2 ∧ q.2 ≤ S - 1 ∧ ∃ w, fnd_ nm w = q.1) ∨ q.1 = -1 ∧ q.2 = -1
def JO_ (nm : NM_) (S : Int) (h : PH_) (z : Int) (h' : PH_) : RE_ JL_ → Prop
  | .error e => z = e ∧ 0 < e ∧ ∀ x, x < 45 → h' mLines x = h mLines x
  | .ok L => z = 0 ∧ h' mLines 0 = (L.length : Int) ∧ L.length ≤ 20 ∧ jla_ (h' mLines) 1 L ∧ jqo_ nm S L
