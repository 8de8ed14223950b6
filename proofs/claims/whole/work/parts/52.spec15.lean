/-! ===== rules that are called ===== -/
def f3_ (s t r : Int) : Int → Int := fun k => if k = 0 then s else if k = 1 then t else r
def lw3_ (P : List (Int × Int)) : Prop := ∀ q ∈ P, q.1 = 2 → 0 ≤ q.2 ∧ q.2 ≤ 2
theorem evl_c3 {f g : Int → Int} (h0 : f 0 = g 0) (h1 : f 1 = g 1) (h2 : f 2 = g 2) : ∀ {P : List (Int × Int)} {st : List Int}, lw3_ P → evl_ f P st = evl_ g P st
  | [], _, _ => rfl
  | (c, a) :: P, st, h => by
    have e : es_ f c a st = es_ g c a st := by
      unfold es_
      by_cases c2 : c = 2
      · have := h (c, a) List.mem_cons_self c2
        have a3 : a = 0 ∨ a = 1 ∨ a = 2 := by show a = 0 ∨ _; have t1 : 0 ≤ a := this.1; have t2 : a ≤ 2 := this.2; omega
        rw [c2, if_neg (by decide), if_pos rfl, if_neg (by decide), if_pos rfl]
        rcases a3 with rfl | rfl | rfl
        · rw [h0]
        · rw [h1]
        · rw [h2]
      · by_cases c1 : c = 1
        · rw [if_pos c1, if_pos c1]
        · rw [if_neg c1, if_neg c2, if_neg c1, if_neg c2]
    show evl_ f P (es_ f c a st) = evl_ g P (es_ g c a st)
    rw [e]
    exact evl_c3 h0 h1 h2 (fun q hq => h q (List.mem_cons_of_mem _ hq))
theorem tm_em {a S : Int} (hS : 0 < S) : a % S = if a.tmod S < 0 then a.tmod S + S else a.tmod S := by
  have e := Int.mul_tdiv_add_tmod a S
  have h1 := Int.tmod_lt_of_pos a hS
  have h2 := Int.lt_tmod_of_pos a hS
  have e2 : a % S = (a.tmod S) % S := by
    conv => lhs; rw [← e]
    rw [Int.add_comm, Int.add_mul_emod_self_left]
  rw [e2]
  generalize a.tmod S = m at *
  by_cases c : m < 0
  · rw [if_pos c, ← Int.add_emod_right, Int.emod_eq_of_lt (by omega) (by omega)]
  · rw [if_neg c, Int.emod_eq_of_lt (by omega) (by omega)]
/-- where the rule sends each one -/
def cse_ (ro : Int → Int) (K : List (Int × Int)) (se : Int → Int) (t : Int) : Int → Int := fun r => ew_ (f3_ (se r) t r) K % ro 0
def cpl_ (ro : Int → Int) (K : List (Int × Int)) (se : Int → Int) (t : Int) : Int := pln_ (cse_ ro K se t) (ro 2).toNat
abbrev JQ_ : Type := (Int → Int) × (Int → Int) × (Int → Int)
noncomputable def cnx_ (ro : Int → Int) (P K : List (Int × Int)) (t : Int) (q : JQ_) : JQ_ := (fun r => q.1 r + (wsi_ ro P (dg_ (ro 2) (cpl_ ro K q.2.1 t)) r t - (if 0 < t ∧ ¬ q.2.1 r = dg_ (ro 2) (cpl_ ro K q.2.1 t) r then ro 4 else 0)), dg_ (ro 2) (cpl_ ro K q.2.1 t), ob_ q.2.2 t (cpl_ ro K q.2.1 t))
noncomputable def cjn_ (ro : Int → Int) (P K : List (Int × Int)) : Nat → Option JQ_
  | 0 => some (pas_ ro, fun r => r, fun _ => 0)
  | t + 1 => match cjn_ ro P K t with
    | none => none
    | some q => if_ (lpl_ ro (cpl_ ro K q.2.1 t)) (some (cnx_ ro P K t q)) none
theorem cjn_n {ro : Int → Int} {P K : List (Int × Int)} {t : Int} (h : 0 ≤ t) (e : cjn_ ro P K t.toNat = none) : cjn_ ro P K (t + 1).toNat = none := by rw [tn_s h]; show (match cjn_ ro P K t.toNat with | none => none | some q => _) = none; rw [e]
theorem cjn_s {ro : Int → Int} {P K : List (Int × Int)} {t : Int} {q : JQ_} (h : 0 ≤ t) (e : cjn_ ro P K t.toNat = some q) : cjn_ ro P K (t + 1).toNat = if_ (lpl_ ro (cpl_ ro K q.2.1 t)) (some (cnx_ ro P K t q)) none := by
  rw [tn_s h]
  show (match cjn_ ro P K t.toNat with | none => none | some q => if_ (lpl_ ro (cpl_ ro K q.2.1 (t.toNat : Int))) (some (cnx_ ro P K (t.toNat : Int) q)) none) = _
  rw [e, tn_c h]
theorem cjn_d {ro : Int → Int} {P K : List (Int × Int)} {a : Nat} (e : cjn_ ro P K a = none) : ∀ {b : Nat}, a ≤ b → cjn_ ro P K b = none
  | 0, h => by rw [← show a = 0 by omega]; exact e
  | b + 1, h => by
    by_cases c : a = b + 1
    · rw [← c]; exact e
    · have := cjn_d e (b := b) (by omega)
      show (match cjn_ ro P K b with | none => none | some q => _) = none
      rw [this]
theorem pln_cg {si sj : Int → Int} : ∀ {n : Nat}, (∀ e, 0 ≤ e → e < (n : Int) → si e = sj e) → pln_ si n = pln_ sj n
  | 0, _ => rfl
  | n + 1, h => by unfold pln_; rw [pln_cg (n := n) (fun e e0 e1 => h e e0 (by omega)), h n (by omega) (by omega)]
def clq_ (R w : Int) : Option JQ_ → Int
  | none => -1
  | some q => if w = 0 then spr_ q.1 0 R else q.2.2 (w - 1)
noncomputable def cld_ (ro : Int → Int) (P : List (Int × Int)) (Q : Int → List (Int × Int)) (k w : Int) : Int := if_ ((0 ≤ k ∧ k ≤ ro 3 - 1) ∧ (0 ≤ w ∧ w ≤ ro 1) ∧ ro 2 ≠ 0) (clq_ (ro 2) w (cjn_ ro P (Q k) (ro 1).toNat)) (-1)
def fas_ (R k : Int) (b : Int × Int) : Option JQ_ → Int × Int
  | none => b
  | some q => if b.1 < 0 ∨ spr_ q.1 0 R < b.2 then (k, spr_ q.1 0 R) else b
noncomputable def fal_ (ro : Int → Int) (P : List (Int × Int)) (Q : Int → List (Int × Int)) : Nat → Int × Int
  | 0 => (-1, 0)
  | k + 1 => fas_ (ro 2) k (fal_ ro P Q k) (cjn_ ro P (Q k) (ro 1).toNat)
theorem fal_s {ro : Int → Int} {P : List (Int × Int)} {Q : Int → List (Int × Int)} {k : Int} (h : 0 ≤ k) : fal_ ro P Q (k + 1).toNat = fas_ (ro 2) k (fal_ ro P Q k.toNat) (cjn_ ro P (Q k) (ro 1).toNat) := by rw [tn_s h]; show fas_ (ro 2) (k.toNat : Int) _ (cjn_ ro P (Q (k.toNat : Int)) _) = _; rw [tn_c h]
noncomputable def fai_ (ro : Int → Int) (P : List (Int × Int)) (Q : Int → List (Int × Int)) : Int := if_ (0 < ro 2) (fal_ ro P Q (ro 3).toNat).1 (-1)
theorem fal_b (ro : Int → Int) (P : List (Int × Int)) (Q : Int → List (Int × Int)) : ∀ n : Nat, -1 ≤ (fal_ ro P Q n).1 ∧ (fal_ ro P Q n).1 < (n : Int) ∨ n = 0 ∧ (fal_ ro P Q n).1 = -1
  | 0 => Or.inr ⟨rfl, rfl⟩
  | n + 1 => by
    have := fal_b ro P Q n
    refine Or.inl ?_
    unfold fal_ fas_
    cases cjn_ ro P (Q n) (ro 1).toNat with
    | none => show -1 ≤ (fal_ ro P Q n).1 ∧ (fal_ ro P Q n).1 < _; omega
    | some q =>
      show -1 ≤ (if _ then _ else _ : Int × Int).1 ∧ (if _ then _ else _ : Int × Int).1 < _
      split
      · show -1 ≤ (n : Int) ∧ (n : Int) < _; omega
      · omega
