/-! ===== pieces, one by one ===== -/
def pcl_ (lf si : Int → Int) (v R : Int) : Int → Int := fun x => if (0 ≤ x ∧ x < 4 * R) ∧ x % 4 = si (x / 4) then lf x - v else lf x
theorem pcl_row {lf si : Int → Int} {v R k : Int} (hk : 0 ≤ k ∧ k < R) (hs : 0 ≤ si k) : ∀ n : Nat, n ≤ 4 → rsm_ (pcl_ lf si v R) k n = rsm_ lf k n - (if si k < (n : Int) then v else 0)
  | 0, _ => by unfold rsm_; rw [if_neg (by omega)]; rfl
  | n + 1, hn => by
    unfold rsm_
    rw [pcl_row hk hs n (by omega)]
    unfold pcl_
    rw [show (4 * k + (n : Int)) / 4 = k by omega, show (4 * k + (n : Int)) % 4 = n by omega]
    (repeat' split) <;> omega
def ccn_ (si : Int → Int) (c : Int) : Nat → Int
  | 0 => 0
  | r + 1 => ccn_ si c r + (if si (r : Int) = c then 1 else 0)
theorem pcl_col {lf si : Int → Int} {v R c : Int} (hc : 0 ≤ c ∧ c < 4) : ∀ n : Nat, (n : Int) ≤ R → csm_ (pcl_ lf si v R) c n = csm_ lf c n - v * ccn_ si c n
  | 0, _ => by unfold csm_ ccn_; simp
  | n + 1, hn => by
    unfold csm_ ccn_
    rw [pcl_col hc n (by omega)]
    unfold pcl_
    rw [show (4 * (n : Int) + c) / 4 = n by omega, show (4 * (n : Int) + c) % 4 = c by omega, Int.mul_add]
    by_cases e : si (n : Int) = c
    · rw [if_pos ⟨by omega, e.symm⟩, if_pos e]; omega
    · rw [if_neg (fun w => e w.2.symm), if_neg e]; omega
set_option maxRecDepth 100000 in
theorem ccn_1k : ∀ S ∈ [(2 : Int), 3, 4], ∀ p < 256, ∀ c ∈ [(0 : Int), 1, 2, 3], ((vb_ S S (p : Nat) && decide (c < S)) = true) → ccn_ (dg_ S (p : Nat)) c S.toNat = 1 := by decide +kernel
theorem ccn_1 {S p c : Int} (hS : 2 ≤ S ∧ S ≤ 4) (hp : 0 ≤ p ∧ p < 256) (hv : vp_ok S S p) (hc : 0 ≤ c ∧ c < S) : ccn_ (dg_ S p) c S.toNat = 1 := by
  have h3 : S ∈ [(2 : Int), 3, 4] := by
    have h : S = 2 ∨ S = 3 ∨ S = 4 := by omega
    rcases h with h | h | h <;> rw [h] <;> decide
  have h4 : c ∈ [(0 : Int), 1, 2, 3] := by
    have h : c = 0 ∨ c = 1 ∨ c = 2 ∨ c = 3 := by omega
    rcases h with h | h | h | h <;> rw [h] <;> decide
  have := ccn_1k S h3 p.toNat (by omega) c h4 (by rw [tn_c hp.1, vb_iff.mpr hv]; simp; omega)
  rw [tn_c hp.1] at this; exact this
theorem lst_le {lf si : Int → Int} : ∀ {n : Nat} {r : Int}, 0 ≤ r → r < (n : Int) → lst_ lf si n ≤ lf (4 * r + si r)
  | 0, r, h0, h1 => by omega
  | n + 1, r, h0, h1 => by
    unfold lst_
    by_cases c : r = (n : Int)
    · rw [c]; split <;> omega
    · have := lst_le (lf := lf) (si := si) (n := n) h0 (by omega)
      split <;> omega
theorem lst_at {lf si : Int → Int} : ∀ (n : Nat), 1 ≤ n → (∀ r, 0 ≤ r → r < (n : Int) → lf (4 * r + si r) < 1000000000) → ∃ r, 0 ≤ r ∧ r < (n : Int) ∧ lst_ lf si n = lf (4 * r + si r)
  | 0, h, _ => by omega
  | n + 1, _, hb => by
    by_cases c : lf (4 * (n : Int) + si n) < lst_ lf si n
    · exact ⟨n, by omega, by omega, by unfold lst_; rw [if_pos c]⟩
    · by_cases n0 : n = 0
      · exfalso
        subst n0
        have := hb 0 (by omega) (by omega)
        exact c this
      · obtain ⟨r, r0, r1, e⟩ := lst_at (lf := lf) (si := si) n (by omega) (fun r r0 r1 => hb r r0 (by omega))
        exact ⟨r, r0, by omega, by unfold lst_; rw [if_neg c]; exact e⟩
theorem lst_cg {lf lg si sj : Int → Int} : ∀ {n : Nat}, (∀ r, 0 ≤ r → r < (n : Int) → lf (4 * r + si r) = lg (4 * r + sj r)) → lst_ lf si n = lst_ lg sj n
  | 0, _ => rfl
  | n + 1, h => by unfold lst_; rw [lst_cg (n := n) (fun r r0 r1 => h r r0 (by omega)), h n (by omega) (by omega)]
def nz_ (lf : Int → Int) : Nat → Nat
  | 0 => 0
  | x + 1 => nz_ lf x + (if lf (x : Int) = 0 then 0 else 1)
theorem nz_le {lf lg : Int → Int} : ∀ n : Nat, (∀ x, 0 ≤ x → x < (n : Int) → lf x = 0 → lg x = 0) → nz_ lg n ≤ nz_ lf n
  | 0, _ => Nat.le_refl _
  | n + 1, h => by
    have h1 := nz_le (lf := lf) (lg := lg) n (fun x x0 x1 => h x x0 (by omega))
    have h2 := h n (by omega) (by omega)
    unfold nz_
    by_cases c : lf (n : Int) = 0
    · rw [if_pos c, if_pos (h2 c)]; omega
    · rw [if_neg c]; split <;> omega
theorem nz_lt {lf lg : Int → Int} {y : Int} (y0 : 0 ≤ y) (hy : lf y ≠ 0) (hy2 : lg y = 0) : ∀ n : Nat, y < (n : Int) → (∀ x, 0 ≤ x → x < (n : Int) → lf x = 0 → lg x = 0) → nz_ lg n < nz_ lf n
  | 0, h, _ => by omega
  | n + 1, hn, h => by
    unfold nz_
    by_cases c : y = (n : Int)
    · rw [c] at hy hy2
      have h1 := nz_le (lf := lf) (lg := lg) n (fun x x0 x1 => h x x0 (by omega))
      rw [if_neg hy, if_pos hy2]; omega
    · have h1 := nz_lt y0 hy hy2 n (by omega) (fun x x0 x1 => h x x0 (by omega))
      have h2 := h n (by omega) (by omega)
      by_cases c2 : lf (n : Int) = 0
      · rw [if_pos c2, if_pos (h2 c2)]; omega
      · rw [if_neg c2]; split <;> omega
theorem nz_16 {lf : Int → Int} : ∀ n : Nat, nz_ lf n ≤ n
  | 0 => Nat.le_refl _
  | n + 1 => by have := nz_16 (lf := lf) n; unfold nz_; split <;> omega
/-- the first that is so -/
noncomputable def fs1_ (Q : Int → Prop) : Nat → Int → Int
  | 0, p => p
  | f + 1, p => if_ (Q p) p (fs1_ Q f (p + 1))
theorem fs1_ok {Q : Int → Prop} : ∀ (f : Nat) (p : Int), (∃ q, p ≤ q ∧ q < p + f ∧ Q q) → Q (fs1_ Q f p) ∧ p ≤ fs1_ Q f p ∧ fs1_ Q f p < p + f
  | 0, p, h => by obtain ⟨q, h1, h2, _⟩ := h; omega
  | f + 1, p, h => by
    unfold fs1_
    by_cases c : Q p
    · rw [if_t c]; exact ⟨c, by omega, by omega⟩
    · rw [if_f c]
      obtain ⟨q, h1, h2, h3⟩ := h
      have ne : q ≠ p := fun e => c (by rw [← e]; exact h3)
      have := fs1_ok f (p + 1) ⟨q, by omega, by omega, h3⟩
      exact ⟨this.1, by omega, by omega⟩
def pq_ (S R : Int) (lf : Int → Int) (p : Int) : Prop := vp_ok S R p ∧ ¬ lst_ lf (dg_ R p) R.toNat = 0
noncomputable def pp0_ (S R : Int) (lf : Int → Int) : Int := fs1_ (pq_ S R lf) 256 0
noncomputable def pv0_ (S R : Int) (lf : Int → Int) : Int := lst_ lf (dg_ R (pp0_ S R lf)) R.toNat
noncomputable def pl0_ (S R : Int) (lf : Int → Int) : Int → Int := pcl_ lf (dg_ R (pp0_ S R lf)) (pv0_ S R lf) R
noncomputable def pcs_ (S R : Int) : Nat → (Int → Int) → Int → List (Int × Int)
  | 0, _, _ => []
  | n + 1, lf, m => if m ≤ 0 then [] else (pp0_ S R lf, pv0_ S R lf) :: pcs_ S R n (pl0_ S R lf) (m - pv0_ S R lf)
def piv_ (S : Int) (lf : Int → Int) (m : Int) : Prop := (∀ x, 0 ≤ x → x < 16 → 0 ≤ lf x ∧ lf x ≤ 99) ∧ adl_ lf S m
theorem rsm_nn {lf : Int → Int} {k : Int} : ∀ n : Nat, (∀ e, 0 ≤ e → e < (n : Int) → 0 ≤ lf (4 * k + e)) → 0 ≤ rsm_ lf k n
  | 0, _ => by unfold rsm_; omega
  | n + 1, h => by have := rsm_nn n (fun e e0 e1 => h e e0 (by omega)); have := h n (by omega) (by omega); unfold rsm_; omega
theorem rsm_ge {lf : Int → Int} {k : Int} : ∀ n : Nat, (∀ e, 0 ≤ e → e < (n : Int) → 0 ≤ lf (4 * k + e)) → ∀ e, 0 ≤ e → e < (n : Int) → lf (4 * k + e) ≤ rsm_ lf k n
  | 0, _, e, h0, h1 => by omega
  | n + 1, h, e, h0, h1 => by
    have a1 := rsm_nn (lf := lf) (k := k) n (fun e e0 e1 => h e e0 (by omega))
    have a2 := h n (by omega) (by omega)
    unfold rsm_
    by_cases c : e = (n : Int)
    · rw [c]; omega
    · have := rsm_ge (lf := lf) (k := k) n (fun e e0 e1 => h e e0 (by omega)) e h0 (by omega); omega
/-- there is a plan as long as minutes are left, and what it leaves -/
theorem piv_q {S : Int} {lf : Int → Int} {m : Int} (hS : 2 ≤ S ∧ S ≤ 4) (h : piv_ S lf m) (hm : 0 < m) : ∃ q, 0 ≤ q ∧ q < 256 ∧ pq_ S S lf q := by
  obtain ⟨p, p1, p2, p3⟩ := bkh_ hS (fun x x0 x1 => (h.1 x x0 x1).1) h.2 hm
  refine ⟨p, by omega, by omega, vb_iff.mp p2, ?_⟩
  obtain ⟨r, r0, r1, e⟩ := lst_at (lf := lf) (si := dg_ S p) S.toNat (by omega) (fun r r0 r1 => by have := dg_b S p r; have := (h.1 (4 * r + dg_ S p r) (by omega) (by omega)).2; omega)
  have := p3 r r0 (by omega)
  rw [e]; omega
theorem piv_s {S : Int} {lf : Int → Int} {m : Int} (hS : 2 ≤ S ∧ S ≤ 4) (h : piv_ S lf m) (hm : 0 < m) : (0 ≤ pp0_ S S lf ∧ pp0_ S S lf < 256) ∧ pq_ S S lf (pp0_ S S lf) ∧ (1 ≤ pv0_ S S lf ∧ pv0_ S S lf ≤ 99 ∧ pv0_ S S lf ≤ m) ∧ piv_ S (pl0_ S S lf) (m - pv0_ S S lf) ∧ nz_ (pl0_ S S lf) 16 < nz_ lf 16 := by
  have f1 := fs1_ok (Q := pq_ S S lf) 256 0 (by obtain ⟨q, q0, q1, q2⟩ := piv_q hS h hm; exact ⟨q, q0, by omega, q2⟩)
  have f2 : pq_ S S lf (pp0_ S S lf) ∧ 0 ≤ pp0_ S S lf ∧ pp0_ S S lf < 256 := ⟨f1.1, f1.2.1, by have := f1.2.2; show fs1_ (pq_ S S lf) 256 0 < 256; omega⟩
  obtain ⟨q1, q2, q3⟩ := f2
  have dl : ∀ r, 0 ≤ r → r < S → 0 ≤ dg_ S (pp0_ S S lf) r ∧ dg_ S (pp0_ S S lf) r < S := fun r r0 r1 => ⟨(dg_b _ _ _).1, vp_dg q1.1 ⟨r0, r1⟩⟩
  obtain ⟨r, r0, r1, e⟩ := lst_at (lf := lf) (si := dg_ S (pp0_ S S lf)) S.toNat (by omega) (fun r r0 r1 => by have := dl r r0 (by omega); have := (h.1 (4 * r + dg_ S (pp0_ S S lf) r) (by omega) (by omega)).2; omega)
  have ev : pv0_ S S lf = lf (4 * r + dg_ S (pp0_ S S lf) r) := e
  have hb := h.1 (4 * r + dg_ S (pp0_ S S lf) r) (by have := dl r r0 (by omega); omega) (by have := dl r r0 (by omega); omega)
  have vn : pv0_ S S lf ≠ 0 := q1.2
  have lef : ∀ x, 0 ≤ x → x < S → pv0_ S S lf ≤ lf (4 * x + dg_ S (pp0_ S S lf) x) := fun x x0 x1 => lst_le x0 (by omega)
  have nn : ∀ x, 0 ≤ x → x < 16 → 0 ≤ pl0_ S S lf x ∧ pl0_ S S lf x ≤ 99 := fun x x0 x1 => by
    have hx := h.1 x x0 x1
    unfold pl0_ pcl_
    by_cases c : (0 ≤ x ∧ x < 4 * S) ∧ x % 4 = dg_ S (pp0_ S S lf) (x / 4)
    · rw [if_pos c]
      have l := lef (x / 4) (by omega) (by omega)
      rw [← c.2, show 4 * (x / 4) + x % 4 = x by omega] at l
      omega
    · rw [if_neg c]; exact hx
  have ad : adl_ (pl0_ S S lf) S (m - pv0_ S S lf) := fun k k0 k1 => by
    have a := h.2 k k0 k1
    have d := dl k k0 k1
    unfold pl0_
    rw [pcl_row ⟨k0, k1⟩ d.1 S.toNat (by omega), pcl_col ⟨k0, by omega⟩ S.toNat (by omega), ccn_1 hS ⟨q2, q3⟩ q1.1 ⟨k0, k1⟩, if_pos (by omega), a.1, a.2]
    constructor <;> omega
  have vm : 0 ≤ m - pv0_ S S lf := by
    rw [← (ad 0 (by omega) (by omega)).1]
    exact rsm_nn _ (fun e e0 e1 => (nn _ (by omega) (by omega)).1)
  refine ⟨⟨q2, q3⟩, q1, ⟨by omega, by omega, by omega⟩, ⟨nn, ad⟩, ?_⟩
  have d := dl r r0 (by omega)
  refine nz_lt (y := 4 * r + dg_ S (pp0_ S S lf) r) (by omega) (by omega) ?_ 16 (by omega) (fun x x0 x1 hx => ?_)
  · unfold pl0_ pcl_
    rw [if_pos ⟨by omega, by rw [show (4 * r + dg_ S (pp0_ S S lf) r) / 4 = r by omega]; omega⟩]; omega
  · have := nn x x0 x1
    unfold pl0_ pcl_ at this ⊢
    by_cases c : (0 ≤ x ∧ x < 4 * S) ∧ x % 4 = dg_ S (pp0_ S S lf) (x / 4)
    · rw [if_pos c] at this ⊢; omega
    · rw [if_neg c]; exact hx
/-- without minutes there is none -/
theorem piv_z {S : Int} {lf : Int → Int} (hS : 2 ≤ S ∧ S ≤ 4) (h : piv_ S lf 0) : ∀ x y, 0 ≤ x → x < S → 0 ≤ y → y < S → lf (4 * x + y) = 0 := fun x y x0 x1 y0 y1 => by
  have a := (h.2 x x0 x1).1
  have b := rsm_ge (lf := lf) (k := x) S.toNat (fun e e0 e1 => (h.1 _ (by omega) (by omega)).1) y y0 (by omega)
  have c := (h.1 (4 * x + y) (by omega) (by omega)).1
  omega
def pca_ (f : Int → Int) (L : List (Int × Int)) : Prop := ∀ i : Nat, i < L.length → f (2 * (i : Int)) = (L.getD i (0, 0)).1 ∧ f (2 * (i : Int) + 1) = (L.getD i (0, 0)).2
theorem pca_push {f : Int → Int} {L : List (Int × Int)} {a b : Int} (h : pca_ f L) : pca_ (ob_ (ob_ f (2 * (L.length : Int)) a) (2 * (L.length : Int) + 1) b) (L ++ [(a, b)]) := fun i hi => by
  simp at hi
  unfold ob_
  by_cases c : i = L.length
  · subst c
    rw [if_neg (by omega), if_pos rfl, if_pos rfl]; simp
  · rw [if_neg (by omega), if_neg (by omega), if_neg (by omega), if_neg (by omega)]
    have := h i (by omega)
    rw [List.getD_eq_getElem?_getD, List.getElem?_append_left (by omega), ← List.getD_eq_getElem?_getD]
    exact this
/-- what is asked of the pieces -/
def pcq_ (w : Int) (L : List (Int × Int)) : Int := if w < 0 then (L.length : Int) else if w < 2 * (L.length : Int) then (if w % 2 = 0 then (L.getD (w / 2).toNat (0, 0)).1 else (L.getD (w / 2).toNat (0, 0)).2) else -2
noncomputable def pcr_ (ro f : Int → Int) (t w : Int) : Int := if_ ((0 ≤ t ∧ t < ro 1) ∧ -1 ≤ w ∧ f 13 ≠ 0 ∧ ro 2 = ro 0 ∧ adu_ f (ro 0) (ro (11 + 5 * t)) (ro 0).toNat) (pcq_ w (pcs_ (ro 0) (ro 0) 16 (fun x => f (14 + x)) (ro (11 + 5 * t)))) (-2)
