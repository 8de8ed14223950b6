/-! ===== toffees ===== -/
def tsm_ (W : Int → Int → Int) (R p : Int) : Nat → Int
  | 0 => 0
  | r + 1 => tsm_ W R p r + W (r : Int) (dg_ R p (r : Int))
theorem tsm_s {W : Int → Int → Int} {R p r : Int} (h : 0 ≤ r) : tsm_ W R p (r + 1).toNat = tsm_ W R p r.toNat + W r (dg_ R p r) := by rw [tn_s h]; show tsm_ W R p r.toNat + W (r.toNat : Int) (dg_ R p (r.toNat : Int)) = _; rw [tn_c h]
theorem tsm_b {W : Int → Int → Int} {R p : Int} (hW : ∀ r s, 0 ≤ W r s ∧ W r s ≤ 999) : ∀ n, 0 ≤ tsm_ W R p n ∧ tsm_ W R p n ≤ 999 * n
  | 0 => by unfold tsm_; omega
  | n + 1 => by have := tsm_b (R := R) (p := p) hW n; have := hW n (dg_ R p n); unfold tsm_; omega
/-- the best plan so far, what it comes to -/
noncomputable def tbp_ (S R : Int) (W : Int → Int → Int) : Nat → Int × Int
  | 0 => (-1, -1)
  | p + 1 => if_ (vp_ok S R p ∧ (tbp_ S R W p).2 < tsm_ W R p R.toNat) ((p : Int), tsm_ W R p R.toNat) (tbp_ S R W p)
theorem tbp_s {S R : Int} {W : Int → Int → Int} {p : Int} (h : 0 ≤ p) : tbp_ S R W (p + 1).toNat = if_ (vp_ok S R p ∧ (tbp_ S R W p.toNat).2 < tsm_ W R p R.toNat) (p, tsm_ W R p R.toNat) (tbp_ S R W p.toNat) := by
  rw [tn_s h]; show if_ (vp_ok S R (p.toNat : Int) ∧ _ < tsm_ W R (p.toNat : Int) R.toNat) ((p.toNat : Int), tsm_ W R (p.toNat : Int) R.toNat) _ = _; rw [tn_c h]
theorem tbp_b {S R : Int} {W : Int → Int → Int} (hR : 0 ≤ R ∧ R ≤ 4) (hW : ∀ r s, 0 ≤ W r s ∧ W r s ≤ 999) : ∀ n : Nat, tbp_ S R W n = (-1, -1) ∧ (∀ q : Nat, q < n → ¬ vp_ok S R q) ∨ (0 ≤ (tbp_ S R W n).1 ∧ (tbp_ S R W n).1 < n) ∧ (0 ≤ (tbp_ S R W n).2 ∧ (tbp_ S R W n).2 ≤ 4000) ∧ vp_ok S R (tbp_ S R W n).1 ∧ (tbp_ S R W n).2 = tsm_ W R (tbp_ S R W n).1 R.toNat ∧ ∀ q : Nat, q < n → vp_ok S R q → tsm_ W R q R.toNat ≤ (tbp_ S R W n).2
  | 0 => Or.inl ⟨rfl, fun q hq => by omega⟩
  | n + 1 => by
    have ih := tbp_b (S := S) hR hW n
    have sb := tsm_b (R := R) (p := (n : Int)) hW R.toNat
    unfold tbp_
    by_cases c : vp_ok S R n ∧ (tbp_ S R W n).2 < tsm_ W R n R.toNat
    · rw [if_t c]
      refine Or.inr ⟨⟨by show 0 ≤ (n : Int); omega, by show (n : Int) < ((n + 1 : Nat) : Int); omega⟩, ⟨by show 0 ≤ tsm_ W R n R.toNat; omega, by show tsm_ W R n R.toNat ≤ 4000; omega⟩, c.1, rfl, fun q hq hv => ?_⟩
      show tsm_ W R q R.toNat ≤ tsm_ W R n R.toNat
      by_cases e : q = n
      · rw [e]; omega
      · rcases ih with ih | ih
        · exact absurd hv (ih.2 q (by omega))
        · have := ih.2.2.2.2 q (by omega) hv; omega
    · rw [if_f c]
      rcases ih with ih | ih
      · refine Or.inl ⟨ih.1, fun q hq hv => ?_⟩
        by_cases e : q = n
        · rw [e] at hv; exact c ⟨hv, by rw [ih.1]; show -1 < tsm_ W R n R.toNat; omega⟩
        · exact ih.2 q (by omega) hv
      · refine Or.inr ⟨⟨ih.1.1, by have := ih.1.2; omega⟩, ih.2.1, ih.2.2.1, ih.2.2.2.1, fun q hq hv => ?_⟩
        by_cases e : q = n
        · rw [e] at hv ⊢
          have := c
          by_cases c2 : (tbp_ S R W n).2 < tsm_ W R n R.toNat
          · exact absurd ⟨hv, c2⟩ c
          · omega
        · exact ih.2.2.2.2 q (by omega) hv
theorem vp_id {S : Int} (h : 2 ≤ S ∧ S ≤ 4) : ∃ q : Nat, q < 256 ∧ vp_ok S S q := by
  have h3 : S = 2 ∨ S = 3 ∨ S = 4 := by omega
  rcases h3 with rfl | rfl | rfl
  · exact ⟨1, by decide, vb_iff.mp (by decide)⟩
  · exact ⟨6, by decide, vb_iff.mp (by decide)⟩
  · exact ⟨27, by decide, vb_iff.mp (by decide)⟩
theorem ro4_d {S p : Int} : ∀ {n : Nat}, ro4_ S n p → ∀ k : Nat, k < n → dv_ k p % 4 < S
  | 0, _, k, h => by omega
  | n + 1, h, k, hk => by
    by_cases c : k = n
    · rw [c]; exact h.2.1
    · exact ro4_d h.1 k (by omega)
theorem vp_dg {S R p r : Int} (h : vp_ok S R p) (hr : 0 ≤ r ∧ r < R) : dg_ R p r < S := by
  unfold dg_; exact ro4_d h.1 _ (by omega)
/-- a price pushed up -/
def txs_ (W : Int → Int → Int) (hs : Int → Int) (r s : Int) (pr : Int → Int) : Int → Int := ob_ pr s (if pr s < pr (hs r) + W r s - W r (hs r) then pr (hs r) + W r s - W r (hs r) else pr s)
def tx1_ (W : Int → Int → Int) (hs : Int → Int) (r : Int) : Nat → (Int → Int) → Int → Int
  | 0, pr => pr
  | s + 1, pr => txs_ W hs r (s : Int) (tx1_ W hs r s pr)
def tx2_ (W : Int → Int → Int) (hs : Int → Int) (S : Nat) : Nat → (Int → Int) → Int → Int
  | 0, pr => pr
  | r + 1, pr => tx1_ W hs (r : Int) S (tx2_ W hs S r pr)
def tx3_ (W : Int → Int → Int) (hs : Int → Int) (S R : Nat) : Nat → (Int → Int) → Int → Int
  | 0, pr => pr
  | k + 1, pr => tx2_ W hs S R (tx3_ W hs S R k pr)
theorem tx1_s {W : Int → Int → Int} {hs : Int → Int} {r s : Int} {pr : Int → Int} (h : 0 ≤ s) : tx1_ W hs r (s + 1).toNat pr = txs_ W hs r s (tx1_ W hs r s.toNat pr) := by rw [tn_s h]; show txs_ W hs r (s.toNat : Int) _ = _; rw [tn_c h]
theorem tx2_s {W : Int → Int → Int} {hs : Int → Int} {S : Nat} {r : Int} {pr : Int → Int} (h : 0 ≤ r) : tx2_ W hs S (r + 1).toNat pr = tx1_ W hs r S (tx2_ W hs S r.toNat pr) := by rw [tn_s h]; show tx1_ W hs (r.toNat : Int) S _ = _; rw [tn_c h]
theorem tx3_s {W : Int → Int → Int} {hs : Int → Int} {S R : Nat} {k : Int} {pr : Int → Int} (h : 0 ≤ k) : tx3_ W hs S R (k + 1).toNat pr = tx2_ W hs S R (tx3_ W hs S R k.toNat pr) := by rw [tn_s h]; rfl
noncomputable def tof_ (ro : Int → Int) (P : List (Int × Int)) (t w : Int) : Int := if_ ((0 ≤ t ∧ t < ro 1) ∧ ro 0 ≤ ro 2 ∧ -1 ≤ w ∧ w ≤ ro 0 - 1) (if w < 0 then (tbp_ (ro 0) (ro 2) (fun r s => wv_ ro P r s t 0) 256).1 else tx3_ (fun r s => wv_ ro P r s t 0) (dg_ (ro 2) (tbp_ (ro 0) (ro 2) (fun r s => wv_ ro P r s t 0) 256).1) (ro 0).toNat (ro 2).toNat 8 (fun _ => 0) w) (-2)
