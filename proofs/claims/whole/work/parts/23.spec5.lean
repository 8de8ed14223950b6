/-! ===== more of the reference's states ===== -/
def see_ (f : Int → Int) (r s t b : Int) : Int → Int := ob_ (ob_ (ob_ (ob_ (ob_ f (31 + 4 * f 30) r) (31 + 4 * f 30 + 1) s) (31 + 4 * f 30 + 2) t) (31 + 4 * f 30 + 3) b) 30 (f 30 + 1)
def csi_ (f : Int → Int) : Nat → Int
  | 0 => 0
  | r + 1 => csi_ f r + (if 0 ≤ f (1 + (r : Int)) then 1 else 0)
theorem csi_s {f : Int → Int} {r : Int} (h : 0 ≤ r) : csi_ f (r + 1).toNat = csi_ f r.toNat + (if 0 ≤ f (1 + r) then 1 else 0) := by rw [tn_s h]; show csi_ f r.toNat + (if 0 ≤ f (1 + (r.toNat : Int)) then 1 else 0) = _; rw [tn_c h]
theorem csi_b (f : Int → Int) : ∀ n, 0 ≤ csi_ f n ∧ csi_ f n ≤ n
  | 0 => by unfold csi_; omega
  | n + 1 => by have := csi_b f n; unfold csi_; split <;> omega
/-- a line of a told journey -/
noncomputable def jl_ (ro : Int → Int) (P : List (Int × Int)) (li : Int → Int) (k : Int) (f : Int → Int) : Int → Int := if_ (0 ≤ li (1 + 2 * k)) (if_ (f (1680 + 1 + li (1 + 2 * k)) = li (2 + 2 * k)) f (sit_ f 1680 (li (1 + 2 * k)) (li (2 + 2 * k)) (who_ (fun e => f (1680 + 1 + e)) (li (2 + 2 * k)) (ro 2).toNat))) (if_ (mdr_ ro f 1680) (drv_ ro P f (fun r => f (1680 + 1 + r)) 1680) f)
noncomputable def jf_ (ro : Int → Int) (P : List (Int × Int)) (li f0 : Int → Int) : Nat → Int → Int
  | 0 => sta_ ro f0 1680 4
  | k + 1 => jl_ ro P li k (jf_ ro P li f0 k)
noncomputable def jw_ (ro : Int → Int) (P : List (Int × Int)) (li f0 : Int → Int) : Nat → Int
  | 0 => -1
  | k + 1 => if_ (¬ 0 ≤ li (1 + 2 * (k : Int)) ∧ ¬ mdr_ ro (jf_ ro P li f0 k) 1680 ∧ jw_ ro P li f0 k < 0) (k : Int) (jw_ ro P li f0 k)
theorem jf_s {ro : Int → Int} {P : List (Int × Int)} {li f0 : Int → Int} {k : Int} (h : 0 ≤ k) : jf_ ro P li f0 (k + 1).toNat = jl_ ro P li k (jf_ ro P li f0 k.toNat) := by rw [tn_s h]; show jl_ ro P li (k.toNat : Int) _ = _; rw [tn_c h]
theorem jw_s {ro : Int → Int} {P : List (Int × Int)} {li f0 : Int → Int} {k : Int} (h : 0 ≤ k) : jw_ ro P li f0 (k + 1).toNat = if_ (¬ 0 ≤ li (1 + 2 * k) ∧ ¬ mdr_ ro (jf_ ro P li f0 k.toNat) 1680 ∧ jw_ ro P li f0 k.toNat < 0) k (jw_ ro P li f0 k.toNat) := by rw [tn_s h]; show if_ (¬ 0 ≤ li (1 + 2 * (k.toNat : Int)) ∧ _) (k.toNat : Int) _ = _; rw [tn_c h]
/-- what a trial's state keeps to -/
def tok_ (ro f : Int → Int) (k : Int) : Prop := (∀ r, 0 ≤ r → r < 4 → -1 ≤ f (1680 + 1 + r) ∧ f (1680 + 1 + r) ≤ 3) ∧ 0 ≤ f 1680 ∧ (∀ r, 0 ≤ r → r < 4 → -(1000 * k) ≤ f (1680 + 9 + r) ∧ f (1680 + 9 + r) ≤ 9999 + 1000 * k)
theorem dr_tot {ro : Int → Int} {P : List (Int × Int)} {f si : Int → Int} {b : Int} (h4 : 0 ≤ ro 4 ∧ ro 4 ≤ 99) (hR : 0 ≤ ro 2 ∧ ro 2 ≤ 4) (r : Int) (hr : 0 ≤ r ∧ r < 4) : f (b + 9 + r) - 99 ≤ drv_ ro P f si b (b + 9 + r) ∧ drv_ ro P f si b (b + 9 + r) ≤ f (b + 9 + r) + 999 := by
  unfold drv_ ob_ dr2_
  rw [if_neg (by omega), if_neg (by omega)]
  unfold dr1_
  have wb := wsi_b ro P si (b + 9 + r - b - 9) (f b)
  by_cases c : b + 9 ≤ b + 9 + r ∧ b + 9 + r < b + 9 + ro 2
  · rw [if_pos c]; split <;> omega
  · rw [if_neg c]; omega
theorem dr_se {ro : Int → Int} {P : List (Int × Int)} {f si : Int → Int} {b : Int} (hR : 0 ≤ ro 2 ∧ ro 2 ≤ 4) (r : Int) (hr : 0 ≤ r ∧ r < 4) : drv_ ro P f si b (b + 1 + r) = f (b + 1 + r) := by
  unfold drv_ ob_ dr2_ dr1_
  rw [if_neg (by omega), if_neg (by omega), if_neg (by omega)]
theorem tok_l {ro : Int → Int} {P : List (Int × Int)} {li f : Int → Int} {k : Int} (h4 : 0 ≤ ro 4 ∧ ro 4 ≤ 99) (hR : 0 ≤ ro 2 ∧ ro 2 ≤ 4) (hk : 0 ≤ k) (hl : 0 ≤ li (1 + 2 * k) → li (1 + 2 * k) < 4 ∧ -1 ≤ li (2 + 2 * k) ∧ li (2 + 2 * k) ≤ 3) (h : tok_ ro f k) : tok_ ro (jl_ ro P li k f) (k + 1) := by
  have h0 : tok_ ro f (k + 1) := ⟨h.1, h.2.1, fun r r0 r1 => by have := h.2.2 r r0 r1; omega⟩
  unfold jl_
  by_cases c1 : 0 ≤ li (1 + 2 * k)
  · rw [if_t c1]
    by_cases c2 : f (1680 + 1 + li (1 + 2 * k)) = li (2 + 2 * k)
    · rw [if_t c2]; exact h0
    · rw [if_f c2]
      have l1 := hl c1
      have wb := who_b (fun e => f (1680 + 1 + e)) (li (2 + 2 * k)) (ro 2).toNat
      have l2 := h.1 (li (1 + 2 * k)) c1 l1.1
      refine ⟨fun r r0 r1 => ?_, ?_, fun r r0 r1 => ?_⟩
      · have l3 := h.1 r r0 r1
        unfold sit_; (repeat' split) <;> omega
      · unfold sit_; rw [if_neg (by omega), if_neg (by omega)]; exact h.2.1
      · unfold sit_; rw [if_neg (by omega), if_neg (by omega)]; exact h0.2.2 r r0 r1
  · rw [if_f c1]
    by_cases c2 : mdr_ ro f 1680
    · rw [if_t c2]
      refine ⟨fun r r0 r1 => ?_, ?_, fun r r0 r1 => ?_⟩
      · rw [dr_se hR r ⟨r0, r1⟩]; exact h.1 r r0 r1
      · unfold drv_ ob_; rw [if_pos rfl]; have := h.2.1; omega
      · have := dr_tot (P := P) (f := f) (si := fun r => f (1680 + 1 + r)) (b := 1680) h4 hR r ⟨r0, r1⟩
        have := h.2.2 r r0 r1
        omega
    · rw [if_f c2]; exact h0
theorem jw_b (ro : Int → Int) (P : List (Int × Int)) (li f0 : Int → Int) : ∀ n, -1 ≤ jw_ ro P li f0 n ∧ jw_ ro P li f0 n < (n : Int) ∨ n = 0 ∧ jw_ ro P li f0 n = -1
  | 0 => Or.inr ⟨rfl, rfl⟩
  | n + 1 => by
    have := jw_b ro P li f0 n
    refine Or.inl ?_
    unfold jw_
    by_cases c : ¬ 0 ≤ li (1 + 2 * (n : Int)) ∧ ¬ mdr_ ro (jf_ ro P li f0 n) 1680 ∧ jw_ ro P li f0 n < 0
    · rw [if_t c]; omega
    · rw [if_f c]; omega
theorem drv_cg2 {ro : Int → Int} {P : List (Int × Int)} {f si sj : Int → Int} {b : Int} (h : ∀ r, 0 ≤ r → r < ro 2 → si r = sj r) : drv_ ro P f si b = drv_ ro P f sj b := by
  unfold drv_
  congr 1
  funext x
  unfold dr2_ dr1_
  by_cases x1 : b + 5 ≤ x ∧ x < b + 5 + ro 2
  · rw [if_pos x1, if_pos x1]; exact h _ (by omega) (by omega)
  · rw [if_neg x1, if_neg x1]
    by_cases x2 : b + 9 ≤ x ∧ x < b + 9 + ro 2
    · rw [if_pos x2, if_pos x2, wsi_cg (by omega) h, h _ (by omega) (by omega)]
    · rw [if_neg x2, if_neg x2]
