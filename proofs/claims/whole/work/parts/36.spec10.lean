/-! ===== what is asked of the search ===== -/
theorem bst_01 {T R : Int} {h : PH_} : ∀ {B : BT_}, bst_ T R h B → h mo_ 41 = 0 ∨ h mo_ 41 = 1
  | none, hb => Or.inl hb
  | some _, hb => Or.inr hb.1
def pas_ (ro : Int → Int) : Int → Int := fun r => ro (31 + 4 * r + 2)
theorem skb_cg {ro : Int → Int} {P : List (Int × Int)} {so mm : Int} {pa pb : Int → Int} (hT : 0 ≤ ro 1) (h : ∀ r, 0 ≤ r → r < ro 2 → pa r = pb r) : skb_ ro P so mm pa = skb_ ro P so mm pb := gtr_cg _ (by omega) (fun _ _ _ => rfl) h
def evq_ (w : Int) : BT_ → Int
  | none => -1
  | some q => if w = 0 then q.1 else if w = 1 then q.2.1 else q.2.2.1 (w - 2)
noncomputable def evn_ (ro : Int → Int) (P : List (Int × Int)) (m w : Int) : Int := if_ ((0 ≤ m ∧ m ≤ 12) ∧ (0 ≤ w ∧ w ≤ 1 + ro 1) ∧ ro 2 ≠ 0) (evq_ w (skb_ ro P 0 m (pas_ ro))) (-1)
/-- thrown, answer -/
def msq_ (w : Int) : BT_ → Int × Int
  | none => (1, 0)
  | some q => (0, if w < 0 then -q.1 else q.2.2.1 w)
noncomputable def mst_ (ro : Int → Int) (P : List (Int × Int)) (w : Int) : Int × Int := if_ ((-1 ≤ w ∧ w ≤ ro 1 - 1) ∧ 0 < ro 2) (msq_ w (skb_ ro P 1 12 (pas_ ro))) (1, 0)
noncomputable def wst_ (ro : Int → Int) (P : List (Int × Int)) : Int × Int := if_ (0 < ro 2) (msq_ (-1) (skb_ ro P 2 12 (pas_ ro))) (1, 0)
theorem gth_tb {so R mm fi T C : Int} {N : Nat} {pl : Int → Int} {W : Int → Int → Int → Int} {CH : Int → Int → Int} (hfi : 0 ≤ fi ∧ fi ≤ 99) (hW : ∀ k r t, 0 ≤ W k r t ∧ W k r t ≤ 999) : ∀ (n : Nat) (row tot : Int → Int) (m D : Int) (B : BT_), D + 1100 * n ≤ C → (∀ r, 0 ≤ r → r < R → -D ≤ tot r ∧ tot r ≤ D) → (∀ q, B = some q → ∀ r, 0 ≤ r → r < R → -C ≤ q.2.2.2 r ∧ q.2.2.2 r ≤ C) → ∀ q, gth_ so R mm fi T N pl W CH n row tot m B = some q → ∀ r, 0 ≤ r → r < R → -C ≤ q.2.2.2 r ∧ q.2.2.2 r ≤ C
  | 0, row, tot, m, D, B, hD, ht, hB => fun q hq r r0 r1 => by
    unfold gth_ lok_ at hq
    by_cases c : bet_ so (vat_ so (trn_ R tot) 0 R) m B
    · rw [if_t c] at hq
      injection hq with hq
      rw [← hq]
      show -C ≤ trn_ R tot r ∧ trn_ R tot r ≤ C
      rw [trn_at r0 r1]
      have := ht r r0 r1
      omega
    · rw [if_f c] at hq; exact hB q hq r r0 r1
  | n + 1, row, tot, m, D, B, hD, ht, hB => by
    unfold gth_
    generalize List.range N = l
    induction l generalizing B with
    | nil => exact fun q hq => hB q hq
    | cons k l ih =>
      rw [List.foldl_cons]
      refine ih _ (fun q hq => ?_)
      by_cases c : m + bit_ (gse_ CH row (T - 1 - n) (k : Int)) 4 ≤ mm
      · rw [if_t c] at hq
        refine gth_tb hfi hW n _ _ _ (D + 1100) B (by omega) (fun r r0 r1 => ?_) hB q hq
        have t1 := ht r r0 r1
        have t2 := hW k r (T - 1 - n)
        unfold gto_
        split <;> omega
      · rw [if_f c] at hq; exact hB q hq
theorem skb_tb {ro : Int → Int} {P : List (Int × Int)} {so mm C D : Int} {pa : Int → Int} (h4 : 0 ≤ ro 4 ∧ ro 4 ≤ 99) (hT : 0 ≤ ro 1 ∧ ro 1 ≤ 4) (hC : D + 4400 ≤ C) (hp : ∀ r, 0 ≤ r → r < ro 2 → -D ≤ pa r ∧ pa r ≤ D) {q : Int × Int × (Int → Int) × (Int → Int)} (hq : skb_ ro P so mm pa = some q) : ∀ r, 0 ≤ r → r < ro 2 → -C ≤ q.2.2.2 r ∧ q.2.2.2 r ≤ C :=
  gth_tb (C := C) h4 (fun k r t => wsi_b _ _ _ _ _) (ro 1).toNat (fun _ => 0) pa 0 D none (by omega) hp (fun q hq => by cases hq) q hq
theorem gth_vb {so R mm fi T : Int} {N : Nat} {pl : Int → Int} {W : Int → Int → Int → Int} {CH : Int → Int → Int} (hR : 1 ≤ R ∧ R ≤ 4) (hfi : 0 ≤ fi ∧ fi ≤ 99) (hW : ∀ k r t, 0 ≤ W k r t ∧ W k r t ≤ 999) : ∀ (n : Nat) (row tot : Int → Int) (m D : Int) (B : BT_), D + 1100 * n ≤ 1000000 → (∀ r, 0 ≤ r → r < R → -D ≤ tot r ∧ tot r ≤ D) → (∀ q, B = some q → -4000000 ≤ q.1 ∧ q.1 ≤ 4000000) → ∀ q, gth_ so R mm fi T N pl W CH n row tot m B = some q → -4000000 ≤ q.1 ∧ q.1 ≤ 4000000
  | 0, row, tot, m, D, B, hD, ht, hB => fun q hq => by
    unfold gth_ lok_ at hq
    by_cases c : bet_ so (vat_ so (trn_ R tot) 0 R) m B
    · rw [if_t c] at hq
      injection hq with hq
      rw [← hq]
      exact vat_b hR (fun r r0 r1 => by rw [Int.zero_add, trn_at r0 r1]; have := ht r r0 r1; omega)
    · rw [if_f c] at hq; exact hB q hq
  | n + 1, row, tot, m, D, B, hD, ht, hB => by
    unfold gth_
    generalize List.range N = l
    induction l generalizing B with
    | nil => exact fun q hq => hB q hq
    | cons k l ih =>
      rw [List.foldl_cons]
      refine ih _ (fun q hq => ?_)
      by_cases c : m + bit_ (gse_ CH row (T - 1 - n) (k : Int)) 4 ≤ mm
      · rw [if_t c] at hq
        refine gth_vb hR hfi hW n _ _ _ (D + 1100) B (by omega) (fun r r0 r1 => ?_) hB q hq
        have t1 := ht r r0 r1
        have t2 := hW k r (T - 1 - n)
        unfold gto_
        split <;> omega
      · rw [if_f c] at hq; exact hB q hq
theorem skb_vb {ro : Int → Int} {P : List (Int × Int)} {so mm : Int} {pa : Int → Int} (hR : 1 ≤ ro 2 ∧ ro 2 ≤ 4) (h4 : 0 ≤ ro 4 ∧ ro 4 ≤ 99) (hT : 0 ≤ ro 1 ∧ ro 1 ≤ 4) (hp : ∀ r, 0 ≤ r → r < ro 2 → -500000 ≤ pa r ∧ pa r ≤ 500000) {q : Int × Int × (Int → Int) × (Int → Int)} (hq : skb_ ro P so mm pa = some q) : -4000000 ≤ q.1 ∧ q.1 ≤ 4000000 :=
  gth_vb hR h4 (fun k r t => wsi_b _ _ _ _ _) (ro 1).toNat (fun _ => 0) pa 0 500000 none (by omega) hp (fun q hq => by cases hq) q hq
theorem bst_v {T R : Int} {h : PH_} : ∀ {B : BT_}, bst_ T R h B → (∀ q, B = some q → -4000000 ≤ q.1 ∧ q.1 ≤ 4000000) → h mo_ 41 = 0 ∨ -4000000 ≤ h mo_ 42 ∧ h mo_ 42 ≤ 4000000
  | none, hb, _ => Or.inl hb
  | some q, hb, hv => Or.inr (by rw [hb.2.1]; exact hv q rfl)
def aft_ (ro : Int → Int) (S : (Int → Int) → BT_) : Nat → Int → (Int → Int) → Int
  | 0, _, _ => -1
  | f + 1, n, pa => match S pa with
    | none => -1
    | some q => if q.1 = 0 then n else aft_ ro S f (n + 1) q.2.2.2
theorem aft_cg {ro : Int → Int} {P : List (Int × Int)} (hT : 0 ≤ ro 1) (f : Nat) (n : Int) {pa pb : Int → Int} (h : ∀ r, 0 ≤ r → r < ro 2 → pa r = pb r) : aft_ ro (skb_ ro P 0 12) f n pa = aft_ ro (skb_ ro P 0 12) f n pb := by
  cases f with
  | zero => rfl
  | succ f => unfold aft_; rw [skb_cg hT h]
noncomputable def aftr_ (ro : Int → Int) (P : List (Int × Int)) : Int := if_ (0 < ro 2) (aft_ ro (skb_ ro P 0 12) 20 1 (pas_ ro)) (-1)
