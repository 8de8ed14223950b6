theorem jls_tr {h : PH_} {X Y : BT_} (e : X = Y) (hb : jls_ h X) : jls_ h Y := e ▸ hb
/-! ===== there is a journey ===== -/
theorem bet_n {so v m : Int} {B : BT_} (h : ¬ bet_ so v m B) : B ≠ none := fun e => h (by rw [e]; trivial)
theorem gtr_i1 {ro : Int → Int} {P : List (Int × Int)} {so mm : Int} : ∀ (n : Nat) (row tot : Int → Int) (m : Int) (B : BT_), B ≠ none → gtr_ ro P so mm n row tot m B ≠ none
  | 0, row, tot, m, B, hB => by
    unfold gtr_ gth_ lok_
    by_cases c : bet_ so (vat_ so (trn_ (ro 2) tot) 0 (ro 2)) m B
    · rw [if_t c]; exact fun e => by cases e
    · rw [if_f c]; exact hB
  | n + 1, row, tot, m, B, hB => by
    rw [gtr_s rfl]
    generalize List.range (lpn_ ro 256).length = l
    induction l generalizing B with
    | nil => exact hB
    | cons k l ih =>
      rw [List.foldl_cons]
      refine ih _ ?_
      by_cases c : m + bit_ (gse_ (pC_ ro) row (ro 1 - 1 - n) (k : Int)) 4 ≤ mm
      · rw [if_t c]; exact gtr_i1 n _ _ _ B hB
      · rw [if_f c]; exact hB
theorem fold_i1 {ro : Int → Int} {P : List (Int × Int)} {so mm m t : Int} {n : Nat} {row tot : Int → Int} : ∀ (l : List Nat) (B : BT_), B ≠ none → l.foldl (fun (B : BT_) (j : Nat) => if_ (m + bit_ (gse_ (pC_ ro) row t (j : Int)) 4 ≤ mm) (gtr_ ro P so mm n (ob_ row t (j : Int)) (gto_ (ro 4) (pW_ ro P) tot (gse_ (pC_ ro) row t (j : Int)) t (j : Int)) (m + bit_ (gse_ (pC_ ro) row t (j : Int)) 4) B) B) B ≠ none
  | [], B, hB => hB
  | k :: l, B, hB => by
    rw [List.foldl_cons]
    refine fold_i1 l _ ?_
    by_cases c : m + bit_ (gse_ (pC_ ro) row t (k : Int)) 4 ≤ mm
    · rw [if_t c]; exact gtr_i1 n _ _ _ B hB
    · rw [if_f c]; exact hB
theorem gse_0 {CH : Int → Int → Int} {row : Int → Int} {t k : Int} (h : t = 0) : gse_ CH row t k = 0 := if_pos h
theorem gtr_is {ro : Int → Int} {P : List (Int × Int)} {so : Int} (hT : 0 ≤ ro 1 ∧ ro 1 ≤ 4) (hN : 0 < (lpn_ ro 256).length) : ∀ (n : Nat) (row tot : Int → Int) (m : Int) (B : BT_), (m + 4 * n ≤ 12 ∨ (n : Int) = ro 1 ∧ m = 0) → gtr_ ro P so 12 n row tot m B ≠ none
  | 0, row, tot, m, B, _ => by
    unfold gtr_ gth_ lok_
    by_cases c : bet_ so (vat_ so (trn_ (ro 2) tot) 0 (ro 2)) m B
    · rw [if_t c]; exact fun e => by cases e
    · rw [if_f c]; exact bet_n c
  | n + 1, row, tot, m, B, hm => by
    rw [gtr_s rfl]
    obtain ⟨N, hN'⟩ : ∃ N, (lpn_ ro 256).length = N + 1 := ⟨(lpn_ ro 256).length - 1, by omega⟩
    rw [hN', List.range_succ_eq_map, List.foldl_cons]
    refine fold_i1 _ _ ?_
    have bb := bit_b (gse_ (pC_ ro) row (ro 1 - 1 - n) ((0 : Nat) : Int)) 4
    have b0 : (n : Int) + 1 = ro 1 → bit_ (gse_ (pC_ ro) row (ro 1 - 1 - n) ((0 : Nat) : Int)) 4 = 0 := fun e => by rw [gse_0 (by omega)]; exact bit_0
    generalize bit_ (gse_ (pC_ ro) row (ro 1 - 1 - n) ((0 : Nat) : Int)) 4 = z at bb b0 ⊢
    rw [if_t (show m + z ≤ 12 by omega)]
    exact gtr_is hT hN n _ _ _ B (by omega)
theorem skb_is {ro : Int → Int} {P : List (Int × Int)} {so : Int} (pa : Int → Int) (hT : 0 ≤ ro 1 ∧ ro 1 ≤ 4) (h : ro 1 = 0 ∨ 0 < (lpn_ ro 256).length) : ∃ q, skb_ ro P so 12 pa = some q := by
  have : skb_ ro P so 12 pa ≠ none := by
    by_cases c : ro 1 = 0
    · unfold skb_
      rw [show (ro 1).toNat = 0 by omega]
      unfold gtr_ gth_ lok_
      rw [if_t (show bet_ so _ 0 none from trivial)]
      exact fun e => by cases e
    · exact gtr_is hT (by omega) _ _ _ _ _ (Or.inr ⟨by omega, rfl⟩)
  cases e : skb_ ro P so 12 pa with
  | none => exact absurd e this
  | some q => exact ⟨q, rfl⟩
/-! ===== most ===== -/
/-- the first that has most -/
def fmx_ (f : Int → Int) : Nat → Int × Int
  | 0 => (0, -2147483648)
  | n + 1 => if (fmx_ f n).2 < f n then ((n : Int), f n) else fmx_ f n
theorem fmx_s {f : Int → Int} {k : Int} (h : 0 ≤ k) : fmx_ f (k + 1).toNat = if (fmx_ f k.toNat).2 < f k then (k, f k) else fmx_ f k.toNat := by
  rw [tn_s h]; show (if (fmx_ f k.toNat).2 < f (k.toNat : Int) then ((k.toNat : Int), f (k.toNat : Int)) else _) = _; rw [tn_c h]
theorem fmx_cg {f g : Int → Int} : ∀ n : Nat, (∀ r, 0 ≤ r → r < (n : Int) → f r = g r) → fmx_ f n = fmx_ g n
  | 0, _ => rfl
  | n + 1, h => by unfold fmx_; rw [fmx_cg n (fun r r0 r1 => h r r0 (by omega)), h n (by omega) (by omega)]
theorem fmx_b {f : Int → Int} (hb : ∀ k, -2147483648 < f k) : ∀ n : Nat, 1 ≤ n → (0 ≤ (fmx_ f n).1 ∧ (fmx_ f n).1 < n) ∧ (fmx_ f n).2 = f (fmx_ f n).1
  | 0, h => by omega
  | n + 1, _ => by
    unfold fmx_
    by_cases c : (fmx_ f n).2 < f n
    · rw [if_pos c]; exact ⟨⟨by show (0 : Int) ≤ n; omega, by show (n : Int) < _; omega⟩, rfl⟩
    · rw [if_neg c]
      by_cases c0 : n = 0
      · exfalso; subst c0; exact c (hb 0)
      · have := fmx_b hb n (by omega)
        exact ⟨⟨this.1.1, by omega⟩, this.2⟩
theorem fmx_0 {f : Int → Int} (hb : ∀ k, -2147483648 < f k) : ∀ n : Nat, (0 ≤ (fmx_ f n).1 ∧ ((fmx_ f n).1 < n ∨ (fmx_ f n).1 = 0)) ∧ -2147483648 ≤ (fmx_ f n).2 ∧ ((fmx_ f n).2 = -2147483648 ∨ (fmx_ f n).2 = f (fmx_ f n).1)
  | 0 => ⟨⟨Int.le_refl _, Or.inr rfl⟩, Int.le_refl _, Or.inl rfl⟩
  | n + 1 => by
    have q := fmx_b hb (n + 1) (by omega)
    have := hb (fmx_ f (n + 1)).1
    exact ⟨⟨q.1.1, Or.inl q.1.2⟩, by omega, Or.inr q.2⟩
noncomputable def smg_ (ro : Int → Int) (P : List (Int × Int)) (t b k : Int) : Int := sm_ (gan_ ro P t b k) 0 (ro 2).toNat
theorem smg_b {ro : Int → Int} {P : List (Int × Int)} (h4 : 0 ≤ ro 4 ∧ ro 4 ≤ 99) (hR : 0 ≤ ro 2 ∧ ro 2 ≤ 4) (t b k : Int) : -4000 ≤ smg_ ro P t b k ∧ smg_ ro P t b k ≤ 4000 := by
  have := sm_b (f := gan_ ro P t b k) (i := 0) (B := 999) (ro 2).toNat (fun r r0 r1 => by have := gan_b (P := P) h4 t b k (0 + r); omega)
  unfold smg_; omega
/-- the most that can be had on the last n stretches behind plan b -/
noncomputable def srm_ (ro : Int → Int) (P : List (Int × Int)) : Nat → Int → Int
  | 0, _ => 0
  | n + 1, b => (fmx_ (fun k => smg_ ro P (ro 1 - 1 - n) b k + srm_ ro P n k) (lpn_ ro 256).length).2
noncomputable def nxt_ (ro : Int → Int) (P : List (Int × Int)) (n : Nat) (b : Int) : Int := (fmx_ (fun k => smg_ ro P (ro 1 - 1 - n) b k + srm_ ro P n k) (lpn_ ro 256).length).1
theorem srm_b {ro : Int → Int} {P : List (Int × Int)} (h4 : 0 ≤ ro 4 ∧ ro 4 ≤ 99) (hR : 0 ≤ ro 2 ∧ ro 2 ≤ 4) (hN : 1 ≤ (lpn_ ro 256).length) : ∀ (n : Nat) (b : Int), n ≤ 4 → -(4000 * (n : Int)) ≤ srm_ ro P n b ∧ srm_ ro P n b ≤ 4000 * n
  | 0, b, _ => by unfold srm_; omega
  | n + 1, b, hn => by
    have bb : ∀ k, -(4000 * ((n : Int) + 1)) ≤ smg_ ro P (ro 1 - 1 - n) b k + srm_ ro P n k ∧ smg_ ro P (ro 1 - 1 - n) b k + srm_ ro P n k ≤ 4000 * ((n : Int) + 1) := fun k => by
      have := smg_b (P := P) h4 hR (ro 1 - 1 - n) b k
      have := srm_b (P := P) h4 hR hN n k (by omega)
      omega
    have q := fmx_b (f := fun k => smg_ ro P (ro 1 - 1 - n) b k + srm_ ro P n k) (fun k => by have := bb k; show _ < smg_ _ _ _ _ _ + _; omega) _ hN
    unfold srm_
    rw [q.2]
    have := bb (fmx_ (fun k => smg_ ro P (ro 1 - 1 - n) b k + srm_ ro P n k) (lpn_ ro 256).length).1
    show _ ≤ smg_ _ _ _ _ _ + _ ∧ smg_ _ _ _ _ _ + _ ≤ _
    omega
theorem nxt_b {ro : Int → Int} {P : List (Int × Int)} (h4 : 0 ≤ ro 4 ∧ ro 4 ≤ 99) (hR : 0 ≤ ro 2 ∧ ro 2 ≤ 4) (hN : 1 ≤ (lpn_ ro 256).length) (n : Nat) (b : Int) (hn : n ≤ 3) : (0 ≤ nxt_ ro P n b ∧ nxt_ ro P n b < (lpn_ ro 256).length) ∧ srm_ ro P (n + 1) b = smg_ ro P (ro 1 - 1 - n) b (nxt_ ro P n b) + srm_ ro P n (nxt_ ro P n b) := by
  have q := fmx_b (f := fun k => smg_ ro P (ro 1 - 1 - n) b k + srm_ ro P n k) (fun k => by have := smg_b (P := P) h4 hR (ro 1 - 1 - n) b k; have := srm_b (P := P) h4 hR hN n k (by omega); show _ < smg_ _ _ _ _ _ + _; omega) _ hN
  exact ⟨q.1, by rw [srm_]; exact q.2⟩
/-- the plans that bring most -/
noncomputable def gre_ (ro : Int → Int) (P : List (Int × Int)) : Nat → (Int → Int) → Int → Int
  | 0, row => row
  | n + 1, row => gre_ ro P n (ob_ row (ro 1 - 1 - n) (nxt_ ro P n (bef_ row (ro 1 - 1 - n))))
theorem sm_add {f g : Int → Int} {i : Int} : ∀ n : Nat, sm_ (fun r => f r + g r) i n = sm_ f i n + sm_ g i n
  | 0 => rfl
  | n + 1 => by unfold sm_; rw [sm_add n]; show _ + (f _ + g _) = _; omega
/-- a search for most ends with most, the first of it -/
def mxq_ (ro : Int → Int) (B : BT_) (v : Int) (row : Int → Int) (X : BT_) : Prop := (¬ bet_ 1 (-v) 0 B ∧ X = B) ∨ (bet_ 1 (-v) 0 B ∧ ∃ mq tq, X = some (-v, mq, trn_ (ro 1) (fun j => pL_ ro (row j)), tq))
theorem bet_1m {v m m' : Int} : ∀ {B : BT_}, bet_ 1 v m B → bet_ 1 v m' B
  | none, _ => trivial
  | some q, h => h.elim Or.inl (fun u => absurd u.1 (by decide))
theorem gtr_mx {ro : Int → Int} {P : List (Int × Int)} (h4 : 0 ≤ ro 4 ∧ ro 4 ≤ 99) (hR : 1 ≤ ro 2 ∧ ro 2 ≤ 4) (hT : 0 ≤ ro 1 ∧ ro 1 ≤ 4) (hN : 1 ≤ (lpn_ ro 256).length) : ∀ (n : Nat) (row tot : Int → Int) (m : Int) (B : BT_), (n : Int) ≤ ro 1 → (∀ j, 0 ≤ j → j < ro 1 - n → 0 ≤ row j) → (m + 4 * n ≤ 12 ∨ (n : Int) = ro 1 ∧ m = 0) → mxq_ ro B (sm_ tot 0 (ro 2).toNat + srm_ ro P n (bef_ row (ro 1 - n))) (gre_ ro P n row) (gtr_ ro P 1 12 n row tot m B)
  | 0, row, tot, m, B, hn, hr, hm => by
    unfold gtr_ gth_ lok_
    have e : vat_ 1 (trn_ (ro 2) tot) 0 (ro 2) = -(sm_ tot 0 (ro 2).toNat + srm_ ro P 0 (bef_ row (ro 1 - (0 : Nat)))) := by
      show -(sm_ (trn_ (ro 2) tot) 0 (ro 2).toNat) = -(_ + 0)
      rw [sm_cg (g := tot) (j := 0) (ro 2).toNat (fun r r0 r1 => by rw [Int.zero_add]; exact trn_at r0 (by omega)), Int.add_zero]
    rw [e]
    by_cases c : bet_ 1 (-(sm_ tot 0 (ro 2).toNat + srm_ ro P 0 (bef_ row (ro 1 - (0 : Nat))))) m B
    · rw [if_t c]; exact Or.inr ⟨bet_1m c, m, _, rfl⟩
    · rw [if_f c]; exact Or.inl ⟨fun u => c (bet_1m u), rfl⟩
  | n + 1, row, tot, m, B, hn, hr, hm => by
    have hr' : ro 1 - 1 - (n : Int) ≠ 0 → 0 ≤ row (ro 1 - 1 - (n : Int) - 1) := fun _ => hr _ (by omega) (by omega)
    obtain ⟨t, ht⟩ : ∃ t, t = ro 1 - 1 - (n : Int) := ⟨_, rfl⟩
    have eb : ro 1 - ((n + 1 : Nat) : Int) = t := by omega
    rw [eb, est_a (t := t) hR.2 (by omega) (by omega) (by rw [ht]; exact hr')]
    rw [← ht] at hr'
    have hbb : ∀ k, -2147483648 < smg_ ro P t (bef_ row t) k + srm_ ro P n k := fun k => by
      have := smg_b (P := P) h4 (by omega) t (bef_ row t) k
      have := srm_b (P := P) h4 (by omega) hN n k (by omega)
      omega
    have key : ∀ k : Nat, k ≤ (lpn_ ro 256).length → (k = 0 ∧ (List.range k).foldl (est_ ro P 1 12 n row tot m t) B = B) ∨ (1 ≤ k ∧ mxq_ ro B (sm_ tot 0 (ro 2).toNat + (fmx_ (fun k => smg_ ro P t (bef_ row t) k + srm_ ro P n k) k).2) (gre_ ro P n (ob_ row t (fmx_ (fun k => smg_ ro P t (bef_ row t) k + srm_ ro P n k) k).1)) ((List.range k).foldl (est_ ro P 1 12 n row tot m t) B)) := by
      intro k
      induction k with
      | zero => exact fun _ => Or.inl ⟨rfl, rfl⟩
      | succ k ih =>
        intro hk
        have ih := ih (by omega)
        refine Or.inr ⟨by omega, ?_⟩
        have ef := est_f (ro := ro) (P := P) (so := 1) (mm := 12) (m := m) (t := t) (n := n) (row := row) (tot := tot) (B := B) (k := (k : Int)) (by omega)
        rw [show ((k : Int) + 1).toNat = k + 1 by omega, show ((k : Int)).toNat = k by omega] at ef
        have mb := mov_b ro (bef_ row t) (k : Int)
        have m0 : t = 0 → mov_ ro (bef_ row t) (k : Int) = 0 := fun u => by unfold bef_; rw [if_pos u]; rfl
        have mt : m + mov_ ro (bef_ row t) (k : Int) ≤ 12 := by omega
        rw [if_t mt] at ef
        have I := gtr_mx (P := P) h4 hR hT hN n (ob_ row t (k : Int)) (fun r => tot r + gan_ ro P t (bef_ row t) (k : Int) r) (m + mov_ ro (bef_ row t) (k : Int)) ((List.range k).foldl (est_ ro P 1 12 n row tot m t) B) (by omega) (fun j j0 j1 => by
          unfold ob_
          by_cases c : j = t
          · rw [if_pos c]; omega
          · rw [if_neg c]; exact hr j j0 (by omega)) (by omega)
        rw [← ef, sm_add] at I
        have eb2 : bef_ (ob_ row t (k : Int)) (ro 1 - (n : Int)) = (k : Int) := by
          unfold bef_ ob_
          rw [if_neg (by omega), if_pos (by omega)]
        rw [eb2] at I
        have ev : sm_ tot 0 (ro 2).toNat + sm_ (gan_ ro P t (bef_ row t) (k : Int)) 0 (ro 2).toNat + srm_ ro P n (k : Int) = sm_ tot 0 (ro 2).toNat + (smg_ ro P t (bef_ row t) (k : Int) + srm_ ro P n (k : Int)) := by unfold smg_; omega
        rw [ev] at I
        have hf : fmx_ (fun k => smg_ ro P t (bef_ row t) k + srm_ ro P n k) (k + 1) = if (fmx_ (fun k => smg_ ro P t (bef_ row t) k + srm_ ro P n k) k).2 < smg_ ro P t (bef_ row t) (k : Int) + srm_ ro P n (k : Int) then ((k : Int), smg_ ro P t (bef_ row t) (k : Int) + srm_ ro P n (k : Int)) else fmx_ (fun k => smg_ ro P t (bef_ row t) k + srm_ ro P n k) k := rfl
        rw [hf]
        have hk0 := hbb (k : Int)
        generalize smg_ ro P t (bef_ row t) (k : Int) + srm_ ro P n (k : Int) = v at I hf hk0 ⊢
        clear hf ev ef
        generalize (List.range (k + 1)).foldl (est_ ro P 1 12 n row tot m t) B = X at I ⊢
        generalize (List.range k).foldl (est_ ro P 1 12 n row tot m t) B = Y at I ih
        rcases ih with ⟨k0, hY⟩ | ⟨k1, ih⟩
        · subst k0
          rw [hY] at I
          rw [if_pos (show (fmx_ (fun k => smg_ ro P t (bef_ row t) k + srm_ ro P n k) 0).2 < v from hk0)]
          exact I
        · generalize fmx_ (fun k => smg_ ro P t (bef_ row t) k + srm_ ro P n k) k = F at ih ⊢
          by_cases c : F.2 < v
          · rw [if_pos c]
            show mxq_ ro B (sm_ tot 0 (ro 2).toNat + v) (gre_ ro P n (ob_ row t (k : Int))) X
            rcases ih with ⟨i1, i2⟩ | ⟨i1, mq, tq, i2⟩
            · rw [i2] at I; exact I
            · rcases I with ⟨J1, J2⟩ | ⟨J1, J2⟩
              · exfalso; apply J1; rw [i2]; exact Or.inl (by show -(sm_ tot 0 (ro 2).toNat + v) < -(sm_ tot 0 (ro 2).toNat + F.2); omega)
              · refine Or.inr ⟨?_, J2⟩
                cases B with
                | none => trivial
                | some q => exact i1.elim (fun u => Or.inl (by omega)) (fun u => absurd u.1 (by decide))
          · rw [if_neg c]
            rcases ih with ⟨i1, i2⟩ | ⟨i1, mq, tq, i2⟩
            · rw [i2] at I
              rcases I with ⟨J1, J2⟩ | ⟨J1, J2⟩
              · exact Or.inl ⟨i1, J2⟩
              · exfalso
                cases B with
                | none => exact i1 trivial
                | some q => exact i1 (J1.elim (fun u => Or.inl (by omega)) (fun u => absurd u.1 (by decide)))
            · rcases I with ⟨J1, J2⟩ | ⟨J1, J2⟩
              · exact Or.inr ⟨i1, mq, tq, J2.trans i2⟩
              · exfalso
                rw [i2] at J1
                rcases J1 with u | u
                · have : -(sm_ tot 0 (ro 2).toNat + v) < -(sm_ tot 0 (ro 2).toNat + F.2) := u
                  omega
                · exact absurd u.1 (by decide)
    rcases key (lpn_ ro 256).length (Nat.le_refl _) with ⟨k0, _⟩ | ⟨_, k1⟩
    · omega
    · have e1 : srm_ ro P (n + 1) (bef_ row t) = (fmx_ (fun k => smg_ ro P t (bef_ row t) k + srm_ ro P n k) (lpn_ ro 256).length).2 := by rw [srm_, ht]
      have e2 : gre_ ro P (n + 1) row = gre_ ro P n (ob_ row t (fmx_ (fun k => smg_ ro P t (bef_ row t) k + srm_ ro P n k) (lpn_ ro 256).length).1) := by rw [gre_, ht]; rfl
      rw [e1, e2]
      exact k1
/-- the plan of stretch j on the way that brings most -/
noncomputable def pth_ (ro : Int → Int) (P : List (Int × Int)) : Nat → Int
  | 0 => nxt_ ro P (ro 1 - 1).toNat (-1)
  | j + 1 => nxt_ ro P (ro 1 - 2 - j).toNat (pth_ ro P j)
theorem pth_s {ro : Int → Int} {P : List (Int × Int)} {s : Int} (h : 0 < s) : pth_ ro P s.toNat = nxt_ ro P (ro 1 - 1 - s).toNat (pth_ ro P (s - 1).toNat) := by
  rw [show s.toNat = (s - 1).toNat + 1 by omega]
  show nxt_ ro P (ro 1 - 2 - ((s - 1).toNat : Int)).toNat _ = _
  rw [show ro 1 - 2 - ((s - 1).toNat : Int) = ro 1 - 1 - s by omega]
theorem gre_p {ro : Int → Int} {P : List (Int × Int)} : ∀ (n : Nat) (row : Int → Int), (n : Int) ≤ ro 1 → (∀ j, 0 ≤ j → j < ro 1 - n → row j = pth_ ro P j.toNat) → ∀ j, 0 ≤ j → j < ro 1 → gre_ ro P n row j = pth_ ro P j.toNat
  | 0, row, hn, hr => fun j j0 j1 => hr j j0 (by omega)
  | n + 1, row, hn, hr => by
    unfold gre_
    refine gre_p n _ (by omega) (fun j j0 j1 => ?_)
    unfold ob_
    by_cases c : j = ro 1 - 1 - n
    · rw [if_pos c]
      unfold bef_
      by_cases c0 : ro 1 - 1 - (n : Int) = 0
      · rw [if_pos c0, c, c0]
        show _ = nxt_ ro P (ro 1 - 1).toNat (-1)
        rw [show (ro 1 - 1).toNat = n by omega]
      · rw [if_neg c0, c, pth_s (by omega), hr _ (by omega) (by omega), show (ro 1 - 1 - (ro 1 - 1 - (n : Int))).toNat = n by omega]
    · rw [if_neg c]; exact hr j j0 (by omega)
theorem skb_mx {ro : Int → Int} {P : List (Int × Int)} {pa : Int → Int} (h4 : 0 ≤ ro 4 ∧ ro 4 ≤ 99) (hR : 1 ≤ ro 2 ∧ ro 2 ≤ 4) (hT : 0 ≤ ro 1 ∧ ro 1 ≤ 4) (hN : 1 ≤ (lpn_ ro 256).length) : ∃ mq tq, skb_ ro P 1 12 pa = some (-(sm_ pa 0 (ro 2).toNat + srm_ ro P (ro 1).toNat (-1)), mq, trn_ (ro 1) (fun j => pL_ ro (pth_ ro P j.toNat)), tq) := by
  have q := gtr_mx (P := P) h4 hR hT hN (ro 1).toNat (fun _ => 0) pa 0 none (by omega) (fun j j0 j1 => by omega) (Or.inr ⟨by omega, rfl⟩)
  have eb : bef_ (fun _ => 0) (ro 1 - ((ro 1).toNat : Int)) = -1 := if_pos (by omega)
  rw [eb] at q
  rcases q with ⟨q, _⟩ | ⟨_, mq, tq, q⟩
  · exact absurd trivial q
  · refine ⟨mq, tq, q.trans ?_⟩
    have : trn_ (ro 1) (fun j => pL_ ro (gre_ ro P (ro 1).toNat (fun _ => 0) j)) = trn_ (ro 1) (fun j => pL_ ro (pth_ ro P j.toNat)) := by
      funext j
      unfold trn_
      by_cases c : 0 ≤ j ∧ j < ro 1
      · rw [if_pos c, if_pos c]
        show pL_ ro (gre_ ro P (ro 1).toNat (fun x => 0) j) = pL_ ro (pth_ ro P j.toNat)
        rw [gre_p (ro 1).toNat _ (by omega) (fun j j0 j1 => by omega) j c.1 c.2]
      · rw [if_neg c, if_neg c]
    rw [this]

