/-! ===== all journeys, in order ===== -/
def trn_ (n : Int) (f : Int → Int) : Int → Int := fun k => if 0 ≤ k ∧ k < n then f k else 0
theorem trn_cg {n : Int} {f g : Int → Int} (h : ∀ k, 0 ≤ k → k < n → f k = g k) : trn_ n f = trn_ n g := by
  funext k; unfold trn_
  by_cases c : 0 ≤ k ∧ k < n
  · rw [if_pos c, if_pos c]; exact h k c.1 c.2
  · rw [if_neg c, if_neg c]
theorem trn_at {n : Int} {f : Int → Int} {k : Int} (h0 : 0 ≤ k) (h1 : k < n) : trn_ n f k = f k := if_pos ⟨h0, h1⟩
/-- who moves to plan k on stretch t, the totals behind it -/
def gse_ (CH : Int → Int → Int) (row : Int → Int) (t k : Int) : Int := if t = 0 then 0 else CH (row (t - 1)) k
def gto_ (fi : Int) (W : Int → Int → Int → Int) (tot : Int → Int) (se t k : Int) : Int → Int := fun r => tot r + W k r t - (if se / 2 ^ r.toNat % 2 = 1 then fi else 0)
noncomputable def gth_ (so R mm fi T : Int) (N : Nat) (pl : Int → Int) (W : Int → Int → Int → Int) (CH : Int → Int → Int) : Nat → (Int → Int) → (Int → Int) → Int → BT_ → BT_
  | 0, row, tot, m, B => lok_ so R (trn_ T (fun k => pl (row k))) (trn_ R tot) m B
  | n + 1, row, tot, m, B => (List.range N).foldl (fun (B : BT_) (k : Nat) => if_ (m + bit_ (gse_ CH row (T - 1 - n) (k : Int)) 4 ≤ mm) (gth_ so R mm fi T N pl W CH n (ob_ row (T - 1 - n) (k : Int)) (gto_ fi W tot (gse_ CH row (T - 1 - n) (k : Int)) (T - 1 - n) (k : Int)) (m + bit_ (gse_ CH row (T - 1 - n) (k : Int)) 4) B) B) B
theorem lok_tr {so T R m : Int} {pl tot : Int → Int} {h : PH_} {B : BT_} (hR : 1 ≤ R) (hb : bst_ T R h (lok_ so R pl tot m B)) : bst_ T R h (lok_ so R (trn_ T pl) (trn_ R tot) m B) := by
  have e : vat_ so (trn_ R tot) 0 R = vat_ so tot 0 R := vat_cg hR (fun r r0 r1 => by rw [Int.zero_add]; exact trn_at r0 r1)
  unfold lok_ at hb ⊢
  rw [e]
  by_cases c : bet_ so (vat_ so tot 0 R) m B
  · rw [if_t c] at hb ⊢
    exact ⟨hb.1, hb.2.1, hb.2.2.1, fun k k0 k1 => (hb.2.2.2.1 k k0 k1).trans (trn_at k0 k1).symm, fun r r0 r1 => (hb.2.2.2.2 r r0 r1).trans (trn_at r0 r1).symm⟩
  · rw [if_f c] at hb ⊢; exact hb
theorem foldl_cg {α β : Type} {f g : α → β → α} : ∀ {l : List β} {a : α}, (∀ a b, b ∈ l → f a b = g a b) → l.foldl f a = l.foldl g a
  | [], _, _ => rfl
  | x :: l, a, h => by
    show l.foldl f (f a x) = l.foldl g (g a x)
    rw [h a x List.mem_cons_self]
    exact foldl_cg (fun a b hb => h a b (List.mem_cons_of_mem _ hb))
theorem gth_cg {so R mm fi T : Int} {N : Nat} {pl : Int → Int} {W : Int → Int → Int → Int} {CH : Int → Int → Int} : ∀ (n : Nat) {row row' tot tot' : Int → Int} {m : Int} {B : BT_}, (n : Int) ≤ T → (∀ k, 0 ≤ k → k < T - n → row k = row' k) → (∀ r, 0 ≤ r → r < R → tot r = tot' r) → gth_ so R mm fi T N pl W CH n row tot m B = gth_ so R mm fi T N pl W CH n row' tot' m B
  | 0, row, row', tot, tot', m, B, hn, h1, h2 => by
    unfold gth_
    rw [trn_cg h2, trn_cg (g := fun k => pl (row' k)) (fun k k0 k1 => by rw [h1 k k0 (by omega)])]
  | n + 1, row, row', tot, tot', m, B, hn, h1, h2 => by
    unfold gth_
    refine foldl_cg (fun B k _ => ?_)
    have e : gse_ CH row (T - 1 - n) k = gse_ CH row' (T - 1 - n) k := by
      unfold gse_
      by_cases c : T - 1 - (n : Int) = 0
      · rw [if_pos c, if_pos c]
      · rw [if_neg c, if_neg c, h1 _ (by omega) (by omega)]
    rw [e]
    rw [gth_cg n (row := ob_ row (T - 1 - n) k) (row' := ob_ row' (T - 1 - n) k) (tot := gto_ fi W tot (gse_ CH row' (T - 1 - n) k) (T - 1 - n) k) (tot' := gto_ fi W tot' (gse_ CH row' (T - 1 - n) k) (T - 1 - n) k) (by omega) (fun j j0 j1 => by
      unfold ob_
      by_cases c : j = T - 1 - n
      · rw [if_pos c, if_pos c]
      · rw [if_neg c, if_neg c]; exact h1 j j0 (by omega)) (fun r r0 r1 => by unfold gto_; rw [h2 r r0 r1])]
/-- what the lists of a road bring -/
noncomputable def pW_ (ro : Int → Int) (P : List (Int × Int)) : Int → Int → Int → Int := fun k r t => wsi_ ro P (dg_ (ro 2) ((lpn_ ro 256).getD k.toNat 0)) r t
noncomputable def pC_ (ro : Int → Int) : Int → Int → Int := fun j k => (chg_ (ro 2) ((lpn_ ro 256).getD j.toNat 0) ((lpn_ ro 256).getD k.toNat 0) (ro 2).toNat : Int)
noncomputable def pL_ (ro : Int → Int) : Int → Int := fun j => (lpn_ ro 256).getD j.toNat 0
noncomputable def gtr_ (ro : Int → Int) (P : List (Int × Int)) (so mm : Int) : Nat → (Int → Int) → (Int → Int) → Int → BT_ → BT_ := gth_ so (ro 2) mm (ro 4) (ro 1) (lpn_ ro 256).length (pL_ ro) (pW_ ro P) (pC_ ro)
/-- before and behind goesThrough -/
def gpr_ (P : List (Int × Int)) (n : Nat) (t : Int) (h : PH_) (B0 : BT_) : Prop := (2 ≤ h mRoads 0 ∧ h mRoads 0 ≤ 4) ∧ (1 ≤ h mRoads 2 ∧ h mRoads 2 ≤ h mRoads 0) ∧ (0 ≤ h mRoads 1 ∧ h mRoads 1 ≤ 4) ∧ (0 ≤ h mRoads 4 ∧ h mRoads 4 ≤ 99) ∧ fpl_ (h mRoads) P h ∧ (t = h mRoads 1 - n ∧ 0 ≤ t) ∧ (0 ≤ h mMoves t ∧ h mMoves t ≤ 12) ∧ (0 ≤ h mo_ 40 ∧ h mo_ 40 ≤ 12) ∧ (∀ k, 0 ≤ k → k < t → 0 ≤ h mRow k ∧ h mRow k < (lpn_ (h mRoads) 256).length) ∧ (∀ r, 0 ≤ r → r < h mRoads 2 → -(500000 + 1100 * t) ≤ h mTotals (4 * t + r) ∧ h mTotals (4 * t + r) ≤ 500000 + 1100 * t) ∧ bst_ (h mRoads 1) (h mRoads 2) h B0
def gps_ (P : List (Int × Int)) (n : Nat) (t : Int) (h : PH_) (B0 : BT_) (h' : PH_) : Prop := off_ [mMoves, mRow, mTotals, mBestRow, mBestTotals, mo_] h h' ∧ (∀ k, k ≠ 41 → k ≠ 42 → k ≠ 43 → h' mo_ k = h mo_ k) ∧ (∀ x, x ≤ t → h' mMoves x = h mMoves x) ∧ (∀ x, x < t → h' mRow x = h mRow x) ∧ (∀ x, x < 4 * t + 4 → h' mTotals x = h mTotals x) ∧ bst_ (h mRoads 1) (h mRoads 2) h' (gtr_ (h mRoads) P (h mo_ 39) (h mo_ 40) n (h mRow) (fun r => h mTotals (4 * t + r)) (h mMoves t) B0)
def gpc_ (G : GT_) (P : List (Int × Int)) (n : Nat) : Prop := ∀ (h : PH_) (t : Int) (B0 : BT_), gpr_ P n t h B0 → PC G yX12_goesThrough cX12_goesThrough 5 none (5 + n) [rr_ G mo_, ii_ t] h (qv_ (fun h' => gps_ P n t h B0 h'))
theorem bst_mv {T R : Int} {h h' : PH_} {B : BT_} (e1 : h' mBestRow = h mBestRow) (e2 : h' mBestTotals = h mBestTotals) (e3 : h' mo_ = h mo_) (hb : bst_ T R h B) : bst_ T R h' B := by
  cases B with
  | none => show h' mo_ 41 = 0; rw [e3]; exact hb
  | some q => show h' mo_ 41 = 1 ∧ _; unfold bst_ at hb; rw [e1, e2, e3]; exact hb
theorem fpl_mv {ro : Int → Int} {P : List (Int × Int)} {h h' : PH_} (e1 : h' mLawfuls = h mLawfuls) (e2 : h' mWorths = h mWorths) (e3 : h' mChanges = h mChanges) (e4 : h' mo_ 32 = h mo_ 32) (hf : fpl_ ro P h) : fpl_ ro P h' := by
  unfold fpl_ at hf ⊢; rw [e1, e2, e3, e4]; exact hf
theorem gtr_s {ro : Int → Int} {P : List (Int × Int)} {so mm m t : Int} {n : Nat} {row tot : Int → Int} {B : BT_} (ht : ro 1 - 1 - (n : Int) = t) : gtr_ ro P so mm (n + 1) row tot m B = (List.range (lpn_ ro 256).length).foldl (fun (B : BT_) (j : Nat) => if_ (m + bit_ (gse_ (pC_ ro) row t (j : Int)) 4 ≤ mm) (gtr_ ro P so mm n (ob_ row t (j : Int)) (gto_ (ro 4) (pW_ ro P) tot (gse_ (pC_ ro) row t (j : Int)) t (j : Int)) (m + bit_ (gse_ (pC_ ro) row t (j : Int)) 4) B) B) B := by
  subst ht; rfl
theorem gtr_cg {ro : Int → Int} {P : List (Int × Int)} {so mm m : Int} (n : Nat) {row row' tot tot' : Int → Int} {B : BT_} (hn : (n : Int) ≤ ro 1) (h1 : ∀ k, 0 ≤ k → k < ro 1 - n → row k = row' k) (h2 : ∀ r, 0 ≤ r → r < ro 2 → tot r = tot' r) : gtr_ ro P so mm n row tot m B = gtr_ ro P so mm n row' tot' m B := gth_cg n hn h1 h2
noncomputable def skb_ (ro : Int → Int) (P : List (Int × Int)) (so mm : Int) (pa : Int → Int) : BT_ := gtr_ ro P so mm (ro 1).toNat (fun _ => 0) pa 0 none
