/-! ===== the journeys that fit what was seen ===== -/
abbrev FT_ : Type := Int × Nat × Nat × (Int → Int)
def fst_ (T : Int) (h : PH_) (F : FT_) : Prop := h mo_ 55 = F.1 ∧ h mo_ 56 = (F.2.1 : Int) ∧ h mo_ 57 = (F.2.2.1 : Int) ∧ (F.1 ≠ 0 → ∀ k, 0 ≤ k → k < T → h mBestRow k = F.2.2.2 k)
def flf_ (T : Int) (pl row : Int → Int) (s : Nat) (F : FT_) : FT_ := (F.1 + 1, F.2.1 &&& s, F.2.2.1 ||| s, if F.1 = 0 then trn_ T (fun k => pl (row k)) else F.2.2.2)
noncomputable def nst_ (CH : Int → Int → Int) (row : Int → Int) (t k : Int) (s : Nat) : Nat := if_ (0 < t ∧ CH (row (t - 1)) k ≠ 0) (s ||| 2 ^ (t - 1).toNat) s
noncomputable def fth_ (T : Int) (N : Nat) (pl : Int → Int) (CH : Int → Int → Int) (SE : Int → Int → Prop) : Nat → (Int → Int) → Nat → FT_ → FT_
  | 0, row, s, F => flf_ T pl row s F
  | n + 1, row, s, F => (List.range N).foldl (fun (F : FT_) (k : Nat) => if_ (SE (k : Int) (T - 1 - n)) (fth_ T N pl CH SE n (ob_ row (T - 1 - n) (k : Int)) (nst_ CH row (T - 1 - n) (k : Int) s) F) F) F
theorem ip2 (n : Nat) : ((2 : Int) ^ n).toNat = 2 ^ n := by
  rw [show (2 : Int) ^ n = ((2 ^ n : Nat) : Int) by simp]; exact Int.toNat_natCast _
theorem nst_b {CH : Int → Int → Int} {row : Int → Int} {t k : Int} {s : Nat} (ht : t ≤ 3) (hs : s < 8) : nst_ CH row t k s < 8 := by
  unfold nst_
  by_cases c : 0 < t ∧ CH (row (t - 1)) k ≠ 0
  · rw [if_t c]
    refine Nat.or_lt_two_pow (n := 3) hs ?_
    exact Nat.pow_lt_pow_right (by decide) (by omega)
  · rw [if_f c]; exact hs
theorem nst_cg {CH : Int → Int → Int} {row row' : Int → Int} {t k : Int} {s : Nat} (h : 0 < t → row (t - 1) = row' (t - 1)) : nst_ CH row t k s = nst_ CH row' t k s := by
  unfold nst_
  by_cases c : 0 < t
  · rw [h c]
  · rw [if_f (fun x => c x.1), if_f (fun x => c x.1)]
def fok_ (F : FT_) : Prop := 0 ≤ F.1 ∧ F.2.1 < 8 ∧ F.2.2.1 < 8
theorem fth_b {T : Int} {N : Nat} {pl : Int → Int} {CH : Int → Int → Int} {SE : Int → Int → Prop} (hT : T ≤ 4) (hN : N ≤ 24) : ∀ (n : Nat) (row : Int → Int) (s : Nat) (F : FT_), s < 8 → fok_ F → fok_ (fth_ T N pl CH SE n row s F) ∧ F.1 ≤ (fth_ T N pl CH SE n row s F).1 ∧ (fth_ T N pl CH SE n row s F).1 ≤ F.1 + 24 ^ n
  | 0, row, s, F, hs, hF => by
    unfold fth_ flf_ fok_
    refine ⟨⟨?_, ?_, ?_⟩, ?_, ?_⟩
    · show 0 ≤ F.1 + 1; have := hF.1; omega
    · exact Nat.lt_of_le_of_lt Nat.and_le_left hF.2.1
    · exact Nat.or_lt_two_pow (n := 3) hF.2.2 hs
    · show F.1 ≤ F.1 + 1; omega
    · show F.1 + 1 ≤ F.1 + 24 ^ 0; simp
  | n + 1, row, s, F, hs, hF => by
    unfold fth_
    have key : ∀ (l : List Nat) (F : FT_), fok_ F → fok_ (l.foldl (fun (F : FT_) (k : Nat) => if_ (SE (k : Int) (T - 1 - n)) (fth_ T N pl CH SE n (ob_ row (T - 1 - n) (k : Int)) (nst_ CH row (T - 1 - n) (k : Int) s) F) F) F) ∧ F.1 ≤ (l.foldl (fun (F : FT_) (k : Nat) => if_ (SE (k : Int) (T - 1 - n)) (fth_ T N pl CH SE n (ob_ row (T - 1 - n) (k : Int)) (nst_ CH row (T - 1 - n) (k : Int) s) F) F) F).1 ∧ (l.foldl (fun (F : FT_) (k : Nat) => if_ (SE (k : Int) (T - 1 - n)) (fth_ T N pl CH SE n (ob_ row (T - 1 - n) (k : Int)) (nst_ CH row (T - 1 - n) (k : Int) s) F) F) F).1 ≤ F.1 + l.length * 24 ^ n := by
      intro l
      induction l with
      | nil => intro F hF; exact ⟨hF, Int.le_refl _, by simp⟩
      | cons k l ih =>
        intro F hF
        rw [List.foldl_cons]
        have st : fok_ (if_ (SE (k : Int) (T - 1 - n)) (fth_ T N pl CH SE n (ob_ row (T - 1 - n) (k : Int)) (nst_ CH row (T - 1 - n) (k : Int) s) F) F) ∧ F.1 ≤ (if_ (SE (k : Int) (T - 1 - n)) (fth_ T N pl CH SE n (ob_ row (T - 1 - n) (k : Int)) (nst_ CH row (T - 1 - n) (k : Int) s) F) F).1 ∧ (if_ (SE (k : Int) (T - 1 - n)) (fth_ T N pl CH SE n (ob_ row (T - 1 - n) (k : Int)) (nst_ CH row (T - 1 - n) (k : Int) s) F) F).1 ≤ F.1 + 24 ^ n := by
          by_cases c : SE (k : Int) (T - 1 - n)
          · rw [if_t c]; exact fth_b hT hN n _ _ F (nst_b (by omega) hs) hF
          · rw [if_f c]; exact ⟨hF, Int.le_refl _, by have : (0 : Int) ≤ 24 ^ n := Int.pow_nonneg (by decide); omega⟩
        have e := ih _ st.1
        refine ⟨e.1, Int.le_trans st.2.1 e.2.1, ?_⟩
        have e3 := e.2.2
        have e4 := st.2.2
        rw [show ((k :: l).length : Int) * 24 ^ n = (l.length : Int) * 24 ^ n + 24 ^ n by rw [List.length_cons, Int.natCast_add, Int.add_mul]; simp]
        omega
    have e := key (List.range N) F hF
    rw [List.length_range] at e
    refine ⟨e.1, e.2.1, Int.le_trans e.2.2 ?_⟩
    have h1 : (N : Int) * 24 ^ n ≤ 24 * 24 ^ n := Int.mul_le_mul_of_nonneg_right (by omega) (Int.pow_nonneg (by decide))
    rw [show (24 : Int) ^ (n + 1) = 24 * 24 ^ n by rw [Int.pow_succ, Int.mul_comm]]
    omega
theorem fth_cg {T : Int} {N : Nat} {pl : Int → Int} {CH : Int → Int → Int} {SE : Int → Int → Prop} : ∀ (n : Nat) {row row' : Int → Int} {s : Nat} {F : FT_}, (n : Int) ≤ T → (∀ k, 0 ≤ k → k < T - n → row k = row' k) → fth_ T N pl CH SE n row s F = fth_ T N pl CH SE n row' s F
  | 0, row, row', s, F, hn, h => by
    unfold fth_ flf_
    rw [trn_cg (g := fun k => pl (row' k)) (fun k k0 k1 => by rw [h k k0 (by omega)])]
  | n + 1, row, row', s, F, hn, h => by
    unfold fth_
    refine foldl_cg (fun F k _ => ?_)
    rw [nst_cg (row' := row') (fun c => h _ (by omega) (by omega)), fth_cg n (row := ob_ row (T - 1 - n) k) (row' := ob_ row' (T - 1 - n) k) (by omega) (fun j j0 j1 => by
      unfold ob_
      by_cases c : j = T - 1 - n
      · rw [if_pos c, if_pos c]
      · rw [if_neg c, if_neg c]; exact h j j0 (by omega))]
noncomputable def ftr_ (ro f : Int → Int) : Nat → (Int → Int) → Nat → FT_ → FT_ := fth_ (ro 1) (lpn_ ro 256).length (pL_ ro) (pC_ ro) (fun k t => sen_ f (dg_ (ro 2) (pL_ ro k)) t (f 30).toNat)
theorem ftr_s {ro f : Int → Int} {t : Int} {n : Nat} {row : Int → Int} {s : Nat} {F : FT_} (ht : ro 1 - 1 - (n : Int) = t) : ftr_ ro f (n + 1) row s F = (List.range (lpn_ ro 256).length).foldl (fun (F : FT_) (k : Nat) => if_ (sen_ f (dg_ (ro 2) (pL_ ro (k : Int))) t (f 30).toNat) (ftr_ ro f n (ob_ row t (k : Int)) (nst_ (pC_ ro) row t (k : Int) s) F) F) F := by
  subst ht; rfl
def gfr_ (P : List (Int × Int)) (n : Nat) (t : Int) (s : Nat) (h : PH_) (F : FT_) : Prop := (2 ≤ h mRoads 0 ∧ h mRoads 0 ≤ 4) ∧ (0 ≤ h mRoads 2 ∧ h mRoads 2 ≤ h mRoads 0) ∧ (0 ≤ h mRoads 1 ∧ h mRoads 1 ≤ 4) ∧ fpl_ (h mRoads) P h ∧ (0 ≤ h mState 30 ∧ h mState 30 ≤ 12) ∧ (∀ k, 0 ≤ k → k < h mState 30 → 0 ≤ h mState (31 + 4 * k) ∧ h mState (31 + 4 * k) < h mRoads 2) ∧ (t = h mRoads 1 - n ∧ 0 ≤ t) ∧ s < 8 ∧ (∀ k, 0 ≤ k → k < t → 0 ≤ h mRow k ∧ h mRow k < (lpn_ (h mRoads) 256).length) ∧ fok_ F ∧ F.1 + 24 ^ n ≤ 400000 ∧ fst_ (h mRoads 1) h F
def gfs_ (n : Nat) (t : Int) (s : Nat) (h : PH_) (F : FT_) (h' : PH_) : Prop := off_ [mSits, mRow, mBestRow, mo_] h h' ∧ (∀ k, k ≠ 55 → k ≠ 56 → k ≠ 57 → h' mo_ k = h mo_ k) ∧ (∀ x, x < t → h' mRow x = h mRow x) ∧ fst_ (h mRoads 1) h' (ftr_ (h mRoads) (h mState) n (h mRow) s F)
def gfc_ (G : GT_) (P : List (Int × Int)) (n : Nat) : Prop := ∀ (h : PH_) (t : Int) (s : Nat) (F : FT_), gfr_ P n t s h F → PC G yX12_goesFitting cX12_goesFitting 5 none (5 + n) [rr_ G mo_, ii_ t, ii_ (s : Int)] h (qv_ (fun h' => gfs_ n t s h F h'))
theorem fst_mv {T : Int} {h h' : PH_} {F : FT_} (e1 : h' mBestRow = h mBestRow) (e2 : h' mo_ = h mo_) (hb : fst_ T h F) : fst_ T h' F := by
  unfold fst_ at hb ⊢; rw [e1, e2]; exact hb
