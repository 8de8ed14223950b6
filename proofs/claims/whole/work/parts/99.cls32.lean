/-! ===== journeys: what a plan brings ===== -/
theorem xr_ (p q k : Nat) : (p ^^^ q) / 2 ^ (2 * k) % 4 = 0 ↔ p / 2 ^ (2 * k) % 4 = q / 2 ^ (2 * k) % 4 := by
  have k4 : ∀ x < 4, ∀ y < 4, (x ^^^ y = 0 ↔ x = y) := by decide
  have e := Nat.xor_mod_two_pow (a := p / 2 ^ (2 * k)) (b := q / 2 ^ (2 * k)) (n := 2)
  rw [show 2 ^ 2 = 4 from rfl] at e
  rw [Nat.xor_div_two_pow, e]
  exact k4 _ (by omega) _ (by omega)
def chv_ (R x : Nat) : Nat → Nat
  | 0 => 0
  | k + 1 => chv_ R x k ||| (if x / 2 ^ (2 * k) % 4 = 0 then 0 else 2 ^ (R - 1 - k))
theorem chv_g {R a b : Int} (hR : 0 ≤ R) (ha : 0 ≤ a) (hb : 0 ≤ b) : ∀ k : Nat, chg_ R a b k = chv_ R.toNat (a.toNat ^^^ b.toNat) k
  | 0 => rfl
  | k + 1 => by
    unfold chg_ chv_
    rw [chv_g hR ha hb k, show (R - 1 - k).toNat = R.toNat - 1 - k by omega]
    have e : (dv_ k a % 4 = dv_ k b % 4) ↔ (a.toNat ^^^ b.toNat) / 2 ^ (2 * k) % 4 = 0 := by
      rw [xr_, dv_e, dv_e]
      conv => lhs; rw [← tn_c ha, ← tn_c hb, pc_]
      have : ∀ x y : Nat, ((x : Int) / ((2 ^ (2 * k) : Nat) : Int) % 4 = (y : Int) / ((2 ^ (2 * k) : Nat) : Int) % 4 ↔ x / 2 ^ (2 * k) % 4 = y / 2 ^ (2 * k) % 4) := fun x y => by
        constructor
        · intro u; have : ((x / 2 ^ (2 * k) % 4 : Nat) : Int) = ((y / 2 ^ (2 * k) % 4 : Nat) : Int) := by push_cast; push_cast at u; exact u
          omega
        · intro u; have : ((x / 2 ^ (2 * k) % 4 : Nat) : Int) = ((y / 2 ^ (2 * k) % 4 : Nat) : Int) := by rw [u]
          push_cast; push_cast at this; exact this
      exact this _ _
    by_cases c : (a.toNat ^^^ b.toNat) / 2 ^ (2 * k) % 4 = 0
    · rw [if_pos c, if_pos (e.mpr c)]
    · rw [if_neg c, if_neg (fun u => c (e.mp u))]
set_option maxRecDepth 100000 in
theorem chv_k : ∀ R < 5, ∀ x < 256, x < 2 ^ (2 * R) → ((x ||| x / 2) &&& 85) < 256 ∧ bit_ (((x ||| x / 2) &&& 85 : Nat) : Int) 24 = bit_ ((chv_ R x R : Nat) : Int) 4 ∧ ∀ r < R, (x / 2 ^ (2 * (R - 1 - r)) % 4 = 0 ↔ chv_ R x R / 2 ^ r % 2 = 0) := by decide +kernel
theorem pL_b {ro : Int → Int} {k : Int} (hS : 2 ≤ ro 0 ∧ ro 0 ≤ 4) (hR : 0 ≤ ro 2 ∧ ro 2 ≤ ro 0) (h0 : 0 ≤ k) (h1 : k < (lpn_ ro 256).length) : 0 ≤ pL_ ro k ∧ pL_ ro k < 2 ^ (2 * ro 2).toNat ∧ pL_ ro k < 256 := by
  have hm : pL_ ro k ∈ lpn_ ro 256 := by
    show (lpn_ ro 256).getD k.toNat 0 ∈ _
    unfold List.getD
    rw [List.getElem?_eq_getElem (show k.toNat < (lpn_ ro 256).length by omega)]
    exact List.getElem_mem _
  have a := lpn_mem hm
  have b := (vp_sea hS (by omega)).mp a.1.1
  exact ⟨b.1, b.2.1, by omega⟩
theorem chp_ {ro : Int → Int} {b k : Int} (hS : 2 ≤ ro 0 ∧ ro 0 ≤ 4) (hR : 0 ≤ ro 2 ∧ ro 2 ≤ ro 0) (b0 : 0 ≤ b) (b1 : b < (lpn_ ro 256).length) (k0 : 0 ≤ k) (k1 : k < (lpn_ ro 256).length) : ∃ x : Nat, x = (pL_ ro b).toNat ^^^ (pL_ ro k).toNat ∧ x < 256 ∧ ((x ||| x / 2) &&& 85) < 256 ∧ bit_ (((x ||| x / 2) &&& 85 : Nat) : Int) 24 = bit_ (pC_ ro b k) 4 ∧ ∀ r : Int, 0 ≤ r → r < ro 2 → ((x : Int) / 2 ^ (2 * (ro 2 - 1 - r)).toNat % 4 = 0 ↔ ¬ pC_ ro b k / 2 ^ r.toNat % 2 = 1) := by
  have pb := pL_b hS hR b0 b1
  have pk := pL_b hS hR k0 k1
  have e2 : (2 * ro 2).toNat = 2 * (ro 2).toNat := by omega
  rw [e2, pc_] at pb pk
  have hx : (pL_ ro b).toNat ^^^ (pL_ ro k).toNat < 2 ^ (2 * (ro 2).toNat) := Nat.xor_lt_two_pow (by omega) (by omega)
  have hx2 : (pL_ ro b).toNat ^^^ (pL_ ro k).toNat < 256 := Nat.xor_lt_two_pow (n := 8) (by omega) (by omega)
  have eC : pC_ ro b k = ((chv_ (ro 2).toNat ((pL_ ro b).toNat ^^^ (pL_ ro k).toNat) (ro 2).toNat : Nat) : Int) := by
    show ((chg_ (ro 2) (pL_ ro b) (pL_ ro k) (ro 2).toNat : Nat) : Int) = _
    rw [chv_g hR.1 pb.1 pk.1]
  have q := chv_k (ro 2).toNat (by omega) _ hx2 hx
  refine ⟨_, rfl, hx2, q.1, by rw [eC]; exact q.2.1, fun r r0 r1 => ?_⟩
  have q3 := q.2.2 r.toNat (by omega)
  rw [eC, show (2 * (ro 2 - 1 - r)).toNat = 2 * ((ro 2).toNat - 1 - r.toNat) by omega]
  rw [pc_, pc_]
  generalize (pL_ ro b).toNat ^^^ (pL_ ro k).toNat = x at q3 ⊢
  generalize chv_ (ro 2).toNat x (ro 2).toNat = y at q3 ⊢
  have u1 : ((x : Int) / ((2 ^ (2 * ((ro 2).toNat - 1 - r.toNat)) : Nat) : Int)) = ((x / 2 ^ (2 * ((ro 2).toNat - 1 - r.toNat)) : Nat) : Int) := by push_cast; rfl
  have u2 : ((y : Int) / ((2 ^ r.toNat : Nat) : Int)) = ((y / 2 ^ r.toNat : Nat) : Int) := by push_cast; rfl
  rw [u1, u2]
  omega
/-- what plan k brings rider r on stretch t behind plan b (-1: at first); rider 4 is nobody -/
noncomputable def gan_ (ro : Int → Int) (P : List (Int × Int)) (t b k r : Int) : Int := if r = 4 then 0 else pW_ ro P k r t - (if b = -1 then 0 else if pC_ ro b k / 2 ^ r.toNat % 2 = 1 then ro 4 else 0)
theorem gan_b {ro : Int → Int} {P : List (Int × Int)} (h4 : 0 ≤ ro 4 ∧ ro 4 ≤ 99) (t b k r : Int) : -99 ≤ gan_ ro P t b k r ∧ gan_ ro P t b k r ≤ 999 := by
  have w := wsi_b ro P (dg_ (ro 2) ((lpn_ ro 256).getD k.toNat 0)) r t
  unfold gan_ pW_
  split
  · omega
  · split
    · omega
    · split <;> omega
noncomputable def mov_ (ro : Int → Int) (b k : Int) : Int := if b = -1 then 0 else bit_ (pC_ ro b k) 4
theorem mov_b (ro : Int → Int) (b k : Int) : 0 ≤ mov_ ro b k ∧ mov_ ro b k ≤ 4 := by
  have := bit_b (pC_ ro b k) 4
  unfold mov_; split <;> omega
def bef_ (row : Int → Int) (t : Int) : Int := if t = 0 then -1 else row (t - 1)
theorem bit_0 : bit_ 0 4 = 0 := by decide
theorem gse_m {ro row : Int → Int} {t k : Int} (h : t ≠ 0 → 0 ≤ row (t - 1)) : bit_ (gse_ (pC_ ro) row t k) 4 = mov_ ro (bef_ row t) k := by
  unfold gse_ mov_ bef_
  by_cases c : t = 0
  · rw [if_pos c, if_pos c, if_pos rfl]; exact bit_0
  · have := h c
    rw [if_neg c, if_neg c, if_neg (by omega)]
theorem gto_g {ro row tot : Int → Int} {P : List (Int × Int)} {t k r : Int} (h : t ≠ 0 → 0 ≤ row (t - 1)) (hr : r ≠ 4) : gto_ (ro 4) (pW_ ro P) tot (gse_ (pC_ ro) row t k) t k r = tot r + gan_ ro P t (bef_ row t) k r := by
  unfold gto_ gse_ gan_ bef_
  rw [if_neg hr]
  by_cases c : t = 0
  · rw [if_pos c, if_pos c, if_pos rfl, Int.zero_ediv, if_neg (by decide)]; omega
  · have := h c
    rw [if_neg c, if_neg c, if_neg (show ¬ row (t - 1) = -1 by omega)]; omega
/-! the least that is ahead -/
def lmn_ (f : Int → Int) : Nat → Int
  | 0 => 2147483647
  | n + 1 => if f n < lmn_ f n then f n else lmn_ f n
theorem lmn_s {f : Int → Int} {k : Int} (h : 0 ≤ k) : lmn_ f (k + 1).toNat = if f k < lmn_ f k.toNat then f k else lmn_ f k.toNat := by rw [tn_s h]; show (if f (k.toNat : Int) < _ then f (k.toNat : Int) else _) = _; rw [tn_c h]
theorem lmn_le {f : Int → Int} : ∀ (n : Nat) (k : Int), 0 ≤ k → k < n → lmn_ f n ≤ f k
  | 0, k, h0, h1 => by omega
  | n + 1, k, h0, h1 => by
    unfold lmn_
    by_cases c : k = n
    · subst c; split <;> omega
    · have := lmn_le (f := f) n k h0 (by omega); split <;> omega
theorem lmn_b {f : Int → Int} {B : Int} (hB : B ≤ 2147483647 ∧ 0 ≤ B) : ∀ n : Nat, (∀ k, 0 ≤ k → k < (n : Int) → -B ≤ f k ∧ f k ≤ B) → -B ≤ lmn_ f n ∧ lmn_ f n ≤ 2147483647 ∧ (1 ≤ n → lmn_ f n ≤ B)
  | 0, _ => by unfold lmn_; omega
  | n + 1, h => by
    have a := lmn_b hB n (fun k k0 k1 => h k k0 (by omega))
    have b := h n (by omega) (by omega)
    unfold lmn_; split <;> omega
noncomputable def leh_ (ro : Int → Int) (P : List (Int × Int)) (a c : Int) : Nat → Int → Int
  | 0, _ => 0
  | n + 1, b => lmn_ (fun k => gan_ ro P (ro 1 - 1 - n) b k a - gan_ ro P (ro 1 - 1 - n) b k c + leh_ ro P a c n k) (lpn_ ro 256).length
theorem leh_b {ro : Int → Int} {P : List (Int × Int)} {a c : Int} (h4 : 0 ≤ ro 4 ∧ ro 4 ≤ 99) (hN : 1 ≤ (lpn_ ro 256).length) : ∀ (n : Nat) (b : Int), n ≤ 4 → -(1100 * (n : Int)) ≤ leh_ ro P a c n b ∧ leh_ ro P a c n b ≤ 1100 * n
  | 0, b, _ => by unfold leh_; omega
  | n + 1, b, hn => by
    have q := lmn_b (f := fun k => gan_ ro P (ro 1 - 1 - n) b k a - gan_ ro P (ro 1 - 1 - n) b k c + leh_ ro P a c n k) (B := 1100 * ((n : Int) + 1)) (by omega) (lpn_ ro 256).length (fun k _ _ => by
      have g1 := gan_b (P := P) h4 (ro 1 - 1 - n) b k a
      have g2 := gan_b (P := P) h4 (ro 1 - 1 - n) b k c
      have g3 := leh_b (P := P) (a := a) (c := c) h4 hN n k (by omega)
      show _ ≤ gan_ _ _ _ _ _ _ - _ + _ ∧ gan_ _ _ _ _ _ _ - _ + _ ≤ _
      omega)
    have q3 := q.2.2 hN
    unfold leh_
    omega
theorem leh_le {ro : Int → Int} {P : List (Int × Int)} {a c b k : Int} {n : Nat} (k0 : 0 ≤ k) (k1 : k < (lpn_ ro 256).length) : leh_ ro P a c (n + 1) b ≤ gan_ ro P (ro 1 - 1 - n) b k a - gan_ ro P (ro 1 - 1 - n) b k c + leh_ ro P a c n k := lmn_le _ k k0 k1
/-! nothing better is to be found -/
theorem mxg_ {f : Int → Int} : ∀ (n : Nat) (r : Int), 0 ≤ r → r ≤ (n : Int) → f r ≤ mx_ f 0 n ∧ mn_ f 0 n ≤ f r
  | 0, r, h0, h1 => by rw [show r = 0 by omega]; exact ⟨Int.le_refl _, Int.le_refl _⟩
  | n + 1, r, h0, h1 => by
    unfold mx_ mn_
    rw [show (0 : Int) + ((n : Int) + 1) = n + 1 by omega]
    by_cases c : r = (n : Int) + 1
    · subst c; constructor <;> split <;> omega
    · have := mxg_ (f := f) n r h0 (by omega); constructor <;> split <;> omega
theorem foldl_id {β : Type} {f : BT_ → β → BT_} {B : BT_} : ∀ {l : List β}, (∀ k ∈ l, f B k = B) → l.foldl f B = B
  | [], _ => rfl
  | x :: l, h => by rw [List.foldl_cons, h x List.mem_cons_self]; exact foldl_id (fun k hk => h k (List.mem_cons_of_mem _ hk))
theorem bet_mo {so v w m m' : Int} (hv : v ≤ w) (hm : m ≤ m') : ∀ {B : BT_}, ¬ bet_ so v m B → ¬ bet_ so w m' B
  | none, h => absurd trivial h
  | some q, h => fun u => h (by rcases u with u | u; exact Or.inl (by omega); by_cases c : v = q.1; exact Or.inr ⟨u.1, c, by omega⟩; exact Or.inl (by omega))
theorem gtr_nb0 {ro : Int → Int} {P : List (Int × Int)} {mm D : Int} (hR : 1 ≤ ro 2 ∧ ro 2 ≤ 4) : ∀ (n : Nat) (row tot : Int → Int) (m : Int) (B : BT_), (n : Int) + 1 ≤ ro 1 → (∀ j, 0 ≤ j → j < ro 1 - n → 0 ≤ row j) → ¬ bet_ 0 D m B → (D ≤ 0 ∨ ∃ a c, (0 ≤ a ∧ a < ro 2) ∧ (0 ≤ c ∧ c < ro 2) ∧ D ≤ tot a - tot c + leh_ ro P a c n (row (ro 1 - 1 - n))) → gtr_ ro P 0 mm n row tot m B = B
  | 0, row, tot, m, B, hn, hr, hB, hD => by
    unfold gtr_ gth_ lok_
    refine if_f (bet_mo ?_ (Int.le_refl m) hB)
    show D ≤ spr_ _ 0 _
    unfold spr_
    rcases hD with hD | ⟨a, c, ha, hc, hD⟩
    · have := mxg_ (f := trn_ (ro 2) tot) (ro 2 - 1).toNat 0 (by omega) (by omega); omega
    · have e1 := mxg_ (f := trn_ (ro 2) tot) (ro 2 - 1).toNat a (by omega) (by omega)
      have e2 := mxg_ (f := trn_ (ro 2) tot) (ro 2 - 1).toNat c (by omega) (by omega)
      rw [trn_at ha.1 ha.2] at e1
      rw [trn_at hc.1 hc.2] at e2
      unfold leh_ at hD
      omega
  | n + 1, row, tot, m, B, hn, hr, hB, hD => by
    rw [gtr_s rfl]
    have hr' : ro 1 - 1 - (n : Int) ≠ 0 → 0 ≤ row (ro 1 - 1 - (n : Int) - 1) := fun _ => hr _ (by omega) (by omega)
    refine foldl_id (fun k hk => ?_)
    rw [List.mem_range] at hk
    rw [gse_m hr']
    have mb := mov_b ro (bef_ row (ro 1 - 1 - n)) k
    by_cases c : m + mov_ ro (bef_ row (ro 1 - 1 - n)) k ≤ mm
    · rw [if_t c]
      refine gtr_nb0 hR n _ _ _ B (by omega) (fun j j0 j1 => ?_) (bet_mo (Int.le_refl D) (by omega) hB) ?_
      · unfold ob_
        by_cases e : j = ro 1 - 1 - n
        · rw [if_pos e]; omega
        · rw [if_neg e]; exact hr j j0 (by omega)
      · rcases hD with hD | ⟨a, d, ha, hd, hD⟩
        · exact Or.inl hD
        · refine Or.inr ⟨a, d, ha, hd, ?_⟩
          rw [gto_g hr' (by omega), gto_g hr' (by omega)]
          have e : ob_ row (ro 1 - 1 - n) (k : Int) (ro 1 - 1 - n) = k := if_pos rfl
          have e2 : bef_ row (ro 1 - 1 - n) = row (ro 1 - 1 - ((n + 1 : Nat) : Int)) := by unfold bef_; rw [if_neg (by omega)]; congr 1; omega
          have l := leh_le (ro := ro) (P := P) (a := a) (c := d) (b := row (ro 1 - 1 - ((n + 1 : Nat) : Int))) (k := k) (n := n) (by omega) (by omega)
          rw [e, e2]
          omega
    · rw [if_f c]
theorem gtr_nb2 {ro : Int → Int} {P : List (Int × Int)} {mm D : Int} (hR : 1 ≤ ro 2 ∧ ro 2 ≤ 4) : ∀ (n : Nat) (row tot : Int → Int) (m : Int) (B : BT_), (n : Int) + 1 ≤ ro 1 → (∀ j, 0 ≤ j → j < ro 1 - n → 0 ≤ row j) → ¬ bet_ 2 (-D) m B → (∃ c, (0 ≤ c ∧ c < ro 2) ∧ tot c - leh_ ro P 4 c n (row (ro 1 - 1 - n)) ≤ D) → gtr_ ro P 2 mm n row tot m B = B
  | 0, row, tot, m, B, hn, hr, hB, ⟨c, hc, hD⟩ => by
    unfold gtr_ gth_ lok_
    refine if_f (bet_mo ?_ (Int.le_refl m) hB)
    show -D ≤ -(mn_ _ 0 _)
    have e2 := mxg_ (f := trn_ (ro 2) tot) (ro 2 - 1).toNat c (by omega) (by omega)
    rw [trn_at hc.1 hc.2] at e2
    unfold leh_ at hD
    omega
  | n + 1, row, tot, m, B, hn, hr, hB, ⟨c, hc, hD⟩ => by
    rw [gtr_s rfl]
    have hr' : ro 1 - 1 - (n : Int) ≠ 0 → 0 ≤ row (ro 1 - 1 - (n : Int) - 1) := fun _ => hr _ (by omega) (by omega)
    refine foldl_id (fun k hk => ?_)
    rw [List.mem_range] at hk
    rw [gse_m hr']
    have mb := mov_b ro (bef_ row (ro 1 - 1 - n)) k
    by_cases c2 : m + mov_ ro (bef_ row (ro 1 - 1 - n)) k ≤ mm
    · rw [if_t c2]
      refine gtr_nb2 hR n _ _ _ B (by omega) (fun j j0 j1 => ?_) (bet_mo (Int.le_refl _) (by omega) hB) ⟨c, hc, ?_⟩
      · unfold ob_
        by_cases e : j = ro 1 - 1 - n
        · rw [if_pos e]; omega
        · rw [if_neg e]; exact hr j j0 (by omega)
      · rw [gto_g hr' (by omega)]
        have e : ob_ row (ro 1 - 1 - n) (k : Int) (ro 1 - 1 - n) = k := if_pos rfl
        have e2 : bef_ row (ro 1 - 1 - n) = row (ro 1 - 1 - ((n + 1 : Nat) : Int)) := by unfold bef_; rw [if_neg (by omega)]; congr 1; omega
        have l := leh_le (ro := ro) (P := P) (a := 4) (c := c) (b := row (ro 1 - 1 - ((n + 1 : Nat) : Int))) (k := k) (n := n) (by omega) (by omega)
        have z : gan_ ro P (ro 1 - 1 - n) (row (ro 1 - 1 - ((n + 1 : Nat) : Int))) k 4 = 0 := if_pos rfl
        rw [e, e2]
        omega
    · rw [if_f c2]

