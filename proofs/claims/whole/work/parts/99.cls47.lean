/-! ===== the class's tape ===== -/
def CTP_ (tp : Int → Int) (n : Int) (h : PH_) : Prop := h 1 2 = n ∧ (0 ≤ n ∧ n ≤ 1000) ∧ ∀ k, 0 ≤ k → k < n → h 2 k = tp k ∧ (0 ≤ tp k ∧ tp k < 128)
def ckd_ (s : Int) : Int := if s = 1 then 2 else if s = 2 then 3 else if s = 3 then 4 else if s = 4 then 1 else 0
/-- the token t stands next -/
def TKC_ (t : TK_) (h : PH_) : Prop := h 1 3 = ckd_ t.1 ∧ h 1 4 = t.2.1 ∧ (t.1 = 1 → h 1 6 = enc_ 27 t.2.2.2) ∧ (t.1 = 2 ∨ t.1 = 3 → h 1 6 = t.2.2.1)
def CTK_ (tp : Int → Int) (n : Int) (h : PH_) (a : Nat) : Prop := CTP_ tp n h ∧ TKC_ (tk_ tp n a) h ∧ h 1 1 = tkp_ tp n (a + 1)
theorem tk_e {tp : Int → Int} {n p : Int} {a : Nat} (hp : tpl_ tp n (tkp_ tp n a) = p) : tk_ tp n a = tok1_ tp n p ∧ tkp_ tp n (a + 1) = ten_ tp n p := by
  refine ⟨by unfold tk_; rw [hp], ?_⟩
  show ten_ tp n (tpl_ tp n (tkp_ tp n a)) = _
  rw [hp]
theorem ctk_E {tp : Int → Int} {n p : Int} {h : PH_} {a : Nat} (H : CTP_ tp n h) (hp : tpl_ tp n (tkp_ tp n a) = p) (c : n ≤ p) (e1 : h 1 1 = p) (e3 : h 1 3 = 0) (e4 : h 1 4 = p) : CTK_ tp n h a := by
  obtain ⟨t, tn⟩ := tk_e hp
  have s : tso_ tp n p = 0 := if_t c
  have te : ten_ tp n p = p := if_t c
  refine ⟨H, ⟨?_, ?_, ?_, ?_⟩, by rw [tn, te]; exact e1⟩
  · rw [t, e3]; show _ = ckd_ (tso_ tp n p); rw [s]; rfl
  · rw [t]; exact e4
  · rw [t]; intro u; exact absurd (s.symm.trans u) (by decide)
  · rw [t]; intro u; rcases u with u | u <;> exact absurd (s.symm.trans u) (by decide)
theorem ctk_L {tp : Int → Int} {n p k : Int} {h : PH_} {a : Nat} (H : CTP_ tp n h) (hp : tpl_ tp n (tkp_ tp n a) = p) (c : p < n) (hl : let_ (tp p)) (hk : rnx_ let_ tp n p = k) (e1 : h 1 1 = k) (e3 : k - p ≤ 8 ∧ h 1 3 = 2 ∨ ¬ k - p ≤ 8 ∧ h 1 3 = 1) (e4 : h 1 4 = p) (e6 : k - p ≤ 8 → h 1 6 = enc_ 27 (wls_ tp (k - p).toNat p)) : CTK_ tp n h a := by
  obtain ⟨t, tn⟩ := tk_e hp
  have te : ten_ tp n p = k := by unfold ten_; rw [if_f (by omega), if_t hl, hk]
  have s : tso_ tp n p = if k - p ≤ 8 then 1 else 4 := by unfold tso_; rw [if_f (by omega), if_t hl, te]
  refine ⟨H, ⟨?_, ?_, ?_, ?_⟩, by rw [tn, te]; exact e1⟩
  · rw [t]; show _ = ckd_ (tso_ tp n p); rw [s]
    rcases e3 with e3 | e3
    · rw [if_pos e3.1, e3.2]; rfl
    · rw [if_neg e3.1, e3.2]; rfl
  · rw [t]; exact e4
  · rw [t]; intro u
    have u : tso_ tp n p = 1 := u
    have c8 : k - p ≤ 8 := by
      rcases Classical.em (k - p ≤ 8) with c | c
      · exact c
      · rw [s, if_neg c] at u; exact absurd u (by decide)
    show h 1 6 = enc_ 27 (wls_ tp (ten_ tp n p - p).toNat p)
    rw [te]; exact e6 c8
  · rw [t]; intro u
    have u : tso_ tp n p = 2 ∨ tso_ tp n p = 3 := u
    exfalso
    rw [s] at u
    split at u <;> omega
theorem ctk_D {tp : Int → Int} {n p k : Int} {h : PH_} {a : Nat} (H : CTP_ tp n h) (hp : tpl_ tp n (tkp_ tp n a) = p) (c : p < n) (hl : ¬ let_ (tp p)) (hd : dig_ (tp p)) (hk : rnx_ dig_ tp n p = k) (e1 : h 1 1 = k) (e3 : k - p ≤ 4 ∧ h 1 3 = 3 ∨ ¬ k - p ≤ 4 ∧ h 1 3 = 1) (e4 : h 1 4 = p) (e6 : k - p ≤ 4 → h 1 6 = nus_ tp (k - p).toNat p 0) : CTK_ tp n h a := by
  obtain ⟨t, tn⟩ := tk_e hp
  have te : ten_ tp n p = k := by unfold ten_; rw [if_f (by omega), if_f hl, if_t hd, hk]
  have s : tso_ tp n p = if k - p ≤ 4 then 2 else 4 := by unfold tso_; rw [if_f (by omega), if_f hl, if_t hd, te]
  refine ⟨H, ⟨?_, ?_, ?_, ?_⟩, by rw [tn, te]; exact e1⟩
  · rw [t]; show _ = ckd_ (tso_ tp n p); rw [s]
    rcases e3 with e3 | e3
    · rw [if_pos e3.1, e3.2]; rfl
    · rw [if_neg e3.1, e3.2]; rfl
  · rw [t]; exact e4
  · rw [t]; intro u
    have u : tso_ tp n p = 1 := u
    exfalso
    rw [s] at u
    split at u <;> omega
  · rw [t]; intro u
    have u : tso_ tp n p = 2 ∨ tso_ tp n p = 3 := u
    have c4 : k - p ≤ 4 := by
      rcases Classical.em (k - p ≤ 4) with c | c
      · exact c
      · rw [s, if_neg c] at u; omega
    show h 1 6 = if_ (dig_ (tp p)) (nus_ tp (ten_ tp n p - p).toNat p 0) (tp p)
    rw [if_t hd, te]; exact e6 c4
theorem ctk_S {tp : Int → Int} {n p : Int} {h : PH_} {a : Nat} (H : CTP_ tp n h) (hp : tpl_ tp n (tkp_ tp n a) = p) (c : p < n) (hl : ¬ let_ (tp p)) (hd : ¬ dig_ (tp p)) (e1 : h 1 1 = p + 1) (e3 : sof_ (tp p) ∧ h 1 3 = 4 ∨ ¬ sof_ (tp p) ∧ h 1 3 = 1) (e4 : h 1 4 = p) (e6 : h 1 6 = tp p) : CTK_ tp n h a := by
  obtain ⟨t, tn⟩ := tk_e hp
  have te : ten_ tp n p = p + 1 := by unfold ten_; rw [if_f (by omega), if_f hl, if_f hd]
  have s : tso_ tp n p = if_ (sof_ (tp p)) 3 4 := by unfold tso_; rw [if_f (by omega), if_f hl, if_f hd]
  refine ⟨H, ⟨?_, ?_, ?_, ?_⟩, by rw [tn, te]; exact e1⟩
  · rw [t]; show _ = ckd_ (tso_ tp n p); rw [s]
    rcases e3 with e3 | e3
    · rw [if_t e3.1, e3.2]; rfl
    · rw [if_f e3.1, e3.2]; rfl
  · rw [t]; exact e4
  · rw [t]; intro u
    have u : tso_ tp n p = 1 := u
    exfalso
    rw [s] at u
    rcases e3 with e3 | e3
    · rw [if_t e3.1] at u; omega
    · rw [if_f e3.1] at u; omega
  · rw [t]; intro _
    show h 1 6 = if_ (dig_ (tp p)) _ (tp p)
    rw [if_f hd]; exact e6
theorem enL_ {tp : Int → Int} {k q : Int} (hq : k ≤ q) (h8 : q + 1 - k ≤ 8) (hl : ∀ x, k ≤ x → x < q + 1 → let_ (tp x)) : wl_ (enc_ 27 (wls_ tp (q - k).toNat k) * 27 + (tp q - 97 + 1)) = enc_ 27 (wls_ tp (q + 1 - k).toNat k) := by
  have w := wls_ok (tp := tp) (q - k).toNat k (fun x x0 x1 => hl x x0 (by omega))
  have b := enc_b (B := 27) (by decide) _ w.1
  rw [w.2] at b
  have p7 : (27 : Int) ^ (q - k).toNat ≤ 27 ^ 7 := by exact_mod_cast Nat.pow_le_pow_right (n := 27) (by decide) (show (q - k).toNat ≤ 7 by omega)
  have e7 : (27 : Int) ^ 7 = 10460353203 := by decide
  have l := hl q hq (by omega)
  unfold let_ at l
  rw [wl_id ⟨by omega, by omega⟩, show (q + 1 - k).toNat = (q - k).toNat + 1 by omega, wls_s, enc_s, show k + ((q - k).toNat : Int) = q by omega]
  omega
theorem nuD_ {tp : Int → Int} {k : Int} : ∀ f : Nat, f ≤ 4 → (∀ x, k ≤ x → x < k + f → dig_ (tp x)) → 0 ≤ nus_ tp f k 0 ∧ nus_ tp f k 0 < 10 ^ f
  | 0, _, _ => by unfold nus_; omega
  | f + 1, hf, hd => by
    have i := nuD_ (tp := tp) (k := k) f (by omega) (fun x x0 x1 => hd x x0 (by omega))
    have l := hd (k + f) (by omega) (by omega)
    unfold dig_ at l
    rw [nus_s, Int.pow_succ]
    omega
theorem enD_ {tp : Int → Int} {k q : Int} (hq : k ≤ q) (h8 : q + 1 - k ≤ 4) (hl : ∀ x, k ≤ x → x < q + 1 → dig_ (tp x)) : wl_ (nus_ tp (q - k).toNat k 0 * 10 + (tp q - 48)) = nus_ tp (q + 1 - k).toNat k 0 := by
  have b := nuD_ (tp := tp) (k := k) (q - k).toNat (by omega) (fun x x0 x1 => hl x x0 (by omega))
  have p7 : (10 : Int) ^ (q - k).toNat ≤ 10 ^ 3 := by exact_mod_cast Nat.pow_le_pow_right (n := 10) (by decide) (show (q - k).toNat ≤ 3 by omega)
  have e7 : (10 : Int) ^ 3 = 1000 := by decide
  have l := hl q hq (by omega)
  unfold dig_ at l
  rw [wl_id ⟨by omega, by omega⟩, show (q + 1 - k).toNat = (q - k).toNat + 1 by omega, nus_s, show k + ((q - k).toNat : Int) = q by omega]
  omega
theorem six_i {j : Nat} {c : Int} : ∀ (f : Nat) (k : Int), 0 ≤ k → (0 ≤ six_ j c f k ↔ ∃ x, k ≤ x ∧ x < k + f ∧ sch_ j x = c)
  | 0, k, hk => ⟨fun u => absurd u (by show ¬ (0 : Int) ≤ -1; decide), fun ⟨x, h0, h1, _⟩ => by omega⟩
  | f + 1, k, hk => by
    unfold six_
    by_cases e : sch_ j k = c
    · rw [if_t e]; exact ⟨fun _ => ⟨k, by omega, by omega, e⟩, fun _ => hk⟩
    · rw [if_f e, six_i f (k + 1) (by omega)]
      constructor
      · rintro ⟨x, h0, h1, h2⟩; exact ⟨x, by omega, by omega, h2⟩
      · rintro ⟨x, h0, h1, h2⟩
        by_cases c2 : x = k
        · exact absurd (c2 ▸ h2) e
        · exact ⟨x, by omega, by omega, h2⟩
theorem six_s {c : Int} : 0 ≤ six_ 1 c (snl_ 1) 0 ↔ sof_ c := by
  have e8 : snl_ 1 = 8 := by decide +kernel
  have k0 : sch_ 1 0 = 40 ∧ sch_ 1 1 = 41 ∧ sch_ 1 2 = 60 ∧ sch_ 1 3 = 61 ∧ sch_ 1 4 = 43 ∧ sch_ 1 5 = 45 ∧ sch_ 1 6 = 42 ∧ sch_ 1 7 = 59 := by decide +kernel
  rw [six_i _ 0 (by decide), e8]
  unfold sof_
  constructor
  · rintro ⟨x, h0, h1, rfl⟩
    have : x = 0 ∨ x = 1 ∨ x = 2 ∨ x = 3 ∨ x = 4 ∨ x = 5 ∨ x = 6 ∨ x = 7 := by omega
    rcases this with rfl | rfl | rfl | rfl | rfl | rfl | rfl | rfl <;> omega
  · intro u
    rcases u with u | u | u | u | u | u | u | u
    · exact ⟨0, by decide, by decide, by omega⟩
    · exact ⟨1, by decide, by decide, by omega⟩
    · exact ⟨7, by decide, by decide, by omega⟩
    · exact ⟨3, by decide, by decide, by omega⟩
    · exact ⟨2, by decide, by decide, by omega⟩
    · exact ⟨4, by decide, by decide, by omega⟩
    · exact ⟨5, by decide, by decide, by omega⟩
    · exact ⟨6, by decide, by decide, by omega⟩
/-! words of a list -/
def wsc_ (j : Nat) (v : Int) : Nat → Int → Int → Int → Int
  | 0, _, _, _ => -1
  | f + 1, i, ix, w => if sch_ j i = 32 then (if w = v then ix else wsc_ j v f (i + 1) (ix + 1) 0) else wsc_ j v f (i + 1) ix (w * 27 + (sch_ j i - 97 + 1))
def wck_ (j : Nat) : Nat → Int → Int → Bool
  | 0, _, _ => true
  | f + 1, i, w => if sch_ j i = 32 then wck_ j f (i + 1) 0 else (decide (0 ≤ w * 27 + (sch_ j i - 97 + 1)) && decide (w * 27 + (sch_ j i - 97 + 1) < 35184372088832) && wck_ j f (i + 1) (w * 27 + (sch_ j i - 97 + 1)))
def wsp_ (j : Nat) : Nat → Int → Int → List Int
  | 0, _, _ => []
  | f + 1, i, w => if sch_ j i = 32 then w :: wsp_ j f (i + 1) 0 else wsp_ j f (i + 1) (w * 27 + (sch_ j i - 97 + 1))
def ixl_ (v : Int) : List Int → Int → Int
  | [], _ => -1
  | e :: r, i => if e = v then i else ixl_ v r (i + 1)
noncomputable def ixn_ (t : TK_) : List Nat → Int → Int
  | [], _ => -1
  | w :: r, i => if_ (isW_ t w) i (ixn_ t r (i + 1))
def wix_ (j : Nat) : List Nat := [[], [], [0], [1, 3, 6, 7, 8, 9, 10, 11], [2], [0, 1, 2, 3, 4, 5, 6, 7, 8, 9, 10, 11, 12, 13, 14, 15, 16, 17, 18, 19, 20, 21], [15, 16, 17, 18], [4], [5], [22, 23, 24, 25, 26], [19], [20, 21], [27, 28, 29], [12, 13], [14]].getD j []
theorem wck_k : ∀ j < 15, 2 ≤ j → wck_ j (snl_ j) 0 0 = true := by decide +kernel
theorem wsp_k : ∀ j < 15, 2 ≤ j → wsp_ j (snl_ j) 0 0 = (wix_ j).map (fun w => enc_ 27 (wdl_ w)) ∧ ∀ w ∈ wix_ j, w < 30 := by decide +kernel
theorem wsc_p {j : Nat} {v : Int} : ∀ (f : Nat) (i ix w : Int), wsc_ j v f i ix w = ixl_ v (wsp_ j f i w) ix
  | 0, i, ix, w => rfl
  | f + 1, i, ix, w => by
    unfold wsc_ wsp_
    by_cases c : sch_ j i = 32
    · rw [if_pos c, if_pos c]
      show _ = if w = v then ix else ixl_ v (wsp_ j f (i + 1) 0) (ix + 1)
      rw [wsc_p f]
    · rw [if_neg c, if_neg c, wsc_p f]
theorem ixl_n {t : TK_} (h1 : t.1 = 1) (hl : lok2_ t.2.2.2) : ∀ (L : List Nat) (i : Int), (∀ w ∈ L, w < 30) → ixl_ (enc_ 27 t.2.2.2) (L.map (fun w => enc_ 27 (wdl_ w))) i = ixn_ t L i
  | [], i, _ => rfl
  | w :: L, i, h => by
    show (if enc_ 27 (wdl_ w) = enc_ 27 t.2.2.2 then i else _) = if_ (isW_ t w) i _
    have e := enc_eq (B := 27) (by decide) (wdT_ok w (h w List.mem_cons_self)) hl
    by_cases c : wdl_ w = t.2.2.2
    · rw [if_pos (e.mpr c), if_t ⟨h1, c.symm⟩]
    · rw [if_neg (fun u => c (e.mp u)), if_f (fun u => c u.2.symm), ixl_n h1 hl L (i + 1) (fun w hw => h w (List.mem_cons_of_mem _ hw))]
theorem ixn_0 {t : TK_} (h1 : t.1 ≠ 1) : ∀ (L : List Nat) (i : Int), ixn_ t L i = -1
  | [], i => rfl
  | w :: L, i => by show if_ _ _ _ = _; rw [if_f (fun u => h1 u.1), ixn_0 h1 L]
theorem ixn_b {t : TK_} : ∀ (L : List Nat) (i : Int), 0 ≤ i → ixn_ t L i = -1 ∨ i ≤ ixn_ t L i ∧ ixn_ t L i < i + L.length
  | [], i, _ => Or.inl rfl
  | w :: L, i, hi => by
    show if_ _ _ _ = -1 ∨ i ≤ if_ _ _ _ ∧ if_ _ _ _ < _
    rw [List.length_cons]
    by_cases c : isW_ t w
    · rw [if_t c]; omega
    · rw [if_f c]; have := ixn_b (t := t) L (i + 1) (by omega); omega
/-- in a row, as the document has them -/
theorem fcw_a {t : TK_} {f k : Nat} (hk : isW_ t (f + k)) : ∀ m : Nat, k < m → f + m ≤ 30 → fcw_ t f m = (k : Int)
  | 0, h, _ => by omega
  | m + 1, h, h30 => by
    unfold fcw_
    by_cases c : k = m
    · rw [if_t (c ▸ hk), c]
    · rw [if_f (fun u => c (by have := isW_ne hk u (by omega) (by omega); omega))]
      exact fcw_a hk m (by omega) (by omega)
theorem fcw_x {t : TK_} {f : Nat} : ∀ m : Nat, (∀ k, k < m → ¬ isW_ t (f + k)) → fcw_ t f m = -1
  | 0, _ => rfl
  | m + 1, h => by unfold fcw_; rw [if_f (h m (by omega))]; exact fcw_x m (fun k hk => h k (by omega))
theorem ixn_r {t : TK_} {f : Nat} : ∀ (m s : Nat), f + s + m ≤ 30 → (∀ k, k < s → ¬ isW_ t (f + k)) → ixn_ t (List.range' (f + s) m) (s : Int) = fcw_ t f (s + m)
  | 0, s, h30, hn => by rw [fcw_x (s + 0) (fun k hk => hn k (by omega))]; rfl
  | m + 1, s, h30, hn => by
    rw [List.range'_succ]
    show if_ _ _ _ = _
    by_cases c : isW_ t (f + s)
    · rw [if_t c, fcw_a c _ (by omega) (by omega)]
    · rw [if_f c]
      have := ixn_r (t := t) (f := f) m (s + 1) (by omega) (fun k hk => by
        by_cases e : k = s
        · rw [e]; exact c
        · exact hn k (by omega))
      rw [show f + s + 1 = f + (s + 1) by omega, show s + (m + 1) = s + 1 + m by omega]
      exact this
theorem ixn_f {t : TK_} {f m : Nat} (h : f + m ≤ 30) : ixn_ t (List.range' f m) 0 = fcw_ t f m := by
  have := ixn_r (t := t) (f := f) m 0 (by omega) (fun k hk => by omega)
  rw [Nat.zero_add] at this
  exact this
theorem wck_s {j f : Nat} {i w : Int} (h : wck_ j (f + 1) i w = true) : (sch_ j i = 32 → wck_ j f (i + 1) 0 = true) ∧ (¬ sch_ j i = 32 → (0 ≤ w * 27 + (sch_ j i - 97 + 1) ∧ w * 27 + (sch_ j i - 97 + 1) < 35184372088832) ∧ wck_ j f (i + 1) (w * 27 + (sch_ j i - 97 + 1)) = true) := by
  unfold wck_ at h
  constructor
  · intro c; rw [if_pos c] at h; exact h
  · intro c; rw [if_neg c] at h
    simp only [Bool.and_eq_true, decide_eq_true_eq] at h
    exact ⟨h.1, h.2⟩
theorem wsc_b {j f : Nat} {v i ix w : Int} (c : sch_ j i = 32) (e : w = v) : wsc_ j v (f + 1) i ix w = ix := by unfold wsc_; rw [if_pos c, if_pos e]
theorem wsc_d {j f : Nat} {v i ix w : Int} (c : sch_ j i = 32) (e : ¬ w = v) : wsc_ j v (f + 1) i ix w = wsc_ j v f (i + 1) (ix + 1) 0 := by rw [wsc_, if_pos c, if_neg e]
theorem wsc_c {j f : Nat} {v i ix w : Int} (c : ¬ sch_ j i = 32) : wsc_ j v (f + 1) i ix w = wsc_ j v f (i + 1) ix (w * 27 + (sch_ j i - 97 + 1)) := by rw [wsc_, if_neg c]
theorem wsc_f {j : Nat} {t : TK_} {h : PH_} (hj : j < 15) (hj2 : 2 ≤ j) (ht : TKC_ t h) (hl : t.1 = 1 → lok2_ t.2.2.2) (h1 : t.1 = 1) : wsc_ j (h 1 6) (snl_ j) 0 0 0 = ixn_ t (wix_ j) 0 := by
  have k := wsp_k j hj hj2
  rw [wsc_p, k.1, ht.2.2.1 h1]
  exact ixl_n h1 (hl h1) _ _ k.2
theorem ckd_k (s : Int) : (ckd_ s = 2 ↔ s = 1) ∧ (ckd_ s = 3 ↔ s = 2) ∧ (ckd_ s = 4 ↔ s = 3) := by
  unfold ckd_
  split
  · omega
  · split
    · omega
    · split
      · omega
      · split <;> omega
theorem CTP_mv {tp : Int → Int} {n : Int} {h h' : PH_} (H : CTP_ tp n h) (e1 : h' 1 2 = h 1 2) (e2 : h' 2 = h 2) : CTP_ tp n h' := by unfold CTP_ at *; rw [e1, e2]; exact H
theorem CTK_mv {tp : Int → Int} {n : Int} {h h' : PH_} {a : Nat} (H : CTK_ tp n h a) (e1 : h' 1 = h 1) (e2 : h' 2 = h 2) : CTK_ tp n h' a := by unfold CTK_ CTP_ TKC_ at *; rw [e1, e2]; exact H
theorem lc_i {a b : Int} : (if b < a then 1 else if a = b then 0 else -1 : Int) = 0 ↔ a = b := ⟨lc_z, fun h => by rw [if_neg (by omega), if_pos h]⟩

