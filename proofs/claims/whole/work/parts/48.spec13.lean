/-! ===== years ===== -/
theorem bx_f : ∀ l < 16, ∀ r < 4, l / 2 ^ r % 2 = 1 → l - (l &&& 2 ^ r) = l - 2 ^ r ∧ 2 ^ r ≤ l := by decide
theorem bx_o (l : Nat) (hl : l < 16) (r : Nat) (hr : r < 4) (q : Nat) (hq : q < 4) (h1 : l / 2 ^ r % 2 = 1) (h2 : (l - 2 ^ r) / 2 ^ q % 2 = 0) : q = r ∨ l / 2 ^ q % 2 = 0 := by
  have k : ∀ l < 16, ∀ r < 4, ∀ q < 4, ((l / 2 ^ r % 2 == 1 && (l - 2 ^ r) / 2 ^ q % 2 == 0) = true) → ((q == r || l / 2 ^ q % 2 == 0) = true) := by decide
  have := k l hl r hr q hq (by simp [h1, h2])
  simpa using this
def bcn_ (l : Nat) : Nat := l % 2 + l / 2 % 2 + l / 4 % 2 + l / 8 % 2
theorem bx_n : ∀ l < 16, ∀ r < 4, l / 2 ^ r % 2 = 1 → bcn_ l = bcn_ (l - 2 ^ r) + 1 := by decide
theorem bx_z : ∀ l < 16, bcn_ l = 0 → l = 0 := by decide
theorem bx_e : ∀ R ≤ 4, ∀ l < 2 ^ R, l ≠ 0 → ∃ r, r < R ∧ l / 2 ^ r % 2 = 1 := by decide
theorem bx_i : ∀ R ≤ 4, bcn_ (2 ^ R - 1) = R ∧ 2 ^ R ≤ 16 ∧ ∀ r < R, (2 ^ R - 1) / 2 ^ r % 2 = 1 := by decide
theorem ib_ {l : Nat} {k : Nat} : ((l : Int) / 2 ^ k % 2 = 1 ↔ l / 2 ^ k % 2 = 1) ∧ ((l : Int) / 2 ^ k % 2 = 0 ↔ l / 2 ^ k % 2 = 0) := by
  have e : (l : Int) / 2 ^ k % 2 = ((l / 2 ^ k % 2 : Nat) : Int) := by rw [pc_]; rfl
  rw [e]; constructor <;> omega
theorem p8_ {s : Int} (h : 0 ≤ s ∧ s < 4) : (1 : Int) ≤ 2 ^ s.toNat ∧ (2 : Int) ^ s.toNat ≤ 8 := by
  have h5 : s = 0 ∨ s = 1 ∨ s = 2 ∨ s = 3 := by omega
  rcases h5 with h5 | h5 | h5 | h5 <;> rw [h5] <;> decide
/-- a bit taken away -/
theorem bclr_ {l r w : Int} (h0 : 0 ≤ l ∧ l ≤ 15) (hr : 0 ≤ r ∧ r < 4) (hb : l / 2 ^ r.toNat % 2 = 1) (hw : w = ((l.toNat - (l.toNat &&& (-1 - (-1 - 2 ^ r.toNat : Int)).toNat) : Nat) : Int)) : w = l - 2 ^ r.toNat ∧ 0 ≤ w ∧ 2 ^ r.toNat ≤ l := by
  obtain ⟨n, rfl⟩ := Int.eq_ofNat_of_zero_le h0.1
  have e1 := bx_f n (by omega) r.toNat (by omega) (ib_.1.mp hb)
  rw [show (-1 - (-1 - 2 ^ r.toNat : Int)) = ((2 ^ r.toNat : Nat) : Int) by rw [pc_]; omega, Int.toNat_natCast, Int.toNat_natCast, e1.1] at hw
  rw [pc_]; omega
theorem das_pos {ro : Int → Int} {left : Int} : ∀ n : Nat, (∀ r, 0 ≤ r → r < (n : Int) → 1 ≤ ro (31 + 4 * r + 1) ∧ ro (31 + 4 * r + 1) ≤ 9) → (∃ r, r < n ∧ left / 2 ^ r % 2 = 1) → 1 ≤ das_ ro left n
  | 0, _, h => by obtain ⟨r, h1, _⟩ := h; omega
  | n + 1, hd, h => by
    have h0 := das_b (left := left) n (fun r r0 r1 => hd r r0 (by omega))
    have h1 := hd n (by omega) (by omega)
    unfold das_
    by_cases c : left / 2 ^ n % 2 = 1
    · rw [if_pos c]; omega
    · rw [if_neg c]
      obtain ⟨r, h2, h3⟩ := h
      have h4 := das_pos (left := left) n (fun r r0 r1 => hd r r0 (by omega)) ⟨r, by rcases Nat.lt_or_ge r n with h5 | h5; exact h5; exact absurd (by rw [← show r = n by omega]; exact h3) c, h3⟩
      omega
theorem tks_f (ro : Int → Int) (r t free : Int) : ∀ n, 0 ≤ tks_ ro r t free n → free / 2 ^ (tks_ ro r t free n).toNat % 2 = 1
  | 0, h => by unfold tks_ at h; omega
  | n + 1, h => by
    unfold tks_ at h ⊢
    by_cases c : ((free / 2 ^ n % 2 = 1 ∧ may_ ro r n) ∧ (tks_ ro r t free n < 0 ∨ ro (11 + 5 * t + (1 + tks_ ro r t free n)) < ro (11 + 5 * t + (1 + (n : Int)))))
    · rw [if_t c]; exact c.1.1
    · rw [if_f c] at h ⊢; exact tks_f ro r t free n h
/-- who comes now -/
def rwh_ (ro : Int → Int) (left g : Int) : Int := cmn_ ro left (ro 2) (ro 2).toNat 0 (gn_ g / 65536 % das_ ro left (ro 2).toNat)
noncomputable def rst_ (ro : Int → Int) (t left free g : Int) : Int := tks_ ro (rwh_ ro left g) t free (ro 0).toNat
/-- RIDERS come to the door on a stretch: what was drawn, who sits where, how many have none -/
noncomputable def rdl_ (ro : Int → Int) (t : Int) : Nat → Int → Int → Int → (Int → Int) → Int → Int × (Int → Int) × Int
  | 0, g, _, _, si, no => (g, si, no)
  | n + 1, g, left, free, si, no => rdl_ ro t n (gn_ g) (left - 2 ^ (rwh_ ro left g).toNat) (if rst_ ro t left free g < 0 then free else free - 2 ^ (rst_ ro t left free g).toNat) (ob_ si (rwh_ ro left g) (rst_ ro t left free g)) (no + if rst_ ro t left free g < 0 then 1 else 0)
theorem rwh_ok {ro : Int → Int} {left g : Int} (hR : 0 ≤ ro 2 ∧ ro 2 ≤ 4) (hd : ∀ r, 0 ≤ r → r < ro 2 → 1 ≤ ro (31 + 4 * r + 1) ∧ ro (31 + 4 * r + 1) ≤ 9) (hl : 0 ≤ left ∧ left < 2 ^ (ro 2).toNat) (h0 : left ≠ 0) : 1 ≤ das_ ro left (ro 2).toNat ∧ (0 ≤ rwh_ ro left g ∧ rwh_ ro left g < ro 2) ∧ left / 2 ^ (rwh_ ro left g).toNat % 2 = 1 := by
  have dp : 1 ≤ das_ ro left (ro 2).toNat := by
    refine das_pos _ (fun r r0 r1 => hd r r0 (by omega)) ?_
    obtain ⟨n, rfl⟩ := Int.eq_ofNat_of_zero_le hl.1
    rw [pc_] at hl
    obtain ⟨r, e1, e2⟩ := bx_e (ro 2).toNat (by omega) n (by omega) (by omega)
    exact ⟨r, e1, ib_.1.mpr e2⟩
  have u4 := Int.emod_nonneg (gn_ g / 65536) (show das_ ro left (ro 2).toNat ≠ 0 by omega)
  have u5 := Int.emod_lt_of_pos (gn_ g / 65536) (show 0 < das_ ro left (ro 2).toNat by omega)
  have := cmn_ok (ro := ro) (left := left) (R := ro 2) (ro 2).toNat 0 (gn_ g / 65536 % das_ ro left (ro 2).toNat) (by omega) (by omega) hR.1 u4 (by show _ < _ - 0; omega)
  exact ⟨dp, ⟨this.1, this.2.1⟩, this.2.2⟩
theorem rdl_b {ro : Int → Int} {t : Int} : ∀ (n : Nat) (g left free : Int) (si : Int → Int) (no : Int), (0 ≤ g ∧ g < 2147483648) → (0 ≤ (rdl_ ro t n g left free si no).1 ∧ (rdl_ ro t n g left free si no).1 < 2147483648) ∧ no ≤ (rdl_ ro t n g left free si no).2.2 ∧ (rdl_ ro t n g left free si no).2.2 ≤ no + n
  | 0, g, left, free, si, no, hg => ⟨hg, Int.le_refl _, by show no ≤ no + (0 : Nat); omega⟩
  | n + 1, g, left, free, si, no, hg => by
    unfold rdl_
    have e := rdl_b (ro := ro) (t := t) n (gn_ g) (left - 2 ^ (rwh_ ro left g).toNat) (if rst_ ro t left free g < 0 then free else free - 2 ^ (rst_ ro t left free g).toNat) (ob_ si (rwh_ ro left g) (rst_ ro t left free g)) (no + if rst_ ro t left free g < 0 then 1 else 0) (gn_b g)
    refine ⟨e.1, ?_, ?_⟩
    · have e1 := e.2.1; revert e1; split <;> intro e1 <;> omega
    · have e1 := e.2.2; revert e1; split <;> intro e1 <;> omega
abbrev YT_ : Type := Int × Int × (Int → Int)
noncomputable def rdx_ (ro : Int → Int) (t : Int) (g no : Int) : Int × (Int → Int) × Int := rdl_ ro t (ro 2).toNat g (2 ^ (ro 2).toNat - 1) (2 ^ (ro 0).toNat - 1) (fun _ => -1) no
/-- a stretch ridden -/
noncomputable def rid_ (ro : Int → Int) (P : List (Int × Int)) (t : Int) (s : YT_) : YT_ := ((rdx_ ro t s.1 s.2.1).1, (rdx_ ro t s.1 s.2.1).2.2, fun r => s.2.2 r + if (rdx_ ro t s.1 s.2.1).2.1 r < 0 then 0 else wsi_ ro P (rdx_ ro t s.1 s.2.1).2.1 r t)
noncomputable def yt_ (ro : Int → Int) (P : List (Int × Int)) : Nat → YT_ → YT_
  | 0, s => s
  | t + 1, s => rid_ ro P t (yt_ ro P t s)
noncomputable def yk_ (ro : Int → Int) (P : List (Int × Int)) : Nat → YT_ → YT_
  | 0, s => s
  | k + 1, s => yt_ ro P (ro 1).toNat (yk_ ro P k s)
theorem yt_s {ro : Int → Int} {P : List (Int × Int)} {t : Int} {s : YT_} (h : 0 ≤ t) : yt_ ro P (t + 1).toNat s = rid_ ro P t (yt_ ro P t.toNat s) := by rw [tn_s h]; show rid_ ro P (t.toNat : Int) _ = _; rw [tn_c h]
theorem yk_s {ro : Int → Int} {P : List (Int × Int)} {k : Int} {s : YT_} (h : 0 ≤ k) : yk_ ro P (k + 1).toNat s = yt_ ro P (ro 1).toNat (yk_ ro P k.toNat s) := by rw [tn_s h]; rfl
noncomputable def yrs_ (ro : Int → Int) (P : List (Int × Int)) (sd jn w : Int) : Int := if_ ((0 ≤ sd ∧ sd ≤ 9999) ∧ (1 ≤ jn ∧ jn ≤ 60) ∧ (0 ≤ w ∧ w ≤ 1) ∧ ro 2 ≠ 0) (if w = 0 then spr_ (yk_ ro P jn.toNat (sd, 0, pas_ ro)).2.2 0 (ro 2) else (yk_ ro P jn.toNat (sd, 0, pas_ ro)).2.1) (-1)
theorem spr_cg {f g : Int → Int} {R : Int} (hR : 1 ≤ R) (h : ∀ r, 0 ≤ r → r < R → f r = g r) : spr_ f 0 R = spr_ g 0 R := by
  unfold spr_
  rw [mn_cg (g := g) (j := 0) (R - 1).toNat (fun r r0 r1 => by rw [Int.zero_add]; exact h r r0 (by omega)), mx_cg (g := g) (j := 0) (R - 1).toNat (fun r r0 r1 => by rw [Int.zero_add]; exact h r r0 (by omega))]
theorem spr_bb {f : Int → Int} {R B : Int} (hR : 1 ≤ R) (h : ∀ r, 0 ≤ r → r < R → 0 ≤ f r ∧ f r ≤ B) : -(2 * B) ≤ spr_ f 0 R ∧ spr_ f 0 R ≤ 2 * B := by
  have m1 := mn_b (f := f) (i := 0) (B := B) (R - 1).toNat (fun q q0 q1 => by rw [Int.zero_add]; have := h q q0 (by omega); omega)
  have m2 := mx_b (f := f) (i := 0) (B := B) (R - 1).toNat (fun q q0 q1 => by rw [Int.zero_add]; have := h q q0 (by omega); omega)
  unfold spr_; omega
