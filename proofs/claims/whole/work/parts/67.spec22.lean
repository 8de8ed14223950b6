/-! ===== lines: what is read, token by token ===== -/
def bd_ {α β : Type} (x : RE_ α) (f : α → RE_ β) : RE_ β := match x with
  | .error e => .error e
  | .ok a => f a
theorem bd_e {α β : Type} {x : RE_ α} {f : α → RE_ β} {e : Int} (h : x = .error e) : bd_ x f = .error e := by rw [h]; rfl
theorem bd_o {α β : Type} {x : RE_ α} {f : α → RE_ β} {a : α} (h : x = .ok a) : bd_ x f = f a := by rw [h]; rfl
theorem bd_bd {α β γ : Type} {x : RE_ α} {f : α → RE_ β} {g : β → RE_ γ} : bd_ (bd_ x f) g = bd_ x (fun a => bd_ (f a) g) := by cases x <;> rfl
noncomputable def tks2_ (tk : Nat → TK_) (c : Int) (a : Nat) : RE_ Nat := if_ (isS_ (tk a) c) (.ok (a + 1)) (.error (flt_ tk 1 a))
noncomputable def tkw_ (tk : Nat → TK_) (w : Nat) (a : Nat) : RE_ Nat := if_ (isW_ (tk a) w) (.ok (a + 1)) (.error (flt_ tk 1 a))
noncomputable def tkn_ (tk : Nat → TK_) (lo hi : Int) (a : Nat) : RE_ (Int × Nat) := if_ ((tk a).1 = 2) (if_ (lo ≤ (tk a).2.2.1 ∧ (tk a).2.2.1 ≤ hi) (.ok ((tk a).2.2.1, a + 1)) (.error (flt_ tk 4 a))) (.error (flt_ tk 1 a))
def nam_ (t : TK_) : Prop := t.1 = 1 ∧ fcw_ t 0 22 < 0
abbrev NM_ : Type := List (List Int × Int)
noncomputable def fnd_ : NM_ → List Int → Int
  | [], _ => -1
  | q :: l, w => if_ (q.1 = w) q.2 (fnd_ l w)
noncomputable def rdh_ (tk : Nat → TK_) (nm : NM_) (a : Nat) : RE_ Int := if_ (nam_ (tk a)) (if_ (0 ≤ fnd_ nm (tk a).2.2.2 ∧ fnd_ nm (tk a).2.2.2 ≤ 3) (.ok (fnd_ nm (tk a).2.2.2)) (.error (flt_ tk 2 a))) (.error (flt_ tk 1 a))
/-! how far the reference has read -/
def RB_ (tk : Nat → TK_) (N : Nat) (h : PH_) : Prop := RT_ tk N h ∧ wds_ h ∧ wfk_ tk
def RPO_ (tk : Nat → TK_) (N : Nat) (h : PH_) (a : Nat) : Prop := RB_ tk N h ∧ h mo_ 7 = (a : Int) ∧ a ≤ N ∧ h mo_ 8 = 0
def RPE_ (tk : Nat → TK_) (N : Nat) (h : PH_) (e : Int) : Prop := RB_ tk N h ∧ (0 ≤ h mo_ 7 ∧ h mo_ 7 ≤ N) ∧ h mo_ 8 = e ∧ (0 < e ∧ e < 2147483648)
def RP_ (tk : Nat → TK_) (N : Nat) (h : PH_) : RE_ Nat → Prop
  | .ok a => RPO_ tk N h a
  | .error e => RPE_ tk N h e
theorem RPO_RS {tk : Nat → TK_} {N : Nat} {h : PH_} {a : Nat} (H : RPO_ tk N h a) : RS_ tk N h a := ⟨H.1.1, H.2.1, H.2.2.1, H.1.2.1, H.1.2.2⟩
theorem RB_mv {tk : Nat → TK_} {N : Nat} {h h' : PH_} (H : RB_ tk N h) (e1 : h' mSort = h mSort) (e2 : h' mPlace = h mPlace) (e3 : h' mValue = h mValue) (e4 : h' mWords = h mWords) : RB_ tk N h' := by
  refine ⟨⟨fun i hi => ?_, H.1.2⟩, fun w hw => by rw [e4]; exact H.2.1 w hw, H.2.2⟩
  unfold tr_
  rw [e1, e2, e3]; exact H.1.1 i hi
theorem RP_7 {tk : Nat → TK_} {N : Nat} {h : PH_} : ∀ {X : RE_ Nat}, RP_ tk N h X → (0 ≤ h mo_ 7 ∧ h mo_ 7 ≤ N) ∧ N ≤ 1000 ∧ (0 ≤ h mPlace (h mo_ 7) ∧ h mPlace (h mo_ 7) ≤ 1000) ∧ RB_ tk N h ∧ (0 ≤ h mo_ 8 ∧ h mo_ 8 < 2147483648)
  | .ok a, H => by
    have e := RS_pl (RPO_RS H)
    have := H.2.1; have := H.2.2.1; have := H.2.2.2
    exact ⟨by omega, H.1.1.2.2.2.1, by omega, H.1, by omega⟩
  | .error e, H => by
    obtain ⟨H1, H2, H3, H4⟩ := H
    have t := H1.1.1 (h mo_ 7).toNat (by omega)
    have b := H1.1.2.2.2.2 (h mo_ 7).toNat (by omega)
    rw [show (((h mo_ 7).toNat : Nat) : Int) = h mo_ 7 by omega] at t
    exact ⟨H2, H1.1.2.2.2.1, by rw [t.2.1]; exact b, H1, by omega⟩
def fr7_ (h h' : PH_) : Prop := off_ [mo_] h h' ∧ ∀ k, k ≠ 7 → k ≠ 8 → h' mo_ k = h mo_ k
theorem fr7_rf {h : PH_} : fr7_ h h := ⟨off_rf, fun _ _ _ => rfl⟩
theorem fr7_tr {a b c : PH_} (h1 : fr7_ a b) (h2 : fr7_ b c) : fr7_ a c := ⟨off_tr h1.1 h2.1, fun k k1 k2 => (h2.2 k k1 k2).trans (h1.2 k k1 k2)⟩
theorem fr7_7 {h : PH_} {z : Int} : fr7_ h (up_ h mo_ 7 z) := ⟨off_up off_rf (by decide), fun k k1 _ => by rw [up_at, if_neg k1]⟩
theorem fr7_8 {h : PH_} {z : Int} : fr7_ h (up_ h mo_ 8 z) := ⟨off_up off_rf (by decide), fun k _ k2 => by rw [up_at, if_neg k2]⟩
theorem RB_7 {tk : Nat → TK_} {N : Nat} {h h' : PH_} (H : RB_ tk N h) (f : fr7_ h h') : RB_ tk N h' := RB_mv H (f.1 mSort (by decide)) (f.1 mPlace (by decide)) (f.1 mValue (by decide)) (f.1 mWords (by decide))
/-- wrong, where nothing was -/
theorem RP_w {tk : Nat → TK_} {N : Nat} {h : PH_} {a : Nat} {w : Int} (H : RPO_ tk N h a) (hw : 1 ≤ w ∧ w ≤ 5) : wro_ h w = up_ h mo_ 8 (flt_ tk w a) ∧ RPE_ tk N (wro_ h w) (flt_ tk w a) := by
  have e := RS_pl (RPO_RS H)
  have e1 : wro_ h w = up_ h mo_ 8 (flt_ tk w a) := by rw [wro_0 H.2.2.2, e.1]; rfl
  refine ⟨e1, ?_⟩
  rw [e1]
  exact ⟨RB_7 H.1 fr7_8, by rw [up_at, if_neg (by decide)]; have := H.2.1; have := H.2.2.1; omega, up_same _ _ _ _, by unfold flt_; omega⟩
theorem RP_n {tk : Nat → TK_} {N : Nat} {h : PH_} {a : Nat} (H : RPO_ tk N h a) (hn : (tk a).1 ≠ 0) : a + 1 ≤ N ∧ RPO_ tk N (up_ h mo_ 7 (h mo_ 7 + 1)) (a + 1) := by
  have bn : a ≠ N := fun e => hn (by rw [e]; exact H.1.1.2.2.1)
  have an := H.2.2.1
  refine ⟨by omega, RB_7 H.1 fr7_7, by rw [up_same, H.2.1]; omega, by omega, by rw [up_at, if_neg (by decide)]; exact H.2.2.2⟩
theorem P_sign {tk : Nat → TK_} {N : Nat} {h h' : PH_} {c : Int} : ∀ {X : RE_ Nat}, RP_ tk N h X → h' = if_ (sgn_ h c) (up_ h mo_ 7 (h mo_ 7 + 1)) (wro_ h 1) → fr7_ h h' ∧ RP_ tk N h' (bd_ X (tks2_ tk c))
  | .ok a, H, e => by
    have H : RPO_ tk N h a := H
    have s := RS_sg (RPO_RS H) (c := c)
    show fr7_ h h' ∧ RP_ tk N h' (tks2_ tk c a)
    unfold tks2_
    by_cases q : isS_ (tk a) c
    · rw [if_t (s.mpr ⟨H.2.2.2, q⟩)] at e
      rw [if_t q, e]
      exact ⟨fr7_7, (RP_n H (by rw [q.1]; decide)).2⟩
    · rw [if_f (fun u => q (s.mp u).2)] at e
      have w := RP_w (w := 1) H (by omega)
      rw [if_f q, e]
      exact ⟨by rw [w.1]; exact fr7_8, w.2⟩
  | .error x, H, e => by
    have H : RPE_ tk N h x := H
    have n8 : ¬ h mo_ 8 = 0 := by have := H.2.2; omega
    rw [if_f (fun u => n8 u.1), wro_f n8] at e
    rw [e]
    exact ⟨fr7_rf, H⟩
def nmr_ (k : Int) (f g : Int → Int) (nm : NM_) : Prop := k = (nm.length : Int) ∧ nm.length ≤ 8 ∧ ∀ i : Nat, i < nm.length → f (i : Int) = enc_ 37 (nm.getD i ([], 0)).1 ∧ g (i : Int) = (nm.getD i ([], 0)).2 ∧ lok2_ (nm.getD i ([], 0)).1
theorem fnd_dr {nm : NM_} {w : List Int} {k : Nat} (hk : k < nm.length) : fnd_ (nm.drop k) w = if_ ((nm.getD k ([], 0)).1 = w) (nm.getD k ([], 0)).2 (fnd_ (nm.drop (k + 1)) w) := by
  rw [List.drop_eq_getElem_cons hk]
  show if_ _ _ _ = _
  rw [List.getD_eq_getElem?_getD, List.getElem?_eq_getElem hk]; rfl
def RP2_ (tk : Nat → TK_) (N : Nat) (h : PH_) (z : Int) : RE_ (Int × Nat) → Prop
  | .ok q => RPO_ tk N h q.2 ∧ z = q.1
  | .error e => RPE_ tk N h e ∧ z = 0
theorem RP2_7 {tk : Nat → TK_} {N : Nat} {h : PH_} {z : Int} : ∀ {X : RE_ (Int × Nat)}, RP2_ tk N h z X → RP_ tk N h (bd_ X (fun q => .ok q.2))
  | .ok q, H => H.1
  | .error e, H => H.1
theorem lc_l {a b : Int} (h : (if b < a then 1 else if a = b then 0 else -1 : Int) < 0) : a < b := by
  split at h
  · omega
  · split at h <;> omega
theorem lc_nl {a b : Int} (h : ¬ (if b < a then 1 else if a = b then 0 else -1 : Int) < 0) : b ≤ a := by
  split at h
  · omega
  · split at h <;> omega
theorem lc_g {a b : Int} (h : 0 < (if b < a then 1 else if a = b then 0 else -1 : Int)) : b < a := by
  split at h
  · omega
  · split at h <;> omega
theorem lc_ng {a b : Int} (h : ¬ 0 < (if b < a then 1 else if a = b then 0 else -1 : Int)) : a ≤ b := by
  split at h
  · omega
  · split at h <;> omega
