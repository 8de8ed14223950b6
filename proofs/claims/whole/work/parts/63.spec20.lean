/-! ===== reading, as the document has it ===== -/
abbrev RE_ (α : Type) : Type := Except Int α
/-- the words that mean something -/
def wdT_ : List (List Int) := [[19, 5, 1, 20, 19], [19, 20, 18, 5, 20, 3, 8], [8, 1, 19], [18, 9, 4, 5, 18], [4, 1, 19, 8], [16, 1, 19, 20], [1, 16, 1, 18, 20], [14, 5, 22, 5, 18], [7, 1, 16], [6, 9, 7, 8, 20], [23, 15, 18, 20, 8], [18, 21, 12, 5], [19, 9, 20], [4, 18, 9, 22, 5], [18, 15, 23], [16, 12, 1, 9, 14], [19, 9, 3, 11], [19, 12, 5, 5, 16, 5, 18], [19, 13, 1, 12, 12], [14, 15, 20], [1, 14, 4], [15, 18], [2, 1, 19, 5], [20, 9, 13, 5], [11, 9, 14, 4], [5, 14, 4], [20, 9, 16], [19, 5, 1, 20], [19, 20, 15, 16], [23, 8, 15]]
def wdl_ (w : Nat) : List Int := wdT_.getD w []
theorem wdT_ok : ∀ w < 30, ∀ x ∈ wdl_ w, 1 ≤ x ∧ x ≤ 26 := by decide
def isW_ (t : TK_) (w : Nat) : Prop := t.1 = 1 ∧ t.2.2.2 = wdl_ w
def isS_ (t : TK_) (c : Int) : Prop := t.1 = 3 ∧ t.2.2.1 = c
/-- the k-th of m words from f on, or -1 -/
noncomputable def fcw_ (t : TK_) (f : Nat) : Nat → Int
  | 0 => -1
  | k + 1 => if_ (isW_ t (f + k)) (k : Int) (fcw_ t f k)
theorem fcw_b (t : TK_) (f : Nat) : ∀ n : Nat, -1 ≤ fcw_ t f n ∧ fcw_ t f n < (n : Int) ∨ n = 0 ∧ fcw_ t f n = -1
  | 0 => Or.inr ⟨rfl, rfl⟩
  | n + 1 => by
    have e := fcw_b t f n
    unfold fcw_
    by_cases c : isW_ t (f + n)
    · rw [if_t c]; omega
    · rw [if_f c]; omega
abbrev CO_ : Type := List (Int × Int)
abbrev CR_ : Type := RE_ (CO_ × Nat)
noncomputable def op0_ (t : TK_) : Option Int := if_ (isW_ t 20) (some 9) (if_ (isW_ t 21) (some 10) none)
noncomputable def op1_ (t : TK_) : Option Int := if_ (isS_ t 60) (some 7) (if_ (isS_ t 61) (some 8) none)
noncomputable def op2_ (t : TK_) : Option Int := if_ (isS_ t 43) (some 4) (if_ (isS_ t 45) (some 5) none)
noncomputable def op3_ (t : TK_) : Option Int := if_ (isS_ t 42) (some 6) none
def lop_ (tk : Nat → TK_) (sub : Nat → CR_) (op : TK_ → Option Int) : Nat → Nat → CO_ → CR_
  | 0, a, l => .ok (l, a)
  | f + 1, a, l => match op (tk a) with
    | none => .ok (l, a)
    | some c => match sub (a + 1) with
      | .error e => .error e
      | .ok q => lop_ tk sub op f q.2 (l ++ q.1 ++ [(c, 0)])
def lvl_ (tk : Nat → TK_) (op : TK_ → Option Int) (f : Nat) (sub : Nat → CR_) (a : Nat) : CR_ := match sub a with
  | .error e => .error e
  | .ok q => lop_ tk sub op f q.2 q.1
noncomputable def lv3_ (tk : Nat → TK_) (sub : Nat → CR_) : Nat → CR_ := lvl_ tk op3_ 1000 sub
noncomputable def lv2_ (tk : Nat → TK_) (sub : Nat → CR_) : Nat → CR_ := lvl_ tk op2_ 1000 (lv3_ tk sub)
noncomputable def lv1_ (tk : Nat → TK_) (sub : Nat → CR_) : Nat → CR_ := lvl_ tk op1_ 1 (lv2_ tk sub)
noncomputable def lv0_ (tk : Nat → TK_) (sub : Nat → CR_) : Nat → CR_ := lvl_ tk op0_ 1000 (lv1_ tk sub)
def bgs_ (t : TK_) (f m : Nat) : Prop := 0 ≤ fcw_ t f m ∨ t.1 = 2 ∨ isS_ t 40 ∨ isW_ t 19
def flt_ (tk : Nat → TK_) (w : Int) (a : Nat) : Int := w + 16 * (tk a).2.1
def pnt_ (x : CR_) : CR_ := match x with
  | .error e => .error e
  | .ok q => .ok (q.1 ++ [(3, 0)], q.2)
noncomputable def pcl2_ (tk : Nat → TK_) (x : CR_) : CR_ := match x with
  | .error e => .error e
  | .ok q => if_ (isS_ (tk q.2) 41) (.ok (q.1, q.2 + 1)) (.error (flt_ tk 1 q.2))
noncomputable def prt_ (tk : Nat → TK_) (f m : Nat) : Nat → Nat → CR_
  | 0, a => if_ (bgs_ (tk a) f m) (.error (flt_ tk 5 a)) (.error (flt_ tk 1 a))
  | d + 1, a => if_ (bgs_ (tk a) f m) (if_ (isW_ (tk a) 19) (pnt_ (prt_ tk f m d (a + 1))) (if_ (isS_ (tk a) 40) (pcl2_ tk (lv0_ tk (prt_ tk f m d) (a + 1))) (if_ ((tk a).1 = 2) (.ok ([(1, (tk a).2.2.1)], a + 1)) (.ok ([(2, fcw_ (tk a) f m)], a + 1))))) (.error (flt_ tk 1 a))
theorem lop_n {tk : Nat → TK_} {sub : Nat → CR_} {op : TK_ → Option Int} {f a : Nat} {l : CO_} (h : op (tk a) = none) : lop_ tk sub op f a l = .ok (l, a) := by
  cases f with
  | zero => rfl
  | succ f => show (match op (tk a) with | none => _ | some c => _) = _; rw [h]
theorem lop_e {tk : Nat → TK_} {sub : Nat → CR_} {op : TK_ → Option Int} {f a : Nat} {l : CO_} {c e : Int} (h : op (tk a) = some c) (hs : sub (a + 1) = .error e) : lop_ tk sub op (f + 1) a l = .error e := by
  show (match op (tk a) with | none => _ | some c => _) = _
  rw [h]
  show (match sub (a + 1) with | .error e => _ | .ok q => _) = _
  rw [hs]
theorem lop_s {tk : Nat → TK_} {sub : Nat → CR_} {op : TK_ → Option Int} {f a : Nat} {l : CO_} {c : Int} {q : CO_ × Nat} (h : op (tk a) = some c) (hs : sub (a + 1) = .ok q) : lop_ tk sub op (f + 1) a l = lop_ tk sub op f q.2 (l ++ q.1 ++ [(c, 0)]) := by
  rw [lop_]
  rw [h]
  show (match sub (a + 1) with | .error e => _ | .ok q => _) = _
  rw [hs]
theorem lvl_e {tk : Nat → TK_} {op : TK_ → Option Int} {f : Nat} {sub : Nat → CR_} {a : Nat} {e : Int} (h : sub a = .error e) : lvl_ tk op f sub a = .error e := by unfold lvl_; rw [h]
theorem lvl_o {tk : Nat → TK_} {op : TK_ → Option Int} {f : Nat} {sub : Nat → CR_} {a : Nat} {q : CO_ × Nat} (h : sub a = .ok q) : lvl_ tk op f sub a = lop_ tk sub op f q.2 q.1 := by unfold lvl_; rw [h]
theorem isS_ne {t : TK_} {c d : Int} (h : isS_ t c) (hd : isS_ t d) : c = d := h.2.symm.trans hd.2
theorem isSW {t : TK_} {c : Int} {w : Nat} (h : isS_ t c) (hw : isW_ t w) : False := by have h1 := h.1; have h2 := hw.1; omega
theorem wdl_ne : ∀ v < 30, ∀ w < 30, wdl_ v = wdl_ w → v = w := by decide
theorem isW_ne {t : TK_} {v w : Nat} (h : isW_ t v) (hw : isW_ t w) (h1 : v < 30) (h2 : w < 30) : v = w := wdl_ne v h1 w h2 (h.2.symm.trans hw.2)
/-! the reference's reading, on its cells -/
def wds_ (h : PH_) : Prop := ∀ w : Nat, w < 30 → h mWords w = enc_ 37 (wdl_ w)
def wfk_ (tk : Nat → TK_) : Prop := ∀ i, ((tk i).1 = 1 → lok2_ (tk i).2.2.2 ∧ (tk i).2.2.2.length ≤ 8) ∧ ((tk i).1 = 2 → 0 ≤ (tk i).2.2.1 ∧ (tk i).2.2.1 ≤ 9999)
def RS_ (tk : Nat → TK_) (N : Nat) (h : PH_) (a : Nat) : Prop := RT_ tk N h ∧ h mo_ 7 = (a : Int) ∧ a ≤ N ∧ wds_ h ∧ wfk_ tk
theorem RS_sg {tk : Nat → TK_} {N : Nat} {h : PH_} {a : Nat} (H : RS_ tk N h a) {c : Int} : sgn_ h c ↔ h mo_ 8 = 0 ∧ isS_ (tk a) c := by
  obtain ⟨h1, h2, h3, h4, h5⟩ := H
  have t := h1.1 a h3
  unfold sgn_ isS_
  rw [h2, t.1]
  constructor
  · intro u; exact ⟨u.1, u.2.1, by rw [← t.2.2.1 (Or.inr u.2.1)]; exact u.2.2⟩
  · intro u; exact ⟨u.1, u.2.1, by rw [t.2.2.1 (Or.inr u.2.1)]; exact u.2.2⟩
theorem RS_wd {tk : Nat → TK_} {N : Nat} {h : PH_} {a : Nat} (H : RS_ tk N h a) {w : Nat} (hw : w < 30) : wrd_ h (w : Int) ↔ h mo_ 8 = 0 ∧ isW_ (tk a) w := by
  obtain ⟨h1, h2, h3, h4, h5⟩ := H
  have t := h1.1 a h3
  unfold wrd_ isW_
  rw [h2, t.1, h4 w hw]
  constructor
  · intro u
    refine ⟨u.1, u.2.1, ?_⟩
    have e := u.2.2
    rw [t.2.2.2 u.2.1] at e
    exact (enc_eq (by decide) ((h5 a).1 u.2.1).1 (wdT_ok w hw)).mp e
  · intro u; exact ⟨u.1, u.2.1, by rw [t.2.2.2 u.2.1, u.2.2]⟩
theorem RS_wh {tk : Nat → TK_} {N : Nat} {h : PH_} {a : Nat} (H : RS_ tk N h a) (h0 : h mo_ 8 = 0) {f : Nat} : ∀ m : Nat, f + m ≤ 30 → whr_ h (f : Int) m = fcw_ (tk a) f m
  | 0, _ => rfl
  | m + 1, hm => by
    have e := RS_wd H (w := f + m) (by omega)
    unfold whr_ fcw_
    rw [RS_wh H h0 m (by omega)]
    by_cases c : isW_ (tk a) (f + m)
    · rw [if_t c, if_t (by have := e.mpr ⟨h0, c⟩; exact this)]
    · rw [if_f c, if_f (show ¬ wrd_ h ((f : Int) + (m : Int)) from fun u => c (e.mp u).2)]
theorem RS_mv {tk : Nat → TK_} {N : Nat} {h h' : PH_} {a b : Nat} (H : RS_ tk N h a) (e1 : h' mSort = h mSort) (e2 : h' mPlace = h mPlace) (e3 : h' mValue = h mValue) (e4 : h' mWords = h mWords) (e5 : h' mo_ 7 = (b : Int)) (hb : b ≤ N) : RS_ tk N h' b := by
  obtain ⟨h1, h2, h3, h4, h5⟩ := H
  refine ⟨⟨fun i hi => ?_, h1.2⟩, e5, hb, fun w hw => by rw [e4]; exact h4 w hw, h5⟩
  unfold tr_
  rw [e1, e2, e3]; exact h1.1 i hi
def em1_ (h : PH_) (q : Int × Int) : PH_ := up_ (up_ (up_ h mOp (1100 + h mo_ 13) q.1) mArg (1100 + h mo_ 13) q.2) mo_ 13 (h mo_ 13 + 1)
def eml_ (h : PH_) : CO_ → PH_
  | [] => h
  | q :: l => eml_ (em1_ h q) l
/-- a piece of code read: it stands behind, the next token is a -/
def okh_ (h : PH_) (l : CO_) (a : Nat) : PH_ := up_ (eml_ h l) mo_ 7 (a : Int)
theorem up_cm {h : PH_} {i j : Nat} {x y z w : Int} (hn : i ≠ j ∨ x ≠ y) : up_ (up_ h i x z) j y w = up_ (up_ h j y w) i x z := by
  funext k s
  rw [up_ap, up_ap, up_ap, up_ap]
  by_cases c1 : k = j ∧ s = y
  · rw [if_pos c1]
    by_cases c2 : k = i ∧ s = x
    · exfalso; rcases hn with e | e
      · exact e (c2.1.symm.trans c1.1)
      · exact e (c2.2.symm.trans c1.2)
    · rw [if_neg c2]; try rw [if_pos c1]
  · rw [if_neg c1]
    by_cases c2 : k = i ∧ s = x
    · rw [if_pos c2]; try rw [if_pos c2]
    · rw [if_neg c2]; try rw [if_neg c2, if_neg c1]
theorem up_up {h : PH_} {i : Nat} {x z w : Int} : up_ (up_ h i x z) i x w = up_ h i x w := by
  funext k s
  rw [up_ap, up_ap, up_ap]
  by_cases c : k = i ∧ s = x
  · rw [if_pos c, if_pos c]
  · rw [if_neg c, if_neg c, if_neg c]
theorem up_self {h : PH_} {i : Nat} {x : Int} : up_ h i x (h i x) = h := by
  funext k s
  rw [up_ap]
  by_cases c : k = i ∧ s = x
  · rw [if_pos c, c.1, c.2]
  · rw [if_neg c]
theorem em1_7 {h : PH_} {q : Int × Int} {a : Int} : em1_ (up_ h mo_ 7 a) q = up_ (em1_ h q) mo_ 7 a := by
  unfold em1_
  have e : up_ h mo_ 7 a mo_ 13 = h mo_ 13 := by rw [up_at, if_neg (by decide)]
  rw [e, up_cm (i := mo_) (j := mOp) (Or.inl (by decide)), up_cm (i := mo_) (j := mArg) (Or.inl (by decide)), up_cm (i := mo_) (j := mo_) (x := 7) (y := 13) (Or.inr (by decide))]
theorem eml_7 : ∀ {l : CO_} {h : PH_} {a : Int}, eml_ (up_ h mo_ 7 a) l = up_ (eml_ h l) mo_ 7 a
  | [], _, _ => rfl
  | q :: l, h, a => by show eml_ (em1_ (up_ h mo_ 7 a) q) l = _; rw [em1_7, eml_7]; rfl
theorem eml_app : ∀ {l m : CO_} {h : PH_}, eml_ h (l ++ m) = eml_ (eml_ h l) m
  | [], _, _ => rfl
  | q :: l, m, h => by show eml_ (em1_ h q) (l ++ m) = _; rw [eml_app]; rfl
theorem okh_ok {h : PH_} {l m : CO_} {a b : Nat} : okh_ (okh_ h l a) m b = okh_ h (l ++ m) b := by unfold okh_; rw [eml_7, up_up, eml_app]
theorem okh_em {h : PH_} {l : CO_} {a : Nat} {q : Int × Int} : em1_ (okh_ h l a) q = okh_ h (l ++ [q]) a := by unfold okh_; rw [em1_7, eml_app]; rfl
theorem okh_at {h : PH_} {l : CO_} {a : Nat} {b : Nat} : up_ (okh_ h l a) mo_ 7 (b : Int) = okh_ h l b := by unfold okh_; rw [up_up]
theorem okh_0 {h : PH_} {a : Nat} (ha : h mo_ 7 = (a : Int)) : okh_ h [] a = h := by show up_ h mo_ 7 (a : Int) = h; rw [← ha, up_self]
theorem em1_o {h : PH_} {q : Int × Int} : off_ [mOp, mArg, mo_] h (em1_ h q) := off_up (off_up (off_up off_rf (by decide)) (by decide)) (by decide)
theorem em1_m {h : PH_} {q : Int × Int} {k : Int} (hk : k ≠ 13) : em1_ h q mo_ k = h mo_ k := by
  show up_ (up_ (up_ h mOp _ _) mArg _ _) mo_ 13 _ mo_ k = _
  rw [up_at, if_neg hk, up_off (by decide), up_off (by decide)]
theorem em1_13 {h : PH_} {q : Int × Int} : em1_ h q mo_ 13 = h mo_ 13 + 1 := up_same _ _ _ _
theorem em1_lo {h : PH_} {q : Int × Int} (h0 : 0 ≤ h mo_ 13) {x : Int} (hx : x < 1100) : em1_ h q mOp x = h mOp x ∧ em1_ h q mArg x = h mArg x := by
  unfold em1_
  constructor
  · rw [up_off (by decide), up_off (by decide), up_at, if_neg (by omega)]
  · rw [up_off (by decide), up_at, if_neg (by omega), up_off (by decide)]
theorem eml_o : ∀ {l : CO_} {h : PH_}, off_ [mOp, mArg, mo_] h (eml_ h l)
  | [], _ => off_rf
  | q :: l, h => off_tr em1_o (eml_o (l := l))
theorem eml_m {k : Int} (hk : k ≠ 13) : ∀ {l : CO_} {h : PH_}, eml_ h l mo_ k = h mo_ k
  | [], _ => rfl
  | q :: l, h => by show eml_ (em1_ h q) l mo_ k = _; rw [eml_m hk, em1_m hk]
theorem eml_13 : ∀ {l : CO_} {h : PH_}, eml_ h l mo_ 13 = h mo_ 13 + l.length
  | [], h => by show h mo_ 13 = _; simp
  | q :: l, h => by show eml_ (em1_ h q) l mo_ 13 = _; rw [eml_13, em1_13, List.length_cons]; omega
theorem eml_lo : ∀ {l : CO_} {h : PH_}, 0 ≤ h mo_ 13 → ∀ {x : Int}, x < 1100 + h mo_ 13 → eml_ h l mOp x = h mOp x ∧ eml_ h l mArg x = h mArg x
  | [], _, _, _, _ => ⟨rfl, rfl⟩
  | q :: l, h, h0, x, hx => by
    have e := eml_lo (l := l) (h := em1_ h q) (by rw [em1_13]; omega) (x := x) (by rw [em1_13]; omega)
    show eml_ (em1_ h q) l mOp x = _ ∧ eml_ (em1_ h q) l mArg x = _
    rw [e.1, e.2]
    unfold em1_
    constructor
    · rw [up_off (by decide), up_off (by decide), up_at, if_neg (by omega)]
    · rw [up_off (by decide), up_at, if_neg (by omega), up_off (by decide)]
/-- where something was wrong: the fault; no more code than tokens -/
def bad_ (N : Nat) (s : Int) (h : PH_) (e : Int) (h' : PH_) : Prop := off_ [mOp, mArg, mo_] h h' ∧ (∀ k, k ≠ 7 → k ≠ 8 → k ≠ 13 → h' mo_ k = h mo_ k) ∧ (h' mo_ 8 = e ∧ 0 < e) ∧ (0 ≤ h' mo_ 7 ∧ h' mo_ 7 ≤ N) ∧ (h mo_ 13 ≤ h' mo_ 13 ∧ h' mo_ 13 - h mo_ 13 + s ≤ h' mo_ 7 - h mo_ 7) ∧ ∀ x, x < 1100 → h' mOp x = h mOp x ∧ h' mArg x = h mArg x
theorem okh_7 {h : PH_} {l : CO_} {a : Nat} : okh_ h l a mo_ 7 = (a : Int) := up_same _ _ _ _
theorem okh_m {h : PH_} {l : CO_} {a : Nat} {k : Int} (h1 : k ≠ 7) (h2 : k ≠ 13) : okh_ h l a mo_ k = h mo_ k := by unfold okh_; rw [up_at, if_neg h1, eml_m h2]
theorem okh_13 {h : PH_} {l : CO_} {a : Nat} : okh_ h l a mo_ 13 = h mo_ 13 + l.length := by unfold okh_; rw [up_at, if_neg (by decide), eml_13]
theorem okh_o {h : PH_} {l : CO_} {a : Nat} : off_ [mOp, mArg, mo_] h (okh_ h l a) := off_up eml_o (by decide)
theorem okh_lo {h : PH_} {l : CO_} {a : Nat} (h0 : 0 ≤ h mo_ 13) {x : Int} (hx : x < 1100 + h mo_ 13) : okh_ h l a mOp x = h mOp x ∧ okh_ h l a mArg x = h mArg x := by
  unfold okh_
  rw [up_off (by decide), up_off (by decide)]
  exact eml_lo h0 hx
theorem bad_ok {N : Nat} {s : Int} {h h' : PH_} {l : CO_} {a b : Nat} {e : Int} (h0 : 0 ≤ h mo_ 13) (ha : h mo_ 7 = (a : Int)) (hl : (l.length : Int) + a + s ≤ b) (hb : bad_ N 0 (okh_ h l b) e h') : bad_ N s h e h' := by
  obtain ⟨b1, b2, b3, b4, b5, b6⟩ := hb
  rw [okh_13, okh_7] at b5
  refine ⟨off_tr okh_o b1, fun k k1 k2 k3 => by rw [b2 k k1 k2 k3, okh_m k1 k3], b3, b4, by omega, fun x hx => ?_⟩
  have e1 := b6 x hx
  have e2 := okh_lo (h := h) (l := l) (a := b) h0 (x := x) (by omega)
  rw [e1.1, e1.2]; exact e2
theorem bad_em {N : Nat} {s : Int} {h h' : PH_} {e : Int} {q : Int × Int} (h0 : 0 ≤ h mo_ 13) (hb : bad_ N (s + 1) h e h') : bad_ N s h e (em1_ h' q) := by
  obtain ⟨b1, b2, b3, b4, b5, b6⟩ := hb
  refine ⟨off_tr b1 em1_o, fun k k1 k2 k3 => by rw [em1_m k3, b2 k k1 k2 k3], by rw [em1_m (by decide)]; exact b3, by rw [em1_m (by decide)]; exact b4, by rw [em1_13, em1_m (by decide)]; omega, fun x hx => ?_⟩
  have e1 := em1_lo (h := h') (q := q) (by omega) hx
  rw [e1.1, e1.2]; exact b6 x hx
theorem bad_s {N : Nat} {s t : Int} {h h' : PH_} {e : Int} (hs : s ≤ t) (hb : bad_ N t h e h') : bad_ N s h e h' := ⟨hb.1, hb.2.1, hb.2.2.1, hb.2.2.2.1, ⟨hb.2.2.2.2.1.1, by have := hb.2.2.2.2.1.2; omega⟩, hb.2.2.2.2.2⟩
def XP_ (N : Nat) (X : CR_) (h : PH_) (a : Nat) (h' : PH_) : Prop := (∃ q, X = .ok q ∧ h' = okh_ h q.1 q.2 ∧ q.1.length + a ≤ q.2 ∧ a < q.2 ∧ q.2 ≤ N) ∨ (∃ e, X = .error e ∧ bad_ N 0 h e h')
/-- before an expression -/
def EX_ (tk : Nat → TK_) (N f m : Nat) (h : PH_) (a : Nat) : Prop := RS_ tk N h a ∧ h mo_ 8 = 0 ∧ (0 ≤ h mo_ 13 ∧ h mo_ 13 ≤ a) ∧ h mo_ 21 = (f : Int) ∧ h mo_ 22 = (m : Int) ∧ f + m ≤ 30
theorem EX_ok {tk : Nat → TK_} {N f m : Nat} {h : PH_} {a b : Nat} {l : CO_} (H : EX_ tk N f m h a) (hl : l.length + a ≤ b) (hb : b ≤ N) : EX_ tk N f m (okh_ h l b) b := by
  obtain ⟨h1, h2, h3, h4, h5, h6⟩ := H
  have o := okh_o (h := h) (l := l) (a := b)
  refine ⟨RS_mv h1 (o mSort (by decide)) (o mPlace (by decide)) (o mValue (by decide)) (o mWords (by decide)) okh_7 hb, by rw [okh_m (by decide) (by decide)]; exact h2, by rw [okh_13]; omega, by rw [okh_m (by decide) (by decide)]; exact h4, by rw [okh_m (by decide) (by decide)]; exact h5, h6⟩
theorem EX_pl {tk : Nat → TK_} {N f m : Nat} {h : PH_} {a : Nat} (H : EX_ tk N f m h a) : h mo_ 7 = (a : Int) ∧ a ≤ N ∧ N ≤ 1000 ∧ h mPlace (h mo_ 7) = (tk a).2.1 ∧ 0 ≤ (tk a).2.1 ∧ (tk a).2.1 ≤ 1000 := by
  obtain ⟨⟨h1, h2, h3, h4, h5⟩, _⟩ := H
  refine ⟨h2, h3, h1.2.2.2.1, by rw [h2]; exact (h1.1 a h3).2.1, (h1.2.2.2.2 a h3).1, (h1.2.2.2.2 a h3).2⟩
/-! loops over operators -/
def LI_ (tk : Nat → TK_) (N : Nat) (sub : Nat → CR_) (op : TK_ → Option Int) (h : PH_) (a : Nat) (X : CR_) (hq : PH_) : Prop := (∃ (l : CO_) (b fu : Nat), hq = okh_ h l b ∧ lop_ tk sub op fu b l = X ∧ l.length + a ≤ b ∧ a < b ∧ b ≤ N ∧ N < fu + b) ∨ (∃ e, X = .error e ∧ bad_ N 0 h e hq)
theorem LI_7 {tk : Nat → TK_} {N f m : Nat} {sub : Nat → CR_} {op : TK_ → Option Int} {h hq : PH_} {a : Nat} {X : CR_} (H : EX_ tk N f m h a) (L : LI_ tk N sub op h a X hq) : 0 ≤ hq mo_ 7 ∧ hq mo_ 7 ≤ N := by
  rcases L with ⟨l, b, fu, rfl, h1, h2, h3, h4, h5⟩ | ⟨e, h1, h2⟩
  · rw [okh_7]; omega
  · exact h2.2.2.2.1
theorem LI_in {tk : Nat → TK_} {N : Nat} {sub : Nat → CR_} {op : TK_ → Option Int} {h h2 : PH_} {a : Nat} (hN : N ≤ 1000) (q : XP_ N (sub a) h a h2) : LI_ tk N sub op h a (lvl_ tk op 1000 sub a) h2 := by
  rcases q with ⟨q, h1, h2, h3, h4, h5⟩ | ⟨e, h1, h2⟩
  · exact Or.inl ⟨q.1, q.2, 1000, h2, (lvl_o h1).symm, h3, h4, h5, by omega⟩
  · exact Or.inr ⟨e, lvl_e h1, h2⟩
theorem LI_out {tk : Nat → TK_} {N f m : Nat} {sub : Nat → CR_} {op : TK_ → Option Int} {h hq : PH_} {a : Nat} {X : CR_} (H : EX_ tk N f m h a) (L : LI_ tk N sub op h a X hq) (hn : ∀ b, RS_ tk N hq b → hq mo_ 8 = 0 → op (tk b) = none) : XP_ N X h a hq := by
  rcases L with ⟨l, b, fu, e0, h1, h2, h3, h4, h5⟩ | ⟨e, h1, h2⟩
  · have E := EX_ok (l := l) H h2 h4
    rw [← e0] at E
    have o := hn b E.1 E.2.1
    exact Or.inl ⟨(l, b), by rw [← h1]; exact lop_n o, e0, h2, h3, h4⟩
  · exact Or.inr ⟨e, h1, h2⟩
theorem LI_go {tk : Nat → TK_} {N f m : Nat} {sub : Nat → CR_} {op : TK_ → Option Int} {h hq : PH_} {a : Nat} {X : CR_} {c : Int} (H : EX_ tk N f m h a) (L : LI_ tk N sub op h a X hq) (h8 : hq mo_ 8 = 0) (hc : ∀ b, RS_ tk N hq b → op (tk b) = some c ∧ (tk b).1 ≠ 0) : ∃ (l : CO_) (b fu : Nat), hq mo_ 7 = (b : Int) ∧ up_ hq mo_ 7 (hq mo_ 7 + 1) = okh_ h l (b + 1) ∧ EX_ tk N f m (up_ hq mo_ 7 (hq mo_ 7 + 1)) (b + 1) ∧ op (tk b) = some c ∧ lop_ tk sub op (fu + 1) b l = X ∧ l.length + a ≤ b ∧ a < b ∧ b < N ∧ N < fu + 1 + b := by
  rcases L with ⟨l, b, fu, e0, h1, h2, h3, h4, h5⟩ | ⟨e, h1, h2⟩
  · have E := EX_ok (l := l) H h2 h4
    rw [← e0] at E
    obtain ⟨o1, o2⟩ := hc b E.1
    have bn : b ≠ N := fun e => o2 (by rw [e]; exact H.1.1.2.2.1)
    have e7 : hq mo_ 7 = (b : Int) := E.1.2.1
    have e8 : up_ hq mo_ 7 (hq mo_ 7 + 1) = okh_ h l (b + 1) := by rw [e7, e0]; exact okh_at (b := b + 1)
    refine ⟨l, b, fu - 1, e7, e8, by rw [e8]; exact EX_ok H (by omega) (by omega), o1, by rw [show fu - 1 + 1 = fu by omega]; exact h1, h2, h3, by omega, by omega⟩
  · exfalso; have := h2.2.2.1; omega
theorem LI_back {tk : Nat → TK_} {N f m : Nat} {sub : Nat → CR_} {op : TK_ → Option Int} {h h8 h16 : PH_} {a b fu : Nat} {l : CO_} {X : CR_} {c : Int} (H : EX_ tk N f m h a) (e8 : h8 = okh_ h l (b + 1)) (o : op (tk b) = some c) (hx : lop_ tk sub op (fu + 1) b l = X) (h2 : l.length + a ≤ b) (h3 : a < b) (h4 : b < N) (h5 : N < fu + 1 + b) (q : XP_ N (sub (b + 1)) h8 (b + 1) h16) : (0 ≤ h16 mo_ 13 ∧ h16 mo_ 13 < 1100) ∧ LI_ tk N sub op h a X (em1_ h16 (c, 0)) ∧ ((b : Int) < em1_ h16 (c, 0) mo_ 7 ∨ 0 < em1_ h16 (c, 0) mo_ 8) := by
  obtain ⟨E1, E2, E3, E4⟩ := H
  have N1 := E1.1.2.2.2.1
  rcases q with ⟨q, q1, q2, q3, q4, q5⟩ | ⟨e, q1, q2⟩
  · have e16 : h16 = okh_ h (l ++ q.1) q.2 := by rw [q2, e8, okh_ok]
    have ll : (l ++ q.1).length = l.length + q.1.length := List.length_append
    refine ⟨by rw [e16, okh_13]; omega, Or.inl ⟨l ++ q.1 ++ [(c, 0)], q.2, fu, by rw [e16, okh_em], by rw [← hx, lop_s o q1], by rw [List.length_append, ll]; show l.length + q.1.length + 1 + a ≤ q.2; omega, by omega, q5, by omega⟩, Or.inl ?_⟩
    rw [em1_m (by decide), e16, okh_7]; omega
  · have b1 : bad_ N 1 h e h16 := bad_ok (l := l) (a := a) (b := b + 1) E3.1 E1.2.1 (by omega) (by rw [← e8]; exact q2)
    refine ⟨?_, Or.inr ⟨e, by rw [← hx]; exact lop_e o q1, bad_em (s := 0) E3.1 b1⟩, Or.inr ?_⟩
    · have b5 := b1.2.2.2.2.1
      have b4 := b1.2.2.2.1
      have e7 := E1.2.1
      omega
    · rw [em1_m (by decide)]; have := b1.2.2.1; omega
def kpart_ (G : GT_) (tk : Nat → TK_) (N f m d : Nat) : Prop := ∀ (h : PH_) (a : Nat), EX_ tk N f m h a → PC G yX12_takePart cX12_takePart 4 none (3 + 5 * d) [rr_ G mo_, ii_ (5 - (d : Int))] h (qv_ (fun h' => XP_ N (prt_ tk f m d a) h a h'))
def kprod_ (G : GT_) (tk : Nat → TK_) (N f m d : Nat) : Prop := ∀ (h : PH_) (a : Nat), EX_ tk N f m h a → PC G yX12_products cX12_products 2 none (4 + 5 * d) [rr_ G mo_, ii_ (5 - (d : Int))] h (qv_ (fun h' => XP_ N (lv3_ tk (prt_ tk f m d) a) h a h'))
def ksums_ (G : GT_) (tk : Nat → TK_) (N f m d : Nat) : Prop := ∀ (h : PH_) (a : Nat), EX_ tk N f m h a → PC G yX12_sums cX12_sums 3 none (5 + 5 * d) [rr_ G mo_, ii_ (5 - (d : Int))] h (qv_ (fun h' => XP_ N (lv2_ tk (prt_ tk f m d) a) h a h'))
def ktest_ (G : GT_) (tk : Nat → TK_) (N f m d : Nat) : Prop := ∀ (h : PH_) (a : Nat), EX_ tk N f m h a → PC G yX12_test cX12_test 3 none (6 + 5 * d) [rr_ G mo_, ii_ (5 - (d : Int))] h (qv_ (fun h' => XP_ N (lv1_ tk (prt_ tk f m d) a) h a h'))
def kall_ (G : GT_) (tk : Nat → TK_) (N f m d : Nat) : Prop := ∀ (h : PH_) (a : Nat), EX_ tk N f m h a → PC G yX12_all cX12_all 3 none (7 + 5 * d) [rr_ G mo_, ii_ (5 - (d : Int))] h (qv_ (fun h' => XP_ N (lv0_ tk (prt_ tk f m d) a) h a h'))
