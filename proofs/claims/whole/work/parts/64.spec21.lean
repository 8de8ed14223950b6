/-! one operator at most; parts -/
theorem LT_7 {tk : Nat → TK_} {N f m : Nat} {h hq : PH_} {a : Nat} {X : CR_} (H : EX_ tk N f m h a) (q : XP_ N X h a hq) : (0 ≤ hq mo_ 7 ∧ hq mo_ 7 ≤ N) ∧ (0 ≤ hq mo_ 13 ∧ hq mo_ 13 ≤ N) ∧ off_ [mOp, mArg, mo_] h hq := by
  have E3 := H.2.2.1
  have E7 := H.1.2.1
  rcases q with ⟨q, q1, q2, q3, q4, q5⟩ | ⟨e, q1, q2⟩
  · rw [q2, okh_7, okh_13]; exact ⟨by omega, by omega, okh_o⟩
  · have b5 := q2.2.2.2.2.1
    have b4 := q2.2.2.2.1
    exact ⟨b4, by omega, q2.1⟩
theorem LT_out {tk : Nat → TK_} {N f m : Nat} {sub : Nat → CR_} {op : TK_ → Option Int} {h hq : PH_} {a : Nat} (H : EX_ tk N f m h a) (q : XP_ N (sub a) h a hq) (hn : ∀ b, RS_ tk N hq b → hq mo_ 8 = 0 → op (tk b) = none) : XP_ N (lvl_ tk op 1 sub a) h a hq := by
  rcases q with ⟨q, q1, q2, q3, q4, q5⟩ | ⟨e, q1, q2⟩
  · have E := EX_ok (l := q.1) H q3 q5
    rw [← q2] at E
    exact Or.inl ⟨q, by rw [lvl_o q1]; exact lop_n (hn q.2 E.1 E.2.1), q2, q3, q4, q5⟩
  · exact Or.inr ⟨e, lvl_e q1, q2⟩
theorem LT_go {tk : Nat → TK_} {N f m : Nat} {sub : Nat → CR_} {op : TK_ → Option Int} {h hq : PH_} {a : Nat} {c : Int} (H : EX_ tk N f m h a) (q : XP_ N (sub a) h a hq) (h8 : hq mo_ 8 = 0) (hc : ∀ b, RS_ tk N hq b → op (tk b) = some c ∧ (tk b).1 ≠ 0) : ∃ (l : CO_) (b : Nat), hq mo_ 7 = (b : Int) ∧ up_ hq mo_ 7 (hq mo_ 7 + 1) = okh_ h l (b + 1) ∧ EX_ tk N f m (up_ hq mo_ 7 (hq mo_ 7 + 1)) (b + 1) ∧ op (tk b) = some c ∧ sub a = .ok (l, b) ∧ l.length + a ≤ b ∧ a < b ∧ b < N := by
  rcases q with ⟨q, q1, q2, q3, q4, q5⟩ | ⟨e, q1, q2⟩
  · have E := EX_ok (l := q.1) H q3 q5
    rw [← q2] at E
    obtain ⟨o1, o2⟩ := hc q.2 E.1
    have bn : q.2 ≠ N := fun e => o2 (by rw [e]; exact H.1.1.2.2.1)
    have e7 : hq mo_ 7 = (q.2 : Int) := E.1.2.1
    have e8 : up_ hq mo_ 7 (hq mo_ 7 + 1) = okh_ h q.1 (q.2 + 1) := by rw [e7, q2]; exact okh_at (b := q.2 + 1)
    exact ⟨q.1, q.2, e7, e8, by rw [e8]; exact EX_ok H (by omega) (by omega), o1, q1, q3, q4, by omega⟩
  · exfalso; have := q2.2.2.1; omega
theorem LT_back {tk : Nat → TK_} {N f m : Nat} {sub : Nat → CR_} {op : TK_ → Option Int} {h h8 h16 : PH_} {a b : Nat} {l : CO_} {c : Int} (H : EX_ tk N f m h a) (e8 : h8 = okh_ h l (b + 1)) (o : op (tk b) = some c) (hx : sub a = .ok (l, b)) (h2 : l.length + a ≤ b) (h3 : a < b) (h4 : b < N) (q : XP_ N (sub (b + 1)) h8 (b + 1) h16) : (0 ≤ h16 mo_ 13 ∧ h16 mo_ 13 < 1100) ∧ XP_ N (lvl_ tk op 1 sub a) h a (em1_ h16 (c, 0)) := by
  have N1 := H.1.1.2.2.2.1
  obtain ⟨E1, E2, E3, E4⟩ := H
  rcases q with ⟨q, q1, q2, q3, q4, q5⟩ | ⟨e, q1, q2⟩
  · have e16 : h16 = okh_ h (l ++ q.1) q.2 := by rw [q2, e8, okh_ok]
    have ll : (l ++ q.1).length = l.length + q.1.length := List.length_append
    refine ⟨by rw [e16, okh_13]; omega, Or.inl ⟨(l ++ q.1 ++ [(c, 0)], q.2), by rw [lvl_o hx, lop_s o q1]; rfl, by rw [e16, okh_em], by rw [List.length_append, ll]; show l.length + q.1.length + 1 + a ≤ q.2; omega, by show a < q.2; omega, q5⟩⟩
  · have b1 : bad_ N 1 h e h16 := bad_ok (l := l) (a := a) (b := b + 1) E3.1 E1.2.1 (by omega) (by rw [← e8]; exact q2)
    refine ⟨?_, Or.inr ⟨e, by rw [lvl_o hx]; exact lop_e o q1, bad_em (s := 0) E3.1 b1⟩⟩
    have b5 := b1.2.2.2.2.1
    have b4 := b1.2.2.2.1
    have e7 := E1.2.1
    omega
theorem wro_0 {h : PH_} {w : Int} (h8 : h mo_ 8 = 0) : wro_ h w = up_ h mo_ 8 (w + 16 * h mPlace (h mo_ 7)) := if_t h8
theorem wro_f {h : PH_} {w : Int} (h8 : ¬ h mo_ 8 = 0) : wro_ h w = h := if_f h8
theorem bad_w {N : Nat} {h : PH_} {e : Int} {a : Nat} (he : 0 < e) (h7 : h mo_ 7 = (a : Int)) (ha : a ≤ N) : bad_ N 0 h e (up_ h mo_ 8 e) := by
  refine ⟨off_up off_rf (by decide), fun k k1 k2 k3 => by rw [up_at, if_neg k2], ⟨up_same _ _ _ _, he⟩, by rw [up_at, if_neg (by decide)]; omega, by rw [up_at, if_neg (by decide), up_at, if_neg (by decide)]; omega, fun x _ => by rw [up_off (by decide), up_off (by decide)]; exact ⟨rfl, rfl⟩⟩
theorem EX_up {tk : Nat → TK_} {N f m : Nat} {h : PH_} {a : Nat} (H : EX_ tk N f m h a) (hn : (tk a).1 ≠ 0) : up_ h mo_ 7 (h mo_ 7 + 1) = okh_ h [] (a + 1) ∧ EX_ tk N f m (up_ h mo_ 7 (h mo_ 7 + 1)) (a + 1) ∧ a + 1 ≤ N := by
  have bn : a ≠ N := fun e => hn (by rw [e]; exact H.1.1.2.2.1)
  have an := H.1.2.2.1
  have e : up_ h mo_ 7 (h mo_ 7 + 1) = okh_ h [] (a + 1) := by rw [H.1.2.1]; rfl
  exact ⟨e, by rw [e]; exact EX_ok (l := []) H (by show 0 + a ≤ a + 1; omega) (by omega), by omega⟩
/-- behind what follows a first token -/
theorem XP_ok1 {tk : Nat → TK_} {N f m : Nat} {h h2 : PH_} {a : Nat} {X : CR_} (H : EX_ tk N f m h a) (q : XP_ N X (okh_ h [] (a + 1)) (a + 1) h2) : (∃ q, X = .ok q ∧ h2 = okh_ h q.1 q.2 ∧ q.1.length + a + 1 ≤ q.2 ∧ q.2 ≤ N) ∨ (∃ e, X = .error e ∧ bad_ N 1 h e h2) := by
  rcases q with ⟨q, q1, q2, q3, q4, q5⟩ | ⟨e, q1, q2⟩
  · exact Or.inl ⟨q, q1, by rw [q2, okh_ok]; rfl, by omega, q5⟩
  · exact Or.inr ⟨e, q1, bad_ok (l := []) H.2.2.1.1 H.1.2.1 (by show (0 : Int) + a + 1 ≤ ((a + 1 : Nat) : Int); omega) q2⟩
theorem pnt_e {x : CR_} {e : Int} (h : x = .error e) : pnt_ x = .error e := by rw [h]; rfl
theorem pnt_o {x : CR_} {q : CO_ × Nat} (h : x = .ok q) : pnt_ x = .ok (q.1 ++ [(3, 0)], q.2) := by rw [h]; rfl
theorem pcl2_e {tk : Nat → TK_} {x : CR_} {e : Int} (h : x = .error e) : pcl2_ tk x = .error e := by rw [h]; rfl
theorem pcl2_o {tk : Nat → TK_} {x : CR_} {q : CO_ × Nat} (h : x = .ok q) : pcl2_ tk x = if_ (isS_ (tk q.2) 41) (.ok (q.1, q.2 + 1)) (.error (flt_ tk 1 q.2)) := by rw [h]; rfl
theorem RS_bd {tk : Nat → TK_} {N : Nat} {h h2 : PH_} {a : Nat} (H : RS_ tk N h a) (o : off_ [mOp, mArg, mo_] h h2) (h7 : 0 ≤ h2 mo_ 7 ∧ h2 mo_ 7 ≤ N) : RS_ tk N h2 (h2 mo_ 7).toNat := RS_mv H (o mSort (by decide)) (o mPlace (by decide)) (o mValue (by decide)) (o mWords (by decide)) (by omega) (by omega)
theorem RS_pl {tk : Nat → TK_} {N : Nat} {h : PH_} {a : Nat} (H : RS_ tk N h a) : h mPlace (h mo_ 7) = (tk a).2.1 ∧ 0 ≤ (tk a).2.1 ∧ (tk a).2.1 ≤ 1000 := by
  obtain ⟨h1, h2, h3, h4, h5⟩ := H
  exact ⟨by rw [h2]; exact (h1.1 a h3).2.1, (h1.2.2.2.2 a h3).1, (h1.2.2.2.2 a h3).2⟩
