/-! ===== what is read as an expression is good code ===== -/
def cok2_ (m : Int) (l : CO_) : Prop := ∀ q ∈ l, (1 ≤ q.1 ∧ q.1 ≤ 10) ∧ (q.1 = 2 → 0 ≤ q.2 ∧ q.2 < m) ∧ (0 ≤ q.2 ∧ q.2 ≤ 9999)
def gg_ (m : Int) (b : Nat) (l : CO_) : Prop := cok2_ m l ∧ (∀ P n, dpt_ P (n + 1) → dpt_ (l ++ P) n) ∧ (∀ P n, n + b ≤ 32 → dpb_ P (n + 1) → dpb_ (l ++ P) n)
def gs_ (m : Int) (b : Nat) (sub : Nat → CR_) : Prop := ∀ a q, sub a = .ok q → gg_ m b q.1 ∧ a < q.2 ∧ q.1.length + a ≤ q.2
theorem gg_bin {m : Int} {b : Nat} {l1 l2 : CO_} {c : Int} (hc : 4 ≤ c ∧ c ≤ 10) (h1 : gg_ m (b + 1) l1) (h2 : gg_ m b l2) : gg_ m (b + 1) (l1 ++ l2 ++ [(c, 0)]) := by
  refine ⟨fun q hq => ?_, fun P n hP => ?_, fun P n hb hP => ?_⟩
  · rcases List.mem_append.mp hq with hq | hq
    · rcases List.mem_append.mp hq with hq | hq
      · exact h1.1 q hq
      · exact h2.1 q hq
    · simp at hq; subst hq; exact ⟨by show 1 ≤ c ∧ c ≤ 10; omega, fun e => by have e : c = 2 := e; omega, by show (0 : Int) ≤ 0 ∧ (0 : Int) ≤ 9999; omega⟩
  · rw [List.append_assoc, List.append_assoc]
    refine h1.2.1 _ n (h2.2.1 _ (n + 1) ?_)
    show dpt_ ((c, 0) :: P) (n + 1 + 1)
    unfold dpt_
    rw [if_neg (by show ¬ (c = 1 ∨ c = 2); omega), if_neg (by show ¬ c = 3; omega)]
    exact ⟨by omega, hP⟩
  · rw [List.append_assoc, List.append_assoc]
    refine h1.2.2 _ n hb (h2.2.2 _ (n + 1) (by omega) ?_)
    show dpb_ ((c, 0) :: P) (n + 1 + 1)
    unfold dpb_
    rw [if_neg (by show ¬ (c = 1 ∨ c = 2); omega), if_neg (by show ¬ c = 3; omega)]
    exact hP
theorem gg_up {m : Int} {b c : Nat} {l : CO_} (h : gg_ m b l) (hbc : b ≤ c) : gg_ m c l := ⟨h.1, h.2.1, fun P n hb => h.2.2 P n (by omega)⟩
theorem lop_g {tk : Nat → TK_} {m : Int} {b : Nat} {sub : Nat → CR_} {op : TK_ → Option Int} (hs : gs_ m b sub) (ho : ∀ t c, op t = some c → 4 ≤ c ∧ c ≤ 10) : ∀ (f a : Nat) (l : CO_) (q : CO_ × Nat) (a0 : Nat), gg_ m (b + 1) l → a0 < a → l.length + a0 ≤ a → lop_ tk sub op f a l = .ok q → gg_ m (b + 1) q.1 ∧ a0 < q.2 ∧ q.1.length + a0 ≤ q.2
  | 0, a, l, q, a0, hl, h1, h2, h => by unfold lop_ at h; cases h; exact ⟨hl, h1, h2⟩
  | f + 1, a, l, q, a0, hl, h1, h2, h => by
    cases ho2 : op (tk a) with
    | none => rw [lop_n ho2] at h; cases h; exact ⟨hl, h1, h2⟩
    | some c =>
      cases hs2 : sub (a + 1) with
      | error e => rw [lop_e ho2 hs2] at h; cases h
      | ok p =>
        rw [lop_s ho2 hs2] at h
        obtain ⟨g1, g2, g3⟩ := hs _ _ hs2
        exact lop_g hs ho f _ _ q a0 (gg_bin (ho _ _ ho2) hl g1) (by omega) (by rw [List.length_append, List.length_append]; show l.length + p.1.length + 1 + a0 ≤ p.2; omega) h
theorem lvl_g {tk : Nat → TK_} {m : Int} {b f : Nat} {sub : Nat → CR_} {op : TK_ → Option Int} (hs : gs_ m b sub) (ho : ∀ t c, op t = some c → 4 ≤ c ∧ c ≤ 10) : gs_ m (b + 1) (lvl_ tk op f sub) := fun a q h => by
  cases hs2 : sub a with
  | error e => rw [lvl_e hs2] at h; cases h
  | ok p =>
    rw [lvl_o hs2] at h
    obtain ⟨g1, g2, g3⟩ := hs _ _ hs2
    exact lop_g hs ho f _ _ q a (gg_up g1 (by omega)) g2 g3 h
theorem if_2 {P Q : Prop} {x y : Int} {c : Int} (h : if_ P (some x) (if_ Q (some y) none) = some c) : c = x ∨ c = y := by
  by_cases p : P
  · rw [if_t p] at h; cases h; exact Or.inl rfl
  · rw [if_f p] at h
    by_cases q : Q
    · rw [if_t q] at h; cases h; exact Or.inr rfl
    · rw [if_f q] at h; cases h
theorem lv0_g {tk : Nat → TK_} {m : Int} {b : Nat} {sub : Nat → CR_} (hs : gs_ m b sub) : gs_ m (b + 4) (lv0_ tk sub) := by
  have g3 : gs_ m (b + 1) (lv3_ tk sub) := lvl_g hs (fun t c h => by
    unfold op3_ at h
    by_cases q : isS_ t 42
    · rw [if_t q] at h; cases h; omega
    · rw [if_f q] at h; cases h)
  have g2 : gs_ m (b + 2) (lv2_ tk sub) := lvl_g g3 (fun t c h => by have := if_2 h; omega)
  have g1 : gs_ m (b + 3) (lv1_ tk sub) := lvl_g g2 (fun t c h => by have := if_2 h; omega)
  exact lvl_g g1 (fun t c h => by have := if_2 h; omega)
theorem prt_g {tk : Nat → TK_} {f m : Nat} (hw : wfk_ tk) (hm : m ≤ 30) : ∀ d : Nat, gs_ (m : Int) (4 * d + 1) (prt_ tk f m d)
  | 0 => fun a q h => by
    unfold prt_ at h
    by_cases c : bgs_ (tk a) f m
    · rw [if_t c] at h; cases h
    · rw [if_f c] at h; cases h
  | d + 1 => fun a q h => by
    have ih := prt_g (f := f) (m := m) hw hm d
    unfold prt_ at h
    by_cases c : bgs_ (tk a) f m
    · rw [if_t c] at h
      by_cases c1 : isW_ (tk a) 19
      · rw [if_t c1] at h
        cases hp : prt_ tk f m d (a + 1) with
        | error e => rw [pnt_e hp] at h; cases h
        | ok p =>
          rw [pnt_o hp] at h; cases h
          obtain ⟨g1, g2, g3⟩ := ih _ _ hp
          refine ⟨⟨fun q hq => ?_, fun P n hP => ?_, fun P n hb hP => ?_⟩, by show a < p.2; omega, by rw [List.length_append]; show p.1.length + 1 + a ≤ p.2; omega⟩
          · rcases List.mem_append.mp hq with hq | hq
            · exact g1.1 q hq
            · simp at hq; subst hq; exact ⟨by decide, fun e => by have e : (3 : Int) = 2 := e; omega, by decide⟩
          · rw [List.append_assoc]
            refine g1.2.1 _ n ?_
            show dpt_ ((3, 0) :: P) (n + 1)
            unfold dpt_
            rw [if_neg (by decide), if_pos rfl]
            exact ⟨by omega, hP⟩
          · rw [List.append_assoc]
            refine g1.2.2 _ n (by omega) ?_
            show dpb_ ((3, 0) :: P) (n + 1)
            unfold dpb_
            rw [if_neg (by decide), if_pos rfl]
            exact hP
      · rw [if_f c1] at h
        by_cases c2 : isS_ (tk a) 40
        · rw [if_t c2] at h
          cases hp : lv0_ tk (prt_ tk f m d) (a + 1) with
          | error e => rw [pcl2_e hp] at h; cases h
          | ok p =>
            rw [pcl2_o hp] at h
            obtain ⟨g1, g2, g3⟩ := lv0_g ih _ _ hp
            by_cases c3 : isS_ (tk p.2) 41
            · rw [if_t c3] at h; cases h
              exact ⟨gg_up g1 (by omega), by show a < p.2 + 1; omega, by show p.1.length + a ≤ p.2 + 1; omega⟩
            · rw [if_f c3] at h; cases h
        · rw [if_f c2] at h
          by_cases c3 : (tk a).1 = 2
          · rw [if_t c3] at h; cases h
            have nb := (hw a).2 c3
            refine ⟨⟨fun q hq => ?_, fun P n hP => ?_, fun P n hb hP => ?_⟩, by show a < a + 1; omega, by show 1 + a ≤ a + 1; omega⟩
            · simp at hq; subst hq; exact ⟨by show (1 : Int) ≤ 1 ∧ (1 : Int) ≤ 10; omega, fun e => by have e : (1 : Int) = 2 := e; omega, nb⟩
            · show dpt_ ((1, _) :: P) n
              unfold dpt_; rw [if_pos (Or.inl rfl)]; exact hP
            · show dpb_ ((1, _) :: P) n
              unfold dpb_; rw [if_pos (Or.inl rfl)]; exact ⟨by omega, hP⟩
          · rw [if_f c3] at h; cases h
            have fb := fcw_b (tk a) f m
            have f0 : 0 ≤ fcw_ (tk a) f m := by
              rcases c with c | c | c | c
              · exact c
              · exact absurd c c3
              · exact absurd c c2
              · exact absurd c c1
            have fm : ∀ n : Nat, fcw_ (tk a) f n ≤ n := fun n => by have := fcw_b (tk a) f n; omega
            refine ⟨⟨fun q hq => ?_, fun P n hP => ?_, fun P n hb hP => ?_⟩, by show a < a + 1; omega, by show 1 + a ≤ a + 1; omega⟩
            · simp at hq; subst hq
              refine ⟨by show (1 : Int) ≤ 2 ∧ (2 : Int) ≤ 10; omega, fun _ => ⟨f0, by show fcw_ (tk a) f m < (m : Int); omega⟩, f0, ?_⟩
              show fcw_ (tk a) f m ≤ 9999
              omega
            · show dpt_ ((2, _) :: P) n
              unfold dpt_; rw [if_pos (Or.inr rfl)]; exact hP
            · show dpb_ ((2, _) :: P) n
              unfold dpb_; rw [if_pos (Or.inr rfl)]; exact ⟨by omega, hP⟩
    · rw [if_f c] at h; cases h
theorem lwe_g {tk : Nat → TK_} {f m a : Nat} (hw : wfk_ tk) (hm : m ≤ 30) {q : CO_ × Nat} (h : lwe_ tk f m a = .ok q) : gg_ (m : Int) 25 q.1 ∧ a < q.2 ∧ q.1.length + a ≤ q.2 := lv0_g (prt_g hw hm 5) a q h
theorem wfc_of {m : Int} {l : CO_} (h : gg_ m 25 l) (hl : l.length ≤ 1000) : wfc_ m l := by
  refine ⟨fun q hq => ⟨(h.1 q hq).1, (h.1 q hq).2.1, by have := (h.1 q hq).2.2; omega⟩, hl, ?_, ?_⟩
  · have := h.2.1 [] 0 rfl
    rw [List.append_nil] at this; exact this
  · have := h.2.2 [] 0 (by omega) trivial
    rw [List.append_nil] at this; exact this
