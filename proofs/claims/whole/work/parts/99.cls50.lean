theorem pw_ldcsw {G : GT_} {own : String} {cc : ByteArray} {nL : Nat} {rt : Option FieldType} {R : Room} {cs ss : Nat} {Zf : List Frame → Array Value → State → State → Prop} {pc : Nat} {lv : List (Option Value)} {st : List Value} {h : PH_} {i : Nat} (j : Nat) {tx : String} (hd : decode cc pc = .ok (.ldc_w i, 3)) (hw : stT_[j]? = some (own, i, tx)) (k : PW G own cc nL rt R cs ss Zf (pc + 3) lv (rr_ G (3000 + j) :: st) h) : PW G own cc nL rt R cs ss Zf pc lv (st) h := by
  intro p e s m args below meth cd H locs ls X P S L T hT X0
  obtain ⟨t, a1, b1⟩ := k p e s m args below meth cd H locs ls X P S L T hT X0
  have hZ := X.2.2.2.2.2.2.2.2.2.2 j _ hw
  exact ⟨t, X0.ldcStringW X.1 X.2.2.2.2.2.1 (text := tx) (a := ga_ G (3000 + j)) hZ.1 hZ.2 (g := F0 m pc ls st) rfl (by rw [X.2.1]; exact hd) t a1, b1⟩
theorem tkp_l {tp : Int → Int} {n : Int} (hn : 0 ≤ n) : ∀ a : Nat, (a : Int) ≤ tkp_ tp n a ∨ tkp_ tp n a = n
  | 0 => Or.inl (Int.le_refl _)
  | a + 1 => by
    have kb := tkp_b (tp := tp) hn a
    have b := rnx_b (Q := bla_) (tp := tp) (n := n) (k := tkp_ tp n a) kb.2
    have t := ten_b (tp := tp) (n := n) (p := rnx_ bla_ tp n (tkp_ tp n a)) b.2.1
    show ((a + 1 : Nat) : Int) ≤ ten_ tp n (rnx_ bla_ tp n (tkp_ tp n a)) ∨ ten_ tp n (rnx_ bla_ tp n (tkp_ tp n a)) = n
    rcases tkp_l (tp := tp) hn a with h | h
    · by_cases c : rnx_ bla_ tp n (tkp_ tp n a) < n
      · left; have := t.2.2 c; omega
      · right; omega
    · right; omega
theorem tk_lt {tp : Int → Int} {n : Int} {a : Nat} (hn : 0 ≤ n) (h : (tk_ tp n a).1 ≠ 0) : (a : Int) < n := by
  have kb := tkp_b (tp := tp) hn a
  have b := rnx_b (Q := bla_) (tp := tp) (n := n) (k := tkp_ tp n a) kb.2
  have l := tkp_l (tp := tp) hn a
  by_cases c : n ≤ rnx_ bla_ tp n (tkp_ tp n a)
  · exact absurd (show tso_ tp n (rnx_ bla_ tp n (tkp_ tp n a)) = 0 from if_t c) h
  · omega
noncomputable def opl_ : Nat → TK_ → Option Int
  | 0 => op0_
  | 1 => op1_
  | 2 => op2_
  | _ => op3_
def opz_ : Option Int → Int
  | none => -1
  | some c => cnv_ (c, 0)
noncomputable def exs_ (tk : Nat → TK_) (f m d : Nat) : Nat → Nat → CR_
  | 0 => lv0_ tk (prt_ tk f m d)
  | 1 => lv1_ tk (prt_ tk f m d)
  | 2 => lv2_ tk (prt_ tk f m d)
  | 3 => lv3_ tk (prt_ tk f m d)
  | _ => prt_ tk f m d
theorem exs_s {tk : Nat → TK_} {f m d : Nat} : ∀ lev : Nat, lev < 4 → exs_ tk f m d lev = lvl_ tk (opl_ lev) (if lev = 1 then 1 else 1000) (exs_ tk f m d (lev + 1))
  | 0, _ => rfl
  | 1, _ => rfl
  | 2, _ => rfl
  | 3, _ => rfl
  | k + 4, h => by omega
theorem opl_c {lev : Nat} {t : TK_} {c : Int} (h : opl_ lev t = some c) : (4 ≤ c ∧ c ≤ 10) ∧ t.1 ≠ 0 := by
  have w2 : ∀ {x y c : Int} {P Q : Prop}, (P → t.1 ≠ 0) → (Q → t.1 ≠ 0) → (4 ≤ x ∧ x ≤ 10) → (4 ≤ y ∧ y ≤ 10) → if_ P (some x) (if_ Q (some y) none) = some c → (4 ≤ c ∧ c ≤ 10) ∧ t.1 ≠ 0 := by
    intro x y c P Q hp hq hx hy e
    by_cases p : P
    · rw [if_t p] at e; injection e with e; exact ⟨by omega, hp p⟩
    · rw [if_f p] at e
      by_cases q : Q
      · rw [if_t q] at e; injection e with e; exact ⟨by omega, hq q⟩
      · rw [if_f q] at e; cases e
  have hS : ∀ c, isS_ t c → t.1 ≠ 0 := fun c u => by rw [u.1]; decide
  have hW : ∀ w, isW_ t w → t.1 ≠ 0 := fun w u => by rw [u.1]; decide
  match lev, h with
  | 0, h => exact w2 (hW 20) (hW 21) (by decide) (by decide) h
  | 1, h => exact w2 (hS 60) (hS 61) (by decide) (by decide) h
  | 2, h => exact w2 (hS 43) (hS 45) (by decide) (by decide) h
  | k + 3, h =>
    have h : if_ (isS_ t 42) (some 6) none = some c := h
    by_cases p : isS_ t 42
    · rw [if_t p] at h; injection h with h; exact ⟨by omega, hS _ p⟩
    · rw [if_f p] at h; cases h
theorem cnv_o {c : Int} (h : 4 ≤ c ∧ c ≤ 10) : 20001 ≤ cnv_ (c, 0) ∧ cnv_ (c, 0) ≤ 20007 := by
  have : c = 4 ∨ c = 5 ∨ c = 6 ∨ c = 7 ∨ c = 8 ∨ c = 9 ∨ c = 10 := by omega
  rcases this with rfl | rfl | rfl | rfl | rfl | rfl | rfl <;> decide
theorem opz_s {lev : Nat} {t : TK_} (h : opz_ (opl_ lev t) ≠ -1) : ∃ c, opl_ lev t = some c := by
  cases e : opl_ lev t with
  | none => rw [e] at h; exact absurd rfl h
  | some c => exact ⟨c, rfl⟩
theorem opz_n {lev : Nat} {t : TK_} (h : opz_ (opl_ lev t) = -1) : opl_ lev t = none := by
  cases e : opl_ lev t with
  | none => rfl
  | some c => rw [e] at h; have h : cnv_ (c, 0) = -1 := h; have := cnv_o (opl_c e).1; omega
theorem opz_b {lev : Nat} {t : TK_} : -1 ≤ opz_ (opl_ lev t) ∧ opz_ (opl_ lev t) ≤ 20007 := by
  cases e : opl_ lev t with
  | none => show -1 ≤ (-1 : Int) ∧ (-1 : Int) ≤ _; omega
  | some c => have := cnv_o (opl_c e).1; show _ ≤ cnv_ (c, 0) ∧ cnv_ (c, 0) ≤ _; omega
theorem op_0 {t : TK_} {z : Int} (hz : z = ixn_ t (wix_ 11) 0) : opz_ (op0_ t) = if z = -1 then -1 else 20001 + z := by
  have e : ixn_ t (wix_ 11) 0 = if_ (isW_ t 20) 0 (if_ (isW_ t 21) 1 (-1)) := rfl
  rw [hz, e]
  unfold op0_
  by_cases c : isW_ t 20
  · rw [if_t c, if_t c]; rfl
  · rw [if_f c, if_f c]
    by_cases c2 : isW_ t 21
    · rw [if_t c2, if_t c2]; rfl
    · rw [if_f c2, if_f c2]; rfl
/-- codes written one behind another -/
def wrc_ (f : Int → Int) (L : Int) : CO_ → Int → Int
  | [] => f
  | q :: l => wrc_ (ob_ f L (cnv_ q)) (L + 1) l
theorem wrc_a : ∀ {l k : CO_} {f : Int → Int} {L : Int}, wrc_ f L (l ++ k) = wrc_ (wrc_ f L l) (L + l.length) k
  | [], k, f, L => by show wrc_ f L k = wrc_ f (L + (0 : Nat)) k; rw [show L + ((0 : Nat) : Int) = L by omega]
  | q :: l, k, f, L => by
    show wrc_ (ob_ f L (cnv_ q)) (L + 1) (l ++ k) = wrc_ (wrc_ (ob_ f L (cnv_ q)) (L + 1) l) (L + ((l.length + 1 : Nat) : Int)) k
    rw [wrc_a (l := l), show L + 1 + (l.length : Int) = L + ((l.length + 1 : Nat) : Int) by omega]
theorem wrc_1 {f : Int → Int} {L : Int} {q : Int × Int} : wrc_ f L [q] = ob_ f L (cnv_ q) := rfl
def XFR_ (o : Nat) (h h' : PH_) : Prop := off_ [1, 3, o + 8, o + 9] h h' ∧ (∀ k, k ≠ 3 → h' 3 k = h 3 k) ∧ h' 1 2 = h 1 2 ∧ (∀ k, k ≠ 3 → h' (o + 8) k = h (o + 8) k)
theorem XFR_rf {o : Nat} {h : PH_} : XFR_ o h h := ⟨off_rf, fun _ _ => rfl, rfl, fun _ _ => rfl⟩
theorem XFR_tr {o : Nat} {a b c : PH_} (h1 : XFR_ o a b) (h2 : XFR_ o b c) : XFR_ o a c := ⟨off_tr h1.1 h2.1, fun k k1 => (h2.2.1 k k1).trans (h1.2.1 k k1), h2.2.2.1.trans h1.2.2.1, fun k k1 => (h2.2.2.2 k k1).trans (h1.2.2.2 k k1)⟩
theorem XFR_3 {o : Nat} {ks : List Int} {a b : PH_} (ho : is6_ o) (h : fr3_ ks a b) (hk : ∀ k, k ∈ ks → k = 3) : XFR_ o a b := ⟨off_mo h.1 (by simp), fun k k1 => h.2.1 k (fun u => k1 (hk k u)), h.2.2, fun k _ => by rw [h.1 (o + 8) (by simp)]⟩
theorem XFR_p {o : Nat} {a b : PH_} (ho : is6_ o) (h : off_ [o + 8, o + 9] a b) (e : ∀ k, k ≠ 3 → b (o + 8) k = a (o + 8) k) : XFR_ o a b := ⟨off_mo h (by simp), fun k _ => by rw [h 3 (by simp)], by rw [h 1 (by simp)], e⟩
def XCR_ (tp : Int → Int) (n : Int) (o : Nat) (h : PH_) (a : Nat) (X : CR_) (z : Int) (h' : PH_) : Prop := (z = 1 ∧ ∃ q, X = .ok q ∧ CPO_ tp n h' q.2 ∧ (q.2 : Int) ≤ n ∧ (q.1.length + a ≤ q.2 ∧ a < q.2) ∧ h' (o + 8) 3 = h (o + 8) 3 + q.1.length ∧ h' (o + 9) = wrc_ (h (o + 9)) (h (o + 8) 3) q.1) ∨ (z = 0 ∧ ∃ e, X = .error e ∧ h' 3 3 = e ∧ 0 < e)
def EXC_ (tp : Int → Int) (n : Int) (o fj : Nat) (h : PH_) (a : Nat) : Prop := CPO_ tp n h a ∧ h 3 1 = (o : Int) ∧ h 3 2 = ((3000 + fj : Nat) : Int) ∧ (0 ≤ h (o + 8) 3 ∧ h (o + 8) 3 ≤ a)
def FJ_ (fj f m : Nat) : Prop := (2 ≤ fj ∧ fj < 15) ∧ f + m ≤ 30 ∧ wix_ fj = List.range' f m ∧ 20 ≤ f
def kpar_ (G : GT_) (tp : Int → Int) (n : Int) (o fj f m d : Nat) : Prop := ∀ (h : PH_) (a : Nat) (v : Int), v = 5 - (d : Int) → EXC_ tp n o fj h a → PC G yX5_part cX5_part 6 (some .boolean) (7 + 6 * d) [rr_ G 3, ii_ v] h (qi_ (fun z h' => XFR_ o h h' ∧ XCR_ tp n o h a (prt_ (tk_ tp n) f m d a) z h'))
def kexp_ (G : GT_) (tp : Int → Int) (n : Int) (o fj f m d lev : Nat) : Prop := ∀ (h : PH_) (a : Nat) (v w : Int), v = 5 - (d : Int) → w = (lev : Int) → EXC_ tp n o fj h a → PC G yX5_expression cX5_expression 5 (some .boolean) (12 + 6 * d - lev) [rr_ G 3, ii_ v, ii_ w] h (qi_ (fun z h' => XFR_ o h h' ∧ XCR_ tp n o h a (exs_ (tk_ tp n) f m d lev a) z h'))
theorem EXC_mv {tp : Int → Int} {n : Int} {o fj : Nat} {h h' : PH_} {a b : Nat} (E : EXC_ tp n o fj h a) (f : XFR_ o h h') (H : CPO_ tp n h' b) (hL : 0 ≤ h' (o + 8) 3 ∧ h' (o + 8) 3 ≤ b) : EXC_ tp n o fj h' b := ⟨H, by rw [f.2.1 1 (by decide)]; exact E.2.1, by rw [f.2.1 2 (by decide)]; exact E.2.2.1, hL⟩
theorem prt_s {tk : Nat → TK_} {f m d a : Nat} : prt_ tk f m (d + 1) a = if_ (bgs_ (tk a) f m) (if_ (isW_ (tk a) 19) (pnt_ (prt_ tk f m d (a + 1))) (if_ (isS_ (tk a) 40) (pcl2_ tk (lv0_ tk (prt_ tk f m d) (a + 1))) (if_ ((tk a).1 = 2) (.ok ([(1, (tk a).2.2.1)], a + 1)) (.ok ([(2, fcw_ (tk a) f m)], a + 1))))) (.error (flt_ tk 1 a)) := by rw [prt_]

set_option maxHeartbeats 4000000 in
set_option maxRecDepth 100000 in
theorem d_operatorOf {G : GT_} (hC : okC_ G) (h : PH_) (tp : Int → Int) (n : Int) (a : Nat) (H : CPO_ tp n h a) (lev : Nat) (hlev : lev < 4) (w : Int) (hw : w = (lev : Int)) : PC G yX5_operatorOf cX5_operatorOf 3 (some .int) 6 [rr_ G 3, ii_ w] h (qi_ (fun z h' => h = h' ∧ z = opz_ (opl_ lev (tk_ tp n a)))) := by
  have HB := CPO_b H
  have kk := ckd_k (tk_ tp n a).1
  rw [← HB.2.2.2.2.1.1] at kk
  have ib := ixn_b (t := tk_ tp n a) (wix_ 11) 0 (by decide)
  have il : (wix_ 11).length = 2 := by decide +kernel
  refine PC.of (lv := [some (rr_ G 3), some (ii_ w), none]) (by decide +kernel) (Nat.le_of_ble_eq_true rfl) rfl rfl ?_
  refine pw_iload_n (z := w) (pc := 0) dX5_operatorOf_0 rfl rfl ?_
  refine pw_if_ne (t := 30) (pc := 1) dX5_operatorOf_1 (by decide) (by first | omega) (fun c1 => ?_) (fun c1 => ?_)
  · refine pw_iload_n (z := w) (pc := 30) dX5_operatorOf_30 rfl rfl ?_
    refine pw_iconst (pc := 31) dX5_operatorOf_31 ?_
    refine pw_icmp_ne (t := 73) (pc := 32) dX5_operatorOf_32 (by decide) (by first | omega) (by first | omega) (fun c32 => ?_) (fun c32 => ?_)
    · refine pw_iload_n (z := w) (pc := 73) dX5_operatorOf_73 rfl rfl ?_
      refine pw_iconst (pc := 74) dX5_operatorOf_74 ?_
      refine pw_icmp_ne (t := 116) (pc := 75) dX5_operatorOf_75 (by decide) (by first | omega) (by first | omega) (fun c75 => ?_) (fun c75 => ?_)
      · refine pw_aload_n (z := 3) (pc := 116) dX5_operatorOf_116 rfl rfl ?_
        refine pw_getR (r := 1) (pc := 117) dX5_operatorOf_117 fX5_17 (hC 3 (by decide)) (show kd_ 3 = 15 by decide +kernel) rfl (by decide +kernel) ?_
        refine pw_bipush (pc := 120) dX5_operatorOf_120 rfl ?_
        refine pw_callV (c := 8) (o := 1) (As := [ii_ 42]) (rest := []) (pc := 122) dX5_operatorOf_122 (d_isSign hC h (tk_ tp n a) HB.2.2.2.2.1 42 (by first | omega)) lX5_107 mX8_isSign vX8_isSign (hC 1 (by decide)) (show kd_ 1 = 18 by decide +kernel) rfl rfl rfl (by decide) ⟨Nat.zero_le _, Nat.zero_le _⟩ (Nat.le_of_ble_eq_true rfl) (k_i (fun z122 h122 y122 q122 => ?_))
        obtain ⟨rfl, ⟨rfl, p122⟩ | ⟨rfl, p122⟩⟩ := q122
        · refine pw_if_eq (t := 134) (pc := 125) dX5_operatorOf_125 (by decide) (by first | omega) (fun c125 => absurd c125 (by decide)) (fun _ => ?_)
          refine pw_sipush (pc := 128) dX5_operatorOf_128 rfl ?_
          refine pw_goto (t := 135) (pc := 131) dX5_operatorOf_131 (by decide) ?_
          exact pw_iret (pc := 135) dX5_operatorOf_135 (by first | omega) (⟨rfl, by
              first
              | (obtain rfl : lev = 0 := by omega
                 show _ = opz_ (op0_ _)
                 rw [op_0 w11]
                 first | rw [if_pos (by omega)] | rw [if_neg (by omega)])
              | (obtain rfl : lev = 1 := by omega
                 show _ = opz_ (op1_ _)
                 unfold op1_
                 first | (rw [if_t p41]; decide) | (rw [if_f p41, if_t p59]; decide) | (rw [if_f p41, if_f p59]; rfl))
              | (obtain rfl : lev = 2 := by omega
                 show _ = opz_ (op2_ _)
                 unfold op2_
                 first | (rw [if_t p84]; decide) | (rw [if_f p84, if_t p102]; decide) | (rw [if_f p84, if_f p102]; rfl))
              | (obtain rfl : lev = 3 := by omega
                 show _ = opz_ (op3_ _)
                 unfold op3_
                 first | (rw [if_t p122]; decide) | (rw [if_f p122]; rfl))⟩)
        · refine pw_if_eq (t := 134) (pc := 125) dX5_operatorOf_125 (by decide) (by first | omega) (fun _ => ?_) (fun c125 => absurd c125 (by decide))
          refine pw_iconst (pc := 134) dX5_operatorOf_134 ?_
          exact pw_iret (pc := 135) dX5_operatorOf_135 (by first | omega) (⟨rfl, by
              first
              | (obtain rfl : lev = 0 := by omega
                 show _ = opz_ (op0_ _)
                 rw [op_0 w11]
                 first | rw [if_pos (by omega)] | rw [if_neg (by omega)])
              | (obtain rfl : lev = 1 := by omega
                 show _ = opz_ (op1_ _)
                 unfold op1_
                 first | (rw [if_t p41]; decide) | (rw [if_f p41, if_t p59]; decide) | (rw [if_f p41, if_f p59]; rfl))
              | (obtain rfl : lev = 2 := by omega
                 show _ = opz_ (op2_ _)
                 unfold op2_
                 first | (rw [if_t p84]; decide) | (rw [if_f p84, if_t p102]; decide) | (rw [if_f p84, if_f p102]; rfl))
              | (obtain rfl : lev = 3 := by omega
                 show _ = opz_ (op3_ _)
                 unfold op3_
                 first | (rw [if_t p122]; decide) | (rw [if_f p122]; rfl))⟩)
      · refine pw_aload_n (z := 3) (pc := 78) dX5_operatorOf_78 rfl rfl ?_
        refine pw_getR (r := 1) (pc := 79) dX5_operatorOf_79 fX5_17 (hC 3 (by decide)) (show kd_ 3 = 15 by decide +kernel) rfl (by decide +kernel) ?_
        refine pw_bipush (pc := 82) dX5_operatorOf_82 rfl ?_
        refine pw_callV (c := 8) (o := 1) (As := [ii_ 43]) (rest := []) (pc := 84) dX5_operatorOf_84 (d_isSign hC h (tk_ tp n a) HB.2.2.2.2.1 43 (by first | omega)) lX5_107 mX8_isSign vX8_isSign (hC 1 (by decide)) (show kd_ 1 = 18 by decide +kernel) rfl rfl rfl (by decide) ⟨Nat.zero_le _, Nat.zero_le _⟩ (Nat.le_of_ble_eq_true rfl) (k_i (fun z84 h84 y84 q84 => ?_))
        obtain ⟨rfl, ⟨rfl, p84⟩ | ⟨rfl, p84⟩⟩ := q84
        · refine pw_if_eq (t := 96) (pc := 87) dX5_operatorOf_87 (by decide) (by first | omega) (fun c87 => absurd c87 (by decide)) (fun _ => ?_)
          refine pw_sipush (pc := 90) dX5_operatorOf_90 rfl ?_
          refine pw_goto (t := 115) (pc := 93) dX5_operatorOf_93 (by decide) ?_
          exact pw_iret (pc := 115) dX5_operatorOf_115 (by first | omega) (⟨rfl, by
              first
              | (obtain rfl : lev = 0 := by omega
                 show _ = opz_ (op0_ _)
                 rw [op_0 w11]
                 first | rw [if_pos (by omega)] | rw [if_neg (by omega)])
              | (obtain rfl : lev = 1 := by omega
                 show _ = opz_ (op1_ _)
                 unfold op1_
                 first | (rw [if_t p41]; decide) | (rw [if_f p41, if_t p59]; decide) | (rw [if_f p41, if_f p59]; rfl))
              | (obtain rfl : lev = 2 := by omega
                 show _ = opz_ (op2_ _)
                 unfold op2_
                 first | (rw [if_t p84]; decide) | (rw [if_f p84, if_t p102]; decide) | (rw [if_f p84, if_f p102]; rfl))
              | (obtain rfl : lev = 3 := by omega
                 show _ = opz_ (op3_ _)
                 unfold op3_
                 first | (rw [if_t p122]; decide) | (rw [if_f p122]; rfl))⟩)
        · refine pw_if_eq (t := 96) (pc := 87) dX5_operatorOf_87 (by decide) (by first | omega) (fun _ => ?_) (fun c87 => absurd c87 (by decide))
          refine pw_aload_n (z := 3) (pc := 96) dX5_operatorOf_96 rfl rfl ?_
          refine pw_getR (r := 1) (pc := 97) dX5_operatorOf_97 fX5_17 (hC 3 (by decide)) (show kd_ 3 = 15 by decide +kernel) rfl (by decide +kernel) ?_
          refine pw_bipush (pc := 100) dX5_operatorOf_100 rfl ?_
          refine pw_callV (c := 8) (o := 1) (As := [ii_ 45]) (rest := []) (pc := 102) dX5_operatorOf_102 (d_isSign hC h (tk_ tp n a) HB.2.2.2.2.1 45 (by first | omega)) lX5_107 mX8_isSign vX8_isSign (hC 1 (by decide)) (show kd_ 1 = 18 by decide +kernel) rfl rfl rfl (by decide) ⟨Nat.zero_le _, Nat.zero_le _⟩ (Nat.le_of_ble_eq_true rfl) (k_i (fun z102 h102 y102 q102 => ?_))
          obtain ⟨rfl, ⟨rfl, p102⟩ | ⟨rfl, p102⟩⟩ := q102
          · refine pw_if_eq (t := 114) (pc := 105) dX5_operatorOf_105 (by decide) (by first | omega) (fun c105 => absurd c105 (by decide)) (fun _ => ?_)
            refine pw_sipush (pc := 108) dX5_operatorOf_108 rfl ?_
            refine pw_goto (t := 115) (pc := 111) dX5_operatorOf_111 (by decide) ?_
            exact pw_iret (pc := 115) dX5_operatorOf_115 (by first | omega) (⟨rfl, by
              first
              | (obtain rfl : lev = 0 := by omega
                 show _ = opz_ (op0_ _)
                 rw [op_0 w11]
                 first | rw [if_pos (by omega)] | rw [if_neg (by omega)])
              | (obtain rfl : lev = 1 := by omega
                 show _ = opz_ (op1_ _)
                 unfold op1_
                 first | (rw [if_t p41]; decide) | (rw [if_f p41, if_t p59]; decide) | (rw [if_f p41, if_f p59]; rfl))
              | (obtain rfl : lev = 2 := by omega
                 show _ = opz_ (op2_ _)
                 unfold op2_
                 first | (rw [if_t p84]; decide) | (rw [if_f p84, if_t p102]; decide) | (rw [if_f p84, if_f p102]; rfl))
              | (obtain rfl : lev = 3 := by omega
                 show _ = opz_ (op3_ _)
                 unfold op3_
                 first | (rw [if_t p122]; decide) | (rw [if_f p122]; rfl))⟩)
          · refine pw_if_eq (t := 114) (pc := 105) dX5_operatorOf_105 (by decide) (by first | omega) (fun _ => ?_) (fun c105 => absurd c105 (by decide))
            refine pw_iconst (pc := 114) dX5_operatorOf_114 ?_
            exact pw_iret (pc := 115) dX5_operatorOf_115 (by first | omega) (⟨rfl, by
              first
              | (obtain rfl : lev = 0 := by omega
                 show _ = opz_ (op0_ _)
                 rw [op_0 w11]
                 first | rw [if_pos (by omega)] | rw [if_neg (by omega)])
              | (obtain rfl : lev = 1 := by omega
                 show _ = opz_ (op1_ _)
                 unfold op1_
                 first | (rw [if_t p41]; decide) | (rw [if_f p41, if_t p59]; decide) | (rw [if_f p41, if_f p59]; rfl))
              | (obtain rfl : lev = 2 := by omega
                 show _ = opz_ (op2_ _)
                 unfold op2_
                 first | (rw [if_t p84]; decide) | (rw [if_f p84, if_t p102]; decide) | (rw [if_f p84, if_f p102]; rfl))
              | (obtain rfl : lev = 3 := by omega
                 show _ = opz_ (op3_ _)
                 unfold op3_
                 first | (rw [if_t p122]; decide) | (rw [if_f p122]; rfl))⟩)
    · refine pw_aload_n (z := 3) (pc := 35) dX5_operatorOf_35 rfl rfl ?_
      refine pw_getR (r := 1) (pc := 36) dX5_operatorOf_36 fX5_17 (hC 3 (by decide)) (show kd_ 3 = 15 by decide +kernel) rfl (by decide +kernel) ?_
      refine pw_bipush (pc := 39) dX5_operatorOf_39 rfl ?_
      refine pw_callV (c := 8) (o := 1) (As := [ii_ 60]) (rest := []) (pc := 41) dX5_operatorOf_41 (d_isSign hC h (tk_ tp n a) HB.2.2.2.2.1 60 (by first | omega)) lX5_107 mX8_isSign vX8_isSign (hC 1 (by decide)) (show kd_ 1 = 18 by decide +kernel) rfl rfl rfl (by decide) ⟨Nat.zero_le _, Nat.zero_le _⟩ (Nat.le_of_ble_eq_true rfl) (k_i (fun z41 h41 y41 q41 => ?_))
      obtain ⟨rfl, ⟨rfl, p41⟩ | ⟨rfl, p41⟩⟩ := q41
      · refine pw_if_eq (t := 53) (pc := 44) dX5_operatorOf_44 (by decide) (by first | omega) (fun c44 => absurd c44 (by decide)) (fun _ => ?_)
        refine pw_sipush (pc := 47) dX5_operatorOf_47 rfl ?_
        refine pw_goto (t := 72) (pc := 50) dX5_operatorOf_50 (by decide) ?_
        exact pw_iret (pc := 72) dX5_operatorOf_72 (by first | omega) (⟨rfl, by
              first
              | (obtain rfl : lev = 0 := by omega
                 show _ = opz_ (op0_ _)
                 rw [op_0 w11]
                 first | rw [if_pos (by omega)] | rw [if_neg (by omega)])
              | (obtain rfl : lev = 1 := by omega
                 show _ = opz_ (op1_ _)
                 unfold op1_
                 first | (rw [if_t p41]; decide) | (rw [if_f p41, if_t p59]; decide) | (rw [if_f p41, if_f p59]; rfl))
              | (obtain rfl : lev = 2 := by omega
                 show _ = opz_ (op2_ _)
                 unfold op2_
                 first | (rw [if_t p84]; decide) | (rw [if_f p84, if_t p102]; decide) | (rw [if_f p84, if_f p102]; rfl))
              | (obtain rfl : lev = 3 := by omega
                 show _ = opz_ (op3_ _)
                 unfold op3_
                 first | (rw [if_t p122]; decide) | (rw [if_f p122]; rfl))⟩)
      · refine pw_if_eq (t := 53) (pc := 44) dX5_operatorOf_44 (by decide) (by first | omega) (fun _ => ?_) (fun c44 => absurd c44 (by decide))
        refine pw_aload_n (z := 3) (pc := 53) dX5_operatorOf_53 rfl rfl ?_
        refine pw_getR (r := 1) (pc := 54) dX5_operatorOf_54 fX5_17 (hC 3 (by decide)) (show kd_ 3 = 15 by decide +kernel) rfl (by decide +kernel) ?_
        refine pw_bipush (pc := 57) dX5_operatorOf_57 rfl ?_
        refine pw_callV (c := 8) (o := 1) (As := [ii_ 61]) (rest := []) (pc := 59) dX5_operatorOf_59 (d_isSign hC h (tk_ tp n a) HB.2.2.2.2.1 61 (by first | omega)) lX5_107 mX8_isSign vX8_isSign (hC 1 (by decide)) (show kd_ 1 = 18 by decide +kernel) rfl rfl rfl (by decide) ⟨Nat.zero_le _, Nat.zero_le _⟩ (Nat.le_of_ble_eq_true rfl) (k_i (fun z59 h59 y59 q59 => ?_))
        obtain ⟨rfl, ⟨rfl, p59⟩ | ⟨rfl, p59⟩⟩ := q59
        · refine pw_if_eq (t := 71) (pc := 62) dX5_operatorOf_62 (by decide) (by first | omega) (fun c62 => absurd c62 (by decide)) (fun _ => ?_)
          refine pw_sipush (pc := 65) dX5_operatorOf_65 rfl ?_
          refine pw_goto (t := 72) (pc := 68) dX5_operatorOf_68 (by decide) ?_
          exact pw_iret (pc := 72) dX5_operatorOf_72 (by first | omega) (⟨rfl, by
              first
              | (obtain rfl : lev = 0 := by omega
                 show _ = opz_ (op0_ _)
                 rw [op_0 w11]
                 first | rw [if_pos (by omega)] | rw [if_neg (by omega)])
              | (obtain rfl : lev = 1 := by omega
                 show _ = opz_ (op1_ _)
                 unfold op1_
                 first | (rw [if_t p41]; decide) | (rw [if_f p41, if_t p59]; decide) | (rw [if_f p41, if_f p59]; rfl))
              | (obtain rfl : lev = 2 := by omega
                 show _ = opz_ (op2_ _)
                 unfold op2_
                 first | (rw [if_t p84]; decide) | (rw [if_f p84, if_t p102]; decide) | (rw [if_f p84, if_f p102]; rfl))
              | (obtain rfl : lev = 3 := by omega
                 show _ = opz_ (op3_ _)
                 unfold op3_
                 first | (rw [if_t p122]; decide) | (rw [if_f p122]; rfl))⟩)
        · refine pw_if_eq (t := 71) (pc := 62) dX5_operatorOf_62 (by decide) (by first | omega) (fun _ => ?_) (fun c62 => absurd c62 (by decide))
          refine pw_iconst (pc := 71) dX5_operatorOf_71 ?_
          exact pw_iret (pc := 72) dX5_operatorOf_72 (by first | omega) (⟨rfl, by
              first
              | (obtain rfl : lev = 0 := by omega
                 show _ = opz_ (op0_ _)
                 rw [op_0 w11]
                 first | rw [if_pos (by omega)] | rw [if_neg (by omega)])
              | (obtain rfl : lev = 1 := by omega
                 show _ = opz_ (op1_ _)
                 unfold op1_
                 first | (rw [if_t p41]; decide) | (rw [if_f p41, if_t p59]; decide) | (rw [if_f p41, if_f p59]; rfl))
              | (obtain rfl : lev = 2 := by omega
                 show _ = opz_ (op2_ _)
                 unfold op2_
                 first | (rw [if_t p84]; decide) | (rw [if_f p84, if_t p102]; decide) | (rw [if_f p84, if_f p102]; rfl))
              | (obtain rfl : lev = 3 := by omega
                 show _ = opz_ (op3_ _)
                 unfold op3_
                 first | (rw [if_t p122]; decide) | (rw [if_f p122]; rfl))⟩)
  · refine pw_aload_n (z := 3) (pc := 4) dX5_operatorOf_4 rfl rfl ?_
    refine pw_getR (r := 1) (pc := 5) dX5_operatorOf_5 fX5_17 (hC 3 (by decide)) (show kd_ 3 = 15 by decide +kernel) rfl (by decide +kernel) ?_
    refine pw_ldcsw 11 (pc := 8) dX5_operatorOf_8 rfl ?_
    refine pw_callV (c := 8) (o := 1) (As := [rr_ G 3011]) (rest := []) (pc := 11) dX5_operatorOf_11 (d_wordAmong hC h 11 (by decide) (by decide) (tk_ tp n a) HB.2.2.2.2.1 (CPO_lk H)) lX5_42 mX8_wordAmong vX8_wordAmong (hC 1 (by decide)) (show kd_ 1 = 18 by decide +kernel) rfl rfl rfl (by decide) ⟨Nat.zero_le _, Nat.zero_le _⟩ (Nat.le_of_ble_eq_true rfl) (k_i (fun z11 h11 y11 q11 => ?_))
    obtain ⟨rfl, w11⟩ := q11
    refine pw_istore_n (lv1 := [some (rr_ G 3), some (ii_ w), some (ii_ z11)]) (pc := 14) dX5_operatorOf_14 rfl (by decide) rfl rfl ?_
    refine pw_iload_n (z := z11) (pc := 15) dX5_operatorOf_15 rfl rfl ?_
    refine pw_iconst (pc := 16) dX5_operatorOf_16 ?_
    refine pw_icmp_ne (t := 24) (pc := 17) dX5_operatorOf_17 (by decide) (by first | omega) (by first | omega) (fun c17 => ?_) (fun c17 => ?_)
    · refine pw_sipush (pc := 24) dX5_operatorOf_24 rfl ?_
      refine pw_iload_n (z := z11) (pc := 27) dX5_operatorOf_27 rfl rfl ?_
      refine pw_iadd (pc := 28) dX5_operatorOf_28 ?_
      exact pw_iret (pc := 29) dX5_operatorOf_29 (by first | omega) (⟨rfl, by
              first
              | (obtain rfl : lev = 0 := by omega
                 show _ = opz_ (op0_ _)
                 rw [op_0 w11]
                 first | rw [if_pos (by omega)] | rw [if_neg (by omega)])
              | (obtain rfl : lev = 1 := by omega
                 show _ = opz_ (op1_ _)
                 unfold op1_
                 first | (rw [if_t p41]; decide) | (rw [if_f p41, if_t p59]; decide) | (rw [if_f p41, if_f p59]; rfl))
              | (obtain rfl : lev = 2 := by omega
                 show _ = opz_ (op2_ _)
                 unfold op2_
                 first | (rw [if_t p84]; decide) | (rw [if_f p84, if_t p102]; decide) | (rw [if_f p84, if_f p102]; rfl))
              | (obtain rfl : lev = 3 := by omega
                 show _ = opz_ (op3_ _)
                 unfold op3_
                 first | (rw [if_t p122]; decide) | (rw [if_f p122]; rfl))⟩)
    · refine pw_iconst (pc := 20) dX5_operatorOf_20 ?_
      refine pw_goto (t := 29) (pc := 21) dX5_operatorOf_21 (by decide) ?_
      exact pw_iret (pc := 29) dX5_operatorOf_29 (by first | omega) (⟨rfl, by
              first
              | (obtain rfl : lev = 0 := by omega
                 show _ = opz_ (op0_ _)
                 rw [op_0 w11]
                 first | rw [if_pos (by omega)] | rw [if_neg (by omega)])
              | (obtain rfl : lev = 1 := by omega
                 show _ = opz_ (op1_ _)
                 unfold op1_
                 first | (rw [if_t p41]; decide) | (rw [if_f p41, if_t p59]; decide) | (rw [if_f p41, if_f p59]; rfl))
              | (obtain rfl : lev = 2 := by omega
                 show _ = opz_ (op2_ _)
                 unfold op2_
                 first | (rw [if_t p84]; decide) | (rw [if_f p84, if_t p102]; decide) | (rw [if_f p84, if_f p102]; rfl))
              | (obtain rfl : lev = 3 := by omega
                 show _ = opz_ (op3_ _)
                 unfold op3_
                 first | (rw [if_t p122]; decide) | (rw [if_f p122]; rfl))⟩)

