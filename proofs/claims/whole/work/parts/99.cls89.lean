/-! ===== the law's own rows ===== -/
def zl_ (G : GT_) : List Frame → Array Value → State → State → Prop := fun below args s => MQ below (fun _ _ oc _ => oc = .returned (some (.int 1))) args s 601024 7293033 (ag_ G)
/-- the script lies outside of the world -/
def gS_ (G : GT_) (sb L : Nat) (xs : Nat → Int32) : Prop := ¬ ag_ G sb ∧ ∀ (U : State) (H : Heap), gx_ G U H → va_X sb L xs U H
def sv_ (xs : Nat → Int32) (x : Int) : Int := (xs x.toNat).toInt
theorem sv_r {xs : Nat → Int32} {x : Int} : ir_ (sv_ xs x) := ir_toInt _
def lsh_ (a b : Int) : Int := (Int64.ofInt a <<< ((Int32.ofInt b).toInt64 &&& 63)).toInt
def lnd_ (a b : Int) : Int := (Int64.ofInt a &&& Int64.ofInt b).toInt
def lor_ (a b : Int) : Int := (Int64.ofInt a ||| Int64.ofInt b).toInt
section PWL
variable {G : GT_} {own : String} {cc : ByteArray} {nL : Nat} {rt : Option FieldType} {R : Room} {cs ss : Nat} {Zf : List Frame → Array Value → State → State → Prop} {pc : Nat} {lv : List (Option Value)} {st rest : List Value} {h : PH_}
theorem pw_aloadQ_n {j : Fin 4} {i q : Nat} (hd : decode cc pc = .ok (.aload_n j, 1)) (hi : (j : Nat) = i) (hl : lv[i]? = some (some (.ref q))) (k : PW G own cc nL rt R cs ss Zf (pc + 1) lv (.ref q :: st) h) : PW G own cc nL rt R cs ss Zf pc lv st h := by
  intro p e s m args below meth cd H locs ls X P S L
  exact lv_aload_n X.1 X.2.1 hd hi (L.2.2.2 i _ hl) (k p e s m args below meth cd H locs ls X P S L)
theorem pw_sld {sb L : Nat} {xs : Nat → Int32} {x : Int} (hd : decode cc pc = .ok (.iaload, 1)) (hX : gS_ G sb L xs) (hL : L ≤ 3584) (h0 : 0 ≤ x) (h1 : x < L) (k : PW G own cc nL rt R cs ss Zf (pc + 1) lv (ii_ (sv_ xs x) :: st) h) : PW G own cc nL rt R cs ss Zf pc lv (ii_ x :: .ref sb :: st) h := by
  intro p e s m args below meth cd H locs ls X P S L'
  have g := hX.2 _ _ X.2.2.2.2.2.2.2.2.2.1.2.2.2.2.1
  have hb : sb < s.heap.size := by obtain ⟨scr, e1, -⟩ := g; exact (Array.getElem?_eq_some_iff.mp e1).1
  have h2 : ir_ x := by constructor <;> omega
  refine va_sld X.1 X.2.1 g hb hX.1 S (pi_of h0 h1 h2) hd ?_
  have kk := k p e s m args below meth cd H locs ls X P S L'
  unfold ii_ sv_ at kk
  rw [Int32.ofInt_toInt] at kk
  rw [i32_clamp h0 h2]
  exact kk
theorem pw_slen {sb L : Nat} {xs : Nat → Int32} (hd : decode cc pc = .ok (.arraylength, 1)) (hX : gS_ G sb L xs) (k : PW G own cc nL rt R cs ss Zf (pc + 1) lv (ii_ (L : Int) :: st) h) : PW G own cc nL rt R cs ss Zf pc lv (.ref sb :: st) h := by
  intro p e s m args below meth cd H locs ls X P S L'
  have g := hX.2 _ _ X.2.2.2.2.2.2.2.2.2.1.2.2.2.2.1
  have hb : sb < s.heap.size := by obtain ⟨scr, e1, -⟩ := g; exact (Array.getElem?_eq_some_iff.mp e1).1
  exact va_slen X.1 X.2.1 g hb hX.1 S hd (k p e s m args below meth cd H locs ls X P S L')
theorem pw_lshlW {a b : Int} (hd : decode cc pc = .ok (.lshl, 1)) (k : PW G own cc nL rt R cs ss Zf (pc + 1) lv (ll_ (lsh_ a b) :: st) h) : PW G own cc nL rt R cs ss Zf pc lv (ii_ b :: ll_ a :: st) h := by
  intro p e s m args below meth cd H locs ls X P S L
  refine lv_lshl X.1 X.2.1 hd rfl ?_
  have kk := k p e s m args below meth cd H locs ls X P S L
  unfold ll_ lsh_ at kk
  rw [Int64.ofInt_toInt] at kk
  exact kk
theorem pw_landW {a b : Int} (hd : decode cc pc = .ok (.land, 1)) (k : PW G own cc nL rt R cs ss Zf (pc + 1) lv (ll_ (lnd_ a b) :: st) h) : PW G own cc nL rt R cs ss Zf pc lv (ll_ b :: ll_ a :: st) h := by
  intro p e s m args below meth cd H locs ls X P S L
  refine lv_land X.1 X.2.1 hd ?_
  have kk := k p e s m args below meth cd H locs ls X P S L
  unfold ll_ lnd_ at kk
  rw [Int64.ofInt_toInt] at kk
  exact kk
theorem pw_lorW {a b : Int} (hd : decode cc pc = .ok (.lor, 1)) (k : PW G own cc nL rt R cs ss Zf (pc + 1) lv (ll_ (lor_ a b) :: st) h) : PW G own cc nL rt R cs ss Zf pc lv (ll_ b :: ll_ a :: st) h := by
  intro p e s m args below meth cd H locs ls X P S L
  refine lv_lor X.1 X.2.1 hd ?_
  have kk := k p e s m args below meth cd H locs ls X P S L
  unfold ll_ lor_ at kk
  rw [Int64.ofInt_toInt] at kk
  exact kk
theorem pw_lawret (hd : decode cc pc = .ok (.ireturn, 1)) (hc : cs ≤ 601024) (hs : ss ≤ 7293033) : PW G own cc nL (some .boolean) R cs ss (zl_ G) pc lv [ii_ 1] h := by
  intro p e s m args below meth cd H locs ls X P S L
  exact W.widen hc hs (W.zret (Qc := fun _ _ oc _ => oc = .returned (some (.int 1))) X.1 X.2.1 X.2.2.2.1 rfl (fun t ht hW => rfl) S.2.2 hd X.2.2.2.2.1)
/-- a helper is called -/
theorem pw_callH {y : MethodName} {bytes : ByteArray} {mL n idx d : Nat} {ry : Option FieldType} {As : List Value} {Q : Option Value → PH_ → Prop} {hh : List (Nat × Nat × Nat × Nat)}
    (hd : decode cc pc = .ok (.invokestatic idx, 3)) (hM : PCH G y bytes mL ry hh d As h Q) (hl : Cond.methodLink own idx y ∈ gt_) (hcw : Cond.codeWith y bytes mL ry hh ∈ gt_) (hi : Cond.initialized y.cls ∈ gt_) (hv : Cond.static y ∈ gt_) (hy : y.cls ≠ "java/lang/invoke/MethodHandle" ∧ y.cls ≠ "java/lang/invoke/VarHandle" ∧ (parseMethodDescriptor y.desc).map (fun d => d.parameters.length) = some n)
    (hn : As.length = n) (hst : st = As.reverse ++ rest) (hR : d + 1 ≤ R.frames ∧ 19 + mL + 60 * d ≤ R.locals) (hR2 : cs + 1 ≤ R.cells ∧ ss + 6 ≤ R.slots) (hcat : (rest.map fun v => v.category).sum ≤ 8)
    (k : ∀ (r : Option Value) (h' : PH_), Q r h' → PW G own cc nL rt R (cs + 1) (ss + 6) Zf (pc + 3) lv (r.toList ++ rest) h') : PW G own cc nL rt R cs ss Zf pc lv st h := by
  intro p e s m args below meth cd H locs ls X P S L T hT X0
  subst hst
  have hts := X.2.2.2.2.2.2.1
  have hrun := vx_runSX (p := p) (l := gl_ G) (e := e) (R := R) (s := s) (m := m) (args := args) (below := below) (meth := meth) (c := cd) (H := H) (locs := locs) (cells := cs) (slots := ss) (g := F0 m pc ls (As.reverse ++ rest)) (As := As) (rest := rest) (own := own) (Ts := gt_) (nL := nL) ⟨X.1, X.2.1, X.2.2.1, X.2.2.2.2.2.1, hts⟩ hM ⟨⟨rfl, rfl, hR.1, by show 8 + (mL + 11) + 60 * d ≤ R.locals; omega, pay_in hts (tb_in0 hcw), List.mem_cons_self⟩, hts _ hcw, hts _ hi, ⟨hy.1, hy.2.1⟩, fun sig hs => by
      have h2 := hy.2.2
      rw [hs] at h2
      exact (Option.some.inj h2).symm, hts _ hl, hts _ hv⟩ ⟨pr_blind, pw_pre X P S _⟩ rfl hn L.1 rfl (lv_room hcat) hd hR2
  rcases hrun T hT X0 with ⟨v, st₀, t, T', L1, h0, X', hL, e1, e2, ⟨⟨r, h', hv', hq, hp'⟩, hz, hk'⟩, go⟩ | ⟨q, st₀, t, T', L1, E, ce, h0, X', hL, e1, e2, hE, -⟩
  · cases hv'
    rw [h0] at hz hk'
    have hS1 : va_S (ag_ G) s.heap T'.heap (locs ++ L1) := by
      refine ⟨Nat.le_trans S.1 (by rw [e1]; exact hz), fun q h1 h2 => ?_, fun q hq => ?_⟩
      · rw [e1, hk' q (Nat.lt_of_lt_of_le h1 S.1) h2]; exact S.2.1 q h1 h2
      · rcases List.mem_append.mp hq with h | h
        · exact S.2.2 q h
        · exact hL q h
    obtain ⟨t2, a1, b1⟩ := k v h' hq p e s m args below meth cd T'.heap (locs ++ L1) ls X (by rw [e1]; exact hp') hS1 L T' rfl X'
    exact ⟨t2, go t2 a1, b1⟩
  · exact hE.elim
end PWL
theorem sth_rider : Cond.static yL_rider ∈ gt_ := List.mem_filter.mpr ⟨by decide +kernel, by decide +kernel⟩
theorem sth_most : Cond.static yL_most ∈ gt_ := List.mem_filter.mpr ⟨by decide +kernel, by decide +kernel⟩
theorem sth_worst : Cond.static yL_worst ∈ gt_ := List.mem_filter.mpr ⟨by decide +kernel, by decide +kernel⟩
theorem ini_L : Cond.initialized RL ∈ gt_ := List.mem_filter.mpr ⟨by decide +kernel, by decide +kernel⟩

