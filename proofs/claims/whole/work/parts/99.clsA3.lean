/-! ===== constructors that end in the world of the reference's cells ===== -/
def qh_ (G : GT_) (n : Nat) (Q : PH_ → Prop) : Array Value → State → Outcome → State → Prop := fun _ st oc t => (oc = .returned none ∧ t.heap.size = gb_ G + n ∧ ∃ h' : PH_, Q h' ∧ nr_ h' ∧ va_P (gd_ G) vwCl (nw_ (gb_ G) (ee_ G h') n) t.heap) ∧ va_F (ag_ G) st t
def zh2_ (G : GT_) (nc ns n : Nat) (Q : PH_ → Prop) : List Frame → Array Value → State → State → Prop := fun below args s => MQ below (qh_ G n Q) args s nc ns (ag_ G)
def KQ (G : GT_) (y : MethodName) (cc : ByteArray) (mL d nc ns : Nat) (av : List Value) (n : Nat) (E : Nat → va_E) (n' : Nat) (Q : PH_ → Prop) : Prop :=
  Met (gl_ G) y (.code y cc mL none :: gt_) { frames := d, cells := nc, slots := ns, locals := 60 * d } (va_Pc av (fun U => U.heap.size = gb_ G + n ∧ va_P (gd_ G) vwCl (nw_ (gb_ G) E n) U.heap ∧ va_K (gd_ G) vwCl (tys_ G) U ∧ stR_ G U U.heap)) (qh_ G n' Q) nc ns (ag_ G)
theorem KQ.of {G : GT_} {y : MethodName} {cc : ByteArray} {mL d nc ns : Nat} {av : List Value} {n n' : Nat} {E : Nat → va_E} {Q : PH_ → Prop} {lv : List (Option Value)}
    (hy : plainName y.cls = true) (hi : y.name = "<init>") (hn : (lg_sl av).length ≤ mL) (hl : la_ av ++ List.replicate (mL - (la_ av).length) none = lv) (hlen : lv.length = mL)
    (k : PN G y.cls cc mL none true { frames := d, cells := nc, slots := ns, locals := 60 * d } 0 0 (zh2_ G nc ns n' Q) 0 lv [] n E) : KQ G y cc mL d nc ns av n E n' Q := by
  refine Met.ofW (cc := cc) (maxL := mL) (ret := none) hy rfl ?_
  intro p e s m args below meth c s₁ B hml hv
  obtain ⟨rfl, hz, hP, hK, hSt⟩ := hv
  have hts0 := atoms_spec (ws := .code y cc mL none :: gt_) B.pre
  have hown : s.vm.findClass y.cls = some m.cls := findClass_of_methodNamed B.named
  have hin : meth.name = "<init>" := (name_of_methodNamed B.named B.method).1.trans hi
  have hle := lv_entry av (n := mL) hn
  rw [lg_entry_eq]
  generalize (lg_sl av ++ List.replicate (mL - (lg_sl av).length) Slot.unset).toArray = ls at hle ⊢
  refine k p e s m _ below meth c s.heap [] ls ⟨B.exec, B.bytes, hml, B.returns, B.notSynchronized, hown, fun a w hw => word_at (State.WarmedH.refl s) (good_of_word (List.all_eq_true.mp tb_good w hw)) (hts0 w (List.mem_cons_of_mem _ hw)), hK, fun _ => hin, by rw [hz]; exact Nat.le_add_right _ _, hSt⟩ ⟨hz, hz⟩ hP va_S.rf ⟨hle.1, hle.2.1, hlen, fun i v hi => ?_⟩
  refine hle.2.2 (i, v) (la_args av 0 [] rfl i v (Nat.zero_le _) ?_)
  rw [← hl] at hi
  by_cases hb1 : i < (la_ av).length
  · rw [List.getElem?_append_left hb1] at hi
    simpa using hi
  · rw [List.getElem?_append_right (by omega)] at hi
    have := List.mem_of_getElem? hi
    simp at this
section PNZ
variable {G : GT_} {own : String} {cc : ByteArray} {nL : Nat} {rt : Option FieldType} {ic : Bool} {R : Room} {cs ss : Nat} {Zf : List Frame → Array Value → State → State → Prop} {pc : Nat} {lv : List (Option Value)} {st rest : List Value} {n : Nat} {E : Nat → va_E}
theorem n_vretQ {nc ns : Nat} {Q : PH_ → Prop} {h : PH_} (hd : decode cc pc = .ok (.return_, 1)) (hc : cs ≤ nc) (hs : ss ≤ ns) (hq : Q h) (hn : nr_ h) : PN G own cc nL none ic R cs ss (zh2_ G nc ns n Q) pc lv [] n (ee_ G h) := by
  intro p e s m args below meth cd H locs ls X Z P S L
  exact W.widen hc hs (W.vret (Qc := qh_ G n Q) X.1 X.2.1 X.2.2.2.1 (fun t ht hW => ⟨⟨rfl, by rw [ht]; exact Z.1, h, hq, hn, by rw [ht]; exact P⟩, S.F ht⟩) S.2.2 hd X.2.2.2.2.1)
theorem n_callQ {y : MethodName} {bytes : ByteArray} {mL d nc ns idx a n' : Nat} {As : List Value} {Q : PH_ → Prop} (hd : decode cc pc = .ok (.invokespecial idx, 3)) (hM : KQ G y bytes mL d nc ns (.ref a :: As) n E n' Q) (hn' : n' = n + nc) (hl : Cond.methodLink own idx y ∈ gt_) (hcd : Cond.code y bytes mL none ∈ gt_) (hini : Cond.initialized y.cls ∈ gt_) (hins : Cond.instanceMethod y ∈ gt_) (hy1 : y.name = "<init>") (hy : y.cls ≠ "java/lang/invoke/MethodHandle" ∧ y.cls ≠ "java/lang/invoke/VarHandle" ∧ (parseMethodDescriptor y.desc).map (fun d => d.parameters.length) = some As.length) (hst : st = As.reverse ++ .ref a :: rest) (hR : d + 1 ≤ R.frames ∧ 19 + mL + 60 * d ≤ R.locals) (hR2 : cs + nc ≤ R.cells ∧ ss + ns ≤ R.slots) (hcat : (rest.map fun v => v.category).sum ≤ 8)
    (k : ∀ h' : PH_, Q h' → nr_ h' → PN G own cc nL rt ic R (cs + nc) (ss + ns) Zf (pc + 3) lv rest n' (ee_ G h')) : PN G own cc nL rt ic R cs ss Zf pc lv st n E := by
  intro p e s m args below meth cd H locs ls X Z P S L
  subst hst
  have hts := X.2.2.2.2.2.2.1 args
  have hrun := va_runI (p := p) (l := gl_ G) (e := e) (R := R) (s := s) (m := m) (args := args) (below := below) (meth := meth) (c := cd) (H := H) (locs := locs) (cells := cs) (slots := ss) (g := F0 m pc ls (As.reverse ++ .ref a :: rest)) (As := As) (rest := rest) (b := a) (own := own) (Ts := gt_) (nL := nL) ⟨X.1, X.2.1, X.2.2.1, X.2.2.2.2.2.1, hts⟩ hM (cwI As.length hts (tb_in0 hcd) rfl rfl rfl (hts _ hini) (hts _ hl) (hts _ hins) hy1 hy ⟨hR.1, by show 8 + (mL + 11) + 60 * d ≤ R.locals; omega⟩) ⟨kn_blind, fun U hU hW => ⟨rfl, by rw [hU]; exact Z.1, by rw [hU]; exact P, va_K.moved hW.alike X.2.2.2.2.2.2.2.1, stR_moved X.2.2.2.2.2.2.2.2.2.2 hW (fun a h1 h2 => by rw [hU]; exact S.2.1 a h1 h2)⟩⟩ rfl rfl L.1 rfl (lv_room hcat) hd hR2
  intro T hT X0
  obtain ⟨v, st₀, t, T', L1, h0, X', hL, e1, e2, ⟨⟨hv, hz', h9, hq9, hn9, hp'⟩, hz, hk'⟩, go⟩ := hrun T hT X0
  cases hv
  rw [h0] at hz hk'
  have hS1 : va_S (ag_ G) s.heap T'.heap (locs ++ L1) := by
    refine ⟨Nat.le_trans S.1 (by rw [e1]; exact hz), fun q h1 h2 => ?_, fun q hq => ?_⟩
    · rw [e1, hk' q (Nat.lt_of_lt_of_le h1 S.1) h2]; exact S.2.1 q h1 h2
    · rcases List.mem_append.mp hq with h | h
      · exact S.2.2 q h
      · exact hL q h
  obtain ⟨t2, a1, b1⟩   := k h9 hq9 hn9 p e s m args below meth cd T'.heap (locs ++ L1) ls X ⟨by rw [e1]; exact hz', by have := Z.2; omega⟩ (by rw [e1]; exact hp') hS1 L T' rfl X'
  exact ⟨t2, go t2 a1, b1⟩
end PNZ

