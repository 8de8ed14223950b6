/-! ===== .. its rows ===== -/
theorem kn_blind {G : GT_} {av : List Value} {n : Nat} {E : Nat → va_E} : FrameBlind (va_Pc av (fun U => U.heap.size = gb_ G + n ∧ va_P (gd_ G) vwCl (nw_ (gb_ G) E n) U.heap ∧ va_K (gd_ G) vwCl (tys_ G) U ∧ stR_ G U U.heap)) := by
  intro a U g mk hp
  obtain ⟨h1, h2, h3, h4, h5⟩ := hp
  refine ⟨h1, h2, h3, va_K.moved (u := U) (U := U.calling g mk a) (Vm.Alike.refl U.vm) h4, ⟨vk_S.moved (u := U) (U := U.calling g mk a) (Vm.Alike.refl U.vm) h5.1.1, va_Nw.same rfl (u := U) (U := U.calling g mk a) rfl h5.1.2.1, va_Z.moved (u := U) (U := U.calling g mk a) (Vm.Alike.refl U.vm) h5.1.2.2.1, va_Zq.moved (u := U) (U := U.calling g mk a) (Vm.Alike.refl U.vm) h5.1.2.2.2.1, h5.1.2.2.2.2.2 U (U.calling g mk a) U.heap U.heap h5.1.2.2.2.2.1 (State.WarmedH.refl U) (fun _ _ _ => rfl), h5.1.2.2.2.2.2⟩, fun j q hj => vk_R.same (u := U) (U := U.calling g mk a) rfl (h5.2 j q hj)⟩
section PNS
variable {G : GT_} {own : String} {cc : ByteArray} {nL : Nat} {rt : Option FieldType} {ic : Bool} {R : Room} {cs ss : Nat} {Zf : List Frame → Array Value → State → State → Prop} {pc : Nat} {lv : List (Option Value)} {st rest : List Value} {n : Nat} {E : Nat → va_E}
theorem n_iconst {z : Int} (hd : decode cc pc = .ok (.iconst z, 1)) (k : PN G own cc nL rt ic R cs ss Zf (pc + 1) lv (ii_ z :: st) n E) : PN G own cc nL rt ic R cs ss Zf pc lv st n E := by
  intro p e s m args below meth cd H locs ls X Z P S L
  exact lv_iconst X.1 X.2.1 hd rfl (k p e s m args below meth cd H locs ls X Z P S L)
theorem n_bipush {z : Int} (hd : decode cc pc = .ok (.bipush z, 2)) (hv : (Int8.ofInt z).toInt32 = Int32.ofInt z) (k : PN G own cc nL rt ic R cs ss Zf (pc + 2) lv (ii_ z :: st) n E) : PN G own cc nL rt ic R cs ss Zf pc lv st n E := by
  intro p e s m args below meth cd H locs ls X Z P S L
  exact lv_bipush X.1 X.2.1 hd hv (k p e s m args below meth cd H locs ls X Z P S L)
theorem n_sipush {z : Int} (hd : decode cc pc = .ok (.sipush z, 3)) (hv : (Int16.ofInt z).toInt32 = Int32.ofInt z) (k : PN G own cc nL rt ic R cs ss Zf (pc + 3) lv (ii_ z :: st) n E) : PN G own cc nL rt ic R cs ss Zf pc lv st n E := by
  intro p e s m args below meth cd H locs ls X Z P S L
  exact lv_sipush X.1 X.2.1 hd hv (k p e s m args below meth cd H locs ls X Z P S L)
theorem n_new {idx c N : Nat} {C : String} {T : u_T} (ty : Nat → FieldType) (fs : List Value) (hd : decode cc pc = .ok (.new idx, 3)) (hcl : Cond.classLink own idx C ∈ gt_) (hin : Cond.instantiable C N ∈ gt_) (hini : Cond.initialized C ∈ gt_) (hc : vwCl[c]? = some (C, T, N)) (hty : ∀ k, k < N → parseFieldDescriptor (T k).2.2.1 = some (ty k)) (hfs : ∀ j, j < N → defaultValue (ty j) = vp_V fs j) (hR : cs + 1 ≤ R.cells ∧ ss + N ≤ R.slots)
    (k : PN G own cc nL rt ic R (cs + 1) (ss + N) Zf (pc + 3) lv (.ref (gb_ G + n) :: st) (n + 1) (eS_ E n (.inr (c, fs)))) : PN G own cc nL rt ic R cs ss Zf pc lv st n E := by
  intro p e s m args below meth cd H locs ls X Z P S L
  have hts := X.2.2.2.2.2.2.1 args
  have hKn := X.2.2.2.2.2.2.2.1.1 c _ hc
  refine W.newcK X.1 X.2.1 X.2.2.2.2.2.1 (hts _ hcl) (hts _ hin) (hts _ hini) rfl hd hR.1 hR.2 hKn.2.1 Z.1 fun H1 kC hkC e1 z1 o1 => ?_
  refine k p e s m args below meth cd H1 locs ls X ⟨by rw [z1]; omega, by have := Z.2; omega⟩ ?_ ⟨Nat.le_trans S.1 (by have := Z.1; omega), fun x h1 h2 => (o1 x (by have := S.1; have := Z.1; omega)).trans (S.2.1 x h1 h2), S.2.2⟩ L
  rw [← nw_push]
  refine (P.kept (fun k x hx => o1 x.1 (by have := (P k x hx).lt; have := Z.1; omega))).app (fun k x hx => ?_)
  have hz9 : k < 1 := (List.getElem?_eq_some_iff.mp hx).1
  rw [show k = 0 by omega] at hx
  cases hx
  exact ⟨_, hc, (u_born ty hts (cl_ok c C T N hc).1 hKn hkC e1 hty).to hfs⟩
/-- a constructor is called -/
theorem n_call {y : MethodName} {bytes : ByteArray} {mL d nc ns idx a n' : Nat} {As : List Value} {E' : Nat → va_E} (hd : decode cc pc = .ok (.invokespecial idx, 3)) (hM : KN G y bytes mL d nc ns (.ref a :: As) n E n' E') (hn' : n' = n + nc) (hl : Cond.methodLink own idx y ∈ gt_) (hcd : Cond.code y bytes mL none ∈ gt_) (hini : Cond.initialized y.cls ∈ gt_) (hins : Cond.instanceMethod y ∈ gt_) (hy1 : y.name = "<init>") (hy : y.cls ≠ "java/lang/invoke/MethodHandle" ∧ y.cls ≠ "java/lang/invoke/VarHandle" ∧ (parseMethodDescriptor y.desc).map (fun d => d.parameters.length) = some As.length) (hst : st = As.reverse ++ .ref a :: rest) (hR : d + 1 ≤ R.frames ∧ 19 + mL + 60 * d ≤ R.locals) (hR2 : cs + nc ≤ R.cells ∧ ss + ns ≤ R.slots) (hcat : (rest.map fun v => v.category).sum ≤ 8)
    (k : PN G own cc nL rt ic R (cs + nc) (ss + ns) Zf (pc + 3) lv rest n' E') : PN G own cc nL rt ic R cs ss Zf pc lv st n E := by
  intro p e s m args below meth cd H locs ls X Z P S L
  subst hst
  have hts := X.2.2.2.2.2.2.1 args
  have hrun := va_runI (p := p) (l := gl_ G) (e := e) (R := R) (s := s) (m := m) (args := args) (below := below) (meth := meth) (c := cd) (H := H) (locs := locs) (cells := cs) (slots := ss) (g := F0 m pc ls (As.reverse ++ .ref a :: rest)) (As := As) (rest := rest) (b := a) (own := own) (Ts := gt_) (nL := nL) ⟨X.1, X.2.1, X.2.2.1, X.2.2.2.2.2.1, hts⟩ hM (cwI As.length hts (tb_in0 hcd) rfl rfl rfl (hts _ hini) (hts _ hl) (hts _ hins) hy1 hy ⟨hR.1, by show 8 + (mL + 11) + 60 * d ≤ R.locals; omega⟩) ⟨kn_blind, fun U hU hW => ⟨rfl, by rw [hU]; exact Z.1, by rw [hU]; exact P, va_K.moved hW.alike X.2.2.2.2.2.2.2.1, stR_moved X.2.2.2.2.2.2.2.2.2.2 hW (fun a h1 h2 => by rw [hU]; exact S.2.1 a h1 h2)⟩⟩ rfl rfl L.1 rfl (lv_room hcat) hd hR2
  intro T hT X0
  obtain ⟨v, st₀, t, T', L1, h0, X', hL, e1, e2, ⟨⟨hv, hz', hp'⟩, hz, hk'⟩, go⟩ := hrun T hT X0
  cases hv
  rw [h0] at hz hk'
  have hS1 : va_S (ag_ G) s.heap T'.heap (locs ++ L1) := by
    refine ⟨Nat.le_trans S.1 (by rw [e1]; exact hz), fun q h1 h2 => ?_, fun q hq => ?_⟩
    · rw [e1, hk' q (Nat.lt_of_lt_of_le h1 S.1) h2]; exact S.2.1 q h1 h2
    · rcases List.mem_append.mp hq with h | h
      · exact S.2.2 q h
      · exact hL q h
  obtain ⟨t2, a1, b1⟩ := k p e s m args below meth cd T'.heap (locs ++ L1) ls X ⟨by rw [e1]; exact hz', by have := Z.2; omega⟩ (by rw [e1]; exact hp') hS1 L T' rfl X'
  exact ⟨t2, go t2 a1, b1⟩
end PNS

