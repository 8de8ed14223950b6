/-! ===== constructors of nest mates ===== -/
def nsN_ : List Cond := [.methodLinkNest RX11 9 yX8_init RX11, .methodLinkNest RX11 27 yX6_init RX11, .methodLinkNest RX11 37 yX10_init RX11, .methodLinkNest RX11 47 yX3_init RX11, .methodLinkNest RX11 62 yX7_init RX11, .methodLinkNest RX11 82 yX1_init RX11, .methodLinkNest RX11 89 yX4_init RX11, .methodLinkNest RX11 96 yX9_init RX11, .methodLinkNest RX11 103 yX0_init RX11, .methodLinkNest RX3 11 yX7_init RX11, .methodLinkNest RX6 36 yX2_init RX11]
def gN_ (G : GT_) : Prop := ∀ (U : State) (H : Heap), gx_ G U H → ∀ w ∈ nsN_, va_Nw w U
theorem nsN_t : ∀ w ∈ nsN_, w ∈ lw_tbl := by decide +kernel
theorem oi_i : Cond.instanceMethod Lib.objectInit ∈ gt_ := List.mem_filter.mpr ⟨by decide +kernel, by decide +kernel⟩
theorem oi_c : Cond.code Lib.objectInit ⟨#[0xb1]⟩ 1 none ∈ gt_ := List.mem_filter.mpr ⟨by decide +kernel, by decide +kernel⟩
theorem ac_i : Cond.arrayClass .int ∈ gt_ := List.mem_filter.mpr ⟨by decide +kernel, by decide +kernel⟩
theorem ac_j : Cond.arrayClass .long ∈ gt_ := List.mem_filter.mpr ⟨by decide +kernel, by decide +kernel⟩
theorem ac_z : Cond.arrayClass .boolean ∈ gt_ := List.mem_filter.mpr ⟨by decide +kernel, by decide +kernel⟩
theorem ac_c : Cond.arrayClass .char ∈ gt_ := List.mem_filter.mpr ⟨by decide +kernel, by decide +kernel⟩
section PNN
variable {G : GT_} {own : String} {cc : ByteArray} {nL : Nat} {rt : Option FieldType} {ic : Bool} {R : Room} {cs ss : Nat} {Zf : List Frame → Array Value → State → State → Prop} {pc : Nat} {lv : List (Option Value)} {st rest : List Value} {n : Nat} {E : Nat → va_E}
theorem n_callN {y : MethodName} {bytes : ByteArray} {mL d nc ns idx a n' : Nat} {As : List Value} {E' : Nat → va_E} (hN : gN_ G) (hd : decode cc pc = .ok (.invokespecial idx, 3)) (hM : KN G y bytes mL d nc ns (.ref a :: As) n E n' E') (hn' : n' = n + nc) (hl : Cond.methodLinkNest own idx y RX11 ∈ nsN_) (hcd : Cond.code y bytes mL none ∈ gt_) (hini : Cond.initialized y.cls ∈ gt_) (hins : Cond.instanceMethod y ∈ gt_) (hy1 : y.name = "<init>") (hy : y.cls ≠ "java/lang/invoke/MethodHandle" ∧ y.cls ≠ "java/lang/invoke/VarHandle" ∧ (parseMethodDescriptor y.desc).map (fun d => d.parameters.length) = some As.length) (hst : st = As.reverse ++ .ref a :: rest) (hR : d + 1 ≤ R.frames ∧ 19 + mL + 60 * d ≤ R.locals) (hR2 : cs + nc ≤ R.cells ∧ ss + ns ≤ R.slots) (hcat : (rest.map fun v => v.category).sum ≤ 8)
    (k : PN G own cc nL rt ic R (cs + nc) (ss + ns) Zf (pc + 3) lv rest n' E') : PN G own cc nL rt ic R cs ss Zf pc lv st n E := by
  intro p e s m args below meth cd H locs ls X Z P S L
  subst hst
  have hts := X.2.2.2.2.2.2.1 args
  have hw := hN _ _ X.2.2.2.2.2.2.2.2.2.2.1.2.2.2.2.1 _ hl
  have hrun := va_runIN (p := p) (l := gl_ G) (e := e) (R := R) (s := s) (m := m) (args := args) (below := below) (meth := meth) (c := cd) (H := H) (locs := locs) (cells := cs) (slots := ss) (g := F0 m pc ls (As.reverse ++ .ref a :: rest)) (As := As) (rest := rest) (b := a) (own := own) (host := RX11) (Ts := gt_) (nL := nL) ⟨X.1, X.2.1, X.2.2.1, X.2.2.2.2.2.1, hts⟩ hM ⟨va_cnB As.length hts (tb_in0 hcd) rfl rfl rfl hw (hts _ hini) hy ⟨hR.1, by show 8 + (mL + 11) + 60 * d ≤ R.locals; omega⟩, hy1, hts _ hins⟩ ⟨kn_blind, fun U hU hW => ⟨rfl, by rw [hU]; exact Z.1, by rw [hU]; exact P, va_K.moved hW.alike X.2.2.2.2.2.2.2.1, stR_moved X.2.2.2.2.2.2.2.2.2.2 hW (fun a h1 h2 => by rw [hU]; exact S.2.1 a h1 h2)⟩⟩ rfl rfl L.1 rfl (lv_room hcat) hd hR2
  intro T hT X0
  obtain ⟨v, st₀, t, T', L1, h0, X', hL, e1, e2, ⟨⟨hv, hz', hp'⟩, hz, hk'⟩, go⟩ := hrun T hT X0
  cases hv
  rw [h0] at hz hk'
  have hS1 : va_S (ag_ G) s.heap T'.heap (locs ++ L1) := by
    refine ⟨Nat.le_trans S.1 (by rw [e1]; exact hz), fun q h1 h2 => ?_, fun q hq => ?_⟩
    · rw [e1, hk' q (Nat.lt_of_lt_of_le h1 S.1) h2]; exact S.2.1 q h1 h2
    · rcases List.mem_append.mp hq with h | h
      · exact S.2.2 q h
      · exact hL q h
  obtain ⟨t2, a1, b1⟩ := k p e s m args below meth cd T'.heap (locs ++ L1) ls X ⟨by rw [e1]; exact hz', by have := Z.2; omega⟩ (by rw [e1]; exact hp') hS1 L T' rfl X'
  exact ⟨t2, go t2 a1, b1⟩
end PNN

