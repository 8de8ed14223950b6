/-! ===== methods that may throw ===== -/
def rx_ (d : Nat) : Room := { frames := d, cells := 1, slots := 6, locals := 60 * d }
def xq_ (G : GT_) (Q : Option Value → PH_ → Prop) : Array Value → State → Outcome → State → Prop := fun _ st oc t => (∃ (r : Option Value) (h' : PH_), oc = .returned r ∧ Q r h' ∧ ph_ G h' t.heap) ∧ va_F (ag_ G) st t
def xx_ (G : GT_) (Qx : PH_ → Prop) : String → State → State → Prop := fun E st t => E = nse_ ∧ (∃ h' : PH_, Qx h' ∧ ph_ G h' t.heap) ∧ va_F (ag_ G) st t
/-- a contract of a method that returns or throws -/
def PCX (G : GT_) (y : MethodName) (cc : ByteArray) (mL : Nat) (rt : Option FieldType) (d : Nat) (av : List Value) (h : PH_) (Q : Option Value → PH_ → Prop) (Qx : PH_ → Prop) : Prop :=
  vx_Met (gl_ G) y (.code y cc mL rt :: gt_) (rx_ d) (va_Pc av (fun U => pr_ G h U)) (xq_ G Q) (xx_ G Qx) 1 6 (ag_ G)
def nmd_ (y : MethodName) (below : List Frame) (args : Array Value) (s : State) : Prop := ∀ m : MethodId, s.frames = .invoking m args :: below → s.methodNamed? y = some m
def zx_ (G : GT_) (y : MethodName) (Q : Option Value → PH_ → Prop) (Qx : PH_ → Prop) : List Frame → Array Value → State → State → Prop := fun below args s t => nmd_ y below args s → vx_MQ below (xq_ G Q) (xx_ G Qx) args s 1 6 (ag_ G) t
def nsB_ : List Cond := ((nsA_ RX11 155).filter vx_no).filter (fun w => !goodWord w)
/-- what the launch and the world must hold for a throw -/
def gX_ (G : GT_) : Prop := (gl_ G).stackTraces = false ∧ ∀ (U : State) (H : Heap), gx_ G U H → vx_Zq Bundle.tN "UNASSIGNED_STACK" Bundle.steD (ag_ G) U H ∧ vx_Zq Bundle.tN "SUPPRESSED_SENTINEL" Bundle.listD (ag_ G) U H ∧ ∀ w ∈ nsB_, va_Nw w U
theorem ph_ext {G : GT_} {h : PH_} {H H1 : Heap} (P : ph_ G h H) (e : ∀ q : Nat, q < H.size → H1[q]? = H[q]?) : ph_ G h H1 := ⟨P.1.kept (fun k q hk => e q.1 (P.1 k q hk).lt), P.2.1, P.2.2⟩
theorem pw_zx {G : GT_} {own : String} {cc : ByteArray} {nL : Nat} {rt : Option FieldType} {R : Room} {cs ss : Nat} {y : MethodName} {Q : Option Value → PH_ → Prop} {Qx : PH_ → Prop} {pc : Nat} {lv : List (Option Value)} {st : List Value} {h : PH_} (k : PW G own cc nL rt R cs ss (zm_ G Q) pc lv st h) : PW G own cc nL rt R cs ss (zx_ G y Q Qx) pc lv st h := by
  intro p e s m args below meth cd H locs ls X P S L T hT X0
  obtain ⟨t, a1, o, b2, b3, b4, LL, b5, b6⟩ := k p e s m args below meth cd H locs ls X P S L T hT X0
  exact ⟨t, a1, fun _ => ⟨o, b2, b3, Or.inl ⟨b4, LL, ⟨b5.1, b5.2.1, b5.2.2.mono (Nat.zero_le _) (Nat.zero_le _)⟩, b6⟩⟩⟩
theorem PCX.of {G : GT_} {y : MethodName} {cc : ByteArray} {mL : Nat} {rt : Option FieldType} {d : Nat} {av : List Value} {h : PH_} {Q : Option Value → PH_ → Prop} {Qx : PH_ → Prop} {lv : List (Option Value)}
    (hy : plainName y.cls = true) (hn : (lg_sl av).length ≤ mL) (hl : la_ av ++ List.replicate (mL - (la_ av).length) none = lv) (hlen : lv.length = mL)
    (k : PW G y.cls cc mL rt (rx_ d) 0 0 (zx_ G y Q Qx) 0 lv [] h) : PCX G y cc mL rt d av h Q Qx := by
  refine vx_ofW (cc := cc) (maxL := mL) (ret := rt) hy rfl ?_
  intro p e s m args below meth c s₁ B hml htab hv
  obtain ⟨rfl, hP, hK, hb, hS⟩ := hv
  have hts0 := atoms_spec (ws := .code y cc mL rt :: gt_) B.pre
  have hown : s.vm.findClass y.cls = some m.cls := findClass_of_methodNamed B.named
  have hle := lv_entry av (n := mL) hn
  have hnm := B.named
  rw [lg_entry_eq]
  generalize (lg_sl av ++ List.replicate (mL - (lg_sl av).length) Slot.unset).toArray = ls at hle ⊢
  intro T hT X0
  obtain ⟨t, a1, b1⟩ := k p e s m _ below meth c s.heap [] ls ⟨B.exec, B.bytes, hml, B.returns, B.notSynchronized, hown, fun w hw => hts0 w (List.mem_cons_of_mem _ hw), hK, hb, hS⟩ hP va_S.rf ⟨hle.1, hle.2.1, hlen, fun i v hi => by
    refine hle.2.2 (i, v) (la_args av 0 [] rfl i v (Nat.zero_le _) ?_)
    rw [← hl] at hi
    by_cases hb1 : i < (la_ av).length
    · rw [List.getElem?_append_left hb1] at hi
      simpa using hi
    · rw [List.getElem?_append_right (by omega)] at hi
      have := List.mem_of_getElem? hi
      simp at this⟩ T hT X0
  refine ⟨t, a1, b1 (fun m' hm' => ?_)⟩
  have e1 := X0.frames.symm.trans hm'
  have e2 : m = m' := by injection e1 with e3 _; injection e3
  rw [← e2]; exact hnm
theorem nse_t : ∀ w ∈ ((nsA_ RX11 155).filter vx_no).filter goodWord, w ∈ lw_tbl := by decide +kernel
theorem nse_g : ∀ w ∈ (nsA_ RX11 155).filter vx_no, vx_ot w = true := by decide +kernel
theorem nse_b : ∀ w ∈ nsB_, w.onTables = true := by decide +kernel
theorem nse_k : Cond.classLink RX11 151 nse_ ∈ gt_ ∧ Cond.initialized nse_ ∈ gt_ := by
  refine ⟨List.mem_filter.mpr ⟨?_, ?_⟩, List.mem_filter.mpr ⟨?_, ?_⟩⟩ <;> decide +kernel
/-- a throw of this class with a text -/
theorem pw_throwS {G : GT_} {cc : ByteArray} {nL : Nat} {rt : Option FieldType} {d : Nat} {y : MethodName} {Q : Option Value → PH_ → Prop} {Qx : PH_ → Prop} {pc is j : Nat} {text : String} {lv : List (Option Value)} {h : PH_}
    (d0 : decode cc pc = .ok (.new 151, 3)) (d3 : decode cc (pc + 3) = .ok (.dup, 1)) (d4 : decode cc (pc + 4) = .ok (.ldc is, 2)) (d6 : decode cc (pc + 6) = .ok (.invokespecial 155, 3)) (d9 : decode cc (pc + 9) = .ok (.athrow, 1))
    (hX : gX_ G) (hyc : Cond.code y cc nL rt ∈ gt_) (hd : 6 ≤ d) (hs : stT_[j]? = some (RX11, is, text)) (hq : Qx h) : PW G RX11 cc nL rt (rx_ d) 0 0 (zx_ G y Q Qx) pc lv [] h := by
  intro p e s m args below meth cd H locs ls X P S L T hT X0
  by_cases hn : nmd_ y below args s
  case neg => exact ⟨_, Steps.refl _, fun u => absurd u hn⟩
  have hm := hn m X0.frames
  have hts := X.2.2.2.2.2.2.1
  have hexec := X.1
  have tb : ∀ x ∈ cd.exceptionTable.toList, covers x (pc + 9) = false := by
    obtain ⟨meth9, c9, h1, h2, -, -, -, -, h7, -⟩ := Cond.code_spec hm (hts _ hyc)
    cases Option.some.inj (h1.symm.trans X0.method)
    cases Option.some.inj (h2.symm.trans X0.code)
    intro x hx
    rw [Array.isEmpty_iff.mp h7] at hx
    cases hx
  have hS := X.2.2.2.2.2.2.2.2.2
  obtain ⟨hU, hN, hB⟩ := hX.2 _ _ hS.1.2.2.2.2.1
  have hat : ∀ w ∈ (nsA_ RX11 155).filter vx_no, w.before args s = true := fun w hw => by
    by_cases g : goodWord w = true
    · exact hts w (List.mem_filter.mpr ⟨nse_t w (List.mem_filter.mpr ⟨hw, g⟩), g⟩)
    · have hb : w ∈ nsB_ := List.mem_filter.mpr ⟨hw, by cases hg : goodWord w; rfl; exact absurd hg g⟩
      exact va_tabs (nse_b w hb) rfl (hB w hb)
  have htr : e.platform.stackTraces = false := (show e.platform.stackTraces = (gl_ G).stackTraces by rw [X0.admits.platform]).trans hX.1
  have Y := vx_rebase X0 (R' := { frames := d, locals := 60 * d, cells := 1, slots := 6 }) (Nat.le_refl _) (Nat.le_refl _) (Nat.le_refl _) (Nat.le_refl _)
  obtain ⟨s', hA⟩ : ∃ z, z = (T.setVm s.vm).setFrames (.invoking m args :: below) := ⟨_, rfl⟩
  rw [← hA] at Y
  have hvm : s'.vm = s.vm := by rw [hA]; rfl
  have hhp : s'.heap = H := by rw [hA]; exact hT
  have hW0 : s.WarmedH s'.vm := by rw [hvm]; exact State.WarmedH.refl s
  have hat' : ∀ w ∈ (nsA_ RX11 155).filter vx_no, w.before args s' = true := fun w hw => vx_ot_at hW0 hvm.symm (nse_g w hw) (hat w hw)
  have hk' : (Cond.classLink RX11 151 nse_).before args s' = true := vx_ot_at hW0 hvm.symm (by decide +kernel) (hts _ nse_k.1)
  have hini' : (Cond.initialized nse_).before args s' = true := vx_ot_at hW0 hvm.symm (by decide +kernel) (hts _ nse_k.2)
  have hU' : vx_Zq Bundle.tN "UNASSIGNED_STACK" Bundle.steD (ag_ G) s' s'.heap := by rw [hhp]; exact vx_Zq.moved hW0.alike (hU.kept S.2.1)
  have hN' : vx_Zq Bundle.tN "SUPPRESSED_SENTINEL" Bundle.listD (ag_ G) s' s'.heap := by rw [hhp]; exact vx_Zq.moved hW0.alike (hN.kept S.2.1)
  have hw : ∀ w ∈ nsA_ RX11 155, w.before args s' = true := vx_own hat' (vx_isRefq hU'.1) (vx_isRefq hN'.1) hU'.2.word hN'.2.word
  have hown' : s'.vm.findClass RX11 = some m.cls := by rw [hvm]; exact X.2.2.2.2.2.1
  have hins : (Cond.instantiable nse_ 6).before args s' = true := hw _ (by simp [nsA_, nsT_])
  obtain ⟨vm₁, cX, kX, hfX, hkX, -, -, X₁, st1⟩ := Y.newCold hexec (own := RX11) (C := nse_) (index := 151) (n := 6) hown' hk' hins hini'
    (g := F0 m pc ls []) rfl (by rw [X.2.1]; exact d0) (Nat.le_refl _) (Nat.le_refl _)
  generalize hT1 : (T.setVm vm₁).pushCell { cls := cX, slots := kX.instanceTypes.map defaultValue, vm := .none } = T1 at X₁ st1
  have hcat : (Value.ref T.heap.size).category = 1 := rfl
  have hcellA : T1.heap[T.heap.size]? = some (freshCell cX kX) := by rw [← hT1]; exact State.heap_pushCell_size _ _
  have d3' : decode cd.code (pc + 3) = .ok (.dup, 1) := by rw [X.2.1]; exact d3
  have d4' : decode cd.code (pc + 4) = .ok (.ldc is, 2) := by rw [X.2.1]; exact d4
  have hstr' : vk_R RX11 is text (ga_ G (3000 + j)) s' := vk_R.warm hW0 (hS.2 j _ hs)
  obtain ⟨U, hsteps, hrun, hend, hW, hsame, ce, hce, hcl0, hcv⟩ := x_ctor X₁ hexec htr (own := RX11) (ic := 155) hown' hw (vx_isRefq hU'.1) (vx_isRefq hN'.1) (fun x hx => nomatch hx) hfX hkX hcellA (by rw [hhp, hT]; exact Nat.le_refl _) (msg := .ref (ga_ G (3000 + j))) rfl
    (g := { method := m, pc := pc + 6, locals := ls, stack := .ref (ga_ G (3000 + j)) :: .ref T.heap.size :: .ref T.heap.size :: [], locked := none }) rfl (L.1.trans X.2.2.1.symm) rfl rfl (rest := []) rfl
    (by rw [X.2.1]; exact d6) (by rw [X.2.1]; exact d9) tb (show 5 < d by omega) (show 2 * _ + ((([Value.ref T.heap.size] : List Value)).map fun v => v.category).sum + 81 ≤ 60 * d by simp only [List.map_cons, List.sum_cons, hcat, List.map_nil, List.sum_nil]; show 0 + (1 + 0) + 81 ≤ 60 * d; omega) X.2.2.2.2.1
  obtain ⟨f1, f2⟩ := vx_frame hsame
  rw [hhp] at f1 f2
  have hk : ∀ q : Nat, q < H.size → U.heap[q]? = H[q]? := fun q hq => f2 q hq (fun z hz => nomatch hz)
  have hWs : s.WarmedH U.vm := State.WarmedH.trans hW0 hW
  have hcl : s.vm.findClass nse_ = some ce.cls := by
    rw [hvm] at hcl0
    exact hcl0
  have hall : s.sameButNew ({ U with vm := s.vm } : State) locs 1 6 := by
    subst hA
    obtain ⟨e1, e2⟩ := hsame
    rw [State.setFrames_setFrames] at e1
    have h2 : (T.setVm s.vm).sameButNew ({ U with vm := s.vm } : State) [] (0 + 1) (0 + 6) := ⟨e1, e2⟩
    have h3 := X0.same.trans h2
    rw [List.append_nil] at h3
    exact h3.mono (Nat.le_refl _) (Nat.le_refl _)
  refine ⟨U, ?_, fun _ => ⟨.threw T.heap.size, hrun, hend, Or.inr ⟨T.heap.size, rfl, nse_, ce, locs, ⟨rfl, ⟨h, hq, ph_ext P hk⟩, Nat.le_trans S.1 f1, fun q h1 h2 => by rw [hk q (Nat.lt_of_lt_of_le h1 S.1)]; exact S.2.1 q h1 h2⟩, hce, hcv, hcl, hWs, hall, S.2.2⟩⟩⟩
  refine st1 _ ?_
  show Steps p.tables e below (T1.setTop { method := m, pc := pc + 3, locals := ls, stack := .ref T.heap.size :: [], locked := none }) _
  jvm_step X₁.here [X₁.here.top, hexec, d3', Value.category]
  exact X₁.ldcString hexec (own := RX11) (text := text) (index := is) (a := ga_ G (3000 + j)) hown' hstr'.1 hstr'.2
    (g := { method := m, pc := pc + 4, locals := ls, stack := .ref T.heap.size :: .ref T.heap.size :: [], locked := none }) rfl d4' _ hsteps

