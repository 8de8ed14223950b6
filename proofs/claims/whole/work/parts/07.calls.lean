/-! ===== calls ===== -/
theorem tb_good : gt_.all goodWord = true := List.all_eq_true.mpr (fun w hw => (List.mem_filter.mp hw).2)
theorem tb_in {c c' : Cond} (hc : c' ∈ gt_) : GoodIn (c :: gt_) (c' :: gt_) := by
  have hg := List.all_eq_true.mp tb_good
  intro w hw
  rcases List.mem_cons.mp hw with rfl | h
  · exact ⟨List.mem_cons_of_mem _ hc, good_of_word (hg _ hc)⟩
  · exact ⟨List.mem_cons_of_mem _ h, good_of_word (hg _ h)⟩
theorem tb_in0 {c' : Cond} (hc : c' ∈ gt_) : GoodIn gt_ (c' :: gt_) := by
  have hg := List.all_eq_true.mp tb_good
  intro w hw
  rcases List.mem_cons.mp hw with rfl | h
  · exact ⟨hc, good_of_word (hg _ hc)⟩
  · exact ⟨h, good_of_word (hg _ h)⟩
/-- a method as it stands in the tables: its code, its class is ready, n parameters -/
def my_ (y : MethodName) (cc : ByteArray) (mL : Nat) (rt : Option FieldType) (n : Nat) : Prop := Cond.code y cc mL rt ∈ gt_ ∧ Cond.initialized y.cls ∈ gt_ ∧ (y.cls ≠ "java/lang/invoke/MethodHandle" ∧ y.cls ≠ "java/lang/invoke/VarHandle" ∧ (parseMethodDescriptor y.desc).map (fun d => d.parameters.length) = some n)
/-- .. an instance's -/
def mv_ (y : MethodName) : Prop := Cond.instanceMethod y ∈ gt_ ∧ Cond.selects y.cls y y ∈ gt_
theorem pr_blind {G : GT_} {h : PH_} {av : List Value} : FrameBlind (va_Pc av (fun U => pr_ G h U)) := by
  intro a U g mk hp
  obtain ⟨h1, h2, h3, h4, h5⟩ := hp
  refine ⟨h1, h2, va_K.moved (u := U) (U := U.calling g mk a) (Vm.Alike.refl U.vm) h3, h4, ⟨vk_S.moved (u := U) (U := U.calling g mk a) (Vm.Alike.refl U.vm) h5.1.1, va_Nw.same rfl (u := U) (U := U.calling g mk a) rfl h5.1.2.1, va_Z.moved (u := U) (U := U.calling g mk a) (Vm.Alike.refl U.vm) h5.1.2.2.1, va_Zq.moved (u := U) (U := U.calling g mk a) (Vm.Alike.refl U.vm) h5.1.2.2.2.1, h5.1.2.2.2.2.2 U (U.calling g mk a) U.heap U.heap h5.1.2.2.2.2.1 (State.WarmedH.refl U) (fun _ _ _ => rfl), h5.1.2.2.2.2.2⟩, fun j q hj => vk_R.same (u := U) (U := U.calling g mk a) rfl (h5.2 j q hj)⟩
section PWC
variable {G : GT_} {own : String} {cc : ByteArray} {nL : Nat} {rt : Option FieldType} {R : Room} {cs ss : Nat} {Zf : List Frame → Array Value → State → State → Prop} {pc : Nat} {lv : List (Option Value)} {st rest : List Value} {h : PH_} {y : MethodName} {bytes : ByteArray} {mL n idx d : Nat} {ry : Option FieldType} {As : List Value} {Q : Option Value → PH_ → Prop}
theorem pw_pre {p : Program} {s : State} {m : MethodId} {args : Array Value} {meth : Method} {cd : Code} {H : Heap} {locs : List Loc} (X : px_ G own cc nL rt p s m args meth cd) (P : ph_ G h H) (S : va_S (ag_ G) s.heap H locs) (av : List Value) : ∀ U : State, U.heap = H → s.WarmedH U.vm → va_Pc av (fun U => pr_ G h U) av.toArray U := by
  intro U hU hW
  refine ⟨rfl, by rw [hU]; exact P, va_K.moved hW.alike X.2.2.2.2.2.2.2.1, by rw [hU]; exact Nat.le_trans X.2.2.2.2.2.2.2.2.1 S.1, ?_⟩
  exact stR_moved X.2.2.2.2.2.2.2.2.2 hW (fun a h1 h2 => by rw [hU]; exact S.2.1 a h1 h2)
/-- behind a call -/
theorem pw_back {p : Program} {e : Env} {s : State} {m : MethodId} {args : Array Value} {below : List Frame} {meth : Method} {cd : Code} {H : Heap} {locs : List Loc} {ls : Array Slot} {st0 : List Value} (X : px_ G own cc nL rt p s m args meth cd) (S : va_S (ag_ G) s.heap H locs) (L : lh_ ls nL lv)
    (hr : va_Run p (gl_ G) e R s m args below meth cd H locs cs ss 0 0 (F0 m pc ls st0) rest (fun st oc t => (∃ (r : Option Value) (h' : PH_), oc = .returned r ∧ Q r h' ∧ ph_ G h' t.heap) ∧ va_F (ag_ G) st t) (ag_ G))
    (k : ∀ (r : Option Value) (h' : PH_), Q r h' → PW G own cc nL rt R cs ss Zf (pc + 3) lv (r.toList ++ rest) h') : W p (gl_ G) e R s m args below meth cd H locs cs ss (Zf below args s) (F0 m pc ls st0) := by
  intro T hT X0
  obtain ⟨v, st₀, t, T', L1, h0, X', hL, e1, e2, ⟨⟨r, h', hv, hq, hp⟩, hz, hk⟩, go⟩ := hr T hT X0
  cases hv
  rw [h0] at hz hk
  have hS1 : va_S (ag_ G) s.heap T'.heap (locs ++ L1) := by
    refine ⟨Nat.le_trans S.1 (by rw [e1]; exact hz), fun q h1 h2 => ?_, fun q hq => ?_⟩
    · rw [e1, hk q (Nat.lt_of_lt_of_le h1 S.1) h2]; exact S.2.1 q h1 h2
    · rcases List.mem_append.mp hq with h | h
      · exact S.2.2 q h
      · exact hL q h
  obtain ⟨t2, a1, b1⟩ := k v h' hq p e s m args below meth cd T'.heap (locs ++ L1) ls X (by rw [e1]; exact hp) hS1 L T' rfl X'
  exact ⟨t2, go t2 a1, b1⟩
theorem pw_callV {o c : Nat} (hd : decode cc pc = .ok (.invokevirtual idx, 3)) (hM : PC G y bytes mL ry d (rr_ G o :: As) h Q) (hl : Cond.methodLink own idx y ∈ gt_) (hy : my_ y bytes mL ry n) (hv : mv_ y) (ho : o ∈ gi_ G) (hk : kd_ o = c + 10) (hc : (vwCl[c]?).map (fun q => q.1) = some y.cls)
    (hn : As.length = n) (hst : st = As.reverse ++ rr_ G o :: rest) (hR : d + 1 ≤ R.frames ∧ 19 + mL + 60 * d ≤ R.locals) (hR2 : cs ≤ R.cells ∧ ss ≤ R.slots) (hcat : (rest.map fun v => v.category).sum ≤ 8)
    (k : ∀ (r : Option Value) (h' : PH_), Q r h' → PW G own cc nL rt R cs ss Zf (pc + 3) lv (r.toList ++ rest) h') : PW G own cc nL rt R cs ss Zf pc lv st h := by
  intro p e s m args below meth cd H locs ls X P S L
  subst hst
  obtain ⟨q, hq, hw⟩ := ws_at h ho
  rw [cf_obj hk] at hw
  cases hcv : vwCl[c]? with
  | none => rw [hcv] at hc; cases hc
  | some r0 =>
    rw [hcv] at hc
    have hc1 : r0.1 = y.cls := Option.some.inj hc
    have hts := X.2.2.2.2.2.2.1
    refine pw_back X S L (va_runV (C := y.cls) (As := As) (rest := rest) (b := ga_ G o) (own := own) (Ts := gt_) (nL := nL) ⟨X.1, X.2.1, X.2.2.1, X.2.2.2.2.2.1, hts⟩ hM ⟨callB_of n hts (tb_in0 hy.1) rfl rfl rfl (hts _ hy.2.1) (hts _ hl) hy.2.2 ⟨hR.1, by show 8 + (mL + 11) + 60 * d ≤ _; omega⟩, hts _ hv.1, hts _ hv.2⟩ ⟨pr_blind, ?_, pw_pre X P S _⟩ rfl hn L.1 rfl (lv_room hcat) hd ⟨hR2.1, hR2.2⟩) k
    have := va_recv (D := gd_ G) X.2.2.2.2.2.2.2.1 P.1 hcv hw
    rw [hc1] at this
    exact this
theorem pw_callS (hd : decode cc pc = .ok (.invokestatic idx, 3)) (hM : PC G y bytes mL ry d As h Q) (hl : Cond.methodLink own idx y ∈ gt_) (hy : my_ y bytes mL ry n) (hv : Cond.static y ∈ gt_)
    (hn : As.length = n) (hst : st = As.reverse ++ rest) (hR : d + 1 ≤ R.frames ∧ 19 + mL + 60 * d ≤ R.locals) (hR2 : cs ≤ R.cells ∧ ss ≤ R.slots) (hcat : (rest.map fun v => v.category).sum ≤ 8)
    (k : ∀ (r : Option Value) (h' : PH_), Q r h' → PW G own cc nL rt R cs ss Zf (pc + 3) lv (r.toList ++ rest) h') : PW G own cc nL rt R cs ss Zf pc lv st h := by
  intro p e s m args below meth cd H locs ls X P S L
  subst hst
  have hts := X.2.2.2.2.2.2.1
  exact pw_back X S L (va_runS (As := As) (rest := rest) (own := own) (Ts := gt_) (nL := nL) ⟨X.1, X.2.1, X.2.2.1, X.2.2.2.2.2.1, hts⟩ hM ⟨callB_of n hts (tb_in0 hy.1) rfl rfl rfl (hts _ hy.2.1) (hts _ hl) hy.2.2 ⟨hR.1, by show 8 + (mL + 11) + 60 * d ≤ _; omega⟩, hts _ hv⟩ ⟨pr_blind, pw_pre X P S _⟩ rfl hn L.1 rfl (lv_room hcat) hd ⟨hR2.1, hR2.2⟩) k
theorem pw_callSN (hd : decode cc pc = .ok (.invokestatic 164, 3)) (hown : own = RX1) (hM : PC G yX11_spreadOf bytes mL ry d As h Q) (hy : my_ yX11_spreadOf bytes mL ry n) (hv : Cond.static yX11_spreadOf ∈ gt_)
    (hn : As.length = n) (hst : st = As.reverse ++ rest) (hR : d + 1 ≤ R.frames ∧ 19 + mL + 60 * d ≤ R.locals) (hR2 : cs ≤ R.cells ∧ ss ≤ R.slots) (hcat : (rest.map fun v => v.category).sum ≤ 8)
    (k : ∀ (r : Option Value) (h' : PH_), Q r h' → PW G own cc nL rt R cs ss Zf (pc + 3) lv (r.toList ++ rest) h') : PW G own cc nL rt R cs ss Zf pc lv st h := by
  intro p e s m args below meth cd H locs ls X P S L
  subst hst
  subst hown
  have hts := X.2.2.2.2.2.2.1
  exact pw_back X S L (va_runSN (As := As) (rest := rest) (own := RX1) (Ts := gt_) (nL := nL) ⟨X.1, X.2.1, X.2.2.1, X.2.2.2.2.2.1, hts⟩ hM ⟨va_cnB n hts (tb_in0 hy.1) rfl rfl rfl X.2.2.2.2.2.2.2.2.2.1.2.1 (hts _ hy.2.1) hy.2.2 ⟨hR.1, by show 8 + (mL + 11) + 60 * d ≤ _; omega⟩, hts _ hv, trivial⟩ ⟨pr_blind, pw_pre X P S _⟩ rfl hn L.1 rfl (lv_room hcat) hd ⟨hR2.1, hR2.2⟩) k
/-- the answers by their kinds -/
theorem k_i {Qi : Int → PH_ → Prop} (k : ∀ (z : Int) (h' : PH_), ir_ z → Qi z h' → PW G own cc nL rt R cs ss Zf (pc + 3) lv (ii_ z :: rest) h') : ∀ (r : Option Value) (h' : PH_), qi_ Qi r h' → PW G own cc nL rt R cs ss Zf (pc + 3) lv (r.toList ++ rest) h' := by
  rintro r h' ⟨z, rfl, hz, hq⟩
  exact k z h' hz hq
theorem k_l {Qi : Int → PH_ → Prop} (k : ∀ (z : Int) (h' : PH_), lr_ z → Qi z h' → PW G own cc nL rt R cs ss Zf (pc + 3) lv (ll_ z :: rest) h') : ∀ (r : Option Value) (h' : PH_), ql_ Qi r h' → PW G own cc nL rt R cs ss Zf (pc + 3) lv (r.toList ++ rest) h' := by
  rintro r h' ⟨z, rfl, hz, hq⟩
  exact k z h' hz hq
theorem k_v {Qv : PH_ → Prop} (k : ∀ (h' : PH_), Qv h' → PW G own cc nL rt R cs ss Zf (pc + 3) lv rest h') : ∀ (r : Option Value) (h' : PH_), qv_ Qv r h' → PW G own cc nL rt R cs ss Zf (pc + 3) lv (r.toList ++ rest) h' := by
  rintro r h' ⟨rfl, hq⟩
  exact k h' hq
end PWC
