/-! ===== constructors: the world grows ===== -/
def eS_ (E : Nat → va_E) (k : Nat) (v : va_E) : Nat → va_E := fun j => if j = k then v else E j
theorem eS_same {E : Nat → va_E} {k : Nat} {v : va_E} : eS_ E k v k = v := by simp [eS_]
theorem eS_off {E : Nat → va_E} {k j : Nat} {v : va_E} (h : j ≠ k) : eS_ E k v j = E j := by simp [eS_, h]
def nw_ (b : Nat) (E : Nat → va_E) (n : Nat) : va_W := (List.range n).map (fun i => (b + i, E i))
theorem nw_at {b : Nat} {E : Nat → va_E} {n i : Nat} (h : i < n) : (nw_ b E n)[i]? = some (b + i, E i) := by simp [nw_, h]
theorem nw_of {b : Nat} {E : Nat → va_E} {n i : Nat} {q : Nat × va_E} (h : (nw_ b E n)[i]? = some q) : i < n ∧ q = (b + i, E i) := by
  have hl : i < n := by
    have := (List.getElem?_eq_some_iff.mp h).1
    simpa [nw_] using this
  rw [nw_at hl] at h
  exact ⟨hl, (Option.some.inj h).symm⟩
theorem nw_D {b : Nat} {E : Nat → va_E} {n : Nat} : va_D (fun q => b ≤ q) (nw_ b E n) :=
  ⟨fun i j p q hp hq e => by
    rw [(nw_of hp).2, (nw_of hq).2] at e
    have e : b + i = b + j := e
    omega, fun k q hk => by rw [(nw_of hk).2]; exact Nat.le_add_right b k⟩
theorem nw_set {b : Nat} {E : Nat → va_E} {n i : Nat} {v : va_E} (h : i < n) : (nw_ b E n).set i (b + i, v) = nw_ b (eS_ E i v) n := by
  refine List.ext_getElem? fun j => ?_
  rw [List.getElem?_set]
  by_cases hj : j < n
  · rw [nw_at hj]
    by_cases hij : i = j
    · subst hij
      rw [if_pos rfl, if_pos (by simpa [nw_] using h), nw_at hj, eS_same]
    · rw [if_neg hij, nw_at hj, eS_off (fun u => hij u.symm)]
  · rw [if_neg (by omega), List.getElem?_eq_none (by simp [nw_]; omega), List.getElem?_eq_none (by simp [nw_]; omega)]
theorem nw_push {b : Nat} {E : Nat → va_E} {n : Nat} {v : va_E} : nw_ b E n ++ [(b + n, v)] = nw_ b (eS_ E n v) (n + 1) := by
  unfold nw_
  rw [List.range_succ, List.map_append]
  congr 1
  · refine List.map_congr_left fun i hi => ?_
    rw [eS_off (by have := List.mem_range.mp hi; omega)]
  · simp [eS_same]
theorem nw_cg {b : Nat} {E E' : Nat → va_E} {n : Nat} (h : ∀ i, i < n → E i = E' i) : nw_ b E n = nw_ b E' n := by
  unfold nw_
  exact List.map_congr_left fun i hi => by rw [h i (List.mem_range.mp hi)]
def pn_ (G : GT_) (own : String) (cc : ByteArray) (nL : Nat) (rt : Option FieldType) (ic : Bool) (p : Program) (s : State) (m : MethodId) (meth : Method) (c : Code) : Prop :=
  p.tables.exec = Jvm.exec ∧ c.code = cc ∧ c.maxLocals = nL ∧ meth.sig.returnType = rt ∧ meth.locks = false ∧ s.vm.findClass own = some m.cls ∧ (∀ (args : Array Value), ∀ w ∈ gt_, w.before args s = true) ∧ va_K (gd_ G) vwCl (tys_ G) s ∧ (ic = true → meth.name = "<init>") ∧ gb_ G ≤ s.heap.size ∧ stR_ G s s.heap
/-- a judgement while the world grows: n cells stand, the i-th holds E i -/
def PN (G : GT_) (own : String) (cc : ByteArray) (nL : Nat) (rt : Option FieldType) (ic : Bool) (R : Room) (cs ss : Nat) (Zf : List Frame → Array Value → State → State → Prop) (pc : Nat) (lv : List (Option Value)) (st : List Value) (n : Nat) (E : Nat → va_E) : Prop :=
  ∀ (p : Program) (e : Env) (s : State) (m : MethodId) (args : Array Value) (below : List Frame) (meth : Method) (c : Code) (H : Heap) (locs : List Loc) (ls : Array Slot),
    pn_ G own cc nL rt ic p s m meth c → (H.size = gb_ G + n ∧ s.heap.size + cs = gb_ G + n) → va_P (gd_ G) vwCl (nw_ (gb_ G) E n) H → va_S (ag_ G) s.heap H locs → lh_ ls nL lv →
    W p (gl_ G) e R s m args below meth c H locs cs ss (Zf below args s) (F0 m pc ls st)
def qn_ (G : GT_) (n : Nat) (E : Nat → va_E) : Array Value → State → Outcome → State → Prop := fun _ st oc t => (oc = .returned none ∧ t.heap.size = gb_ G + n ∧ va_P (gd_ G) vwCl (nw_ (gb_ G) E n) t.heap) ∧ va_F (ag_ G) st t
def zn_ (G : GT_) (nc ns n : Nat) (E : Nat → va_E) : List Frame → Array Value → State → State → Prop := fun below args s => MQ below (qn_ G n E) args s nc ns (ag_ G)
/-- a constructor's contract -/
def KN (G : GT_) (y : MethodName) (cc : ByteArray) (mL d nc ns : Nat) (av : List Value) (n : Nat) (E : Nat → va_E) (n' : Nat) (E' : Nat → va_E) : Prop :=
  Met (gl_ G) y (.code y cc mL none :: gt_) { frames := d, cells := nc, slots := ns, locals := 60 * d } (va_Pc av (fun U => U.heap.size = gb_ G + n ∧ va_P (gd_ G) vwCl (nw_ (gb_ G) E n) U.heap ∧ va_K (gd_ G) vwCl (tys_ G) U ∧ stR_ G U U.heap)) (qn_ G n' E') nc ns (ag_ G)
theorem KN.of {G : GT_} {y : MethodName} {cc : ByteArray} {mL d nc ns : Nat} {av : List Value} {n n' : Nat} {E E' : Nat → va_E} {lv : List (Option Value)}
    (hy : plainName y.cls = true) (hi : y.name = "<init>") (hn : (lg_sl av).length ≤ mL) (hl : la_ av ++ List.replicate (mL - (la_ av).length) none = lv) (hlen : lv.length = mL)
    (k : PN G y.cls cc mL none true { frames := d, cells := nc, slots := ns, locals := 60 * d } 0 0 (zn_ G nc ns n' E') 0 lv [] n E) : KN G y cc mL d nc ns av n E n' E' := by
  refine Met.ofW (cc := cc) (maxL := mL) (ret := none) hy rfl ?_
  intro p e s m args below meth c s₁ B hml hv
  obtain ⟨rfl, hz, hP, hK, hSt⟩ := hv
  have hts0 := atoms_spec (ws := .code y cc mL none :: gt_) B.pre
  have hown : s.vm.findClass y.cls = some m.cls := findClass_of_methodNamed B.named
  have hin : meth.name = "<init>" := (name_of_methodNamed B.named B.method).1.trans hi
  have hle := lv_entry av (n := mL) hn
  rw [lg_entry_eq]
  generalize (lg_sl av ++ List.replicate (mL - (lg_sl av).length) Slot.unset).toArray = ls at hle ⊢
  refine k p e s m _ below meth c s.heap [] ls ⟨B.exec, B.bytes, hml, B.returns, B.notSynchronized, hown, fun a w hw => word_at (State.WarmedH.refl s) (good_of_word (List.all_eq_true.mp tb_good w hw)) (hts0 w (List.mem_cons_of_mem _ hw)), hK, fun _ => hin, by rw [hz]; exact Nat.le_add_right _ _, hSt⟩ ⟨hz, hz⟩ hP va_S.rf ⟨hle.1, hle.2.1, hlen, fun i v hi => ?_⟩
  refine hle.2.2 (i, v) (la_args av 0 [] rfl i v (Nat.zero_le _) ?_)
  rw [← hl] at hi
  by_cases hb1 : i < (la_ av).length
  · rw [List.getElem?_append_left hb1] at hi
    simpa using hi
  · rw [List.getElem?_append_right (by omega)] at hi
    have := List.mem_of_getElem? hi
    simp at this
section PNR
variable {G : GT_} {own : String} {cc : ByteArray} {nL : Nat} {rt : Option FieldType} {ic : Bool} {R : Room} {cs ss : Nat} {Zf : List Frame → Array Value → State → State → Prop} {pc : Nat} {lv : List (Option Value)} {st rest : List Value} {n : Nat} {E : Nat → va_E}
theorem n_aload_n {j : Fin 4} {i q : Nat} (hd : decode cc pc = .ok (.aload_n j, 1)) (hi : (j : Nat) = i) (hl : lv[i]? = some (some (.ref q))) (k : PN G own cc nL rt ic R cs ss Zf (pc + 1) lv (.ref q :: st) n E) : PN G own cc nL rt ic R cs ss Zf pc lv st n E := by
  intro p e s m args below meth cd H locs ls X Z P S L
  exact lv_aload_n X.1 X.2.1 hd hi (L.2.2.2 i _ hl) (k p e s m args below meth cd H locs ls X Z P S L)
theorem n_dup {q : Nat} (hd : decode cc pc = .ok (.dup, 1)) (k : PN G own cc nL rt ic R cs ss Zf (pc + 1) lv (.ref q :: .ref q :: st) n E) : PN G own cc nL rt ic R cs ss Zf pc lv (.ref q :: st) n E := by
  intro p e s m args below meth cd H locs ls X Z P S L
  exact lv_dup X.1 X.2.1 hd rfl (k p e s m args below meth cd H locs ls X Z P S L)
theorem n_vret {nc ns : Nat} (hd : decode cc pc = .ok (.return_, 1)) (hc : cs ≤ nc) (hs : ss ≤ ns) : PN G own cc nL none ic R cs ss (zn_ G nc ns n E) pc lv [] n E := by
  intro p e s m args below meth cd H locs ls X Z P S L
  exact W.widen hc hs (W.vret (Qc := qn_ G n E) X.1 X.2.1 X.2.2.2.1 (fun t ht hW => ⟨⟨rfl, by rw [ht]; exact Z.1, by rw [ht]; exact P⟩, S.F ht⟩) S.2.2 hd X.2.2.2.2.1)
theorem n_obj {a idx : Nat} (hd : decode cc pc = .ok (.invokespecial idx, 3)) (hl : Cond.methodLink own idx Lib.objectInit ∈ gt_) (hi : Cond.instanceMethod Lib.objectInit ∈ gt_) (hcd : Cond.code Lib.objectInit ⟨#[0xb1]⟩ 1 none ∈ gt_) (hf : 1 ≤ R.frames) (hlo : (st.map fun v => v.category).sum + 12 ≤ R.locals) (k : PN G own cc nL rt ic R cs ss Zf (pc + 3) lv st n E) : PN G own cc nL rt ic R cs ss Zf pc lv (.ref a :: st) n E := by
  intro p e s m args below meth cd H locs ls X Z P S L
  have hts := X.2.2.2.2.2.2.1 args
  exact W.objInit X.1 X.2.1 X.2.2.2.2.2.1 (hts _ hl) (hts _ hi) (hts _ hcd) rfl (L.1.trans X.2.2.1.symm) rfl hd hf (by show 0 + _ + 12 ≤ _; omega) (k p e s m args below meth cd H locs ls X Z P S L)
theorem n_newa {at0 : ArrayType} {t0 N : Nat} {ty : FieldType} {z : Int} (a0 : vp_A) (hd : decode cc pc = .ok (.newarray at0, 2)) (hty : newarray.typeOf at0 = ty) (ht : (tys_ G)[t0]? = some (gc_ G t0, ty)) (hra : ∀ (U : State) (c : ClassId), va_RA U c ty → U.vm.findClass ("[" ++ ty.toString) = some c) (harr : Cond.arrayClass ty ∈ gt_) (hz : 0 ≤ z ∧ z ≤ 100000) (hN : z.toNat = N) (ha : ∀ cA : ClassId, vp_cell cA a0 = arrV cA N (fun _ => defaultValue ty)) (hb : N * componentBytes ty ≤ 536870912) (hR : cs + 1 ≤ R.cells ∧ ss + N ≤ R.slots)
    (k : PN G own cc nL rt ic R (cs + 1) (ss + N) Zf (pc + 2) lv (.ref (gb_ G + n) :: st) (n + 1) (eS_ E n (.inl (gc_ G t0, a0)))) : PN G own cc nL rt ic R cs ss Zf pc lv (ii_ z :: st) n E := by
  intro p e s m args below meth cd H locs ls X Z P S L
  subst hty
  have hr : ir_ z := by constructor <;> omega
  refine va_newaK X.1 X.2.1 (X.2.2.2.2.2.2.1 args _ harr) rfl hd rfl (by rw [i32_zero, i32_lt hr ir_0]; omega) ((i32_clamp hz.1 hr).trans hN) hb hR.1 hR.2 Z.1 (fun H1 cA e1 z1 o1 hAr hNm => ?_)
  have hcA : cA = gc_ G t0 := Option.some.inj (hNm.symm.trans (hra _ _ (X.2.2.2.2.2.2.2.1.2 t0 _ ht).2))
  subst hcA
  refine k p e s m args below meth cd H1 locs ls X ⟨by rw [z1]; omega, by have := Z.2; omega⟩ ?_ ⟨Nat.le_trans S.1 (by have := Z.1; omega), fun x h1 h2 => (o1 x (by have := S.1; have := Z.1; omega)).trans (S.2.1 x h1 h2), S.2.2⟩ L
  rw [← nw_push]
  refine (P.kept (fun k x hx => o1 x.1 (by have := (P k x hx).lt; have := Z.1; omega))).app (fun k x hx => ?_)
  have hz9 : k < 1 := (List.getElem?_eq_some_iff.mp hx).1
  rw [show k = 0 by omega] at hx
  cases hx
  show H1[gb_ G + n]? = some (vp_cell _ _)
  rw [ha]; exact e1
theorem n_putF {idx c k i : Nat} {fs : List Value} {v : Value} {d : String} {ty : FieldType} (hd : decode cc pc = .ok (.putfield idx, 3)) (fa : fa_ own idx c k d true) (hic : ic = true) (hdc : ∀ q, vwCl[c]? = some q → (q.2.1 k).1 = own) (hi : i < n) (hE : E i = .inr (c, fs)) (hp : parseFieldDescriptor d = some ty) (hn : narrow ty v = v) (hf : fits ty v = true) (hl : k < fs.length)
    (kk : PN G own cc nL rt ic R cs ss Zf (pc + 3) lv st n (eS_ E i (.inr (c, fs.set k v)))) : PN G own cc nL rt ic R cs ss Zf pc lv (v :: .ref (gb_ G + i) :: st) n E := by
  intro p e s m args below meth cd H locs ls X Z P S L
  obtain ⟨C, T, N, hc, hkN, hdd, hfin, hlk⟩ := fa
  obtain ⟨hin, ⟨ty0, hty⟩, hnm⟩ := cl_ok c C T N hc
  have hw : (nw_ (gb_ G) E n)[i]? = some (gb_ G + i, .inr (c, fs)) := by rw [nw_at hi, hE]
  have hts := X.2.2.2.2.2.2.1 args
  have hap := va_apart (own := own) (D := gd_ G) hts hin ty0 hty hnm X.2.2.2.2.2.2.2.1 hc
  obtain ⟨r, h1, cell, q1, q2, q3, q4⟩ := P i _ hw
  have hr : r = (C, T, N) := Option.some.inj (h1.symm.trans hc)
  subst hr
  obtain ⟨hS, hfc, kC, hkC, hkind⟩ := X.2.2.2.2.2.2.2.1.1 c _ hc
  obtain ⟨cf, kf, fi, f, hfi, hsl⟩ := hS k hkN
  have hlay := hts _ (hin _ (u_in_lay hkN))
  unfold u_lay at hlay
  rw [if_pos hfin] at hlay
  have hst := (u_facts hfc hkC (u_lays hts hin hkN) hfi).1
  have hcf : m.cls = cf := by
    obtain ⟨_, _, c', _, _, _, -, -, hf', -, -, -, hown2, -⟩ := Cond.laysFinal_spec hlay
    have e1 : c' = cf := by have := hfi.symm.trans hf'; simp at this; exact this.1.symm
    rw [hdc _ hc] at hown2
    rw [← e1]; exact Option.some.inj (X.2.2.2.2.2.1.symm.trans hown2)
  have h6 := u_fits hfc hkC hkind (Or.inr hlay) hfi (by rw [hdd]; exact hp) hn hf
  refine W.putFinK X.1 X.2.1 X.2.2.2.2.2.1 (hts _ hlk) hfi hst hcf (X.2.2.2.2.2.2.2.2.1 hic) (by rw [q2]; exact h6) q1 q3 (by rw [hsl]; exact k2_hasslot (q4 k hkN)) rfl rfl hd fun H' e1 e2 e3 => ?_
  rw [hsl] at e1 ⊢
  have P1 := P.set (nw_D (b := gb_ G)) hw (H1 := H') (e := .inr (c, fs.set k v)) ⟨_, hc, t_OB.to (V := updV (vp_V fs) k v) ⟨_, e1, q2, q3, t_set q4 hap hkN v⟩ (fun j _ => vp_updV_set hl v j)⟩ e3
  rw [nw_set hi] at P1
  exact kk p e s m args below meth cd H' _ ls X ⟨e2.trans Z.1, Z.2⟩ P1 (S.put e2 e3 (show gb_ G ≤ gb_ G + i by omega)) L
end PNR

