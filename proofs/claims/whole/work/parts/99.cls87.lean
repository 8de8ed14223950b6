/-! ===== the law's helpers: what may be thrown is caught ===== -/
def zh_ (G : GT_) (y : MethodName) (Q : Option Value → PH_ → Prop) : List Frame → Array Value → State → State → Prop := fun below args s t => nmd_ y below args s → vx_MQ below (xq_ G Q) (fun _ _ _ => False) args s 1 6 (ag_ G) t
/-- a contract of a method with a table of handlers; it returns -/
def PCH (G : GT_) (y : MethodName) (cc : ByteArray) (mL : Nat) (rt : Option FieldType) (hh : List (Nat × Nat × Nat × Nat)) (d : Nat) (av : List Value) (h : PH_) (Q : Option Value → PH_ → Prop) : Prop :=
  vx_Met (gl_ G) y (.codeWith y cc mL rt hh :: gt_) (rx_ d) (va_Pc av (fun U => pr_ G h U)) (xq_ G Q) (fun _ _ _ => False) 1 6 (ag_ G)
theorem PCH.of {G : GT_} {y : MethodName} {cc : ByteArray} {mL : Nat} {rt : Option FieldType} {hh : List (Nat × Nat × Nat × Nat)} {d : Nat} {av : List Value} {h : PH_} {Q : Option Value → PH_ → Prop} {lv : List (Option Value)}
    (hy : plainName y.cls = true) (hn : (lg_sl av).length ≤ mL) (hl : la_ av ++ List.replicate (mL - (la_ av).length) none = lv) (hlen : lv.length = mL)
    (k : PW G y.cls cc mL rt (rx_ d) 0 0 (zh_ G y Q) 0 lv [] h) : PCH G y cc mL rt hh d av h Q := by
  refine vx_ofWH (cc := cc) (maxL := mL) (ret := rt) hy rfl ?_
  intro p e s m args below meth c s₁ B hml hv
  obtain ⟨rfl, hP, hK, hb, hS⟩ := hv
  have hts0 := atoms_spec (ws := .codeWith y cc mL rt hh :: gt_) B.pre
  have hown : s.vm.findClass y.cls = some m.cls := findClass_of_methodNamed B.named
  have hle := lv_entry av (n := mL) hn
  have hnm := B.named
  rw [lg_entry_eq]
  generalize (lg_sl av ++ List.replicate (mL - (lg_sl av).length) Slot.unset).toArray = ls at hle ⊢
  intro T hT X0
  obtain ⟨t, a1, b1⟩ := k p e s m _ below meth c s.heap [] ls ⟨B.exec, B.bytes, hml, B.returns, B.notSynchronized, hown, fun w hw => hts0 w (List.mem_cons_of_mem _ hw), hK, hb, hS⟩ hP va_S.rf ⟨hle.1, hle.2.1, hlen, fun i v hi => by
    refine hle.2.2 (i, v) (la_args av 0 [] rfl i v (Nat.zero_le _) ?_)
    rw [← hl] at hi
    by_cases hb1 : i < (la_ av).length
    · rw [List.getElem?_append_left hb1] at hi
      simpa using hi
    · rw [List.getElem?_append_right (by omega)] at hi
      have := List.mem_of_getElem? hi
      simp at this⟩ T hT X0
  refine ⟨t, a1, b1 (fun m' hm' => ?_)⟩
  have e1 := X0.frames.symm.trans hm'
  have e2 : m = m' := by injection e1 with e3 _; injection e3
  rw [← e2]; exact hnm
theorem pw_hret {G : GT_} {own : String} {cc : ByteArray} {nL : Nat} {R : Room} {pc : Nat} {lv : List (Option Value)} {h : PH_} {y : MethodName} {Q : Int → PH_ → Prop} {z : Int} (hd : decode cc pc = .ok (.ireturn, 1)) (hz : ir_ z) (hq : Q z h) : PW G own cc nL (some .int) R 1 6 (zh_ G y (qi_ Q)) pc lv [ii_ z] h := by
  intro p e s m args below meth cd H locs ls X P S L T hT X0
  obtain ⟨t, a1, o, b2, b3, b4, b5⟩ := W.iret (Qc := xq_ G (qi_ Q)) X.1 X.2.1 X.2.2.2.1 (fun t ht hW => ⟨⟨_, h, rfl, ⟨z, rfl, hz, hq⟩, by rw [ht]; exact P⟩, S.F ht⟩) S.2.2 hd X.2.2.2.2.1 T hT X0
  exact ⟨t, a1, fun _ => ⟨o, b2, b3, Or.inl ⟨b4, b5⟩⟩⟩
theorem pw_astoreQ {G : GT_} {own : String} {cc : ByteArray} {nL : Nat} {rt : Option FieldType} {R : Room} {cs ss : Nat} {Zf : List Frame → Array Value → State → State → Prop} {pc : Nat} {lv lv1 : List (Option Value)} {st : List Value} {h : PH_} {i q : Nat} (hd : decode cc pc = .ok (.astore i, 2)) (hn : i < nL) (hp : pv_ lv i = true) (hl : lv.set i (some (.ref q)) = lv1) (k : PW G own cc nL rt R cs ss Zf (pc + 2) lv1 st h) : PW G own cc nL rt R cs ss Zf pc lv (.ref q :: st) h := by
  intro p e s m args below meth cd H locs ls X P S L
  subst hl
  exact lv_astore X.1 X.2.1 hd (lh_has L) hn rfl (fun ls1 h1 => k p e s m args below meth cd H locs ls1 X P S (lh_st1 L.2.2.1 hp h1))
theorem pw_astoreQ_n {G : GT_} {own : String} {cc : ByteArray} {nL : Nat} {rt : Option FieldType} {R : Room} {cs ss : Nat} {Zf : List Frame → Array Value → State → State → Prop} {pc : Nat} {lv lv1 : List (Option Value)} {st : List Value} {h : PH_} {j : Fin 4} {i q : Nat} (hd : decode cc pc = .ok (.astore_n j, 1)) (hi : (j : Nat) = i) (hn : i < nL) (hp : pv_ lv i = true) (hl : lv.set i (some (.ref q)) = lv1) (k : PW G own cc nL rt R cs ss Zf (pc + 1) lv1 st h) : PW G own cc nL rt R cs ss Zf pc lv (.ref q :: st) h := by
  intro p e s m args below meth cd H locs ls X P S L
  subst hl
  exact lv_astore_n X.1 X.2.1 hd hi (lh_has L) hn rfl (fun ls1 h1 => k p e s m args below meth cd H locs ls1 X P S (lh_st1 L.2.2.1 hp h1))
theorem nse_c : Cond.castable nse_ nse_ ∈ nsB_ := by decide +kernel
theorem nse_l : Cond.classLink RL 13 nse_ ∈ gt_ := List.mem_filter.mpr ⟨by decide +kernel, by decide +kernel⟩
/-- a call that may throw, under a handler -/
theorem pw_callX {G : GT_} {cc : ByteArray} {nL : Nat} {rt : Option FieldType} {D : Nat} {pc hp : Nat} {lv : List (Option Value)} {st rest : List Value} {h : PH_} {y yh : MethodName} {bytes : ByteArray} {mL n idx d : Nat} {ry : Option FieldType} {As : List Value} {Q Q' : Option Value → PH_ → Prop} {Qx : PH_ → Prop} {o c : Nat} {hh : List (Nat × Nat × Nat × Nat)} {x : ExceptionTableEntry}
    (hd : decode cc pc = .ok (.invokevirtual idx, 3)) (hM : PCX G y bytes mL ry d (rr_ G o :: As) h Q Qx) (hl : Cond.methodLink RL idx y ∈ gt_) (hy : my_ y bytes mL ry n) (hv : mv_ y) (ho : o ∈ gi_ G) (hk : kd_ o = c + 10) (hc : (vwCl[c]?).map (fun q => q.1) = some y.cls)
    (hn : As.length = n) (hst : st = As.reverse ++ rr_ G o :: rest) (hR : d + 1 ≤ D ∧ 19 + mL + 60 * d ≤ 60 * D) (hcat : (rest.map fun v => v.category).sum ≤ 8)
    (hX : gX_ G) (hcw : Cond.codeWith yh cc nL rt hh ∈ gt_) (htab : tableOf hh = [x]) (hcov : covers x pc = true) (hct : x.catchType = 13) (hhp : x.handlerPc = hp)
    (k : ∀ (r : Option Value) (h' : PH_), Q r h' → PW G RL cc nL rt (rx_ D) 1 6 (zh_ G yh Q') (pc + 3) lv (r.toList ++ rest) h')
    (kx : ∀ (q : Nat) (h' : PH_), Qx h' → PW G RL cc nL rt (rx_ D) 1 6 (zh_ G yh Q') hp lv [.ref q] h') : PW G RL cc nL rt (rx_ D) 0 0 (zh_ G yh Q') pc lv st h := by
  intro p e s m args below meth cd H locs ls X P S L T hT X0
  by_cases hnm : nmd_ yh below args s
  case neg => exact ⟨_, Steps.refl _, fun u => absurd u hnm⟩
  have hm := hnm m X0.frames
  subst hst
  obtain ⟨qa, hqa, hw⟩ := ws_at h ho
  rw [cf_obj hk] at hw
  have hts := X.2.2.2.2.2.2.1
  have tb : cd.exceptionTable.toList = tableOf hh := by
    obtain ⟨m9, meth9, c9, hn9, h1, h2, -, -, h6, -⟩ := Cond.codeWith_spec (hts _ hcw)
    cases Option.some.inj (hn9.symm.trans hm)
    cases Option.some.inj (h1.symm.trans X0.method)
    cases Option.some.inj (h2.symm.trans X0.code)
    rw [← h6, table_eq]
  have hS := X.2.2.2.2.2.2.2.2.2
  obtain ⟨-, -, hB⟩ := hX.2 _ _ hS.1.2.2.2.2.1
  have hcast : (Cond.castable nse_ nse_).before args s = true := va_tabs (nse_b _ nse_c) rfl (hB _ nse_c)
  cases hcv : vwCl[c]? with
  | none => rw [hcv] at hc; cases hc
  | some r0 =>
    rw [hcv] at hc
    have hc1 : r0.1 = y.cls := Option.some.inj hc
    have hrun := vx_runV (p := p) (l := gl_ G) (e := e) (R := rx_ D) (s := s) (m := m) (args := args) (below := below) (meth := meth) (c := cd) (H := H) (locs := locs) (cells := 0) (slots := 0) (g := F0 m pc ls (As.reverse ++ rr_ G o :: rest)) (C := y.cls) (As := As) (rest := rest) (b := ga_ G o) (own := RL) (Ts := gt_) (nL := nL) ⟨X.1, X.2.1, X.2.2.1, X.2.2.2.2.2.1, hts⟩ hM ⟨callB_of n hts (tb_in0 hy.1) rfl rfl rfl (hts _ hy.2.1) (hts _ hl) hy.2.2 ⟨hR.1, by show 8 + (mL + 11) + 60 * d ≤ 60 * D; omega⟩, hts _ hv.1, hts _ hv.2⟩ ⟨pr_blind, by
      have := va_recv (D := gd_ G) X.2.2.2.2.2.2.2.1 P.1 hcv hw
      rw [hc1] at this
      exact this, pw_pre X P S _⟩ rfl hn L.1 rfl (lv_room hcat) hd ⟨Nat.le_refl _, Nat.le_refl _⟩
    rcases hrun T hT X0 with ⟨v, st₀, t, T', L1, h0, X', hL, e1, e2, ⟨⟨r, h', hv', hq, hp'⟩, hz, hk'⟩, go⟩ | ⟨q, st₀, t, T', L1, E, ce, h0, X', hL, e1, e2, ⟨hE, ⟨h', hq, hp'⟩, hz, hk'⟩, hce, hcv', hcl, go⟩
    · cases hv'
      rw [h0] at hz hk'
      have hS1 : va_S (ag_ G) s.heap T'.heap (locs ++ L1) := by
        refine ⟨Nat.le_trans S.1 (by rw [e1]; exact hz), fun q h1 h2 => ?_, fun q hq => ?_⟩
        · rw [e1, hk' q (Nat.lt_of_lt_of_le h1 S.1) h2]; exact S.2.1 q h1 h2
        · rcases List.mem_append.mp hq with h | h
          · exact S.2.2 q h
          · exact hL q h
      obtain ⟨t2, a1, b1⟩ := k v h' hq p e s m args below meth cd T'.heap (locs ++ L1) ls X (by rw [e1]; exact hp') hS1 L T' rfl X'
      exact ⟨t2, go t2 a1, b1⟩
    · rw [h0] at hz hk'
      have hS1 : va_S (ag_ G) s.heap T'.heap (locs ++ L1) := by
        refine ⟨Nat.le_trans S.1 (by rw [e1]; exact hz), fun q h1 h2 => ?_, fun q hq => ?_⟩
        · rw [e1, hk' q (Nat.lt_of_lt_of_le h1 S.1) h2]; exact S.2.1 q h1 h2
        · rcases List.mem_append.mp hq with h | h
          · exact S.2.2 q h
          · exact hL q h
      subst hE
      have kk := kx q h' hq p e s m args below meth cd T'.heap (locs ++ L1) ls X (by rw [e1]; exact hp') hS1 L
      rw [← hhp] at kk
      have hcatch := vx_catch (own := RL) (name := nse_) (E := nse_) (ce := ce) (q := q) (rest := rest) (pc := pc) X.2.2.2.2.2.1 [] x [] (by rw [tb, htab]; rfl) (fun z hz => nomatch hz) hcov (by rw [hct]; decide) (by rw [hct]; exact hts _ nse_l) hcast (by rw [e1]; exact hce) hcv' hcl kk
      obtain ⟨t2, a1, b1⟩ := hcatch T' rfl X'
      exact ⟨t2, go.trans a1, b1⟩
def HQ_ (Q : Int → PH_ → Prop) (Qx : PH_ → Prop) (z : Int) (h' : PH_) : Prop := (z = 0 ∧ ∃ (zz : Int) (h1 : PH_), ir_ zz ∧ Q zz h1 ∧ h' = up_ h1 2000 0 zz) ∨ (z = 1 ∧ Qx h')
theorem cwh_rider : Cond.codeWith yL_rider cL_rider 5 (some .int) [(0, 10, 13, 13)] ∈ gt_ := List.mem_filter.mpr ⟨by decide +kernel, by decide +kernel⟩
theorem cwh_most : Cond.codeWith yL_most cL_most 4 (some .int) [(0, 9, 12, 13)] ∈ gt_ := List.mem_filter.mpr ⟨by decide +kernel, by decide +kernel⟩
theorem cwh_worst : Cond.codeWith yL_worst cL_worst 3 (some .int) [(0, 8, 11, 13)] ∈ gt_ := List.mem_filter.mpr ⟨by decide +kernel, by decide +kernel⟩
theorem l_rider {G : GT_} (hC : okC_ G) (hO : 2000 ∈ gi_ G) (hX : gX_ G) (h : PH_) (r w : Int) {Q : Int → PH_ → Prop} {Qx : PH_ → Prop} (hM : PCX G yX11_rider cX11_rider 3 (some .int) 6 [rr_ G 0, ii_ r, ii_ w] h (qi_ Q) Qx) : PCH G yL_rider cL_rider 5 (some .int) [(0, 10, 13, 13)] 8 [rr_ G 0, ii_ r, ii_ w, rr_ G 2000] h (qi_ (HQ_ Q Qx)) := by
  refine PCH.of (lv := [some (rr_ G 0), some (ii_ r), some (ii_ w), some (rr_ G 2000), none]) (by decide +kernel) (Nat.le_of_ble_eq_true rfl) rfl rfl ?_
  refine pw_aload_n (z := 2000) (pc := 0) dL_rider_0 rfl rfl ?_
  refine pw_iconst (pc := 1) dL_rider_1 ?_
  refine pw_aload_n (z := 0) (pc := 2) dL_rider_2 rfl rfl ?_
  refine pw_iload_n (z := r) (pc := 3) dL_rider_3 rfl rfl ?_
  refine pw_iload_n (z := w) (pc := 4) dL_rider_4 rfl rfl ?_
  refine pw_callX (c := 11) (o := 0) (As := [ii_ r, ii_ w]) (rest := [ii_ 0, rr_ G 2000]) (pc := 5) (hp := 13) (x := { startPc := 0, endPc := 10, handlerPc := 13, catchType := 13 }) dL_rider_5 hM lL_7 mX11_rider vX11_rider (hC 0 (by decide)) (show kd_ 0 = 21 by decide +kernel) rfl rfl rfl (by decide) (Nat.le_of_ble_eq_true rfl) hX cwh_rider rfl (by decide) rfl rfl (fun v h1 q => ?_) (fun q h1 hq => ?_)
  · obtain ⟨zz, rfl, hz, hq⟩ := q
    refine pw_i2l (pc := 8) dL_rider_8 hz ?_
    refine pw_last (pc := 9) dL_rider_9 hO (by decide +kernel) 1 (by decide +kernel) (by decide) (by decide) (by constructor <;> decide) (by have a := hz.1; have b := hz.2; constructor <;> omega) ?_
    refine pw_goto (t := 17) (pc := 10) dL_rider_10 (by decide) ?_
    refine pw_iconst (pc := 17) dL_rider_17 ?_
    exact pw_hret (pc := 18) dL_rider_18 (by constructor <;> decide) (Or.inl ⟨rfl, zz, h1, hz, hq, rfl⟩)
  · refine pw_astoreQ (pc := 13) dL_rider_13 (by decide) rfl rfl ?_
    refine pw_iconst (pc := 15) dL_rider_15 ?_
    exact pw_hret (pc := 16) dL_rider_16 (by constructor <;> decide) (Or.inr ⟨rfl, hq⟩)
theorem l_most {G : GT_} (hC : okC_ G) (hO : 2000 ∈ gi_ G) (hX : gX_ G) (h : PH_) (w : Int) {Q : Int → PH_ → Prop} {Qx : PH_ → Prop} (hM : PCX G yX11_most cX11_most 3 (some .int) 7 [rr_ G 0, ii_ w] h (qi_ Q) Qx) : PCH G yL_most cL_most 4 (some .int) [(0, 9, 12, 13)] 10 [rr_ G 0, ii_ w, rr_ G 2000] h (qi_ (HQ_ Q Qx)) := by
  refine PCH.of (lv := [some (rr_ G 0), some (ii_ w), some (rr_ G 2000), none]) (by decide +kernel) (Nat.le_of_ble_eq_true rfl) rfl rfl ?_
  refine pw_aload_n (z := 2000) (pc := 0) dL_most_0 rfl rfl ?_
  refine pw_iconst (pc := 1) dL_most_1 ?_
  refine pw_aload_n (z := 0) (pc := 2) dL_most_2 rfl rfl ?_
  refine pw_iload_n (z := w) (pc := 3) dL_most_3 rfl rfl ?_
  refine pw_callX (c := 11) (o := 0) (As := [ii_ w]) (rest := [ii_ 0, rr_ G 2000]) (pc := 4) (hp := 12) (x := { startPc := 0, endPc := 9, handlerPc := 12, catchType := 13 }) dL_most_4 hM lL_15 mX11_most vX11_most (hC 0 (by decide)) (show kd_ 0 = 21 by decide +kernel) rfl rfl rfl (by decide) (Nat.le_of_ble_eq_true rfl) hX cwh_most rfl (by decide) rfl rfl (fun v h1 q => ?_) (fun q h1 hq => ?_)
  · obtain ⟨zz, rfl, hz, hq⟩ := q
    refine pw_i2l (pc := 7) dL_most_7 hz ?_
    refine pw_last (pc := 8) dL_most_8 hO (by decide +kernel) 1 (by decide +kernel) (by decide) (by decide) (by constructor <;> decide) (by have a := hz.1; have b := hz.2; constructor <;> omega) ?_
    refine pw_goto (t := 15) (pc := 9) dL_most_9 (by decide) ?_
    refine pw_iconst (pc := 15) dL_most_15 ?_
    exact pw_hret (pc := 16) dL_most_16 (by constructor <;> decide) (Or.inl ⟨rfl, zz, h1, hz, hq, rfl⟩)
  · refine pw_astoreQ_n (pc := 12) dL_most_12 rfl (by decide) rfl rfl ?_
    refine pw_iconst (pc := 13) dL_most_13 ?_
    exact pw_hret (pc := 14) dL_most_14 (by constructor <;> decide) (Or.inr ⟨rfl, hq⟩)
theorem l_worst {G : GT_} (hC : okC_ G) (hO : 2000 ∈ gi_ G) (hX : gX_ G) (h : PH_) {Q : Int → PH_ → Prop} {Qx : PH_ → Prop} (hM : PCX G yX11_worst cX11_worst 1 (some .int) 9 [rr_ G 0] h (qi_ Q) Qx) : PCH G yL_worst cL_worst 3 (some .int) [(0, 8, 11, 13)] 12 [rr_ G 0, rr_ G 2000] h (qi_ (HQ_ Q Qx)) := by
  refine PCH.of (lv := [some (rr_ G 0), some (rr_ G 2000), none]) (by decide +kernel) (Nat.le_of_ble_eq_true rfl) rfl rfl ?_
  refine pw_aload_n (z := 2000) (pc := 0) dL_worst_0 rfl rfl ?_
  refine pw_iconst (pc := 1) dL_worst_1 ?_
  refine pw_aload_n (z := 0) (pc := 2) dL_worst_2 rfl rfl ?_
  refine pw_callX (c := 11) (o := 0) (As := []) (rest := [ii_ 0, rr_ G 2000]) (pc := 3) (hp := 11) (x := { startPc := 0, endPc := 8, handlerPc := 11, catchType := 13 }) dL_worst_3 hM lL_19 mX11_worst vX11_worst (hC 0 (by decide)) (show kd_ 0 = 21 by decide +kernel) rfl rfl rfl (by decide) (Nat.le_of_ble_eq_true rfl) hX cwh_worst rfl (by decide) rfl rfl (fun v h1 q => ?_) (fun q h1 hq => ?_)
  · obtain ⟨zz, rfl, hz, hq⟩ := q
    refine pw_i2l (pc := 6) dL_worst_6 hz ?_
    refine pw_last (pc := 7) dL_worst_7 hO (by decide +kernel) 1 (by decide +kernel) (by decide) (by decide) (by constructor <;> decide) (by have a := hz.1; have b := hz.2; constructor <;> omega) ?_
    refine pw_goto (t := 14) (pc := 8) dL_worst_8 (by decide) ?_
    refine pw_iconst (pc := 14) dL_worst_14 ?_
    exact pw_hret (pc := 15) dL_worst_15 (by constructor <;> decide) (Or.inl ⟨rfl, zz, h1, hz, hq, rfl⟩)
  · refine pw_astoreQ_n (pc := 11) dL_worst_11 rfl (by decide) rfl rfl ?_
    refine pw_iconst (pc := 12) dL_worst_12 ?_
    exact pw_hret (pc := 13) dL_worst_13 (by constructor <;> decide) (Or.inr ⟨rfl, hq⟩)

