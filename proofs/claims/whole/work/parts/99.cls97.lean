/-! ===== more rows of a growing world ===== -/
section PNT
variable {G : GT_} {own : String} {cc : ByteArray} {nL : Nat} {rt : Option FieldType} {ic : Bool} {R : Room} {cs ss : Nat} {Zf : List Frame → Array Value → State → State → Prop} {pc : Nat} {lv : List (Option Value)} {st rest : List Value} {n : Nat} {E : Nat → va_E}
theorem n_ldcs {i : Nat} (j : Nat) {tx : String} (hd : decode cc pc = .ok (.ldc i, 2)) (hw : stT_[j]? = some (own, i, tx)) (k : PN G own cc nL rt ic R cs ss Zf (pc + 2) lv (.ref (ga_ G (3000 + j)) :: st) n E) : PN G own cc nL rt ic R cs ss Zf pc lv st n E := by
  intro p e s m args below meth cd H locs ls X Z P S L
  exact va_ldcS X.1 X.2.1 X.2.2.2.2.2.1 (X.2.2.2.2.2.2.2.2.2.2.2 j _ hw) hd (k p e s m args below meth cd H locs ls X Z P S L)
theorem n_iload_n {q : Fin 4} {i : Nat} {z : Int} (hd : decode cc pc = .ok (.iload_n q, 1)) (hi : (q : Nat) = i) (hl : lv[i]? = some (some (ii_ z))) (k : PN G own cc nL rt ic R cs ss Zf (pc + 1) lv (ii_ z :: st) n E) : PN G own cc nL rt ic R cs ss Zf pc lv st n E := by
  intro p e s m args below meth cd H locs ls X Z P S L
  exact lv_iload_n X.1 X.2.1 hd hi (L.2.2.2 i _ hl) (k p e s m args below meth cd H locs ls X Z P S L)
theorem n_istore_n {q : Fin 4} {i : Nat} {z : Int} {lv1 : List (Option Value)} (hd : decode cc pc = .ok (.istore_n q, 1)) (hi : (q : Nat) = i) (hn : i < nL) (hp : pv_ lv i = true) (hl : lv.set i (some (ii_ z)) = lv1) (k : PN G own cc nL rt ic R cs ss Zf (pc + 1) lv1 st n E) : PN G own cc nL rt ic R cs ss Zf pc lv (ii_ z :: st) n E := by
  intro p e s m args below meth cd H locs ls X Z P S L
  subst hl
  exact lv_istore_n X.1 X.2.1 hd hi (lh_has L) hn rfl (fun ls1 h1 => k p e s m args below meth cd H locs ls1 X Z P S (lh_st1 L.2.2.1 hp h1))
theorem n_get {idx c k i : Nat} {fs : List Value} {v : Value} {d : String} {fin : Bool} (hd : decode cc pc = .ok (.getfield idx, 3)) (fa : fa_ own idx c k d fin) (hi : i < n) (hE : E i = .inr (c, fs)) (hv : fs[k]? = some v) (kk : PN G own cc nL rt ic R cs ss Zf (pc + 3) lv (v :: st) n E) : PN G own cc nL rt ic R cs ss Zf pc lv (.ref (gb_ G + i) :: st) n E := by
  intro p e s m args below meth cd H locs ls X Z P S L
  obtain ⟨C, T, N, hc, hkN, hdd, hfin, hlk⟩ := fa
  have hw : (nw_ (gb_ G) E n)[i]? = some (gb_ G + i, .inr (c, fs)) := by rw [nw_at hi, hE]
  have hts := X.2.2.2.2.2.2.1 args
  exact va_get (D := gd_ G) (ci := c) (C := C) (T := T) (N := N) X.1 X.2.1 hts (cl_ok c C T N hc).1 X.2.2.2.2.2.1 X.2.2.2.2.2.2.2.1 P i hw hc k hkN (hts _ hlk) (fun _ h9 => h9) hv hd (kk p e s m args below meth cd H locs ls X Z P S L)
theorem n_put {idx c k i : Nat} {fs : List Value} {v : Value} {d : String} {ty : FieldType} (hd : decode cc pc = .ok (.putfield idx, 3)) (fa : fa_ own idx c k d false) (hi : i < n) (hE : E i = .inr (c, fs)) (hp : parseFieldDescriptor d = some ty) (hn : narrow ty v = v) (hf : fits ty v = true) (hl : k < fs.length)
    (kk : PN G own cc nL rt ic R cs ss Zf (pc + 3) lv st n (eS_ E i (.inr (c, fs.set k v)))) : PN G own cc nL rt ic R cs ss Zf pc lv (v :: .ref (gb_ G + i) :: st) n E := by
  intro p e s m args below meth cd H locs ls X Z P S L
  obtain ⟨C, T, N, hc, hkN, hdd, hfin, hlk⟩ := fa
  obtain ⟨hin, ⟨ty0, hty⟩, hnm⟩ := cl_ok c C T N hc
  have hw : (nw_ (gb_ G) E n)[i]? = some (gb_ G + i, .inr (c, fs)) := by rw [nw_at hi, hE]
  have hts := X.2.2.2.2.2.2.1 args
  have hap := va_apart (own := own) (D := gd_ G) hts hin ty0 hty hnm X.2.2.2.2.2.2.2.1 hc
  obtain ⟨r, h1, cell, q1, q2, q3, q4⟩ := P i _ hw
  have hr : r = (C, T, N) := Option.some.inj (h1.symm.trans hc)
  subst hr
  obtain ⟨hS, hfc, kC, hkC, hkind⟩ := X.2.2.2.2.2.2.2.1.1 c _ hc
  obtain ⟨cf, kf, fi, f, hfi, hsl⟩ := hS k hkN
  have hlay := hts _ (hin _ (u_in_lay hkN))
  unfold u_lay at hlay
  rw [if_neg (by rw [hfin]; decide)] at hlay
  have hst := (u_facts hfc hkC (u_lays hts hin hkN) hfi).1
  have h6 := u_store hfc hkC hkind hlay hfi (by rw [hdd]; exact hp) hn hf
  refine W.putK X.1 X.2.1 (f := f) ⟨X.2.2.2.2.2.1, hts _ hlk, ⟨_, _, _, hfi⟩, hst⟩ (by rw [q2]; exact h6) q1 q3 (by rw [hsl]; exact k2_hasslot (q4 k hkN)) rfl rfl hd fun H' e1 e2 e3 => ?_
  rw [hsl] at e1 ⊢
  have P1 := P.set (nw_D (b := gb_ G)) hw (H1 := H') (e := .inr (c, fs.set k v)) ⟨_, hc, t_OB.to (V := updV (vp_V fs) k v) ⟨_, e1, q2, q3, t_set q4 hap hkN v⟩ (fun j _ => vp_updV_set hl v j)⟩ e3
  rw [nw_set hi] at P1
  exact kk p e s m args below meth cd H' _ ls X ⟨e2.trans Z.1, Z.2⟩ P1 (S.put e2 e3 (show gb_ G ≤ gb_ G + i by omega)) L
end PNT
/-- Reader's constructor -/
def ek5 (G : GT_) (E : Nat → va_E) (t i : Nat) : Nat → va_E := eS_ (eS_ E i (.inr (5, [.null, .null, .ref (ga_ G 3000), .int 0, .int 0, .int 0]))) i (.inr (5, [.ref (gb_ G + t), .null, .ref (ga_ G 3000), .int 0, .int 0, .int 0]))
theorem k_X5 {G : GT_} {n i t : Nat} {E : Nat → va_E} (hi : i < n) (hE : E i = .inr (5, [.null, .null, .null, .int 0, .int 0, .int 0])) : KN G yX5_init cX5_init 2 1 0 0 [.ref (gb_ G + i), .ref (gb_ G + t)] n E n (ek5 G E t i) := by
  refine KN.of (lv := [some (.ref (gb_ G + i)), some (.ref (gb_ G + t))]) (by decide +kernel) rfl (Nat.le_of_ble_eq_true rfl) rfl rfl ?_
  refine n_aload_n (pc := 0) dX5_init_0 rfl rfl ?_
  refine n_obj (pc := 1) dX5_init_1 (List.mem_filter.mpr ⟨by decide +kernel, by decide +kernel⟩) oi_i oi_c (by decide) (by decide) ?_
  refine n_aload_n (pc := 4) dX5_init_4 rfl rfl ?_
  refine n_ldcs 0 (pc := 5) dX5_init_5 rfl ?_
  refine n_put (i := i) (c := 5) (k := 2) (ty := .object "java/lang/String") (pc := 7) dX5_init_7 fX5_11 (by omega) hE (by decide +kernel) rfl rfl (Nat.le_of_ble_eq_true rfl) ?_
  refine n_aload_n (pc := 10) dX5_init_10 rfl rfl ?_
  refine n_aload_n (q := gb_ G + t) (pc := 11) dX5_init_11 rfl rfl ?_
  refine n_putF (i := i) (c := 5) (k := 0) (fs := [.null, .null, .ref (ga_ G 3000), .int 0, .int 0, .int 0]) (ty := .object "MiddleSeat$Tape") (pc := 12) dX5_init_12 fX5_17 rfl (fun q hq => by cases hq; rfl) (by omega) eS_same (by decide +kernel) rfl rfl (Nat.le_of_ble_eq_true rfl) ?_
  exact n_vret (pc := 15) dX5_init_15 (by decide) (by decide)

