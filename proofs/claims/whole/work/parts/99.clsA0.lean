/-! ===== stores in a growing world ===== -/
theorem cast_self {C : String} {c : ClassId} {s : State} (h : s.vm.findClass C = some c) : va_Nw (.castable C C) s := by
  have e : s.vm.assignable c c = true := by
    show s.vm.assignableAux (255 + 1) c c = true
    rw [Vm.assignableAux]
    simp only [beq_self_eq_true, Bool.true_or]
  simp [va_Nw, Cond.before, Cond.holds, Cond.value, h, e]
section PNX
variable {G : GT_} {own : String} {cc : ByteArray} {nL : Nat} {rt : Option FieldType} {ic : Bool} {R : Room} {cs ss : Nat} {Zf : List Frame → Array Value → State → State → Prop} {pc : Nat} {lv : List (Option Value)} {st rest : List Value} {n : Nat} {E : Nat → va_E}
theorem n_fin {p : Program} {e : Env} {s : State} {m : MethodId} {args : Array Value} {below : List Frame} {meth : Method} {cd : Code} {H H1 : Heap} {locs locs1 : List Loc} {ls : Array Slot} (X : pn_ G own cc nL rt ic p s m meth cd) (Z : H.size = gb_ G + n ∧ s.heap.size + cs = gb_ G + n) (S : va_S (ag_ G) s.heap H locs) (L : lh_ ls nL lv) (kk : PN G own cc nL rt ic R cs ss Zf pc lv st n E) (P1 : va_P (gd_ G) vwCl (nw_ (gb_ G) E n) H1) (S1 : va_S (ag_ G) H H1 locs1) : W p (gl_ G) e R s m args below meth cd H1 locs1 cs ss (Zf below args s) (F0 m pc ls st) := by
  intro T hT X0
  have u1 := X0.heapSize
  have hz : H1.size = gb_ G + n := by
    have := S1.1
    have := Z.1
    have := Z.2
    rw [hT] at u1
    omega
  exact kk p e s m args below meth cd H1 locs1 ls X ⟨hz, Z.2⟩ P1 ⟨Nat.le_trans S.1 S1.1, fun q h1 h2 => (S1.2.1 q (Nat.lt_of_lt_of_le h1 S.1) h2).trans (S.2.1 q h1 h2), S1.2.2⟩ L T hT X0
theorem va_S_re {A : Nat → Prop} {H0 H : Heap} {locs : List Loc} (S : va_S A H0 H locs) : va_S A H H locs := ⟨Nat.le_refl _, fun _ _ _ => rfl, S.2.2⟩
theorem n_aast {i v t0 c N : Nat} {x : Int} {C : String} {vs : List Value} {f : Nat → Option Nat} (hd : decode cc pc = .ok (.aastore, 1)) (hi : i < n) (hE : E i = .inl (gc_ G t0, N, .inr (.inr (.inr (.inr f))))) (ht : (tys_ G)[t0]? = some (gc_ G t0, .object C)) (hv : v < n) (hV : E v = .inr (c, vs)) {T9 : u_T} {N9 : Nat} (hc : vwCl[c]? = some (C, T9, N9)) (h0 : 0 ≤ x) (h1 : x < N) (h2 : ir_ x)
    (k : PN G own cc nL rt ic R cs ss Zf (pc + 1) lv st n (eS_ E i (.inl (gc_ G t0, N, .inr (.inr (.inr (.inr (va_up f x.toNat (some (gb_ G + v))))))))) ) : PN G own cc nL rt ic R cs ss Zf pc lv (.ref (gb_ G + v) :: ii_ x :: .ref (gb_ G + i) :: st) n E := by
  intro p e s m args below meth cd H locs ls X Z P S L
  have hca : va_Nw (.castable C C) s := cast_self (X.2.2.2.2.2.2.2.1.1 c _ hc).2.1
  have hw : (nw_ (gb_ G) E n)[i]? = some (gb_ G + i, .inl (gc_ G t0, N, .inr (.inr (.inr (.inr f))))) := by rw [nw_at hi, hE]
  have hw2 : (nw_ (gb_ G) E n)[v]? = some (gb_ G + v, .inr (c, vs)) := by rw [nw_at hv, hV]
  refine va_astqO (D := gd_ G) X.1 X.2.1 X.2.2.2.2.2.2.2.1 P nw_D (va_S_re S) i t0 v c hw ht hca hw2 hc (pi_of h0 h1 h2) hd (fun H1 locs1 P1 D1 S1 => ?_)
  rw [nw_set hi, i32_clamp h0 h2] at P1
  exact n_fin X Z S L k P1 S1
theorem n_last {i N : Nat} {x z : Int} {f : Nat → Int64} (hd : decode cc pc = .ok (.lastore, 1)) (hi : i < n) (hE : E i = .inl (gc_ G 1, N, .inr (.inl f))) (h0 : 0 ≤ x) (h1 : x < N) (h2 : ir_ x)
    (k : PN G own cc nL rt ic R cs ss Zf (pc + 1) lv st n (eS_ E i (.inl (gc_ G 1, N, .inr (.inl (va_up f x.toNat (Int64.ofInt z))))))) : PN G own cc nL rt ic R cs ss Zf pc lv (ll_ z :: ii_ x :: .ref (gb_ G + i) :: st) n E := by
  intro p e s m args below meth cd H locs ls X Z P S L
  have hw : (nw_ (gb_ G) E n)[i]? = some (gb_ G + i, .inl (gc_ G 1, N, .inr (.inl f))) := by rw [nw_at hi, hE]
  refine va_last (D := gd_ G) X.1 X.2.1 X.2.2.2.2.2.2.2.1 P nw_D (va_S_re S) i 1 hw rfl (pi_of h0 h1 h2) hd (fun H1 locs1 P1 D1 S1 => ?_)
  rw [nw_set hi, i32_clamp h0 h2] at P1
  exact n_fin X Z S L k P1 S1
end PNX

