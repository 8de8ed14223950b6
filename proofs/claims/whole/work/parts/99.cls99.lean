/-! ===== arrays of objects in a growing world ===== -/
def gA_ (G : GT_) : Prop := ∀ (U : State) (H : Heap), gx_ G U H → va_AO RX3 U ∧ va_AO RX7 U
section PNU
variable {G : GT_} {own : String} {cc : ByteArray} {nL : Nat} {rt : Option FieldType} {ic : Bool} {R : Room} {cs ss : Nat} {Zf : List Frame → Array Value → State → State → Prop} {pc : Nat} {lv : List (Option Value)} {st rest : List Value} {n : Nat} {E : Nat → va_E}
theorem n_anewa {idx t0 N : Nat} {C : String} {z : Int} (hA : gA_ G) (hC : C = RX3 ∨ C = RX7) (hd : decode cc pc = .ok (.anewarray idx, 3)) (hcl : Cond.classLink own idx C ∈ gt_) (ht : (tys_ G)[t0]? = some (gc_ G t0, .object C)) (hz : 0 ≤ z ∧ z ≤ 100000) (hN : z.toNat = N) (hb : N * 4 ≤ 536870912) (hR : cs + 1 ≤ R.cells ∧ ss + N ≤ R.slots)
    (k : PN G own cc nL rt ic R (cs + 1) (ss + N) Zf (pc + 3) lv (.ref (gb_ G + n) :: st) (n + 1) (eS_ E n (.inl (gc_ G t0, N, .inr (.inr (.inr (.inr (fun _ => none)))))))) : PN G own cc nL rt ic R cs ss Zf pc lv (ii_ z :: st) n E := by
  intro p e s m args below meth cd H locs ls X Z P S L
  have hr : ir_ z := by constructor <;> omega
  have hts := X.2.2.2.2.2.2.1 args
  have hao : va_AO C s := by
    have g := hA _ _ X.2.2.2.2.2.2.2.2.2.2.1.2.2.2.2.1
    rcases hC with rfl | rfl
    · exact g.1
    · exact g.2
  subst hN
  have hcl2 : (Int32.ofInt z).toNatClampNeg = z.toNat := i32_clamp hz.1 hr
  refine W.anew X.1 X.2.1 X.2.2.2.2.2.1 (hts _ hcl) (va_AO.use hao) rfl hd rfl (by rw [i32_zero, i32_lt hr ir_0]; omega) (by rw [hcl2]; exact hb) hR.1 (by rw [hcl2]; exact hR.2) fun cA kA comp f1 f2 f3 f4 => ?_
  have hcA : cA = gc_ G t0 := by
    obtain ⟨kA', comp', g1, g2, g3, g4⟩ := (X.2.2.2.2.2.2.2.1.2 t0 _ ht).2
    exact Option.some.inj (f1.symm.trans g4)
  subst hcA
  rw [hcl2]
  generalize hH1 : H.push ({ cls := gc_ G t0, slots := Array.replicate z.toNat .null, vm := .none } : Cell) = H1
  have z1 : H1.size = H.size + 1 := by rw [← hH1, Array.size_push]
  have e1 : H1[H.size]? = some (arrV (gc_ G t0) z.toNat (fun _ => .null)) := by rw [← hH1, Array.getElem?_push_size, ← arrV_new]
  have o1 : ∀ q : Nat, q < H.size → H1[q]? = H[q]? := fun q hq => by rw [← hH1, Array.getElem?_push, if_neg (Nat.ne_of_lt hq)]
  have z0 := Z.1
  show W p (gl_ G) e R s m args below meth cd H1 locs (cs + 1) (ss + z.toNat) (Zf below args s) (F0 m (pc + 3) ls (.ref H.size :: st))
  rw [z0] at e1 o1 z1 ⊢
  refine k p e s m args below meth cd H1 locs ls X ⟨by omega, by have := Z.2; omega⟩ ?_ ⟨Nat.le_trans S.1 (by omega), fun x h1 h2 => (o1 x (by have := S.1; omega)).trans (S.2.1 x h1 h2), S.2.2⟩ L
  rw [← nw_push]
  refine (P.kept (fun k x hx => o1 x.1 (by have := (P k x hx).lt; omega))).app (fun k x hx => ?_)
  have hz9 : k < 1 := (List.getElem?_eq_some_iff.mp hx).1
  rw [show k = 0 by omega] at hx
  cases hx
  exact e1
end PNU

