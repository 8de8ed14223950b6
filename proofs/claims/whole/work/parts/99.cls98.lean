/-! ===== from a growing world to the world: calls of methods with contracts ===== -/
def idk_ (k : Nat) : Nat := if k < 173 then k else if k < 208 then 1000 + (k - 173) else 2000
/-- G, of which the first n cells stand -/
def gw_ (G : GT_) (n : Nat) : GT_ := (G.1, G.2.1, G.2.2.1, (List.range n).map idk_, G.2.2.2.2)
def ee_ (G : GT_) (h : PH_) : Nat → va_E := fun k => cf_ G (idk_ k) (h (idk_ k))
theorem ws_gw {G : GT_} {n : Nat} {h : PH_} (hA : ∀ k, k < n → ga_ G (idk_ k) = gb_ G + k) : ws_ (gw_ G n) h = nw_ (gb_ G) (ee_ G h) n := by
  unfold ws_ nw_
  show List.map _ ((List.range n).map idk_) = _
  rw [List.map_map]
  refine List.map_congr_left fun k hk => ?_
  show (ga_ G (idk_ k), _) = _
  rw [hA k (List.mem_range.mp hk)]
  rfl
theorem gw_mem {G : GT_} {n k : Nat} (h : k < n) : idk_ k ∈ gi_ (gw_ G n) := List.mem_map.mpr ⟨k, List.mem_range.mpr h, rfl⟩
theorem gw_C {G : GT_} {n : Nat} (h : 173 ≤ n) : okC_ (gw_ G n) := fun i hi => by
  have := gw_mem (G := G) (n := n) (k := i) (by omega)
  rwa [show idk_ i = i from if_pos hi] at this
theorem gw_M {G : GT_} {n : Nat} (h : 208 ≤ n) : okM_ (gw_ G n) := fun i h0 h1 => by
  have := gw_mem (G := G) (n := n) (k := 173 + (i - 1000)) (by omega)
  rwa [show idk_ (173 + (i - 1000)) = i by unfold idk_; rw [if_neg (by omega), if_pos (by omega)]; omega] at this
theorem gw_O {G : GT_} {n : Nat} (h : 209 ≤ n) : 2000 ∈ gi_ (gw_ G n) := by
  have := gw_mem (G := G) (n := n) (k := 208) (by omega)
  rwa [show idk_ 208 = 2000 from rfl] at this
theorem ph_gw {G : GT_} {n : Nat} {h : PH_} {H : Heap} (hA : ∀ k, k < n → ga_ G (idk_ k) = gb_ G + k) (P : va_P (gd_ G) vwCl (nw_ (gb_ G) (ee_ G h) n) H) (hn : nr_ h) : ph_ (gw_ G n) h H := by
  refine ⟨?_, ?_, hn⟩
  · rw [ws_gw hA]; exact P
  · rw [ws_gw hA]; exact nw_D
section PNV
variable {G : GT_} {own : String} {cc : ByteArray} {nL : Nat} {rt : Option FieldType} {ic : Bool} {R : Room} {cs ss : Nat} {Zf : List Frame → Array Value → State → State → Prop} {pc : Nat} {lv : List (Option Value)} {st rest : List Value} {n : Nat} {E : Nat → va_E}
theorem n_callV {y : MethodName} {bytes : ByteArray} {mL d idx c k0 np : Nat} {ry : Option FieldType} {As : List Value} {h : PH_} {Q : Option Value → PH_ → Prop} (hA : ∀ k, k < n → ga_ G (idk_ k) = gb_ G + k) (hd : decode cc pc = .ok (.invokevirtual idx, 3)) (hM : PC (gw_ G n) y bytes mL ry d (rr_ G (idk_ k0) :: As) h Q) (hl : Cond.methodLink own idx y ∈ gt_) (hy : my_ y bytes mL ry np) (hv : mv_ y) (hk0 : k0 < n) (hk : kd_ (idk_ k0) = c + 10) (hc : (vwCl[c]?).map (fun q => q.1) = some y.cls)
    (hn : As.length = np) (hst : st = As.reverse ++ .ref (gb_ G + k0) :: rest) (hE : ∀ k, k < n → E k = ee_ G h k) (hnr : nr_ h) (hR : d + 1 ≤ R.frames ∧ 19 + mL + 60 * d ≤ R.locals) (hR2 : cs ≤ R.cells ∧ ss ≤ R.slots) (hcat : (rest.map fun v => v.category).sum ≤ 8)
    (k : ∀ (r : Option Value) (h' : PH_), Q r h' → nr_ h' → PN G own cc nL rt ic R cs ss Zf (pc + 3) lv (r.toList ++ rest) n (ee_ G h')) : PN G own cc nL rt ic R cs ss Zf pc lv st n E := by
  intro p e s m args below meth cd H locs ls X Z P S L
  subst hst
  have hts := X.2.2.2.2.2.2.1 args
  have P' : va_P (gd_ G) vwCl (nw_ (gb_ G) (ee_ G h) n) H := by rw [← nw_cg hE]; exact P
  have hph := ph_gw hA P' hnr
  have hw : (nw_ (gb_ G) (ee_ G h) n)[k0]? = some (gb_ G + k0, ee_ G h k0) := nw_at hk0
  have he : ee_ G h k0 = .inr (c, fs_ G (h (idk_ k0)) (idk_ k0) c) := cf_obj hk
  rw [he] at hw
  cases hcv : vwCl[c]? with
  | none => rw [hcv] at hc; cases hc
  | some r0 =>
    rw [hcv] at hc
    have hc1 : r0.1 = y.cls := Option.some.inj hc
    have hb0 : rr_ G (idk_ k0) = .ref (gb_ G + k0) := by show Value.ref (ga_ G (idk_ k0)) = _; rw [hA k0 hk0]
    rw [hb0] at hM
    have hrun := va_runV (p := p) (l := gl_ G) (e := e) (R := R) (s := s) (m := m) (args := args) (below := below) (meth := meth) (c := cd) (H := H) (locs := locs) (cells := cs) (slots := ss) (g := F0 m pc ls (As.reverse ++ .ref (gb_ G + k0) :: rest)) (C := y.cls) (As := As) (rest := rest) (b := gb_ G + k0) (own := own) (Ts := gt_) (nL := nL) ⟨X.1, X.2.1, X.2.2.1, X.2.2.2.2.2.1, hts⟩ hM ⟨callB_of np hts (tb_in0 hy.1) rfl rfl rfl (hts _ hy.2.1) (hts _ hl) hy.2.2 ⟨hR.1, by show 8 + (mL + 11) + 60 * d ≤ _; omega⟩, hts _ hv.1, hts _ hv.2⟩ ⟨pr_blind, by
      have := va_recv (D := gd_ G) X.2.2.2.2.2.2.2.1 P' hcv hw
      rw [hc1] at this
      exact this, fun U hU hW => ⟨rfl, by rw [hU]; exact hph, va_K.moved hW.alike X.2.2.2.2.2.2.2.1, by rw [hU]; exact Nat.le_trans X.2.2.2.2.2.2.2.2.2.1 S.1, stR_moved X.2.2.2.2.2.2.2.2.2.2 hW (fun a h1 h2 => by rw [hU]; exact S.2.1 a h1 h2)⟩⟩ rfl hn L.1 rfl (lv_room hcat) hd ⟨hR2.1, hR2.2⟩
    intro T hT X0
    obtain ⟨v, st₀, t, T', L1, h0, X', hL, e1, e2, ⟨⟨r, h', hv', hq, hp'⟩, hz, hk'⟩, go⟩ := hrun T hT X0
    cases hv'
    rw [h0] at hz hk'
    have hS1 : va_S (ag_ G) s.heap T'.heap (locs ++ L1) := by
      refine ⟨Nat.le_trans S.1 (by rw [e1]; exact hz), fun q h1 h2 => ?_, fun q hq => ?_⟩
      · rw [e1, hk' q (Nat.lt_of_lt_of_le h1 S.1) h2]; exact S.2.1 q h1 h2
      · rcases List.mem_append.mp hq with h | h
        · exact S.2.2 q h
        · exact hL q h
    have hsz : T'.heap.size = gb_ G + n := by
      have u1 := X'.heapSize
      have u2 : H.size ≤ T'.heap.size := by rw [e1]; exact hz
      have := Z.1
      have := Z.2
      omega
    have hp2 : va_P (gd_ G) vwCl (nw_ (gb_ G) (ee_ G h') n) T'.heap := by
      rw [← ws_gw hA, e1]; exact hp'.1
    obtain ⟨t2, a1, b1⟩ := k v h' hq hp'.2.2 p e s m args below meth cd T'.heap (locs ++ L1) ls X ⟨hsz, Z.2⟩ hp2 hS1 L T' rfl X'
    exact ⟨t2, go t2 a1, b1⟩
end PNV

