/-! ===== what the start gives ===== -/
def ni_ : List Cond := flatC (Jvm.Cond.and given_1 narrow_1)
def stm_ (i : Nat) : Term := Term.string ((stT_.getD i ("", 0, "")).1) ((stT_.getD i ("", 0, "")).2.1)
def sb_ : List Nat := [54, 58, 71, 83, 137, 149, 275, 310, 326, 343, 379, 397, 419, 449, 476, 498, 530]
theorem ni_ex : ∀ i, i < 17 → ni_[sb_.getD i 0]? = some (Cond.exactly (stm_ i) "java/lang/String") := by decide +kernel
theorem ni_co : ∀ i, i < 17 → ni_[sb_.getD i 0 + 1]? = some (Cond.eq (.field (stm_ i) "java/lang/String" "coder" "B") (.int 0)) := by decide +kernel
theorem ni_ar : ∀ i, i < 17 → ni_[sb_.getD i 0 + 2]? = some (Cond.arrayOf (.field (stm_ i) "java/lang/String" "value" "[B") .byte) := by decide +kernel
theorem ni_le : ∀ i, i < 17 → ni_[sb_.getD i 0 + 3]? = some (Cond.eq (.length (.field (stm_ i) "java/lang/String" "value" "[B")) (.int (Int32.ofNat (stL_.getD i 0)))) := by decide +kernel
theorem ni_el : ∀ i, i < 17 → ∀ j, j < stL_.getD i 0 → ni_[sb_.getD i 0 + 4 + j]? = some (Cond.eq (.elem (.field (stm_ i) "java/lang/String" "value" "[B") (.int (Int32.ofNat j))) (.int ((stB_.getD i []).getD j 0))) := by decide +kernel
theorem ni_ne : ∀ i, i < 17 → ∀ j, j < i → ni_[sb_.getD i 0 + 4 + stL_.getD i 0 + j]? = some (Cond.not (Cond.eq (stm_ j) (stm_ i))) := by decide +kernel
theorem ni_st : ni_[4]? = some (Cond.eq (.static "java/lang/String" "COMPACT_STRINGS" "Z") (.int 1)) ∧ ni_[5]? = some (Cond.isRef (.static "jdk/internal/util/Preconditions" "SIOOBE_FORMATTER" "Ljava/util/function/BiFunction;")) ∧ ni_[9]? = some (Cond.isRef (.static Bundle.tN "UNASSIGNED_STACK" Bundle.steD)) ∧ ni_[10]? = some (Cond.isRef (.static Bundle.tN "SUPPRESSED_SENTINEL" Bundle.listD)) := by decide +kernel
theorem stL_s : ∀ i, i < 17 → stL_.getD i 0 < 2 ^ 31 := by decide +kernel
theorem str_start {args : Array Value} {s : State} {A : Nat → Prop} (hq : ∀ c ∈ ni_, c.before args s = true) (hA : ∀ a : Nat, a < s.heap.size → ¬ A a) : ∃ adK adV : Nat → Nat, vk_S 17 stL_ stB_ adK adV A s s.heap ∧ ∀ i : Nat, i < 17 → (stm_ i).eval args s none [] s = some (.ref (adK i)) := by
  refine vk_Sof (tm := stm_) stL_s (fun i hi => hq _ (List.mem_of_getElem? (ni_ex i hi))) (fun i hi => hq _ (List.mem_of_getElem? (ni_co i hi))) (fun i hi => hq _ (List.mem_of_getElem? (ni_ar i hi))) (fun i hi => hq _ (List.mem_of_getElem? (ni_le i hi))) (fun i hi j hj => hq _ (List.mem_of_getElem? (ni_el i hi j hj))) (fun i j hi hj hij => ?_) hA
  by_cases c : j < i
  · exact Or.inr (hq _ (List.mem_of_getElem? (ni_ne i hi j c)))
  · exact Or.inl (hq _ (List.mem_of_getElem? (ni_ne j hj i (by omega))))
theorem str_ref : ∀ q ∈ stT_, Cond.stringRef q.1 q.2.1 q.2.2 ∈ lw_tbl := by decide +kernel
theorem str_tm {j : Nat} {q : String × Nat × String} (h : stT_[j]? = some q) : stm_ j = Term.string q.1 q.2.1 := by
  unfold stm_
  rw [List.getD_eq_getElem?_getD, h]
  rfl
theorem str_lt {j : Nat} {q : String × Nat × String} (h : stT_[j]? = some q) : j < 17 := (List.getElem?_eq_some_iff.mp h).1
theorem cl_in : ∀ r ∈ vwCl, Cond.instantiable r.1 r.2.2 ∈ lw_tbl := by decide +kernel
theorem cl_start {args : Array Value} {s : State} (hts : ∀ w ∈ lw_tbl, w.before args s = true) : ∃ D : va_G, ∀ (c : Nat) (q : vw_C), vwCl[c]? = some q → u_Kn s q.1 q.2.1 q.2.2 (D.1 c) (D.2 c) := by
  have h0 : ∀ c : Nat, ∃ d : ClassId × (Nat → Nat), ∀ q : vw_C, vwCl[c]? = some q → u_Kn s q.1 q.2.1 q.2.2 d.1 d.2 := by
    intro c
    cases hc : vwCl[c]? with
    | none => exact ⟨(default, fun _ => 0), fun q hq => by cases hq⟩
    | some r =>
      obtain ⟨C, T, N⟩ := r
      obtain ⟨cC, iS, hk⟩ := u_known (ws := lw_tbl) (C := C) (T := T) (N := N) (n := N) hts (fun w hw => (List.mem_filter.mp ((cl_ok c C T N hc).1 w hw)).1) (hts _ (cl_in _ (List.mem_of_getElem? hc)))
      exact ⟨(cC, iS), fun q hq => by cases hq; exact hk⟩
  exact ⟨(fun c => (Classical.choose (h0 c)).1, fun c => (Classical.choose (h0 c)).2), fun c q hq => Classical.choose_spec (h0 c) q hq⟩
def tyl_ : List FieldType := [.int, .long, .boolean, .char, .object RX3, .object RX7]
theorem ar_o {args : Array Value} {s : State} {C : String} (h : (Cond.arrayOver (.object C)).before args s = true) : ∃ c : ClassId, ArrOfT s c (.object C) ∧ va_RA s c (.object C) := by
  obtain ⟨comp, c, k, h1, h2, h3, h4, h5⟩ := Cond.arrayOver_spec h
  exact ⟨c, fun n z => ⟨(fun k h => by cases h), k, h3, comp, h4⟩, k, comp, h3, h4, h1, h5⟩
theorem ar_p {args : Array Value} {s : State} {t : FieldType} (ht : t = .int ∨ t = .long ∨ t = .boolean ∨ t = .char) (h : (Cond.arrayClass t).before args s = true) : ∃ c : ClassId, ArrOfT s c t ∧ va_RA s c t := by
  obtain ⟨c, k, comp, h1, h2, h3⟩ := Cond.arrayClass_spec h
  refine ⟨c, fun n z => ⟨(fun k h => by cases h), k, h2, comp, h3⟩, ?_⟩
  rcases ht with rfl | rfl | rfl | rfl <;> exact h1
theorem ar_in : (∀ t ∈ [FieldType.int, .long, .boolean, .char], Cond.arrayClass t ∈ lw_tbl) ∧ ∀ C ∈ [RX3, RX7], Cond.arrayOver (.object C) ∈ lw_tbl := by decide +kernel
theorem ar_start {args : Array Value} {s : State} (hts : ∀ w ∈ lw_tbl, w.before args s = true) : ∃ gc : Nat → ClassId, ∀ (k : Nat) (t : FieldType), tyl_[k]? = some t → ArrOfT s (gc k) t ∧ va_RA s (gc k) t := by
  have h0 : ∀ k : Nat, ∃ c : ClassId, ∀ t : FieldType, tyl_[k]? = some t → ArrOfT s c t ∧ va_RA s c t := by
    intro k
    match k with
    | 0 => obtain ⟨c, h⟩ := ar_p (t := .int) (Or.inl rfl) (hts _ (ar_in.1 _ (by decide))); exact ⟨c, fun t ht => by cases ht; exact h⟩
    | 1 => obtain ⟨c, h⟩ := ar_p (t := .long) (Or.inr (Or.inl rfl)) (hts _ (ar_in.1 _ (by decide))); exact ⟨c, fun t ht => by cases ht; exact h⟩
    | 2 => obtain ⟨c, h⟩ := ar_p (t := .boolean) (Or.inr (Or.inr (Or.inl rfl))) (hts _ (ar_in.1 _ (by decide))); exact ⟨c, fun t ht => by cases ht; exact h⟩
    | 3 => obtain ⟨c, h⟩ := ar_p (t := .char) (Or.inr (Or.inr (Or.inr rfl))) (hts _ (ar_in.1 _ (by decide))); exact ⟨c, fun t ht => by cases ht; exact h⟩
    | 4 => obtain ⟨c, h⟩ := ar_o (C := RX3) (hts _ (ar_in.2 _ (by decide))); exact ⟨c, fun t ht => by cases ht; exact h⟩
    | 5 => obtain ⟨c, h⟩ := ar_o (C := RX7) (hts _ (ar_in.2 _ (by decide))); exact ⟨c, fun t ht => by cases ht; exact h⟩
    | k + 6 => exact ⟨default, fun t ht => by
        have := (List.getElem?_eq_some_iff.mp ht).1
        exact absurd this (by show ¬ k + 6 < 6; omega)⟩
  exact ⟨fun k => Classical.choose (h0 k), fun k t => Classical.choose_spec (h0 k) t⟩
/-- words that stay when links are resolved -/
def nk_ (w : Cond) : Bool := match w with
  | .declares _ => true
  | .castable _ _ => true
  | .methodLinkNest _ _ _ _ => true
  | _ => false
theorem nk_warm {w : Cond} {s U : State} (hk : nk_ w = true) (hW : s.WarmedH U.vm) (h : va_Nw w s) : va_Nw w U := by
  cases w <;> first | exact va_Nw.warmD hW h | exact va_Nw.warmC hW h | exact va_Nw.warmM hW h | (exfalso; revert hk; simp [nk_])
theorem nsB_k : ∀ w ∈ nsB_, nk_ w = true ∧ w.onTables = true ∧ w ∈ lw_tbl := by decide +kernel
theorem nsN_k : ∀ w ∈ nsN_, nk_ w = true ∧ w.onTables = true ∧ w ∈ lw_tbl := by decide +kernel
def nsX_ : Cond := .methodLinkNest RX1 164 yX11_spreadOf RX11
theorem nsX_k : nk_ nsX_ = true ∧ nsX_.onTables = true ∧ nsX_ ∈ lw_tbl := by decide +kernel
theorem st_in : Cond.laysStatic "java/lang/String" "COMPACT_STRINGS" "Z" ∈ lw_tbl ∧ Cond.initialized "java/lang/String" ∈ lw_tbl ∧ Cond.laysStatic "jdk/internal/util/Preconditions" "SIOOBE_FORMATTER" "Ljava/util/function/BiFunction;" ∈ lw_tbl ∧ Cond.initialized "jdk/internal/util/Preconditions" ∈ lw_tbl ∧ Cond.laysStatic Bundle.tN "UNASSIGNED_STACK" Bundle.steD ∈ lw_tbl ∧ Cond.laysStatic Bundle.tN "SUPPRESSED_SENTINEL" Bundle.listD ∈ lw_tbl ∧ Cond.initialized Bundle.tN ∈ lw_tbl := by decide +kernel
/-- what is kept besides -/
def gxx_ (A : Nat → Prop) (sb L : Nat) (xs : Nat → Int32) : State → Heap → Prop := fun U H => (vx_Zq Bundle.tN "UNASSIGNED_STACK" Bundle.steD A U H ∧ vx_Zq Bundle.tN "SUPPRESSED_SENTINEL" Bundle.listD A U H) ∧ (∀ w ∈ nsB_, va_Nw w U) ∧ (∀ w ∈ nsN_, va_Nw w U) ∧ (va_AO RX3 U ∧ va_AO RX7 U) ∧ va_X sb L xs U H
theorem gxx_st {A : Nat → Prop} {sb L : Nat} {xs : Nat → Int32} (hb : ¬ A sb) {U U' : State} {H H1 : Heap} (h : gxx_ A sb L xs U H) (hW : U.WarmedH U'.vm) (hk : ∀ a : Nat, a < H.size → ¬ A a → H1[a]? = H[a]?) : gxx_ A sb L xs U' H1 := by
  obtain ⟨⟨h1, h2⟩, h3, h4, ⟨h5, h6⟩, h7⟩ := h
  have hvm := hW.alike
  refine ⟨⟨(vx_Zq.moved hvm h1).kept hk, (vx_Zq.moved hvm h2).kept hk⟩, fun w hw => nk_warm (nsB_k w hw).1 hW (h3 w hw), fun w hw => nk_warm (nsN_k w hw).1 hW (h4 w hw), ⟨va_AO.moved hvm h5, va_AO.moved hvm h6⟩, ?_⟩
  have hs : sb < H.size := by
    obtain ⟨scr, g1, -⟩ := h7
    exact (Array.getElem?_eq_some_iff.mp g1).1
  exact (va_X.moved hvm h7).kept (hk sb hs hb)
def gaa_ (base : Nat) (adK : Nat → Nat) : Nat → Nat := fun i => if i < 1000 then base + i else if i < 2000 then base + 173 + (i - 1000) else if i < 3000 then base + 208 else adK (i - 3000)
theorem gaa_id {base : Nat} {adK : Nat → Nat} : ∀ k, k < 209 → gaa_ base adK (idk_ k) = base + k := by
  intro k hk
  unfold idk_ gaa_
  by_cases c : k < 173
  · rw [if_pos c, if_pos (by omega)]
  · rw [if_neg c]
    by_cases d : k < 208
    · rw [if_pos d, if_neg (by omega), if_pos (by omega)]; omega
    · rw [if_neg d, if_neg (by omega), if_neg (by omega), if_pos (by omega)]; omega
theorem gaa_st {base : Nat} {adK : Nat → Nat} {j : Nat} : gaa_ base adK (3000 + j) = adK j := by
  unfold gaa_
  rw [if_neg (by omega), if_neg (by omega), if_neg (by omega), Nat.add_sub_cancel_left]

