
/-! THE CLAIM OUT OF ONE WALK OF THE LAW'S BODY. Your part is whole_start (and what it stands on); all else here is the same for every law, but numbers. -/
def R_law : String := "MiddleSeatLaw"
def lw_P (b : Addr) (xs : List Int32) (args : Array Value) (s : State) : Prop := args = #[.ref b] ∧ s.IntsAt b xs ∧ xs.length ≤ 3584 ∧ (Jvm.Cond.and given_1 narrow_1).before args s = true
def lw_Q (_ : Array Value) (s : State) (o : Outcome) (t : State) : Prop := o = .returned (some (.int 1)) ∧ Framed s o t [] 601024 7293033
def lw_Z (below : List Frame) (a : Array Value) (s : State) : State → Prop := fun t => ∃ o, t.status = .running ∧ Ended t below o ∧ lw_Q a s o t
/-- what holds at the law's entry: the machine, the code, the tables' words (any of lw_tbl by 'hts w (by decide +kernel)'), the script of L ints xs at the cell b, what the Statement gives of the start (any of its parts by flat_of_before) -/
def lw_At (p : Program) (s : State) (m : MethodId) (meth : Method) (c : Code) (b L : Nat) (xs : Nat → Int32) : Prop :=
  p.tables.exec = Jvm.exec ∧ c.code = code ∧ meth.sig.returnType = ret ∧ c.maxLocals = 7 ∧ s.vm.findClass R_law = some m.cls ∧ (∀ w ∈ lw_tbl, w.before #[Value.ref b] s = true) ∧ va_X b L xs s s.heap ∧ b < s.heap.size ∧ meth.locks = false ∧ (Jvm.Cond.and given_1 narrow_1).before #[Value.ref b] s = true
/-- launch, base, addresses, no ids, class table, array classes, byte rows, what is kept besides -/
def GG_ (l : Launch) (base : Nat) (adK : Nat → Nat) (D : va_G) (gc : Nat → ClassId) (adV : Nat → Nat) (b L : Nat) (xs : Nat → Int32) : GT_ := (l, base, gaa_ base adK, [], D, gc, adV, gxx_ (fun q => base ≤ q) b L xs)
/-- from the entry, for every script of at most 3584 ints, the law comes to its end with true -/
theorem whole_start {p : Program} {e : Env} {s : State} {m : MethodId} {below : List Frame} {meth : Method} {c : Code} (l : Launch) (hT : l.stackTraces = false) {b L : Nat} {xs : Nat → Int32} (hL : L ≤ 3584) (C0 : lw_At p s m meth c b L xs) : W p l e room_1 s m #[Value.ref b] below meth c s.heap [] 0 0 (lw_Z below #[Value.ref b] s) (entryFrame m ([Value.ref b] : List Value).toArray 7) := by
  obtain ⟨hx, hb, hr, hml, hown, hts, hX, hbl, hlocks, hgv⟩ := C0
  have hA : ∀ a : Nat, a < s.heap.size → ¬ (fun q : Nat => s.heap.size ≤ q) a := fun a h => Nat.not_le.mpr h
  have hni : ∀ c ∈ ni_, c.before #[Value.ref b] s = true := flat_of_before _ hgv
  obtain ⟨adK, adV, hvk, hrf⟩ := str_start (A := fun q : Nat => s.heap.size ≤ q) hni hA
  obtain ⟨D, hD⟩ := cl_start hts
  obtain ⟨gc, hgc⟩ := ar_start hts
  have hg : gxx_ (fun q : Nat => s.heap.size ≤ q) b L xs s s.heap := ⟨⟨vx_Zqof (hts _ st_in.2.2.2.2.1) (hts _ st_in.2.2.2.2.2.2) (hni _ (List.mem_of_getElem? ni_st.2.2.1)) hA, vx_Zqof (hts _ st_in.2.2.2.2.2.1) (hts _ st_in.2.2.2.2.2.2) (hni _ (List.mem_of_getElem? ni_st.2.2.2)) hA⟩, fun w hw => va_Nw.of (nsB_k w hw).2.1 (hts _ (nsB_k w hw).2.2), fun w hw => va_Nw.of (nsN_k w hw).2.1 (hts _ (nsN_k w hw).2.2), ⟨va_AO.of (hts _ (ar_in.2 _ (by decide))), va_AO.of (hts _ (ar_in.2 _ (by decide)))⟩, hX⟩
  have hst : stR_ (GG_ l s.heap.size adK D gc adV b L xs) s s.heap := by
    refine ⟨⟨?_, va_Nw.of nsX_k.2.1 (hts _ nsX_k.2.2), va_Zof (hts _ st_in.1) (hts _ st_in.2.1) (va_eqt (hni _ (List.mem_of_getElem? ni_st.1))) hA, va_Zqof (hts _ st_in.2.2.1) (hts _ st_in.2.2.2.1) (hni _ (List.mem_of_getElem? ni_st.2.1)) hA, hg, ?_⟩, ?_⟩
    · show vk_S 17 stL_ stB_ (fun j => gaa_ s.heap.size adK (3000 + j)) adV (fun q : Nat => s.heap.size ≤ q) s s.heap
      rw [show (fun j => gaa_ s.heap.size adK (3000 + j)) = adK from funext fun j => gaa_st]
      exact hvk
    · intro U U' H H1 h hW hk
      exact gxx_st (Nat.not_le.mpr hbl) h hW hk
    · intro j q hj
      refine vk_R.of (A := #[Value.ref b]) (hts _ (str_ref q (List.mem_of_getElem? hj))) ?_
      rw [← str_tm hj]
      show _ = some (Value.ref (gaa_ s.heap.size adK (3000 + j)))
      rw [gaa_st]
      exact hrf j (str_lt hj)
  have hK : va_K D vwCl (tys_ (GG_ l s.heap.size adK D gc adV b L xs)) s := by
    refine ⟨hD, fun k q hq => ?_⟩
    match k, hq with
    | 0, hq => cases hq; exact hgc 0 _ rfl
    | 1, hq => cases hq; exact hgc 1 _ rfl
    | 2, hq => cases hq; exact hgc 2 _ rfl
    | 3, hq => cases hq; exact hgc 3 _ rfl
    | 4, hq => cases hq; exact hgc 4 _ rfl
    | 5, hq => cases hq; exact hgc 5 _ rfl
    | k + 6, hq => exact absurd (List.getElem?_eq_some_iff.mp hq).1 (by show ¬ k + 6 < 6; omega)
  have hl := lv_entry ([.ref b]) (n := 7) (Nat.le_of_ble_eq_true rfl)
  rw [lg_entry_eq]
  generalize (lg_sl ([.ref b]) ++ List.replicate (7 - (lg_sl ([.ref b])).length) Slot.unset).toArray = ls at hl ⊢
  have hl : lv_has ls 7 [(0, .ref b)] := hl
  have hl2 : lh_ ls 7 [some (.ref b), none, none, none, none, none, none] := by
    refine ⟨hl.1, hl.2.1, rfl, fun i v hi => ?_⟩
    match i, hi with
    | 0, hi => cases hi; exact hl.2.2 (0, .ref b) (List.mem_singleton.mpr rfl)
    | 1, hi => cases hi
    | 2, hi => cases hi
    | 3, hi => cases hi
    | 4, hi => cases hi
    | 5, hi => cases hi
    | 6, hi => cases hi
    | i + 7, hi => exact absurd (List.getElem?_eq_some_iff.mp hi).1 (by show ¬ i + 7 < 7; omega)
  have K := law_start (G := GG_ l s.heap.size adK D gc adV b L xs) gaa_id (fun U H h => h.2.2.1) (fun U H h => h.2.2.2.1) ⟨hT, fun U H h => ⟨h.1.1, h.1.2, h.2.1⟩⟩ (sb := b) (L := L) (xs := xs) ⟨Nat.not_le.mpr hbl, fun U H h => h.2.2.2.2⟩ hL (E := fun _ => .inr (0, []))
  have K := K p e s m #[Value.ref b] below meth c s.heap [] ls ⟨hx, hb, hml, hr, hlocks, hown, fun a w hw => word_at (State.WarmedH.refl s) (good_of_word (List.all_eq_true.mp tb_good w hw)) (hts w (List.mem_filter.mp hw).1), hK, (fun h => absurd h (by decide)), Nat.le_refl _, hst⟩ ⟨rfl, rfl⟩ (fun k q h => by simp [nw_] at h) va_S.rf hl2
  intro T hT X
  obtain ⟨t, a1, o, b1, b2, b3, LL, b4, b5⟩ := K T hT X
  exact ⟨t, a1, o, b1, b2, b3, b4.1, b4.2.1, b4.2.2.weaken (fun x hx h => absurd h (Nat.not_lt.mpr (b5 x hx))) (Nat.le_refl _) (Nat.le_refl _)⟩

