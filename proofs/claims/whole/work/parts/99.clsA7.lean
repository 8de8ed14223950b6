/-! ===== the law, from its entry to its loop ===== -/
section PNL
variable {G : GT_} {own : String} {cc : ByteArray} {nL : Nat} {rt : Option FieldType} {ic : Bool} {R : Room} {cs ss : Nat} {Zf : List Frame → Array Value → State → State → Prop} {pc : Nat} {lv : List (Option Value)} {st rest : List Value} {n : Nat} {E : Nat → va_E}
theorem n_astore_n {q : Fin 4} {i a : Nat} {lv1 : List (Option Value)} (hd : decode cc pc = .ok (.astore_n q, 1)) (hi : (q : Nat) = i) (hn : i < nL) (hp : pv_ lv i = true) (hl : lv.set i (some (.ref a)) = lv1) (k : PN G own cc nL rt ic R cs ss Zf (pc + 1) lv1 st n E) : PN G own cc nL rt ic R cs ss Zf pc lv (.ref a :: st) n E := by
  intro p e s m args below meth cd H locs ls X Z P S L
  subst hl
  exact lv_astore_n X.1 X.2.1 hd hi (lh_has L) hn rfl (fun ls1 h1 => k p e s m args below meth cd H locs ls1 X Z P S (lh_st1 L.2.2.1 hp h1))
theorem n_istore {i : Nat} {z : Int} {lv1 : List (Option Value)} (hd : decode cc pc = .ok (.istore i, 2)) (hn : i < nL) (hp : pv_ lv i = true) (hl : lv.set i (some (ii_ z)) = lv1) (k : PN G own cc nL rt ic R cs ss Zf (pc + 2) lv1 st n E) : PN G own cc nL rt ic R cs ss Zf pc lv (ii_ z :: st) n E := by
  intro p e s m args below meth cd H locs ls X Z P S L
  subst hl
  exact lv_istore X.1 X.2.1 hd (lh_has L) hn rfl (fun ls1 h1 => k p e s m args below meth cd H locs ls1 X Z P S (lh_st1 L.2.2.1 hp h1))
/-- from a world that has grown to the world -/
theorem n_pw {h : PH_} (hA : ∀ k, k < n → ga_ G (idk_ k) = gb_ G + k) (hn : nr_ h) (kk : PW (gw_ G n) own cc nL rt R cs ss Zf pc lv st h) : PN G own cc nL rt ic R cs ss Zf pc lv st n (ee_ G h) := by
  intro p e s m args below meth cd H locs ls X Z P S L
  exact kk p e s m args below meth cd H locs ls ⟨X.1, X.2.1, X.2.2.1, X.2.2.2.1, X.2.2.2.2.1, X.2.2.2.2.2.1, X.2.2.2.2.2.2.1 args, X.2.2.2.2.2.2.2.1, X.2.2.2.2.2.2.2.2.2.1, X.2.2.2.2.2.2.2.2.2.2⟩ (ph_gw hA P hn) S L
end PNL
theorem ee_out {G : GT_} {h : PH_} (hq : h 2000 = fun _ => 0) {k : Nat} : eq2_ (eS_ (ee_ G h) 208 (.inl (gc_ G 1, (1, .inr (.inl (fun _ => Int64.ofInt 0))))) k) (ee_ G h k) := by
  by_cases c : k = 208
  · subst c
    rw [eS_same]
    exact eq2_e (ee_fl (i := 2000) rfl hq rfl rfl).symm
  · rw [eS_off c]
    exact eq2_e rfl
set_option maxHeartbeats 4000000 in
set_option maxRecDepth 100000 in
theorem law_start {G : GT_} (hid : ∀ k, k < 209 → ga_ G (idk_ k) = gb_ G + k) (hN : gN_ G) (hA : gA_ G) (hX : gX_ G) {sb L : Nat} {xs : Nat → Int32} (hS : gS_ G sb L xs) (hL : L ≤ 3584) {E : Nat → va_E} : PN G RL cL_law 7 (some .boolean) false room_1 0 0 (zl_ G) 0 [some (.ref sb), none, none, none, none, none, none] [] 0 E := by
  have hg : ∀ k, k < 173 → ga_ G k = gb_ G + k := fun k hk => by
    have := hid k (by omega)
    rwa [idk_lt hk] at this
  have h208 : ∀ k, k < 208 → ga_ G (idk_ k) = gb_ G + k := fun k hk => hid k (by omega)
  refine n_new (c := 11) (N := 20) (C := RX11) (T := TX11) tyX11 [.null, .null, .null, .null, .null, .null, .null, .null, .null, .int 0, .int 0, .null, .null, .null, .null, .null, .null, .null, .null, .null] (pc := 0) dL_law_0 (List.mem_filter.mpr ⟨by decide +kernel, by decide +kernel⟩) (List.mem_filter.mpr ⟨by decide +kernel, by decide +kernel⟩) mX11_init.2.1 rfl tyX11_ok (fun j hj => match j, hj with | 0, _ => rfl | 1, _ => rfl | 2, _ => rfl | 3, _ => rfl | 4, _ => rfl | 5, _ => rfl | 6, _ => rfl | 7, _ => rfl | 8, _ => rfl | 9, _ => rfl | 10, _ => rfl | 11, _ => rfl | 12, _ => rfl | 13, _ => rfl | 14, _ => rfl | 15, _ => rfl | 16, _ => rfl | 17, _ => rfl | 18, _ => rfl | 19, _ => rfl | x + 20, h => absurd h (by omega)) ⟨by decide, by decide⟩ ?_
  refine n_dup (q := gb_ G + 0) (pc := 3) dL_law_3 ?_
  refine n_callQ (a := gb_ G + 0) (As := []) (rest := [.ref (gb_ G + 0)]) (pc := 4) dL_law_4 (k_X11 hN hA hg (E := _) eS_same) rfl lL_23 mX11_init.1 mX11_init.2.1 (List.mem_filter.mpr ⟨by decide +kernel, by decide +kernel⟩) rfl mX11_init.2.2 rfl ⟨by decide, by decide⟩ ⟨by decide, by decide⟩ (Nat.le_of_ble_eq_true rfl) ?_
  intro h1 q1 n1
  refine n_astore_n (lv1 := [some (.ref sb), some (.ref (gb_ G + 0)), none, none, none, none, none]) (pc := 7) dL_law_7 rfl (by decide) rfl rfl ?_
  refine n_new (c := 12) (N := 60) (C := RX12) (T := TX12) tyX12 [.int 0, .null, .int 0, .int 0, .null, .null, .null, .int 0, .int 0, .null, .null, .null, .null, .int 0, .null, .null, .null, .null, .int 0, .int 0, .int 0, .int 0, .int 0, .null, .null, .null, .null, .null, .int 0, .null, .null, .null, .int 0, .null, .null, .null, .null, .null, .null, .int 0, .int 0, .int 0, .int 0, .int 0, .null, .null, .null, .null, .int 0, .null, .null, .long 0, .long 0, .null, .null, .int 0, .int 0, .int 0, .long 0, .int 0] (pc := 8) dL_law_8 (List.mem_filter.mpr ⟨by decide +kernel, by decide +kernel⟩) (List.mem_filter.mpr ⟨by decide +kernel, by decide +kernel⟩) mX12_init.2.1 rfl tyX12_ok (fun j hj => match j, hj with | 0, _ => rfl | 1, _ => rfl | 2, _ => rfl | 3, _ => rfl | 4, _ => rfl | 5, _ => rfl | 6, _ => rfl | 7, _ => rfl | 8, _ => rfl | 9, _ => rfl | 10, _ => rfl | 11, _ => rfl | 12, _ => rfl | 13, _ => rfl | 14, _ => rfl | 15, _ => rfl | 16, _ => rfl | 17, _ => rfl | 18, _ => rfl | 19, _ => rfl | 20, _ => rfl | 21, _ => rfl | 22, _ => rfl | 23, _ => rfl | 24, _ => rfl | 25, _ => rfl | 26, _ => rfl | 27, _ => rfl | 28, _ => rfl | 29, _ => rfl | 30, _ => rfl | 31, _ => rfl | 32, _ => rfl | 33, _ => rfl | 34, _ => rfl | 35, _ => rfl | 36, _ => rfl | 37, _ => rfl | 38, _ => rfl | 39, _ => rfl | 40, _ => rfl | 41, _ => rfl | 42, _ => rfl | 43, _ => rfl | 44, _ => rfl | 45, _ => rfl | 46, _ => rfl | 47, _ => rfl | 48, _ => rfl | 49, _ => rfl | 50, _ => rfl | 51, _ => rfl | 52, _ => rfl | 53, _ => rfl | 54, _ => rfl | 55, _ => rfl | 56, _ => rfl | 57, _ => rfl | 58, _ => rfl | 59, _ => rfl | x + 60, h => absurd h (by omega)) ⟨by decide, by decide⟩ ?_
  refine n_dup (q := gb_ G + 173) (pc := 11) dL_law_11 ?_
  refine n_callQ (a := gb_ G + 173) (As := []) (rest := [.ref (gb_ G + 173)]) (pc := 12) dL_law_12 (k_X12 h208 q1 n1 (E := _) (fun k hk => eS_off (by omega)) eS_same) rfl (List.mem_filter.mpr ⟨by decide +kernel, by decide +kernel⟩) mX12_init.1 mX12_init.2.1 (List.mem_filter.mpr ⟨by decide +kernel, by decide +kernel⟩) rfl mX12_init.2.2 rfl ⟨by decide, by decide⟩ ⟨by decide, by decide⟩ (Nat.le_of_ble_eq_true rfl) ?_
  intro h5 q5 n5
  refine n_astore_n (lv1 := [some (.ref sb), some (.ref (gb_ G + 0)), some (.ref (gb_ G + 173)), none, none, none, none]) (pc := 15) dL_law_15 rfl (by decide) rfl rfl ?_
  refine n_iconst (z := 1) (pc := 16) dL_law_16 ?_
  refine n_newa (t0 := 1) (N := 1) (ty := .long) (1, .inr (.inl (fun _ => Int64.ofInt 0))) (pc := 17) dL_law_17 rfl rfl (fun _ _ h => h) ac_j (by decide) rfl (fun _ => rfl) (by decide) ⟨by decide, by decide⟩ ?_
  refine n_cg (E' := ee_ G h5) (fun k _ => ee_out q5.2) ?_
  refine n_astore_n (lv1 := [some (.ref sb), some (.ref (gb_ G + 0)), some (.ref (gb_ G + 173)), some (.ref (gb_ G + 208)), none, none, none]) (pc := 19) dL_law_19 rfl (by decide) rfl rfl ?_
  refine n_iconst (z := 0) (pc := 20) dL_law_20 ?_
  refine n_istore (lv1 := [some (.ref sb), some (.ref (gb_ G + 0)), some (.ref (gb_ G + 173)), some (.ref (gb_ G + 208)), some (ii_ 0), none, none]) (pc := 21) dL_law_21 (by decide) rfl rfl ?_
  refine n_pw hid n5 ?_
  have a0 : (Value.ref (gb_ G + 0)) = rr_ (gw_ G 209) 0 := congrArg Value.ref (hid 0 (by decide)).symm
  have a1 : (Value.ref (gb_ G + 173)) = rr_ (gw_ G 209) mo_ := congrArg Value.ref (hid 173 (by decide)).symm
  have a2 : (Value.ref (gb_ G + 208)) = rr_ (gw_ G 209) 2000 := congrArg Value.ref (hid 208 (by decide)).symm
  rw [a0, a1, a2]
  exact law_loop (gw_C (by decide)) (gw_M (by decide)) (gw_O (by decide)) hX hS hL (L + 7) 0 _ _ none none h5 q5.1 (Int.le_refl 0) (by omega) (by omega) (by omega) (by omega)

