/-! ===== MiddleSeat() whole ===== -/
theorem idk_lt {k : Nat} (h : k < 173) : idk_ k = k := if_pos h
def Q11_ (h' : PH_) : Prop := ∃ h1 : PH_, CLR_ 4 hz_ h1 ∧ BRD_ (ob_ ro0_ 0 2) 4 36 h1 h'
theorem AR_hz : AR_ hz_ := by
  constructor
  · intro k hk
    unfold hz_
    rw [if_neg (by decide), if_neg (by decide), if_pos rfl, if_pos (by omega)]
    omega
  · intro k hk
    unfold hz_
    rw [if_neg (by decide), if_neg (by decide), if_neg (by decide), if_pos rfl, if_pos (by omega)]
    omega
theorem CLR_A {h1 : PH_} (q : CLR_ 4 hz_ h1) : AR_ h1 := AR_mv AR_hz (q.1 49 (by decide)) (q.1 78 (by decide))
set_option maxHeartbeats 4000000 in
set_option maxRecDepth 100000 in
theorem k_X11 {G : GT_} (hN : gN_ G) (hA : gA_ G) (hg : ∀ k, k < 173 → ga_ G k = gb_ G + k) {E : Nat → va_E} (hE : E 0 = .inr (11, [.null, .null, .null, .null, .null, .null, .null, .null, .null, .int 0, .int 0, .null, .null, .null, .null, .null, .null, .null, .null, .null])) : KQ G yX11_init cX11_init 2 9 172 100000 [.ref (gb_ G + 0)] 1 E 173 Q11_ := by
  have hid : ∀ k, k < 173 → ga_ G (idk_ k) = gb_ G + k := fun k hk => by rw [idk_lt hk]; exact hg k hk
  have hC : okC_ (gw_ G 173) := gw_C (Nat.le_refl _)
  refine KQ.of (lv := [some (.ref (gb_ G + 0)), none]) (by decide +kernel) rfl (Nat.le_of_ble_eq_true rfl) rfl rfl ?_
  refine k_X11a hN hA hE 4 (by decide) ?_
  refine n_cg (E' := ee_ G hz_) (ezs_173 hg) ?_
  refine n_aload_n (pc := 239) dX11_init_239 rfl rfl ?_
  refine n_get (i := 0) (c := 11) (k := 2) (fs := fs_ G (hz_ 0) 0 11) (v := .ref (gb_ G + 4)) (pc := 240) dX11_init_240 fX11_28 (by omega) (cf_obj (i := 0) (c := 11) rfl) (by rw [← hg 4 (by decide)]; rfl) ?_
  refine n_callV (h := hz_) (k0 := 4) (c := 6) (np := 0) (As := []) (rest := []) (pc := 243) hid dX11_init_243 (d_clear hC hz_ 4 (by decide)) lX11_108 mX6_clear vX6_clear (by omega) rfl rfl rfl rfl (fun _ _ => rfl) nr_hz (by decide) ⟨by decide, by decide⟩ (Nat.le_of_ble_eq_true rfl) ?_
  rintro r h1 ⟨rfl, q1⟩ nr1
  have q1 : CLR_ 4 hz_ h1 := q1
  refine n_aload_n (pc := 246) dX11_init_246 rfl rfl ?_
  have e0 : h1 0 = hz_ 0 := q1.1 0 (by decide)
  refine n_callV (h := h1) (k0 := 0) (c := 11) (np := 0) (As := []) (rest := []) (pc := 247) hid dX11_init_247 (d_beginRoad hC h1 4 (by decide) (by rw [e0]; rfl) (ob_ ro0_ 0 2) (CLR_z q1).1 36 (by decide) (by rw [e0]; rfl) (CLR_A q1)) lX11_111 mX11_beginRoad vX11_beginRoad (by omega) rfl rfl rfl rfl (fun _ _ => rfl) nr1 (by decide) ⟨by decide, by decide⟩ (Nat.le_of_ble_eq_true rfl) ?_
  rintro r h2 ⟨rfl, q2⟩ nr2
  exact n_vretQ (pc := 250) dX11_init_250 (by decide) (by decide) ⟨h1, q1, q2⟩ nr2

