/-! ===== a rider's name ===== -/
def RP3_ (tk : Nat → TK_) (N : Nat) (nm : NM_) (X : RE_ Nat) (z : Int) (h' : PH_) : Prop := (∃ a v, X = .ok a ∧ rdh_ tk nm a = .ok v ∧ RPO_ tk N h' a ∧ z = v ∧ (0 ≤ v ∧ v ≤ 3) ∧ (tk a).1 = 1) ∨ (∃ e, bd_ X (rdh_ tk nm) = .error e ∧ RPE_ tk N h' e)
theorem RP3_7 {tk : Nat → TK_} {N : Nat} {nm : NM_} {X : RE_ Nat} {z : Int} {h : PH_} (H : RP3_ tk N nm X z h) : RP_ tk N h (bd_ X (fun a => bd_ (rdh_ tk nm a) (fun _ => .ok a))) := by
  rcases H with ⟨a, v, h1, h2, h3, _⟩ | ⟨e, h1, h2⟩
  · rw [bd_o h1, bd_o h2]; exact h3
  · cases X with
    | ok a => rw [bd_o rfl] at h1; rw [bd_o rfl, bd_e h1]; exact h2
    | error x => have h1 : Except.error x = Except.error e := h1; cases h1; exact h2

set_option maxHeartbeats 4000000 in
set_option maxRecDepth 100000 in
theorem c_riderHere1 {G : GT_} (hM : okM_ G) (h : PH_) (tk : Nat → TK_) (N : Nat) (X : RE_ Nat) (H : RP_ tk N h X) (nm : NM_) (hn : nmr_ (h mo_ 19) (h mReadNames) (h mReadNameOf) nm) : PC G yX12_riderHere cX12_riderHere 3 (some .int) 4 [rr_ G mo_, ii_ 1] h (qi_ (fun z h' => fr7_ h h' ∧ RP3_ tk N nm X z h')) := by
  have R7 := RP_7 H
  refine PC.of (lv := [some (rr_ G mo_), some (ii_ 1), none]) (by decide +kernel) (Nat.le_of_ble_eq_true rfl) rfl rfl ?_
  have J19 : ∀ (hb : PH_), ((hb = h ∧ ((∃ a, X = .ok a ∧ nam_ (tk a)) ∨ 0 < h mo_ 8)) ∨ (¬ (∃ a, X = .ok a ∧ nam_ (tk a)) ∧ h mo_ 8 = 0 ∧ hb = wro_ h 1)) → PW G RX12 cX12_riderHere 3 (some .int) (rm_ 4) 0 0 (zm_ G (qi_ (fun z h' => fr7_ h h' ∧ RP3_ tk N nm X z h'))) 19 [some (rr_ G mo_), some (ii_ 1), none] [] hb := by
    intro hb hc
    have st : (∃ a, X = .ok a ∧ nam_ (tk a) ∧ hb = h ∧ RPO_ tk N h a) ∨ (∃ e, bd_ X (rdh_ tk nm) = .error e ∧ RPE_ tk N hb e ∧ fr7_ h hb) := by
      cases X with
      | ok a =>
        have H : RPO_ tk N h a := H
        rcases hc with ⟨u1, u2⟩ | ⟨u1, u2, u3⟩
        · rcases u2 with ⟨b, u3, u4⟩ | u2
          · cases u3; exact Or.inl ⟨a, rfl, u4, u1, H⟩
          · exfalso; have := H.2.2.2; omega
        · have w9 := RP_w (w := 1) H (by omega)
          refine Or.inr ⟨flt_ tk 1 a, ?_, by rw [u3]; exact w9.2, by rw [u3, w9.1]; exact fr7_8⟩
          show rdh_ tk nm a = _
          unfold rdh_
          rw [if_f (fun u => u1 ⟨a, rfl, u⟩)]
      | error x =>
        have H : RPE_ tk N h x := H
        rcases hc with ⟨u1, u2⟩ | ⟨u1, u2, u3⟩
        · exact Or.inr ⟨x, rfl, by rw [u1]; exact H, by rw [u1]; exact fr7_rf⟩
        · exfalso; have := H.2.2; omega
    have b8 : 0 ≤ hb mo_ 8 ∧ hb mo_ 8 < 2147483648 := by
      rcases st with ⟨a, x1, x2, x3, x4⟩ | ⟨e, u1, u2, u3⟩
      · have := x4.2.2.2; rw [x3]; omega
      · have := u2.2.2; omega
    have J35 : ∀ (v : Int), ((∃ a, X = .ok a ∧ nam_ (tk a) ∧ hb = h ∧ RPO_ tk N h a ∧ v = fnd_ nm (tk a).2.2.2) ∨ (∃ e, bd_ X (rdh_ tk nm) = .error e ∧ RPE_ tk N hb e ∧ fr7_ h hb ∧ v = -1)) → (ir_ v) → PW G RX12 cX12_riderHere 3 (some .int) (rm_ 4) 0 0 (zm_ G (qi_ (fun z h' => fr7_ h h' ∧ RP3_ tk N nm X z h'))) 35 [some (rr_ G mo_), some (ii_ 1), none] [ii_ v] hb := by
      intro v hv vr
      refine pw_istore_n (lv1 := [some (rr_ G mo_), some (ii_ 1), some (ii_ v)]) (pc := 35) dX12_riderHere_35 rfl (by decide) rfl rfl ?_
      refine pw_aload_n (z := mo_) (pc := 36) dX12_riderHere_36 rfl rfl ?_
      refine pw_gI (x := 8) (pc := 37) dX12_riderHere_37 fX12_218 (im_mo_ hM) k_mo_ rfl rfl (fun r37 => ?_)
      refine pw_if_ne (t := 57) (pc := 40) dX12_riderHere_40 (by decide) (by first | omega) (fun c40 => ?_) (fun c40 => ?_)
      · refine pw_iload_n (z := v) (pc := 57) dX12_riderHere_57 rfl rfl ?_
        exact pw_iret (pc := 58) dX12_riderHere_58 (by first | omega) (by
                  first
                  | (have hz : hb mo_ 8 ≠ 0 := by omega
                     rcases hv with ⟨a, x1, x2, x3, x4, x5⟩ | ⟨e, u1, u2, u3, u4⟩
                     · exfalso; have := x4.2.2.2; rw [x3] at hz; omega
                     · exact ⟨u3, Or.inr ⟨e, u1, u2⟩⟩)
                  | (have rd : rdh_ tk nm a = .ok v := by unfold rdh_; rw [if_t x2, if_t (by rw [← x5]; exact p46), x5]
                     exact ⟨by rw [x3]; exact fr7_rf, Or.inl ⟨a, v, x1, rd, by rw [x3]; exact x4, rfl, p46, x2.1⟩⟩)
                  | (have rd : rdh_ tk nm a = .error (flt_ tk 2 a) := by unfold rdh_; rw [if_t x2, if_f (by rw [← x5]; exact p46)]
                     rw [x3] at q54
                     have w9 := RP_w (w := 2) x4 (by omega)
                     exact ⟨by rw [q54, w9.1]; exact fr7_8, Or.inr ⟨_, by rw [bd_o x1]; exact rd, by rw [q54]; exact w9.2⟩⟩))
      · obtain ⟨a, x1, x2, x3, x4, x5⟩ : ∃ a, X = .ok a ∧ nam_ (tk a) ∧ hb = h ∧ RPO_ tk N h a ∧ v = fnd_ nm (tk a).2.2.2 := by
          rcases hv with u | ⟨e, u1, u2, u3, u4⟩
          · exact u
          · exfalso; have := u2.2.2; omega
        have pl := RP_7 (X := .ok a) x4
        rw [← x3] at pl
        refine pw_iload_n (z := v) (pc := 43) dX12_riderHere_43 rfl rfl ?_
        refine pw_iconst (pc := 44) dX12_riderHere_44 ?_
        refine pw_iconst (pc := 45) dX12_riderHere_45 ?_
        refine pw_callS (As := [ii_ v, ii_ 0, ii_ 3]) (rest := []) (pc := 46) dX12_riderHere_46 (c_within hb (v) (0) (3) (by first | omega) (by first | omega) (by first | omega)) lX12_308 mX12_within sX12_within rfl rfl (by decide) ⟨Nat.zero_le _, Nat.zero_le _⟩ (Nat.le_of_ble_eq_true rfl) (k_i (fun z46 h46 y46 q46 => ?_))
        obtain ⟨rfl, ⟨rfl, p46⟩ | ⟨rfl, p46⟩⟩ := q46
        · refine pw_if_ne (t := 57) (pc := 49) dX12_riderHere_49 (by decide) (by first | omega) (fun _ => ?_) (fun c49 => absurd c49 (by decide))
          refine pw_iload_n (z := v) (pc := 57) dX12_riderHere_57 rfl rfl ?_
          exact pw_iret (pc := 58) dX12_riderHere_58 (by first | omega) (by
                    first
                    | (have hz : hb mo_ 8 ≠ 0 := by omega
                       rcases hv with ⟨a, x1, x2, x3, x4, x5⟩ | ⟨e, u1, u2, u3, u4⟩
                       · exfalso; have := x4.2.2.2; rw [x3] at hz; omega
                       · exact ⟨u3, Or.inr ⟨e, u1, u2⟩⟩)
                    | (have rd : rdh_ tk nm a = .ok v := by unfold rdh_; rw [if_t x2, if_t (by rw [← x5]; exact p46), x5]
                       exact ⟨by rw [x3]; exact fr7_rf, Or.inl ⟨a, v, x1, rd, by rw [x3]; exact x4, rfl, p46, x2.1⟩⟩)
                    | (have rd : rdh_ tk nm a = .error (flt_ tk 2 a) := by unfold rdh_; rw [if_t x2, if_f (by rw [← x5]; exact p46)]
                       rw [x3] at q54
                       have w9 := RP_w (w := 2) x4 (by omega)
                       exact ⟨by rw [q54, w9.1]; exact fr7_8, Or.inr ⟨_, by rw [bd_o x1]; exact rd, by rw [q54]; exact w9.2⟩⟩))
        · refine pw_if_ne (t := 57) (pc := 49) dX12_riderHere_49 (by decide) (by first | omega) (fun c49 => absurd c49 (by decide)) (fun _ => ?_)
          refine pw_aload_n (z := mo_) (pc := 52) dX12_riderHere_52 rfl rfl ?_
          refine pw_iconst (pc := 53) dX12_riderHere_53 ?_
          refine pw_callV (c := 12) (o := mo_) (As := [ii_ 2]) (rest := []) (pc := 54) dX12_riderHere_54 (c_wrong hM hb (by first | omega) (by first | omega) 2 (by first | omega)) lX12_224 mX12_wrong vX12_wrong (im_mo_ hM) k_mo_ rfl rfl rfl (by decide) ⟨Nat.zero_le _, Nat.zero_le _⟩ (Nat.le_of_ble_eq_true rfl) (k_v (fun h54 q54 => ?_))
          refine pw_iload_n (z := v) (pc := 57) dX12_riderHere_57 rfl rfl ?_
          exact pw_iret (pc := 58) dX12_riderHere_58 (by first | omega) (by
                    first
                    | (have hz : hb mo_ 8 ≠ 0 := by omega
                       rcases hv with ⟨a, x1, x2, x3, x4, x5⟩ | ⟨e, u1, u2, u3, u4⟩
                       · exfalso; have := x4.2.2.2; rw [x3] at hz; omega
                       · exact ⟨u3, Or.inr ⟨e, u1, u2⟩⟩)
                    | (have rd : rdh_ tk nm a = .ok v := by unfold rdh_; rw [if_t x2, if_t (by rw [← x5]; exact p46), x5]
                       exact ⟨by rw [x3]; exact fr7_rf, Or.inl ⟨a, v, x1, rd, by rw [x3]; exact x4, rfl, p46, x2.1⟩⟩)
                    | (have rd : rdh_ tk nm a = .error (flt_ tk 2 a) := by unfold rdh_; rw [if_t x2, if_f (by rw [← x5]; exact p46)]
                       rw [x3] at q54
                       have w9 := RP_w (w := 2) x4 (by omega)
                       exact ⟨by rw [q54, w9.1]; exact fr7_8, Or.inr ⟨_, by rw [bd_o x1]; exact rd, by rw [q54]; exact w9.2⟩⟩))
    refine pw_aload_n (z := mo_) (pc := 19) dX12_riderHere_19 rfl rfl ?_
    refine pw_gI (x := 8) (pc := 20) dX12_riderHere_20 fX12_218 (im_mo_ hM) k_mo_ rfl rfl (fun r20 => ?_)
    refine pw_if_le (t := 30) (pc := 23) dX12_riderHere_23 (by decide) (by first | omega) (fun c23 => ?_) (fun c23 => ?_)
    · obtain ⟨a, x1, x2, x3, x4⟩ : ∃ a, X = .ok a ∧ nam_ (tk a) ∧ hb = h ∧ RPO_ tk N h a := by
        rcases st with u | ⟨e, u1, u2, u3⟩
        · exact u
        · exfalso; have := u2.2.2; omega
      refine pw_aload_n (z := mo_) (pc := 30) dX12_riderHere_30 rfl rfl ?_
      refine pw_iload_n (z := 1) (pc := 31) dX12_riderHere_31 rfl rfl ?_
      refine pw_callV (c := 12) (o := mo_) (As := [ii_ 1]) (rest := []) (pc := 32) dX12_riderHere_32 (c_find1 hM hb tk N a (by rw [x3]; exact x4) x2.1 nm (by rw [x3]; exact hn)) lX12_293 mX12_find vX12_find (im_mo_ hM) k_mo_ rfl rfl rfl (by decide) ⟨Nat.zero_le _, Nat.zero_le _⟩ (Nat.le_of_ble_eq_true rfl) (k_i (fun z32 h32 y32 q32 => ?_))
      obtain ⟨rfl, w32⟩ := q32
      exact J35 _ (by
               first
               | exact Or.inl ⟨a, x1, x2, x3, x4, w32⟩
               | (rcases st with ⟨a, x1, x2, x3, x4⟩ | ⟨e, u1, u2, u3⟩
                  · exfalso; have := x4.2.2.2; rw [x3] at c23; omega
                  · exact Or.inr ⟨e, u1, u2, u3, rfl⟩)) (by omega)
    · refine pw_iconst (pc := 26) dX12_riderHere_26 ?_
      refine pw_goto (t := 35) (pc := 27) dX12_riderHere_27 (by decide) ?_
      exact J35 _ (by
               first
               | exact Or.inl ⟨a, x1, x2, x3, x4, w32⟩
               | (rcases st with ⟨a, x1, x2, x3, x4⟩ | ⟨e, u1, u2, u3⟩
                  · exfalso; have := x4.2.2.2; rw [x3] at c23; omega
                  · exact Or.inr ⟨e, u1, u2, u3, rfl⟩)) (by omega)
  refine pw_aload_n (z := mo_) (pc := 0) dX12_riderHere_0 rfl rfl ?_
  refine pw_gI (x := 8) (pc := 1) dX12_riderHere_1 fX12_218 (im_mo_ hM) k_mo_ rfl rfl (fun r1 => ?_)
  refine pw_if_ne (t := 19) (pc := 4) dX12_riderHere_4 (by decide) (by first | omega) (fun c4 => ?_) (fun c4 => ?_)
  · exact J19 _ (by first | exact Or.inl ⟨rfl, Or.inl p8⟩ | exact Or.inl ⟨rfl, Or.inr (by omega)⟩ | exact Or.inr ⟨p8, by omega, q16⟩)
  · refine pw_aload_n (z := mo_) (pc := 7) dX12_riderHere_7 rfl rfl ?_
    refine pw_callV (c := 12) (o := mo_) (As := []) (rest := []) (pc := 8) dX12_riderHere_8 (c_isName hM h tk N X H) lX12_289 mX12_isName vX12_isName (im_mo_ hM) k_mo_ rfl rfl rfl (by decide) ⟨Nat.zero_le _, Nat.zero_le _⟩ (Nat.le_of_ble_eq_true rfl) (k_i (fun z8 h8 y8 q8 => ?_))
    obtain ⟨rfl, ⟨rfl, p8⟩ | ⟨rfl, p8⟩⟩ := q8
    · refine pw_if_ne (t := 19) (pc := 11) dX12_riderHere_11 (by decide) (by first | omega) (fun _ => ?_) (fun c11 => absurd c11 (by decide))
      exact J19 _ (by first | exact Or.inl ⟨rfl, Or.inl p8⟩ | exact Or.inl ⟨rfl, Or.inr (by omega)⟩ | exact Or.inr ⟨p8, by omega, q16⟩)
    · refine pw_if_ne (t := 19) (pc := 11) dX12_riderHere_11 (by decide) (by first | omega) (fun c11 => absurd c11 (by decide)) (fun _ => ?_)
      refine pw_aload_n (z := mo_) (pc := 14) dX12_riderHere_14 rfl rfl ?_
      refine pw_iconst (pc := 15) dX12_riderHere_15 ?_
      refine pw_callV (c := 12) (o := mo_) (As := [ii_ 1]) (rest := []) (pc := 16) dX12_riderHere_16 (c_wrong hM h (by first | omega) (by first | omega) 1 (by first | omega)) lX12_224 mX12_wrong vX12_wrong (im_mo_ hM) k_mo_ rfl rfl rfl (by decide) ⟨Nat.zero_le _, Nat.zero_le _⟩ (Nat.le_of_ble_eq_true rfl) (k_v (fun h16 q16 => ?_))
      exact J19 _ (by first | exact Or.inl ⟨rfl, Or.inl p8⟩ | exact Or.inl ⟨rfl, Or.inr (by omega)⟩ | exact Or.inr ⟨p8, by omega, q16⟩)

set_option maxHeartbeats 4000000 in
set_option maxRecDepth 100000 in
theorem c_riderHere0 {G : GT_} (hM : okM_ G) (h : PH_) (tk : Nat → TK_) (N : Nat) (X : RE_ Nat) (H : RP_ tk N h X) (nm : NM_) (hn : nmr_ (h mo_ 18) (h mNames) (h mNameOf) nm) : PC G yX12_riderHere cX12_riderHere 3 (some .int) 4 [rr_ G mo_, ii_ 0] h (qi_ (fun z h' => fr7_ h h' ∧ RP3_ tk N nm X z h')) := by
  have R7 := RP_7 H
  refine PC.of (lv := [some (rr_ G mo_), some (ii_ 0), none]) (by decide +kernel) (Nat.le_of_ble_eq_true rfl) rfl rfl ?_
  have J19 : ∀ (hb : PH_), ((hb = h ∧ ((∃ a, X = .ok a ∧ nam_ (tk a)) ∨ 0 < h mo_ 8)) ∨ (¬ (∃ a, X = .ok a ∧ nam_ (tk a)) ∧ h mo_ 8 = 0 ∧ hb = wro_ h 1)) → PW G RX12 cX12_riderHere 3 (some .int) (rm_ 4) 0 0 (zm_ G (qi_ (fun z h' => fr7_ h h' ∧ RP3_ tk N nm X z h'))) 19 [some (rr_ G mo_), some (ii_ 0), none] [] hb := by
    intro hb hc
    have st : (∃ a, X = .ok a ∧ nam_ (tk a) ∧ hb = h ∧ RPO_ tk N h a) ∨ (∃ e, bd_ X (rdh_ tk nm) = .error e ∧ RPE_ tk N hb e ∧ fr7_ h hb) := by
      cases X with
      | ok a =>
        have H : RPO_ tk N h a := H
        rcases hc with ⟨u1, u2⟩ | ⟨u1, u2, u3⟩
        · rcases u2 with ⟨b, u3, u4⟩ | u2
          · cases u3; exact Or.inl ⟨a, rfl, u4, u1, H⟩
          · exfalso; have := H.2.2.2; omega
        · have w9 := RP_w (w := 1) H (by omega)
          refine Or.inr ⟨flt_ tk 1 a, ?_, by rw [u3]; exact w9.2, by rw [u3, w9.1]; exact fr7_8⟩
          show rdh_ tk nm a = _
          unfold rdh_
          rw [if_f (fun u => u1 ⟨a, rfl, u⟩)]
      | error x =>
        have H : RPE_ tk N h x := H
        rcases hc with ⟨u1, u2⟩ | ⟨u1, u2, u3⟩
        · exact Or.inr ⟨x, rfl, by rw [u1]; exact H, by rw [u1]; exact fr7_rf⟩
        · exfalso; have := H.2.2; omega
    have b8 : 0 ≤ hb mo_ 8 ∧ hb mo_ 8 < 2147483648 := by
      rcases st with ⟨a, x1, x2, x3, x4⟩ | ⟨e, u1, u2, u3⟩
      · have := x4.2.2.2; rw [x3]; omega
      · have := u2.2.2; omega
    have J35 : ∀ (v : Int), ((∃ a, X = .ok a ∧ nam_ (tk a) ∧ hb = h ∧ RPO_ tk N h a ∧ v = fnd_ nm (tk a).2.2.2) ∨ (∃ e, bd_ X (rdh_ tk nm) = .error e ∧ RPE_ tk N hb e ∧ fr7_ h hb ∧ v = -1)) → (ir_ v) → PW G RX12 cX12_riderHere 3 (some .int) (rm_ 4) 0 0 (zm_ G (qi_ (fun z h' => fr7_ h h' ∧ RP3_ tk N nm X z h'))) 35 [some (rr_ G mo_), some (ii_ 0), none] [ii_ v] hb := by
      intro v hv vr
      refine pw_istore_n (lv1 := [some (rr_ G mo_), some (ii_ 0), some (ii_ v)]) (pc := 35) dX12_riderHere_35 rfl (by decide) rfl rfl ?_
      refine pw_aload_n (z := mo_) (pc := 36) dX12_riderHere_36 rfl rfl ?_
      refine pw_gI (x := 8) (pc := 37) dX12_riderHere_37 fX12_218 (im_mo_ hM) k_mo_ rfl rfl (fun r37 => ?_)
      refine pw_if_ne (t := 57) (pc := 40) dX12_riderHere_40 (by decide) (by first | omega) (fun c40 => ?_) (fun c40 => ?_)
      · refine pw_iload_n (z := v) (pc := 57) dX12_riderHere_57 rfl rfl ?_
        exact pw_iret (pc := 58) dX12_riderHere_58 (by first | omega) (by
                  first
                  | (have hz : hb mo_ 8 ≠ 0 := by omega
                     rcases hv with ⟨a, x1, x2, x3, x4, x5⟩ | ⟨e, u1, u2, u3, u4⟩
                     · exfalso; have := x4.2.2.2; rw [x3] at hz; omega
                     · exact ⟨u3, Or.inr ⟨e, u1, u2⟩⟩)
                  | (have rd : rdh_ tk nm a = .ok v := by unfold rdh_; rw [if_t x2, if_t (by rw [← x5]; exact p46), x5]
                     exact ⟨by rw [x3]; exact fr7_rf, Or.inl ⟨a, v, x1, rd, by rw [x3]; exact x4, rfl, p46, x2.1⟩⟩)
                  | (have rd : rdh_ tk nm a = .error (flt_ tk 2 a) := by unfold rdh_; rw [if_t x2, if_f (by rw [← x5]; exact p46)]
                     rw [x3] at q54
                     have w9 := RP_w (w := 2) x4 (by omega)
                     exact ⟨by rw [q54, w9.1]; exact fr7_8, Or.inr ⟨_, by rw [bd_o x1]; exact rd, by rw [q54]; exact w9.2⟩⟩))
      · obtain ⟨a, x1, x2, x3, x4, x5⟩ : ∃ a, X = .ok a ∧ nam_ (tk a) ∧ hb = h ∧ RPO_ tk N h a ∧ v = fnd_ nm (tk a).2.2.2 := by
          rcases hv with u | ⟨e, u1, u2, u3, u4⟩
          · exact u
          · exfalso; have := u2.2.2; omega
        have pl := RP_7 (X := .ok a) x4
        rw [← x3] at pl
        refine pw_iload_n (z := v) (pc := 43) dX12_riderHere_43 rfl rfl ?_
        refine pw_iconst (pc := 44) dX12_riderHere_44 ?_
        refine pw_iconst (pc := 45) dX12_riderHere_45 ?_
        refine pw_callS (As := [ii_ v, ii_ 0, ii_ 3]) (rest := []) (pc := 46) dX12_riderHere_46 (c_within hb (v) (0) (3) (by first | omega) (by first | omega) (by first | omega)) lX12_308 mX12_within sX12_within rfl rfl (by decide) ⟨Nat.zero_le _, Nat.zero_le _⟩ (Nat.le_of_ble_eq_true rfl) (k_i (fun z46 h46 y46 q46 => ?_))
        obtain ⟨rfl, ⟨rfl, p46⟩ | ⟨rfl, p46⟩⟩ := q46
        · refine pw_if_ne (t := 57) (pc := 49) dX12_riderHere_49 (by decide) (by first | omega) (fun _ => ?_) (fun c49 => absurd c49 (by decide))
          refine pw_iload_n (z := v) (pc := 57) dX12_riderHere_57 rfl rfl ?_
          exact pw_iret (pc := 58) dX12_riderHere_58 (by first | omega) (by
                    first
                    | (have hz : hb mo_ 8 ≠ 0 := by omega
                       rcases hv with ⟨a, x1, x2, x3, x4, x5⟩ | ⟨e, u1, u2, u3, u4⟩
                       · exfalso; have := x4.2.2.2; rw [x3] at hz; omega
                       · exact ⟨u3, Or.inr ⟨e, u1, u2⟩⟩)
                    | (have rd : rdh_ tk nm a = .ok v := by unfold rdh_; rw [if_t x2, if_t (by rw [← x5]; exact p46), x5]
                       exact ⟨by rw [x3]; exact fr7_rf, Or.inl ⟨a, v, x1, rd, by rw [x3]; exact x4, rfl, p46, x2.1⟩⟩)
                    | (have rd : rdh_ tk nm a = .error (flt_ tk 2 a) := by unfold rdh_; rw [if_t x2, if_f (by rw [← x5]; exact p46)]
                       rw [x3] at q54
                       have w9 := RP_w (w := 2) x4 (by omega)
                       exact ⟨by rw [q54, w9.1]; exact fr7_8, Or.inr ⟨_, by rw [bd_o x1]; exact rd, by rw [q54]; exact w9.2⟩⟩))
        · refine pw_if_ne (t := 57) (pc := 49) dX12_riderHere_49 (by decide) (by first | omega) (fun c49 => absurd c49 (by decide)) (fun _ => ?_)
          refine pw_aload_n (z := mo_) (pc := 52) dX12_riderHere_52 rfl rfl ?_
          refine pw_iconst (pc := 53) dX12_riderHere_53 ?_
          refine pw_callV (c := 12) (o := mo_) (As := [ii_ 2]) (rest := []) (pc := 54) dX12_riderHere_54 (c_wrong hM hb (by first | omega) (by first | omega) 2 (by first | omega)) lX12_224 mX12_wrong vX12_wrong (im_mo_ hM) k_mo_ rfl rfl rfl (by decide) ⟨Nat.zero_le _, Nat.zero_le _⟩ (Nat.le_of_ble_eq_true rfl) (k_v (fun h54 q54 => ?_))
          refine pw_iload_n (z := v) (pc := 57) dX12_riderHere_57 rfl rfl ?_
          exact pw_iret (pc := 58) dX12_riderHere_58 (by first | omega) (by
                    first
                    | (have hz : hb mo_ 8 ≠ 0 := by omega
                       rcases hv with ⟨a, x1, x2, x3, x4, x5⟩ | ⟨e, u1, u2, u3, u4⟩
                       · exfalso; have := x4.2.2.2; rw [x3] at hz; omega
                       · exact ⟨u3, Or.inr ⟨e, u1, u2⟩⟩)
                    | (have rd : rdh_ tk nm a = .ok v := by unfold rdh_; rw [if_t x2, if_t (by rw [← x5]; exact p46), x5]
                       exact ⟨by rw [x3]; exact fr7_rf, Or.inl ⟨a, v, x1, rd, by rw [x3]; exact x4, rfl, p46, x2.1⟩⟩)
                    | (have rd : rdh_ tk nm a = .error (flt_ tk 2 a) := by unfold rdh_; rw [if_t x2, if_f (by rw [← x5]; exact p46)]
                       rw [x3] at q54
                       have w9 := RP_w (w := 2) x4 (by omega)
                       exact ⟨by rw [q54, w9.1]; exact fr7_8, Or.inr ⟨_, by rw [bd_o x1]; exact rd, by rw [q54]; exact w9.2⟩⟩))
    refine pw_aload_n (z := mo_) (pc := 19) dX12_riderHere_19 rfl rfl ?_
    refine pw_gI (x := 8) (pc := 20) dX12_riderHere_20 fX12_218 (im_mo_ hM) k_mo_ rfl rfl (fun r20 => ?_)
    refine pw_if_le (t := 30) (pc := 23) dX12_riderHere_23 (by decide) (by first | omega) (fun c23 => ?_) (fun c23 => ?_)
    · obtain ⟨a, x1, x2, x3, x4⟩ : ∃ a, X = .ok a ∧ nam_ (tk a) ∧ hb = h ∧ RPO_ tk N h a := by
        rcases st with u | ⟨e, u1, u2, u3⟩
        · exact u
        · exfalso; have := u2.2.2; omega
      refine pw_aload_n (z := mo_) (pc := 30) dX12_riderHere_30 rfl rfl ?_
      refine pw_iload_n (z := 0) (pc := 31) dX12_riderHere_31 rfl rfl ?_
      refine pw_callV (c := 12) (o := mo_) (As := [ii_ 0]) (rest := []) (pc := 32) dX12_riderHere_32 (c_find0 hM hb tk N a (by rw [x3]; exact x4) x2.1 nm (by rw [x3]; exact hn)) lX12_293 mX12_find vX12_find (im_mo_ hM) k_mo_ rfl rfl rfl (by decide) ⟨Nat.zero_le _, Nat.zero_le _⟩ (Nat.le_of_ble_eq_true rfl) (k_i (fun z32 h32 y32 q32 => ?_))
      obtain ⟨rfl, w32⟩ := q32
      exact J35 _ (by
               first
               | exact Or.inl ⟨a, x1, x2, x3, x4, w32⟩
               | (rcases st with ⟨a, x1, x2, x3, x4⟩ | ⟨e, u1, u2, u3⟩
                  · exfalso; have := x4.2.2.2; rw [x3] at c23; omega
                  · exact Or.inr ⟨e, u1, u2, u3, rfl⟩)) (by omega)
    · refine pw_iconst (pc := 26) dX12_riderHere_26 ?_
      refine pw_goto (t := 35) (pc := 27) dX12_riderHere_27 (by decide) ?_
      exact J35 _ (by
               first
               | exact Or.inl ⟨a, x1, x2, x3, x4, w32⟩
               | (rcases st with ⟨a, x1, x2, x3, x4⟩ | ⟨e, u1, u2, u3⟩
                  · exfalso; have := x4.2.2.2; rw [x3] at c23; omega
                  · exact Or.inr ⟨e, u1, u2, u3, rfl⟩)) (by omega)
  refine pw_aload_n (z := mo_) (pc := 0) dX12_riderHere_0 rfl rfl ?_
  refine pw_gI (x := 8) (pc := 1) dX12_riderHere_1 fX12_218 (im_mo_ hM) k_mo_ rfl rfl (fun r1 => ?_)
  refine pw_if_ne (t := 19) (pc := 4) dX12_riderHere_4 (by decide) (by first | omega) (fun c4 => ?_) (fun c4 => ?_)
  · exact J19 _ (by first | exact Or.inl ⟨rfl, Or.inl p8⟩ | exact Or.inl ⟨rfl, Or.inr (by omega)⟩ | exact Or.inr ⟨p8, by omega, q16⟩)
  · refine pw_aload_n (z := mo_) (pc := 7) dX12_riderHere_7 rfl rfl ?_
    refine pw_callV (c := 12) (o := mo_) (As := []) (rest := []) (pc := 8) dX12_riderHere_8 (c_isName hM h tk N X H) lX12_289 mX12_isName vX12_isName (im_mo_ hM) k_mo_ rfl rfl rfl (by decide) ⟨Nat.zero_le _, Nat.zero_le _⟩ (Nat.le_of_ble_eq_true rfl) (k_i (fun z8 h8 y8 q8 => ?_))
    obtain ⟨rfl, ⟨rfl, p8⟩ | ⟨rfl, p8⟩⟩ := q8
    · refine pw_if_ne (t := 19) (pc := 11) dX12_riderHere_11 (by decide) (by first | omega) (fun _ => ?_) (fun c11 => absurd c11 (by decide))
      exact J19 _ (by first | exact Or.inl ⟨rfl, Or.inl p8⟩ | exact Or.inl ⟨rfl, Or.inr (by omega)⟩ | exact Or.inr ⟨p8, by omega, q16⟩)
    · refine pw_if_ne (t := 19) (pc := 11) dX12_riderHere_11 (by decide) (by first | omega) (fun c11 => absurd c11 (by decide)) (fun _ => ?_)
      refine pw_aload_n (z := mo_) (pc := 14) dX12_riderHere_14 rfl rfl ?_
      refine pw_iconst (pc := 15) dX12_riderHere_15 ?_
      refine pw_callV (c := 12) (o := mo_) (As := [ii_ 1]) (rest := []) (pc := 16) dX12_riderHere_16 (c_wrong hM h (by first | omega) (by first | omega) 1 (by first | omega)) lX12_224 mX12_wrong vX12_wrong (im_mo_ hM) k_mo_ rfl rfl rfl (by decide) ⟨Nat.zero_le _, Nat.zero_le _⟩ (Nat.le_of_ble_eq_true rfl) (k_v (fun h16 q16 => ?_))
      exact J19 _ (by first | exact Or.inl ⟨rfl, Or.inl p8⟩ | exact Or.inl ⟨rfl, Or.inr (by omega)⟩ | exact Or.inr ⟨p8, by omega, q16⟩)

