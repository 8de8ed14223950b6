/-- the class's steps for a code, from i on -/
def ccd_ (f : Int → Int) : Int → List (Int × Int) → Prop
  | _, [] => True
  | i, q :: P => f i = cnv_ q ∧ (1 ≤ q.1 ∧ q.1 ≤ 10) ∧ (q.1 = 1 → 0 ≤ q.2 ∧ q.2 ≤ 9999) ∧ (q.1 = 2 → 0 ≤ q.2 ∧ q.2 ≤ 4) ∧ ccd_ f (i + 1) P
theorem ccd_ne {f : Int → Int} {i : Int} : ∀ {P : List (Int × Int)}, ccd_ f i P → P.length ≠ 0 → ∃ (c a : Int) (P3 : List (Int × Int)), P = (c, a) :: P3 ∧ f i = cnv_ (c, a) ∧ (1 ≤ c ∧ c ≤ 10) ∧ (c = 1 → 0 ≤ a ∧ a ≤ 9999) ∧ (c = 2 → 0 ≤ a ∧ a ≤ 4) ∧ ccd_ f (i + 1) P3
  | [], _, h => absurd rfl h
  | (c, a) :: P, h, _ => ⟨c, a, P, rfl, h⟩
theorem cnv_c {c a : Int} (h : 1 ≤ c ∧ c ≤ 10) : (c = 1 ∧ cnv_ (c, a) = a) ∨ (c = 2 ∧ cnv_ (c, a) = 10000 + a) ∨ (c = 3 ∧ cnv_ (c, a) = 20000) ∨ (4 ≤ c ∧ 20001 ≤ cnv_ (c, a) ∧ cnv_ (c, a) ≤ 20007) := by
  have : c = 1 ∨ c = 2 ∨ c = 3 ∨ c = 4 ∨ c = 5 ∨ c = 6 ∨ c = 7 ∨ c = 8 ∨ c = 9 ∨ c = 10 := by omega
  rcases this with rfl | rfl | rfl | rfl | rfl | rfl | rfl | rfl | rfl | rfl
  · exact Or.inl ⟨rfl, rfl⟩
  · exact Or.inr (Or.inl ⟨rfl, rfl⟩)
  · exact Or.inr (Or.inr (Or.inl ⟨rfl, rfl⟩))
  all_goals exact Or.inr (Or.inr (Or.inr ⟨by decide, by simp [cnv_], by simp [cnv_]⟩))
theorem dpb_p {c a : Int} {P : List (Int × Int)} {n : Nat} (h : dpb_ ((c, a) :: P) n) (hc : c = 1 ∨ c = 2) : n < 32 ∧ dpb_ P (n + 1) := by unfold dpb_ at h; rw [if_pos hc] at h; exact h
theorem dpb_n {c a : Int} {P : List (Int × Int)} {n : Nat} (h : dpb_ ((c, a) :: P) n) (hc : c = 3) : dpb_ P n := by unfold dpb_ at h; rw [if_neg (by omega), if_pos hc] at h; exact h
theorem dpb_b {c a : Int} {P : List (Int × Int)} {n : Nat} (h : dpb_ ((c, a) :: P) n) (hc : 4 ≤ c) : dpb_ P (n - 1) := by unfold dpb_ at h; rw [if_neg (by omega), if_neg (by omega)] at h; exact h

set_option maxHeartbeats 4000000 in
set_option maxRecDepth 100000 in
theorem d_workOut {G : GT_} (hC : okC_ G) (h : PH_) (o : Nat) (ho : is6_ o) (fr to : Int) (P : List (Int × Int)) (hc : ccd_ (h (o + 9)) fr P) (hb : 0 ≤ fr ∧ to = fr + P.length ∧ to ≤ h (o + 8) 3 ∧ h (o + 8) 3 ≤ 1000) (hd : dpt_ P 0) (hp : dpb_ P 0) : PC G yX2_workOut cX2_workOut 6 (some .int) 2 [rr_ G (o + 8), ii_ fr, ii_ to] h (qi_ (fun z h' => off_ [o + 10] h h' ∧ z = ew_ (h (o + 11)) P)) := by
  refine PC.of (lv := [some (rr_ G (o + 8)), some (ii_ fr), some (ii_ to), none, none, none]) (by decide +kernel) (Nat.le_of_ble_eq_true rfl) rfl rfl ?_
  refine pw_iconst (pc := 0) dX2_workOut_0 ?_
  refine pw_istore_n (lv1 := [some (rr_ G (o + 8)), some (ii_ fr), some (ii_ to), some (ii_ 0), none, none]) (pc := 1) dX2_workOut_1 rfl (by decide) rfl rfl ?_
  refine pw_iload_n (z := fr) (pc := 2) dX2_workOut_2 rfl rfl ?_
  refine pw_istore (lv1 := [some (rr_ G (o + 8)), some (ii_ fr), some (ii_ to), some (ii_ 0), some (ii_ fr), none]) (pc := 3) dX2_workOut_3 (by decide) rfl rfl ?_
  have L5 : ∀ (nn : Nat) (top : Int) (i : Int) (P2 : List (Int × Int)) (st : List Int) (hq : PH_), (off_ [o + 10] h hq) → (ccd_ (h (o + 9)) i P2) → (0 ≤ i ∧ to = i + P2.length) → (top = (st.length : Int)) → (st.length ≤ 32) → (stk_ (hq (o + 10)) st) → (dpt_ P2 st.length) → (dpb_ P2 st.length) → (evl_ (h (o + 11)) P2 st = evl_ (h (o + 11)) P []) → (((P2.length : Int) + 1 : Int) ≤ nn) → PW G RX2 cX2_workOut 6 (some .int) (rm_ 2) 0 0 (zm_ G (qi_ (fun z h' => off_ [o + 10] h h' ∧ z = ew_ (h (o + 11)) P))) 5 [some (rr_ G (o + 8)), some (ii_ fr), some (ii_ to), some (ii_ top), some (ii_ i), none] [] hq := by
    intro nn
    induction nn with
    | zero => intro top i P2 st hq af ac ai a_t al a_s ad ab ae ams; exfalso; omega
    | succ nn ih5 =>
      intro top i P2 st hq af ac ai a_t al a_s ad ab ae ams
      refine pw_iload (z := i) (pc := 5) dX2_workOut_5 rfl ?_
      refine pw_if_lt (t := 183) (pc := 7) dX2_workOut_7 (by decide) (by first | first | omega | exact bo_ir _ _ _) (fun c7 => ?_) (fun c7 => ?_)
      · refine pw_aload_n (z := (o + 8)) (pc := 183) dX2_workOut_183 rfl rfl ?_
        refine pw_getR (r := (o + 10)) (pc := 184) dX2_workOut_184 fX2_15 (hC _ (by omega)) (kd6_8 ho) rfl rfl ?_
        refine pw_iconst (pc := 187) dX2_workOut_187 ?_
        refine pw_iald (pc := 188) dX2_workOut_188 (hC _ (by omega)) (kd6_10 ho) 32 (ln6_10 ho) (by first | first | omega | exact bo_ir _ _ _) (by first | first | omega | exact bo_ir _ _ _) (by first | first | omega | exact bo_ir _ _ _) (fun r188 => ?_)
        exact pw_iret (pc := 189) dX2_workOut_189 (by first | first | omega | exact bo_ir _ _ _) (⟨af, by have e0 : P2 = [] := List.length_eq_zero_iff.mp (by omega); subst e0; obtain ⟨x, rfl⟩ := len_e ad; unfold ew_; rw [← ae]; exact a_s.1⟩)
      · refine pw_iload (z := i) (pc := 10) dX2_workOut_10 rfl ?_
        refine pw_iload_n (z := to) (pc := 12) dX2_workOut_12 rfl rfl ?_
        refine pw_icmp_ge (t := 183) (pc := 13) dX2_workOut_13 (by decide) (by first | first | omega | exact bo_ir _ _ _) (by first | first | omega | exact bo_ir _ _ _) (fun c13 => ?_) (fun c13 => ?_)
        · refine pw_aload_n (z := (o + 8)) (pc := 183) dX2_workOut_183 rfl rfl ?_
          refine pw_getR (r := (o + 10)) (pc := 184) dX2_workOut_184 fX2_15 (hC _ (by omega)) (kd6_8 ho) rfl rfl ?_
          refine pw_iconst (pc := 187) dX2_workOut_187 ?_
          refine pw_iald (pc := 188) dX2_workOut_188 (hC _ (by omega)) (kd6_10 ho) 32 (ln6_10 ho) (by first | first | omega | exact bo_ir _ _ _) (by first | first | omega | exact bo_ir _ _ _) (by first | first | omega | exact bo_ir _ _ _) (fun r188 => ?_)
          exact pw_iret (pc := 189) dX2_workOut_189 (by first | first | omega | exact bo_ir _ _ _) (⟨af, by have e0 : P2 = [] := List.length_eq_zero_iff.mp (by omega); subst e0; obtain ⟨x, rfl⟩ := len_e ad; unfold ew_; rw [← ae]; exact a_s.1⟩)
        · refine pw_iload (z := i) (pc := 16) dX2_workOut_16 rfl ?_
          refine pw_aload_n (z := (o + 8)) (pc := 18) dX2_workOut_18 rfl rfl ?_
          refine pw_gI (x := 3) (pc := 19) dX2_workOut_19 fX2_21 (hC _ (by omega)) (kd6_8 ho) rfl rfl (fun r19 => ?_)
          have n_hq_o_8_3 : hq (o + 8) 3 = h (o + 8) 3 := (congrFun (af (o + 8) (by first | decide | (simp; done) | (simp; omega))) 3)
          rw [n_hq_o_8_3] at r19 ⊢
          refine pw_icmp_ge (t := 183) (pc := 22) dX2_workOut_22 (by decide) (by first | first | omega | exact bo_ir _ _ _ | (simp only [n_hq_o_8_3]; omega)) (by first | first | omega | exact bo_ir _ _ _ | (simp only [n_hq_o_8_3]; omega)) (fun c22 => ?_) (fun c22 => ?_)
          · refine pw_aload_n (z := (o + 8)) (pc := 183) dX2_workOut_183 rfl rfl ?_
            refine pw_getR (r := (o + 10)) (pc := 184) dX2_workOut_184 fX2_15 (hC _ (by omega)) (kd6_8 ho) rfl rfl ?_
            refine pw_iconst (pc := 187) dX2_workOut_187 ?_
            refine pw_iald (pc := 188) dX2_workOut_188 (hC _ (by omega)) (kd6_10 ho) 32 (ln6_10 ho) (by first | first | omega | exact bo_ir _ _ _ | (simp only [n_hq_o_8_3]; omega)) (by first | first | omega | exact bo_ir _ _ _ | (simp only [n_hq_o_8_3]; omega)) (by first | first | omega | exact bo_ir _ _ _ | (simp only [n_hq_o_8_3]; omega)) (fun r188 => ?_)
            exact pw_iret (pc := 189) dX2_workOut_189 (by first | first | omega | exact bo_ir _ _ _ | (simp only [n_hq_o_8_3]; omega)) (⟨af, by have e0 : P2 = [] := List.length_eq_zero_iff.mp (by omega); subst e0; obtain ⟨x, rfl⟩ := len_e ad; unfold ew_; rw [← ae]; exact a_s.1⟩)
          · obtain ⟨c, a, P3, rfl, k1, k3, k4, k5, k6⟩ := ccd_ne ac (by omega)
            have l3 : ((c, a) :: P3).length = P3.length + 1 := rfl
            have kk := cnv_c (a := a) k3
            refine pw_aload_n (z := (o + 8)) (pc := 25) dX2_workOut_25 rfl rfl ?_
            refine pw_getR (r := (o + 9)) (pc := 26) dX2_workOut_26 fX2_9 (hC _ (by omega)) (kd6_8 ho) rfl rfl ?_
            refine pw_iload (z := i) (pc := 29) dX2_workOut_29 rfl ?_
            refine pw_iald (pc := 31) dX2_workOut_31 (hC _ (by omega)) (kd6_9 ho) 1000 (ln6_9 ho) (by first | first | omega | exact bo_ir _ _ _ | (simp only [n_hq_o_8_3]; omega)) (by first | first | omega | exact bo_ir _ _ _ | (simp only [n_hq_o_8_3]; omega)) (by first | first | omega | exact bo_ir _ _ _ | (simp only [n_hq_o_8_3]; omega)) (fun r31 => ?_)
            have n_hq_o_9 : hq (o + 9) = h (o + 9) := (af (o + 9) (by first | decide | (simp; done) | (simp; omega)))
            rw [n_hq_o_9] at r31 ⊢
            refine pw_istore (lv1 := [some (rr_ G (o + 8)), some (ii_ fr), some (ii_ to), some (ii_ top), some (ii_ i), some (ii_ (h (o + 9) i))]) (pc := 32) dX2_workOut_32 (by decide) rfl rfl ?_
            refine pw_iload (z := h (o + 9) i) (pc := 34) dX2_workOut_34 rfl ?_
            refine pw_sipush (pc := 36) dX2_workOut_36 rfl ?_
            refine pw_icmp_ge (t := 94) (pc := 39) dX2_workOut_39 (by decide) (by first | first | omega | exact bo_ir _ _ _ | (simp only [n_hq_o_8_3, n_hq_o_9]; omega)) (by first | first | omega | exact bo_ir _ _ _ | (simp only [n_hq_o_8_3, n_hq_o_9]; omega)) (fun c39 => ?_) (fun c39 => ?_)
            · refine pw_iload (z := h (o + 9) i) (pc := 94) dX2_workOut_94 rfl ?_
              refine pw_sipush (pc := 96) dX2_workOut_96 rfl ?_
              refine pw_icmp_ne (t := 134) (pc := 99) dX2_workOut_99 (by decide) (by first | first | omega | exact bo_ir _ _ _ | (simp only [n_hq_o_8_3, n_hq_o_9]; omega)) (by first | first | omega | exact bo_ir _ _ _ | (simp only [n_hq_o_8_3, n_hq_o_9]; omega)) (fun c99 => ?_) (fun c99 => ?_)
              · refine pw_iload (z := h (o + 9) i) (pc := 134) dX2_workOut_134 rfl ?_
                refine pw_sipush (pc := 136) dX2_workOut_136 rfl ?_
                refine pw_icmp_le (t := 177) (pc := 139) dX2_workOut_139 (by decide) (by first | first | omega | exact bo_ir _ _ _ | (simp only [n_hq_o_8_3, n_hq_o_9]; omega)) (by first | first | omega | exact bo_ir _ _ _ | (simp only [n_hq_o_8_3, n_hq_o_9]; omega)) (fun c139 => ?_) (fun c139 => ?_)
                · exfalso; omega
                · have d2 := (dpt_b ad (show 4 ≤ c by omega)).1
                  refine pw_iload_n (z := top) (pc := 142) dX2_workOut_142 rfl rfl ?_
                  refine pw_iconst (pc := 143) dX2_workOut_143 ?_
                  refine pw_icmp_lt (t := 177) (pc := 144) dX2_workOut_144 (by decide) (by first | first | omega | exact bo_ir _ _ _ | (simp only [n_hq_o_8_3, n_hq_o_9]; omega)) (by first | first | omega | exact bo_ir _ _ _ | (simp only [n_hq_o_8_3, n_hq_o_9]; omega)) (fun c144 => ?_) (fun c144 => ?_)
                  · exfalso; omega
                  · have c4 : 4 ≤ c := by omega
                    have d3 := dpt_b ad c4
                    have b3 := dpb_b ab c4
                    obtain ⟨y, x, r, rfl⟩ := len_2 d3.1
                    have lr : (y :: x :: r).length = r.length + 2 := rfl
                    have x1 : hq (o + 10) (top + -1 - 1) = x := by rw [show top + -1 - 1 = (r.length : Int) by omega]; exact a_s.2.1
                    have y1 : hq (o + 10) (top + -1) = y := by rw [show top + -1 = ((x :: r).length : Int) by simp; omega]; exact a_s.1
                    refine pw_iinc (z := top) (lv1 := [some (rr_ G (o + 8)), some (ii_ fr), some (ii_ to), some (ii_ (top + (-1))), some (ii_ i), some (ii_ (h (o + 9) i))]) (pc := 147) dX2_workOut_147 rfl (by decide) rfl rfl ?_
                    refine pw_aload_n (z := (o + 8)) (pc := 150) dX2_workOut_150 rfl rfl ?_
                    refine pw_getR (r := (o + 10)) (pc := 151) dX2_workOut_151 fX2_15 (hC _ (by omega)) (kd6_8 ho) rfl rfl ?_
                    refine pw_iload_n (z := top + (-1)) (pc := 154) dX2_workOut_154 rfl rfl ?_
                    refine pw_iconst (pc := 155) dX2_workOut_155 ?_
                    refine pw_isub (pc := 156) dX2_workOut_156 ?_
                    refine pw_iload (z := h (o + 9) i) (pc := 157) dX2_workOut_157 rfl ?_
                    refine pw_aload_n (z := (o + 8)) (pc := 159) dX2_workOut_159 rfl rfl ?_
                    refine pw_getR (r := (o + 10)) (pc := 160) dX2_workOut_160 fX2_15 (hC _ (by omega)) (kd6_8 ho) rfl rfl ?_
                    refine pw_iload_n (z := top + (-1)) (pc := 163) dX2_workOut_163 rfl rfl ?_
                    refine pw_iconst (pc := 164) dX2_workOut_164 ?_
                    refine pw_isub (pc := 165) dX2_workOut_165 ?_
                    refine pw_iald (pc := 166) dX2_workOut_166 (hC _ (by omega)) (kd6_10 ho) 32 (ln6_10 ho) (by first | first | omega | exact bo_ir _ _ _ | (simp only [n_hq_o_8_3, n_hq_o_9]; omega)) (by first | first | omega | exact bo_ir _ _ _ | (simp only [n_hq_o_8_3, n_hq_o_9]; omega)) (by first | first | omega | exact bo_ir _ _ _ | (simp only [n_hq_o_8_3, n_hq_o_9]; omega)) (fun r166 => ?_)
                    refine pw_aload_n (z := (o + 8)) (pc := 167) dX2_workOut_167 rfl rfl ?_
                    refine pw_getR (r := (o + 10)) (pc := 168) dX2_workOut_168 fX2_15 (hC _ (by omega)) (kd6_8 ho) rfl rfl ?_
                    refine pw_iload_n (z := top + (-1)) (pc := 171) dX2_workOut_171 rfl rfl ?_
                    refine pw_iald (pc := 172) dX2_workOut_172 (hC _ (by omega)) (kd6_10 ho) 32 (ln6_10 ho) (by first | first | omega | exact bo_ir _ _ _ | (simp only [n_hq_o_8_3, n_hq_o_9]; omega)) (by first | first | omega | exact bo_ir _ _ _ | (simp only [n_hq_o_8_3, n_hq_o_9]; omega)) (by first | first | omega | exact bo_ir _ _ _ | (simp only [n_hq_o_8_3, n_hq_o_9]; omega)) (fun r172 => ?_)
                    refine pw_callS (As := [ii_ (h (o + 9) i), ii_ (hq (o + 10) ((top + (-1)) - 1)), ii_ (hq (o + 10) (top + (-1)))]) (rest := [ii_ ((top + (-1)) - 1), rr_ G (o + 10)]) (pc := 173) dX2_workOut_173 (d_join hC hq (h (o + 9) i) (hq (o + 10) ((top + (-1)) - 1)) (hq (o + 10) (top + (-1))) (by first | first | omega | exact bo_ir _ _ _ | (simp only [n_hq_o_8_3, n_hq_o_9]; omega)) (by first | first | omega | exact bo_ir _ _ _ | (simp only [n_hq_o_8_3, n_hq_o_9]; omega)) (by first | first | omega | exact bo_ir _ _ _ | (simp only [n_hq_o_8_3, n_hq_o_9]; omega))) lX2_31 mX2_join sX2_join rfl rfl (by decide) ⟨Nat.zero_le _, Nat.zero_le _⟩ (Nat.le_of_ble_eq_true rfl) (k_i (fun z173 h173 y173 q173 => ?_))
                    obtain ⟨rfl, w173⟩ := q173
                    refine pw_iast (pc := 176) dX2_workOut_176 (hC _ (by omega)) (kd6_10 ho) 32 (ln6_10 ho) (by first | first | omega | exact bo_ir _ _ _ | (simp only [n_hq_o_8_3, n_hq_o_9]; omega)) (by first | first | omega | exact bo_ir _ _ _ | (simp only [n_hq_o_8_3, n_hq_o_9]; omega)) (by first | first | omega | exact bo_ir _ _ _ | (simp only [n_hq_o_8_3, n_hq_o_9]; omega)) (by first | first | omega | exact bo_ir _ _ _ | (simp only [n_hq_o_8_3, n_hq_o_9]; omega)) ?_
                    obtain ⟨g176, e176⟩ : ∃ x, x = up_ hq (o + 10) ((top + (-1)) - 1) z173 := ⟨_, rfl⟩
                    refine pw_heq e176 ?_
                    obtain ⟨st3, s3⟩ : ∃ q, q = bo_ c x y :: r := ⟨_, rfl⟩
                    have ls : st3.length = r.length + 1 := by rw [s3]; rfl
                    have nf : off_ [o + 10] h g176 := by rw [e176]; exact off_up af (by simp)
                    have nd : dpt_ P3 st3.length := by rw [ls]; exact d3.2
                    have nb : dpb_ P3 st3.length := by rw [ls]; exact b3
                    have ns : stk_ (g176 (o + 10)) st3 := by rw [s3, e176]; exact ⟨by rw [up_at, if_pos (by omega), w173, k1, x1, y1, joi_bo (by omega)], stk_up a_s.2.2 (by omega)⟩
                    have ne : evl_ (h (o + 11)) P3 st3 = evl_ (h (o + 11)) P [] := by rw [← ae, s3]; show _ = evl_ _ P3 (es_ _ c a (y :: x :: r)); rw [es_b c4]
                    refine pw_iinc (z := i) (lv1 := [some (rr_ G (o + 8)), some (ii_ fr), some (ii_ to), some (ii_ (top + (-1))), some (ii_ (i + 1)), some (ii_ (h (o + 9) i))]) (pc := 177) dX2_workOut_177 rfl (by decide) rfl rfl ?_
                    refine pw_goto (t := 5) (pc := 180) dX2_workOut_180 (by decide) ?_
                    refine pw_less (lv1 := [some (rr_ G (o + 8)), some (ii_ fr), some (ii_ to), some (ii_ (top + (-1))), some (ii_ (i + 1)), none]) rfl (by intro i v; (match i with | 0 => simp | 1 => simp | 2 => simp | 3 => simp | 4 => simp | 5 => simp | n + 6 => simp)) ?_
                    exact ih5 _ _ P3 st3 _ (nf) (k6) (by omega) (by simp at *; omega) (by simp at *; omega) (ns) (nd) (nb) (ne) (by omega)
              · have d1 := (dpt_n ad (show c = 3 by omega)).1
                refine pw_iload_n (z := top) (pc := 102) dX2_workOut_102 rfl rfl ?_
                refine pw_iconst (pc := 103) dX2_workOut_103 ?_
                refine pw_icmp_lt (t := 134) (pc := 104) dX2_workOut_104 (by decide) (by first | first | omega | exact bo_ir _ _ _ | (simp only [n_hq_o_8_3, n_hq_o_9]; omega)) (by first | first | omega | exact bo_ir _ _ _ | (simp only [n_hq_o_8_3, n_hq_o_9]; omega)) (fun c104 => ?_) (fun c104 => ?_)
                · refine pw_iload (z := h (o + 9) i) (pc := 134) dX2_workOut_134 rfl ?_
                  refine pw_sipush (pc := 136) dX2_workOut_136 rfl ?_
                  refine pw_icmp_le (t := 177) (pc := 139) dX2_workOut_139 (by decide) (by first | first | omega | exact bo_ir _ _ _ | (simp only [n_hq_o_8_3, n_hq_o_9]; omega)) (by first | first | omega | exact bo_ir _ _ _ | (simp only [n_hq_o_8_3, n_hq_o_9]; omega)) (fun c139 => ?_) (fun c139 => ?_)
                  · exfalso; omega
                  · have d2 := (dpt_b ad (show 4 ≤ c by omega)).1
                    refine pw_iload_n (z := top) (pc := 142) dX2_workOut_142 rfl rfl ?_
                    refine pw_iconst (pc := 143) dX2_workOut_143 ?_
                    refine pw_icmp_lt (t := 177) (pc := 144) dX2_workOut_144 (by decide) (by first | first | omega | exact bo_ir _ _ _ | (simp only [n_hq_o_8_3, n_hq_o_9]; omega)) (by first | first | omega | exact bo_ir _ _ _ | (simp only [n_hq_o_8_3, n_hq_o_9]; omega)) (fun c144 => ?_) (fun c144 => ?_)
                    · exfalso; omega
                    · have c4 : 4 ≤ c := by omega
                      have d3 := dpt_b ad c4
                      have b3 := dpb_b ab c4
                      obtain ⟨y, x, r, rfl⟩ := len_2 d3.1
                      have lr : (y :: x :: r).length = r.length + 2 := rfl
                      have x1 : hq (o + 10) (top + -1 - 1) = x := by rw [show top + -1 - 1 = (r.length : Int) by omega]; exact a_s.2.1
                      have y1 : hq (o + 10) (top + -1) = y := by rw [show top + -1 = ((x :: r).length : Int) by simp; omega]; exact a_s.1
                      refine pw_iinc (z := top) (lv1 := [some (rr_ G (o + 8)), some (ii_ fr), some (ii_ to), some (ii_ (top + (-1))), some (ii_ i), some (ii_ (h (o + 9) i))]) (pc := 147) dX2_workOut_147 rfl (by decide) rfl rfl ?_
                      refine pw_aload_n (z := (o + 8)) (pc := 150) dX2_workOut_150 rfl rfl ?_
                      refine pw_getR (r := (o + 10)) (pc := 151) dX2_workOut_151 fX2_15 (hC _ (by omega)) (kd6_8 ho) rfl rfl ?_
                      refine pw_iload_n (z := top + (-1)) (pc := 154) dX2_workOut_154 rfl rfl ?_
                      refine pw_iconst (pc := 155) dX2_workOut_155 ?_
                      refine pw_isub (pc := 156) dX2_workOut_156 ?_
                      refine pw_iload (z := h (o + 9) i) (pc := 157) dX2_workOut_157 rfl ?_
                      refine pw_aload_n (z := (o + 8)) (pc := 159) dX2_workOut_159 rfl rfl ?_
                      refine pw_getR (r := (o + 10)) (pc := 160) dX2_workOut_160 fX2_15 (hC _ (by omega)) (kd6_8 ho) rfl rfl ?_
                      refine pw_iload_n (z := top + (-1)) (pc := 163) dX2_workOut_163 rfl rfl ?_
                      refine pw_iconst (pc := 164) dX2_workOut_164 ?_
                      refine pw_isub (pc := 165) dX2_workOut_165 ?_
                      refine pw_iald (pc := 166) dX2_workOut_166 (hC _ (by omega)) (kd6_10 ho) 32 (ln6_10 ho) (by first | first | omega | exact bo_ir _ _ _ | (simp only [n_hq_o_8_3, n_hq_o_9]; omega)) (by first | first | omega | exact bo_ir _ _ _ | (simp only [n_hq_o_8_3, n_hq_o_9]; omega)) (by first | first | omega | exact bo_ir _ _ _ | (simp only [n_hq_o_8_3, n_hq_o_9]; omega)) (fun r166 => ?_)
                      refine pw_aload_n (z := (o + 8)) (pc := 167) dX2_workOut_167 rfl rfl ?_
                      refine pw_getR (r := (o + 10)) (pc := 168) dX2_workOut_168 fX2_15 (hC _ (by omega)) (kd6_8 ho) rfl rfl ?_
                      refine pw_iload_n (z := top + (-1)) (pc := 171) dX2_workOut_171 rfl rfl ?_
                      refine pw_iald (pc := 172) dX2_workOut_172 (hC _ (by omega)) (kd6_10 ho) 32 (ln6_10 ho) (by first | first | omega | exact bo_ir _ _ _ | (simp only [n_hq_o_8_3, n_hq_o_9]; omega)) (by first | first | omega | exact bo_ir _ _ _ | (simp only [n_hq_o_8_3, n_hq_o_9]; omega)) (by first | first | omega | exact bo_ir _ _ _ | (simp only [n_hq_o_8_3, n_hq_o_9]; omega)) (fun r172 => ?_)
                      refine pw_callS (As := [ii_ (h (o + 9) i), ii_ (hq (o + 10) ((top + (-1)) - 1)), ii_ (hq (o + 10) (top + (-1)))]) (rest := [ii_ ((top + (-1)) - 1), rr_ G (o + 10)]) (pc := 173) dX2_workOut_173 (d_join hC hq (h (o + 9) i) (hq (o + 10) ((top + (-1)) - 1)) (hq (o + 10) (top + (-1))) (by first | first | omega | exact bo_ir _ _ _ | (simp only [n_hq_o_8_3, n_hq_o_9]; omega)) (by first | first | omega | exact bo_ir _ _ _ | (simp only [n_hq_o_8_3, n_hq_o_9]; omega)) (by first | first | omega | exact bo_ir _ _ _ | (simp only [n_hq_o_8_3, n_hq_o_9]; omega))) lX2_31 mX2_join sX2_join rfl rfl (by decide) ⟨Nat.zero_le _, Nat.zero_le _⟩ (Nat.le_of_ble_eq_true rfl) (k_i (fun z173 h173 y173 q173 => ?_))
                      obtain ⟨rfl, w173⟩ := q173
                      refine pw_iast (pc := 176) dX2_workOut_176 (hC _ (by omega)) (kd6_10 ho) 32 (ln6_10 ho) (by first | first | omega | exact bo_ir _ _ _ | (simp only [n_hq_o_8_3, n_hq_o_9]; omega)) (by first | first | omega | exact bo_ir _ _ _ | (simp only [n_hq_o_8_3, n_hq_o_9]; omega)) (by first | first | omega | exact bo_ir _ _ _ | (simp only [n_hq_o_8_3, n_hq_o_9]; omega)) (by first | first | omega | exact bo_ir _ _ _ | (simp only [n_hq_o_8_3, n_hq_o_9]; omega)) ?_
                      obtain ⟨g176, e176⟩ : ∃ x, x = up_ hq (o + 10) ((top + (-1)) - 1) z173 := ⟨_, rfl⟩
                      refine pw_heq e176 ?_
                      obtain ⟨st3, s3⟩ : ∃ q, q = bo_ c x y :: r := ⟨_, rfl⟩
                      have ls : st3.length = r.length + 1 := by rw [s3]; rfl
                      have nf : off_ [o + 10] h g176 := by rw [e176]; exact off_up af (by simp)
                      have nd : dpt_ P3 st3.length := by rw [ls]; exact d3.2
                      have nb : dpb_ P3 st3.length := by rw [ls]; exact b3
                      have ns : stk_ (g176 (o + 10)) st3 := by rw [s3, e176]; exact ⟨by rw [up_at, if_pos (by omega), w173, k1, x1, y1, joi_bo (by omega)], stk_up a_s.2.2 (by omega)⟩
                      have ne : evl_ (h (o + 11)) P3 st3 = evl_ (h (o + 11)) P [] := by rw [← ae, s3]; show _ = evl_ _ P3 (es_ _ c a (y :: x :: r)); rw [es_b c4]
                      refine pw_iinc (z := i) (lv1 := [some (rr_ G (o + 8)), some (ii_ fr), some (ii_ to), some (ii_ (top + (-1))), some (ii_ (i + 1)), some (ii_ (h (o + 9) i))]) (pc := 177) dX2_workOut_177 rfl (by decide) rfl rfl ?_
                      refine pw_goto (t := 5) (pc := 180) dX2_workOut_180 (by decide) ?_
                      refine pw_less (lv1 := [some (rr_ G (o + 8)), some (ii_ fr), some (ii_ to), some (ii_ (top + (-1))), some (ii_ (i + 1)), none]) rfl (by intro i v; (match i with | 0 => simp | 1 => simp | 2 => simp | 3 => simp | 4 => simp | 5 => simp | n + 6 => simp)) ?_
                      exact ih5 _ _ P3 st3 _ (nf) (k6) (by omega) (by simp at *; omega) (by simp at *; omega) (ns) (nd) (nb) (ne) (by omega)
                · have c3 : c = 3 := by omega
                  have d3 := dpt_n ad c3
                  have b3 := dpb_n ab c3
                  obtain ⟨x, r, rfl⟩ := len_1 d3.1
                  have lr : (x :: r).length = r.length + 1 := rfl
                  have x1 : hq (o + 10) (top - 1) = x := by rw [show top - 1 = (r.length : Int) by omega]; exact a_s.1
                  refine pw_aload_n (z := (o + 8)) (pc := 107) dX2_workOut_107 rfl rfl ?_
                  refine pw_getR (r := (o + 10)) (pc := 108) dX2_workOut_108 fX2_15 (hC _ (by omega)) (kd6_8 ho) rfl rfl ?_
                  refine pw_iload_n (z := top) (pc := 111) dX2_workOut_111 rfl rfl ?_
                  refine pw_iconst (pc := 112) dX2_workOut_112 ?_
                  refine pw_isub (pc := 113) dX2_workOut_113 ?_
                  refine pw_aload_n (z := (o + 8)) (pc := 114) dX2_workOut_114 rfl rfl ?_
                  refine pw_getR (r := (o + 10)) (pc := 115) dX2_workOut_115 fX2_15 (hC _ (by omega)) (kd6_8 ho) rfl rfl ?_
                  refine pw_iload_n (z := top) (pc := 118) dX2_workOut_118 rfl rfl ?_
                  refine pw_iconst (pc := 119) dX2_workOut_119 ?_
                  refine pw_isub (pc := 120) dX2_workOut_120 ?_
                  refine pw_iald (pc := 121) dX2_workOut_121 (hC _ (by omega)) (kd6_10 ho) 32 (ln6_10 ho) (by first | first | omega | exact bo_ir _ _ _ | (simp only [n_hq_o_8_3, n_hq_o_9]; omega)) (by first | first | omega | exact bo_ir _ _ _ | (simp only [n_hq_o_8_3, n_hq_o_9]; omega)) (by first | first | omega | exact bo_ir _ _ _ | (simp only [n_hq_o_8_3, n_hq_o_9]; omega)) (fun r121 => ?_)
                  have J130 : ∀ (v : Int), (v = (if x = 0 then 1 else 0)) → PW G RX2 cX2_workOut 6 (some .int) (rm_ 2) 0 0 (zm_ G (qi_ (fun z h' => off_ [o + 10] h h' ∧ z = ew_ (h (o + 11)) P))) 130 [some (rr_ G (o + 8)), some (ii_ fr), some (ii_ to), some (ii_ top), some (ii_ i), some (ii_ (h (o + 9) i))] [ii_ v, ii_ (top - 1), rr_ G (o + 10)] hq := by
                    intro v hv2
                    refine pw_iast (pc := 130) dX2_workOut_130 (hC _ (by omega)) (kd6_10 ho) 32 (ln6_10 ho) (by first | first | omega | exact bo_ir _ _ _ | (simp only [n_hq_o_8_3, n_hq_o_9]; omega)) (by first | first | omega | exact bo_ir _ _ _ | (simp only [n_hq_o_8_3, n_hq_o_9]; omega)) (by first | first | omega | exact bo_ir _ _ _ | (simp only [n_hq_o_8_3, n_hq_o_9]; omega)) (by first | first | omega | exact bo_ir _ _ _ | (simp only [n_hq_o_8_3, n_hq_o_9]; omega)) ?_
                    obtain ⟨g130, e130⟩ : ∃ x, x = up_ hq (o + 10) (top - 1) v := ⟨_, rfl⟩
                    refine pw_heq e130 ?_
                    obtain ⟨st3, s3⟩ : ∃ y, y = (if x = 0 then 1 else 0) :: r := ⟨_, rfl⟩
                    have ls : st3.length = r.length + 1 := by rw [s3]; rfl
                    have nf : off_ [o + 10] h g130 := by rw [e130]; exact off_up af (by simp)
                    have nd : dpt_ P3 st3.length := by rw [ls]; exact d3.2
                    have nb : dpb_ P3 st3.length := by rw [ls]; exact b3
                    have ns : stk_ (g130 (o + 10)) st3 := by rw [s3, e130]; exact ⟨by rw [up_at, if_pos (by omega)]; exact hv2, stk_up a_s.2 (by omega)⟩
                    have ne : evl_ (h (o + 11)) P3 st3 = evl_ (h (o + 11)) P [] := by rw [← ae, s3]; show _ = evl_ _ P3 (es_ _ c a (x :: r)); rw [c3, es_3]
                    refine pw_goto (t := 177) (pc := 131) dX2_workOut_131 (by decide) ?_
                    
                    refine pw_iinc (z := i) (lv1 := [some (rr_ G (o + 8)), some (ii_ fr), some (ii_ to), some (ii_ top), some (ii_ (i + 1)), some (ii_ (h (o + 9) i))]) (pc := 177) dX2_workOut_177 rfl (by decide) rfl rfl ?_
                    refine pw_goto (t := 5) (pc := 180) dX2_workOut_180 (by decide) ?_
                    refine pw_less (lv1 := [some (rr_ G (o + 8)), some (ii_ fr), some (ii_ to), some (ii_ top), some (ii_ (i + 1)), none]) rfl (by intro i v; (match i with | 0 => simp | 1 => simp | 2 => simp | 3 => simp | 4 => simp | 5 => simp | n + 6 => simp)) ?_
                    exact ih5 _ _ P3 st3 _ (nf) (k6) (by omega) (by simp at *; omega) (by simp at *; omega) (ns) (nd) (nb) (ne) (by omega)
                  refine pw_if_ne (t := 129) (pc := 122) dX2_workOut_122 (by decide) (by first | first | omega | exact bo_ir _ _ _ | (simp only [n_hq_o_8_3, n_hq_o_9]; omega)) (fun c122 => ?_) (fun c122 => ?_)
                  · refine pw_iconst (pc := 129) dX2_workOut_129 ?_
                    exact J130 _ (by rw [x1] at c122; first | rw [if_pos c122] | rw [if_neg c122])
                  · refine pw_iconst (pc := 125) dX2_workOut_125 ?_
                    refine pw_goto (t := 130) (pc := 126) dX2_workOut_126 (by decide) ?_
                    exact J130 _ (by rw [x1] at c122; first | rw [if_pos c122] | rw [if_neg c122])
            · have d32 := dpb_p ab (show c = 1 ∨ c = 2 by omega)
              refine pw_iload_n (z := top) (pc := 42) dX2_workOut_42 rfl rfl ?_
              refine pw_bipush (pc := 43) dX2_workOut_43 rfl ?_
              refine pw_icmp_ge (t := 94) (pc := 45) dX2_workOut_45 (by decide) (by first | first | omega | exact bo_ir _ _ _ | (simp only [n_hq_o_8_3, n_hq_o_9]; omega)) (by first | first | omega | exact bo_ir _ _ _ | (simp only [n_hq_o_8_3, n_hq_o_9]; omega)) (fun c45 => ?_) (fun c45 => ?_)
              · refine pw_iload (z := h (o + 9) i) (pc := 94) dX2_workOut_94 rfl ?_
                refine pw_sipush (pc := 96) dX2_workOut_96 rfl ?_
                refine pw_icmp_ne (t := 134) (pc := 99) dX2_workOut_99 (by decide) (by first | first | omega | exact bo_ir _ _ _ | (simp only [n_hq_o_8_3, n_hq_o_9]; omega)) (by first | first | omega | exact bo_ir _ _ _ | (simp only [n_hq_o_8_3, n_hq_o_9]; omega)) (fun c99 => ?_) (fun c99 => ?_)
                · refine pw_iload (z := h (o + 9) i) (pc := 134) dX2_workOut_134 rfl ?_
                  refine pw_sipush (pc := 136) dX2_workOut_136 rfl ?_
                  refine pw_icmp_le (t := 177) (pc := 139) dX2_workOut_139 (by decide) (by first | first | omega | exact bo_ir _ _ _ | (simp only [n_hq_o_8_3, n_hq_o_9]; omega)) (by first | first | omega | exact bo_ir _ _ _ | (simp only [n_hq_o_8_3, n_hq_o_9]; omega)) (fun c139 => ?_) (fun c139 => ?_)
                  · exfalso; omega
                  · have d2 := (dpt_b ad (show 4 ≤ c by omega)).1
                    refine pw_iload_n (z := top) (pc := 142) dX2_workOut_142 rfl rfl ?_
                    refine pw_iconst (pc := 143) dX2_workOut_143 ?_
                    refine pw_icmp_lt (t := 177) (pc := 144) dX2_workOut_144 (by decide) (by first | first | omega | exact bo_ir _ _ _ | (simp only [n_hq_o_8_3, n_hq_o_9]; omega)) (by first | first | omega | exact bo_ir _ _ _ | (simp only [n_hq_o_8_3, n_hq_o_9]; omega)) (fun c144 => ?_) (fun c144 => ?_)
                    · exfalso; omega
                    · have c4 : 4 ≤ c := by omega
                      have d3 := dpt_b ad c4
                      have b3 := dpb_b ab c4
                      obtain ⟨y, x, r, rfl⟩ := len_2 d3.1
                      have lr : (y :: x :: r).length = r.length + 2 := rfl
                      have x1 : hq (o + 10) (top + -1 - 1) = x := by rw [show top + -1 - 1 = (r.length : Int) by omega]; exact a_s.2.1
                      have y1 : hq (o + 10) (top + -1) = y := by rw [show top + -1 = ((x :: r).length : Int) by simp; omega]; exact a_s.1
                      refine pw_iinc (z := top) (lv1 := [some (rr_ G (o + 8)), some (ii_ fr), some (ii_ to), some (ii_ (top + (-1))), some (ii_ i), some (ii_ (h (o + 9) i))]) (pc := 147) dX2_workOut_147 rfl (by decide) rfl rfl ?_
                      refine pw_aload_n (z := (o + 8)) (pc := 150) dX2_workOut_150 rfl rfl ?_
                      refine pw_getR (r := (o + 10)) (pc := 151) dX2_workOut_151 fX2_15 (hC _ (by omega)) (kd6_8 ho) rfl rfl ?_
                      refine pw_iload_n (z := top + (-1)) (pc := 154) dX2_workOut_154 rfl rfl ?_
                      refine pw_iconst (pc := 155) dX2_workOut_155 ?_
                      refine pw_isub (pc := 156) dX2_workOut_156 ?_
                      refine pw_iload (z := h (o + 9) i) (pc := 157) dX2_workOut_157 rfl ?_
                      refine pw_aload_n (z := (o + 8)) (pc := 159) dX2_workOut_159 rfl rfl ?_
                      refine pw_getR (r := (o + 10)) (pc := 160) dX2_workOut_160 fX2_15 (hC _ (by omega)) (kd6_8 ho) rfl rfl ?_
                      refine pw_iload_n (z := top + (-1)) (pc := 163) dX2_workOut_163 rfl rfl ?_
                      refine pw_iconst (pc := 164) dX2_workOut_164 ?_
                      refine pw_isub (pc := 165) dX2_workOut_165 ?_
                      refine pw_iald (pc := 166) dX2_workOut_166 (hC _ (by omega)) (kd6_10 ho) 32 (ln6_10 ho) (by first | first | omega | exact bo_ir _ _ _ | (simp only [n_hq_o_8_3, n_hq_o_9]; omega)) (by first | first | omega | exact bo_ir _ _ _ | (simp only [n_hq_o_8_3, n_hq_o_9]; omega)) (by first | first | omega | exact bo_ir _ _ _ | (simp only [n_hq_o_8_3, n_hq_o_9]; omega)) (fun r166 => ?_)
                      refine pw_aload_n (z := (o + 8)) (pc := 167) dX2_workOut_167 rfl rfl ?_
                      refine pw_getR (r := (o + 10)) (pc := 168) dX2_workOut_168 fX2_15 (hC _ (by omega)) (kd6_8 ho) rfl rfl ?_
                      refine pw_iload_n (z := top + (-1)) (pc := 171) dX2_workOut_171 rfl rfl ?_
                      refine pw_iald (pc := 172) dX2_workOut_172 (hC _ (by omega)) (kd6_10 ho) 32 (ln6_10 ho) (by first | first | omega | exact bo_ir _ _ _ | (simp only [n_hq_o_8_3, n_hq_o_9]; omega)) (by first | first | omega | exact bo_ir _ _ _ | (simp only [n_hq_o_8_3, n_hq_o_9]; omega)) (by first | first | omega | exact bo_ir _ _ _ | (simp only [n_hq_o_8_3, n_hq_o_9]; omega)) (fun r172 => ?_)
                      refine pw_callS (As := [ii_ (h (o + 9) i), ii_ (hq (o + 10) ((top + (-1)) - 1)), ii_ (hq (o + 10) (top + (-1)))]) (rest := [ii_ ((top + (-1)) - 1), rr_ G (o + 10)]) (pc := 173) dX2_workOut_173 (d_join hC hq (h (o + 9) i) (hq (o + 10) ((top + (-1)) - 1)) (hq (o + 10) (top + (-1))) (by first | first | omega | exact bo_ir _ _ _ | (simp only [n_hq_o_8_3, n_hq_o_9]; omega)) (by first | first | omega | exact bo_ir _ _ _ | (simp only [n_hq_o_8_3, n_hq_o_9]; omega)) (by first | first | omega | exact bo_ir _ _ _ | (simp only [n_hq_o_8_3, n_hq_o_9]; omega))) lX2_31 mX2_join sX2_join rfl rfl (by decide) ⟨Nat.zero_le _, Nat.zero_le _⟩ (Nat.le_of_ble_eq_true rfl) (k_i (fun z173 h173 y173 q173 => ?_))
                      obtain ⟨rfl, w173⟩ := q173
                      refine pw_iast (pc := 176) dX2_workOut_176 (hC _ (by omega)) (kd6_10 ho) 32 (ln6_10 ho) (by first | first | omega | exact bo_ir _ _ _ | (simp only [n_hq_o_8_3, n_hq_o_9]; omega)) (by first | first | omega | exact bo_ir _ _ _ | (simp only [n_hq_o_8_3, n_hq_o_9]; omega)) (by first | first | omega | exact bo_ir _ _ _ | (simp only [n_hq_o_8_3, n_hq_o_9]; omega)) (by first | first | omega | exact bo_ir _ _ _ | (simp only [n_hq_o_8_3, n_hq_o_9]; omega)) ?_
                      obtain ⟨g176, e176⟩ : ∃ x, x = up_ hq (o + 10) ((top + (-1)) - 1) z173 := ⟨_, rfl⟩
                      refine pw_heq e176 ?_
                      obtain ⟨st3, s3⟩ : ∃ q, q = bo_ c x y :: r := ⟨_, rfl⟩
                      have ls : st3.length = r.length + 1 := by rw [s3]; rfl
                      have nf : off_ [o + 10] h g176 := by rw [e176]; exact off_up af (by simp)
                      have nd : dpt_ P3 st3.length := by rw [ls]; exact d3.2
                      have nb : dpb_ P3 st3.length := by rw [ls]; exact b3
                      have ns : stk_ (g176 (o + 10)) st3 := by rw [s3, e176]; exact ⟨by rw [up_at, if_pos (by omega), w173, k1, x1, y1, joi_bo (by omega)], stk_up a_s.2.2 (by omega)⟩
                      have ne : evl_ (h (o + 11)) P3 st3 = evl_ (h (o + 11)) P [] := by rw [← ae, s3]; show _ = evl_ _ P3 (es_ _ c a (y :: x :: r)); rw [es_b c4]
                      refine pw_iinc (z := i) (lv1 := [some (rr_ G (o + 8)), some (ii_ fr), some (ii_ to), some (ii_ (top + (-1))), some (ii_ (i + 1)), some (ii_ (h (o + 9) i))]) (pc := 177) dX2_workOut_177 rfl (by decide) rfl rfl ?_
                      refine pw_goto (t := 5) (pc := 180) dX2_workOut_180 (by decide) ?_
                      refine pw_less (lv1 := [some (rr_ G (o + 8)), some (ii_ fr), some (ii_ to), some (ii_ (top + (-1))), some (ii_ (i + 1)), none]) rfl (by intro i v; (match i with | 0 => simp | 1 => simp | 2 => simp | 3 => simp | 4 => simp | 5 => simp | n + 6 => simp)) ?_
                      exact ih5 _ _ P3 st3 _ (nf) (k6) (by omega) (by simp at *; omega) (by simp at *; omega) (ns) (nd) (nb) (ne) (by omega)
                · have d1 := (dpt_n ad (show c = 3 by omega)).1
                  refine pw_iload_n (z := top) (pc := 102) dX2_workOut_102 rfl rfl ?_
                  refine pw_iconst (pc := 103) dX2_workOut_103 ?_
                  refine pw_icmp_lt (t := 134) (pc := 104) dX2_workOut_104 (by decide) (by first | first | omega | exact bo_ir _ _ _ | (simp only [n_hq_o_8_3, n_hq_o_9]; omega)) (by first | first | omega | exact bo_ir _ _ _ | (simp only [n_hq_o_8_3, n_hq_o_9]; omega)) (fun c104 => ?_) (fun c104 => ?_)
                  · refine pw_iload (z := h (o + 9) i) (pc := 134) dX2_workOut_134 rfl ?_
                    refine pw_sipush (pc := 136) dX2_workOut_136 rfl ?_
                    refine pw_icmp_le (t := 177) (pc := 139) dX2_workOut_139 (by decide) (by first | first | omega | exact bo_ir _ _ _ | (simp only [n_hq_o_8_3, n_hq_o_9]; omega)) (by first | first | omega | exact bo_ir _ _ _ | (simp only [n_hq_o_8_3, n_hq_o_9]; omega)) (fun c139 => ?_) (fun c139 => ?_)
                    · exfalso; omega
                    · have d2 := (dpt_b ad (show 4 ≤ c by omega)).1
                      refine pw_iload_n (z := top) (pc := 142) dX2_workOut_142 rfl rfl ?_
                      refine pw_iconst (pc := 143) dX2_workOut_143 ?_
                      refine pw_icmp_lt (t := 177) (pc := 144) dX2_workOut_144 (by decide) (by first | first | omega | exact bo_ir _ _ _ | (simp only [n_hq_o_8_3, n_hq_o_9]; omega)) (by first | first | omega | exact bo_ir _ _ _ | (simp only [n_hq_o_8_3, n_hq_o_9]; omega)) (fun c144 => ?_) (fun c144 => ?_)
                      · exfalso; omega
                      · have c4 : 4 ≤ c := by omega
                        have d3 := dpt_b ad c4
                        have b3 := dpb_b ab c4
                        obtain ⟨y, x, r, rfl⟩ := len_2 d3.1
                        have lr : (y :: x :: r).length = r.length + 2 := rfl
                        have x1 : hq (o + 10) (top + -1 - 1) = x := by rw [show top + -1 - 1 = (r.length : Int) by omega]; exact a_s.2.1
                        have y1 : hq (o + 10) (top + -1) = y := by rw [show top + -1 = ((x :: r).length : Int) by simp; omega]; exact a_s.1
                        refine pw_iinc (z := top) (lv1 := [some (rr_ G (o + 8)), some (ii_ fr), some (ii_ to), some (ii_ (top + (-1))), some (ii_ i), some (ii_ (h (o + 9) i))]) (pc := 147) dX2_workOut_147 rfl (by decide) rfl rfl ?_
                        refine pw_aload_n (z := (o + 8)) (pc := 150) dX2_workOut_150 rfl rfl ?_
                        refine pw_getR (r := (o + 10)) (pc := 151) dX2_workOut_151 fX2_15 (hC _ (by omega)) (kd6_8 ho) rfl rfl ?_
                        refine pw_iload_n (z := top + (-1)) (pc := 154) dX2_workOut_154 rfl rfl ?_
                        refine pw_iconst (pc := 155) dX2_workOut_155 ?_
                        refine pw_isub (pc := 156) dX2_workOut_156 ?_
                        refine pw_iload (z := h (o + 9) i) (pc := 157) dX2_workOut_157 rfl ?_
                        refine pw_aload_n (z := (o + 8)) (pc := 159) dX2_workOut_159 rfl rfl ?_
                        refine pw_getR (r := (o + 10)) (pc := 160) dX2_workOut_160 fX2_15 (hC _ (by omega)) (kd6_8 ho) rfl rfl ?_
                        refine pw_iload_n (z := top + (-1)) (pc := 163) dX2_workOut_163 rfl rfl ?_
                        refine pw_iconst (pc := 164) dX2_workOut_164 ?_
                        refine pw_isub (pc := 165) dX2_workOut_165 ?_
                        refine pw_iald (pc := 166) dX2_workOut_166 (hC _ (by omega)) (kd6_10 ho) 32 (ln6_10 ho) (by first | first | omega | exact bo_ir _ _ _ | (simp only [n_hq_o_8_3, n_hq_o_9]; omega)) (by first | first | omega | exact bo_ir _ _ _ | (simp only [n_hq_o_8_3, n_hq_o_9]; omega)) (by first | first | omega | exact bo_ir _ _ _ | (simp only [n_hq_o_8_3, n_hq_o_9]; omega)) (fun r166 => ?_)
                        refine pw_aload_n (z := (o + 8)) (pc := 167) dX2_workOut_167 rfl rfl ?_
                        refine pw_getR (r := (o + 10)) (pc := 168) dX2_workOut_168 fX2_15 (hC _ (by omega)) (kd6_8 ho) rfl rfl ?_
                        refine pw_iload_n (z := top + (-1)) (pc := 171) dX2_workOut_171 rfl rfl ?_
                        refine pw_iald (pc := 172) dX2_workOut_172 (hC _ (by omega)) (kd6_10 ho) 32 (ln6_10 ho) (by first | first | omega | exact bo_ir _ _ _ | (simp only [n_hq_o_8_3, n_hq_o_9]; omega)) (by first | first | omega | exact bo_ir _ _ _ | (simp only [n_hq_o_8_3, n_hq_o_9]; omega)) (by first | first | omega | exact bo_ir _ _ _ | (simp only [n_hq_o_8_3, n_hq_o_9]; omega)) (fun r172 => ?_)
                        refine pw_callS (As := [ii_ (h (o + 9) i), ii_ (hq (o + 10) ((top + (-1)) - 1)), ii_ (hq (o + 10) (top + (-1)))]) (rest := [ii_ ((top + (-1)) - 1), rr_ G (o + 10)]) (pc := 173) dX2_workOut_173 (d_join hC hq (h (o + 9) i) (hq (o + 10) ((top + (-1)) - 1)) (hq (o + 10) (top + (-1))) (by first | first | omega | exact bo_ir _ _ _ | (simp only [n_hq_o_8_3, n_hq_o_9]; omega)) (by first | first | omega | exact bo_ir _ _ _ | (simp only [n_hq_o_8_3, n_hq_o_9]; omega)) (by first | first | omega | exact bo_ir _ _ _ | (simp only [n_hq_o_8_3, n_hq_o_9]; omega))) lX2_31 mX2_join sX2_join rfl rfl (by decide) ⟨Nat.zero_le _, Nat.zero_le _⟩ (Nat.le_of_ble_eq_true rfl) (k_i (fun z173 h173 y173 q173 => ?_))
                        obtain ⟨rfl, w173⟩ := q173
                        refine pw_iast (pc := 176) dX2_workOut_176 (hC _ (by omega)) (kd6_10 ho) 32 (ln6_10 ho) (by first | first | omega | exact bo_ir _ _ _ | (simp only [n_hq_o_8_3, n_hq_o_9]; omega)) (by first | first | omega | exact bo_ir _ _ _ | (simp only [n_hq_o_8_3, n_hq_o_9]; omega)) (by first | first | omega | exact bo_ir _ _ _ | (simp only [n_hq_o_8_3, n_hq_o_9]; omega)) (by first | first | omega | exact bo_ir _ _ _ | (simp only [n_hq_o_8_3, n_hq_o_9]; omega)) ?_
                        obtain ⟨g176, e176⟩ : ∃ x, x = up_ hq (o + 10) ((top + (-1)) - 1) z173 := ⟨_, rfl⟩
                        refine pw_heq e176 ?_
                        obtain ⟨st3, s3⟩ : ∃ q, q = bo_ c x y :: r := ⟨_, rfl⟩
                        have ls : st3.length = r.length + 1 := by rw [s3]; rfl
                        have nf : off_ [o + 10] h g176 := by rw [e176]; exact off_up af (by simp)
                        have nd : dpt_ P3 st3.length := by rw [ls]; exact d3.2
                        have nb : dpb_ P3 st3.length := by rw [ls]; exact b3
                        have ns : stk_ (g176 (o + 10)) st3 := by rw [s3, e176]; exact ⟨by rw [up_at, if_pos (by omega), w173, k1, x1, y1, joi_bo (by omega)], stk_up a_s.2.2 (by omega)⟩
                        have ne : evl_ (h (o + 11)) P3 st3 = evl_ (h (o + 11)) P [] := by rw [← ae, s3]; show _ = evl_ _ P3 (es_ _ c a (y :: x :: r)); rw [es_b c4]
                        refine pw_iinc (z := i) (lv1 := [some (rr_ G (o + 8)), some (ii_ fr), some (ii_ to), some (ii_ (top + (-1))), some (ii_ (i + 1)), some (ii_ (h (o + 9) i))]) (pc := 177) dX2_workOut_177 rfl (by decide) rfl rfl ?_
                        refine pw_goto (t := 5) (pc := 180) dX2_workOut_180 (by decide) ?_
                        refine pw_less (lv1 := [some (rr_ G (o + 8)), some (ii_ fr), some (ii_ to), some (ii_ (top + (-1))), some (ii_ (i + 1)), none]) rfl (by intro i v; (match i with | 0 => simp | 1 => simp | 2 => simp | 3 => simp | 4 => simp | 5 => simp | n + 6 => simp)) ?_
                        exact ih5 _ _ P3 st3 _ (nf) (k6) (by omega) (by simp at *; omega) (by simp at *; omega) (ns) (nd) (nb) (ne) (by omega)
                  · have c3 : c = 3 := by omega
                    have d3 := dpt_n ad c3
                    have b3 := dpb_n ab c3
                    obtain ⟨x, r, rfl⟩ := len_1 d3.1
                    have lr : (x :: r).length = r.length + 1 := rfl
                    have x1 : hq (o + 10) (top - 1) = x := by rw [show top - 1 = (r.length : Int) by omega]; exact a_s.1
                    refine pw_aload_n (z := (o + 8)) (pc := 107) dX2_workOut_107 rfl rfl ?_
                    refine pw_getR (r := (o + 10)) (pc := 108) dX2_workOut_108 fX2_15 (hC _ (by omega)) (kd6_8 ho) rfl rfl ?_
                    refine pw_iload_n (z := top) (pc := 111) dX2_workOut_111 rfl rfl ?_
                    refine pw_iconst (pc := 112) dX2_workOut_112 ?_
                    refine pw_isub (pc := 113) dX2_workOut_113 ?_
                    refine pw_aload_n (z := (o + 8)) (pc := 114) dX2_workOut_114 rfl rfl ?_
                    refine pw_getR (r := (o + 10)) (pc := 115) dX2_workOut_115 fX2_15 (hC _ (by omega)) (kd6_8 ho) rfl rfl ?_
                    refine pw_iload_n (z := top) (pc := 118) dX2_workOut_118 rfl rfl ?_
                    refine pw_iconst (pc := 119) dX2_workOut_119 ?_
                    refine pw_isub (pc := 120) dX2_workOut_120 ?_
                    refine pw_iald (pc := 121) dX2_workOut_121 (hC _ (by omega)) (kd6_10 ho) 32 (ln6_10 ho) (by first | first | omega | exact bo_ir _ _ _ | (simp only [n_hq_o_8_3, n_hq_o_9]; omega)) (by first | first | omega | exact bo_ir _ _ _ | (simp only [n_hq_o_8_3, n_hq_o_9]; omega)) (by first | first | omega | exact bo_ir _ _ _ | (simp only [n_hq_o_8_3, n_hq_o_9]; omega)) (fun r121 => ?_)
                    have J130 : ∀ (v : Int), (v = (if x = 0 then 1 else 0)) → PW G RX2 cX2_workOut 6 (some .int) (rm_ 2) 0 0 (zm_ G (qi_ (fun z h' => off_ [o + 10] h h' ∧ z = ew_ (h (o + 11)) P))) 130 [some (rr_ G (o + 8)), some (ii_ fr), some (ii_ to), some (ii_ top), some (ii_ i), some (ii_ (h (o + 9) i))] [ii_ v, ii_ (top - 1), rr_ G (o + 10)] hq := by
                      intro v hv2
                      refine pw_iast (pc := 130) dX2_workOut_130 (hC _ (by omega)) (kd6_10 ho) 32 (ln6_10 ho) (by first | first | omega | exact bo_ir _ _ _ | (simp only [n_hq_o_8_3, n_hq_o_9]; omega)) (by first | first | omega | exact bo_ir _ _ _ | (simp only [n_hq_o_8_3, n_hq_o_9]; omega)) (by first | first | omega | exact bo_ir _ _ _ | (simp only [n_hq_o_8_3, n_hq_o_9]; omega)) (by first | first | omega | exact bo_ir _ _ _ | (simp only [n_hq_o_8_3, n_hq_o_9]; omega)) ?_
                      obtain ⟨g130, e130⟩ : ∃ x, x = up_ hq (o + 10) (top - 1) v := ⟨_, rfl⟩
                      refine pw_heq e130 ?_
                      obtain ⟨st3, s3⟩ : ∃ y, y = (if x = 0 then 1 else 0) :: r := ⟨_, rfl⟩
                      have ls : st3.length = r.length + 1 := by rw [s3]; rfl
                      have nf : off_ [o + 10] h g130 := by rw [e130]; exact off_up af (by simp)
                      have nd : dpt_ P3 st3.length := by rw [ls]; exact d3.2
                      have nb : dpb_ P3 st3.length := by rw [ls]; exact b3
                      have ns : stk_ (g130 (o + 10)) st3 := by rw [s3, e130]; exact ⟨by rw [up_at, if_pos (by omega)]; exact hv2, stk_up a_s.2 (by omega)⟩
                      have ne : evl_ (h (o + 11)) P3 st3 = evl_ (h (o + 11)) P [] := by rw [← ae, s3]; show _ = evl_ _ P3 (es_ _ c a (x :: r)); rw [c3, es_3]
                      refine pw_goto (t := 177) (pc := 131) dX2_workOut_131 (by decide) ?_
                      
                      refine pw_iinc (z := i) (lv1 := [some (rr_ G (o + 8)), some (ii_ fr), some (ii_ to), some (ii_ top), some (ii_ (i + 1)), some (ii_ (h (o + 9) i))]) (pc := 177) dX2_workOut_177 rfl (by decide) rfl rfl ?_
                      refine pw_goto (t := 5) (pc := 180) dX2_workOut_180 (by decide) ?_
                      refine pw_less (lv1 := [some (rr_ G (o + 8)), some (ii_ fr), some (ii_ to), some (ii_ top), some (ii_ (i + 1)), none]) rfl (by intro i v; (match i with | 0 => simp | 1 => simp | 2 => simp | 3 => simp | 4 => simp | 5 => simp | n + 6 => simp)) ?_
                      exact ih5 _ _ P3 st3 _ (nf) (k6) (by omega) (by simp at *; omega) (by simp at *; omega) (ns) (nd) (nb) (ne) (by omega)
                    refine pw_if_ne (t := 129) (pc := 122) dX2_workOut_122 (by decide) (by first | first | omega | exact bo_ir _ _ _ | (simp only [n_hq_o_8_3, n_hq_o_9]; omega)) (fun c122 => ?_) (fun c122 => ?_)
                    · refine pw_iconst (pc := 129) dX2_workOut_129 ?_
                      exact J130 _ (by rw [x1] at c122; first | rw [if_pos c122] | rw [if_neg c122])
                    · refine pw_iconst (pc := 125) dX2_workOut_125 ?_
                      refine pw_goto (t := 130) (pc := 126) dX2_workOut_126 (by decide) ?_
                      exact J130 _ (by rw [x1] at c122; first | rw [if_pos c122] | rw [if_neg c122])
              · refine pw_aload_n (z := (o + 8)) (pc := 48) dX2_workOut_48 rfl rfl ?_
                refine pw_getR (r := (o + 10)) (pc := 49) dX2_workOut_49 fX2_15 (hC _ (by omega)) (kd6_8 ho) rfl rfl ?_
                refine pw_iload_n (z := top) (pc := 52) dX2_workOut_52 rfl rfl ?_
                have J87 : ∀ (v : Int), (es_ (h (o + 11)) c a st = v :: st ∧ ir_ v) → PW G RX2 cX2_workOut 6 (some .int) (rm_ 2) 0 0 (zm_ G (qi_ (fun z h' => off_ [o + 10] h h' ∧ z = ew_ (h (o + 11)) P))) 87 [some (rr_ G (o + 8)), some (ii_ fr), some (ii_ to), some (ii_ top), some (ii_ i), some (ii_ (h (o + 9) i))] [ii_ v, ii_ top, rr_ G (o + 10)] hq := by
                  intro v hv
                  refine pw_iast (pc := 87) dX2_workOut_87 (hC _ (by omega)) (kd6_10 ho) 32 (ln6_10 ho) (by first | first | omega | exact bo_ir _ _ _ | (simp only [n_hq_o_8_3, n_hq_o_9]; omega)) (by first | first | omega | exact bo_ir _ _ _ | (simp only [n_hq_o_8_3, n_hq_o_9]; omega)) (by first | first | omega | exact bo_ir _ _ _ | (simp only [n_hq_o_8_3, n_hq_o_9]; omega)) (by first | first | omega | exact bo_ir _ _ _ | (simp only [n_hq_o_8_3, n_hq_o_9]; omega)) ?_
                  obtain ⟨g87, e87⟩ : ∃ x, x = up_ hq (o + 10) top v := ⟨_, rfl⟩
                  refine pw_heq e87 ?_
                  have hc12 : c = 1 ∨ c = 2 := by omega
                  obtain ⟨st3, s3⟩ : ∃ x, x = v :: st := ⟨_, rfl⟩
                  have ls : st3.length = st.length + 1 := by rw [s3]; rfl
                  have nf : off_ [o + 10] h g87 := by rw [e87]; exact off_up af (by simp)
                  have nd : dpt_ P3 st3.length := by rw [ls]; exact dpt_p ad hc12
                  have nb : dpb_ P3 st3.length := by rw [ls]; exact (dpb_p ab hc12).2
                  have ns : stk_ (g87 (o + 10)) st3 := by rw [s3, e87]; exact ⟨by rw [up_at, if_pos (by omega)], stk_up a_s (by omega)⟩
                  have ne : evl_ (h (o + 11)) P3 st3 = evl_ (h (o + 11)) P [] := by rw [← ae, s3]; show _ = evl_ _ P3 (es_ _ c a st); rw [hv.1]
                  refine pw_iinc (z := top) (lv1 := [some (rr_ G (o + 8)), some (ii_ fr), some (ii_ to), some (ii_ (top + 1)), some (ii_ i), some (ii_ (h (o + 9) i))]) (pc := 88) dX2_workOut_88 rfl (by decide) rfl rfl ?_
                  refine pw_goto (t := 177) (pc := 91) dX2_workOut_91 (by decide) ?_
                  
                  refine pw_iinc (z := i) (lv1 := [some (rr_ G (o + 8)), some (ii_ fr), some (ii_ to), some (ii_ (top + 1)), some (ii_ (i + 1)), some (ii_ (h (o + 9) i))]) (pc := 177) dX2_workOut_177 rfl (by decide) rfl rfl ?_
                  refine pw_goto (t := 5) (pc := 180) dX2_workOut_180 (by decide) ?_
                  refine pw_less (lv1 := [some (rr_ G (o + 8)), some (ii_ fr), some (ii_ to), some (ii_ (top + 1)), some (ii_ (i + 1)), none]) rfl (by intro i v; (match i with | 0 => simp | 1 => simp | 2 => simp | 3 => simp | 4 => simp | 5 => simp | n + 6 => simp)) ?_
                  exact ih5 _ _ P3 st3 _ (nf) (k6) (by omega) (by simp at *; omega) (by simp at *; omega) (ns) (nd) (nb) (ne) (by omega)
                refine pw_iload (z := h (o + 9) i) (pc := 53) dX2_workOut_53 rfl ?_
                refine pw_sipush (pc := 55) dX2_workOut_55 rfl ?_
                refine pw_icmp_ge (t := 66) (pc := 58) dX2_workOut_58 (by decide) (by first | first | omega | exact bo_ir _ _ _ | (simp only [n_hq_o_8_3, n_hq_o_9]; omega)) (by first | first | omega | exact bo_ir _ _ _ | (simp only [n_hq_o_8_3, n_hq_o_9]; omega)) (fun c58 => ?_) (fun c58 => ?_)
                · refine pw_aload_n (z := (o + 8)) (pc := 66) dX2_workOut_66 rfl rfl ?_
                  refine pw_getR (r := (o + 11)) (pc := 67) dX2_workOut_67 fX2_18 (hC _ (by omega)) (kd6_8 ho) rfl rfl ?_
                  refine pw_iload (z := h (o + 9) i) (pc := 70) dX2_workOut_70 rfl ?_
                  refine pw_sipush (pc := 72) dX2_workOut_72 rfl ?_
                  refine pw_isub (pc := 75) dX2_workOut_75 ?_
                  refine pw_aload_n (z := (o + 8)) (pc := 76) dX2_workOut_76 rfl rfl ?_
                  refine pw_getR (r := (o + 11)) (pc := 77) dX2_workOut_77 fX2_18 (hC _ (by omega)) (kd6_8 ho) rfl rfl ?_
                  refine pw_alen (pc := 80) dX2_workOut_80 (hC _ (by omega)) _ (kd6_11 ho) (by decide) 5 (ln6_11 ho) ?_
                  refine pw_iconst (pc := 81) dX2_workOut_81 ?_
                  refine pw_isub (pc := 82) dX2_workOut_82 ?_
                  refine pw_mmin (pc := 83) dX2_workOut_83 lX2_25 (by first | first | omega | exact bo_ir _ _ _ | (simp only [n_hq_o_8_3, n_hq_o_9]; omega)) (by first | first | omega | exact bo_ir _ _ _ | (simp only [n_hq_o_8_3, n_hq_o_9]; omega)) (by decide) ⟨Nat.zero_le _, Nat.zero_le _⟩ (Nat.le_of_ble_eq_true rfl) (fun z83 r83 w83 => ?_)
                  refine pw_iald (pc := 86) dX2_workOut_86 (hC _ (by omega)) (kd6_11 ho) 5 (ln6_11 ho) (by first | first | omega | exact bo_ir _ _ _ | (simp only [n_hq_o_8_3, n_hq_o_9]; omega)) (by first | first | omega | exact bo_ir _ _ _ | (simp only [n_hq_o_8_3, n_hq_o_9]; omega)) (by first | first | omega | exact bo_ir _ _ _ | (simp only [n_hq_o_8_3, n_hq_o_9]; omega)) (fun r86 => ?_)
                  have n_hq_o_11 : hq (o + 11) = h (o + 11) := (af (o + 11) (by first | decide | (simp; done) | (simp; omega)))
                  rw [n_hq_o_11] at r86 ⊢
                  exact J87 _ (by first | (rw [show c = 1 by omega, show h (o + 9) i = a by omega]; exact ⟨rfl, by omega⟩) | (have z8 : z83 = a := (by omega); subst z8; rw [show c = 2 by omega]; exact ⟨rfl, r86⟩))
                · refine pw_iload (z := h (o + 9) i) (pc := 61) dX2_workOut_61 rfl ?_
                  refine pw_goto (t := 87) (pc := 63) dX2_workOut_63 (by decide) ?_
                  exact J87 _ (by first | (rw [show c = 1 by omega, show h (o + 9) i = a by omega]; exact ⟨rfl, by omega⟩) | (have z8 : z83 = a := (by omega); subst z8; rw [show c = 2 by omega]; exact ⟨rfl, r86⟩))
  exact L5 _ _ _ P [] _ (off_rf) (hc) (⟨hb.1, hb.2.1⟩) (rfl) (by decide) (trivial) (hd) (hp) (rfl) (Int.self_le_toNat _)

