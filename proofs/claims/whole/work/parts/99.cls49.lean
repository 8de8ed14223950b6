/-! ===== the class's reader ===== -/
def CPO_ (tp : Int → Int) (n : Int) (h : PH_) (a : Nat) : Prop := CTK_ tp n h a ∧ (∀ b, a = b + 1 → h 1 5 = (tk_ tp n b).2.1) ∧ h 3 3 = 0
def CPR_ (tp : Int → Int) (n : Int) (h : PH_) (z : Int) : RE_ Nat → Prop
  | .ok a => z = 1 ∧ CPO_ tp n h a
  | .error e => z = 0 ∧ h 3 3 = e ∧ 0 < e
def CPN_ (tp : Int → Int) (n : Int) (h : PH_) (z : Int) : RE_ (Int × Nat) → Prop
  | .ok q => z = 1 ∧ CPO_ tp n h q.2 ∧ h 3 4 = q.1
  | .error e => z = 0 ∧ h 3 3 = e ∧ 0 < e
/-- what no reading of a token changes -/
def fr3_ (ks : List Int) (h h' : PH_) : Prop := off_ [1, 3] h h' ∧ (∀ k, k ∉ ks → h' 3 k = h 3 k) ∧ h' 1 2 = h 1 2
theorem fr3_rf {ks : List Int} {h : PH_} : fr3_ ks h h := ⟨off_rf, fun _ _ => rfl, rfl⟩
theorem fr3_tr {ks : List Int} {a b c : PH_} (h1 : fr3_ ks a b) (h2 : fr3_ ks b c) : fr3_ ks a c := ⟨off_tr h1.1 h2.1, fun k k1 => (h2.2.1 k k1).trans (h1.2.1 k k1), h2.2.2.trans h1.2.2⟩
theorem fr3_mo {ks ls : List Int} {a b : PH_} (h1 : fr3_ ks a b) (h : ∀ k, k ∈ ks → k ∈ ls) : fr3_ ls a b := ⟨h1.1, fun k k1 => h1.2.1 k (fun u => k1 (h k u)), h1.2.2⟩
theorem tk_pb {tp : Int → Int} {n : Int} {a : Nat} (hn : 0 ≤ n ∧ n ≤ 1000) : 0 ≤ (tk_ tp n a).2.1 ∧ (tk_ tp n a).2.1 ≤ 1000 := by
  have k := tkp_b (tp := tp) hn.1 a
  have b := rnx_b (Q := bla_) (tp := tp) (n := n) (k := tkp_ tp n a) k.2
  show 0 ≤ rnx_ bla_ tp n (tkp_ tp n a) ∧ rnx_ bla_ tp n (tkp_ tp n a) ≤ 1000
  omega
theorem CPO_b {tp : Int → Int} {n : Int} {h : PH_} {a : Nat} (H : CPO_ tp n h a) : (0 ≤ n ∧ n ≤ 1000) ∧ h 1 4 = (tk_ tp n a).2.1 ∧ (0 ≤ (tk_ tp n a).2.1 ∧ (tk_ tp n a).2.1 ≤ 1000) ∧ wfk_ (tk_ tp n) ∧ TKC_ (tk_ tp n a) h ∧ CTP_ tp n h ∧ h 1 1 = tkp_ tp n (a + 1) ∧ h 3 3 = 0 :=
  ⟨H.1.1.2.1, H.1.2.1.2.1, tk_pb H.1.1.2.1, tk_wf H.1.1.2.1.1, H.1.2.1, H.1.1, H.1.2.2, H.2.2⟩
theorem CPO_lk {tp : Int → Int} {n : Int} {h : PH_} {a : Nat} (H : CPO_ tp n h a) : (tk_ tp n a).1 = 1 → lok2_ (tk_ tp n a).2.2.2 := fun u => ((tk_wf H.1.1.2.1.1 a).1 u).1
theorem CPO_st {tp : Int → Int} {n : Int} {h h' : PH_} {a : Nat} (H : CPO_ tp n h a) (f : off_ [1] h h') (k : CTK_ tp n h' (a + 1)) (e : h' 1 5 = h 1 4) : CPO_ tp n h' (a + 1) ∧ fr3_ [] h h' := by
  refine ⟨⟨k, fun b hb => ?_, by rw [f 3 (by decide)]; exact H.2.2⟩, off_mo f (by decide), fun k _ => by rw [f 3 (by decide)], by rw [k.1.1, H.1.1.1]⟩
  rw [e, show b = a by omega]
  exact H.1.2.1.2.1
theorem CPO_mv {tp : Int → Int} {n : Int} {h h' : PH_} {a : Nat} (H : CPO_ tp n h a) (e1 : h' 1 = h 1) (e2 : h' 2 = h 2) (e3 : h' 3 3 = h 3 3) : CPO_ tp n h' a := ⟨CTK_mv H.1 e1 e2, fun b hb => by rw [e1]; exact H.2.1 b hb, by rw [e3]; exact H.2.2⟩
theorem flt_p {tp : Int → Int} {n w : Int} {a : Nat} (hn : 0 ≤ n ∧ n ≤ 1000) (hw : 1 ≤ w ∧ w ≤ 5) : 0 < flt_ (tk_ tp n) w a ∧ flt_ (tk_ tp n) w a ≤ 16005 := by
  have := tk_pb (tp := tp) (a := a) hn
  unfold flt_; omega
noncomputable def tkws_ (tk : Nat → TK_) (j : Nat) (a : Nat) : RE_ Nat := if_ (ixn_ (tk a) (wix_ j) 0 = -1) (.error (flt_ tk 1 a)) (.ok (a + 1))
theorem tkws_1 {tk : Nat → TK_} {j w a : Nat} (h : wix_ j = [w]) : tkws_ tk j a = tkw_ tk w a := by
  unfold tkws_ tkw_
  rw [h]
  show if_ (if_ (isW_ (tk a) w) 0 (-1) = -1) _ _ = _
  by_cases c : isW_ (tk a) w
  · rw [if_t c, if_t c, if_f (by decide)]
  · rw [if_f c, if_f c, if_t rfl]
theorem nam_5 {t : TK_} : nam_ t ↔ t.1 = 1 ∧ ixn_ t (wix_ 5) 0 = -1 := by
  have e : wix_ 5 = List.range' 0 22 := by decide +kernel
  unfold nam_
  rw [e, ixn_f (by decide)]
  have b := fcw_b t 0 22
  constructor
  · intro u; exact ⟨u.1, by omega⟩
  · intro u; exact ⟨u.1, by omega⟩
/-! names -/
def CNM_ (nm : NM_) (f : Int → Int) (R K : Int) : Prop := (∀ r, 0 ≤ r → r < R → ∃ l, (l, r) ∈ nm ∧ f r = enc_ 27 l) ∧ (∀ k, 0 ≤ k → k < K → ∃ l, (l, 20) ∈ nm ∧ f (4 + k) = enc_ 27 l) ∧ (∀ q ∈ nm, lok2_ q.1 ∧ (0 ≤ q.2 ∧ q.2 < R ∧ f q.2 = enc_ 27 q.1 ∨ q.2 = 20 ∧ ∃ k, 0 ≤ k ∧ k < K ∧ f (4 + k) = enc_ 27 q.1)) ∧ (∀ q ∈ nm, fnd_ nm q.1 = q.2)
theorem fnd_m {nm : NM_} {w : List Int} : fnd_ nm w = -1 ∨ (w, fnd_ nm w) ∈ nm := by
  induction nm with
  | nil => exact Or.inl rfl
  | cons q l ih =>
    show if_ _ _ _ = -1 ∨ (w, if_ _ _ _) ∈ _
    by_cases c : q.1 = w
    · rw [if_t c]; right; rw [← c]; exact List.mem_cons_self
    · rw [if_f c]
      rcases ih with ih | ih
      · exact Or.inl ih
      · exact Or.inr (List.mem_cons_of_mem _ ih)
theorem CNM_r {nm : NM_} {f : Int → Int} {R K v : Int} {w : List Int} (H : CNM_ nm f R K) (hR : R ≤ 4) (hw : lok2_ w) (ev : v = enc_ 27 w) {z : Int} (hz : fst1_ f v R z) : (0 ≤ fnd_ nm w ∧ fnd_ nm w ≤ 3) ∧ z = fnd_ nm w ∨ ¬ (0 ≤ fnd_ nm w ∧ fnd_ nm w ≤ 3) ∧ z = -1 := by
  obtain ⟨h1, h2, h3, h4⟩ := H
  rcases hz with ⟨z0, z1, z2, -⟩ | ⟨rfl, z2⟩
  · obtain ⟨l, l1, l2⟩ := h1 z z0 z1
    have e : l = w := (enc_eq (B := 27) (by decide) (h3 _ l1).1 hw).mp (by rw [← l2, z2, ev])
    subst e
    have := h4 _ l1
    have e2 : fnd_ nm l = z := this
    exact Or.inl ⟨by omega, e2.symm⟩
  · refine Or.inr ⟨fun u => ?_, rfl⟩
    rcases fnd_m (nm := nm) (w := w) with e | e
    · omega
    · rcases (h3 _ e).2 with g | g
      · exact z2 _ g.1 g.2.1 (by rw [ev]; exact g.2.2)
      · have : fnd_ nm w = 20 := g.1
        omega
theorem CNM_t {nm : NM_} {f : Int → Int} {R K v : Int} {w : List Int} (H : CNM_ nm f R K) (hw : lok2_ w) (ev : v = enc_ 27 w) : ((∃ e, 0 ≤ e ∧ e < K ∧ f (4 + e) = v) ∨ (∃ e, 0 ≤ e ∧ e < R ∧ f e = v)) ↔ 0 ≤ fnd_ nm w := by
  obtain ⟨h1, h2, h3, h4⟩ := H
  constructor
  · rintro (⟨e, e0, e1, e2⟩ | ⟨e, e0, e1, e2⟩)
    · obtain ⟨l, l1, l2⟩ := h2 e e0 e1
      have q : l = w := (enc_eq (B := 27) (by decide) (h3 _ l1).1 hw).mp (by rw [← l2, e2, ev])
      subst q
      have : fnd_ nm l = 20 := h4 _ l1
      omega
    · obtain ⟨l, l1, l2⟩ := h1 e e0 e1
      have q : l = w := (enc_eq (B := 27) (by decide) (h3 _ l1).1 hw).mp (by rw [← l2, e2, ev])
      subst q
      have : fnd_ nm l = e := h4 _ l1
      omega
  · intro u
    rcases fnd_m (nm := nm) (w := w) with e | e
    · omega
    · rcases (h3 _ e).2 with g | g
      · exact Or.inr ⟨_, g.1, g.2.1, by rw [ev]; exact g.2.2⟩
      · obtain ⟨k, k0, k1, k2⟩ := g.2
        exact Or.inl ⟨k, k0, k1, by rw [ev]; exact k2⟩
noncomputable def trd_ (tk : Nat → TK_) (nm : NM_) (a : Nat) : RE_ (Int × Nat) := bd_ (rdh_ tk nm a) (fun v => .ok (v, a + 1))
def CPK_ (tp : Int → Int) (n : Int) (h : PH_) (z : Int) : RE_ (Int × Nat) → Prop
  | .ok q => z = 1 ∧ CPO_ tp n h q.2 ∧ h 3 5 = q.1
  | .error e => z = 0 ∧ h 3 3 = e ∧ 0 < e

set_option maxHeartbeats 4000000 in
set_option maxRecDepth 100000 in
theorem d_wrong {G : GT_} (hC : okC_ G) (h : PH_) (tp : Int → Int) (n : Int) (a : Nat) (H : CPO_ tp n h a) (w : Int) (hw : 1 ≤ w ∧ w ≤ 5) : PC G yX5_wrong cX5_wrong 2 (some .boolean) 1 [rr_ G 3, ii_ w] h (qi_ (fun z h' => fr3_ [3] h h' ∧ h' 3 3 = flt_ (tk_ tp n) w a ∧ z = 0)) := by
  have HB := CPO_b H
  have kk := ckd_k (tk_ tp n a).1
  rw [← HB.2.2.2.2.1.1] at kk
  refine PC.of (lv := [some (rr_ G 3), some (ii_ w)]) (by decide +kernel) (Nat.le_of_ble_eq_true rfl) rfl rfl ?_
  refine pw_aload_n (z := 3) (pc := 0) dX5_wrong_0 rfl rfl ?_
  refine pw_iload_n (z := w) (pc := 1) dX5_wrong_1 rfl rfl ?_
  refine pw_bipush (pc := 2) dX5_wrong_2 rfl ?_
  refine pw_aload_n (z := 3) (pc := 4) dX5_wrong_4 rfl rfl ?_
  refine pw_getR (r := 1) (pc := 5) dX5_wrong_5 fX5_17 (hC 3 (by decide)) (show kd_ 3 = 15 by decide +kernel) rfl (by decide +kernel) ?_
  refine pw_gI (x := 4) (pc := 8) dX5_wrong_8 fX5_101 (hC 1 (by decide)) (show kd_ 1 = 18 by decide +kernel) rfl rfl (fun r8 => ?_)
  refine pw_imul (pc := 11) dX5_wrong_11 ?_
  refine pw_iadd (pc := 12) dX5_wrong_12 ?_
  refine pw_pI (x := 3) (pc := 13) dX5_wrong_13 fX5_75 (hC 3 (by decide)) (show kd_ 3 = 15 by decide +kernel) rfl rfl (by first | omega) ?_
  obtain ⟨g13, e13⟩ : ∃ x, x = up_ h 3 3 (w + (16 * (h 1 4))) := ⟨_, rfl⟩
  refine pw_heq e13 ?_
  refine pw_iconst (pc := 16) dX5_wrong_16 ?_
  exact pw_zret (pc := 17) dX5_wrong_17 (by first | omega) (⟨⟨by rw [e13]; exact off_up off_rf (by decide), fun k k1 => by rw [e13, up_at, if_neg (by simpa using k1)], by rw [e13, up_off (by decide)]⟩, by rw [e13, up_same, HB.2.1]; rfl, rfl⟩)

set_option maxHeartbeats 4000000 in
set_option maxRecDepth 100000 in
theorem d_takenW {G : GT_} (hC : okC_ G) (h : PH_) (tp : Int → Int) (n : Int) (a : Nat) (H : CPO_ tp n h a) (b : Nat) (hb : a = b + 1) (w : Int) (hw : 1 ≤ w ∧ w ≤ 5) : PC G yX5_takenWrong cX5_takenWrong 2 (some .boolean) 1 [rr_ G 3, ii_ w] h (qi_ (fun z h' => fr3_ [3] h h' ∧ h' 3 3 = flt_ (tk_ tp n) w b ∧ z = 0)) := by
  have HB := CPO_b H
  have kk := ckd_k (tk_ tp n a).1
  rw [← HB.2.2.2.2.1.1] at kk
  have hb5 := H.2.1 b hb
  have pb := tk_pb (tp := tp) (a := b) HB.1
  refine PC.of (lv := [some (rr_ G 3), some (ii_ w)]) (by decide +kernel) (Nat.le_of_ble_eq_true rfl) rfl rfl ?_
  refine pw_aload_n (z := 3) (pc := 0) dX5_takenWrong_0 rfl rfl ?_
  refine pw_iload_n (z := w) (pc := 1) dX5_takenWrong_1 rfl rfl ?_
  refine pw_bipush (pc := 2) dX5_takenWrong_2 rfl ?_
  refine pw_aload_n (z := 3) (pc := 4) dX5_takenWrong_4 rfl rfl ?_
  refine pw_getR (r := 1) (pc := 5) dX5_takenWrong_5 fX5_17 (hC 3 (by decide)) (show kd_ 3 = 15 by decide +kernel) rfl (by decide +kernel) ?_
  refine pw_gI (x := 5) (pc := 8) dX5_takenWrong_8 fX5_104 (hC 1 (by decide)) (show kd_ 1 = 18 by decide +kernel) rfl rfl (fun r8 => ?_)
  refine pw_imul (pc := 11) dX5_takenWrong_11 ?_
  refine pw_iadd (pc := 12) dX5_takenWrong_12 ?_
  refine pw_pI (x := 3) (pc := 13) dX5_takenWrong_13 fX5_75 (hC 3 (by decide)) (show kd_ 3 = 15 by decide +kernel) rfl rfl (by first | omega) ?_
  obtain ⟨g13, e13⟩ : ∃ x, x = up_ h 3 3 (w + (16 * (h 1 5))) := ⟨_, rfl⟩
  refine pw_heq e13 ?_
  refine pw_iconst (pc := 16) dX5_takenWrong_16 ?_
  exact pw_zret (pc := 17) dX5_takenWrong_17 (by first | omega) (⟨⟨by rw [e13]; exact off_up off_rf (by decide), fun k k1 => by rw [e13, up_at, if_neg (by simpa using k1)], by rw [e13, up_off (by decide)]⟩, by rw [e13, up_same, hb5]; rfl, rfl⟩)

set_option maxHeartbeats 4000000 in
set_option maxRecDepth 100000 in
theorem d_takeSign {G : GT_} (hC : okC_ G) (h : PH_) (tp : Int → Int) (n : Int) (a : Nat) (H : CPO_ tp n h a) (c : Int) (hc : 0 ≤ c ∧ c < 128) : PC G yX5_takeSign cX5_takeSign 2 (some .boolean) 6 [rr_ G 3, ii_ c] h (qi_ (fun z h' => fr3_ [3] h h' ∧ CPR_ tp n h' z (tks2_ (tk_ tp n) c a))) := by
  have HB := CPO_b H
  have kk := ckd_k (tk_ tp n a).1
  rw [← HB.2.2.2.2.1.1] at kk
  refine PC.of (lv := [some (rr_ G 3), some (ii_ c)]) (by decide +kernel) (Nat.le_of_ble_eq_true rfl) rfl rfl ?_
  refine pw_aload_n (z := 3) (pc := 0) dX5_takeSign_0 rfl rfl ?_
  refine pw_getR (r := 1) (pc := 1) dX5_takeSign_1 fX5_17 (hC 3 (by decide)) (show kd_ 3 = 15 by decide +kernel) rfl (by decide +kernel) ?_
  refine pw_iload_n (z := c) (pc := 4) dX5_takeSign_4 rfl rfl ?_
  refine pw_callV (c := 8) (o := 1) (As := [ii_ c]) (rest := []) (pc := 5) dX5_takeSign_5 (d_isSign hC h (tk_ tp n a) HB.2.2.2.2.1 c hc) lX5_107 mX8_isSign vX8_isSign (hC 1 (by decide)) (show kd_ 1 = 18 by decide +kernel) rfl rfl rfl (by decide) ⟨Nat.zero_le _, Nat.zero_le _⟩ (Nat.le_of_ble_eq_true rfl) (k_i (fun z5 h5 y5 q5 => ?_))
  obtain ⟨rfl, ⟨rfl, p5⟩ | ⟨rfl, p5⟩⟩ := q5
  · refine pw_if_ne (t := 17) (pc := 8) dX5_takeSign_8 (by decide) (by first | omega) (fun _ => ?_) (fun c8 => absurd c8 (by decide))
    refine pw_aload_n (z := 3) (pc := 17) dX5_takeSign_17 rfl rfl ?_
    refine pw_getR (r := 1) (pc := 18) dX5_takeSign_18 fX5_17 (hC 3 (by decide)) (show kd_ 3 = 15 by decide +kernel) rfl (by decide +kernel) ?_
    refine pw_callV (c := 8) (o := 1) (As := []) (rest := []) (pc := 21) dX5_takeSign_21 (d_step hC h tp n HB.2.2.2.2.2.1 (a + 1) HB.2.2.2.2.2.2.1) lX5_111 mX8_step vX8_step (hC 1 (by decide)) (show kd_ 1 = 18 by decide +kernel) rfl rfl rfl (by decide) ⟨Nat.zero_le _, Nat.zero_le _⟩ (Nat.le_of_ble_eq_true rfl) (k_v (fun h21 q21 => ?_))
    obtain ⟨f21, k21, p21⟩ := q21
    obtain ⟨H21, F21⟩ := CPO_st H f21 k21 p21
    refine pw_iconst (pc := 24) dX5_takeSign_24 ?_
    exact pw_zret (pc := 25) dX5_takeSign_25 (by first | omega) (⟨fr3_mo F21 (by simp), by unfold tks2_; rw [if_t p5]; exact ⟨rfl, H21⟩⟩)
  · refine pw_if_ne (t := 17) (pc := 8) dX5_takeSign_8 (by decide) (by first | omega) (fun c8 => absurd c8 (by decide)) (fun _ => ?_)
    refine pw_aload_n (z := 3) (pc := 11) dX5_takeSign_11 rfl rfl ?_
    refine pw_iconst (pc := 12) dX5_takeSign_12 ?_
    refine pw_callV (c := 5) (o := 3) (As := [ii_ 1]) (rest := []) (pc := 13) dX5_takeSign_13 (d_wrong hC h tp n a H 1 (by first | omega)) lX5_70 mX5_wrong vX5_wrong (hC 3 (by decide)) (show kd_ 3 = 15 by decide +kernel) rfl rfl rfl (by decide) ⟨Nat.zero_le _, Nat.zero_le _⟩ (Nat.le_of_ble_eq_true rfl) (k_i (fun z13 h13 y13 q13 => ?_))
    obtain ⟨f13, x13, rfl⟩ := q13
    have fp13 := flt_p (tp := tp) (a := a) HB.1 (w := 1) (by omega)
    exact pw_zret (pc := 16) dX5_takeSign_16 (by first | omega) (⟨f13, by unfold tks2_; rw [if_f p5]; exact ⟨rfl, x13, fp13.1⟩⟩)

set_option maxHeartbeats 4000000 in
set_option maxRecDepth 100000 in
theorem d_takeWord {G : GT_} (hC : okC_ G) (h : PH_) (tp : Int → Int) (n : Int) (a : Nat) (H : CPO_ tp n h a) (j : Nat) (hj : j < 15) (hj2 : 2 ≤ j) : PC G yX5_takeWord cX5_takeWord 2 (some .boolean) 6 [rr_ G 3, rr_ G (3000 + j)] h (qi_ (fun z h' => fr3_ [3] h h' ∧ CPR_ tp n h' z (tkws_ (tk_ tp n) j a))) := by
  have HB := CPO_b H
  have kk := ckd_k (tk_ tp n a).1
  rw [← HB.2.2.2.2.1.1] at kk
  have ib := ixn_b (t := tk_ tp n a) (wix_ j) 0 (by decide)
  refine PC.of (lv := [some (rr_ G 3), some (rr_ G (3000 + j))]) (by decide +kernel) (Nat.le_of_ble_eq_true rfl) rfl rfl ?_
  refine pw_aload_n (z := 3) (pc := 0) dX5_takeWord_0 rfl rfl ?_
  refine pw_getR (r := 1) (pc := 1) dX5_takeWord_1 fX5_17 (hC 3 (by decide)) (show kd_ 3 = 15 by decide +kernel) rfl (by decide +kernel) ?_
  refine pw_aload_n (z := (3000 + j)) (pc := 4) dX5_takeWord_4 rfl rfl ?_
  refine pw_callV (c := 8) (o := 1) (As := [rr_ G (3000 + j)]) (rest := []) (pc := 5) dX5_takeWord_5 (d_wordAmong hC h j hj hj2 (tk_ tp n a) HB.2.2.2.2.1 (CPO_lk H)) lX5_42 mX8_wordAmong vX8_wordAmong (hC 1 (by decide)) (show kd_ 1 = 18 by decide +kernel) rfl rfl rfl (by decide) ⟨Nat.zero_le _, Nat.zero_le _⟩ (Nat.le_of_ble_eq_true rfl) (k_i (fun z5 h5 y5 q5 => ?_))
  obtain ⟨rfl, w5⟩ := q5
  refine pw_iconst (pc := 8) dX5_takeWord_8 ?_
  refine pw_icmp_ne (t := 18) (pc := 9) dX5_takeWord_9 (by decide) (by first | omega) (by first | omega) (fun c9 => ?_) (fun c9 => ?_)
  · refine pw_aload_n (z := 3) (pc := 18) dX5_takeWord_18 rfl rfl ?_
    refine pw_getR (r := 1) (pc := 19) dX5_takeWord_19 fX5_17 (hC 3 (by decide)) (show kd_ 3 = 15 by decide +kernel) rfl (by decide +kernel) ?_
    refine pw_callV (c := 8) (o := 1) (As := []) (rest := []) (pc := 22) dX5_takeWord_22 (d_step hC h tp n HB.2.2.2.2.2.1 (a + 1) HB.2.2.2.2.2.2.1) lX5_111 mX8_step vX8_step (hC 1 (by decide)) (show kd_ 1 = 18 by decide +kernel) rfl rfl rfl (by decide) ⟨Nat.zero_le _, Nat.zero_le _⟩ (Nat.le_of_ble_eq_true rfl) (k_v (fun h22 q22 => ?_))
    obtain ⟨f22, k22, p22⟩ := q22
    obtain ⟨H22, F22⟩ := CPO_st H f22 k22 p22
    refine pw_iconst (pc := 25) dX5_takeWord_25 ?_
    exact pw_zret (pc := 26) dX5_takeWord_26 (by first | omega) (⟨fr3_mo F22 (by simp), by unfold tkws_; rw [if_f (by omega)]; exact ⟨rfl, H22⟩⟩)
  · refine pw_aload_n (z := 3) (pc := 12) dX5_takeWord_12 rfl rfl ?_
    refine pw_iconst (pc := 13) dX5_takeWord_13 ?_
    refine pw_callV (c := 5) (o := 3) (As := [ii_ 1]) (rest := []) (pc := 14) dX5_takeWord_14 (d_wrong hC h tp n a H 1 (by first | omega)) lX5_70 mX5_wrong vX5_wrong (hC 3 (by decide)) (show kd_ 3 = 15 by decide +kernel) rfl rfl rfl (by decide) ⟨Nat.zero_le _, Nat.zero_le _⟩ (Nat.le_of_ble_eq_true rfl) (k_i (fun z14 h14 y14 q14 => ?_))
    obtain ⟨f14, x14, rfl⟩ := q14
    have fp14 := flt_p (tp := tp) (a := a) HB.1 (w := 1) (by omega)
    exact pw_zret (pc := 17) dX5_takeWord_17 (by first | omega) (⟨f14, by unfold tkws_; rw [if_t (by omega)]; exact ⟨rfl, x14, fp14.1⟩⟩)

set_option maxHeartbeats 4000000 in
set_option maxRecDepth 100000 in
theorem d_takeNum {G : GT_} (hC : okC_ G) (h : PH_) (tp : Int → Int) (n : Int) (a : Nat) (H : CPO_ tp n h a) (lo hi : Int) (h1 : ir_ lo) (h2 : ir_ hi) : PC G yX5_takeNumber cX5_takeNumber 3 (some .boolean) 6 [rr_ G 3, ii_ lo, ii_ hi] h (qi_ (fun z h' => fr3_ [3, 4] h h' ∧ CPN_ tp n h' z (tkn_ (tk_ tp n) lo hi a))) := by
  have HB := CPO_b H
  have kk := ckd_k (tk_ tp n a).1
  rw [← HB.2.2.2.2.1.1] at kk
  refine PC.of (lv := [some (rr_ G 3), some (ii_ lo), some (ii_ hi)]) (by decide +kernel) (Nat.le_of_ble_eq_true rfl) rfl rfl ?_
  refine pw_aload_n (z := 3) (pc := 0) dX5_takeNumber_0 rfl rfl ?_
  refine pw_getR (r := 1) (pc := 1) dX5_takeNumber_1 fX5_17 (hC 3 (by decide)) (show kd_ 3 = 15 by decide +kernel) rfl (by decide +kernel) ?_
  refine pw_gI (x := 3) (pc := 4) dX5_takeNumber_4 fX5_34 (hC 1 (by decide)) (show kd_ 1 = 18 by decide +kernel) rfl rfl (fun r4 => ?_)
  refine pw_iconst (pc := 7) dX5_takeNumber_7 ?_
  refine pw_icmp_eq (t := 17) (pc := 8) dX5_takeNumber_8 (by decide) (by first | omega) (by first | omega) (fun c8 => ?_) (fun c8 => ?_)
  · refine pw_aload_n (z := 3) (pc := 17) dX5_takeNumber_17 rfl rfl ?_
    have t2 : (tk_ tp n a).1 = 2 := kk.2.1.mp c8
    have v2 := HB.2.2.2.2.1.2.2.2 (Or.inl t2)
    have b2 := (HB.2.2.2.1 a).2 t2
    refine pw_getR (r := 1) (pc := 18) dX5_takeNumber_18 fX5_17 (hC 3 (by decide)) (show kd_ 3 = 15 by decide +kernel) rfl (by decide +kernel) ?_
    refine pw_gJ (x := 6) (pc := 21) dX5_takeNumber_21 fX5_114 (hC 1 (by decide)) (show kd_ 1 = 18 by decide +kernel) rfl rfl (fun r21 => ?_)
    refine pw_iload_n (z := lo) (pc := 24) dX5_takeNumber_24 rfl rfl ?_
    refine pw_i2l (pc := 25) dX5_takeNumber_25 (by first | omega) ?_
    refine pw_lcmp (pc := 26) dX5_takeNumber_26 (by first | omega) (by first | omega) ?_
    refine pw_if_lt (t := 43) (pc := 27) dX5_takeNumber_27 (by decide) (by first | omega) (fun c27 => ?_) (fun c27 => ?_)
    · refine pw_aload_n (z := 3) (pc := 43) dX5_takeNumber_43 rfl rfl ?_
      refine pw_iconst (pc := 44) dX5_takeNumber_44 ?_
      refine pw_callV (c := 5) (o := 3) (As := [ii_ 4]) (rest := []) (pc := 45) dX5_takeNumber_45 (d_wrong hC h tp n a H 4 (by first | omega)) lX5_70 mX5_wrong vX5_wrong (hC 3 (by decide)) (show kd_ 3 = 15 by decide +kernel) rfl rfl rfl (by decide) ⟨Nat.zero_le _, Nat.zero_le _⟩ (Nat.le_of_ble_eq_true rfl) (k_i (fun z45 h45 y45 q45 => ?_))
      obtain ⟨f45, x45, rfl⟩ := q45
      have fp45 := flt_p (tp := tp) (a := a) HB.1 (w := 4) (by omega)
      exact pw_zret (pc := 48) dX5_takeNumber_48 (by first | omega) (⟨fr3_mo f45 (by simp), by unfold tkn_; rw [if_t t2, if_f (by rw [← v2]; first | (have := lc_l c27; omega) | (have := lc_g (by omega); omega))]; exact ⟨rfl, x45, fp45.1⟩⟩)
    · refine pw_aload_n (z := 3) (pc := 30) dX5_takeNumber_30 rfl rfl ?_
      refine pw_getR (r := 1) (pc := 31) dX5_takeNumber_31 fX5_17 (hC 3 (by decide)) (show kd_ 3 = 15 by decide +kernel) rfl (by decide +kernel) ?_
      refine pw_gJ (x := 6) (pc := 34) dX5_takeNumber_34 fX5_114 (hC 1 (by decide)) (show kd_ 1 = 18 by decide +kernel) rfl rfl (fun r34 => ?_)
      refine pw_iload_n (z := hi) (pc := 37) dX5_takeNumber_37 rfl rfl ?_
      refine pw_i2l (pc := 38) dX5_takeNumber_38 (by first | omega) ?_
      refine pw_lcmp (pc := 39) dX5_takeNumber_39 (by first | omega) (by first | omega) ?_
      refine pw_if_le (t := 49) (pc := 40) dX5_takeNumber_40 (by decide) (by first | omega) (fun c40 => ?_) (fun c40 => ?_)
      · refine pw_aload_n (z := 3) (pc := 49) dX5_takeNumber_49 rfl rfl ?_
        refine pw_aload_n (z := 3) (pc := 50) dX5_takeNumber_50 rfl rfl ?_
        refine pw_getR (r := 1) (pc := 51) dX5_takeNumber_51 fX5_17 (hC 3 (by decide)) (show kd_ 3 = 15 by decide +kernel) rfl (by decide +kernel) ?_
        refine pw_gJ (x := 6) (pc := 54) dX5_takeNumber_54 fX5_114 (hC 1 (by decide)) (show kd_ 1 = 18 by decide +kernel) rfl rfl (fun r54 => ?_)
        refine pw_l2i (pc := 57) dX5_takeNumber_57 ?_
        refine pw_pI (x := 4) (pc := 58) dX5_takeNumber_58 fX5_118 (hC 3 (by decide)) (show kd_ 3 = 15 by decide +kernel) rfl rfl (by first | omega) ?_
        obtain ⟨g58, e58⟩ : ∃ x, x = up_ h 3 4 (h 1 6) := ⟨_, rfl⟩
        refine pw_heq e58 ?_
        refine pw_aload_n (z := 3) (pc := 61) dX5_takeNumber_61 rfl rfl ?_
        have Hg58 : CPO_ tp n g58 a := CPO_mv H (by rw [e58, up_off (by decide)]) (by rw [e58, up_off (by decide)]) (by rw [e58, up_at, if_neg (by decide)])
        have HBg58 := CPO_b Hg58
        refine pw_getR (r := 1) (pc := 62) dX5_takeNumber_62 fX5_17 (hC 3 (by decide)) (show kd_ 3 = 15 by decide +kernel) rfl (by decide +kernel) ?_
        refine pw_callV (c := 8) (o := 1) (As := []) (rest := []) (pc := 65) dX5_takeNumber_65 (d_step hC g58 tp n HBg58.2.2.2.2.2.1 (a + 1) HBg58.2.2.2.2.2.2.1) lX5_111 mX8_step vX8_step (hC 1 (by decide)) (show kd_ 1 = 18 by decide +kernel) rfl rfl rfl (by decide) ⟨Nat.zero_le _, Nat.zero_le _⟩ (Nat.le_of_ble_eq_true rfl) (k_v (fun h65 q65 => ?_))
        obtain ⟨f65, k65, p65⟩ := q65
        obtain ⟨H65, F65⟩ := CPO_st Hg58 f65 k65 p65
        refine pw_iconst (pc := 68) dX5_takeNumber_68 ?_
        exact pw_zret (pc := 69) dX5_takeNumber_69 (by first | omega) (⟨fr3_tr ⟨by rw [e58]; exact off_up off_rf (by decide), fun k k1 => by rw [e58, up_at, if_neg (by simp at k1; omega)], by rw [e58, up_off (by decide)]⟩ (fr3_mo F65 (by simp)), by unfold tkn_; rw [if_t t2, if_t (by rw [← v2]; have := lc_nl c27; have := lc_ng (by omega); omega)]; exact ⟨rfl, H65, by rw [f65 3 (by decide), e58, up_same]; exact v2⟩⟩)
      · refine pw_aload_n (z := 3) (pc := 43) dX5_takeNumber_43 rfl rfl ?_
        refine pw_iconst (pc := 44) dX5_takeNumber_44 ?_
        refine pw_callV (c := 5) (o := 3) (As := [ii_ 4]) (rest := []) (pc := 45) dX5_takeNumber_45 (d_wrong hC h tp n a H 4 (by first | omega)) lX5_70 mX5_wrong vX5_wrong (hC 3 (by decide)) (show kd_ 3 = 15 by decide +kernel) rfl rfl rfl (by decide) ⟨Nat.zero_le _, Nat.zero_le _⟩ (Nat.le_of_ble_eq_true rfl) (k_i (fun z45 h45 y45 q45 => ?_))
        obtain ⟨f45, x45, rfl⟩ := q45
        have fp45 := flt_p (tp := tp) (a := a) HB.1 (w := 4) (by omega)
        exact pw_zret (pc := 48) dX5_takeNumber_48 (by first | omega) (⟨fr3_mo f45 (by simp), by unfold tkn_; rw [if_t t2, if_f (by rw [← v2]; first | (have := lc_l c27; omega) | (have := lc_g (by omega); omega))]; exact ⟨rfl, x45, fp45.1⟩⟩)
  · refine pw_aload_n (z := 3) (pc := 11) dX5_takeNumber_11 rfl rfl ?_
    refine pw_iconst (pc := 12) dX5_takeNumber_12 ?_
    refine pw_callV (c := 5) (o := 3) (As := [ii_ 1]) (rest := []) (pc := 13) dX5_takeNumber_13 (d_wrong hC h tp n a H 1 (by first | omega)) lX5_70 mX5_wrong vX5_wrong (hC 3 (by decide)) (show kd_ 3 = 15 by decide +kernel) rfl rfl rfl (by decide) ⟨Nat.zero_le _, Nat.zero_le _⟩ (Nat.le_of_ble_eq_true rfl) (k_i (fun z13 h13 y13 q13 => ?_))
    obtain ⟨f13, x13, rfl⟩ := q13
    have fp13 := flt_p (tp := tp) (a := a) HB.1 (w := 1) (by omega)
    exact pw_zret (pc := 16) dX5_takeNumber_16 (by first | omega) (⟨fr3_mo f13 (by simp), by unfold tkn_; rw [if_f (fun u => c8 (kk.2.1.mpr u))]; exact ⟨rfl, x13, fp13.1⟩⟩)

set_option maxHeartbeats 4000000 in
set_option maxRecDepth 100000 in
theorem d_isName {G : GT_} (hC : okC_ G) (h : PH_) (tp : Int → Int) (n : Int) (a : Nat) (H : CPO_ tp n h a) : PC G yX5_isName cX5_isName 1 (some .boolean) 6 [rr_ G 3] h (qi_ (fun z h' => h = h' ∧ (z = 1 ∧ nam_ (tk_ tp n a) ∨ z = 0 ∧ ¬ nam_ (tk_ tp n a)))) := by
  have HB := CPO_b H
  have kk := ckd_k (tk_ tp n a).1
  rw [← HB.2.2.2.2.1.1] at kk
  have ib := ixn_b (t := tk_ tp n a) (wix_ 5) 0 (by decide)
  refine PC.of (lv := [some (rr_ G 3)]) (by decide +kernel) (Nat.le_of_ble_eq_true rfl) rfl rfl ?_
  refine pw_aload_n (z := 3) (pc := 0) dX5_isName_0 rfl rfl ?_
  refine pw_getR (r := 1) (pc := 1) dX5_isName_1 fX5_17 (hC 3 (by decide)) (show kd_ 3 = 15 by decide +kernel) rfl (by decide +kernel) ?_
  refine pw_gI (x := 3) (pc := 4) dX5_isName_4 fX5_34 (hC 1 (by decide)) (show kd_ 1 = 18 by decide +kernel) rfl rfl (fun r4 => ?_)
  refine pw_iconst (pc := 7) dX5_isName_7 ?_
  refine pw_icmp_ne (t := 28) (pc := 8) dX5_isName_8 (by decide) (by first | omega) (by first | omega) (fun c8 => ?_) (fun c8 => ?_)
  · refine pw_iconst (pc := 28) dX5_isName_28 ?_
    exact pw_zret (pc := 29) dX5_isName_29 (by first | omega) (⟨rfl, Or.inr ⟨rfl, fun u => by have u := nam_5.mp u; first | exact c8 (kk.1.mpr u.1) | omega⟩⟩)
  · refine pw_aload_n (z := 3) (pc := 11) dX5_isName_11 rfl rfl ?_
    refine pw_getR (r := 1) (pc := 12) dX5_isName_12 fX5_17 (hC 3 (by decide)) (show kd_ 3 = 15 by decide +kernel) rfl (by decide +kernel) ?_
    refine pw_ldcs 5 (pc := 15) dX5_isName_15 rfl ?_
    refine pw_callV (c := 8) (o := 1) (As := [rr_ G 3005]) (rest := []) (pc := 17) dX5_isName_17 (d_wordAmong hC h 5 (by decide) (by decide) (tk_ tp n a) HB.2.2.2.2.1 (CPO_lk H)) lX5_42 mX8_wordAmong vX8_wordAmong (hC 1 (by decide)) (show kd_ 1 = 18 by decide +kernel) rfl rfl rfl (by decide) ⟨Nat.zero_le _, Nat.zero_le _⟩ (Nat.le_of_ble_eq_true rfl) (k_i (fun z17 h17 y17 q17 => ?_))
    obtain ⟨rfl, w17⟩ := q17
    refine pw_iconst (pc := 20) dX5_isName_20 ?_
    refine pw_icmp_ne (t := 28) (pc := 21) dX5_isName_21 (by decide) (by first | omega) (by first | omega) (fun c21 => ?_) (fun c21 => ?_)
    · refine pw_iconst (pc := 28) dX5_isName_28 ?_
      exact pw_zret (pc := 29) dX5_isName_29 (by first | omega) (⟨rfl, Or.inr ⟨rfl, fun u => by have u := nam_5.mp u; first | exact c8 (kk.1.mpr u.1) | omega⟩⟩)
    · refine pw_iconst (pc := 24) dX5_isName_24 ?_
      refine pw_goto (t := 29) (pc := 25) dX5_isName_25 (by decide) ?_
      exact pw_zret (pc := 29) dX5_isName_29 (by first | omega) (⟨rfl, Or.inl ⟨rfl, nam_5.mpr ⟨kk.1.mp (by omega), by omega⟩⟩⟩)

