/-! ===== journeys and shares, as the class reads them ===== -/
def jlc_ (h : PH_) (t : Nat) (L : JL_) : Prop := ∀ j : Nat, j < L.length → h (t + 1) (j : Int) = (L.getD j (0, 0)).1 ∧ h (t + 2) (j : Int) = (L.getD j (0, 0)).2
theorem jlc_push {h h' : PH_} {t : Nat} {L : JL_} {a b : Int} (H : jlc_ h t L) (e1 : h' (t + 1) = ob_ (h (t + 1)) (L.length : Int) a) (e2 : h' (t + 2) = ob_ (h (t + 2)) (L.length : Int) b) : jlc_ h' t (L ++ [(a, b)]) := fun j hj => by
  rw [List.length_append] at hj
  have hj : j < L.length + 1 := hj
  rw [e1, e2]
  unfold ob_
  by_cases c : j = L.length
  · subst c
    rw [if_pos rfl, if_pos rfl]; simp [List.getD_eq_getElem?_getD]
  · rw [if_neg (by omega), if_neg (by omega), List.getD_eq_getElem?_getD, List.getElem?_append_left (by omega), ← List.getD_eq_getElem?_getD]
    exact H j (by omega)
theorem jlc_cg {h h' : PH_} {t : Nat} {L : JL_} (H : jlc_ h t L) (e1 : h' (t + 1) = h (t + 1)) (e2 : h' (t + 2) = h (t + 2)) : jlc_ h' t L := fun j hj => by rw [e1, e2]; exact H j hj
def JFR_ (t : Nat) : List Nat := [1, 3, t, t + 1, t + 2]
def JLR_ (tp : Int → Int) (n : Int) (o t : Nat) (nm : NM_) (S : Int) (L : JL_) (a : Nat) (z : Int) (h' : PH_) : Prop := (z = 1 ∧ ∃ q, jl1_ (tk_ tp n) nm S L.length a = .ok q ∧ isS_ (tk_ tp n q.2) 59 ∧ CPO_ tp n h' (q.2 + 1) ∧ (q.2 : Int) + 1 ≤ n ∧ h' 3 1 = (o : Int) ∧ h' t 2 = (L.length : Int) + 1 ∧ jlc_ h' t (L ++ [q.1])) ∨ (z = 0 ∧ ∃ e, (jl1_ (tk_ tp n) nm S L.length a = .error e ∨ ∃ q, jl1_ (tk_ tp n) nm S L.length a = .ok q ∧ tks2_ (tk_ tp n) 59 q.2 = .error e) ∧ h' 3 3 = e ∧ 0 < e)
theorem jl1_w {tk : Nat → TK_} {nm : NM_} {S n : Int} {a : Nat} (c1 : ¬ isW_ (tk a) 12) (c2 : ¬ isW_ (tk a) 13) : jl1_ tk nm S n a = .error (flt_ tk 1 a) := by
  unfold jl1_; rw [if_f c1]; exact bd_e (by unfold jck_; exact if_f (fun u => u.elim c1 c2))
theorem jl1_m {tk : Nat → TK_} {nm : NM_} {S n : Int} {a : Nat} (c : isW_ (tk a) 12 ∨ isW_ (tk a) 13) (hn : n = 20) : jl1_ tk nm S n a = .error (flt_ tk 5 a) := by
  have e : jck_ tk n a = .error (flt_ tk 5 a) := by unfold jck_; rw [if_t c, if_pos hn]
  unfold jl1_
  by_cases c1 : isW_ (tk a) 12
  · rw [if_t c1]; exact bd_e e
  · rw [if_f c1]; exact bd_e e
theorem jl1_s {tk : Nat → TK_} {nm : NM_} {S n : Int} {a : Nat} (c : isW_ (tk a) 12) (hn : n ≠ 20) : jl1_ tk nm S n a = bd_ (rdh_ tk nm (a + 1)) (fun r => bd_ (tkn_ tk 0 (S - 1) (a + 1 + 1)) (fun s => .ok ((r, s.1), s.2))) := by
  have e : jck_ tk n a = .ok (a + 1) := by unfold jck_; rw [if_t (Or.inl c), if_neg hn]
  unfold jl1_; rw [if_t c]; exact bd_o e
theorem jl1_d {tk : Nat → TK_} {nm : NM_} {S n : Int} {a : Nat} (c1 : ¬ isW_ (tk a) 12) (c : isW_ (tk a) 13) (hn : n ≠ 20) : jl1_ tk nm S n a = .ok ((-1, -1), a + 1) := by
  have e : jck_ tk n a = .ok (a + 1) := by unfold jck_; rw [if_t (Or.inr c), if_neg hn]
  unfold jl1_; rw [if_f c1]; exact bd_o e
theorem ixn_13 {t : TK_} {z : Int} (hz : z = ixn_ t (wix_ 13) 0) : (z = 0 ∧ isW_ t 12) ∨ (z = 1 ∧ ¬ isW_ t 12 ∧ isW_ t 13) ∨ (z = -1 ∧ ¬ isW_ t 12 ∧ ¬ isW_ t 13) := by
  have e : ixn_ t (wix_ 13) 0 = if_ (isW_ t 12) 0 (if_ (isW_ t 13) 1 (-1)) := rfl
  rw [e] at hz
  by_cases c1 : isW_ t 12
  · rw [if_t c1] at hz; exact Or.inl ⟨hz, c1⟩
  rw [if_f c1] at hz
  by_cases c2 : isW_ t 13
  · rw [if_t c2] at hz; exact Or.inr (Or.inl ⟨hz, c1, c2⟩)
  · rw [if_f c2] at hz; exact Or.inr (Or.inr ⟨hz, c1, c2⟩)
/-- between two lines of a journey -/
def RJS_ (tp : Int → Int) (n : Int) (o t : Nat) (nm : NM_) (S : Int) (i g : Int) (h : PH_) : Prop := (g = 1 ∧ ∃ (L : JL_) (a fu : Nat), jou_ (tk_ tp n) nm S = jlp_ (tk_ tp n) nm S fu L a ∧ CPO_ tp n h a ∧ h 3 1 = (o : Int) ∧ h t 2 = (L.length : Int) ∧ L.length ≤ 20 ∧ jlc_ h t L ∧ (L.length : Int) = i ∧ (fu : Int) + i = 1001) ∨ (g = 0 ∧ ∃ e, jou_ (tk_ tp n) nm S = .error e ∧ h 3 3 = e ∧ 0 < e)
theorem RJS_01 {tp : Int → Int} {n : Int} {o t : Nat} {nm : NM_} {S i g : Int} {h : PH_} (H : RJS_ tp n o t nm S i g h) : g = 0 ∨ g = 1 := by rcases H with H | H; exact Or.inr H.1; exact Or.inl H.1
theorem RJS_go {tp : Int → Int} {n : Int} {o t : Nat} {nm : NM_} {S i z : Int} {L : JL_} {a fu : Nat} {h' : PH_} (e0 : jou_ (tk_ tp n) nm S = jlp_ (tk_ tp n) nm S fu L a) (hn : (tk_ tp n a).1 ≠ 0) (hf : (fu : Int) + i = 1001) (hL : L.length ≤ 20) (hi : (L.length : Int) = i) (R : JLR_ tp n o t nm S L a z h') : RJS_ tp n o t nm S (i + 1) z h' := by
  obtain ⟨f1, rfl⟩ : ∃ f1, fu = f1 + 1 := ⟨fu - 1, by omega⟩
  rw [jlp_s hn] at e0
  rcases R with ⟨rfl, q, q1, s, k, b, l, c, d⟩ | ⟨rfl, e, x1, x2⟩
  · rw [bd_o q1] at e0
    have e1 : jou_ (tk_ tp n) nm S = bd_ (tks2_ (tk_ tp n) 59 q.2) (fun b => jlp_ (tk_ tp n) nm S f1 (L ++ [q.1]) b) := e0
    rw [bd_o (show tks2_ (tk_ tp n) 59 q.2 = .ok (q.2 + 1) by unfold tks2_; exact if_t s)] at e1
    have n20 := (jl1_o q1).2.1
    have ll : (L ++ [q.1]).length = L.length + 1 := by rw [List.length_append]; rfl
    exact Or.inl ⟨rfl, L ++ [q.1], q.2 + 1, f1, e1, k, l, by rw [ll, c]; rfl, by omega, d, by omega, by omega⟩
  · refine Or.inr ⟨rfl, e, ?_, x2⟩
    rcases x1 with x1 | ⟨q, q1, y⟩
    · rw [e0]; exact bd_e x1
    · rw [bd_o q1] at e0
      have e1 : jou_ (tk_ tp n) nm S = bd_ (tks2_ (tk_ tp n) 59 q.2) (fun b => jlp_ (tk_ tp n) nm S f1 (L ++ [q.1]) b) := e0
      rw [e1]; exact bd_e y
/-- shares -/
def smb_ (h : PH_) : Prop := ∀ k, 0 ≤ k → k < 16 → 0 ≤ h 150 k ∧ h 150 k ≤ 99
def SRR_ (tp : Int → Int) (n : Int) (o : Nat) (S r : Int) (f : Int → Int) (a : Nat) (z : Int) (h' : PH_) : Prop := (z = 1 ∧ ∃ q, srw_ (tk_ tp n) S r a f = .ok q ∧ CPO_ tp n h' q.2 ∧ h' 3 1 = (o : Int) ∧ shA_ (h' 150) q.1 S (r + 1) 0) ∨ (z = 0 ∧ ∃ e, srw_ (tk_ tp n) S r a f = .error e ∧ h' 3 3 = e ∧ 0 < e)
theorem shA_n {g f : Int → Int} {S r s : Int} (H : shA_ g f S r s) (hs : S ≤ s) : shA_ g f S (r + 1) 0 := fun i j i0 j0 j1 h => H i j i0 j0 j1 (by omega)
def RSS_ (tp : Int → Int) (n : Int) (o : Nat) (S R : Int) (i g : Int) (h : PH_) : Prop := (g = 1 ∧ ∃ (f : Int → Int) (a : Nat), srl_ (tk_ tp n) S R.toNat 0 0 (fun _ => 0) = srl_ (tk_ tp n) S (R - i).toNat i a f ∧ CPO_ tp n h a ∧ h 3 1 = (o : Int) ∧ shA_ (h 150) f S i 0) ∨ (g = 0 ∧ ∃ e, shr_ (tk_ tp n) S R = .error e ∧ h 3 3 = e ∧ 0 < e)
theorem RSS_01 {tp : Int → Int} {n : Int} {o : Nat} {S R i g : Int} {h : PH_} (H : RSS_ tp n o S R i g h) : g = 0 ∨ g = 1 := by rcases H with H | H; exact Or.inr H.1; exact Or.inl H.1
theorem RSS_go {tp : Int → Int} {n : Int} {o : Nat} {S R i z : Int} {f : Int → Int} {a : Nat} {h' : PH_} (e0 : srl_ (tk_ tp n) S R.toNat 0 0 (fun _ => 0) = srl_ (tk_ tp n) S (R - i).toNat i a f) (hi : i < R) (X : SRR_ tp n o S i f a z h') : RSS_ tp n o S R (i + 1) z h' := by
  rw [show (R - i).toNat = (R - (i + 1)).toNat + 1 by omega] at e0
  have e1 : srl_ (tk_ tp n) S R.toNat 0 0 (fun _ => 0) = bd_ (srw_ (tk_ tp n) S i a f) (fun q => srl_ (tk_ tp n) S (R - (i + 1)).toNat (i + 1) q.2 q.1) := e0
  rcases X with ⟨rfl, q, q1, k, l, s⟩ | ⟨rfl, e, x1, x2⟩
  · rw [bd_o q1] at e1
    exact Or.inl ⟨rfl, q.1, q.2, e1, k, l, s⟩
  · rw [bd_e x1] at e1
    exact Or.inr ⟨rfl, e, by unfold shr_; exact bd_e e1, x2⟩

set_option maxHeartbeats 4000000 in
set_option maxRecDepth 100000 in
theorem d_journeyLine {G : GT_} (hC : okC_ G) (h : PH_) (tp : Int → Int) (n : Int) (o : Nat) (ho : is6_ o) (a : Nat) (H : CPO_ tp n h a) (hland : h 3 1 = (o : Int)) (t : Nat) (ho_t : is10_ t) (Z : ZT_) (NM : CNM_ Z.2.1 (h (o + 2)) (Z.1 2) (Z.1 3)) (RR : h o 2 = Z.1 2 ∧ 0 ≤ Z.1 2 ∧ Z.1 2 ≤ 4) (hS : h o 0 = Z.1 0 ∧ 2 ≤ Z.1 0 ∧ Z.1 0 ≤ 4) (L : JL_) (hL : h t 2 = (L.length : Int) ∧ L.length ≤ 20) (hJ : jlc_ h t L) : PC G yX5_journeyLine cX5_journeyLine 4 (some .boolean) 8 [rr_ G 3, rr_ G t] h (qi_ (fun z h' => off_ (JFR_ t) h h' ∧ JLR_ tp n o t Z.2.1 (Z.1 0) L a z h')) := by
  have HB := CPO_b H
  have hl_h := hland
  have e0 := hS.1
  refine PC.of (lv := [some (rr_ G 3), some (rr_ G t), none, none]) (by decide +kernel) (Nat.le_of_ble_eq_true rfl) rfl rfl ?_
  refine pw_aload_n (z := 3) (pc := 0) dX5_journeyLine_0 rfl rfl ?_
  refine pw_getR (r := 1) (pc := 1) dX5_journeyLine_1 fX5_17 (hC 3 (by decide)) (show kd_ 3 = 15 by decide +kernel) rfl (by decide +kernel) ?_
  refine pw_ldcs 13 (pc := 4) dX5_journeyLine_4 rfl ?_
  refine pw_callV (c := 8) (o := 1) (As := [rr_ G 3013]) (rest := []) (pc := 6) dX5_journeyLine_6 (d_wordAmong hC h 13 (by decide) (by decide) (tk_ tp n a) HB.2.2.2.2.1 (CPO_lk H)) lX5_42 mX8_wordAmong vX8_wordAmong (hC 1 (by decide)) (show kd_ 1 = 18 by decide +kernel) rfl rfl rfl (by decide) ⟨Nat.zero_le _, Nat.zero_le _⟩ (Nat.le_of_ble_eq_true rfl) (k_i (fun z6 h6 y6 q6 => ?_))
  obtain ⟨rfl, w6⟩ := q6
  refine pw_istore_n (lv1 := [some (rr_ G 3), some (rr_ G t), some (ii_ z6), none]) (pc := 9) dX5_journeyLine_9 rfl (by decide) rfl rfl ?_
  have wi := ixn_13 w6
  refine pw_iload_n (z := z6) (pc := 10) dX5_journeyLine_10 rfl rfl ?_
  refine pw_iconst (pc := 11) dX5_journeyLine_11 ?_
  refine pw_icmp_ne (t := 21) (pc := 12) dX5_journeyLine_12 (by decide) (by first | omega) (by first | omega) (fun c12 => ?_) (fun c12 => ?_)
  · refine pw_aload_n (z := t) (pc := 21) dX5_journeyLine_21 rfl rfl ?_
    refine pw_gI (x := 2) (pc := 22) dX5_journeyLine_22 fX5_78 (hC _ (by omega)) (kd10_0 ho_t) rfl rfl (fun r22 => ?_)
    refine pw_istore_n (lv1 := [some (rr_ G 3), some (rr_ G t), some (ii_ z6), some (ii_ (h t 2))]) (pc := 25) dX5_journeyLine_25 rfl (by decide) rfl rfl ?_
    refine pw_iload_n (z := h t 2) (pc := 26) dX5_journeyLine_26 rfl rfl ?_
    refine pw_bipush (pc := 27) dX5_journeyLine_27 rfl ?_
    refine pw_icmp_lt (t := 38) (pc := 29) dX5_journeyLine_29 (by decide) (by first | omega) (by first | omega) (fun c29 => ?_) (fun c29 => ?_)
    · have nl : (L.length : Int) ≠ 20 := by omega
      have an : (tk_ tp n a).1 ≠ 0 := fun u => by have k : (tk_ tp n a).1 = 1 := (by rcases wi with x | x | x; exact x.2.1; exact x.2.2.1; exact absurd x.1 c12); omega
      refine pw_aload_n (z := 3) (pc := 38) dX5_journeyLine_38 rfl rfl ?_
      refine pw_getR (r := 1) (pc := 39) dX5_journeyLine_39 fX5_17 (hC 3 (by decide)) (show kd_ 3 = 15 by decide +kernel) rfl (by decide +kernel) ?_
      refine pw_callV (c := 8) (o := 1) (As := []) (rest := []) (pc := 42) dX5_journeyLine_42 (d_step hC h tp n HB.2.2.2.2.2.1 (a + 1) HB.2.2.2.2.2.2.1) lX5_111 mX8_step vX8_step (hC 1 (by decide)) (show kd_ 1 = 18 by decide +kernel) rfl rfl rfl (by decide) ⟨Nat.zero_le _, Nat.zero_le _⟩ (Nat.le_of_ble_eq_true rfl) (k_v (fun h42 q42 => ?_))
      obtain ⟨f42, k42, p42⟩ := q42
      obtain ⟨H42, F42⟩ := CPO_st H f42 k42 p42
      have hl_h42 : h42 3 1 = (o : Int) := by rw [F42.2.1 1 (by simp)]; exact hland
      have N42 : LNF_ o h h42 := LNF_3 F42 (by simp)
      refine pw_aload_n (z := t) (pc := 45) dX5_journeyLine_45 rfl rfl ?_
      refine pw_getR (r := (t + 1)) (pc := 46) dX5_journeyLine_46 fX5_221 (hC _ (by omega)) (kd10_0 ho_t) rfl rfl ?_
      refine pw_iload_n (z := h t 2) (pc := 49) dX5_journeyLine_49 rfl rfl ?_
      refine pw_iconst (pc := 50) dX5_journeyLine_50 ?_
      refine pw_iast (pc := 51) dX5_journeyLine_51 (hC _ (by omega)) (kd10_1 ho_t) 20 (ln10_1 ho_t) (by first | omega) (by first | omega) (by first | omega) (by first | omega) ?_
      obtain ⟨g51, e51⟩ : ∃ x, x = up_ h42 (t + 1) (h t 2) (-1) := ⟨_, rfl⟩
      refine pw_heq e51 ?_
      refine pw_aload_n (z := t) (pc := 52) dX5_journeyLine_52 rfl rfl ?_
      refine pw_getR (r := (t + 2)) (pc := 53) dX5_journeyLine_53 fX5_223 (hC _ (by omega)) (kd10_0 ho_t) rfl rfl ?_
      refine pw_iload_n (z := h t 2) (pc := 56) dX5_journeyLine_56 rfl rfl ?_
      refine pw_iconst (pc := 57) dX5_journeyLine_57 ?_
      refine pw_iast (pc := 58) dX5_journeyLine_58 (hC _ (by omega)) (kd10_2 ho_t) 20 (ln10_2 ho_t) (by first | omega) (by first | omega) (by first | omega) (by first | omega) ?_
      obtain ⟨g58, e58⟩ : ∃ x, x = up_ g51 (t + 2) (h t 2) (-1) := ⟨_, rfl⟩
      refine pw_heq e58 ?_
      have G1 : g58 (t + 1) = ob_ (h (t + 1)) (L.length : Int) (-1) := by rw [e58, up_off (by omega), e51, up_ob, f42 (t + 1) (by simp; omega), hL.1]
      have G2 : g58 (t + 2) = ob_ (h (t + 2)) (L.length : Int) (-1) := by rw [e58, up_ob, e51, up_off (by omega), f42 (t + 2) (by simp), hL.1]
      have J58 : off_ (JFR_ t) h g58 := off_tr (off_mo f42 (by simp [JFR_])) (by rw [e58, e51]; exact off_up (off_up off_rf (by simp [JFR_])) (by simp [JFR_]))
      have H58 : CPO_ tp n g58 (a + 1) := CPO_mv H42 (by rw [e58, up_off (by omega), e51, up_off (by omega)]) (by rw [e58, up_off (by omega), e51, up_off (by omega)]) (by rw [e58, up_off (by omega), e51, up_off (by omega)])
      have hl_g58 : g58 3 1 = (o : Int) := by rw [e58, up_off (by omega), e51, up_off (by omega)]; exact hl_h42
      have NM58 : CNM_ Z.2.1 (g58 (o + 2)) (Z.1 2) (Z.1 3) := by rw [J58 (o + 2) (by simp [JFR_]; omega)]; exact NM
      have RR58 : g58 o 2 = Z.1 2 ∧ 0 ≤ Z.1 2 ∧ Z.1 2 ≤ 4 := by rw [J58 o (by simp [JFR_]; omega)]; exact RR
      refine pw_iload_n (z := z6) (pc := 59) dX5_journeyLine_59 rfl rfl ?_
      refine pw_if_ne (t := 109) (pc := 60) dX5_journeyLine_60 (by decide) (by first | omega) (fun c60 => ?_) (fun c60 => ?_)
      · obtain ⟨q, XL, HQ, JC, JF, JH⟩ : ∃ q, jl1_ (tk_ tp n) Z.2.1 (Z.1 0) L.length a = .ok q ∧ CPO_ tp n g58 q.2 ∧ jlc_ g58 t (L ++ [q.1]) ∧ off_ (JFR_ t) h g58 ∧ g58 3 1 = (o : Int) := ⟨((-1, -1), a + 1), jl1_d (by rcases wi with x | x | x; exact absurd x.1 c60; exact x.2.1; exact x.2.1) (by rcases wi with x | x | x; exact absurd x.1 c60; exact x.2.2; exact absurd x.1 c12) nl, H58, jlc_push hJ G1 G2, J58, hl_g58⟩
        refine pw_aload_n (z := t) (pc := 109) dX5_journeyLine_109 rfl rfl ?_
        refine pw_dup (pc := 110) dX5_journeyLine_110 rfl ?_
        refine pw_gI (x := 2) (pc := 111) dX5_journeyLine_111 fX5_78 (hC _ (by omega)) (kd10_0 ho_t) rfl rfl (fun r111 => ?_)
        have n_g58_t_2 : g58 t 2 = h t 2 := (((show g58 t 2 = g51 t 2 from (by rw [e58, up_off (by first | decide | omega)])).trans (show g51 t 2 = h42 t 2 from (by rw [e51, up_off (by first | decide | omega)]))).trans (show h42 t 2 = h t 2 from (congrFun (f42 t (by first | decide | (simp; done) | (simp; omega))) 2)))
        rw [n_g58_t_2] at r111 ⊢
        refine pw_iconst (pc := 114) dX5_journeyLine_114 ?_
        refine pw_iadd (pc := 115) dX5_journeyLine_115 ?_
        refine pw_pI (x := 2) (pc := 116) dX5_journeyLine_116 fX5_78 (hC _ (by omega)) (kd10_0 ho_t) rfl rfl (by first | omega | (simp only [n_g58_t_2]; omega)) ?_
        obtain ⟨g116, e116⟩ : ∃ x, x = up_ g58 t 2 ((h t 2) + 1) := ⟨_, rfl⟩
        refine pw_heq e116 ?_
        have Hg116 : CPO_ tp n g116 q.2 := CPO_mv HQ (by rw [e116, up_off (by omega)]) (by rw [e116, up_off (by omega)]) (by rw [e116, up_off (by omega)])
        refine pw_aload_n (z := 3) (pc := 119) dX5_journeyLine_119 rfl rfl ?_
        refine pw_bipush (pc := 120) dX5_journeyLine_120 rfl ?_
        refine pw_callV (c := 5) (o := 3) (As := [ii_ 59]) (rest := []) (pc := 122) dX5_journeyLine_122 (d_takeSign hC g116 tp n (q.2) Hg116 59 (by first | omega | (simp only [n_g58_t_2]; omega))) lX5_154 mX5_takeSign vX5_takeSign (hC 3 (by decide)) (show kd_ 3 = 15 by decide +kernel) rfl rfl rfl (by decide) ⟨Nat.zero_le _, Nat.zero_le _⟩ (Nat.le_of_ble_eq_true rfl) (k_i (fun z122 h122 y122 q122 => ?_))
        replace q122 := And.intro q122.1 (CPR_w q122.2)
        obtain ⟨f122, x122⟩ := q122
        have z01 : z122 = 0 ∨ z122 = 1 := by rcases x122 with x | x <;> omega
        exact pw_zret (pc := 125) dX5_journeyLine_125 (by first | omega | (simp only [n_g58_t_2]; omega)) (by
                  refine ⟨off_tr (off_tr JF (by rw [e116]; exact off_up off_rf (by simp [JFR_]))) (off_mo f122.1 (by simp [JFR_])), ?_⟩
                  rcases x122 with ⟨rfl, b, b1, b2⟩ | ⟨rfl, e, x1, x2⟩
                  · obtain ⟨rfl, s⟩ := tks2_o b1
                    have bn := tk_lt HB.1.1 (show (tk_ tp n q.2).1 ≠ 0 from fun u => absurd (s.1.symm.trans u) (by decide))
                    exact Or.inl ⟨rfl, q, XL, s, b2, by omega, by rw [f122.2.1 1 (by simp), e116, up_off (by omega)]; exact JH, by rw [f122.1 t (by simp; omega), e116, up_same, hL.1], jlc_cg JC (by rw [f122.1 (t + 1) (by simp; omega), e116, up_off (by omega)]) (by rw [f122.1 (t + 2) (by simp; omega), e116, up_off (by omega)])⟩
                  · exact Or.inr ⟨rfl, e, Or.inr ⟨q, XL, x1⟩, x2⟩)
      · refine pw_aload_n (z := 3) (pc := 63) dX5_journeyLine_63 rfl rfl ?_
        refine pw_callV (c := 5) (o := 3) (As := []) (rest := []) (pc := 64) dX5_journeyLine_64 (d_takeRider hC g58 tp n o ho (a + 1) H58 hl_g58 Z.2.1 (Z.1 2) (Z.1 3) NM58 RR58) lX5_183 mX5_takeRider vX5_takeRider (hC 3 (by decide)) (show kd_ 3 = 15 by decide +kernel) rfl rfl rfl (by decide) ⟨Nat.zero_le _, Nat.zero_le _⟩ (Nat.le_of_ble_eq_true rfl) (k_i (fun z64 h64 y64 q64 => ?_))
        replace q64 := (⟨q64.1, CPK_d q64.2⟩ : _ ∧ _)
        obtain ⟨f64, ⟨rfl, p64⟩ | ⟨rfl, p64⟩⟩ := q64
        · have J64 : off_ (JFR_ t) h h64 := off_tr J58 (off_mo f64.1 (by simp [JFR_]))
          obtain ⟨⟨u64, b64⟩, t64, H64, n64⟩ := p64
          have H64 : CPO_ tp n h64 b64 := H64
          have n64 : h64 3 5 = u64 := n64
          obtain ⟨w64, r64, k64⟩ := bd_ok t64
          have k64 : (Except.ok (w64, a + 1 + 1) : RE_ (Int × Nat)) = .ok (u64, b64) := k64
          obtain ⟨rfl, rfl⟩ : w64 = u64 ∧ a + 1 + 1 = b64 := by injection k64 with k64; injection k64 with k1 k2; exact ⟨k1, k2⟩
          obtain ⟨ub64, un64, uf64⟩ := rdh_o r64
          have hl_h64 : h64 3 1 = (o : Int) := by rw [f64.2.1 1 (by simp)]; exact hl_g58
          have bn64 := tk_lt HB.1.1 (show (tk_ tp n (a + 1)).1 ≠ 0 by rw [un64.1]; decide)
          have NM64 : CNM_ Z.2.1 (h64 (o + 2)) (Z.1 2) (Z.1 3) := by rw [f64.1 (o + 2) (by simp; omega)]; exact NM58
          have RR64 : h64 o 2 = Z.1 2 ∧ 0 ≤ Z.1 2 ∧ Z.1 2 ≤ 4 := by rw [f64.1 o (by simp; omega)]; exact RR58
          have n64 : h64 3 5 = w64 := n64
          have p64 := t64
          refine pw_if_eq (t := 87) (pc := 67) dX5_journeyLine_67 (by decide) (by first | omega) (fun c67 => absurd c67 (by decide)) (fun _ => ?_)
          refine pw_aload_n (z := 3) (pc := 70) dX5_journeyLine_70 rfl rfl ?_
          refine pw_iconst (pc := 71) dX5_journeyLine_71 ?_
          refine pw_aload_n (z := 3) (pc := 72) dX5_journeyLine_72 rfl rfl ?_
          refine pw_gD (x := 1) (r := o) (pc := 73) dX5_journeyLine_73 fX5_94 (hC 3 (by decide)) (show kd_ 3 = 15 by decide +kernel) rfl rfl hl_h64 ?_
          refine pw_gI (x := 0) (pc := 76) dX5_journeyLine_76 fX5_151 (hC _ (by omega)) (kd6_0 ho) rfl rfl (fun r76 => ?_)
          have n_h64_o_0 : h64 o 0 = h o 0 := ((((show h64 o 0 = g58 o 0 from (congrFun (f64.1 o (by first | decide | (simp; done) | (simp; omega))) 0)).trans (show g58 o 0 = g51 o 0 from (by rw [e58, up_off (by first | decide | omega)]))).trans (show g51 o 0 = h42 o 0 from (by rw [e51, up_off (by first | decide | omega)]))).trans (show h42 o 0 = h o 0 from (congrFun (f42 o (by first | decide | (simp; done) | (simp; omega))) 0)))
          rw [n_h64_o_0] at r76 ⊢
          refine pw_iconst (pc := 79) dX5_journeyLine_79 ?_
          refine pw_isub (pc := 80) dX5_journeyLine_80 ?_
          refine pw_callV (c := 5) (o := 3) (As := [ii_ 0, ii_ ((h o 0) - 1)]) (rest := []) (pc := 81) dX5_journeyLine_81 (d_takeNum hC h64 tp n (a + 1 + 1) H64 0 ((h o 0) - 1) (by first | omega | (simp only [n_h64_o_0]; omega)) (by first | omega | (simp only [n_h64_o_0]; omega))) lX5_147 mX5_takeNumber vX5_takeNumber (hC 3 (by decide)) (show kd_ 3 = 15 by decide +kernel) rfl rfl rfl (by decide) ⟨Nat.zero_le _, Nat.zero_le _⟩ (Nat.le_of_ble_eq_true rfl) (k_i (fun z81 h81 y81 q81 => ?_))
          replace q81 := (⟨q81.1, CPN_d q81.2⟩ : _ ∧ _)
          obtain ⟨f81, ⟨rfl, p81⟩ | ⟨rfl, p81⟩⟩ := q81
          · rw [e0] at p81
            have J81 : off_ (JFR_ t) h h81 := off_tr J64 (off_mo f81.1 (by simp [JFR_]))
            obtain ⟨⟨s81, b81⟩, t81, H81, n81⟩ := p81
            have H81 : CPO_ tp n h81 b81 := H81
            have n81 : h81 3 4 = s81 := n81
            obtain ⟨sb81, be81, te81⟩ := tkn_o t81
            have sb81 : 0 ≤ s81 ∧ s81 ≤ Z.1 0 - 1 := sb81
            have be81 : b81 = a + 1 + 1 + 1 := be81
            have hl_h81 : h81 3 1 = (o : Int) := by rw [f81.2.1 1 (by simp)]; exact hl_h64
            have bn81 := tk_lt HB.1.1 (show (tk_ tp n (a + 1 + 1)).1 ≠ 0 by rw [te81]; decide)
            have p81 := t81
            subst be81
            simp -failIfUnchanged only [n_h64_o_0] at p81
            refine pw_if_ne (t := 89) (pc := 84) dX5_journeyLine_84 (by decide) (by first | omega | (simp only [n_h64_o_0]; omega)) (fun _ => ?_) (fun c84 => absurd c84 (by decide))
            have n65 : h81 3 5 = w64 := by rw [f81.2.1 5 (by simp)]; exact n64
            refine pw_aload_n (z := t) (pc := 89) dX5_journeyLine_89 rfl rfl ?_
            refine pw_getR (r := (t + 1)) (pc := 90) dX5_journeyLine_90 fX5_221 (hC _ (by omega)) (kd10_0 ho_t) rfl rfl ?_
            refine pw_iload_n (z := h t 2) (pc := 93) dX5_journeyLine_93 rfl rfl ?_
            refine pw_aload_n (z := 3) (pc := 94) dX5_journeyLine_94 rfl rfl ?_
            refine pw_gI (x := 5) (pc := 95) dX5_journeyLine_95 fX5_138 (hC 3 (by decide)) (show kd_ 3 = 15 by decide +kernel) rfl rfl (fun r95 => ?_)
            rw [n65]
            refine pw_iast (pc := 98) dX5_journeyLine_98 (hC _ (by omega)) (kd10_1 ho_t) 20 (ln10_1 ho_t) (by first | omega | (simp only [n_h64_o_0]; omega)) (by first | omega | (simp only [n_h64_o_0]; omega)) (by first | omega | (simp only [n_h64_o_0]; omega)) (by first | omega | (simp only [n_h64_o_0]; omega)) ?_
            obtain ⟨g98, e98⟩ : ∃ x, x = up_ h81 (t + 1) (h t 2) w64 := ⟨_, rfl⟩
            refine pw_heq e98 ?_
            refine pw_aload_n (z := t) (pc := 99) dX5_journeyLine_99 rfl rfl ?_
            refine pw_getR (r := (t + 2)) (pc := 100) dX5_journeyLine_100 fX5_223 (hC _ (by omega)) (kd10_0 ho_t) rfl rfl ?_
            refine pw_iload_n (z := h t 2) (pc := 103) dX5_journeyLine_103 rfl rfl ?_
            refine pw_aload_n (z := 3) (pc := 104) dX5_journeyLine_104 rfl rfl ?_
            refine pw_gI (x := 4) (pc := 105) dX5_journeyLine_105 fX5_118 (hC 3 (by decide)) (show kd_ 3 = 15 by decide +kernel) rfl rfl (fun r105 => ?_)
            have n_g98_3_4 : g98 3 4 = h81 3 4 := (by rw [e98, up_off (by first | decide | omega)])
            rw [n_g98_3_4] at r105 ⊢
            rw [n81]
            refine pw_iast (pc := 108) dX5_journeyLine_108 (hC _ (by omega)) (kd10_2 ho_t) 20 (ln10_2 ho_t) (by first | omega | (simp only [n_g98_3_4, n_h64_o_0]; omega)) (by first | omega | (simp only [n_g98_3_4, n_h64_o_0]; omega)) (by first | omega | (simp only [n_g98_3_4, n_h64_o_0]; omega)) (by first | omega | (simp only [n_g98_3_4, n_h64_o_0]; omega)) ?_
            obtain ⟨g108, e108⟩ : ∃ x, x = up_ g98 (t + 2) (h t 2) s81 := ⟨_, rfl⟩
            refine pw_heq e108 ?_
            obtain ⟨q, XL, HQ, JC, JF, JH⟩ : ∃ q, jl1_ (tk_ tp n) Z.2.1 (Z.1 0) L.length a = .ok q ∧ CPO_ tp n g108 q.2 ∧ jlc_ g108 t (L ++ [q.1]) ∧ off_ (JFR_ t) h g108 ∧ g108 3 1 = (o : Int) := ⟨((w64, s81), a + 1 + 1 + 1), (jl1_s (by rcases wi with x | x | x; exact x.2; exact absurd (x.1.symm.trans c60) (by decide); exact absurd x.1 c12) nl).trans ((bd_o r64).trans (bd_o t81)), CPO_mv H81 (by rw [e108, up_off (by omega), e98, up_off (by omega)]) (by rw [e108, up_off (by omega), e98, up_off (by omega)]) (by rw [e108, up_off (by omega), e98, up_off (by omega)]), jlc_push (h := h) hJ (by
              rw [e108, up_off (by omega), e98, up_ob, f81.1 (t + 1) (by simp; omega), f64.1 (t + 1) (by simp; omega), G1, hL.1]; funext x; unfold ob_; split <;> rfl) (by
              rw [e108, up_ob, e98, up_off (by omega), f81.1 (t + 2) (by simp; omega), f64.1 (t + 2) (by simp; omega), G2, hL.1]; funext x; unfold ob_; split <;> rfl), off_tr J81 (by rw [e108, e98]; exact off_up (off_up off_rf (by simp [JFR_])) (by simp [JFR_])), by rw [e108, up_off (by omega), e98, up_off (by omega)]; exact hl_h81⟩
            refine pw_aload_n (z := t) (pc := 109) dX5_journeyLine_109 rfl rfl ?_
            refine pw_dup (pc := 110) dX5_journeyLine_110 rfl ?_
            refine pw_gI (x := 2) (pc := 111) dX5_journeyLine_111 fX5_78 (hC _ (by omega)) (kd10_0 ho_t) rfl rfl (fun r111 => ?_)
            have n_g108_t_2 : g108 t 2 = h t 2 := (((((((show g108 t 2 = g98 t 2 from (by rw [e108, up_off (by first | decide | omega)])).trans (show g98 t 2 = h81 t 2 from (by rw [e98, up_off (by first | decide | omega)]))).trans (show h81 t 2 = h64 t 2 from (congrFun (f81.1 t (by first | decide | (simp; done) | (simp; omega))) 2))).trans (show h64 t 2 = g58 t 2 from (congrFun (f64.1 t (by first | decide | (simp; done) | (simp; omega))) 2))).trans (show g58 t 2 = g51 t 2 from (by rw [e58, up_off (by first | decide | omega)]))).trans (show g51 t 2 = h42 t 2 from (by rw [e51, up_off (by first | decide | omega)]))).trans (show h42 t 2 = h t 2 from (congrFun (f42 t (by first | decide | (simp; done) | (simp; omega))) 2)))
            rw [n_g108_t_2] at r111 ⊢
            refine pw_iconst (pc := 114) dX5_journeyLine_114 ?_
            refine pw_iadd (pc := 115) dX5_journeyLine_115 ?_
            refine pw_pI (x := 2) (pc := 116) dX5_journeyLine_116 fX5_78 (hC _ (by omega)) (kd10_0 ho_t) rfl rfl (by first | omega | (simp only [n_g108_t_2, n_g98_3_4, n_h64_o_0]; omega)) ?_
            obtain ⟨g116, e116⟩ : ∃ x, x = up_ g108 t 2 ((h t 2) + 1) := ⟨_, rfl⟩
            refine pw_heq e116 ?_
            have Hg116 : CPO_ tp n g116 q.2 := CPO_mv HQ (by rw [e116, up_off (by omega)]) (by rw [e116, up_off (by omega)]) (by rw [e116, up_off (by omega)])
            refine pw_aload_n (z := 3) (pc := 119) dX5_journeyLine_119 rfl rfl ?_
            refine pw_bipush (pc := 120) dX5_journeyLine_120 rfl ?_
            refine pw_callV (c := 5) (o := 3) (As := [ii_ 59]) (rest := []) (pc := 122) dX5_journeyLine_122 (d_takeSign hC g116 tp n (q.2) Hg116 59 (by first | omega | (simp only [n_g108_t_2, n_g98_3_4, n_h64_o_0]; omega))) lX5_154 mX5_takeSign vX5_takeSign (hC 3 (by decide)) (show kd_ 3 = 15 by decide +kernel) rfl rfl rfl (by decide) ⟨Nat.zero_le _, Nat.zero_le _⟩ (Nat.le_of_ble_eq_true rfl) (k_i (fun z122 h122 y122 q122 => ?_))
            replace q122 := And.intro q122.1 (CPR_w q122.2)
            obtain ⟨f122, x122⟩ := q122
            have z01 : z122 = 0 ∨ z122 = 1 := by rcases x122 with x | x <;> omega
            exact pw_zret (pc := 125) dX5_journeyLine_125 (by first | omega | (simp only [n_g108_t_2, n_g98_3_4, n_h64_o_0]; omega)) (by
                      refine ⟨off_tr (off_tr JF (by rw [e116]; exact off_up off_rf (by simp [JFR_]))) (off_mo f122.1 (by simp [JFR_])), ?_⟩
                      rcases x122 with ⟨rfl, b, b1, b2⟩ | ⟨rfl, e, x1, x2⟩
                      · obtain ⟨rfl, s⟩ := tks2_o b1
                        have bn := tk_lt HB.1.1 (show (tk_ tp n q.2).1 ≠ 0 from fun u => absurd (s.1.symm.trans u) (by decide))
                        exact Or.inl ⟨rfl, q, XL, s, b2, by omega, by rw [f122.2.1 1 (by simp), e116, up_off (by omega)]; exact JH, by rw [f122.1 t (by simp; omega), e116, up_same, hL.1], jlc_cg JC (by rw [f122.1 (t + 1) (by simp; omega), e116, up_off (by omega)]) (by rw [f122.1 (t + 2) (by simp; omega), e116, up_off (by omega)])⟩
                      · exact Or.inr ⟨rfl, e, Or.inr ⟨q, XL, x1⟩, x2⟩)
          · rw [e0] at p81
            have J81 : off_ (JFR_ t) h h81 := off_tr J64 (off_mo f81.1 (by simp [JFR_]))
            simp -failIfUnchanged only [n_h64_o_0] at p81
            refine pw_if_ne (t := 89) (pc := 84) dX5_journeyLine_84 (by decide) (by first | omega | (simp only [n_h64_o_0]; omega)) (fun c84 => absurd c84 (by decide)) (fun _ => ?_)
            refine pw_iconst (pc := 87) dX5_journeyLine_87 ?_
            exact pw_zret (pc := 88) dX5_journeyLine_88 (by first | omega | (simp only [n_h64_o_0]; omega)) (⟨J81, Or.inr ⟨rfl, by obtain ⟨e, x1, x2⟩ := p81; exact ⟨e, Or.inl (by rw [jl1_s (by rcases wi with x | x | x; exact x.2; exact absurd (x.1.symm.trans c60) (by decide); exact absurd x.1 c12) nl, bd_o r64]; exact bd_e x1), x2⟩⟩⟩)
        · have J64 : off_ (JFR_ t) h h64 := off_tr J58 (off_mo f64.1 (by simp [JFR_]))
          refine pw_if_eq (t := 87) (pc := 67) dX5_journeyLine_67 (by decide) (by first | omega) (fun _ => ?_) (fun c67 => absurd c67 (by decide))
          refine pw_iconst (pc := 87) dX5_journeyLine_87 ?_
          exact pw_zret (pc := 88) dX5_journeyLine_88 (by first | omega) (⟨J64, Or.inr ⟨rfl, by obtain ⟨e, x1, x2⟩ := p64; exact ⟨e, Or.inl (by rw [jl1_s (by rcases wi with x | x | x; exact x.2; exact absurd (x.1.symm.trans c60) (by decide); exact absurd x.1 c12) nl]; exact bd_e (trd_e x1)), x2⟩⟩⟩)
    · refine pw_aload_n (z := 3) (pc := 32) dX5_journeyLine_32 rfl rfl ?_
      refine pw_iconst (pc := 33) dX5_journeyLine_33 ?_
      refine pw_callV (c := 5) (o := 3) (As := [ii_ 5]) (rest := []) (pc := 34) dX5_journeyLine_34 (d_wrong hC h tp n a H 5 (by first | omega)) lX5_70 mX5_wrong vX5_wrong (hC 3 (by decide)) (show kd_ 3 = 15 by decide +kernel) rfl rfl rfl (by decide) ⟨Nat.zero_le _, Nat.zero_le _⟩ (Nat.le_of_ble_eq_true rfl) (k_i (fun z34 h34 y34 q34 => ?_))
      obtain ⟨f34, x34, rfl⟩ := q34
      have fp34 := flt_p (tp := tp) (a := a) HB.1 (w := 5) (by omega)
      exact pw_zret (pc := 37) dX5_journeyLine_37 (by first | omega) (⟨off_mo f34.1 (by simp [JFR_]), Or.inr ⟨rfl, _, Or.inl (jl1_m (by rcases wi with x | x | x; exact Or.inl x.2; exact Or.inr x.2.2; exact absurd x.1 c12) (by omega)), x34, fp34.1⟩⟩)
  · refine pw_aload_n (z := 3) (pc := 15) dX5_journeyLine_15 rfl rfl ?_
    refine pw_iconst (pc := 16) dX5_journeyLine_16 ?_
    refine pw_callV (c := 5) (o := 3) (As := [ii_ 1]) (rest := []) (pc := 17) dX5_journeyLine_17 (d_wrong hC h tp n a H 1 (by first | omega)) lX5_70 mX5_wrong vX5_wrong (hC 3 (by decide)) (show kd_ 3 = 15 by decide +kernel) rfl rfl rfl (by decide) ⟨Nat.zero_le _, Nat.zero_le _⟩ (Nat.le_of_ble_eq_true rfl) (k_i (fun z17 h17 y17 q17 => ?_))
    obtain ⟨f17, x17, rfl⟩ := q17
    have fp17 := flt_p (tp := tp) (a := a) HB.1 (w := 1) (by omega)
    exact pw_zret (pc := 20) dX5_journeyLine_20 (by first | omega) (⟨off_mo f17.1 (by simp [JFR_]), Or.inr ⟨rfl, _, Or.inl (jl1_w (by rcases wi with x | x | x; exact absurd (x.1.symm.trans c12) (by decide); exact x.2.1; exact x.2.1) (by rcases wi with x | x | x; exact absurd (x.1.symm.trans c12) (by decide); exact absurd (x.1.symm.trans c12) (by decide); exact x.2.2)), x17, fp17.1⟩⟩)

set_option maxHeartbeats 4000000 in
set_option maxRecDepth 100000 in
theorem d_readJourney {G : GT_} (hC : okC_ G) (h : PH_) (o : Nat) (ho : is6_ o) (tp : Int → Int) (n : Int) (H : CTP_ tp n h) (t : Nat) (ho_t : is10_ t) (Z : ZT_) (NM : CNM_ Z.2.1 (h (o + 2)) (Z.1 2) (Z.1 3)) (RR : h o 2 = Z.1 2 ∧ 0 ≤ Z.1 2 ∧ Z.1 2 ≤ 4) (hS : h o 0 = Z.1 0 ∧ 2 ≤ Z.1 0 ∧ Z.1 0 ≤ 4) : PC G yX5_readJourney cX5_readJourney 5 (some .int) 9 [rr_ G 3, rr_ G o, rr_ G t] h (qi_ (fun z h' => off_ (JFR_ t) h h' ∧ h' 1 2 = 0 ∧ ((∃ L, jou_ (tk_ tp n) Z.2.1 (Z.1 0) = .ok L ∧ z = 0 ∧ h' t 2 = (L.length : Int) ∧ L.length ≤ 20 ∧ jlc_ h' t L) ∨ (jou_ (tk_ tp n) Z.2.1 (Z.1 0) = .error z ∧ 0 < z)))) := by
  have hn := H.2.1
  refine PC.of (lv := [some (rr_ G 3), some (rr_ G o), some (rr_ G t), none, none]) (by decide +kernel) (Nat.le_of_ble_eq_true rfl) rfl rfl ?_
  refine pw_aload_n (z := 3) (pc := 0) dX5_readJourney_0 rfl rfl ?_
  refine pw_aload_n (z := o) (pc := 1) dX5_readJourney_1 rfl rfl ?_
  refine pw_callV (c := 5) (o := 3) (As := [rr_ G o]) (rest := []) (pc := 2) dX5_readJourney_2 (d_rbegin hC h o ho tp n H) lX5_21 mX5_begin vX5_begin (hC 3 (by decide)) (show kd_ 3 = 15 by decide +kernel) rfl rfl rfl (by decide) ⟨Nat.zero_le _, Nat.zero_le _⟩ (Nat.le_of_ble_eq_true rfl) (k_v (fun h2 q2 => ?_))
  obtain ⟨f2, -, l2, k2⟩ := q2
  refine pw_aload_n (z := t) (pc := 5) dX5_readJourney_5 rfl rfl ?_
  refine pw_iconst (pc := 6) dX5_readJourney_6 ?_
  refine pw_pI (x := 2) (pc := 7) dX5_readJourney_7 fX5_78 (hC _ (by omega)) (kd10_0 ho_t) rfl rfl (by first | omega) ?_
  obtain ⟨g7, e7⟩ : ∃ x, x = up_ h2 t 2 0 := ⟨_, rfl⟩
  refine pw_heq e7 ?_
  have S7 : RJS_ tp n o t Z.2.1 (Z.1 0) 0 1 g7 := Or.inl ⟨rfl, [], 0, 1001, rfl, CPO_mv k2 (by rw [e7, up_off (by omega)]) (by rw [e7, up_off (by omega)]) (by rw [e7, up_off (by omega)]), by rw [e7, up_off (by omega)]; exact l2, by rw [e7, up_same]; rfl, by decide, fun j hj => absurd hj (Nat.not_lt_zero j), rfl, rfl⟩
  have F7 : off_ (JFR_ t) h g7 := off_tr (off_mo f2 (by simp [JFR_])) (by rw [e7]; exact off_up off_rf (by simp [JFR_]))
  refine pw_iconst (pc := 10) dX5_readJourney_10 ?_
  refine pw_istore_n (lv1 := [some (rr_ G 3), some (rr_ G o), some (rr_ G t), some (ii_ 1), none]) (pc := 11) dX5_readJourney_11 rfl (by decide) rfl rfl ?_
  refine pw_iconst (pc := 12) dX5_readJourney_12 ?_
  refine pw_istore (lv1 := [some (rr_ G 3), some (rr_ G o), some (rr_ G t), some (ii_ 1), some (ii_ 0)]) (pc := 13) dX5_readJourney_13 (by decide) rfl rfl ?_
  have L15 : ∀ (nn : Nat) (gd : Int) (i : Int) (hq : PH_), (0 ≤ i ∧ i ≤ 1000) → (gd = 0 ∨ gd = 1) → (RJS_ tp n o t Z.2.1 (Z.1 0) i gd hq) → (off_ (JFR_ t) h hq) → ((1001 - i : Int) ≤ nn) → PW G RX5 cX5_readJourney 5 (some .int) (rm_ 9) 0 0 (zm_ G (qi_ (fun z h' => off_ (JFR_ t) h h' ∧ h' 1 2 = 0 ∧ ((∃ L, jou_ (tk_ tp n) Z.2.1 (Z.1 0) = .ok L ∧ z = 0 ∧ h' t 2 = (L.length : Int) ∧ L.length ≤ 20 ∧ jlc_ h' t L) ∨ (jou_ (tk_ tp n) Z.2.1 (Z.1 0) = .error z ∧ 0 < z))))) 15 [some (rr_ G 3), some (rr_ G o), some (rr_ G t), some (ii_ gd), some (ii_ i)] [] hq := by
    intro nn
    induction nn with
    | zero => intro gd i hq ai a01 ast aF ams; exfalso; omega
    | succ nn ih15 =>
      intro gd i hq ai a01 ast aF ams
      refine pw_iload_n (z := gd) (pc := 15) dX5_readJourney_15 rfl rfl ?_
      refine pw_if_eq (t := 49) (pc := 16) dX5_readJourney_16 (by decide) (by first | omega) (fun c16 => ?_) (fun c16 => ?_)
      · refine pw_aload_n (z := 3) (pc := 49) dX5_readJourney_49 rfl rfl ?_
        refine pw_getR (r := 1) (pc := 50) dX5_readJourney_50 fX5_17 (hC 3 (by decide)) (show kd_ 3 = 15 by decide +kernel) rfl (by decide +kernel) ?_
        refine pw_callV (c := 8) (o := 1) (As := []) (rest := []) (pc := 53) dX5_readJourney_53 (d_tclear hC hq) lX5_74 mX8_clear vX8_clear (hC 1 (by decide)) (show kd_ 1 = 18 by decide +kernel) rfl rfl rfl (by decide) ⟨Nat.zero_le _, Nat.zero_le _⟩ (Nat.le_of_ble_eq_true rfl) (k_v (fun h53 q53 => ?_))
        obtain ⟨f53, t53⟩ := q53
        refine pw_aload_n (z := 3) (pc := 56) dX5_readJourney_56 rfl rfl ?_
        refine pw_gI (x := 3) (pc := 57) dX5_readJourney_57 fX5_75 (hC 3 (by decide)) (show kd_ 3 = 15 by decide +kernel) rfl rfl (fun r57 => ?_)
        have n_h53_3_3 : h53 3 3 = hq 3 3 := (congrFun (f53 3 (by first | decide | (simp; done) | (simp; omega))) 3)
        rw [n_h53_3_3] at r57 ⊢
        exact pw_iret (pc := 60) dX5_readJourney_60 (by first | omega | (simp only [n_h53_3_3]; omega)) (⟨off_tr aF (off_mo f53 (by simp [JFR_])), t53, by
                  rcases ast with ⟨g1, L, a, fu, aX, aHq, alq, aL, aL2, aJ, ai2, afu⟩ | ⟨g0, e, x1, x2, x3⟩
                  · left
                    have k : hq 1 3 = 0 := by first | exact c26 | (exfalso; omega)
                    have HB := CPO_b aHq
                    have k0 := ckd_0 (tk_ tp n a).1 (tk_01 a)
                    rw [← HB.2.2.2.2.1.1] at k0
                    exact ⟨L, aX.trans (jlp_0 (k0.mp k)), HB.2.2.2.2.2.2.2, by rw [f53 t (by simp; omega)]; exact aL, aL2, jlc_cg aJ (f53 _ (by simp; omega)) (f53 _ (by simp))⟩
                  · right; rw [x2]; exact ⟨x1, x3⟩⟩)
      · obtain ⟨hgd, L, a, fu, aX, aHq, alq, aL, aL2, aJ, ai2, afu⟩ : gd = 1 ∧ ∃ (L : JL_) (a fu : Nat), jou_ (tk_ tp n) Z.2.1 (Z.1 0) = jlp_ (tk_ tp n) Z.2.1 (Z.1 0) fu L a ∧ CPO_ tp n hq a ∧ hq 3 1 = (o : Int) ∧ hq t 2 = (L.length : Int) ∧ L.length ≤ 20 ∧ jlc_ hq t L ∧ (L.length : Int) = i ∧ (fu : Int) + i = 1001 := by rcases ast with u | u; exact u; exact absurd u.1 c16
        have HBq := CPO_b aHq
        have k0 := ckd_0 (tk_ tp n a).1 (tk_01 a)
        rw [← HBq.2.2.2.2.1.1] at k0
        refine pw_aload_n (z := 3) (pc := 19) dX5_readJourney_19 rfl rfl ?_
        refine pw_getR (r := 1) (pc := 20) dX5_readJourney_20 fX5_17 (hC 3 (by decide)) (show kd_ 3 = 15 by decide +kernel) rfl (by decide +kernel) ?_
        refine pw_gI (x := 3) (pc := 23) dX5_readJourney_23 fX5_34 (hC 1 (by decide)) (show kd_ 1 = 18 by decide +kernel) rfl rfl (fun r23 => ?_)
        refine pw_if_eq (t := 49) (pc := 26) dX5_readJourney_26 (by decide) (by first | omega) (fun c26 => ?_) (fun c26 => ?_)
        · refine pw_aload_n (z := 3) (pc := 49) dX5_readJourney_49 rfl rfl ?_
          refine pw_getR (r := 1) (pc := 50) dX5_readJourney_50 fX5_17 (hC 3 (by decide)) (show kd_ 3 = 15 by decide +kernel) rfl (by decide +kernel) ?_
          refine pw_callV (c := 8) (o := 1) (As := []) (rest := []) (pc := 53) dX5_readJourney_53 (d_tclear hC hq) lX5_74 mX8_clear vX8_clear (hC 1 (by decide)) (show kd_ 1 = 18 by decide +kernel) rfl rfl rfl (by decide) ⟨Nat.zero_le _, Nat.zero_le _⟩ (Nat.le_of_ble_eq_true rfl) (k_v (fun h53 q53 => ?_))
          obtain ⟨f53, t53⟩ := q53
          refine pw_aload_n (z := 3) (pc := 56) dX5_readJourney_56 rfl rfl ?_
          refine pw_gI (x := 3) (pc := 57) dX5_readJourney_57 fX5_75 (hC 3 (by decide)) (show kd_ 3 = 15 by decide +kernel) rfl rfl (fun r57 => ?_)
          have n_h53_3_3 : h53 3 3 = hq 3 3 := (congrFun (f53 3 (by first | decide | (simp; done) | (simp; omega))) 3)
          rw [n_h53_3_3] at r57 ⊢
          exact pw_iret (pc := 60) dX5_readJourney_60 (by first | omega | (simp only [n_h53_3_3]; omega)) (⟨off_tr aF (off_mo f53 (by simp [JFR_])), t53, by
                    rcases ast with ⟨g1, L, a, fu, aX, aHq, alq, aL, aL2, aJ, ai2, afu⟩ | ⟨g0, e, x1, x2, x3⟩
                    · left
                      have k : hq 1 3 = 0 := by first | exact c26 | (exfalso; omega)
                      have HB := CPO_b aHq
                      have k0 := ckd_0 (tk_ tp n a).1 (tk_01 a)
                      rw [← HB.2.2.2.2.1.1] at k0
                      exact ⟨L, aX.trans (jlp_0 (k0.mp k)), HB.2.2.2.2.2.2.2, by rw [f53 t (by simp; omega)]; exact aL, aL2, jlc_cg aJ (f53 _ (by simp; omega)) (f53 _ (by simp))⟩
                    · right; rw [x2]; exact ⟨x1, x3⟩⟩)
        · refine pw_iload (z := i) (pc := 29) dX5_readJourney_29 rfl ?_
          refine pw_sipush (pc := 31) dX5_readJourney_31 rfl ?_
          refine pw_icmp_ge (t := 49) (pc := 34) dX5_readJourney_34 (by decide) (by first | omega) (by first | omega) (fun c34 => ?_) (fun c34 => ?_)
          · refine pw_aload_n (z := 3) (pc := 49) dX5_readJourney_49 rfl rfl ?_
            refine pw_getR (r := 1) (pc := 50) dX5_readJourney_50 fX5_17 (hC 3 (by decide)) (show kd_ 3 = 15 by decide +kernel) rfl (by decide +kernel) ?_
            refine pw_callV (c := 8) (o := 1) (As := []) (rest := []) (pc := 53) dX5_readJourney_53 (d_tclear hC hq) lX5_74 mX8_clear vX8_clear (hC 1 (by decide)) (show kd_ 1 = 18 by decide +kernel) rfl rfl rfl (by decide) ⟨Nat.zero_le _, Nat.zero_le _⟩ (Nat.le_of_ble_eq_true rfl) (k_v (fun h53 q53 => ?_))
            obtain ⟨f53, t53⟩ := q53
            refine pw_aload_n (z := 3) (pc := 56) dX5_readJourney_56 rfl rfl ?_
            refine pw_gI (x := 3) (pc := 57) dX5_readJourney_57 fX5_75 (hC 3 (by decide)) (show kd_ 3 = 15 by decide +kernel) rfl rfl (fun r57 => ?_)
            have n_h53_3_3 : h53 3 3 = hq 3 3 := (congrFun (f53 3 (by first | decide | (simp; done) | (simp; omega))) 3)
            rw [n_h53_3_3] at r57 ⊢
            exact pw_iret (pc := 60) dX5_readJourney_60 (by first | omega | (simp only [n_h53_3_3]; omega)) (⟨off_tr aF (off_mo f53 (by simp [JFR_])), t53, by
                      rcases ast with ⟨g1, L, a, fu, aX, aHq, alq, aL, aL2, aJ, ai2, afu⟩ | ⟨g0, e, x1, x2, x3⟩
                      · left
                        have k : hq 1 3 = 0 := by first | exact c26 | (exfalso; omega)
                        have HB := CPO_b aHq
                        have k0 := ckd_0 (tk_ tp n a).1 (tk_01 a)
                        rw [← HB.2.2.2.2.1.1] at k0
                        exact ⟨L, aX.trans (jlp_0 (k0.mp k)), HB.2.2.2.2.2.2.2, by rw [f53 t (by simp; omega)]; exact aL, aL2, jlc_cg aJ (f53 _ (by simp; omega)) (f53 _ (by simp))⟩
                      · right; rw [x2]; exact ⟨x1, x3⟩⟩)
          · have ne : (tk_ tp n a).1 ≠ 0 := fun u => c26 (k0.mpr u)
            refine pw_aload_n (z := 3) (pc := 37) dX5_readJourney_37 rfl rfl ?_
            refine pw_aload_n (z := t) (pc := 38) dX5_readJourney_38 rfl rfl ?_
            refine pw_callV (c := 5) (o := 3) (As := [rr_ G t]) (rest := []) (pc := 39) dX5_readJourney_39 (d_journeyLine hC hq tp n o ho a aHq alq t ho_t Z (by rw [aF (o + 2) (by simp [JFR_]; omega)]; exact NM) (by rw [aF o (by simp [JFR_]; omega)]; exact RR) (by rw [aF o (by simp [JFR_]; omega)]; exact hS) L ⟨aL, aL2⟩ aJ) lX5_83 mX5_journeyLine vX5_journeyLine (hC 3 (by decide)) (show kd_ 3 = 15 by decide +kernel) rfl rfl rfl (by decide) ⟨Nat.zero_le _, Nat.zero_le _⟩ (Nat.le_of_ble_eq_true rfl) (k_i (fun z39 h39 y39 q39 => ?_))
            obtain ⟨f39, x39⟩ := q39
            have S39 := RJS_go aX ne afu aL2 ai2 x39
            have z01 := RJS_01 S39
            have F39 : off_ (JFR_ t) h h39 := off_tr aF f39
            refine pw_istore_n (lv1 := [some (rr_ G 3), some (rr_ G o), some (rr_ G t), some (ii_ z39), some (ii_ i)]) (pc := 42) dX5_readJourney_42 rfl (by decide) rfl rfl ?_
            refine pw_iinc (z := i) (lv1 := [some (rr_ G 3), some (rr_ G o), some (rr_ G t), some (ii_ z39), some (ii_ (i + 1))]) (pc := 43) dX5_readJourney_43 rfl (by decide) rfl rfl ?_
            refine pw_goto (t := 15) (pc := 46) dX5_readJourney_46 (by decide) ?_
            exact ih15 _ _ _ (by omega) (z01) (S39) (F39) (by omega)
  exact L15 _ _ _ _ (by omega) (by decide) (S7) (F7) (Int.self_le_toNat _)

set_option maxHeartbeats 4000000 in
set_option maxRecDepth 100000 in
theorem d_rowLine {G : GT_} (hC : okC_ G) (h : PH_) (tp : Int → Int) (n : Int) (o : Nat) (ho : is6_ o) (a : Nat) (H : CPO_ tp n h a) (hland : h 3 1 = (o : Int)) (r : Int) (hr : 0 ≤ r ∧ r < 4) (f : Int → Int) (S : Int) (hS : h o 0 = S ∧ 2 ≤ S ∧ S ≤ 4) (hA : shA_ (h 150) f S r 0) (hb : smb_ h) : PC G yX5_rowLine cX5_rowLine 4 (some .boolean) 8 [rr_ G 3, rr_ G 150, ii_ r] h (qi_ (fun z h' => off_ [1, 3, 150] h h' ∧ smb_ h' ∧ SRR_ tp n o S r f a z h')) := by
  have HB := CPO_b H
  have hl_h := hland
  have N : LNF_ o h h := LNF_rf
  refine PC.of (lv := [some (rr_ G 3), some (rr_ G 150), some (ii_ r), none]) (by decide +kernel) (Nat.le_of_ble_eq_true rfl) rfl rfl ?_
  refine pw_aload_n (z := 3) (pc := 0) dX5_rowLine_0 rfl rfl ?_
  refine pw_ldcs 14 (pc := 1) dX5_rowLine_1 rfl ?_
  refine pw_callV (c := 5) (o := 3) (As := [rr_ G 3014]) (rest := []) (pc := 3) dX5_rowLine_3 (d_takeWord hC h tp n (a) H 14 (by decide) (by decide)) lX5_143 mX5_takeWord vX5_takeWord (hC 3 (by decide)) (show kd_ 3 = 15 by decide +kernel) rfl rfl rfl (by decide) ⟨Nat.zero_le _, Nat.zero_le _⟩ (Nat.le_of_ble_eq_true rfl) (k_i (fun z3 h3 y3 q3 => ?_))
  replace q3 := And.intro q3.1 (CPR_d q3.2)
  obtain ⟨f3, ⟨rfl, p3⟩ | ⟨rfl, p3⟩⟩ := q3
  · have N3 : LNF_ o h h3 := LNF_tr N (LNF_3 f3 (by simp))
    rw [tkws_1 (w := 14) (by decide +kernel)] at p3
    obtain ⟨b3, t3, H3⟩ := p3
    obtain ⟨be3, we3⟩ := tkw_o t3
    have bn3 := tk_lt HB.1.1 (show (tk_ tp n (a)).1 ≠ 0 by rw [we3.1]; decide)
    subst be3
    have hl_h3 : h3 3 1 = (o : Int) := by rw [f3.2.1 1 (by simp)]; exact hl_h
    have p3 := t3
    refine pw_if_ne (t := 11) (pc := 6) dX5_rowLine_6 (by decide) (by first | omega) (fun _ => ?_) (fun c6 => absurd c6 (by decide))
    have l3q := hl_h3
    refine pw_iconst (pc := 11) dX5_rowLine_11 ?_
    refine pw_istore_n (lv1 := [some (rr_ G 3), some (rr_ G 150), some (ii_ r), some (ii_ 0)]) (pc := 12) dX5_rowLine_12 rfl (by decide) rfl rfl ?_
    have L13 : ∀ (nn : Nat) (s : Int) (bp : Nat) (ff : Int → Int) (hq : PH_), (0 ≤ s ∧ s ≤ S) → (off_ [1, 3, 150] h hq) → (CPO_ tp n hq bp) → (hq 3 1 = (o : Int)) → (sr1_ (tk_ tp n) (S - s).toNat (4 * r + s) bp ff = sr1_ (tk_ tp n) S.toNat (4 * r) (a + 1) f) → (shA_ (hq 150) ff S r s) → (smb_ hq) → ((S - s + 1 : Int) ≤ nn) → PW G RX5 cX5_rowLine 4 (some .boolean) (rm_ 8) 0 0 (zm_ G (qi_ (fun z h' => off_ [1, 3, 150] h h' ∧ smb_ h' ∧ SRR_ tp n o S r f a z h'))) 13 [some (rr_ G 3), some (rr_ G 150), some (ii_ r), some (ii_ s)] [] hq := by
      intro nn
      induction nn with
      | zero => intro s bp ff hq ak aO aH ahl aX aA ab ams; exfalso; omega
      | succ nn ih13 =>
        intro s bp ff hq ak aO aH ahl aX aA ab ams
        have Hq := aH
        have hl_hq := ahl
        refine pw_iload_n (z := s) (pc := 13) dX5_rowLine_13 rfl rfl ?_
        refine pw_aload_n (z := 3) (pc := 14) dX5_rowLine_14 rfl rfl ?_
        refine pw_gD (x := 1) (r := o) (pc := 15) dX5_rowLine_15 fX5_94 (hC 3 (by decide)) (show kd_ 3 = 15 by decide +kernel) rfl rfl hl_hq ?_
        refine pw_gI (x := 0) (pc := 18) dX5_rowLine_18 fX5_151 (hC _ (by omega)) (kd6_0 ho) rfl rfl (fun r18 => ?_)
        have n_hq_o_0 : hq o 0 = h o 0 := (congrFun (aO o (by first | decide | (simp; done) | (simp; omega))) 0)
        rw [n_hq_o_0] at r18 ⊢
        refine pw_icmp_ge (t := 53) (pc := 21) dX5_rowLine_21 (by decide) (by first | omega | (simp only [n_hq_o_0]; omega)) (by first | omega | (simp only [n_hq_o_0]; omega)) (fun c21 => ?_) (fun c21 => ?_)
        · refine pw_aload_n (z := 3) (pc := 53) dX5_rowLine_53 rfl rfl ?_
          refine pw_bipush (pc := 54) dX5_rowLine_54 rfl ?_
          refine pw_callV (c := 5) (o := 3) (As := [ii_ 59]) (rest := []) (pc := 56) dX5_rowLine_56 (d_takeSign hC hq tp n bp aH 59 (by first | omega | (simp only [n_hq_o_0]; omega))) lX5_154 mX5_takeSign vX5_takeSign (hC 3 (by decide)) (show kd_ 3 = 15 by decide +kernel) rfl rfl rfl (by decide) ⟨Nat.zero_le _, Nat.zero_le _⟩ (Nat.le_of_ble_eq_true rfl) (k_i (fun z56 h56 y56 q56 => ?_))
          replace q56 := And.intro q56.1 (CPR_w q56.2)
          obtain ⟨f56, x56⟩ := q56
          have z01 : z56 = 0 ∨ z56 = 1 := by rcases x56 with x | x <;> omega
          exact pw_zret (pc := 59) dX5_rowLine_59 (by first | omega | (simp only [n_hq_o_0]; omega)) (by
                    have XL : srw_ (tk_ tp n) S r a f = bd_ (tks2_ (tk_ tp n) 59 bp) (fun c => .ok (ff, c)) := by
                      unfold srw_; rw [bd_o t3]
                      exact bd_o (show sr1_ (tk_ tp n) S.toNat (4 * r) (a + 1) f = .ok (ff, bp) by rw [← aX, show (S - s).toNat = 0 by omega]; rfl)
                    refine ⟨off_tr aO (off_mo f56.1 (by simp)), fun k k0 k1 => by rw [f56.1 150 (by simp)]; exact ab k k0 k1, ?_⟩
                    rcases x56 with ⟨rfl, b, b1, b2⟩ | ⟨rfl, e, x1, x2⟩
                    · exact Or.inl ⟨rfl, (ff, b), by rw [XL]; exact bd_o b1, b2, by rw [f56.2.1 1 (by simp)]; exact ahl, by rw [f56.1 150 (by simp)]; exact shA_n aA (by omega)⟩
                    · exact Or.inr ⟨rfl, e, by rw [XL]; exact bd_e x1, x2⟩)
        · refine pw_aload_n (z := 3) (pc := 24) dX5_rowLine_24 rfl rfl ?_
          refine pw_iconst (pc := 25) dX5_rowLine_25 ?_
          refine pw_bipush (pc := 26) dX5_rowLine_26 rfl ?_
          refine pw_callV (c := 5) (o := 3) (As := [ii_ 0, ii_ 99]) (rest := []) (pc := 28) dX5_rowLine_28 (d_takeNum hC hq tp n (bp) Hq 0 (99) (by first | omega | (simp only [n_hq_o_0]; omega)) (by first | omega | (simp only [n_hq_o_0]; omega))) lX5_147 mX5_takeNumber vX5_takeNumber (hC 3 (by decide)) (show kd_ 3 = 15 by decide +kernel) rfl rfl rfl (by decide) ⟨Nat.zero_le _, Nat.zero_le _⟩ (Nat.le_of_ble_eq_true rfl) (k_i (fun z28 h28 y28 q28 => ?_))
          replace q28 := (⟨q28.1, CPN_d q28.2⟩ : _ ∧ _)
          obtain ⟨f28, ⟨rfl, p28⟩ | ⟨rfl, p28⟩⟩ := q28
          · have O28 : off_ [1, 3, 150] h h28 := off_tr aO (off_mo f28.1 (by simp))
            obtain ⟨⟨s28, b28⟩, t28, H28, n28⟩ := p28
            have H28 : CPO_ tp n h28 b28 := H28
            have n28 : h28 3 4 = s28 := n28
            obtain ⟨sb28, be28, te28⟩ := tkn_o t28
            have sb28 : 0 ≤ s28 ∧ s28 ≤ 99 := sb28
            have be28 : b28 = bp + 1 := be28
            have hl_h28 : h28 3 1 = (o : Int) := by rw [f28.2.1 1 (by simp)]; exact hl_hq
            have bn28 := tk_lt HB.1.1 (show (tk_ tp n (bp)).1 ≠ 0 by rw [te28]; decide)
            have p28 := t28
            subst be28
            simp -failIfUnchanged only [n_hq_o_0] at p28
            refine pw_if_ne (t := 36) (pc := 31) dX5_rowLine_31 (by decide) (by first | omega | (simp only [n_hq_o_0]; omega)) (fun _ => ?_) (fun c31 => absurd c31 (by decide))
            refine pw_aload_n (z := 150) (pc := 36) dX5_rowLine_36 rfl rfl ?_
            refine pw_iload_n (z := r) (pc := 37) dX5_rowLine_37 rfl rfl ?_
            refine pw_iconst (pc := 38) dX5_rowLine_38 ?_
            refine pw_imul (pc := 39) dX5_rowLine_39 ?_
            refine pw_iload_n (z := s) (pc := 40) dX5_rowLine_40 rfl rfl ?_
            refine pw_iadd (pc := 41) dX5_rowLine_41 ?_
            refine pw_aload_n (z := 3) (pc := 42) dX5_rowLine_42 rfl rfl ?_
            refine pw_gI (x := 4) (pc := 43) dX5_rowLine_43 fX5_118 (hC 3 (by decide)) (show kd_ 3 = 15 by decide +kernel) rfl rfl (fun r43 => ?_)
            rw [n28]
            refine pw_iast (pc := 46) dX5_rowLine_46 (hC 150 (by decide)) (show kd_ 150 = 0 by decide +kernel) 16 (by decide +kernel) (by first | omega | (simp only [n_hq_o_0]; omega)) (by first | omega | (simp only [n_hq_o_0]; omega)) (by first | omega | (simp only [n_hq_o_0]; omega)) (by first | omega | (simp only [n_hq_o_0]; omega)) ?_
            obtain ⟨g46, e46⟩ : ∃ x, x = up_ h28 150 ((r * 4) + s) s28 := ⟨_, rfl⟩
            refine pw_heq e46 ?_
            have V46 : g46 150 = ob_ (h28 150) (r * 4 + s) s28 := by rw [e46, up_ob]
            have H46 : CPO_ tp n g46 (bp + 1) := CPO_mv H28 (by rw [e46, up_off (by decide)]) (by rw [e46, up_off (by decide)]) (by rw [e46, up_off (by decide)])
            have l46 : g46 3 1 = (o : Int) := by rw [e46, up_off (by decide)]; exact hl_h28
            have O46 : off_ [1, 3, 150] h g46 := off_tr O28 (by rw [e46]; exact off_up off_rf (by simp))
            have A46 : shA_ (g46 150) (ob_ ff (4 * r + s) s28) S r (s + 1) := by
              rw [V46, show r * 4 + s = 4 * r + s by omega, f28.1 150 (by simp)]
              exact shA_u (by omega) aA hr.1 (by omega)
            have B46 : smb_ g46 := fun k k0 k1 => by
              rw [V46, f28.1 150 (by simp)]
              unfold ob_
              by_cases c : k = r * 4 + s
              · rw [if_pos c]; exact sb28
              · rw [if_neg c]; exact ab k k0 k1
            have X46 : sr1_ (tk_ tp n) (S - (s + 1)).toNat (4 * r + (s + 1)) (bp + 1) (ob_ ff (4 * r + s) s28) = sr1_ (tk_ tp n) S.toNat (4 * r) (a + 1) f := by
              rw [← aX, show (S - s).toNat = (S - (s + 1)).toNat + 1 by omega, sr1_, bd_o t28, show 4 * r + (s + 1) = 4 * r + s + 1 by omega]
            refine pw_iinc (z := s) (lv1 := [some (rr_ G 3), some (rr_ G 150), some (ii_ r), some (ii_ (s + 1))]) (pc := 47) dX5_rowLine_47 rfl (by decide) rfl rfl ?_
            refine pw_goto (t := 13) (pc := 50) dX5_rowLine_50 (by decide) ?_
            exact ih13 _ (bp + 1) (ob_ ff (4 * r + s) s28) _ (by omega) (O46) (H46) (l46) (X46) (A46) (B46) (by omega)
          · have O28 : off_ [1, 3, 150] h h28 := off_tr aO (off_mo f28.1 (by simp))
            simp -failIfUnchanged only [n_hq_o_0] at p28
            refine pw_if_ne (t := 36) (pc := 31) dX5_rowLine_31 (by decide) (by first | omega | (simp only [n_hq_o_0]; omega)) (fun c31 => absurd c31 (by decide)) (fun _ => ?_)
            refine pw_iconst (pc := 34) dX5_rowLine_34 ?_
            exact pw_zret (pc := 35) dX5_rowLine_35 (by first | omega | (simp only [n_hq_o_0]; omega)) (⟨O28, fun k k0 k1 => by rw [f28.1 150 (by simp)]; exact ab k k0 k1, Or.inr ⟨rfl, by obtain ⟨e, x1, x2⟩ := p28; exact ⟨e, by unfold srw_; rw [bd_o t3]; refine bd_e ?_; rw [← aX, show (S - s).toNat = (S - (s + 1)).toNat + 1 by omega, sr1_]; exact bd_e x1, x2⟩⟩⟩)
    exact L13 _ _ (a + 1) f _ (by omega) (off_mo f3.1 (by simp)) (H3) (hl_h3) (by rw [Int.sub_zero, Int.add_zero]) (by rw [f3.1 150 (by simp)]; exact hA) (fun k k0 k1 => by rw [f3.1 150 (by simp)]; exact hb k k0 k1) (Int.self_le_toNat _)
  · have N3 : LNF_ o h h3 := LNF_tr N (LNF_3 f3 (by simp))
    rw [tkws_1 (w := 14) (by decide +kernel)] at p3
    refine pw_if_ne (t := 11) (pc := 6) dX5_rowLine_6 (by decide) (by first | omega) (fun c6 => absurd c6 (by decide)) (fun _ => ?_)
    refine pw_iconst (pc := 9) dX5_rowLine_9 ?_
    exact pw_zret (pc := 10) dX5_rowLine_10 (by first | omega) (⟨off_mo f3.1 (by simp), fun k k0 k1 => by rw [f3.1 150 (by simp)]; exact hb k k0 k1, Or.inr ⟨rfl, by obtain ⟨e, x1, x2⟩ := p3; exact ⟨e, by unfold srw_; exact bd_e x1, x2⟩⟩⟩)

set_option maxHeartbeats 4000000 in
set_option maxRecDepth 100000 in
theorem d_readShares {G : GT_} (hC : okC_ G) (h : PH_) (o : Nat) (ho : is6_ o) (tp : Int → Int) (n : Int) (H : CTP_ tp n h) (S R : Int) (hS : h o 0 = S ∧ 2 ≤ S ∧ S ≤ 4) (hR : h o 2 = R ∧ 0 ≤ R ∧ R ≤ 4) (hb : smb_ h) : PC G yX5_readShares cX5_readShares 5 (some .int) 9 [rr_ G 3, rr_ G o, rr_ G 150] h (qi_ (fun z h' => off_ [1, 3, 150] h h' ∧ h' 1 2 = 0 ∧ smb_ h' ∧ ((∃ f, shr_ (tk_ tp n) S R = .ok f ∧ z = 0 ∧ shA_ (h' 150) f S R 0) ∨ (shr_ (tk_ tp n) S R = .error z ∧ 0 < z)))) := by
  have hn := H.2.1
  refine PC.of (lv := [some (rr_ G 3), some (rr_ G o), some (rr_ G 150), none, none]) (by decide +kernel) (Nat.le_of_ble_eq_true rfl) rfl rfl ?_
  refine pw_aload_n (z := 3) (pc := 0) dX5_readShares_0 rfl rfl ?_
  refine pw_aload_n (z := o) (pc := 1) dX5_readShares_1 rfl rfl ?_
  refine pw_callV (c := 5) (o := 3) (As := [rr_ G o]) (rest := []) (pc := 2) dX5_readShares_2 (d_rbegin hC h o ho tp n H) lX5_21 mX5_begin vX5_begin (hC 3 (by decide)) (show kd_ 3 = 15 by decide +kernel) rfl rfl rfl (by decide) ⟨Nat.zero_le _, Nat.zero_le _⟩ (Nat.le_of_ble_eq_true rfl) (k_v (fun h2 q2 => ?_))
  obtain ⟨f2, -, l2, k2⟩ := q2
  have S2 : RSS_ tp n o S R 0 1 h2 := Or.inl ⟨rfl, (fun _ => 0), 0, by rw [Int.sub_zero], k2, l2, fun i j i0 j0 j1 hh => by omega⟩
  have B2 : smb_ h2 := fun k k0 k1 => by rw [f2 150 (by simp)]; exact hb k k0 k1
  refine pw_iconst (pc := 5) dX5_readShares_5 ?_
  refine pw_istore_n (lv1 := [some (rr_ G 3), some (rr_ G o), some (rr_ G 150), some (ii_ 1), none]) (pc := 6) dX5_readShares_6 rfl (by decide) rfl rfl ?_
  refine pw_iconst (pc := 7) dX5_readShares_7 ?_
  refine pw_istore (lv1 := [some (rr_ G 3), some (rr_ G o), some (rr_ G 150), some (ii_ 1), some (ii_ 0)]) (pc := 8) dX5_readShares_8 (by decide) rfl rfl ?_
  have L10 : ∀ (nn : Nat) (gd : Int) (i : Int) (hq : PH_), (0 ≤ i ∧ i ≤ R) → (gd = 0 ∨ gd = 1) → (RSS_ tp n o S R i gd hq) → (off_ [1, 3, 150] h hq) → (smb_ hq) → ((R - i + 1 : Int) ≤ nn) → PW G RX5 cX5_readShares 5 (some .int) (rm_ 9) 0 0 (zm_ G (qi_ (fun z h' => off_ [1, 3, 150] h h' ∧ h' 1 2 = 0 ∧ smb_ h' ∧ ((∃ f, shr_ (tk_ tp n) S R = .ok f ∧ z = 0 ∧ shA_ (h' 150) f S R 0) ∨ (shr_ (tk_ tp n) S R = .error z ∧ 0 < z))))) 10 [some (rr_ G 3), some (rr_ G o), some (rr_ G 150), some (ii_ gd), some (ii_ i)] [] hq := by
    intro nn
    induction nn with
    | zero => intro gd i hq ai a01 ast aF ab ams; exfalso; omega
    | succ nn ih10 =>
      intro gd i hq ai a01 ast aF ab ams
      refine pw_iload_n (z := gd) (pc := 10) dX5_readShares_10 rfl rfl ?_
      refine pw_if_eq (t := 37) (pc := 11) dX5_readShares_11 (by decide) (by first | omega) (fun c11 => ?_) (fun c11 => ?_)
      · refine pw_iload_n (z := gd) (pc := 37) dX5_readShares_37 rfl rfl ?_
        refine pw_if_eq (t := 57) (pc := 38) dX5_readShares_38 (by decide) (by first | omega) (fun c38 => ?_) (fun c38 => ?_)
        · refine pw_aload_n (z := 3) (pc := 57) dX5_readShares_57 rfl rfl ?_
          refine pw_getR (r := 1) (pc := 58) dX5_readShares_58 fX5_17 (hC 3 (by decide)) (show kd_ 3 = 15 by decide +kernel) rfl (by decide +kernel) ?_
          refine pw_callV (c := 8) (o := 1) (As := []) (rest := []) (pc := 61) dX5_readShares_61 (d_tclear hC hq) lX5_74 mX8_clear vX8_clear (hC 1 (by decide)) (show kd_ 1 = 18 by decide +kernel) rfl rfl rfl (by decide) ⟨Nat.zero_le _, Nat.zero_le _⟩ (Nat.le_of_ble_eq_true rfl) (k_v (fun h61 q61 => ?_))
          obtain ⟨f61, t61⟩ := q61
          refine pw_aload_n (z := 3) (pc := 64) dX5_readShares_64 rfl rfl ?_
          refine pw_gI (x := 3) (pc := 65) dX5_readShares_65 fX5_75 (hC 3 (by decide)) (show kd_ 3 = 15 by decide +kernel) rfl rfl (fun r65 => ?_)
          have n_h61_3_3 : h61 3 3 = hq 3 3 := (congrFun (f61 3 (by first | decide | (simp; done) | (simp; omega))) 3)
          rw [n_h61_3_3] at r65 ⊢
          exact pw_iret (pc := 68) dX5_readShares_68 (by first | omega | (simp only [n_h61_3_3]; omega)) (⟨by first | exact off_tr (off_tr aF (off_mo f53.1 (by simp))) (off_mo f61 (by simp)) | exact off_tr aF (off_mo f61 (by simp)), t61, fun k k0 k1 => by first | (rw [f61 150 (by simp), f53.1 150 (by simp)]; exact ab k k0 k1) | (rw [f61 150 (by simp)]; exact ab k k0 k1), by
                    first
                    | exact Or.inr (by rw [x53]; exact ⟨by unfold shr_; rw [bd_o XR]; exact if_f (fun u => c48 (k0.mpr u)), fp53.1⟩)
                    | exact Or.inl ⟨f, by unfold shr_; rw [bd_o XR]; exact if_t (k0.mp c48), HBq.2.2.2.2.2.2.2, by rw [f61 150 (by simp), ← iR]; exact aS⟩
                    | exact Or.inr (by rcases ast with u | ⟨_, e, x1, x2, x3⟩; exact absurd u.1 (by omega); rw [x2]; exact ⟨x1, x3⟩)⟩)
        · obtain ⟨hgd, f, a, aX, aHq, alq, aS⟩ : gd = 1 ∧ ∃ (f : Int → Int) (a : Nat), srl_ (tk_ tp n) S R.toNat 0 0 (fun _ => 0) = srl_ (tk_ tp n) S (R - i).toNat i a f ∧ CPO_ tp n hq a ∧ hq 3 1 = (o : Int) ∧ shA_ (hq 150) f S i 0 := by rcases ast with u | u; exact u; exact absurd u.1 c38
          have HBq := CPO_b aHq
          have k0 := ckd_0 (tk_ tp n a).1 (tk_01 a)
          rw [← HBq.2.2.2.2.1.1] at k0
          have iR : i = R := by first | (exfalso; omega) | omega
          have XR : srl_ (tk_ tp n) S R.toNat 0 0 (fun _ => 0) = .ok (f, a) := by rw [aX, iR, Int.sub_self]; rfl
          refine pw_aload_n (z := 3) (pc := 41) dX5_readShares_41 rfl rfl ?_
          refine pw_getR (r := 1) (pc := 42) dX5_readShares_42 fX5_17 (hC 3 (by decide)) (show kd_ 3 = 15 by decide +kernel) rfl (by decide +kernel) ?_
          refine pw_gI (x := 3) (pc := 45) dX5_readShares_45 fX5_34 (hC 1 (by decide)) (show kd_ 1 = 18 by decide +kernel) rfl rfl (fun r45 => ?_)
          refine pw_if_eq (t := 57) (pc := 48) dX5_readShares_48 (by decide) (by first | omega) (fun c48 => ?_) (fun c48 => ?_)
          · refine pw_aload_n (z := 3) (pc := 57) dX5_readShares_57 rfl rfl ?_
            refine pw_getR (r := 1) (pc := 58) dX5_readShares_58 fX5_17 (hC 3 (by decide)) (show kd_ 3 = 15 by decide +kernel) rfl (by decide +kernel) ?_
            refine pw_callV (c := 8) (o := 1) (As := []) (rest := []) (pc := 61) dX5_readShares_61 (d_tclear hC hq) lX5_74 mX8_clear vX8_clear (hC 1 (by decide)) (show kd_ 1 = 18 by decide +kernel) rfl rfl rfl (by decide) ⟨Nat.zero_le _, Nat.zero_le _⟩ (Nat.le_of_ble_eq_true rfl) (k_v (fun h61 q61 => ?_))
            obtain ⟨f61, t61⟩ := q61
            refine pw_aload_n (z := 3) (pc := 64) dX5_readShares_64 rfl rfl ?_
            refine pw_gI (x := 3) (pc := 65) dX5_readShares_65 fX5_75 (hC 3 (by decide)) (show kd_ 3 = 15 by decide +kernel) rfl rfl (fun r65 => ?_)
            have n_h61_3_3 : h61 3 3 = hq 3 3 := (congrFun (f61 3 (by first | decide | (simp; done) | (simp; omega))) 3)
            rw [n_h61_3_3] at r65 ⊢
            exact pw_iret (pc := 68) dX5_readShares_68 (by first | omega | (simp only [n_h61_3_3]; omega)) (⟨by first | exact off_tr (off_tr aF (off_mo f53.1 (by simp))) (off_mo f61 (by simp)) | exact off_tr aF (off_mo f61 (by simp)), t61, fun k k0 k1 => by first | (rw [f61 150 (by simp), f53.1 150 (by simp)]; exact ab k k0 k1) | (rw [f61 150 (by simp)]; exact ab k k0 k1), by
                      first
                      | exact Or.inr (by rw [x53]; exact ⟨by unfold shr_; rw [bd_o XR]; exact if_f (fun u => c48 (k0.mpr u)), fp53.1⟩)
                      | exact Or.inl ⟨f, by unfold shr_; rw [bd_o XR]; exact if_t (k0.mp c48), HBq.2.2.2.2.2.2.2, by rw [f61 150 (by simp), ← iR]; exact aS⟩
                      | exact Or.inr (by rcases ast with u | ⟨_, e, x1, x2, x3⟩; exact absurd u.1 (by omega); rw [x2]; exact ⟨x1, x3⟩)⟩)
          · refine pw_aload_n (z := 3) (pc := 51) dX5_readShares_51 rfl rfl ?_
            refine pw_iconst (pc := 52) dX5_readShares_52 ?_
            refine pw_callV (c := 5) (o := 3) (As := [ii_ 1]) (rest := []) (pc := 53) dX5_readShares_53 (d_wrong hC hq tp n a aHq 1 (by first | omega)) lX5_70 mX5_wrong vX5_wrong (hC 3 (by decide)) (show kd_ 3 = 15 by decide +kernel) rfl rfl rfl (by decide) ⟨Nat.zero_le _, Nat.zero_le _⟩ (Nat.le_of_ble_eq_true rfl) (k_i (fun z53 h53 y53 q53 => ?_))
            obtain ⟨f53, x53, rfl⟩ := q53
            have fp53 := flt_p (tp := tp) (a := a) HBq.1 (w := 1) (by omega)
            refine pw_pop (pc := 56) dX5_readShares_56 rfl ?_
            refine pw_aload_n (z := 3) (pc := 57) dX5_readShares_57 rfl rfl ?_
            refine pw_getR (r := 1) (pc := 58) dX5_readShares_58 fX5_17 (hC 3 (by decide)) (show kd_ 3 = 15 by decide +kernel) rfl (by decide +kernel) ?_
            refine pw_callV (c := 8) (o := 1) (As := []) (rest := []) (pc := 61) dX5_readShares_61 (d_tclear hC h53) lX5_74 mX8_clear vX8_clear (hC 1 (by decide)) (show kd_ 1 = 18 by decide +kernel) rfl rfl rfl (by decide) ⟨Nat.zero_le _, Nat.zero_le _⟩ (Nat.le_of_ble_eq_true rfl) (k_v (fun h61 q61 => ?_))
            obtain ⟨f61, t61⟩ := q61
            refine pw_aload_n (z := 3) (pc := 64) dX5_readShares_64 rfl rfl ?_
            refine pw_gI (x := 3) (pc := 65) dX5_readShares_65 fX5_75 (hC 3 (by decide)) (show kd_ 3 = 15 by decide +kernel) rfl rfl (fun r65 => ?_)
            have n_h61_3_3 : h61 3 3 = h53 3 3 := (congrFun (f61 3 (by first | decide | (simp; done) | (simp; omega))) 3)
            rw [n_h61_3_3] at r65 ⊢
            exact pw_iret (pc := 68) dX5_readShares_68 (by first | omega | (simp only [n_h61_3_3]; omega)) (⟨by first | exact off_tr (off_tr aF (off_mo f53.1 (by simp))) (off_mo f61 (by simp)) | exact off_tr aF (off_mo f61 (by simp)), t61, fun k k0 k1 => by first | (rw [f61 150 (by simp), f53.1 150 (by simp)]; exact ab k k0 k1) | (rw [f61 150 (by simp)]; exact ab k k0 k1), by
                      first
                      | exact Or.inr (by rw [x53]; exact ⟨by unfold shr_; rw [bd_o XR]; exact if_f (fun u => c48 (k0.mpr u)), fp53.1⟩)
                      | exact Or.inl ⟨f, by unfold shr_; rw [bd_o XR]; exact if_t (k0.mp c48), HBq.2.2.2.2.2.2.2, by rw [f61 150 (by simp), ← iR]; exact aS⟩
                      | exact Or.inr (by rcases ast with u | ⟨_, e, x1, x2, x3⟩; exact absurd u.1 (by omega); rw [x2]; exact ⟨x1, x3⟩)⟩)
      · refine pw_iload (z := i) (pc := 14) dX5_readShares_14 rfl ?_
        refine pw_aload_n (z := o) (pc := 16) dX5_readShares_16 rfl rfl ?_
        refine pw_gI (x := 2) (pc := 17) dX5_readShares_17 fX5_87 (hC _ (by omega)) (kd6_0 ho) rfl rfl (fun r17 => ?_)
        have n_hq_o_2 : hq o 2 = h o 2 := (congrFun (aF o (by first | decide | (simp; done) | (simp; omega))) 2)
        rw [n_hq_o_2] at r17 ⊢
        refine pw_icmp_ge (t := 37) (pc := 20) dX5_readShares_20 (by decide) (by first | omega | (simp only [n_hq_o_2]; omega)) (by first | omega | (simp only [n_hq_o_2]; omega)) (fun c20 => ?_) (fun c20 => ?_)
        · refine pw_iload_n (z := gd) (pc := 37) dX5_readShares_37 rfl rfl ?_
          refine pw_if_eq (t := 57) (pc := 38) dX5_readShares_38 (by decide) (by first | omega | (simp only [n_hq_o_2]; omega)) (fun c38 => ?_) (fun c38 => ?_)
          · refine pw_aload_n (z := 3) (pc := 57) dX5_readShares_57 rfl rfl ?_
            refine pw_getR (r := 1) (pc := 58) dX5_readShares_58 fX5_17 (hC 3 (by decide)) (show kd_ 3 = 15 by decide +kernel) rfl (by decide +kernel) ?_
            refine pw_callV (c := 8) (o := 1) (As := []) (rest := []) (pc := 61) dX5_readShares_61 (d_tclear hC hq) lX5_74 mX8_clear vX8_clear (hC 1 (by decide)) (show kd_ 1 = 18 by decide +kernel) rfl rfl rfl (by decide) ⟨Nat.zero_le _, Nat.zero_le _⟩ (Nat.le_of_ble_eq_true rfl) (k_v (fun h61 q61 => ?_))
            obtain ⟨f61, t61⟩ := q61
            refine pw_aload_n (z := 3) (pc := 64) dX5_readShares_64 rfl rfl ?_
            refine pw_gI (x := 3) (pc := 65) dX5_readShares_65 fX5_75 (hC 3 (by decide)) (show kd_ 3 = 15 by decide +kernel) rfl rfl (fun r65 => ?_)
            have n_h61_3_3 : h61 3 3 = hq 3 3 := (congrFun (f61 3 (by first | decide | (simp; done) | (simp; omega))) 3)
            rw [n_h61_3_3] at r65 ⊢
            exact pw_iret (pc := 68) dX5_readShares_68 (by first | omega | (simp only [n_h61_3_3, n_hq_o_2]; omega)) (⟨by first | exact off_tr (off_tr aF (off_mo f53.1 (by simp))) (off_mo f61 (by simp)) | exact off_tr aF (off_mo f61 (by simp)), t61, fun k k0 k1 => by first | (rw [f61 150 (by simp), f53.1 150 (by simp)]; exact ab k k0 k1) | (rw [f61 150 (by simp)]; exact ab k k0 k1), by
                      first
                      | exact Or.inr (by rw [x53]; exact ⟨by unfold shr_; rw [bd_o XR]; exact if_f (fun u => c48 (k0.mpr u)), fp53.1⟩)
                      | exact Or.inl ⟨f, by unfold shr_; rw [bd_o XR]; exact if_t (k0.mp c48), HBq.2.2.2.2.2.2.2, by rw [f61 150 (by simp), ← iR]; exact aS⟩
                      | exact Or.inr (by rcases ast with u | ⟨_, e, x1, x2, x3⟩; exact absurd u.1 (by omega); rw [x2]; exact ⟨x1, x3⟩)⟩)
          · obtain ⟨hgd, f, a, aX, aHq, alq, aS⟩ : gd = 1 ∧ ∃ (f : Int → Int) (a : Nat), srl_ (tk_ tp n) S R.toNat 0 0 (fun _ => 0) = srl_ (tk_ tp n) S (R - i).toNat i a f ∧ CPO_ tp n hq a ∧ hq 3 1 = (o : Int) ∧ shA_ (hq 150) f S i 0 := by rcases ast with u | u; exact u; exact absurd u.1 c38
            have HBq := CPO_b aHq
            have k0 := ckd_0 (tk_ tp n a).1 (tk_01 a)
            rw [← HBq.2.2.2.2.1.1] at k0
            have iR : i = R := by first | (exfalso; omega) | omega
            have XR : srl_ (tk_ tp n) S R.toNat 0 0 (fun _ => 0) = .ok (f, a) := by rw [aX, iR, Int.sub_self]; rfl
            refine pw_aload_n (z := 3) (pc := 41) dX5_readShares_41 rfl rfl ?_
            refine pw_getR (r := 1) (pc := 42) dX5_readShares_42 fX5_17 (hC 3 (by decide)) (show kd_ 3 = 15 by decide +kernel) rfl (by decide +kernel) ?_
            refine pw_gI (x := 3) (pc := 45) dX5_readShares_45 fX5_34 (hC 1 (by decide)) (show kd_ 1 = 18 by decide +kernel) rfl rfl (fun r45 => ?_)
            refine pw_if_eq (t := 57) (pc := 48) dX5_readShares_48 (by decide) (by first | omega | (simp only [n_hq_o_2]; omega)) (fun c48 => ?_) (fun c48 => ?_)
            · refine pw_aload_n (z := 3) (pc := 57) dX5_readShares_57 rfl rfl ?_
              refine pw_getR (r := 1) (pc := 58) dX5_readShares_58 fX5_17 (hC 3 (by decide)) (show kd_ 3 = 15 by decide +kernel) rfl (by decide +kernel) ?_
              refine pw_callV (c := 8) (o := 1) (As := []) (rest := []) (pc := 61) dX5_readShares_61 (d_tclear hC hq) lX5_74 mX8_clear vX8_clear (hC 1 (by decide)) (show kd_ 1 = 18 by decide +kernel) rfl rfl rfl (by decide) ⟨Nat.zero_le _, Nat.zero_le _⟩ (Nat.le_of_ble_eq_true rfl) (k_v (fun h61 q61 => ?_))
              obtain ⟨f61, t61⟩ := q61
              refine pw_aload_n (z := 3) (pc := 64) dX5_readShares_64 rfl rfl ?_
              refine pw_gI (x := 3) (pc := 65) dX5_readShares_65 fX5_75 (hC 3 (by decide)) (show kd_ 3 = 15 by decide +kernel) rfl rfl (fun r65 => ?_)
              have n_h61_3_3 : h61 3 3 = hq 3 3 := (congrFun (f61 3 (by first | decide | (simp; done) | (simp; omega))) 3)
              rw [n_h61_3_3] at r65 ⊢
              exact pw_iret (pc := 68) dX5_readShares_68 (by first | omega | (simp only [n_h61_3_3, n_hq_o_2]; omega)) (⟨by first | exact off_tr (off_tr aF (off_mo f53.1 (by simp))) (off_mo f61 (by simp)) | exact off_tr aF (off_mo f61 (by simp)), t61, fun k k0 k1 => by first | (rw [f61 150 (by simp), f53.1 150 (by simp)]; exact ab k k0 k1) | (rw [f61 150 (by simp)]; exact ab k k0 k1), by
                        first
                        | exact Or.inr (by rw [x53]; exact ⟨by unfold shr_; rw [bd_o XR]; exact if_f (fun u => c48 (k0.mpr u)), fp53.1⟩)
                        | exact Or.inl ⟨f, by unfold shr_; rw [bd_o XR]; exact if_t (k0.mp c48), HBq.2.2.2.2.2.2.2, by rw [f61 150 (by simp), ← iR]; exact aS⟩
                        | exact Or.inr (by rcases ast with u | ⟨_, e, x1, x2, x3⟩; exact absurd u.1 (by omega); rw [x2]; exact ⟨x1, x3⟩)⟩)
            · refine pw_aload_n (z := 3) (pc := 51) dX5_readShares_51 rfl rfl ?_
              refine pw_iconst (pc := 52) dX5_readShares_52 ?_
              refine pw_callV (c := 5) (o := 3) (As := [ii_ 1]) (rest := []) (pc := 53) dX5_readShares_53 (d_wrong hC hq tp n a aHq 1 (by first | omega | (simp only [n_hq_o_2]; omega))) lX5_70 mX5_wrong vX5_wrong (hC 3 (by decide)) (show kd_ 3 = 15 by decide +kernel) rfl rfl rfl (by decide) ⟨Nat.zero_le _, Nat.zero_le _⟩ (Nat.le_of_ble_eq_true rfl) (k_i (fun z53 h53 y53 q53 => ?_))
              obtain ⟨f53, x53, rfl⟩ := q53
              have fp53 := flt_p (tp := tp) (a := a) HBq.1 (w := 1) (by omega)
              refine pw_pop (pc := 56) dX5_readShares_56 rfl ?_
              refine pw_aload_n (z := 3) (pc := 57) dX5_readShares_57 rfl rfl ?_
              refine pw_getR (r := 1) (pc := 58) dX5_readShares_58 fX5_17 (hC 3 (by decide)) (show kd_ 3 = 15 by decide +kernel) rfl (by decide +kernel) ?_
              refine pw_callV (c := 8) (o := 1) (As := []) (rest := []) (pc := 61) dX5_readShares_61 (d_tclear hC h53) lX5_74 mX8_clear vX8_clear (hC 1 (by decide)) (show kd_ 1 = 18 by decide +kernel) rfl rfl rfl (by decide) ⟨Nat.zero_le _, Nat.zero_le _⟩ (Nat.le_of_ble_eq_true rfl) (k_v (fun h61 q61 => ?_))
              obtain ⟨f61, t61⟩ := q61
              refine pw_aload_n (z := 3) (pc := 64) dX5_readShares_64 rfl rfl ?_
              refine pw_gI (x := 3) (pc := 65) dX5_readShares_65 fX5_75 (hC 3 (by decide)) (show kd_ 3 = 15 by decide +kernel) rfl rfl (fun r65 => ?_)
              have n_h61_3_3 : h61 3 3 = h53 3 3 := (congrFun (f61 3 (by first | decide | (simp; done) | (simp; omega))) 3)
              rw [n_h61_3_3] at r65 ⊢
              exact pw_iret (pc := 68) dX5_readShares_68 (by first | omega | (simp only [n_h61_3_3, n_hq_o_2]; omega)) (⟨by first | exact off_tr (off_tr aF (off_mo f53.1 (by simp))) (off_mo f61 (by simp)) | exact off_tr aF (off_mo f61 (by simp)), t61, fun k k0 k1 => by first | (rw [f61 150 (by simp), f53.1 150 (by simp)]; exact ab k k0 k1) | (rw [f61 150 (by simp)]; exact ab k k0 k1), by
                        first
                        | exact Or.inr (by rw [x53]; exact ⟨by unfold shr_; rw [bd_o XR]; exact if_f (fun u => c48 (k0.mpr u)), fp53.1⟩)
                        | exact Or.inl ⟨f, by unfold shr_; rw [bd_o XR]; exact if_t (k0.mp c48), HBq.2.2.2.2.2.2.2, by rw [f61 150 (by simp), ← iR]; exact aS⟩
                        | exact Or.inr (by rcases ast with u | ⟨_, e, x1, x2, x3⟩; exact absurd u.1 (by omega); rw [x2]; exact ⟨x1, x3⟩)⟩)
        · obtain ⟨hgd, f, a, aX, aHq, alq, aS⟩ : gd = 1 ∧ ∃ (f : Int → Int) (a : Nat), srl_ (tk_ tp n) S R.toNat 0 0 (fun _ => 0) = srl_ (tk_ tp n) S (R - i).toNat i a f ∧ CPO_ tp n hq a ∧ hq 3 1 = (o : Int) ∧ shA_ (hq 150) f S i 0 := by rcases ast with u | u; exact u; exact absurd u.1 c11
          refine pw_aload_n (z := 3) (pc := 23) dX5_readShares_23 rfl rfl ?_
          refine pw_aload_n (z := 150) (pc := 24) dX5_readShares_24 rfl rfl ?_
          refine pw_iload (z := i) (pc := 25) dX5_readShares_25 rfl ?_
          refine pw_callV (c := 5) (o := 3) (As := [rr_ G 150, ii_ i]) (rest := []) (pc := 27) dX5_readShares_27 (d_rowLine hC hq tp n o ho a aHq alq i (by first | omega | (simp only [n_hq_o_2]; omega)) f S (by rw [aF o (by simp; omega)]; exact hS) aS ab) lX5_90 mX5_rowLine vX5_rowLine (hC 3 (by decide)) (show kd_ 3 = 15 by decide +kernel) rfl rfl rfl (by decide) ⟨Nat.zero_le _, Nat.zero_le _⟩ (Nat.le_of_ble_eq_true rfl) (k_i (fun z27 h27 y27 q27 => ?_))
          obtain ⟨f27, b27, x27⟩ := q27
          have S27 := RSS_go aX (by omega) x27
          have z01 := RSS_01 S27
          have F27 : off_ [1, 3, 150] h h27 := off_tr aF f27
          refine pw_istore_n (lv1 := [some (rr_ G 3), some (rr_ G o), some (rr_ G 150), some (ii_ z27), some (ii_ i)]) (pc := 30) dX5_readShares_30 rfl (by decide) rfl rfl ?_
          refine pw_iinc (z := i) (lv1 := [some (rr_ G 3), some (rr_ G o), some (rr_ G 150), some (ii_ z27), some (ii_ (i + 1))]) (pc := 31) dX5_readShares_31 rfl (by decide) rfl rfl ?_
          refine pw_goto (t := 10) (pc := 34) dX5_readShares_34 (by decide) ?_
          exact ih10 _ _ _ (by omega) (z01) (S27) (F27) (b27) (by omega)
  exact L10 _ _ _ _ (by omega) (by decide) (S2) (off_mo f2 (by simp)) (B2) (Int.self_le_toNat _)

