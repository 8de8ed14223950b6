/-! ===== a road read as a whole, by the class ===== -/
/-- a road cleared -/
def CL0_ (h : PH_) (o : Nat) : Prop := (h o 0 = 2 ∧ h o 1 = 0 ∧ h o 2 = 0 ∧ h o 3 = 0 ∧ h o 4 = 0 ∧ h o 5 = 0 ∧ h o 6 = 0 ∧ h o 7 = 0) ∧ h (o + 8) 3 = 0 ∧ (∀ r, 0 ≤ r → r < 4 → h (o + 6) r = 0 ∧ h (o + 7) r = 0) ∧ (∀ k, 0 ≤ k → k < 5 → h (o + 12) k = 0 ∧ h (o + 13) k = 0) ∧ (∀ x, 0 ≤ x → x < 192 → h (o + 15) x = -1)
theorem CL0_f {h h' : PH_} {o : Nat} (ho : is6_ o) (H : CL0_ h o) (f : off_ [1, 3] h h') : CL0_ h' o := by
  have e : ∀ i, i ≠ 1 → i ≠ 3 → h' i = h i := fun i i1 i3 => f i (by simp; exact ⟨i1, i3⟩)
  unfold CL0_ at *
  rw [e o (by omega) (by omega), e (o + 8) (by omega) (by omega), e (o + 6) (by omega) (by omega), e (o + 7) (by omega) (by omega), e (o + 12) (by omega) (by omega), e (o + 13) (by omega) (by omega), e (o + 15) (by omega) (by omega)]
  exact H
theorem zdv_ (m : Nat) : (0 : Int) / 2 ^ m % 2 = 0 := by rw [Int.zero_ediv]; rfl
theorem CZ_0 {h : PH_} {o a : Nat} {S : Int} (ho : is6_ o) (H : CL0_ h o) (hS : 2 ≤ S ∧ S ≤ 4) : CZ_ (ob_ ro0_ 0 S, [], none, [], 0) (up_ h o 0 S) o a := by
  obtain ⟨⟨a0, a1, a2, a3, a4, a5, a6, a7⟩, l8, n6, w12, w15⟩ := H
  have e : ∀ i, i ≠ o → up_ h o 0 S i = h i := fun i hi => up_off hi
  have eo : ∀ k, k ≠ 0 → up_ h o 0 S o k = h o k := fun k hk => by rw [up_at, if_neg hk]
  have g : ∀ x, x ≠ 0 → x ≠ 5 → ob_ ro0_ 0 S x = 0 := fun x h1 h2 => by unfold ob_ ro0_; rw [if_neg h1, if_neg h2]
  have g0 : ob_ ro0_ 0 S 0 = S := rfl
  have zz := zk_0 hS
  refine ⟨?_, ?_, ?_, ?_, ?_, ?_, ?_, zz⟩
  · show CRD_ (ob_ ro0_ 0 S) _ _
    unfold CRD_
    rw [up_same, eo 1 (by decide), eo 2 (by decide), eo 4 (by decide), eo 5 (by decide), g0, g 1 (by decide) (by decide), g 2 (by decide) (by decide), g 10 (by decide) (by decide), g 4 (by decide) (by decide)]
    exact ⟨⟨rfl, a1, a2, a4, a5⟩, ⟨hS, by omega, by omega, by omega⟩, fun t w t0 t1 => by omega, fun r r0 r1 => by omega, fun r x r0 r1 => by omega⟩
  · show up_ h o 0 S o 3 = ob_ ro0_ 0 S 3 ∧ up_ h o 0 S o 6 = 0 ∧ up_ h o 0 S o 7 = 0
    rw [eo 3 (by decide), eo 6 (by decide), eo 7 (by decide), g 3 (by decide) (by decide)]
    exact ⟨a3, a6, a7⟩
  · show CAV_ (ob_ ro0_ 0 S) _ _
    unfold CAV_
    rw [e (o + 7) (by omega), e (o + 6) (by omega)]
    refine ⟨fun r r0 r1 => by rw [(n6 r r0 r1).2, g _ (by omega) (by omega)], fun r r0 r1 => ⟨by rw [(n6 r r0 r1).1]; omega, fun x x0 x1 => ?_⟩⟩
    rw [(n6 r r0 r1).1, g _ (by omega) (by omega), zdv_]
  · show CNM_ [] _ (ob_ ro0_ 0 S 2) (ob_ ro0_ 0 S 3)
    rw [g 2 (by decide) (by decide), g 3 (by decide) (by decide)]
    exact ⟨fun r r0 r1 => by omega, fun r r0 r1 => by omega, fun q hq => (by cases hq), fun q hq => (by cases hq)⟩
  · refine ⟨?_, fun j hj => by exact absurd hj (Nat.not_lt_zero j)⟩
    show up_ h o 0 S (o + 13) 4 ≤ up_ h o 0 S (o + 12) 4
    rw [e (o + 13) (by omega), e (o + 12) (by omega), (w12 4 (by decide) (by decide)).1, (w12 4 (by decide) (by decide)).2]
    decide
  · rw [e (o + 8) (by omega), l8]; omega
  · rw [e (o + 15) (by omega)]; exact w15
/-- the first line -/
noncomputable def sel_ (tk : Nat → TK_) (a : Nat) : LR_ := bd_ (tkw_ tk 0 a) (fun b => bd_ (tkn_ tk 2 4 b) (fun q => .ok ((ob_ ro0_ 0 q.1, [], none, [], 0), q.2)))
theorem rod_s (tk : Nat → TK_) : rod_ tk = bd_ (sel_ tk 0) (fun q => bd_ (tks2_ tk 59 q.2) (fun b => rlp_ tk 1000 q.1 b)) := by
  unfold rod_ sel_
  rw [bd_bd]
  congr 1
  funext b
  rw [bd_bd]
  rfl
/-- which line it is -/
theorem lin_i {tk : Nat → TK_} {Z : ZT_} {a : Nat} {z : Int} (hz : z = ixn_ (tk a) (wix_ 3) 0) : (z = 0 → lin_ tk Z a = sln_ tk Z a) ∧ (z = 1 → lin_ tk Z a = rln_ tk Z a) ∧ (z = 2 → lin_ tk Z a = aln_ tk Z a) ∧ (z = 3 → lin_ tk Z a = vln_ tk Z a) ∧ (z = 4 → lin_ tk Z a = gln_ tk Z a) ∧ (z = 5 → lin_ tk Z a = fln_ tk Z a) ∧ (z = 6 → lin_ tk Z a = wln_ tk Z a) ∧ (z = 7 → lin_ tk Z a = uln_ tk Z a) ∧ (z < 0 ∨ 7 < z → lin_ tk Z a = .error (flt_ tk 1 a)) := by
  have e : ixn_ (tk a) (wix_ 3) 0 = if_ (isW_ (tk a) 1) 0 (if_ (isW_ (tk a) 3) 1 (if_ (isW_ (tk a) 6) 2 (if_ (isW_ (tk a) 7) 3 (if_ (isW_ (tk a) 8) 4 (if_ (isW_ (tk a) 9) 5 (if_ (isW_ (tk a) 10) 6 (if_ (isW_ (tk a) 11) 7 (-1)))))))) := rfl
  rw [e] at hz
  unfold lin_
  by_cases c1 : isW_ (tk a) 1
  · rw [if_t c1] at hz ⊢; subst hz
    refine ⟨fun u => ?_, fun u => ?_, fun u => ?_, fun u => ?_, fun u => ?_, fun u => ?_, fun u => ?_, fun u => ?_, fun u => ?_⟩ <;> first | exact absurd u (by decide) | rfl
  rw [if_f c1] at hz ⊢
  by_cases c2 : isW_ (tk a) 3
  · rw [if_t c2] at hz ⊢; subst hz
    refine ⟨fun u => ?_, fun u => ?_, fun u => ?_, fun u => ?_, fun u => ?_, fun u => ?_, fun u => ?_, fun u => ?_, fun u => ?_⟩ <;> first | exact absurd u (by decide) | rfl
  rw [if_f c2] at hz ⊢
  by_cases c3 : isW_ (tk a) 6
  · rw [if_t c3] at hz ⊢; subst hz
    refine ⟨fun u => ?_, fun u => ?_, fun u => ?_, fun u => ?_, fun u => ?_, fun u => ?_, fun u => ?_, fun u => ?_, fun u => ?_⟩ <;> first | exact absurd u (by decide) | rfl
  rw [if_f c3] at hz ⊢
  by_cases c4 : isW_ (tk a) 7
  · rw [if_t c4] at hz ⊢; subst hz
    refine ⟨fun u => ?_, fun u => ?_, fun u => ?_, fun u => ?_, fun u => ?_, fun u => ?_, fun u => ?_, fun u => ?_, fun u => ?_⟩ <;> first | exact absurd u (by decide) | rfl
  rw [if_f c4] at hz ⊢
  by_cases c5 : isW_ (tk a) 8
  · rw [if_t c5] at hz ⊢; subst hz
    refine ⟨fun u => ?_, fun u => ?_, fun u => ?_, fun u => ?_, fun u => ?_, fun u => ?_, fun u => ?_, fun u => ?_, fun u => ?_⟩ <;> first | exact absurd u (by decide) | rfl
  rw [if_f c5] at hz ⊢
  by_cases c6 : isW_ (tk a) 9
  · rw [if_t c6] at hz ⊢; subst hz
    refine ⟨fun u => ?_, fun u => ?_, fun u => ?_, fun u => ?_, fun u => ?_, fun u => ?_, fun u => ?_, fun u => ?_, fun u => ?_⟩ <;> first | exact absurd u (by decide) | rfl
  rw [if_f c6] at hz ⊢
  by_cases c7 : isW_ (tk a) 10
  · rw [if_t c7] at hz ⊢; subst hz
    refine ⟨fun u => ?_, fun u => ?_, fun u => ?_, fun u => ?_, fun u => ?_, fun u => ?_, fun u => ?_, fun u => ?_, fun u => ?_⟩ <;> first | exact absurd u (by decide) | rfl
  rw [if_f c7] at hz ⊢
  by_cases c8 : isW_ (tk a) 11
  · rw [if_t c8] at hz ⊢; subst hz
    refine ⟨fun u => ?_, fun u => ?_, fun u => ?_, fun u => ?_, fun u => ?_, fun u => ?_, fun u => ?_, fun u => ?_, fun u => ?_⟩ <;> first | exact absurd u (by decide) | rfl
  rw [if_f c8] at hz ⊢; subst hz
  refine ⟨fun u => ?_, fun u => ?_, fun u => ?_, fun u => ?_, fun u => ?_, fun u => ?_, fun u => ?_, fun u => ?_, fun u => ?_⟩ <;> first | exact absurd u (by decide) | rfl
/-- between two lines -/
def RDS_ (tp : Int → Int) (n : Int) (o : Nat) (i g : Int) (h : PH_) : Prop := (g = 1 ∧ ∃ (Z : ZT_) (a fu : Nat), rod_ (tk_ tp n) = rlp_ (tk_ tp n) fu Z a ∧ CPO_ tp n h a ∧ CZ_ Z h o a ∧ (fu : Int) + i = 1000 ∧ i < (a : Int) ∧ (a : Int) ≤ n) ∨ (g = 0 ∧ ∃ e, rod_ (tk_ tp n) = .error e ∧ h 3 3 = e ∧ 0 < e)
theorem RDS_01 {tp : Int → Int} {n : Int} {o : Nat} {i g : Int} {h : PH_} (H : RDS_ tp n o i g h) : g = 0 ∨ g = 1 := by rcases H with H | H; exact Or.inr H.1; exact Or.inl H.1
theorem RDS_go {tp : Int → Int} {n : Int} {o : Nat} {i z : Int} {Z : ZT_} {a fu : Nat} {h' : PH_} {X : LR_} (e0 : rod_ (tk_ tp n) = rlp_ (tk_ tp n) fu Z a) (hn : (tk_ tp n a).1 ≠ 0) (hf : (fu : Int) + i = 1000) (hi : i < 1000) (hai : i < (a : Int)) (n0 : 0 ≤ n ∧ n ≤ 1000) (zk : zok_ Z) (hX : lin_ (tk_ tp n) Z a = X) (R : LNR_ tp n o X z h') : RDS_ tp n o (i + 1) z h' := by
  obtain ⟨f1, rfl⟩ : ∃ f1, fu = f1 + 1 := ⟨fu - 1, by omega⟩
  rw [rlp_s hn, hX] at e0
  rcases R with ⟨rfl, q, rfl, s, k, b, c⟩ | ⟨rfl, e, x1, x2⟩
  · rw [bd_o rfl] at e0
    have e1 : rod_ (tk_ tp n) = bd_ (tks2_ (tk_ tp n) 59 q.2) (fun b => rlp_ (tk_ tp n) f1 q.1 b) := e0
    rw [bd_o (show tks2_ (tk_ tp n) 59 q.2 = .ok (q.2 + 1) by unfold tks2_; exact if_t s)] at e1
    have l := lin_z (tk_wf (tp := tp) n0.1) zk hX (by omega)
    exact Or.inl ⟨rfl, q.1, q.2 + 1, f1, e1, k, c, by omega, by omega, by omega⟩
  · refine Or.inr ⟨rfl, e, ?_, x2⟩
    rcases x1 with rfl | ⟨q, rfl, y⟩
    · rw [e0]; rfl
    · rw [bd_o rfl] at e0
      have e1 : rod_ (tk_ tp n) = bd_ (tks2_ (tk_ tp n) 59 q.2) (fun b => rlp_ (tk_ tp n) f1 q.1 b) := e0
      rw [e1]; exact bd_e y
theorem RDS_0 {tp : Int → Int} {n : Int} {o : Nat} {z : Int} {h' : PH_} (R : LNR_ tp n o (sel_ (tk_ tp n) 0) z h') : RDS_ tp n o 0 z h' := by
  have e0 := rod_s (tk_ tp n)
  rcases R with ⟨rfl, q, q1, s, k, b, c⟩ | ⟨rfl, e, x1, x2⟩
  · rw [bd_o q1] at e0
    have e1 : rod_ (tk_ tp n) = bd_ (tks2_ (tk_ tp n) 59 q.2) (fun b => rlp_ (tk_ tp n) 1000 q.1 b) := e0
    rw [bd_o (show tks2_ (tk_ tp n) 59 q.2 = .ok (q.2 + 1) by unfold tks2_; exact if_t s)] at e1
    exact Or.inl ⟨rfl, q.1, q.2 + 1, 1000, e1, k, c, by omega, by omega, by omega⟩
  · refine Or.inr ⟨rfl, e, ?_, x2⟩
    rcases x1 with x1 | ⟨q, q1, y⟩
    · rw [bd_e x1] at e0; exact e0
    · rw [bd_o q1] at e0
      have e1 : rod_ (tk_ tp n) = bd_ (tks2_ (tk_ tp n) 59 q.2) (fun b => rlp_ (tk_ tp n) 1000 q.1 b) := e0
      rw [e1]; exact bd_e y
def RLD_ (o : Nat) : List Nat := [1, 3, o, o + 1, o + 2, o + 3, o + 4, o + 5, o + 6, o + 7, o + 8, o + 9, o + 12, o + 13, o + 15]
/-- what the class's reading of a road does -/
def RDO_ (tp : Int → Int) (n : Int) (o : Nat) (h : PH_) (z : Int) (h' : PH_) : Prop := off_ (RLD_ o) h h' ∧ h' 1 2 = 0 ∧ ((∃ Z a, rod_ (tk_ tp n) = .ok Z ∧ z = 0 ∧ CZ_ Z h' o a ∧ a ≤ 1000) ∨ (rod_ (tk_ tp n) = .error z ∧ 0 < z))
theorem ckd_0 (s : Int) (h : 0 ≤ s ∧ s ≤ 4) : ckd_ s = 0 ↔ s = 0 := by
  unfold ckd_
  constructor
  · intro u; split at u <;> (try split at u) <;> (try split at u) <;> (try split at u) <;> omega
  · intro u; subst u; rfl
theorem tk_01 {tp : Int → Int} {n : Int} (a : Nat) : 0 ≤ (tk_ tp n a).1 ∧ (tk_ tp n a).1 ≤ 4 := by
  show 0 ≤ tso_ tp n _ ∧ tso_ tp n _ ≤ 4
  unfold tso_
  generalize tpl_ tp n (tkp_ tp n a) = p
  by_cases c0 : n ≤ p
  · rw [if_t c0]; omega
  rw [if_f c0]
  by_cases c1 : let_ (tp p)
  · rw [if_t c1]; split <;> omega
  rw [if_f c1]
  by_cases c2 : dig_ (tp p)
  · rw [if_t c2]; split <;> omega
  rw [if_f c2]
  by_cases c3 : sof_ (tp p)
  · rw [if_t c3]; omega
  · rw [if_f c3]; omega
theorem RLC_D {o : Nat} : ∀ i, i ∈ RLC_ o → i ∈ RLD_ o := by
  intro i hi
  simp only [RLC_, List.mem_cons, List.not_mem_nil, or_false] at hi
  simp only [RLD_, List.mem_cons, List.not_mem_nil, or_false]
  omega

set_option maxHeartbeats 4000000 in
set_option maxRecDepth 100000 in
theorem d_seatsLine {G : GT_} (hC : okC_ G) (h : PH_) (tp : Int → Int) (n : Int) (o : Nat) (ho : is6_ o) (a : Nat) (H : CPO_ tp n h a) (hland : h 3 1 = (o : Int)) (hcl : CL0_ h o) : PC G yX5_seatsLine cX5_seatsLine 1 (some .boolean) 7 [rr_ G 3] h (qi_ (fun z h' => LNF_ o h h' ∧ LNR_ tp n o (sel_ (tk_ tp n) a) z h')) := by
  have HB := CPO_b H
  have hl_h := hland
  have N : LNF_ o h h := LNF_rf
  refine PC.of (lv := [some (rr_ G 3)]) (by decide +kernel) (Nat.le_of_ble_eq_true rfl) rfl rfl ?_
  refine pw_aload_n (z := 3) (pc := 0) dX5_seatsLine_0 rfl rfl ?_
  refine pw_ldcs 2 (pc := 1) dX5_seatsLine_1 rfl ?_
  refine pw_callV (c := 5) (o := 3) (As := [rr_ G 3002]) (rest := []) (pc := 3) dX5_seatsLine_3 (d_takeWord hC h tp n (a) H 2 (by decide) (by decide)) lX5_143 mX5_takeWord vX5_takeWord (hC 3 (by decide)) (show kd_ 3 = 15 by decide +kernel) rfl rfl rfl (by decide) ⟨Nat.zero_le _, Nat.zero_le _⟩ (Nat.le_of_ble_eq_true rfl) (k_i (fun z3 h3 y3 q3 => ?_))
  replace q3 := And.intro q3.1 (CPR_d q3.2)
  obtain ⟨f3, ⟨rfl, p3⟩ | ⟨rfl, p3⟩⟩ := q3
  · have N3 : LNF_ o h h3 := LNF_tr N (LNF_3 f3 (by simp))
    rw [tkws_1 (w := 0) (by decide +kernel)] at p3
    obtain ⟨b3, t3, H3⟩ := p3
    obtain ⟨be3, we3⟩ := tkw_o t3
    have bn3 := tk_lt HB.1.1 (show (tk_ tp n (a)).1 ≠ 0 by rw [we3.1]; decide)
    subst be3
    have hl_h3 : h3 3 1 = (o : Int) := by rw [f3.2.1 1 (by simp)]; exact hl_h
    have p3 := t3
    refine pw_if_eq (t := 18) (pc := 6) dX5_seatsLine_6 (by decide) (by first | omega) (fun c6 => absurd c6 (by decide)) (fun _ => ?_)
    refine pw_aload_n (z := 3) (pc := 9) dX5_seatsLine_9 rfl rfl ?_
    refine pw_iconst (pc := 10) dX5_seatsLine_10 ?_
    refine pw_iconst (pc := 11) dX5_seatsLine_11 ?_
    refine pw_callV (c := 5) (o := 3) (As := [ii_ 2, ii_ 4]) (rest := []) (pc := 12) dX5_seatsLine_12 (d_takeNum hC h3 tp n (a + 1) H3 2 (4) (by first | omega) (by first | omega)) lX5_147 mX5_takeNumber vX5_takeNumber (hC 3 (by decide)) (show kd_ 3 = 15 by decide +kernel) rfl rfl rfl (by decide) ⟨Nat.zero_le _, Nat.zero_le _⟩ (Nat.le_of_ble_eq_true rfl) (k_i (fun z12 h12 y12 q12 => ?_))
    replace q12 := (⟨q12.1, CPN_d q12.2⟩ : _ ∧ _)
    obtain ⟨f12, ⟨rfl, p12⟩ | ⟨rfl, p12⟩⟩ := q12
    · have N12 : LNF_ o h h12 := LNF_tr N3 (LNF_3 f12 (by simp))
      obtain ⟨⟨s12, b12⟩, t12, H12, n12⟩ := p12
      have H12 : CPO_ tp n h12 b12 := H12
      have n12 : h12 3 4 = s12 := n12
      obtain ⟨sb12, be12, te12⟩ := tkn_o t12
      have sb12 : 2 ≤ s12 ∧ s12 ≤ 4 := sb12
      have be12 : b12 = a + 1 + 1 := be12
      have hl_h12 : h12 3 1 = (o : Int) := by rw [f12.2.1 1 (by simp)]; exact hl_h3
      have bn12 := tk_lt HB.1.1 (show (tk_ tp n (a + 1)).1 ≠ 0 by rw [te12]; decide)
      have p12 := t12
      subst be12
      refine pw_if_ne (t := 20) (pc := 15) dX5_seatsLine_15 (by decide) (by first | omega) (fun _ => ?_) (fun c15 => absurd c15 (by decide))
      refine pw_aload_n (z := 3) (pc := 20) dX5_seatsLine_20 rfl rfl ?_
      refine pw_gD (x := 1) (r := o) (pc := 21) dX5_seatsLine_21 fX5_94 (hC 3 (by decide)) (show kd_ 3 = 15 by decide +kernel) rfl rfl hl_h12 ?_
      refine pw_aload_n (z := 3) (pc := 24) dX5_seatsLine_24 rfl rfl ?_
      refine pw_gI (x := 4) (pc := 25) dX5_seatsLine_25 fX5_118 (hC 3 (by decide)) (show kd_ 3 = 15 by decide +kernel) rfl rfl (fun r25 => ?_)
      rw [n12]
      refine pw_pI (x := 0) (pc := 28) dX5_seatsLine_28 fX5_151 (hC _ (by omega)) (kd6_0 ho) rfl rfl (by first | omega) ?_
      obtain ⟨g28, e28⟩ : ∃ x, x = up_ h12 o 0 s12 := ⟨_, rfl⟩
      refine pw_heq e28 ?_
      have hl_g28 : g28 3 1 = (o : Int) := by rw [e28, up_off (by omega)]; exact hl_h12
      have Hg28 : CPO_ tp n g28 (a + 1 + 1) := CPO_mv H12 (by rw [e28, up_off (by omega)]) (by rw [e28, up_off (by omega)]) (by rw [e28, up_off (by omega)])
      have Ng28 : LNF_ o h g28 := LNF_tr N12 (by rw [e28]; exact LNF_u (by simp [RLC_]) (by omega) (by omega))
      refine pw_aload_n (z := 3) (pc := 31) dX5_seatsLine_31 rfl rfl ?_
      refine pw_bipush (pc := 32) dX5_seatsLine_32 rfl ?_
      refine pw_callV (c := 5) (o := 3) (As := [ii_ 59]) (rest := []) (pc := 34) dX5_seatsLine_34 (d_takeSign hC g28 tp n (a + 1 + 1) Hg28 59 (by first | omega)) lX5_154 mX5_takeSign vX5_takeSign (hC 3 (by decide)) (show kd_ 3 = 15 by decide +kernel) rfl rfl rfl (by decide) ⟨Nat.zero_le _, Nat.zero_le _⟩ (Nat.le_of_ble_eq_true rfl) (k_i (fun z34 h34 y34 q34 => ?_))
      replace q34 := And.intro q34.1 (CPR_w q34.2)
      obtain ⟨f34, x34⟩ := q34
      have z01 : z34 = 0 ∨ z34 = 1 := by rcases x34 with x | x <;> omega
      exact pw_zret (pc := 37) dX5_seatsLine_37 (by first | omega) (by
                skip
                have XL := (show sel_ (tk_ tp n) a = .ok ((ob_ ro0_ 0 s12, [], none, [], 0), a + 2) by unfold sel_; rw [bd_o t3]; exact bd_o t12)
                have CL := (show CZ_ (ob_ ro0_ 0 s12, [], none, [], 0) g28 o (a + 2) by rw [e28]; exact CZ_0 ho (CL0_f ho hcl (off_tr (off_mo f3.1 (by simp)) (off_mo f12.1 (by simp)))) sb12)
                refine ⟨LNF_tr Ng28 (LNF_3 f34 (by simp)), ?_⟩
                rcases x34 with ⟨rfl, b, b1, b2⟩ | ⟨rfl, e, x1, x2⟩
                · obtain ⟨rfl, s⟩ := tks2_o b1
                  have bn := tk_lt HB.1.1 (show (tk_ tp n (a + 2)).1 ≠ 0 from fun u => absurd (s.1.symm.trans u) (by decide))
                  exact Or.inl ⟨rfl, _, XL, s, b2, by show ((a + 2 : Nat) : Int) + 1 ≤ n; omega, CZ_f ho CL f34.1 (by show a + 2 ≤ a + 2 + 1; omega)⟩
                · exact Or.inr ⟨rfl, e, Or.inr ⟨_, XL, x1⟩, x2⟩)
    · have N12 : LNF_ o h h12 := LNF_tr N3 (LNF_3 f12 (by simp))
      refine pw_if_ne (t := 20) (pc := 15) dX5_seatsLine_15 (by decide) (by first | omega) (fun c15 => absurd c15 (by decide)) (fun _ => ?_)
      refine pw_iconst (pc := 18) dX5_seatsLine_18 ?_
      exact pw_zret (pc := 19) dX5_seatsLine_19 (by first | omega) (⟨N12, Or.inr ⟨rfl, by obtain ⟨e, x1, x2⟩ := p12; exact ⟨e, Or.inl (by unfold sel_; rw [bd_o t3]; exact bd_e x1), x2⟩⟩⟩)
  · have N3 : LNF_ o h h3 := LNF_tr N (LNF_3 f3 (by simp))
    rw [tkws_1 (w := 0) (by decide +kernel)] at p3
    refine pw_if_eq (t := 18) (pc := 6) dX5_seatsLine_6 (by decide) (by first | omega) (fun _ => ?_) (fun c6 => absurd c6 (by decide))
    refine pw_iconst (pc := 18) dX5_seatsLine_18 ?_
    exact pw_zret (pc := 19) dX5_seatsLine_19 (by first | omega) (⟨N3, Or.inr ⟨rfl, by obtain ⟨e, x1, x2⟩ := p3; exact ⟨e, Or.inl (by unfold sel_; exact bd_e x1), x2⟩⟩⟩)

set_option maxHeartbeats 4000000 in
set_option maxRecDepth 100000 in
theorem d_readRoad {G : GT_} (hC : okC_ G) (h : PH_) (o : Nat) (ho : is6_ o) (tp : Int → Int) (n : Int) (H : CTP_ tp n h) : PC G yX5_readRoad cX5_readRoad 4 (some .int) 45 [rr_ G 3, rr_ G o] h (qi_ (fun z h' => RDO_ tp n o h z h')) := by
  have hn := H.2.1
  refine PC.of (lv := [some (rr_ G 3), some (rr_ G o), none, none]) (by decide +kernel) (Nat.le_of_ble_eq_true rfl) rfl rfl ?_
  refine pw_aload_n (z := 3) (pc := 0) dX5_readRoad_0 rfl rfl ?_
  refine pw_aload_n (z := o) (pc := 1) dX5_readRoad_1 rfl rfl ?_
  refine pw_callV (c := 5) (o := 3) (As := [rr_ G o]) (rest := []) (pc := 2) dX5_readRoad_2 (d_rbegin hC h o ho tp n H) lX5_21 mX5_begin vX5_begin (hC 3 (by decide)) (show kd_ 3 = 15 by decide +kernel) rfl rfl rfl (by decide) ⟨Nat.zero_le _, Nat.zero_le _⟩ (Nat.le_of_ble_eq_true rfl) (k_v (fun h2 q2 => ?_))
  obtain ⟨f2, -, l2, k2⟩ := q2
  refine pw_aload_n (z := o) (pc := 5) dX5_readRoad_5 rfl rfl ?_
  refine pw_callV (c := 6) (o := o) (As := []) (rest := []) (pc := 6) dX5_readRoad_6 (d_clear hC h2 o ho) lX5_25 mX6_clear vX6_clear (hC _ (by omega)) (kd6_0 ho) rfl rfl rfl (by decide) ⟨Nat.zero_le _, Nat.zero_le _⟩ (Nat.le_of_ble_eq_true rfl) (k_v (fun h6 q6 => ?_))
  obtain ⟨f6, c6⟩ := q6
  have H6 : CPO_ tp n h6 0 := CPO_mv k2 (f6 1 (by simp; omega)) (f6 2 (by simp; omega)) (by rw [f6 3 (by simp; omega)])
  have l6 : h6 3 1 = (o : Int) := by rw [f6 3 (by simp; omega)]; exact l2
  refine pw_aload_n (z := 3) (pc := 9) dX5_readRoad_9 rfl rfl ?_
  refine pw_callV (c := 5) (o := 3) (As := []) (rest := []) (pc := 10) dX5_readRoad_10 (d_seatsLine hC h6 tp n o ho 0 H6 l6 c6) lX5_30 mX5_seatsLine vX5_seatsLine (hC 3 (by decide)) (show kd_ 3 = 15 by decide +kernel) rfl rfl rfl (by decide) ⟨Nat.zero_le _, Nat.zero_le _⟩ (Nat.le_of_ble_eq_true rfl) (k_i (fun z10 h10 y10 q10 => ?_))
  obtain ⟨f10, x10⟩ := q10
  have S10 := RDS_0 x10
  have z01 := RDS_01 S10
  have L10 : h10 3 1 = (o : Int) := by rw [f10.2.1 1 (by decide) (by decide) (by decide) (by decide)]; exact l6
  have F10 : off_ (RLD_ o) h h10 := off_tr (off_tr (off_mo f2 (by simp [RLD_])) (off_mo f6 (by simp [RLD_]))) (off_mo f10.1 RLC_D)
  refine pw_istore_n (lv1 := [some (rr_ G 3), some (rr_ G o), some (ii_ z10), none]) (pc := 13) dX5_readRoad_13 rfl (by decide) rfl rfl ?_
  refine pw_iconst (pc := 14) dX5_readRoad_14 ?_
  refine pw_istore_n (lv1 := [some (rr_ G 3), some (rr_ G o), some (ii_ z10), some (ii_ 0)]) (pc := 15) dX5_readRoad_15 rfl (by decide) rfl rfl ?_
  have L16 : ∀ (nn : Nat) (gd : Int) (i : Int) (hq : PH_), (0 ≤ i ∧ i ≤ 1000) → (gd = 0 ∨ gd = 1) → (RDS_ tp n o i gd hq) → (hq 3 1 = (o : Int)) → (off_ (RLD_ o) h hq) → ((1001 - i : Int) ≤ nn) → PW G RX5 cX5_readRoad 4 (some .int) (rm_ 45) 0 0 (zm_ G (qi_ (fun z h' => RDO_ tp n o h z h'))) 16 [some (rr_ G 3), some (rr_ G o), some (ii_ gd), some (ii_ i)] [] hq := by
    intro nn
    induction nn with
    | zero => intro gd i hq ai a01 ast alq aF ams; exfalso; omega
    | succ nn ih16 =>
      intro gd i hq ai a01 ast alq aF ams
      refine pw_iload_n (z := gd) (pc := 16) dX5_readRoad_16 rfl rfl ?_
      refine pw_if_eq (t := 168) (pc := 17) dX5_readRoad_17 (by decide) (by first | omega) (fun c17 => ?_) (fun c17 => ?_)
      · refine pw_aload_n (z := 3) (pc := 168) dX5_readRoad_168 rfl rfl ?_
        refine pw_getR (r := 1) (pc := 169) dX5_readRoad_169 fX5_17 (hC 3 (by decide)) (show kd_ 3 = 15 by decide +kernel) rfl (by decide +kernel) ?_
        refine pw_callV (c := 8) (o := 1) (As := []) (rest := []) (pc := 172) dX5_readRoad_172 (d_tclear hC hq) lX5_74 mX8_clear vX8_clear (hC 1 (by decide)) (show kd_ 1 = 18 by decide +kernel) rfl rfl rfl (by decide) ⟨Nat.zero_le _, Nat.zero_le _⟩ (Nat.le_of_ble_eq_true rfl) (k_v (fun h172 q172 => ?_))
        obtain ⟨f172, t172⟩ := q172
        refine pw_aload_n (z := 3) (pc := 175) dX5_readRoad_175 rfl rfl ?_
        refine pw_gI (x := 3) (pc := 176) dX5_readRoad_176 fX5_75 (hC 3 (by decide)) (show kd_ 3 = 15 by decide +kernel) rfl rfl (fun r176 => ?_)
        have n_h172_3_3 : h172 3 3 = hq 3 3 := (congrFun (f172 3 (by first | decide | (simp; done) | (simp; omega))) 3)
        rw [n_h172_3_3] at r176 ⊢
        exact pw_iret (pc := 179) dX5_readRoad_179 (by first | omega | (simp only [n_h172_3_3]; omega)) (⟨off_tr aF (off_mo f172 (by simp [RLD_])), t172, by
                  rcases ast with ⟨g1, Z, a, fu, aX, aHq, aZ, afu, aia, ana⟩ | ⟨g0, e, x1, x2, x3⟩
                  · left
                    have k : hq 1 3 = 0 ∨ 1000 ≤ i := by first | exact Or.inl c27 | exact Or.inr c34 | (exfalso; omega)
                    have HB := CPO_b aHq
                    rcases k with k | k
                    · have k0 := ckd_0 (tk_ tp n a).1 (tk_01 a)
                      rw [← HB.2.2.2.2.1.1] at k0
                      exact ⟨Z, a, aX.trans (rlp_0 (k0.mp k)), HB.2.2.2.2.2.2.2, CZ_f ho aZ (off_mo f172 (by simp)) (Nat.le_refl a), by omega⟩
                    · exfalso; omega
                  · right; rw [x2]; exact ⟨x1, x3⟩⟩)
      · obtain ⟨hgd, Z, a, fu, aX, aHq, aZ, afu, aia, ana⟩ : gd = 1 ∧ ∃ (Z : ZT_) (a fu : Nat), rod_ (tk_ tp n) = rlp_ (tk_ tp n) fu Z a ∧ CPO_ tp n hq a ∧ CZ_ Z hq o a ∧ (fu : Int) + i = 1000 ∧ i < (a : Int) ∧ (a : Int) ≤ n := by rcases ast with u | u; exact u; exact absurd u.1 c17
        have HBq := CPO_b aHq
        have k0 := ckd_0 (tk_ tp n a).1 (tk_01 a)
        rw [← HBq.2.2.2.2.1.1] at k0
        refine pw_aload_n (z := 3) (pc := 20) dX5_readRoad_20 rfl rfl ?_
        refine pw_getR (r := 1) (pc := 21) dX5_readRoad_21 fX5_17 (hC 3 (by decide)) (show kd_ 3 = 15 by decide +kernel) rfl (by decide +kernel) ?_
        refine pw_gI (x := 3) (pc := 24) dX5_readRoad_24 fX5_34 (hC 1 (by decide)) (show kd_ 1 = 18 by decide +kernel) rfl rfl (fun r24 => ?_)
        refine pw_if_eq (t := 168) (pc := 27) dX5_readRoad_27 (by decide) (by first | omega) (fun c27 => ?_) (fun c27 => ?_)
        · refine pw_aload_n (z := 3) (pc := 168) dX5_readRoad_168 rfl rfl ?_
          refine pw_getR (r := 1) (pc := 169) dX5_readRoad_169 fX5_17 (hC 3 (by decide)) (show kd_ 3 = 15 by decide +kernel) rfl (by decide +kernel) ?_
          refine pw_callV (c := 8) (o := 1) (As := []) (rest := []) (pc := 172) dX5_readRoad_172 (d_tclear hC hq) lX5_74 mX8_clear vX8_clear (hC 1 (by decide)) (show kd_ 1 = 18 by decide +kernel) rfl rfl rfl (by decide) ⟨Nat.zero_le _, Nat.zero_le _⟩ (Nat.le_of_ble_eq_true rfl) (k_v (fun h172 q172 => ?_))
          obtain ⟨f172, t172⟩ := q172
          refine pw_aload_n (z := 3) (pc := 175) dX5_readRoad_175 rfl rfl ?_
          refine pw_gI (x := 3) (pc := 176) dX5_readRoad_176 fX5_75 (hC 3 (by decide)) (show kd_ 3 = 15 by decide +kernel) rfl rfl (fun r176 => ?_)
          have n_h172_3_3 : h172 3 3 = hq 3 3 := (congrFun (f172 3 (by first | decide | (simp; done) | (simp; omega))) 3)
          rw [n_h172_3_3] at r176 ⊢
          exact pw_iret (pc := 179) dX5_readRoad_179 (by first | omega | (simp only [n_h172_3_3]; omega)) (⟨off_tr aF (off_mo f172 (by simp [RLD_])), t172, by
                    rcases ast with ⟨g1, Z, a, fu, aX, aHq, aZ, afu, aia, ana⟩ | ⟨g0, e, x1, x2, x3⟩
                    · left
                      have k : hq 1 3 = 0 ∨ 1000 ≤ i := by first | exact Or.inl c27 | exact Or.inr c34 | (exfalso; omega)
                      have HB := CPO_b aHq
                      rcases k with k | k
                      · have k0 := ckd_0 (tk_ tp n a).1 (tk_01 a)
                        rw [← HB.2.2.2.2.1.1] at k0
                        exact ⟨Z, a, aX.trans (rlp_0 (k0.mp k)), HB.2.2.2.2.2.2.2, CZ_f ho aZ (off_mo f172 (by simp)) (Nat.le_refl a), by omega⟩
                      · exfalso; omega
                    · right; rw [x2]; exact ⟨x1, x3⟩⟩)
        · refine pw_iload_n (z := i) (pc := 30) dX5_readRoad_30 rfl rfl ?_
          refine pw_sipush (pc := 31) dX5_readRoad_31 rfl ?_
          refine pw_icmp_ge (t := 168) (pc := 34) dX5_readRoad_34 (by decide) (by first | omega) (by first | omega) (fun c34 => ?_) (fun c34 => ?_)
          · refine pw_aload_n (z := 3) (pc := 168) dX5_readRoad_168 rfl rfl ?_
            refine pw_getR (r := 1) (pc := 169) dX5_readRoad_169 fX5_17 (hC 3 (by decide)) (show kd_ 3 = 15 by decide +kernel) rfl (by decide +kernel) ?_
            refine pw_callV (c := 8) (o := 1) (As := []) (rest := []) (pc := 172) dX5_readRoad_172 (d_tclear hC hq) lX5_74 mX8_clear vX8_clear (hC 1 (by decide)) (show kd_ 1 = 18 by decide +kernel) rfl rfl rfl (by decide) ⟨Nat.zero_le _, Nat.zero_le _⟩ (Nat.le_of_ble_eq_true rfl) (k_v (fun h172 q172 => ?_))
            obtain ⟨f172, t172⟩ := q172
            refine pw_aload_n (z := 3) (pc := 175) dX5_readRoad_175 rfl rfl ?_
            refine pw_gI (x := 3) (pc := 176) dX5_readRoad_176 fX5_75 (hC 3 (by decide)) (show kd_ 3 = 15 by decide +kernel) rfl rfl (fun r176 => ?_)
            have n_h172_3_3 : h172 3 3 = hq 3 3 := (congrFun (f172 3 (by first | decide | (simp; done) | (simp; omega))) 3)
            rw [n_h172_3_3] at r176 ⊢
            exact pw_iret (pc := 179) dX5_readRoad_179 (by first | omega | (simp only [n_h172_3_3]; omega)) (⟨off_tr aF (off_mo f172 (by simp [RLD_])), t172, by
                      rcases ast with ⟨g1, Z, a, fu, aX, aHq, aZ, afu, aia, ana⟩ | ⟨g0, e, x1, x2, x3⟩
                      · left
                        have k : hq 1 3 = 0 ∨ 1000 ≤ i := by first | exact Or.inl c27 | exact Or.inr c34 | (exfalso; omega)
                        have HB := CPO_b aHq
                        rcases k with k | k
                        · have k0 := ckd_0 (tk_ tp n a).1 (tk_01 a)
                          rw [← HB.2.2.2.2.1.1] at k0
                          exact ⟨Z, a, aX.trans (rlp_0 (k0.mp k)), HB.2.2.2.2.2.2.2, CZ_f ho aZ (off_mo f172 (by simp)) (Nat.le_refl a), by omega⟩
                        · exfalso; omega
                      · right; rw [x2]; exact ⟨x1, x3⟩⟩)
          · have ne : (tk_ tp n a).1 ≠ 0 := fun u => c27 (k0.mpr u)
            refine pw_aload_n (z := 3) (pc := 37) dX5_readRoad_37 rfl rfl ?_
            refine pw_getR (r := 1) (pc := 38) dX5_readRoad_38 fX5_17 (hC 3 (by decide)) (show kd_ 3 = 15 by decide +kernel) rfl (by decide +kernel) ?_
            refine pw_ldcs 3 (pc := 41) dX5_readRoad_41 rfl ?_
            refine pw_callV (c := 8) (o := 1) (As := [rr_ G 3003]) (rest := []) (pc := 43) dX5_readRoad_43 (d_wordAmong hC hq 3 (by decide) (by decide) (tk_ tp n a) HBq.2.2.2.2.1 (CPO_lk aHq)) lX5_42 mX8_wordAmong vX8_wordAmong (hC 1 (by decide)) (show kd_ 1 = 18 by decide +kernel) rfl rfl rfl (by decide) ⟨Nat.zero_le _, Nat.zero_le _⟩ (Nat.le_of_ble_eq_true rfl) (k_i (fun z43 h43 y43 q43 => ?_))
            obtain ⟨rfl, w43⟩ := q43
            have li := lin_i (tk := tk_ tp n) (Z := Z) (a := a) w43
            have ib := ixn_b (t := tk_ tp n a) (wix_ 3) 0 (by decide)
            have sw46 : z43 = 0 ∨ z43 = 1 ∨ z43 = 2 ∨ z43 = 3 ∨ z43 = 4 ∨ z43 = 5 ∨ z43 = 6 ∨ z43 = 7 ∨ (z43 < 0 ∨ 7 < z43) := by omega
            rcases sw46 with sw46 | sw46 | sw46 | sw46 | sw46 | sw46 | sw46 | sw46 | sw46
            · refine pw_tableIn (t := 92) (off := 46) (pc := 46) dX5_readRoad_46 (by first | omega) (by omega) (by omega) (by rw [sw46]; rfl) (by decide) ?_
              refine pw_aload_n (z := 3) (pc := 92) dX5_readRoad_92 rfl rfl ?_
              refine pw_callV (c := 5) (o := 3) (As := []) (rest := []) (pc := 93) dX5_readRoad_93 (d_stretchLine hC hq tp n o ho a aHq alq Z aZ ne) lX5_46 mX5_stretchLine vX5_stretchLine (hC 3 (by decide)) (show kd_ 3 = 15 by decide +kernel) rfl rfl rfl (by decide) ⟨Nat.zero_le _, Nat.zero_le _⟩ (Nat.le_of_ble_eq_true rfl) (k_i (fun z93 h93 y93 q93 => ?_))
              obtain ⟨f93, x93⟩ := q93
              have S93 := RDS_go aX ne afu (by omega) aia HBq.1 aZ.2.2.2.2.2.2.2 (li.1 sw46) x93
              have z01 := RDS_01 S93
              have L93 : h93 3 1 = (o : Int) := by rw [f93.2.1 1 (by decide) (by decide) (by decide) (by decide)]; exact alq
              have F93 : off_ (RLD_ o) h h93 := off_tr aF (off_mo f93.1 RLC_D)
              refine pw_istore_n (lv1 := [some (rr_ G 3), some (rr_ G o), some (ii_ z93), some (ii_ i)]) (pc := 96) dX5_readRoad_96 rfl (by decide) rfl rfl ?_
              refine pw_goto (t := 162) (pc := 97) dX5_readRoad_97 (by decide) ?_
              refine pw_iinc (z := i) (lv1 := [some (rr_ G 3), some (rr_ G o), some (ii_ z93), some (ii_ (i + 1))]) (pc := 162) dX5_readRoad_162 rfl (by decide) rfl rfl ?_
              refine pw_goto (t := 16) (pc := 165) dX5_readRoad_165 (by decide) ?_
              exact ih16 _ _ _ (by omega) (by first | exact z01 | exact Or.inl rfl) (by first | exact S93 | exact S101 | exact S109 | exact S117 | exact S125 | exact S133 | exact S141 | exact S149 | exact S158) (by first | exact L93 | exact L101 | exact L109 | exact L117 | exact L125 | exact L133 | exact L141 | exact L149 | exact L158) (by first | exact F93 | exact F101 | exact F109 | exact F117 | exact F125 | exact F133 | exact F141 | exact F149 | exact F158) (by omega)
            · refine pw_tableIn (t := 100) (off := 54) (pc := 46) dX5_readRoad_46 (by first | omega) (by omega) (by omega) (by rw [sw46]; rfl) (by decide) ?_
              refine pw_aload_n (z := 3) (pc := 100) dX5_readRoad_100 rfl rfl ?_
              refine pw_callV (c := 5) (o := 3) (As := []) (rest := []) (pc := 101) dX5_readRoad_101 (d_riderLine hC hq tp n o ho a aHq alq Z aZ ne) lX5_49 mX5_riderLine vX5_riderLine (hC 3 (by decide)) (show kd_ 3 = 15 by decide +kernel) rfl rfl rfl (by decide) ⟨Nat.zero_le _, Nat.zero_le _⟩ (Nat.le_of_ble_eq_true rfl) (k_i (fun z101 h101 y101 q101 => ?_))
              obtain ⟨f101, x101⟩ := q101
              have S101 := RDS_go aX ne afu (by omega) aia HBq.1 aZ.2.2.2.2.2.2.2 (li.2.1 sw46) x101
              have z01 := RDS_01 S101
              have L101 : h101 3 1 = (o : Int) := by rw [f101.2.1 1 (by decide) (by decide) (by decide) (by decide)]; exact alq
              have F101 : off_ (RLD_ o) h h101 := off_tr aF (off_mo f101.1 RLC_D)
              refine pw_istore_n (lv1 := [some (rr_ G 3), some (rr_ G o), some (ii_ z101), some (ii_ i)]) (pc := 104) dX5_readRoad_104 rfl (by decide) rfl rfl ?_
              refine pw_goto (t := 162) (pc := 105) dX5_readRoad_105 (by decide) ?_
              refine pw_iinc (z := i) (lv1 := [some (rr_ G 3), some (rr_ G o), some (ii_ z101), some (ii_ (i + 1))]) (pc := 162) dX5_readRoad_162 rfl (by decide) rfl rfl ?_
              refine pw_goto (t := 16) (pc := 165) dX5_readRoad_165 (by decide) ?_
              exact ih16 _ _ _ (by omega) (by first | exact z01 | exact Or.inl rfl) (by first | exact S93 | exact S101 | exact S109 | exact S117 | exact S125 | exact S133 | exact S141 | exact S149 | exact S158) (by first | exact L93 | exact L101 | exact L109 | exact L117 | exact L125 | exact L133 | exact L141 | exact L149 | exact L158) (by first | exact F93 | exact F101 | exact F109 | exact F117 | exact F125 | exact F133 | exact F141 | exact F149 | exact F158) (by omega)
            · refine pw_tableIn (t := 108) (off := 62) (pc := 46) dX5_readRoad_46 (by first | omega) (by omega) (by omega) (by rw [sw46]; rfl) (by decide) ?_
              refine pw_aload_n (z := 3) (pc := 108) dX5_readRoad_108 rfl rfl ?_
              refine pw_callV (c := 5) (o := 3) (As := []) (rest := []) (pc := 109) dX5_readRoad_109 (d_apartLine hC hq tp n o ho a aHq alq Z aZ ne) lX5_52 mX5_apartLine vX5_apartLine (hC 3 (by decide)) (show kd_ 3 = 15 by decide +kernel) rfl rfl rfl (by decide) ⟨Nat.zero_le _, Nat.zero_le _⟩ (Nat.le_of_ble_eq_true rfl) (k_i (fun z109 h109 y109 q109 => ?_))
              obtain ⟨f109, x109⟩ := q109
              have S109 := RDS_go aX ne afu (by omega) aia HBq.1 aZ.2.2.2.2.2.2.2 (li.2.2.1 sw46) x109
              have z01 := RDS_01 S109
              have L109 : h109 3 1 = (o : Int) := by rw [f109.2.1 1 (by decide) (by decide) (by decide) (by decide)]; exact alq
              have F109 : off_ (RLD_ o) h h109 := off_tr aF (off_mo f109.1 RLC_D)
              refine pw_istore_n (lv1 := [some (rr_ G 3), some (rr_ G o), some (ii_ z109), some (ii_ i)]) (pc := 112) dX5_readRoad_112 rfl (by decide) rfl rfl ?_
              refine pw_goto (t := 162) (pc := 113) dX5_readRoad_113 (by decide) ?_
              refine pw_iinc (z := i) (lv1 := [some (rr_ G 3), some (rr_ G o), some (ii_ z109), some (ii_ (i + 1))]) (pc := 162) dX5_readRoad_162 rfl (by decide) rfl rfl ?_
              refine pw_goto (t := 16) (pc := 165) dX5_readRoad_165 (by decide) ?_
              exact ih16 _ _ _ (by omega) (by first | exact z01 | exact Or.inl rfl) (by first | exact S93 | exact S101 | exact S109 | exact S117 | exact S125 | exact S133 | exact S141 | exact S149 | exact S158) (by first | exact L93 | exact L101 | exact L109 | exact L117 | exact L125 | exact L133 | exact L141 | exact L149 | exact L158) (by first | exact F93 | exact F101 | exact F109 | exact F117 | exact F125 | exact F133 | exact F141 | exact F149 | exact F158) (by omega)
            · refine pw_tableIn (t := 116) (off := 70) (pc := 46) dX5_readRoad_46 (by first | omega) (by omega) (by omega) (by rw [sw46]; rfl) (by decide) ?_
              refine pw_aload_n (z := 3) (pc := 116) dX5_readRoad_116 rfl rfl ?_
              refine pw_callV (c := 5) (o := 3) (As := []) (rest := []) (pc := 117) dX5_readRoad_117 (d_neverLine hC hq tp n o ho a aHq alq Z aZ ne) lX5_55 mX5_neverLine vX5_neverLine (hC 3 (by decide)) (show kd_ 3 = 15 by decide +kernel) rfl rfl rfl (by decide) ⟨Nat.zero_le _, Nat.zero_le _⟩ (Nat.le_of_ble_eq_true rfl) (k_i (fun z117 h117 y117 q117 => ?_))
              obtain ⟨f117, x117⟩ := q117
              have S117 := RDS_go aX ne afu (by omega) aia HBq.1 aZ.2.2.2.2.2.2.2 (li.2.2.2.1 sw46) x117
              have z01 := RDS_01 S117
              have L117 : h117 3 1 = (o : Int) := by rw [f117.2.1 1 (by decide) (by decide) (by decide) (by decide)]; exact alq
              have F117 : off_ (RLD_ o) h h117 := off_tr aF (off_mo f117.1 RLC_D)
              refine pw_istore_n (lv1 := [some (rr_ G 3), some (rr_ G o), some (ii_ z117), some (ii_ i)]) (pc := 120) dX5_readRoad_120 rfl (by decide) rfl rfl ?_
              refine pw_goto (t := 162) (pc := 121) dX5_readRoad_121 (by decide) ?_
              refine pw_iinc (z := i) (lv1 := [some (rr_ G 3), some (rr_ G o), some (ii_ z117), some (ii_ (i + 1))]) (pc := 162) dX5_readRoad_162 rfl (by decide) rfl rfl ?_
              refine pw_goto (t := 16) (pc := 165) dX5_readRoad_165 (by decide) ?_
              exact ih16 _ _ _ (by omega) (by first | exact z01 | exact Or.inl rfl) (by first | exact S93 | exact S101 | exact S109 | exact S117 | exact S125 | exact S133 | exact S141 | exact S149 | exact S158) (by first | exact L93 | exact L101 | exact L109 | exact L117 | exact L125 | exact L133 | exact L141 | exact L149 | exact L158) (by first | exact F93 | exact F101 | exact F109 | exact F117 | exact F125 | exact F133 | exact F141 | exact F149 | exact F158) (by omega)
            · refine pw_tableIn (t := 124) (off := 78) (pc := 46) dX5_readRoad_46 (by first | omega) (by omega) (by omega) (by rw [sw46]; rfl) (by decide) ?_
              refine pw_aload_n (z := 3) (pc := 124) dX5_readRoad_124 rfl rfl ?_
              refine pw_callV (c := 5) (o := 3) (As := []) (rest := []) (pc := 125) dX5_readRoad_125 (d_gapLine hC hq tp n o ho a aHq alq Z aZ ne) lX5_58 mX5_gapLine vX5_gapLine (hC 3 (by decide)) (show kd_ 3 = 15 by decide +kernel) rfl rfl rfl (by decide) ⟨Nat.zero_le _, Nat.zero_le _⟩ (Nat.le_of_ble_eq_true rfl) (k_i (fun z125 h125 y125 q125 => ?_))
              obtain ⟨f125, x125⟩ := q125
              have S125 := RDS_go aX ne afu (by omega) aia HBq.1 aZ.2.2.2.2.2.2.2 (li.2.2.2.2.1 sw46) x125
              have z01 := RDS_01 S125
              have L125 : h125 3 1 = (o : Int) := by rw [f125.2.1 1 (by decide) (by decide) (by decide) (by decide)]; exact alq
              have F125 : off_ (RLD_ o) h h125 := off_tr aF (off_mo f125.1 RLC_D)
              refine pw_istore_n (lv1 := [some (rr_ G 3), some (rr_ G o), some (ii_ z125), some (ii_ i)]) (pc := 128) dX5_readRoad_128 rfl (by decide) rfl rfl ?_
              refine pw_goto (t := 162) (pc := 129) dX5_readRoad_129 (by decide) ?_
              refine pw_iinc (z := i) (lv1 := [some (rr_ G 3), some (rr_ G o), some (ii_ z125), some (ii_ (i + 1))]) (pc := 162) dX5_readRoad_162 rfl (by decide) rfl rfl ?_
              refine pw_goto (t := 16) (pc := 165) dX5_readRoad_165 (by decide) ?_
              exact ih16 _ _ _ (by omega) (by first | exact z01 | exact Or.inl rfl) (by first | exact S93 | exact S101 | exact S109 | exact S117 | exact S125 | exact S133 | exact S141 | exact S149 | exact S158) (by first | exact L93 | exact L101 | exact L109 | exact L117 | exact L125 | exact L133 | exact L141 | exact L149 | exact L158) (by first | exact F93 | exact F101 | exact F109 | exact F117 | exact F125 | exact F133 | exact F141 | exact F149 | exact F158) (by omega)
            · refine pw_tableIn (t := 132) (off := 86) (pc := 46) dX5_readRoad_46 (by first | omega) (by omega) (by omega) (by rw [sw46]; rfl) (by decide) ?_
              refine pw_aload_n (z := 3) (pc := 132) dX5_readRoad_132 rfl rfl ?_
              refine pw_callV (c := 5) (o := 3) (As := []) (rest := []) (pc := 133) dX5_readRoad_133 (d_fightLine hC hq tp n o ho a aHq alq Z aZ ne) lX5_61 mX5_fightLine vX5_fightLine (hC 3 (by decide)) (show kd_ 3 = 15 by decide +kernel) rfl rfl rfl (by decide) ⟨Nat.zero_le _, Nat.zero_le _⟩ (Nat.le_of_ble_eq_true rfl) (k_i (fun z133 h133 y133 q133 => ?_))
              obtain ⟨f133, x133⟩ := q133
              have S133 := RDS_go aX ne afu (by omega) aia HBq.1 aZ.2.2.2.2.2.2.2 (li.2.2.2.2.2.1 sw46) x133
              have z01 := RDS_01 S133
              have L133 : h133 3 1 = (o : Int) := by rw [f133.2.1 1 (by decide) (by decide) (by decide) (by decide)]; exact alq
              have F133 : off_ (RLD_ o) h h133 := off_tr aF (off_mo f133.1 RLC_D)
              refine pw_istore_n (lv1 := [some (rr_ G 3), some (rr_ G o), some (ii_ z133), some (ii_ i)]) (pc := 136) dX5_readRoad_136 rfl (by decide) rfl rfl ?_
              refine pw_goto (t := 162) (pc := 137) dX5_readRoad_137 (by decide) ?_
              refine pw_iinc (z := i) (lv1 := [some (rr_ G 3), some (rr_ G o), some (ii_ z133), some (ii_ (i + 1))]) (pc := 162) dX5_readRoad_162 rfl (by decide) rfl rfl ?_
              refine pw_goto (t := 16) (pc := 165) dX5_readRoad_165 (by decide) ?_
              exact ih16 _ _ _ (by omega) (by first | exact z01 | exact Or.inl rfl) (by first | exact S93 | exact S101 | exact S109 | exact S117 | exact S125 | exact S133 | exact S141 | exact S149 | exact S158) (by first | exact L93 | exact L101 | exact L109 | exact L117 | exact L125 | exact L133 | exact L141 | exact L149 | exact L158) (by first | exact F93 | exact F101 | exact F109 | exact F117 | exact F125 | exact F133 | exact F141 | exact F149 | exact F158) (by omega)
            · refine pw_tableIn (t := 140) (off := 94) (pc := 46) dX5_readRoad_46 (by first | omega) (by omega) (by omega) (by rw [sw46]; rfl) (by decide) ?_
              refine pw_aload_n (z := 3) (pc := 140) dX5_readRoad_140 rfl rfl ?_
              refine pw_callV (c := 5) (o := 3) (As := []) (rest := []) (pc := 141) dX5_readRoad_141 (d_worthLine hC hq tp n o ho a aHq alq Z aZ ne) lX5_64 mX5_worthLine vX5_worthLine (hC 3 (by decide)) (show kd_ 3 = 15 by decide +kernel) rfl rfl rfl (by decide) ⟨Nat.zero_le _, Nat.zero_le _⟩ (Nat.le_of_ble_eq_true rfl) (k_i (fun z141 h141 y141 q141 => ?_))
              obtain ⟨f141, x141⟩ := q141
              have S141 := RDS_go aX ne afu (by omega) aia HBq.1 aZ.2.2.2.2.2.2.2 (li.2.2.2.2.2.2.1 sw46) x141
              have z01 := RDS_01 S141
              have L141 : h141 3 1 = (o : Int) := by rw [f141.2.1 1 (by decide) (by decide) (by decide) (by decide)]; exact alq
              have F141 : off_ (RLD_ o) h h141 := off_tr aF (off_mo f141.1 RLC_D)
              refine pw_istore_n (lv1 := [some (rr_ G 3), some (rr_ G o), some (ii_ z141), some (ii_ i)]) (pc := 144) dX5_readRoad_144 rfl (by decide) rfl rfl ?_
              refine pw_goto (t := 162) (pc := 145) dX5_readRoad_145 (by decide) ?_
              refine pw_iinc (z := i) (lv1 := [some (rr_ G 3), some (rr_ G o), some (ii_ z141), some (ii_ (i + 1))]) (pc := 162) dX5_readRoad_162 rfl (by decide) rfl rfl ?_
              refine pw_goto (t := 16) (pc := 165) dX5_readRoad_165 (by decide) ?_
              exact ih16 _ _ _ (by omega) (by first | exact z01 | exact Or.inl rfl) (by first | exact S93 | exact S101 | exact S109 | exact S117 | exact S125 | exact S133 | exact S141 | exact S149 | exact S158) (by first | exact L93 | exact L101 | exact L109 | exact L117 | exact L125 | exact L133 | exact L141 | exact L149 | exact L158) (by first | exact F93 | exact F101 | exact F109 | exact F117 | exact F125 | exact F133 | exact F141 | exact F149 | exact F158) (by omega)
            · refine pw_tableIn (t := 148) (off := 102) (pc := 46) dX5_readRoad_46 (by first | omega) (by omega) (by omega) (by rw [sw46]; rfl) (by decide) ?_
              refine pw_aload_n (z := 3) (pc := 148) dX5_readRoad_148 rfl rfl ?_
              refine pw_callV (c := 5) (o := 3) (As := []) (rest := []) (pc := 149) dX5_readRoad_149 (d_ruleLine hC hq tp n o ho a aHq alq Z aZ ne) lX5_67 mX5_ruleLine vX5_ruleLine (hC 3 (by decide)) (show kd_ 3 = 15 by decide +kernel) rfl rfl rfl (by decide) ⟨Nat.zero_le _, Nat.zero_le _⟩ (Nat.le_of_ble_eq_true rfl) (k_i (fun z149 h149 y149 q149 => ?_))
              obtain ⟨f149, x149⟩ := q149
              have S149 := RDS_go aX ne afu (by omega) aia HBq.1 aZ.2.2.2.2.2.2.2 (li.2.2.2.2.2.2.2.1 sw46) x149
              have z01 := RDS_01 S149
              have L149 : h149 3 1 = (o : Int) := by rw [f149.2.1 1 (by decide) (by decide) (by decide) (by decide)]; exact alq
              have F149 : off_ (RLD_ o) h h149 := off_tr aF (off_mo f149.1 RLC_D)
              refine pw_istore_n (lv1 := [some (rr_ G 3), some (rr_ G o), some (ii_ z149), some (ii_ i)]) (pc := 152) dX5_readRoad_152 rfl (by decide) rfl rfl ?_
              refine pw_goto (t := 162) (pc := 153) dX5_readRoad_153 (by decide) ?_
              refine pw_iinc (z := i) (lv1 := [some (rr_ G 3), some (rr_ G o), some (ii_ z149), some (ii_ (i + 1))]) (pc := 162) dX5_readRoad_162 rfl (by decide) rfl rfl ?_
              refine pw_goto (t := 16) (pc := 165) dX5_readRoad_165 (by decide) ?_
              exact ih16 _ _ _ (by omega) (by first | exact z01 | exact Or.inl rfl) (by first | exact S93 | exact S101 | exact S109 | exact S117 | exact S125 | exact S133 | exact S141 | exact S149 | exact S158) (by first | exact L93 | exact L101 | exact L109 | exact L117 | exact L125 | exact L133 | exact L141 | exact L149 | exact L158) (by first | exact F93 | exact F101 | exact F109 | exact F117 | exact F125 | exact F133 | exact F141 | exact F149 | exact F158) (by omega)
            · refine pw_tableOut (t := 156) (pc := 46) dX5_readRoad_46 (by first | omega) sw46 (by decide) ?_
              refine pw_aload_n (z := 3) (pc := 156) dX5_readRoad_156 rfl rfl ?_
              refine pw_iconst (pc := 157) dX5_readRoad_157 ?_
              refine pw_callV (c := 5) (o := 3) (As := [ii_ 1]) (rest := []) (pc := 158) dX5_readRoad_158 (d_wrong hC hq tp n a aHq 1 (by first | omega)) lX5_70 mX5_wrong vX5_wrong (hC 3 (by decide)) (show kd_ 3 = 15 by decide +kernel) rfl rfl rfl (by decide) ⟨Nat.zero_le _, Nat.zero_le _⟩ (Nat.le_of_ble_eq_true rfl) (k_i (fun z158 h158 y158 q158 => ?_))
              obtain ⟨f158, x158, rfl⟩ := q158
              have fp158 := flt_p (tp := tp) (a := a) HBq.1 (w := 1) (by omega)
              have S158 := RDS_go (o := o) (z := 0) (h' := h158) aX ne afu (by omega) aia HBq.1 aZ.2.2.2.2.2.2.2 (li.2.2.2.2.2.2.2.2 sw46) (Or.inr ⟨rfl, _, Or.inl rfl, x158, fp158.1⟩)
              have L158 : h158 3 1 = (o : Int) := by rw [f158.2.1 1 (by simp)]; exact alq
              have F158 : off_ (RLD_ o) h h158 := off_tr aF (off_mo f158.1 (by simp [RLD_]))
              refine pw_istore_n (lv1 := [some (rr_ G 3), some (rr_ G o), some (ii_ 0), some (ii_ i)]) (pc := 161) dX5_readRoad_161 rfl (by decide) rfl rfl ?_
              refine pw_iinc (z := i) (lv1 := [some (rr_ G 3), some (rr_ G o), some (ii_ 0), some (ii_ (i + 1))]) (pc := 162) dX5_readRoad_162 rfl (by decide) rfl rfl ?_
              refine pw_goto (t := 16) (pc := 165) dX5_readRoad_165 (by decide) ?_
              exact ih16 _ _ _ (by omega) (by first | exact z01 | exact Or.inl rfl) (by first | exact S93 | exact S101 | exact S109 | exact S117 | exact S125 | exact S133 | exact S141 | exact S149 | exact S158) (by first | exact L93 | exact L101 | exact L109 | exact L117 | exact L125 | exact L133 | exact L141 | exact L149 | exact L158) (by first | exact F93 | exact F101 | exact F109 | exact F117 | exact F125 | exact F133 | exact F141 | exact F149 | exact F158) (by omega)
  exact L16 _ _ _ _ (by omega) (z01) (S10) (L10) (F10) (Int.self_le_toNat _)

