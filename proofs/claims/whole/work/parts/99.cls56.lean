theorem or_4 {v w m : Int} (h0 : 0 ≤ v ∧ v ≤ 15) (hm : 0 ≤ m ∧ m < 4) (e : w = ((v.toNat ||| ((2 : Int) ^ m.toNat).toNat : Nat) : Int)) : (0 ≤ w ∧ w ≤ 15) ∧ ∀ q : Int, 0 ≤ q → (w / 2 ^ q.toNat % 2 = 1 ↔ v / 2 ^ q.toNat % 2 = 1 ∨ m = q) := by
  have e2 : ((2 : Int) ^ m.toNat).toNat = 2 ^ m.toNat := by rw [pc_]; exact Int.toNat_natCast _
  have b : v.toNat ||| 2 ^ m.toNat < 2 ^ 4 := Nat.or_lt_two_pow (by omega) (Nat.pow_lt_pow_right (by decide) (by omega))
  have i := or_i (v := v) (w := w) (m := m) (by omega) (by omega) e
  rw [e2] at e
  exact ⟨by omega, i.2⟩
theorem CZ_apart {Z : ZT_} {h h' : PH_} {o a b : Nat} {u v A B : Int} (ho : is6_ o) (H : CZ_ Z h o a) (hu : 0 ≤ u ∧ u < 4) (hv : 0 ≤ v ∧ v < 4) (huv : u ≠ v) (f : off_ [1, 3, o + 6] h h') (e6 : h' (o + 6) = ob_ (ob_ (h (o + 6)) u A) v B) (hA : A = (((h (o + 6) u).toNat ||| ((2 : Int) ^ v.toNat).toNat : Nat) : Int)) (hB : B = (((h (o + 6) v).toNat ||| ((2 : Int) ^ u.toNat).toNat : Nat) : Int)) (hz : zok_ (ob_ (ob_ Z.1 (47 + 4 * u + v) 1) (47 + 4 * v + u) 1, Z.2)) (hab : a ≤ b) : CZ_ (ob_ (ob_ Z.1 (47 + 4 * u + v) 1) (47 + 4 * v + u) 1, Z.2) h' o b := by
  have e : ∀ i, i ≠ 1 → i ≠ 3 → i ≠ o + 6 → h' i = h i := fun i i1 i3 i6 => f i (by simp; exact ⟨i1, i3, i6⟩)
  obtain ⟨z1, z2, z3, z4, z5, z6, z7, z8⟩ := H
  have er : ∀ k, k < 47 → ob_ (ob_ Z.1 (47 + 4 * u + v) 1) (47 + 4 * v + u) 1 k = Z.1 k := fun k hk => by unfold ob_; rw [if_neg (by omega), if_neg (by omega)]
  have oA := or_4 ((z3.2 u hu.1 hu.2).1) hv hA
  have oB := or_4 ((z3.2 v hv.1 hv.2).1) hu hB
  have hx : ∀ r, 0 ≤ r → r < 4 → (0 ≤ h' (o + 6) r ∧ h' (o + 6) r ≤ 15) ∧ ∀ x, 0 ≤ x → x < 4 → (h' (o + 6) r / 2 ^ x.toNat % 2 = 1 ↔ ob_ (ob_ Z.1 (47 + 4 * u + v) 1) (47 + 4 * v + u) 1 (47 + 4 * r + x) = 1) := fun r r0 r1 => by
    have zr := z3.2 r r0 r1
    rw [e6]
    show (0 ≤ (if r = v then B else if r = u then A else h (o + 6) r) ∧ (if r = v then B else if r = u then A else h (o + 6) r) ≤ 15) ∧ ∀ x, 0 ≤ x → x < 4 → ((if r = v then B else if r = u then A else h (o + 6) r) / 2 ^ x.toNat % 2 = 1 ↔ (if 47 + 4 * r + x = 47 + 4 * v + u then 1 else if 47 + 4 * r + x = 47 + 4 * u + v then 1 else Z.1 (47 + 4 * r + x)) = 1)
    by_cases c1 : r = v
    · rw [if_pos c1]
      refine ⟨oB.1, fun x x0 x1 => ?_⟩
      rw [oB.2 x x0, c1]
      by_cases c2 : u = x
      · rw [if_pos (by omega)]; exact ⟨fun _ => rfl, fun _ => Or.inr c2⟩
      · rw [if_neg (by omega), if_neg (by omega)]
        have := (z3.2 v hv.1 hv.2).2 x x0 x1
        exact ⟨fun q => q.elim this.mp (fun q => absurd q c2), fun q => Or.inl (this.mpr q)⟩
    · rw [if_neg c1]
      by_cases c3 : r = u
      · rw [if_pos c3]
        refine ⟨oA.1, fun x x0 x1 => ?_⟩
        rw [oA.2 x x0, c3]
        by_cases c2 : v = x
        · rw [if_neg (by omega), if_pos (by omega)]; exact ⟨fun _ => rfl, fun _ => Or.inr c2⟩
        · rw [if_neg (by omega), if_neg (by omega)]
          have := (z3.2 u hu.1 hu.2).2 x x0 x1
          exact ⟨fun q => q.elim this.mp (fun q => absurd q c2), fun q => Or.inl (this.mpr q)⟩
      · rw [if_neg c3]
        refine ⟨zr.1, fun x x0 x1 => ?_⟩
        rw [if_neg (by omega), if_neg (by omega)]; exact zr.2 x x0 x1
  refine ⟨?_, ?_, ?_, ?_, CWQ_mv z5 (e _ (by omega) (by omega) (by omega)) (e _ (by omega) (by omega) (by omega)) (e _ (by omega) (by omega) (by omega)) (by rw [e _ (by omega) (by omega) (by omega)]), by rw [e _ (by omega) (by omega) (by omega)]; omega, by rw [e _ (by omega) (by omega) (by omega)]; exact z7, hz⟩
  · obtain ⟨⟨c0, c1, c2, c4, c5⟩, cb, ct, cr, ca⟩ := z1
    show CRD_ (ob_ (ob_ Z.1 (47 + 4 * u + v) 1) (47 + 4 * v + u) 1) _ _
    unfold CRD_
    rw [e o (by omega) (by omega) (by omega), er 0 (by decide), er 1 (by decide), er 2 (by decide), er 4 (by decide), er 10 (by decide), e (o + 1) (by omega) (by omega) (by omega), e (o + 3) (by omega) (by omega) (by omega), e (o + 4) (by omega) (by omega) (by omega), e (o + 5) (by omega) (by omega) (by omega), e (o + 7) (by omega) (by omega) (by omega)]
    refine ⟨⟨c0, c1, c2, c4, c5⟩, cb, fun t w t0 t1 w0 w1 => by rw [er _ (by omega)]; exact ct t w t0 t1 w0 w1, fun r r0 r1 => by rw [er _ (by omega), er _ (by omega), er _ (by omega), er _ (by omega)]; exact cr r r0 r1, fun r x r0 r1 x0 x1 => ?_⟩
    have q := (hx r r0 (by omega)).2 x x0 (by omega)
    have ab := hz.2.2.2.1 (47 + 4 * r + x) (by omega) (by omega)
    have ab : ob_ (ob_ Z.1 (47 + 4 * u + v) 1) (47 + 4 * v + u) 1 (47 + 4 * r + x) = 0 ∨ ob_ (ob_ Z.1 (47 + 4 * u + v) 1) (47 + 4 * v + u) 1 (47 + 4 * r + x) = 1 := ab
    constructor
    · intro y
      rcases ab with ab | ab
      · exact ab
      · have := q.mpr ab; omega
    · intro y
      rcases Int.emod_two_eq (h' (o + 6) r / 2 ^ x.toNat) with g | g
      · exact g
      · have := q.mp g; omega
  · rw [e o (by omega) (by omega) (by omega)]; exact ⟨by rw [z2.1]; exact (er 3 (by decide)).symm, z2.2⟩
  · refine ⟨fun r r0 r1 => ?_, hx⟩
    rw [e (o + 7) (by omega) (by omega) (by omega)]
    show _ = ob_ (ob_ Z.1 (47 + 4 * u + v) 1) (47 + 4 * v + u) 1 (31 + 4 * r + 3)
    rw [er _ (by omega)]; exact z3.1 r r0 r1
  · show CNM_ Z.2.1 _ (ob_ (ob_ Z.1 (47 + 4 * u + v) 1) (47 + 4 * v + u) 1 2) (ob_ (ob_ Z.1 (47 + 4 * u + v) 1) (47 + 4 * v + u) 1 3)
    rw [er 2 (by decide), er 3 (by decide), e _ (by omega) (by omega) (by omega)]; exact z4
theorem CZ_stretch {Z : ZT_} {h h' : PH_} {o a b : Nat} {ro : Int → Int} (ho : is6_ o) (H : CZ_ Z h o a) (f : off_ [1, 3, o, o + 1] h h') (eo : h' o = ob_ (h o) 1 (Z.1 1 + 1)) (ek : ∀ x, x < 11 + 5 * Z.1 1 ∨ 12 + 5 * Z.1 1 + Z.1 0 ≤ x → ro x = Z.1 x) (el : ∀ x, x < 5 * Z.1 1 → h' (o + 1) x = h (o + 1) x) (en : ∀ w, 0 ≤ w → w ≤ Z.1 0 → h' (o + 1) (5 * Z.1 1 + w) = ro (11 + 5 * Z.1 1 + w)) (h4 : Z.1 1 < 4) (hz : zok_ (ob_ ro 1 (Z.1 1 + 1), Z.2)) (hab : a ≤ b) : CZ_ (ob_ ro 1 (Z.1 1 + 1), Z.2) h' o b := by
  have e : ∀ i, i ≠ 1 → i ≠ 3 → i ≠ o → i ≠ o + 1 → h' i = h i := fun i i1 i3 i0 i1' => f i (by simp; exact ⟨i1, i3, i0, i1'⟩)
  obtain ⟨z1, z2, z3, z4, z5, z6, z7, z8⟩ := H
  have zb := z8.1
  have er : ∀ k, k ≠ 1 → k < 11 + 5 * Z.1 1 ∨ 12 + 5 * Z.1 1 + Z.1 0 ≤ k → ob_ ro 1 (Z.1 1 + 1) k = Z.1 k := fun k k1 k2 => by unfold ob_; rw [if_neg k1]; exact ek k k2
  have e1 : ob_ ro 1 (Z.1 1 + 1) 1 = Z.1 1 + 1 := if_pos rfl
  have eq : ∀ k, k ≠ 1 → h' o k = h o k := fun k hk => by rw [eo]; exact if_neg hk
  refine ⟨?_, ?_, ?_, ?_, CWQ_mv z5 (e _ (by omega) (by omega) (by omega) (by omega)) (e _ (by omega) (by omega) (by omega) (by omega)) (e _ (by omega) (by omega) (by omega) (by omega)) (by rw [e _ (by omega) (by omega) (by omega) (by omega)]), by rw [e _ (by omega) (by omega) (by omega) (by omega)]; omega, by rw [e _ (by omega) (by omega) (by omega) (by omega)]; exact z7, hz⟩
  · obtain ⟨⟨c0, c1, c2, c4, c5⟩, cb, ct, cr, ca⟩ := z1
    show CRD_ (ob_ ro 1 (Z.1 1 + 1)) _ _
    unfold CRD_
    rw [eq 0 (by decide), eq 2 (by decide), eq 4 (by decide), eq 5 (by decide), e1, er 0 (by decide) (by omega), er 2 (by decide) (by omega), er 4 (by decide) (by omega), er 10 (by decide) (by omega), e (o + 3) (by omega) (by omega) (by omega) (by omega), e (o + 4) (by omega) (by omega) (by omega) (by omega), e (o + 5) (by omega) (by omega) (by omega) (by omega), e (o + 6) (by omega) (by omega) (by omega) (by omega), e (o + 7) (by omega) (by omega) (by omega) (by omega)]
    refine ⟨⟨c0, by rw [eo]; rfl, c2, c4, c5⟩, ⟨cb.1, cb.2.1, by omega, cb.2.2.2⟩, fun t w t0 t1 w0 w1 => ?_, fun r r0 r1 => by rw [er _ (by omega) (by omega), er _ (by omega) (by omega), er _ (by omega) (by omega), er _ (by omega) (by omega)]; exact cr r r0 r1, fun r x r0 r1 x0 x1 => by rw [er _ (by omega) (by omega)]; exact ca r x r0 r1 x0 x1⟩
    by_cases c : t = Z.1 1
    · rw [c, en w w0 w1]; unfold ob_; rw [if_neg (by omega)]
    · rw [el _ (by omega), er _ (by omega) (by omega)]; exact ct t w t0 (by omega) w0 w1
  · rw [eq 3 (by decide), eq 6 (by decide), eq 7 (by decide)]; exact ⟨by rw [z2.1]; exact (er 3 (by decide) (by omega)).symm, z2.2⟩
  · show CAV_ (ob_ ro 1 (Z.1 1 + 1)) _ _
    unfold CAV_ at *
    rw [e (o + 7) (by omega) (by omega) (by omega) (by omega), e (o + 6) (by omega) (by omega) (by omega) (by omega)]
    exact ⟨fun r r0 r1 => by rw [er _ (by omega) (by omega)]; exact z3.1 r r0 r1, fun r r0 r1 => ⟨(z3.2 r r0 r1).1, fun x x0 x1 => by rw [er _ (by omega) (by omega)]; exact (z3.2 r r0 r1).2 x x0 x1⟩⟩
  · show CNM_ Z.2.1 _ (ob_ ro 1 (Z.1 1 + 1) 2) (ob_ ro 1 (Z.1 1 + 1) 3)
    rw [er 2 (by decide) (by omega), er 3 (by decide) (by omega), e _ (by omega) (by omega) (by omega) (by omega)]; exact z4
theorem CZ_rider {Z : ZT_} {h h' : PH_} {o a b : Nat} {w : List Int} {nm : NM_} {k d p : Int} (ho : is6_ o) (H : CZ_ Z h o a) (f : off_ [1, 3, o, o + 2, o + 3, o + 4, o + 5] h h') (eo : h' o = ob_ (h o) 2 (Z.1 2 + 1)) (e2 : h' (o + 2) = ob_ (h (o + 2)) (Z.1 2) (enc_ 27 w)) (e3 : h' (o + 3) = ob_ (h (o + 3)) (Z.1 2) k) (e4 : h' (o + 4) = ob_ (h (o + 4)) (Z.1 2) d) (e5 : h' (o + 5) = ob_ (h (o + 5)) (Z.1 2) p) (hnm : nm = Z.2.1 ++ [(w, Z.1 2)]) (hw : lok2_ w) (hf : fnd_ Z.2.1 w < 0) (h4 : Z.1 2 < Z.1 0) (hz : zok_ (ob_ (ob_ (ob_ (ob_ Z.1 (31 + 4 * Z.1 2) k) (31 + 4 * Z.1 2 + 1) d) (31 + 4 * Z.1 2 + 2) p) 2 (Z.1 2 + 1), nm, Z.2.2)) (hab : a ≤ b) : CZ_ (ob_ (ob_ (ob_ (ob_ Z.1 (31 + 4 * Z.1 2) k) (31 + 4 * Z.1 2 + 1) d) (31 + 4 * Z.1 2 + 2) p) 2 (Z.1 2 + 1), nm, Z.2.2) h' o b := by
  have e : ∀ i, i ≠ 1 → i ≠ 3 → i ≠ o → i ≠ o + 2 → i ≠ o + 3 → i ≠ o + 4 → i ≠ o + 5 → h' i = h i := fun i i1 i3 i0 i2 i3' i4 i5 => f i (by simp; exact ⟨i1, i3, i0, i2, i3', i4, i5⟩)
  obtain ⟨z1, z2, z3, z4, z5, z6, z7, z8⟩ := H
  have zb := z8.1
  obtain ⟨ro, hro⟩ : ∃ ro, ro = ob_ (ob_ (ob_ (ob_ Z.1 (31 + 4 * Z.1 2) k) (31 + 4 * Z.1 2 + 1) d) (31 + 4 * Z.1 2 + 2) p) 2 (Z.1 2 + 1) := ⟨_, rfl⟩
  rw [← hro] at hz ⊢
  have rv : ∀ x, ro x = if x = 2 then Z.1 2 + 1 else if x = 31 + 4 * Z.1 2 + 2 then p else if x = 31 + 4 * Z.1 2 + 1 then d else if x = 31 + 4 * Z.1 2 then k else Z.1 x := fun x => by rw [hro]; rfl
  have er : ∀ x, x ≠ 2 → x < 31 + 4 * Z.1 2 ∨ 31 + 4 * Z.1 2 + 2 < x → ro x = Z.1 x := fun x x2 xx => by rw [rv, if_neg x2, if_neg (by omega), if_neg (by omega), if_neg (by omega)]
  have e1 : ro 2 = Z.1 2 + 1 := by rw [rv, if_pos rfl]
  have eq : ∀ k, k ≠ 2 → h' o k = h o k := fun k hk => by rw [eo]; exact if_neg hk
  have g1 := e (o + 1) (by omega) (by omega) (by omega) (by omega) (by omega) (by omega) (by omega)
  have g6 := e (o + 6) (by omega) (by omega) (by omega) (by omega) (by omega) (by omega) (by omega)
  have g7 := e (o + 7) (by omega) (by omega) (by omega) (by omega) (by omega) (by omega) (by omega)
  have hav : CAV_ ro h' o := by
    unfold CAV_ at *
    rw [g7, g6]
    exact ⟨fun r r0 r1 => by rw [er _ (by omega) (by omega)]; exact z3.1 r r0 r1, fun r r0 r1 => ⟨(z3.2 r r0 r1).1, fun x x0 x1 => by rw [er _ (by omega) (by omega)]; exact (z3.2 r r0 r1).2 x x0 x1⟩⟩
  refine ⟨?_, ?_, hav, ?_, CWQ_mv z5 (e _ (by omega) (by omega) (by omega) (by omega) (by omega) (by omega) (by omega)) (e _ (by omega) (by omega) (by omega) (by omega) (by omega) (by omega) (by omega)) (e _ (by omega) (by omega) (by omega) (by omega) (by omega) (by omega) (by omega)) (by rw [e _ (by omega) (by omega) (by omega) (by omega) (by omega) (by omega) (by omega)]), by rw [e _ (by omega) (by omega) (by omega) (by omega) (by omega) (by omega) (by omega)]; omega, by rw [e _ (by omega) (by omega) (by omega) (by omega) (by omega) (by omega) (by omega)]; exact z7, hz⟩
  · obtain ⟨⟨c0, c1, c2, c4, c5⟩, cb, ct, cr, ca⟩ := z1
    show CRD_ ro _ _
    unfold CRD_
    rw [eq 0 (by decide), eq 1 (by decide), eq 4 (by decide), eq 5 (by decide), e1, er 0 (by decide) (by omega), er 1 (by decide) (by omega), er 4 (by decide) (by omega), er 10 (by decide) (by omega), g1]
    refine ⟨⟨c0, c1, by rw [eo]; rfl, c4, c5⟩, ⟨cb.1, by omega, cb.2.2.1, cb.2.2.2⟩, fun t w t0 t1 w0 w1 => by rw [er _ (by omega) (by omega)]; exact ct t w t0 t1 w0 w1, fun r r0 r1 => ?_, fun r x r0 r1 x0 x1 => ?_⟩
    · by_cases c : r = Z.1 2
      · rw [e3, e4, e5, c]
        refine ⟨?_, ?_, ?_, ?_⟩
        · rw [rv, if_neg (by omega), if_neg (by omega), if_neg (by omega), if_pos rfl]; exact if_pos rfl
        · rw [rv, if_neg (by omega), if_neg (by omega), if_pos rfl]; exact if_pos rfl
        · rw [rv, if_neg (by omega), if_pos rfl]; exact if_pos rfl
        · exact hav.1 _ (by omega) (by omega)
      · have q := cr r r0 (by omega)
        have n3 : h' (o + 3) r = h (o + 3) r := by rw [e3]; exact if_neg c
        have n4 : h' (o + 4) r = h (o + 4) r := by rw [e4]; exact if_neg c
        have n5 : h' (o + 5) r = h (o + 5) r := by rw [e5]; exact if_neg c
        rw [n3, n4, n5, er (31 + 4 * r) (by omega) (by omega), er (31 + 4 * r + 1) (by omega) (by omega), er (31 + 4 * r + 2) (by omega) (by omega)]
        exact ⟨q.1, q.2.1, q.2.2.1, hav.1 r r0 (by omega)⟩
    · have q := (hav.2 r r0 (by omega)).2 x x0 (by omega)
      have ab : ro (47 + 4 * r + x) = 0 ∨ ro (47 + 4 * r + x) = 1 := hz.2.2.2.1 (47 + 4 * r + x) (by omega) (by omega)
      constructor
      · intro y
        rcases ab with ab | ab
        · exact ab
        · have := q.mpr ab; omega
      · intro y
        rcases Int.emod_two_eq (h' (o + 6) r / 2 ^ x.toNat) with g | g
        · exact g
        · have := q.mp g; omega
  · rw [eq 3 (by decide), eq 6 (by decide), eq 7 (by decide)]; exact ⟨by rw [z2.1]; exact (er 3 (by decide) (by omega)).symm, z2.2⟩
  · show CNM_ nm _ (ro 2) (ro 3)
    rw [e1, er 3 (by decide) (by omega), e2, hnm]
    exact CNM_rider z4 (by omega) hw hf

set_option maxHeartbeats 4000000 in
set_option maxRecDepth 100000 in
theorem d_apartLine {G : GT_} (hC : okC_ G) (h : PH_) (tp : Int → Int) (n : Int) (o : Nat) (ho : is6_ o) (a : Nat) (H : CPO_ tp n h a) (hland : h 3 1 = (o : Int)) (Z : ZT_) (hZ : CZ_ Z h o a) (hne : (tk_ tp n a).1 ≠ 0) : PC G yX5_apartLine cX5_apartLine 2 (some .boolean) 9 [rr_ G 3] h (qi_ (fun z h' => LNF_ o h h' ∧ LNR_ tp n o (aln_ (tk_ tp n) Z a) z h')) := by
  have HB := CPO_b H
  have hl_h := hland
  have HA := hZ.1.1
  have zk := hZ.2.2.2.2.2.2.2
  have zb := zk.1
  have an := tk_lt HB.1.1 hne
  have av := hZ.2.2.1.2
  refine PC.of (lv := [some (rr_ G 3), none]) (by decide +kernel) (Nat.le_of_ble_eq_true rfl) rfl rfl ?_
  refine pw_aload_n (z := 3) (pc := 0) dX5_apartLine_0 rfl rfl ?_
  refine pw_getR (r := 1) (pc := 1) dX5_apartLine_1 fX5_17 (hC 3 (by decide)) (show kd_ 3 = 15 by decide +kernel) rfl (by decide +kernel) ?_
  refine pw_callV (c := 8) (o := 1) (As := []) (rest := []) (pc := 4) dX5_apartLine_4 (d_step hC h tp n HB.2.2.2.2.2.1 (a + 1) HB.2.2.2.2.2.2.1) lX5_111 mX8_step vX8_step (hC 1 (by decide)) (show kd_ 1 = 18 by decide +kernel) rfl rfl rfl (by decide) ⟨Nat.zero_le _, Nat.zero_le _⟩ (Nat.le_of_ble_eq_true rfl) (k_v (fun h4 q4 => ?_))
  obtain ⟨f4, k4, p4⟩ := q4
  obtain ⟨H4, F4⟩ := CPO_st H f4 k4 p4
  have hl_h4 : h4 3 1 = (o : Int) := by rw [F4.2.1 1 (by simp)]; exact hland
  have N4 : LNF_ o h h4 := LNF_3 F4 (by simp)
  have NM4 : CNM_ Z.2.1 (h4 (o + 2)) (Z.1 2) (Z.1 3) := by rw [f4 (o + 2) (by simp)]; exact hZ.2.2.2.1
  have RR4 : h4 o 2 = Z.1 2 ∧ 0 ≤ Z.1 2 ∧ Z.1 2 ≤ 4 := by rw [f4 o (by simp; omega)]; omega
  refine pw_aload_n (z := 3) (pc := 7) dX5_apartLine_7 rfl rfl ?_
  refine pw_callV (c := 5) (o := 3) (As := []) (rest := []) (pc := 8) dX5_apartLine_8 (d_takeRider hC h4 tp n o ho (a + 1) H4 hl_h4 Z.2.1 (Z.1 2) (Z.1 3) NM4 RR4) lX5_183 mX5_takeRider vX5_takeRider (hC 3 (by decide)) (show kd_ 3 = 15 by decide +kernel) rfl rfl rfl (by decide) ⟨Nat.zero_le _, Nat.zero_le _⟩ (Nat.le_of_ble_eq_true rfl) (k_i (fun z8 h8 y8 q8 => ?_))
  replace q8 := (⟨q8.1, CPK_d q8.2⟩ : _ ∧ _)
  obtain ⟨f8, ⟨rfl, p8⟩ | ⟨rfl, p8⟩⟩ := q8
  · have N8 : LNF_ o h h8 := LNF_tr N4 (LNF_3 f8 (by simp))
    obtain ⟨⟨u8, b8⟩, t8, H8, n8⟩ := p8
    have H8 : CPO_ tp n h8 b8 := H8
    have n8 : h8 3 5 = u8 := n8
    obtain ⟨w8, r8, k8⟩ := bd_ok t8
    have k8 : (Except.ok (w8, a + 1 + 1) : RE_ (Int × Nat)) = .ok (u8, b8) := k8
    obtain ⟨rfl, rfl⟩ : w8 = u8 ∧ a + 1 + 1 = b8 := by injection k8 with k8; injection k8 with k1 k2; exact ⟨k1, k2⟩
    obtain ⟨ub8, un8, uf8⟩ := rdh_o r8
    have hl_h8 : h8 3 1 = (o : Int) := by rw [f8.2.1 1 (by simp)]; exact hl_h4
    have bn8 := tk_lt HB.1.1 (show (tk_ tp n (a + 1)).1 ≠ 0 by rw [un8.1]; decide)
    have NM8 : CNM_ Z.2.1 (h8 (o + 2)) (Z.1 2) (Z.1 3) := by rw [f8.1 (o + 2) (by simp; omega)]; exact NM4
    have RR8 : h8 o 2 = Z.1 2 ∧ 0 ≤ Z.1 2 ∧ Z.1 2 ≤ 4 := by rw [f8.1 o (by simp; omega)]; exact RR4
    have n8 : h8 3 5 = w8 := n8
    have p8 := t8
    refine pw_if_ne (t := 16) (pc := 11) dX5_apartLine_11 (by decide) (by first | omega) (fun _ => ?_) (fun c11 => absurd c11 (by decide))
    refine pw_aload_n (z := 3) (pc := 16) dX5_apartLine_16 rfl rfl ?_
    refine pw_gI (x := 5) (pc := 17) dX5_apartLine_17 fX5_138 (hC 3 (by decide)) (show kd_ 3 = 15 by decide +kernel) rfl rfl (fun r17 => ?_)
    rw [n8]
    refine pw_istore_n (lv1 := [some (rr_ G 3), some (ii_ w8)]) (pc := 20) dX5_apartLine_20 rfl (by decide) rfl rfl ?_
    refine pw_aload_n (z := 3) (pc := 21) dX5_apartLine_21 rfl rfl ?_
    refine pw_callV (c := 5) (o := 3) (As := []) (rest := []) (pc := 22) dX5_apartLine_22 (d_takeRider hC h8 tp n o ho (a + 1 + 1) H8 hl_h8 Z.2.1 (Z.1 2) (Z.1 3) NM8 RR8) lX5_183 mX5_takeRider vX5_takeRider (hC 3 (by decide)) (show kd_ 3 = 15 by decide +kernel) rfl rfl rfl (by decide) ⟨Nat.zero_le _, Nat.zero_le _⟩ (Nat.le_of_ble_eq_true rfl) (k_i (fun z22 h22 y22 q22 => ?_))
    replace q22 := (⟨q22.1, CPK_d q22.2⟩ : _ ∧ _)
    obtain ⟨f22, ⟨rfl, p22⟩ | ⟨rfl, p22⟩⟩ := q22
    · have N22 : LNF_ o h h22 := LNF_tr N8 (LNF_3 f22 (by simp))
      obtain ⟨⟨u22, b22⟩, t22, H22, n22⟩ := p22
      have H22 : CPO_ tp n h22 b22 := H22
      have n22 : h22 3 5 = u22 := n22
      obtain ⟨w22, r22, k22⟩ := bd_ok t22
      have k22 : (Except.ok (w22, a + 1 + 1 + 1) : RE_ (Int × Nat)) = .ok (u22, b22) := k22
      obtain ⟨rfl, rfl⟩ : w22 = u22 ∧ a + 1 + 1 + 1 = b22 := by injection k22 with k22; injection k22 with k1 k2; exact ⟨k1, k2⟩
      obtain ⟨ub22, un22, uf22⟩ := rdh_o r22
      have hl_h22 : h22 3 1 = (o : Int) := by rw [f22.2.1 1 (by simp)]; exact hl_h8
      have bn22 := tk_lt HB.1.1 (show (tk_ tp n (a + 1 + 1)).1 ≠ 0 by rw [un22.1]; decide)
      have NM22 : CNM_ Z.2.1 (h22 (o + 2)) (Z.1 2) (Z.1 3) := by rw [f22.1 (o + 2) (by simp; omega)]; exact NM8
      have RR22 : h22 o 2 = Z.1 2 ∧ 0 ≤ Z.1 2 ∧ Z.1 2 ≤ 4 := by rw [f22.1 o (by simp; omega)]; exact RR8
      have n22 : h22 3 5 = w22 := n22
      have p22 := t22
      refine pw_if_ne (t := 30) (pc := 25) dX5_apartLine_25 (by decide) (by first | omega) (fun _ => ?_) (fun c25 => absurd c25 (by decide))
      refine pw_aload_n (z := 3) (pc := 30) dX5_apartLine_30 rfl rfl ?_
      refine pw_gI (x := 5) (pc := 31) dX5_apartLine_31 fX5_138 (hC 3 (by decide)) (show kd_ 3 = 15 by decide +kernel) rfl rfl (fun r31 => ?_)
      rw [n22]
      refine pw_iload_n (z := w8) (pc := 34) dX5_apartLine_34 rfl rfl ?_
      refine pw_icmp_eq (t := 57) (pc := 35) dX5_apartLine_35 (by decide) (by first | omega) (by first | omega) (fun c35 => ?_) (fun c35 => ?_)
      · refine pw_aload_n (z := 3) (pc := 57) dX5_apartLine_57 rfl rfl ?_
        refine pw_iconst (pc := 58) dX5_apartLine_58 ?_
        refine pw_callV (c := 5) (o := 3) (As := [ii_ 3]) (rest := []) (pc := 59) dX5_apartLine_59 (d_takenW hC h22 tp n (a + 1 + 1 + 1) H22 (a + 1 + 1) rfl 3 (by first | omega)) lX5_189 mX5_takenWrong vX5_takenWrong (hC 3 (by decide)) (show kd_ 3 = 15 by decide +kernel) rfl rfl rfl (by decide) ⟨Nat.zero_le _, Nat.zero_le _⟩ (Nat.le_of_ble_eq_true rfl) (k_i (fun z59 h59 y59 q59 => ?_))
        obtain ⟨f59, x59, rfl⟩ := q59
        have fp59 := flt_p (tp := tp) (a := a + 1 + 1) HB.1 (w := 3) (by omega)
        exact pw_zret (pc := 62) dX5_apartLine_62 (by first | omega) (⟨LNF_tr N22 (LNF_3 f59 (by simp)), Or.inr ⟨rfl, _, Or.inl (by unfold aln_; rw [bd_o r8]; show bd_ (rdh_ _ _ (a + 1 + 1)) _ = _; rw [bd_o r22]; exact if_t (by first | exact Or.inl (by omega) | exact Or.inr (bit.mp (by omega)))), x59, fp59.1⟩⟩)
      · have avu := av w8 (by omega) (by omega)
        have avv := av w22 (by omega) (by omega)
        have bit := avu.2 w22 (by omega) (by omega)
        have p2u := p2m (m := w8) (by omega)
        have p2v := p2m (m := w22) (by omega)
        refine pw_aload_n (z := 3) (pc := 38) dX5_apartLine_38 rfl rfl ?_
        refine pw_gD (x := 1) (r := o) (pc := 39) dX5_apartLine_39 fX5_94 (hC 3 (by decide)) (show kd_ 3 = 15 by decide +kernel) rfl rfl hl_h22 ?_
        refine pw_getR (r := (o + 6)) (pc := 42) dX5_apartLine_42 fX5_186 (hC _ (by omega)) (kd6_0 ho) rfl rfl ?_
        refine pw_iload_n (z := w8) (pc := 45) dX5_apartLine_45 rfl rfl ?_
        refine pw_iald (pc := 46) dX5_apartLine_46 (hC _ (by omega)) (kd6_6 ho) 4 (ln6_6 ho) (by first | omega) (by first | omega) (by first | omega) (fun r46 => ?_)
        have n_h22_o_6 : h22 (o + 6) = h (o + 6) := (((show h22 (o + 6) = h8 (o + 6) from (f22.1 (o + 6) (by first | decide | (simp; done) | (simp; omega)))).trans (show h8 (o + 6) = h4 (o + 6) from (f8.1 (o + 6) (by first | decide | (simp; done) | (simp; omega))))).trans (show h4 (o + 6) = h (o + 6) from (f4 (o + 6) (by first | decide | (simp; done) | (simp; omega)))))
        rw [n_h22_o_6] at r46 ⊢
        refine pw_aload_n (z := 3) (pc := 47) dX5_apartLine_47 rfl rfl ?_
        refine pw_gI (x := 5) (pc := 48) dX5_apartLine_48 fX5_138 (hC 3 (by decide)) (show kd_ 3 = 15 by decide +kernel) rfl rfl (fun r48 => ?_)
        rw [n22]
        refine pw_ishr (pc := 51) dX5_apartLine_51 (by first | omega | (simp only [n_h22_o_6]; omega)) (by first | omega | (simp only [n_h22_o_6]; omega)) ?_
        refine pw_iconst (pc := 52) dX5_apartLine_52 ?_
        refine pw_iand1 (pc := 53) dX5_apartLine_53 ?_
        refine pw_if_eq (t := 63) (pc := 54) dX5_apartLine_54 (by decide) (by first | omega | (simp only [n_h22_o_6]; omega)) (fun c54 => ?_) (fun c54 => ?_)
        · refine pw_aload_n (z := 3) (pc := 63) dX5_apartLine_63 rfl rfl ?_
          refine pw_gD (x := 1) (r := o) (pc := 64) dX5_apartLine_64 fX5_94 (hC 3 (by decide)) (show kd_ 3 = 15 by decide +kernel) rfl rfl hl_h22 ?_
          refine pw_getR (r := (o + 6)) (pc := 67) dX5_apartLine_67 fX5_186 (hC _ (by omega)) (kd6_0 ho) rfl rfl ?_
          refine pw_iload_n (z := w8) (pc := 70) dX5_apartLine_70 rfl rfl ?_
          refine pw_dup2 (pc := 71) dX5_apartLine_71 rfl rfl ?_
          refine pw_iald (pc := 72) dX5_apartLine_72 (hC _ (by omega)) (kd6_6 ho) 4 (ln6_6 ho) (by first | omega | (simp only [n_h22_o_6]; omega)) (by first | omega | (simp only [n_h22_o_6]; omega)) (by first | omega | (simp only [n_h22_o_6]; omega)) (fun r72 => ?_)
          rw [n_h22_o_6] at r72 ⊢
          refine pw_iconst (pc := 73) dX5_apartLine_73 ?_
          refine pw_aload_n (z := 3) (pc := 74) dX5_apartLine_74 rfl rfl ?_
          refine pw_gI (x := 5) (pc := 75) dX5_apartLine_75 fX5_138 (hC 3 (by decide)) (show kd_ 3 = 15 by decide +kernel) rfl rfl (fun r75 => ?_)
          rw [n22]
          refine pw_ishl1 (pc := 78) dX5_apartLine_78 (by first | omega | (simp only [n_h22_o_6]; omega)) ?_
          refine pw_iorX (pc := 79) dX5_apartLine_79 (by first | omega | (simp only [n_h22_o_6]; omega)) (by first | omega | (simp only [n_h22_o_6]; omega)) (fun w79 r79 x79 => ?_)
          refine pw_iast (pc := 80) dX5_apartLine_80 (hC _ (by omega)) (kd6_6 ho) 4 (ln6_6 ho) (by first | omega | (simp only [n_h22_o_6]; omega)) (by first | omega | (simp only [n_h22_o_6]; omega)) (by first | omega | (simp only [n_h22_o_6]; omega)) (by first | omega | (simp only [n_h22_o_6]; omega)) ?_
          obtain ⟨g80, e80⟩ : ∃ x, x = up_ h22 (o + 6) w8 w79 := ⟨_, rfl⟩
          refine pw_heq e80 ?_
          have hl_g80 : g80 3 1 = (o : Int) := by rw [e80, up_off (by omega)]; exact hl_h22
          refine pw_aload_n (z := 3) (pc := 81) dX5_apartLine_81 rfl rfl ?_
          have n_g80_3_1 : g80 3 1 = h22 3 1 := (by rw [e80, up_off (by first | decide | omega)])
          refine pw_gD (x := 1) (r := o) (pc := 82) dX5_apartLine_82 fX5_94 (hC 3 (by decide)) (show kd_ 3 = 15 by decide +kernel) rfl rfl (n_g80_3_1.trans hl_h22) ?_
          refine pw_getR (r := (o + 6)) (pc := 85) dX5_apartLine_85 fX5_186 (hC _ (by omega)) (kd6_0 ho) rfl rfl ?_
          refine pw_aload_n (z := 3) (pc := 88) dX5_apartLine_88 rfl rfl ?_
          refine pw_gI (x := 5) (pc := 89) dX5_apartLine_89 fX5_138 (hC 3 (by decide)) (show kd_ 3 = 15 by decide +kernel) rfl rfl (fun r89 => ?_)
          have n_g80_3_5 : g80 3 5 = h22 3 5 := (by rw [e80, up_off (by first | decide | omega)])
          rw [n_g80_3_5] at r89 ⊢
          rw [n22]
          refine pw_dup2 (pc := 92) dX5_apartLine_92 rfl rfl ?_
          have v93 : g80 (o + 6) w22 = h (o + 6) w22 := by rw [e80, up_at, if_neg (by omega), f22.1 (o + 6) (by simp), f8.1 (o + 6) (by simp), f4 (o + 6) (by simp)]
          refine pw_iald (pc := 93) dX5_apartLine_93 (hC _ (by omega)) (kd6_6 ho) 4 (ln6_6 ho) (by first | omega | (simp only [n_g80_3_1, n_g80_3_5, n_h22_o_6]; omega)) (by first | omega | (simp only [n_g80_3_1, n_g80_3_5, n_h22_o_6]; omega)) (by first | omega | (simp only [n_g80_3_1, n_g80_3_5, n_h22_o_6]; omega)) (fun r93 => ?_)
          refine pw_iconst (pc := 94) dX5_apartLine_94 ?_
          refine pw_iload_n (z := w8) (pc := 95) dX5_apartLine_95 rfl rfl ?_
          refine pw_ishl1 (pc := 96) dX5_apartLine_96 (by first | omega | (simp only [n_g80_3_1, n_g80_3_5, n_h22_o_6]; omega)) ?_
          refine pw_iorX (pc := 97) dX5_apartLine_97 (by first | omega | (simp only [n_g80_3_1, n_g80_3_5, n_h22_o_6]; omega)) (by first | omega | (simp only [n_g80_3_1, n_g80_3_5, n_h22_o_6]; omega)) (fun w97 r97 x97 => ?_)
          refine pw_iast (pc := 98) dX5_apartLine_98 (hC _ (by omega)) (kd6_6 ho) 4 (ln6_6 ho) (by first | omega | (simp only [n_g80_3_1, n_g80_3_5, n_h22_o_6]; omega)) (by first | omega | (simp only [n_g80_3_1, n_g80_3_5, n_h22_o_6]; omega)) (by first | omega | (simp only [n_g80_3_1, n_g80_3_5, n_h22_o_6]; omega)) (by first | omega | (simp only [n_g80_3_1, n_g80_3_5, n_h22_o_6]; omega)) ?_
          obtain ⟨g98, e98⟩ : ∃ x, x = up_ g80 (o + 6) w22 w97 := ⟨_, rfl⟩
          refine pw_heq e98 ?_
          have Hg98 : CPO_ tp n g98 (a + 1 + 1 + 1) := CPO_mv H22 (by rw [e98, up_off (by omega), e80, up_off (by omega)]) (by rw [e98, up_off (by omega), e80, up_off (by omega)]) (by rw [e98, up_off (by omega), e80, up_off (by omega)])
          refine pw_aload_n (z := 3) (pc := 99) dX5_apartLine_99 rfl rfl ?_
          refine pw_bipush (pc := 100) dX5_apartLine_100 rfl ?_
          refine pw_callV (c := 5) (o := 3) (As := [ii_ 59]) (rest := []) (pc := 102) dX5_apartLine_102 (d_takeSign hC g98 tp n (a + 1 + 1 + 1) Hg98 59 (by first | omega | (simp only [n_g80_3_1, n_g80_3_5, n_h22_o_6]; omega))) lX5_154 mX5_takeSign vX5_takeSign (hC 3 (by decide)) (show kd_ 3 = 15 by decide +kernel) rfl rfl rfl (by decide) ⟨Nat.zero_le _, Nat.zero_le _⟩ (Nat.le_of_ble_eq_true rfl) (k_i (fun z102 h102 y102 q102 => ?_))
          replace q102 := And.intro q102.1 (CPR_w q102.2)
          obtain ⟨f102, x102⟩ := q102
          have z01 : z102 = 0 ∨ z102 = 1 := by rcases x102 with x | x <;> omega
          exact pw_zret (pc := 105) dX5_apartLine_105 (by first | omega | (simp only [n_g80_3_1, n_g80_3_5, n_h22_o_6]; omega)) (by
                    skip
                    have XL := (show aln_ (tk_ tp n) Z a = .ok ((ob_ (ob_ Z.1 (47 + 4 * w8 + w22) 1) (47 + 4 * w22 + w8) 1, Z.2), a + 3) by unfold aln_; rw [bd_o r8]; show bd_ (rdh_ _ _ (a + 1 + 1)) _ = _; rw [bd_o r22]; exact if_f (fun u => by rcases u with u | u; omega; have := bit.mpr u; omega))
                    have CL := (show CZ_ (ob_ (ob_ Z.1 (47 + 4 * w8 + w22) 1) (47 + 4 * w22 + w8) 1, Z.2) g98 o (a + 3) from CZ_apart ho hZ (by omega) (by omega) (by omega) (off_tr (off_tr (off_tr (off_mo f4 (by simp)) (off_mo f8.1 (by simp))) (off_mo f22.1 (by simp))) (by rw [e98, e80]; exact off_up (off_up off_rf (by simp)) (by simp))) (by rw [e98, up_ob, e80, up_ob, f22.1 (o + 6) (by simp), f8.1 (o + 6) (by simp), f4 (o + 6) (by simp)]) (x79 (by omega) (by omega)) (by rw [x97 (by omega) (by omega), v93]) (aln_z zk XL).1 (by omega))
                    refine ⟨LNF_tr (LNF_tr N22 (by rw [e98, e80]; exact LNF_tr (LNF_u (by simp [RLC_]) (by omega) (by omega)) (LNF_u (by simp [RLC_]) (by omega) (by omega)))) (LNF_3 f102 (by simp)), ?_⟩
                    rcases x102 with ⟨rfl, b, b1, b2⟩ | ⟨rfl, e, x1, x2⟩
                    · obtain ⟨rfl, s⟩ := tks2_o b1
                      have bn := tk_lt HB.1.1 (show (tk_ tp n (a + 3)).1 ≠ 0 from fun u => absurd (s.1.symm.trans u) (by decide))
                      exact Or.inl ⟨rfl, _, XL, s, b2, by show ((a + 3 : Nat) : Int) + 1 ≤ n; omega, CZ_f ho CL f102.1 (by show a + 3 ≤ a + 3 + 1; omega)⟩
                    · exact Or.inr ⟨rfl, e, Or.inr ⟨_, XL, x1⟩, x2⟩)
        · refine pw_aload_n (z := 3) (pc := 57) dX5_apartLine_57 rfl rfl ?_
          refine pw_iconst (pc := 58) dX5_apartLine_58 ?_
          refine pw_callV (c := 5) (o := 3) (As := [ii_ 3]) (rest := []) (pc := 59) dX5_apartLine_59 (d_takenW hC h22 tp n (a + 1 + 1 + 1) H22 (a + 1 + 1) rfl 3 (by first | omega | (simp only [n_h22_o_6]; omega))) lX5_189 mX5_takenWrong vX5_takenWrong (hC 3 (by decide)) (show kd_ 3 = 15 by decide +kernel) rfl rfl rfl (by decide) ⟨Nat.zero_le _, Nat.zero_le _⟩ (Nat.le_of_ble_eq_true rfl) (k_i (fun z59 h59 y59 q59 => ?_))
          obtain ⟨f59, x59, rfl⟩ := q59
          have fp59 := flt_p (tp := tp) (a := a + 1 + 1) HB.1 (w := 3) (by omega)
          exact pw_zret (pc := 62) dX5_apartLine_62 (by first | omega | (simp only [n_h22_o_6]; omega)) (⟨LNF_tr N22 (LNF_3 f59 (by simp)), Or.inr ⟨rfl, _, Or.inl (by unfold aln_; rw [bd_o r8]; show bd_ (rdh_ _ _ (a + 1 + 1)) _ = _; rw [bd_o r22]; exact if_t (by first | exact Or.inl (by omega) | exact Or.inr (bit.mp (by omega)))), x59, fp59.1⟩⟩)
    · have N22 : LNF_ o h h22 := LNF_tr N8 (LNF_3 f22 (by simp))
      refine pw_if_ne (t := 30) (pc := 25) dX5_apartLine_25 (by decide) (by first | omega) (fun c25 => absurd c25 (by decide)) (fun _ => ?_)
      refine pw_iconst (pc := 28) dX5_apartLine_28 ?_
      exact pw_zret (pc := 29) dX5_apartLine_29 (by first | omega) (⟨N22, Or.inr ⟨rfl, by obtain ⟨e, x1, x2⟩ := p22; exact ⟨e, Or.inl (by unfold aln_; rw [bd_o r8]; exact bd_e (trd_e x1)), x2⟩⟩⟩)
  · have N8 : LNF_ o h h8 := LNF_tr N4 (LNF_3 f8 (by simp))
    refine pw_if_ne (t := 16) (pc := 11) dX5_apartLine_11 (by decide) (by first | omega) (fun c11 => absurd c11 (by decide)) (fun _ => ?_)
    refine pw_iconst (pc := 14) dX5_apartLine_14 ?_
    exact pw_zret (pc := 15) dX5_apartLine_15 (by first | omega) (⟨N8, Or.inr ⟨rfl, by obtain ⟨e, x1, x2⟩ := p8; exact ⟨e, Or.inl (by unfold aln_; exact bd_e (trd_e x1)), x2⟩⟩⟩)

set_option maxHeartbeats 4000000 in
set_option maxRecDepth 100000 in
theorem d_stretchLine {G : GT_} (hC : okC_ G) (h : PH_) (tp : Int → Int) (n : Int) (o : Nat) (ho : is6_ o) (a : Nat) (H : CPO_ tp n h a) (hland : h 3 1 = (o : Int)) (Z : ZT_) (hZ : CZ_ Z h o a) (hne : (tk_ tp n a).1 ≠ 0) : PC G yX5_stretchLine cX5_stretchLine 3 (some .boolean) 8 [rr_ G 3] h (qi_ (fun z h' => LNF_ o h h' ∧ LNR_ tp n o (sln_ (tk_ tp n) Z a) z h')) := by
  have HB := CPO_b H
  have hl_h := hland
  have HA := hZ.1.1
  have zk := hZ.2.2.2.2.2.2.2
  have zb := zk.1
  have an := tk_lt HB.1.1 hne
  refine PC.of (lv := [some (rr_ G 3), none, none]) (by decide +kernel) (Nat.le_of_ble_eq_true rfl) rfl rfl ?_
  refine pw_aload_n (z := 3) (pc := 0) dX5_stretchLine_0 rfl rfl ?_
  refine pw_gD (x := 1) (r := o) (pc := 1) dX5_stretchLine_1 fX5_94 (hC 3 (by decide)) (show kd_ 3 = 15 by decide +kernel) rfl rfl hl_h ?_
  refine pw_gI (x := 1) (pc := 4) dX5_stretchLine_4 fX5_157 (hC _ (by omega)) (kd6_0 ho) rfl rfl (fun r4 => ?_)
  refine pw_istore_n (lv1 := [some (rr_ G 3), some (ii_ (h o 1)), none]) (pc := 7) dX5_stretchLine_7 rfl (by decide) rfl rfl ?_
  refine pw_iload_n (z := h o 1) (pc := 8) dX5_stretchLine_8 rfl rfl ?_
  refine pw_iconst (pc := 9) dX5_stretchLine_9 ?_
  refine pw_icmp_lt (t := 19) (pc := 10) dX5_stretchLine_10 (by decide) (by first | omega) (by first | omega) (fun c10 => ?_) (fun c10 => ?_)
  · refine pw_aload_n (z := 3) (pc := 19) dX5_stretchLine_19 rfl rfl ?_
    refine pw_getR (r := 1) (pc := 20) dX5_stretchLine_20 fX5_17 (hC 3 (by decide)) (show kd_ 3 = 15 by decide +kernel) rfl (by decide +kernel) ?_
    refine pw_callV (c := 8) (o := 1) (As := []) (rest := []) (pc := 23) dX5_stretchLine_23 (d_step hC h tp n HB.2.2.2.2.2.1 (a + 1) HB.2.2.2.2.2.2.1) lX5_111 mX8_step vX8_step (hC 1 (by decide)) (show kd_ 1 = 18 by decide +kernel) rfl rfl rfl (by decide) ⟨Nat.zero_le _, Nat.zero_le _⟩ (Nat.le_of_ble_eq_true rfl) (k_v (fun h23 q23 => ?_))
    obtain ⟨f23, k23, p23⟩ := q23
    obtain ⟨H23, F23⟩ := CPO_st H f23 k23 p23
    have hl_h23 : h23 3 1 = (o : Int) := by rw [F23.2.1 1 (by simp)]; exact hland
    have N23 : LNF_ o h h23 := LNF_3 F23 (by simp)
    refine pw_aload_n (z := 3) (pc := 26) dX5_stretchLine_26 rfl rfl ?_
    refine pw_iconst (pc := 27) dX5_stretchLine_27 ?_
    refine pw_bipush (pc := 28) dX5_stretchLine_28 rfl ?_
    refine pw_callV (c := 5) (o := 3) (As := [ii_ 1, ii_ 99]) (rest := []) (pc := 30) dX5_stretchLine_30 (d_takeNum hC h23 tp n (a + 1) H23 1 (99) (by first | omega) (by first | omega)) lX5_147 mX5_takeNumber vX5_takeNumber (hC 3 (by decide)) (show kd_ 3 = 15 by decide +kernel) rfl rfl rfl (by decide) ⟨Nat.zero_le _, Nat.zero_le _⟩ (Nat.le_of_ble_eq_true rfl) (k_i (fun z30 h30 y30 q30 => ?_))
    replace q30 := (⟨q30.1, CPN_d q30.2⟩ : _ ∧ _)
    obtain ⟨f30, ⟨rfl, p30⟩ | ⟨rfl, p30⟩⟩ := q30
    · have N30 : LNF_ o h h30 := LNF_tr N23 (LNF_3 f30 (by simp))
      obtain ⟨⟨s30, b30⟩, t30, H30, n30⟩ := p30
      have H30 : CPO_ tp n h30 b30 := H30
      have n30 : h30 3 4 = s30 := n30
      obtain ⟨sb30, be30, te30⟩ := tkn_o t30
      have sb30 : 1 ≤ s30 ∧ s30 ≤ 99 := sb30
      have be30 : b30 = a + 1 + 1 := be30
      have hl_h30 : h30 3 1 = (o : Int) := by rw [f30.2.1 1 (by simp)]; exact hl_h23
      have bn30 := tk_lt HB.1.1 (show (tk_ tp n (a + 1)).1 ≠ 0 by rw [te30]; decide)
      have p30 := t30
      subst be30
      refine pw_if_ne (t := 38) (pc := 33) dX5_stretchLine_33 (by decide) (by first | omega) (fun _ => ?_) (fun c33 => absurd c33 (by decide))
      refine pw_aload_n (z := 3) (pc := 38) dX5_stretchLine_38 rfl rfl ?_
      refine pw_gD (x := 1) (r := o) (pc := 39) dX5_stretchLine_39 fX5_94 (hC 3 (by decide)) (show kd_ 3 = 15 by decide +kernel) rfl rfl hl_h30 ?_
      refine pw_getR (r := (o + 1)) (pc := 42) dX5_stretchLine_42 fX5_160 (hC _ (by omega)) (kd6_0 ho) rfl rfl ?_
      refine pw_iload_n (z := h o 1) (pc := 45) dX5_stretchLine_45 rfl rfl ?_
      refine pw_iconst (pc := 46) dX5_stretchLine_46 ?_
      refine pw_imul (pc := 47) dX5_stretchLine_47 ?_
      refine pw_aload_n (z := 3) (pc := 48) dX5_stretchLine_48 rfl rfl ?_
      refine pw_gI (x := 4) (pc := 49) dX5_stretchLine_49 fX5_118 (hC 3 (by decide)) (show kd_ 3 = 15 by decide +kernel) rfl rfl (fun r49 => ?_)
      rw [n30]
      refine pw_iast (pc := 52) dX5_stretchLine_52 (hC _ (by omega)) (kd6_1 ho) 20 (ln6_1 ho) (by first | omega) (by first | omega) (by first | omega) (by first | omega) ?_
      obtain ⟨g52, e52⟩ : ∃ x, x = up_ h30 (o + 1) ((h o 1) * 5) s30 := ⟨_, rfl⟩
      refine pw_heq e52 ?_
      have hl_g52 : g52 3 1 = (o : Int) := by rw [e52, up_off (by omega)]; exact hl_h30
      have Hg52 : CPO_ tp n g52 (a + 1 + 1) := CPO_mv H30 (by rw [e52, up_off (by omega)]) (by rw [e52, up_off (by omega)]) (by rw [e52, up_off (by omega)])
      have Ng52 : LNF_ o h g52 := LNF_tr N30 (by rw [e52]; exact LNF_u (by simp [RLC_]) (by omega) (by omega))
      have Og52 : off_ [1, 3, o + 1] h g52 := off_tr (off_tr (off_mo f23 (by simp)) (off_mo f30.1 (by simp))) (by rw [e52]; exact off_up off_rf (by simp))
      have V30 : h30 (o + 1) = h (o + 1) := by rw [f30.1 (o + 1) (by simp; omega), f23 (o + 1) (by simp; omega)]
      refine pw_aload_n (z := 3) (pc := 53) dX5_stretchLine_53 rfl rfl ?_
      refine pw_ldcs 4 (pc := 54) dX5_stretchLine_54 rfl ?_
      refine pw_callV (c := 5) (o := 3) (As := [rr_ G 3004]) (rest := []) (pc := 56) dX5_stretchLine_56 (d_takeWord hC g52 tp n (a + 1 + 1) Hg52 4 (by decide) (by decide)) lX5_143 mX5_takeWord vX5_takeWord (hC 3 (by decide)) (show kd_ 3 = 15 by decide +kernel) rfl rfl rfl (by decide) ⟨Nat.zero_le _, Nat.zero_le _⟩ (Nat.le_of_ble_eq_true rfl) (k_i (fun z56 h56 y56 q56 => ?_))
      replace q56 := And.intro q56.1 (CPR_d q56.2)
      obtain ⟨f56, ⟨rfl, p56⟩ | ⟨rfl, p56⟩⟩ := q56
      · have N56 : LNF_ o h h56 := LNF_tr Ng52 (LNF_3 f56 (by simp))
        rw [tkws_1 (w := 2) (by decide +kernel)] at p56
        obtain ⟨b56, t56, H56⟩ := p56
        obtain ⟨be56, we56⟩ := tkw_o t56
        have bn56 := tk_lt HB.1.1 (show (tk_ tp n (a + 1 + 1)).1 ≠ 0 by rw [we56.1]; decide)
        subst be56
        have hl_h56 : h56 3 1 = (o : Int) := by rw [f56.2.1 1 (by simp)]; exact hl_g52
        have p56 := t56
        refine pw_if_ne (t := 64) (pc := 59) dX5_stretchLine_59 (by decide) (by first | omega) (fun _ => ?_) (fun c59 => absurd c59 (by decide))
        have V56 : ∀ x, h56 (o + 1) x = if x = h o 1 * 5 then s30 else h (o + 1) x := fun x => by rw [f56.1 (o + 1) (by simp; omega), e52, up_at, V30]
        refine pw_iconst (pc := 64) dX5_stretchLine_64 ?_
        refine pw_istore_n (lv1 := [some (rr_ G 3), some (ii_ (h o 1)), some (ii_ 0)]) (pc := 65) dX5_stretchLine_65 rfl (by decide) rfl rfl ?_
        have L66 : ∀ (nn : Nat) (s : Int) (bp : Nat) (rr : Int → Int) (hq : PH_), (0 ≤ s ∧ s ≤ Z.1 0) → (LNF_ o h hq) → (off_ [1, 3, o + 1] h hq) → (CPO_ tp n hq bp) → ((bp : Int) ≤ n) → (hq 3 1 = (o : Int)) → (stl_ (tk_ tp n) (Z.1 0 - s).toNat (12 + 5 * Z.1 1 + s) bp rr = stl_ (tk_ tp n) (Z.1 0).toNat (12 + 5 * Z.1 1) (a + 1 + 1 + 1) (ob_ Z.1 (11 + 5 * Z.1 1) s30)) → (∀ x, x < 11 + 5 * Z.1 1 ∨ 12 + 5 * Z.1 1 + s ≤ x → rr x = Z.1 x) → (∀ w, 0 ≤ w → w ≤ s → hq (o + 1) (5 * Z.1 1 + w) = rr (11 + 5 * Z.1 1 + w)) → (∀ x, x < 5 * Z.1 1 → hq (o + 1) x = h (o + 1) x) → ((Z.1 0 - s + 1 : Int) ≤ nn) → PW G RX5 cX5_stretchLine 3 (some .boolean) (rm_ 8) 0 0 (zm_ G (qi_ (fun z h' => LNF_ o h h' ∧ LNR_ tp n o (sln_ (tk_ tp n) Z a) z h'))) 66 [some (rr_ G 3), some (ii_ (h o 1)), some (ii_ s)] [] hq := by
          intro nn
          induction nn with
          | zero => intro s bp rr hq ak Nq aO aH an2 ahl aX ae aw al ams; exfalso; omega
          | succ nn ih66 =>
            intro s bp rr hq ak Nq aO aH an2 ahl aX ae aw al ams
            have Hq := aH
            have hl_hq := ahl
            have xs : sl0_ (tk_ tp n) Z.1 a = stl_ (tk_ tp n) (Z.1 0).toNat (12 + 5 * Z.1 1) (a + 1 + 1 + 1) (ob_ Z.1 (11 + 5 * Z.1 1) s30) := by unfold sl0_; rw [bd_o t30]; exact bd_o t56
            refine pw_iload_n (z := s) (pc := 66) dX5_stretchLine_66 rfl rfl ?_
            refine pw_aload_n (z := 3) (pc := 67) dX5_stretchLine_67 rfl rfl ?_
            refine pw_gD (x := 1) (r := o) (pc := 68) dX5_stretchLine_68 fX5_94 (hC 3 (by decide)) (show kd_ 3 = 15 by decide +kernel) rfl rfl hl_hq ?_
            refine pw_gI (x := 0) (pc := 71) dX5_stretchLine_71 fX5_151 (hC _ (by omega)) (kd6_0 ho) rfl rfl (fun r71 => ?_)
            have n_hq_o_0 : hq o 0 = h o 0 := (congrFun (aO o (by first | decide | (simp; done) | (simp; omega))) 0)
            rw [n_hq_o_0] at r71 ⊢
            refine pw_icmp_ge (t := 114) (pc := 74) dX5_stretchLine_74 (by decide) (by first | omega | (simp only [n_hq_o_0]; omega)) (by first | omega | (simp only [n_hq_o_0]; omega)) (fun c74 => ?_) (fun c74 => ?_)
            · refine pw_aload_n (z := 3) (pc := 114) dX5_stretchLine_114 rfl rfl ?_
              refine pw_gD (x := 1) (r := o) (pc := 115) dX5_stretchLine_115 fX5_94 (hC 3 (by decide)) (show kd_ 3 = 15 by decide +kernel) rfl rfl hl_hq ?_
              refine pw_dup (pc := 118) dX5_stretchLine_118 rfl ?_
              refine pw_gI (x := 1) (pc := 119) dX5_stretchLine_119 fX5_157 (hC _ (by omega)) (kd6_0 ho) rfl rfl (fun r119 => ?_)
              have n_hq_o_1 : hq o 1 = h o 1 := (congrFun (aO o (by first | decide | (simp; done) | (simp; omega))) 1)
              rw [n_hq_o_1] at r119 ⊢
              refine pw_iconst (pc := 122) dX5_stretchLine_122 ?_
              refine pw_iadd (pc := 123) dX5_stretchLine_123 ?_
              refine pw_pI (x := 1) (pc := 124) dX5_stretchLine_124 fX5_157 (hC _ (by omega)) (kd6_0 ho) rfl rfl (by first | omega | (simp only [n_hq_o_0, n_hq_o_1]; omega)) ?_
              obtain ⟨g124, e124⟩ : ∃ x, x = up_ hq o 1 ((h o 1) + 1) := ⟨_, rfl⟩
              refine pw_heq e124 ?_
              have Hg124 : CPO_ tp n g124 bp := CPO_mv aH (by rw [e124, up_off (by omega)]) (by rw [e124, up_off (by omega)]) (by rw [e124, up_off (by omega)])
              refine pw_aload_n (z := 3) (pc := 127) dX5_stretchLine_127 rfl rfl ?_
              refine pw_bipush (pc := 128) dX5_stretchLine_128 rfl ?_
              refine pw_callV (c := 5) (o := 3) (As := [ii_ 59]) (rest := []) (pc := 130) dX5_stretchLine_130 (d_takeSign hC g124 tp n (bp) Hg124 59 (by first | omega | (simp only [n_hq_o_0, n_hq_o_1]; omega))) lX5_154 mX5_takeSign vX5_takeSign (hC 3 (by decide)) (show kd_ 3 = 15 by decide +kernel) rfl rfl rfl (by decide) ⟨Nat.zero_le _, Nat.zero_le _⟩ (Nat.le_of_ble_eq_true rfl) (k_i (fun z130 h130 y130 q130 => ?_))
              replace q130 := And.intro q130.1 (CPR_w q130.2)
              obtain ⟨f130, x130⟩ := q130
              have z01 : z130 = 0 ∨ z130 = 1 := by rcases x130 with x | x <;> omega
              exact pw_zret (pc := 133) dX5_stretchLine_133 (by first | omega | (simp only [n_hq_o_0, n_hq_o_1]; omega)) (by
                        skip
                        have XL := (show sln_ (tk_ tp n) Z a = .ok ((ob_ rr 1 (Z.1 1 + 1), Z.2), bp) by unfold sln_; rw [if_f (by omega), bd_o (show sl0_ (tk_ tp n) Z.1 a = .ok (rr, bp) by rw [xs, ← aX, show (Z.1 0 - s).toNat = 0 by omega]; rfl)])
                        have CL := (show CZ_ (ob_ rr 1 (Z.1 1 + 1), Z.2) g124 o bp from CZ_stretch ho hZ (off_tr (off_mo aO (by simp)) (by rw [e124]; exact off_up off_rf (by simp))) (by rw [e124, up_ob, aO o (by simp; omega), HA.2.1]) (fun x hx => ae x (by omega)) (fun x hx => by rw [e124, up_off (by omega)]; exact al x hx) (fun w w0 w1 => by rw [e124, up_off (by omega)]; exact aw w w0 (by omega)) (by omega) (sln_z zk XL).1 (by have := (sln_z zk XL).2.1; exact Nat.le_of_lt this))
                        refine ⟨LNF_tr (LNF_tr Nq (by rw [e124]; exact LNF_u (by simp [RLC_]) (by omega) (by omega))) (LNF_3 f130 (by simp)), ?_⟩
                        rcases x130 with ⟨rfl, b, b1, b2⟩ | ⟨rfl, e, x1, x2⟩
                        · obtain ⟨rfl, s⟩ := tks2_o b1
                          have bn := tk_lt HB.1.1 (show (tk_ tp n (bp)).1 ≠ 0 from fun u => absurd (s.1.symm.trans u) (by decide))
                          exact Or.inl ⟨rfl, _, XL, s, b2, by show ((bp : Nat) : Int) + 1 ≤ n; omega, CZ_f ho CL f130.1 (by show bp ≤ bp + 1; omega)⟩
                        · exact Or.inr ⟨rfl, e, Or.inr ⟨_, XL, x1⟩, x2⟩)
            · refine pw_aload_n (z := 3) (pc := 77) dX5_stretchLine_77 rfl rfl ?_
              refine pw_iconst (pc := 78) dX5_stretchLine_78 ?_
              refine pw_bipush (pc := 79) dX5_stretchLine_79 rfl ?_
              refine pw_callV (c := 5) (o := 3) (As := [ii_ 0, ii_ 9]) (rest := []) (pc := 81) dX5_stretchLine_81 (d_takeNum hC hq tp n (bp) Hq 0 (9) (by first | omega | (simp only [n_hq_o_0]; omega)) (by first | omega | (simp only [n_hq_o_0]; omega))) lX5_147 mX5_takeNumber vX5_takeNumber (hC 3 (by decide)) (show kd_ 3 = 15 by decide +kernel) rfl rfl rfl (by decide) ⟨Nat.zero_le _, Nat.zero_le _⟩ (Nat.le_of_ble_eq_true rfl) (k_i (fun z81 h81 y81 q81 => ?_))
              replace q81 := (⟨q81.1, CPN_d q81.2⟩ : _ ∧ _)
              obtain ⟨f81, ⟨rfl, p81⟩ | ⟨rfl, p81⟩⟩ := q81
              · have N81 : LNF_ o h h81 := LNF_tr Nq (LNF_3 f81 (by simp))
                obtain ⟨⟨s81, b81⟩, t81, H81, n81⟩ := p81
                have H81 : CPO_ tp n h81 b81 := H81
                have n81 : h81 3 4 = s81 := n81
                obtain ⟨sb81, be81, te81⟩ := tkn_o t81
                have sb81 : 0 ≤ s81 ∧ s81 ≤ 9 := sb81
                have be81 : b81 = bp + 1 := be81
                have hl_h81 : h81 3 1 = (o : Int) := by rw [f81.2.1 1 (by simp)]; exact hl_hq
                have bn81 := tk_lt HB.1.1 (show (tk_ tp n (bp)).1 ≠ 0 by rw [te81]; decide)
                have p81 := t81
                subst be81
                simp -failIfUnchanged only [n_hq_o_0] at p81
                refine pw_if_ne (t := 89) (pc := 84) dX5_stretchLine_84 (by decide) (by first | omega | (simp only [n_hq_o_0]; omega)) (fun _ => ?_) (fun c84 => absurd c84 (by decide))
                refine pw_aload_n (z := 3) (pc := 89) dX5_stretchLine_89 rfl rfl ?_
                refine pw_gD (x := 1) (r := o) (pc := 90) dX5_stretchLine_90 fX5_94 (hC 3 (by decide)) (show kd_ 3 = 15 by decide +kernel) rfl rfl hl_h81 ?_
                refine pw_getR (r := (o + 1)) (pc := 93) dX5_stretchLine_93 fX5_160 (hC _ (by omega)) (kd6_0 ho) rfl rfl ?_
                refine pw_iload_n (z := h o 1) (pc := 96) dX5_stretchLine_96 rfl rfl ?_
                refine pw_iconst (pc := 97) dX5_stretchLine_97 ?_
                refine pw_imul (pc := 98) dX5_stretchLine_98 ?_
                refine pw_iconst (pc := 99) dX5_stretchLine_99 ?_
                refine pw_iadd (pc := 100) dX5_stretchLine_100 ?_
                refine pw_iload_n (z := s) (pc := 101) dX5_stretchLine_101 rfl rfl ?_
                refine pw_iadd (pc := 102) dX5_stretchLine_102 ?_
                refine pw_aload_n (z := 3) (pc := 103) dX5_stretchLine_103 rfl rfl ?_
                refine pw_gI (x := 4) (pc := 104) dX5_stretchLine_104 fX5_118 (hC 3 (by decide)) (show kd_ 3 = 15 by decide +kernel) rfl rfl (fun r104 => ?_)
                rw [n81]
                refine pw_iast (pc := 107) dX5_stretchLine_107 (hC _ (by omega)) (kd6_1 ho) 20 (ln6_1 ho) (by first | omega | (simp only [n_hq_o_0]; omega)) (by first | omega | (simp only [n_hq_o_0]; omega)) (by first | omega | (simp only [n_hq_o_0]; omega)) (by first | omega | (simp only [n_hq_o_0]; omega)) ?_
                obtain ⟨g107, e107⟩ : ∃ x, x = up_ h81 (o + 1) ((((h o 1) * 5) + 1) + s) s81 := ⟨_, rfl⟩
                refine pw_heq e107 ?_
                have V81 : h81 (o + 1) = hq (o + 1) := f81.1 (o + 1) (by simp; omega)
                have V107 : ∀ x, g107 (o + 1) x = if x = ((h o 1) * 5 + 1) + s then s81 else hq (o + 1) x := fun x => by rw [e107, up_at, V81]
                have H107 : CPO_ tp n g107 (bp + 1) := CPO_mv H81 (by rw [e107, up_off (by omega)]) (by rw [e107, up_off (by omega)]) (by rw [e107, up_off (by omega)])
                have N107 : LNF_ o h g107 := LNF_tr N81 (by rw [e107]; exact LNF_u (by simp [RLC_]) (by omega) (by omega))
                have O107 : off_ [1, 3, o + 1] h g107 := off_tr (off_tr aO (off_mo f81.1 (by simp))) (by rw [e107]; exact off_up off_rf (by simp))
                have l107 : g107 3 1 = (o : Int) := by rw [e107, up_off (by omega)]; exact hl_h81
                refine pw_iinc (z := s) (lv1 := [some (rr_ G 3), some (ii_ (h o 1)), some (ii_ (s + 1))]) (pc := 108) dX5_stretchLine_108 rfl (by decide) rfl rfl ?_
                refine pw_goto (t := 66) (pc := 111) dX5_stretchLine_111 (by decide) ?_
                exact ih66 _ (bp + 1) (ob_ rr (12 + 5 * Z.1 1 + s) s81) _ (by omega) (N107) (O107) (H107) (by omega) (l107) (by rw [← aX, show (Z.1 0 - s).toNat = (Z.1 0 - (s + 1)).toNat + 1 by omega, stl_, bd_o t81, show 12 + 5 * Z.1 1 + (s + 1) = 12 + 5 * Z.1 1 + s + 1 by omega]) (fun x hx => (if_neg (by omega)).trans (ae x (by omega))) (fun w w0 w1 => by
                          rw [V107]
                          by_cases c : w = s + 1
                          · rw [if_pos (by omega)]; exact (if_pos (by omega)).symm
                          · rw [if_neg (by omega), aw w w0 (by omega)]; exact (if_neg (by omega)).symm) (fun x hx => by rw [V107, if_neg (by omega)]; exact al x hx) (by omega)
              · have N81 : LNF_ o h h81 := LNF_tr Nq (LNF_3 f81 (by simp))
                simp -failIfUnchanged only [n_hq_o_0] at p81
                refine pw_if_ne (t := 89) (pc := 84) dX5_stretchLine_84 (by decide) (by first | omega | (simp only [n_hq_o_0]; omega)) (fun c84 => absurd c84 (by decide)) (fun _ => ?_)
                refine pw_iconst (pc := 87) dX5_stretchLine_87 ?_
                exact pw_zret (pc := 88) dX5_stretchLine_88 (by first | omega | (simp only [n_hq_o_0]; omega)) (⟨N81, Or.inr ⟨rfl, by obtain ⟨e, x1, x2⟩ := p81; exact ⟨e, Or.inl (by unfold sln_; rw [if_f (by omega)]; refine bd_e ?_; rw [xs, ← aX, show (Z.1 0 - s).toNat = (Z.1 0 - (s + 1)).toNat + 1 by omega, stl_]; exact bd_e x1), x2⟩⟩⟩)
        exact L66 _ _ (a + 1 + 1 + 1) (ob_ Z.1 (11 + 5 * Z.1 1) s30) _ (by omega) (N56) (off_tr Og52 (off_mo f56.1 (by simp))) (H56) (by omega) (hl_h56) (by rw [Int.sub_zero, Int.add_zero]) (fun x hx => if_neg (by omega)) (fun w w0 w1 => by rw [V56, if_pos (by omega)]; exact (if_pos (by omega)).symm) (fun x hx => by rw [V56, if_neg (by omega)]) (Int.self_le_toNat _)
      · have N56 : LNF_ o h h56 := LNF_tr Ng52 (LNF_3 f56 (by simp))
        rw [tkws_1 (w := 2) (by decide +kernel)] at p56
        refine pw_if_ne (t := 64) (pc := 59) dX5_stretchLine_59 (by decide) (by first | omega) (fun c59 => absurd c59 (by decide)) (fun _ => ?_)
        refine pw_iconst (pc := 62) dX5_stretchLine_62 ?_
        exact pw_zret (pc := 63) dX5_stretchLine_63 (by first | omega) (⟨N56, Or.inr ⟨rfl, by obtain ⟨e, x1, x2⟩ := p56; exact ⟨e, Or.inl (by unfold sln_ sl0_; rw [if_f (by omega)]; exact bd_e ((bd_o t30).trans (bd_e x1))), x2⟩⟩⟩)
    · have N30 : LNF_ o h h30 := LNF_tr N23 (LNF_3 f30 (by simp))
      refine pw_if_ne (t := 38) (pc := 33) dX5_stretchLine_33 (by decide) (by first | omega) (fun c33 => absurd c33 (by decide)) (fun _ => ?_)
      refine pw_iconst (pc := 36) dX5_stretchLine_36 ?_
      exact pw_zret (pc := 37) dX5_stretchLine_37 (by first | omega) (⟨N30, Or.inr ⟨rfl, by obtain ⟨e, x1, x2⟩ := p30; exact ⟨e, Or.inl (by unfold sln_ sl0_; rw [if_f (by omega)]; exact bd_e (bd_e x1)), x2⟩⟩⟩)
  · refine pw_aload_n (z := 3) (pc := 13) dX5_stretchLine_13 rfl rfl ?_
    refine pw_iconst (pc := 14) dX5_stretchLine_14 ?_
    refine pw_callV (c := 5) (o := 3) (As := [ii_ 5]) (rest := []) (pc := 15) dX5_stretchLine_15 (d_wrong hC h tp n a H 5 (by first | omega)) lX5_70 mX5_wrong vX5_wrong (hC 3 (by decide)) (show kd_ 3 = 15 by decide +kernel) rfl rfl rfl (by decide) ⟨Nat.zero_le _, Nat.zero_le _⟩ (Nat.le_of_ble_eq_true rfl) (k_i (fun z15 h15 y15 q15 => ?_))
    obtain ⟨f15, x15, rfl⟩ := q15
    have fp15 := flt_p (tp := tp) (a := a) HB.1 (w := 5) (by omega)
    exact pw_zret (pc := 18) dX5_stretchLine_18 (by first | omega) (⟨LNF_3 f15 (by simp), Or.inr ⟨rfl, _, Or.inl (by unfold sln_; exact if_t (by omega)), x15, fp15.1⟩⟩)

