/-! ===== laws and names told ===== -/
theorem wrc_lo : ∀ {P : CO_} {f : Int → Int} {L x : Int}, x < L → wrc_ f L P x = f x
  | [], _, _, _, _ => rfl
  | q :: P, f, L, x, h => by
    show wrc_ (ob_ f L (cnv_ q)) (L + 1) P x = _
    rw [wrc_lo (by omega)]; exact if_neg (by omega)
theorem ccd_w : ∀ {P : CO_} {f : Int → Int} {L : Int}, cok2_ 5 P → ccd_ (wrc_ f L P) L P
  | [], _, _, _ => trivial
  | q :: P, f, L, h => by
    have q1 := h q List.mem_cons_self
    refine ⟨?_, q1.1, fun u => q1.2.2, fun u => by have := q1.2.1 u; omega, ccd_w (f := ob_ f L (cnv_ q)) (L := L + 1) (fun x hx => h x (List.mem_cons_of_mem _ hx))⟩
    show wrc_ (ob_ f L (cnv_ q)) (L + 1) P L = _
    rw [wrc_lo (by omega)]; exact if_pos rfl
theorem ccd_g : ∀ {P : CO_} {f g : Int → Int} {i : Int}, ccd_ f i P → (∀ x, i ≤ x → x < i + P.length → g x = f x) → ccd_ g i P
  | [], _, _, _, _, _ => trivial
  | q :: P, f, g, i, h, e => by
    have hl : (q :: P).length = P.length + 1 := rfl
    rw [hl] at e
    exact ⟨(e i (by omega) (by omega)).trans h.1, h.2.1, h.2.2.1, h.2.2.2.1, ccd_g h.2.2.2.2 (fun x x0 x1 => e x (by omega) (by omega))⟩
theorem lwe_k {tp : Int → Int} {n : Int} {f m a : Nat} (hn : 0 ≤ n) (hm : m ≤ 5) {q : CO_ × Nat} (h : lwe_ (tk_ tp n) f m a = .ok q) (hq : q.2 ≤ 1000) : cok2_ 5 q.1 ∧ dpt_ q.1 0 ∧ dpb_ q.1 0 ∧ 1 ≤ q.1.length := by
  have g := lwe_g (tk_wf (tp := tp) hn) (show m ≤ 30 by omega) h
  have w := wfc_of g.1 (by omega)
  refine ⟨fun x hx => ⟨(g.1.1 x hx).1, fun u => by have := (g.1.1 x hx).2.1 u; omega, (g.1.1 x hx).2.2⟩, w.2.2.1, w.2.2.2, ?_⟩
  have d := w.2.2.1
  cases e : q.1 with
  | nil => rw [e] at d; have d : (0 : Nat) = 1 := d; omega
  | cons x l => show 1 ≤ l.length + 1; omega
theorem CLA_n {h h' : PH_} {o : Nat} {k ix : Int} {P P2 : CO_} (H : CLA_ h o k P2) (hk : k ≠ ix) (e8 : h' (o + 8) 3 = h (o + 8) 3 + P.length) (e9 : h' (o + 9) = wrc_ (h (o + 9)) (h (o + 8) 3) P) (e12 : h' (o + 12) = ob_ (h (o + 12)) ix (h (o + 8) 3)) (e13 : h' (o + 13) = ob_ (h (o + 13)) ix (h (o + 8) 3 + P.length)) (hl : h' (o + 8) 3 ≤ 1000) : CLA_ h' o k P2 := by
  obtain ⟨c1, c2, c3⟩ := H
  have k12 : h' (o + 12) k = h (o + 12) k := by rw [e12]; exact if_neg hk
  have k13 : h' (o + 13) k = h (o + 13) k := by rw [e13]; exact if_neg hk
  unfold CLA_
  rw [k12, k13, e9]
  exact ⟨ccd_g c1 (fun x x0 x1 => wrc_lo (by omega)), ⟨c2.1, c2.2.1, by omega, hl⟩, c3⟩
theorem CLA_i {h h' : PH_} {o : Nat} {ix : Int} {P : CO_} (h0 : 0 ≤ h (o + 8) 3) (e8 : h' (o + 8) 3 = h (o + 8) 3 + P.length) (e9 : h' (o + 9) = wrc_ (h (o + 9)) (h (o + 8) 3) P) (e12 : h' (o + 12) = ob_ (h (o + 12)) ix (h (o + 8) 3)) (e13 : h' (o + 13) = ob_ (h (o + 13)) ix (h (o + 8) 3 + P.length)) (hl : h' (o + 8) 3 ≤ 1000) (hc : cok2_ 5 P) (hd : dpt_ P 0) (hb : dpb_ P 0) : CLA_ h' o ix P := by
  have k12 : h' (o + 12) ix = h (o + 8) 3 := by rw [e12]; exact if_pos rfl
  have k13 : h' (o + 13) ix = h (o + 8) 3 + P.length := by rw [e13]; exact if_pos rfl
  unfold CLA_
  rw [k12, k13, e9]
  exact ⟨ccd_w hc, ⟨h0, rfl, by omega, hl⟩, hd, hb⟩
theorem CZ_worth {Z : ZT_} {h h' : PH_} {o a b : Nat} {P : CO_} (ho : is6_ o) (H : CZ_ Z h o a) (f : off_ [1, 3, o + 8, o + 9, o + 12, o + 13] h h') (e8 : h' (o + 8) 3 = h (o + 8) 3 + P.length) (e9 : h' (o + 9) = wrc_ (h (o + 9)) (h (o + 8) 3) P) (e12 : h' (o + 12) = ob_ (h (o + 12)) 4 (h (o + 8) 3)) (e13 : h' (o + 13) = ob_ (h (o + 13)) 4 (h (o + 8) 3 + P.length)) (hk : cok2_ 5 P ∧ dpt_ P 0 ∧ dpb_ P 0 ∧ 1 ≤ P.length) (hz : zok_ (Z.1, Z.2.1, some P, Z.2.2.2)) (hl : P.length + a ≤ b) (hb : b ≤ 1000) : CZ_ (Z.1, Z.2.1, some P, Z.2.2.2) h' o b := by
  have e : ∀ i, i ≠ 1 → i ≠ 3 → i ≠ o + 8 → i ≠ o + 9 → i ≠ o + 12 → i ≠ o + 13 → h' i = h i := fun i i1 i3 i8 i9 i12 i13 => f i (by simp; exact ⟨i1, i3, i8, i9, i12, i13⟩)
  obtain ⟨z1, z2, z3, z4, z5, z6, z7, z8⟩ := H
  have q3 := z8.1.2.2.2.1
  have ql := z8.2.2.2.2.1.2.1
  refine ⟨CRD_cg z1 (fun k _ => congrFun (e o (by omega) (by omega) (by omega) (by omega) (by omega) (by omega)) k) (e _ (by omega) (by omega) (by omega) (by omega) (by omega) (by omega)) (e _ (by omega) (by omega) (by omega) (by omega) (by omega) (by omega)) (e _ (by omega) (by omega) (by omega) (by omega) (by omega) (by omega)) (e _ (by omega) (by omega) (by omega) (by omega) (by omega) (by omega)) (e _ (by omega) (by omega) (by omega) (by omega) (by omega) (by omega)) (e _ (by omega) (by omega) (by omega) (by omega) (by omega) (by omega)), by rw [e o (by omega) (by omega) (by omega) (by omega) (by omega) (by omega)]; exact z2, ?_, by rw [e _ (by omega) (by omega) (by omega) (by omega) (by omega) (by omega)]; exact z4, ?_, by rw [e8]; omega, by rw [e _ (by omega) (by omega) (by omega) (by omega) (by omega) (by omega)]; exact z7, hz⟩
  · unfold CAV_ at *
    show (∀ r, _) ∧ _
    rw [e (o + 7) (by omega) (by omega) (by omega) (by omega) (by omega) (by omega), e (o + 6) (by omega) (by omega) (by omega) (by omega) (by omega) (by omega)]; exact z3
  · have hl8 : h' (o + 8) 3 ≤ 1000 := by rw [e8]; omega
    exact ⟨⟨CLA_i z6.1 e8 e9 e12 e13 hl8 hk.1 hk.2.1 hk.2.2.1, hk.2.2.2⟩, fun j hj => CLA_n (z5.2 j hj) (by have hj : j < Z.2.2.2.1.length := hj; omega) e8 e9 e12 e13 hl8⟩
theorem fnd_n {nm : NM_} {x : List Int} (h : ∀ q ∈ nm, q.1 ≠ x) {w : List Int} {v : Int} : fnd_ (nm ++ [(w, v)]) x = if_ (w = x) v (-1) := by
  induction nm with
  | nil => rfl
  | cons q l ih =>
    show if_ (q.1 = x) q.2 (fnd_ (l ++ [(w, v)]) x) = _
    rw [if_f (h q List.mem_cons_self), ih (fun y hy => h y (List.mem_cons_of_mem _ hy))]
theorem fnd_y {nm : NM_} {x : List Int} (h : ∃ q ∈ nm, q.1 = x) {k : NM_} : fnd_ (nm ++ k) x = fnd_ nm x := by
  induction nm with
  | nil => obtain ⟨q, hq, _⟩ := h; cases hq
  | cons q l ih =>
    show if_ (q.1 = x) q.2 (fnd_ (l ++ k) x) = if_ (q.1 = x) q.2 (fnd_ l x)
    by_cases c : q.1 = x
    · rw [if_t c, if_t c]
    · rw [if_f c, if_f c]
      obtain ⟨y, hy, e⟩ := h
      rcases List.mem_cons.mp hy with g | g
      · exact absurd (g ▸ e) c
      · exact ih ⟨y, g, e⟩
theorem CNM_x {nm : NM_} {f : Int → Int} {R K : Int} {w : List Int} (H : CNM_ nm f R K) (hf : fnd_ nm w < 0) : ∀ q ∈ nm, q.1 ≠ w := fun q hq e => by
  have h4 := H.2.2.2 q hq
  rw [e] at h4
  have h3 := (H.2.2.1 q hq).2
  omega
theorem CNM_rider {nm : NM_} {f : Int → Int} {R K : Int} {w : List Int} (H : CNM_ nm f R K) (hR : 0 ≤ R ∧ R < 4) (hw : lok2_ w) (hf : fnd_ nm w < 0) : CNM_ (nm ++ [(w, R)]) (ob_ f R (enc_ 27 w)) (R + 1) K := by
  have hx := CNM_x H hf
  obtain ⟨h1, h2, h3, h4⟩ := H
  have eo : ∀ x, x ≠ R → ob_ f R (enc_ 27 w) x = f x := fun x hx => if_neg hx
  have es : ob_ f R (enc_ 27 w) R = enc_ 27 w := if_pos rfl
  refine ⟨fun r r0 r1 => ?_, fun k k0 k1 => ?_, fun q hq => ?_, fun q hq => ?_⟩
  · by_cases c : r = R
    · exact ⟨w, by rw [c]; exact List.mem_append_right _ List.mem_cons_self, by rw [c]; exact es⟩
    · obtain ⟨l, l1, l2⟩ := h1 r r0 (by omega)
      exact ⟨l, List.mem_append_left _ l1, by rw [eo r c]; exact l2⟩
  · obtain ⟨l, l1, l2⟩ := h2 k k0 k1
    exact ⟨l, List.mem_append_left _ l1, by rw [eo _ (by omega)]; exact l2⟩
  · rcases List.mem_append.mp hq with g | g
    · refine ⟨(h3 q g).1, ?_⟩
      rcases (h3 q g).2 with u | u
      · exact Or.inl ⟨u.1, by omega, by rw [eo _ (by omega)]; exact u.2.2⟩
      · obtain ⟨k, k0, k1, k2⟩ := u.2
        exact Or.inr ⟨u.1, k, k0, k1, by rw [eo _ (by omega)]; exact k2⟩
    · obtain rfl : q = (w, R) := by simpa using g
      exact ⟨hw, Or.inl ⟨hR.1, by show R < R + 1; omega, es⟩⟩
  · rcases List.mem_append.mp hq with g | g
    · rw [fnd_y ⟨q, g, rfl⟩]; exact h4 q g
    · obtain rfl : q = (w, R) := by simpa using g
      show fnd_ _ w = R
      rw [fnd_n hx, if_t rfl]
theorem CNM_rule {nm : NM_} {f : Int → Int} {R K : Int} {w : List Int} (H : CNM_ nm f R K) (hR : 0 ≤ R ∧ R ≤ 4) (hK : 0 ≤ K) (hw : lok2_ w) (hf : fnd_ nm w < 0) : CNM_ (nm ++ [(w, 20)]) (ob_ f (4 + K) (enc_ 27 w)) R (K + 1) := by
  have hx := CNM_x H hf
  obtain ⟨h1, h2, h3, h4⟩ := H
  have eo : ∀ x, x ≠ 4 + K → ob_ f (4 + K) (enc_ 27 w) x = f x := fun x hx => if_neg hx
  have es : ob_ f (4 + K) (enc_ 27 w) (4 + K) = enc_ 27 w := if_pos rfl
  refine ⟨fun r r0 r1 => ?_, fun k k0 k1 => ?_, fun q hq => ?_, fun q hq => ?_⟩
  · obtain ⟨l, l1, l2⟩ := h1 r r0 r1
    exact ⟨l, List.mem_append_left _ l1, by rw [eo r (by omega)]; exact l2⟩
  · by_cases c : k = K
    · exact ⟨w, List.mem_append_right _ List.mem_cons_self, by rw [c]; exact es⟩
    · obtain ⟨l, l1, l2⟩ := h2 k k0 (by omega)
      exact ⟨l, List.mem_append_left _ l1, by rw [eo _ (by omega)]; exact l2⟩
  · rcases List.mem_append.mp hq with g | g
    · refine ⟨(h3 q g).1, ?_⟩
      rcases (h3 q g).2 with u | u
      · exact Or.inl ⟨u.1, u.2.1, by rw [eo _ (by omega)]; exact u.2.2⟩
      · obtain ⟨k, k0, k1, k2⟩ := u.2
        exact Or.inr ⟨u.1, k, k0, by omega, by rw [eo _ (by omega)]; exact k2⟩
    · obtain rfl : q = (w, 20) := by simpa using g
      exact ⟨hw, Or.inr ⟨rfl, K, hK, by omega, es⟩⟩
  · rcases List.mem_append.mp hq with g | g
    · rw [fnd_y ⟨q, g, rfl⟩]; exact h4 q g
    · obtain rfl : q = (w, 20) := by simpa using g
      show fnd_ _ w = 20
      rw [fnd_n hx, if_t rfl]
theorem CZ_rule {Z : ZT_} {h h' : PH_} {o a b : Nat} {P : CO_} {nm : NM_} {w : List Int} (ho : is6_ o) (H : CZ_ Z h o a) (f : off_ [1, 3, o, o + 2, o + 8, o + 9, o + 12, o + 13] h h') (eo : h' o = ob_ (h o) 3 (Z.1 3 + 1)) (e2 : h' (o + 2) = ob_ (h (o + 2)) (4 + Z.1 3) (enc_ 27 w)) (hnm : nm = Z.2.1 ++ [(w, 20)]) (hw : lok2_ w) (hf : fnd_ Z.2.1 w < 0) (e8 : h' (o + 8) 3 = h (o + 8) 3 + P.length) (e9 : h' (o + 9) = wrc_ (h (o + 9)) (h (o + 8) 3) P) (e12 : h' (o + 12) = ob_ (h (o + 12)) (Z.1 3) (h (o + 8) 3)) (e13 : h' (o + 13) = ob_ (h (o + 13)) (Z.1 3) (h (o + 8) 3 + P.length)) (hk : cok2_ 5 P ∧ dpt_ P 0 ∧ dpb_ P 0 ∧ 1 ≤ P.length) (h4 : Z.1 3 < 4) (hz : zok_ (ob_ Z.1 3 (Z.1 3 + 1), nm, Z.2.2.1, Z.2.2.2.1 ++ [P], Z.2.2.2.2)) (hl : P.length + a ≤ b) (hb : b ≤ 1000) : CZ_ (ob_ Z.1 3 (Z.1 3 + 1), nm, Z.2.2.1, Z.2.2.2.1 ++ [P], Z.2.2.2.2) h' o b := by
  have e : ∀ i, i ≠ 1 → i ≠ 3 → i ≠ o → i ≠ o + 2 → i ≠ o + 8 → i ≠ o + 9 → i ≠ o + 12 → i ≠ o + 13 → h' i = h i := fun i i1 i3 i0 i2 i8 i9 i12 i13 => f i (by simp; exact ⟨i1, i3, i0, i2, i8, i9, i12, i13⟩)
  obtain ⟨z1, z2, z3, z4, z5, z6, z7, z8⟩ := H
  have q3 := z8.1.2.2.2.1
  have ql := z8.2.2.2.2.1.2.1
  have er : ∀ k, k ≠ 3 → ob_ Z.1 3 (Z.1 3 + 1) k = Z.1 k := fun k hk => if_neg hk
  have ek : ∀ k, k ≠ 3 → h' o k = h o k := fun k hk => by rw [eo]; exact if_neg hk
  have g1 := e (o + 1) (by omega) (by omega) (by omega) (by omega) (by omega) (by omega) (by omega) (by omega)
  have g3 := e (o + 3) (by omega) (by omega) (by omega) (by omega) (by omega) (by omega) (by omega) (by omega)
  have g4 := e (o + 4) (by omega) (by omega) (by omega) (by omega) (by omega) (by omega) (by omega) (by omega)
  have g5 := e (o + 5) (by omega) (by omega) (by omega) (by omega) (by omega) (by omega) (by omega) (by omega)
  have g6 := e (o + 6) (by omega) (by omega) (by omega) (by omega) (by omega) (by omega) (by omega) (by omega)
  have g7 := e (o + 7) (by omega) (by omega) (by omega) (by omega) (by omega) (by omega) (by omega) (by omega)
  have hl8 : h' (o + 8) 3 ≤ 1000 := by rw [e8]; omega
  refine ⟨?_, ?_, ?_, ?_, ?_, by rw [e8]; omega, by rw [e _ (by omega) (by omega) (by omega) (by omega) (by omega) (by omega) (by omega) (by omega)]; exact z7, hz⟩
  · obtain ⟨⟨c0, c1, c2, c4, c5⟩, cb, ct, cr, ca⟩ := z1
    show CRD_ (ob_ Z.1 3 (Z.1 3 + 1)) _ _
    unfold CRD_
    rw [ek 0 (by decide), ek 1 (by decide), ek 2 (by decide), ek 4 (by decide), ek 5 (by decide), er 0 (by decide), er 1 (by decide), er 2 (by decide), er 4 (by decide), er 10 (by decide), g1, g3, g4, g5, g6, g7]
    exact ⟨⟨c0, c1, c2, c4, c5⟩, cb, fun t w t0 t1 w0 w1 => by rw [er _ (by omega)]; exact ct t w t0 t1 w0 w1, fun r r0 r1 => by rw [er _ (by omega), er _ (by omega), er _ (by omega), er _ (by omega)]; exact cr r r0 r1, fun r x r0 r1 x0 x1 => by rw [er _ (by omega)]; exact ca r x r0 r1 x0 x1⟩
  · rw [ek 6 (by decide), ek 7 (by decide)]; exact ⟨by rw [eo]; rfl, z2.2⟩
  · show CAV_ (ob_ Z.1 3 (Z.1 3 + 1)) _ _
    unfold CAV_ at *
    rw [g7, g6]
    exact ⟨fun r r0 r1 => by rw [er _ (by omega)]; exact z3.1 r r0 r1, fun r r0 r1 => ⟨(z3.2 r r0 r1).1, fun x x0 x1 => by rw [er _ (by omega)]; exact (z3.2 r r0 r1).2 x x0 x1⟩⟩
  · show CNM_ nm _ (ob_ Z.1 3 (Z.1 3 + 1) 2) (ob_ Z.1 3 (Z.1 3 + 1) 3)
    rw [er 2 (by decide), e2, hnm]
    exact CNM_rule z4 (by have := z8.1; omega) q3.1 hw hf
  · refine ⟨?_, fun j hj => ?_⟩
    · show CW1_ h' o Z.2.2.1
      have c5 := z5.1
      cases hW : Z.2.2.1 with
      | none =>
        rw [hW] at c5
        show h' (o + 13) 4 ≤ h' (o + 12) 4
        have c5 : h (o + 13) 4 ≤ h (o + 12) 4 := c5
        rw [e12, e13]
        show (if (4 : Int) = Z.1 3 then _ else _) ≤ (if (4 : Int) = Z.1 3 then _ else _)
        rw [if_neg (by omega), if_neg (by omega)]; exact c5
      | some P2 =>
        rw [hW] at c5
        exact ⟨CLA_n c5.1 (by omega) e8 e9 e12 e13 hl8, c5.2⟩
    · have hj : j < (Z.2.2.2.1 ++ [P]).length := hj
      rw [List.length_append] at hj
      have hj : j < Z.2.2.2.1.length + 1 := hj
      show CLA_ h' o (j : Int) ((Z.2.2.2.1 ++ [P]).getD j [])
      by_cases c : j < Z.2.2.2.1.length
      · have g : (Z.2.2.2.1 ++ [P]).getD j [] = Z.2.2.2.1.getD j [] := by
          rw [List.getD_eq_getElem?_getD, List.getD_eq_getElem?_getD, List.getElem?_append_left c]
        rw [g]
        exact CLA_n (z5.2 j c) (by omega) e8 e9 e12 e13 hl8
      · have hjl : j = Z.2.2.2.1.length := by omega
        have g : (Z.2.2.2.1 ++ [P]).getD j [] = P := by
          rw [List.getD_eq_getElem?_getD, List.getElem?_append_right (by omega), hjl]; simp
        rw [g, show (j : Int) = Z.1 3 by omega]
        exact CLA_i z6.1 e8 e9 e12 e13 hl8 hk.1 hk.2.1 hk.2.2.1

set_option maxHeartbeats 4000000 in
set_option maxRecDepth 100000 in
theorem d_worthLine {G : GT_} (hC : okC_ G) (h : PH_) (tp : Int → Int) (n : Int) (o : Nat) (ho : is6_ o) (a : Nat) (H : CPO_ tp n h a) (hland : h 3 1 = (o : Int)) (Z : ZT_) (hZ : CZ_ Z h o a) (hne : (tk_ tp n a).1 ≠ 0) : PC G yX5_worthLine cX5_worthLine 1 (some .boolean) 44 [rr_ G 3] h (qi_ (fun z h' => LNF_ o h h' ∧ LNR_ tp n o (wln_ (tk_ tp n) Z a) z h')) := by
  have HB := CPO_b H
  have hl_h := hland
  have HA := hZ.1.1
  have zk := hZ.2.2.2.2.2.2.2
  have zb := zk.1
  have an := tk_lt HB.1.1 hne
  have w5 := hZ.2.2.2.2.1.1
  have zl := hZ.2.2.2.2.2.1
  have hW : h (o + 12) 4 < h (o + 13) 4 ↔ ¬ Z.2.2.1 = none := by
    cases e : Z.2.2.1 with
    | none => rw [e] at w5; have w5 : h (o + 13) 4 ≤ h (o + 12) 4 := w5; exact ⟨fun u => by omega, fun u => absurd rfl u⟩
    | some P => rw [e] at w5; have := w5.1.2.1; have := w5.2; exact ⟨fun u => by simp, fun u => by omega⟩
  refine PC.of (lv := [some (rr_ G 3)]) (by decide +kernel) (Nat.le_of_ble_eq_true rfl) rfl rfl ?_
  refine pw_aload_n (z := 3) (pc := 0) dX5_worthLine_0 rfl rfl ?_
  refine pw_gD (x := 1) (r := o) (pc := 1) dX5_worthLine_1 fX5_94 (hC 3 (by decide)) (show kd_ 3 = 15 by decide +kernel) rfl rfl hl_h ?_
  refine pw_callV (c := 6) (o := o) (As := []) (rest := []) (pc := 4) dX5_worthLine_4 (d_worthTold hC h o ho) lX5_205 mX6_worthTold vX6_worthTold (hC _ (by omega)) (kd6_0 ho) rfl rfl rfl (by decide) ⟨Nat.zero_le _, Nat.zero_le _⟩ (Nat.le_of_ble_eq_true rfl) (k_i (fun z4 h4 y4 q4 => ?_))
  obtain ⟨rfl, ⟨rfl, p4⟩ | ⟨rfl, p4⟩⟩ := q4
  · refine pw_if_eq (t := 16) (pc := 7) dX5_worthLine_7 (by decide) (by first | omega) (fun c7 => absurd c7 (by decide)) (fun _ => ?_)
    refine pw_aload_n (z := 3) (pc := 10) dX5_worthLine_10 rfl rfl ?_
    refine pw_iconst (pc := 11) dX5_worthLine_11 ?_
    refine pw_callV (c := 5) (o := 3) (As := [ii_ 3]) (rest := []) (pc := 12) dX5_worthLine_12 (d_wrong hC h tp n a H 3 (by first | omega)) lX5_70 mX5_wrong vX5_wrong (hC 3 (by decide)) (show kd_ 3 = 15 by decide +kernel) rfl rfl rfl (by decide) ⟨Nat.zero_le _, Nat.zero_le _⟩ (Nat.le_of_ble_eq_true rfl) (k_i (fun z12 h12 y12 q12 => ?_))
    obtain ⟨f12, x12, rfl⟩ := q12
    have fp12 := flt_p (tp := tp) (a := a) HB.1 (w := 3) (by omega)
    exact pw_zret (pc := 15) dX5_worthLine_15 (by first | omega) (⟨LNF_3 f12 (by simp), Or.inr ⟨rfl, _, Or.inl (by unfold wln_; exact if_f (hW.mp p4)), x12, fp12.1⟩⟩)
  · refine pw_if_eq (t := 16) (pc := 7) dX5_worthLine_7 (by decide) (by first | omega) (fun _ => ?_) (fun c7 => absurd c7 (by decide))
    refine pw_aload_n (z := 3) (pc := 16) dX5_worthLine_16 rfl rfl ?_
    refine pw_getR (r := 1) (pc := 17) dX5_worthLine_17 fX5_17 (hC 3 (by decide)) (show kd_ 3 = 15 by decide +kernel) rfl (by decide +kernel) ?_
    refine pw_callV (c := 8) (o := 1) (As := []) (rest := []) (pc := 20) dX5_worthLine_20 (d_step hC h tp n HB.2.2.2.2.2.1 (a + 1) HB.2.2.2.2.2.2.1) lX5_111 mX8_step vX8_step (hC 1 (by decide)) (show kd_ 1 = 18 by decide +kernel) rfl rfl rfl (by decide) ⟨Nat.zero_le _, Nat.zero_le _⟩ (Nat.le_of_ble_eq_true rfl) (k_v (fun h20 q20 => ?_))
    obtain ⟨f20, k20, p20⟩ := q20
    obtain ⟨H20, F20⟩ := CPO_st H f20 k20 p20
    have hl_h20 : h20 3 1 = (o : Int) := by rw [F20.2.1 1 (by simp)]; exact hland
    have N20 : LNF_ o h h20 := LNF_3 F20 (by simp)
    refine pw_aload_n (z := 3) (pc := 23) dX5_worthLine_23 rfl rfl ?_
    refine pw_iconst (pc := 24) dX5_worthLine_24 ?_
    refine pw_ldcs 9 (pc := 25) dX5_worthLine_25 rfl ?_
    refine pw_callV (c := 5) (o := 3) (As := [ii_ 4, rr_ G 3009]) (rest := []) (pc := 27) dX5_worthLine_27 (d_law hC h20 tp n o ho (a + 1) H20 hl_h20 9 22 5 (show FJ_ 9 22 5 from ⟨by decide, by decide, by decide +kernel, by decide⟩) 4 (by first | omega) (by rw [f20 (o + 8) (by simp)]; omega)) lX5_210 mX5_law vX5_law (hC 3 (by decide)) (show kd_ 3 = 15 by decide +kernel) rfl rfl rfl (by decide) ⟨Nat.zero_le _, Nat.zero_le _⟩ (Nat.le_of_ble_eq_true rfl) (k_i (fun z27 h27 y27 q27 => ?_))
    obtain ⟨f27, x27⟩ := q27
    have z01 : z27 = 0 ∨ z27 = 1 := by rcases x27 with x | x <;> omega
    exact pw_zret (pc := 30) dX5_worthLine_30 (by first | omega) (by
              have wn : Z.2.2.1 = none := by rcases Classical.em (Z.2.2.1 = none) with u | u; exact u; exact absurd (hW.mpr u) p4
              refine ⟨LNF_tr N20 ⟨off_mo f27.1 (by simp [RLC_]), fun k k2 k3 _ _ => f27.2.1 k k2 k3, f27.2.2.1⟩, ?_⟩
              rcases x27 with ⟨rfl, q, q1, q2, q3, q4, q5, q6, q7, q8, q9⟩ | ⟨rfl, e, x1, x2⟩
              · have XL : wln_ (tk_ tp n) Z a = .ok ((Z.1, Z.2.1, some q.1, Z.2.2.2), q.2) := by unfold wln_; rw [if_t wn]; exact bd_o q1
                have k5 := lwe_k HB.1.1 (by decide) q1 (by omega)
                refine Or.inl ⟨rfl, _, XL, q2, q3, q4, ?_⟩
                have z20 := CZ_f ho hZ (off_mo f20 (by decide)) (Nat.le_refl a)
                exact CZ_worth ho z20 f27.1 q6 q7 q8 q9 k5 (wln_z HB.2.2.2.1 zk (by show q.2 ≤ 1000; omega) XL).1 (by omega) (by omega)
              · refine Or.inr ⟨rfl, e, ?_, x2⟩
                rcases x1 with x1 | ⟨q, y1, y2⟩
                · exact Or.inl (by unfold wln_; rw [if_t wn]; exact bd_e x1)
                · exact Or.inr ⟨((Z.1, Z.2.1, some q.1, Z.2.2.2), q.2), by unfold wln_; rw [if_t wn]; exact bd_o y1, y2⟩)

set_option maxHeartbeats 4000000 in
set_option maxRecDepth 100000 in
theorem d_ruleLine {G : GT_} (hC : okC_ G) (h : PH_) (tp : Int → Int) (n : Int) (o : Nat) (ho : is6_ o) (a : Nat) (H : CPO_ tp n h a) (hland : h 3 1 = (o : Int)) (Z : ZT_) (hZ : CZ_ Z h o a) (hne : (tk_ tp n a).1 ≠ 0) : PC G yX5_ruleLine cX5_ruleLine 2 (some .boolean) 44 [rr_ G 3] h (qi_ (fun z h' => LNF_ o h h' ∧ LNR_ tp n o (uln_ (tk_ tp n) Z a) z h')) := by
  have HB := CPO_b H
  have hl_h := hland
  have HA := hZ.1.1
  have zk := hZ.2.2.2.2.2.2.2
  have zb := zk.1
  have an := tk_lt HB.1.1 hne
  have e3 := hZ.2.1.1
  have zl := hZ.2.2.2.2.2.1
  refine PC.of (lv := [some (rr_ G 3), none]) (by decide +kernel) (Nat.le_of_ble_eq_true rfl) rfl rfl ?_
  refine pw_aload_n (z := 3) (pc := 0) dX5_ruleLine_0 rfl rfl ?_
  refine pw_gD (x := 1) (r := o) (pc := 1) dX5_ruleLine_1 fX5_94 (hC 3 (by decide)) (show kd_ 3 = 15 by decide +kernel) rfl rfl hl_h ?_
  refine pw_gI (x := 3) (pc := 4) dX5_ruleLine_4 fX5_214 (hC _ (by omega)) (kd6_0 ho) rfl rfl (fun r4 => ?_)
  refine pw_istore_n (lv1 := [some (rr_ G 3), some (ii_ (h o 3))]) (pc := 7) dX5_ruleLine_7 rfl (by decide) rfl rfl ?_
  refine pw_iload_n (z := h o 3) (pc := 8) dX5_ruleLine_8 rfl rfl ?_
  refine pw_iconst (pc := 9) dX5_ruleLine_9 ?_
  refine pw_icmp_lt (t := 19) (pc := 10) dX5_ruleLine_10 (by decide) (by first | omega) (by first | omega) (fun c10 => ?_) (fun c10 => ?_)
  · refine pw_aload_n (z := 3) (pc := 19) dX5_ruleLine_19 rfl rfl ?_
    refine pw_getR (r := 1) (pc := 20) dX5_ruleLine_20 fX5_17 (hC 3 (by decide)) (show kd_ 3 = 15 by decide +kernel) rfl (by decide +kernel) ?_
    refine pw_callV (c := 8) (o := 1) (As := []) (rest := []) (pc := 23) dX5_ruleLine_23 (d_step hC h tp n HB.2.2.2.2.2.1 (a + 1) HB.2.2.2.2.2.2.1) lX5_111 mX8_step vX8_step (hC 1 (by decide)) (show kd_ 1 = 18 by decide +kernel) rfl rfl rfl (by decide) ⟨Nat.zero_le _, Nat.zero_le _⟩ (Nat.le_of_ble_eq_true rfl) (k_v (fun h23 q23 => ?_))
    obtain ⟨f23, k23, p23⟩ := q23
    obtain ⟨H23, F23⟩ := CPO_st H f23 k23 p23
    have hl_h23 : h23 3 1 = (o : Int) := by rw [F23.2.1 1 (by simp)]; exact hland
    have N23 : LNF_ o h h23 := LNF_3 F23 (by simp)
    have NM23 : CNM_ Z.2.1 (h23 (o + 2)) (Z.1 2) (Z.1 3) := by rw [f23 (o + 2) (by simp)]; exact hZ.2.2.2.1
    have RR23 : h23 o 2 = Z.1 2 ∧ 0 ≤ Z.1 2 ∧ Z.1 2 ≤ 4 := by rw [f23 o (by simp; omega)]; omega
    refine pw_aload_n (z := 3) (pc := 26) dX5_ruleLine_26 rfl rfl ?_
    refine pw_iconst (pc := 27) dX5_ruleLine_27 ?_
    refine pw_iload_n (z := h o 3) (pc := 28) dX5_ruleLine_28 rfl rfl ?_
    refine pw_iadd (pc := 29) dX5_ruleLine_29 ?_
    refine pw_callV (c := 5) (o := 3) (As := [ii_ (4 + (h o 3))]) (rest := []) (pc := 30) dX5_ruleLine_30 (d_newName hC h23 tp n o ho (a + 1) H23 hl_h23 Z.2.1 (Z.1 2) (Z.1 3) NM23 RR23 (by rw [f23 o (by simp; omega)]; omega) (4 + (h o 3)) 20 (by first | omega)) lX5_166 mX5_takeNewName vX5_takeNewName (hC 3 (by decide)) (show kd_ 3 = 15 by decide +kernel) rfl rfl rfl (by decide) ⟨Nat.zero_le _, Nat.zero_le _⟩ (Nat.le_of_ble_eq_true rfl) (k_i (fun z30 h30 y30 q30 => ?_))
    replace q30 := And.intro (And.intro q30.1 (And.intro q30.2.1 q30.2.2.1)) q30.2.2.2
    obtain ⟨f30, ⟨rfl, p30⟩ | ⟨rfl, p30⟩⟩ := q30
    · have N30 : LNF_ o h h30 := LNF_tr N23 ⟨off_mo f30.1 (by simp [RLC_]), fun k _ k3 _ _ => f30.2.1 k k3, f30.2.2⟩
      obtain ⟨nm, t30, H30, b30, m30⟩ := p30
      have hl_h30 : h30 3 1 = (o : Int) := by rw [f30.2.1 1 (by decide)]; exact hl_h23
      obtain ⟨nm1, nm2, nm3⟩ := nnm_o t30
      have lk30 : lok2_ (tk_ tp n (a + 1)).2.2.2 := ((HB.2.2.2.1 (a + 1)).1 nm2.1).1
      have L30 : h30 (o + 8) 3 = h (o + 8) 3 := by rw [f30.1 (o + 8) (by simp), f23 (o + 8) (by simp)]
      have p30 := t30
      refine pw_if_eq (t := 46) (pc := 33) dX5_ruleLine_33 (by decide) (by first | omega) (fun c33 => absurd c33 (by decide)) (fun _ => ?_)
      refine pw_aload_n (z := 3) (pc := 36) dX5_ruleLine_36 rfl rfl ?_
      refine pw_iload_n (z := h o 3) (pc := 37) dX5_ruleLine_37 rfl rfl ?_
      refine pw_ldcs 12 (pc := 38) dX5_ruleLine_38 rfl ?_
      refine pw_callV (c := 5) (o := 3) (As := [ii_ (h o 3), rr_ G 3012]) (rest := []) (pc := 40) dX5_ruleLine_40 (d_law hC h30 tp n o ho (a + 1 + 1) H30 hl_h30 12 27 3 (show FJ_ 12 27 3 from ⟨by decide, by decide, by decide +kernel, by decide⟩) (h o 3) (by first | omega) (by rw [L30]; omega)) lX5_210 mX5_law vX5_law (hC 3 (by decide)) (show kd_ 3 = 15 by decide +kernel) rfl rfl rfl (by decide) ⟨Nat.zero_le _, Nat.zero_le _⟩ (Nat.le_of_ble_eq_true rfl) (k_i (fun z40 h40 y40 q40 => ?_))
      obtain ⟨f40, ⟨rfl, p40⟩ | ⟨rfl, p40⟩⟩ := q40
      · have N40 : LNF_ o h h40 := LNF_tr N30 ⟨off_mo f40.1 (by simp [RLC_]), fun k k2 k3 _ _ => f40.2.1 k k2 k3, f40.2.2.1⟩
        obtain ⟨q, q1, q2, q3, q4, q5, q6, q7, q8, q9⟩ := p40
        have p40 := q1
        refine pw_if_ne (t := 48) (pc := 43) dX5_ruleLine_43 (by decide) (by first | omega) (fun _ => ?_) (fun c43 => absurd c43 (by decide))
        have hl_h40 : h40 3 1 = (o : Int) := by rw [f40.2.1 1 (by decide) (by decide)]; exact hl_h30
        refine pw_aload_n (z := 3) (pc := 48) dX5_ruleLine_48 rfl rfl ?_
        refine pw_gD (x := 1) (r := o) (pc := 49) dX5_ruleLine_49 fX5_94 (hC 3 (by decide)) (show kd_ 3 = 15 by decide +kernel) rfl rfl hl_h40 ?_
        refine pw_dup (pc := 52) dX5_ruleLine_52 rfl ?_
        refine pw_gI (x := 3) (pc := 53) dX5_ruleLine_53 fX5_214 (hC _ (by omega)) (kd6_0 ho) rfl rfl (fun r53 => ?_)
        have n_h40_o_3 : h40 o 3 = h o 3 := (((show h40 o 3 = h30 o 3 from (congrFun (f40.1 o (by first | decide | (simp; done) | (simp; omega))) 3)).trans (show h30 o 3 = h23 o 3 from (congrFun (f30.1 o (by first | decide | (simp; done) | (simp; omega))) 3))).trans (show h23 o 3 = h o 3 from (congrFun (f23 o (by first | decide | (simp; done) | (simp; omega))) 3)))
        rw [n_h40_o_3] at r53 ⊢
        refine pw_iconst (pc := 56) dX5_ruleLine_56 ?_
        refine pw_iadd (pc := 57) dX5_ruleLine_57 ?_
        refine pw_pI (x := 3) (pc := 58) dX5_ruleLine_58 fX5_214 (hC _ (by omega)) (kd6_0 ho) rfl rfl (by first | omega | (simp only [n_h40_o_3]; omega)) ?_
        obtain ⟨g58, e58⟩ : ∃ x, x = up_ h40 o 3 ((h o 3) + 1) := ⟨_, rfl⟩
        refine pw_heq e58 ?_
        refine pw_iconst (pc := 61) dX5_ruleLine_61 ?_
        exact pw_zret (pc := 62) dX5_ruleLine_62 (by first | omega | (simp only [n_h40_o_3]; omega)) (by
                  have XL : uln_ (tk_ tp n) Z a = .ok ((ob_ Z.1 3 (Z.1 3 + 1), nm, Z.2.2.1, Z.2.2.2.1 ++ [q.1], Z.2.2.2.2), q.2) := by unfold uln_; rw [if_f (by omega), bd_o t30]; exact bd_o q1
                  have k5 := lwe_k HB.1.1 (by decide) q1 (by omega)
                  refine ⟨LNF_tr N40 (by rw [e58]; exact LNF_u (by simp [RLC_]) (by omega) (by omega)), Or.inl ⟨rfl, _, XL, q2, ?_, q4, ?_⟩⟩
                  · exact CPO_mv q3 (by rw [e58, up_off (by omega)]) (by rw [e58, up_off (by omega)]) (by rw [e58, up_off (by omega)])
                  · have o23 : ∀ i, i ≠ 1 → h23 i = h i := fun i hi => f23 i (by simpa using hi)
                    have c9 : h30 (o + 9) = h (o + 9) := by rw [f30.1 (o + 9) (by simp), o23 _ (by omega)]
                    have c12 : h30 (o + 12) = h (o + 12) := by rw [f30.1 (o + 12) (by simp), o23 _ (by omega)]
                    have c13 : h30 (o + 13) = h (o + 13) := by rw [f30.1 (o + 13) (by simp), o23 _ (by omega)]
                    refine CZ_rule ho hZ (w := (tk_ tp n (a + 1)).2.2.2) ?_ ?_ ?_ nm1 lk30 nm3 ?_ ?_ ?_ ?_ k5 (by omega) (uln_z HB.2.2.2.1 zk (by show q.2 ≤ 1000; omega) XL).1 (by omega) (by omega)
                    · exact off_tr (off_tr (off_tr (off_mo f23 (by simp)) (off_mo f30.1 (by simp))) (off_mo f40.1 (by simp))) (by rw [e58]; exact off_up off_rf (by simp))
                    · rw [e58, up_ob, f40.1 o (by simp; omega), f30.1 o (by simp; omega), o23 o (by omega), e3]
                    · rw [e58, up_off (by omega), f40.1 (o + 2) (by simp; omega), m30, o23 _ (by omega), e3]
                    · rw [e58, up_off (by omega), q6, L30]
                    · rw [e58, up_off (by omega), q7, L30, c9]
                    · rw [e58, up_off (by omega), q8, L30, c12, e3]
                    · rw [e58, up_off (by omega), q9, L30, c13, e3])
      · have N40 : LNF_ o h h40 := LNF_tr N30 ⟨off_mo f40.1 (by simp [RLC_]), fun k k2 k3 _ _ => f40.2.1 k k2 k3, f40.2.2.1⟩
        refine pw_if_ne (t := 48) (pc := 43) dX5_ruleLine_43 (by decide) (by first | omega) (fun c43 => absurd c43 (by decide)) (fun _ => ?_)
        refine pw_iconst (pc := 46) dX5_ruleLine_46 ?_
        exact pw_zret (pc := 47) dX5_ruleLine_47 (by first | omega) (by
                  obtain ⟨e, x1, x2⟩ := p40
                  refine ⟨N40, Or.inr ⟨rfl, e, ?_, x2⟩⟩
                  rcases x1 with x1 | ⟨q, y1, y2⟩
                  · exact Or.inl (by unfold uln_; rw [if_f (by omega), bd_o t30]; exact bd_e x1)
                  · exact Or.inr ⟨((ob_ Z.1 3 (Z.1 3 + 1), nm, Z.2.2.1, Z.2.2.2.1 ++ [q.1], Z.2.2.2.2), q.2), by unfold uln_; rw [if_f (by omega), bd_o t30]; exact bd_o y1, y2⟩)
    · have N30 : LNF_ o h h30 := LNF_tr N23 ⟨off_mo f30.1 (by simp [RLC_]), fun k _ k3 _ _ => f30.2.1 k k3, f30.2.2⟩
      refine pw_if_eq (t := 46) (pc := 33) dX5_ruleLine_33 (by decide) (by first | omega) (fun _ => ?_) (fun c33 => absurd c33 (by decide))
      refine pw_iconst (pc := 46) dX5_ruleLine_46 ?_
      exact pw_zret (pc := 47) dX5_ruleLine_47 (by first | omega) (⟨N30, Or.inr ⟨rfl, by obtain ⟨e, x1, x2⟩ := p30; exact ⟨e, Or.inl (by unfold uln_; rw [if_f (by omega)]; exact bd_e x1), x2⟩⟩⟩)
  · refine pw_aload_n (z := 3) (pc := 13) dX5_ruleLine_13 rfl rfl ?_
    refine pw_iconst (pc := 14) dX5_ruleLine_14 ?_
    refine pw_callV (c := 5) (o := 3) (As := [ii_ 5]) (rest := []) (pc := 15) dX5_ruleLine_15 (d_wrong hC h tp n a H 5 (by first | omega)) lX5_70 mX5_wrong vX5_wrong (hC 3 (by decide)) (show kd_ 3 = 15 by decide +kernel) rfl rfl rfl (by decide) ⟨Nat.zero_le _, Nat.zero_le _⟩ (Nat.le_of_ble_eq_true rfl) (k_i (fun z15 h15 y15 q15 => ?_))
    obtain ⟨f15, x15, rfl⟩ := q15
    have fp15 := flt_p (tp := tp) (a := a) HB.1 (w := 5) (by omega)
    exact pw_zret (pc := 18) dX5_ruleLine_18 (by first | omega) (⟨LNF_3 f15 (by simp), Or.inr ⟨rfl, _, Or.inl (by unfold uln_; exact if_t (by omega)), x15, fp15.1⟩⟩)

