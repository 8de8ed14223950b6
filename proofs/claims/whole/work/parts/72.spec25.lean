/-! ===== each line keeps to it ===== -/
theorem bx_s : ∀ v < 16, ∀ s < 4, v / 2 ^ s % 2 = 0 → (v ||| 2 ^ s) = v + 2 ^ s ∧ v + 2 ^ s < 16 := by decide
theorem bset_ {v s : Int} (hv : 0 ≤ v ∧ v ≤ 15) (hs : 0 ≤ s ∧ s < 4) (hb : ¬ v / 2 ^ s.toNat % 2 = 1) : (((v.toNat ||| ((2 : Int) ^ s.toNat).toNat : Nat)) : Int) = v + 2 ^ s.toNat ∧ 0 ≤ v + 2 ^ s.toNat ∧ v + 2 ^ s.toNat ≤ 15 := by
  obtain ⟨n, rfl⟩ := Int.eq_ofNat_of_zero_le hv.1
  have hb0 : (n : Int) / 2 ^ s.toNat % 2 = 0 := by omega
  have e1 := bx_s n (by omega) s.toNat (by omega) (ib_.2.mp hb0)
  rw [ip2, Int.toNat_natCast, e1.1, pc_]
  omega
theorem rdh_o {tk : Nat → TK_} {nm : NM_} {a : Nat} {v : Int} (h : rdh_ tk nm a = .ok v) : (0 ≤ v ∧ v ≤ 3) ∧ nam_ (tk a) ∧ fnd_ nm (tk a).2.2.2 = v := by
  unfold rdh_ at h
  by_cases c1 : nam_ (tk a)
  · rw [if_t c1] at h
    by_cases c2 : 0 ≤ fnd_ nm (tk a).2.2.2 ∧ fnd_ nm (tk a).2.2.2 ≤ 3
    · rw [if_t c2] at h; cases h; exact ⟨c2, c1, rfl⟩
    · rw [if_f c2] at h; cases h
  · rw [if_f c1] at h; cases h
theorem nnm_o {tk : Nat → TK_} {nm nm' : NM_} {v : Int} {a : Nat} (h : nnm_ tk nm v a = .ok nm') : nm' = nm ++ [((tk a).2.2.2, v)] ∧ nam_ (tk a) ∧ fnd_ nm (tk a).2.2.2 < 0 := by
  unfold nnm_ at h
  by_cases c1 : nam_ (tk a)
  · rw [if_t c1] at h
    by_cases c2 : 0 ≤ fnd_ nm (tk a).2.2.2
    · rw [if_t c2] at h; cases h
    · rw [if_f c2] at h; cases h; exact ⟨rfl, c1, by omega⟩
  · rw [if_f c1] at h; cases h
theorem knd_o {tk : Nat → TK_} {a : Nat} {k : Int} (h : knd_ tk a = .ok k) : (0 ≤ k ∧ k ≤ 3) ∧ k = fcw_ (tk a) 15 4 ∧ (tk a).1 = 1 := by
  unfold knd_ at h
  have b := fcw_b (tk a) 15 4
  by_cases c : fcw_ (tk a) 15 4 < 0
  · rw [if_t c] at h; cases h
  · rw [if_f c] at h; cases h
    refine ⟨by omega, rfl, ?_⟩
    by_cases z : (tk a).1 = 1
    · exact z
    · exfalso
      have k : ∀ n : Nat, fcw_ (tk a) 15 n = -1 := fun n => by
        induction n with
        | zero => rfl
        | succ n ih => show if_ _ _ _ = _; rw [if_f (fun q => z q.1)]; exact ih
      rw [k 4] at c; omega
theorem taf_o {tk : Nat → TK_} {w : Nat} {lo hi : Int} {a : Nat} {q : Int × Nat} (h : taf_ tk w lo hi a = .ok q) : (lo ≤ q.1 ∧ q.1 ≤ hi) ∧ q.2 = a + 2 := by
  unfold taf_ at h
  obtain ⟨b, b1, b2⟩ := bd_ok h
  have e1 := tkw_o b1
  have e2 := tkn_o b2
  exact ⟨e2.1, by omega⟩
theorem rln_z {tk : Nat → TK_} {Z : ZT_} {a : Nat} (hw : wfk_ tk) (hz : zok_ Z) {q : ZT_ × Nat} (h : rln_ tk Z a = .ok q) : zok_ q.1 ∧ a < q.2 := by
  unfold rln_ at h
  by_cases c : Z.1 2 = Z.1 0
  · rw [if_t c] at h; cases h
  rw [if_f c] at h
  obtain ⟨nm, n1, h⟩ := bd_ok h
  obtain ⟨k, k1, h⟩ := bd_ok h
  obtain ⟨d, d1, h⟩ := bd_ok h
  obtain ⟨p, p1, h⟩ := bd_ok h
  cases h
  have N := nnm_o n1
  have K := knd_o k1
  have D := taf_o d1
  have P := taf_o p1
  obtain ⟨⟨z0, z1, z2, z3, z4, z5⟩, zr, zs, za, zn, zm⟩ := hz
  refine ⟨?_, by show a < p.2; omega⟩
  show zk_ (ob_ (ob_ (ob_ (ob_ Z.1 (31 + 4 * Z.1 2) k) (31 + 4 * Z.1 2 + 1) d.1) (31 + 4 * Z.1 2 + 2) p.1) 2 (Z.1 2 + 1)) nm Z.2.2.1 Z.2.2.2.1 Z.2.2.2.2
  obtain ⟨ro', hro⟩ : ∃ r, r = ob_ (ob_ (ob_ (ob_ Z.1 (31 + 4 * Z.1 2) k) (31 + 4 * Z.1 2 + 1) d.1) (31 + 4 * Z.1 2 + 2) p.1) 2 (Z.1 2 + 1) := ⟨_, rfl⟩
  rw [← hro]
  have g : ∀ x, x ≠ 2 → (x < 31 + 4 * Z.1 2 ∨ 31 + 4 * Z.1 2 + 2 < x) → ro' x = Z.1 x := fun x x1 x2 => by
    rw [hro]; unfold ob_; rw [if_neg x1, if_neg (by omega), if_neg (by omega), if_neg (by omega)]
  have g2 : ro' 2 = Z.1 2 + 1 := by rw [hro]; unfold ob_; rw [if_pos rfl]
  have ga : ro' (31 + 4 * Z.1 2) = k := by rw [hro]; unfold ob_; rw [if_neg (by omega), if_neg (by omega), if_neg (by omega), if_pos rfl]
  have gb : ro' (31 + 4 * Z.1 2 + 1) = d.1 := by rw [hro]; unfold ob_; rw [if_neg (by omega), if_neg (by omega), if_pos rfl]
  have gc : ro' (31 + 4 * Z.1 2 + 2) = p.1 := by rw [hro]; unfold ob_; rw [if_neg (by omega), if_pos rfl]
  unfold zk_
  rw [g2, g 0 (by decide) (by omega), g 1 (by decide) (by omega), g 3 (by decide) (by omega), g 4 (by decide) (by omega), g 10 (by decide) (by omega)]
  refine ⟨⟨z0, z1, by omega, z3, z4, z5⟩, fun x x0 x1 => ?_, fun t t0 t1 => ?_, fun x x0 x1 => ?_, ?_, fun y hy => ?_, zm.2⟩
  · have zx := zr x x0 x1
    unfold rok_ at zx ⊢
    rw [g2]
    by_cases cx : x = Z.1 2
    · rw [cx, ga, gb, gc, g _ (by omega) (by omega)]
      rw [cx] at zx
      exact ⟨K.1, fun _ => D.1, P.1, zx.2.2.2⟩
    · rw [g (31 + 4 * x) (by omega) (by omega), g (31 + 4 * x + 1) (by omega) (by omega), g (31 + 4 * x + 2) (by omega) (by omega), g (31 + 4 * x + 3) (by omega) (by omega)]
      exact ⟨zx.1, fun u => zx.2.1 (by omega), zx.2.2⟩
  · have zt := zs t t0 t1
    unfold sok_ at zt ⊢
    rw [g 0 (by decide) (by omega), g (11 + 5 * t) (by omega) (by omega)]
    exact ⟨zt.1, fun s s0 s1 => by rw [g _ (by omega) (by omega)]; exact zt.2 s s0 s1⟩
  · rw [g x (by omega) (by omega)]; exact za x x0 x1
  · rw [N.1, List.length_append]
    exact ⟨by have := zn.1; show ((Z.2.1.length + 1 : Nat) : Int) = _; omega, zn.2⟩
  · rw [N.1] at hy
    rcases List.mem_append.mp hy with hy | hy
    · have := zm.1 y hy
      exact ⟨this.1, by omega⟩
    · simp at hy; subst hy
      exact ⟨((hw (a + 1)).1 N.2.1.1).1, Or.inl ⟨by show 0 ≤ Z.1 2; omega, by show Z.1 2 < Z.1 2 + 1; omega⟩⟩
/-- only these slots: apart, never, gaps, fight -/
theorem zk_1 {ro ro' : Int → Int} {nm : NM_} {W : Option CO_} {Q : List CO_} {ft ft' : Int} (hz : zk_ ro nm W Q ft) (h1 : ∀ x, x = 0 ∨ x = 1 ∨ x = 2 ∨ x = 3 → ro' x = ro x) (h4 : 0 ≤ ro' 4 ∧ ro' 4 ≤ 99) (h10 : 0 ≤ ro' 10 ∧ ro' 10 ≤ 15) (hs : ∀ x, 11 ≤ x → x < 31 → ro' x = ro x) (hr : ∀ r, 0 ≤ r → r < 4 → ro' (31 + 4 * r) = ro (31 + 4 * r) ∧ ro' (31 + 4 * r + 1) = ro (31 + 4 * r + 1) ∧ ro' (31 + 4 * r + 2) = ro (31 + 4 * r + 2) ∧ (0 ≤ ro' (31 + 4 * r + 3) ∧ ro' (31 + 4 * r + 3) ≤ 15)) (ha : ∀ x, 47 ≤ x → x < 63 → ro' x = 0 ∨ ro' x = 1) (hf : ft' = 0 ∨ ft' = 1) : zk_ ro' nm W Q ft' := by
  obtain ⟨⟨z0, z1, z2, z3, z4, z5⟩, zr, zs, za, zn, zm⟩ := hz
  unfold zk_
  rw [h1 0 (by omega), h1 1 (by omega), h1 2 (by omega), h1 3 (by omega)]
  refine ⟨⟨z0, z1, z2, z3, h4, h10⟩, fun x x0 x1 => ?_, fun t t0 t1 => ?_, ha, ⟨zn.1, zn.2.1, hf⟩, zm⟩
  · have zx := zr x x0 x1
    have hx := hr x x0 x1
    unfold rok_ at zx ⊢
    rw [h1 2 (by omega), hx.1, hx.2.1, hx.2.2.1]
    exact ⟨zx.1, zx.2.1, zx.2.2.1, hx.2.2.2⟩
  · have zt := zs t t0 t1
    unfold sok_ at zt ⊢
    rw [h1 0 (by omega), hs (11 + 5 * t) (by omega) (by omega)]
    exact ⟨zt.1, fun s s0 s1 => by rw [hs _ (by omega) (by omega)]; exact zt.2 s s0 s1⟩
theorem aln_z {tk : Nat → TK_} {Z : ZT_} {a : Nat} (hz : zok_ Z) {q : ZT_ × Nat} (h : aln_ tk Z a = .ok q) : zok_ q.1 ∧ a < q.2 := by
  unfold aln_ at h
  obtain ⟨u, u1, h⟩ := bd_ok h
  obtain ⟨v, v1, h⟩ := bd_ok h
  have U := (rdh_o u1).1
  have V := (rdh_o v1).1
  by_cases c : u = v ∨ Z.1 (47 + 4 * u + v) = 1
  · rw [if_t c] at h; cases h
  rw [if_f c] at h
  cases h
  refine ⟨?_, by show a < a + 3; omega⟩
  show zk_ (ob_ (ob_ Z.1 (47 + 4 * u + v) 1) (47 + 4 * v + u) 1) Z.2.1 Z.2.2.1 Z.2.2.2.1 Z.2.2.2.2
  have g : ∀ x, x < 47 → ob_ (ob_ Z.1 (47 + 4 * u + v) 1) (47 + 4 * v + u) 1 x = Z.1 x := fun x hx => by unfold ob_; rw [if_neg (by omega), if_neg (by omega)]
  refine zk_1 hz (fun x hx => g x (by omega)) (by rw [g 4 (by omega)]; exact hz.1.2.2.2.2.1) (by rw [g 10 (by omega)]; exact hz.1.2.2.2.2.2) (fun x x0 x1 => g x (by omega)) (fun r r0 r1 => ⟨g _ (by omega), g _ (by omega), g _ (by omega), by rw [g _ (by omega)]; exact (hz.2.1 r r0 r1).2.2.2⟩) (fun x x0 x1 => ?_) hz.2.2.2.2.1.2.2
  unfold ob_
  by_cases c1 : x = 47 + 4 * v + u
  · rw [if_pos c1]; exact Or.inr rfl
  · rw [if_neg c1]
    by_cases c2 : x = 47 + 4 * u + v
    · rw [if_pos c2]; exact Or.inr rfl
    · rw [if_neg c2]; exact hz.2.2.2.1 x x0 x1
theorem vln_z {tk : Nat → TK_} {Z : ZT_} {a : Nat} (hz : zok_ Z) {q : ZT_ × Nat} (h : vln_ tk Z a = .ok q) : zok_ q.1 ∧ a < q.2 := by
  unfold vln_ at h
  obtain ⟨u, u1, h⟩ := bd_ok h
  obtain ⟨s, s1, h⟩ := bd_ok h
  have U := (rdh_o u1).1
  have S := tkn_o s1
  by_cases c : Z.1 (31 + 4 * u + 3) / 2 ^ s.1.toNat % 2 = 1
  · rw [if_t c] at h; cases h
  rw [if_f c] at h
  cases h
  refine ⟨?_, by show a < a + 3; omega⟩
  show zk_ (ob_ Z.1 (31 + 4 * u + 3) (Z.1 (31 + 4 * u + 3) + 2 ^ s.1.toNat)) Z.2.1 Z.2.2.1 Z.2.2.2.1 Z.2.2.2.2
  have g : ∀ x, x ≠ 31 + 4 * u + 3 → ob_ Z.1 (31 + 4 * u + 3) (Z.1 (31 + 4 * u + 3) + 2 ^ s.1.toNat) x = Z.1 x := fun x hx => by unfold ob_; rw [if_neg hx]
  have z0 := hz.1.1
  have b := bset_ (hz.2.1 u U.1 (by omega)).2.2.2 (show 0 ≤ s.1 ∧ s.1 < 4 by omega) c
  refine zk_1 hz (fun x hx => g x (by omega)) (by rw [g 4 (by omega)]; exact hz.1.2.2.2.2.1) (by rw [g 10 (by omega)]; exact hz.1.2.2.2.2.2) (fun x x0 x1 => g x (by omega)) (fun r r0 r1 => ⟨g _ (by omega), g _ (by omega), g _ (by omega), ?_⟩) (fun x x0 x1 => by rw [g _ (by omega)]; exact hz.2.2.2.1 x x0 x1) hz.2.2.2.2.1.2.2
  by_cases e : r = u
  · rw [e]; unfold ob_; rw [if_pos rfl]; exact b.2
  · rw [g _ (by omega)]; exact (hz.2.1 r r0 r1).2.2.2
theorem gln_z {tk : Nat → TK_} {Z : ZT_} {a : Nat} (hz : zok_ Z) {q : ZT_ × Nat} (h : gln_ tk Z a = .ok q) : zok_ q.1 ∧ a < q.2 := by
  unfold gln_ at h
  obtain ⟨s, s1, h⟩ := bd_ok h
  have S := tkn_o s1
  by_cases c : Z.1 10 / 2 ^ s.1.toNat % 2 = 1
  · rw [if_t c] at h; cases h
  rw [if_f c] at h
  cases h
  refine ⟨?_, by show a < a + 2; omega⟩
  show zk_ (ob_ Z.1 10 (Z.1 10 + 2 ^ s.1.toNat)) Z.2.1 Z.2.2.1 Z.2.2.2.1 Z.2.2.2.2
  have g : ∀ x, x ≠ 10 → ob_ Z.1 10 (Z.1 10 + 2 ^ s.1.toNat) x = Z.1 x := fun x hx => by unfold ob_; rw [if_neg hx]
  have z0 := hz.1.1
  have b := bset_ hz.1.2.2.2.2.2 (show 0 ≤ s.1 ∧ s.1 < 4 by omega) c
  refine zk_1 hz (fun x hx => g x (by omega)) (by rw [g 4 (by omega)]; exact hz.1.2.2.2.2.1) (by unfold ob_; rw [if_pos rfl]; exact b.2) (fun x x0 x1 => g x (by omega)) (fun r r0 r1 => ⟨g _ (by omega), g _ (by omega), g _ (by omega), by rw [g _ (by omega)]; exact (hz.2.1 r r0 r1).2.2.2⟩) (fun x x0 x1 => by rw [g _ (by omega)]; exact hz.2.2.2.1 x x0 x1) hz.2.2.2.2.1.2.2
theorem fln_z {tk : Nat → TK_} {Z : ZT_} {a : Nat} (hz : zok_ Z) {q : ZT_ × Nat} (h : fln_ tk Z a = .ok q) : zok_ q.1 ∧ a < q.2 := by
  unfold fln_ at h
  by_cases c : Z.2.2.2.2 = 0
  · rw [if_t c] at h
    obtain ⟨s, s1, h⟩ := bd_ok h
    have S := tkn_o s1
    cases h
    refine ⟨?_, by show a < a + 2; omega⟩
    show zk_ (ob_ Z.1 4 s.1) Z.2.1 Z.2.2.1 Z.2.2.2.1 1
    have g : ∀ x, x ≠ 4 → ob_ Z.1 4 s.1 x = Z.1 x := fun x hx => by unfold ob_; rw [if_neg hx]
    exact zk_1 hz (fun x hx => g x (by omega)) (by unfold ob_; rw [if_pos rfl]; exact S.1) (by rw [g 10 (by omega)]; exact hz.1.2.2.2.2.2) (fun x x0 x1 => g x (by omega)) (fun r r0 r1 => ⟨g _ (by omega), g _ (by omega), g _ (by omega), by rw [g _ (by omega)]; exact (hz.2.1 r r0 r1).2.2.2⟩) (fun x x0 x1 => by rw [g _ (by omega)]; exact hz.2.2.2.1 x x0 x1) (Or.inr rfl)
  · rw [if_f c] at h; cases h
theorem wln_z {tk : Nat → TK_} {Z : ZT_} {a : Nat} (hw : wfk_ tk) (hz : zok_ Z) {q : ZT_ × Nat} (hq : q.2 ≤ 1000) (h : wln_ tk Z a = .ok q) : zok_ q.1 ∧ a < q.2 := by
  unfold wln_ at h
  by_cases c : Z.2.2.1 = none
  · rw [if_t c] at h
    obtain ⟨s, s1, h⟩ := bd_ok h
    have S := lwe_g hw (by omega) s1
    cases h
    have hq : s.2 ≤ 1000 := hq
    refine ⟨?_, by show a < s.2; omega⟩
    show zk_ Z.1 Z.2.1 (some s.1) Z.2.2.2.1 Z.2.2.2.2
    obtain ⟨z1, zr, zs, za, zn, zm, zw, zq⟩ := hz
    exact ⟨z1, zr, zs, za, zn, zm, fun P e => by cases e; exact wfc_of S.1 (by omega), zq⟩
  · rw [if_f c] at h; cases h
theorem uln_z {tk : Nat → TK_} {Z : ZT_} {a : Nat} (hw : wfk_ tk) (hz : zok_ Z) {q : ZT_ × Nat} (hq : q.2 ≤ 1000) (h : uln_ tk Z a = .ok q) : zok_ q.1 ∧ a < q.2 := by
  unfold uln_ at h
  by_cases c : Z.1 3 = 4
  · rw [if_t c] at h; cases h
  rw [if_f c] at h
  obtain ⟨nm, n1, h⟩ := bd_ok h
  obtain ⟨s, s1, h⟩ := bd_ok h
  have N := nnm_o n1
  have S := lwe_g hw (by omega) s1
  cases h
  have hq : s.2 ≤ 1000 := hq
  refine ⟨?_, by show a < s.2; omega⟩
  show zk_ (ob_ Z.1 3 (Z.1 3 + 1)) nm Z.2.2.1 (Z.2.2.2.1 ++ [s.1]) Z.2.2.2.2
  have g : ∀ x, x ≠ 3 → ob_ Z.1 3 (Z.1 3 + 1) x = Z.1 x := fun x hx => by unfold ob_; rw [if_neg hx]
  have g3 : ob_ Z.1 3 (Z.1 3 + 1) 3 = Z.1 3 + 1 := rfl
  obtain ⟨⟨z0, z1, z2, z3, z4, z5⟩, zr, zs, za, zn, zm, zw, zq⟩ := hz
  unfold zk_
  rw [g3, g 0 (by decide), g 1 (by decide), g 2 (by decide), g 4 (by decide), g 10 (by decide)]
  refine ⟨⟨z0, z1, z2, by omega, z4, z5⟩, fun x x0 x1 => ?_, fun t t0 t1 => ?_, fun x x0 x1 => ?_, ?_, fun y hy => ?_, zw, fun P hP => ?_⟩
  · have zx := zr x x0 x1
    unfold rok_ at zx ⊢
    rw [g 2 (by decide), g _ (by omega), g _ (by omega), g _ (by omega), g _ (by omega)]; exact zx
  · have zt := zs t t0 t1
    unfold sok_ at zt ⊢
    rw [g 0 (by decide), g _ (by omega)]
    exact ⟨zt.1, fun s s0 s1 => by rw [g _ (by omega)]; exact zt.2 s s0 s1⟩
  · rw [g x (by omega)]; exact za x x0 x1
  · rw [N.1, List.length_append, List.length_append]
    exact ⟨by have := zn.1; show ((Z.2.1.length + 1 : Nat) : Int) = _; omega, by have := zn.2.1; show ((Z.2.2.2.1.length + 1 : Nat) : Int) = _; omega, zn.2.2⟩
  · rw [N.1] at hy
    rcases List.mem_append.mp hy with hy | hy
    · exact zm y hy
    · simp at hy; subst hy
      exact ⟨((hw (a + 1)).1 N.2.1.1).1, Or.inr rfl⟩
  · rcases List.mem_append.mp hP with hP | hP
    · exact zq P hP
    · simp at hP; subst hP; exact wfc_of S.1 (by omega)
