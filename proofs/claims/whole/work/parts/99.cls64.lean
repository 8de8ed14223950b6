/-! ===== a seating of the class is a state of the reference ===== -/
def SEC_ (ro f : Int → Int) (b : Int) (se ah to : Int → Int) (nx : Int) : Prop :=
  (nx = f b ∧ 0 ≤ nx ∧ nx ≤ ro 1) ∧
  (∀ r, 0 ≤ r → r < 4 → (r < ro 2 → se r = f (b + 1 + r)) ∧ (ro 2 ≤ r → se r = -1) ∧ (-1 ≤ se r ∧ se r < ro 0) ∧ (-1 ≤ f (b + 1 + r) ∧ f (b + 1 + r) ≤ 3)) ∧
  (∀ e g, 0 ≤ e → e < 4 → 0 ≤ g → g < 4 → e ≠ g → 0 ≤ se e → se e ≠ se g) ∧
  (∀ r, 0 ≤ r → r < ro 2 → ah r = f (b + 5 + r) ∧ (0 < nx → 0 ≤ ah r) ∧ (nx = 0 → ah r = -1)) ∧
  (∀ r, 0 ≤ r → r < ro 2 → to r = f (b + 9 + r)) ∧
  (∀ r, 0 ≤ r → r < 4 → -(1000 * nx) ≤ f (b + 9 + r) ∧ f (b + 9 + r) ≤ 9999 + 1000 * nx)
theorem SEC_cg {ro f g : Int → Int} {b c : Int} {se ah to se' ah' to' : Int → Int} {nx nx' : Int} (H : SEC_ ro f b se ah to nx) (hR : ro 2 ≤ 4) (hf : ∀ k, 0 ≤ k → k < 13 → g (c + k) = f (b + k)) (h0 : nx' = nx) (h1 : ∀ r, 0 ≤ r → r < 4 → se' r = se r) (h2 : ∀ r, 0 ≤ r → r < ro 2 → ah' r = ah r) (h3 : ∀ r, 0 ≤ r → r < ro 2 → to' r = to r) : SEC_ ro g c se' ah' to' nx' := by
  obtain ⟨a0, a1, a2, a3, a4, a5⟩ := H
  subst h0
  have f1 : ∀ r, 0 ≤ r → r < 4 → g (c + 1 + r) = f (b + 1 + r) := fun r r0 r1 => by have := hf (1 + r) (by omega) (by omega); rw [← Int.add_assoc, ← Int.add_assoc] at this; exact this
  have f5 : ∀ r, 0 ≤ r → r < 4 → g (c + 5 + r) = f (b + 5 + r) := fun r r0 r1 => by have := hf (5 + r) (by omega) (by omega); rw [← Int.add_assoc, ← Int.add_assoc] at this; exact this
  have f9 : ∀ r, 0 ≤ r → r < 4 → g (c + 9 + r) = f (b + 9 + r) := fun r r0 r1 => by have := hf (9 + r) (by omega) (by omega); rw [← Int.add_assoc, ← Int.add_assoc] at this; exact this
  have f0 : g c = f b := by have := hf 0 (by omega) (by omega); rw [Int.add_zero, Int.add_zero] at this; exact this
  refine ⟨⟨by rw [f0]; exact a0.1, a0.2⟩, fun r r0 r1 => ?_, fun e q e0 e1 q0 q1 ne => ?_, fun r r0 r1 => ?_, fun r r0 r1 => ?_, fun r r0 r1 => ?_⟩
  · rw [h1 r r0 r1, f1 r r0 r1]; exact a1 r r0 r1
  · rw [h1 e e0 e1, h1 q q0 q1]; exact a2 e q e0 e1 q0 q1 ne
  · rw [h2 r r0 r1, f5 r r0 (by omega)]; exact a3 r r0 r1
  · rw [h3 r r0 r1, f9 r r0 (by omega)]; exact a4 r r0 r1
  · rw [f9 r r0 r1]; exact a5 r r0 r1
/-- at the begin -/
theorem SEC_0 {ro f : Int → Int} {b : Int} {se ah to : Int → Int} (hT : 0 ≤ ro 1) (hR : ro 2 ≤ 4) (hS : 2 ≤ ro 0) (hp : ∀ r, 0 ≤ r → r < 4 → 0 ≤ ro (31 + 4 * r + 2) ∧ ro (31 + 4 * r + 2) ≤ 9999) (h1 : ∀ r, 0 ≤ r → r < 4 → se r = -1) (h2 : ∀ r, 0 ≤ r → r < ro 2 → ah r = -1) (h3 : ∀ r, 0 ≤ r → r < ro 2 → to r = ro (31 + 4 * r + 2)) : SEC_ ro (sta_ ro f b 4) b se ah to 0 := by
  have f0 : sta_ ro f b 4 b = 0 := if_pos rfl
  have f1 : ∀ r, 0 ≤ r → r < 4 → sta_ ro f b 4 (b + 1 + r) = -1 := fun r r0 r1 => by unfold sta_; rw [if_neg (by omega), if_pos (by omega)]
  have f5 : ∀ r, 0 ≤ r → r < 4 → sta_ ro f b 4 (b + 5 + r) = -1 := fun r r0 r1 => by unfold sta_; rw [if_neg (by omega), if_neg (by omega), if_pos (by omega)]
  have f9 : ∀ r, 0 ≤ r → r < 4 → sta_ ro f b 4 (b + 9 + r) = ro (31 + 4 * r + 2) := fun r r0 r1 => by unfold sta_; rw [if_neg (by omega), if_neg (by omega), if_neg (by omega), if_pos (by omega), show b + 9 + r - b - 9 = r by omega]
  refine ⟨⟨f0.symm, by omega, hT⟩, fun r r0 r1 => ?_, fun e q e0 e1 q0 q1 ne p => ?_, fun r r0 r1 => ?_, fun r r0 r1 => ?_, fun r r0 r1 => ?_⟩
  · rw [h1 r r0 r1, f1 r r0 r1]; exact ⟨fun _ => rfl, fun _ => rfl, by omega, by omega⟩
  · rw [h1 e e0 e1] at p; omega
  · rw [h2 r r0 r1, f5 r r0 (by omega)]; exact ⟨rfl, fun u => by omega, fun _ => rfl⟩
  · rw [h3 r r0 r1, f9 r r0 (by omega)]
  · rw [f9 r r0 r1]; have := hp r r0 r1; omega
/-- who sits there -/
theorem who_n {f : Int → Int} {g : Int} : ∀ {n : Nat}, (∀ e : Int, 0 ≤ e → e < n → f e ≠ g) → who_ f g n = -1
  | 0, _ => rfl
  | n + 1, h => by unfold who_; rw [if_neg (h n (by omega) (by omega))]; exact who_n (fun e e0 e1 => h e e0 (by omega))
theorem who_1 {f : Int → Int} {g z : Int} : ∀ {n : Nat}, 0 ≤ z → z < n → f z = g → (∀ e : Int, 0 ≤ e → e < n → e ≠ z → f e ≠ g) → who_ f g n = z
  | 0, z0, z1, _, _ => by omega
  | n + 1, z0, z1, hz, h => by
    unfold who_
    by_cases c : (n : Int) = z
    · rw [c, if_pos hz]
    · rw [if_neg (h n (by omega) (by omega) c)]
      exact who_1 z0 (by omega) hz (fun e e0 e1 => h e e0 (by omega))
theorem SEC_who {ro f : Int → Int} {b : Int} {se ah to : Int → Int} {nx r g z : Int} (H : SEC_ ro f b se ah to nx) (hR : 0 ≤ ro 2 ∧ ro 2 ≤ 4) (hr : 0 ≤ r ∧ r < ro 2) (hg : 0 ≤ g) (hn : se r ≠ g) (hz : tkq_ se r g z 4) : z = who_ (fun e => f (b + 1 + e)) g (ro 2).toNat := by
  obtain ⟨-, a1, a2, -⟩ := H
  rcases hz with ⟨rfl, h⟩ | ⟨z0, z1, zr, zg⟩
  · refine (who_n (fun e e0 e1 => ?_)).symm
    show f (b + 1 + e) ≠ g
    rw [← (a1 e e0 (by omega)).1 (by omega)]
    by_cases c : e = r
    · rw [c]; exact hn
    · exact h e e0 (by omega) c
  · have zR : z < ro 2 := by
      rcases Classical.em (ro 2 ≤ z) with u | u
      · have := (a1 z z0 z1).2.1 u; omega
      · omega
    refine (who_1 z0 (by omega) ?_ (fun e e0 e1 ez => ?_)).symm
    · show f (b + 1 + z) = g; rw [← (a1 z z0 z1).1 zR]; exact zg
    · show f (b + 1 + e) ≠ g
      rw [← (a1 e e0 (by omega)).1 (by omega)]
      intro u
      exact a2 z e z0 z1 e0 (by omega) (Ne.symm ez) (by omega) (by rw [zg, u])
theorem SEC_take {ro f : Int → Int} {b : Int} {se ah to : Int → Int} {nx r g z : Int} (H : SEC_ ro f b se ah to nx) (hR : 0 ≤ ro 2 ∧ ro 2 ≤ 4) (hS : ro 0 ≤ 4) (hr : 0 ≤ r ∧ r < ro 2) (hg : 0 ≤ g ∧ g < ro 0) (hn : se r ≠ g) (hz : tkq_ se r g z 4) : SEC_ ro (sit_ f b r g (who_ (fun e => f (b + 1 + e)) g (ro 2).toNat)) b (tkf_ se r g z) ah to nx := by
  rw [← SEC_who H hR hr hg.1 hn hz]
  obtain ⟨a0, a1, a2, a3, a4, a5⟩ := H
  have zb : -1 ≤ z ∧ z < 4 ∧ z ≠ r := by rcases hz with h | h <;> omega
  have zR : 0 ≤ z → z < ro 2 ∧ se z = g := fun z0 => by
    rcases hz with h | h
    · omega
    · refine ⟨?_, h.2.2.2⟩
      rcases Classical.em (ro 2 ≤ z) with u | u
      · have := (a1 z h.1 h.2.1).2.1 u; omega
      · omega
  have rr := a1 r hr.1 (by omega)
  have o1 : ∀ x, x < b + 1 ∨ b + 5 ≤ x → sit_ f b r g z x = f x := fun x hx => by unfold sit_; rw [if_neg (by omega), if_neg (by omega)]
  refine ⟨⟨by rw [o1 b (by omega)]; exact a0.1, a0.2⟩, fun e e0 e1 => ?_, fun e q e0 e1 q0 q1 ne => ?_, fun e e0 e1 => by rw [o1 _ (by omega)]; exact a3 e e0 e1, fun e e0 e1 => by rw [o1 _ (by omega)]; exact a4 e e0 e1, fun e e0 e1 => by rw [o1 _ (by omega)]; exact a5 e e0 e1⟩
  · have ee := a1 e e0 e1
    unfold tkf_ sit_
    by_cases c : e = r
    · rw [if_pos c, if_pos (by omega)]; exact ⟨fun _ => rfl, fun u => by omega, by omega, by omega⟩
    · rw [if_neg c, if_neg (show ¬ b + 1 + e = b + 1 + r by omega)]
      by_cases c2 : 0 ≤ z ∧ e = z
      · rw [if_pos c2, if_pos (by omega)]
        exact ⟨fun _ => rr.1 hr.2, fun u => by have := (zR c2.1).1; omega, rr.2.2.1, rr.2.2.2⟩
      · rw [if_neg c2, if_neg (show ¬ (0 ≤ z ∧ b + 1 + e = b + 1 + z) by omega)]; exact ee
  · unfold tkf_
    have none_g : ∀ x, 0 ≤ x → x < 4 → x ≠ r → ¬ (0 ≤ z ∧ x = z) → se x ≠ g := fun x x0 x1 xr xz => by
      rcases hz with h | h
      · exact h.2 x x0 x1 xr
      · intro u
        exact a2 z x h.1 h.2.1 x0 x1 (by omega) (by rw [h.2.2.2]; exact hg.1) (by rw [h.2.2.2, u])
    by_cases c : e = r
    · rw [if_pos c, if_neg (show ¬ q = r by omega)]
      intro _
      by_cases c2 : 0 ≤ z ∧ q = z
      · rw [if_pos c2]; exact fun u => hn u.symm
      · rw [if_neg c2]; exact fun u => none_g q q0 q1 (by omega) c2 u.symm
    · rw [if_neg c]
      by_cases d : q = r
      · rw [if_pos d]
        by_cases c2 : 0 ≤ z ∧ e = z
        · rw [if_pos c2]; exact fun _ => hn
        · rw [if_neg c2]; exact fun _ => none_g e e0 e1 c c2
      · rw [if_neg d]
        by_cases c2 : 0 ≤ z ∧ e = z
        · rw [if_pos c2, if_neg (show ¬ (0 ≤ z ∧ q = z) by omega)]
          exact fun p => a2 r q hr.1 (by omega) q0 q1 (by omega) p
        · rw [if_neg c2]
          by_cases d2 : 0 ≤ z ∧ q = z
          · rw [if_pos d2]
            exact fun p => a2 e r e0 e1 hr.1 (by omega) (by omega) p
          · rw [if_neg d2]; exact a2 e q e0 e1 q0 q1 ne
/-- he sits there already -/
theorem SEC_take0 {ro f : Int → Int} {b : Int} {se ah to : Int → Int} {nx r g z : Int} (H : SEC_ ro f b se ah to nx) (hR : 0 ≤ ro 2 ∧ ro 2 ≤ 4) (hr : 0 ≤ r ∧ r < ro 2) (hg : 0 ≤ g) (hn : se r = g) (hz : tkq_ se r g z 4) : SEC_ ro f b (tkf_ se r g z) ah to nx := by
  have e : z = -1 := by
    rcases hz with h | h
    · exact h.1
    · exact absurd (by rw [h.2.2.2, hn] : se z = se r) (H.2.2.1 z r h.1 h.2.1 hr.1 (by omega) h.2.2.1 (by omega))
  refine SEC_cg H hR.2 (fun k _ _ => rfl) rfl (fun x x0 x1 => ?_) (fun _ _ _ => rfl) (fun _ _ _ => rfl)
  unfold tkf_
  by_cases c : x = r
  · rw [if_pos c, c, hn]
  · rw [if_neg c, if_neg (by omega)]
/-- whether one may drive -/
theorem SEC_mdr {ro f : Int → Int} {b : Int} {se ah to : Int → Int} {nx : Int} (H : SEC_ ro f b se ah to nx) (hR : 0 ≤ ro 2 ∧ ro 2 ≤ 4) : (nx < ro 1 ∧ alw_ ro se) ↔ mdr_ ro f b := by
  obtain ⟨a0, a1, a2, -⟩ := H
  have ef : ∀ e : Int, 0 ≤ e → e < (ro 2).toNat → se e = (fun r => f (b + 1 + r)) e := fun e e0 e1 => (a1 e e0 (by omega)).1 (by omega)
  have l := lwf_cg (ro := ro) (n := (ro 2).toNat) ef
  unfold mdr_ alw_
  rw [← a0.1]
  constructor
  · rintro ⟨h1, h2, h3⟩
    refine ⟨h1, ?_, l.mp h3⟩
    have al : ∀ n : Nat, (n : Int) ≤ ro 2 → alls_ (fun r => f (b + 1 + r)) n := by
      intro n
      induction n with
      | zero => intro _; trivial
      | succ n ih =>
        intro hn
        have q := (sea_at h2 (r := (n : Int)) (by omega) (by omega)).1.1
        rw [ef n (by omega) (by omega)] at q
        exact ⟨ih (by omega), q⟩
    exact al _ (by omega)
  · rintro ⟨h1, h2, h3⟩
    refine ⟨h1, ?_, l.mpr h3⟩
    have al : ∀ n : Nat, (n : Int) ≤ ro 2 → sea_ (ro 0) se n := by
      intro n
      induction n with
      | zero => intro _; trivial
      | succ n ih =>
        intro hn
        have q := alls_e h2 (n : Int) (by omega) (by omega)
        have q : 0 ≤ f (b + 1 + (n : Int)) := q
        have an := a1 n (by omega) (by omega)
        rw [← an.1 (by omega)] at q
        exact ⟨ih (by omega), ⟨q, an.2.2.1.2⟩, dis_i.mpr (fun e e0 e1 u => a2 n e (by omega) (by omega) e0 (by omega) (by omega) q u.symm)⟩
    exact al _ (by omega)
/-- a drive -/
theorem SEC_go {ro f : Int → Int} {P : List (Int × Int)} {b : Int} {se ah to ah' to' : Int → Int} {nx : Int} (H : SEC_ ro f b se ah to nx) (hR : 0 ≤ ro 2 ∧ ro 2 ≤ 4) (h4 : 0 ≤ ro 4 ∧ ro 4 ≤ 99) (hm : mdr_ ro f b) (ha : ∀ r, 0 ≤ r → r < 4 → ah' r = se r) (ht : ∀ r, 0 ≤ r → r < ro 2 → to' r = gon_ ro P se ah to nx r) : SEC_ ro (drv_ ro P f (fun r => f (b + 1 + r)) b) b se ah' to' (nx + 1) := by
  obtain ⟨a0, a1, a2, a3, a4, a5⟩ := H
  have d0 : drv_ ro P f (fun r => f (b + 1 + r)) b b = f b + 1 := if_pos rfl
  have d1 : ∀ r, 0 ≤ r → r < 4 → drv_ ro P f (fun r => f (b + 1 + r)) b (b + 1 + r) = f (b + 1 + r) := fun r r0 r1 => dr_se hR r ⟨r0, r1⟩
  have d5 : ∀ r, 0 ≤ r → r < ro 2 → drv_ ro P f (fun r => f (b + 1 + r)) b (b + 5 + r) = f (b + 1 + r) := fun r r0 r1 => by
    unfold drv_ ob_ dr2_
    rw [if_neg (by omega), if_pos (by omega)]
    show f (b + 1 + (b + 5 + r - b - 5)) = _
    rw [show b + 5 + r - b - 5 = r by omega]
  have m1 := hm.1
  refine ⟨⟨by rw [d0, a0.1], by omega, by omega⟩, fun r r0 r1 => by rw [d1 r r0 r1]; exact a1 r r0 r1, a2, fun r r0 r1 => ?_, fun r r0 r1 => ?_, fun r r0 r1 => ?_⟩
  · have s0 : 0 ≤ f (b + 1 + r) := alls_e hm.2.1 r r0 (by omega)
    rw [ha r r0 (by omega), d5 r r0 r1, (a1 r r0 (by omega)).1 r1]
    exact ⟨rfl, fun _ => s0, fun u => by omega⟩
  · rw [ht r r0 r1]
    unfold gon_ drv_ ob_ dr2_ dr1_
    rw [if_neg (show ¬ b + 9 + r = b by omega), if_neg (show ¬ (b + 5 ≤ b + 9 + r ∧ b + 9 + r < b + 5 + ro 2) by omega), if_pos (show b + 9 ≤ b + 9 + r ∧ b + 9 + r < b + 9 + ro 2 by omega), show b + 9 + r - b - 9 = r by omega, show b + 9 + r - 4 = b + 5 + r by omega, a4 r r0 r1, ← a0.1]
    have w : wsi_ ro P se r nx = wsi_ ro P (fun r => f (b + 1 + r)) r nx := wsi_cg ⟨r0, r1⟩ (fun e e0 e1 => (a1 e e0 (by omega)).1 e1)
    rw [w]
    have s1 := (a1 r r0 (by omega)).1 r1
    have q := a3 r r0 r1
    have c : (if 0 < nx ∧ se r ≠ ah r then ro 4 else 0) = (if 0 ≤ f (b + 5 + r) ∧ ¬ f (b + 5 + r) = f (b + 1 + r) then ro 4 else 0) := by
      rw [s1, q.1]
      by_cases n0 : 0 < nx
      · have := q.2.1 n0
        by_cases e : f (b + 1 + r) = f (b + 5 + r)
        · rw [if_neg (fun u => u.2 e), if_neg (fun u => u.2 e.symm)]
        · rw [if_pos ⟨n0, e⟩, if_pos ⟨by omega, fun u => e u.symm⟩]
      · have := q.2.2 (by omega)
        rw [if_neg (fun u => n0 u.1), if_neg (by omega)]
    show f (b + 9 + r) + wsi_ ro P (fun r => f (b + 1 + r)) r nx - (if 0 < nx ∧ se r ≠ ah r then ro 4 else 0) = f (b + 9 + r) + (wsi_ ro P (fun r => f (b + 1 + r)) r nx - (if 0 ≤ f (b + 5 + r) ∧ ¬ f (b + 5 + r) = f (b + 1 + r) then ro 4 else 0))
    rw [c]; omega
  · have := dr_tot (P := P) (f := f) (si := fun r => f (b + 1 + r)) (b := b) h4 hR r ⟨r0, r1⟩
    have := a5 r r0 r1
    omega
/-- the lines told -/
def TLD_ (ro li : Int → Int) (h : PH_) (t : Nat) : Prop := (h t 2 = li 0 ∧ 0 ≤ li 0 ∧ li 0 ≤ 20) ∧ ∀ k, 0 ≤ k → k < li 0 → h (t + 1) k = li (1 + 2 * k) ∧ h (t + 2) k = li (2 + 2 * k) ∧ ((0 ≤ li (1 + 2 * k) ∧ li (1 + 2 * k) < ro 2 ∧ 0 ≤ li (2 + 2 * k) ∧ li (2 + 2 * k) < ro 0) ∨ li (1 + 2 * k) = -1)
theorem TLD_cg {ro li : Int → Int} {h h' : PH_} {t : Nat} (H : TLD_ ro li h t) (e0 : h' t = h t) (e1 : h' (t + 1) = h (t + 1)) (e2 : h' (t + 2) = h (t + 2)) : TLD_ ro li h' t := by unfold TLD_ at *; rw [e0, e1, e2]; exact H

set_option maxHeartbeats 4000000 in
set_option maxRecDepth 100000 in
theorem d_judgeTold {G : GT_} (hC : okC_ G) (h : PH_) (o : Nat) (ho : is6_ o) (hL : h 0 2 = (o : Int)) (t : Nat) (ho_t : is10_ t) (hT : h 0 4 = (t : Int)) (ro : Int → Int) (P : List (Int × Int)) (HC : CLD_ ro P h o) (hp : ∀ r, 0 ≤ r → r < 4 → 0 ≤ ro (31 + 4 * r + 2) ∧ ro (31 + 4 * r + 2) ≤ 9999) (li f0 : Int → Int) (TL : TLD_ ro li h t) : PC G yX11_judgeTold cX11_judgeTold 3 (some .int) 7 [rr_ G 0] h (qi_ (fun z h' => off_ [143, 144, 145, 146, o + 10, o + 11, o + 15] h h' ∧ CWM_ ro P h' o ∧ z = jw_ ro P li f0 (li 0).toNat ∧ SEC_ ro (jf_ ro P li f0 (li 0).toNat) 1680 (h' 144) (h' 145) (h' 146) (h' 143 3))) := by
  have H := HC.1
  have hL_h := hL
  have HB := H.2.1
  have HA := H.1
  have hT_h := hT
  have tl0 := TL.1
  refine PC.of (lv := [some (rr_ G 0), none, none]) (by decide +kernel) (Nat.le_of_ble_eq_true rfl) rfl rfl ?_
  refine pw_iconst (pc := 0) dX11_judgeTold_0 ?_
  refine pw_istore_n (lv1 := [some (rr_ G 0), some (ii_ (-1)), none]) (pc := 1) dX11_judgeTold_1 rfl (by decide) rfl rfl ?_
  refine pw_aload_n (z := 0) (pc := 2) dX11_judgeTold_2 rfl rfl ?_
  refine pw_getR (r := 143) (pc := 3) dX11_judgeTold_3 fX11_63 (hC 0 (by decide)) (show kd_ 0 = 21 by decide +kernel) rfl (by decide +kernel) ?_
  refine pw_aload_n (z := 0) (pc := 6) dX11_judgeTold_6 rfl rfl ?_
  refine pw_gD (x := 2) (r := o) (pc := 7) dX11_judgeTold_7 fX11_28 (hC 0 (by decide)) (show kd_ 0 = 21 by decide +kernel) rfl rfl hL_h ?_
  refine pw_callV (c := 7) (o := 143) (As := [rr_ G o]) (rest := []) (pc := 10) dX11_judgeTold_10 (d_sbegin hC h 143 is3_now.2.2 o ho) lX11_367 mX7_begin vX7_begin (hC 143 (by decide)) (show kd_ 143 = 17 by decide +kernel) rfl rfl rfl (by decide) ⟨Nat.zero_le _, Nat.zero_le _⟩ (Nat.le_of_ble_eq_true rfl) (k_v (fun h10 q10 => ?_))
  obtain ⟨f10, n10, r10⟩ := q10
  have S10 : SEC_ ro (jf_ ro P li f0 (0 : Int).toNat) 1680 (h10 144) (h10 145) (h10 146) (h10 143 3) := by
    rw [n10]
    exact SEC_0 HB.2.2.1.1 (by omega) HB.1.1 hp (fun r r0 r1 => (r10 r r0 r1).1) (fun r r0 r1 => (r10 r r0 (by omega)).2.1) (fun r r0 r1 => by have x := (r10 r r0 (by omega)).2.2; rw [(H.2.2.2.1 r r0 r1).2.2.1] at x; exact x)
  have F10 : off_ [143, 144, 145, 146, o + 10, o + 11, o + 15] h h10 := off_mo f10 (by simp)
  have K10 : CLD_ ro P h10 o := CLD_off HC ho f10 (by simp)
  refine pw_iconst (pc := 13) dX11_judgeTold_13 ?_
  refine pw_istore_n (lv1 := [some (rr_ G 0), some (ii_ (-1)), some (ii_ 0)]) (pc := 14) dX11_judgeTold_14 rfl (by decide) rfl rfl ?_
  have L15 : ∀ (nn : Nat) (k : Int) (fi : Int) (hq : PH_), (0 ≤ k ∧ k ≤ li 0) → (off_ [143, 144, 145, 146, o + 10, o + 11, o + 15] h hq) → (CLD_ ro P hq o) → (SEC_ ro (jf_ ro P li f0 k.toNat) 1680 (hq 144) (hq 145) (hq 146) (hq 143 3)) → (fi = jw_ ro P li f0 k.toNat) → ((li 0 - k + 1 : Int) ≤ nn) → PW G RX11 cX11_judgeTold 3 (some .int) (rm_ 7) 0 0 (zm_ G (qi_ (fun z h' => off_ [143, 144, 145, 146, o + 10, o + 11, o + 15] h h' ∧ CWM_ ro P h' o ∧ z = jw_ ro P li f0 (li 0).toNat ∧ SEC_ ro (jf_ ro P li f0 (li 0).toNat) 1680 (h' 144) (h' 145) (h' 146) (h' 143 3)))) 15 [some (rr_ G 0), some (ii_ fi), some (ii_ k)] [] hq := by
    intro nn
    induction nn with
    | zero => intro k fi hq ak aF aK aS af ams; exfalso; omega
    | succ nn ih15 =>
      intro k fi hq ak aF aK aS af ams
      have jb0 := jw_b ro P li f0 k.toNat
      refine pw_iload_n (z := k) (pc := 15) dX11_judgeTold_15 rfl rfl ?_
      refine pw_aload_n (z := 0) (pc := 16) dX11_judgeTold_16 rfl rfl ?_
      have n_hq_0_4 : hq 0 4 = h 0 4 := (congrFun (aF 0 (by first | decide | (simp; done) | (simp; omega))) 4)
      refine pw_gD (x := 4) (r := t) (pc := 17) dX11_judgeTold_17 fX11_38 (hC 0 (by decide)) (show kd_ 0 = 21 by decide +kernel) rfl rfl (n_hq_0_4.trans hT_h) ?_
      refine pw_gI (x := 2) (pc := 20) dX11_judgeTold_20 fX11_345 (hC _ (by omega)) (kd10_0 ho_t) rfl rfl (fun r20 => ?_)
      have n_hq_t_2 : hq t 2 = h t 2 := (congrFun (aF t (by first | decide | (simp; done) | (simp; omega))) 2)
      rw [n_hq_t_2] at r20 ⊢
      refine pw_icmp_ge (t := 109) (pc := 23) dX11_judgeTold_23 (by decide) (by first | omega | (simp only [n_hq_0_4, n_hq_t_2]; omega)) (by first | omega | (simp only [n_hq_0_4, n_hq_t_2]; omega)) (fun c23 => ?_) (fun c23 => ?_)
      · refine pw_iload_n (z := fi) (pc := 109) dX11_judgeTold_109 rfl rfl ?_
        exact pw_iret (pc := 110) dX11_judgeTold_110 (by first | omega | (simp only [n_hq_0_4, n_hq_t_2]; omega)) (⟨aF, aK.2.2, by rw [af, show k = li 0 by omega], by rw [show li 0 = k by omega]; exact aS⟩)
      · have mm := SEC_mdr aS ⟨HB.2.1.1, by omega⟩
        have jj : jf_ ro P li f0 (k + 1).toNat = jl_ ro P li k (jf_ ro P li f0 k.toNat) := jf_s ak.1
        have jw := jw_s (ro := ro) (P := P) (li := li) (f0 := f0) ak.1
        have jb := jw_b ro P li f0 k.toNat
        have lk := TL.2 k ak.1 (by omega)
        refine pw_aload_n (z := 0) (pc := 26) dX11_judgeTold_26 rfl rfl ?_
        refine pw_gD (x := 4) (r := t) (pc := 27) dX11_judgeTold_27 fX11_38 (hC 0 (by decide)) (show kd_ 0 = 21 by decide +kernel) rfl rfl (n_hq_0_4.trans hT_h) ?_
        refine pw_getR (r := (t + 1)) (pc := 30) dX11_judgeTold_30 fX11_368 (hC _ (by omega)) (kd10_0 ho_t) rfl rfl ?_
        refine pw_iload_n (z := k) (pc := 33) dX11_judgeTold_33 rfl rfl ?_
        refine pw_iald (pc := 34) dX11_judgeTold_34 (hC _ (by omega)) (kd10_1 ho_t) 20 (ln10_1 ho_t) (by first | omega | (simp only [n_hq_0_4, n_hq_t_2]; omega)) (by first | omega | (simp only [n_hq_0_4, n_hq_t_2]; omega)) (by first | omega | (simp only [n_hq_0_4, n_hq_t_2]; omega)) (fun r34 => ?_)
        have n_hq_t_1 : hq (t + 1) = h (t + 1) := (aF (t + 1) (by first | decide | (simp; done) | (simp; omega)))
        rw [n_hq_t_1] at r34 ⊢
        refine pw_iconst (pc := 35) dX11_judgeTold_35 ?_
        refine pw_icmp_eq (t := 68) (pc := 36) dX11_judgeTold_36 (by decide) (by first | omega | (simp only [n_hq_0_4, n_hq_t_1, n_hq_t_2]; omega)) (by first | omega | (simp only [n_hq_0_4, n_hq_t_1, n_hq_t_2]; omega)) (fun c36 => ?_) (fun c36 => ?_)
        · refine pw_aload_n (z := 0) (pc := 68) dX11_judgeTold_68 rfl rfl ?_
          refine pw_getR (r := 143) (pc := 69) dX11_judgeTold_69 fX11_63 (hC 0 (by decide)) (show kd_ 0 = 21 by decide +kernel) rfl (by decide +kernel) ?_
          refine pw_aload_n (z := 0) (pc := 72) dX11_judgeTold_72 rfl rfl ?_
          have n_hq_0_2 : hq 0 2 = h 0 2 := (congrFun (aF 0 (by first | decide | (simp; done) | (simp; omega))) 2)
          refine pw_gD (x := 2) (r := o) (pc := 73) dX11_judgeTold_73 fX11_28 (hC 0 (by decide)) (show kd_ 0 = 21 by decide +kernel) rfl rfl (n_hq_0_2.trans hL_h) ?_
          refine pw_callV (c := 7) (o := 143) (As := [rr_ G o]) (rest := []) (pc := 76) dX11_judgeTold_76 (d_canGo hC hq 143 is3_now.2.2 o ho ro aK.1 (fun r r0 r1 => by have x := aS.2.1 r r0 (by first | omega | (simp only [n_hq_0_2, n_hq_0_4, n_hq_t_1, n_hq_t_2]; omega)); show -1 ≤ hq 144 r ∧ hq 144 r ≤ 3; omega) (by have x := aS.1; omega)) lX11_213 mX7_canGo vX7_canGo (hC 143 (by decide)) (show kd_ 143 = 17 by decide +kernel) rfl rfl rfl (by decide) ⟨Nat.zero_le _, Nat.zero_le _⟩ (Nat.le_of_ble_eq_true rfl) (k_i (fun z76 h76 y76 q76 => ?_))
          obtain ⟨rfl, ⟨rfl, p76⟩ | ⟨rfl, p76⟩⟩ := q76
          · simp -failIfUnchanged only [n_hq_0_4, n_hq_t_2, n_hq_t_1, n_hq_0_2] at p76
            refine pw_if_eq (t := 96) (pc := 79) dX11_judgeTold_79 (by decide) (by first | omega | (simp only [n_hq_0_2, n_hq_0_4, n_hq_t_1, n_hq_t_2]; omega)) (fun c79 => absurd c79 (by decide)) (fun _ => ?_)
            refine pw_aload_n (z := 0) (pc := 82) dX11_judgeTold_82 rfl rfl ?_
            refine pw_getR (r := 143) (pc := 83) dX11_judgeTold_83 fX11_63 (hC 0 (by decide)) (show kd_ 0 = 21 by decide +kernel) rfl (by decide +kernel) ?_
            refine pw_aload_n (z := 0) (pc := 86) dX11_judgeTold_86 rfl rfl ?_
            refine pw_gD (x := 2) (r := o) (pc := 87) dX11_judgeTold_87 fX11_28 (hC 0 (by decide)) (show kd_ 0 = 21 by decide +kernel) rfl rfl (n_hq_0_2.trans hL_h) ?_
            refine pw_callV (c := 7) (o := 143) (As := [rr_ G o]) (rest := []) (pc := 90) dX11_judgeTold_90 (d_go hC hq 143 is3_now.2.2 o ho ro aK.1 P aK.2.1 aK.2.2 p76.2 ⟨aS.1.2.1, p76.1⟩ (fun r r0 r1 => by have x := aS.2.2.2.2.2 r r0 (by first | omega | (simp only [n_hq_0_2, n_hq_0_4, n_hq_t_1, n_hq_t_2]; omega)); have y := aS.2.2.2.2.1 r r0 r1; have z := aS.1; show -1000000 ≤ hq 146 r ∧ hq 146 r ≤ 1000000; omega)) lX11_217 mX7_go vX7_go (hC 143 (by decide)) (show kd_ 143 = 17 by decide +kernel) rfl rfl rfl (by decide) ⟨Nat.zero_le _, Nat.zero_le _⟩ (Nat.le_of_ble_eq_true rfl) (k_v (fun h90 q90 => ?_))
            obtain ⟨f90, m90, n90, a90, t90⟩ := q90
            have M90 := mm.mp p76
            have F90 : off_ [143, 144, 145, 146, o + 10, o + 11, o + 15] h h90 := off_tr aF (off_mo f90 (by simp))
            have K90 : CLD_ ro P h90 o := CLD_w aK ho f90 (by simp) m90
            have W90 : fi = jw_ ro P li f0 (k + 1).toNat := by rw [jw, if_f (fun u => u.2.1 M90)]; exact af
            have S90 : SEC_ ro (jf_ ro P li f0 (k + 1).toNat) 1680 (h90 144) (h90 145) (h90 146) (h90 143 3) := by
              rw [jj, n90, f90 144 (by simp; omega)]
              unfold jl_
              rw [if_f (by omega), if_t M90]
              exact SEC_go aS ⟨HB.2.1.1, by omega⟩ HB.2.2.2 M90 a90 t90
            refine pw_goto (t := 103) (pc := 93) dX11_judgeTold_93 (by decide) ?_
            refine pw_iinc (z := k) (lv1 := [some (rr_ G 0), some (ii_ fi), some (ii_ (k + 1))]) (pc := 103) dX11_judgeTold_103 rfl (by decide) rfl rfl ?_
            refine pw_goto (t := 15) (pc := 106) dX11_judgeTold_106 (by decide) ?_
            exact ih15 _ _ _ (by omega) (by first | exact F61 | exact F90 | exact aF) (by first | exact K61 | exact K90 | exact aK) (by first | exact S61 | exact S90 | exact S96) (by first | exact W61 | exact W90 | exact W98 | (rw [jw, if_f (by omega)]; exact af)) (by omega)
          · simp -failIfUnchanged only [n_hq_0_4, n_hq_t_2, n_hq_t_1, n_hq_0_2] at p76
            refine pw_if_eq (t := 96) (pc := 79) dX11_judgeTold_79 (by decide) (by first | omega | (simp only [n_hq_0_2, n_hq_0_4, n_hq_t_1, n_hq_t_2]; omega)) (fun _ => ?_) (fun c79 => absurd c79 (by decide))
            have S96 : SEC_ ro (jf_ ro P li f0 (k + 1).toNat) 1680 (hq 144) (hq 145) (hq 146) (hq 143 3) := by rw [jj]; unfold jl_; rw [if_f (by omega), if_f (fun u => p76 (mm.mpr u))]; exact aS
            have nm96 : ¬ mdr_ ro (jf_ ro P li f0 k.toNat) 1680 := fun u => p76 (mm.mpr u)
            refine pw_iload_n (z := fi) (pc := 96) dX11_judgeTold_96 rfl rfl ?_
            refine pw_iconst (pc := 97) dX11_judgeTold_97 ?_
            refine pw_icmp_ne (t := 103) (pc := 98) dX11_judgeTold_98 (by decide) (by first | omega | (simp only [n_hq_0_2, n_hq_0_4, n_hq_t_1, n_hq_t_2]; omega)) (by first | omega | (simp only [n_hq_0_2, n_hq_0_4, n_hq_t_1, n_hq_t_2]; omega)) (fun c98 => ?_) (fun c98 => ?_)
            · refine pw_iinc (z := k) (lv1 := [some (rr_ G 0), some (ii_ fi), some (ii_ (k + 1))]) (pc := 103) dX11_judgeTold_103 rfl (by decide) rfl rfl ?_
              refine pw_goto (t := 15) (pc := 106) dX11_judgeTold_106 (by decide) ?_
              exact ih15 _ _ _ (by omega) (by first | exact F61 | exact F90 | exact aF) (by first | exact K61 | exact K90 | exact aK) (by first | exact S61 | exact S90 | exact S96) (by first | exact W61 | exact W90 | exact W98 | (rw [jw, if_f (by omega)]; exact af)) (by omega)
            · have W98 : k = jw_ ro P li f0 (k + 1).toNat := by rw [jw, if_t ⟨by omega, nm96, by omega⟩]
              refine pw_iload_n (z := k) (pc := 101) dX11_judgeTold_101 rfl rfl ?_
              refine pw_istore_n (lv1 := [some (rr_ G 0), some (ii_ k), some (ii_ k)]) (pc := 102) dX11_judgeTold_102 rfl (by decide) rfl rfl ?_
              refine pw_iinc (z := k) (lv1 := [some (rr_ G 0), some (ii_ k), some (ii_ (k + 1))]) (pc := 103) dX11_judgeTold_103 rfl (by decide) rfl rfl ?_
              refine pw_goto (t := 15) (pc := 106) dX11_judgeTold_106 (by decide) ?_
              exact ih15 _ _ _ (by omega) (by first | exact F61 | exact F90 | exact aF) (by first | exact K61 | exact K90 | exact aK) (by first | exact S61 | exact S90 | exact S96) (by first | exact W61 | exact W90 | exact W98 | (rw [jw, if_f (by omega)]; exact af)) (by omega)
        · refine pw_aload_n (z := 0) (pc := 39) dX11_judgeTold_39 rfl rfl ?_
          refine pw_getR (r := 143) (pc := 40) dX11_judgeTold_40 fX11_63 (hC 0 (by decide)) (show kd_ 0 = 21 by decide +kernel) rfl (by decide +kernel) ?_
          refine pw_aload_n (z := 0) (pc := 43) dX11_judgeTold_43 rfl rfl ?_
          refine pw_gD (x := 4) (r := t) (pc := 44) dX11_judgeTold_44 fX11_38 (hC 0 (by decide)) (show kd_ 0 = 21 by decide +kernel) rfl rfl (n_hq_0_4.trans hT_h) ?_
          refine pw_getR (r := (t + 1)) (pc := 47) dX11_judgeTold_47 fX11_368 (hC _ (by omega)) (kd10_0 ho_t) rfl rfl ?_
          refine pw_iload_n (z := k) (pc := 50) dX11_judgeTold_50 rfl rfl ?_
          refine pw_iald (pc := 51) dX11_judgeTold_51 (hC _ (by omega)) (kd10_1 ho_t) 20 (ln10_1 ho_t) (by first | omega | (simp only [n_hq_0_4, n_hq_t_1, n_hq_t_2]; omega)) (by first | omega | (simp only [n_hq_0_4, n_hq_t_1, n_hq_t_2]; omega)) (by first | omega | (simp only [n_hq_0_4, n_hq_t_1, n_hq_t_2]; omega)) (fun r51 => ?_)
          rw [n_hq_t_1] at r51 ⊢
          refine pw_aload_n (z := 0) (pc := 52) dX11_judgeTold_52 rfl rfl ?_
          refine pw_gD (x := 4) (r := t) (pc := 53) dX11_judgeTold_53 fX11_38 (hC 0 (by decide)) (show kd_ 0 = 21 by decide +kernel) rfl rfl (n_hq_0_4.trans hT_h) ?_
          refine pw_getR (r := (t + 2)) (pc := 56) dX11_judgeTold_56 fX11_371 (hC _ (by omega)) (kd10_0 ho_t) rfl rfl ?_
          refine pw_iload_n (z := k) (pc := 59) dX11_judgeTold_59 rfl rfl ?_
          refine pw_iald (pc := 60) dX11_judgeTold_60 (hC _ (by omega)) (kd10_2 ho_t) 20 (ln10_2 ho_t) (by first | omega | (simp only [n_hq_0_4, n_hq_t_1, n_hq_t_2]; omega)) (by first | omega | (simp only [n_hq_0_4, n_hq_t_1, n_hq_t_2]; omega)) (by first | omega | (simp only [n_hq_0_4, n_hq_t_1, n_hq_t_2]; omega)) (fun r60 => ?_)
          have n_hq_t_2 : hq (t + 2) = h (t + 2) := (aF (t + 2) (by first | decide | (simp; done) | (simp; omega)))
          rw [n_hq_t_2] at r60 ⊢
          refine pw_callV (c := 7) (o := 143) (As := [ii_ (h (t + 1) k), ii_ (h (t + 2) k)]) (rest := []) (pc := 61) dX11_judgeTold_61 (d_take hC hq 143 is3_now.2.2 (h (t + 1) k) (h (t + 2) k) (by first | omega | (simp only [n_hq_0_4, n_hq_t_1, n_hq_t_2]; omega)) (by first | omega | (simp only [n_hq_0_4, n_hq_t_1, n_hq_t_2]; omega)) (fun e f e0 e1 g0 g1 ef he u => aS.2.2.1 e f e0 e1 g0 g1 ef (by have he : hq 144 e = _ := he; omega) (by have he : hq 144 e = _ := he; have u : hq 144 f = _ := u; rw [he, u]))) lX11_210 mX7_take vX7_take (hC 143 (by decide)) (show kd_ 143 = 17 by decide +kernel) rfl rfl rfl (by decide) ⟨Nat.zero_le _, Nat.zero_le _⟩ (Nat.le_of_ble_eq_true rfl) (k_i (fun z61 h61 y61 q61 => ?_))
          obtain ⟨x61, t61⟩ := q61
          have t61 : tkq_ (hq 144) (h (t + 1) k) (h (t + 2) k) z61 4 := t61
          have x61 : h61 = sc_ hq 144 (tkf_ (hq 144) (h (t + 1) k) (h (t + 2) k) z61) := x61
          have o61 : off_ [144] hq h61 := off_sce x61
          have F61 : off_ [143, 144, 145, 146, o + 10, o + 11, o + 15] h h61 := off_tr aF (off_mo o61 (by simp))
          have K61 : CLD_ ro P h61 o := CLD_off aK ho o61 (by simp)
          have W61 : fi = jw_ ro P li f0 (k + 1).toNat := by rw [jw, if_f (by omega)]; exact af
          have S61 : SEC_ ro (jf_ ro P li f0 (k + 1).toNat) 1680 (h61 144) (h61 145) (h61 146) (h61 143 3) := by
            rw [jj, sc_in x61, o61 145 (by simp), o61 146 (by simp), o61 143 (by simp)]
            unfold jl_
            rw [if_t (by omega)]
            rw [lk.1, lk.2.1] at t61 ⊢
            have sr := (aS.2.1 (li (1 + 2 * k)) (by omega) (by omega)).1 (by omega)
            by_cases c : jf_ ro P li f0 k.toNat (1680 + 1 + li (1 + 2 * k)) = li (2 + 2 * k)
            · rw [if_t c]; exact SEC_take0 aS ⟨HB.2.1.1, by omega⟩ (by omega) (by omega) (by rw [sr, c]) t61
            · rw [if_f c]; exact SEC_take aS ⟨HB.2.1.1, by omega⟩ (by omega) (by omega) (by omega) (by rw [sr]; exact c) t61
          refine pw_pop (pc := 64) dX11_judgeTold_64 rfl ?_
          refine pw_goto (t := 103) (pc := 65) dX11_judgeTold_65 (by decide) ?_
          refine pw_iinc (z := k) (lv1 := [some (rr_ G 0), some (ii_ fi), some (ii_ (k + 1))]) (pc := 103) dX11_judgeTold_103 rfl (by decide) rfl rfl ?_
          refine pw_goto (t := 15) (pc := 106) dX11_judgeTold_106 (by decide) ?_
          exact ih15 _ _ _ (by omega) (by first | exact F61 | exact F90 | exact aF) (by first | exact K61 | exact K90 | exact aK) (by first | exact S61 | exact S90 | exact S96) (by first | exact W61 | exact W90 | exact W98 | (rw [jw, if_f (by omega)]; exact af)) (by omega)
  exact L15 _ _ _ _ (by omega) (F10) (K10) (S10) (rfl) (Int.self_le_toNat _)

set_option maxHeartbeats 4000000 in
set_option maxRecDepth 100000 in
theorem d_judged {G : GT_} (hC : okC_ G) (h : PH_) (o : Nat) (ho : is6_ o) (hL : h 0 2 = (o : Int)) (t : Nat) (ho_t : is10_ t) (hT : h 0 4 = (t : Int)) (ro : Int → Int) (P : List (Int × Int)) (HC : CLD_ ro P h o) (hp : ∀ r, 0 ≤ r → r < 4 → 0 ≤ ro (31 + 4 * r + 2) ∧ ro (31 + 4 * r + 2) ≤ 9999) (li f0 : Int → Int) (TL : TLD_ ro li h t) (q : Int) (hq : ir_ q) : PC G yX11_judged cX11_judged 3 (some .int) 8 [rr_ G 0, ii_ q] h (qi_ (fun z h' => off_ [143, 144, 145, 146, o + 10, o + 11, o + 15] h h' ∧ CWM_ ro P h' o ∧ z = (if q = -1 then jw_ ro P li f0 (li 0).toNat else if 0 ≤ q ∧ q < ro 2 then jf_ ro P li f0 (li 0).toNat (1689 + q) else -99999))) := by
  have H := HC.1
  have hL_h := hL
  have HB := H.2.1
  have HA := H.1
  have hT_h := hT
  refine PC.of (lv := [some (rr_ G 0), some (ii_ q), none]) (by decide +kernel) (Nat.le_of_ble_eq_true rfl) rfl rfl ?_
  refine pw_iload_n (z := q) (pc := 0) dX11_judged_0 rfl rfl ?_
  refine pw_iconst (pc := 1) dX11_judged_1 ?_
  refine pw_icmp_eq (t := 16) (pc := 2) dX11_judged_2 (by decide) (by first | omega) (by first | omega) (fun c2 => ?_) (fun c2 => ?_)
  · refine pw_aload_n (z := 0) (pc := 16) dX11_judged_16 rfl rfl ?_
    refine pw_callV (c := 11) (o := 0) (As := []) (rest := []) (pc := 17) dX11_judged_17 (d_judgeTold hC h o ho hL t ho_t hT ro P HC hp li f0 TL) lX11_235 mX11_judgeTold vX11_judgeTold (hC 0 (by decide)) (show kd_ 0 = 21 by decide +kernel) rfl rfl rfl (by decide) ⟨Nat.zero_le _, Nat.zero_le _⟩ (Nat.le_of_ble_eq_true rfl) (k_i (fun z17 h17 y17 q17 => ?_))
    obtain ⟨f17, m17, w17, S17⟩ := q17
    refine pw_istore_n (lv1 := [some (rr_ G 0), some (ii_ q), some (ii_ z17)]) (pc := 20) dX11_judged_20 rfl (by decide) rfl rfl ?_
    refine pw_iload_n (z := q) (pc := 21) dX11_judged_21 rfl rfl ?_
    refine pw_iconst (pc := 22) dX11_judged_22 ?_
    refine pw_icmp_ne (t := 30) (pc := 23) dX11_judged_23 (by decide) (by first | omega) (by first | omega) (fun c23 => ?_) (fun c23 => ?_)
    · refine pw_aload_n (z := 0) (pc := 30) dX11_judged_30 rfl rfl ?_
      refine pw_getR (r := 143) (pc := 31) dX11_judged_31 fX11_63 (hC 0 (by decide)) (show kd_ 0 = 21 by decide +kernel) rfl (by decide +kernel) ?_
      refine pw_getR (r := 146) (pc := 34) dX11_judged_34 fX11_173 (hC 143 (by decide)) (show kd_ 143 = 17 by decide +kernel) rfl (by decide +kernel) ?_
      refine pw_iload_n (z := q) (pc := 37) dX11_judged_37 rfl rfl ?_
      refine pw_iald (pc := 38) dX11_judged_38 (hC 146 (by decide)) (show kd_ 146 = 0 by decide +kernel) 4 (by decide +kernel) (by first | omega) (by first | omega) (by first | omega) (fun r38 => ?_)
      exact pw_iret (pc := 39) dX11_judged_39 (by first | omega) (⟨f17, m17, by
                first
                | (rw [if_pos (by omega)]; exact w17)
                | (rw [if_neg (by omega), if_pos (by omega), S17.2.2.2.2.1 q (by omega) (by omega), show (1680 : Int) + 9 + q = 1689 + q by omega])⟩)
    · refine pw_iload_n (z := z17) (pc := 26) dX11_judged_26 rfl rfl ?_
      refine pw_goto (t := 39) (pc := 27) dX11_judged_27 (by decide) ?_
      exact pw_iret (pc := 39) dX11_judged_39 (by first | omega) (⟨f17, m17, by
                first
                | (rw [if_pos (by omega)]; exact w17)
                | (rw [if_neg (by omega), if_pos (by omega), S17.2.2.2.2.1 q (by omega) (by omega), show (1680 : Int) + 9 + q = 1689 + q by omega])⟩)
  · refine pw_aload_n (z := 0) (pc := 5) dX11_judged_5 rfl rfl ?_
    refine pw_iload_n (z := q) (pc := 6) dX11_judged_6 rfl rfl ?_
    refine pw_callV (c := 11) (o := 0) (As := [ii_ q]) (rest := []) (pc := 7) dX11_judged_7 (d_isRider hC h o ho hL ro H q (by first | omega)) lX11_147 mX11_isRider vX11_isRider (hC 0 (by decide)) (show kd_ 0 = 21 by decide +kernel) rfl rfl rfl (by decide) ⟨Nat.zero_le _, Nat.zero_le _⟩ (Nat.le_of_ble_eq_true rfl) (k_i (fun z7 h7 y7 q7 => ?_))
    obtain ⟨rfl, ⟨rfl, p7⟩ | ⟨rfl, p7⟩⟩ := q7
    · refine pw_if_ne (t := 16) (pc := 10) dX11_judged_10 (by decide) (by first | omega) (fun _ => ?_) (fun c10 => absurd c10 (by decide))
      refine pw_aload_n (z := 0) (pc := 16) dX11_judged_16 rfl rfl ?_
      refine pw_callV (c := 11) (o := 0) (As := []) (rest := []) (pc := 17) dX11_judged_17 (d_judgeTold hC h o ho hL t ho_t hT ro P HC hp li f0 TL) lX11_235 mX11_judgeTold vX11_judgeTold (hC 0 (by decide)) (show kd_ 0 = 21 by decide +kernel) rfl rfl rfl (by decide) ⟨Nat.zero_le _, Nat.zero_le _⟩ (Nat.le_of_ble_eq_true rfl) (k_i (fun z17 h17 y17 q17 => ?_))
      obtain ⟨f17, m17, w17, S17⟩ := q17
      refine pw_istore_n (lv1 := [some (rr_ G 0), some (ii_ q), some (ii_ z17)]) (pc := 20) dX11_judged_20 rfl (by decide) rfl rfl ?_
      refine pw_iload_n (z := q) (pc := 21) dX11_judged_21 rfl rfl ?_
      refine pw_iconst (pc := 22) dX11_judged_22 ?_
      refine pw_icmp_ne (t := 30) (pc := 23) dX11_judged_23 (by decide) (by first | omega) (by first | omega) (fun c23 => ?_) (fun c23 => ?_)
      · refine pw_aload_n (z := 0) (pc := 30) dX11_judged_30 rfl rfl ?_
        refine pw_getR (r := 143) (pc := 31) dX11_judged_31 fX11_63 (hC 0 (by decide)) (show kd_ 0 = 21 by decide +kernel) rfl (by decide +kernel) ?_
        refine pw_getR (r := 146) (pc := 34) dX11_judged_34 fX11_173 (hC 143 (by decide)) (show kd_ 143 = 17 by decide +kernel) rfl (by decide +kernel) ?_
        refine pw_iload_n (z := q) (pc := 37) dX11_judged_37 rfl rfl ?_
        refine pw_iald (pc := 38) dX11_judged_38 (hC 146 (by decide)) (show kd_ 146 = 0 by decide +kernel) 4 (by decide +kernel) (by first | omega) (by first | omega) (by first | omega) (fun r38 => ?_)
        exact pw_iret (pc := 39) dX11_judged_39 (by first | omega) (⟨f17, m17, by
                  first
                  | (rw [if_pos (by omega)]; exact w17)
                  | (rw [if_neg (by omega), if_pos (by omega), S17.2.2.2.2.1 q (by omega) (by omega), show (1680 : Int) + 9 + q = 1689 + q by omega])⟩)
      · refine pw_iload_n (z := z17) (pc := 26) dX11_judged_26 rfl rfl ?_
        refine pw_goto (t := 39) (pc := 27) dX11_judged_27 (by decide) ?_
        exact pw_iret (pc := 39) dX11_judged_39 (by first | omega) (⟨f17, m17, by
                  first
                  | (rw [if_pos (by omega)]; exact w17)
                  | (rw [if_neg (by omega), if_pos (by omega), S17.2.2.2.2.1 q (by omega) (by omega), show (1680 : Int) + 9 + q = 1689 + q by omega])⟩)
    · refine pw_if_ne (t := 16) (pc := 10) dX11_judged_10 (by decide) (by first | omega) (fun c10 => absurd c10 (by decide)) (fun _ => ?_)
      refine pw_ldc (z := -99999) (pc := 13) dX11_judged_13 kX11_234 rfl ?_
      exact pw_iret (pc := 15) dX11_judged_15 (by first | omega) (⟨off_rf, HC.2.2, by rw [if_neg (by omega), if_neg (by omega)]⟩)

