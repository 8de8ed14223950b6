/-! ===== fits ===== -/
def SNC_ (ro f : Int → Int) (h : PH_) : Prop := (h 42 5 = f 30 ∧ 0 ≤ f 30 ∧ f 30 ≤ 10) ∧ (∀ x, 0 ≤ x → x < 4 * f 30 → h 48 x = f (31 + x)) ∧ (∀ k, 0 ≤ k → k < f 30 → 0 ≤ f (31 + 4 * k) ∧ f (31 + 4 * k) < ro 2)
theorem SNC_agr {ro f : Int → Int} {h : PH_} (H : SNC_ ro f h) {si : Int → Int} {t : Int} : ∀ n : Nat, (n : Int) ≤ f 30 → (agr_ (h 48) si t n ↔ sen_ f si t n)
  | 0, _ => Iff.rfl
  | n + 1, hn => by
    have ih := SNC_agr H (si := si) (t := t) n (by omega)
    have e0 := H.2.1 (4 * (n : Int)) (by omega) (by omega)
    have e1 := H.2.1 (4 * (n : Int) + 1) (by omega) (by omega)
    have e2 := H.2.1 (4 * (n : Int) + 2) (by omega) (by omega)
    have e3 := H.2.1 (4 * (n : Int) + 3) (by omega) (by omega)
    show (agr_ (h 48) si t n ∧ (h 48 (4 * (n : Int) + 2) = t → (si (h 48 (4 * (n : Int))) = h 48 (4 * (n : Int) + 1) ↔ h 48 (4 * (n : Int) + 3) = 1))) ↔ (sen_ f si t n ∧ (f (31 + 4 * (n : Int) + 2) ≠ t ∨ (si (f (31 + 4 * (n : Int))) = f (31 + 4 * (n : Int) + 1) ↔ f (31 + 4 * (n : Int) + 3) = 1)))
    rw [ih, e0, e1, e2, e3, ← Int.add_assoc, ← Int.add_assoc, ← Int.add_assoc]
    constructor
    · rintro ⟨a, b⟩
      refine ⟨a, ?_⟩
      by_cases c : f (31 + 4 * (n : Int) + 2) = t
      · exact Or.inr (b c)
      · exact Or.inl c
    · rintro ⟨a, b⟩
      exact ⟨a, fun c => by rcases b with b | b; exact absurd c b; exact b⟩
def SEF_ (ro f : Int → Int) (k t : Int) : Prop := sen_ f (dg_ (ro 2) (pL_ ro k)) t (f 30).toNat
def CND_ (A : Int → Int → Prop) (N : Nat) (b s : Int) : Prop := (b = 1 ∧ ∀ k : Nat, k < N → ¬ (A (k : Int) s ∧ A (k : Int) (s + 1))) ∨ (b = 0 ∧ (∀ k : Nat, k < N → (A (k : Int) s ↔ A (k : Int) (s + 1))) ∧ nA_ (fun k => A k s) N = 1)
theorem p24_ {i : Int} (h : 0 ≤ i ∧ i ≤ 24) : (1 : Int) ≤ 2 ^ i.toNat ∧ (2 : Int) ^ i.toNat ≤ 16777216 := by
  have h1 := Nat.pow_le_pow_right (show 0 < 2 by decide) (show i.toNat ≤ 24 by omega)
  have h2 : 0 < 2 ^ i.toNat := Nat.pow_pos (by decide)
  have e : (2 : Nat) ^ 24 = 16777216 := rfl
  rw [pc_]; omega
theorem FSN_un {A : Int → Prop} {N n m : Nat} (h : FSN_ A N n) (g : FSN_ A N m) : n = m := (FSN_eq h g).mpr (fun _ _ => Iff.rfl)
section FT
variable {ro f : Int → Int}
noncomputable def ffr_ (ro f : Int → Int) : FT_ := ftr_ ro f (ro 1).toNat (fun _ => 0) 0 (0, sto_ (ro 1), 0, fun _ => 0)
noncomputable abbrev lfr_ (ro f : Int → Int) : List ((Int → Int) × Nat) := lf_ (ro 1) (lpn_ ro 256).length (pC_ ro) (SEF_ ro f) (ro 1).toNat (fun _ => 0) 0
theorem ffr_e : ffr_ ro f = (lfr_ ro f).foldl (fun F x => flf_ (ro 1) (pL_ ro) x.1 x.2 F) (0, sto_ (ro 1), 0, fun _ => 0) := fth_lf _ _ _ _
theorem ffr_1 (hT : 0 ≤ ro 1) : (ffr_ ro f).1 = (pQ_ (lpn_ ro 256).length (SEF_ ro f) (ro 1).toNat : Int) := by
  have e := pQ_pA (N := (lpn_ ro 256).length) (T := (ro 1).toNat) (SE := SEF_ ro f) (ro 1).toNat (Nat.le_refl _)
  rw [Nat.sub_self, show (((ro 1).toNat : Nat) : Int) = ro 1 by omega] at e
  have e : 1 * pA_ (ro 1) (lpn_ ro 256).length (SEF_ ro f) (ro 1).toNat = _ := e
  rw [Nat.one_mul] at e
  rw [ffr_e, flf_1, lf_len, e]
  show (0 : Int) + _ = _
  omega
theorem lfr_ne (hT : 0 ≤ ro 1) (hp : 0 < pQ_ (lpn_ ro 256).length (SEF_ ro f) (ro 1).toNat) {s : Int} (hs : 0 ≤ s ∧ s < ro 1) : ∃ k : Nat, k < (lpn_ ro 256).length ∧ SEF_ ro f (k : Int) s := by
  have q := nA_pos.mp (pQ_0 (t := s.toNat) (by omega) hp)
  rw [show ((s.toNat : Nat) : Int) = s by omega] at q
  exact q
/-- a journey through given plans at two stops -/
theorem lfr_ex (hT : 0 ≤ ro 1) (hp : 0 < pQ_ (lpn_ ro 256).length (SEF_ ro f) (ro 1).toNat) {s i j : Int} (hs : 0 ≤ s ∧ s + 1 < ro 1) (hi : 0 ≤ i ∧ i < (lpn_ ro 256).length ∧ SEF_ ro f i s) (hj : 0 ≤ j ∧ j < (lpn_ ro 256).length ∧ SEF_ ro f j (s + 1)) : ∃ x ∈ lfr_ ro f, x.1 s = i ∧ x.1 (s + 1) = j := by
  have ch : ∀ t : Int, ∃ k : Int, 0 ≤ t → t < ro 1 → 0 ≤ k ∧ k < (lpn_ ro 256).length ∧ SEF_ ro f k t := fun t => by
    by_cases c : 0 ≤ t ∧ t < ro 1
    · obtain ⟨k, k1, k2⟩ := lfr_ne hT hp c
      exact ⟨k, fun _ _ => ⟨by omega, by omega, k2⟩⟩
    · exact ⟨0, fun a b => absurd ⟨a, b⟩ c⟩
  have e0 : ∀ t : Int, 0 ≤ t → t < ro 1 → 0 ≤ Classical.choose (ch t) ∧ Classical.choose (ch t) < (lpn_ ro 256).length ∧ SEF_ ro f (Classical.choose (ch t)) t := fun t => Classical.choose_spec (ch t)
  obtain ⟨x, hx, e⟩ := lf_all (T := ro 1) (N := (lpn_ ro 256).length) (CH := pC_ ro) (SE := SEF_ ro f) (ro 1).toNat (fun _ => 0) (fun t => if t < 0 ∨ ro 1 ≤ t then 0 else if t = s then i else if t = s + 1 then j else Classical.choose (ch t)) 0 (fun t ht => if_pos (by omega)) (fun t t0 t1 => by
    show 0 ≤ (if t < 0 ∨ ro 1 ≤ t then 0 else if t = s then i else if t = s + 1 then j else Classical.choose (ch t)) ∧ (if t < 0 ∨ ro 1 ≤ t then 0 else if t = s then i else if t = s + 1 then j else Classical.choose (ch t)) < _ ∧ SEF_ ro f (if t < 0 ∨ ro 1 ≤ t then 0 else if t = s then i else if t = s + 1 then j else Classical.choose (ch t)) t
    rw [if_neg (show ¬ (t < 0 ∨ ro 1 ≤ t) by omega)]
    by_cases c1 : t = s
    · rw [if_pos c1, c1]; exact hi
    · rw [if_neg c1]
      by_cases c2 : t = s + 1
      · rw [if_pos c2, c2]; exact hj
      · rw [if_neg c2]; exact e0 t (by omega) t1)
  refine ⟨x, hx, ?_, ?_⟩
  · rw [e s, if_neg (by omega), if_pos rfl]
  · rw [e (s + 1), if_neg (by omega), if_neg (by omega), if_pos rfl]
theorem lfr_bit (hR : 0 ≤ ro 2 ∧ ro 2 ≤ 4) (hT : 0 ≤ ro 1) {x : (Int → Int) × Nat} (hx : x ∈ lfr_ ro f) (b : Nat) : ((b : Int) + 1 < ro 1 → (0 ≤ x.1 b ∧ x.1 b < (lpn_ ro 256).length ∧ SEF_ ro f (x.1 b) b) ∧ (0 ≤ x.1 ((b : Int) + 1) ∧ x.1 ((b : Int) + 1) < (lpn_ ro 256).length ∧ SEF_ ro f (x.1 ((b : Int) + 1)) ((b : Int) + 1))) ∧ (x.2.testBit b = true ↔ (b : Int) + 1 < ro 1 ∧ x.1 b ≠ x.1 ((b : Int) + 1)) := by
  obtain ⟨-, e2, e3⟩ := lf_mem _ _ _ x hx
  refine ⟨fun hb => ⟨e2 b (by omega) (by omega), e2 ((b : Int) + 1) (by omega) (by omega)⟩, ?_⟩
  rw [e3 b, Nat.zero_testBit]
  constructor
  · rintro (u | ⟨u1, u2, u3⟩)
    · cases u
    · have a1 := e2 b (by omega) (by omega)
      have a2 := e2 ((b : Int) + 1) (by omega) (by omega)
      exact ⟨u2, (pC_ne hR ⟨a1.1, a1.2.1⟩ ⟨a2.1, a2.2.1⟩).mp u3⟩
  · rintro ⟨u2, u3⟩
    have a1 := e2 b (by omega) (by omega)
    have a2 := e2 ((b : Int) + 1) (by omega) (by omega)
    exact Or.inr ⟨by omega, u2, (pC_ne hR ⟨a1.1, a1.2.1⟩ ⟨a2.1, a2.2.1⟩).mpr u3⟩
theorem ffr_2 (hR : 0 ≤ ro 2 ∧ ro 2 ≤ 4) (hT : 0 ≤ ro 1 ∧ ro 1 ≤ 4) (hp : 0 < pQ_ (lpn_ ro 256).length (SEF_ ro f) (ro 1).toNat) (fb : (ffr_ ro f).2.1 < 8) : FSN_ (fun s => CND_ (SEF_ ro f) (lpn_ ro 256).length 1 s) (ro 1 - 1).toNat (ffr_ ro f).2.1 := by
  have bits : ∀ b : Nat, (ffr_ ro f).2.1.testBit b = true ↔ b < (ro 1 - 1).toNat ∧ CND_ (SEF_ ro f) (lpn_ ro 256).length 1 (b : Int) := fun b => by
    rw [ffr_e, flf_2 b]
    show (sto_ (ro 1)).testBit b = true ∧ _ ↔ _
    rw [sto_t hT b]
    constructor
    · rintro ⟨h1, h2⟩
      refine ⟨by omega, Or.inl ⟨rfl, fun k hk u => ?_⟩⟩
      obtain ⟨x, hx, x1, x2⟩ := lfr_ex hT.1 hp (s := (b : Int)) (i := k) (j := k) ⟨by omega, h1⟩ ⟨by omega, by omega, u.1⟩ ⟨by omega, by omega, u.2⟩
      have q := ((lfr_bit hR hT.1 hx b).2.mp (h2 x hx)).2
      exact q (by rw [x1, x2])
    · rintro ⟨h1, h2⟩
      refine ⟨by omega, fun x hx => ?_⟩
      rcases h2 with ⟨-, h2⟩ | h2
      · have l := lfr_bit hR hT.1 hx b
        obtain ⟨l1, l2⟩ := l.1 (by omega)
        refine l.2.mpr ⟨by omega, fun e => h2 (x.1 b).toNat (by omega) ⟨?_, ?_⟩⟩
        · rw [show (((x.1 b).toNat : Nat) : Int) = x.1 b by omega]; exact l1.2.2
        · rw [show (((x.1 b).toNat : Nat) : Int) = x.1 b by omega, e]; exact l2.2.2
      · exact absurd h2.1 (by decide)
  refine ⟨Nat.lt_pow_two_of_testBit _ (fun i hi => ?_), bits⟩
  rw [Bool.eq_false_iff]
  intro q
  have := ((bits i).mp q).1
  omega
theorem ffr_3 (hR : 0 ≤ ro 2 ∧ ro 2 ≤ 4) (hT : 0 ≤ ro 1 ∧ ro 1 ≤ 4) (hp : 0 < pQ_ (lpn_ ro 256).length (SEF_ ro f) (ro 1).toNat) (fb : (ffr_ ro f).2.2.1 < 8) : FSN_ (fun s => CND_ (SEF_ ro f) (lpn_ ro 256).length 0 s) (ro 1 - 1).toNat (sto_ (ro 1) - (sto_ (ro 1) &&& (ffr_ ro f).2.2.1)) := by
  have s8 := sto_b hT
  have tb : ∀ b : Nat, (sto_ (ro 1) - (sto_ (ro 1) &&& (ffr_ ro f).2.2.1)).testBit b = true ↔ (b : Int) + 1 < ro 1 ∧ ¬ (ffr_ ro f).2.2.1.testBit b = true := fun b => by
    rw [← sto_t hT b]
    by_cases c : b < 3
    · rw [and_not8 _ s8 _ fb b c, Bool.and_eq_true, Bool.not_eq_true', Bool.not_eq_true]
    · have z1 : (sto_ (ro 1) - (sto_ (ro 1) &&& (ffr_ ro f).2.2.1)).testBit b = false := Nat.testBit_lt_two_pow (Nat.lt_of_lt_of_le (show _ < 8 by omega) (show 2 ^ 3 ≤ 2 ^ b from Nat.pow_le_pow_right (by decide) (by omega)))
      have z2 : (sto_ (ro 1)).testBit b = false := Nat.testBit_lt_two_pow (Nat.lt_of_lt_of_le s8 (show 2 ^ 3 ≤ 2 ^ b from Nat.pow_le_pow_right (by decide) (by omega)))
      rw [z1, z2]
      exact ⟨fun u => (by cases u), fun u => (by cases u.1)⟩
  have bits : ∀ b : Nat, (sto_ (ro 1) - (sto_ (ro 1) &&& (ffr_ ro f).2.2.1)).testBit b = true ↔ b < (ro 1 - 1).toNat ∧ CND_ (SEF_ ro f) (lpn_ ro 256).length 0 (b : Int) := fun b => by
    rw [tb b, ffr_e, flf_3 b]
    show (b : Int) + 1 < ro 1 ∧ ¬ ((0 : Nat).testBit b = true ∨ _) ↔ _
    rw [Nat.zero_testBit]
    constructor
    · rintro ⟨h1, h2⟩
      obtain ⟨i0, a0, a1⟩ := lfr_ne hT.1 hp (s := (b : Int)) (by omega)
      have al : ∀ i j : Nat, i < (lpn_ ro 256).length → j < (lpn_ ro 256).length → SEF_ ro f (i : Int) b → SEF_ ro f (j : Int) ((b : Int) + 1) → i = j := fun i j hi hj si sj => by
        obtain ⟨x, hx, x1, x2⟩ := lfr_ex hT.1 hp (s := (b : Int)) (i := i) (j := j) ⟨by omega, h1⟩ ⟨by omega, by omega, si⟩ ⟨by omega, by omega, sj⟩
        rcases Classical.em (i = j) with u | u
        · exact u
        · exact absurd (Or.inr ⟨x, hx, (lfr_bit hR hT.1 hx b).2.mpr ⟨h1, by rw [x1, x2]; omega⟩⟩) h2
      obtain ⟨j0, b0, b1⟩ := lfr_ne hT.1 hp (s := (b : Int) + 1) (by omega)
      have e0 := al i0 j0 a0 b0 a1 b1
      subst e0
      refine ⟨by omega, Or.inr ⟨rfl, fun k hk => ⟨fun u => ?_, fun u => ?_⟩, ?_⟩⟩
      · rw [al k i0 hk b0 u b1]; exact b1
      · rw [← al i0 k a0 hk a1 u]; exact a1
      · exact nA_u a0 a1 (fun j hj u => al j i0 hj b0 u b1)
    · rintro ⟨h1, h2⟩
      refine ⟨by omega, fun u => ?_⟩
      rcases u with u | ⟨x, hx, u⟩
      · cases u
      · rcases h2 with h2 | ⟨-, h2, h3⟩
        · exact absurd h2.1 (by decide)
        · have l := lfr_bit hR hT.1 hx b
          obtain ⟨l1, l2⟩ := l.1 (by omega)
          have q := (l.2.mp u).2
          have c1 : (((x.1 b).toNat : Nat) : Int) = x.1 b := by omega
          have c2 : (((x.1 ((b : Int) + 1)).toNat : Nat) : Int) = x.1 ((b : Int) + 1) := by omega
          have t1 := l2.2.2
          rw [← c2] at t1
          have t2 := (h2 (x.1 ((b : Int) + 1)).toNat (by omega)).mpr t1
          have t3 := l1.2.2
          rw [← c1] at t3
          have := nA_1 h3 (show (x.1 b).toNat < _ by omega) (show (x.1 ((b : Int) + 1)).toNat < _ by omega) t3 t2
          omega
  refine ⟨Nat.lt_pow_two_of_testBit _ (fun i hi => ?_), bits⟩
  rw [Bool.eq_false_iff]
  intro q
  have := ((bits i).mp q).1
  omega
theorem ffr_4 (hT : 0 ≤ ro 1) {mn : Int → Int} (h : ∀ j, 0 ≤ j → j < ro 1 → fst0_ (fun k => SEF_ ro f k j) (lpn_ ro 256).length (mn j)) (j : Int) (hj : 0 ≤ j ∧ j < ro 1) : (ffr_ ro f).2.2.2 j = pL_ ro (mn j) := by
  obtain ⟨x, l, e, -, e2⟩ := lf_head (T := ro 1) (N := (lpn_ ro 256).length) (CH := pC_ ro) (SE := SEF_ ro f) (ro 1).toNat (fun _ => 0) mn 0 (fun j j0 j1 => h j (by omega) j1)
  rw [ffr_e, show lfr_ ro f = x :: l from e, flf_4 x l _ rfl]
  unfold trn_
  rw [if_pos hj]
  show pL_ ro (x.1 j) = _
  rw [e2 j (by omega) hj.2]
end FT

