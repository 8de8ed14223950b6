/-! ===== the lines of a road ===== -/
abbrev ZT_ : Type := (Int → Int) × NM_ × Option CO_ × List CO_ × Int
abbrev LR_ : Type := RE_ (ZT_ × Nat)
noncomputable def stl_ (tk : Nat → TK_) : Nat → Int → Nat → (Int → Int) → RE_ ((Int → Int) × Nat)
  | 0, _, a, ro => .ok (ro, a)
  | k + 1, i, a, ro => bd_ (tkn_ tk 0 9 a) (fun q => stl_ tk k (i + 1) q.2 (ob_ ro i q.1))
noncomputable def sl0_ (tk : Nat → TK_) (ro : Int → Int) (a : Nat) : RE_ ((Int → Int) × Nat) := bd_ (tkn_ tk 1 99 (a + 1)) (fun q => bd_ (tkw_ tk 2 q.2) (fun b => stl_ tk (ro 0).toNat (12 + 5 * ro 1) b (ob_ ro (11 + 5 * ro 1) q.1)))
noncomputable def sln_ (tk : Nat → TK_) (Z : ZT_) (a : Nat) : LR_ := if_ (Z.1 1 = 4) (.error (flt_ tk 5 a)) (bd_ (sl0_ tk Z.1 a) (fun r => .ok ((ob_ r.1 1 (Z.1 1 + 1), Z.2), r.2)))
/-- a new name -/
noncomputable def nnm_ (tk : Nat → TK_) (nm : NM_) (v : Int) (a : Nat) : RE_ NM_ := if_ (nam_ (tk a)) (if_ (0 ≤ fnd_ nm (tk a).2.2.2) (.error (flt_ tk 3 a)) (.ok (nm ++ [((tk a).2.2.2, v)]))) (.error (flt_ tk 1 a))
noncomputable def knd_ (tk : Nat → TK_) (a : Nat) : RE_ Int := if_ (fcw_ (tk a) 15 4 < 0) (.error (flt_ tk 1 a)) (.ok (fcw_ (tk a) 15 4))
noncomputable def taf_ (tk : Nat → TK_) (w : Nat) (lo hi : Int) (a : Nat) : RE_ (Int × Nat) := bd_ (tkw_ tk w a) (tkn_ tk lo hi)
noncomputable def rln_ (tk : Nat → TK_) (Z : ZT_) (a : Nat) : LR_ := if_ (Z.1 2 = Z.1 0) (.error (flt_ tk 5 a)) (bd_ (nnm_ tk Z.2.1 (Z.1 2) (a + 1)) (fun nm => bd_ (knd_ tk (a + 2)) (fun k => bd_ (taf_ tk 4 1 9 (a + 3)) (fun d => bd_ (taf_ tk 5 0 9999 d.2) (fun p => .ok ((ob_ (ob_ (ob_ (ob_ Z.1 (31 + 4 * Z.1 2) k) (31 + 4 * Z.1 2 + 1) d.1) (31 + 4 * Z.1 2 + 2) p.1) 2 (Z.1 2 + 1), nm, Z.2.2), p.2))))))
noncomputable def aln_ (tk : Nat → TK_) (Z : ZT_) (a : Nat) : LR_ := bd_ (rdh_ tk Z.2.1 (a + 1)) (fun u => bd_ (rdh_ tk Z.2.1 (a + 2)) (fun v => if_ (u = v ∨ Z.1 (47 + 4 * u + v) = 1) (.error (flt_ tk 3 (a + 2))) (.ok ((ob_ (ob_ Z.1 (47 + 4 * u + v) 1) (47 + 4 * v + u) 1, Z.2), a + 3))))
noncomputable def vln_ (tk : Nat → TK_) (Z : ZT_) (a : Nat) : LR_ := bd_ (rdh_ tk Z.2.1 (a + 1)) (fun u => bd_ (tkn_ tk 0 (Z.1 0 - 1) (a + 2)) (fun s => if_ (Z.1 (31 + 4 * u + 3) / 2 ^ s.1.toNat % 2 = 1) (.error (flt_ tk 3 (a + 2))) (.ok ((ob_ Z.1 (31 + 4 * u + 3) (Z.1 (31 + 4 * u + 3) + 2 ^ s.1.toNat), Z.2), a + 3))))
noncomputable def gln_ (tk : Nat → TK_) (Z : ZT_) (a : Nat) : LR_ := bd_ (tkn_ tk 0 (Z.1 0 - 2) (a + 1)) (fun s => if_ (Z.1 10 / 2 ^ s.1.toNat % 2 = 1) (.error (flt_ tk 3 (a + 1))) (.ok ((ob_ Z.1 10 (Z.1 10 + 2 ^ s.1.toNat), Z.2), a + 2)))
noncomputable def fln_ (tk : Nat → TK_) (Z : ZT_) (a : Nat) : LR_ := if_ (Z.2.2.2.2 = 0) (bd_ (tkn_ tk 0 99 (a + 1)) (fun s => .ok ((ob_ Z.1 4 s.1, Z.2.1, Z.2.2.1, Z.2.2.2.1, 1), a + 2))) (.error (flt_ tk 3 a))
noncomputable def lwe_ (tk : Nat → TK_) (f m a : Nat) : CR_ := lv0_ tk (prt_ tk f m 5) a
noncomputable def wln_ (tk : Nat → TK_) (Z : ZT_) (a : Nat) : LR_ := if_ (Z.2.2.1 = none) (bd_ (lwe_ tk 22 5 (a + 1)) (fun q => .ok ((Z.1, Z.2.1, some q.1, Z.2.2.2), q.2))) (.error (flt_ tk 3 a))
noncomputable def uln_ (tk : Nat → TK_) (Z : ZT_) (a : Nat) : LR_ := if_ (Z.1 3 = 4) (.error (flt_ tk 5 a)) (bd_ (nnm_ tk Z.2.1 20 (a + 1)) (fun nm => bd_ (lwe_ tk 27 3 (a + 2)) (fun q => .ok ((ob_ Z.1 3 (Z.1 3 + 1), nm, Z.2.2.1, Z.2.2.2.1 ++ [q.1], Z.2.2.2.2), q.2))))
noncomputable def lin_ (tk : Nat → TK_) (Z : ZT_) (a : Nat) : LR_ := if_ (isW_ (tk a) 1) (sln_ tk Z a) (if_ (isW_ (tk a) 3) (rln_ tk Z a) (if_ (isW_ (tk a) 6) (aln_ tk Z a) (if_ (isW_ (tk a) 7) (vln_ tk Z a) (if_ (isW_ (tk a) 8) (gln_ tk Z a) (if_ (isW_ (tk a) 9) (fln_ tk Z a) (if_ (isW_ (tk a) 10) (wln_ tk Z a) (if_ (isW_ (tk a) 11) (uln_ tk Z a) (.error (flt_ tk 1 a)))))))))
noncomputable def rlp_ (tk : Nat → TK_) : Nat → ZT_ → Nat → RE_ ZT_
  | 0, Z, _ => .ok Z
  | f + 1, Z, a => if_ ((tk a).1 = 0) (.ok Z) (bd_ (lin_ tk Z a) (fun q => bd_ (tks2_ tk 59 q.2) (fun b => rlp_ tk f q.1 b)))
def ro0_ : Int → Int := fun k => if k = 5 then -1 else 0
noncomputable def rod_ (tk : Nat → TK_) : RE_ ZT_ := bd_ (tkw_ tk 0 0) (fun a => bd_ (tkn_ tk 2 4 a) (fun q => bd_ (tks2_ tk 59 q.2) (fun b => rlp_ tk 1000 (ob_ ro0_ 0 q.1, [], none, [], 0) b)))
/-! what holds of a road being read -/
def rok_ (ro : Int → Int) (r : Int) : Prop := (0 ≤ ro (31 + 4 * r) ∧ ro (31 + 4 * r) ≤ 3) ∧ (r < ro 2 → 1 ≤ ro (31 + 4 * r + 1) ∧ ro (31 + 4 * r + 1) ≤ 9) ∧ (0 ≤ ro (31 + 4 * r + 2) ∧ ro (31 + 4 * r + 2) ≤ 9999) ∧ (0 ≤ ro (31 + 4 * r + 3) ∧ ro (31 + 4 * r + 3) ≤ 15)
def sok_ (ro : Int → Int) (t : Int) : Prop := (1 ≤ ro (11 + 5 * t) ∧ ro (11 + 5 * t) ≤ 99) ∧ ∀ s, 0 ≤ s → s < ro 0 → 0 ≤ ro (12 + 5 * t + s) ∧ ro (12 + 5 * t + s) ≤ 9
/-- no more than 32 on the pile -/
def dpb_ : CO_ → Nat → Prop
  | [], _ => True
  | q :: P, n => if q.1 = 1 ∨ q.1 = 2 then n < 32 ∧ dpb_ P (n + 1) else if q.1 = 3 then dpb_ P n else dpb_ P (n - 1)
/-- code as it must be -/
def wfc_ (m : Int) (P : CO_) : Prop := (∀ q ∈ P, (1 ≤ q.1 ∧ q.1 ≤ 10) ∧ (q.1 = 2 → 0 ≤ q.2 ∧ q.2 < m) ∧ ir_ q.2) ∧ P.length ≤ 1000 ∧ dpt_ P 0 ∧ dpb_ P 0
def zk_ (ro : Int → Int) (nm : NM_) (W : Option CO_) (Q : List CO_) (ft : Int) : Prop := ((2 ≤ ro 0 ∧ ro 0 ≤ 4) ∧ (0 ≤ ro 1 ∧ ro 1 ≤ 4) ∧ (0 ≤ ro 2 ∧ ro 2 ≤ ro 0) ∧ (0 ≤ ro 3 ∧ ro 3 ≤ 4) ∧ (0 ≤ ro 4 ∧ ro 4 ≤ 99) ∧ (0 ≤ ro 10 ∧ ro 10 ≤ 15)) ∧ (∀ r, 0 ≤ r → r < 4 → rok_ ro r) ∧ (∀ t, 0 ≤ t → t < ro 1 → sok_ ro t) ∧ (∀ x, 47 ≤ x → x < 63 → ro x = 0 ∨ ro x = 1) ∧ ((nm.length : Int) = ro 2 + ro 3 ∧ (Q.length : Int) = ro 3 ∧ (ft = 0 ∨ ft = 1)) ∧ (∀ q ∈ nm, lok2_ q.1 ∧ (0 ≤ q.2 ∧ q.2 < ro 2 ∨ q.2 = 20)) ∧ (∀ P, W = some P → wfc_ 5 P) ∧ (∀ P ∈ Q, wfc_ 3 P)
abbrev zok_ (Z : ZT_) : Prop := zk_ Z.1 Z.2.1 Z.2.2.1 Z.2.2.2.1 Z.2.2.2.2
/-! .. and of the reference's cells -/
def roA_ (h : PH_) (ro : Int → Int) : Prop := ∀ k, 0 ≤ k → k < 80 → ¬ (5 ≤ k ∧ k ≤ 9) → h mRoads (80 + k) = ro k
def lwr_ (h : PH_) (i : Int) (P : CO_) : Prop := 0 ≤ i ∧ cod_ (h mOp) (h mArg) (1100 + i) P ∧ i + P.length < h mo_ 13
def WR_ (h : PH_) : Option CO_ → Prop
  | none => h mRoads 85 = -1
  | some P => lwr_ h (h mRoads 85) P
def QR_ (h : PH_) (Q : List CO_) : Prop := ∀ j : Nat, j < Q.length → lwr_ h (h mRoads (86 + (j : Int))) (Q.getD j [])
def ZR_ (tk : Nat → TK_) (N : Nat) (Z : ZT_) (h : PH_) (a : Nat) : Prop := RPO_ tk N h a ∧ roA_ h Z.1 ∧ nmr_ (h mo_ 19) (h mReadNames) (h mReadNameOf) Z.2.1 ∧ WR_ h Z.2.2.1 ∧ QR_ h Z.2.2.2.1 ∧ h mo_ 20 = Z.2.2.2.2 ∧ (0 ≤ h mo_ 13 ∧ h mo_ 13 ≤ a) ∧ zok_ Z
def FRL_ (h h' : PH_) : Prop := off_ [mRoads, mOp, mArg, mReadNames, mReadNameOf, mo_] h h' ∧ (∀ k, k ≠ 7 → k ≠ 8 → k ≠ 13 → k ≠ 19 → k ≠ 20 → k ≠ 21 → k ≠ 22 → h' mo_ k = h mo_ k) ∧ (∀ x, x < 80 → h' mRoads x = h mRoads x) ∧ ∀ x, x < 1100 → h' mOp x = h mOp x ∧ h' mArg x = h mArg x
def LP_ (tk : Nat → TK_) (N : Nat) (h' : PH_) : LR_ → Prop
  | .ok q => ZR_ tk N q.1 h' q.2
  | .error e => RPE_ tk N h' e
theorem FRL_rf {h : PH_} : FRL_ h h := ⟨off_rf, fun _ _ _ _ _ _ _ _ => rfl, fun _ _ => rfl, fun _ _ => ⟨rfl, rfl⟩⟩
theorem FRL_tr {a b c : PH_} (h1 : FRL_ a b) (h2 : FRL_ b c) : FRL_ a c := ⟨off_tr h1.1 h2.1, fun k k1 k2 k3 k4 k5 k6 k7 => (h2.2.1 k k1 k2 k3 k4 k5 k6 k7).trans (h1.2.1 k k1 k2 k3 k4 k5 k6 k7), fun x hx => (h2.2.2.1 x hx).trans (h1.2.2.1 x hx), fun x hx => ⟨(h2.2.2.2 x hx).1.trans (h1.2.2.2 x hx).1, (h2.2.2.2 x hx).2.trans (h1.2.2.2 x hx).2⟩⟩
theorem FRL_7 {h h' : PH_} (f : fr7_ h h') : FRL_ h h' := ⟨off_mo f.1 (by decide), fun k k1 k2 _ _ _ _ _ => f.2 k k1 k2, fun x _ => by rw [f.1 mRoads (by decide)], fun x _ => by rw [f.1 mOp (by decide), f.1 mArg (by decide)]; exact ⟨rfl, rfl⟩⟩
theorem FRL_r {h : PH_} {x z : Int} (hx : 80 ≤ x) : FRL_ h (up_ h mRoads x z) := ⟨off_up off_rf (by decide), fun k _ _ _ _ _ _ _ => by rw [up_off (by decide)], fun y hy => by rw [up_at, if_neg (by omega)], fun y _ => by rw [up_off (by decide), up_off (by decide)]; exact ⟨rfl, rfl⟩⟩
theorem FRL_m {h : PH_} {k z : Int} (hk : k = 7 ∨ k = 8 ∨ k = 13 ∨ k = 19 ∨ k = 20 ∨ k = 21 ∨ k = 22) : FRL_ h (up_ h mo_ k z) := ⟨off_up off_rf (by decide), fun q q1 q2 q3 q4 q5 q6 q7 => by rw [up_at, if_neg (by omega)], fun y _ => by rw [up_off (by decide)], fun y _ => by rw [up_off (by decide), up_off (by decide)]; exact ⟨rfl, rfl⟩⟩
theorem FRL_n {h : PH_} {x z : Int} : FRL_ h (up_ h mReadNames x z) := ⟨off_up off_rf (by decide), fun k _ _ _ _ _ _ _ => by rw [up_off (by decide)], fun y _ => by rw [up_off (by decide)], fun y _ => by rw [up_off (by decide), up_off (by decide)]; exact ⟨rfl, rfl⟩⟩
theorem FRL_o {h : PH_} {x z : Int} : FRL_ h (up_ h mReadNameOf x z) := ⟨off_up off_rf (by decide), fun k _ _ _ _ _ _ _ => by rw [up_off (by decide)], fun y _ => by rw [up_off (by decide)], fun y _ => by rw [up_off (by decide), up_off (by decide)]; exact ⟨rfl, rfl⟩⟩
theorem RB_F {tk : Nat → TK_} {N : Nat} {h h' : PH_} (H : RB_ tk N h) (f : FRL_ h h') : RB_ tk N h' := RB_mv H (f.1 mSort (by decide)) (f.1 mPlace (by decide)) (f.1 mValue (by decide)) (f.1 mWords (by decide))
theorem RP_r {tk : Nat → TK_} {N : Nat} {h : PH_} {x z : Int} : ∀ {X : RE_ Nat}, RP_ tk N h X → RP_ tk N (up_ h mRoads x z) X
  | .ok a, H => ⟨RB_mv H.1 (up_off (by decide)) (up_off (by decide)) (up_off (by decide)) (up_off (by decide)), by rw [up_off (by decide)]; exact H.2.1, H.2.2.1, by rw [up_off (by decide)]; exact H.2.2.2⟩
  | .error e, H => ⟨RB_mv H.1 (up_off (by decide)) (up_off (by decide)) (up_off (by decide)) (up_off (by decide)), by rw [up_off (by decide)]; exact H.2.1, by rw [up_off (by decide)]; exact H.2.2.1, H.2.2.2⟩
theorem lwr_mv {h h' : PH_} {i : Int} {P : CO_} (H : lwr_ h i P) (e1 : h' mOp = h mOp) (e2 : h' mArg = h mArg) (e3 : h' mo_ 13 = h mo_ 13) : lwr_ h' i P := by unfold lwr_ at H ⊢; rw [e1, e2, e3]; exact H
theorem WR_mv {h h' : PH_} (e1 : h' mOp = h mOp) (e2 : h' mArg = h mArg) (e3 : h' mo_ 13 = h mo_ 13) (e4 : h' mRoads 85 = h mRoads 85) : ∀ {W : Option CO_}, WR_ h W → WR_ h' W
  | none, H => by show h' mRoads 85 = -1; rw [e4]; exact H
  | some P, H => by show lwr_ h' (h' mRoads 85) P; rw [e4]; exact lwr_mv H e1 e2 e3
/-- the rest as it was -/
theorem ZR_kp {tk : Nat → TK_} {N : Nat} {Z : ZT_} {h h' : PH_} {a b : Nat} {ro : Int → Int} {ft : Int} (H : ZR_ tk N Z h a) (R : RPO_ tk N h' b) (hab : a ≤ b) (e1 : h' mOp = h mOp) (e2 : h' mArg = h mArg) (e3 : h' mo_ 13 = h mo_ 13) (e4 : h' mReadNames = h mReadNames) (e5 : h' mReadNameOf = h mReadNameOf) (e6 : h' mo_ 19 = h mo_ 19) (e7 : h' mo_ 20 = ft) (e8 : ∀ x, 85 ≤ x → x ≤ 89 → h' mRoads x = h mRoads x) (hr : roA_ h' ro) (hz : zok_ (ro, Z.2.1, Z.2.2.1, Z.2.2.2.1, ft)) : ZR_ tk N (ro, Z.2.1, Z.2.2.1, Z.2.2.2.1, ft) h' b := by
  obtain ⟨h1, h2, h3, h4, h5, h6, h7, h8⟩ := H
  refine ⟨R, hr, by rw [e4, e5, e6]; exact h3, WR_mv e1 e2 e3 (e8 85 (by omega) (by omega)) h4, fun j hj => ?_, e7, by omega, hz⟩
  have q3 := h8.1.2.2.2.1
  have q4 := h8.2.2.2.2.1.2.1
  have hj : j < Z.2.2.2.1.length := hj
  rw [e8 (86 + (j : Int)) (by omega) (by omega)]
  exact lwr_mv (h5 j hj) e1 e2 e3
theorem roA_8 {h : PH_} {ro : Int → Int} (H : roA_ h ro) : h mRoads 80 = ro 0 ∧ h mRoads 81 = ro 1 ∧ h mRoads 82 = ro 2 ∧ h mRoads 83 = ro 3 ∧ h mRoads 84 = ro 4 ∧ h mRoads 90 = ro 10 := ⟨H 0 (by decide) (by decide) (by decide), H 1 (by decide) (by decide) (by decide), H 2 (by decide) (by decide) (by decide), H 3 (by decide) (by decide) (by decide), H 4 (by decide) (by decide) (by decide), H 10 (by decide) (by decide) (by decide)⟩
theorem roA_u {h : PH_} {ro : Int → Int} {x z k : Int} (H : roA_ h ro) (hx : x = 80 + k) (hk : ¬ (5 ≤ k ∧ k ≤ 9)) : roA_ (up_ h mRoads x z) (ob_ ro k z) := fun j j0 j1 j2 => by
  rw [up_at]; unfold ob_
  by_cases c : j = k
  · rw [if_pos (by omega), if_pos c]
  · rw [if_neg (by omega), if_neg c]; exact H j j0 j1 j2
theorem roA_m {h h' : PH_} {ro : Int → Int} (H : roA_ h ro) (e : h' mRoads = h mRoads) : roA_ h' ro := fun j j0 j1 j2 => by rw [e]; exact H j j0 j1 j2
theorem tkn_o {tk : Nat → TK_} {lo hi : Int} {a : Nat} {q : Int × Nat} (h : tkn_ tk lo hi a = .ok q) : (lo ≤ q.1 ∧ q.1 ≤ hi) ∧ q.2 = a + 1 ∧ (tk a).1 = 2 := by
  unfold tkn_ at h
  by_cases c1 : (tk a).1 = 2
  · rw [if_t c1] at h
    by_cases c2 : lo ≤ (tk a).2.2.1 ∧ (tk a).2.2.1 ≤ hi
    · rw [if_t c2] at h; cases h; exact ⟨c2, rfl, c1⟩
    · rw [if_f c2] at h; cases h
  · rw [if_f c1] at h; cases h
theorem tkw_o {tk : Nat → TK_} {w a b : Nat} (h : tkw_ tk w a = .ok b) : b = a + 1 ∧ isW_ (tk a) w := by
  unfold tkw_ at h
  by_cases c : isW_ (tk a) w
  · rw [if_t c] at h; cases h; exact ⟨rfl, c⟩
  · rw [if_f c] at h; cases h
theorem tks2_o {tk : Nat → TK_} {c : Int} {a b : Nat} (h : tks2_ tk c a = .ok b) : b = a + 1 ∧ isS_ (tk a) c := by
  unfold tks2_ at h
  by_cases q : isS_ (tk a) c
  · rw [if_t q] at h; cases h; exact ⟨rfl, q⟩
  · rw [if_f q] at h; cases h
theorem bd_ok {α β : Type} {x : RE_ α} {f : α → RE_ β} {b : β} (h : bd_ x f = .ok b) : ∃ a, x = .ok a ∧ f a = .ok b := by
  cases x with
  | error e => cases h
  | ok a => exact ⟨a, rfl, h⟩
theorem stl_o {tk : Nat → TK_} : ∀ {k : Nat} {i : Int} {a : Nat} {ro : Int → Int} {r : (Int → Int) × Nat}, stl_ tk k i a ro = .ok r → r.2 = a + k ∧ (∀ x, x < i ∨ i + k ≤ x → r.1 x = ro x) ∧ ∀ x, i ≤ x → x < i + k → 0 ≤ r.1 x ∧ r.1 x ≤ 9
  | 0, i, a, ro, r, h => by
    unfold stl_ at h; cases h
    exact ⟨rfl, fun x _ => rfl, fun x h1 h2 => by omega⟩
  | k + 1, i, a, ro, r, h => by
    unfold stl_ at h
    obtain ⟨q, q1, q2⟩ := bd_ok h
    obtain ⟨n1, n2, n3⟩ := tkn_o q1
    obtain ⟨e1, e2, e3⟩ := stl_o q2
    refine ⟨by rw [e1, n2]; omega, fun x hx => ?_, fun x h1 h2 => ?_⟩
    · rw [e2 x (by omega)]; unfold ob_; rw [if_neg (by omega)]
    · by_cases c : x = i
      · rw [e2 x (by omega)]; unfold ob_; rw [if_pos c]; exact n1
      · exact e3 x (by omega) (by omega)
theorem sln_z {tk : Nat → TK_} {Z : ZT_} {a : Nat} (hz : zok_ Z) {q : ZT_ × Nat} (h : sln_ tk Z a = .ok q) : zok_ q.1 ∧ a < q.2 ∧ q.1.2 = Z.2 := by
  unfold sln_ at h
  by_cases c : Z.1 1 = 4
  · rw [if_t c] at h; cases h
  rw [if_f c] at h
  obtain ⟨r, r1, r2⟩ := bd_ok h
  cases r2
  unfold sl0_ at r1
  obtain ⟨p, p1, p2⟩ := bd_ok r1
  obtain ⟨b, b1, b2⟩ := bd_ok p2
  obtain ⟨n1, n2, n3⟩ := tkn_o p1
  have w1 := tkw_o b1
  obtain ⟨s1, s2, s3⟩ := stl_o b2
  obtain ⟨⟨z0, z1, z2, z3, z4, z5⟩, zr, zs, za, zn, zm⟩ := hz
  have o2 : ∀ x, x < 11 + 5 * Z.1 1 ∨ 12 + 5 * Z.1 1 + Z.1 0 ≤ x → r.1 x = Z.1 x := fun x hx => by
    rw [s2 x (by omega)]; unfold ob_; rw [if_neg (by omega)]
  have o1 : r.1 (11 + 5 * Z.1 1) = p.1 := by rw [s2 _ (by omega)]; unfold ob_; rw [if_pos rfl]
  have g : ∀ x, x ≠ 1 → ob_ r.1 1 (Z.1 1 + 1) x = r.1 x := fun x hx => by unfold ob_; rw [if_neg hx]
  have g1 : ob_ r.1 1 (Z.1 1 + 1) 1 = Z.1 1 + 1 := rfl
  refine ⟨?_, by show a < r.2; omega, rfl⟩
  show zk_ (ob_ r.1 1 (Z.1 1 + 1)) Z.2.1 Z.2.2.1 Z.2.2.2.1 Z.2.2.2.2
  unfold zk_
  rw [g 0 (by decide), g1, g 2 (by decide), g 3 (by decide), g 4 (by decide), g 10 (by decide), o2 0 (by omega), o2 2 (by omega), o2 3 (by omega), o2 4 (by omega), o2 10 (by omega)]
  refine ⟨⟨z0, by omega, z2, z3, z4, z5⟩, fun x x0 x1 => ?_, fun t t0 t1 => ?_, fun x x0 x1 => ?_, zn, zm⟩
  · have := zr x x0 x1
    unfold rok_ at this ⊢
    rw [g 2 (by decide), o2 2 (by omega)]
    rw [g (31 + 4 * x) (by omega), g (31 + 4 * x + 1) (by omega), g (31 + 4 * x + 2) (by omega), g (31 + 4 * x + 3) (by omega), o2 (31 + 4 * x) (by omega), o2 (31 + 4 * x + 1) (by omega), o2 (31 + 4 * x + 2) (by omega), o2 (31 + 4 * x + 3) (by omega)]
    exact this
  · unfold sok_
    rw [g 0 (by decide), o2 0 (by omega), g (11 + 5 * t) (by omega)]
    by_cases ct : t = Z.1 1
    · rw [ct, o1]
      exact ⟨n1, fun s s0 s1 => by rw [g _ (by omega)]; exact s3 _ (by omega) (by omega)⟩
    · have zt := zs t t0 (by omega)
      refine ⟨by rw [o2 _ (by omega)]; exact zt.1, fun s s0 s1 => ?_⟩
      rw [g _ (by omega), o2 _ (by omega)]
      exact zt.2 s s0 s1
  · rw [g x (by omega), o2 x (by omega)]; exact za x x0 x1
