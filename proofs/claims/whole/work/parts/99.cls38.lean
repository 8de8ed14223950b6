theorem jbs_14 {ro : Int → Int} {h : PH_} : ∀ {B : BT_}, jbs_ ro h B → 0 ≤ h 151 14
  | none, hb => by have : h 151 14 = 2147483647 := hb; omega
  | some q, hb => by have := hb.1; omega
theorem spr_cj {f g : Int → Int} {i j R : Int} (hR : 1 ≤ R) (h : ∀ r, 0 ≤ r → r < R → f (i + r) = g (j + r)) : spr_ f i R = spr_ g j R := by
  have := vat_cg (so := 0) hR h
  unfold vat_ at this
  rw [if_pos rfl, if_pos rfl] at this
  exact this
theorem spr_t {f : Int → Int} {R : Int} (hR : 1 ≤ R) : vat_ 0 (trn_ R f) 0 R = spr_ f 0 R := by
  show spr_ _ 0 R = _
  exact spr_cj hR (fun r r0 r1 => by rw [Int.zero_add]; exact trn_at r0 r1)
theorem lok_n {ro : Int → Int} {P : List (Int × Int)} {mm m : Int} {row tot : Int → Int} {B : BT_} (hR : 1 ≤ ro 2) (hb : ¬ bet_ 0 (spr_ tot 0 (ro 2)) m B) : gtr_ ro P 0 mm 0 row tot m B = B := by
  show lok_ _ _ _ _ _ _ = _
  unfold lok_; rw [spr_t hR]; exact if_f hb
theorem lok_y {ro : Int → Int} {P : List (Int × Int)} {mm m : Int} {row tot : Int → Int} {B : BT_} (hR : 1 ≤ ro 2) (hb : bet_ 0 (spr_ tot 0 (ro 2)) m B) : gtr_ ro P 0 mm 0 row tot m B = some (spr_ tot 0 (ro 2), m, trn_ (ro 1) (fun j => pL_ ro (row j)), trn_ (ro 2) tot) := by
  show lok_ _ _ _ _ _ _ = _
  unfold lok_; rw [spr_t hR]; exact if_t hb
/-- one step of the search, in the class's words -/
noncomputable def est_ (ro : Int → Int) (P : List (Int × Int)) (so mm : Int) (n : Nat) (row tot : Int → Int) (m t : Int) : BT_ → Nat → BT_ := fun B j => if_ (m + mov_ ro (bef_ row t) (j : Int) ≤ mm) (gtr_ ro P so mm n (ob_ row t (j : Int)) (fun r => tot r + gan_ ro P t (bef_ row t) (j : Int) r) (m + mov_ ro (bef_ row t) (j : Int)) B) B
theorem est_a {ro : Int → Int} {P : List (Int × Int)} {so mm m t : Int} {n : Nat} {row tot : Int → Int} {B : BT_} (hR : ro 2 ≤ 4) (ht : ro 1 - 1 - (n : Int) = t) (h0 : 0 ≤ t) (hr : t ≠ 0 → 0 ≤ row (t - 1)) : gtr_ ro P so mm (n + 1) row tot m B = (List.range (lpn_ ro 256).length).foldl (est_ ro P so mm n row tot m t) B := by
  rw [gtr_s ht]
  refine foldl_cg (fun B j _ => ?_)
  unfold est_
  rw [gse_m hr]
  rw [gtr_cg n (row := ob_ row t (j : Int)) (row' := ob_ row t (j : Int)) (tot := gto_ (ro 4) (pW_ ro P) tot (gse_ (pC_ ro) row t (j : Int)) t (j : Int)) (tot' := fun r => tot r + gan_ ro P t (bef_ row t) (j : Int) r) (by omega) (fun _ _ _ => rfl) (fun r r0 r1 => gto_g hr (by omega))]
theorem est_f {ro : Int → Int} {P : List (Int × Int)} {so mm m t : Int} {n : Nat} {row tot : Int → Int} {B : BT_} {k : Int} (h : 0 ≤ k) : (List.range (k + 1).toNat).foldl (est_ ro P so mm n row tot m t) B = if_ (m + mov_ ro (bef_ row t) k ≤ mm) (gtr_ ro P so mm n (ob_ row t k) (fun r => tot r + gan_ ro P t (bef_ row t) k r) (m + mov_ ro (bef_ row t) k) ((List.range k.toNat).foldl (est_ ro P so mm n row tot m t) B)) ((List.range k.toNat).foldl (est_ ro P so mm n row tot m t) B) := by
  rw [tn_s h, List.range_succ, List.foldl_append]
  show est_ ro P so mm n row tot m t ((List.range k.toNat).foldl (est_ ro P so mm n row tot m t) B) k.toNat = _
  unfold est_
  rw [tn_c h]
/-- what stays where it was, from stretch t on -/
def jfr_ (t : Int) (h h' : PH_) : Prop := off_ [151, 156, 157, 158, 159] h h' ∧ (∀ k, k ≠ 14 → k ≠ 15 → h' 151 k = h 151 k) ∧ (∀ x, x < 4 * t + 4 → h' 156 x = h 156 x) ∧ (∀ x, x < t → h' 157 x = h 157 x)
theorem jfr_tr {t : Int} {a b c : PH_} (h1 : jfr_ t a b) (h2 : jfr_ t b c) : jfr_ t a c := ⟨off_tr h1.1 h2.1, fun k k1 k2 => (h2.2.1 k k1 k2).trans (h1.2.1 k k1 k2), fun x x1 => (h2.2.2.1 x x1).trans (h1.2.2.1 x x1), fun x x1 => (h2.2.2.2 x x1).trans (h1.2.2.2 x x1)⟩
theorem jfr_up {t : Int} {a b c : PH_} (h1 : jfr_ t a b) (h2 : jfr_ (t + 1) b c) : jfr_ t a c := ⟨off_tr h1.1 h2.1, fun k k1 k2 => (h2.2.1 k k1 k2).trans (h1.2.1 k k1 k2), fun x x1 => (h2.2.2.1 x (by omega)).trans (h1.2.2.1 x x1), fun x x1 => (h2.2.2.2 x (by omega)).trans (h1.2.2.2 x x1)⟩
/-- what the search stands on -/
def jon_ (ro : Int → Int) (P : List (Int × Int)) (o : Nat) (h : PH_) : Prop := CRD_ ro h o ∧ CJP_ ro h o ∧ CJG_ ro P h ∧ CJL_ ro P h 0
theorem jon_mv {ro : Int → Int} {P : List (Int × Int)} {o : Nat} {h h' : PH_} (ho : is6_ o) (f : off_ [151, 156, 157, 158, 159] h h') (e : h' 151 0 = h 151 0) (H : jon_ ro P o h) : jon_ ro P o h' := by
  obtain ⟨H1, H2, H3, H4⟩ := H
  refine ⟨CRD_off H1 ho f (by simp), ⟨e.trans H2.1, ?_⟩, ?_, ?_⟩
  · have := H2.2
    unfold CPL_ at *
    rw [f o (by simp; omega), f (o + 14) (by simp; omega)]; exact this
  · unfold CJG_ at *; rw [f 153 (by decide)]; exact H3
  · unfold CJL_ at *; rw [f 154 (by decide)]; exact H4
def epr_ (ro : Int → Int) (P : List (Int × Int)) (o : Nat) (n : Nat) (t m : Int) (B : BT_) (h : PH_) : Prop := jon_ ro P o h ∧ 1 ≤ ro 2 ∧ (t = ro 1 - 1 - n ∧ 0 ≤ t) ∧ (0 ≤ h 151 12 ∧ h 151 12 ≤ 12) ∧ (0 ≤ m ∧ m ≤ 12) ∧ (∀ j, 0 ≤ j → j < t → 0 ≤ h 157 j ∧ h 157 j < (lpn_ ro 256).length) ∧ (∀ r, 0 ≤ r → r < ro 2 → -(1000000 + 1100 * t) ≤ h 156 (4 * t + r) ∧ h 156 (4 * t + r) ≤ 1000000 + 1100 * t) ∧ jbs_ ro h B
def epc_ (G : GT_) (ro : Int → Int) (P : List (Int × Int)) (o : Nat) (n : Nat) : Prop := ∀ (h : PH_) (t m : Int) (B : BT_), epr_ ro P o n t m B h → PC G yX1_evenestFrom cX1_evenestFrom 7 none (4 + n) [rr_ G 151, ii_ t, ii_ m] h (qv_ (fun h' => jfr_ t h h' ∧ jbs_ ro h' (gtr_ ro P 0 (h 151 12) (n + 1) (h 157) (fun r => h 156 (4 * t + r)) m B)))
theorem spr_b {f : Int → Int} {R B : Int} (hR : 1 ≤ R) (hb : ∀ r, 0 ≤ r → r < R → -B ≤ f r ∧ f r ≤ B) : 0 ≤ spr_ f 0 R ∧ spr_ f 0 R ≤ 2 * B := by
  have m1 := mn_b (f := f) (i := 0) (B := B) (R - 1).toNat (fun q q0 q1 => by rw [Int.zero_add]; exact hb q q0 (by omega))
  have m2 := mx_b (f := f) (i := 0) (B := B) (R - 1).toNat (fun q q0 q1 => by rw [Int.zero_add]; exact hb q q0 (by omega))
  have m3 := mn_mx (f := f) (i := 0) (R - 1).toNat
  unfold spr_
  omega
theorem jbs_mk {ro : Int → Int} {h : PH_} {v m : Int} {row tot : Int → Int} (e1 : h 151 14 = v ∧ 0 ≤ v ∧ v ≤ 100000000) (e2 : h 151 15 = m) (e3 : ∀ k, 0 ≤ k → k < ro 1 → 0 ≤ h 158 k ∧ h 158 k < (lpn_ ro 256).length) (e4 : ∀ k, 0 ≤ k → k < ro 1 → h 158 k = row k) (e5 : ∀ r, 0 ≤ r → r < ro 2 → h 159 r = tot r) : jbs_ ro h (some (v, m, trn_ (ro 1) (fun j => pL_ ro (row j)), trn_ (ro 2) tot)) := by
  unfold jbs_
  refine ⟨e1, e2, fun k k0 k1 => ⟨e3 k k0 k1, ?_⟩, fun r r0 r1 => ?_⟩
  · rw [e4 k k0 k1]; exact (trn_at (f := fun j => pL_ ro (row j)) k0 k1).symm
  · rw [e5 r r0 r1]; exact (trn_at (f := tot) r0 r1).symm
theorem est_n {ro : Int → Int} {P : List (Int × Int)} {so mm m t : Int} {n : Nat} {row tot : Int → Int} {B : BT_} {k : Int} (h : 0 ≤ k) (hm : ¬ m + mov_ ro (bef_ row t) k ≤ mm) : (List.range (k + 1).toNat).foldl (est_ ro P so mm n row tot m t) B = (List.range k.toNat).foldl (est_ ro P so mm n row tot m t) B := by rw [est_f h, if_f hm]
theorem est_t {ro : Int → Int} {P : List (Int × Int)} {so mm m t : Int} {n : Nat} {row tot : Int → Int} {B : BT_} {k : Int} (h : 0 ≤ k) {v : Int} (hv : v = mov_ ro (bef_ row t) k) (hm : m + v ≤ mm) (hn : (n : Int) ≤ ro 1) (row' tot' : Int → Int) (hr : ∀ j, 0 ≤ j → j < ro 1 - n → row' j = ob_ row t k j) (ht : ∀ r, 0 ≤ r → r < ro 2 → tot' r = tot r + gan_ ro P t (bef_ row t) k r) : (List.range (k + 1).toNat).foldl (est_ ro P so mm n row tot m t) B = gtr_ ro P so mm n row' tot' (m + v) ((List.range k.toNat).foldl (est_ ro P so mm n row tot m t) B) := by
  subst hv
  rw [est_f h, if_t hm]
  exact gtr_cg n hn (fun j j0 j1 => (hr j j0 j1).symm) (fun r r0 r1 => (ht r r0 r1).symm)

