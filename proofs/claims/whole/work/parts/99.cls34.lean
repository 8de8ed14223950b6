theorem pL_sea {ro : Int → Int} {k : Int} (hS : 2 ≤ ro 0 ∧ ro 0 ≤ 4) (hR : 0 ≤ ro 2 ∧ ro 2 ≤ ro 0) (h0 : 0 ≤ k) (h1 : k < (lpn_ ro 256).length) : vp_ok (ro 0) (ro 2) (pL_ ro k) ∧ sea_ (ro 0) (dg_ (ro 2) (pL_ ro k)) (ro 2).toNat := by
  have hm : pL_ ro k ∈ lpn_ ro 256 := by
    show (lpn_ ro 256).getD k.toNat 0 ∈ _
    unfold List.getD
    rw [List.getElem?_eq_getElem (show k.toNat < (lpn_ ro 256).length by omega)]
    exact List.getElem_mem _
  have a := lpn_mem hm
  exact ⟨a.1.1, ((vp_sea hS (by omega)).mp a.1.1).2.2⟩
theorem lmn_mn {f : Int → Int} {R : Int} (hR : 1 ≤ R) (hb : ∀ r, 0 ≤ r → r < R → f r < 2147483647) : lmn_ f R.toNat = mn_ f 0 (R - 1).toNat := by
  obtain ⟨n, rfl⟩ : ∃ n : Nat, R = (n : Int) + 1 := ⟨(R - 1).toNat, by omega⟩
  rw [show ((n : Int) + 1).toNat = n + 1 by omega, show ((n : Int) + 1 - 1).toNat = n by omega]
  induction n with
  | zero =>
    have := hb 0 (by omega) (by omega)
    show (if f ((0 : Nat) : Int) < 2147483647 then f ((0 : Nat) : Int) else 2147483647) = f 0
    exact if_pos this
  | succ n ih =>
    have i2 := ih (by omega) (fun r r0 r1 => hb r r0 (by omega))
    show (if f ((n + 1 : Nat) : Int) < lmn_ f (n + 1) then f ((n + 1 : Nat) : Int) else lmn_ f (n + 1)) = (if f (0 + ((n : Int) + 1)) < mn_ f 0 n then f (0 + ((n : Int) + 1)) else mn_ f 0 n)
    rw [i2, show (0 : Int) + ((n : Int) + 1) = ((n + 1 : Nat) : Int) by omega]
theorem lmn_cg {f g : Int → Int} : ∀ n : Nat, (∀ r, 0 ≤ r → r < (n : Int) → f r = g r) → lmn_ f n = lmn_ g n
  | 0, _ => rfl
  | n + 1, h => by unfold lmn_; rw [lmn_cg n (fun r r0 r1 => h r r0 (by omega)), h n (by omega) (by omega)]
theorem leh_0 {ro : Int → Int} {P : List (Int × Int)} {a c i t : Int} (h : ro 1 ≤ t + 1) : leh_ ro P a c (ro 1 - 1 - t).toNat i = 0 := by
  rw [show (ro 1 - 1 - t).toNat = 0 by omega]; rfl
theorem mx_mo {f : Int → Int} {i : Int} : ∀ (n k : Nat), mx_ f i n ≤ mx_ f i (n + k) ∧ mn_ f i (n + k) ≤ mn_ f i n
  | n, 0 => ⟨Int.le_refl _, Int.le_refl _⟩
  | n, k + 1 => by
    have := mx_mo (f := f) (i := i) n k
    show _ ≤ (if mx_ f i (n + k) < f (i + (((n + k : Nat) : Int) + 1)) then f (i + (((n + k : Nat) : Int) + 1)) else mx_ f i (n + k)) ∧ (if f (i + (((n + k : Nat) : Int) + 1)) < mn_ f i (n + k) then f (i + (((n + k : Nat) : Int) + 1)) else mn_ f i (n + k)) ≤ _
    constructor <;> split <;> omega
theorem spi_le {f : Int → Int} {j lo hi R : Int} (al : spi_ f 0 j lo hi) (hj : 0 < j) (hR : j ≤ R) : hi - lo ≤ spr_ f 0 R ∧ (j = R → hi - lo = spr_ f 0 R) := by
  rcases al with al | al
  · omega
  · have m := mx_mo (f := f) (i := 0) (j - 1).toNat (R - j).toNat
    rw [show (j - 1).toNat + (R - j).toNat = (R - 1).toNat by omega] at m
    rw [al.2.1, al.2.2, show (j - 0 - 1).toNat = (j - 1).toNat by omega]
    unfold spr_
    exact ⟨by omega, fun e => by rw [e]⟩
theorem spi_b {f : Int → Int} {j lo hi : Int} (al : spi_ f 0 j lo hi) (hj : 0 < j) (hb : ∀ r, 0 ≤ r → r < j → -10000000 ≤ f r ∧ f r ≤ 10000000) : (-10000000 ≤ lo ∧ lo ≤ 10000000) ∧ (-10000000 ≤ hi ∧ hi ≤ 10000000) ∧ lo ≤ hi := by
  rcases al with al | al
  · omega
  · rw [al.2.1, al.2.2]
    exact ⟨mn_b _ (fun r r0 r1 => by rw [Int.zero_add]; exact hb _ (by omega) (by omega)), mx_b _ (fun r r0 r1 => by rw [Int.zero_add]; exact hb _ (by omega) (by omega)), mn_mx _⟩
/-- the best so far, as the class has it -/
def jbs_ (ro : Int → Int) (h : PH_) : BT_ → Prop
  | none => h 151 14 = 2147483647
  | some q => (h 151 14 = q.1 ∧ 0 ≤ q.1 ∧ q.1 ≤ 100000000) ∧ h 151 15 = q.2.1 ∧ (∀ k, 0 ≤ k → k < ro 1 → (0 ≤ h 158 k ∧ h 158 k < (lpn_ ro 256).length) ∧ pL_ ro (h 158 k) = q.2.2.1 k) ∧ (∀ r, 0 ≤ r → r < ro 2 → h 159 r = q.2.2.2 r)
theorem jbs_bet {ro : Int → Int} {h : PH_} {v m : Int} (hv : v ≤ 2147483646) : ∀ {B : BT_}, jbs_ ro h B → ((v < h 151 14 ∨ v = h 151 14 ∧ m < h 151 15) ↔ bet_ 0 v m B)
  | none, hb => ⟨fun _ => trivial, fun _ => Or.inl (by have : h 151 14 = 2147483647 := hb; omega)⟩
  | some q, hb => by
    obtain ⟨⟨h1, -, -⟩, h2, -, -⟩ := hb
    rw [h1, h2]
    exact ⟨fun u => u.elim Or.inl (fun u => Or.inr ⟨rfl, u⟩), fun u => u.elim Or.inl (fun u => Or.inr u.2)⟩
theorem jbs_mv {ro : Int → Int} {h h' : PH_} {B : BT_} (e1 : h' 151 14 = h 151 14) (e2 : h' 151 15 = h 151 15) (e3 : h' 158 = h 158) (e4 : h' 159 = h 159) (hb : jbs_ ro h B) : jbs_ ro h' B := by
  cases B with
  | none => show h' 151 14 = _; rw [e1]; exact hb
  | some q => unfold jbs_ at *; rw [e1, e2, e3, e4]; exact hb
theorem leh_s {ro : Int → Int} {P : List (Int × Int)} {a c : Int} {n : Nat} {b : Int} : lmn_ (fun k => gan_ ro P (ro 1 - 1 - n) b k a - gan_ ro P (ro 1 - 1 - n) b k c + leh_ ro P a c n k) (lpn_ ro 256).length = leh_ ro P a c (n + 1) b := by rw [leh_]
/-- no more than the spread at last -/
def lsd_ (ro : Int → Int) (P : List (Int × Int)) (f : Int → Int) (t i z : Int) : Prop := z ≤ 0 ∨ ∃ a c, (0 ≤ a ∧ a < ro 2) ∧ (0 ≤ c ∧ c < ro 2) ∧ z ≤ f (4 * t + 4 + a) - f (4 * t + 4 + c) + leh_ ro P a c (ro 1 - 1 - t).toNat i

