def spi_ (f : Int → Int) (fr j lo hi : Int) : Prop := (j = fr ∧ lo = 2147483647 ∧ hi = -2147483648) ∨ (fr < j ∧ lo = mn_ f fr (j - fr - 1).toNat ∧ hi = mx_ f fr (j - fr - 1).toNat)
theorem spi_s {f : Int → Int} {fr j lo hi z y : Int} (al : spi_ f fr j lo hi) (w1 : f j < lo ∧ z = f j ∨ lo ≤ f j ∧ z = lo) (w2 : hi < f j ∧ y = f j ∨ f j ≤ hi ∧ y = hi) (hb : -10000000 ≤ f j ∧ f j ≤ 10000000) : spi_ f fr (j + 1) z y := by
  rcases al with al | al
  · obtain ⟨rfl, rfl, rfl⟩ := al
    refine Or.inr ⟨by omega, ?_, ?_⟩
    · rw [show (j + 1 - j - 1).toNat = 0 by omega]; show z = f j; omega
    · rw [show (j + 1 - j - 1).toNat = 0 by omega]; show y = f j; omega
  · obtain ⟨a1, a2, a3⟩ := al
    have s1 := mn_s (f := f) (i := fr) (r := j - fr) (by omega)
    have s2 := mx_s (f := f) (i := fr) (r := j - fr) (by omega)
    rw [show fr + (j - fr) = j by omega] at s1 s2
    refine Or.inr ⟨by omega, ?_, ?_⟩
    · rw [show j + 1 - fr - 1 = j - fr + 1 - 1 by omega, s1, ← a2]
      split <;> omega
    · rw [show j + 1 - fr - 1 = j - fr + 1 - 1 by omega, s2, ← a3]
      split <;> omega
theorem mn_mx {f : Int → Int} {i : Int} : ∀ n, mn_ f i n ≤ mx_ f i n
  | 0 => Int.le_refl _
  | n + 1 => by have := mn_mx (f := f) (i := i) n; unfold mn_ mx_; split <;> split <;> omega

set_option maxHeartbeats 4000000 in
set_option maxRecDepth 100000 in
theorem d_spreadOf {G : GT_} (hC : okC_ G) (h : PH_) (a n : Nat) (k_a : kd_ a = 0) (l_a : ln_ a = n) (ha : a < 173) (hn : n ≤ 20) (fr R : Int) (h1 : 0 ≤ fr ∧ 1 ≤ R ∧ fr + R ≤ n) (hb : ∀ x, fr ≤ x → x < fr + R → -10000000 ≤ h a x ∧ h a x ≤ 10000000) : PC G yX11_spreadOf cX11_spreadOf 6 (some .int) 2 [rr_ G a, ii_ fr, ii_ R] h (qi_ (fun z h' => h = h' ∧ z = spr_ (h a) fr R)) := by
  refine PC.of (lv := [some (rr_ G a), some (ii_ fr), some (ii_ R), none, none, none]) (by decide +kernel) (Nat.le_of_ble_eq_true rfl) rfl rfl ?_
  refine pw_ldcw (z := 2147483647) (pc := 0) dX11_spreadOf_0 kX11_387 rfl ?_
  refine pw_istore_n (lv1 := [some (rr_ G a), some (ii_ fr), some (ii_ R), some (ii_ 2147483647), none, none]) (pc := 3) dX11_spreadOf_3 rfl (by decide) rfl rfl ?_
  refine pw_ldcw (z := -2147483648) (pc := 4) dX11_spreadOf_4 kX11_388 rfl ?_
  refine pw_istore (lv1 := [some (rr_ G a), some (ii_ fr), some (ii_ R), some (ii_ 2147483647), some (ii_ (-2147483648)), none]) (pc := 7) dX11_spreadOf_7 (by decide) rfl rfl ?_
  refine pw_iload_n (z := fr) (pc := 9) dX11_spreadOf_9 rfl rfl ?_
  refine pw_istore (lv1 := [some (rr_ G a), some (ii_ fr), some (ii_ R), some (ii_ 2147483647), some (ii_ (-2147483648)), some (ii_ fr)]) (pc := 10) dX11_spreadOf_10 (by decide) rfl rfl ?_
  have L12 : ∀ (nn : Nat) (lo : Int) (hi : Int) (j : Int), (fr ≤ j ∧ j ≤ fr + R) → (ir_ lo ∧ ir_ hi) → (spi_ (h a) fr j lo hi) → ((fr + R - j + 1 : Int) ≤ nn) → PW G RX11 cX11_spreadOf 6 (some .int) (rm_ 2) 0 0 (zm_ G (qi_ (fun z h' => h = h' ∧ z = spr_ (h a) fr R))) 12 [some (rr_ G a), some (ii_ fr), some (ii_ R), some (ii_ lo), some (ii_ hi), some (ii_ j)] [] h := by
    intro nn
    induction nn with
    | zero => intro lo hi j ak ar al ams; exfalso; omega
    | succ nn ih12 =>
      intro lo hi j ak ar al ams
      refine pw_iload (z := j) (pc := 12) dX11_spreadOf_12 rfl ?_
      refine pw_iload_n (z := fr) (pc := 14) dX11_spreadOf_14 rfl rfl ?_
      refine pw_iload_n (z := R) (pc := 15) dX11_spreadOf_15 rfl rfl ?_
      refine pw_iadd (pc := 16) dX11_spreadOf_16 ?_
      refine pw_icmp_ge (t := 53) (pc := 17) dX11_spreadOf_17 (by decide) (by first | omega) (by first | omega) (fun c17 => ?_) (fun c17 => ?_)
      · have lh : lo ≤ hi := by
          rcases al with q | q
          · omega
          · rw [q.2.1, q.2.2]; exact mn_mx _
        have vb : (-10000000 ≤ lo ∧ lo ≤ 10000000) ∧ (-10000000 ≤ hi ∧ hi ≤ 10000000) := by
          rcases al with q | q
          · omega
          · rw [q.2.1, q.2.2]; exact ⟨mn_b _ (fun r r0 r1 => hb _ (by omega) (by omega)), mx_b _ (fun r r0 r1 => hb _ (by omega) (by omega))⟩
        refine pw_iload_n (z := lo) (pc := 53) dX11_spreadOf_53 rfl rfl ?_
        refine pw_iload (z := hi) (pc := 54) dX11_spreadOf_54 rfl ?_
        refine pw_icmp_le (t := 63) (pc := 56) dX11_spreadOf_56 (by decide) (by first | omega) (by first | omega) (fun c56 => ?_) (fun c56 => ?_)
        · refine pw_iload (z := hi) (pc := 63) dX11_spreadOf_63 rfl ?_
          refine pw_iload_n (z := lo) (pc := 65) dX11_spreadOf_65 rfl rfl ?_
          refine pw_isub (pc := 66) dX11_spreadOf_66 ?_
          exact pw_iret (pc := 67) dX11_spreadOf_67 (by first | omega) (⟨rfl, by
                rcases al with q | q
                · omega
                · unfold spr_; rw [q.2.1, q.2.2, show j - fr = R by omega]⟩)
        · exfalso; omega
      · refine pw_iload (z := j) (pc := 20) dX11_spreadOf_20 rfl ?_
        refine pw_aload_n (z := a) (pc := 22) dX11_spreadOf_22 rfl rfl ?_
        refine pw_alen (pc := 23) dX11_spreadOf_23 (hC _ (by omega)) _ k_a (by decide) n l_a ?_
        refine pw_icmp_ge (t := 53) (pc := 24) dX11_spreadOf_24 (by decide) (by first | omega) (by first | omega) (fun c24 => ?_) (fun c24 => ?_)
        · have lh : lo ≤ hi := by
            rcases al with q | q
            · omega
            · rw [q.2.1, q.2.2]; exact mn_mx _
          have vb : (-10000000 ≤ lo ∧ lo ≤ 10000000) ∧ (-10000000 ≤ hi ∧ hi ≤ 10000000) := by
            rcases al with q | q
            · omega
            · rw [q.2.1, q.2.2]; exact ⟨mn_b _ (fun r r0 r1 => hb _ (by omega) (by omega)), mx_b _ (fun r r0 r1 => hb _ (by omega) (by omega))⟩
          refine pw_iload_n (z := lo) (pc := 53) dX11_spreadOf_53 rfl rfl ?_
          refine pw_iload (z := hi) (pc := 54) dX11_spreadOf_54 rfl ?_
          refine pw_icmp_le (t := 63) (pc := 56) dX11_spreadOf_56 (by decide) (by first | omega) (by first | omega) (fun c56 => ?_) (fun c56 => ?_)
          · refine pw_iload (z := hi) (pc := 63) dX11_spreadOf_63 rfl ?_
            refine pw_iload_n (z := lo) (pc := 65) dX11_spreadOf_65 rfl rfl ?_
            refine pw_isub (pc := 66) dX11_spreadOf_66 ?_
            exact pw_iret (pc := 67) dX11_spreadOf_67 (by first | omega) (⟨rfl, by
                  rcases al with q | q
                  · omega
                  · unfold spr_; rw [q.2.1, q.2.2, show j - fr = R by omega]⟩)
          · exfalso; omega
        · have hbj := hb j (by omega) (by omega)
          refine pw_iload_n (z := lo) (pc := 27) dX11_spreadOf_27 rfl rfl ?_
          refine pw_aload_n (z := a) (pc := 28) dX11_spreadOf_28 rfl rfl ?_
          refine pw_iload (z := j) (pc := 29) dX11_spreadOf_29 rfl ?_
          refine pw_iald (pc := 31) dX11_spreadOf_31 (hC _ (by omega)) k_a n l_a (by first | omega) (by first | omega) (by first | omega) (fun r31 => ?_)
          refine pw_mmin (pc := 32) dX11_spreadOf_32 lX11_362 (by first | omega) (by first | omega) (by decide) ⟨Nat.zero_le _, Nat.zero_le _⟩ (Nat.le_of_ble_eq_true rfl) (fun z32 r32 w32 => ?_)
          refine pw_istore_n (lv1 := [some (rr_ G a), some (ii_ fr), some (ii_ R), some (ii_ z32), some (ii_ hi), some (ii_ j)]) (pc := 35) dX11_spreadOf_35 rfl (by decide) rfl rfl ?_
          refine pw_iload (z := hi) (pc := 36) dX11_spreadOf_36 rfl ?_
          refine pw_aload_n (z := a) (pc := 38) dX11_spreadOf_38 rfl rfl ?_
          refine pw_iload (z := j) (pc := 39) dX11_spreadOf_39 rfl ?_
          refine pw_iald (pc := 41) dX11_spreadOf_41 (hC _ (by omega)) k_a n l_a (by first | omega) (by first | omega) (by first | omega) (fun r41 => ?_)
          refine pw_mmax (pc := 42) dX11_spreadOf_42 lX11_389 (by first | omega) (by first | omega) (by decide) ⟨Nat.zero_le _, Nat.zero_le _⟩ (Nat.le_of_ble_eq_true rfl) (fun z42 r42 w42 => ?_)
          refine pw_istore (lv1 := [some (rr_ G a), some (ii_ fr), some (ii_ R), some (ii_ z32), some (ii_ z42), some (ii_ j)]) (pc := 45) dX11_spreadOf_45 (by decide) rfl rfl ?_
          refine pw_iinc (z := j) (lv1 := [some (rr_ G a), some (ii_ fr), some (ii_ R), some (ii_ z32), some (ii_ z42), some (ii_ (j + 1))]) (pc := 47) dX11_spreadOf_47 rfl (by decide) rfl rfl ?_
          refine pw_goto (t := 12) (pc := 50) dX11_spreadOf_50 (by decide) ?_
          exact ih12 _ _ _ (by omega) (⟨by omega, by omega⟩) (spi_s al w32 w42 hbj) (by omega)
  exact L12 _ _ _ _ (by omega) (by constructor <;> (constructor <;> decide)) (Or.inl ⟨rfl, rfl, rfl⟩) (Int.self_le_toNat _)

