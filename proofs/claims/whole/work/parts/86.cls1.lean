def okC_ (G : GT_) : Prop := ∀ i, i < 173 → i ∈ gi_ G
abbrev is6_ (o : Nat) : Prop := o = 4 ∨ o = 20
theorem kd6_0 {o : Nat} (ho : is6_ o) : kd_ o = 16 := by rcases ho with rfl | rfl <;> decide +kernel
theorem kd6_1 {o : Nat} (ho : is6_ o) : kd_ (o + 1) = 0 := by rcases ho with rfl | rfl <;> decide +kernel
theorem ln6_1 {o : Nat} (ho : is6_ o) : ln_ (o + 1) = 20 := by rcases ho with rfl | rfl <;> decide +kernel
theorem kd6_2 {o : Nat} (ho : is6_ o) : kd_ (o + 2) = 1 := by rcases ho with rfl | rfl <;> decide +kernel
theorem ln6_2 {o : Nat} (ho : is6_ o) : ln_ (o + 2) = 8 := by rcases ho with rfl | rfl <;> decide +kernel
theorem kd6_3 {o : Nat} (ho : is6_ o) : kd_ (o + 3) = 0 := by rcases ho with rfl | rfl <;> decide +kernel
theorem ln6_3 {o : Nat} (ho : is6_ o) : ln_ (o + 3) = 4 := by rcases ho with rfl | rfl <;> decide +kernel
theorem kd6_4 {o : Nat} (ho : is6_ o) : kd_ (o + 4) = 0 := by rcases ho with rfl | rfl <;> decide +kernel
theorem ln6_4 {o : Nat} (ho : is6_ o) : ln_ (o + 4) = 4 := by rcases ho with rfl | rfl <;> decide +kernel
theorem kd6_5 {o : Nat} (ho : is6_ o) : kd_ (o + 5) = 0 := by rcases ho with rfl | rfl <;> decide +kernel
theorem ln6_5 {o : Nat} (ho : is6_ o) : ln_ (o + 5) = 4 := by rcases ho with rfl | rfl <;> decide +kernel
theorem kd6_6 {o : Nat} (ho : is6_ o) : kd_ (o + 6) = 0 := by rcases ho with rfl | rfl <;> decide +kernel
theorem ln6_6 {o : Nat} (ho : is6_ o) : ln_ (o + 6) = 4 := by rcases ho with rfl | rfl <;> decide +kernel
theorem kd6_7 {o : Nat} (ho : is6_ o) : kd_ (o + 7) = 0 := by rcases ho with rfl | rfl <;> decide +kernel
theorem ln6_7 {o : Nat} (ho : is6_ o) : ln_ (o + 7) = 4 := by rcases ho with rfl | rfl <;> decide +kernel
theorem kd6_8 {o : Nat} (ho : is6_ o) : kd_ (o + 8) = 12 := by rcases ho with rfl | rfl <;> decide +kernel
theorem kd6_9 {o : Nat} (ho : is6_ o) : kd_ (o + 9) = 0 := by rcases ho with rfl | rfl <;> decide +kernel
theorem ln6_9 {o : Nat} (ho : is6_ o) : ln_ (o + 9) = 1000 := by rcases ho with rfl | rfl <;> decide +kernel
theorem kd6_10 {o : Nat} (ho : is6_ o) : kd_ (o + 10) = 0 := by rcases ho with rfl | rfl <;> decide +kernel
theorem ln6_10 {o : Nat} (ho : is6_ o) : ln_ (o + 10) = 32 := by rcases ho with rfl | rfl <;> decide +kernel
theorem kd6_11 {o : Nat} (ho : is6_ o) : kd_ (o + 11) = 0 := by rcases ho with rfl | rfl <;> decide +kernel
theorem ln6_11 {o : Nat} (ho : is6_ o) : ln_ (o + 11) = 5 := by rcases ho with rfl | rfl <;> decide +kernel
theorem kd6_12 {o : Nat} (ho : is6_ o) : kd_ (o + 12) = 0 := by rcases ho with rfl | rfl <;> decide +kernel
theorem ln6_12 {o : Nat} (ho : is6_ o) : ln_ (o + 12) = 5 := by rcases ho with rfl | rfl <;> decide +kernel
theorem kd6_13 {o : Nat} (ho : is6_ o) : kd_ (o + 13) = 0 := by rcases ho with rfl | rfl <;> decide +kernel
theorem ln6_13 {o : Nat} (ho : is6_ o) : ln_ (o + 13) = 5 := by rcases ho with rfl | rfl <;> decide +kernel
theorem kd6_14 {o : Nat} (ho : is6_ o) : kd_ (o + 14) = 0 := by rcases ho with rfl | rfl <;> decide +kernel
theorem ln6_14 {o : Nat} (ho : is6_ o) : ln_ (o + 14) = 24 := by rcases ho with rfl | rfl <;> decide +kernel
theorem kd6_15 {o : Nat} (ho : is6_ o) : kd_ (o + 15) = 0 := by rcases ho with rfl | rfl <;> decide +kernel
theorem ln6_15 {o : Nat} (ho : is6_ o) : ln_ (o + 15) = 192 := by rcases ho with rfl | rfl <;> decide +kernel
abbrev is10_ (o : Nat) : Prop := o = 36 ∨ o = 39
theorem kd10_0 {o : Nat} (ho : is10_ o) : kd_ o = 20 := by rcases ho with rfl | rfl <;> decide +kernel
theorem kd10_1 {o : Nat} (ho : is10_ o) : kd_ (o + 1) = 0 := by rcases ho with rfl | rfl <;> decide +kernel
theorem ln10_1 {o : Nat} (ho : is10_ o) : ln_ (o + 1) = 20 := by rcases ho with rfl | rfl <;> decide +kernel
theorem kd10_2 {o : Nat} (ho : is10_ o) : kd_ (o + 2) = 0 := by rcases ho with rfl | rfl <;> decide +kernel
theorem ln10_2 {o : Nat} (ho : is10_ o) : ln_ (o + 2) = 20 := by rcases ho with rfl | rfl <;> decide +kernel
abbrev is7_ (o : Nat) : Prop := (42 ≤ o ∧ o ≤ 143) ∧ kd_ o = 17 ∧ kd_ (o + 1) = 0 ∧ ln_ (o + 1) = 4 ∧ kd_ (o + 2) = 0 ∧ ln_ (o + 2) = 4 ∧ kd_ (o + 3) = 0 ∧ ln_ (o + 3) = 4
theorem kd7_0 {o : Nat} (ho : is7_ o) : kd_ o = 17 := ho.2.1
theorem kd7_1 {o : Nat} (ho : is7_ o) : kd_ (o + 1) = 0 := ho.2.2.1
theorem ln7_1 {o : Nat} (ho : is7_ o) : ln_ (o + 1) = 4 := ho.2.2.2.1
theorem kd7_2 {o : Nat} (ho : is7_ o) : kd_ (o + 2) = 0 := ho.2.2.2.2.1
theorem ln7_2 {o : Nat} (ho : is7_ o) : ln_ (o + 2) = 4 := ho.2.2.2.2.2.1
theorem kd7_3 {o : Nat} (ho : is7_ o) : kd_ (o + 3) = 0 := ho.2.2.2.2.2.2.1
theorem ln7_3 {o : Nat} (ho : is7_ o) : ln_ (o + 3) = 4 := ho.2.2.2.2.2.2.2
abbrev is3_ (o : Nat) : Prop := (42 ≤ o ∧ o ≤ 143) ∧ kd_ o = 13 ∧ kd_ (o + 1) = 17 ∧ kd_ (o + 2) = 0 ∧ ln_ (o + 2) = 4 ∧ kd_ (o + 3) = 0 ∧ ln_ (o + 3) = 4 ∧ kd_ (o + 4) = 0 ∧ ln_ (o + 4) = 4 ∧ kd_ (o + 5) = 0 ∧ ln_ (o + 5) = 16 ∧ kd_ (o + 6) = 0 ∧ ln_ (o + 6) = 40
theorem kd3_0 {o : Nat} (ho : is3_ o) : kd_ o = 13 := ho.2.1
theorem kd3_1 {o : Nat} (ho : is3_ o) : kd_ (o + 1) = 17 := ho.2.2.1
theorem kd3_2 {o : Nat} (ho : is3_ o) : kd_ (o + 2) = 0 := ho.2.2.2.1
theorem ln3_2 {o : Nat} (ho : is3_ o) : ln_ (o + 2) = 4 := ho.2.2.2.2.1
theorem kd3_3 {o : Nat} (ho : is3_ o) : kd_ (o + 3) = 0 := ho.2.2.2.2.2.1
theorem ln3_3 {o : Nat} (ho : is3_ o) : ln_ (o + 3) = 4 := ho.2.2.2.2.2.2.1
theorem kd3_4 {o : Nat} (ho : is3_ o) : kd_ (o + 4) = 0 := ho.2.2.2.2.2.2.2.1
theorem ln3_4 {o : Nat} (ho : is3_ o) : ln_ (o + 4) = 4 := ho.2.2.2.2.2.2.2.2.1
theorem kd3_5 {o : Nat} (ho : is3_ o) : kd_ (o + 5) = 0 := ho.2.2.2.2.2.2.2.2.2.1
theorem ln3_5 {o : Nat} (ho : is3_ o) : ln_ (o + 5) = 16 := ho.2.2.2.2.2.2.2.2.2.2.1
theorem kd3_6 {o : Nat} (ho : is3_ o) : kd_ (o + 6) = 0 := ho.2.2.2.2.2.2.2.2.2.2.2.1
theorem ln3_6 {o : Nat} (ho : is3_ o) : ln_ (o + 6) = 40 := ho.2.2.2.2.2.2.2.2.2.2.2.2
theorem is7_all : ∀ i : Nat, i < 16 → is7_ (79 + 4 * i) := by intro i hi; exact (show ∀ i : Fin 16, is7_ (79 + 4 * i.val) by decide +kernel) ⟨i, hi⟩
theorem is3_all : ∀ i : Nat, i < 4 → is3_ (50 + 7 * i) ∧ is7_ (50 + 7 * i + 1) := by intro i hi; exact (show ∀ i : Fin 4, is3_ (50 + 7 * i.val) ∧ is7_ (50 + 7 * i.val + 1) by decide +kernel) ⟨i, hi⟩
theorem is3_now : is3_ 42 ∧ is7_ 43 ∧ is7_ 143 := by decide +kernel

theorem sc_fill (h : PH_) (a : Nat) (v i : Int) (f : Int → Int) (hi : 0 ≤ i) : up_ (sc_ h a (fun x => if 0 ≤ x ∧ x < i then v else f x)) a i v = sc_ h a (fun x => if 0 ≤ x ∧ x < i + 1 then v else f x) := by
  funext j x
  rw [up_ap]
  unfold sc_
  by_cases e : j = a
  · by_cases e2 : x = i
    · simp [e, e2, hi, show i < i + 1 by omega]
    · simp only [e, e2, and_false, if_false, if_true]
      by_cases e3 : 0 ≤ x ∧ x < i
      · rw [if_pos e3, if_pos (by omega)]
      · rw [if_neg e3, if_neg (by omega)]
  · simp [e]

set_option maxHeartbeats 4000000 in
set_option maxRecDepth 100000 in
theorem j_fill {G : GT_} (hC : okC_ G) (h : PH_) (a n : Nat) (v : Int) (h1 : ir_ v) (k_a : kd_ a = 0) (l_a : ln_ a = n) (ha : a < 173) (hn : n ≤ 2000) : PC G yJ7_fill_53178 cJ7_fill_53178 4 none 1 [rr_ G a, ii_ v] h (qv_ (fun h' => h' = sc_ h a (fun x => if 0 ≤ x ∧ x < (n : Int) then v else h a x))) := by
  refine PC.of (lv := [some (rr_ G a), some (ii_ v), none, none]) (by decide +kernel) (Nat.le_of_ble_eq_true rfl) rfl rfl ?_
  refine pw_iconst (pc := 0) dJ7_fill_53178_0 ?_
  refine pw_istore_n (lv1 := [some (rr_ G a), some (ii_ v), some (ii_ 0), none]) (pc := 1) dJ7_fill_53178_1 rfl (by decide) rfl rfl ?_
  refine pw_aload_n (z := a) (pc := 2) dJ7_fill_53178_2 rfl rfl ?_
  refine pw_alen (pc := 3) dJ7_fill_53178_3 (hC _ (by omega)) _ k_a (by decide) n l_a ?_
  refine pw_istore_n (lv1 := [some (rr_ G a), some (ii_ v), some (ii_ 0), some (ii_ n)]) (pc := 4) dJ7_fill_53178_4 rfl (by decide) rfl rfl ?_
  have L5 : ∀ (nn : Nat) (i : Int) (hq : PH_), (0 ≤ i ∧ i ≤ n) → (hq = sc_ h a (fun x => if 0 ≤ x ∧ x < i then v else h a x)) → (((n : Int) + 1 - i : Int) ≤ nn) → PW G RJ7 cJ7_fill_53178 4 none (rm_ 1) 0 0 (zm_ G (qv_ (fun h' => h' = sc_ h a (fun x => if 0 ≤ x ∧ x < (n : Int) then v else h a x)))) 5 [some (rr_ G a), some (ii_ v), some (ii_ i), some (ii_ n)] [] hq := by
    intro nn
    induction nn with
    | zero => intro i hq hi ad ams; exfalso; omega
    | succ nn ih5 =>
      intro i hq hi ad ams
      refine pw_iload_n (z := i) (pc := 5) dJ7_fill_53178_5 rfl rfl ?_
      refine pw_iload_n (z := n) (pc := 6) dJ7_fill_53178_6 rfl rfl ?_
      refine pw_icmp_ge (t := 20) (pc := 7) dJ7_fill_53178_7 (by decide) (by first | omega) (by first | omega) (fun c7 => ?_) (fun c7 => ?_)
      · exact pw_vret (pc := 20) dJ7_fill_53178_20 (by rw [ad, show i = (n : Int) by omega])
      · refine pw_aload_n (z := a) (pc := 10) dJ7_fill_53178_10 rfl rfl ?_
        refine pw_iload_n (z := i) (pc := 11) dJ7_fill_53178_11 rfl rfl ?_
        refine pw_iload_n (z := v) (pc := 12) dJ7_fill_53178_12 rfl rfl ?_
        refine pw_iast (pc := 13) dJ7_fill_53178_13 (hC _ (by omega)) k_a n l_a (by first | omega) (by first | omega) (by first | omega) (by first | omega) ?_
        obtain ⟨g13, e13⟩ : ∃ x, x = up_ hq a i v := ⟨_, rfl⟩
        refine pw_heq e13 ?_
        refine pw_iinc (z := i) (lv1 := [some (rr_ G a), some (ii_ v), some (ii_ (i + 1)), some (ii_ n)]) (pc := 14) dJ7_fill_53178_14 rfl (by decide) rfl rfl ?_
        refine pw_goto (t := 5) (pc := 17) dJ7_fill_53178_17 (by decide) ?_
        exact ih5 _ _ (by omega) (by rw [e13, ad]; exact sc_fill _ _ _ _ _ hi.1) (by omega)
  exact L5 _ _ _ (by omega) (by funext j x; unfold sc_; by_cases e : j = a <;> simp [e]; intro u w; omega) (Int.self_le_toNat _)

