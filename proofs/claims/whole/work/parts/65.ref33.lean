set_option maxHeartbeats 4000000 in
set_option maxRecDepth 100000 in
theorem c_products {G : GT_} (hM : okM_ G) (h : PH_) (tk : Nat → TK_) (N f m d : Nat) (hd : d ≤ 5) (IH : kpart_ G tk N f m d) (a : Nat) (H : EX_ tk N f m h a) : PC G yX12_products cX12_products 2 none (4 + 5 * d) [rr_ G mo_, ii_ (5 - (d : Int))] h (qv_ (fun h' => XP_ N (lv3_ tk (prt_ tk f m d) a) h a h')) := by
  have EP := EX_pl H
  refine PC.of (lv := [some (rr_ G mo_), some (ii_ (5 - (d : Int)))]) (by decide +kernel) (Nat.le_of_ble_eq_true rfl) rfl rfl ?_
  refine pw_aload_n (z := mo_) (pc := 0) dX12_products_0 rfl rfl ?_
  refine pw_iload_n (z := (5 - (d : Int))) (pc := 1) dX12_products_1 rfl rfl ?_
  refine pw_callV (c := 12) (o := mo_) (As := [ii_ (5 - (d : Int))]) (rest := []) (pc := 2) dX12_products_2 (IH h a H) lX12_349 mX12_takePart vX12_takePart (im_mo_ hM) k_mo_ rfl rfl rfl (by constructor <;> simp only [rm_] <;> omega) ⟨Nat.zero_le _, Nat.zero_le _⟩ (Nat.le_of_ble_eq_true rfl) (k_v (fun h2 q2 => ?_))
  have li := LI_in (tk := tk) (op := op3_) EP.2.2.1 q2
  have l7 := LI_7 H li
  have L5 : ∀ (nn : Nat) (mm : Int) (hq : PH_), (LI_ tk N (prt_ tk f m d) op3_ h a (lv3_ tk (prt_ tk f m d) a) hq) → (1 ≤ mm ∧ (hq mo_ 8 = 0 → (N : Int) - hq mo_ 7 + 2 ≤ mm)) → ((mm : Int) ≤ nn) → PW G RX12 cX12_products 2 none (rm_ (4 + 5 * d)) 0 0 (zm_ G (qv_ (fun h' => XP_ N (lv3_ tk (prt_ tk f m d) a) h a h'))) 5 [some (rr_ G mo_), some (ii_ (5 - (d : Int)))] [] hq := by
    intro nn
    induction nn with
    | zero => intro mm hq ad am ams; exfalso; omega
    | succ nn ih5 =>
      intro mm hq ad am ams
      have l7 := LI_7 H ad
      refine pw_aload_n (z := mo_) (pc := 5) dX12_products_5 rfl rfl ?_
      refine pw_bipush (pc := 6) dX12_products_6 rfl ?_
      refine pw_callV (c := 12) (o := mo_) (As := [ii_ 42]) (rest := []) (pc := 8) dX12_products_8 (c_hasSign hM hq (by first | omega) 42 (by first | omega)) lX12_343 mX12_hasSign vX12_hasSign (im_mo_ hM) k_mo_ rfl rfl rfl (by constructor <;> simp only [rm_] <;> omega) ⟨Nat.zero_le _, Nat.zero_le _⟩ (Nat.le_of_ble_eq_true rfl) (k_i (fun z8 h8 y8 q8 => ?_))
      obtain ⟨rfl, p8⟩ | ⟨rfl, p8⟩ := q8
      · obtain ⟨l, b, fu, g1, g2, g3, g4, g5, g6, g7, g8, g9⟩ := LI_go (c := 6) H ad p8.1.1 (fun b R => by
          have s := ((RS_sg R).mp p8.1).2
          exact ⟨if_t s, by rw [s.1]; decide⟩)
        rw [← p8.2] at g2 g3
        refine pw_if_eq (t := 29) (pc := 11) dX12_products_11 (by decide) (by first | omega) (fun c11 => absurd c11 (by decide)) (fun _ => ?_)
        refine pw_aload_n (z := mo_) (pc := 14) dX12_products_14 rfl rfl ?_
        refine pw_iload_n (z := (5 - (d : Int))) (pc := 15) dX12_products_15 rfl rfl ?_
        refine pw_callV (c := 12) (o := mo_) (As := [ii_ (5 - (d : Int))]) (rest := []) (pc := 16) dX12_products_16 (IH h8 (b + 1) g3) lX12_349 mX12_takePart vX12_takePart (im_mo_ hM) k_mo_ rfl rfl rfl (by constructor <;> simp only [rm_] <;> omega) ⟨Nat.zero_le _, Nat.zero_le _⟩ (Nat.le_of_ble_eq_true rfl) (k_v (fun h16 q16 => ?_))
        have jb := LI_back H g2 g4 g5 g6 g7 g8 g9 q16
        refine pw_aload_n (z := mo_) (pc := 19) dX12_products_19 rfl rfl ?_
        refine pw_bipush (pc := 20) dX12_products_20 rfl ?_
        refine pw_iconst (pc := 22) dX12_products_22 ?_
        refine pw_callV (c := 12) (o := mo_) (As := [ii_ 6, ii_ 0]) (rest := []) (pc := 23) dX12_products_23 (c_emit hM h16 jb.1 6 0 (by first | omega) (by first | omega)) lX12_324 mX12_emit vX12_emit (im_mo_ hM) k_mo_ rfl rfl rfl (by constructor <;> simp only [rm_] <;> omega) ⟨Nat.zero_le _, Nat.zero_le _⟩ (Nat.le_of_ble_eq_true rfl) (k_v (fun h23 q23 => ?_))
        have q24 : h23 = em1_ h16 (6, 0) := q23
        have j3 := jb.2.2
        rw [← q24] at j3
        have am2 := am.2 p8.1.1
        refine pw_goto (t := 5) (pc := 26) dX12_products_26 (by decide) ?_
        exact ih5 (mm - 1) _ (by rw [q24]; exact jb.2.1) (by omega) (by omega)
      · refine pw_if_eq (t := 29) (pc := 11) dX12_products_11 (by decide) (by first | omega) (fun _ => ?_) (fun c11 => absurd c11 (by decide))
        exact pw_vret (pc := 29) dX12_products_29 (by rw [show h8 = hq by rw [p8.2, up_self]]; exact LI_out H ad (fun b R z => if_f (fun u => p8.1 ((RS_sg R).mpr ⟨z, u⟩))))
  exact L5 _ ((N : Int) + 2) _ (li) (by omega) (Int.self_le_toNat _)

set_option maxHeartbeats 4000000 in
set_option maxRecDepth 100000 in
theorem c_sums {G : GT_} (hM : okM_ G) (h : PH_) (tk : Nat → TK_) (N f m d : Nat) (hd : d ≤ 5) (IH : kprod_ G tk N f m d) (a : Nat) (H : EX_ tk N f m h a) : PC G yX12_sums cX12_sums 3 none (5 + 5 * d) [rr_ G mo_, ii_ (5 - (d : Int))] h (qv_ (fun h' => XP_ N (lv2_ tk (prt_ tk f m d) a) h a h')) := by
  have EP := EX_pl H
  refine PC.of (lv := [some (rr_ G mo_), some (ii_ (5 - (d : Int))), none]) (by decide +kernel) (Nat.le_of_ble_eq_true rfl) rfl rfl ?_
  refine pw_aload_n (z := mo_) (pc := 0) dX12_sums_0 rfl rfl ?_
  refine pw_iload_n (z := (5 - (d : Int))) (pc := 1) dX12_sums_1 rfl rfl ?_
  refine pw_callV (c := 12) (o := mo_) (As := [ii_ (5 - (d : Int))]) (rest := []) (pc := 2) dX12_sums_2 (IH h a H) lX12_346 mX12_products vX12_products (im_mo_ hM) k_mo_ rfl rfl rfl (by constructor <;> simp only [rm_] <;> omega) ⟨Nat.zero_le _, Nat.zero_le _⟩ (Nat.le_of_ble_eq_true rfl) (k_v (fun h2 q2 => ?_))
  have li := LI_in (tk := tk) (op := op2_) EP.2.2.1 q2
  have l7 := LI_7 H li
  have L5 : ∀ (nn : Nat) (mm : Int) (hq : PH_), (LI_ tk N (lv3_ tk (prt_ tk f m d)) op2_ h a (lv2_ tk (prt_ tk f m d) a) hq) → (1 ≤ mm ∧ (hq mo_ 8 = 0 → (N : Int) - hq mo_ 7 + 2 ≤ mm)) → ((mm : Int) ≤ nn) → PW G RX12 cX12_sums 3 none (rm_ (5 + 5 * d)) 0 0 (zm_ G (qv_ (fun h' => XP_ N (lv2_ tk (prt_ tk f m d) a) h a h'))) 5 [some (rr_ G mo_), some (ii_ (5 - (d : Int))), none] [] hq := by
    intro nn
    induction nn with
    | zero => intro mm hq ad am ams; exfalso; omega
    | succ nn ih5 =>
      intro mm hq ad am ams
      have l7 := LI_7 H ad
      have J23 : (sgn_ hq 43 ∨ sgn_ hq 45) → PW G RX12 cX12_sums 3 none (rm_ (5 + 5 * d)) 0 0 (zm_ G (qv_ (fun h' => XP_ N (lv2_ tk (prt_ tk f m d) a) h a h'))) 23 [some (rr_ G mo_), some (ii_ (5 - (d : Int))), none] [] hq := by
        intro hs
        have f8 : hq mo_ 8 = 0 := by rcases hs with s | s <;> exact s.1
        refine pw_aload_n (z := mo_) (pc := 23) dX12_sums_23 rfl rfl ?_
        refine pw_bipush (pc := 24) dX12_sums_24 rfl ?_
        refine pw_callV (c := 12) (o := mo_) (As := [ii_ 43]) (rest := []) (pc := 26) dX12_sums_26 (c_isSign hM hq (by first | omega) 43 (by first | omega)) lX12_221 mX12_isSign vX12_isSign (im_mo_ hM) k_mo_ rfl rfl rfl (by constructor <;> simp only [rm_] <;> omega) ⟨Nat.zero_le _, Nat.zero_le _⟩ (Nat.le_of_ble_eq_true rfl) (k_i (fun z26 h26 y26 q26 => ?_))
        obtain ⟨rfl, w26⟩ := q26
        obtain ⟨c, hc1, hc2⟩ : ∃ c : Int, (z26 = 1 ∧ c = 4 ∨ z26 = 0 ∧ c = 5) ∧ ∀ b, RS_ tk N hq b → op2_ (tk b) = some c ∧ (tk b).1 ≠ 0 := by
          rcases w26 with w | w
          · refine ⟨4, Or.inl ⟨w.1, rfl⟩, fun b R => ?_⟩
            have s := ((RS_sg R).mp w.2).2
            exact ⟨if_t s, by rw [s.1]; decide⟩
          · refine ⟨5, Or.inr ⟨w.1, rfl⟩, fun b R => ?_⟩
            have s := ((RS_sg R).mp (hs.resolve_left w.2)).2
            exact ⟨by show if_ _ _ _ = _; rw [if_f (fun u => w.2 ((RS_sg R).mpr ⟨f8, u⟩)), if_t s], by rw [s.1]; decide⟩
        refine pw_istore_n (lv1 := [some (rr_ G mo_), some (ii_ (5 - (d : Int))), some (ii_ z26)]) (pc := 29) dX12_sums_29 rfl (by decide) rfl rfl ?_
        have z26r : z26 = 0 ∨ z26 = 1 := by omega
        refine pw_aload_n (z := mo_) (pc := 30) dX12_sums_30 rfl rfl ?_
        refine pw_dup (pc := 31) dX12_sums_31 rfl ?_
        refine pw_gI (x := 7) (pc := 32) dX12_sums_32 fX12_215 (im_mo_ hM) k_mo_ rfl rfl (fun r32 => ?_)
        refine pw_iconst (pc := 35) dX12_sums_35 ?_
        refine pw_iadd (pc := 36) dX12_sums_36 ?_
        refine pw_pI (x := 7) (pc := 37) dX12_sums_37 fX12_215 (im_mo_ hM) k_mo_ rfl rfl (by first | omega) ?_
        obtain ⟨g37, e37⟩ : ∃ x, x = up_ hq mo_ 7 ((hq mo_ 7) + 1) := ⟨_, rfl⟩
        refine pw_heq e37 ?_
        obtain ⟨l, b, fu, g1, g2, g3, g4, g5, g6, g7, g8, g9⟩ := LI_go (c := c) H ad f8 hc2
        rw [← e37] at g2 g3
        refine pw_aload_n (z := mo_) (pc := 40) dX12_sums_40 rfl rfl ?_
        refine pw_iload_n (z := (5 - (d : Int))) (pc := 41) dX12_sums_41 rfl rfl ?_
        refine pw_callV (c := 12) (o := mo_) (As := [ii_ (5 - (d : Int))]) (rest := []) (pc := 42) dX12_sums_42 (IH g37 (b + 1) g3) lX12_346 mX12_products vX12_products (im_mo_ hM) k_mo_ rfl rfl rfl (by constructor <;> simp only [rm_] <;> omega) ⟨Nat.zero_le _, Nat.zero_le _⟩ (Nat.le_of_ble_eq_true rfl) (k_v (fun h42 q42 => ?_))
        have jb := LI_back H g2 g4 g5 g6 g7 g8 g9 q42
        refine pw_aload_n (z := mo_) (pc := 45) dX12_sums_45 rfl rfl ?_
        have J55 : ∀ (v : Int), (v = c) → PW G RX12 cX12_sums 3 none (rm_ (5 + 5 * d)) 0 0 (zm_ G (qv_ (fun h' => XP_ N (lv2_ tk (prt_ tk f m d) a) h a h'))) 55 [some (rr_ G mo_), some (ii_ (5 - (d : Int))), some (ii_ z26)] [ii_ v, rr_ G mo_] h42 := by
          intro v hv
          refine pw_iconst (pc := 55) dX12_sums_55 ?_
          refine pw_callV (c := 12) (o := mo_) (As := [ii_ v, ii_ 0]) (rest := []) (pc := 56) dX12_sums_56 (c_emit hM h42 jb.1 (v) 0 (by first | omega) (by first | omega)) lX12_324 mX12_emit vX12_emit (im_mo_ hM) k_mo_ rfl rfl rfl (by constructor <;> simp only [rm_] <;> omega) ⟨Nat.zero_le _, Nat.zero_le _⟩ (Nat.le_of_ble_eq_true rfl) (k_v (fun h56 q56 => ?_))
          have q99 : h56 = em1_ h42 (c, 0) := by rw [q56, hv]; rfl
          have j3 := jb.2.2
          rw [← q99] at j3
          have am2 := am.2 f8
          refine pw_goto (t := 5) (pc := 59) dX12_sums_59 (by decide) ?_
          refine pw_less (lv1 := [some (rr_ G mo_), some (ii_ (5 - (d : Int))), none]) rfl (by intro i v; (match i with | 0 => simp | 1 => simp | 2 => simp | n + 3 => simp)) ?_
          exact ih5 (mm - 1) _ (by rw [q99]; exact jb.2.1) (by omega) (by omega)
        refine pw_iload_n (z := z26) (pc := 46) dX12_sums_46 rfl rfl ?_
        refine pw_if_eq (t := 54) (pc := 47) dX12_sums_47 (by decide) (by first | omega) (fun c47 => ?_) (fun c47 => ?_)
        · refine pw_iconst (pc := 54) dX12_sums_54 ?_
          exact J55 _ (by omega)
        · refine pw_iconst (pc := 50) dX12_sums_50 ?_
          refine pw_goto (t := 55) (pc := 51) dX12_sums_51 (by decide) ?_
          exact J55 _ (by omega)
      refine pw_aload_n (z := mo_) (pc := 5) dX12_sums_5 rfl rfl ?_
      refine pw_bipush (pc := 6) dX12_sums_6 rfl ?_
      refine pw_callV (c := 12) (o := mo_) (As := [ii_ 43]) (rest := []) (pc := 8) dX12_sums_8 (c_isSign hM hq (by first | omega) 43 (by first | omega)) lX12_221 mX12_isSign vX12_isSign (im_mo_ hM) k_mo_ rfl rfl rfl (by constructor <;> simp only [rm_] <;> omega) ⟨Nat.zero_le _, Nat.zero_le _⟩ (Nat.le_of_ble_eq_true rfl) (k_i (fun z8 h8 y8 q8 => ?_))
      obtain ⟨rfl, ⟨rfl, p8⟩ | ⟨rfl, p8⟩⟩ := q8
      · refine pw_if_ne (t := 23) (pc := 11) dX12_sums_11 (by decide) (by first | omega) (fun _ => ?_) (fun c11 => absurd c11 (by decide))
        exact J23  (by first | exact Or.inl p8 | exact Or.inr p17)
      · refine pw_if_ne (t := 23) (pc := 11) dX12_sums_11 (by decide) (by first | omega) (fun c11 => absurd c11 (by decide)) (fun _ => ?_)
        refine pw_aload_n (z := mo_) (pc := 14) dX12_sums_14 rfl rfl ?_
        refine pw_bipush (pc := 15) dX12_sums_15 rfl ?_
        refine pw_callV (c := 12) (o := mo_) (As := [ii_ 45]) (rest := []) (pc := 17) dX12_sums_17 (c_isSign hM hq (by first | omega) 45 (by first | omega)) lX12_221 mX12_isSign vX12_isSign (im_mo_ hM) k_mo_ rfl rfl rfl (by constructor <;> simp only [rm_] <;> omega) ⟨Nat.zero_le _, Nat.zero_le _⟩ (Nat.le_of_ble_eq_true rfl) (k_i (fun z17 h17 y17 q17 => ?_))
        obtain ⟨rfl, ⟨rfl, p17⟩ | ⟨rfl, p17⟩⟩ := q17
        · refine pw_if_eq (t := 62) (pc := 20) dX12_sums_20 (by decide) (by first | omega) (fun c20 => absurd c20 (by decide)) (fun _ => ?_)
          exact J23  (by first | exact Or.inl p8 | exact Or.inr p17)
        · refine pw_if_eq (t := 62) (pc := 20) dX12_sums_20 (by decide) (by first | omega) (fun _ => ?_) (fun c20 => absurd c20 (by decide))
          exact pw_vret (pc := 62) dX12_sums_62 (LI_out H ad (fun b R z => by show if_ _ _ _ = _; rw [if_f (fun u => p8 ((RS_sg R).mpr ⟨z, u⟩)), if_f (fun u => p17 ((RS_sg R).mpr ⟨z, u⟩))]))
  exact L5 _ ((N : Int) + 2) _ (li) (by omega) (Int.self_le_toNat _)

set_option maxHeartbeats 4000000 in
set_option maxRecDepth 100000 in
theorem c_all {G : GT_} (hM : okM_ G) (h : PH_) (tk : Nat → TK_) (N f m d : Nat) (hd : d ≤ 5) (IH : ktest_ G tk N f m d) (a : Nat) (H : EX_ tk N f m h a) : PC G yX12_all cX12_all 3 none (7 + 5 * d) [rr_ G mo_, ii_ (5 - (d : Int))] h (qv_ (fun h' => XP_ N (lv0_ tk (prt_ tk f m d) a) h a h')) := by
  have EP := EX_pl H
  refine PC.of (lv := [some (rr_ G mo_), some (ii_ (5 - (d : Int))), none]) (by decide +kernel) (Nat.le_of_ble_eq_true rfl) rfl rfl ?_
  refine pw_aload_n (z := mo_) (pc := 0) dX12_all_0 rfl rfl ?_
  refine pw_iload_n (z := (5 - (d : Int))) (pc := 1) dX12_all_1 rfl rfl ?_
  refine pw_callV (c := 12) (o := mo_) (As := [ii_ (5 - (d : Int))]) (rest := []) (pc := 2) dX12_all_2 (IH h a H) lX12_337 mX12_test vX12_test (im_mo_ hM) k_mo_ rfl rfl rfl (by constructor <;> simp only [rm_] <;> omega) ⟨Nat.zero_le _, Nat.zero_le _⟩ (Nat.le_of_ble_eq_true rfl) (k_v (fun h2 q2 => ?_))
  have li := LI_in (tk := tk) (op := op0_) EP.2.2.1 q2
  have l7 := LI_7 H li
  have L5 : ∀ (nn : Nat) (mm : Int) (hq : PH_), (LI_ tk N (lv1_ tk (prt_ tk f m d)) op0_ h a (lv0_ tk (prt_ tk f m d) a) hq) → (1 ≤ mm ∧ (hq mo_ 8 = 0 → (N : Int) - hq mo_ 7 + 2 ≤ mm)) → ((mm : Int) ≤ nn) → PW G RX12 cX12_all 3 none (rm_ (7 + 5 * d)) 0 0 (zm_ G (qv_ (fun h' => XP_ N (lv0_ tk (prt_ tk f m d) a) h a h'))) 5 [some (rr_ G mo_), some (ii_ (5 - (d : Int))), none] [] hq := by
    intro nn
    induction nn with
    | zero => intro mm hq ad am ams; exfalso; omega
    | succ nn ih5 =>
      intro mm hq ad am ams
      have l7 := LI_7 H ad
      have J23 : (wrd_ hq 20 ∨ wrd_ hq 21) → PW G RX12 cX12_all 3 none (rm_ (7 + 5 * d)) 0 0 (zm_ G (qv_ (fun h' => XP_ N (lv0_ tk (prt_ tk f m d) a) h a h'))) 23 [some (rr_ G mo_), some (ii_ (5 - (d : Int))), none] [] hq := by
        intro hs
        have f8 : hq mo_ 8 = 0 := by rcases hs with s | s <;> exact s.1
        refine pw_aload_n (z := mo_) (pc := 23) dX12_all_23 rfl rfl ?_
        refine pw_bipush (pc := 24) dX12_all_24 rfl ?_
        refine pw_callV (c := 12) (o := mo_) (As := [ii_ 20]) (rest := []) (pc := 26) dX12_all_26 (c_isWord hM hq (by first | omega) 20 (by first | omega)) lX12_227 mX12_isWord vX12_isWord (im_mo_ hM) k_mo_ rfl rfl rfl (by constructor <;> simp only [rm_] <;> omega) ⟨Nat.zero_le _, Nat.zero_le _⟩ (Nat.le_of_ble_eq_true rfl) (k_i (fun z26 h26 y26 q26 => ?_))
        obtain ⟨rfl, w26⟩ := q26
        obtain ⟨c, hc1, hc2⟩ : ∃ c : Int, (z26 = 1 ∧ c = 9 ∨ z26 = 0 ∧ c = 10) ∧ ∀ b, RS_ tk N hq b → op0_ (tk b) = some c ∧ (tk b).1 ≠ 0 := by
          rcases w26 with w | w
          · refine ⟨9, Or.inl ⟨w.1, rfl⟩, fun b R => ?_⟩
            have s := ((RS_wd R (by decide)).mp w.2).2
            exact ⟨if_t s, by rw [s.1]; decide⟩
          · refine ⟨10, Or.inr ⟨w.1, rfl⟩, fun b R => ?_⟩
            have s := ((RS_wd R (by decide)).mp (hs.resolve_left w.2)).2
            exact ⟨by show if_ _ _ _ = _; rw [if_f (fun u => w.2 ((RS_wd R (by decide)).mpr ⟨f8, u⟩)), if_t s], by rw [s.1]; decide⟩
        refine pw_istore_n (lv1 := [some (rr_ G mo_), some (ii_ (5 - (d : Int))), some (ii_ z26)]) (pc := 29) dX12_all_29 rfl (by decide) rfl rfl ?_
        have z26r : z26 = 0 ∨ z26 = 1 := by omega
        refine pw_aload_n (z := mo_) (pc := 30) dX12_all_30 rfl rfl ?_
        refine pw_dup (pc := 31) dX12_all_31 rfl ?_
        refine pw_gI (x := 7) (pc := 32) dX12_all_32 fX12_215 (im_mo_ hM) k_mo_ rfl rfl (fun r32 => ?_)
        refine pw_iconst (pc := 35) dX12_all_35 ?_
        refine pw_iadd (pc := 36) dX12_all_36 ?_
        refine pw_pI (x := 7) (pc := 37) dX12_all_37 fX12_215 (im_mo_ hM) k_mo_ rfl rfl (by first | omega) ?_
        obtain ⟨g37, e37⟩ : ∃ x, x = up_ hq mo_ 7 ((hq mo_ 7) + 1) := ⟨_, rfl⟩
        refine pw_heq e37 ?_
        obtain ⟨l, b, fu, g1, g2, g3, g4, g5, g6, g7, g8, g9⟩ := LI_go (c := c) H ad f8 hc2
        rw [← e37] at g2 g3
        refine pw_aload_n (z := mo_) (pc := 40) dX12_all_40 rfl rfl ?_
        refine pw_iload_n (z := (5 - (d : Int))) (pc := 41) dX12_all_41 rfl rfl ?_
        refine pw_callV (c := 12) (o := mo_) (As := [ii_ (5 - (d : Int))]) (rest := []) (pc := 42) dX12_all_42 (IH g37 (b + 1) g3) lX12_337 mX12_test vX12_test (im_mo_ hM) k_mo_ rfl rfl rfl (by constructor <;> simp only [rm_] <;> omega) ⟨Nat.zero_le _, Nat.zero_le _⟩ (Nat.le_of_ble_eq_true rfl) (k_v (fun h42 q42 => ?_))
        have jb := LI_back H g2 g4 g5 g6 g7 g8 g9 q42
        refine pw_aload_n (z := mo_) (pc := 45) dX12_all_45 rfl rfl ?_
        have J57 : ∀ (v : Int), (v = c) → PW G RX12 cX12_all 3 none (rm_ (7 + 5 * d)) 0 0 (zm_ G (qv_ (fun h' => XP_ N (lv0_ tk (prt_ tk f m d) a) h a h'))) 57 [some (rr_ G mo_), some (ii_ (5 - (d : Int))), some (ii_ z26)] [ii_ v, rr_ G mo_] h42 := by
          intro v hv
          refine pw_iconst (pc := 57) dX12_all_57 ?_
          refine pw_callV (c := 12) (o := mo_) (As := [ii_ v, ii_ 0]) (rest := []) (pc := 58) dX12_all_58 (c_emit hM h42 jb.1 (v) 0 (by first | omega) (by first | omega)) lX12_324 mX12_emit vX12_emit (im_mo_ hM) k_mo_ rfl rfl rfl (by constructor <;> simp only [rm_] <;> omega) ⟨Nat.zero_le _, Nat.zero_le _⟩ (Nat.le_of_ble_eq_true rfl) (k_v (fun h58 q58 => ?_))
          have q99 : h58 = em1_ h42 (c, 0) := by rw [q58, hv]; rfl
          have j3 := jb.2.2
          rw [← q99] at j3
          have am2 := am.2 f8
          refine pw_goto (t := 5) (pc := 61) dX12_all_61 (by decide) ?_
          refine pw_less (lv1 := [some (rr_ G mo_), some (ii_ (5 - (d : Int))), none]) rfl (by intro i v; (match i with | 0 => simp | 1 => simp | 2 => simp | n + 3 => simp)) ?_
          exact ih5 (mm - 1) _ (by rw [q99]; exact jb.2.1) (by omega) (by omega)
        refine pw_iload_n (z := z26) (pc := 46) dX12_all_46 rfl rfl ?_
        refine pw_if_eq (t := 55) (pc := 47) dX12_all_47 (by decide) (by first | omega) (fun c47 => ?_) (fun c47 => ?_)
        · refine pw_bipush (pc := 55) dX12_all_55 rfl ?_
          exact J57 _ (by omega)
        · refine pw_bipush (pc := 50) dX12_all_50 rfl ?_
          refine pw_goto (t := 57) (pc := 52) dX12_all_52 (by decide) ?_
          exact J57 _ (by omega)
      refine pw_aload_n (z := mo_) (pc := 5) dX12_all_5 rfl rfl ?_
      refine pw_bipush (pc := 6) dX12_all_6 rfl ?_
      refine pw_callV (c := 12) (o := mo_) (As := [ii_ 20]) (rest := []) (pc := 8) dX12_all_8 (c_isWord hM hq (by first | omega) 20 (by first | omega)) lX12_227 mX12_isWord vX12_isWord (im_mo_ hM) k_mo_ rfl rfl rfl (by constructor <;> simp only [rm_] <;> omega) ⟨Nat.zero_le _, Nat.zero_le _⟩ (Nat.le_of_ble_eq_true rfl) (k_i (fun z8 h8 y8 q8 => ?_))
      obtain ⟨rfl, ⟨rfl, p8⟩ | ⟨rfl, p8⟩⟩ := q8
      · refine pw_if_ne (t := 23) (pc := 11) dX12_all_11 (by decide) (by first | omega) (fun _ => ?_) (fun c11 => absurd c11 (by decide))
        exact J23  (by first | exact Or.inl p8 | exact Or.inr p17)
      · refine pw_if_ne (t := 23) (pc := 11) dX12_all_11 (by decide) (by first | omega) (fun c11 => absurd c11 (by decide)) (fun _ => ?_)
        refine pw_aload_n (z := mo_) (pc := 14) dX12_all_14 rfl rfl ?_
        refine pw_bipush (pc := 15) dX12_all_15 rfl ?_
        refine pw_callV (c := 12) (o := mo_) (As := [ii_ 21]) (rest := []) (pc := 17) dX12_all_17 (c_isWord hM hq (by first | omega) 21 (by first | omega)) lX12_227 mX12_isWord vX12_isWord (im_mo_ hM) k_mo_ rfl rfl rfl (by constructor <;> simp only [rm_] <;> omega) ⟨Nat.zero_le _, Nat.zero_le _⟩ (Nat.le_of_ble_eq_true rfl) (k_i (fun z17 h17 y17 q17 => ?_))
        obtain ⟨rfl, ⟨rfl, p17⟩ | ⟨rfl, p17⟩⟩ := q17
        · refine pw_if_eq (t := 64) (pc := 20) dX12_all_20 (by decide) (by first | omega) (fun c20 => absurd c20 (by decide)) (fun _ => ?_)
          exact J23  (by first | exact Or.inl p8 | exact Or.inr p17)
        · refine pw_if_eq (t := 64) (pc := 20) dX12_all_20 (by decide) (by first | omega) (fun _ => ?_) (fun c20 => absurd c20 (by decide))
          exact pw_vret (pc := 64) dX12_all_64 (LI_out H ad (fun b R z => by show if_ _ _ _ = _; rw [if_f (fun u => p8 ((RS_wd R (by decide)).mpr ⟨z, u⟩)), if_f (fun u => p17 ((RS_wd R (by decide)).mpr ⟨z, u⟩))]))
  exact L5 _ ((N : Int) + 2) _ (li) (by omega) (Int.self_le_toNat _)

