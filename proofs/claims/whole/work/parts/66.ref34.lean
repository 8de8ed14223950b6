set_option maxHeartbeats 4000000 in
set_option maxRecDepth 100000 in
theorem c_test {G : GT_} (hM : okM_ G) (h : PH_) (tk : Nat → TK_) (N f m d : Nat) (hd : d ≤ 5) (IH : ksums_ G tk N f m d) (a : Nat) (H : EX_ tk N f m h a) : PC G yX12_test cX12_test 3 none (6 + 5 * d) [rr_ G mo_, ii_ (5 - (d : Int))] h (qv_ (fun h' => XP_ N (lv1_ tk (prt_ tk f m d) a) h a h')) := by
  have EP := EX_pl H
  refine PC.of (lv := [some (rr_ G mo_), some (ii_ (5 - (d : Int))), none]) (by decide +kernel) (Nat.le_of_ble_eq_true rfl) rfl rfl ?_
  refine pw_aload_n (z := mo_) (pc := 0) dX12_test_0 rfl rfl ?_
  refine pw_iload_n (z := (5 - (d : Int))) (pc := 1) dX12_test_1 rfl rfl ?_
  refine pw_callV (c := 12) (o := mo_) (As := [ii_ (5 - (d : Int))]) (rest := []) (pc := 2) dX12_test_2 (IH h a H) lX12_340 mX12_sums vX12_sums (im_mo_ hM) k_mo_ rfl rfl rfl (by constructor <;> simp only [rm_] <;> omega) ⟨Nat.zero_le _, Nat.zero_le _⟩ (Nat.le_of_ble_eq_true rfl) (k_v (fun h2 q2 => ?_))
  have lt := LT_7 H q2
  refine pw_aload_n (z := mo_) (pc := 5) dX12_test_5 rfl rfl ?_
  refine pw_bipush (pc := 6) dX12_test_6 rfl ?_
  refine pw_callV (c := 12) (o := mo_) (As := [ii_ 60]) (rest := []) (pc := 8) dX12_test_8 (c_isSign hM h2 (by first | omega) 60 (by first | omega)) lX12_221 mX12_isSign vX12_isSign (im_mo_ hM) k_mo_ rfl rfl rfl (by constructor <;> simp only [rm_] <;> omega) ⟨Nat.zero_le _, Nat.zero_le _⟩ (Nat.le_of_ble_eq_true rfl) (k_i (fun z8 h8 y8 q8 => ?_))
  obtain ⟨rfl, w8⟩ := q8
  have z8r := dj_r w8
  refine pw_istore_n (lv1 := [some (rr_ G mo_), some (ii_ (5 - (d : Int))), some (ii_ z8)]) (pc := 11) dX12_test_11 rfl (by decide) rfl rfl ?_
  have J30 : ∀ (h3 : PH_), (∃ (l : CO_) (b : Nat), h3 = okh_ h l (b + 1) ∧ EX_ tk N f m h3 (b + 1) ∧ op1_ (tk b) = some (if z8 = 1 then 7 else 8) ∧ (lv2_ tk (prt_ tk f m d)) a = .ok (l, b) ∧ l.length + a ≤ b ∧ a < b ∧ b < N) → PW G RX12 cX12_test 3 none (rm_ (6 + 5 * d)) 0 0 (zm_ G (qv_ (fun h' => XP_ N (lv1_ tk (prt_ tk f m d) a) h a h'))) 30 [some (rr_ G mo_), some (ii_ (5 - (d : Int))), some (ii_ z8)] [] h3 := by
    intro h3 hg
    obtain ⟨l, b, g2, g3, g4, g5, g6, g7, g8⟩ := hg
    refine pw_aload_n (z := mo_) (pc := 30) dX12_test_30 rfl rfl ?_
    refine pw_iload_n (z := (5 - (d : Int))) (pc := 31) dX12_test_31 rfl rfl ?_
    refine pw_callV (c := 12) (o := mo_) (As := [ii_ (5 - (d : Int))]) (rest := []) (pc := 32) dX12_test_32 (IH h3 (b + 1) g3) lX12_340 mX12_sums vX12_sums (im_mo_ hM) k_mo_ rfl rfl rfl (by constructor <;> simp only [rm_] <;> omega) ⟨Nat.zero_le _, Nat.zero_le _⟩ (Nat.le_of_ble_eq_true rfl) (k_v (fun h32 q32 => ?_))
    have jb := LT_back H g2 g4 g5 g6 g7 g8 q32
    refine pw_aload_n (z := mo_) (pc := 35) dX12_test_35 rfl rfl ?_
    have J47 : ∀ (v : Int), (v = (if z8 = 1 then 7 else 8)) → PW G RX12 cX12_test 3 none (rm_ (6 + 5 * d)) 0 0 (zm_ G (qv_ (fun h' => XP_ N (lv1_ tk (prt_ tk f m d) a) h a h'))) 47 [some (rr_ G mo_), some (ii_ (5 - (d : Int))), some (ii_ z8)] [ii_ v, rr_ G mo_] h32 := by
      intro v hv
      refine pw_iconst (pc := 47) dX12_test_47 ?_
      refine pw_callV (c := 12) (o := mo_) (As := [ii_ v, ii_ 0]) (rest := []) (pc := 48) dX12_test_48 (c_emit hM h32 jb.1 (v) 0 (by rw [hv]; split <;> omega) (by first | omega)) lX12_324 mX12_emit vX12_emit (im_mo_ hM) k_mo_ rfl rfl rfl (by constructor <;> simp only [rm_] <;> omega) ⟨Nat.zero_le _, Nat.zero_le _⟩ (Nat.le_of_ble_eq_true rfl) (k_v (fun h48 q48 => ?_))
      have q99 : h48 = em1_ h32 ((if z8 = 1 then 7 else 8), 0) := by rw [q48, hv]; rfl
      exact pw_vret (pc := 51) dX12_test_51 (by rw [q99]; exact jb.2)
    refine pw_iload_n (z := z8) (pc := 36) dX12_test_36 rfl rfl ?_
    refine pw_if_eq (t := 45) (pc := 37) dX12_test_37 (by decide) (by first | omega) (fun c37 => ?_) (fun c37 => ?_)
    · refine pw_bipush (pc := 45) dX12_test_45 rfl ?_
      exact J47 _ (by first | (rw [if_pos (by omega)]; done) | (rw [if_neg (by omega)]; done))
    · refine pw_bipush (pc := 40) dX12_test_40 rfl ?_
      refine pw_goto (t := 47) (pc := 42) dX12_test_42 (by decide) ?_
      exact J47 _ (by first | (rw [if_pos (by omega)]; done) | (rw [if_neg (by omega)]; done))
  refine pw_aload_n (z := mo_) (pc := 12) dX12_test_12 rfl rfl ?_
  refine pw_bipush (pc := 13) dX12_test_13 rfl ?_
  refine pw_callV (c := 12) (o := mo_) (As := [ii_ 60]) (rest := []) (pc := 15) dX12_test_15 (c_hasSign hM h2 (by first | omega) 60 (by first | omega)) lX12_343 mX12_hasSign vX12_hasSign (im_mo_ hM) k_mo_ rfl rfl rfl (by constructor <;> simp only [rm_] <;> omega) ⟨Nat.zero_le _, Nat.zero_le _⟩ (Nat.le_of_ble_eq_true rfl) (k_i (fun z15 h15 y15 q15 => ?_))
  obtain ⟨rfl, p15⟩ | ⟨rfl, p15⟩ := q15
  · have e15 : ¬ sgn_ h2 60 → h15 = h2 := fun u => by first | exact absurd p15.1 u | rw [p15.2, up_self]
    refine pw_if_ne (t := 30) (pc := 18) dX12_test_18 (by decide) (by first | omega) (fun _ => ?_) (fun c18 => absurd c18 (by decide))
    exact J30 _ (by
            first
            | (rw [if_pos (dj_t w8 p15.1)]
               obtain ⟨l, b, g1, g2, g3, g4, g5, g6, g7, g8⟩ := LT_go (op := op1_) (c := 7) H q2 p15.1.1 (fun b R => by
                 have s := ((RS_sg R).mp p15.1).2
                 exact ⟨if_t s, by rw [s.1]; decide⟩)
               rw [← p15.2] at g2 g3
               exact ⟨l, b, g2, g3, g4, g5, g6, g7, g8⟩)
            | (have zz : z8 = 0 := dj_f w8 p15.1
               rw [if_neg (by omega)]
               obtain ⟨l, b, g1, g2, g3, g4, g5, g6, g7, g8⟩ := LT_go (op := op1_) (c := 8) H q2 p24.1.1 (fun b R => by
                 have s := ((RS_sg R).mp p24.1).2
                 exact ⟨by show if_ _ _ _ = _; rw [if_f (fun u => p15.1 ((RS_sg R).mpr ⟨p24.1.1, u⟩)), if_t s], by rw [s.1]; decide⟩)
               rw [← p24.2] at g2 g3
               exact ⟨l, b, g2, g3, g4, g5, g6, g7, g8⟩))
  · have e15 : ¬ sgn_ h2 60 → h15 = h2 := fun u => by first | exact absurd p15.1 u | rw [p15.2, up_self]
    refine pw_if_ne (t := 30) (pc := 18) dX12_test_18 (by decide) (by first | omega) (fun c18 => absurd c18 (by decide)) (fun _ => ?_)
    refine pw_aload_n (z := mo_) (pc := 21) dX12_test_21 rfl rfl ?_
    refine pw_bipush (pc := 22) dX12_test_22 rfl ?_
    refine pw_callV (c := 12) (o := mo_) (As := [ii_ 61]) (rest := []) (pc := 24) dX12_test_24 (c_hasSign hM h15 (by rw [e15 p15.1]; omega) 61 (by first | omega)) lX12_343 mX12_hasSign vX12_hasSign (im_mo_ hM) k_mo_ rfl rfl rfl (by constructor <;> simp only [rm_] <;> omega) ⟨Nat.zero_le _, Nat.zero_le _⟩ (Nat.le_of_ble_eq_true rfl) (k_i (fun z24 h24 y24 q24 => ?_))
    obtain ⟨rfl, p24⟩ | ⟨rfl, p24⟩ := q24
    · rw [e15 p15.1] at p24
      refine pw_if_eq (t := 51) (pc := 27) dX12_test_27 (by decide) (by first | omega) (fun c27 => absurd c27 (by decide)) (fun _ => ?_)
      exact J30 _ (by
              first
              | (rw [if_pos (dj_t w8 p15.1)]
                 obtain ⟨l, b, g1, g2, g3, g4, g5, g6, g7, g8⟩ := LT_go (op := op1_) (c := 7) H q2 p15.1.1 (fun b R => by
                   have s := ((RS_sg R).mp p15.1).2
                   exact ⟨if_t s, by rw [s.1]; decide⟩)
                 rw [← p15.2] at g2 g3
                 exact ⟨l, b, g2, g3, g4, g5, g6, g7, g8⟩)
              | (have zz : z8 = 0 := dj_f w8 p15.1
                 rw [if_neg (by omega)]
                 obtain ⟨l, b, g1, g2, g3, g4, g5, g6, g7, g8⟩ := LT_go (op := op1_) (c := 8) H q2 p24.1.1 (fun b R => by
                   have s := ((RS_sg R).mp p24.1).2
                   exact ⟨by show if_ _ _ _ = _; rw [if_f (fun u => p15.1 ((RS_sg R).mpr ⟨p24.1.1, u⟩)), if_t s], by rw [s.1]; decide⟩)
                 rw [← p24.2] at g2 g3
                 exact ⟨l, b, g2, g3, g4, g5, g6, g7, g8⟩))
    · rw [e15 p15.1] at p24
      refine pw_if_eq (t := 51) (pc := 27) dX12_test_27 (by decide) (by first | omega) (fun _ => ?_) (fun c27 => absurd c27 (by decide))
      exact pw_vret (pc := 51) dX12_test_51 (by
                rw [show h24 = h2 by rw [p24.2, up_self]]
                exact LT_out H q2 (fun b R z => by show if_ _ _ _ = _; rw [if_f (fun u => p15.1 ((RS_sg R).mpr ⟨z, u⟩)), if_f (fun u => p24.1 ((RS_sg R).mpr ⟨z, u⟩))]))

set_option maxHeartbeats 4000000 in
set_option maxRecDepth 100000 in
theorem c_part0 {G : GT_} (hM : okM_ G) (h : PH_) (tk : Nat → TK_) (N f m : Nat) (a : Nat) (H : EX_ tk N f m h a) : PC G yX12_takePart cX12_takePart 4 none (3 + 5 * 0) [rr_ G mo_, ii_ (5 - ((0 : Nat) : Int))] h (qv_ (fun h' => XP_ N (prt_ tk f m 0 a) h a h')) := by
  have EP := EX_pl H
  have H8 := H.2.1
  have H13 := H.2.2.1
  have ta := H.1.1.1 a EP.2.1
  rw [← EP.1] at ta
  have f21 := H.2.2.2.1
  have f22 := H.2.2.2.2.1
  have f30 := H.2.2.2.2.2
  have fb := fcw_b (tk a) f m
  refine PC.of (lv := [some (rr_ G mo_), some (ii_ (5 - ((0 : Nat) : Int))), none, none]) (by decide +kernel) (Nat.le_of_ble_eq_true rfl) rfl rfl ?_
  refine pw_aload_n (z := mo_) (pc := 0) dX12_takePart_0 rfl rfl ?_
  refine pw_gI (x := 8) (pc := 1) dX12_takePart_1 fX12_218 (im_mo_ hM) k_mo_ rfl rfl (fun r1 => ?_)
  refine pw_if_le (t := 8) (pc := 4) dX12_takePart_4 (by decide) (by first | omega) (fun c4 => ?_) (fun c4 => ?_)
  · have J26 : ∀ (v : Int), (v = 1 ∧ ((tk a).1 = 2) ∨ v = 0 ∧ ¬ ((tk a).1 = 2)) → PW G RX12 cX12_takePart 4 none (rm_ (3 + 5 * 0)) 0 0 (zm_ G (qv_ (fun h' => XP_ N (prt_ tk f m 0 a) h a h'))) 26 [some (rr_ G mo_), some (ii_ (5 - ((0 : Nat) : Int))), none, none] [ii_ v] h := by
      intro v hv
      have vr := dj_r hv
      refine pw_istore_n (lv1 := [some (rr_ G mo_), some (ii_ (5 - ((0 : Nat) : Int))), some (ii_ v), none]) (pc := 26) dX12_takePart_26 rfl (by decide) rfl rfl ?_
      refine pw_aload_n (z := mo_) (pc := 27) dX12_takePart_27 rfl rfl ?_
      refine pw_aload_n (z := mo_) (pc := 28) dX12_takePart_28 rfl rfl ?_
      refine pw_gI (x := 21) (pc := 29) dX12_takePart_29 fX12_315 (im_mo_ hM) k_mo_ rfl rfl (fun r29 => ?_)
      refine pw_aload_n (z := mo_) (pc := 32) dX12_takePart_32 rfl rfl ?_
      refine pw_gI (x := 22) (pc := 33) dX12_takePart_33 fX12_318 (im_mo_ hM) k_mo_ rfl rfl (fun r33 => ?_)
      refine pw_callV (c := 12) (o := mo_) (As := [ii_ (h mo_ 21), ii_ (h mo_ 22)]) (rest := []) (pc := 36) dX12_takePart_36 (c_wordHere hM h (by first | omega) (h mo_ 21) (h mo_ 22) (by first | omega)) lX12_240 mX12_wordHere vX12_wordHere (im_mo_ hM) k_mo_ rfl rfl rfl (by constructor <;> simp only [rm_] <;> omega) ⟨Nat.zero_le _, Nat.zero_le _⟩ (Nat.le_of_ble_eq_true rfl) (k_i (fun z36 h36 y36 q36 => ?_))
      obtain ⟨rfl, w36⟩ := q36
      have w37 : z36 = fcw_ (tk a) f m := by rw [w36, f21, f22, Int.toNat_natCast]; exact RS_wh H.1 H8 m f30
      refine pw_istore_n (lv1 := [some (rr_ G mo_), some (ii_ (5 - ((0 : Nat) : Int))), some (ii_ v), some (ii_ z36)]) (pc := 39) dX12_takePart_39 rfl (by decide) rfl rfl ?_
      have J84 : ∀ (h2 : PH_), (bgs_ (tk a) f m ∧ h2 = up_ h mo_ 8 (flt_ tk 5 a) ∨ ¬ bgs_ (tk a) f m ∧ h2 = up_ h mo_ 8 (flt_ tk 1 a)) → PW G RX12 cX12_takePart 4 none (rm_ (3 + 5 * 0)) 0 0 (zm_ G (qv_ (fun h' => XP_ N (prt_ tk f m 0 a) h a h'))) 84 [some (rr_ G mo_), some (ii_ (5 - ((0 : Nat) : Int))), some (ii_ v), some (ii_ z36)] [] h2 := by
        intro h2 hb
        have fp : 0 < flt_ tk 1 a ∧ 0 < flt_ tk 5 a ∧ flt_ tk 5 a < 100000 ∧ flt_ tk 1 a < 100000 := by unfold flt_; omega
        have h28 : bgs_ (tk a) f m ∧ h2 mo_ 8 = flt_ tk 5 a ∨ ¬ bgs_ (tk a) f m ∧ h2 mo_ 8 = flt_ tk 1 a := by
          rcases hb with u | u
          · exact Or.inl ⟨u.1, by rw [u.2, up_same]⟩
          · exact Or.inr ⟨u.1, by rw [u.2, up_same]⟩
        refine pw_aload_n (z := mo_) (pc := 84) dX12_takePart_84 rfl rfl ?_
        refine pw_gI (x := 8) (pc := 85) dX12_takePart_85 fX12_218 (im_mo_ hM) k_mo_ rfl rfl (fun r85 => ?_)
        refine pw_if_le (t := 92) (pc := 88) dX12_takePart_88 (by decide) (by first | omega) (fun c88 => ?_) (fun c88 => ?_)
        · exfalso; rcases hb with u | u <;> (have u1 := u.1; omega)
        · exact pw_vret (pc := 91) dX12_takePart_91 (by
                    rcases hb with u | u
                    · exact Or.inr ⟨flt_ tk 5 a, by show if_ _ _ _ = _; rw [if_t u.1], by rw [u.2]; exact bad_w fp.2.1 EP.1 EP.2.1⟩
                    · exact Or.inr ⟨flt_ tk 1 a, by show if_ _ _ _ = _; rw [if_f u.1], by rw [u.2]; exact bad_w fp.1 EP.1 EP.2.1⟩)
      have J74 : (bgs_ (tk a) f m) → PW G RX12 cX12_takePart 4 none (rm_ (3 + 5 * 0)) 0 0 (zm_ G (qv_ (fun h' => XP_ N (prt_ tk f m 0 a) h a h'))) 74 [some (rr_ G mo_), some (ii_ (5 - ((0 : Nat) : Int))), some (ii_ v), some (ii_ z36)] [] h := by
        intro hb0
        refine pw_iload_n (z := (5 - ((0 : Nat) : Int))) (pc := 74) dX12_takePart_74 rfl rfl ?_
        refine pw_iconst (pc := 75) dX12_takePart_75 ?_
        refine pw_icmp_ne (t := 84) (pc := 76) dX12_takePart_76 (by decide) (by first | omega) (by first | omega) (fun c76 => ?_) (fun c76 => ?_)
        · exact J84 _ (by
                  first
                  | exact Or.inl ⟨hb0, rfl⟩
                  | exact Or.inl ⟨hb0, q81⟩
                  | (exfalso; omega)
                  | exact Or.inr ⟨fun u => by
                      rw [w37] at c41
                      rcases u with u | u | u | u
                      · omega
                      · exact dj_0 hv (by omega) u
                      · exact p51 ((RS_sg H.1).mpr ⟨H8, u⟩)
                      · exact p60 ((RS_wd H.1 (w := 19) (by decide)).mpr ⟨H8, u⟩), q68⟩)
        · refine pw_aload_n (z := mo_) (pc := 79) dX12_takePart_79 rfl rfl ?_
          refine pw_iconst (pc := 80) dX12_takePart_80 ?_
          refine pw_callV (c := 12) (o := mo_) (As := [ii_ 5]) (rest := []) (pc := 81) dX12_takePart_81 (c_wrong hM h (by first | omega) (by first | omega) 5 (by first | omega)) lX12_224 mX12_wrong vX12_wrong (im_mo_ hM) k_mo_ rfl rfl rfl (by constructor <;> simp only [rm_] <;> omega) ⟨Nat.zero_le _, Nat.zero_le _⟩ (Nat.le_of_ble_eq_true rfl) (k_v (fun h81 q81 => ?_))
          rw [wro_0 H8, EP.2.2.2.1] at q81
          exact J84 _ (by
                  first
                  | exact Or.inl ⟨hb0, rfl⟩
                  | exact Or.inl ⟨hb0, q81⟩
                  | (exfalso; omega)
                  | exact Or.inr ⟨fun u => by
                      rw [w37] at c41
                      rcases u with u | u | u | u
                      · omega
                      · exact dj_0 hv (by omega) u
                      · exact p51 ((RS_sg H.1).mpr ⟨H8, u⟩)
                      · exact p60 ((RS_wd H.1 (w := 19) (by decide)).mpr ⟨H8, u⟩), q68⟩)
      refine pw_iload_n (z := z36) (pc := 40) dX12_takePart_40 rfl rfl ?_
      refine pw_if_ge (t := 74) (pc := 41) dX12_takePart_41 (by decide) (by first | omega) (fun c41 => ?_) (fun c41 => ?_)
      · exact J74  (by rw [w37] at c41; first | exact Or.inl (by omega) | exact Or.inr (Or.inl (dj_1 hv (by omega))) | exact Or.inr (Or.inr (Or.inl ((RS_sg H.1).mp p51).2)) | exact Or.inr (Or.inr (Or.inr ((RS_wd H.1 (w := 19) (by decide)).mp p60).2)))
      · refine pw_iload_n (z := v) (pc := 44) dX12_takePart_44 rfl rfl ?_
        refine pw_if_ne (t := 74) (pc := 45) dX12_takePart_45 (by decide) (by first | omega) (fun c45 => ?_) (fun c45 => ?_)
        · exact J74  (by rw [w37] at c41; first | exact Or.inl (by omega) | exact Or.inr (Or.inl (dj_1 hv (by omega))) | exact Or.inr (Or.inr (Or.inl ((RS_sg H.1).mp p51).2)) | exact Or.inr (Or.inr (Or.inr ((RS_wd H.1 (w := 19) (by decide)).mp p60).2)))
        · refine pw_aload_n (z := mo_) (pc := 48) dX12_takePart_48 rfl rfl ?_
          refine pw_bipush (pc := 49) dX12_takePart_49 rfl ?_
          refine pw_callV (c := 12) (o := mo_) (As := [ii_ 40]) (rest := []) (pc := 51) dX12_takePart_51 (c_isSign hM h (by first | omega) 40 (by first | omega)) lX12_221 mX12_isSign vX12_isSign (im_mo_ hM) k_mo_ rfl rfl rfl (by constructor <;> simp only [rm_] <;> omega) ⟨Nat.zero_le _, Nat.zero_le _⟩ (Nat.le_of_ble_eq_true rfl) (k_i (fun z51 h51 y51 q51 => ?_))
          obtain ⟨rfl, ⟨rfl, p51⟩ | ⟨rfl, p51⟩⟩ := q51
          · refine pw_if_ne (t := 74) (pc := 54) dX12_takePart_54 (by decide) (by first | omega) (fun _ => ?_) (fun c54 => absurd c54 (by decide))
            exact J74  (by rw [w37] at c41; first | exact Or.inl (by omega) | exact Or.inr (Or.inl (dj_1 hv (by omega))) | exact Or.inr (Or.inr (Or.inl ((RS_sg H.1).mp p51).2)) | exact Or.inr (Or.inr (Or.inr ((RS_wd H.1 (w := 19) (by decide)).mp p60).2)))
          · refine pw_if_ne (t := 74) (pc := 54) dX12_takePart_54 (by decide) (by first | omega) (fun c54 => absurd c54 (by decide)) (fun _ => ?_)
            refine pw_aload_n (z := mo_) (pc := 57) dX12_takePart_57 rfl rfl ?_
            refine pw_bipush (pc := 58) dX12_takePart_58 rfl ?_
            refine pw_callV (c := 12) (o := mo_) (As := [ii_ 19]) (rest := []) (pc := 60) dX12_takePart_60 (c_isWord hM h (by first | omega) 19 (by first | omega)) lX12_227 mX12_isWord vX12_isWord (im_mo_ hM) k_mo_ rfl rfl rfl (by constructor <;> simp only [rm_] <;> omega) ⟨Nat.zero_le _, Nat.zero_le _⟩ (Nat.le_of_ble_eq_true rfl) (k_i (fun z60 h60 y60 q60 => ?_))
            obtain ⟨rfl, ⟨rfl, p60⟩ | ⟨rfl, p60⟩⟩ := q60
            · refine pw_if_ne (t := 74) (pc := 63) dX12_takePart_63 (by decide) (by first | omega) (fun _ => ?_) (fun c63 => absurd c63 (by decide))
              exact J74  (by rw [w37] at c41; first | exact Or.inl (by omega) | exact Or.inr (Or.inl (dj_1 hv (by omega))) | exact Or.inr (Or.inr (Or.inl ((RS_sg H.1).mp p51).2)) | exact Or.inr (Or.inr (Or.inr ((RS_wd H.1 (w := 19) (by decide)).mp p60).2)))
            · refine pw_if_ne (t := 74) (pc := 63) dX12_takePart_63 (by decide) (by first | omega) (fun c63 => absurd c63 (by decide)) (fun _ => ?_)
              refine pw_aload_n (z := mo_) (pc := 66) dX12_takePart_66 rfl rfl ?_
              refine pw_iconst (pc := 67) dX12_takePart_67 ?_
              refine pw_callV (c := 12) (o := mo_) (As := [ii_ 1]) (rest := []) (pc := 68) dX12_takePart_68 (c_wrong hM h (by first | omega) (by first | omega) 1 (by first | omega)) lX12_224 mX12_wrong vX12_wrong (im_mo_ hM) k_mo_ rfl rfl rfl (by constructor <;> simp only [rm_] <;> omega) ⟨Nat.zero_le _, Nat.zero_le _⟩ (Nat.le_of_ble_eq_true rfl) (k_v (fun h68 q68 => ?_))
              rw [wro_0 H8, EP.2.2.2.1] at q68
              refine pw_goto (t := 84) (pc := 71) dX12_takePart_71 (by decide) ?_
              exact J84 _ (by
                      first
                      | exact Or.inl ⟨hb0, rfl⟩
                      | exact Or.inl ⟨hb0, q81⟩
                      | (exfalso; omega)
                      | exact Or.inr ⟨fun u => by
                          rw [w37] at c41
                          rcases u with u | u | u | u
                          · omega
                          · exact dj_0 hv (by omega) u
                          · exact p51 ((RS_sg H.1).mpr ⟨H8, u⟩)
                          · exact p60 ((RS_wd H.1 (w := 19) (by decide)).mpr ⟨H8, u⟩), q68⟩)
    refine pw_aload_n (z := mo_) (pc := 8) dX12_takePart_8 rfl rfl ?_
    refine pw_getR (r := mSort) (pc := 9) dX12_takePart_9 fX12_24 (im_mo_ hM) k_mo_ rfl fr_mSort ?_
    refine pw_aload_n (z := mo_) (pc := 12) dX12_takePart_12 rfl rfl ?_
    refine pw_gI (x := 7) (pc := 13) dX12_takePart_13 fX12_215 (im_mo_ hM) k_mo_ rfl rfl (fun r13 => ?_)
    refine pw_iald (pc := 16) dX12_takePart_16 (im_mSort hM) k_mSort 1002 l_mSort (by first | omega) (by first | omega) (by first | omega) (fun r16 => ?_)
    refine pw_iconst (pc := 17) dX12_takePart_17 ?_
    refine pw_icmp_ne (t := 25) (pc := 18) dX12_takePart_18 (by decide) (by first | omega) (by first | omega) (fun c18 => ?_) (fun c18 => ?_)
    · refine pw_iconst (pc := 25) dX12_takePart_25 ?_
      exact J26 _ (by rw [ta.1] at c18; first | exact Or.inl ⟨rfl, by omega⟩ | exact Or.inr ⟨rfl, by omega⟩)
    · refine pw_iconst (pc := 21) dX12_takePart_21 ?_
      refine pw_goto (t := 26) (pc := 22) dX12_takePart_22 (by decide) ?_
      exact J26 _ (by rw [ta.1] at c18; first | exact Or.inl ⟨rfl, by omega⟩ | exact Or.inr ⟨rfl, by omega⟩)
  · exact pw_vret (pc := 7) dX12_takePart_7 (by exfalso; omega)

set_option maxHeartbeats 4000000 in
set_option maxRecDepth 100000 in
theorem c_partS {G : GT_} (hM : okM_ G) (h : PH_) (tk : Nat → TK_) (N f m d : Nat) (hd : d ≤ 4) (IH : kpart_ G tk N f m d) (IA : kall_ G tk N f m d) (a : Nat) (H : EX_ tk N f m h a) : PC G yX12_takePart cX12_takePart 4 none (3 + 5 * (d + 1)) [rr_ G mo_, ii_ (5 - (((d + 1 : Nat)) : Int))] h (qv_ (fun h' => XP_ N (prt_ tk f m (d + 1) a) h a h')) := by
  have EP := EX_pl H
  have H8 := H.2.1
  have H13 := H.2.2.1
  have ta := H.1.1.1 a EP.2.1
  rw [← EP.1] at ta
  have f21 := H.2.2.2.1
  have f22 := H.2.2.2.2.1
  have f30 := H.2.2.2.2.2
  have fb := fcw_b (tk a) f m
  refine PC.of (lv := [some (rr_ G mo_), some (ii_ (5 - (((d + 1 : Nat)) : Int))), none, none]) (by decide +kernel) (Nat.le_of_ble_eq_true rfl) rfl rfl ?_
  refine pw_aload_n (z := mo_) (pc := 0) dX12_takePart_0 rfl rfl ?_
  refine pw_gI (x := 8) (pc := 1) dX12_takePart_1 fX12_218 (im_mo_ hM) k_mo_ rfl rfl (fun r1 => ?_)
  refine pw_if_le (t := 8) (pc := 4) dX12_takePart_4 (by decide) (by first | omega) (fun c4 => ?_) (fun c4 => ?_)
  · have J26 : ∀ (v : Int), (v = 1 ∧ ((tk a).1 = 2) ∨ v = 0 ∧ ¬ ((tk a).1 = 2)) → PW G RX12 cX12_takePart 4 none (rm_ (3 + 5 * (d + 1))) 0 0 (zm_ G (qv_ (fun h' => XP_ N (prt_ tk f m (d + 1) a) h a h'))) 26 [some (rr_ G mo_), some (ii_ (5 - (((d + 1 : Nat)) : Int))), none, none] [ii_ v] h := by
      intro v hv
      have vr := dj_r hv
      refine pw_istore_n (lv1 := [some (rr_ G mo_), some (ii_ (5 - (((d + 1 : Nat)) : Int))), some (ii_ v), none]) (pc := 26) dX12_takePart_26 rfl (by decide) rfl rfl ?_
      refine pw_aload_n (z := mo_) (pc := 27) dX12_takePart_27 rfl rfl ?_
      refine pw_aload_n (z := mo_) (pc := 28) dX12_takePart_28 rfl rfl ?_
      refine pw_gI (x := 21) (pc := 29) dX12_takePart_29 fX12_315 (im_mo_ hM) k_mo_ rfl rfl (fun r29 => ?_)
      refine pw_aload_n (z := mo_) (pc := 32) dX12_takePart_32 rfl rfl ?_
      refine pw_gI (x := 22) (pc := 33) dX12_takePart_33 fX12_318 (im_mo_ hM) k_mo_ rfl rfl (fun r33 => ?_)
      refine pw_callV (c := 12) (o := mo_) (As := [ii_ (h mo_ 21), ii_ (h mo_ 22)]) (rest := []) (pc := 36) dX12_takePart_36 (c_wordHere hM h (by first | omega) (h mo_ 21) (h mo_ 22) (by first | omega)) lX12_240 mX12_wordHere vX12_wordHere (im_mo_ hM) k_mo_ rfl rfl rfl (by constructor <;> simp only [rm_] <;> omega) ⟨Nat.zero_le _, Nat.zero_le _⟩ (Nat.le_of_ble_eq_true rfl) (k_i (fun z36 h36 y36 q36 => ?_))
      obtain ⟨rfl, w36⟩ := q36
      have w37 : z36 = fcw_ (tk a) f m := by rw [w36, f21, f22, Int.toNat_natCast]; exact RS_wh H.1 H8 m f30
      refine pw_istore_n (lv1 := [some (rr_ G mo_), some (ii_ (5 - (((d + 1 : Nat)) : Int))), some (ii_ v), some (ii_ z36)]) (pc := 39) dX12_takePart_39 rfl (by decide) rfl rfl ?_
      have J84 : ∀ (h2 : PH_), (bgs_ (tk a) f m ∧ h2 = h ∨ ¬ bgs_ (tk a) f m ∧ h2 = up_ h mo_ 8 (flt_ tk 1 a)) → PW G RX12 cX12_takePart 4 none (rm_ (3 + 5 * (d + 1))) 0 0 (zm_ G (qv_ (fun h' => XP_ N (prt_ tk f m (d + 1) a) h a h'))) 84 [some (rr_ G mo_), some (ii_ (5 - (((d + 1 : Nat)) : Int))), some (ii_ v), some (ii_ z36)] [] h2 := by
        intro h2 hb
        have fp : 0 < flt_ tk 1 a ∧ 0 < flt_ tk 5 a ∧ flt_ tk 5 a < 100000 ∧ flt_ tk 1 a < 100000 := by unfold flt_; omega
        have h28 : bgs_ (tk a) f m ∧ h2 mo_ 8 = 0 ∨ ¬ bgs_ (tk a) f m ∧ h2 mo_ 8 = flt_ tk 1 a := by
          rcases hb with u | u
          · exact Or.inl ⟨u.1, by rw [u.2]; exact H8⟩
          · exact Or.inr ⟨u.1, by rw [u.2, up_same]⟩
        refine pw_aload_n (z := mo_) (pc := 84) dX12_takePart_84 rfl rfl ?_
        refine pw_gI (x := 8) (pc := 85) dX12_takePart_85 fX12_218 (im_mo_ hM) k_mo_ rfl rfl (fun r85 => ?_)
        refine pw_if_le (t := 92) (pc := 88) dX12_takePart_88 (by decide) (by first | omega) (fun c88 => ?_) (fun c88 => ?_)
        · have hbb : bgs_ (tk a) f m := by
            rcases hb with u | u
            · exact u.1
            · exfalso; rw [u.2, up_same] at c88; omega
          have h2e : h = h2 := by
            rcases hb with u | u
            · exact u.2.symm
            · exact absurd hbb u.1
          subst h2e
          refine pw_aload_n (z := mo_) (pc := 92) dX12_takePart_92 rfl rfl ?_
          refine pw_bipush (pc := 93) dX12_takePart_93 rfl ?_
          refine pw_callV (c := 12) (o := mo_) (As := [ii_ 19]) (rest := []) (pc := 95) dX12_takePart_95 (c_hasWord hM h (by first | omega) 19 (by first | omega)) lX12_230 mX12_hasWord vX12_hasWord (im_mo_ hM) k_mo_ rfl rfl rfl (by constructor <;> simp only [rm_] <;> omega) ⟨Nat.zero_le _, Nat.zero_le _⟩ (Nat.le_of_ble_eq_true rfl) (k_i (fun z95 h95 y95 q95 => ?_))
          obtain ⟨rfl, p95⟩ | ⟨rfl, p95⟩ := q95
          · have e95 : ¬ wrd_ h 19 → h95 = h := fun u => by first | exact absurd p95.1 u | rw [p95.2, up_self]
            have sw := ((RS_wd H.1 (w := 19) (by decide)).mp p95.1).2
            obtain ⟨g1, g2, g3⟩ := EX_up H (by rw [sw.1]; decide)
            rw [← p95.2] at g1 g2
            refine pw_if_eq (t := 117) (pc := 98) dX12_takePart_98 (by decide) (by first | omega) (fun c98 => absurd c98 (by decide)) (fun _ => ?_)
            refine pw_aload_n (z := mo_) (pc := 101) dX12_takePart_101 rfl rfl ?_
            refine pw_iload_n (z := (5 - (((d + 1 : Nat)) : Int))) (pc := 102) dX12_takePart_102 rfl rfl ?_
            refine pw_iconst (pc := 103) dX12_takePart_103 ?_
            refine pw_iadd (pc := 104) dX12_takePart_104 ?_
            refine pw_callV (c := 12) (o := mo_) (As := [ii_ ((5 - (((d + 1 : Nat)) : Int)) + 1)]) (rest := []) (pc := 105) dX12_takePart_105 (by have e := IH h95 (a + 1) g2; rw [show (5 : Int) - (d : Int) = 5 - (((d + 1 : Nat)) : Int) + 1 by omega] at e; exact e) lX12_349 mX12_takePart vX12_takePart (im_mo_ hM) k_mo_ rfl rfl rfl (by constructor <;> simp only [rm_] <;> omega) ⟨Nat.zero_le _, Nat.zero_le _⟩ (Nat.le_of_ble_eq_true rfl) (k_v (fun h105 q105 => ?_))
            rw [g1] at q105
            have xo := XP_ok1 H q105
            have e13 : 0 ≤ h105 mo_ 13 ∧ h105 mo_ 13 < 1100 := by
              rcases xo with ⟨q, x1, x2, x3, x4⟩ | ⟨e, x1, x2⟩
              · rw [x2, okh_13]; omega
              · have b5 := x2.2.2.2.2.1; have b4 := x2.2.2.2.1; omega
            refine pw_aload_n (z := mo_) (pc := 108) dX12_takePart_108 rfl rfl ?_
            refine pw_iconst (pc := 109) dX12_takePart_109 ?_
            refine pw_iconst (pc := 110) dX12_takePart_110 ?_
            refine pw_callV (c := 12) (o := mo_) (As := [ii_ 3, ii_ 0]) (rest := []) (pc := 111) dX12_takePart_111 (c_emit hM h105 e13 3 0 (by first | omega) (by first | omega)) lX12_324 mX12_emit vX12_emit (im_mo_ hM) k_mo_ rfl rfl rfl (by constructor <;> simp only [rm_] <;> omega) ⟨Nat.zero_le _, Nat.zero_le _⟩ (Nat.le_of_ble_eq_true rfl) (k_v (fun h111 q111 => ?_))
            have q99 : h111 = em1_ h105 (3, 0) := q111
            refine pw_goto (t := 183) (pc := 114) dX12_takePart_114 (by decide) ?_
            exact pw_vret (pc := 183) dX12_takePart_183 (by
                      have pe : prt_ tk f m (d + 1) a = pnt_ (prt_ tk f m d (a + 1)) := by show if_ _ _ _ = _; rw [if_t hbb, if_t sw]
                      rw [pe, q99]
                      rcases xo with ⟨q, x1, x2, x3, x4⟩ | ⟨e, x1, x2⟩
                      · refine Or.inl ⟨_, pnt_o x1, by rw [x2, okh_em], by rw [List.length_append]; show q.1.length + 1 + a ≤ q.2; omega, by show a < q.2; omega, x4⟩
                      · exact Or.inr ⟨e, pnt_e x1, bad_em (s := 0) H13.1 x2⟩)
          · have e95 : ¬ wrd_ h 19 → h95 = h := fun u => by first | exact absurd p95.1 u | rw [p95.2, up_self]
            refine pw_if_eq (t := 117) (pc := 98) dX12_takePart_98 (by decide) (by first | omega) (fun _ => ?_) (fun c98 => absurd c98 (by decide))
            refine pw_aload_n (z := mo_) (pc := 117) dX12_takePart_117 rfl rfl ?_
            refine pw_bipush (pc := 118) dX12_takePart_118 rfl ?_
            refine pw_callV (c := 12) (o := mo_) (As := [ii_ 40]) (rest := []) (pc := 120) dX12_takePart_120 (c_hasSign hM h95 (by rw [e95 p95.1]; omega) 40 (by first | omega)) lX12_343 mX12_hasSign vX12_hasSign (im_mo_ hM) k_mo_ rfl rfl rfl (by constructor <;> simp only [rm_] <;> omega) ⟨Nat.zero_le _, Nat.zero_le _⟩ (Nat.le_of_ble_eq_true rfl) (k_i (fun z120 h120 y120 q120 => ?_))
            obtain ⟨rfl, p120⟩ | ⟨rfl, p120⟩ := q120
            · rw [e95 p95.1] at p120
              have e120 : ¬ sgn_ h 40 → h120 = h := fun u => by first | exact absurd p120.1 u | rw [p120.2, up_self]
              have sw := ((RS_sg H.1).mp p120.1).2
              obtain ⟨g1, g2, g3⟩ := EX_up H (by rw [sw.1]; decide)
              rw [← p120.2] at g1 g2
              refine pw_if_eq (t := 142) (pc := 123) dX12_takePart_123 (by decide) (by first | omega) (fun c123 => absurd c123 (by decide)) (fun _ => ?_)
              refine pw_aload_n (z := mo_) (pc := 126) dX12_takePart_126 rfl rfl ?_
              refine pw_iload_n (z := (5 - (((d + 1 : Nat)) : Int))) (pc := 127) dX12_takePart_127 rfl rfl ?_
              refine pw_iconst (pc := 128) dX12_takePart_128 ?_
              refine pw_iadd (pc := 129) dX12_takePart_129 ?_
              refine pw_callV (c := 12) (o := mo_) (As := [ii_ ((5 - (((d + 1 : Nat)) : Int)) + 1)]) (rest := []) (pc := 130) dX12_takePart_130 (by have e := IA h120 (a + 1) g2; rw [show (5 : Int) - (d : Int) = 5 - (((d + 1 : Nat)) : Int) + 1 by omega] at e; exact e) lX12_321 mX12_all vX12_all (im_mo_ hM) k_mo_ rfl rfl rfl (by constructor <;> simp only [rm_] <;> omega) ⟨Nat.zero_le _, Nat.zero_le _⟩ (Nat.le_of_ble_eq_true rfl) (k_v (fun h130 q130 => ?_))
              rw [g1] at q130
              have xo := XP_ok1 H q130
              have x7 : (0 ≤ h130 mo_ 7 ∧ h130 mo_ 7 ≤ N) ∧ off_ [mOp, mArg, mo_] h h130 := by
                rcases xo with ⟨q, x1, x2, x3, x4⟩ | ⟨e, x1, x2⟩
                · rw [x2, okh_7]; exact ⟨by omega, okh_o⟩
                · exact ⟨x2.2.2.2.1, x2.1⟩
              have R2 := RS_bd H.1 x7.2 x7.1
              have R3 := RS_pl R2
              refine pw_aload_n (z := mo_) (pc := 133) dX12_takePart_133 rfl rfl ?_
              refine pw_bipush (pc := 134) dX12_takePart_134 rfl ?_
              refine pw_callV (c := 12) (o := mo_) (As := [ii_ 41]) (rest := []) (pc := 136) dX12_takePart_136 (c_takeSign hM h130 (by first | omega) (by first | omega) 41 (by first | omega)) lX12_259 mX12_takeSign vX12_takeSign (im_mo_ hM) k_mo_ rfl rfl rfl (by constructor <;> simp only [rm_] <;> omega) ⟨Nat.zero_le _, Nat.zero_le _⟩ (Nat.le_of_ble_eq_true rfl) (k_v (fun h136 q136 => ?_))
              refine pw_goto (t := 183) (pc := 139) dX12_takePart_139 (by decide) ?_
              exact pw_vret (pc := 183) dX12_takePart_183 (by
                        have nw : ¬ isW_ (tk a) 19 := fun u => p95.1 ((RS_wd H.1 (w := 19) (by decide)).mpr ⟨H8, u⟩)
                        have pe : prt_ tk f m (d + 1) a = pcl2_ tk (lv0_ tk (prt_ tk f m d) (a + 1)) := by show if_ _ _ _ = _; rw [if_t hbb, if_f nw, if_t sw]
                        rw [pe, q136]
                        rcases xo with ⟨q, x1, x2, x3, x4⟩ | ⟨e, x1, x2⟩
                        · have e7 : h130 mo_ 7 = (q.2 : Int) := by rw [x2, okh_7]
                          have e8 : h130 mo_ 8 = 0 := by rw [x2, okh_m (by decide) (by decide)]; exact H8
                          rw [e7, Int.toNat_natCast] at R2 R3
                          rw [pcl2_o x1]
                          by_cases s9 : isS_ (tk q.2) 41
                          · have qn : q.2 ≠ N := fun e => by have s1 := s9.1; rw [e, H.1.1.2.2.1] at s1; omega
                            rw [if_t s9, if_t ((RS_sg R2).mpr ⟨e8, s9⟩)]
                            refine Or.inl ⟨_, rfl, by rw [e7, x2]; exact okh_at (b := q.2 + 1), by show q.1.length + a ≤ q.2 + 1; omega, by show a < q.2 + 1; omega, by show q.2 + 1 ≤ N; omega⟩
                          · rw [if_f s9, if_f (fun u => s9 ((RS_sg R2).mp u).2), wro_0 e8, e7, R3.1]
                            refine Or.inr ⟨_, rfl, bad_ok (l := q.1) (a := a) (b := q.2) H13.1 EP.1 (by omega) ?_⟩
                            rw [← x2]
                            exact bad_w (by unfold flt_; omega) e7 x4
                        · have e8 : 0 < h130 mo_ 8 := by have := x2.2.2.1; omega
                          rw [pcl2_e x1, if_f (fun u => by have := u.1; omega), wro_f (by omega)]
                          exact Or.inr ⟨e, rfl, bad_s (by omega) x2⟩)
            · rw [e95 p95.1] at p120
              have e120 : ¬ sgn_ h 40 → h120 = h := fun u => by first | exact absurd p120.1 u | rw [p120.2, up_self]
              refine pw_if_eq (t := 142) (pc := 123) dX12_takePart_123 (by decide) (by first | omega) (fun _ => ?_) (fun c123 => absurd c123 (by decide))
              have e7 : h120 mo_ 7 = (a : Int) := by rw [e120 p120.1]; exact EP.1
              have tn := (H.1.2.2.2.2 a).2
              have hval : (tk a).1 = 2 → h120 mValue (h120 mo_ 7) = (tk a).2.2.1 := fun u => by rw [e120 p120.1]; exact ta.2.2.1 (Or.inl u)
              refine pw_aload_n (z := mo_) (pc := 142) dX12_takePart_142 rfl rfl ?_
              have J152 : ∀ (v1 : Int), (v1 = (if v = 1 then 1 else 2)) → PW G RX12 cX12_takePart 4 none (rm_ (3 + 5 * (d + 1))) 0 0 (zm_ G (qv_ (fun h' => XP_ N (prt_ tk f m (d + 1) a) h a h'))) 152 [some (rr_ G mo_), some (ii_ (5 - (((d + 1 : Nat)) : Int))), some (ii_ v), some (ii_ z36)] [ii_ v1, rr_ G mo_] h120 := by
                intro v1 hv1
                have J170 : ∀ (v2 : Int), (v2 = (if v = 1 then (tk a).2.2.1 else fcw_ (tk a) f m)) → (ir_ v2) → PW G RX12 cX12_takePart 4 none (rm_ (3 + 5 * (d + 1))) 0 0 (zm_ G (qv_ (fun h' => XP_ N (prt_ tk f m (d + 1) a) h a h'))) 170 [some (rr_ G mo_), some (ii_ (5 - (((d + 1 : Nat)) : Int))), some (ii_ v), some (ii_ z36)] [ii_ v2, ii_ v1, rr_ G mo_] h120 := by
                  intro v2 hv2 hv3
                  refine pw_callV (c := 12) (o := mo_) (As := [ii_ v1, ii_ v2]) (rest := []) (pc := 170) dX12_takePart_170 (c_emit hM h120 (by rw [e120 p120.1]; omega) (v1) (v2) (by first | omega) (by first | omega)) lX12_324 mX12_emit vX12_emit (im_mo_ hM) k_mo_ rfl rfl rfl (by constructor <;> simp only [rm_] <;> omega) ⟨Nat.zero_le _, Nat.zero_le _⟩ (Nat.le_of_ble_eq_true rfl) (k_v (fun h170 q170 => ?_))
                  rw [e120 p120.1] at q170
                  have q99 : h170 = em1_ h (v1, v2) := q170
                  have a7 : h170 mo_ 7 = (a : Int) := by rw [q99, em1_m (by decide)]; exact EP.1
                  refine pw_aload_n (z := mo_) (pc := 173) dX12_takePart_173 rfl rfl ?_
                  refine pw_dup (pc := 174) dX12_takePart_174 rfl ?_
                  refine pw_gI (x := 7) (pc := 175) dX12_takePart_175 fX12_215 (im_mo_ hM) k_mo_ rfl rfl (fun r175 => ?_)
                  refine pw_iconst (pc := 178) dX12_takePart_178 ?_
                  rw [a7]
                  refine pw_iadd (pc := 179) dX12_takePart_179 ?_
                  refine pw_pI (x := 7) (pc := 180) dX12_takePart_180 fX12_215 (im_mo_ hM) k_mo_ rfl rfl (by first | omega) ?_
                  obtain ⟨g180, e180⟩ : ∃ x, x = up_ h170 mo_ 7 ((a : Int) + 1) := ⟨_, rfl⟩
                  refine pw_heq e180 ?_
                  exact pw_vret (pc := 183) dX12_takePart_183 (by
                            have nw : ¬ isW_ (tk a) 19 := fun u => p95.1 ((RS_wd H.1 (w := 19) (by decide)).mpr ⟨H8, u⟩)
                            have ns : ¬ isS_ (tk a) 40 := fun u => p120.1 ((RS_sg H.1).mpr ⟨H8, u⟩)
                            have an : (tk a).1 ≠ 0 := by
                              rcases hbb with u | u | u | u
                              · intro z
                                have wz : ∀ w, ¬ isW_ (tk a) w := fun w q => by have := q.1; omega
                                have k : ∀ n : Nat, fcw_ (tk a) f n = -1 := fun n => by
                                  induction n with
                                  | zero => rfl
                                  | succ n ih => show if_ _ _ _ = _; rw [if_f (wz _)]; exact ih
                                rw [k m] at u; omega
                              · omega
                              · exact absurd u ns
                              · exact absurd u nw
                            have bn : a ≠ N := fun e => an (by rw [e]; exact H.1.1.2.2.1)
                            have pe : prt_ tk f m (d + 1) a = .ok ([(v1, v2)], a + 1) := by
                              show if_ _ _ _ = _
                              rw [if_t hbb, if_f nw, if_f ns, hv1, hv2]
                              rcases hv with v | v
                              · rw [if_t v.2, if_pos v.1, if_pos v.1]
                              · rw [if_f v.2, if_neg (by omega), if_neg (by omega)]
                            have he : g180 = okh_ h [(v1, v2)] (a + 1) := by rw [e180, q99]; rfl
                            exact Or.inl ⟨_, pe, he, by show 1 + a ≤ a + 1; omega, by show a < a + 1; omega, by show a + 1 ≤ N; omega⟩)
                refine pw_iload_n (z := v) (pc := 152) dX12_takePart_152 rfl rfl ?_
                refine pw_if_eq (t := 169) (pc := 153) dX12_takePart_153 (by decide) (by first | omega) (fun c153 => ?_) (fun c153 => ?_)
                · refine pw_iload_n (z := z36) (pc := 169) dX12_takePart_169 rfl rfl ?_
                  exact J170 _ (by
                          first
                          | (rw [if_pos (by omega)]; rw [e120 p120.1]; exact ta.2.2.1 (Or.inl (dj_1 hv (by omega))))
                          | (rw [if_neg (by omega)]; exact w37)) (by omega)
                · refine pw_aload_n (z := mo_) (pc := 156) dX12_takePart_156 rfl rfl ?_
                  refine pw_getR (r := mValue) (pc := 157) dX12_takePart_157 fX12_30 (im_mo_ hM) k_mo_ rfl fr_mValue ?_
                  refine pw_aload_n (z := mo_) (pc := 160) dX12_takePart_160 rfl rfl ?_
                  refine pw_gI (x := 7) (pc := 161) dX12_takePart_161 fX12_215 (im_mo_ hM) k_mo_ rfl rfl (fun r161 => ?_)
                  refine pw_lald (pc := 164) dX12_takePart_164 (im_mValue hM) k_mValue 1002 l_mValue (by first | omega) (by first | omega) (by first | omega) (fun r164 => ?_)
                  refine pw_l2i (pc := 165) dX12_takePart_165 ?_
                  refine pw_goto (t := 170) (pc := 166) dX12_takePart_166 (by decide) ?_
                  exact J170 _ (by
                          first
                          | (rw [if_pos (by omega)]; rw [e120 p120.1]; exact ta.2.2.1 (Or.inl (dj_1 hv (by omega))))
                          | (rw [if_neg (by omega)]; exact w37)) (by omega)
              refine pw_iload_n (z := v) (pc := 143) dX12_takePart_143 rfl rfl ?_
              refine pw_if_eq (t := 151) (pc := 144) dX12_takePart_144 (by decide) (by first | omega) (fun c144 => ?_) (fun c144 => ?_)
              · refine pw_iconst (pc := 151) dX12_takePart_151 ?_
                exact J152 _ (by first | (rw [if_pos (by omega)]; done) | (rw [if_neg (by omega)]; done))
              · refine pw_iconst (pc := 147) dX12_takePart_147 ?_
                refine pw_goto (t := 152) (pc := 148) dX12_takePart_148 (by decide) ?_
                exact J152 _ (by first | (rw [if_pos (by omega)]; done) | (rw [if_neg (by omega)]; done))
        · exact pw_vret (pc := 91) dX12_takePart_91 (by
                    rcases hb with u | u
                    · exfalso; rw [u.2] at c88; omega
                    · exact Or.inr ⟨flt_ tk 1 a, by show if_ _ _ _ = _; rw [if_f u.1], by rw [u.2]; exact bad_w fp.1 EP.1 EP.2.1⟩)
      have J74 : (bgs_ (tk a) f m) → PW G RX12 cX12_takePart 4 none (rm_ (3 + 5 * (d + 1))) 0 0 (zm_ G (qv_ (fun h' => XP_ N (prt_ tk f m (d + 1) a) h a h'))) 74 [some (rr_ G mo_), some (ii_ (5 - (((d + 1 : Nat)) : Int))), some (ii_ v), some (ii_ z36)] [] h := by
        intro hb0
        refine pw_iload_n (z := (5 - (((d + 1 : Nat)) : Int))) (pc := 74) dX12_takePart_74 rfl rfl ?_
        refine pw_iconst (pc := 75) dX12_takePart_75 ?_
        refine pw_icmp_ne (t := 84) (pc := 76) dX12_takePart_76 (by decide) (by first | omega) (by first | omega) (fun c76 => ?_) (fun c76 => ?_)
        · exact J84 _ (by
                  first
                  | exact Or.inl ⟨hb0, rfl⟩
                  | exact Or.inl ⟨hb0, q81⟩
                  | (exfalso; omega)
                  | exact Or.inr ⟨fun u => by
                      rw [w37] at c41
                      rcases u with u | u | u | u
                      · omega
                      · exact dj_0 hv (by omega) u
                      · exact p51 ((RS_sg H.1).mpr ⟨H8, u⟩)
                      · exact p60 ((RS_wd H.1 (w := 19) (by decide)).mpr ⟨H8, u⟩), q68⟩)
        · refine pw_aload_n (z := mo_) (pc := 79) dX12_takePart_79 rfl rfl ?_
          refine pw_iconst (pc := 80) dX12_takePart_80 ?_
          refine pw_callV (c := 12) (o := mo_) (As := [ii_ 5]) (rest := []) (pc := 81) dX12_takePart_81 (c_wrong hM h (by first | omega) (by first | omega) 5 (by first | omega)) lX12_224 mX12_wrong vX12_wrong (im_mo_ hM) k_mo_ rfl rfl rfl (by constructor <;> simp only [rm_] <;> omega) ⟨Nat.zero_le _, Nat.zero_le _⟩ (Nat.le_of_ble_eq_true rfl) (k_v (fun h81 q81 => ?_))
          rw [wro_0 H8, EP.2.2.2.1] at q81
          exact J84 _ (by
                  first
                  | exact Or.inl ⟨hb0, rfl⟩
                  | exact Or.inl ⟨hb0, q81⟩
                  | (exfalso; omega)
                  | exact Or.inr ⟨fun u => by
                      rw [w37] at c41
                      rcases u with u | u | u | u
                      · omega
                      · exact dj_0 hv (by omega) u
                      · exact p51 ((RS_sg H.1).mpr ⟨H8, u⟩)
                      · exact p60 ((RS_wd H.1 (w := 19) (by decide)).mpr ⟨H8, u⟩), q68⟩)
      refine pw_iload_n (z := z36) (pc := 40) dX12_takePart_40 rfl rfl ?_
      refine pw_if_ge (t := 74) (pc := 41) dX12_takePart_41 (by decide) (by first | omega) (fun c41 => ?_) (fun c41 => ?_)
      · exact J74  (by rw [w37] at c41; first | exact Or.inl (by omega) | exact Or.inr (Or.inl (dj_1 hv (by omega))) | exact Or.inr (Or.inr (Or.inl ((RS_sg H.1).mp p51).2)) | exact Or.inr (Or.inr (Or.inr ((RS_wd H.1 (w := 19) (by decide)).mp p60).2)))
      · refine pw_iload_n (z := v) (pc := 44) dX12_takePart_44 rfl rfl ?_
        refine pw_if_ne (t := 74) (pc := 45) dX12_takePart_45 (by decide) (by first | omega) (fun c45 => ?_) (fun c45 => ?_)
        · exact J74  (by rw [w37] at c41; first | exact Or.inl (by omega) | exact Or.inr (Or.inl (dj_1 hv (by omega))) | exact Or.inr (Or.inr (Or.inl ((RS_sg H.1).mp p51).2)) | exact Or.inr (Or.inr (Or.inr ((RS_wd H.1 (w := 19) (by decide)).mp p60).2)))
        · refine pw_aload_n (z := mo_) (pc := 48) dX12_takePart_48 rfl rfl ?_
          refine pw_bipush (pc := 49) dX12_takePart_49 rfl ?_
          refine pw_callV (c := 12) (o := mo_) (As := [ii_ 40]) (rest := []) (pc := 51) dX12_takePart_51 (c_isSign hM h (by first | omega) 40 (by first | omega)) lX12_221 mX12_isSign vX12_isSign (im_mo_ hM) k_mo_ rfl rfl rfl (by constructor <;> simp only [rm_] <;> omega) ⟨Nat.zero_le _, Nat.zero_le _⟩ (Nat.le_of_ble_eq_true rfl) (k_i (fun z51 h51 y51 q51 => ?_))
          obtain ⟨rfl, ⟨rfl, p51⟩ | ⟨rfl, p51⟩⟩ := q51
          · refine pw_if_ne (t := 74) (pc := 54) dX12_takePart_54 (by decide) (by first | omega) (fun _ => ?_) (fun c54 => absurd c54 (by decide))
            exact J74  (by rw [w37] at c41; first | exact Or.inl (by omega) | exact Or.inr (Or.inl (dj_1 hv (by omega))) | exact Or.inr (Or.inr (Or.inl ((RS_sg H.1).mp p51).2)) | exact Or.inr (Or.inr (Or.inr ((RS_wd H.1 (w := 19) (by decide)).mp p60).2)))
          · refine pw_if_ne (t := 74) (pc := 54) dX12_takePart_54 (by decide) (by first | omega) (fun c54 => absurd c54 (by decide)) (fun _ => ?_)
            refine pw_aload_n (z := mo_) (pc := 57) dX12_takePart_57 rfl rfl ?_
            refine pw_bipush (pc := 58) dX12_takePart_58 rfl ?_
            refine pw_callV (c := 12) (o := mo_) (As := [ii_ 19]) (rest := []) (pc := 60) dX12_takePart_60 (c_isWord hM h (by first | omega) 19 (by first | omega)) lX12_227 mX12_isWord vX12_isWord (im_mo_ hM) k_mo_ rfl rfl rfl (by constructor <;> simp only [rm_] <;> omega) ⟨Nat.zero_le _, Nat.zero_le _⟩ (Nat.le_of_ble_eq_true rfl) (k_i (fun z60 h60 y60 q60 => ?_))
            obtain ⟨rfl, ⟨rfl, p60⟩ | ⟨rfl, p60⟩⟩ := q60
            · refine pw_if_ne (t := 74) (pc := 63) dX12_takePart_63 (by decide) (by first | omega) (fun _ => ?_) (fun c63 => absurd c63 (by decide))
              exact J74  (by rw [w37] at c41; first | exact Or.inl (by omega) | exact Or.inr (Or.inl (dj_1 hv (by omega))) | exact Or.inr (Or.inr (Or.inl ((RS_sg H.1).mp p51).2)) | exact Or.inr (Or.inr (Or.inr ((RS_wd H.1 (w := 19) (by decide)).mp p60).2)))
            · refine pw_if_ne (t := 74) (pc := 63) dX12_takePart_63 (by decide) (by first | omega) (fun c63 => absurd c63 (by decide)) (fun _ => ?_)
              refine pw_aload_n (z := mo_) (pc := 66) dX12_takePart_66 rfl rfl ?_
              refine pw_iconst (pc := 67) dX12_takePart_67 ?_
              refine pw_callV (c := 12) (o := mo_) (As := [ii_ 1]) (rest := []) (pc := 68) dX12_takePart_68 (c_wrong hM h (by first | omega) (by first | omega) 1 (by first | omega)) lX12_224 mX12_wrong vX12_wrong (im_mo_ hM) k_mo_ rfl rfl rfl (by constructor <;> simp only [rm_] <;> omega) ⟨Nat.zero_le _, Nat.zero_le _⟩ (Nat.le_of_ble_eq_true rfl) (k_v (fun h68 q68 => ?_))
              rw [wro_0 H8, EP.2.2.2.1] at q68
              refine pw_goto (t := 84) (pc := 71) dX12_takePart_71 (by decide) ?_
              exact J84 _ (by
                      first
                      | exact Or.inl ⟨hb0, rfl⟩
                      | exact Or.inl ⟨hb0, q81⟩
                      | (exfalso; omega)
                      | exact Or.inr ⟨fun u => by
                          rw [w37] at c41
                          rcases u with u | u | u | u
                          · omega
                          · exact dj_0 hv (by omega) u
                          · exact p51 ((RS_sg H.1).mpr ⟨H8, u⟩)
                          · exact p60 ((RS_wd H.1 (w := 19) (by decide)).mpr ⟨H8, u⟩), q68⟩)
    refine pw_aload_n (z := mo_) (pc := 8) dX12_takePart_8 rfl rfl ?_
    refine pw_getR (r := mSort) (pc := 9) dX12_takePart_9 fX12_24 (im_mo_ hM) k_mo_ rfl fr_mSort ?_
    refine pw_aload_n (z := mo_) (pc := 12) dX12_takePart_12 rfl rfl ?_
    refine pw_gI (x := 7) (pc := 13) dX12_takePart_13 fX12_215 (im_mo_ hM) k_mo_ rfl rfl (fun r13 => ?_)
    refine pw_iald (pc := 16) dX12_takePart_16 (im_mSort hM) k_mSort 1002 l_mSort (by first | omega) (by first | omega) (by first | omega) (fun r16 => ?_)
    refine pw_iconst (pc := 17) dX12_takePart_17 ?_
    refine pw_icmp_ne (t := 25) (pc := 18) dX12_takePart_18 (by decide) (by first | omega) (by first | omega) (fun c18 => ?_) (fun c18 => ?_)
    · refine pw_iconst (pc := 25) dX12_takePart_25 ?_
      exact J26 _ (by rw [ta.1] at c18; first | exact Or.inl ⟨rfl, by omega⟩ | exact Or.inr ⟨rfl, by omega⟩)
    · refine pw_iconst (pc := 21) dX12_takePart_21 ?_
      refine pw_goto (t := 26) (pc := 22) dX12_takePart_22 (by decide) ?_
      exact J26 _ (by rw [ta.1] at c18; first | exact Or.inl ⟨rfl, by omega⟩ | exact Or.inr ⟨rfl, by omega⟩)
  · exact pw_vret (pc := 7) dX12_takePart_7 (by exfalso; omega)

theorem c_parts {G : GT_} (hM : okM_ G) (tk : Nat → TK_) (N f m : Nat) : ∀ d : Nat, d ≤ 5 → kpart_ G tk N f m d
  | 0, _ => fun h a H => c_part0 hM h tk N f m a H
  | d + 1, hd => fun h a H => by
    have IP := c_parts hM tk N f m d (by omega)
    have I3 : kprod_ G tk N f m d := fun h a H => c_products hM h tk N f m d (by omega) IP a H
    have I2 : ksums_ G tk N f m d := fun h a H => c_sums hM h tk N f m d (by omega) I3 a H
    have I1 : ktest_ G tk N f m d := fun h a H => c_test hM h tk N f m d (by omega) I2 a H
    have I0 : kall_ G tk N f m d := fun h a H => c_all hM h tk N f m d (by omega) I1 a H
    exact c_partS hM h tk N f m d (by omega) IP I0 a H
theorem c_alls {G : GT_} (hM : okM_ G) (tk : Nat → TK_) (N f m d : Nat) (hd : d ≤ 5) : kall_ G tk N f m d := by
  have IP := c_parts hM tk N f m d hd
  have I3 : kprod_ G tk N f m d := fun h a H => c_products hM h tk N f m d hd IP a H
  have I2 : ksums_ G tk N f m d := fun h a H => c_sums hM h tk N f m d hd I3 a H
  have I1 : ktest_ G tk N f m d := fun h a H => c_test hM h tk N f m d hd I2 a H
  exact fun h a H => c_all hM h tk N f m d hd I1 a H
