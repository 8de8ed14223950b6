set_option maxHeartbeats 4000000 in
set_option maxRecDepth 100000 in
theorem c_readLine {G : GT_} (hM : okM_ G) (h : PH_) (tk : Nat → TK_) (N : Nat) (Z : ZT_) (a : Nat) (H : ZR_ tk N Z h a) : PC G yX12_readLine cX12_readLine 1 none 35 [rr_ G mo_] h (qv_ (fun h' => FRL_ h h' ∧ LP_ tk N h' (lin_ tk Z a))) := by
  have H0 := H
  obtain ⟨H1, H2, H3, H4, H5, H6, H7, H8⟩ := H0
  have R7 := RP_7 (X := .ok a) H1
  have A7 := H1.2.1
  have A8 := H1.2.2.2
  obtain ⟨v80, v81, v82, v83, v84, v90⟩ := roA_8 H2
  obtain ⟨⟨y0, y1, y2, y3, y4, y5⟩, yr, ys, ya, yn, ym⟩ := H8
  refine PC.of (lv := [some (rr_ G mo_)]) (by decide +kernel) (Nat.le_of_ble_eq_true rfl) rfl rfl ?_
  refine pw_aload_n (z := mo_) (pc := 0) dX12_readLine_0 rfl rfl ?_
  refine pw_iconst (pc := 1) dX12_readLine_1 ?_
  refine pw_callV (c := 12) (o := mo_) (As := [ii_ 1]) (rest := []) (pc := 2) dX12_readLine_2 (c_isWord hM h (by first | omega) 1 (by first | omega)) lX12_227 mX12_isWord vX12_isWord (im_mo_ hM) k_mo_ rfl rfl rfl (by decide) ⟨Nat.zero_le _, Nat.zero_le _⟩ (Nat.le_of_ble_eq_true rfl) (k_i (fun z2 h2 y2 q2 => ?_))
  obtain ⟨rfl, ⟨rfl, p2⟩ | ⟨rfl, p2⟩⟩ := q2
  · refine pw_if_eq (t := 15) (pc := 5) dX12_readLine_5 (by decide) (by first | omega) (fun c5 => absurd c5 (by decide)) (fun _ => ?_)
    refine pw_aload_n (z := mo_) (pc := 8) dX12_readLine_8 rfl rfl ?_
    refine pw_callV (c := 12) (o := mo_) (As := []) (rest := []) (pc := 9) dX12_readLine_9 (c_readStretch hM h tk N Z a H (by have s := ((RS_wd (RPO_RS H1) (w := 1) (by decide)).mp p2).2; rw [s.1]; decide)) lX12_265 mX12_readStretch vX12_readStretch (im_mo_ hM) k_mo_ rfl rfl rfl (by decide) ⟨Nat.zero_le _, Nat.zero_le _⟩ (Nat.le_of_ble_eq_true rfl) (k_v (fun h9 q9 => ?_))
    obtain ⟨fz, rz⟩ := q9
    refine pw_goto (t := 131) (pc := 12) dX12_readLine_12 (by decide) ?_
    exact pw_vret (pc := 131) dX12_readLine_131 (by
              refine ⟨fz, ?_⟩
              have e0 : lin_ tk Z a = sln_ tk Z a := by unfold lin_; rw [if_t ((RS_wd (RPO_RS H1) (w := 1) (by decide)).mp p2).2]
              rw [e0]; exact rz)
  · refine pw_if_eq (t := 15) (pc := 5) dX12_readLine_5 (by decide) (by first | omega) (fun _ => ?_) (fun c5 => absurd c5 (by decide))
    refine pw_aload_n (z := mo_) (pc := 15) dX12_readLine_15 rfl rfl ?_
    refine pw_iconst (pc := 16) dX12_readLine_16 ?_
    refine pw_callV (c := 12) (o := mo_) (As := [ii_ 3]) (rest := []) (pc := 17) dX12_readLine_17 (c_isWord hM h (by first | omega) 3 (by first | omega)) lX12_227 mX12_isWord vX12_isWord (im_mo_ hM) k_mo_ rfl rfl rfl (by decide) ⟨Nat.zero_le _, Nat.zero_le _⟩ (Nat.le_of_ble_eq_true rfl) (k_i (fun z17 h17 y17 q17 => ?_))
    obtain ⟨rfl, ⟨rfl, p17⟩ | ⟨rfl, p17⟩⟩ := q17
    · refine pw_if_eq (t := 30) (pc := 20) dX12_readLine_20 (by decide) (by first | omega) (fun c20 => absurd c20 (by decide)) (fun _ => ?_)
      refine pw_aload_n (z := mo_) (pc := 23) dX12_readLine_23 rfl rfl ?_
      refine pw_callV (c := 12) (o := mo_) (As := []) (rest := []) (pc := 24) dX12_readLine_24 (c_readRider hM h tk N Z a H (by have s := ((RS_wd (RPO_RS H1) (w := 3) (by decide)).mp p17).2; rw [s.1]; decide)) lX12_268 mX12_readRider vX12_readRider (im_mo_ hM) k_mo_ rfl rfl rfl (by decide) ⟨Nat.zero_le _, Nat.zero_le _⟩ (Nat.le_of_ble_eq_true rfl) (k_v (fun h24 q24 => ?_))
      obtain ⟨fz, rz⟩ := q24
      refine pw_goto (t := 131) (pc := 27) dX12_readLine_27 (by decide) ?_
      exact pw_vret (pc := 131) dX12_readLine_131 (by
                refine ⟨fz, ?_⟩
                have e0 : lin_ tk Z a = rln_ tk Z a := by unfold lin_; rw [if_f (fun u => p2 ((RS_wd (RPO_RS H1) (w := 1) (by decide)).mpr ⟨A8, u⟩)), if_t ((RS_wd (RPO_RS H1) (w := 3) (by decide)).mp p17).2]
                rw [e0]; exact rz)
    · refine pw_if_eq (t := 30) (pc := 20) dX12_readLine_20 (by decide) (by first | omega) (fun _ => ?_) (fun c20 => absurd c20 (by decide))
      refine pw_aload_n (z := mo_) (pc := 30) dX12_readLine_30 rfl rfl ?_
      refine pw_bipush (pc := 31) dX12_readLine_31 rfl ?_
      refine pw_callV (c := 12) (o := mo_) (As := [ii_ 6]) (rest := []) (pc := 33) dX12_readLine_33 (c_isWord hM h (by first | omega) 6 (by first | omega)) lX12_227 mX12_isWord vX12_isWord (im_mo_ hM) k_mo_ rfl rfl rfl (by decide) ⟨Nat.zero_le _, Nat.zero_le _⟩ (Nat.le_of_ble_eq_true rfl) (k_i (fun z33 h33 y33 q33 => ?_))
      obtain ⟨rfl, ⟨rfl, p33⟩ | ⟨rfl, p33⟩⟩ := q33
      · refine pw_if_eq (t := 46) (pc := 36) dX12_readLine_36 (by decide) (by first | omega) (fun c36 => absurd c36 (by decide)) (fun _ => ?_)
        refine pw_aload_n (z := mo_) (pc := 39) dX12_readLine_39 rfl rfl ?_
        refine pw_callV (c := 12) (o := mo_) (As := []) (rest := []) (pc := 40) dX12_readLine_40 (c_readApart hM h tk N Z a H (by have s := ((RS_wd (RPO_RS H1) (w := 6) (by decide)).mp p33).2; rw [s.1]; decide)) lX12_271 mX12_readApart vX12_readApart (im_mo_ hM) k_mo_ rfl rfl rfl (by decide) ⟨Nat.zero_le _, Nat.zero_le _⟩ (Nat.le_of_ble_eq_true rfl) (k_v (fun h40 q40 => ?_))
        obtain ⟨fz, rz⟩ := q40
        refine pw_goto (t := 131) (pc := 43) dX12_readLine_43 (by decide) ?_
        exact pw_vret (pc := 131) dX12_readLine_131 (by
                  refine ⟨fz, ?_⟩
                  have e0 : lin_ tk Z a = aln_ tk Z a := by unfold lin_; rw [if_f (fun u => p2 ((RS_wd (RPO_RS H1) (w := 1) (by decide)).mpr ⟨A8, u⟩)), if_f (fun u => p17 ((RS_wd (RPO_RS H1) (w := 3) (by decide)).mpr ⟨A8, u⟩)), if_t ((RS_wd (RPO_RS H1) (w := 6) (by decide)).mp p33).2]
                  rw [e0]; exact rz)
      · refine pw_if_eq (t := 46) (pc := 36) dX12_readLine_36 (by decide) (by first | omega) (fun _ => ?_) (fun c36 => absurd c36 (by decide))
        refine pw_aload_n (z := mo_) (pc := 46) dX12_readLine_46 rfl rfl ?_
        refine pw_bipush (pc := 47) dX12_readLine_47 rfl ?_
        refine pw_callV (c := 12) (o := mo_) (As := [ii_ 7]) (rest := []) (pc := 49) dX12_readLine_49 (c_isWord hM h (by first | omega) 7 (by first | omega)) lX12_227 mX12_isWord vX12_isWord (im_mo_ hM) k_mo_ rfl rfl rfl (by decide) ⟨Nat.zero_le _, Nat.zero_le _⟩ (Nat.le_of_ble_eq_true rfl) (k_i (fun z49 h49 y49 q49 => ?_))
        obtain ⟨rfl, ⟨rfl, p49⟩ | ⟨rfl, p49⟩⟩ := q49
        · refine pw_if_eq (t := 62) (pc := 52) dX12_readLine_52 (by decide) (by first | omega) (fun c52 => absurd c52 (by decide)) (fun _ => ?_)
          refine pw_aload_n (z := mo_) (pc := 55) dX12_readLine_55 rfl rfl ?_
          refine pw_callV (c := 12) (o := mo_) (As := []) (rest := []) (pc := 56) dX12_readLine_56 (c_readNever hM h tk N Z a H (by have s := ((RS_wd (RPO_RS H1) (w := 7) (by decide)).mp p49).2; rw [s.1]; decide)) lX12_274 mX12_readNever vX12_readNever (im_mo_ hM) k_mo_ rfl rfl rfl (by decide) ⟨Nat.zero_le _, Nat.zero_le _⟩ (Nat.le_of_ble_eq_true rfl) (k_v (fun h56 q56 => ?_))
          obtain ⟨fz, rz⟩ := q56
          refine pw_goto (t := 131) (pc := 59) dX12_readLine_59 (by decide) ?_
          exact pw_vret (pc := 131) dX12_readLine_131 (by
                    refine ⟨fz, ?_⟩
                    have e0 : lin_ tk Z a = vln_ tk Z a := by unfold lin_; rw [if_f (fun u => p2 ((RS_wd (RPO_RS H1) (w := 1) (by decide)).mpr ⟨A8, u⟩)), if_f (fun u => p17 ((RS_wd (RPO_RS H1) (w := 3) (by decide)).mpr ⟨A8, u⟩)), if_f (fun u => p33 ((RS_wd (RPO_RS H1) (w := 6) (by decide)).mpr ⟨A8, u⟩)), if_t ((RS_wd (RPO_RS H1) (w := 7) (by decide)).mp p49).2]
                    rw [e0]; exact rz)
        · refine pw_if_eq (t := 62) (pc := 52) dX12_readLine_52 (by decide) (by first | omega) (fun _ => ?_) (fun c52 => absurd c52 (by decide))
          refine pw_aload_n (z := mo_) (pc := 62) dX12_readLine_62 rfl rfl ?_
          refine pw_bipush (pc := 63) dX12_readLine_63 rfl ?_
          refine pw_callV (c := 12) (o := mo_) (As := [ii_ 8]) (rest := []) (pc := 65) dX12_readLine_65 (c_isWord hM h (by first | omega) 8 (by first | omega)) lX12_227 mX12_isWord vX12_isWord (im_mo_ hM) k_mo_ rfl rfl rfl (by decide) ⟨Nat.zero_le _, Nat.zero_le _⟩ (Nat.le_of_ble_eq_true rfl) (k_i (fun z65 h65 y65 q65 => ?_))
          obtain ⟨rfl, ⟨rfl, p65⟩ | ⟨rfl, p65⟩⟩ := q65
          · refine pw_if_eq (t := 78) (pc := 68) dX12_readLine_68 (by decide) (by first | omega) (fun c68 => absurd c68 (by decide)) (fun _ => ?_)
            refine pw_aload_n (z := mo_) (pc := 71) dX12_readLine_71 rfl rfl ?_
            refine pw_callV (c := 12) (o := mo_) (As := []) (rest := []) (pc := 72) dX12_readLine_72 (c_readGap hM h tk N Z a H (by have s := ((RS_wd (RPO_RS H1) (w := 8) (by decide)).mp p65).2; rw [s.1]; decide)) lX12_277 mX12_readGap vX12_readGap (im_mo_ hM) k_mo_ rfl rfl rfl (by decide) ⟨Nat.zero_le _, Nat.zero_le _⟩ (Nat.le_of_ble_eq_true rfl) (k_v (fun h72 q72 => ?_))
            obtain ⟨fz, rz⟩ := q72
            refine pw_goto (t := 131) (pc := 75) dX12_readLine_75 (by decide) ?_
            exact pw_vret (pc := 131) dX12_readLine_131 (by
                      refine ⟨fz, ?_⟩
                      have e0 : lin_ tk Z a = gln_ tk Z a := by unfold lin_; rw [if_f (fun u => p2 ((RS_wd (RPO_RS H1) (w := 1) (by decide)).mpr ⟨A8, u⟩)), if_f (fun u => p17 ((RS_wd (RPO_RS H1) (w := 3) (by decide)).mpr ⟨A8, u⟩)), if_f (fun u => p33 ((RS_wd (RPO_RS H1) (w := 6) (by decide)).mpr ⟨A8, u⟩)), if_f (fun u => p49 ((RS_wd (RPO_RS H1) (w := 7) (by decide)).mpr ⟨A8, u⟩)), if_t ((RS_wd (RPO_RS H1) (w := 8) (by decide)).mp p65).2]
                      rw [e0]; exact rz)
          · refine pw_if_eq (t := 78) (pc := 68) dX12_readLine_68 (by decide) (by first | omega) (fun _ => ?_) (fun c68 => absurd c68 (by decide))
            refine pw_aload_n (z := mo_) (pc := 78) dX12_readLine_78 rfl rfl ?_
            refine pw_bipush (pc := 79) dX12_readLine_79 rfl ?_
            refine pw_callV (c := 12) (o := mo_) (As := [ii_ 9]) (rest := []) (pc := 81) dX12_readLine_81 (c_isWord hM h (by first | omega) 9 (by first | omega)) lX12_227 mX12_isWord vX12_isWord (im_mo_ hM) k_mo_ rfl rfl rfl (by decide) ⟨Nat.zero_le _, Nat.zero_le _⟩ (Nat.le_of_ble_eq_true rfl) (k_i (fun z81 h81 y81 q81 => ?_))
            obtain ⟨rfl, ⟨rfl, p81⟩ | ⟨rfl, p81⟩⟩ := q81
            · refine pw_if_eq (t := 94) (pc := 84) dX12_readLine_84 (by decide) (by first | omega) (fun c84 => absurd c84 (by decide)) (fun _ => ?_)
              refine pw_aload_n (z := mo_) (pc := 87) dX12_readLine_87 rfl rfl ?_
              refine pw_callV (c := 12) (o := mo_) (As := []) (rest := []) (pc := 88) dX12_readLine_88 (c_readFight hM h tk N Z a H (by have s := ((RS_wd (RPO_RS H1) (w := 9) (by decide)).mp p81).2; rw [s.1]; decide)) lX12_280 mX12_readFight vX12_readFight (im_mo_ hM) k_mo_ rfl rfl rfl (by decide) ⟨Nat.zero_le _, Nat.zero_le _⟩ (Nat.le_of_ble_eq_true rfl) (k_v (fun h88 q88 => ?_))
              obtain ⟨fz, rz⟩ := q88
              refine pw_goto (t := 131) (pc := 91) dX12_readLine_91 (by decide) ?_
              exact pw_vret (pc := 131) dX12_readLine_131 (by
                        refine ⟨fz, ?_⟩
                        have e0 : lin_ tk Z a = fln_ tk Z a := by unfold lin_; rw [if_f (fun u => p2 ((RS_wd (RPO_RS H1) (w := 1) (by decide)).mpr ⟨A8, u⟩)), if_f (fun u => p17 ((RS_wd (RPO_RS H1) (w := 3) (by decide)).mpr ⟨A8, u⟩)), if_f (fun u => p33 ((RS_wd (RPO_RS H1) (w := 6) (by decide)).mpr ⟨A8, u⟩)), if_f (fun u => p49 ((RS_wd (RPO_RS H1) (w := 7) (by decide)).mpr ⟨A8, u⟩)), if_f (fun u => p65 ((RS_wd (RPO_RS H1) (w := 8) (by decide)).mpr ⟨A8, u⟩)), if_t ((RS_wd (RPO_RS H1) (w := 9) (by decide)).mp p81).2]
                        rw [e0]; exact rz)
            · refine pw_if_eq (t := 94) (pc := 84) dX12_readLine_84 (by decide) (by first | omega) (fun _ => ?_) (fun c84 => absurd c84 (by decide))
              refine pw_aload_n (z := mo_) (pc := 94) dX12_readLine_94 rfl rfl ?_
              refine pw_bipush (pc := 95) dX12_readLine_95 rfl ?_
              refine pw_callV (c := 12) (o := mo_) (As := [ii_ 10]) (rest := []) (pc := 97) dX12_readLine_97 (c_isWord hM h (by first | omega) 10 (by first | omega)) lX12_227 mX12_isWord vX12_isWord (im_mo_ hM) k_mo_ rfl rfl rfl (by decide) ⟨Nat.zero_le _, Nat.zero_le _⟩ (Nat.le_of_ble_eq_true rfl) (k_i (fun z97 h97 y97 q97 => ?_))
              obtain ⟨rfl, ⟨rfl, p97⟩ | ⟨rfl, p97⟩⟩ := q97
              · refine pw_if_eq (t := 110) (pc := 100) dX12_readLine_100 (by decide) (by first | omega) (fun c100 => absurd c100 (by decide)) (fun _ => ?_)
                refine pw_aload_n (z := mo_) (pc := 103) dX12_readLine_103 rfl rfl ?_
                refine pw_callV (c := 12) (o := mo_) (As := []) (rest := []) (pc := 104) dX12_readLine_104 (c_readWorth hM h tk N Z a H (by have s := ((RS_wd (RPO_RS H1) (w := 10) (by decide)).mp p97).2; rw [s.1]; decide)) lX12_283 mX12_readWorth vX12_readWorth (im_mo_ hM) k_mo_ rfl rfl rfl (by decide) ⟨Nat.zero_le _, Nat.zero_le _⟩ (Nat.le_of_ble_eq_true rfl) (k_v (fun h104 q104 => ?_))
                obtain ⟨fz, rz⟩ := q104
                refine pw_goto (t := 131) (pc := 107) dX12_readLine_107 (by decide) ?_
                exact pw_vret (pc := 131) dX12_readLine_131 (by
                          refine ⟨fz, ?_⟩
                          have e0 : lin_ tk Z a = wln_ tk Z a := by unfold lin_; rw [if_f (fun u => p2 ((RS_wd (RPO_RS H1) (w := 1) (by decide)).mpr ⟨A8, u⟩)), if_f (fun u => p17 ((RS_wd (RPO_RS H1) (w := 3) (by decide)).mpr ⟨A8, u⟩)), if_f (fun u => p33 ((RS_wd (RPO_RS H1) (w := 6) (by decide)).mpr ⟨A8, u⟩)), if_f (fun u => p49 ((RS_wd (RPO_RS H1) (w := 7) (by decide)).mpr ⟨A8, u⟩)), if_f (fun u => p65 ((RS_wd (RPO_RS H1) (w := 8) (by decide)).mpr ⟨A8, u⟩)), if_f (fun u => p81 ((RS_wd (RPO_RS H1) (w := 9) (by decide)).mpr ⟨A8, u⟩)), if_t ((RS_wd (RPO_RS H1) (w := 10) (by decide)).mp p97).2]
                          rw [e0]; exact rz)
              · refine pw_if_eq (t := 110) (pc := 100) dX12_readLine_100 (by decide) (by first | omega) (fun _ => ?_) (fun c100 => absurd c100 (by decide))
                refine pw_aload_n (z := mo_) (pc := 110) dX12_readLine_110 rfl rfl ?_
                refine pw_bipush (pc := 111) dX12_readLine_111 rfl ?_
                refine pw_callV (c := 12) (o := mo_) (As := [ii_ 11]) (rest := []) (pc := 113) dX12_readLine_113 (c_isWord hM h (by first | omega) 11 (by first | omega)) lX12_227 mX12_isWord vX12_isWord (im_mo_ hM) k_mo_ rfl rfl rfl (by decide) ⟨Nat.zero_le _, Nat.zero_le _⟩ (Nat.le_of_ble_eq_true rfl) (k_i (fun z113 h113 y113 q113 => ?_))
                obtain ⟨rfl, ⟨rfl, p113⟩ | ⟨rfl, p113⟩⟩ := q113
                · refine pw_if_eq (t := 126) (pc := 116) dX12_readLine_116 (by decide) (by first | omega) (fun c116 => absurd c116 (by decide)) (fun _ => ?_)
                  refine pw_aload_n (z := mo_) (pc := 119) dX12_readLine_119 rfl rfl ?_
                  refine pw_callV (c := 12) (o := mo_) (As := []) (rest := []) (pc := 120) dX12_readLine_120 (c_readRule hM h tk N Z a H (by have s := ((RS_wd (RPO_RS H1) (w := 11) (by decide)).mp p113).2; rw [s.1]; decide)) lX12_286 mX12_readRule vX12_readRule (im_mo_ hM) k_mo_ rfl rfl rfl (by decide) ⟨Nat.zero_le _, Nat.zero_le _⟩ (Nat.le_of_ble_eq_true rfl) (k_v (fun h120 q120 => ?_))
                  obtain ⟨fz, rz⟩ := q120
                  refine pw_goto (t := 131) (pc := 123) dX12_readLine_123 (by decide) ?_
                  exact pw_vret (pc := 131) dX12_readLine_131 (by
                            refine ⟨fz, ?_⟩
                            have e0 : lin_ tk Z a = uln_ tk Z a := by unfold lin_; rw [if_f (fun u => p2 ((RS_wd (RPO_RS H1) (w := 1) (by decide)).mpr ⟨A8, u⟩)), if_f (fun u => p17 ((RS_wd (RPO_RS H1) (w := 3) (by decide)).mpr ⟨A8, u⟩)), if_f (fun u => p33 ((RS_wd (RPO_RS H1) (w := 6) (by decide)).mpr ⟨A8, u⟩)), if_f (fun u => p49 ((RS_wd (RPO_RS H1) (w := 7) (by decide)).mpr ⟨A8, u⟩)), if_f (fun u => p65 ((RS_wd (RPO_RS H1) (w := 8) (by decide)).mpr ⟨A8, u⟩)), if_f (fun u => p81 ((RS_wd (RPO_RS H1) (w := 9) (by decide)).mpr ⟨A8, u⟩)), if_f (fun u => p97 ((RS_wd (RPO_RS H1) (w := 10) (by decide)).mpr ⟨A8, u⟩)), if_t ((RS_wd (RPO_RS H1) (w := 11) (by decide)).mp p113).2]
                            rw [e0]; exact rz)
                · refine pw_if_eq (t := 126) (pc := 116) dX12_readLine_116 (by decide) (by first | omega) (fun _ => ?_) (fun c116 => absurd c116 (by decide))
                  refine pw_aload_n (z := mo_) (pc := 126) dX12_readLine_126 rfl rfl ?_
                  refine pw_iconst (pc := 127) dX12_readLine_127 ?_
                  refine pw_callV (c := 12) (o := mo_) (As := [ii_ 1]) (rest := []) (pc := 128) dX12_readLine_128 (c_wrong hM h (by first | omega) (by first | omega) 1 (by first | omega)) lX12_224 mX12_wrong vX12_wrong (im_mo_ hM) k_mo_ rfl rfl rfl (by decide) ⟨Nat.zero_le _, Nat.zero_le _⟩ (Nat.le_of_ble_eq_true rfl) (k_v (fun h128 q128 => ?_))
                  exact pw_vret (pc := 131) dX12_readLine_131 (by
                            have w := RP_w (w := 1) H1 (by omega)
                            have e0 : lin_ tk Z a = .error (flt_ tk 1 a) := by unfold lin_; rw [if_f (fun u => p2 ((RS_wd (RPO_RS H1) (w := 1) (by decide)).mpr ⟨A8, u⟩)), if_f (fun u => p17 ((RS_wd (RPO_RS H1) (w := 3) (by decide)).mpr ⟨A8, u⟩)), if_f (fun u => p33 ((RS_wd (RPO_RS H1) (w := 6) (by decide)).mpr ⟨A8, u⟩)), if_f (fun u => p49 ((RS_wd (RPO_RS H1) (w := 7) (by decide)).mpr ⟨A8, u⟩)), if_f (fun u => p65 ((RS_wd (RPO_RS H1) (w := 8) (by decide)).mpr ⟨A8, u⟩)), if_f (fun u => p81 ((RS_wd (RPO_RS H1) (w := 9) (by decide)).mpr ⟨A8, u⟩)), if_f (fun u => p97 ((RS_wd (RPO_RS H1) (w := 10) (by decide)).mpr ⟨A8, u⟩)), if_f (fun u => p113 ((RS_wd (RPO_RS H1) (w := 11) (by decide)).mpr ⟨A8, u⟩))]
                            rw [e0, q128]
                            exact ⟨by rw [w.1]; exact FRL_m (by decide), w.2⟩)

