theorem pcl_st {lf si : Int → Int} {v i : Int} (hi : 0 ≤ i) (hs : 0 ≤ si i ∧ si i ≤ 3) (x : Int) : pcl_ lf si v (i + 1) x = if x = i * 4 + si i then lf x - v else pcl_ lf si v i x := by
  unfold pcl_
  by_cases c : x = i * 4 + si i
  · rw [if_pos c, if_pos]
    have e : x / 4 = i := by omega
    rw [e]; omega
  · rw [if_neg c]
    by_cases d : 4 * i ≤ x ∧ x < 4 * i + 4
    · have e : x / 4 = i := by omega
      rw [e, if_neg (by omega), if_neg (by omega)]
    · by_cases f : (0 ≤ x ∧ x < 4 * i) ∧ x % 4 = si (x / 4)
      · rw [if_pos f, if_pos ⟨by omega, f.2⟩]
      · rw [if_neg f, if_neg (fun g => f ⟨by omega, g.2⟩)]
theorem pcl_hi {lf si : Int → Int} {v i x : Int} (h : 4 * i ≤ x) : pcl_ lf si v i x = lf x := by unfold pcl_; rw [if_neg (by omega)]
theorem lst_cs {lf si sj : Int → Int} : ∀ {n : Nat}, (∀ r : Int, 0 ≤ r → r < n → si r = sj r) → lst_ lf si n = lst_ lf sj n
  | 0, _ => rfl
  | n + 1, h => by unfold lst_; rw [lst_cs (n := n) (fun r a b => h r a (by omega)), h n (by omega) (by omega)]
theorem pcl_z {lf si : Int → Int} {v x : Int} : pcl_ lf si v 0 x = lf x := by unfold pcl_; rw [if_neg (by omega)]
theorem pcl_cg {lf si sj : Int → Int} {v R : Int} (h : ∀ r, 0 ≤ r → r < R → si r = sj r) : pcl_ lf si v R = pcl_ lf sj v R := by
  funext x
  unfold pcl_
  by_cases c : 0 ≤ x ∧ x < 4 * R
  · rw [h (x / 4) (by omega) (by omega)]
  · rw [if_neg (fun u => c u.1), if_neg (fun u => c u.1)]
/-- one piece is cut off -/
def cut1_ (ro : Int → Int) (h h' : PH_) (p : Int) : Prop := pq_ (ro 0) (ro 2) (h 162) p ∧ (0 ≤ p ∧ p < 256) ∧ (∀ q, 0 ≤ q → q < p → ¬ pq_ (ro 0) (ro 2) (h 162) q) ∧ h' 162 = pcl_ (h 162) (dg_ (ro 2) p) (lst_ (h 162) (dg_ (ro 2) p) (ro 2).toNat) (ro 2) ∧ h' 164 = ob_ (h 164) (h 161 4) p ∧ h' 165 = ob_ (h 165) (h 161 4) (lst_ (h 162) (dg_ (ro 2) p) (ro 2).toNat)

set_option maxHeartbeats 4000000 in
set_option maxRecDepth 100000 in
theorem d_cutOne {G : GT_} (hC : okC_ G) (h : PH_) (o : Nat) (ho : is6_ o) (ro : Int → Int) (H : CRD_ ro h o) (hR : 1 ≤ ro 2) (hb : ∀ x, 0 ≤ x → x < 16 → 0 ≤ h 162 x ∧ h 162 x ≤ 99) (hn : 0 ≤ h 161 4 ∧ h 161 4 < 16) : PC G yX4_cutOne cX4_cutOne 5 (some .boolean) 3 [rr_ G 161, rr_ G o] h (qi_ (fun z h' => (z = 1 ∧ off_ [162, 163, 164, 165] h h' ∧ ∃ p, cut1_ ro h h' p) ∨ (z = 0 ∧ off_ [163] h h' ∧ ∀ q, 0 ≤ q → ¬ pq_ (ro 0) (ro 2) (h 162) q))) := by
  have HB := H.2.1
  have HA := H.1
  refine PC.of (lv := [some (rr_ G 161), some (rr_ G o), none, none, none]) (by decide +kernel) (Nat.le_of_ble_eq_true rfl) rfl rfl ?_
  refine pw_iconst (pc := 0) dX4_cutOne_0 ?_
  refine pw_istore_n (lv1 := [some (rr_ G 161), some (rr_ G o), some (ii_ 0), none, none]) (pc := 1) dX4_cutOne_1 rfl (by decide) rfl rfl ?_
  have L2 : ∀ (nn : Nat) (n : Int) (hq : PH_), (0 ≤ n ∧ n ≤ 2 ^ (2 * ro 2).toNat) → (off_ [163] h hq) → (∀ q, 0 ≤ q → q < n → ¬ pq_ (ro 0) (ro 2) (h 162) q) → ((2 ^ (2 * ro 2).toNat - n + 1 : Int) ≤ nn) → PW G RX4 cX4_cutOne 5 (some .boolean) (rm_ 3) 0 0 (zm_ G (qi_ (fun z h' => (z = 1 ∧ off_ [162, 163, 164, 165] h h' ∧ ∃ p, cut1_ ro h h' p) ∨ (z = 0 ∧ off_ [163] h h' ∧ ∀ q, 0 ≤ q → ¬ pq_ (ro 0) (ro 2) (h 162) q)))) 2 [some (rr_ G 161), some (rr_ G o), some (ii_ n), none, none] [] hq := by
    intro nn
    induction nn with
    | zero => intro n hq ak af an ams; exfalso; omega
    | succ nn ih2 =>
      intro n hq ak af an ams
      have Hq : CRD_ ro hq o := CRD_off H ho af (by simp)
      have e2q : h o 2 = ro 2 := HA.2.2.1
      have p2 := p2R (R := h o 2) (by omega) (by omega)
      have e3 : (2 : Int) ^ (2 * h o 2).toNat = 2 ^ (2 * ro 2).toNat := by rw [e2q]
      refine pw_iload_n (z := n) (pc := 2) dX4_cutOne_2 rfl rfl ?_
      refine pw_iconst (pc := 3) dX4_cutOne_3 ?_
      refine pw_iconst (pc := 4) dX4_cutOne_4 ?_
      refine pw_aload_n (z := o) (pc := 5) dX4_cutOne_5 rfl rfl ?_
      refine pw_gI (x := 2) (pc := 6) dX4_cutOne_6 fX4_24 (hC _ (by omega)) (kd6_0 ho) rfl rfl (fun r6 => ?_)
      have n_hq_o_2 : hq o 2 = h o 2 := (congrFun (af o (by first | decide | (simp; done) | (simp; omega))) 2)
      rw [n_hq_o_2] at r6 ⊢
      refine pw_imul (pc := 9) dX4_cutOne_9 ?_
      refine pw_ishl1 (pc := 10) dX4_cutOne_10 (by first | omega | (simp only [n_hq_o_2]; omega)) ?_
      refine pw_icmp_ge (t := 110) (pc := 11) dX4_cutOne_11 (by decide) (by first | omega | (simp only [n_hq_o_2]; omega)) (by first | omega | (simp only [n_hq_o_2]; omega)) (fun c11 => ?_) (fun c11 => ?_)
      · refine pw_iconst (pc := 110) dX4_cutOne_110 ?_
        exact pw_zret (pc := 111) dX4_cutOne_111 (by first | omega | (simp only [n_hq_o_2]; omega)) (Or.inr ⟨rfl, af, fun q u1 u => by by_cases c : q < n; exact an q u1 c u; (have := ((vp_sea (by omega) (by omega)).mp u.1).2.1; omega)⟩)
      · have n256 : n < 256 := by omega
        have J38 : ∀ (v : Int) (hy : PH_), (off_ [163] h hy) → (0 ≤ v ∧ v ≤ 99) → (v = 0 → ¬ pq_ (ro 0) (ro 2) (h 162) n) → (0 < v → vp_ok (ro 0) (ro 2) n ∧ v = lst_ (h 162) (dg_ (ro 2) n) (ro 2).toNat ∧ ∀ r, 0 ≤ r → r < ro 2 → hy 163 r = dg_ (ro 2) n r) → PW G RX4 cX4_cutOne 5 (some .boolean) (rm_ 3) 0 0 (zm_ G (qi_ (fun z h' => (z = 1 ∧ off_ [162, 163, 164, 165] h h' ∧ ∃ p, cut1_ ro h h' p) ∨ (z = 0 ∧ off_ [163] h h' ∧ ∀ q, 0 ≤ q → ¬ pq_ (ro 0) (ro 2) (h 162) q)))) 38 [some (rr_ G 161), some (rr_ G o), some (ii_ n), none, none] [ii_ v] hy := by
          intro v hy fz2 vr nv vy
          refine pw_istore_n (lv1 := [some (rr_ G 161), some (rr_ G o), some (ii_ n), some (ii_ v), none]) (pc := 38) dX4_cutOne_38 rfl (by decide) rfl rfl ?_
          refine pw_iload_n (z := v) (pc := 39) dX4_cutOne_39 rfl rfl ?_
          refine pw_if_le (t := 104) (pc := 40) dX4_cutOne_40 (by decide) (by first | omega | (simp only [n_hq_o_2]; omega)) (fun c40 => ?_) (fun c40 => ?_)
          · refine pw_iinc (z := n) (lv1 := [some (rr_ G 161), some (rr_ G o), some (ii_ (n + 1)), some (ii_ v), none]) (pc := 104) dX4_cutOne_104 rfl (by decide) rfl rfl ?_
            refine pw_goto (t := 2) (pc := 107) dX4_cutOne_107 (by decide) ?_
            refine pw_less (lv1 := [some (rr_ G 161), some (rr_ G o), some (ii_ (n + 1)), none, none]) rfl (by intro i v; (match i with | 0 => simp | 1 => simp | 2 => simp | 3 => simp | 4 => simp | n + 5 => simp)) ?_
            exact ih2 _ _ (by omega) (fz2) (fun q u1 u2 => by by_cases c : q = n; (rw [c]; intro u; exact nv (by omega) u); exact an q u1 (by omega)) (by omega)
          · obtain ⟨vn, vl, sg⟩ := vy (by omega)
            have pq : pq_ (ro 0) (ro 2) (h 162) n := ⟨vn, by rw [← vl]; omega⟩
            refine pw_iconst (pc := 43) dX4_cutOne_43 ?_
            refine pw_istore (lv1 := [some (rr_ G 161), some (rr_ G o), some (ii_ n), some (ii_ v), some (ii_ 0)]) (pc := 44) dX4_cutOne_44 (by decide) rfl rfl ?_
            have L46 : ∀ (nn : Nat) (i : Int) (hz : PH_), (0 ≤ i ∧ i ≤ ro 2) → (off_ [162] hy hz) → (∀ x, hz 162 x = pcl_ (h 162) (dg_ (ro 2) n) v i x) → ((ro 2 - i + 1 : Int) ≤ nn) → PW G RX4 cX4_cutOne 5 (some .boolean) (rm_ 3) 0 0 (zm_ G (qi_ (fun z h' => (z = 1 ∧ off_ [162, 163, 164, 165] h h' ∧ ∃ p, cut1_ ro h h' p) ∨ (z = 0 ∧ off_ [163] h h' ∧ ∀ q, 0 ≤ q → ¬ pq_ (ro 0) (ro 2) (h 162) q)))) 46 [some (rr_ G 161), some (rr_ G o), some (ii_ n), some (ii_ v), some (ii_ i)] [] hz := by
              intro nn
              induction nn with
              | zero => intro i hz bk bf bx ams; exfalso; omega
              | succ nn ih46 =>
                intro i hz bk bf bx ams
                refine pw_iload (z := i) (pc := 46) dX4_cutOne_46 rfl ?_
                refine pw_aload_n (z := o) (pc := 48) dX4_cutOne_48 rfl rfl ?_
                refine pw_gI (x := 2) (pc := 49) dX4_cutOne_49 fX4_24 (hC _ (by omega)) (kd6_0 ho) rfl rfl (fun r49 => ?_)
                have n_hz_o_2 : hz o 2 = h o 2 := ((show hz o 2 = hy o 2 from (congrFun (bf o (by first | decide | (simp; done) | (simp; omega))) 2)).trans (show hy o 2 = h o 2 from (congrFun (fz2 o (by first | decide | (simp; done) | (simp; omega))) 2)))
                rw [n_hz_o_2] at r49 ⊢
                refine pw_icmp_ge (t := 82) (pc := 52) dX4_cutOne_52 (by decide) (by first | omega | (simp only [n_hq_o_2, n_hz_o_2]; omega)) (by first | omega | (simp only [n_hq_o_2, n_hz_o_2]; omega)) (fun c52 => ?_) (fun c52 => ?_)
                · refine pw_aload_n (z := 161) (pc := 82) dX4_cutOne_82 rfl rfl ?_
                  refine pw_getR (r := 164) (pc := 83) dX4_cutOne_83 fX4_18 (hC 161 (by decide)) (show kd_ 161 = 14 by decide +kernel) rfl (by decide +kernel) ?_
                  refine pw_aload_n (z := 161) (pc := 86) dX4_cutOne_86 rfl rfl ?_
                  refine pw_gI (x := 4) (pc := 87) dX4_cutOne_87 fX4_46 (hC 161 (by decide)) (show kd_ 161 = 14 by decide +kernel) rfl rfl (fun r87 => ?_)
                  have n_hz_161_4 : hz 161 4 = h 161 4 := ((show hz 161 4 = hy 161 4 from (congrFun (bf 161 (by first | decide | (simp; done) | (simp; omega))) 4)).trans (show hy 161 4 = h 161 4 from (congrFun (fz2 161 (by first | decide | (simp; done) | (simp; omega))) 4)))
                  rw [n_hz_161_4] at r87 ⊢
                  refine pw_iload_n (z := n) (pc := 90) dX4_cutOne_90 rfl rfl ?_
                  refine pw_iast (pc := 91) dX4_cutOne_91 (hC 164 (by decide)) (show kd_ 164 = 0 by decide +kernel) 16 (by decide +kernel) (by first | omega | (simp only [n_hq_o_2, n_hz_161_4, n_hz_o_2]; omega)) (by first | omega | (simp only [n_hq_o_2, n_hz_161_4, n_hz_o_2]; omega)) (by first | omega | (simp only [n_hq_o_2, n_hz_161_4, n_hz_o_2]; omega)) (by first | omega | (simp only [n_hq_o_2, n_hz_161_4, n_hz_o_2]; omega)) ?_
                  obtain ⟨g91, e91⟩ : ∃ x, x = up_ hz 164 (h 161 4) n := ⟨_, rfl⟩
                  refine pw_heq e91 ?_
                  refine pw_aload_n (z := 161) (pc := 92) dX4_cutOne_92 rfl rfl ?_
                  refine pw_getR (r := 165) (pc := 93) dX4_cutOne_93 fX4_21 (hC 161 (by decide)) (show kd_ 161 = 14 by decide +kernel) rfl (by decide +kernel) ?_
                  refine pw_aload_n (z := 161) (pc := 96) dX4_cutOne_96 rfl rfl ?_
                  refine pw_gI (x := 4) (pc := 97) dX4_cutOne_97 fX4_46 (hC 161 (by decide)) (show kd_ 161 = 14 by decide +kernel) rfl rfl (fun r97 => ?_)
                  have n_g91_161_4 : g91 161 4 = h 161 4 := (((show g91 161 4 = hz 161 4 from (by rw [e91, up_off (by first | decide | omega)])).trans (show hz 161 4 = hy 161 4 from (congrFun (bf 161 (by first | decide | (simp; done) | (simp; omega))) 4))).trans (show hy 161 4 = h 161 4 from (congrFun (fz2 161 (by first | decide | (simp; done) | (simp; omega))) 4)))
                  rw [n_g91_161_4] at r97 ⊢
                  refine pw_iload_n (z := v) (pc := 100) dX4_cutOne_100 rfl rfl ?_
                  refine pw_iast (pc := 101) dX4_cutOne_101 (hC 165 (by decide)) (show kd_ 165 = 0 by decide +kernel) 16 (by decide +kernel) (by first | omega | (simp only [n_g91_161_4, n_hq_o_2, n_hz_161_4, n_hz_o_2]; omega)) (by first | omega | (simp only [n_g91_161_4, n_hq_o_2, n_hz_161_4, n_hz_o_2]; omega)) (by first | omega | (simp only [n_g91_161_4, n_hq_o_2, n_hz_161_4, n_hz_o_2]; omega)) (by first | omega | (simp only [n_g91_161_4, n_hq_o_2, n_hz_161_4, n_hz_o_2]; omega)) ?_
                  obtain ⟨g101, e101⟩ : ∃ x, x = up_ g91 165 (h 161 4) v := ⟨_, rfl⟩
                  refine pw_heq e101 ?_
                  refine pw_iconst (pc := 102) dX4_cutOne_102 ?_
                  exact pw_zret (pc := 103) dX4_cutOne_103 (by first | omega | (simp only [n_g91_161_4, n_hq_o_2, n_hz_161_4, n_hz_o_2]; omega)) (Or.inl ⟨rfl, by rw [e101, e91]; exact off_up (off_up (off_tr (off_mo fz2 (by decide)) (off_mo bf (by decide))) (by decide)) (by decide), n, pq, by omega, fun q u1 u2 => an q u1 u2, by
                        rw [e101, up_off (by decide), e91, up_off (by decide)]; funext x; rw [bx x, ← vl, show i = ro 2 by omega], by
                        rw [e101, up_off (by decide), e91]; funext x; rw [up_at, bf 164 (by decide), fz2 164 (by decide)]; rfl, by
                        rw [e101]; funext x; rw [up_at, e91, up_off (by decide), bf 165 (by decide), fz2 165 (by decide), ← vl]; rfl⟩)
                · have dgi := dg_b (ro 2) n i
                  have si := sg i (by omega) (by omega)
                  have cell := bx (i * 4 + dg_ (ro 2) n i)
                  rw [pcl_hi (by omega)] at cell
                  have cell2 : hz 162 (i * 4 + hy 163 i) = h 162 (i * 4 + hy 163 i) := by rw [si]; exact cell
                  have hbi := hb (i * 4 + hy 163 i) (by omega) (by omega)
                  refine pw_aload_n (z := 161) (pc := 55) dX4_cutOne_55 rfl rfl ?_
                  refine pw_getR (r := 162) (pc := 56) dX4_cutOne_56 fX4_9 (hC 161 (by decide)) (show kd_ 161 = 14 by decide +kernel) rfl (by decide +kernel) ?_
                  refine pw_iload (z := i) (pc := 59) dX4_cutOne_59 rfl ?_
                  refine pw_iconst (pc := 61) dX4_cutOne_61 ?_
                  refine pw_imul (pc := 62) dX4_cutOne_62 ?_
                  refine pw_aload_n (z := 161) (pc := 63) dX4_cutOne_63 rfl rfl ?_
                  refine pw_getR (r := 163) (pc := 64) dX4_cutOne_64 fX4_15 (hC 161 (by decide)) (show kd_ 161 = 14 by decide +kernel) rfl (by decide +kernel) ?_
                  refine pw_iload (z := i) (pc := 67) dX4_cutOne_67 rfl ?_
                  refine pw_iald (pc := 69) dX4_cutOne_69 (hC 163 (by decide)) (show kd_ 163 = 0 by decide +kernel) 4 (by decide +kernel) (by first | omega | (simp only [n_hq_o_2, n_hz_o_2]; omega)) (by first | omega | (simp only [n_hq_o_2, n_hz_o_2]; omega)) (by first | omega | (simp only [n_hq_o_2, n_hz_o_2]; omega)) (fun r69 => ?_)
                  have n_hz_163 : hz 163 = hy 163 := (bf 163 (by first | decide | (simp; done) | (simp; omega)))
                  rw [n_hz_163] at r69 ⊢
                  refine pw_iadd (pc := 70) dX4_cutOne_70 ?_
                  refine pw_dup2 (pc := 71) dX4_cutOne_71 rfl rfl ?_
                  refine pw_iald (pc := 72) dX4_cutOne_72 (hC 162 (by decide)) (show kd_ 162 = 0 by decide +kernel) 16 (by decide +kernel) (by first | omega | (simp only [n_hq_o_2, n_hz_163, n_hz_o_2]; omega)) (by first | omega | (simp only [n_hq_o_2, n_hz_163, n_hz_o_2]; omega)) (by first | omega | (simp only [n_hq_o_2, n_hz_163, n_hz_o_2]; omega)) (fun r72 => ?_)
                  refine pw_iload_n (z := v) (pc := 73) dX4_cutOne_73 rfl rfl ?_
                  refine pw_isub (pc := 74) dX4_cutOne_74 ?_
                  refine pw_iast (pc := 75) dX4_cutOne_75 (hC 162 (by decide)) (show kd_ 162 = 0 by decide +kernel) 16 (by decide +kernel) (by first | omega | (simp only [n_hq_o_2, n_hz_163, n_hz_o_2]; omega)) (by first | omega | (simp only [n_hq_o_2, n_hz_163, n_hz_o_2]; omega)) (by first | omega | (simp only [n_hq_o_2, n_hz_163, n_hz_o_2]; omega)) (by first | omega | (simp only [n_hq_o_2, n_hz_163, n_hz_o_2]; omega)) ?_
                  obtain ⟨g75, e75⟩ : ∃ x, x = up_ hz 162 ((i * 4) + (hy 163 i)) ((hz 162 ((i * 4) + (hy 163 i))) - v) := ⟨_, rfl⟩
                  refine pw_heq e75 ?_
                  refine pw_iinc (z := i) (lv1 := [some (rr_ G 161), some (rr_ G o), some (ii_ n), some (ii_ v), some (ii_ (i + 1))]) (pc := 76) dX4_cutOne_76 rfl (by decide) rfl rfl ?_
                  refine pw_goto (t := 46) (pc := 79) dX4_cutOne_79 (by decide) ?_
                  exact ih46 _ _ (by omega) (by rw [e75]; exact off_up bf (by simp)) (fun x => by rw [pcl_st bk.1 dgi x, e75, up_at, si, cell]; by_cases c : x = i * 4 + dg_ (ro 2) n i; (rw [if_pos c, if_pos c, c]); (rw [if_neg c, if_neg c]; exact bx x)) (by omega)
            exact L46 _ _ _ (by omega) (off_rf) (fun x => by rw [fz2 162 (by decide), pcl_z]) (Int.self_le_toNat _)
        refine pw_aload_n (z := o) (pc := 14) dX4_cutOne_14 rfl rfl ?_
        refine pw_iload_n (z := n) (pc := 15) dX4_cutOne_15 rfl rfl ?_
        refine pw_aload_n (z := 161) (pc := 16) dX4_cutOne_16 rfl rfl ?_
        refine pw_getR (r := 163) (pc := 17) dX4_cutOne_17 fX4_15 (hC 161 (by decide)) (show kd_ 161 = 14 by decide +kernel) rfl (by decide +kernel) ?_
        refine pw_callV (c := 6) (o := o) (As := [ii_ n, rr_ G 163]) (rest := []) (pc := 20) dX4_cutOne_20 (d_unpack hC hq o ho ro Hq 163 (by decide +kernel) (by decide +kernel) (by decide) n (by first | omega | (simp only [n_hq_o_2]; omega))) lX4_53 mX6_unpack vX6_unpack (hC _ (by omega)) (kd6_0 ho) rfl rfl rfl (by decide) ⟨Nat.zero_le _, Nat.zero_le _⟩ (Nat.le_of_ble_eq_true rfl) (k_i (fun z20 h20 y20 q20 => ?_))
        obtain ⟨f20, ⟨rfl, p20⟩ | ⟨rfl, p20⟩, g20⟩ := q20
        · have fz : off_ [163] h h20 := off_tr af f20
          have g20b := g20 rfl
          simp -failIfUnchanged only [n_hq_o_2] at p20
          refine pw_if_eq (t := 37) (pc := 23) dX4_cutOne_23 (by decide) (by first | omega | (simp only [n_hq_o_2]; omega)) (fun c23 => absurd c23 (by decide)) (fun _ => ?_)
          refine pw_aload_n (z := 161) (pc := 26) dX4_cutOne_26 rfl rfl ?_
          refine pw_aload_n (z := o) (pc := 27) dX4_cutOne_27 rfl rfl ?_
          refine pw_gI (x := 2) (pc := 28) dX4_cutOne_28 fX4_24 (hC _ (by omega)) (kd6_0 ho) rfl rfl (fun r28 => ?_)
          have n_h20_o_2 : h20 o 2 = h o 2 := ((show h20 o 2 = hq o 2 from (congrFun (f20 o (by first | decide | (simp; done) | (simp; omega))) 2)).trans (show hq o 2 = h o 2 from (congrFun (af o (by first | decide | (simp; done) | (simp; omega))) 2)))
          rw [n_h20_o_2] at r28 ⊢
          refine pw_callV (c := 4) (o := 161) (As := [ii_ (h o 2)]) (rest := []) (pc := 31) dX4_cutOne_31 (d_leastLeft hC h20 (h o 2) (by first | omega | (simp only [n_h20_o_2, n_hq_o_2]; omega)) (fun r u1 u2 => by rw [g20b r u1 (by first | omega | (simp only [n_h20_o_2, n_hq_o_2]; omega))]; exact dg_b _ _ _) (by rw [fz 162 (by decide)]; exact hb)) lX4_57 mX4_leastLeft vX4_leastLeft (hC 161 (by decide)) (show kd_ 161 = 14 by decide +kernel) rfl rfl rfl (by decide) ⟨Nat.zero_le _, Nat.zero_le _⟩ (Nat.le_of_ble_eq_true rfl) (k_i (fun z31 h31 y31 q31 => ?_))
          obtain ⟨rfl, w31, y31a, y31b⟩ := q31
          rw [fz 162 (by decide), HA.2.2.1, lst_cs (sj := dg_ (ro 2) n) (fun r u1 u2 => g20b r u1 (by omega))] at w31
          refine pw_goto (t := 38) (pc := 34) dX4_cutOne_34 (by decide) ?_
          exact J38 _ _ (fz) (by omega) (by first | (intro _ u; exact p20 u.1) | (intro q u; exact u.2 (by omega))) (by first | (intro q; exact ⟨p20, w31, g20b⟩) | (intro q; omega))
        · have fz : off_ [163] h h20 := off_tr af f20
          simp -failIfUnchanged only [n_hq_o_2] at p20
          refine pw_if_eq (t := 37) (pc := 23) dX4_cutOne_23 (by decide) (by first | omega | (simp only [n_hq_o_2]; omega)) (fun _ => ?_) (fun c23 => absurd c23 (by decide))
          refine pw_iconst (pc := 37) dX4_cutOne_37 ?_
          exact J38 _ _ (fz) (by omega) (by first | (intro _ u; exact p20 u.1) | (intro q u; exact u.2 (by omega))) (by first | (intro q; exact ⟨p20, w31, g20b⟩) | (intro q; omega))
  exact L2 _ _ _ (⟨by omega, by have := p2R (R := ro 2) (by omega) (by omega); omega⟩) (off_rf) (fun q _ _ => by omega) (Int.self_le_toNat _)

