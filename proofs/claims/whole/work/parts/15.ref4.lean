set_option maxHeartbeats 4000000 in
set_option maxRecDepth 100000 in
theorem c_both {G : GT_} (h : PH_) (c a b : Int) (h1 : 4 ≤ c ∧ c ≤ 10) (h2 : ir_ a) (h3 : ir_ b) : PC G yX12_both cX12_both 3 (some .int) 1 [ii_ c, ii_ a, ii_ b] h (qi_ (fun z h' => h = h' ∧ z = bo_ c a b)) := by
  refine PC.of (lv := [some (ii_ c), some (ii_ a), some (ii_ b)]) (by decide +kernel) (Nat.le_of_ble_eq_true rfl) rfl rfl ?_
  refine pw_iload_n (z := c) (pc := 0) dX12_both_0 rfl rfl ?_
  have sw1 : c = 4 ∨ c = 5 ∨ c = 6 ∨ c = 7 ∨ c = 8 ∨ c = 9 ∨ (c < 4 ∨ 9 < c) := by omega
  rcases sw1 with sw1 | sw1 | sw1 | sw1 | sw1 | sw1 | sw1
  · refine pw_tableIn (t := 40) (off := 39) (pc := 1) dX12_both_1 (by first | first | omega | exact wr_ir _) (by omega) (by omega) (by rw [sw1]; rfl) (by decide) ?_
    refine pw_iload_n (z := a) (pc := 40) dX12_both_40 rfl rfl ?_
    refine pw_iload_n (z := b) (pc := 41) dX12_both_41 rfl rfl ?_
    refine pw_iadd (pc := 42) dX12_both_42 ?_
    refine pw_norm ?_
    exact pw_iret (pc := 43) dX12_both_43 (by first | first | omega | exact wr_ir _) (⟨rfl, by first | rfl | (unfold bo_; (try simp only [sw1]); first | rfl | (simp; done) | (simp [*]; done) | (repeat' split) <;> first | rfl | omega)⟩)
  · refine pw_tableIn (t := 44) (off := 43) (pc := 1) dX12_both_1 (by first | first | omega | exact wr_ir _) (by omega) (by omega) (by rw [sw1]; rfl) (by decide) ?_
    refine pw_iload_n (z := a) (pc := 44) dX12_both_44 rfl rfl ?_
    refine pw_iload_n (z := b) (pc := 45) dX12_both_45 rfl rfl ?_
    refine pw_isub (pc := 46) dX12_both_46 ?_
    refine pw_norm ?_
    exact pw_iret (pc := 47) dX12_both_47 (by first | first | omega | exact wr_ir _) (⟨rfl, by first | rfl | (unfold bo_; (try simp only [sw1]); first | rfl | (simp; done) | (simp [*]; done) | (repeat' split) <;> first | rfl | omega)⟩)
  · refine pw_tableIn (t := 48) (off := 47) (pc := 1) dX12_both_1 (by first | first | omega | exact wr_ir _) (by omega) (by omega) (by rw [sw1]; rfl) (by decide) ?_
    refine pw_iload_n (z := a) (pc := 48) dX12_both_48 rfl rfl ?_
    refine pw_iload_n (z := b) (pc := 49) dX12_both_49 rfl rfl ?_
    refine pw_imul (pc := 50) dX12_both_50 ?_
    refine pw_norm ?_
    exact pw_iret (pc := 51) dX12_both_51 (by first | first | omega | exact wr_ir _) (⟨rfl, by first | rfl | (unfold bo_; (try simp only [sw1]); first | rfl | (simp; done) | (simp [*]; done) | (repeat' split) <;> first | rfl | omega)⟩)
  · refine pw_tableIn (t := 52) (off := 51) (pc := 1) dX12_both_1 (by first | first | omega | exact wr_ir _) (by omega) (by omega) (by rw [sw1]; rfl) (by decide) ?_
    refine pw_iload_n (z := a) (pc := 52) dX12_both_52 rfl rfl ?_
    refine pw_iload_n (z := b) (pc := 53) dX12_both_53 rfl rfl ?_
    refine pw_icmp_ge (t := 61) (pc := 54) dX12_both_54 (by decide) (by first | first | omega | exact wr_ir _) (by first | first | omega | exact wr_ir _) (fun c54 => ?_) (fun c54 => ?_)
    · refine pw_iconst (pc := 61) dX12_both_61 ?_
      exact pw_iret (pc := 62) dX12_both_62 (by first | first | omega | exact wr_ir _) (⟨rfl, by first | rfl | (unfold bo_; (try simp only [sw1]); first | rfl | (simp; done) | (simp [*]; done) | (repeat' split) <;> first | rfl | omega)⟩)
    · refine pw_iconst (pc := 57) dX12_both_57 ?_
      refine pw_goto (t := 62) (pc := 58) dX12_both_58 (by decide) ?_
      exact pw_iret (pc := 62) dX12_both_62 (by first | first | omega | exact wr_ir _) (⟨rfl, by first | rfl | (unfold bo_; (try simp only [sw1]); first | rfl | (simp; done) | (simp [*]; done) | (repeat' split) <;> first | rfl | omega)⟩)
  · refine pw_tableIn (t := 63) (off := 62) (pc := 1) dX12_both_1 (by first | first | omega | exact wr_ir _) (by omega) (by omega) (by rw [sw1]; rfl) (by decide) ?_
    refine pw_iload_n (z := a) (pc := 63) dX12_both_63 rfl rfl ?_
    refine pw_iload_n (z := b) (pc := 64) dX12_both_64 rfl rfl ?_
    refine pw_icmp_ne (t := 72) (pc := 65) dX12_both_65 (by decide) (by first | first | omega | exact wr_ir _) (by first | first | omega | exact wr_ir _) (fun c65 => ?_) (fun c65 => ?_)
    · refine pw_iconst (pc := 72) dX12_both_72 ?_
      exact pw_iret (pc := 73) dX12_both_73 (by first | first | omega | exact wr_ir _) (⟨rfl, by first | rfl | (unfold bo_; (try simp only [sw1]); first | rfl | (simp; done) | (simp [*]; done) | (repeat' split) <;> first | rfl | omega)⟩)
    · refine pw_iconst (pc := 68) dX12_both_68 ?_
      refine pw_goto (t := 73) (pc := 69) dX12_both_69 (by decide) ?_
      exact pw_iret (pc := 73) dX12_both_73 (by first | first | omega | exact wr_ir _) (⟨rfl, by first | rfl | (unfold bo_; (try simp only [sw1]); first | rfl | (simp; done) | (simp [*]; done) | (repeat' split) <;> first | rfl | omega)⟩)
  · refine pw_tableIn (t := 74) (off := 73) (pc := 1) dX12_both_1 (by first | first | omega | exact wr_ir _) (by omega) (by omega) (by rw [sw1]; rfl) (by decide) ?_
    refine pw_iload_n (z := a) (pc := 74) dX12_both_74 rfl rfl ?_
    refine pw_if_eq (t := 86) (pc := 75) dX12_both_75 (by decide) (by first | first | omega | exact wr_ir _) (fun c75 => ?_) (fun c75 => ?_)
    · refine pw_iconst (pc := 86) dX12_both_86 ?_
      exact pw_iret (pc := 87) dX12_both_87 (by first | first | omega | exact wr_ir _) (⟨rfl, by first | rfl | (unfold bo_; (try simp only [sw1]); first | rfl | (simp; done) | (simp [*]; done) | (repeat' split) <;> first | rfl | omega)⟩)
    · refine pw_iload_n (z := b) (pc := 78) dX12_both_78 rfl rfl ?_
      refine pw_if_eq (t := 86) (pc := 79) dX12_both_79 (by decide) (by first | first | omega | exact wr_ir _) (fun c79 => ?_) (fun c79 => ?_)
      · refine pw_iconst (pc := 86) dX12_both_86 ?_
        exact pw_iret (pc := 87) dX12_both_87 (by first | first | omega | exact wr_ir _) (⟨rfl, by first | rfl | (unfold bo_; (try simp only [sw1]); first | rfl | (simp; done) | (simp [*]; done) | (repeat' split) <;> first | rfl | omega)⟩)
      · refine pw_iconst (pc := 82) dX12_both_82 ?_
        refine pw_goto (t := 87) (pc := 83) dX12_both_83 (by decide) ?_
        exact pw_iret (pc := 87) dX12_both_87 (by first | first | omega | exact wr_ir _) (⟨rfl, by first | rfl | (unfold bo_; (try simp only [sw1]); first | rfl | (simp; done) | (simp [*]; done) | (repeat' split) <;> first | rfl | omega)⟩)
  · refine pw_tableOut (t := 88) (pc := 1) dX12_both_1 (by first | first | omega | exact wr_ir _) sw1 (by decide) ?_
    refine pw_iload_n (z := a) (pc := 88) dX12_both_88 rfl rfl ?_
    refine pw_if_ne (t := 96) (pc := 89) dX12_both_89 (by decide) (by first | first | omega | exact wr_ir _) (fun c89 => ?_) (fun c89 => ?_)
    · refine pw_iconst (pc := 96) dX12_both_96 ?_
      refine pw_goto (t := 101) (pc := 97) dX12_both_97 (by decide) ?_
      exact pw_iret (pc := 101) dX12_both_101 (by first | first | omega | exact wr_ir _) (⟨rfl, by first | rfl | (unfold bo_; (try simp only [sw1]); first | rfl | (simp; done) | (simp [*]; done) | (repeat' split) <;> first | rfl | omega)⟩)
    · refine pw_iload_n (z := b) (pc := 92) dX12_both_92 rfl rfl ?_
      refine pw_if_eq (t := 100) (pc := 93) dX12_both_93 (by decide) (by first | first | omega | exact wr_ir _) (fun c93 => ?_) (fun c93 => ?_)
      · refine pw_iconst (pc := 100) dX12_both_100 ?_
        exact pw_iret (pc := 101) dX12_both_101 (by first | first | omega | exact wr_ir _) (⟨rfl, by first | rfl | (unfold bo_; (try simp only [sw1]); first | rfl | (simp; done) | (simp [*]; done) | (repeat' split) <;> first | rfl | omega)⟩)
      · refine pw_iconst (pc := 96) dX12_both_96 ?_
        refine pw_goto (t := 101) (pc := 97) dX12_both_97 (by decide) ?_
        exact pw_iret (pc := 101) dX12_both_101 (by first | first | omega | exact wr_ir _) (⟨rfl, by first | rfl | (unfold bo_; (try simp only [sw1]); first | rfl | (simp; done) | (simp [*]; done) | (repeat' split) <;> first | rfl | omega)⟩)

set_option maxHeartbeats 4000000 in
set_option maxRecDepth 100000 in
theorem c_worthAt {G : GT_} (hM : okM_ G) (h : PH_) (fr : Int) (P : List (Int × Int)) (hc : cod_ (h mOp) (h mArg) fr P) (hb : 0 ≤ fr ∧ fr + P.length < 2200) (hl : P.length ≤ 1100) (hd : dpt_ P 0) : PC G yX12_worthAt cX12_worthAt 5 (some .int) 2 [rr_ G mo_, ii_ fr] h (qi_ (fun z h' => off_ [mPile] h h' ∧ z = ew_ (h mFacts) P)) := by
  refine PC.of (lv := [some (rr_ G mo_), some (ii_ fr), none, none, none]) (by decide +kernel) (Nat.le_of_ble_eq_true rfl) rfl rfl ?_
  refine pw_iconst (pc := 0) dX12_worthAt_0 ?_
  refine pw_istore_n (lv1 := [some (rr_ G mo_), some (ii_ fr), some (ii_ 0), none, none]) (pc := 1) dX12_worthAt_1 rfl (by decide) rfl rfl ?_
  refine pw_iload_n (z := fr) (pc := 2) dX12_worthAt_2 rfl rfl ?_
  refine pw_istore_n (lv1 := [some (rr_ G mo_), some (ii_ fr), some (ii_ 0), some (ii_ fr), none]) (pc := 3) dX12_worthAt_3 rfl (by decide) rfl rfl ?_
  have L4 : ∀ (nn : Nat) (top : Int) (i : Int) (P2 : List (Int × Int)) (st : List Int) (h1 : PH_), (off_ [mPile] h h1) → (cod_ (h mOp) (h mArg) i P2) → (0 ≤ i ∧ i + P2.length < 2200) → (top = (st.length : Int) ∧ st.length + P2.length ≤ 1100) → (stk_ (h1 mPile) st) → (dpt_ P2 st.length) → (evl_ (h mFacts) P2 st = evl_ (h mFacts) P []) → (((P2.length : Int) + 1 : Int) ≤ nn) → PW G RX12 cX12_worthAt 5 (some .int) (rm_ 2) 0 0 (zm_ G (qi_ (fun z h' => off_ [mPile] h h' ∧ z = ew_ (h mFacts) P))) 4 [some (rr_ G mo_), some (ii_ fr), some (ii_ top), some (ii_ i), none] [] h1 := by
    intro nn
    induction nn with
    | zero => intro top i P2 st h1 af ac ab a_t a_s ad ae ams; exfalso; omega
    | succ nn ih4 =>
      intro top i P2 st h1 af ac ab a_t a_s ad ae ams
      refine pw_aload_n (z := mo_) (pc := 4) dX12_worthAt_4 rfl rfl ?_
      refine pw_getR (r := mOp) (pc := 5) dX12_worthAt_5 fX12_100 (im_mo_ hM) k_mo_ rfl fr_mOp ?_
      have o1 : h1 mOp = h mOp := af mOp (by decide)
      have o2 : h1 mArg = h mArg := af mArg (by decide)
      have o3 : h1 mFacts = h mFacts := af mFacts (by decide)
      refine pw_iload_n (z := i) (pc := 8) dX12_worthAt_8 rfl rfl ?_
      refine pw_iald (pc := 9) dX12_worthAt_9 (im_mOp hM) k_mOp 2200 l_mOp (by first | first | omega | exact bo_ir _ _ _) (by first | first | omega | exact bo_ir _ _ _) (by first | first | omega | exact bo_ir _ _ _) (fun r9 => ?_)
      refine pw_if_eq (t := 140) (pc := 10) dX12_worthAt_10 (by decide) (by first | first | omega | exact bo_ir _ _ _) (fun c10 => ?_) (fun c10 => ?_)
      · refine pw_aload_n (z := mo_) (pc := 140) dX12_worthAt_140 rfl rfl ?_
        refine pw_getR (r := mPile) (pc := 141) dX12_worthAt_141 fX12_127 (im_mo_ hM) k_mo_ rfl fr_mPile ?_
        refine pw_iconst (pc := 144) dX12_worthAt_144 ?_
        refine pw_iald (pc := 145) dX12_worthAt_145 (im_mPile hM) k_mPile 1100 l_mPile (by first | first | omega | exact bo_ir _ _ _) (by first | first | omega | exact bo_ir _ _ _) (by first | first | omega | exact bo_ir _ _ _) (fun r145 => ?_)
        exact pw_iret (pc := 146) dX12_worthAt_146 (by first | first | omega | exact bo_ir _ _ _) (⟨af, by have e0 := cod_no ac (by rw [← o1]; exact c10); subst e0; obtain ⟨x, rfl⟩ := len_e ad; unfold ew_; rw [← ae]; exact a_s.1⟩)
      · rw [o1] at c10
        obtain ⟨c, a, P3, rfl, k1, k2, k3, k4, k5⟩ := cod_ne ac c10
        have l3 : ((c, a) :: P3).length = P3.length + 1 := rfl
        have m1 : h1 mOp i = c := by rw [o1]; exact k1
        have m2 : h1 mArg i = a := by rw [o2]; exact k2
        refine pw_aload_n (z := mo_) (pc := 13) dX12_worthAt_13 rfl rfl ?_
        refine pw_getR (r := mOp) (pc := 14) dX12_worthAt_14 fX12_100 (im_mo_ hM) k_mo_ rfl fr_mOp ?_
        refine pw_iload_n (z := i) (pc := 17) dX12_worthAt_17 rfl rfl ?_
        refine pw_iald (pc := 18) dX12_worthAt_18 (im_mOp hM) k_mOp 2200 l_mOp (by first | first | omega | exact bo_ir _ _ _) (by first | first | omega | exact bo_ir _ _ _) (by first | first | omega | exact bo_ir _ _ _) (fun r18 => ?_)
        refine pw_istore (lv1 := [some (rr_ G mo_), some (ii_ fr), some (ii_ top), some (ii_ i), some (ii_ (h1 mOp i))]) (pc := 19) dX12_worthAt_19 (by decide) rfl rfl ?_
        refine pw_iload (z := h1 mOp i) (pc := 21) dX12_worthAt_21 rfl ?_
        refine pw_iconst (pc := 23) dX12_worthAt_23 ?_
        refine pw_icmp_eq (t := 33) (pc := 24) dX12_worthAt_24 (by decide) (by first | first | omega | exact bo_ir _ _ _) (by first | first | omega | exact bo_ir _ _ _) (fun c24 => ?_) (fun c24 => ?_)
        · refine pw_aload_n (z := mo_) (pc := 33) dX12_worthAt_33 rfl rfl ?_
          refine pw_getR (r := mPile) (pc := 34) dX12_worthAt_34 fX12_127 (im_mo_ hM) k_mo_ rfl fr_mPile ?_
          refine pw_iload_n (z := top) (pc := 37) dX12_worthAt_37 rfl rfl ?_
          have J64 : ∀ (v : Int), (v = (es_ (h mFacts) c a st).headD 0 ∧ es_ (h mFacts) c a st = v :: st ∧ ir_ v) → PW G RX12 cX12_worthAt 5 (some .int) (rm_ 2) 0 0 (zm_ G (qi_ (fun z h' => off_ [mPile] h h' ∧ z = ew_ (h mFacts) P))) 64 [some (rr_ G mo_), some (ii_ fr), some (ii_ top), some (ii_ i), some (ii_ (h1 mOp i))] [ii_ v, ii_ top, rr_ G mPile] h1 := by
            intro v hv
            refine pw_iast (pc := 64) dX12_worthAt_64 (im_mPile hM) k_mPile 1100 l_mPile (by first | first | omega | exact bo_ir _ _ _) (by first | first | omega | exact bo_ir _ _ _) (by first | first | omega | exact bo_ir _ _ _) (by first | first | omega | exact bo_ir _ _ _) ?_
            obtain ⟨g64, e64⟩ : ∃ x, x = up_ h1 mPile top v := ⟨_, rfl⟩
            refine pw_heq e64 ?_
            have hc12 : c = 1 ∨ c = 2 := by omega
            obtain ⟨st3, s3⟩ : ∃ x, x = v :: st := ⟨_, rfl⟩
            have ls : st3.length = st.length + 1 := by rw [s3]; rfl
            have nf : off_ [mPile] h g64 := by rw [e64]; exact off_up af (by decide)
            have nd : dpt_ P3 st3.length := by rw [ls]; exact dpt_p ad hc12
            have ns : stk_ (g64 mPile) st3 := by rw [s3, e64]; exact ⟨by rw [up_at, if_pos (by omega)], stk_up a_s (by omega)⟩
            have ne : evl_ (h mFacts) P3 st3 = evl_ (h mFacts) P [] := by rw [← ae, s3]; show _ = evl_ _ P3 (es_ _ c a st); rw [hv.2.1]
            refine pw_iinc (z := top) (lv1 := [some (rr_ G mo_), some (ii_ fr), some (ii_ (top + 1)), some (ii_ i), some (ii_ (h1 mOp i))]) (pc := 65) dX12_worthAt_65 rfl (by decide) rfl rfl ?_
            refine pw_goto (t := 134) (pc := 68) dX12_worthAt_68 (by decide) ?_
            
            refine pw_iinc (z := i) (lv1 := [some (rr_ G mo_), some (ii_ fr), some (ii_ (top + 1)), some (ii_ (i + 1)), some (ii_ (h1 mOp i))]) (pc := 134) dX12_worthAt_134 rfl (by decide) rfl rfl ?_
            refine pw_goto (t := 4) (pc := 137) dX12_worthAt_137 (by decide) ?_
            refine pw_less (lv1 := [some (rr_ G mo_), some (ii_ fr), some (ii_ (top + 1)), some (ii_ (i + 1)), none]) rfl (by intro i v; (match i with | 0 => simp | 1 => simp | 2 => simp | 3 => simp | 4 => simp | n + 5 => simp)) ?_
            exact ih4 _ _ P3 st3 _ (nf) (k5) (by omega) (by simp at *; omega) (ns) (nd) (ne) (by omega)
          refine pw_iload (z := h1 mOp i) (pc := 38) dX12_worthAt_38 rfl ?_
          refine pw_iconst (pc := 40) dX12_worthAt_40 ?_
          refine pw_icmp_ne (t := 53) (pc := 41) dX12_worthAt_41 (by decide) (by first | first | omega | exact bo_ir _ _ _) (by first | first | omega | exact bo_ir _ _ _) (fun c41 => ?_) (fun c41 => ?_)
          · refine pw_aload_n (z := mo_) (pc := 53) dX12_worthAt_53 rfl rfl ?_
            refine pw_getR (r := mFacts) (pc := 54) dX12_worthAt_54 fX12_124 (im_mo_ hM) k_mo_ rfl fr_mFacts ?_
            refine pw_aload_n (z := mo_) (pc := 57) dX12_worthAt_57 rfl rfl ?_
            refine pw_getR (r := mArg) (pc := 58) dX12_worthAt_58 fX12_103 (im_mo_ hM) k_mo_ rfl fr_mArg ?_
            refine pw_iload_n (z := i) (pc := 61) dX12_worthAt_61 rfl rfl ?_
            refine pw_iald (pc := 62) dX12_worthAt_62 (im_mArg hM) k_mArg 2200 l_mArg (by first | first | omega | exact bo_ir _ _ _) (by first | first | omega | exact bo_ir _ _ _) (by first | first | omega | exact bo_ir _ _ _) (fun r62 => ?_)
            refine pw_iald (pc := 63) dX12_worthAt_63 (im_mFacts hM) k_mFacts 5 l_mFacts (by first | first | omega | exact bo_ir _ _ _) (by first | first | omega | exact bo_ir _ _ _) (by first | first | omega | exact bo_ir _ _ _) (fun r63 => ?_)
            exact J64 _ (by (try rw [m2]); (try rw [o3]); first | (rw [show c = 1 by omega]; exact ⟨rfl, rfl, by omega⟩) | (rw [show c = 2 by omega]; refine ⟨rfl, rfl, ?_⟩; rw [m2, o3] at r63; exact r63))
          · refine pw_aload_n (z := mo_) (pc := 44) dX12_worthAt_44 rfl rfl ?_
            refine pw_getR (r := mArg) (pc := 45) dX12_worthAt_45 fX12_103 (im_mo_ hM) k_mo_ rfl fr_mArg ?_
            refine pw_iload_n (z := i) (pc := 48) dX12_worthAt_48 rfl rfl ?_
            refine pw_iald (pc := 49) dX12_worthAt_49 (im_mArg hM) k_mArg 2200 l_mArg (by first | first | omega | exact bo_ir _ _ _) (by first | first | omega | exact bo_ir _ _ _) (by first | first | omega | exact bo_ir _ _ _) (fun r49 => ?_)
            refine pw_goto (t := 64) (pc := 50) dX12_worthAt_50 (by decide) ?_
            exact J64 _ (by (try rw [m2]); (try rw [o3]); first | (rw [show c = 1 by omega]; exact ⟨rfl, rfl, by omega⟩) | (rw [show c = 2 by omega]; refine ⟨rfl, rfl, ?_⟩; rw [m2, o3] at r63; exact r63))
        · refine pw_iload (z := h1 mOp i) (pc := 27) dX12_worthAt_27 rfl ?_
          refine pw_iconst (pc := 29) dX12_worthAt_29 ?_
          refine pw_icmp_ne (t := 71) (pc := 30) dX12_worthAt_30 (by decide) (by first | first | omega | exact bo_ir _ _ _) (by first | first | omega | exact bo_ir _ _ _) (fun c30 => ?_) (fun c30 => ?_)
          · refine pw_iload (z := h1 mOp i) (pc := 71) dX12_worthAt_71 rfl ?_
            refine pw_iconst (pc := 73) dX12_worthAt_73 ?_
            refine pw_icmp_ne (t := 104) (pc := 74) dX12_worthAt_74 (by decide) (by first | first | omega | exact bo_ir _ _ _) (by first | first | omega | exact bo_ir _ _ _) (fun c74 => ?_) (fun c74 => ?_)
            · have c4 : 4 ≤ c := by omega
              have d3 := dpt_b ad c4
              obtain ⟨y, x, r, rfl⟩ := len_2 d3.1
              have lr : (y :: x :: r).length = r.length + 2 := rfl
              have x1 : h1 mPile (top + -1 - 1) = x := by rw [show top + -1 - 1 = (r.length : Int) by omega]; exact a_s.2.1
              have y1 : h1 mPile (top + -1) = y := by rw [show top + -1 = ((x :: r).length : Int) by simp; omega]; exact a_s.1
              refine pw_iinc (z := top) (lv1 := [some (rr_ G mo_), some (ii_ fr), some (ii_ (top + (-1))), some (ii_ i), some (ii_ (h1 mOp i))]) (pc := 104) dX12_worthAt_104 rfl (by decide) rfl rfl ?_
              refine pw_aload_n (z := mo_) (pc := 107) dX12_worthAt_107 rfl rfl ?_
              refine pw_getR (r := mPile) (pc := 108) dX12_worthAt_108 fX12_127 (im_mo_ hM) k_mo_ rfl fr_mPile ?_
              refine pw_iload_n (z := top + (-1)) (pc := 111) dX12_worthAt_111 rfl rfl ?_
              refine pw_iconst (pc := 112) dX12_worthAt_112 ?_
              refine pw_isub (pc := 113) dX12_worthAt_113 ?_
              refine pw_iload (z := h1 mOp i) (pc := 114) dX12_worthAt_114 rfl ?_
              refine pw_aload_n (z := mo_) (pc := 116) dX12_worthAt_116 rfl rfl ?_
              refine pw_getR (r := mPile) (pc := 117) dX12_worthAt_117 fX12_127 (im_mo_ hM) k_mo_ rfl fr_mPile ?_
              refine pw_iload_n (z := top + (-1)) (pc := 120) dX12_worthAt_120 rfl rfl ?_
              refine pw_iconst (pc := 121) dX12_worthAt_121 ?_
              refine pw_isub (pc := 122) dX12_worthAt_122 ?_
              refine pw_iald (pc := 123) dX12_worthAt_123 (im_mPile hM) k_mPile 1100 l_mPile (by first | first | omega | exact bo_ir _ _ _) (by first | first | omega | exact bo_ir _ _ _) (by first | first | omega | exact bo_ir _ _ _) (fun r123 => ?_)
              refine pw_aload_n (z := mo_) (pc := 124) dX12_worthAt_124 rfl rfl ?_
              refine pw_getR (r := mPile) (pc := 125) dX12_worthAt_125 fX12_127 (im_mo_ hM) k_mo_ rfl fr_mPile ?_
              refine pw_iload_n (z := top + (-1)) (pc := 128) dX12_worthAt_128 rfl rfl ?_
              refine pw_iald (pc := 129) dX12_worthAt_129 (im_mPile hM) k_mPile 1100 l_mPile (by first | first | omega | exact bo_ir _ _ _) (by first | first | omega | exact bo_ir _ _ _) (by first | first | omega | exact bo_ir _ _ _) (fun r129 => ?_)
              refine pw_callS (As := [ii_ (h1 mOp i), ii_ (h1 mPile ((top + (-1)) - 1)), ii_ (h1 mPile (top + (-1)))]) (rest := [ii_ ((top + (-1)) - 1), rr_ G mPile]) (pc := 130) dX12_worthAt_130 (c_both h1 (h1 mOp i) (h1 mPile ((top + (-1)) - 1)) (h1 mPile (top + (-1))) (by first | first | omega | exact bo_ir _ _ _) (by first | first | omega | exact bo_ir _ _ _) (by first | first | omega | exact bo_ir _ _ _)) lX12_352 mX12_both sX12_both rfl rfl (by decide) ⟨Nat.zero_le _, Nat.zero_le _⟩ (Nat.le_of_ble_eq_true rfl) (k_i (fun z130 h130 y130 q130 => ?_))
              obtain ⟨rfl, rfl⟩ := q130
              refine pw_iast (pc := 133) dX12_worthAt_133 (im_mPile hM) k_mPile 1100 l_mPile (by first | first | omega | exact bo_ir _ _ _) (by first | first | omega | exact bo_ir _ _ _) (by first | first | omega | exact bo_ir _ _ _) (by first | first | omega | exact bo_ir _ _ _) ?_
              obtain ⟨g133, e133⟩ : ∃ x, x = up_ h1 mPile ((top + (-1)) - 1) (bo_ (h1 mOp i) (h1 mPile ((top + (-1)) - 1)) (h1 mPile (top + (-1)))) := ⟨_, rfl⟩
              refine pw_heq e133 ?_
              obtain ⟨st3, s3⟩ : ∃ q, q = bo_ c x y :: r := ⟨_, rfl⟩
              have ls : st3.length = r.length + 1 := by rw [s3]; rfl
              have nf : off_ [mPile] h g133 := by rw [e133]; exact off_up af (by decide)
              have nd : dpt_ P3 st3.length := by rw [ls]; exact d3.2
              have ns : stk_ (g133 mPile) st3 := by rw [s3, e133]; exact ⟨by rw [up_at, if_pos (by omega), m1, x1, y1], stk_up a_s.2.2 (by omega)⟩
              have ne : evl_ (h mFacts) P3 st3 = evl_ (h mFacts) P [] := by rw [← ae, s3]; show _ = evl_ _ P3 (es_ _ c a (y :: x :: r)); rw [es_b c4]
              refine pw_iinc (z := i) (lv1 := [some (rr_ G mo_), some (ii_ fr), some (ii_ (top + (-1))), some (ii_ (i + 1)), some (ii_ (h1 mOp i))]) (pc := 134) dX12_worthAt_134 rfl (by decide) rfl rfl ?_
              refine pw_goto (t := 4) (pc := 137) dX12_worthAt_137 (by decide) ?_
              refine pw_less (lv1 := [some (rr_ G mo_), some (ii_ fr), some (ii_ (top + (-1))), some (ii_ (i + 1)), none]) rfl (by intro i v; (match i with | 0 => simp | 1 => simp | 2 => simp | 3 => simp | 4 => simp | n + 5 => simp)) ?_
              exact ih4 _ _ P3 st3 _ (nf) (k5) (by omega) (by simp at *; omega) (ns) (nd) (ne) (by omega)
            · have c3 : c = 3 := by omega
              have d3 := dpt_n ad c3
              obtain ⟨x, r, rfl⟩ := len_1 d3.1
              have lr : (x :: r).length = r.length + 1 := rfl
              have x1 : h1 mPile (top - 1) = x := by rw [show top - 1 = (r.length : Int) by omega]; exact a_s.1
              refine pw_aload_n (z := mo_) (pc := 77) dX12_worthAt_77 rfl rfl ?_
              refine pw_getR (r := mPile) (pc := 78) dX12_worthAt_78 fX12_127 (im_mo_ hM) k_mo_ rfl fr_mPile ?_
              refine pw_iload_n (z := top) (pc := 81) dX12_worthAt_81 rfl rfl ?_
              refine pw_iconst (pc := 82) dX12_worthAt_82 ?_
              refine pw_isub (pc := 83) dX12_worthAt_83 ?_
              refine pw_aload_n (z := mo_) (pc := 84) dX12_worthAt_84 rfl rfl ?_
              refine pw_getR (r := mPile) (pc := 85) dX12_worthAt_85 fX12_127 (im_mo_ hM) k_mo_ rfl fr_mPile ?_
              refine pw_iload_n (z := top) (pc := 88) dX12_worthAt_88 rfl rfl ?_
              refine pw_iconst (pc := 89) dX12_worthAt_89 ?_
              refine pw_isub (pc := 90) dX12_worthAt_90 ?_
              refine pw_iald (pc := 91) dX12_worthAt_91 (im_mPile hM) k_mPile 1100 l_mPile (by first | first | omega | exact bo_ir _ _ _) (by first | first | omega | exact bo_ir _ _ _) (by first | first | omega | exact bo_ir _ _ _) (fun r91 => ?_)
              have J100 : ∀ (v : Int), (v = (if x = 0 then 1 else 0)) → PW G RX12 cX12_worthAt 5 (some .int) (rm_ 2) 0 0 (zm_ G (qi_ (fun z h' => off_ [mPile] h h' ∧ z = ew_ (h mFacts) P))) 100 [some (rr_ G mo_), some (ii_ fr), some (ii_ top), some (ii_ i), some (ii_ (h1 mOp i))] [ii_ v, ii_ (top - 1), rr_ G mPile] h1 := by
                intro v hv2
                refine pw_iast (pc := 100) dX12_worthAt_100 (im_mPile hM) k_mPile 1100 l_mPile (by first | first | omega | exact bo_ir _ _ _) (by first | first | omega | exact bo_ir _ _ _) (by first | first | omega | exact bo_ir _ _ _) (by first | first | omega | exact bo_ir _ _ _) ?_
                obtain ⟨g100, e100⟩ : ∃ x, x = up_ h1 mPile (top - 1) v := ⟨_, rfl⟩
                refine pw_heq e100 ?_
                obtain ⟨st3, s3⟩ : ∃ y, y = (if x = 0 then 1 else 0) :: r := ⟨_, rfl⟩
                have ls : st3.length = r.length + 1 := by rw [s3]; rfl
                have nf : off_ [mPile] h g100 := by rw [e100]; exact off_up af (by decide)
                have nd : dpt_ P3 st3.length := by rw [ls]; exact d3.2
                have ns : stk_ (g100 mPile) st3 := by rw [s3, e100]; exact ⟨by rw [up_at, if_pos (by omega)]; exact hv2, stk_up a_s.2 (by omega)⟩
                have ne : evl_ (h mFacts) P3 st3 = evl_ (h mFacts) P [] := by rw [← ae, s3]; show _ = evl_ _ P3 (es_ _ c a (x :: r)); rw [c3, es_3]
                refine pw_goto (t := 134) (pc := 101) dX12_worthAt_101 (by decide) ?_
                
                refine pw_iinc (z := i) (lv1 := [some (rr_ G mo_), some (ii_ fr), some (ii_ top), some (ii_ (i + 1)), some (ii_ (h1 mOp i))]) (pc := 134) dX12_worthAt_134 rfl (by decide) rfl rfl ?_
                refine pw_goto (t := 4) (pc := 137) dX12_worthAt_137 (by decide) ?_
                refine pw_less (lv1 := [some (rr_ G mo_), some (ii_ fr), some (ii_ top), some (ii_ (i + 1)), none]) rfl (by intro i v; (match i with | 0 => simp | 1 => simp | 2 => simp | 3 => simp | 4 => simp | n + 5 => simp)) ?_
                exact ih4 _ _ P3 st3 _ (nf) (k5) (by omega) (by simp at *; omega) (ns) (nd) (ne) (by omega)
              refine pw_if_ne (t := 99) (pc := 92) dX12_worthAt_92 (by decide) (by first | first | omega | exact bo_ir _ _ _) (fun c92 => ?_) (fun c92 => ?_)
              · refine pw_iconst (pc := 99) dX12_worthAt_99 ?_
                exact J100 _ (by rw [x1] at c92; first | rw [if_pos c92] | rw [if_neg c92])
              · refine pw_iconst (pc := 95) dX12_worthAt_95 ?_
                refine pw_goto (t := 100) (pc := 96) dX12_worthAt_96 (by decide) ?_
                exact J100 _ (by rw [x1] at c92; first | rw [if_pos c92] | rw [if_neg c92])
          · refine pw_aload_n (z := mo_) (pc := 33) dX12_worthAt_33 rfl rfl ?_
            refine pw_getR (r := mPile) (pc := 34) dX12_worthAt_34 fX12_127 (im_mo_ hM) k_mo_ rfl fr_mPile ?_
            refine pw_iload_n (z := top) (pc := 37) dX12_worthAt_37 rfl rfl ?_
            have J64 : ∀ (v : Int), (v = (es_ (h mFacts) c a st).headD 0 ∧ es_ (h mFacts) c a st = v :: st ∧ ir_ v) → PW G RX12 cX12_worthAt 5 (some .int) (rm_ 2) 0 0 (zm_ G (qi_ (fun z h' => off_ [mPile] h h' ∧ z = ew_ (h mFacts) P))) 64 [some (rr_ G mo_), some (ii_ fr), some (ii_ top), some (ii_ i), some (ii_ (h1 mOp i))] [ii_ v, ii_ top, rr_ G mPile] h1 := by
              intro v hv
              refine pw_iast (pc := 64) dX12_worthAt_64 (im_mPile hM) k_mPile 1100 l_mPile (by first | first | omega | exact bo_ir _ _ _) (by first | first | omega | exact bo_ir _ _ _) (by first | first | omega | exact bo_ir _ _ _) (by first | first | omega | exact bo_ir _ _ _) ?_
              obtain ⟨g64, e64⟩ : ∃ x, x = up_ h1 mPile top v := ⟨_, rfl⟩
              refine pw_heq e64 ?_
              have hc12 : c = 1 ∨ c = 2 := by omega
              obtain ⟨st3, s3⟩ : ∃ x, x = v :: st := ⟨_, rfl⟩
              have ls : st3.length = st.length + 1 := by rw [s3]; rfl
              have nf : off_ [mPile] h g64 := by rw [e64]; exact off_up af (by decide)
              have nd : dpt_ P3 st3.length := by rw [ls]; exact dpt_p ad hc12
              have ns : stk_ (g64 mPile) st3 := by rw [s3, e64]; exact ⟨by rw [up_at, if_pos (by omega)], stk_up a_s (by omega)⟩
              have ne : evl_ (h mFacts) P3 st3 = evl_ (h mFacts) P [] := by rw [← ae, s3]; show _ = evl_ _ P3 (es_ _ c a st); rw [hv.2.1]
              refine pw_iinc (z := top) (lv1 := [some (rr_ G mo_), some (ii_ fr), some (ii_ (top + 1)), some (ii_ i), some (ii_ (h1 mOp i))]) (pc := 65) dX12_worthAt_65 rfl (by decide) rfl rfl ?_
              refine pw_goto (t := 134) (pc := 68) dX12_worthAt_68 (by decide) ?_
              
              refine pw_iinc (z := i) (lv1 := [some (rr_ G mo_), some (ii_ fr), some (ii_ (top + 1)), some (ii_ (i + 1)), some (ii_ (h1 mOp i))]) (pc := 134) dX12_worthAt_134 rfl (by decide) rfl rfl ?_
              refine pw_goto (t := 4) (pc := 137) dX12_worthAt_137 (by decide) ?_
              refine pw_less (lv1 := [some (rr_ G mo_), some (ii_ fr), some (ii_ (top + 1)), some (ii_ (i + 1)), none]) rfl (by intro i v; (match i with | 0 => simp | 1 => simp | 2 => simp | 3 => simp | 4 => simp | n + 5 => simp)) ?_
              exact ih4 _ _ P3 st3 _ (nf) (k5) (by omega) (by simp at *; omega) (ns) (nd) (ne) (by omega)
            refine pw_iload (z := h1 mOp i) (pc := 38) dX12_worthAt_38 rfl ?_
            refine pw_iconst (pc := 40) dX12_worthAt_40 ?_
            refine pw_icmp_ne (t := 53) (pc := 41) dX12_worthAt_41 (by decide) (by first | first | omega | exact bo_ir _ _ _) (by first | first | omega | exact bo_ir _ _ _) (fun c41 => ?_) (fun c41 => ?_)
            · refine pw_aload_n (z := mo_) (pc := 53) dX12_worthAt_53 rfl rfl ?_
              refine pw_getR (r := mFacts) (pc := 54) dX12_worthAt_54 fX12_124 (im_mo_ hM) k_mo_ rfl fr_mFacts ?_
              refine pw_aload_n (z := mo_) (pc := 57) dX12_worthAt_57 rfl rfl ?_
              refine pw_getR (r := mArg) (pc := 58) dX12_worthAt_58 fX12_103 (im_mo_ hM) k_mo_ rfl fr_mArg ?_
              refine pw_iload_n (z := i) (pc := 61) dX12_worthAt_61 rfl rfl ?_
              refine pw_iald (pc := 62) dX12_worthAt_62 (im_mArg hM) k_mArg 2200 l_mArg (by first | first | omega | exact bo_ir _ _ _) (by first | first | omega | exact bo_ir _ _ _) (by first | first | omega | exact bo_ir _ _ _) (fun r62 => ?_)
              refine pw_iald (pc := 63) dX12_worthAt_63 (im_mFacts hM) k_mFacts 5 l_mFacts (by first | first | omega | exact bo_ir _ _ _) (by first | first | omega | exact bo_ir _ _ _) (by first | first | omega | exact bo_ir _ _ _) (fun r63 => ?_)
              exact J64 _ (by (try rw [m2]); (try rw [o3]); first | (rw [show c = 1 by omega]; exact ⟨rfl, rfl, by omega⟩) | (rw [show c = 2 by omega]; refine ⟨rfl, rfl, ?_⟩; rw [m2, o3] at r63; exact r63))
            · refine pw_aload_n (z := mo_) (pc := 44) dX12_worthAt_44 rfl rfl ?_
              refine pw_getR (r := mArg) (pc := 45) dX12_worthAt_45 fX12_103 (im_mo_ hM) k_mo_ rfl fr_mArg ?_
              refine pw_iload_n (z := i) (pc := 48) dX12_worthAt_48 rfl rfl ?_
              refine pw_iald (pc := 49) dX12_worthAt_49 (im_mArg hM) k_mArg 2200 l_mArg (by first | first | omega | exact bo_ir _ _ _) (by first | first | omega | exact bo_ir _ _ _) (by first | first | omega | exact bo_ir _ _ _) (fun r49 => ?_)
              refine pw_goto (t := 64) (pc := 50) dX12_worthAt_50 (by decide) ?_
              exact J64 _ (by (try rw [m2]); (try rw [o3]); first | (rw [show c = 1 by omega]; exact ⟨rfl, rfl, by omega⟩) | (rw [show c = 2 by omega]; refine ⟨rfl, rfl, ?_⟩; rw [m2, o3] at r63; exact r63))
  exact L4 _ _ _ P [] _ (off_rf) (hc) (hb) (by simp; exact hl) (trivial) (hd) (rfl) (Int.self_le_toNat _)

set_option maxHeartbeats 4000000 in
set_option maxRecDepth 100000 in
theorem c_worthOn {G : GT_} (hM : okM_ G) (h : PH_) (hS : 2 ≤ h mRoads 0 ∧ h mRoads 0 ≤ 4) (hR : 0 ≤ h mRoads 2 ∧ h mRoads 2 ≤ h mRoads 0) (P : List (Int × Int)) (hw : 0 ≤ h mRoads 5 → law_ (h mOp) (h mArg) (h mRoads 5) P) (r s t tip : Int) (h1 : 0 ≤ r ∧ r ≤ 3) (h2 : 0 ≤ s ∧ s ≤ 3) (h3 : 0 ≤ t ∧ t ≤ 3) (h4 : ir_ tip) : PC G yX12_worthOn cX12_worthOn 6 (some .int) 3 [rr_ G mo_, ii_ r, ii_ s, ii_ t, ii_ tip] h (qi_ (fun z h' => off_ [mFacts, mPile] h h' ∧ z = wv_ (h mRoads) P r s t tip)) := by
  refine PC.of (lv := [some (rr_ G mo_), some (ii_ r), some (ii_ s), some (ii_ t), some (ii_ tip), none]) (by decide +kernel) (Nat.le_of_ble_eq_true rfl) rfl rfl ?_
  refine pw_aload_n (z := mo_) (pc := 0) dX12_worthOn_0 rfl rfl ?_
  refine pw_iload_n (z := t) (pc := 1) dX12_worthOn_1 rfl rfl ?_
  refine pw_iconst (pc := 2) dX12_worthOn_2 ?_
  refine pw_iload_n (z := s) (pc := 3) dX12_worthOn_3 rfl rfl ?_
  refine pw_iadd (pc := 4) dX12_worthOn_4 ?_
  refine pw_callV (c := 12) (o := mo_) (As := [ii_ t, ii_ (1 + s)]) (rest := []) (pc := 5) dX12_worthOn_5 (c_stretchOf hM h (t) (1 + s) (by first | first | omega | exact wr_ir _) (by first | first | omega | exact wr_ir _)) lX12_381 mX12_stretchOf vX12_stretchOf (im_mo_ hM) k_mo_ rfl rfl rfl (by decide) ⟨Nat.zero_le _, Nat.zero_le _⟩ (Nat.le_of_ble_eq_true rfl) (k_i (fun z5 h5 y5 q5 => ?_))
  obtain ⟨rfl, rfl⟩ := q5
  refine pw_aload_n (z := mo_) (pc := 8) dX12_worthOn_8 rfl rfl ?_
  refine pw_iload_n (z := t) (pc := 9) dX12_worthOn_9 rfl rfl ?_
  refine pw_iconst (pc := 10) dX12_worthOn_10 ?_
  refine pw_callV (c := 12) (o := mo_) (As := [ii_ t, ii_ 0]) (rest := [ii_ (h mRoads (11 + 5 * (t) + (1 + s)))]) (pc := 11) dX12_worthOn_11 (c_stretchOf hM h (t) (0) (by first | first | omega | exact wr_ir _) (by first | first | omega | exact wr_ir _)) lX12_381 mX12_stretchOf vX12_stretchOf (im_mo_ hM) k_mo_ rfl rfl rfl (by decide) ⟨Nat.zero_le _, Nat.zero_le _⟩ (Nat.le_of_ble_eq_true rfl) (k_i (fun z11 h11 y11 q11 => ?_))
  obtain ⟨rfl, rfl⟩ := q11
  refine pw_imul (pc := 14) dX12_worthOn_14 ?_
  refine pw_norm ?_
  refine pw_istore (lv1 := [some (rr_ G mo_), some (ii_ r), some (ii_ s), some (ii_ t), some (ii_ tip), some (ii_ (wr_ ((h mRoads (11 + 5 * (t) + (1 + s))) * (h mRoads (11 + 5 * (t) + (0))))))]) (pc := 15) dX12_worthOn_15 (by decide) rfl rfl ?_
  have J103 : ∀ (v : Int) (h2 : PH_), (v = (if h mRoads 5 < 0 then wr_ (h mRoads (11 + 5 * t + (1 + s)) * h mRoads (11 + 5 * t)) else ew_ (wof_ (h mRoads) r s t tip) P) ∧ ir_ v) → (off_ [mFacts, mPile] h h2) → PW G RX12 cX12_worthOn 6 (some .int) (rm_ 3) 0 0 (zm_ G (qi_ (fun z h' => off_ [mFacts, mPile] h h' ∧ z = wv_ (h mRoads) P r s t tip))) 103 [some (rr_ G mo_), some (ii_ r), some (ii_ s), some (ii_ t), some (ii_ tip), some (ii_ v)] [] h2 := by
    intro v h2 hv hf
    refine pw_iload (z := v) (pc := 103) dX12_worthOn_103 rfl ?_
    refine pw_if_ge (t := 112) (pc := 105) dX12_worthOn_105 (by decide) (by first | first | omega | exact wr_ir _) (fun c105 => ?_) (fun c105 => ?_)
    · refine pw_iload (z := v) (pc := 112) dX12_worthOn_112 rfl ?_
      refine pw_sipush (pc := 114) dX12_worthOn_114 rfl ?_
      refine pw_icmp_le (t := 126) (pc := 117) dX12_worthOn_117 (by decide) (by first | first | omega | exact wr_ir _) (by first | first | omega | exact wr_ir _) (fun c117 => ?_) (fun c117 => ?_)
      · refine pw_iload (z := v) (pc := 126) dX12_worthOn_126 rfl ?_
        exact pw_iret (pc := 128) dX12_worthOn_128 (by first | first | omega | exact wr_ir _) (⟨hf, by unfold wv_; rw [← hv.1]; unfold cl9_; (repeat' split) <;> omega⟩)
      · refine pw_sipush (pc := 120) dX12_worthOn_120 rfl ?_
        refine pw_goto (t := 128) (pc := 123) dX12_worthOn_123 (by decide) ?_
        exact pw_iret (pc := 128) dX12_worthOn_128 (by first | first | omega | exact wr_ir _) (⟨hf, by unfold wv_; rw [← hv.1]; unfold cl9_; (repeat' split) <;> omega⟩)
    · refine pw_iconst (pc := 108) dX12_worthOn_108 ?_
      refine pw_goto (t := 128) (pc := 109) dX12_worthOn_109 (by decide) ?_
      exact pw_iret (pc := 128) dX12_worthOn_128 (by first | first | omega | exact wr_ir _) (⟨hf, by unfold wv_; rw [← hv.1]; unfold cl9_; (repeat' split) <;> omega⟩)
  refine pw_aload_n (z := mo_) (pc := 17) dX12_worthOn_17 rfl rfl ?_
  refine pw_getR (r := mRoads) (pc := 18) dX12_worthOn_18 fX12_97 (im_mo_ hM) k_mo_ rfl fr_mRoads ?_
  refine pw_iconst (pc := 21) dX12_worthOn_21 ?_
  refine pw_iald (pc := 22) dX12_worthOn_22 (im_mRoads hM) k_mRoads 160 l_mRoads (by first | first | omega | exact wr_ir _) (by first | first | omega | exact wr_ir _) (by first | first | omega | exact wr_ir _) (fun r22 => ?_)
  refine pw_if_lt (t := 103) (pc := 23) dX12_worthOn_23 (by decide) (by first | first | omega | exact wr_ir _) (fun c23 => ?_) (fun c23 => ?_)
  · exact J103 _ _ (by (try simp only [Int.add_zero]); first | (rw [if_pos c23]; exact ⟨rfl, wr_ir _⟩) | (rw [if_neg c23]; refine ⟨?_, by omega⟩; rw [w98]; unfold ew_; rw [evl_cg fq lw.1])) (by first | exact off_rf | exact off_tr nf (off_mo u98 (by decide)))
  · refine pw_aload_n (z := mo_) (pc := 26) dX12_worthOn_26 rfl rfl ?_
    refine pw_getR (r := mFacts) (pc := 27) dX12_worthOn_27 fX12_124 (im_mo_ hM) k_mo_ rfl fr_mFacts ?_
    refine pw_iconst (pc := 30) dX12_worthOn_30 ?_
    refine pw_aload_n (z := mo_) (pc := 31) dX12_worthOn_31 rfl rfl ?_
    refine pw_iload_n (z := t) (pc := 32) dX12_worthOn_32 rfl rfl ?_
    refine pw_iconst (pc := 33) dX12_worthOn_33 ?_
    refine pw_iload_n (z := s) (pc := 34) dX12_worthOn_34 rfl rfl ?_
    refine pw_iadd (pc := 35) dX12_worthOn_35 ?_
    refine pw_callV (c := 12) (o := mo_) (As := [ii_ t, ii_ (1 + s)]) (rest := [ii_ 0, rr_ G mFacts]) (pc := 36) dX12_worthOn_36 (c_stretchOf hM h (t) (1 + s) (by first | first | omega | exact wr_ir _) (by first | first | omega | exact wr_ir _)) lX12_381 mX12_stretchOf vX12_stretchOf (im_mo_ hM) k_mo_ rfl rfl rfl (by decide) ⟨Nat.zero_le _, Nat.zero_le _⟩ (Nat.le_of_ble_eq_true rfl) (k_i (fun z36 h36 y36 q36 => ?_))
    obtain ⟨rfl, rfl⟩ := q36
    refine pw_iast (pc := 39) dX12_worthOn_39 (im_mFacts hM) k_mFacts 5 l_mFacts (by first | first | omega | exact wr_ir _) (by first | first | omega | exact wr_ir _) (by first | first | omega | exact wr_ir _) (by first | first | omega | exact wr_ir _) ?_
    obtain ⟨g39, e39⟩ : ∃ x, x = up_ h mFacts 0 (h mRoads (11 + 5 * (t) + (1 + s))) := ⟨_, rfl⟩
    refine pw_heq e39 ?_
    refine pw_aload_n (z := mo_) (pc := 40) dX12_worthOn_40 rfl rfl ?_
    refine pw_getR (r := mFacts) (pc := 41) dX12_worthOn_41 fX12_124 (im_mo_ hM) k_mo_ rfl fr_mFacts ?_
    refine pw_iconst (pc := 44) dX12_worthOn_44 ?_
    refine pw_aload_n (z := mo_) (pc := 45) dX12_worthOn_45 rfl rfl ?_
    refine pw_iload_n (z := t) (pc := 46) dX12_worthOn_46 rfl rfl ?_
    refine pw_iconst (pc := 47) dX12_worthOn_47 ?_
    refine pw_callV (c := 12) (o := mo_) (As := [ii_ t, ii_ 0]) (rest := [ii_ 1, rr_ G mFacts]) (pc := 48) dX12_worthOn_48 (c_stretchOf hM g39 (t) (0) (by first | first | omega | exact wr_ir _) (by first | first | omega | exact wr_ir _)) lX12_381 mX12_stretchOf vX12_stretchOf (im_mo_ hM) k_mo_ rfl rfl rfl (by decide) ⟨Nat.zero_le _, Nat.zero_le _⟩ (Nat.le_of_ble_eq_true rfl) (k_i (fun z48 h48 y48 q48 => ?_))
    obtain ⟨rfl, rfl⟩ := q48
    have n_g39_mRoads : g39 mRoads = h mRoads := (by rw [e39]; exact up_off (by decide))
    rw [n_g39_mRoads] at y48 ⊢
    refine pw_iast (pc := 51) dX12_worthOn_51 (im_mFacts hM) k_mFacts 5 l_mFacts (by first | first | omega | exact wr_ir _ | (simp only [n_g39_mRoads]; omega)) (by first | first | omega | exact wr_ir _ | (simp only [n_g39_mRoads]; omega)) (by first | first | omega | exact wr_ir _ | (simp only [n_g39_mRoads]; omega)) (by first | first | omega | exact wr_ir _ | (simp only [n_g39_mRoads]; omega)) ?_
    obtain ⟨g51, e51⟩ : ∃ x, x = up_ g39 mFacts 1 (h mRoads (11 + 5 * (t) + (0))) := ⟨_, rfl⟩
    refine pw_heq e51 ?_
    refine pw_aload_n (z := mo_) (pc := 52) dX12_worthOn_52 rfl rfl ?_
    refine pw_getR (r := mFacts) (pc := 53) dX12_worthOn_53 fX12_124 (im_mo_ hM) k_mo_ rfl fr_mFacts ?_
    refine pw_iconst (pc := 56) dX12_worthOn_56 ?_
    refine pw_aload_n (z := mo_) (pc := 57) dX12_worthOn_57 rfl rfl ?_
    refine pw_iload_n (z := r) (pc := 58) dX12_worthOn_58 rfl rfl ?_
    refine pw_iconst (pc := 59) dX12_worthOn_59 ?_
    refine pw_callV (c := 12) (o := mo_) (As := [ii_ r, ii_ 0]) (rest := [ii_ 2, rr_ G mFacts]) (pc := 60) dX12_worthOn_60 (c_riderOf hM g51 (r) (0) (by first | first | omega | exact wr_ir _ | (simp only [n_g39_mRoads]; omega)) (by first | first | omega | exact wr_ir _ | (simp only [n_g39_mRoads]; omega))) lX12_355 mX12_riderOf vX12_riderOf (im_mo_ hM) k_mo_ rfl rfl rfl (by decide) ⟨Nat.zero_le _, Nat.zero_le _⟩ (Nat.le_of_ble_eq_true rfl) (k_i (fun z60 h60 y60 q60 => ?_))
    obtain ⟨rfl, rfl⟩ := q60
    have n_g51_mRoads : g51 mRoads = h mRoads := ((show g51 mRoads = g39 mRoads from (by rw [e51]; exact up_off (by decide))).trans (show g39 mRoads = h mRoads from (by rw [e39]; exact up_off (by decide))))
    rw [n_g51_mRoads] at y60 ⊢
    refine pw_iast (pc := 63) dX12_worthOn_63 (im_mFacts hM) k_mFacts 5 l_mFacts (by first | first | omega | exact wr_ir _ | (simp only [n_g39_mRoads, n_g51_mRoads]; omega)) (by first | first | omega | exact wr_ir _ | (simp only [n_g39_mRoads, n_g51_mRoads]; omega)) (by first | first | omega | exact wr_ir _ | (simp only [n_g39_mRoads, n_g51_mRoads]; omega)) (by first | first | omega | exact wr_ir _ | (simp only [n_g39_mRoads, n_g51_mRoads]; omega)) ?_
    obtain ⟨g63, e63⟩ : ∃ x, x = up_ g51 mFacts 2 (h mRoads (31 + 4 * (r) + (0))) := ⟨_, rfl⟩
    refine pw_heq e63 ?_
    have q63 : g63 mRoads = h mRoads := by rw [e63, e51, e39]; rw [up_off (by decide), up_off (by decide), up_off (by decide)]
    have q630 : g63 mRoads 0 = h mRoads 0 := by rw [q63]
    have J82 : ∀ (v : Int), (v = (if s = 0 ∨ s = h mRoads 0 - 1 then 1 else 0)) → PW G RX12 cX12_worthOn 6 (some .int) (rm_ 3) 0 0 (zm_ G (qi_ (fun z h' => off_ [mFacts, mPile] h h' ∧ z = wv_ (h mRoads) P r s t tip))) 82 [some (rr_ G mo_), some (ii_ r), some (ii_ s), some (ii_ t), some (ii_ tip), some (ii_ (wr_ ((h mRoads (11 + 5 * (t) + (1 + s))) * (h mRoads (11 + 5 * (t) + (0))))))] [ii_ v, ii_ 3, rr_ G mFacts] g63 := by
      intro v hv
      refine pw_iast (pc := 82) dX12_worthOn_82 (im_mFacts hM) k_mFacts 5 l_mFacts (by first | first | omega | exact wr_ir _ | (simp only [n_g39_mRoads, n_g51_mRoads]; omega)) (by first | first | omega | exact wr_ir _ | (simp only [n_g39_mRoads, n_g51_mRoads]; omega)) (by first | first | omega | exact wr_ir _ | (simp only [n_g39_mRoads, n_g51_mRoads]; omega)) (by first | first | omega | exact wr_ir _ | (simp only [n_g39_mRoads, n_g51_mRoads]; omega)) ?_
      obtain ⟨g82, e82⟩ : ∃ x, x = up_ g63 mFacts 3 v := ⟨_, rfl⟩
      refine pw_heq e82 ?_
      refine pw_aload_n (z := mo_) (pc := 83) dX12_worthOn_83 rfl rfl ?_
      refine pw_getR (r := mFacts) (pc := 84) dX12_worthOn_84 fX12_124 (im_mo_ hM) k_mo_ rfl fr_mFacts ?_
      refine pw_iconst (pc := 87) dX12_worthOn_87 ?_
      refine pw_iload (z := tip) (pc := 88) dX12_worthOn_88 rfl ?_
      refine pw_iast (pc := 90) dX12_worthOn_90 (im_mFacts hM) k_mFacts 5 l_mFacts (by first | first | omega | exact wr_ir _ | (simp only [n_g39_mRoads, n_g51_mRoads]; omega)) (by first | first | omega | exact wr_ir _ | (simp only [n_g39_mRoads, n_g51_mRoads]; omega)) (by first | first | omega | exact wr_ir _ | (simp only [n_g39_mRoads, n_g51_mRoads]; omega)) (by first | first | omega | exact wr_ir _ | (simp only [n_g39_mRoads, n_g51_mRoads]; omega)) ?_
      obtain ⟨g90, e90⟩ : ∃ x, x = up_ g82 mFacts 4 tip := ⟨_, rfl⟩
      refine pw_heq e90 ?_
      have qo : off_ [mFacts] h g90 := by rw [e90, e82, e63, e51, e39]; exact off_up (off_up (off_up (off_up (off_up off_rf (by decide)) (by decide)) (by decide)) (by decide)) (by decide)
      have q1 : g90 mRoads = h mRoads := qo _ (by decide)
      have q15 : g90 mRoads 5 = h mRoads 5 := by rw [q1]
      have lw : law_ (g90 mOp) (g90 mArg) (h mRoads 5) P := by rw [qo mOp (by decide), qo mArg (by decide)]; exact hw (by omega)
      have nf : off_ [mFacts, mPile] h g90 := off_mo qo (by decide)
      have fq : ∀ k, 0 ≤ k → k ≤ 4 → g90 mFacts k = wof_ (h mRoads) r s t tip k := by
        intro k k0 k4
        have kk : k = 0 ∨ k = 1 ∨ k = 2 ∨ k = 3 ∨ k = 4 := by omega
        rw [e90, e82, e63, e51, e39]
        rcases kk with rfl | rfl | rfl | rfl | rfl <;> simp [up_ap, wof_, hv]
      refine pw_aload_n (z := mo_) (pc := 91) dX12_worthOn_91 rfl rfl ?_
      refine pw_aload_n (z := mo_) (pc := 92) dX12_worthOn_92 rfl rfl ?_
      refine pw_getR (r := mRoads) (pc := 93) dX12_worthOn_93 fX12_97 (im_mo_ hM) k_mo_ rfl fr_mRoads ?_
      refine pw_iconst (pc := 96) dX12_worthOn_96 ?_
      refine pw_iald (pc := 97) dX12_worthOn_97 (im_mRoads hM) k_mRoads 160 l_mRoads (by first | first | omega | exact wr_ir _ | (simp only [n_g39_mRoads, n_g51_mRoads]; omega)) (by first | first | omega | exact wr_ir _ | (simp only [n_g39_mRoads, n_g51_mRoads]; omega)) (by first | first | omega | exact wr_ir _ | (simp only [n_g39_mRoads, n_g51_mRoads]; omega)) (fun r97 => ?_)
      have n_g90_mRoads : g90 mRoads = h mRoads := (((((show g90 mRoads = g82 mRoads from (by rw [e90]; exact up_off (by decide))).trans (show g82 mRoads = g63 mRoads from (by rw [e82]; exact up_off (by decide)))).trans (show g63 mRoads = g51 mRoads from (by rw [e63]; exact up_off (by decide)))).trans (show g51 mRoads = g39 mRoads from (by rw [e51]; exact up_off (by decide)))).trans (show g39 mRoads = h mRoads from (by rw [e39]; exact up_off (by decide))))
      rw [n_g90_mRoads] at r97 ⊢
      refine pw_callV (c := 12) (o := mo_) (As := [ii_ (h mRoads 5)]) (rest := []) (pc := 98) dX12_worthOn_98 (c_worthAt hM g90 (h mRoads 5) P lw.1 lw.2.1 lw.2.2.1 lw.2.2.2) lX12_384 mX12_worthAt vX12_worthAt (im_mo_ hM) k_mo_ rfl rfl rfl (by decide) ⟨Nat.zero_le _, Nat.zero_le _⟩ (Nat.le_of_ble_eq_true rfl) (k_i (fun z98 h98 y98 q98 => ?_))
      obtain ⟨u98, w98⟩ := q98
      refine pw_istore (lv1 := [some (rr_ G mo_), some (ii_ r), some (ii_ s), some (ii_ t), some (ii_ tip), some (ii_ z98)]) (pc := 101) dX12_worthOn_101 (by decide) rfl rfl ?_
      exact J103 _ _ (by (try simp only [Int.add_zero]); first | (rw [if_pos c23]; exact ⟨rfl, wr_ir _⟩) | (rw [if_neg c23]; refine ⟨?_, by omega⟩; rw [w98]; unfold ew_; rw [evl_cg fq lw.1])) (by first | exact off_rf | exact off_tr nf (off_mo u98 (by decide)))
    refine pw_aload_n (z := mo_) (pc := 64) dX12_worthOn_64 rfl rfl ?_
    refine pw_getR (r := mFacts) (pc := 65) dX12_worthOn_65 fX12_124 (im_mo_ hM) k_mo_ rfl fr_mFacts ?_
    refine pw_iconst (pc := 68) dX12_worthOn_68 ?_
    refine pw_aload_n (z := mo_) (pc := 69) dX12_worthOn_69 rfl rfl ?_
    refine pw_iload_n (z := s) (pc := 70) dX12_worthOn_70 rfl rfl ?_
    have n_g63_mRoads : g63 mRoads = h mRoads := (((show g63 mRoads = g51 mRoads from (by rw [e63]; exact up_off (by decide))).trans (show g51 mRoads = g39 mRoads from (by rw [e51]; exact up_off (by decide)))).trans (show g39 mRoads = h mRoads from (by rw [e39]; exact up_off (by decide))))
    refine pw_callV (c := 12) (o := mo_) (As := [ii_ s]) (rest := [ii_ 3, rr_ G mFacts]) (pc := 71) dX12_worthOn_71 (c_isEnd hM g63 (s) (by first | first | omega | exact wr_ir _ | (simp only [n_g39_mRoads, n_g51_mRoads, n_g63_mRoads]; omega)) (by first | first | omega | exact wr_ir _ | (simp only [n_g39_mRoads, n_g51_mRoads, n_g63_mRoads]; omega))) lX12_371 mX12_isEnd vX12_isEnd (im_mo_ hM) k_mo_ rfl rfl rfl (by decide) ⟨Nat.zero_le _, Nat.zero_le _⟩ (Nat.le_of_ble_eq_true rfl) (k_i (fun z71 h71 y71 q71 => ?_))
    obtain ⟨rfl, ⟨rfl, p71⟩ | ⟨rfl, p71⟩⟩ := q71
    · simp -failIfUnchanged only [n_g63_mRoads] at p71
      refine pw_if_eq (t := 81) (pc := 74) dX12_worthOn_74 (by decide) (by first | first | omega | exact wr_ir _ | (simp only [n_g39_mRoads, n_g51_mRoads, n_g63_mRoads]; omega)) (fun c74 => absurd c74 (by decide)) (fun _ => ?_)
      refine pw_iconst (pc := 77) dX12_worthOn_77 ?_
      refine pw_goto (t := 82) (pc := 78) dX12_worthOn_78 (by decide) ?_
      exact J82 _ (by first | rw [if_pos (by omega)] | rw [if_neg (by omega)])
    · simp -failIfUnchanged only [n_g63_mRoads] at p71
      refine pw_if_eq (t := 81) (pc := 74) dX12_worthOn_74 (by decide) (by first | first | omega | exact wr_ir _ | (simp only [n_g39_mRoads, n_g51_mRoads, n_g63_mRoads]; omega)) (fun _ => ?_) (fun c74 => absurd c74 (by decide))
      refine pw_iconst (pc := 81) dX12_worthOn_81 ?_
      exact J82 _ (by first | rw [if_pos (by omega)] | rw [if_neg (by omega)])

