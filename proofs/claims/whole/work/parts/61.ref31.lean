/-! ===== signs come behind the tape ===== -/
abbrev TP_ : Type := (Int → Int) × Int
def gsn_ (c : Int) : Prop := c = 10 ∨ 32 ≤ c ∧ c ≤ 126
noncomputable def ly1_ (c : Int) (s : TP_) : TP_ := if_ (gsn_ c ∧ s.2 < 1000) (ob_ s.1 s.2 c, s.2 + 1) s
noncomputable def ly8_ (v : Int) : Nat → TP_ → TP_
  | 0, s => s
  | j + 1, s => ly1_ (v / 2 ^ (56 - 8 * j) % 256) (ly8_ v j s)
def tpo_ (s : TP_) : Prop := (0 ≤ s.2 ∧ s.2 ≤ 1000) ∧ ∀ x, 0 ≤ x → x < s.2 → gsn_ (s.1 x)
theorem ly1_o {c : Int} {s : TP_} (h : tpo_ s) : tpo_ (ly1_ c s) := by
  unfold ly1_
  by_cases g : gsn_ c ∧ s.2 < 1000
  · rw [if_t g]
    refine ⟨by show 0 ≤ s.2 + 1 ∧ s.2 + 1 ≤ 1000; have := h.1; omega, fun x x0 x1 => ?_⟩
    show gsn_ (if x = s.2 then c else s.1 x)
    by_cases e : x = s.2
    · rw [if_pos e]; exact g.1
    · rw [if_neg e]; exact h.2 x x0 (by have x2 : x < s.2 + 1 := x1; omega)
  · rw [if_f g]; exact h
theorem ly8_o {v : Int} {s : TP_} (h : tpo_ s) : ∀ j, tpo_ (ly8_ v j s)
  | 0 => h
  | j + 1 => ly1_o (ly8_o h j)
def tpe_ (s t : TP_) : Prop := s.2 = t.2 ∧ ∀ x, 0 ≤ x → x < s.2 → s.1 x = t.1 x
theorem ly1_e {c : Int} {s t : TP_} (h : tpe_ s t) : tpe_ (ly1_ c s) (ly1_ c t) := by
  unfold ly1_
  rw [← h.1]
  by_cases g : gsn_ c ∧ s.2 < 1000
  · rw [if_t g, if_t g]
    refine ⟨rfl, fun x x0 x1 => ?_⟩
    show (if x = s.2 then c else s.1 x) = (if x = s.2 then c else t.1 x)
    by_cases e : x = s.2
    · rw [if_pos e, if_pos e]
    · rw [if_neg e, if_neg e]; exact h.2 x x0 (by have x2 : x < s.2 + 1 := x1; omega)
  · rw [if_f g, if_f g]; exact h
theorem ly8_e {v : Int} {s t : TP_} (h : tpe_ s t) : ∀ j, tpe_ (ly8_ v j s) (ly8_ v j t)
  | 0 => h
  | j + 1 => ly1_e (ly8_e h j)
noncomputable def fed_ (a b c : Int) (s : TP_) : TP_ := ly8_ c 8 (ly8_ b 8 (ly8_ a 8 s))

set_option maxHeartbeats 4000000 in
set_option maxRecDepth 100000 in
theorem c_lay {G : GT_} (hM : okM_ G) (h : PH_) (v : Int) (hv : lr_ v) (ht : tpo_ (h mTape, h mo_ 2)) : PC G yX12_lay cX12_lay 5 none 1 [rr_ G mo_, ll_ v] h (qv_ (fun h' => off_ [mTape, mo_] h h' ∧ (∀ k, k ≠ 2 → h' mo_ k = h mo_ k) ∧ (h' mTape, h' mo_ 2) = ly8_ v 8 (h mTape, h mo_ 2))) := by
  refine PC.of (lv := [some (rr_ G mo_), some (ll_ v), none, none, none]) (by decide +kernel) (Nat.le_of_ble_eq_true rfl) rfl rfl ?_
  refine pw_bipush (pc := 0) dX12_lay_0 rfl ?_
  refine pw_istore_n (lv1 := [some (rr_ G mo_), some (ll_ v), none, some (ii_ 56), none]) (pc := 2) dX12_lay_2 rfl (by decide) rfl rfl ?_
  have L3 : ∀ (nn : Nat) (k : Int) (j : Nat) (hq : PH_), (k = 56 - 8 * (j : Int) ∧ j ≤ 8) → (off_ [mTape, mo_] h hq) → (∀ q, q ≠ 2 → hq mo_ q = h mo_ q) → ((hq mTape, hq mo_ 2) = ly8_ v j (h mTape, h mo_ 2)) → (0 ≤ hq mo_ 2 ∧ hq mo_ 2 ≤ 1000) → ((k + 10 : Int) ≤ nn) → PW G RX12 cX12_lay 5 none (rm_ 1) 0 0 (zm_ G (qv_ (fun h' => off_ [mTape, mo_] h h' ∧ (∀ k, k ≠ 2 → h' mo_ k = h mo_ k) ∧ (h' mTape, h' mo_ 2) = ly8_ v 8 (h mTape, h mo_ 2)))) 3 [some (rr_ G mo_), some (ll_ v), none, some (ii_ k), none] [] hq := by
    intro nn
    induction nn with
    | zero => intro k j hq ak af ao ae at1 ams; exfalso; omega
    | succ nn ih3 =>
      intro k j hq ak af ao ae at1 ams
      refine pw_iload_n (z := k) (pc := 3) dX12_lay_3 rfl rfl ?_
      refine pw_if_lt (t := 75) (pc := 4) dX12_lay_4 (by decide) (by first | omega) (fun c4 => ?_) (fun c4 => ?_)
      · exact pw_vret (pc := 75) dX12_lay_75 (⟨af, ao, by rw [ae, show j = 8 by omega]⟩)
      · have e5 : (2 : Int) ^ k.toNat = 2 ^ (56 - 8 * j) := by rw [show k.toNat = 56 - 8 * j by omega]
        refine pw_lload_n (z := v) (pc := 7) dX12_lay_7 rfl rfl ?_
        refine pw_iload_n (z := k) (pc := 8) dX12_lay_8 rfl rfl ?_
        refine pw_lshr (pc := 9) dX12_lay_9 (by first | omega) (by unfold by_; omega) ?_
        refine pw_l2i (pc := 10) dX12_lay_10 ?_
        refine pw_sipush (pc := 11) dX12_lay_11 rfl ?_
        refine pw_iand255 (pc := 14) dX12_lay_14 ?_
        refine pw_istore (lv1 := [some (rr_ G mo_), some (ll_ v), none, some (ii_ k), some (ii_ ((v / 2 ^ k.toNat) % 256))]) (pc := 15) dX12_lay_15 (by decide) rfl rfl ?_
        obtain ⟨c, hc0⟩ : ∃ c, c = v / 2 ^ k.toNat % 256 := ⟨_, rfl⟩
        have cb : 0 ≤ c ∧ c < 256 := by omega
        have hc : c = v / 2 ^ (56 - 8 * j) % 256 := by rw [hc0, e5]
        have ls : ly8_ v (j + 1) (h mTape, h mo_ 2) = ly1_ c (hq mTape, hq mo_ 2) := by rw [ae, hc]; rfl
        have J69 : ∀ (h2 : PH_), (off_ [mTape, mo_] h h2) → (∀ q, q ≠ 2 → h2 mo_ q = h mo_ q) → ((h2 mTape, h2 mo_ 2) = ly8_ v (j + 1) (h mTape, h mo_ 2)) → (0 ≤ h2 mo_ 2 ∧ h2 mo_ 2 ≤ 1000) → PW G RX12 cX12_lay 5 none (rm_ 1) 0 0 (zm_ G (qv_ (fun h' => off_ [mTape, mo_] h h' ∧ (∀ k, k ≠ 2 → h' mo_ k = h mo_ k) ∧ (h' mTape, h' mo_ 2) = ly8_ v 8 (h mTape, h mo_ 2)))) 69 [some (rr_ G mo_), some (ll_ v), none, some (ii_ k), none] [] h2 := by
          intro h2 jf jo je jt
          refine pw_iinc (z := k) (lv1 := [some (rr_ G mo_), some (ll_ v), none, some (ii_ (k + (-8))), none]) (pc := 69) dX12_lay_69 rfl (by decide) rfl rfl ?_
          refine pw_goto (t := 3) (pc := 72) dX12_lay_72 (by decide) ?_
          exact ih3 _ (j + 1) _ (by omega) (jf) (jo) (je) (jt) (by omega)
        rw [← hc0]
        refine pw_iload (z := c) (pc := 17) dX12_lay_17 rfl ?_
        refine pw_bipush (pc := 19) dX12_lay_19 rfl ?_
        refine pw_icmp_eq (t := 38) (pc := 21) dX12_lay_21 (by decide) (by first | omega) (by first | omega) (fun c21 => ?_) (fun c21 => ?_)
        · refine pw_aload_n (z := mo_) (pc := 38) dX12_lay_38 rfl rfl ?_
          refine pw_gI (x := 2) (pc := 39) dX12_lay_39 fX12_11 (im_mo_ hM) k_mo_ rfl rfl (fun r39 => ?_)
          refine pw_sipush (pc := 42) dX12_lay_42 rfl ?_
          refine pw_icmp_ge (t := 69) (pc := 45) dX12_lay_45 (by decide) (by first | omega) (by first | omega) (fun c45 => ?_) (fun c45 => ?_)
          · refine pw_less (lv1 := [some (rr_ G mo_), some (ll_ v), none, some (ii_ k), none]) rfl (by intro i v; (match i with | 0 => simp | 1 => simp | 2 => simp | 3 => simp | 4 => simp | n + 5 => simp)) ?_
            exact J69 _ (by first | exact af | (rw [e66, e58]; exact off_up (off_up af (by decide)) (by decide))) (by first | exact ao | exact fun q q1 => by rw [e66, up_at, if_neg q1, e58, up_off (by decide)]; exact ao q q1) (by
                    rw [ls]; unfold ly1_
                    first
                    | (rw [if_f (by unfold gsn_; show ¬ (_ ∧ hq mo_ 2 < 1000); omega)]; done)
                    | (rw [if_t (by unfold gsn_; show _ ∧ hq mo_ 2 < 1000; omega), e66, up_off (by decide), up_same, e58, up_ob]; done)) (by first | exact at1 | (rw [e66, up_same]; omega))
          · refine pw_aload_n (z := mo_) (pc := 48) dX12_lay_48 rfl rfl ?_
            refine pw_getR (r := mTape) (pc := 49) dX12_lay_49 fX12_14 (im_mo_ hM) k_mo_ rfl fr_mTape ?_
            refine pw_aload_n (z := mo_) (pc := 52) dX12_lay_52 rfl rfl ?_
            refine pw_gI (x := 2) (pc := 53) dX12_lay_53 fX12_11 (im_mo_ hM) k_mo_ rfl rfl (fun r53 => ?_)
            refine pw_iload (z := c) (pc := 56) dX12_lay_56 rfl ?_
            refine pw_iast (pc := 58) dX12_lay_58 (im_mTape hM) k_mTape 1000 l_mTape (by first | omega) (by first | omega) (by first | omega) (by first | omega) ?_
            obtain ⟨g58, e58⟩ : ∃ x, x = up_ hq mTape (hq mo_ 2) c := ⟨_, rfl⟩
            refine pw_heq e58 ?_
            refine pw_aload_n (z := mo_) (pc := 59) dX12_lay_59 rfl rfl ?_
            refine pw_dup (pc := 60) dX12_lay_60 rfl ?_
            refine pw_gI (x := 2) (pc := 61) dX12_lay_61 fX12_11 (im_mo_ hM) k_mo_ rfl rfl (fun r61 => ?_)
            have n_g58_mo__2 : g58 mo_ 2 = hq mo_ 2 := (by rw [e58, up_off (by decide)])
            rw [n_g58_mo__2] at r61 ⊢
            refine pw_iconst (pc := 64) dX12_lay_64 ?_
            refine pw_iadd (pc := 65) dX12_lay_65 ?_
            refine pw_pI (x := 2) (pc := 66) dX12_lay_66 fX12_11 (im_mo_ hM) k_mo_ rfl rfl (by first | omega | (simp only [n_g58_mo__2]; omega)) ?_
            obtain ⟨g66, e66⟩ : ∃ x, x = up_ g58 mo_ 2 ((hq mo_ 2) + 1) := ⟨_, rfl⟩
            refine pw_heq e66 ?_
            refine pw_less (lv1 := [some (rr_ G mo_), some (ll_ v), none, some (ii_ k), none]) rfl (by intro i v; (match i with | 0 => simp | 1 => simp | 2 => simp | 3 => simp | 4 => simp | n + 5 => simp)) ?_
            exact J69 _ (by first | exact af | (rw [e66, e58]; exact off_up (off_up af (by decide)) (by decide))) (by first | exact ao | exact fun q q1 => by rw [e66, up_at, if_neg q1, e58, up_off (by decide)]; exact ao q q1) (by
                    rw [ls]; unfold ly1_
                    first
                    | (rw [if_f (by unfold gsn_; show ¬ (_ ∧ hq mo_ 2 < 1000); omega)]; done)
                    | (rw [if_t (by unfold gsn_; show _ ∧ hq mo_ 2 < 1000; omega), e66, up_off (by decide), up_same, e58, up_ob]; done)) (by first | exact at1 | (rw [e66, up_same]; omega))
        · refine pw_iload (z := c) (pc := 24) dX12_lay_24 rfl ?_
          refine pw_bipush (pc := 26) dX12_lay_26 rfl ?_
          refine pw_icmp_lt (t := 69) (pc := 28) dX12_lay_28 (by decide) (by first | omega) (by first | omega) (fun c28 => ?_) (fun c28 => ?_)
          · refine pw_less (lv1 := [some (rr_ G mo_), some (ll_ v), none, some (ii_ k), none]) rfl (by intro i v; (match i with | 0 => simp | 1 => simp | 2 => simp | 3 => simp | 4 => simp | n + 5 => simp)) ?_
            exact J69 _ (by first | exact af | (rw [e66, e58]; exact off_up (off_up af (by decide)) (by decide))) (by first | exact ao | exact fun q q1 => by rw [e66, up_at, if_neg q1, e58, up_off (by decide)]; exact ao q q1) (by
                    rw [ls]; unfold ly1_
                    first
                    | (rw [if_f (by unfold gsn_; show ¬ (_ ∧ hq mo_ 2 < 1000); omega)]; done)
                    | (rw [if_t (by unfold gsn_; show _ ∧ hq mo_ 2 < 1000; omega), e66, up_off (by decide), up_same, e58, up_ob]; done)) (by first | exact at1 | (rw [e66, up_same]; omega))
          · refine pw_iload (z := c) (pc := 31) dX12_lay_31 rfl ?_
            refine pw_bipush (pc := 33) dX12_lay_33 rfl ?_
            refine pw_icmp_gt (t := 69) (pc := 35) dX12_lay_35 (by decide) (by first | omega) (by first | omega) (fun c35 => ?_) (fun c35 => ?_)
            · refine pw_less (lv1 := [some (rr_ G mo_), some (ll_ v), none, some (ii_ k), none]) rfl (by intro i v; (match i with | 0 => simp | 1 => simp | 2 => simp | 3 => simp | 4 => simp | n + 5 => simp)) ?_
              exact J69 _ (by first | exact af | (rw [e66, e58]; exact off_up (off_up af (by decide)) (by decide))) (by first | exact ao | exact fun q q1 => by rw [e66, up_at, if_neg q1, e58, up_off (by decide)]; exact ao q q1) (by
                      rw [ls]; unfold ly1_
                      first
                      | (rw [if_f (by unfold gsn_; show ¬ (_ ∧ hq mo_ 2 < 1000); omega)]; done)
                      | (rw [if_t (by unfold gsn_; show _ ∧ hq mo_ 2 < 1000; omega), e66, up_off (by decide), up_same, e58, up_ob]; done)) (by first | exact at1 | (rw [e66, up_same]; omega))
            · refine pw_aload_n (z := mo_) (pc := 38) dX12_lay_38 rfl rfl ?_
              refine pw_gI (x := 2) (pc := 39) dX12_lay_39 fX12_11 (im_mo_ hM) k_mo_ rfl rfl (fun r39 => ?_)
              refine pw_sipush (pc := 42) dX12_lay_42 rfl ?_
              refine pw_icmp_ge (t := 69) (pc := 45) dX12_lay_45 (by decide) (by first | omega) (by first | omega) (fun c45 => ?_) (fun c45 => ?_)
              · refine pw_less (lv1 := [some (rr_ G mo_), some (ll_ v), none, some (ii_ k), none]) rfl (by intro i v; (match i with | 0 => simp | 1 => simp | 2 => simp | 3 => simp | 4 => simp | n + 5 => simp)) ?_
                exact J69 _ (by first | exact af | (rw [e66, e58]; exact off_up (off_up af (by decide)) (by decide))) (by first | exact ao | exact fun q q1 => by rw [e66, up_at, if_neg q1, e58, up_off (by decide)]; exact ao q q1) (by
                        rw [ls]; unfold ly1_
                        first
                        | (rw [if_f (by unfold gsn_; show ¬ (_ ∧ hq mo_ 2 < 1000); omega)]; done)
                        | (rw [if_t (by unfold gsn_; show _ ∧ hq mo_ 2 < 1000; omega), e66, up_off (by decide), up_same, e58, up_ob]; done)) (by first | exact at1 | (rw [e66, up_same]; omega))
              · refine pw_aload_n (z := mo_) (pc := 48) dX12_lay_48 rfl rfl ?_
                refine pw_getR (r := mTape) (pc := 49) dX12_lay_49 fX12_14 (im_mo_ hM) k_mo_ rfl fr_mTape ?_
                refine pw_aload_n (z := mo_) (pc := 52) dX12_lay_52 rfl rfl ?_
                refine pw_gI (x := 2) (pc := 53) dX12_lay_53 fX12_11 (im_mo_ hM) k_mo_ rfl rfl (fun r53 => ?_)
                refine pw_iload (z := c) (pc := 56) dX12_lay_56 rfl ?_
                refine pw_iast (pc := 58) dX12_lay_58 (im_mTape hM) k_mTape 1000 l_mTape (by first | omega) (by first | omega) (by first | omega) (by first | omega) ?_
                obtain ⟨g58, e58⟩ : ∃ x, x = up_ hq mTape (hq mo_ 2) c := ⟨_, rfl⟩
                refine pw_heq e58 ?_
                refine pw_aload_n (z := mo_) (pc := 59) dX12_lay_59 rfl rfl ?_
                refine pw_dup (pc := 60) dX12_lay_60 rfl ?_
                refine pw_gI (x := 2) (pc := 61) dX12_lay_61 fX12_11 (im_mo_ hM) k_mo_ rfl rfl (fun r61 => ?_)
                have n_g58_mo__2 : g58 mo_ 2 = hq mo_ 2 := (by rw [e58, up_off (by decide)])
                rw [n_g58_mo__2] at r61 ⊢
                refine pw_iconst (pc := 64) dX12_lay_64 ?_
                refine pw_iadd (pc := 65) dX12_lay_65 ?_
                refine pw_pI (x := 2) (pc := 66) dX12_lay_66 fX12_11 (im_mo_ hM) k_mo_ rfl rfl (by first | omega | (simp only [n_g58_mo__2]; omega)) ?_
                obtain ⟨g66, e66⟩ : ∃ x, x = up_ g58 mo_ 2 ((hq mo_ 2) + 1) := ⟨_, rfl⟩
                refine pw_heq e66 ?_
                refine pw_less (lv1 := [some (rr_ G mo_), some (ll_ v), none, some (ii_ k), none]) rfl (by intro i v; (match i with | 0 => simp | 1 => simp | 2 => simp | 3 => simp | 4 => simp | n + 5 => simp)) ?_
                exact J69 _ (by first | exact af | (rw [e66, e58]; exact off_up (off_up af (by decide)) (by decide))) (by first | exact ao | exact fun q q1 => by rw [e66, up_at, if_neg q1, e58, up_off (by decide)]; exact ao q q1) (by
                        rw [ls]; unfold ly1_
                        first
                        | (rw [if_f (by unfold gsn_; show ¬ (_ ∧ hq mo_ 2 < 1000); omega)]; done)
                        | (rw [if_t (by unfold gsn_; show _ ∧ hq mo_ 2 < 1000; omega), e66, up_off (by decide), up_same, e58, up_ob]; done)) (by first | exact at1 | (rw [e66, up_same]; omega))
  exact L3 _ _ 0 _ (by omega) (off_rf) (fun _ _ => rfl) (rfl) (ht.1) (Int.self_le_toNat _)

set_option maxHeartbeats 4000000 in
set_option maxRecDepth 100000 in
theorem c_feed {G : GT_} (hM : okM_ G) (h : PH_) (a b c : Int) (ha : lr_ a) (hb : lr_ b) (hc : lr_ c) (ht : tpo_ (h mTape, h mo_ 2)) : PC G yX12_feed cX12_feed 7 (some .int) 2 [rr_ G mo_, ll_ a, ll_ b, ll_ c] h (qi_ (fun z h' => off_ [mTape, mo_] h h' ∧ (∀ k, k ≠ 0 → k ≠ 2 → h' mo_ k = h mo_ k) ∧ h' mo_ 0 = 0 ∧ (h' mTape, h' mo_ 2) = fed_ a b c (h mTape, h mo_ 2) ∧ z = (fed_ a b c (h mTape, h mo_ 2)).2)) := by
  refine PC.of (lv := [some (rr_ G mo_), some (ll_ a), none, some (ll_ b), none, some (ll_ c), none]) (by decide +kernel) (Nat.le_of_ble_eq_true rfl) rfl rfl ?_
  refine pw_aload_n (z := mo_) (pc := 0) dX12_feed_0 rfl rfl ?_
  refine pw_iconst (pc := 1) dX12_feed_1 ?_
  refine pw_pI (x := 0) (pc := 2) dX12_feed_2 fX12_1 (im_mo_ hM) k_mo_ rfl rfl (by first | omega) ?_
  obtain ⟨g2, e2⟩ : ∃ x, x = up_ h mo_ 0 0 := ⟨_, rfl⟩
  refine pw_heq e2 ?_
  refine pw_aload_n (z := mo_) (pc := 5) dX12_feed_5 rfl rfl ?_
  refine pw_lload_n (z := a) (pc := 6) dX12_feed_6 rfl rfl ?_
  have k0 : (g2 mTape, g2 mo_ 2) = (h mTape, h mo_ 2) := by rw [e2, up_off (by decide), up_at, if_neg (by decide)]
  refine pw_callV (c := 12) (o := mo_) (As := [ll_ a]) (rest := []) (pc := 7) dX12_feed_7 (c_lay hM g2 a ha (by rw [k0]; exact ht)) lX12_7 mX12_lay vX12_lay (im_mo_ hM) k_mo_ rfl rfl rfl (by decide) ⟨Nat.zero_le _, Nat.zero_le _⟩ (Nat.le_of_ble_eq_true rfl) (k_v (fun h7 q7 => ?_))
  obtain ⟨f7, o7, r7⟩ := q7
  rw [k0] at r7
  refine pw_aload_n (z := mo_) (pc := 10) dX12_feed_10 rfl rfl ?_
  refine pw_lload_n (z := b) (pc := 11) dX12_feed_11 rfl rfl ?_
  refine pw_callV (c := 12) (o := mo_) (As := [ll_ b]) (rest := []) (pc := 12) dX12_feed_12 (c_lay hM h7 b hb (by rw [r7]; exact ly8_o ht 8)) lX12_7 mX12_lay vX12_lay (im_mo_ hM) k_mo_ rfl rfl rfl (by decide) ⟨Nat.zero_le _, Nat.zero_le _⟩ (Nat.le_of_ble_eq_true rfl) (k_v (fun h12 q12 => ?_))
  obtain ⟨f12, o12, r12⟩ := q12
  rw [r7] at r12
  refine pw_aload_n (z := mo_) (pc := 15) dX12_feed_15 rfl rfl ?_
  refine pw_lload (z := c) (pc := 16) dX12_feed_16 rfl ?_
  refine pw_callV (c := 12) (o := mo_) (As := [ll_ c]) (rest := []) (pc := 18) dX12_feed_18 (c_lay hM h12 c hc (by rw [r12]; exact ly8_o (ly8_o ht 8) 8)) lX12_7 mX12_lay vX12_lay (im_mo_ hM) k_mo_ rfl rfl rfl (by decide) ⟨Nat.zero_le _, Nat.zero_le _⟩ (Nat.le_of_ble_eq_true rfl) (k_v (fun h18 q18 => ?_))
  obtain ⟨f18, o18, r18⟩ := q18
  rw [r12] at r18
  refine pw_aload_n (z := mo_) (pc := 21) dX12_feed_21 rfl rfl ?_
  refine pw_gI (x := 2) (pc := 22) dX12_feed_22 fX12_11 (im_mo_ hM) k_mo_ rfl rfl (fun r22 => ?_)
  exact pw_iret (pc := 25) dX12_feed_25 (by first | omega) (⟨off_tr (off_tr (off_tr (by rw [e2]; exact off_up off_rf (by decide)) f7) f12) f18, fun k k0 k2 => by rw [o18 k k2, o12 k k2, o7 k k2, e2, up_at, if_neg k0], by rw [o18 0 (by decide), o12 0 (by decide), o7 0 (by decide), e2, up_same], r18, congrArg Prod.snd r18⟩)

