/-! ===== the class itself ===== -/
/-- the road in use: what was told, its law of worth, what was worked out -/
def CLD_ (ro : Int → Int) (P : List (Int × Int)) (h : PH_) (o : Nat) : Prop := CRD_ ro h o ∧ CLP_ ro P h o ∧ CWM_ ro P h o
theorem CLD_off {ro : Int → Int} {P : List (Int × Int)} {h h' : PH_} {o : Nat} (H : CLD_ ro P h o) (ho : is6_ o) {L : List Nat} (f : off_ L h h') (hL : ∀ i ∈ L, 36 ≤ i) : CLD_ ro P h' o := by
  have e : ∀ k, k ≤ 15 → h' (o + k) = h (o + k) := fun k hk => f _ (fun u => by have := hL _ u; omega)
  refine ⟨CRD_off H.1 ho f hL, CLP_cg H.2.1 (e 9 (by omega)) (e 12 (by omega)) (e 13 (by omega)) (e 8 (by omega)), ?_⟩
  unfold CWM_; rw [e 15 (by omega)]; exact H.2.2
theorem CLD_w {ro : Int → Int} {P : List (Int × Int)} {h h' : PH_} {o : Nat} (H : CLD_ ro P h o) (ho : is6_ o) {L : List Nat} (f : off_ L h h') (hL : ∀ i ∈ L, 36 ≤ i ∨ i = o + 10 ∨ i = o + 11 ∨ i = o + 15) (hm : CWM_ ro P h' o) : CLD_ ro P h' o := by
  have e : ∀ k, k ≤ 15 → k ≠ 10 → k ≠ 11 → k ≠ 15 → h' (o + k) = h (o + k) := fun k hk h1 h2 h3 => f _ (fun u => by have := hL _ u; omega)
  have e0 : h' o = h o := e 0 (by omega) (by omega) (by omega) (by omega)
  exact ⟨CRD_cg H.1 (fun k _ => congrFun e0 k) (e 1 (by omega) (by omega) (by omega) (by omega)) (e 3 (by omega) (by omega) (by omega) (by omega)) (e 4 (by omega) (by omega) (by omega) (by omega)) (e 5 (by omega) (by omega) (by omega) (by omega)) (e 6 (by omega) (by omega) (by omega) (by omega)) (e 7 (by omega) (by omega) (by omega) (by omega)), CLP_cg H.2.1 (e 9 (by omega) (by omega) (by omega) (by omega)) (e 12 (by omega) (by omega) (by omega) (by omega)) (e 13 (by omega) (by omega) (by omega) (by omega)) (e 8 (by omega) (by omega) (by omega) (by omega)), hm⟩
theorem vp_si {ro si : Int → Int} {p : Int} (hS : 2 ≤ ro 0 ∧ ro 0 ≤ 4) (hR : 0 ≤ ro 2 ∧ ro 2 ≤ ro 0) (hv : vp_ok (ro 0) (ro 2) p) (q : ∀ r, 0 ≤ r → r < ro 2 → si r = dg_ (ro 2) p r) : (∀ r, 0 ≤ r → r < ro 2 → 0 ≤ si r ∧ si r < ro 0) ∧ inj_ si (ro 2) := by
  have v := (vp_sea hS ⟨hR.1, by omega⟩).mp hv
  refine ⟨fun r r0 r1 => by rw [q r r0 r1]; exact ⟨(dg_b _ _ _).1, vp_dg hv ⟨r0, r1⟩⟩, fun e f e0 ef f1 hf => ?_⟩
  have i := sea_inj v.2.2 e f e0 ef f1
  rw [q f (by omega) f1] at hf
  rw [q e e0 (by omega), q f (by omega) f1]
  exact i hf

theorem jca_cg {ro : Int → Int} {P : List (Int × Int)} {h h' : PH_} (H : jca_ ro P h) (e : h' 151 11 = h 151 11) (f : h' 160 = h 160) : jca_ ro P h' := by unfold jca_ at *; rw [e, f]; exact H

set_option maxHeartbeats 4000000 in
set_option maxRecDepth 100000 in
theorem d_isRider {G : GT_} (hC : okC_ G) (h : PH_) (o : Nat) (ho : is6_ o) (hL : h 0 2 = (o : Int)) (ro : Int → Int) (H : CRD_ ro h o) (r : Int) (hr : ir_ r) : PC G yX11_isRider cX11_isRider 2 (some .boolean) 1 [rr_ G 0, ii_ r] h (qi_ (fun z h' => h = h' ∧ (z = 1 ∧ (0 ≤ r ∧ r < ro 2) ∨ z = 0 ∧ ¬ (0 ≤ r ∧ r < ro 2)))) := by
  have hL_h := hL
  have HB := H.2.1
  have HA := H.1
  refine PC.of (lv := [some (rr_ G 0), some (ii_ r)]) (by decide +kernel) (Nat.le_of_ble_eq_true rfl) rfl rfl ?_
  refine pw_iload_n (z := r) (pc := 0) dX11_isRider_0 rfl rfl ?_
  refine pw_if_lt (t := 19) (pc := 1) dX11_isRider_1 (by decide) (by first | omega) (fun c1 => ?_) (fun c1 => ?_)
  · refine pw_iconst (pc := 19) dX11_isRider_19 ?_
    exact pw_zret (pc := 20) dX11_isRider_20 (by first | omega) (⟨rfl, by omega⟩)
  · refine pw_iload_n (z := r) (pc := 4) dX11_isRider_4 rfl rfl ?_
    refine pw_aload_n (z := 0) (pc := 5) dX11_isRider_5 rfl rfl ?_
    refine pw_gD (x := 2) (r := o) (pc := 6) dX11_isRider_6 fX11_28 (hC 0 (by decide)) (show kd_ 0 = 21 by decide +kernel) rfl rfl hL_h ?_
    refine pw_gI (x := 2) (pc := 9) dX11_isRider_9 fX11_242 (hC _ (by omega)) (kd6_0 ho) rfl rfl (fun r9 => ?_)
    refine pw_icmp_ge (t := 19) (pc := 12) dX11_isRider_12 (by decide) (by first | omega) (by first | omega) (fun c12 => ?_) (fun c12 => ?_)
    · refine pw_iconst (pc := 19) dX11_isRider_19 ?_
      exact pw_zret (pc := 20) dX11_isRider_20 (by first | omega) (⟨rfl, by omega⟩)
    · refine pw_iconst (pc := 15) dX11_isRider_15 ?_
      refine pw_goto (t := 20) (pc := 16) dX11_isRider_16 (by decide) ?_
      exact pw_zret (pc := 20) dX11_isRider_20 (by first | omega) (⟨rfl, by omega⟩)

set_option maxHeartbeats 4000000 in
set_option maxRecDepth 100000 in
theorem d_isSeat {G : GT_} (hC : okC_ G) (h : PH_) (o : Nat) (ho : is6_ o) (hL : h 0 2 = (o : Int)) (ro : Int → Int) (H : CRD_ ro h o) (r : Int) (hr : ir_ r) : PC G yX11_isSeat cX11_isSeat 2 (some .boolean) 1 [rr_ G 0, ii_ r] h (qi_ (fun z h' => h = h' ∧ (z = 1 ∧ (0 ≤ r ∧ r < ro 0) ∨ z = 0 ∧ ¬ (0 ≤ r ∧ r < ro 0)))) := by
  have hL_h := hL
  have HB := H.2.1
  have HA := H.1
  refine PC.of (lv := [some (rr_ G 0), some (ii_ r)]) (by decide +kernel) (Nat.le_of_ble_eq_true rfl) rfl rfl ?_
  refine pw_iload_n (z := r) (pc := 0) dX11_isSeat_0 rfl rfl ?_
  refine pw_if_lt (t := 19) (pc := 1) dX11_isSeat_1 (by decide) (by first | omega) (fun c1 => ?_) (fun c1 => ?_)
  · refine pw_iconst (pc := 19) dX11_isSeat_19 ?_
    exact pw_zret (pc := 20) dX11_isSeat_20 (by first | omega) (⟨rfl, by omega⟩)
  · refine pw_iload_n (z := r) (pc := 4) dX11_isSeat_4 rfl rfl ?_
    refine pw_aload_n (z := 0) (pc := 5) dX11_isSeat_5 rfl rfl ?_
    refine pw_gD (x := 2) (r := o) (pc := 6) dX11_isSeat_6 fX11_28 (hC 0 (by decide)) (show kd_ 0 = 21 by decide +kernel) rfl rfl hL_h ?_
    refine pw_gI (x := 0) (pc := 9) dX11_isSeat_9 fX11_179 (hC _ (by omega)) (kd6_0 ho) rfl rfl (fun r9 => ?_)
    refine pw_icmp_ge (t := 19) (pc := 12) dX11_isSeat_12 (by decide) (by first | omega) (by first | omega) (fun c12 => ?_) (fun c12 => ?_)
    · refine pw_iconst (pc := 19) dX11_isSeat_19 ?_
      exact pw_zret (pc := 20) dX11_isSeat_20 (by first | omega) (⟨rfl, by omega⟩)
    · refine pw_iconst (pc := 15) dX11_isSeat_15 ?_
      refine pw_goto (t := 20) (pc := 16) dX11_isSeat_16 (by decide) ?_
      exact pw_zret (pc := 20) dX11_isSeat_20 (by first | omega) (⟨rfl, by omega⟩)

set_option maxHeartbeats 4000000 in
set_option maxRecDepth 100000 in
theorem d_isStretch {G : GT_} (hC : okC_ G) (h : PH_) (o : Nat) (ho : is6_ o) (hL : h 0 2 = (o : Int)) (ro : Int → Int) (H : CRD_ ro h o) (r : Int) (hr : ir_ r) : PC G yX11_isStretch cX11_isStretch 2 (some .boolean) 1 [rr_ G 0, ii_ r] h (qi_ (fun z h' => h = h' ∧ (z = 1 ∧ (0 ≤ r ∧ r < ro 1) ∨ z = 0 ∧ ¬ (0 ≤ r ∧ r < ro 1)))) := by
  have hL_h := hL
  have HB := H.2.1
  have HA := H.1
  refine PC.of (lv := [some (rr_ G 0), some (ii_ r)]) (by decide +kernel) (Nat.le_of_ble_eq_true rfl) rfl rfl ?_
  refine pw_iload_n (z := r) (pc := 0) dX11_isStretch_0 rfl rfl ?_
  refine pw_if_lt (t := 19) (pc := 1) dX11_isStretch_1 (by decide) (by first | omega) (fun c1 => ?_) (fun c1 => ?_)
  · refine pw_iconst (pc := 19) dX11_isStretch_19 ?_
    exact pw_zret (pc := 20) dX11_isStretch_20 (by first | omega) (⟨rfl, by omega⟩)
  · refine pw_iload_n (z := r) (pc := 4) dX11_isStretch_4 rfl rfl ?_
    refine pw_aload_n (z := 0) (pc := 5) dX11_isStretch_5 rfl rfl ?_
    refine pw_gD (x := 2) (r := o) (pc := 6) dX11_isStretch_6 fX11_28 (hC 0 (by decide)) (show kd_ 0 = 21 by decide +kernel) rfl rfl hL_h ?_
    refine pw_gI (x := 1) (pc := 9) dX11_isStretch_9 fX11_239 (hC _ (by omega)) (kd6_0 ho) rfl rfl (fun r9 => ?_)
    refine pw_icmp_ge (t := 19) (pc := 12) dX11_isStretch_12 (by decide) (by first | omega) (by first | omega) (fun c12 => ?_) (fun c12 => ?_)
    · refine pw_iconst (pc := 19) dX11_isStretch_19 ?_
      exact pw_zret (pc := 20) dX11_isStretch_20 (by first | omega) (⟨rfl, by omega⟩)
    · refine pw_iconst (pc := 15) dX11_isStretch_15 ?_
      refine pw_goto (t := 20) (pc := 16) dX11_isStretch_16 (by decide) ?_
      exact pw_zret (pc := 20) dX11_isStretch_20 (by first | omega) (⟨rfl, by omega⟩)

set_option maxHeartbeats 4000000 in
set_option maxRecDepth 100000 in
theorem d_feed {G : GT_} (hC : okC_ G) (h : PH_) (a b c : Int) (ha : lr_ a) (hb : lr_ b) (hc : lr_ c) (ht : tpo_ (h 2, h 1 2)) : PC G yX11_feed cX11_feed 7 (some .int) 2 [rr_ G 0, ll_ a, ll_ b, ll_ c] h (qi_ (fun z h' => off_ [1, 2] h h' ∧ (∀ k, k ≠ 2 → h' 1 k = h 1 k) ∧ (h' 2, h' 1 2) = fed_ a b c (h 2, h 1 2) ∧ z = (fed_ a b c (h 2, h 1 2)).2)) := by
  refine PC.of (lv := [some (rr_ G 0), some (ll_ a), none, some (ll_ b), none, some (ll_ c), none]) (by decide +kernel) (Nat.le_of_ble_eq_true rfl) rfl rfl ?_
  refine pw_aload_n (z := 0) (pc := 0) dX11_feed_0 rfl rfl ?_
  refine pw_getR (r := 1) (pc := 1) dX11_feed_1 fX11_10 (hC 0 (by decide)) (show kd_ 0 = 21 by decide +kernel) rfl (by decide +kernel) ?_
  refine pw_lload_n (z := a) (pc := 4) dX11_feed_4 rfl rfl ?_
  refine pw_callV (c := 8) (o := 1) (As := [ll_ a]) (rest := []) (pc := 5) dX11_feed_5 (d_addBytes hC h a ha ht) lX11_114 mX8_addBytesOf vX8_addBytesOf (hC 1 (by decide)) (show kd_ 1 = 18 by decide +kernel) rfl rfl rfl (by decide) ⟨Nat.zero_le _, Nat.zero_le _⟩ (Nat.le_of_ble_eq_true rfl) (k_v (fun h5 q5 => ?_))
  obtain ⟨f5, o5, r5⟩ := q5
  refine pw_aload_n (z := 0) (pc := 8) dX11_feed_8 rfl rfl ?_
  refine pw_getR (r := 1) (pc := 9) dX11_feed_9 fX11_10 (hC 0 (by decide)) (show kd_ 0 = 21 by decide +kernel) rfl (by decide +kernel) ?_
  refine pw_lload_n (z := b) (pc := 12) dX11_feed_12 rfl rfl ?_
  refine pw_callV (c := 8) (o := 1) (As := [ll_ b]) (rest := []) (pc := 13) dX11_feed_13 (d_addBytes hC h5 b hb (by rw [r5]; exact ly8_o ht 8)) lX11_114 mX8_addBytesOf vX8_addBytesOf (hC 1 (by decide)) (show kd_ 1 = 18 by decide +kernel) rfl rfl rfl (by decide) ⟨Nat.zero_le _, Nat.zero_le _⟩ (Nat.le_of_ble_eq_true rfl) (k_v (fun h13 q13 => ?_))
  obtain ⟨f13, o13, r13⟩ := q13
  rw [r5] at r13
  refine pw_aload_n (z := 0) (pc := 16) dX11_feed_16 rfl rfl ?_
  refine pw_getR (r := 1) (pc := 17) dX11_feed_17 fX11_10 (hC 0 (by decide)) (show kd_ 0 = 21 by decide +kernel) rfl (by decide +kernel) ?_
  refine pw_lload (z := c) (pc := 20) dX11_feed_20 rfl ?_
  refine pw_callV (c := 8) (o := 1) (As := [ll_ c]) (rest := []) (pc := 22) dX11_feed_22 (d_addBytes hC h13 c hc (by rw [r13]; exact ly8_o (ly8_o ht 8) 8)) lX11_114 mX8_addBytesOf vX8_addBytesOf (hC 1 (by decide)) (show kd_ 1 = 18 by decide +kernel) rfl rfl rfl (by decide) ⟨Nat.zero_le _, Nat.zero_le _⟩ (Nat.le_of_ble_eq_true rfl) (k_v (fun h22 q22 => ?_))
  obtain ⟨f22, o22, r22⟩ := q22
  rw [r13] at r22
  refine pw_aload_n (z := 0) (pc := 25) dX11_feed_25 rfl rfl ?_
  refine pw_getR (r := 1) (pc := 26) dX11_feed_26 fX11_10 (hC 0 (by decide)) (show kd_ 0 = 21 by decide +kernel) rfl (by decide +kernel) ?_
  refine pw_gI (x := 2) (pc := 29) dX11_feed_29 fX11_118 (hC 1 (by decide)) (show kd_ 1 = 18 by decide +kernel) rfl rfl (fun r29 => ?_)
  have to := ly8_o (v := c) (ly8_o (v := b) (ly8_o (v := a) ht 8) 8) 8
  rw [← r22] at to
  have to1 := to.1
  exact pw_iret (pc := 32) dX11_feed_32 (by first | omega) (⟨off_tr (off_tr f5 f13) f22, fun k k2 => by rw [o22 k k2, o13 k k2, o5 k k2], r22, congrArg Prod.snd r22⟩)

set_option maxHeartbeats 4000000 in
set_option maxRecDepth 100000 in
theorem d_stretch {G : GT_} (hC : okC_ G) (h : PH_) (o : Nat) (ho : is6_ o) (hL : h 0 2 = (o : Int)) (ro : Int → Int) (H : CRD_ ro h o) (t w : Int) (h1 : ir_ t) (h2 : ir_ w) : PC G yX11_stretch cX11_stretch 3 (some .int) 2 [rr_ G 0, ii_ t, ii_ w] h (qi_ (fun z h' => h = h' ∧ z = if (0 ≤ t ∧ t < ro 1) ∧ 0 ≤ w ∧ w ≤ ro 0 then ro (11 + 5 * t + w) else -1)) := by
  have hL_h := hL
  have HB := H.2.1
  have HA := H.1
  refine PC.of (lv := [some (rr_ G 0), some (ii_ t), some (ii_ w)]) (by decide +kernel) (Nat.le_of_ble_eq_true rfl) rfl rfl ?_
  refine pw_aload_n (z := 0) (pc := 0) dX11_stretch_0 rfl rfl ?_
  refine pw_iload_n (z := t) (pc := 1) dX11_stretch_1 rfl rfl ?_
  refine pw_callV (c := 11) (o := 0) (As := [ii_ t]) (rest := []) (pc := 2) dX11_stretch_2 (d_isStretch hC h o ho hL ro H t (by first | omega)) lX11_176 mX11_isStretch vX11_isStretch (hC 0 (by decide)) (show kd_ 0 = 21 by decide +kernel) rfl rfl rfl (by decide) ⟨Nat.zero_le _, Nat.zero_le _⟩ (Nat.le_of_ble_eq_true rfl) (k_i (fun z2 h2 y2 q2 => ?_))
  obtain ⟨rfl, ⟨rfl, p2⟩ | ⟨rfl, p2⟩⟩ := q2
  · refine pw_if_eq (t := 23) (pc := 5) dX11_stretch_5 (by decide) (by first | omega) (fun c5 => absurd c5 (by decide)) (fun _ => ?_)
    refine pw_iload_n (z := w) (pc := 8) dX11_stretch_8 rfl rfl ?_
    refine pw_if_lt (t := 23) (pc := 9) dX11_stretch_9 (by decide) (by first | omega) (fun c9 => ?_) (fun c9 => ?_)
    · refine pw_iconst (pc := 23) dX11_stretch_23 ?_
      exact pw_iret (pc := 24) dX11_stretch_24 (by first | omega) (⟨rfl, by rw [if_neg (by omega)]⟩)
    · refine pw_iload_n (z := w) (pc := 12) dX11_stretch_12 rfl rfl ?_
      refine pw_aload_n (z := 0) (pc := 13) dX11_stretch_13 rfl rfl ?_
      refine pw_gD (x := 2) (r := o) (pc := 14) dX11_stretch_14 fX11_28 (hC 0 (by decide)) (show kd_ 0 = 21 by decide +kernel) rfl rfl hL_h ?_
      refine pw_gI (x := 0) (pc := 17) dX11_stretch_17 fX11_179 (hC _ (by omega)) (kd6_0 ho) rfl rfl (fun r17 => ?_)
      refine pw_icmp_le (t := 25) (pc := 20) dX11_stretch_20 (by decide) (by first | omega) (by first | omega) (fun c20 => ?_) (fun c20 => ?_)
      · refine pw_iload_n (z := w) (pc := 25) dX11_stretch_25 rfl rfl ?_
        refine pw_if_ne (t := 40) (pc := 26) dX11_stretch_26 (by decide) (by first | omega) (fun c26 => ?_) (fun c26 => ?_)
        · refine pw_aload_n (z := 0) (pc := 40) dX11_stretch_40 rfl rfl ?_
          refine pw_gD (x := 2) (r := o) (pc := 41) dX11_stretch_41 fX11_28 (hC 0 (by decide)) (show kd_ 0 = 21 by decide +kernel) rfl rfl hL_h ?_
          refine pw_iload_n (z := t) (pc := 44) dX11_stretch_44 rfl rfl ?_
          refine pw_iload_n (z := w) (pc := 45) dX11_stretch_45 rfl rfl ?_
          refine pw_iconst (pc := 46) dX11_stretch_46 ?_
          refine pw_isub (pc := 47) dX11_stretch_47 ?_
          refine pw_callV (c := 6) (o := o) (As := [ii_ t, ii_ (w - 1)]) (rest := []) (pc := 48) dX11_stretch_48 (d_has hC h o ho t (w - 1) (by first | omega) (by first | omega)) lX11_185 mX6_has vX6_has (hC _ (by omega)) (kd6_0 ho) rfl rfl rfl (by decide) ⟨Nat.zero_le _, Nat.zero_le _⟩ (Nat.le_of_ble_eq_true rfl) (k_i (fun z48 h48 y48 q48 => ?_))
          obtain ⟨rfl, w48⟩ := q48
          exact pw_iret (pc := 51) dX11_stretch_51 (by first | omega) (⟨rfl, by have e := H.2.2.1 t w (by omega) (by omega) (by omega) (by omega); rw [if_pos (by omega), ← e]; first | (rw [w34]; congr 1; omega) | (rw [w48]; congr 1; omega)⟩)
        · refine pw_aload_n (z := 0) (pc := 29) dX11_stretch_29 rfl rfl ?_
          refine pw_gD (x := 2) (r := o) (pc := 30) dX11_stretch_30 fX11_28 (hC 0 (by decide)) (show kd_ 0 = 21 by decide +kernel) rfl rfl hL_h ?_
          refine pw_iload_n (z := t) (pc := 33) dX11_stretch_33 rfl rfl ?_
          refine pw_callV (c := 6) (o := o) (As := [ii_ t]) (rest := []) (pc := 34) dX11_stretch_34 (d_minutesOf hC h o ho t (by first | omega)) lX11_181 mX6_minutesOf vX6_minutesOf (hC _ (by omega)) (kd6_0 ho) rfl rfl rfl (by decide) ⟨Nat.zero_le _, Nat.zero_le _⟩ (Nat.le_of_ble_eq_true rfl) (k_i (fun z34 h34 y34 q34 => ?_))
          obtain ⟨rfl, w34⟩ := q34
          refine pw_goto (t := 51) (pc := 37) dX11_stretch_37 (by decide) ?_
          exact pw_iret (pc := 51) dX11_stretch_51 (by first | omega) (⟨rfl, by have e := H.2.2.1 t w (by omega) (by omega) (by omega) (by omega); rw [if_pos (by omega), ← e]; first | (rw [w34]; congr 1; omega) | (rw [w48]; congr 1; omega)⟩)
      · refine pw_iconst (pc := 23) dX11_stretch_23 ?_
        exact pw_iret (pc := 24) dX11_stretch_24 (by first | omega) (⟨rfl, by rw [if_neg (by omega)]⟩)
  · refine pw_if_eq (t := 23) (pc := 5) dX11_stretch_5 (by decide) (by first | omega) (fun _ => ?_) (fun c5 => absurd c5 (by decide))
    refine pw_iconst (pc := 23) dX11_stretch_23 ?_
    exact pw_iret (pc := 24) dX11_stretch_24 (by first | omega) (⟨rfl, by rw [if_neg (by omega)]⟩)

set_option maxHeartbeats 4000000 in
set_option maxRecDepth 100000 in
theorem d_lawful {G : GT_} (hC : okC_ G) (h : PH_) (o : Nat) (ho : is6_ o) (hL : h 0 2 = (o : Int)) (ro : Int → Int) (H : CRD_ ro h o) (p : Int) (hp : ir_ p) : PC G yX11_lawful cX11_lawful 2 (some .int) 5 [rr_ G 0, ii_ p] h (qi_ (fun z h' => off_ [149] h h' ∧ z = if_ (vp_ok (ro 0) (ro 2) p) (if_ (lp1_ ro p) 1 0) (-1))) := by
  have hL_h := hL
  have HB := H.2.1
  have HA := H.1
  refine PC.of (lv := [some (rr_ G 0), some (ii_ p)]) (by decide +kernel) (Nat.le_of_ble_eq_true rfl) rfl rfl ?_
  refine pw_aload_n (z := 0) (pc := 0) dX11_lawful_0 rfl rfl ?_
  refine pw_gD (x := 2) (r := o) (pc := 1) dX11_lawful_1 fX11_28 (hC 0 (by decide)) (show kd_ 0 = 21 by decide +kernel) rfl rfl hL_h ?_
  refine pw_iload_n (z := p) (pc := 4) dX11_lawful_4 rfl rfl ?_
  refine pw_aload_n (z := 0) (pc := 5) dX11_lawful_5 rfl rfl ?_
  refine pw_getR (r := 149) (pc := 6) dX11_lawful_6 fX11_74 (hC 0 (by decide)) (show kd_ 0 = 21 by decide +kernel) rfl (by decide +kernel) ?_
  refine pw_callV (c := 6) (o := o) (As := [ii_ p, rr_ G 149]) (rest := []) (pc := 9) dX11_lawful_9 (d_unpack hC h o ho ro H 149 (by decide +kernel) (by decide +kernel) (by decide) p (by first | omega)) lX11_189 mX6_unpack vX6_unpack (hC _ (by omega)) (kd6_0 ho) rfl rfl rfl (by decide) ⟨Nat.zero_le _, Nat.zero_le _⟩ (Nat.le_of_ble_eq_true rfl) (k_i (fun z9 h9 y9 q9 => ?_))
  obtain ⟨f9, ⟨rfl, p9⟩ | ⟨rfl, p9⟩, q9⟩ := q9
  · replace q9 := q9 rfl
    have s9 := vp_si (si := h9 149) HB.1 HB.2.1 p9 q9
    have H9 : CRD_ ro h9 o := CRD_off H ho f9 (by simp)
    refine pw_if_ne (t := 17) (pc := 12) dX11_lawful_12 (by decide) (by first | omega) (fun _ => ?_) (fun c12 => absurd c12 (by decide))
    refine pw_aload_n (z := 0) (pc := 17) dX11_lawful_17 rfl rfl ?_
    have n_h9_0_2 : h9 0 2 = h 0 2 := (congrFun (f9 0 (by first | decide | (simp; done) | (simp; omega))) 2)
    refine pw_gD (x := 2) (r := o) (pc := 18) dX11_lawful_18 fX11_28 (hC 0 (by decide)) (show kd_ 0 = 21 by decide +kernel) rfl rfl (n_h9_0_2.trans hL_h) ?_
    refine pw_aload_n (z := 0) (pc := 21) dX11_lawful_21 rfl rfl ?_
    refine pw_getR (r := 149) (pc := 22) dX11_lawful_22 fX11_74 (hC 0 (by decide)) (show kd_ 0 = 21 by decide +kernel) rfl (by decide +kernel) ?_
    refine pw_callV (c := 6) (o := o) (As := [rr_ G 149]) (rest := []) (pc := 25) dX11_lawful_25 (d_allows hC h9 o ho ro H9 149 (by decide +kernel) (by decide +kernel) (by decide) (fun r r0 r1 => by have := s9.1 r r0 r1; omega)) lX11_193 mX6_allows vX6_allows (hC _ (by omega)) (kd6_0 ho) rfl rfl rfl (by decide) ⟨Nat.zero_le _, Nat.zero_le _⟩ (Nat.le_of_ble_eq_true rfl) (k_i (fun z25 h25 y25 q25 => ?_))
    obtain ⟨rfl, ⟨rfl, p25⟩ | ⟨rfl, p25⟩⟩ := q25
    · simp -failIfUnchanged only [n_h9_0_2] at p25
      refine pw_if_eq (t := 35) (pc := 28) dX11_lawful_28 (by decide) (by first | omega | (simp only [n_h9_0_2]; omega)) (fun c28 => absurd c28 (by decide)) (fun _ => ?_)
      refine pw_iconst (pc := 31) dX11_lawful_31 ?_
      refine pw_goto (t := 36) (pc := 32) dX11_lawful_32 (by decide) ?_
      exact pw_iret (pc := 36) dX11_lawful_36 (by first | omega | (simp only [n_h9_0_2]; omega)) (⟨f9, by
                have e := alw_lpl (ro := ro) (p := p) (f := h9 149) HB.1 (by omega) p9 q9
                rw [if_t p9]
                first
                | rw [if_t (e.mp p25).2]
                | rw [if_f (fun u => p25 (e.mpr ⟨p9, u⟩))]⟩)
    · simp -failIfUnchanged only [n_h9_0_2] at p25
      refine pw_if_eq (t := 35) (pc := 28) dX11_lawful_28 (by decide) (by first | omega | (simp only [n_h9_0_2]; omega)) (fun _ => ?_) (fun c28 => absurd c28 (by decide))
      refine pw_iconst (pc := 35) dX11_lawful_35 ?_
      exact pw_iret (pc := 36) dX11_lawful_36 (by first | omega | (simp only [n_h9_0_2]; omega)) (⟨f9, by
                have e := alw_lpl (ro := ro) (p := p) (f := h9 149) HB.1 (by omega) p9 q9
                rw [if_t p9]
                first
                | rw [if_t (e.mp p25).2]
                | rw [if_f (fun u => p25 (e.mpr ⟨p9, u⟩))]⟩)
  · refine pw_if_ne (t := 17) (pc := 12) dX11_lawful_12 (by decide) (by first | omega) (fun c12 => absurd c12 (by decide)) (fun _ => ?_)
    refine pw_iconst (pc := 15) dX11_lawful_15 ?_
    exact pw_iret (pc := 16) dX11_lawful_16 (by first | omega) (⟨f9, by rw [if_f p9]⟩)

set_option maxHeartbeats 4000000 in
set_option maxRecDepth 100000 in
theorem d_worth {G : GT_} (hC : okC_ G) (h : PH_) (o : Nat) (ho : is6_ o) (hL : h 0 2 = (o : Int)) (ro : Int → Int) (P : List (Int × Int)) (HC : CLD_ ro P h o) (p r t : Int) (hp : ir_ p) (h1 : ir_ r) (h2 : ir_ t) : PC G yX11_worth cX11_worth 4 (some .int) 5 [rr_ G 0, ii_ p, ii_ r, ii_ t] h (qi_ (fun z h' => off_ [149, o + 10, o + 11, o + 15] h h' ∧ CWM_ ro P h' o ∧ z = if_ (vp_ok (ro 0) (ro 2) p ∧ (0 ≤ r ∧ r < ro 2) ∧ (0 ≤ t ∧ t < ro 1)) (wsi_ ro P (dg_ (ro 2) p) r t) (-1))) := by
  have H := HC.1
  have hL_h := hL
  have HB := H.2.1
  have HA := H.1
  refine PC.of (lv := [some (rr_ G 0), some (ii_ p), some (ii_ r), some (ii_ t)]) (by decide +kernel) (Nat.le_of_ble_eq_true rfl) rfl rfl ?_
  refine pw_aload_n (z := 0) (pc := 0) dX11_worth_0 rfl rfl ?_
  refine pw_iload_n (z := r) (pc := 1) dX11_worth_1 rfl rfl ?_
  refine pw_callV (c := 11) (o := 0) (As := [ii_ r]) (rest := []) (pc := 2) dX11_worth_2 (d_isRider hC h o ho hL ro H r (by first | omega)) lX11_147 mX11_isRider vX11_isRider (hC 0 (by decide)) (show kd_ 0 = 21 by decide +kernel) rfl rfl rfl (by decide) ⟨Nat.zero_le _, Nat.zero_le _⟩ (Nat.le_of_ble_eq_true rfl) (k_i (fun z2 h2 y2 q2 => ?_))
  obtain ⟨rfl, ⟨rfl, p2⟩ | ⟨rfl, p2⟩⟩ := q2
  · refine pw_if_eq (t := 31) (pc := 5) dX11_worth_5 (by decide) (by first | omega) (fun c5 => absurd c5 (by decide)) (fun _ => ?_)
    refine pw_aload_n (z := 0) (pc := 8) dX11_worth_8 rfl rfl ?_
    refine pw_iload_n (z := t) (pc := 9) dX11_worth_9 rfl rfl ?_
    refine pw_callV (c := 11) (o := 0) (As := [ii_ t]) (rest := []) (pc := 10) dX11_worth_10 (d_isStretch hC h o ho hL ro H t (by first | omega)) lX11_176 mX11_isStretch vX11_isStretch (hC 0 (by decide)) (show kd_ 0 = 21 by decide +kernel) rfl rfl rfl (by decide) ⟨Nat.zero_le _, Nat.zero_le _⟩ (Nat.le_of_ble_eq_true rfl) (k_i (fun z10 h10 y10 q10 => ?_))
    obtain ⟨rfl, ⟨rfl, p10⟩ | ⟨rfl, p10⟩⟩ := q10
    · refine pw_if_eq (t := 31) (pc := 13) dX11_worth_13 (by decide) (by first | omega) (fun c13 => absurd c13 (by decide)) (fun _ => ?_)
      refine pw_aload_n (z := 0) (pc := 16) dX11_worth_16 rfl rfl ?_
      refine pw_gD (x := 2) (r := o) (pc := 17) dX11_worth_17 fX11_28 (hC 0 (by decide)) (show kd_ 0 = 21 by decide +kernel) rfl rfl hL_h ?_
      refine pw_iload_n (z := p) (pc := 20) dX11_worth_20 rfl rfl ?_
      refine pw_aload_n (z := 0) (pc := 21) dX11_worth_21 rfl rfl ?_
      refine pw_getR (r := 149) (pc := 22) dX11_worth_22 fX11_74 (hC 0 (by decide)) (show kd_ 0 = 21 by decide +kernel) rfl (by decide +kernel) ?_
      refine pw_callV (c := 6) (o := o) (As := [ii_ p, rr_ G 149]) (rest := []) (pc := 25) dX11_worth_25 (d_unpack hC h o ho ro H 149 (by decide +kernel) (by decide +kernel) (by decide) p (by first | omega)) lX11_189 mX6_unpack vX6_unpack (hC _ (by omega)) (kd6_0 ho) rfl rfl rfl (by decide) ⟨Nat.zero_le _, Nat.zero_le _⟩ (Nat.le_of_ble_eq_true rfl) (k_i (fun z25 h25 y25 q25 => ?_))
      obtain ⟨f25, ⟨rfl, p25⟩ | ⟨rfl, p25⟩, q25⟩ := q25
      · replace q25 := q25 rfl
        have s25 := vp_si (si := h25 149) HB.1 HB.2.1 p25 q25
        have H25 : CRD_ ro h25 o := CRD_off H ho f25 (by simp)
        refine pw_if_ne (t := 33) (pc := 28) dX11_worth_28 (by decide) (by first | omega) (fun _ => ?_) (fun c28 => absurd c28 (by decide))
        refine pw_aload_n (z := 0) (pc := 33) dX11_worth_33 rfl rfl ?_
        have n_h25_0_2 : h25 0 2 = h 0 2 := (congrFun (f25 0 (by first | decide | (simp; done) | (simp; omega))) 2)
        refine pw_gD (x := 2) (r := o) (pc := 34) dX11_worth_34 fX11_28 (hC 0 (by decide)) (show kd_ 0 = 21 by decide +kernel) rfl rfl (n_h25_0_2.trans hL_h) ?_
        refine pw_aload_n (z := 0) (pc := 37) dX11_worth_37 rfl rfl ?_
        refine pw_getR (r := 149) (pc := 38) dX11_worth_38 fX11_74 (hC 0 (by decide)) (show kd_ 0 = 21 by decide +kernel) rfl (by decide +kernel) ?_
        refine pw_iload_n (z := r) (pc := 41) dX11_worth_41 rfl rfl ?_
        refine pw_iload_n (z := t) (pc := 42) dX11_worth_42 rfl rfl ?_
        have K25 : CLD_ ro P h25 o := CLD_off HC ho f25 (by simp)
        refine pw_callV (c := 6) (o := o) (As := [rr_ G 149, ii_ r, ii_ t]) (rest := []) (pc := 43) dX11_worth_43 (d_worthOf hC h25 o ho ro H25 P K25.2.1 K25.2.2 149 (by decide +kernel) (by decide +kernel) (by decide) (fun r r0 r1 => by have := s25.1 r r0 r1; omega) s25.2 r t (by first | omega | (simp only [n_h25_0_2]; omega)) (by first | omega | (simp only [n_h25_0_2]; omega)) (s25.1 r (by first | omega | (simp only [n_h25_0_2]; omega)) (by first | omega | (simp only [n_h25_0_2]; omega))).1) lX11_197 mX6_worthOf vX6_worthOf (hC _ (by omega)) (kd6_0 ho) rfl rfl rfl (by decide) ⟨Nat.zero_le _, Nat.zero_le _⟩ (Nat.le_of_ble_eq_true rfl) (k_i (fun z43 h43 y43 q43 => ?_))
        obtain ⟨f43, m43, w43⟩ := q43
        have wb := wsi_b ro P (h25 149) r t
        exact pw_iret (pc := 46) dX11_worth_46 (by first | omega | (simp only [n_h25_0_2]; omega)) (⟨off_tr (off_mo f25 (by simp)) (off_mo f43 (by simp)), m43, by rw [if_t ⟨p25, by omega, by omega⟩, w43]; exact wsi_cg (by omega) q25⟩)
      · refine pw_if_ne (t := 33) (pc := 28) dX11_worth_28 (by decide) (by first | omega) (fun c28 => absurd c28 (by decide)) (fun _ => ?_)
        refine pw_iconst (pc := 31) dX11_worth_31 ?_
        exact pw_iret (pc := 32) dX11_worth_32 (by first | omega) (⟨off_mo f25 (by simp), (CLD_off HC ho f25 (by simp)).2.2, by rw [if_f (by intro u; exact p25 u.1)]⟩)
    · refine pw_if_eq (t := 31) (pc := 13) dX11_worth_13 (by decide) (by first | omega) (fun _ => ?_) (fun c13 => absurd c13 (by decide))
      refine pw_iconst (pc := 31) dX11_worth_31 ?_
      exact pw_iret (pc := 32) dX11_worth_32 (by first | omega) (⟨off_rf, HC.2.2, by rw [if_f (by intro u; omega)]⟩)
  · refine pw_if_eq (t := 31) (pc := 5) dX11_worth_5 (by decide) (by first | omega) (fun _ => ?_) (fun c5 => absurd c5 (by decide))
    refine pw_iconst (pc := 31) dX11_worth_31 ?_
    exact pw_iret (pc := 32) dX11_worth_32 (by first | omega) (⟨off_rf, HC.2.2, by rw [if_f (by intro u; omega)]⟩)

theorem CPL_cg {ro : Int → Int} {h h' : PH_} {o : Nat} (H : CPL_ ro h o) (e0 : h' o = h o) (e1 : h' (o + 14) = h (o + 14)) : CPL_ ro h' o := by unfold CPL_ at *; rw [e0, e1]; exact H

set_option maxHeartbeats 4000000 in
set_option maxRecDepth 100000 in
theorem d_evenest {G : GT_} (hC : okC_ G) (h : PH_) (o : Nat) (ho : is6_ o) (hL : h 0 2 = (o : Int)) (ro : Int → Int) (P : List (Int × Int)) (HC : CLD_ ro P h o) (hj : CJP_ ro h o) (hr : h 151 1 = 0 ∨ h 151 1 = 1 ∧ CJG_ ro P h ∧ CJL_ ro P h 0) (hpa : ∀ r, 0 ≤ r → r < ro 2 → 0 ≤ ro (31 + 4 * r + 2) ∧ ro (31 + 4 * r + 2) ≤ 9999) (hca : jca_ ro P h) (m w : Int) (h1 : ir_ m) (h2 : ir_ w) : PC G yX11_evenest cX11_evenest 4 (some .int) 10 [rr_ G 0, ii_ m, ii_ w] h (qi_ (fun z h' => (h = h' ∧ ¬ ((0 ≤ m ∧ m ≤ 12) ∧ (0 ≤ w ∧ w < 2 + ro 1) ∧ ro 2 ≠ 0) ∧ z = -1) ∨ (((0 ≤ m ∧ m ≤ 12) ∧ (0 ≤ w ∧ w < 2 + ro 1) ∧ ro 2 ≠ 0) ∧ off_ [151, 152, 153, 154, 156, 157, 158, 159, 160, o + 10, o + 11, o + 15] h h' ∧ CWM_ ro P h' o ∧ h' 151 0 = h 151 0 ∧ (h' 151 1 = 1 ∧ CJG_ ro P h' ∧ CJL_ ro P h' 0) ∧ jca_ ro P h' ∧ h' 151 13 = h 151 13 ∧ h' 151 16 = h 151 16 ∧ z = ans_ ro w (skb_ ro P 0 m (pas_ ro))))) := by
  have H := HC.1
  have hL_h := hL
  have HB := H.2.1
  have HA := H.1
  refine PC.of (lv := [some (rr_ G 0), some (ii_ m), some (ii_ w), none]) (by decide +kernel) (Nat.le_of_ble_eq_true rfl) rfl rfl ?_
  refine pw_iload_n (z := m) (pc := 0) dX11_evenest_0 rfl rfl ?_
  refine pw_if_lt (t := 31) (pc := 1) dX11_evenest_1 (by decide) (by first | omega) (fun c1 => ?_) (fun c1 => ?_)
  · refine pw_iconst (pc := 31) dX11_evenest_31 ?_
    refine pw_istore_n (lv1 := [some (rr_ G 0), some (ii_ m), some (ii_ w), some (ii_ 0)]) (pc := 32) dX11_evenest_32 rfl (by decide) rfl rfl ?_
    refine pw_iload_n (z := 0) (pc := 33) dX11_evenest_33 rfl rfl ?_
    refine pw_if_eq (t := 47) (pc := 34) dX11_evenest_34 (by decide) (by first | omega) (fun _ => ?_) (fun c34 => absurd c34 (by decide))
    refine pw_iconst (pc := 47) dX11_evenest_47 ?_
    exact pw_iret (pc := 48) dX11_evenest_48 (by first | omega) (Or.inl ⟨rfl, by omega, rfl⟩)
  · refine pw_iload_n (z := m) (pc := 4) dX11_evenest_4 rfl rfl ?_
    refine pw_bipush (pc := 5) dX11_evenest_5 rfl ?_
    refine pw_icmp_gt (t := 31) (pc := 7) dX11_evenest_7 (by decide) (by first | omega) (by first | omega) (fun c7 => ?_) (fun c7 => ?_)
    · refine pw_iconst (pc := 31) dX11_evenest_31 ?_
      refine pw_istore_n (lv1 := [some (rr_ G 0), some (ii_ m), some (ii_ w), some (ii_ 0)]) (pc := 32) dX11_evenest_32 rfl (by decide) rfl rfl ?_
      refine pw_iload_n (z := 0) (pc := 33) dX11_evenest_33 rfl rfl ?_
      refine pw_if_eq (t := 47) (pc := 34) dX11_evenest_34 (by decide) (by first | omega) (fun _ => ?_) (fun c34 => absurd c34 (by decide))
      refine pw_iconst (pc := 47) dX11_evenest_47 ?_
      exact pw_iret (pc := 48) dX11_evenest_48 (by first | omega) (Or.inl ⟨rfl, by omega, rfl⟩)
    · refine pw_iload_n (z := w) (pc := 10) dX11_evenest_10 rfl rfl ?_
      refine pw_if_lt (t := 31) (pc := 11) dX11_evenest_11 (by decide) (by first | omega) (fun c11 => ?_) (fun c11 => ?_)
      · refine pw_iconst (pc := 31) dX11_evenest_31 ?_
        refine pw_istore_n (lv1 := [some (rr_ G 0), some (ii_ m), some (ii_ w), some (ii_ 0)]) (pc := 32) dX11_evenest_32 rfl (by decide) rfl rfl ?_
        refine pw_iload_n (z := 0) (pc := 33) dX11_evenest_33 rfl rfl ?_
        refine pw_if_eq (t := 47) (pc := 34) dX11_evenest_34 (by decide) (by first | omega) (fun _ => ?_) (fun c34 => absurd c34 (by decide))
        refine pw_iconst (pc := 47) dX11_evenest_47 ?_
        exact pw_iret (pc := 48) dX11_evenest_48 (by first | omega) (Or.inl ⟨rfl, by omega, rfl⟩)
      · refine pw_iload_n (z := w) (pc := 14) dX11_evenest_14 rfl rfl ?_
        refine pw_iconst (pc := 15) dX11_evenest_15 ?_
        refine pw_aload_n (z := 0) (pc := 16) dX11_evenest_16 rfl rfl ?_
        refine pw_gD (x := 2) (r := o) (pc := 17) dX11_evenest_17 fX11_28 (hC 0 (by decide)) (show kd_ 0 = 21 by decide +kernel) rfl rfl hL_h ?_
        refine pw_gI (x := 1) (pc := 20) dX11_evenest_20 fX11_239 (hC _ (by omega)) (kd6_0 ho) rfl rfl (fun r20 => ?_)
        refine pw_iadd (pc := 23) dX11_evenest_23 ?_
        refine pw_icmp_ge (t := 31) (pc := 24) dX11_evenest_24 (by decide) (by first | omega) (by first | omega) (fun c24 => ?_) (fun c24 => ?_)
        · refine pw_iconst (pc := 31) dX11_evenest_31 ?_
          refine pw_istore_n (lv1 := [some (rr_ G 0), some (ii_ m), some (ii_ w), some (ii_ 0)]) (pc := 32) dX11_evenest_32 rfl (by decide) rfl rfl ?_
          refine pw_iload_n (z := 0) (pc := 33) dX11_evenest_33 rfl rfl ?_
          refine pw_if_eq (t := 47) (pc := 34) dX11_evenest_34 (by decide) (by first | omega) (fun _ => ?_) (fun c34 => absurd c34 (by decide))
          refine pw_iconst (pc := 47) dX11_evenest_47 ?_
          exact pw_iret (pc := 48) dX11_evenest_48 (by first | omega) (Or.inl ⟨rfl, by omega, rfl⟩)
        · refine pw_iconst (pc := 27) dX11_evenest_27 ?_
          refine pw_goto (t := 32) (pc := 28) dX11_evenest_28 (by decide) ?_
          refine pw_istore_n (lv1 := [some (rr_ G 0), some (ii_ m), some (ii_ w), some (ii_ 1)]) (pc := 32) dX11_evenest_32 rfl (by decide) rfl rfl ?_
          refine pw_iload_n (z := 1) (pc := 33) dX11_evenest_33 rfl rfl ?_
          refine pw_if_eq (t := 47) (pc := 34) dX11_evenest_34 (by decide) (by first | omega) (fun c34 => absurd c34 (by decide)) (fun _ => ?_)
          refine pw_aload_n (z := 0) (pc := 37) dX11_evenest_37 rfl rfl ?_
          refine pw_gD (x := 2) (r := o) (pc := 38) dX11_evenest_38 fX11_28 (hC 0 (by decide)) (show kd_ 0 = 21 by decide +kernel) rfl rfl hL_h ?_
          refine pw_gI (x := 2) (pc := 41) dX11_evenest_41 fX11_242 (hC _ (by omega)) (kd6_0 ho) rfl rfl (fun r41 => ?_)
          refine pw_if_ne (t := 49) (pc := 44) dX11_evenest_44 (by decide) (by first | omega) (fun c44 => ?_) (fun c44 => ?_)
          · refine pw_aload_n (z := 0) (pc := 49) dX11_evenest_49 rfl rfl ?_
            refine pw_getR (r := 151) (pc := 50) dX11_evenest_50 fX11_83 (hC 0 (by decide)) (show kd_ 0 = 21 by decide +kernel) rfl (by decide +kernel) ?_
            refine pw_callV (c := 1) (o := 151) (As := []) (rest := []) (pc := 53) dX11_evenest_53 (d_prepare hC h o ho ro H P HC.2.1 HC.2.2 hj hr) lX11_245 mX1_prepare vX1_prepare (hC 151 (by decide)) (show kd_ 151 = 11 by decide +kernel) rfl rfl rfl (by decide) ⟨Nat.zero_le _, Nat.zero_le _⟩ (Nat.le_of_ble_eq_true rfl) (k_v (fun h53 q53 => ?_))
            obtain ⟨f53, m53, k53, e53, g53, l53⟩ := q53
            have K53 : CLD_ ro P h53 o := CLD_w HC ho f53 (by simp) m53
            have J53 : jon_ ro P o h53 := ⟨K53.1, ⟨by rw [k53 0 (by decide)]; exact hj.1, CPL_cg hj.2 (f53 o (by simp; omega)) (f53 (o + 14) (by simp; omega))⟩, g53, l53⟩
            refine pw_aload_n (z := 0) (pc := 56) dX11_evenest_56 rfl rfl ?_
            refine pw_getR (r := 151) (pc := 57) dX11_evenest_57 fX11_83 (hC 0 (by decide)) (show kd_ 0 = 21 by decide +kernel) rfl (by decide +kernel) ?_
            refine pw_iload_n (z := m) (pc := 60) dX11_evenest_60 rfl rfl ?_
            refine pw_iload_n (z := w) (pc := 61) dX11_evenest_61 rfl rfl ?_
            refine pw_callV (c := 1) (o := 151) (As := [ii_ m, ii_ w]) (rest := []) (pc := 62) dX11_evenest_62 (d_evenestOf hC h53 o ho ro P J53 (by first | omega) hpa m w (by first | omega) (by first | omega) (jca_cg hca (k53 11 (by decide)) (f53 160 (by simp; omega)))) lX11_248 mX1_evenestOf vX1_evenestOf (hC 151 (by decide)) (show kd_ 151 = 11 by decide +kernel) rfl rfl rfl (by decide) ⟨Nat.zero_le _, Nat.zero_le _⟩ (Nat.le_of_ble_eq_true rfl) (k_i (fun z62 h62 y62 q62 => ?_))
            obtain ⟨f62, k62, a62, w62⟩ := q62
            exact pw_iret (pc := 65) dX11_evenest_65 (by first | omega) (Or.inr ⟨by omega, off_tr (off_mo f53 (by simp)) (off_mo f62 (by simp)), by unfold CWM_; rw [f62 (o + 15) (by simp; omega)]; exact m53, by rw [k62 0 (by decide) (by decide) (by decide) (by decide), k53 0 (by decide)], ⟨by rw [k62 1 (by decide) (by decide) (by decide) (by decide)]; exact e53, by unfold CJG_; rw [f62 153 (by simp)]; exact g53, by unfold CJL_; rw [f62 154 (by simp)]; exact l53⟩, a62, by rw [k62 13 (by decide) (by decide) (by decide) (by decide), k53 13 (by decide)], by rw [k62 16 (by decide) (by decide) (by decide) (by decide), k53 16 (by decide)], w62⟩)
          · refine pw_iconst (pc := 47) dX11_evenest_47 ?_
            exact pw_iret (pc := 48) dX11_evenest_48 (by first | omega) (Or.inl ⟨rfl, by omega, rfl⟩)

