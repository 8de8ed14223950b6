set_option maxHeartbeats 4000000 in
set_option maxRecDepth 100000 in
theorem c_journey {G : GT_} (hM : okM_ G) (h : PH_) (ht : tpo_ (h mTape, h mo_ 2)) (hws : wds_ h) (hS : 2 ≤ h mRoads 0 ∧ h mRoads 0 ≤ 4) (nm : NM_) (hn : nmr_ (h mo_ 18) (h mNames) (h mNameOf) nm) : PC G yX12_journey cX12_journey 5 (some .int) 6 [rr_ G mo_] h (qi_ (fun z h' => prj_ mLines h h' ∧ JO_ nm (h mRoads 0) h z h' (jou_ (tk_ (h mTape) (h mo_ 2)) nm (h mRoads 0)) ∧ h' mo_ 0 = 0 ∧ h' mo_ 2 = 0)) := by
  have htb : 0 ≤ h mo_ 2 ∧ h mo_ 2 ≤ 1000 := ht.1
  refine PC.of (lv := [some (rr_ G mo_), none, none, none, none]) (by decide +kernel) (Nat.le_of_ble_eq_true rfl) rfl rfl ?_
  refine pw_aload_n (z := mo_) (pc := 0) dX12_journey_0 rfl rfl ?_
  refine pw_iconst (pc := 1) dX12_journey_1 ?_
  refine pw_pI (x := 0) (pc := 2) dX12_journey_2 fX12_1 (im_mo_ hM) k_mo_ rfl rfl (by first | omega) ?_
  obtain ⟨g2, e2⟩ : ∃ x, x = up_ h mo_ 0 0 := ⟨_, rfl⟩
  refine pw_heq e2 ?_
  have k2 : (g2 mTape, g2 mo_ 2) = (h mTape, h mo_ 2) := by rw [e2, up_off (by decide), up_at, if_neg (by decide)]
  refine pw_aload_n (z := mo_) (pc := 5) dX12_journey_5 rfl rfl ?_
  refine pw_callV (c := 12) (o := mo_) (As := []) (rest := []) (pc := 6) dX12_journey_6 (c_cutAll hM g2 (by rw [k2]; exact ht)) lX12_249 mX12_cutAll vX12_cutAll (im_mo_ hM) k_mo_ rfl rfl rfl (by decide) ⟨Nat.zero_le _, Nat.zero_le _⟩ (Nat.le_of_ble_eq_true rfl) (k_v (fun h6 q6 => ?_))
  obtain ⟨f6, o6, t6, a6, b6, N, hN⟩ := q6
  have k3 : g2 mTape = h mTape ∧ g2 mo_ 2 = h mo_ 2 := by rw [e2, up_off (by decide), up_at, if_neg (by decide)]; exact ⟨rfl, rfl⟩
  rw [k3.1, k3.2] at hN
  have N1 := hN.2.2.2.1
  have p6 : prj_ mLines h h6 := ⟨off_tr (by rw [e2]; exact off_up off_rf (by decide)) (off_mo f6 (by decide)), fun k k0 k2 k3 k7 k8 => by rw [o6 k k2 k3 k7 k8, e2, up_at, if_neg k0]⟩
  have z6 : h6 mo_ 0 = 0 ∧ h6 mo_ 2 = 0 := ⟨by rw [o6 0 (by decide) (by decide) (by decide) (by decide), e2, up_same], t6⟩
  have l6 : h6 mLines = h mLines := by rw [f6 mLines (by decide), e2, up_off (by decide)]
  have st0 : jst_ (tk_ (h mTape) (h mo_ 2)) N nm (h mRoads 0) 0 h6 := Or.inl ⟨[], 0, 1001, rfl, ⟨⟨hN, fun w hw => by rw [f6 mWords (by decide), e2, up_off (by decide)]; exact hws w hw, tk_wf htb.1⟩, a6, Nat.zero_le _, b6⟩, rfl, Nat.zero_le _, fun j hj => absurd hj (Nat.not_lt_zero j), by omega, fun q hq => (by cases hq)⟩
  refine pw_iconst (pc := 9) dX12_journey_9 ?_
  refine pw_istore_n (lv1 := [some (rr_ G mo_), some (ii_ 0), none, none, none]) (pc := 10) dX12_journey_10 rfl (by decide) rfl rfl ?_
  have L11 : ∀ (nn : Nat) (mm : Int) (n : Int) (hq : PH_), (prj_ mLines h hq ∧ (∀ x, x < 45 → hq mLines x = h mLines x) ∧ hq mo_ 0 = 0 ∧ hq mo_ 2 = 0) → (jst_ (tk_ (h mTape) (h mo_ 2)) N nm (h mRoads 0) n hq) → (1 ≤ mm ∧ (hq mo_ 8 = 0 → (N : Int) - hq mo_ 7 + 2 ≤ mm)) → ((mm : Int) ≤ nn) → PW G RX12 cX12_journey 5 (some .int) (rm_ 6) 0 0 (zm_ G (qi_ (fun z h' => prj_ mLines h h' ∧ JO_ nm (h mRoads 0) h z h' (jou_ (tk_ (h mTape) (h mo_ 2)) nm (h mRoads 0)) ∧ h' mo_ 0 = 0 ∧ h' mo_ 2 = 0))) 11 [some (rr_ G mo_), some (ii_ n), none, none, none] [] hq := by
    intro nn
    induction nn with
    | zero => intro mm n hq apr ast am ams; exfalso; omega
    | succ nn ih11 =>
      intro mm n hq apr ast am ams
      have s8 : (0 ≤ hq mo_ 8 ∧ hq mo_ 8 < 2147483648) ∧ (0 ≤ hq mo_ 7 ∧ hq mo_ 7 ≤ N) ∧ (0 ≤ n ∧ n ≤ 20) := by
        rcases ast with ⟨L, a, fu, u1, u2, u3, u4, u5⟩ | ⟨e, u1, u2, u3⟩
        · have q := RP_7 (X := .ok a) u2; exact ⟨q.2.2.2.2, q.1, by omega⟩
        · have q := RP_7 (X := .error e) u2; exact ⟨q.2.2.2.2, q.1, u3⟩
      have J194 : (¬ hq mo_ 8 = 0 ∨ hq mSort (hq mo_ 7) = 0) → PW G RX12 cX12_journey 5 (some .int) (rm_ 6) 0 0 (zm_ G (qi_ (fun z h' => prj_ mLines h h' ∧ JO_ nm (h mRoads 0) h z h' (jou_ (tk_ (h mTape) (h mo_ 2)) nm (h mRoads 0)) ∧ h' mo_ 0 = 0 ∧ h' mo_ 2 = 0))) 194 [some (rr_ G mo_), some (ii_ n), none, none, none] [] hq := by
        intro hx
        refine pw_aload_n (z := mo_) (pc := 194) dX12_journey_194 rfl rfl ?_
        refine pw_gI (x := 8) (pc := 195) dX12_journey_195 fX12_218 (im_mo_ hM) k_mo_ rfl rfl (fun r195 => ?_)
        refine pw_if_le (t := 206) (pc := 198) dX12_journey_198 (by decide) (by first | omega) (fun c198 => ?_) (fun c198 => ?_)
        · obtain ⟨L, z1, u3, u4, u5, u7⟩ : ∃ (L : JL_), jou_ (tk_ (h mTape) (h mo_ 2)) nm (h mRoads 0) = .ok L ∧ n = (L.length : Int) ∧ L.length ≤ 20 ∧ jla_ (hq mLines) 45 L ∧ jqo_ nm (h mRoads 0) L := by
            rcases ast with ⟨L, a, fu, u1, u2, u3, u4, u5, u6, u7⟩ | ⟨e, u1, u2, u3⟩
            · refine ⟨L, ?_, u3, u4, u5, u7⟩
              rw [u1]
              refine jlp_0 ?_
              have ts : hq mSort (hq mo_ 7) = ((tk_ (h mTape) (h mo_ 2)) a).1 := by rw [u2.2.1]; exact (u2.1.1.1 a u2.2.2.1).1
              have h8 := u2.2.2.2
              rw [← ts]
              rcases hx with u | u
              · exfalso; exact u h8
              · exact u
            · exfalso; have := u2.2.2; omega
          refine pw_aload_n (z := mo_) (pc := 206) dX12_journey_206 rfl rfl ?_
          refine pw_getR (r := mLines) (pc := 207) dX12_journey_207 fX12_118 (im_mo_ hM) k_mo_ rfl fr_mLines ?_
          refine pw_iconst (pc := 210) dX12_journey_210 ?_
          refine pw_iload_n (z := n) (pc := 211) dX12_journey_211 rfl rfl ?_
          refine pw_iast (pc := 212) dX12_journey_212 (im_mLines hM) k_mLines 90 l_mLines (by first | omega) (by first | omega) (by first | omega) (by first | omega) ?_
          obtain ⟨g212, e212⟩ : ∃ x, x = up_ hq mLines 0 n := ⟨_, rfl⟩
          refine pw_heq e212 ?_
          refine pw_iconst (pc := 213) dX12_journey_213 ?_
          refine pw_istore_n (lv1 := [some (rr_ G mo_), some (ii_ n), some (ii_ 0), none, none]) (pc := 214) dX12_journey_214 rfl (by decide) rfl rfl ?_
          have L215 : ∀ (nn : Nat) (k : Int) (kc : PH_), (0 ≤ k ∧ k ≤ 2 * n) → (off_ [mLines] g212 kc) → ((∀ x, 0 ≤ x → x < k → kc mLines (1 + x) = hq mLines (45 + x)) ∧ (∀ x, 45 ≤ x → kc mLines x = hq mLines x) ∧ kc mLines 0 = n) → ((2 * n - k + 1 : Int) ≤ nn) → PW G RX12 cX12_journey 5 (some .int) (rm_ 6) 0 0 (zm_ G (qi_ (fun z h' => prj_ mLines h h' ∧ JO_ nm (h mRoads 0) h z h' (jou_ (tk_ (h mTape) (h mo_ 2)) nm (h mRoads 0)) ∧ h' mo_ 0 = 0 ∧ h' mo_ 2 = 0))) 215 [some (rr_ G mo_), some (ii_ n), some (ii_ k), none, none] [] kc := by
            intro nn
            induction nn with
            | zero => intro k kc ck cf cr ams; exfalso; omega
            | succ nn ih215 =>
              intro k kc ck cf cr ams
              refine pw_iload_n (z := k) (pc := 215) dX12_journey_215 rfl rfl ?_
              refine pw_iconst (pc := 216) dX12_journey_216 ?_
              refine pw_iload_n (z := n) (pc := 217) dX12_journey_217 rfl rfl ?_
              refine pw_imul (pc := 218) dX12_journey_218 ?_
              refine pw_icmp_ge (t := 245) (pc := 219) dX12_journey_219 (by decide) (by first | omega) (by first | omega) (fun c219 => ?_) (fun c219 => ?_)
              · refine pw_iconst (pc := 245) dX12_journey_245 ?_
                exact pw_iret (pc := 246) dX12_journey_246 (by first | omega) (by
                          have fo : off_ [mLines] hq kc := off_tr (by rw [e212]; exact off_up off_rf (by decide)) cf
                          refine ⟨⟨off_tr apr.1.1 (off_mo fo (by decide)), fun j j0 j2 j3 j7 j8 => by rw [fo mo_ (by decide)]; exact apr.1.2 j j0 j2 j3 j7 j8⟩, ?_, by rw [fo mo_ (by decide)]; exact apr.2.2.1, by rw [fo mo_ (by decide)]; exact apr.2.2.2⟩
                          rw [z1]
                          refine ⟨rfl, by rw [cr.2.2]; exact u3, u4, fun j hj => ?_, u7⟩
                          have a1 := cr.1 (2 * (j : Int)) (by omega) (by omega)
                          have a2 := cr.1 (1 + 2 * (j : Int)) (by omega) (by omega)
                          have b1 := u5 j hj
                          rw [show (1 : Int) + (1 + 2 * (j : Int)) = 1 + 1 + 2 * (j : Int) by omega] at a2
                          rw [show (45 : Int) + (1 + 2 * (j : Int)) = 45 + 1 + 2 * (j : Int) by omega] at a2
                          rw [a1, a2]; exact b1)
              · refine pw_aload_n (z := mo_) (pc := 222) dX12_journey_222 rfl rfl ?_
                refine pw_getR (r := mLines) (pc := 223) dX12_journey_223 fX12_118 (im_mo_ hM) k_mo_ rfl fr_mLines ?_
                refine pw_iconst (pc := 226) dX12_journey_226 ?_
                refine pw_iload_n (z := k) (pc := 227) dX12_journey_227 rfl rfl ?_
                refine pw_iadd (pc := 228) dX12_journey_228 ?_
                refine pw_aload_n (z := mo_) (pc := 229) dX12_journey_229 rfl rfl ?_
                refine pw_getR (r := mLines) (pc := 230) dX12_journey_230 fX12_118 (im_mo_ hM) k_mo_ rfl fr_mLines ?_
                refine pw_bipush (pc := 233) dX12_journey_233 rfl ?_
                refine pw_iload_n (z := k) (pc := 235) dX12_journey_235 rfl rfl ?_
                refine pw_iadd (pc := 236) dX12_journey_236 ?_
                refine pw_iald (pc := 237) dX12_journey_237 (im_mLines hM) k_mLines 90 l_mLines (by first | omega) (by first | omega) (by first | omega) (fun r237 => ?_)
                refine pw_iast (pc := 238) dX12_journey_238 (im_mLines hM) k_mLines 90 l_mLines (by first | omega) (by first | omega) (by first | omega) (by first | omega) ?_
                obtain ⟨g238, e238⟩ : ∃ x, x = up_ kc mLines (1 + k) (kc mLines (45 + k)) := ⟨_, rfl⟩
                refine pw_heq e238 ?_
                refine pw_iinc (z := k) (lv1 := [some (rr_ G mo_), some (ii_ n), some (ii_ (k + 1)), none, none]) (pc := 239) dX12_journey_239 rfl (by decide) rfl rfl ?_
                refine pw_goto (t := 215) (pc := 242) dX12_journey_242 (by decide) ?_
                exact ih215 _ _ (by omega) (by rw [e238]; exact off_up cf (by decide)) (⟨fun x x0 x1 => by
                          rw [e238, up_at]
                          by_cases c : x = k
                          · rw [if_pos (by omega), c]; exact cr.2.1 _ (by omega)
                          · rw [if_neg (by omega)]; exact cr.1 x x0 (by omega), fun x hx => by rw [e238, up_at, if_neg (by omega)]; exact cr.2.1 x hx, by rw [e238, up_at, if_neg (by omega)]; exact cr.2.2⟩) (by omega)
          exact L215 _ _ _ (by omega) (off_rf) (⟨fun x _ _ => by omega, fun x hx => by rw [e212, up_at, if_neg (by omega)], by rw [e212, up_same]⟩) (Int.self_le_toNat _)
        · refine pw_aload_n (z := mo_) (pc := 201) dX12_journey_201 rfl rfl ?_
          refine pw_gI (x := 8) (pc := 202) dX12_journey_202 fX12_218 (im_mo_ hM) k_mo_ rfl rfl (fun r202 => ?_)
          exact pw_iret (pc := 205) dX12_journey_205 (by first | omega) (by
                    refine ⟨apr.1, ?_, apr.2.2⟩
                    rcases ast with ⟨L, a, fu, u1, u2, u3⟩ | ⟨e, u1, u2, u3⟩
                    · exfalso; have := u2.2.2.2; omega
                    · rw [u1]; exact ⟨u2.2.2.1, u2.2.2.2.1, apr.2.1⟩)
      refine pw_aload_n (z := mo_) (pc := 11) dX12_journey_11 rfl rfl ?_
      refine pw_gI (x := 8) (pc := 12) dX12_journey_12 fX12_218 (im_mo_ hM) k_mo_ rfl rfl (fun r12 => ?_)
      refine pw_if_ne (t := 194) (pc := 15) dX12_journey_15 (by decide) (by first | omega) (fun c15 => ?_) (fun c15 => ?_)
      · exact J194  (by first | exact Or.inl c15 | exact Or.inr c27)
      · obtain ⟨L, a, fu, u1, u2, u3, u4, u5, u6, u7⟩ : ∃ (L : JL_) (a fu : Nat), jou_ (tk_ (h mTape) (h mo_ 2)) nm (h mRoads 0) = jlp_ (tk_ (h mTape) (h mo_ 2)) nm (h mRoads 0) fu L a ∧ RPO_ (tk_ (h mTape) (h mo_ 2)) N hq a ∧ n = (L.length : Int) ∧ L.length ≤ 20 ∧ jla_ (hq mLines) 45 L ∧ N < fu + a ∧ jqo_ nm (h mRoads 0) L := by
          rcases ast with u | ⟨e, u1, u2, u3⟩
          · exact u
          · exfalso; have := u2.2.2; omega
        have ts : hq mSort (hq mo_ 7) = ((tk_ (h mTape) (h mo_ 2)) a).1 := by rw [u2.2.1]; exact (u2.1.1.1 a u2.2.2.1).1
        have Q7 := RP_7 (X := .ok a) u2
        refine pw_aload_n (z := mo_) (pc := 18) dX12_journey_18 rfl rfl ?_
        refine pw_getR (r := mSort) (pc := 19) dX12_journey_19 fX12_24 (im_mo_ hM) k_mo_ rfl fr_mSort ?_
        refine pw_aload_n (z := mo_) (pc := 22) dX12_journey_22 rfl rfl ?_
        refine pw_gI (x := 7) (pc := 23) dX12_journey_23 fX12_215 (im_mo_ hM) k_mo_ rfl rfl (fun r23 => ?_)
        refine pw_iald (pc := 26) dX12_journey_26 (im_mSort hM) k_mSort 1002 l_mSort (by first | omega) (by first | omega) (by first | omega) (fun r26 => ?_)
        refine pw_if_eq (t := 194) (pc := 27) dX12_journey_27 (by decide) (by first | omega) (fun c27 => ?_) (fun c27 => ?_)
        · exact J194  (by first | exact Or.inl c15 | exact Or.inr c27)
        · have nz : ¬ ((tk_ (h mTape) (h mo_ 2)) a).1 = 0 := by rw [← ts]; exact c27
          have bn : a ≠ N := fun e => nz (by rw [e]; exact hN.2.2.1)
          have an := u2.2.2.1
          obtain ⟨fv, rfl⟩ : ∃ fv, fu = fv + 1 := ⟨fu - 1, by omega⟩
          have e01 := u1
          rw [jlp_s nz, ← u3] at e01
          refine pw_aload_n (z := mo_) (pc := 30) dX12_journey_30 rfl rfl ?_
          refine pw_bipush (pc := 31) dX12_journey_31 rfl ?_
          refine pw_callV (c := 12) (o := mo_) (As := [ii_ 12]) (rest := []) (pc := 33) dX12_journey_33 (c_isWord hM hq (by first | omega) 12 (by first | omega)) lX12_227 mX12_isWord vX12_isWord (im_mo_ hM) k_mo_ rfl rfl rfl (by decide) ⟨Nat.zero_le _, Nat.zero_le _⟩ (Nat.le_of_ble_eq_true rfl) (k_i (fun z33 h33 y33 q33 => ?_))
          obtain ⟨rfl, w33⟩ := q33
          have z33r := dj_r w33
          refine pw_istore_n (lv1 := [some (rr_ G mo_), some (ii_ n), some (ii_ z33), none, none]) (pc := 36) dX12_journey_36 rfl (by decide) rfl rfl ?_
          have J69 : ∀ (hb : PH_), (((jck_ (tk_ (h mTape) (h mo_ 2)) n a) = .ok (a + 1) ∧ hb = hq) ∨ (∃ e, (jck_ (tk_ (h mTape) (h mo_ 2)) n a) = .error e ∧ RPE_ (tk_ (h mTape) (h mo_ 2)) N hb e ∧ fr7_ hq hb)) → PW G RX12 cX12_journey 5 (some .int) (rm_ 6) 0 0 (zm_ G (qi_ (fun z h' => prj_ mLines h h' ∧ JO_ nm (h mRoads 0) h z h' (jou_ (tk_ (h mTape) (h mo_ 2)) nm (h mRoads 0)) ∧ h' mo_ 0 = 0 ∧ h' mo_ 2 = 0))) 69 [some (rr_ G mo_), some (ii_ n), some (ii_ z33), none, none] [] hb := by
            intro hb hc
            have s69 : (0 ≤ hb mo_ 8 ∧ hb mo_ 8 < 2147483648) ∧ (0 ≤ hb mo_ 7 ∧ hb mo_ 7 ≤ N) := by
              rcases hc with ⟨x1, x2⟩ | ⟨e, x1, x2, x3⟩
              · rw [x2]; exact ⟨s8.1, s8.2.1⟩
              · have q := RP_7 (X := .error e) x2; exact ⟨q.2.2.2.2, q.1⟩
            refine pw_aload_n (z := mo_) (pc := 69) dX12_journey_69 rfl rfl ?_
            refine pw_dup (pc := 70) dX12_journey_70 rfl ?_
            refine pw_gI (x := 7) (pc := 71) dX12_journey_71 fX12_215 (im_mo_ hM) k_mo_ rfl rfl (fun r71 => ?_)
            have J86 : ∀ (v1 : Int), (v1 = 0 ∧ 0 < hb mo_ 8 ∨ v1 = 1 ∧ hb mo_ 8 = 0) → PW G RX12 cX12_journey 5 (some .int) (rm_ 6) 0 0 (zm_ G (qi_ (fun z h' => prj_ mLines h h' ∧ JO_ nm (h mRoads 0) h z h' (jou_ (tk_ (h mTape) (h mo_ 2)) nm (h mRoads 0)) ∧ h' mo_ 0 = 0 ∧ h' mo_ 2 = 0))) 86 [some (rr_ G mo_), some (ii_ n), some (ii_ z33), none, none] [ii_ v1, ii_ (hb mo_ 7), rr_ G mo_] hb := by
              intro v1 hv1
              refine pw_iadd (pc := 86) dX12_journey_86 ?_
              refine pw_pI (x := 7) (pc := 87) dX12_journey_87 fX12_215 (im_mo_ hM) k_mo_ rfl rfl (by first | omega) ?_
              obtain ⟨g87, e87⟩ : ∃ x, x = up_ hb mo_ 7 ((hb mo_ 7) + v1) := ⟨_, rfl⟩
              refine pw_heq e87 ?_
              have r87 : RP_ (tk_ (h mTape) (h mo_ 2)) N g87 (jck_ (tk_ (h mTape) (h mo_ 2)) n a) ∧ fr7_ hq g87 := by
                rcases hc with ⟨x1, x2⟩ | ⟨e, x1, x2, x3⟩
                · have q8 : hb mo_ 8 = 0 := by rw [x2]; exact u2.2.2.2
                  have vv : v1 = 1 := by omega
                  have pn := RP_n u2 nz
                  rw [x1, e87, vv, x2]
                  exact ⟨pn.2, fr7_7⟩
                · have q8 := x2.2.2
                  have vv : v1 = 0 := by omega
                  rw [x1, e87, vv, Int.add_zero, up_self]
                  exact ⟨x2, x3⟩
              have Q87 := RP_7 r87.1
              have m87 : nmr_ (g87 mo_ 18) (g87 mNames) (g87 mNameOf) nm := by rw [r87.2.2 18 (by decide) (by decide), r87.2.1 mNames (by decide), r87.2.1 mNameOf (by decide), apr.1.2 18 (by decide) (by decide) (by decide) (by decide) (by decide), apr.1.1 mNames (by decide), apr.1.1 mNameOf (by decide)]; exact hn
              have s87 : g87 mRoads 0 = h mRoads 0 := by rw [r87.2.1 mRoads (by decide), apr.1.1 mRoads (by decide)]
              have J103 : ∀ (r : Int) (hd : PH_), ((z33 = 1 ∧ RP3_ (tk_ (h mTape) (h mo_ 2)) N nm (jck_ (tk_ (h mTape) (h mo_ 2)) n a) r hd) ∨ (z33 = 0 ∧ hd = g87 ∧ r = -1)) → (fr7_ g87 hd) → (ir_ r) → PW G RX12 cX12_journey 5 (some .int) (rm_ 6) 0 0 (zm_ G (qi_ (fun z h' => prj_ mLines h h' ∧ JO_ nm (h mRoads 0) h z h' (jou_ (tk_ (h mTape) (h mo_ 2)) nm (h mRoads 0)) ∧ h' mo_ 0 = 0 ∧ h' mo_ 2 = 0))) 103 [some (rr_ G mo_), some (ii_ n), some (ii_ z33), none, none] [ii_ r] hd := by
                intro r hd hr fd rg
                have s103 : (0 ≤ hd mo_ 8 ∧ hd mo_ 8 < 2147483648) ∧ (0 ≤ hd mo_ 7 ∧ hd mo_ 7 ≤ N) := by
                  rcases hr with ⟨x1, x2⟩ | ⟨x1, x2, x3⟩
                  · have q := RP_7 (RP3_7 x2); exact ⟨q.2.2.2.2, q.1⟩
                  · rw [x2]; exact ⟨Q87.2.2.2.2, Q87.1⟩
                refine pw_istore_n (lv1 := [some (rr_ G mo_), some (ii_ n), some (ii_ z33), some (ii_ r), none]) (pc := 103) dX12_journey_103 rfl (by decide) rfl rfl ?_
                refine pw_aload_n (z := mo_) (pc := 104) dX12_journey_104 rfl rfl ?_
                refine pw_dup (pc := 105) dX12_journey_105 rfl ?_
                refine pw_gI (x := 7) (pc := 106) dX12_journey_106 fX12_215 (im_mo_ hM) k_mo_ rfl rfl (fun r106 => ?_)
                have J125 : ∀ (v2 : Int), (v2 = 0 ∧ (0 < hd mo_ 8 ∨ z33 = 0) ∨ v2 = 1 ∧ hd mo_ 8 = 0 ∧ z33 = 1) → PW G RX12 cX12_journey 5 (some .int) (rm_ 6) 0 0 (zm_ G (qi_ (fun z h' => prj_ mLines h h' ∧ JO_ nm (h mRoads 0) h z h' (jou_ (tk_ (h mTape) (h mo_ 2)) nm (h mRoads 0)) ∧ h' mo_ 0 = 0 ∧ h' mo_ 2 = 0))) 125 [some (rr_ G mo_), some (ii_ n), some (ii_ z33), some (ii_ r), none] [ii_ v2, ii_ (hd mo_ 7), rr_ G mo_] hd := by
                  intro v2 hv2
                  refine pw_iadd (pc := 125) dX12_journey_125 ?_
                  refine pw_pI (x := 7) (pc := 126) dX12_journey_126 fX12_215 (im_mo_ hM) k_mo_ rfl rfl (by first | omega) ?_
                  obtain ⟨g126, e126⟩ : ∃ x, x = up_ hd mo_ 7 ((hd mo_ 7) + v2) := ⟨_, rfl⟩
                  refine pw_heq e126 ?_
                  have r126 : fr7_ hq g126 ∧ (z33 = 1 ∧ RP_ (tk_ (h mTape) (h mo_ 2)) N g126 (bd_ (jck_ (tk_ (h mTape) (h mo_ 2)) n a) (jrd_ (tk_ (h mTape) (h mo_ 2)) nm)) ∧ ((∃ b, (jck_ (tk_ (h mTape) (h mo_ 2)) n a) = .ok b ∧ rdh_ (tk_ (h mTape) (h mo_ 2)) nm b = .ok r ∧ (0 ≤ r ∧ r ≤ 3)) ∨ (∃ e, (bd_ (jck_ (tk_ (h mTape) (h mo_ 2)) n a) (jrd_ (tk_ (h mTape) (h mo_ 2)) nm)) = .error e)) ∨ z33 = 0 ∧ RP_ (tk_ (h mTape) (h mo_ 2)) N g126 (jck_ (tk_ (h mTape) (h mo_ 2)) n a) ∧ r = -1) := by
                    refine ⟨fr7_tr (fr7_tr r87.2 fd) (by rw [e126]; exact fr7_7), ?_⟩
                    rcases hr with ⟨x1, x2⟩ | ⟨x1, x2, x3⟩
                    · refine Or.inl ⟨x1, ?_⟩
                      rcases x2 with ⟨b, v, y1, y2, y3, y4, y5, y6⟩ | ⟨e, y1, y2⟩
                      · have q8 := y3.2.2.2
                        have vv : v2 = 1 := by omega
                        have pn := RP_n y3 (by rw [y6]; decide)
                        refine ⟨?_, Or.inl ⟨b, y1, by rw [y4]; exact y2, by omega⟩⟩
                        rw [bd_o y1]
                        unfold jrd_
                        rw [bd_o y2, e126, vv]; exact pn.2
                      · have q8 := y2.2.2
                        have vv : v2 = 0 := by omega
                        have xe : (bd_ (jck_ (tk_ (h mTape) (h mo_ 2)) n a) (jrd_ (tk_ (h mTape) (h mo_ 2)) nm)) = .error e := by
                          cases hj : (jck_ (tk_ (h mTape) (h mo_ 2)) n a) with
                          | error e1 =>
                            rw [hj] at y1
                            have y1 : (Except.error e1 : RE_ Int) = .error e := y1
                            injection y1 with y1
                            rw [y1]; rfl
                          | ok b =>
                            rw [hj] at y1
                            have y1 : rdh_ (tk_ (h mTape) (h mo_ 2)) nm b = .error e := y1
                            show jrd_ (tk_ (h mTape) (h mo_ 2)) nm b = _
                            unfold jrd_; exact bd_e y1
                        refine ⟨?_, Or.inr ⟨e, xe⟩⟩
                        rw [xe, e126, vv, Int.add_zero, up_self]; exact y2
                    · refine Or.inr ⟨x1, ?_, x3⟩
                      have vv : v2 = 0 := by omega
                      rw [e126, vv, Int.add_zero, up_self, x2]; exact r87.1
                  have s126 : hd mRoads 0 = h mRoads 0 := by rw [fd.1 mRoads (by decide), r87.2.1 mRoads (by decide), apr.1.1 mRoads (by decide)]
                  have J148 : ∀ (v3 : Int) (he : PH_), ((∃ q, (jl1_ (tk_ (h mTape) (h mo_ 2)) nm (h mRoads 0) n a) = .ok q ∧ RPO_ (tk_ (h mTape) (h mo_ 2)) N he q.2 ∧ r = q.1.1 ∧ v3 = q.1.2) ∨ (∃ e, (jl1_ (tk_ (h mTape) (h mo_ 2)) nm (h mRoads 0) n a) = .error e ∧ RPE_ (tk_ (h mTape) (h mo_ 2)) N he e)) → (fr7_ hq he) → (ir_ v3) → PW G RX12 cX12_journey 5 (some .int) (rm_ 6) 0 0 (zm_ G (qi_ (fun z h' => prj_ mLines h h' ∧ JO_ nm (h mRoads 0) h z h' (jou_ (tk_ (h mTape) (h mo_ 2)) nm (h mRoads 0)) ∧ h' mo_ 0 = 0 ∧ h' mo_ 2 = 0))) 148 [some (rr_ G mo_), some (ii_ n), some (ii_ z33), some (ii_ r), none] [ii_ v3] he := by
                    intro v3 he hee fe vg
                    have s148 : (0 ≤ he mo_ 8 ∧ he mo_ 8 < 2147483648) := by
                      rcases hee with ⟨q, x1, x2, x3⟩ | ⟨e, x1, x2⟩
                      · exact (RP_7 (X := .ok q.2) x2).2.2.2.2
                      · exact (RP_7 (X := .error e) x2).2.2.2.2
                    have pe : prj_ mLines h he ∧ (∀ x, x < 45 → he mLines x = h mLines x) ∧ he mo_ 0 = 0 ∧ he mo_ 2 = 0 := ⟨prj_7 apr.1 fe, fun x hx => by rw [fe.1 mLines (by decide)]; exact apr.2.1 x hx, by rw [fe.2 0 (by decide) (by decide)]; exact apr.2.2.1, by rw [fe.2 2 (by decide) (by decide)]; exact apr.2.2.2⟩
                    refine pw_istore (lv1 := [some (rr_ G mo_), some (ii_ n), some (ii_ z33), some (ii_ r), some (ii_ v3)]) (pc := 148) dX12_journey_148 (by decide) rfl rfl ?_
                    have J185 : ∀ (n2 : Int) (hf : PH_), ((∃ q, (jl1_ (tk_ (h mTape) (h mo_ 2)) nm (h mRoads 0) n a) = .ok q ∧ RPO_ (tk_ (h mTape) (h mo_ 2)) N hf q.2 ∧ n2 = n + 1 ∧ n < 20 ∧ jla_ (hf mLines) 45 (L ++ [q.1])) ∨ (∃ e, (jl1_ (tk_ (h mTape) (h mo_ 2)) nm (h mRoads 0) n a) = .error e ∧ RPE_ (tk_ (h mTape) (h mo_ 2)) N hf e ∧ n2 = n)) → (prj_ mLines h hf ∧ (∀ x, x < 45 → hf mLines x = h mLines x) ∧ hf mo_ 0 = 0 ∧ hf mo_ 2 = 0) → PW G RX12 cX12_journey 5 (some .int) (rm_ 6) 0 0 (zm_ G (qi_ (fun z h' => prj_ mLines h h' ∧ JO_ nm (h mRoads 0) h z h' (jou_ (tk_ (h mTape) (h mo_ 2)) nm (h mRoads 0)) ∧ h' mo_ 0 = 0 ∧ h' mo_ 2 = 0))) 185 [some (rr_ G mo_), some (ii_ n2), none, none, none] [] hf := by
                      intro n2 hf hff pf
                      have s185 : (0 ≤ hf mo_ 8 ∧ hf mo_ 8 < 2147483648) ∧ (0 ≤ hf mo_ 7 ∧ hf mo_ 7 ≤ N) ∧ (0 ≤ hf mPlace (hf mo_ 7) ∧ hf mPlace (hf mo_ 7) ≤ 1000) ∧ (0 ≤ n2 ∧ n2 ≤ 20) := by
                        rcases hff with ⟨q, x1, x2, x3, x4⟩ | ⟨e, x1, x2, x3⟩
                        · have w := RP_7 (X := .ok q.2) x2; exact ⟨w.2.2.2.2, w.1, w.2.2.1, by omega⟩
                        · have w := RP_7 (X := .error e) x2; exact ⟨w.2.2.2.2, w.1, w.2.2.1, by omega⟩
                      refine pw_aload_n (z := mo_) (pc := 185) dX12_journey_185 rfl rfl ?_
                      refine pw_bipush (pc := 186) dX12_journey_186 rfl ?_
                      refine pw_callV (c := 12) (o := mo_) (As := [ii_ 59]) (rest := []) (pc := 188) dX12_journey_188 (c_takeSign hM hf (by first | omega) (by first | omega) 59 (by first | omega)) lX12_259 mX12_takeSign vX12_takeSign (im_mo_ hM) k_mo_ rfl rfl rfl (by decide) ⟨Nat.zero_le _, Nat.zero_le _⟩ (Nat.le_of_ble_eq_true rfl) (k_v (fun h188 q188 => ?_))
                      have ps : ∀ X, RP_ (tk_ (h mTape) (h mo_ 2)) N hf X → fr7_ hf h188 ∧ RP_ (tk_ (h mTape) (h mo_ 2)) N h188 (bd_ X (tks2_ (tk_ (h mTape) (h mo_ 2)) 59)) := fun X H => P_sign H q188
                      have am2 := am.2 (by omega)
                      have a7 := u2.2.1
                      have nx : (jst_ (tk_ (h mTape) (h mo_ 2)) N nm (h mRoads 0) n2 h188 ∧ fr7_ hf h188) ∧ ((a : Int) < h188 mo_ 7 ∨ 0 < h188 mo_ 8) := by
                        rcases hff with ⟨q, x1, x2, x3, x4, x5⟩ | ⟨e, x1, x2, x3⟩
                        · obtain ⟨p1, p2⟩ := ps (.ok q.2) x2
                          rw [bd_o x1] at e01
                          have j1 := jl1_o x1
                          have p2 : RP_ (tk_ (h mTape) (h mo_ 2)) N h188 (tks2_ (tk_ (h mTape) (h mo_ 2)) 59 q.2) := p2
                          have e01 : jou_ (tk_ (h mTape) (h mo_ 2)) nm (h mRoads 0) = bd_ (tks2_ (tk_ (h mTape) (h mo_ 2)) 59 q.2) (fun b => jlp_ (tk_ (h mTape) (h mo_ 2)) nm (h mRoads 0) fv (L ++ [q.1]) b) := e01
                          cases hs : tks2_ (tk_ (h mTape) (h mo_ 2)) 59 q.2 with
                          | error e =>
                            rw [hs] at p2
                            rw [bd_e hs] at e01
                            have p2 : RPE_ (tk_ (h mTape) (h mo_ 2)) N h188 e := p2
                            exact ⟨⟨Or.inr ⟨e, e01, p2, s185.2.2.2⟩, p1⟩, Or.inr (by have := p2.2.2; omega)⟩
                          | ok b =>
                            rw [hs] at p2
                            rw [bd_o hs] at e01
                            have p2 : RPO_ (tk_ (h mTape) (h mo_ 2)) N h188 b := p2
                            have sb := (tks2_o hs).1
                            have ln : (L ++ [q.1]).length = L.length + 1 := by rw [List.length_append]; rfl
                            refine ⟨⟨Or.inl ⟨L ++ [q.1], b, fv, e01, p2, by rw [ln]; omega, by omega, by rw [p1.1 mLines (by decide)]; exact x5, by omega, fun y hy => ?_⟩, p1⟩, Or.inl (by have := p2.2.1; omega)⟩
                            rcases List.mem_append.mp hy with hy | hy
                            · exact u7 y hy
                            · simp at hy; subst hy; exact j1.2.2
                        · obtain ⟨p1, p2⟩ := ps (.error e) x2
                          rw [bd_e x1] at e01
                          have p2 : RPE_ (tk_ (h mTape) (h mo_ 2)) N h188 e := p2
                          exact ⟨⟨Or.inr ⟨e, e01, p2, s185.2.2.2⟩, p1⟩, Or.inr (by have := p2.2.2; omega)⟩
                      refine pw_goto (t := 11) (pc := 191) dX12_journey_191 (by decide) ?_
                      exact ih11 (mm - 1) _ _ (⟨prj_7 pf.1 nx.1.2, fun x hx => by rw [nx.1.2.1 mLines (by decide)]; exact pf.2.1 x hx, by rw [nx.1.2.2 0 (by decide) (by decide)]; exact pf.2.2.1, by rw [nx.1.2.2 2 (by decide) (by decide)]; exact pf.2.2.2⟩) (nx.1.1) (by have := nx.2; omega) (by omega)
                    refine pw_aload_n (z := mo_) (pc := 150) dX12_journey_150 rfl rfl ?_
                    refine pw_gI (x := 8) (pc := 151) dX12_journey_151 fX12_218 (im_mo_ hM) k_mo_ rfl rfl (fun r151 => ?_)
                    refine pw_if_ne (t := 185) (pc := 154) dX12_journey_154 (by decide) (by first | omega) (fun c154 => ?_) (fun c154 => ?_)
                    · refine pw_less (lv1 := [some (rr_ G mo_), some (ii_ n), none, none, none]) rfl (by intro i v; (match i with | 0 => simp | 1 => simp | 2 => simp | 3 => simp | 4 => simp | n + 5 => simp)) ?_
                      exact J185 _ _ (by
                              first
                              | (rcases hee with ⟨q, x1, x2, x3, x4⟩ | ⟨e, x1, x2⟩
                                 · exfalso; have := x2.2.2.2; omega
                                 · exact Or.inr ⟨e, x1, x2, rfl⟩)
                              | (rcases hee with ⟨q, x1, x2, x3, x4⟩ | ⟨e, x1, x2⟩
                                 · have j1 := jl1_o x1
                                   have nn : n < 20 := by have := j1.2.1; omega
                                   refine Or.inl ⟨q, x1, ⟨RB_mv x2.1 (by rw [e181, up_off (by decide), e168, up_off (by decide)]) (by rw [e181, up_off (by decide), e168, up_off (by decide)]) (by rw [e181, up_off (by decide), e168, up_off (by decide)]) (by rw [e181, up_off (by decide), e168, up_off (by decide)]), by rw [e181, up_off (by decide), e168, up_off (by decide)]; exact x2.2.1, x2.2.2.1, by rw [e181, up_off (by decide), e168, up_off (by decide)]; exact x2.2.2.2⟩, rfl, nn, ?_⟩
                                   have pj := jla_push (a := q.1.1) (b := q.1.2) (show jla_ (he mLines) 45 L by rw [fe.1 mLines (by decide)]; exact u5)
                                   rw [e181, up_ob, e168, up_ob, x3, x4, u3]
                                   exact pj
                                 · exfalso; have := x2.2.2; omega)) (by
                              first
                              | exact pe
                              | exact ⟨⟨by rw [e181, e168]; exact off_up (off_up pe.1.1 (by decide)) (by decide), fun k k0 k2 k3 k7 k8 => by rw [e181, up_off (by decide), e168, up_off (by decide)]; exact pe.1.2 k k0 k2 k3 k7 k8⟩, fun x hx => by rw [e181, up_at, if_neg (by omega), e168, up_at, if_neg (by omega)]; exact pe.2.1 x hx, by rw [e181, up_off (by decide), e168, up_off (by decide)]; exact pe.2.2.1, by rw [e181, up_off (by decide), e168, up_off (by decide)]; exact pe.2.2.2⟩)
                    · refine pw_aload_n (z := mo_) (pc := 157) dX12_journey_157 rfl rfl ?_
                      refine pw_getR (r := mLines) (pc := 158) dX12_journey_158 fX12_118 (im_mo_ hM) k_mo_ rfl fr_mLines ?_
                      refine pw_bipush (pc := 161) dX12_journey_161 rfl ?_
                      refine pw_iconst (pc := 163) dX12_journey_163 ?_
                      refine pw_iload_n (z := n) (pc := 164) dX12_journey_164 rfl rfl ?_
                      refine pw_imul (pc := 165) dX12_journey_165 ?_
                      refine pw_iadd (pc := 166) dX12_journey_166 ?_
                      refine pw_iload_n (z := r) (pc := 167) dX12_journey_167 rfl rfl ?_
                      refine pw_iast (pc := 168) dX12_journey_168 (im_mLines hM) k_mLines 90 l_mLines (by first | omega) (by first | omega) (by first | omega) (by first | omega) ?_
                      obtain ⟨g168, e168⟩ : ∃ x, x = up_ he mLines (45 + (2 * n)) r := ⟨_, rfl⟩
                      refine pw_heq e168 ?_
                      refine pw_aload_n (z := mo_) (pc := 169) dX12_journey_169 rfl rfl ?_
                      refine pw_getR (r := mLines) (pc := 170) dX12_journey_170 fX12_118 (im_mo_ hM) k_mo_ rfl fr_mLines ?_
                      refine pw_bipush (pc := 173) dX12_journey_173 rfl ?_
                      refine pw_iconst (pc := 175) dX12_journey_175 ?_
                      refine pw_iload_n (z := n) (pc := 176) dX12_journey_176 rfl rfl ?_
                      refine pw_imul (pc := 177) dX12_journey_177 ?_
                      refine pw_iadd (pc := 178) dX12_journey_178 ?_
                      refine pw_iload (z := v3) (pc := 179) dX12_journey_179 rfl ?_
                      refine pw_iast (pc := 181) dX12_journey_181 (im_mLines hM) k_mLines 90 l_mLines (by first | omega) (by first | omega) (by first | omega) (by first | omega) ?_
                      obtain ⟨g181, e181⟩ : ∃ x, x = up_ g168 mLines (46 + (2 * n)) v3 := ⟨_, rfl⟩
                      refine pw_heq e181 ?_
                      refine pw_iinc (z := n) (lv1 := [some (rr_ G mo_), some (ii_ (n + 1)), some (ii_ z33), some (ii_ r), some (ii_ v3)]) (pc := 182) dX12_journey_182 rfl (by decide) rfl rfl ?_
                      refine pw_less (lv1 := [some (rr_ G mo_), some (ii_ (n + 1)), none, none, none]) rfl (by intro i v; (match i with | 0 => simp | 1 => simp | 2 => simp | 3 => simp | 4 => simp | n + 5 => simp)) ?_
                      exact J185 _ _ (by
                              first
                              | (rcases hee with ⟨q, x1, x2, x3, x4⟩ | ⟨e, x1, x2⟩
                                 · exfalso; have := x2.2.2.2; omega
                                 · exact Or.inr ⟨e, x1, x2, rfl⟩)
                              | (rcases hee with ⟨q, x1, x2, x3, x4⟩ | ⟨e, x1, x2⟩
                                 · have j1 := jl1_o x1
                                   have nn : n < 20 := by have := j1.2.1; omega
                                   refine Or.inl ⟨q, x1, ⟨RB_mv x2.1 (by rw [e181, up_off (by decide), e168, up_off (by decide)]) (by rw [e181, up_off (by decide), e168, up_off (by decide)]) (by rw [e181, up_off (by decide), e168, up_off (by decide)]) (by rw [e181, up_off (by decide), e168, up_off (by decide)]), by rw [e181, up_off (by decide), e168, up_off (by decide)]; exact x2.2.1, x2.2.2.1, by rw [e181, up_off (by decide), e168, up_off (by decide)]; exact x2.2.2.2⟩, rfl, nn, ?_⟩
                                   have pj := jla_push (a := q.1.1) (b := q.1.2) (show jla_ (he mLines) 45 L by rw [fe.1 mLines (by decide)]; exact u5)
                                   rw [e181, up_ob, e168, up_ob, x3, x4, u3]
                                   exact pj
                                 · exfalso; have := x2.2.2; omega)) (by
                              first
                              | exact pe
                              | exact ⟨⟨by rw [e181, e168]; exact off_up (off_up pe.1.1 (by decide)) (by decide), fun k k0 k2 k3 k7 k8 => by rw [e181, up_off (by decide), e168, up_off (by decide)]; exact pe.1.2 k k0 k2 k3 k7 k8⟩, fun x hx => by rw [e181, up_at, if_neg (by omega), e168, up_at, if_neg (by omega)]; exact pe.2.1 x hx, by rw [e181, up_off (by decide), e168, up_off (by decide)]; exact pe.2.2.1, by rw [e181, up_off (by decide), e168, up_off (by decide)]; exact pe.2.2.2⟩)
                  refine pw_iload_n (z := z33) (pc := 129) dX12_journey_129 rfl rfl ?_
                  refine pw_if_eq (t := 147) (pc := 130) dX12_journey_130 (by decide) (by first | omega) (fun c130 => ?_) (fun c130 => ?_)
                  · refine pw_iconst (pc := 147) dX12_journey_147 ?_
                    exact J148 _ _ (by
                            first
                            | (have w12 : isW_ ((tk_ (h mTape) (h mo_ 2)) a) 12 := ((RS_wd (RPO_RS u2) (w := 12) (by decide)).mp (dj_1 w33 (by omega))).2
                               have ej : (jl1_ (tk_ (h mTape) (h mo_ 2)) nm (h mRoads 0) n a) = bd_ (jck_ (tk_ (h mTape) (h mo_ 2)) n a) (fun b => bd_ (rdh_ (tk_ (h mTape) (h mo_ 2)) nm b) (fun r => bd_ (tkn_ (tk_ (h mTape) (h mo_ 2)) 0 ((h mRoads 0) - 1) (b + 1)) (fun s => .ok ((r, s.1), s.2)))) := by unfold jl1_; rw [if_t w12]
                               rcases x126.2.2 with ⟨b, y1, y2, y3⟩ | ⟨e, y1⟩
                               · have xo : (bd_ (jck_ (tk_ (h mTape) (h mo_ 2)) n a) (jrd_ (tk_ (h mTape) (h mo_ 2)) nm)) = .ok (b + 1) := by rw [bd_o y1]; unfold jrd_; rw [bd_o y2]
                                 rw [xo] at r141
                                 have r141 : RP2_ (tk_ (h mTape) (h mo_ 2)) N h141 z141 (tkn_ (tk_ (h mTape) (h mo_ 2)) 0 ((h mRoads 0) - 1) (b + 1)) := r141
                                 rw [ej, bd_o y1, bd_o y2]
                                 cases ht9 : tkn_ (tk_ (h mTape) (h mo_ 2)) 0 ((h mRoads 0) - 1) (b + 1) with
                                 | ok s => rw [ht9] at r141; exact Or.inl ⟨_, rfl, r141.1, rfl, r141.2⟩
                                 | error e => rw [ht9] at r141; exact Or.inr ⟨e, rfl, r141.1⟩
                               · rw [y1] at r141
                                 refine Or.inr ⟨e, ?_, r141.1⟩
                                 rw [ej]
                                 cases hj : (jck_ (tk_ (h mTape) (h mo_ 2)) n a) with
                                 | error e1 => rw [hj] at y1; have y1 : (Except.error e1 : RE_ Nat) = .error e := y1; injection y1 with y1; rw [y1]; rfl
                                 | ok b =>
                                   rw [hj] at y1
                                   have y1 : jrd_ (tk_ (h mTape) (h mo_ 2)) nm b = .error e := y1
                                   unfold jrd_ at y1
                                   cases hk : rdh_ (tk_ (h mTape) (h mo_ 2)) nm b with
                                   | ok v => rw [hk] at y1; cases y1
                                   | error e2 => rw [hk] at y1; have y1 : (Except.error e2 : RE_ Nat) = .error e := y1; injection y1 with y1; show bd_ (rdh_ (tk_ (h mTape) (h mo_ 2)) nm b) _ = _; rw [hk, y1]; rfl)
                            | (have w12 : ¬ isW_ ((tk_ (h mTape) (h mo_ 2)) a) 12 := fun u => by have := dj_t w33 ((RS_wd (RPO_RS u2) (w := 12) (by decide)).mpr ⟨u2.2.2.2, u⟩); omega
                               have ej : (jl1_ (tk_ (h mTape) (h mo_ 2)) nm (h mRoads 0) n a) = bd_ (jck_ (tk_ (h mTape) (h mo_ 2)) n a) (fun b => .ok ((-1, -1), b)) := by unfold jl1_; rw [if_f w12]
                               rcases r126.2 with x | ⟨x1, x2, x3⟩
                               · exfalso; omega
                               · rw [ej]
                                 cases hj : (jck_ (tk_ (h mTape) (h mo_ 2)) n a) with
                                 | ok b => rw [hj] at x2; exact Or.inl ⟨_, rfl, x2, x3, rfl⟩
                                 | error e => rw [hj] at x2; exact Or.inr ⟨e, rfl, x2⟩)) (by first | exact fr7_tr r126.1 f141 | exact r126.1) (by omega)
                  · refine pw_aload_n (z := mo_) (pc := 133) dX12_journey_133 rfl rfl ?_
                    refine pw_iconst (pc := 134) dX12_journey_134 ?_
                    refine pw_aload_n (z := mo_) (pc := 135) dX12_journey_135 rfl rfl ?_
                    refine pw_callV (c := 12) (o := mo_) (As := []) (rest := [ii_ 0, rr_ G mo_]) (pc := 136) dX12_journey_136 (c_seats hM g126) lX12_331 mX12_seats vX12_seats (im_mo_ hM) k_mo_ rfl rfl rfl (by decide) ⟨Nat.zero_le _, Nat.zero_le _⟩ (Nat.le_of_ble_eq_true rfl) (k_i (fun z136 h136 y136 q136 => ?_))
                    obtain ⟨rfl, rfl⟩ := q136
                    have n_g126_mRoads : g126 mRoads = hd mRoads := (by rw [e126]; exact up_off (by decide))
                    rw [n_g126_mRoads] at y136 ⊢
                    rw [s126]
                    refine pw_iconst (pc := 139) dX12_journey_139 ?_
                    refine pw_isub (pc := 140) dX12_journey_140 ?_
                    have x126 : z33 = 1 ∧ RP_ (tk_ (h mTape) (h mo_ 2)) N g126 (bd_ (jck_ (tk_ (h mTape) (h mo_ 2)) n a) (jrd_ (tk_ (h mTape) (h mo_ 2)) nm)) ∧ ((∃ b, (jck_ (tk_ (h mTape) (h mo_ 2)) n a) = .ok b ∧ rdh_ (tk_ (h mTape) (h mo_ 2)) nm b = .ok r ∧ (0 ≤ r ∧ r ≤ 3)) ∨ (∃ e, (bd_ (jck_ (tk_ (h mTape) (h mo_ 2)) n a) (jrd_ (tk_ (h mTape) (h mo_ 2)) nm)) = .error e)) := by rcases r126.2 with x | x; exact x; (exfalso; omega)
                    refine pw_callV (c := 12) (o := mo_) (As := [ii_ 0, ii_ ((h mRoads 0) - 1)]) (rest := []) (pc := 141) dX12_journey_141 (c_takeNumber hM g126 (tk_ (h mTape) (h mo_ 2)) N 0 ((h mRoads 0) - 1) (by first | omega | (simp only [n_g126_mRoads]; omega)) (by first | omega | (simp only [n_g126_mRoads]; omega)) (bd_ (jck_ (tk_ (h mTape) (h mo_ 2)) n a) (jrd_ (tk_ (h mTape) (h mo_ 2)) nm)) x126.2.1) lX12_236 mX12_takeNumber vX12_takeNumber (im_mo_ hM) k_mo_ rfl rfl rfl (by decide) ⟨Nat.zero_le _, Nat.zero_le _⟩ (Nat.le_of_ble_eq_true rfl) (k_i (fun z141 h141 y141 q141 => ?_))
                    obtain ⟨f141, r141⟩ := q141
                    refine pw_goto (t := 148) (pc := 144) dX12_journey_144 (by decide) ?_
                    exact J148 _ _ (by
                            first
                            | (have w12 : isW_ ((tk_ (h mTape) (h mo_ 2)) a) 12 := ((RS_wd (RPO_RS u2) (w := 12) (by decide)).mp (dj_1 w33 (by omega))).2
                               have ej : (jl1_ (tk_ (h mTape) (h mo_ 2)) nm (h mRoads 0) n a) = bd_ (jck_ (tk_ (h mTape) (h mo_ 2)) n a) (fun b => bd_ (rdh_ (tk_ (h mTape) (h mo_ 2)) nm b) (fun r => bd_ (tkn_ (tk_ (h mTape) (h mo_ 2)) 0 ((h mRoads 0) - 1) (b + 1)) (fun s => .ok ((r, s.1), s.2)))) := by unfold jl1_; rw [if_t w12]
                               rcases x126.2.2 with ⟨b, y1, y2, y3⟩ | ⟨e, y1⟩
                               · have xo : (bd_ (jck_ (tk_ (h mTape) (h mo_ 2)) n a) (jrd_ (tk_ (h mTape) (h mo_ 2)) nm)) = .ok (b + 1) := by rw [bd_o y1]; unfold jrd_; rw [bd_o y2]
                                 rw [xo] at r141
                                 have r141 : RP2_ (tk_ (h mTape) (h mo_ 2)) N h141 z141 (tkn_ (tk_ (h mTape) (h mo_ 2)) 0 ((h mRoads 0) - 1) (b + 1)) := r141
                                 rw [ej, bd_o y1, bd_o y2]
                                 cases ht9 : tkn_ (tk_ (h mTape) (h mo_ 2)) 0 ((h mRoads 0) - 1) (b + 1) with
                                 | ok s => rw [ht9] at r141; exact Or.inl ⟨_, rfl, r141.1, rfl, r141.2⟩
                                 | error e => rw [ht9] at r141; exact Or.inr ⟨e, rfl, r141.1⟩
                               · rw [y1] at r141
                                 refine Or.inr ⟨e, ?_, r141.1⟩
                                 rw [ej]
                                 cases hj : (jck_ (tk_ (h mTape) (h mo_ 2)) n a) with
                                 | error e1 => rw [hj] at y1; have y1 : (Except.error e1 : RE_ Nat) = .error e := y1; injection y1 with y1; rw [y1]; rfl
                                 | ok b =>
                                   rw [hj] at y1
                                   have y1 : jrd_ (tk_ (h mTape) (h mo_ 2)) nm b = .error e := y1
                                   unfold jrd_ at y1
                                   cases hk : rdh_ (tk_ (h mTape) (h mo_ 2)) nm b with
                                   | ok v => rw [hk] at y1; cases y1
                                   | error e2 => rw [hk] at y1; have y1 : (Except.error e2 : RE_ Nat) = .error e := y1; injection y1 with y1; show bd_ (rdh_ (tk_ (h mTape) (h mo_ 2)) nm b) _ = _; rw [hk, y1]; rfl)
                            | (have w12 : ¬ isW_ ((tk_ (h mTape) (h mo_ 2)) a) 12 := fun u => by have := dj_t w33 ((RS_wd (RPO_RS u2) (w := 12) (by decide)).mpr ⟨u2.2.2.2, u⟩); omega
                               have ej : (jl1_ (tk_ (h mTape) (h mo_ 2)) nm (h mRoads 0) n a) = bd_ (jck_ (tk_ (h mTape) (h mo_ 2)) n a) (fun b => .ok ((-1, -1), b)) := by unfold jl1_; rw [if_f w12]
                               rcases r126.2 with x | ⟨x1, x2, x3⟩
                               · exfalso; omega
                               · rw [ej]
                                 cases hj : (jck_ (tk_ (h mTape) (h mo_ 2)) n a) with
                                 | ok b => rw [hj] at x2; exact Or.inl ⟨_, rfl, x2, x3, rfl⟩
                                 | error e => rw [hj] at x2; exact Or.inr ⟨e, rfl, x2⟩)) (by first | exact fr7_tr r126.1 f141 | exact r126.1) (by omega)
                have J120 : (0 < hd mo_ 8 ∨ z33 = 0) → PW G RX12 cX12_journey 5 (some .int) (rm_ 6) 0 0 (zm_ G (qi_ (fun z h' => prj_ mLines h h' ∧ JO_ nm (h mRoads 0) h z h' (jou_ (tk_ (h mTape) (h mo_ 2)) nm (h mRoads 0)) ∧ h' mo_ 0 = 0 ∧ h' mo_ 2 = 0))) 120 [some (rr_ G mo_), some (ii_ n), some (ii_ z33), some (ii_ r), none] [ii_ (hd mo_ 7), rr_ G mo_] hd := by
                  intro h120
                  refine pw_iconst (pc := 120) dX12_journey_120 ?_
                  refine pw_goto (t := 125) (pc := 121) dX12_journey_121 (by decide) ?_
                  exact J125 _ (by omega)
                refine pw_aload_n (z := mo_) (pc := 109) dX12_journey_109 rfl rfl ?_
                refine pw_gI (x := 8) (pc := 110) dX12_journey_110 fX12_218 (im_mo_ hM) k_mo_ rfl rfl (fun r110 => ?_)
                refine pw_if_gt (t := 120) (pc := 113) dX12_journey_113 (by decide) (by first | omega) (fun c113 => ?_) (fun c113 => ?_)
                · exact J120  (by omega)
                · refine pw_iload_n (z := z33) (pc := 116) dX12_journey_116 rfl rfl ?_
                  refine pw_if_ne (t := 124) (pc := 117) dX12_journey_117 (by decide) (by first | omega) (fun c117 => ?_) (fun c117 => ?_)
                  · refine pw_iconst (pc := 124) dX12_journey_124 ?_
                    exact J125 _ (by omega)
                  · exact J120  (by omega)
              refine pw_iload_n (z := z33) (pc := 90) dX12_journey_90 rfl rfl ?_
              refine pw_if_eq (t := 102) (pc := 91) dX12_journey_91 (by decide) (by first | omega) (fun c91 => ?_) (fun c91 => ?_)
              · refine pw_iconst (pc := 102) dX12_journey_102 ?_
                exact J103 _ _ (by first | exact Or.inl ⟨by omega, r96⟩ | exact Or.inr ⟨by omega, rfl, rfl⟩) (by first | exact f96 | exact fr7_rf) (by omega)
              · refine pw_aload_n (z := mo_) (pc := 94) dX12_journey_94 rfl rfl ?_
                refine pw_iconst (pc := 95) dX12_journey_95 ?_
                refine pw_callV (c := 12) (o := mo_) (As := [ii_ 0]) (rest := []) (pc := 96) dX12_journey_96 (c_riderHere0 hM g87 (tk_ (h mTape) (h mo_ 2)) N (jck_ (tk_ (h mTape) (h mo_ 2)) n a) r87.1 nm m87) lX12_312 mX12_riderHere vX12_riderHere (im_mo_ hM) k_mo_ rfl rfl rfl (by decide) ⟨Nat.zero_le _, Nat.zero_le _⟩ (Nat.le_of_ble_eq_true rfl) (k_i (fun z96 h96 y96 q96 => ?_))
                obtain ⟨f96, r96⟩ := q96
                refine pw_goto (t := 103) (pc := 99) dX12_journey_99 (by decide) ?_
                exact J103 _ _ (by first | exact Or.inl ⟨by omega, r96⟩ | exact Or.inr ⟨by omega, rfl, rfl⟩) (by first | exact f96 | exact fr7_rf) (by omega)
            refine pw_aload_n (z := mo_) (pc := 74) dX12_journey_74 rfl rfl ?_
            refine pw_gI (x := 8) (pc := 75) dX12_journey_75 fX12_218 (im_mo_ hM) k_mo_ rfl rfl (fun r75 => ?_)
            refine pw_if_le (t := 85) (pc := 78) dX12_journey_78 (by decide) (by first | omega) (fun c78 => ?_) (fun c78 => ?_)
            · refine pw_iconst (pc := 85) dX12_journey_85 ?_
              exact J86 _ (by omega)
            · refine pw_iconst (pc := 81) dX12_journey_81 ?_
              refine pw_goto (t := 86) (pc := 82) dX12_journey_82 (by decide) ?_
              exact J86 _ (by omega)
          have J58 : (isW_ ((tk_ (h mTape) (h mo_ 2)) a) 12 ∨ isW_ ((tk_ (h mTape) (h mo_ 2)) a) 13) → PW G RX12 cX12_journey 5 (some .int) (rm_ 6) 0 0 (zm_ G (qi_ (fun z h' => prj_ mLines h h' ∧ JO_ nm (h mRoads 0) h z h' (jou_ (tk_ (h mTape) (h mo_ 2)) nm (h mRoads 0)) ∧ h' mo_ 0 = 0 ∧ h' mo_ 2 = 0))) 58 [some (rr_ G mo_), some (ii_ n), some (ii_ z33), none, none] [] hq := by
            intro h58
            refine pw_iload_n (z := n) (pc := 58) dX12_journey_58 rfl rfl ?_
            refine pw_bipush (pc := 59) dX12_journey_59 rfl ?_
            refine pw_icmp_ne (t := 69) (pc := 61) dX12_journey_61 (by decide) (by first | omega) (by first | omega) (fun c61 => ?_) (fun c61 => ?_)
            · exact J69 _ (by
                      first
                      | exact Or.inl ⟨by unfold jck_; rw [if_t h58, if_neg c61], rfl⟩
                      | (have w := RP_w (w := 5) u2 (by omega)
                         exact Or.inr ⟨_, by unfold jck_; rw [if_t h58, if_pos c61], by rw [q66]; exact w.2, by rw [q66, w.1]; exact fr7_8⟩)
                      | (have w := RP_w (w := 1) u2 (by omega)
                         refine Or.inr ⟨_, ?_, by rw [q52]; exact w.2, by rw [q52, w.1]; exact fr7_8⟩
                         unfold jck_
                         rw [if_f (fun u => by
                           rcases u with u | u
                           · exact nw12 u
                           · exact p44 ((RS_wd (RPO_RS u2) (w := 13) (by decide)).mpr ⟨u2.2.2.2, u⟩))]))
            · refine pw_aload_n (z := mo_) (pc := 64) dX12_journey_64 rfl rfl ?_
              refine pw_iconst (pc := 65) dX12_journey_65 ?_
              refine pw_callV (c := 12) (o := mo_) (As := [ii_ 5]) (rest := []) (pc := 66) dX12_journey_66 (c_wrong hM hq (by first | omega) (by first | omega) 5 (by first | omega)) lX12_224 mX12_wrong vX12_wrong (im_mo_ hM) k_mo_ rfl rfl rfl (by decide) ⟨Nat.zero_le _, Nat.zero_le _⟩ (Nat.le_of_ble_eq_true rfl) (k_v (fun h66 q66 => ?_))
              exact J69 _ (by
                      first
                      | exact Or.inl ⟨by unfold jck_; rw [if_t h58, if_neg c61], rfl⟩
                      | (have w := RP_w (w := 5) u2 (by omega)
                         exact Or.inr ⟨_, by unfold jck_; rw [if_t h58, if_pos c61], by rw [q66]; exact w.2, by rw [q66, w.1]; exact fr7_8⟩)
                      | (have w := RP_w (w := 1) u2 (by omega)
                         refine Or.inr ⟨_, ?_, by rw [q52]; exact w.2, by rw [q52, w.1]; exact fr7_8⟩
                         unfold jck_
                         rw [if_f (fun u => by
                           rcases u with u | u
                           · exact nw12 u
                           · exact p44 ((RS_wd (RPO_RS u2) (w := 13) (by decide)).mpr ⟨u2.2.2.2, u⟩))]))
          refine pw_iload_n (z := z33) (pc := 37) dX12_journey_37 rfl rfl ?_
          refine pw_if_ne (t := 58) (pc := 38) dX12_journey_38 (by decide) (by first | omega) (fun c38 => ?_) (fun c38 => ?_)
          · exact J58  (by first | exact Or.inr ((RS_wd (RPO_RS u2) (w := 13) (by decide)).mp p44).2 | exact Or.inl ((RS_wd (RPO_RS u2) (w := 12) (by decide)).mp (dj_1 w33 c38)).2)
          · have nw12 : ¬ isW_ ((tk_ (h mTape) (h mo_ 2)) a) 12 := fun u => by have := dj_t w33 ((RS_wd (RPO_RS u2) (w := 12) (by decide)).mpr ⟨u2.2.2.2, u⟩); omega
            refine pw_aload_n (z := mo_) (pc := 41) dX12_journey_41 rfl rfl ?_
            refine pw_bipush (pc := 42) dX12_journey_42 rfl ?_
            refine pw_callV (c := 12) (o := mo_) (As := [ii_ 13]) (rest := []) (pc := 44) dX12_journey_44 (c_isWord hM hq (by first | omega) 13 (by first | omega)) lX12_227 mX12_isWord vX12_isWord (im_mo_ hM) k_mo_ rfl rfl rfl (by decide) ⟨Nat.zero_le _, Nat.zero_le _⟩ (Nat.le_of_ble_eq_true rfl) (k_i (fun z44 h44 y44 q44 => ?_))
            obtain ⟨rfl, ⟨rfl, p44⟩ | ⟨rfl, p44⟩⟩ := q44
            · refine pw_if_ne (t := 58) (pc := 47) dX12_journey_47 (by decide) (by first | omega) (fun _ => ?_) (fun c47 => absurd c47 (by decide))
              exact J58  (by first | exact Or.inr ((RS_wd (RPO_RS u2) (w := 13) (by decide)).mp p44).2 | exact Or.inl ((RS_wd (RPO_RS u2) (w := 12) (by decide)).mp (dj_1 w33 c38)).2)
            · refine pw_if_ne (t := 58) (pc := 47) dX12_journey_47 (by decide) (by first | omega) (fun c47 => absurd c47 (by decide)) (fun _ => ?_)
              refine pw_aload_n (z := mo_) (pc := 50) dX12_journey_50 rfl rfl ?_
              refine pw_iconst (pc := 51) dX12_journey_51 ?_
              refine pw_callV (c := 12) (o := mo_) (As := [ii_ 1]) (rest := []) (pc := 52) dX12_journey_52 (c_wrong hM hq (by first | omega) (by first | omega) 1 (by first | omega)) lX12_224 mX12_wrong vX12_wrong (im_mo_ hM) k_mo_ rfl rfl rfl (by decide) ⟨Nat.zero_le _, Nat.zero_le _⟩ (Nat.le_of_ble_eq_true rfl) (k_v (fun h52 q52 => ?_))
              refine pw_goto (t := 69) (pc := 55) dX12_journey_55 (by decide) ?_
              exact J69 _ (by
                      first
                      | exact Or.inl ⟨by unfold jck_; rw [if_t h58, if_neg c61], rfl⟩
                      | (have w := RP_w (w := 5) u2 (by omega)
                         exact Or.inr ⟨_, by unfold jck_; rw [if_t h58, if_pos c61], by rw [q66]; exact w.2, by rw [q66, w.1]; exact fr7_8⟩)
                      | (have w := RP_w (w := 1) u2 (by omega)
                         refine Or.inr ⟨_, ?_, by rw [q52]; exact w.2, by rw [q52, w.1]; exact fr7_8⟩
                         unfold jck_
                         rw [if_f (fun u => by
                           rcases u with u | u
                           · exact nw12 u
                           · exact p44 ((RS_wd (RPO_RS u2) (w := 13) (by decide)).mpr ⟨u2.2.2.2, u⟩))]))
  exact L11 _ ((N : Int) + 2) _ _ (⟨p6, fun x _ => by rw [l6], z6⟩) (st0) (by omega) (Int.self_le_toNat _)

