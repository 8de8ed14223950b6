/-! ===== a plan's seats, as the class takes them apart ===== -/
def disb_ (si : Int → Int) (r : Int) : Nat → Bool
  | 0 => true
  | e + 1 => disb_ si r e && decide (si e ≠ si r)
def seab_ (S : Int) (si : Int → Int) : Nat → Bool
  | 0 => true
  | r + 1 => seab_ S si r && (decide (0 ≤ si r ∧ si r < S) && disb_ si r r)
theorem disb_i {si : Int → Int} {r : Int} : ∀ n, disb_ si r n = true ↔ dis_ si r n
  | 0 => by simp [disb_, dis_]
  | n + 1 => by simp [disb_, dis_, disb_i n]
theorem seab_i {S : Int} {si : Int → Int} : ∀ n, seab_ S si n = true ↔ sea_ S si n
  | 0 => by simp [seab_, sea_]
  | n + 1 => by simp [seab_, sea_, seab_i n, disb_i n]
theorem vp_sea_k : ∀ S ∈ [(2 : Int), 3, 4], ∀ R ∈ [(0 : Int), 1, 2, 3, 4], ∀ p < 256, vb_ S R (p : Nat) = (decide (((p : Nat) : Int) < 2 ^ (2 * R).toNat) && seab_ S (dg_ R (p : Nat)) R.toNat) := by decide +kernel
theorem p2R {R : Int} (h0 : 0 ≤ R) (h1 : R ≤ 4) : 1 ≤ (2 : Int) ^ (2 * R).toNat ∧ (2 : Int) ^ (2 * R).toNat ≤ 256 := by
  have : R = 0 ∨ R = 1 ∨ R = 2 ∨ R = 3 ∨ R = 4 := by omega
  rcases this with rfl | rfl | rfl | rfl | rfl <;> decide
theorem p2s {s : Int} (h0 : 0 ≤ s) (h1 : s ≤ 3) : 1 ≤ (2 : Int) ^ s.toNat ∧ (2 : Int) ^ s.toNat ≤ 8 := by
  have : s = 0 ∨ s = 1 ∨ s = 2 ∨ s = 3 := by omega
  rcases this with rfl | rfl | rfl | rfl <;> decide
theorem dv_z {R p : Int} (h0 : 0 ≤ R) (h1 : R ≤ 4) (hp : 0 ≤ p) (h : dv_ R.toNat p = 0) : p < 256 := by
  have : R = 0 ∨ R = 1 ∨ R = 2 ∨ R = 3 ∨ R = 4 := by omega
  rcases this with rfl | rfl | rfl | rfl | rfl
  · have : p = 0 := h; omega
  · have : p / 4 = 0 := h; omega
  · have : p / 4 / 4 = 0 := h; omega
  · have : p / 4 / 4 / 4 = 0 := h; omega
  · have : p / 4 / 4 / 4 / 4 = 0 := h; omega
theorem vp_sea {S R p : Int} (hS : 2 ≤ S ∧ S ≤ 4) (hR : 0 ≤ R ∧ R ≤ 4) : vp_ok S R p ↔ 0 ≤ p ∧ p < 2 ^ (2 * R).toNat ∧ sea_ S (dg_ R p) R.toNat := by
  have hp2 := p2R hR.1 hR.2
  have hS3 : S ∈ [(2 : Int), 3, 4] := by simp; omega
  have hR3 : R ∈ [(0 : Int), 1, 2, 3, 4] := by simp; omega
  constructor
  · intro h
    have h0 := ro4_pos _ h.1
    have h1 := dv_z hR.1 hR.2 h0 h.2
    have k := vp_sea_k S hS3 R hR3 p.toNat (by omega)
    rw [tn_c h0, vb_iff.mpr h] at k
    have k2 := Bool.and_eq_true_iff.mp k.symm
    exact ⟨h0, of_decide_eq_true k2.1, (seab_i _).mp k2.2⟩
  · rintro ⟨h0, h1, h2⟩
    have k := vp_sea_k S hS3 R hR3 p.toNat (by omega)
    rw [tn_c h0, (seab_i _).mpr h2, decide_eq_true h1] at k
    exact vb_iff.mp k
theorem dv_e (p : Int) : ∀ k : Nat, dv_ k p = p / 2 ^ (2 * k)
  | 0 => by show p = _; simp
  | k + 1 => by
    show dv_ k p / 4 = _
    rw [dv_e p k, Int.ediv_ediv_of_nonneg (Int.le_of_lt pp_), show 2 * (k + 1) = 2 * k + 2 by omega, Int.pow_add]
    rfl
theorem dg_e {R p r : Int} (h : 0 ≤ R - 1 - r) : p / 2 ^ (2 * (R - 1 - r)).toNat % 4 = dg_ R p r := by
  unfold dg_
  rw [dv_e, show 2 * (R - 1 - r).toNat = (2 * (R - 1 - r)).toNat by omega]
def tkm_ (si : Int → Int) : Nat → Nat
  | 0 => 0
  | e + 1 => tkm_ si e ||| 2 ^ (si e).toNat
theorem or_k : ∀ v < 16, ∀ s < 4, ∀ q < 4, (v ||| 2 ^ s) < 16 ∧ ((v ||| 2 ^ s) / 2 ^ q % 2 = 0 ↔ v / 2 ^ q % 2 = 0 ∧ s ≠ q) := by decide +kernel
theorem tkm_lt {si : Int → Int} : ∀ {n : Nat}, (∀ e : Int, 0 ≤ e → e < n → 0 ≤ si e ∧ si e ≤ 3) → tkm_ si n < 16
  | 0, _ => by show 0 < 16; decide
  | n + 1, h => by
    have h1 := tkm_lt (n := n) (fun e a b => h e a (by omega))
    have h2 := h n (by omega) (by omega)
    exact (or_k _ h1 (si n).toNat (by omega) 0 (by decide)).1
theorem tkm_s {si : Int → Int} {r : Int} (h : 0 ≤ r) : tkm_ si (r + 1).toNat = tkm_ si r.toNat ||| 2 ^ (si r).toNat := by rw [tn_s h]; show tkm_ si r.toNat ||| _ = _; rw [tn_c h]
theorem tkm_d {si : Int → Int} {s : Int} (hs : 0 ≤ s ∧ s ≤ 3) : ∀ {n : Nat}, (∀ e : Int, 0 ≤ e → e < n → 0 ≤ si e ∧ si e ≤ 3) → (tkm_ si n / 2 ^ s.toNat % 2 = 0 ↔ ∀ e : Int, 0 ≤ e → e < n → si e ≠ s)
  | 0, _ => by
    constructor
    · intro _ e h0 h1; omega
    · intro _; show 0 / _ % 2 = 0; simp
  | n + 1, h => by
    have h1 := fun (e : Int) (a : 0 ≤ e) (b : e < n) => h e a (by omega)
    have h2 := h n (by omega) (by omega)
    have k := (or_k _ (tkm_lt h1) (si n).toNat (by omega) s.toNat (by omega)).2
    show (tkm_ si n ||| 2 ^ (si n).toNat) / _ % 2 = 0 ↔ _
    rw [k, tkm_d hs h1]
    constructor
    · rintro ⟨u, v⟩ e h0 h3
      by_cases c : e = n
      · subst c; omega
      · exact u e h0 (by omega)
    · intro u
      exact ⟨fun e a b => u e a (by omega), fun q => u n (by omega) (by omega) (by omega)⟩
theorem dis_i {si : Int → Int} {r : Int} : ∀ {n : Nat}, dis_ si r n ↔ ∀ e : Int, 0 ≤ e → e < n → si e ≠ si r
  | 0 => ⟨fun _ e h0 h1 => by omega, fun _ => trivial⟩
  | n + 1 => by
    show dis_ si r n ∧ si n ≠ si r ↔ _
    rw [dis_i (n := n)]
    constructor
    · rintro ⟨u, v⟩ e h0 h3
      by_cases c : e = n
      · subst c; exact v
      · exact u e h0 (by omega)
    · intro u
      exact ⟨fun e a b => u e a (by omega), u n (by omega) (by omega)⟩
theorem tkm_dis {si : Int → Int} {r : Int} {n : Nat} (h : ∀ e : Int, 0 ≤ e → e < n → 0 ≤ si e ∧ si e ≤ 3) (hr : 0 ≤ si r ∧ si r ≤ 3) : ((tkm_ si n : Nat) : Int) / 2 ^ (si r).toNat % 2 = 0 ↔ dis_ si r n := by
  rw [dis_i, ← tkm_d hr h, pc_]
  omega
theorem tkm_w {si : Int → Int} {r w z : Int} (h0 : 0 ≤ r) (hz : z = si r) (h1 : 0 ≤ si r ∧ si r ≤ 3) (x : (0 : Int) ≤ (tkm_ si r.toNat : Int) → (0 : Int) ≤ 2 ^ z.toNat → w = ((((tkm_ si r.toNat : Int)).toNat ||| ((2 : Int) ^ z.toNat).toNat : Nat) : Int)) : w = ((tkm_ si (r + 1).toNat : Nat) : Int) := by
  rw [x (by omega) (Int.le_of_lt pp_), tkm_s h0, hz, show ((2 : Int) ^ (si r).toNat).toNat = 2 ^ (si r).toNat by rw [pc_]; rfl, Int.toNat_natCast]
theorem CRD_off {ro : Int → Int} {h h' : PH_} {o : Nat} (H : CRD_ ro h o) (ho : is6_ o) {L : List Nat} (f : off_ L h h') (hL : ∀ i ∈ L, 36 ≤ i) : CRD_ ro h' o := by
  have k : ∀ j, j < 36 → h' j = h j := fun j hj => f j (fun u => by have := hL j u; omega)
  exact CRD_cg H (fun q _ => congrFun (k o (by omega)) q) (k _ (by omega)) (k _ (by omega)) (k _ (by omega)) (k _ (by omega)) (k _ (by omega)) (k _ (by omega))

set_option maxHeartbeats 4000000 in
set_option maxRecDepth 100000 in
theorem d_unpack {G : GT_} (hC : okC_ G) (h : PH_) (o : Nat) (ho : is6_ o) (ro : Int → Int) (H : CRD_ ro h o) (a : Nat) (k_a : kd_ a = 0) (l_a : ln_ a = 4) (ha : 36 ≤ a ∧ a < 173) (p : Int) (hp : ir_ p) : PC G yX6_unpack cX6_unpack 5 (some .boolean) 1 [rr_ G o, ii_ p, rr_ G a] h (qi_ (fun z h' => off_ [a] h h' ∧ (z = 1 ∧ (vp_ok (ro 0) (ro 2) p) ∨ z = 0 ∧ ¬ (vp_ok (ro 0) (ro 2) p)) ∧ (z = 1 → ∀ r, 0 ≤ r → r < ro 2 → h' a r = dg_ (ro 2) p r))) := by
  have HB := H.2.1
  have HA := H.1
  have p2 := p2R (R := h o 2) (by omega) (by omega)
  have vp := vp_sea (S := ro 0) (R := ro 2) (p := p) (by omega) (by omega)
  refine PC.of (lv := [some (rr_ G o), some (ii_ p), some (rr_ G a), none, none]) (by decide +kernel) (Nat.le_of_ble_eq_true rfl) rfl rfl ?_
  refine pw_iload_n (z := p) (pc := 0) dX6_unpack_0 rfl rfl ?_
  refine pw_if_lt (t := 16) (pc := 1) dX6_unpack_1 (by decide) (by first | omega) (fun c1 => ?_) (fun c1 => ?_)
  · refine pw_iconst (pc := 16) dX6_unpack_16 ?_
    exact pw_zret (pc := 17) dX6_unpack_17 (by first | omega) (⟨off_rf, Or.inr ⟨rfl, fun u => by have := vp.mp u; rw [← HA.2.2.1] at this; omega⟩, fun u => by omega⟩)
  · refine pw_iload_n (z := p) (pc := 4) dX6_unpack_4 rfl rfl ?_
    refine pw_iconst (pc := 5) dX6_unpack_5 ?_
    refine pw_iconst (pc := 6) dX6_unpack_6 ?_
    refine pw_aload_n (z := o) (pc := 7) dX6_unpack_7 rfl rfl ?_
    refine pw_gI (x := 2) (pc := 8) dX6_unpack_8 fX6_60 (hC _ (by omega)) (kd6_0 ho) rfl rfl (fun r8 => ?_)
    refine pw_imul (pc := 11) dX6_unpack_11 ?_
    refine pw_ishl1 (pc := 12) dX6_unpack_12 (by first | omega) ?_
    refine pw_icmp_lt (t := 18) (pc := 13) dX6_unpack_13 (by decide) (by first | omega) (by first | omega) (fun c13 => ?_) (fun c13 => ?_)
    · refine pw_iconst (pc := 18) dX6_unpack_18 ?_
      refine pw_istore_n (lv1 := [some (rr_ G o), some (ii_ p), some (rr_ G a), some (ii_ 0), none]) (pc := 19) dX6_unpack_19 rfl (by decide) rfl rfl ?_
      refine pw_iconst (pc := 20) dX6_unpack_20 ?_
      refine pw_istore (lv1 := [some (rr_ G o), some (ii_ p), some (rr_ G a), some (ii_ 0), some (ii_ 0)]) (pc := 21) dX6_unpack_21 (by decide) rfl rfl ?_
      have L23 : ∀ (nn : Nat) (r : Int) (tk : Int) (hq : PH_), (0 ≤ r ∧ r ≤ ro 2) → (off_ [a] h hq) → (∀ e, 0 ≤ e → e < r → hq a e = dg_ (ro 2) p e) → (tk = ((tkm_ (dg_ (ro 2) p) r.toNat : Nat) : Int)) → (tkm_ (dg_ (ro 2) p) r.toNat < 16) → (sea_ (ro 0) (dg_ (ro 2) p) r.toNat) → ((ro 2 - r + 1 : Int) ≤ nn) → PW G RX6 cX6_unpack 5 (some .boolean) (rm_ 1) 0 0 (zm_ G (qi_ (fun z h' => off_ [a] h h' ∧ (z = 1 ∧ (vp_ok (ro 0) (ro 2) p) ∨ z = 0 ∧ ¬ (vp_ok (ro 0) (ro 2) p)) ∧ (z = 1 → ∀ r, 0 ≤ r → r < ro 2 → h' a r = dg_ (ro 2) p r)))) 23 [some (rr_ G o), some (ii_ p), some (rr_ G a), some (ii_ tk), some (ii_ r)] [] hq := by
        intro nn
        induction nn with
        | zero => intro r tk hq ak af ad ae ag as ams; exfalso; omega
        | succ nn ih23 =>
          intro r tk hq ak af ad ae ag as ams
          refine pw_iload (z := r) (pc := 23) dX6_unpack_23 rfl ?_
          refine pw_aload_n (z := o) (pc := 25) dX6_unpack_25 rfl rfl ?_
          refine pw_gI (x := 2) (pc := 26) dX6_unpack_26 fX6_60 (hC _ (by omega)) (kd6_0 ho) rfl rfl (fun r26 => ?_)
          have n_hq_o_2 : hq o 2 = h o 2 := (congrFun (af o (by first | decide | (simp; done) | (simp; omega))) 2)
          rw [n_hq_o_2] at r26 ⊢
          refine pw_icmp_ge (t := 90) (pc := 29) dX6_unpack_29 (by decide) (by first | omega | (simp only [n_hq_o_2]; omega)) (by first | omega | (simp only [n_hq_o_2]; omega)) (fun c29 => ?_) (fun c29 => ?_)
          · refine pw_iconst (pc := 90) dX6_unpack_90 ?_
            exact pw_zret (pc := 91) dX6_unpack_91 (by first | omega | (simp only [n_hq_o_2]; omega)) (⟨af, Or.inl ⟨rfl, vp.mpr ⟨by omega, by rw [← HA.2.2.1]; omega, by have q := as; rw [show r = ro 2 by omega] at q; exact q⟩⟩, fun _ e u1 u2 => ad e u1 (by omega)⟩)
          · have b50 := dg_b (ro 2) p r
            have b30 := dg_e (R := ro 2) (p := p) (r := r) (by omega)
            rw [← HA.2.2.1] at b30
            refine pw_aload_n (z := a) (pc := 32) dX6_unpack_32 rfl rfl ?_
            refine pw_iload (z := r) (pc := 33) dX6_unpack_33 rfl ?_
            refine pw_iload_n (z := p) (pc := 35) dX6_unpack_35 rfl rfl ?_
            refine pw_iconst (pc := 36) dX6_unpack_36 ?_
            refine pw_aload_n (z := o) (pc := 37) dX6_unpack_37 rfl rfl ?_
            refine pw_gI (x := 2) (pc := 38) dX6_unpack_38 fX6_60 (hC _ (by omega)) (kd6_0 ho) rfl rfl (fun r38 => ?_)
            rw [n_hq_o_2] at r38 ⊢
            refine pw_iconst (pc := 41) dX6_unpack_41 ?_
            refine pw_isub (pc := 42) dX6_unpack_42 ?_
            refine pw_iload (z := r) (pc := 43) dX6_unpack_43 rfl ?_
            refine pw_isub (pc := 45) dX6_unpack_45 ?_
            refine pw_imul (pc := 46) dX6_unpack_46 ?_
            refine pw_ishr (pc := 47) dX6_unpack_47 (by first | omega | (simp only [n_hq_o_2]; omega)) (by first | omega | (simp only [n_hq_o_2]; omega)) ?_
            refine pw_iconst (pc := 48) dX6_unpack_48 ?_
            refine pw_iand3 (pc := 49) dX6_unpack_49 ?_
            refine pw_iast (pc := 50) dX6_unpack_50 (hC _ (by omega)) k_a 4 l_a (by first | omega | (simp only [n_hq_o_2]; omega)) (by first | omega | (simp only [n_hq_o_2]; omega)) (by first | omega | (simp only [n_hq_o_2]; omega)) (by first | omega | (simp only [n_hq_o_2]; omega)) ?_
            obtain ⟨g50, e50⟩ : ∃ x, x = up_ hq a r ((p / 2 ^ (2 * (((h o 2) - 1) - r)).toNat) % 4) := ⟨_, rfl⟩
            refine pw_heq e50 ?_
            have v54 : g50 a r = dg_ (ro 2) p r := by rw [e50, up_same, b30, HA.2.2.1]
            have f50 : off_ [a] h g50 := by rw [e50]; exact off_up af (by simp)
            refine pw_aload_n (z := a) (pc := 51) dX6_unpack_51 rfl rfl ?_
            refine pw_iload (z := r) (pc := 52) dX6_unpack_52 rfl ?_
            refine pw_iald (pc := 54) dX6_unpack_54 (hC _ (by omega)) k_a 4 l_a (by first | omega | (simp only [n_hq_o_2]; omega)) (by first | omega | (simp only [n_hq_o_2]; omega)) (by first | omega | (simp only [n_hq_o_2]; omega)) (fun r54 => ?_)
            refine pw_aload_n (z := o) (pc := 55) dX6_unpack_55 rfl rfl ?_
            refine pw_gI (x := 0) (pc := 56) dX6_unpack_56 fX6_53 (hC _ (by omega)) (kd6_0 ho) rfl rfl (fun r56 => ?_)
            have n_g50_o_0 : g50 o 0 = h o 0 := ((show g50 o 0 = hq o 0 from (by rw [e50, up_off (by first | decide | omega)])).trans (show hq o 0 = h o 0 from (congrFun (af o (by first | decide | (simp; done) | (simp; omega))) 0)))
            rw [n_g50_o_0] at r56 ⊢
            refine pw_icmp_ge (t := 73) (pc := 59) dX6_unpack_59 (by decide) (by first | omega | (simp only [n_g50_o_0, n_hq_o_2]; omega)) (by first | omega | (simp only [n_g50_o_0, n_hq_o_2]; omega)) (fun c59 => ?_) (fun c59 => ?_)
            · refine pw_iconst (pc := 73) dX6_unpack_73 ?_
              exact pw_zret (pc := 74) dX6_unpack_74 (by first | omega | (simp only [n_g50_o_0, n_hq_o_2]; omega)) (⟨f50, Or.inr ⟨rfl, fun u => by have q := sea_at (vp.mp u).2.2 (r := r) (by omega) (by omega); first | omega | (have q2 := (tkm_dis (si := dg_ (ro 2) p) (r := r) (n := r.toNat) (fun e _ _ => dg_b _ _ _) b50).mpr q.2; rw [← ae, ← v54] at q2; exact c70 q2)⟩, fun u => by omega⟩)
            · refine pw_iload_n (z := tk) (pc := 62) dX6_unpack_62 rfl rfl ?_
              refine pw_aload_n (z := a) (pc := 63) dX6_unpack_63 rfl rfl ?_
              refine pw_iload (z := r) (pc := 64) dX6_unpack_64 rfl ?_
              refine pw_iald (pc := 66) dX6_unpack_66 (hC _ (by omega)) k_a 4 l_a (by first | omega | (simp only [n_g50_o_0, n_hq_o_2]; omega)) (by first | omega | (simp only [n_g50_o_0, n_hq_o_2]; omega)) (by first | omega | (simp only [n_g50_o_0, n_hq_o_2]; omega)) (fun r66 => ?_)
              refine pw_ishr (pc := 67) dX6_unpack_67 (by first | omega | (simp only [n_g50_o_0, n_hq_o_2]; omega)) (by first | omega | (simp only [n_g50_o_0, n_hq_o_2]; omega)) ?_
              refine pw_iconst (pc := 68) dX6_unpack_68 ?_
              refine pw_iand1 (pc := 69) dX6_unpack_69 ?_
              refine pw_if_eq (t := 75) (pc := 70) dX6_unpack_70 (by decide) (by first | omega | (simp only [n_g50_o_0, n_hq_o_2]; omega)) (fun c70 => ?_) (fun c70 => ?_)
              · have b81 := p2s (s := g50 a r) (by omega) (by omega)
                refine pw_iload_n (z := tk) (pc := 75) dX6_unpack_75 rfl rfl ?_
                refine pw_iconst (pc := 76) dX6_unpack_76 ?_
                refine pw_aload_n (z := a) (pc := 77) dX6_unpack_77 rfl rfl ?_
                refine pw_iload (z := r) (pc := 78) dX6_unpack_78 rfl ?_
                refine pw_iald (pc := 80) dX6_unpack_80 (hC _ (by omega)) k_a 4 l_a (by first | omega | (simp only [n_g50_o_0, n_hq_o_2]; omega)) (by first | omega | (simp only [n_g50_o_0, n_hq_o_2]; omega)) (by first | omega | (simp only [n_g50_o_0, n_hq_o_2]; omega)) (fun r80 => ?_)
                refine pw_ishl1 (pc := 81) dX6_unpack_81 (by first | omega | (simp only [n_g50_o_0, n_hq_o_2]; omega)) ?_
                refine pw_iorX (pc := 82) dX6_unpack_82 (by first | omega | (simp only [n_g50_o_0, n_hq_o_2]; omega)) (by first | omega | (simp only [n_g50_o_0, n_hq_o_2]; omega)) (fun w82 r82 x82 => ?_)
                refine pw_istore_n (lv1 := [some (rr_ G o), some (ii_ p), some (rr_ G a), some (ii_ w82), some (ii_ r)]) (pc := 83) dX6_unpack_83 rfl (by decide) rfl rfl ?_
                refine pw_iinc (z := r) (lv1 := [some (rr_ G o), some (ii_ p), some (rr_ G a), some (ii_ w82), some (ii_ (r + 1))]) (pc := 84) dX6_unpack_84 rfl (by decide) rfl rfl ?_
                refine pw_goto (t := 23) (pc := 87) dX6_unpack_87 (by decide) ?_
                exact ih23 _ _ _ (by omega) (f50) (fun e u1 u2 => by by_cases c : e = r; (rw [c]; exact v54); (rw [e50, up_at, if_neg c]; exact ad e u1 (by omega))) (by subst ae; exact tkm_w ak.1 v54 b50 x82) (tkm_lt (fun e _ _ => dg_b _ _ _)) (by rw [sea_s ak.1]; exact ⟨as, by omega, (tkm_dis (si := dg_ (ro 2) p) (r := r) (n := r.toNat) (fun e _ _ => dg_b _ _ _) b50).mp (by rw [← ae, ← v54]; exact c70)⟩) (by omega)
              · refine pw_iconst (pc := 73) dX6_unpack_73 ?_
                exact pw_zret (pc := 74) dX6_unpack_74 (by first | omega | (simp only [n_g50_o_0, n_hq_o_2]; omega)) (⟨f50, Or.inr ⟨rfl, fun u => by have q := sea_at (vp.mp u).2.2 (r := r) (by omega) (by omega); first | omega | (have q2 := (tkm_dis (si := dg_ (ro 2) p) (r := r) (n := r.toNat) (fun e _ _ => dg_b _ _ _) b50).mpr q.2; rw [← ae, ← v54] at q2; exact c70 q2)⟩, fun u => by omega⟩)
      exact L23 _ _ _ _ (by omega) (off_rf) (fun e _ _ => by omega) (rfl) (by show 0 < 16; decide) (trivial) (Int.self_le_toNat _)
    · refine pw_iconst (pc := 16) dX6_unpack_16 ?_
      exact pw_zret (pc := 17) dX6_unpack_17 (by first | omega) (⟨off_rf, Or.inr ⟨rfl, fun u => by have := vp.mp u; rw [← HA.2.2.1] at this; omega⟩, fun u => by omega⟩)

