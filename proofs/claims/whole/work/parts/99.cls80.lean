/-! ===== what lies beyond the road in use doesn't matter ===== -/
def req_ (ro ro' : Int → Int) : Prop := ∀ x, 0 ≤ x → x < 80 → ro' x = ro x
section REQ
variable {ro ro' : Int → Int} {P : List (Int × Int)}
theorem may_rq (E : req_ ro ro') {r s : Int} (hr : 0 ≤ r ∧ r < 4) : may_ ro' r s ↔ may_ ro r s := by
  unfold may_; rw [E _ (by omega) (by omega), E (31 + 4 * r) (by omega) (by omega), E 0 (by omega) (by omega)]
theorem lwt_rq (E : req_ ro ro') {si : Int → Int} {r : Int} (hr : 0 ≤ r ∧ r < 4) : ∀ n : Nat, n ≤ 4 → (lwt_ ro' si r n ↔ lwt_ ro si r n)
  | 0, _ => Iff.rfl
  | n + 1, hn => by
    show (lwt_ ro' si r n ∧ (ro' (47 + 4 * r + n) = 0 ∨ ¬ bes_ (ro' 10) (si r) (si n))) ↔ (lwt_ ro si r n ∧ (ro (47 + 4 * r + n) = 0 ∨ ¬ bes_ (ro 10) (si r) (si n)))
    rw [lwt_rq E hr n (by omega), E _ (by omega) (by omega), E 10 (by omega) (by omega)]
theorem lwf_rq (E : req_ ro ro') {si : Int → Int} : ∀ n : Nat, n ≤ 4 → (lwf_ ro' si n ↔ lwf_ ro si n)
  | 0, _ => Iff.rfl
  | n + 1, hn => by
    show (lwf_ ro' si n ∧ may_ ro' n (si n) ∧ lwt_ ro' si n n) ↔ (lwf_ ro si n ∧ may_ ro n (si n) ∧ lwt_ ro si n n)
    rw [lwf_rq E n (by omega), may_rq E (by omega), lwt_rq E (by omega) n (by omega)]
theorem lpl_rq (E : req_ ro ro') (h2 : ro 2 ≤ 4) {p : Int} : lpl_ ro' p ↔ lpl_ ro p := by
  unfold lpl_ lp1_; rw [E 0 (by omega) (by omega), E 2 (by omega) (by omega), lwf_rq E _ (by omega)]
theorem lpn_rq (E : req_ ro ro') (h2 : ro 2 ≤ 4) : ∀ n : Nat, lpn_ ro' n = lpn_ ro n
  | 0 => rfl
  | n + 1 => by
    show lpn_ ro' n ++ if_ (lpl_ ro' n) [(n : Int)] [] = lpn_ ro n ++ if_ (lpl_ ro n) [(n : Int)] []
    rw [lpn_rq E h2 n]
    by_cases c : lpl_ ro n
    · rw [if_t c, if_t ((lpl_rq E h2).mpr c)]
    · rw [if_f c, if_f (fun u => c ((lpl_rq E h2).mp u))]
theorem tip_rq (E : req_ ro ro') {si : Int → Int} {r : Int} : ∀ n : Nat, n ≤ 4 → tip_ ro' si r n = tip_ ro si r n
  | 0, _ => rfl
  | n + 1, hn => by
    show tip_ ro' si r n + if_ ((n : Int) ≠ r ∧ ro' (31 + 4 * (n : Int)) = 2 ∧ 0 ≤ si n ∧ bes_ (ro' 10) (si r) (si n)) 1 0 = tip_ ro si r n + if_ ((n : Int) ≠ r ∧ ro (31 + 4 * (n : Int)) = 2 ∧ 0 ≤ si n ∧ bes_ (ro 10) (si r) (si n)) 1 0
    rw [tip_rq E n (by omega), E _ (by omega) (by omega), E 10 (by omega) (by omega)]
theorem wv_rq (E : req_ ro ro') {r s t tip : Int} (hr : 0 ≤ r ∧ r < 4) (hs : 0 ≤ s ∧ s < 4) (ht : 0 ≤ t ∧ t < 4) : wv_ ro' P r s t tip = wv_ ro P r s t tip := by
  have e : wof_ ro' r s t tip = wof_ ro r s t tip := by
    unfold wof_
    rw [E _ (by omega) (by omega), E (11 + 5 * t) (by omega) (by omega), E (31 + 4 * r) (by omega) (by omega), E 0 (by omega) (by omega)]
  unfold wv_
  rw [e, E 5 (by omega) (by omega), E _ (by omega) (by omega), E (11 + 5 * t) (by omega) (by omega)]
theorem wsi_rq (E : req_ ro ro') (h2 : ro 2 ≤ 4) {si : Int → Int} {r t : Int} (hr : 0 ≤ r ∧ r < 4) (hs : 0 ≤ si r ∧ si r < 4) (ht : 0 ≤ t ∧ t < 4) : wsi_ ro' P si r t = wsi_ ro P si r t := by
  unfold wsi_; rw [E 2 (by omega) (by omega), tip_rq E _ (by omega), wv_rq E hr hs ht]
theorem pW_rq (E : req_ ro ro') (h2 : ro 2 ≤ 4) {k r t : Int} (hr : 0 ≤ r ∧ r < 4) (ht : 0 ≤ t ∧ t < 4) : pW_ ro' P k r t = pW_ ro P k r t := by
  unfold pW_
  rw [lpn_rq E h2, E 2 (by omega) (by omega), wsi_rq E h2 hr (by have := dg_b (ro 2) ((lpn_ ro 256).getD k.toNat 0) r; omega) ht]
theorem pC_rq (E : req_ ro ro') (h2 : ro 2 ≤ 4) : pC_ ro' = pC_ ro := by unfold pC_; rw [lpn_rq E h2, E 2 (by omega) (by omega)]
theorem pL_rq (E : req_ ro ro') (h2 : ro 2 ≤ 4) : pL_ ro' = pL_ ro := by unfold pL_; rw [lpn_rq E h2]
theorem gth_cw {so R mm fi T : Int} {N : Nat} {pl : Int → Int} {W W' : Int → Int → Int → Int} {CH : Int → Int → Int} (hW : ∀ k r t, 0 ≤ r → r < R → 0 ≤ t → t < T → W k r t = W' k r t) : ∀ (n : Nat) (row tot tot' : Int → Int) (m : Int) (B : BT_), (n : Int) ≤ T → (∀ r, 0 ≤ r → r < R → tot r = tot' r) → gth_ so R mm fi T N pl W CH n row tot m B = gth_ so R mm fi T N pl W' CH n row tot' m B
  | 0, row, tot, tot', m, B, _, ht => by unfold gth_; rw [trn_cg ht]
  | n + 1, row, tot, tot', m, B, hn, ht => by
    unfold gth_
    refine foldl_cg (fun B k _ => ?_)
    rw [gth_cw hW n _ (gto_ fi W tot (gse_ CH row (T - 1 - n) (k : Int)) (T - 1 - n) (k : Int)) (gto_ fi W' tot' (gse_ CH row (T - 1 - n) (k : Int)) (T - 1 - n) (k : Int)) _ _ (by omega) (fun r r0 r1 => by unfold gto_; rw [ht r r0 r1, hW _ r _ r0 r1 (by omega) (by omega)])]
theorem skb_rq (E : req_ ro ro') (h1 : 0 ≤ ro 1 ∧ ro 1 ≤ 4) (h2 : ro 2 ≤ 4) {so mm : Int} {pa pa' : Int → Int} (hp : ∀ r, 0 ≤ r → r < ro 2 → pa' r = pa r) : skb_ ro' P so mm pa' = skb_ ro P so mm pa := by
  unfold skb_ gtr_
  rw [lpn_rq E h2, pL_rq E h2, pC_rq E h2, E 1 (by omega) (by omega), E 2 (by omega) (by omega), E 4 (by omega) (by omega)]
  exact gth_cw (fun k r t r0 r1 t0 t1 => pW_rq E h2 (by omega) (by omega)) _ _ _ _ _ _ (by omega) hp
theorem pas_rq (E : req_ ro ro') {r : Int} (hr : 0 ≤ r ∧ r < 4) : pas_ ro' r = pas_ ro r := E _ (by omega) (by omega)
theorem aft_rq {S S' : (Int → Int) → BT_} (hS : ∀ pa, S' pa = S pa) : ∀ (n : Nat) (k : Int) (pa pa' : Int → Int), S pa' = S pa → aft_ ro' S' n k pa' = aft_ ro S n k pa
  | 0, _, _, _, _ => rfl
  | n + 1, k, pa, pa', h => by
    show (match S' pa' with | none => -1 | some q => if q.1 = 0 then k else aft_ ro' S' n (k + 1) q.2.2.2) = (match S pa with | none => -1 | some q => if q.1 = 0 then k else aft_ ro S n (k + 1) q.2.2.2)
    rw [hS pa', h]
    cases S pa with
    | none => rfl
    | some q =>
      show (if q.1 = 0 then k else aft_ ro' S' n (k + 1) q.2.2.2) = (if q.1 = 0 then k else aft_ ro S n (k + 1) q.2.2.2)
      rw [aft_rq hS n (k + 1) q.2.2.2 q.2.2.2 rfl]
theorem gan_rq (E : req_ ro ro') (h2 : ro 2 ≤ 4) {t b k r : Int} (hr : r = 4 ∨ 0 ≤ r ∧ r < 4) (ht : 0 ≤ t ∧ t < 4) : gan_ ro' P t b k r = gan_ ro P t b k r := by
  unfold gan_
  by_cases c : r = 4
  · rw [if_pos c, if_pos c]
  · rw [if_neg c, if_neg c, pC_rq E h2, pW_rq E h2 (by omega) ht, E 4 (by omega) (by omega)]
theorem leh_rq (E : req_ ro ro') (h1 : ro 1 ≤ 4) (h2 : ro 2 ≤ 4) {a c : Int} (ha : a = 4 ∨ 0 ≤ a ∧ a < 4) (hc : 0 ≤ c ∧ c < 4) : ∀ (n : Nat) (b : Int), (n : Int) ≤ ro 1 → leh_ ro' P a c n b = leh_ ro P a c n b
  | 0, _, _ => rfl
  | n + 1, b, hn => by
    unfold leh_
    rw [lpn_rq E h2, E 1 (by omega) (by omega)]
    congr 1
    funext k
    rw [gan_rq E h2 ha (by omega), gan_rq E h2 (Or.inr hc) (by omega), leh_rq E h1 h2 ha hc n k (by omega)]
theorem SEC_rq (E : req_ ro ro') {f : Int → Int} {b : Int} {se ah to : Int → Int} {nx : Int} (H : SEC_ ro f b se ah to nx) : SEC_ ro' f b se ah to nx := by
  unfold SEC_ at *; rw [E 0 (by omega) (by omega), E 1 (by omega) (by omega), E 2 (by omega) (by omega)]; exact H
theorem MOM_rq (E : req_ ro ro') {f : Int → Int} {h : PH_} {m : Nat} (H : MOM_ ro f h m) : MOM_ ro' f h m := by
  refine ⟨SEC_rq E H.1, ?_⟩
  have := H.2
  rw [E 0 (by omega) (by omega), E 2 (by omega) (by omega)]; exact this
theorem TLD_rq (E : req_ ro ro') {li li' : Int → Int} (e : ∀ x, 0 ≤ x → x < 45 → li' x = li x) {h : PH_} {t : Nat} (H : TLD_ ro li h t) : TLD_ ro' li' h t := by
  obtain ⟨a, b⟩ := H
  refine ⟨by rw [e 0 (by omega) (by omega)]; exact a, fun k k0 k1 => ?_⟩
  rw [e 0 (by omega) (by omega)] at k1
  rw [e (1 + 2 * k) (by omega) (by omega), e (2 + 2 * k) (by omega) (by omega), E 0 (by omega) (by omega), E 2 (by omega) (by omega)]
  exact b k k0 k1
theorem CRD_rq (E : req_ ro ro') {h : PH_} {o : Nat} (H : CRD_ ro h o) : CRD_ ro' h o := by
  obtain ⟨a, b, c, d, f⟩ := H
  unfold CRD_
  rw [E 0 (by omega) (by omega), E 1 (by omega) (by omega), E 2 (by omega) (by omega), E 4 (by omega) (by omega), E 10 (by omega) (by omega)]
  refine ⟨a, b, fun t w t0 t1 w0 w1 => ?_, fun r r0 r1 => ?_, fun r x r0 r1 x0 x1 => ?_⟩
  · rw [E _ (by omega) (by omega)]; exact c t w t0 t1 w0 w1
  · rw [E _ (by omega) (by omega), E (31 + 4 * r + 1) (by omega) (by omega), E (31 + 4 * r + 2) (by omega) (by omega), E (31 + 4 * r + 3) (by omega) (by omega)]; exact d r r0 r1
  · rw [E _ (by omega) (by omega)]; exact f r x r0 r1 x0 x1
theorem CLD_rq (E : req_ ro ro') {h : PH_} {o : Nat} (H : CLD_ ro P h o) : CLD_ ro' P h o := by
  obtain ⟨a, b, c⟩ := H
  have hb := a.2.1
  refine ⟨CRD_rq E a, ?_, fun t r s q t0 t1 r0 r1 s0 s1 q0 q1 => ?_⟩
  · unfold CLP_ at *; rw [E 5 (by omega) (by omega)]; exact b
  · rw [E 2 (by omega) (by omega)] at r1
    rw [E 0 (by omega) (by omega)] at s1
    rw [wv_rq E ⟨r0, by omega⟩ ⟨s0, by omega⟩ ⟨t0, t1⟩]
    exact c t r s q t0 t1 r0 r1 s0 s1 q0 q1
theorem CPL_rq (E : req_ ro ro') (h2 : ro 2 ≤ 4) {h : PH_} {o : Nat} (H : CPL_ ro h o) : CPL_ ro' h o := by unfold CPL_ at *; rw [lpn_rq E h2]; exact H
theorem I13_rq {o : Nat} {Z : ZT_} {h h' : PH_} (E : req_ (h mRoads) (h' mRoads)) (rf : RF_ (h mRoads)) (H : I13_ o Z h) (e1 : h' 151 = h 151) (e2 : h' 153 = h 153) (e3 : h' 154 = h 154) (e4 : h' 160 = h 160) : I13_ o Z h' := by
  have h1 := rf.2.2.1
  have h2 : h mRoads 2 ≤ 4 := by have := rf.1; have := rf.2.1; omega
  have x0 : h' mRoads 0 = h mRoads 0 := E 0 (by omega) (by omega)
  have x1 : h' mRoads 1 = h mRoads 1 := E 1 (by omega) (by omega)
  have x2 : h' mRoads 2 = h mRoads 2 := E 2 (by omega) (by omega)
  have sk : ∀ so mm, skb_ (h' mRoads) (zP_ Z) so mm (pas_ (h' mRoads)) = skb_ (h mRoads) (zP_ Z) so mm (pas_ (h mRoads)) := fun so mm => skb_rq E h1 h2 (fun r r0 r1 => pas_rq E ⟨r0, by omega⟩)
  have sp : ∀ pa, skb_ (h' mRoads) (zP_ Z) 0 12 pa = skb_ (h mRoads) (zP_ Z) 0 12 pa := fun pa => skb_rq E h1 h2 (fun _ _ _ => rfl)
  have af : aft_ (h' mRoads) (skb_ (h' mRoads) (zP_ Z) 0 12) 20 1 (pas_ (h' mRoads)) = aft_ (h mRoads) (skb_ (h mRoads) (zP_ Z) 0 12) 20 1 (pas_ (h mRoads)) := aft_rq sp 20 1 _ _ (by rw [← sp, sk])
  obtain ⟨a, b, c, d, f⟩ := H
  refine ⟨by rw [e1]; exact a, ?_, ?_, by rw [e1, af]; exact d, ?_⟩
  · rw [e1]
    rcases b with b | ⟨b1, b2, b3⟩
    · exact Or.inl b
    · refine Or.inr ⟨b1, fun t k r t0 t1 k0 k1 r0 r1 => ?_, fun t i u v t0 t1 i0 i1 u0 v0 v1 uv => ?_⟩
      · rw [x1] at t1; rw [lpn_rq E h2] at k1; rw [x2] at r1
        rw [e2, pW_rq E h2 ⟨r0, by omega⟩ ⟨t0, by omega⟩]; exact b2 t k r t0 t1 k0 k1 r0 r1
      · rw [x1] at t1; rw [lpn_rq E h2] at i1; rw [x2] at u0 v1
        rw [e3, x1, leh_rq E h1.2 h2 (by omega) ⟨v0, by omega⟩ _ _ (by omega)]; exact b3 t i u v t0 t1 i0 i1 u0 v0 v1 uv
  · unfold jca_ at *
    rw [e1, e4]
    refine ⟨c.1, fun m w m0 m1 mb w0 w1 => ?_⟩
    rw [sk, c.2 m w m0 m1 mb w0 w1]
    cases skb_ (h mRoads) (zP_ Z) 0 m (pas_ (h mRoads)) with
    | none => rfl
    | some q => show (if w = 0 then q.1 else if w = 1 then q.2.1 else if w - 2 < h mRoads 1 then q.2.2.1 (w - 2) else -1) = (if w = 0 then q.1 else if w = 1 then q.2.1 else if w - 2 < h' mRoads 1 then q.2.2.1 (w - 2) else -1); rw [x1]
  · rw [sk]; exact f.imp (fun u => by rw [e1]; exact u) (jls_mv4 (by rw [e1]))
end REQ

