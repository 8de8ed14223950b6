/-! ===== strings that are constants ===== -/
def snl_ (j : Nat) : Nat := stL_.getD j 0
def sch_ (j : Nat) (x : Int) : Int := ((stB_.getD j []).getD x.toNat 0).toInt
def bb_ (G : GT_) (j : Nat) : Value := .ref (gv_ G j)
theorem snl_k : ∀ j < 17, Int32.ofNat (stL_.getD j 0) = Int32.ofInt ((snl_ j : Nat) : Int) ∧ snl_ j ≤ 200 := by decide +kernel
theorem sch_k : ∀ j < 17, ∀ x < 120, 0 ≤ sch_ j (x : Nat) ∧ sch_ j (x : Nat) ≤ 122 := by decide +kernel
theorem snl_120 : ∀ j < 17, snl_ j ≤ 120 := by decide +kernel
theorem sch_b {j : Nat} {x : Int} (hj : j < 17) (h0 : 0 ≤ x) (h1 : x < snl_ j) : 0 ≤ sch_ j x ∧ sch_ j x ≤ 122 := by
  have a := snl_120 j hj
  have b := sch_k j hj x.toNat (by omega)
  rw [tn_c h0] at b
  exact b
section PWS
variable {G : GT_} {own : String} {cc : ByteArray} {nL : Nat} {rt : Option FieldType} {R : Room} {cs ss : Nat} {Zf : List Frame → Array Value → State → State → Prop} {pc : Nat} {lv : List (Option Value)} {st rest : List Value} {h : PH_} {y : MethodName} {bytes : ByteArray} {mL n idx d : Nat} {ry : Option FieldType} {As : List Value} {Q : Option Value → PH_ → Prop}
theorem pw_gsZ (hd : decode cc pc = .ok (.getstatic idx, 3)) (hl : Cond.fieldLink own idx "java/lang/String" "COMPACT_STRINGS" "Z" ∈ gt_) (k : PW G own cc nL rt R cs ss Zf (pc + 3) lv (ii_ 1 :: st) h) : PW G own cc nL rt R cs ss Zf pc lv st h := by
  intro p e s m args below meth cd H locs ls X P S L
  refine va_gets X.1 X.2.1 X.2.2.2.2.2.2.2.2.2.1.2.2.1 S X.2.2.2.2.2.1 (X.2.2.2.2.2.2.1 _ hl) (fun _ h => h) hd ?_
  exact k p e s m args below meth cd H locs ls X P S L
theorem pw_gsF (hd : decode cc pc = .ok (.getstatic idx, 3)) (hl : Cond.fieldLink own idx "jdk/internal/util/Preconditions" "SIOOBE_FORMATTER" "Ljava/util/function/BiFunction;" ∈ gt_) (k : ∀ v : Value, (v = .null ∨ ∃ t, v = .ref t) → PW G own cc nL rt R cs ss Zf (pc + 3) lv (v :: st) h) : PW G own cc nL rt R cs ss Zf pc lv st h := by
  intro p e s m args below meth cd H locs ls X P S L
  rcases X.2.2.2.2.2.2.2.2.2.1.2.2.2.1 with z | ⟨t, z⟩
  · exact va_gets X.1 X.2.1 z S X.2.2.2.2.2.1 (X.2.2.2.2.2.2.1 _ hl) (fun _ h => h) hd (k _ (Or.inl rfl) p e s m args below meth cd H locs ls X P S L)
  · exact va_gets X.1 X.2.1 z S X.2.2.2.2.2.1 (X.2.2.2.2.2.2.1 _ hl) (fun _ h => h) hd (k _ (Or.inr ⟨t, rfl⟩) p e s m args below meth cd H locs ls X P S L)
theorem pw_sval {j : Nat} (hj : j < 17) (hd : decode cc pc = .ok (.getfield idx, 3)) (hl : Cond.fieldLink own idx "java/lang/String" "value" "[B" ∈ gt_) (k : PW G own cc nL rt R cs ss Zf (pc + 3) lv (bb_ G j :: st) h) : PW G own cc nL rt R cs ss Zf pc lv (rr_ G (3000 + j) :: st) h := by
  intro p e s m args below meth cd H locs ls X P S L
  exact vk_getf X.1 X.2.1 (X.2.2.2.2.2.2.2.2.2.1.1.1 j hj).2.2.1 S X.2.2.2.2.2.1 (X.2.2.2.2.2.2.1 _ hl) (fun _ h => h) hd (k p e s m args below meth cd H locs ls X P S L)
theorem pw_scod {j : Nat} (hj : j < 17) (hd : decode cc pc = .ok (.getfield idx, 3)) (hl : Cond.fieldLink own idx "java/lang/String" "coder" "B" ∈ gt_) (k : PW G own cc nL rt R cs ss Zf (pc + 3) lv (ii_ 0 :: st) h) : PW G own cc nL rt R cs ss Zf pc lv (rr_ G (3000 + j) :: st) h := by
  intro p e s m args below meth cd H locs ls X P S L
  exact vk_getf X.1 X.2.1 (X.2.2.2.2.2.2.2.2.2.1.1.1 j hj).2.1 S X.2.2.2.2.2.1 (X.2.2.2.2.2.2.1 _ hl) (fun _ h => h) hd (k p e s m args below meth cd H locs ls X P S L)
theorem pw_blen {j : Nat} (hj : j < 17) (hd : decode cc pc = .ok (.arraylength, 1)) (k : PW G own cc nL rt R cs ss Zf (pc + 1) lv (ii_ (snl_ j : Nat) :: st) h) : PW G own cc nL rt R cs ss Zf pc lv (bb_ G j :: st) h := by
  intro p e s m args below meth cd H locs ls X P S L
  exact va_tlen X.1 X.2.1 (X.2.2.2.2.2.2.2.2.2.1.1.1 j hj).2.2.2 S (snl_k j hj).1 hd (k p e s m args below meth cd H locs ls X P S L)
theorem pw_bald {j : Nat} {x : Int} (hj : j < 17) (hd : decode cc pc = .ok (.baload, 1)) (h0 : 0 ≤ x) (h1 : x < snl_ j) (k : PW G own cc nL rt R cs ss Zf (pc + 1) lv (ii_ (sch_ j x) :: st) h) : PW G own cc nL rt R cs ss Zf pc lv (ii_ x :: bb_ G j :: st) h := by
  intro p e s m args below meth cd H locs ls X P S L
  have b := (snl_k j hj).2
  have hr : ir_ x := ⟨by omega, by omega⟩
  refine va_tb X.1 X.2.1 (X.2.2.2.2.2.2.2.2.2.1.1.1 j hj).2.2.2 S (pi_of h0 h1 hr) (v := ii_ (sch_ j x)) ?_ hd (k p e s m args below meth cd H locs ls X P S L)
  show Value.int ((stB_.getD j []).getD (Int32.ofInt x).toNatClampNeg 0) = .int (Int32.ofInt ((stB_.getD j []).getD x.toNat 0).toInt)
  rw [i32_clamp h0 hr, Int32.ofInt_toInt]
theorem pw_aload_b {q : Fin 4} {i : Nat} {z : Nat} (hd : decode cc pc = .ok (.aload_n q, 1)) (hi : (q : Nat) = i) (hl : lv[i]? = some (some (bb_ G z))) (k : PW G own cc nL rt R cs ss Zf (pc + 1) lv (bb_ G z :: st) h) : PW G own cc nL rt R cs ss Zf pc lv (st) h := by
  intro p e s m args below meth cd H locs ls X P S L
  exact lv_aload_n X.1 X.2.1 hd hi (L.2.2.2 i _ hl) (k p e s m args below meth cd H locs ls X P S L)
theorem pw_callT {j : Nat} (hj : j < 17) (hd : decode cc pc = .ok (.invokevirtual idx, 3)) (hM : PC G y bytes mL ry d (rr_ G (3000 + j) :: As) h Q) (hl : Cond.methodLink own idx y ∈ gt_) (hy : my_ y bytes mL ry n) (hv : mv_ y) (hc : y.cls = "java/lang/String")
    (hn : As.length = n) (hst : st = As.reverse ++ rr_ G (3000 + j) :: rest) (hR : d + 1 ≤ R.frames ∧ 19 + mL + 60 * d ≤ R.locals) (hR2 : cs ≤ R.cells ∧ ss ≤ R.slots) (hcat : (rest.map fun v => v.category).sum ≤ 8)
    (k : ∀ (r : Option Value) (h' : PH_), Q r h' → PW G own cc nL rt R cs ss Zf (pc + 3) lv (r.toList ++ rest) h') : PW G own cc nL rt R cs ss Zf pc lv st h := by
  intro p e s m args below meth cd H locs ls X P S L
  subst hst
  have hts := X.2.2.2.2.2.2.1
  refine pw_back X S L (va_runV (C := y.cls) (As := As) (rest := rest) (b := ga_ G (3000 + j)) (own := own) (Ts := gt_) (nL := nL) ⟨X.1, X.2.1, X.2.2.1, X.2.2.2.2.2.1, hts⟩ hM ⟨callB_of n hts (tb_in0 hy.1) rfl rfl rfl (hts _ hy.2.1) (hts _ hl) hy.2.2 ⟨hR.1, by show 8 + (mL + 11) + 60 * d ≤ _; omega⟩, hts _ hv.1, hts _ hv.2⟩ ⟨pr_blind, ?_, pw_pre X P S _⟩ rfl hn L.1 rfl (lv_room hcat) hd ⟨hR2.1, hR2.2⟩) k
  have := vk_recv X.2.2.2.2.2.2.2.2.2.1.1 hj S
  rw [hc]
  exact this
theorem pw_i2b {a : Int} (hd : decode cc pc = .ok (.i2b, 1)) (ha : 0 ≤ a ∧ a < 128) (k : PW G own cc nL rt R cs ss Zf (pc + 1) lv (ii_ a :: st) h) : PW G own cc nL rt R cs ss Zf pc lv (ii_ a :: st) h := by
  intro p e s m args below meth cd H locs ls X P S L
  refine lv_i2b X.1 X.2.1 hd (v := Int32.ofInt a) ?_ (k p e s m args below meth cd H locs ls X P S L)
  have key : ∀ n < 128, (Int32.ofInt ((n : Nat) : Int)).toInt8.toInt32 = Int32.ofInt ((n : Nat) : Int) := by decide +kernel
  have := key a.toNat (by omega)
  rw [tn_c ha.1] at this
  exact this
end PWS
section PWU
variable {G : GT_} {own : String} {cc : ByteArray} {nL : Nat} {R : Room} {pc : Nat} {lv : List (Option Value)} {h : PH_}
theorem pw_cret {Q : Int → PH_ → Prop} {z : Int} (hd : decode cc pc = .ok (.ireturn, 1)) (hz : 0 ≤ z ∧ z < 128) (hq : Q z h) : PW G own cc nL (some .char) R 0 0 (zm_ G (qi_ Q)) pc lv [ii_ z] h := by
  intro p e s m args below meth cd H locs ls X P S L
  have hr : ir_ z := ⟨by omega, by omega⟩
  have key : ∀ n < 128, narrow .char (.int (Int32.ofInt ((n : Nat) : Int))) = .int (Int32.ofInt ((n : Nat) : Int)) := by decide +kernel
  have hk := key z.toNat (by omega)
  rw [tn_c hz.1] at hk
  exact W.zret (Qc := fun _ st oc t => (∃ (r : Option Value) (h' : PH_), oc = .returned r ∧ qi_ Q r h' ∧ ph_ G h' t.heap) ∧ va_F (ag_ G) st t) X.1 X.2.1 X.2.2.2.1 hk (fun t ht hW => ⟨⟨_, h, rfl, ⟨z, rfl, hr, hq⟩, by rw [ht]; exact P⟩, S.F ht⟩) S.2.2 hd X.2.2.2.2.1
theorem pw_bret {Q : Int → PH_ → Prop} {z : Int} (hd : decode cc pc = .ok (.ireturn, 1)) (hz : z = 0) (hq : Q z h) : PW G own cc nL (some .byte) R 0 0 (zm_ G (qi_ Q)) pc lv [ii_ z] h := by
  intro p e s m args below meth cd H locs ls X P S L
  have hr : ir_ z := ⟨by omega, by omega⟩
  have hk : narrow .byte (.int (Int32.ofInt z)) = .int (Int32.ofInt z) := by rw [hz]; decide +kernel
  exact W.zret (Qc := fun _ st oc t => (∃ (r : Option Value) (h' : PH_), oc = .returned r ∧ qi_ Q r h' ∧ ph_ G h' t.heap) ∧ va_F (ag_ G) st t) X.1 X.2.1 X.2.2.2.1 hk (fun t ht hW => ⟨⟨_, h, rfl, ⟨z, rfl, hr, hq⟩, by rw [ht]; exact P⟩, S.F ht⟩) S.2.2 hd X.2.2.2.2.1
end PWU
/-- a long as the machine keeps it -/
def wl_ (z : Int) : Int := (Int64.ofInt z).toInt
theorem wl_lr (z : Int) : lr_ (wl_ z) := lr_toInt _
theorem wl_id {z : Int} (h : lr_ z) : wl_ z = z := i64_toInt h
theorem ll_wl (z : Int) : ll_ (wl_ z) = ll_ z := by unfold ll_ wl_; rw [Int64.ofInt_toInt]
section PWN
variable {G : GT_} {own : String} {cc : ByteArray} {nL : Nat} {rt : Option FieldType} {R : Room} {cs ss : Nat} {Zf : List Frame → Array Value → State → State → Prop} {pc : Nat} {lv : List (Option Value)} {st : List Value} {h : PH_}
theorem pw_normL {z : Int} (k : PW G own cc nL rt R cs ss Zf pc lv (ll_ (wl_ z) :: st) h) : PW G own cc nL rt R cs ss Zf pc lv (ll_ z :: st) h := by rw [← ll_wl]; exact k
end PWN
theorem fJ0_38 : Cond.fieldLink RJ0 38 "java/lang/String" "COMPACT_STRINGS" "Z" ∈ gt_ := gn_3 135 (by decide +kernel) rfl
theorem fJ0_15 : Cond.fieldLink RJ0 15 "java/lang/String" "coder" "B" ∈ gt_ := gn_9 139 (by decide +kernel) rfl
theorem fJ0_9 : Cond.fieldLink RJ0 9 "java/lang/String" "value" "[B" ∈ gt_ := gn_9 140 (by decide +kernel) rfl
theorem fJ0_1053 : Cond.fieldLink RJ0 1053 "jdk/internal/util/Preconditions" "SIOOBE_FORMATTER" "Ljava/util/function/BiFunction;" ∈ gt_ := gn_3 174 (by decide +kernel) rfl

set_option maxHeartbeats 4000000 in
set_option maxRecDepth 100000 in
theorem j_coder {G : GT_} (h : PH_) (j : Nat) (hj : j < 17) : PC G yJ0_coder_7d493 cJ0_coder_7d493 1 (some .byte) 1 [rr_ G (3000 + j)] h (qi_ (fun z h' => h = h' ∧ z = 0)) := by
  refine PC.of (lv := [some (rr_ G (3000 + j))]) (by decide +kernel) (Nat.le_of_ble_eq_true rfl) rfl rfl ?_
  refine pw_gsZ (pc := 0) dJ0_coder_7d493_0 fJ0_38 ?_
  refine pw_if_eq (t := 13) (pc := 3) dJ0_coder_7d493_3 (by decide) (by first | omega) (fun c3 => absurd c3 (by decide)) (fun _ => ?_)
  refine pw_aload_n (z := (3000 + j)) (pc := 6) dJ0_coder_7d493_6 rfl rfl ?_
  refine pw_scod (j := j) (by omega) (pc := 7) dJ0_coder_7d493_7 fJ0_15 ?_
  refine pw_goto (t := 14) (pc := 10) dJ0_coder_7d493_10 (by decide) ?_
  exact pw_bret (pc := 14) dJ0_coder_7d493_14 (by first | omega) (⟨rfl, rfl⟩)

set_option maxHeartbeats 4000000 in
set_option maxRecDepth 100000 in
theorem j_isL1 {G : GT_} (h : PH_) (j : Nat) (hj : j < 17) : PC G yJ0_isLatin1_aae02 cJ0_isLatin1_aae02 1 (some .boolean) 1 [rr_ G (3000 + j)] h (qi_ (fun z h' => h = h' ∧ z = 1)) := by
  refine PC.of (lv := [some (rr_ G (3000 + j))]) (by decide +kernel) (Nat.le_of_ble_eq_true rfl) rfl rfl ?_
  refine pw_gsZ (pc := 0) dJ0_isLatin1_aae02_0 fJ0_38 ?_
  refine pw_if_eq (t := 17) (pc := 3) dJ0_isLatin1_aae02_3 (by decide) (by first | omega) (fun c3 => absurd c3 (by decide)) (fun _ => ?_)
  refine pw_aload_n (z := (3000 + j)) (pc := 6) dJ0_isLatin1_aae02_6 rfl rfl ?_
  refine pw_scod (j := j) (by omega) (pc := 7) dJ0_isLatin1_aae02_7 fJ0_15 ?_
  refine pw_if_ne (t := 17) (pc := 10) dJ0_isLatin1_aae02_10 (by decide) (by first | omega) (fun c10 => absurd c10 (by decide)) (fun _ => ?_)
  refine pw_iconst (pc := 13) dJ0_isLatin1_aae02_13 ?_
  refine pw_goto (t := 18) (pc := 14) dJ0_isLatin1_aae02_14 (by decide) ?_
  exact pw_zret (pc := 18) dJ0_isLatin1_aae02_18 (by first | omega) (⟨rfl, rfl⟩)

set_option maxHeartbeats 4000000 in
set_option maxRecDepth 100000 in
theorem j_length {G : GT_} (h : PH_) (j : Nat) (hj : j < 17) : PC G yJ0_length_8abf5 cJ0_length_8abf5 1 (some .int) 2 [rr_ G (3000 + j)] h (qi_ (fun z h' => h = h' ∧ z = ((snl_ j : Nat) : Int))) := by
  have s1 := (snl_k j hj).2
  have s2 := snl_120 j hj
  have sh0 : ((snl_ j : Nat) : Int) / 2 ^ (0 : Int).toNat = ((snl_ j : Nat) : Int) := by rw [show (0 : Int).toNat = 0 from rfl, Int.pow_zero, Int.ediv_one]
  refine PC.of (lv := [some (rr_ G (3000 + j))]) (by decide +kernel) (Nat.le_of_ble_eq_true rfl) rfl rfl ?_
  refine pw_aload_n (z := (3000 + j)) (pc := 0) dJ0_length_8abf5_0 rfl rfl ?_
  refine pw_sval (j := j) (by omega) (pc := 1) dJ0_length_8abf5_1 fJ0_9 ?_
  refine pw_blen (j := j) (by omega) (pc := 4) dJ0_length_8abf5_4 ?_
  refine pw_aload_n (z := (3000 + j)) (pc := 5) dJ0_length_8abf5_5 rfl rfl ?_
  refine pw_callT (j := j) (As := []) (rest := [ii_ ((snl_ j : Nat) : Int)]) (by omega) (pc := 6) dJ0_length_8abf5_6 (j_coder h j hj) lJ0_335 mJ0_coder_7d493 vJ0_coder_7d493 rfl rfl rfl (by decide) ⟨Nat.zero_le _, Nat.zero_le _⟩ (Nat.le_of_ble_eq_true rfl) (k_i (fun z6 h6 y6 q6 => ?_))
  obtain ⟨rfl, rfl⟩ := q6
  refine pw_ishr (pc := 9) dJ0_length_8abf5_9 (by first | omega) (by first | omega) ?_
  rw [sh0]
  exact pw_iret (pc := 10) dJ0_length_8abf5_10 (by first | omega) (⟨rfl, rfl⟩)

set_option maxHeartbeats 4000000 in
set_option maxRecDepth 100000 in
theorem j_chk3n {G : GT_} (h : PH_) (a b : Int) (h1 : 0 ≤ a ∧ a < b) (h2 : ir_ b) : PC G yJ3_checkIndex_8e157 cJ3_checkIndex_8e157 3 (some .int) 1 [ii_ a, ii_ b, .null] h (qi_ (fun z h' => h = h')) := by
  refine PC.of (lv := [some (ii_ a), some (ii_ b), some (.null)]) (by decide +kernel) (Nat.le_of_ble_eq_true rfl) rfl rfl ?_
  refine pw_iload_n (z := a) (pc := 0) dJ3_checkIndex_8e157_0 rfl rfl ?_
  refine pw_if_lt (t := 9) (pc := 1) dJ3_checkIndex_8e157_1 (by decide) (by first | omega) (fun c1 => ?_) (fun c1 => ?_)
  · exfalso; omega
  · refine pw_iload_n (z := a) (pc := 4) dJ3_checkIndex_8e157_4 rfl rfl ?_
    refine pw_iload_n (z := b) (pc := 5) dJ3_checkIndex_8e157_5 rfl rfl ?_
    refine pw_icmp_lt (t := 16) (pc := 6) dJ3_checkIndex_8e157_6 (by decide) (by first | omega) (by first | omega) (fun c6 => ?_) (fun c6 => ?_)
    · refine pw_iload_n (z := a) (pc := 16) dJ3_checkIndex_8e157_16 rfl rfl ?_
      exact pw_iret (pc := 17) dJ3_checkIndex_8e157_17 (by first | omega) (rfl)
    · exfalso; omega

set_option maxHeartbeats 4000000 in
set_option maxRecDepth 100000 in
theorem j_chk3r {G : GT_} (h : PH_) (a b : Int) (h1 : 0 ≤ a ∧ a < b) (h2 : ir_ b) (t : Nat) : PC G yJ3_checkIndex_8e157 cJ3_checkIndex_8e157 3 (some .int) 1 [ii_ a, ii_ b, (.ref t)] h (qi_ (fun z h' => h = h')) := by
  refine PC.of (lv := [some (ii_ a), some (ii_ b), some ((.ref t))]) (by decide +kernel) (Nat.le_of_ble_eq_true rfl) rfl rfl ?_
  refine pw_iload_n (z := a) (pc := 0) dJ3_checkIndex_8e157_0 rfl rfl ?_
  refine pw_if_lt (t := 9) (pc := 1) dJ3_checkIndex_8e157_1 (by decide) (by first | omega) (fun c1 => ?_) (fun c1 => ?_)
  · exfalso; omega
  · refine pw_iload_n (z := a) (pc := 4) dJ3_checkIndex_8e157_4 rfl rfl ?_
    refine pw_iload_n (z := b) (pc := 5) dJ3_checkIndex_8e157_5 rfl rfl ?_
    refine pw_icmp_lt (t := 16) (pc := 6) dJ3_checkIndex_8e157_6 (by decide) (by first | omega) (by first | omega) (fun c6 => ?_) (fun c6 => ?_)
    · refine pw_iload_n (z := a) (pc := 16) dJ3_checkIndex_8e157_16 rfl rfl ?_
      exact pw_iret (pc := 17) dJ3_checkIndex_8e157_17 (by first | omega) (rfl)
    · exfalso; omega

theorem j_chk3 {G : GT_} (h : PH_) (a b : Int) (h1 : 0 ≤ a ∧ a < b) (h2 : ir_ b) {v : Value} (hv : v = .null ∨ ∃ t, v = .ref t) : PC G yJ3_checkIndex_8e157 cJ3_checkIndex_8e157 3 (some .int) 1 [ii_ a, ii_ b, v] h (qi_ (fun z h' => h = h')) := by
  rcases hv with rfl | ⟨t, rfl⟩
  · exact j_chk3n h a b h1 h2
  · exact j_chk3r h a b h1 h2 t

set_option maxHeartbeats 4000000 in
set_option maxRecDepth 100000 in
theorem j_chk0 {G : GT_} (h : PH_) (a b : Int) (h1 : 0 ≤ a ∧ a < b) (h2 : ir_ b) : PC G yJ0_checkIndex_df160 cJ0_checkIndex_df160 2 none 2 [ii_ a, ii_ b] h (qv_ (fun h' => h = h')) := by
  refine PC.of (lv := [some (ii_ a), some (ii_ b)]) (by decide +kernel) (Nat.le_of_ble_eq_true rfl) rfl rfl ?_
  refine pw_iload_n (z := a) (pc := 0) dJ0_checkIndex_df160_0 rfl rfl ?_
  refine pw_iload_n (z := b) (pc := 1) dJ0_checkIndex_df160_1 rfl rfl ?_
  refine pw_gsF (pc := 2) dJ0_checkIndex_df160_2 fJ0_1053 (fun v2 x2 => ?_)
  refine pw_callS (As := [ii_ a, ii_ b, v2]) (rest := []) (pc := 5) dJ0_checkIndex_df160_5 (j_chk3 h a b h1 h2 x2) lJ0_1059 mJ3_checkIndex_8e157 sJ3_checkIndex_8e157 rfl rfl (by decide) ⟨Nat.zero_le _, Nat.zero_le _⟩ (Nat.le_of_ble_eq_true rfl) (k_i (fun z5 h5 y5 q5 => ?_))
  obtain rfl := q5
  refine pw_pop (pc := 8) dJ0_checkIndex_df160_8 rfl ?_
  exact pw_vret (pc := 9) dJ0_checkIndex_df160_9 (rfl)

set_option maxHeartbeats 4000000 in
set_option maxRecDepth 100000 in
theorem j_char1 {G : GT_} (h : PH_) (j : Nat) (hj : j < 17) (x : Int) (h1 : 0 ≤ x ∧ x < snl_ j) : PC G yJ1_charAt_3b067 cJ1_charAt_3b067 2 (some .char) 3 [bb_ G j, ii_ x] h (qi_ (fun z h' => h = h' ∧ z = sch_ j x)) := by
  have s1 := (snl_k j hj).2
  have s2 := snl_120 j hj
  have sb := sch_b hj h1.1 h1.2
  refine PC.of (lv := [some (bb_ G j), some (ii_ x)]) (by decide +kernel) (Nat.le_of_ble_eq_true rfl) rfl rfl ?_
  refine pw_iload_n (z := x) (pc := 0) dJ1_charAt_3b067_0 rfl rfl ?_
  refine pw_aload_b (z := j) (pc := 1) dJ1_charAt_3b067_1 rfl rfl ?_
  refine pw_blen (j := j) (by omega) (pc := 2) dJ1_charAt_3b067_2 ?_
  refine pw_callS (As := [ii_ x, ii_ ((snl_ j : Nat) : Int)]) (rest := []) (pc := 3) dJ1_charAt_3b067_3 (j_chk0 h x ((snl_ j : Nat) : Int) (by first | omega) (by first | omega)) lJ1_9 mJ0_checkIndex_df160 sJ0_checkIndex_df160 rfl rfl (by decide) ⟨Nat.zero_le _, Nat.zero_le _⟩ (Nat.le_of_ble_eq_true rfl) (k_v (fun h3 q3 => ?_))
  obtain rfl := q3
  refine pw_aload_b (z := j) (pc := 6) dJ1_charAt_3b067_6 rfl rfl ?_
  refine pw_iload_n (z := x) (pc := 7) dJ1_charAt_3b067_7 rfl rfl ?_
  refine pw_bald (j := j) (by omega) (pc := 8) dJ1_charAt_3b067_8 (by first | omega) (by first | omega) ?_
  refine pw_sipush (pc := 9) dJ1_charAt_3b067_9 rfl ?_
  refine pw_iand255 (pc := 12) dJ1_charAt_3b067_12 ?_
  refine pw_i2c (pc := 13) dJ1_charAt_3b067_13 (by first | omega) ?_
  exact pw_cret (pc := 14) dJ1_charAt_3b067_14 (by first | omega) (⟨rfl, by omega⟩)

set_option maxHeartbeats 4000000 in
set_option maxRecDepth 100000 in
theorem j_charAt {G : GT_} (h : PH_) (j : Nat) (hj : j < 17) (x : Int) (h1 : 0 ≤ x ∧ x < snl_ j) : PC G yJ0_charAt_5068e cJ0_charAt_5068e 2 (some .char) 4 [rr_ G (3000 + j), ii_ x] h (qi_ (fun z h' => h = h' ∧ z = sch_ j x)) := by
  have s1 := (snl_k j hj).2
  have s2 := snl_120 j hj
  have sb := sch_b hj h1.1 h1.2
  refine PC.of (lv := [some (rr_ G (3000 + j)), some (ii_ x)]) (by decide +kernel) (Nat.le_of_ble_eq_true rfl) rfl rfl ?_
  refine pw_aload_n (z := (3000 + j)) (pc := 0) dJ0_charAt_5068e_0 rfl rfl ?_
  refine pw_callT (j := j) (As := []) (rest := []) (by omega) (pc := 1) dJ0_charAt_5068e_1 (j_isL1 h j hj) lJ0_492 mJ0_isLatin1_aae02 vJ0_isLatin1_aae02 rfl rfl rfl (by decide) ⟨Nat.zero_le _, Nat.zero_le _⟩ (Nat.le_of_ble_eq_true rfl) (k_i (fun z1 h1 y1 q1 => ?_))
  obtain ⟨rfl, rfl⟩ := q1
  refine pw_if_eq (t := 16) (pc := 4) dJ0_charAt_5068e_4 (by decide) (by first | omega) (fun c4 => absurd c4 (by decide)) (fun _ => ?_)
  refine pw_aload_n (z := (3000 + j)) (pc := 7) dJ0_charAt_5068e_7 rfl rfl ?_
  refine pw_sval (j := j) (by omega) (pc := 8) dJ0_charAt_5068e_8 fJ0_9 ?_
  refine pw_iload_n (z := x) (pc := 11) dJ0_charAt_5068e_11 rfl rfl ?_
  refine pw_callS (As := [bb_ G j, ii_ x]) (rest := []) (pc := 12) dJ0_charAt_5068e_12 (j_char1 h j hj x h1) lJ0_495 mJ1_charAt_3b067 sJ1_charAt_3b067 rfl rfl (by decide) ⟨Nat.zero_le _, Nat.zero_le _⟩ (Nat.le_of_ble_eq_true rfl) (k_i (fun z12 h12 y12 q12 => ?_))
  obtain ⟨rfl, rfl⟩ := q12
  exact pw_cret (pc := 15) dJ0_charAt_5068e_15 (by first | omega) (⟨rfl, rfl⟩)

set_option maxHeartbeats 4000000 in
set_option maxRecDepth 100000 in
theorem j_canE {G : GT_} (h : PH_) (c : Int) (h1 : 0 ≤ c ∧ c < 128) : PC G yJ1_canEncode_9a6ad cJ1_canEncode_9a6ad 1 (some .boolean) 1 [ii_ c] h (qi_ (fun z h' => h = h' ∧ z = 1)) := by
  refine PC.of (lv := [some (ii_ c)]) (by decide +kernel) (Nat.le_of_ble_eq_true rfl) rfl rfl ?_
  refine pw_iload_n (z := c) (pc := 0) dJ1_canEncode_9a6ad_0 rfl rfl ?_
  refine pw_if_lt (t := 15) (pc := 1) dJ1_canEncode_9a6ad_1 (by decide) (by first | omega) (fun c1 => ?_) (fun c1 => ?_)
  · exfalso; omega
  · refine pw_iload_n (z := c) (pc := 4) dJ1_canEncode_9a6ad_4 rfl rfl ?_
    refine pw_sipush (pc := 5) dJ1_canEncode_9a6ad_5 rfl ?_
    refine pw_icmp_gt (t := 15) (pc := 8) dJ1_canEncode_9a6ad_8 (by decide) (by first | omega) (by first | omega) (fun c8 => ?_) (fun c8 => ?_)
    · exfalso; omega
    · refine pw_iconst (pc := 11) dJ1_canEncode_9a6ad_11 ?_
      refine pw_goto (t := 16) (pc := 12) dJ1_canEncode_9a6ad_12 (by decide) ?_
      exact pw_zret (pc := 16) dJ1_canEncode_9a6ad_16 (by first | omega) (⟨rfl, rfl⟩)

/-- where a sign stands in a constant, or -1 -/
noncomputable def six_ (j : Nat) (c : Int) : Nat → Int → Int
  | 0, _ => -1
  | f + 1, k => if_ (sch_ j k = c) k (six_ j c f (k + 1))

set_option maxHeartbeats 4000000 in
set_option maxRecDepth 100000 in
theorem j_ixC {G : GT_} (h : PH_) (j : Nat) (hj : j < 17) (c : Int) (hc : 0 ≤ c ∧ c < 128) : PC G yJ1_indexOfChar_4cfef cJ1_indexOfChar_4cfef 6 (some .int) 1 [bb_ G j, ii_ c, ii_ 0, ii_ ((snl_ j : Nat) : Int)] h (qi_ (fun z h' => h = h' ∧ z = six_ j c (snl_ j) 0)) := by
  have s1 := (snl_k j hj).2
  have s2 := snl_120 j hj
  refine PC.of (lv := [some (bb_ G j), some (ii_ c), some (ii_ 0), some (ii_ ((snl_ j : Nat) : Int)), none, none]) (by decide +kernel) (Nat.le_of_ble_eq_true rfl) rfl rfl ?_
  refine pw_iload_n (z := c) (pc := 0) dJ1_indexOfChar_4cfef_0 rfl rfl ?_
  refine pw_i2b (pc := 1) dJ1_indexOfChar_4cfef_1 (by first | omega) ?_
  refine pw_istore (lv1 := [some (bb_ G j), some (ii_ c), some (ii_ 0), some (ii_ ((snl_ j : Nat) : Int)), some (ii_ c), none]) (pc := 2) dJ1_indexOfChar_4cfef_2 (by decide) rfl rfl ?_
  refine pw_iload_n (z := 0) (pc := 4) dJ1_indexOfChar_4cfef_4 rfl rfl ?_
  refine pw_istore (lv1 := [some (bb_ G j), some (ii_ c), some (ii_ 0), some (ii_ ((snl_ j : Nat) : Int)), some (ii_ c), some (ii_ 0)]) (pc := 5) dJ1_indexOfChar_4cfef_5 (by decide) rfl rfl ?_
  have L7 : ∀ (nn : Nat) (k : Int), (0 ≤ k ∧ k ≤ snl_ j) → (six_ j c (snl_ j) 0 = six_ j c (snl_ j - k).toNat k) → (((snl_ j : Int) - k + 1 : Int) ≤ nn) → PW G RJ1 cJ1_indexOfChar_4cfef 6 (some .int) (rm_ 1) 0 0 (zm_ G (qi_ (fun z h' => h = h' ∧ z = six_ j c (snl_ j) 0))) 7 [some (bb_ G j), some (ii_ c), some (ii_ 0), some (ii_ ((snl_ j : Nat) : Int)), some (ii_ c), some (ii_ k)] [] h := by
    intro nn
    induction nn with
    | zero => intro k ak ae ams; exfalso; omega
    | succ nn ih7 =>
      intro k ak ae ams
      refine pw_iload (z := k) (pc := 7) dJ1_indexOfChar_4cfef_7 rfl ?_
      refine pw_iload_n (z := ((snl_ j : Nat) : Int)) (pc := 9) dJ1_indexOfChar_4cfef_9 rfl rfl ?_
      refine pw_icmp_ge (t := 31) (pc := 10) dJ1_indexOfChar_4cfef_10 (by decide) (by first | omega) (by first | omega) (fun c10 => ?_) (fun c10 => ?_)
      · refine pw_iconst (pc := 31) dJ1_indexOfChar_4cfef_31 ?_
        exact pw_iret (pc := 32) dJ1_indexOfChar_4cfef_32 (by first | omega) (⟨rfl, by rw [ae, show ((snl_ j : Int) - k).toNat = 0 by omega]; rfl⟩)
      · have sb := sch_b hj ak.1 (show k < ((snl_ j : Nat) : Int) by omega)
        refine pw_aload_b (z := j) (pc := 13) dJ1_indexOfChar_4cfef_13 rfl rfl ?_
        refine pw_iload (z := k) (pc := 14) dJ1_indexOfChar_4cfef_14 rfl ?_
        refine pw_bald (j := j) (by omega) (pc := 16) dJ1_indexOfChar_4cfef_16 (by first | omega) (by first | omega) ?_
        refine pw_iload (z := c) (pc := 17) dJ1_indexOfChar_4cfef_17 rfl ?_
        refine pw_icmp_ne (t := 25) (pc := 19) dJ1_indexOfChar_4cfef_19 (by decide) (by first | omega) (by first | omega) (fun c19 => ?_) (fun c19 => ?_)
        · refine pw_iinc (z := k) (lv1 := [some (bb_ G j), some (ii_ c), some (ii_ 0), some (ii_ ((snl_ j : Nat) : Int)), some (ii_ c), some (ii_ (k + 1))]) (pc := 25) dJ1_indexOfChar_4cfef_25 rfl (by decide) rfl rfl ?_
          refine pw_goto (t := 7) (pc := 28) dJ1_indexOfChar_4cfef_28 (by decide) ?_
          exact ih7 _ (by omega) (by rw [ae, show ((snl_ j : Int) - k).toNat = ((snl_ j : Int) - (k + 1)).toNat + 1 by omega]; show if_ _ _ _ = _; rw [if_f (by omega)]) (by omega)
        · refine pw_iload (z := k) (pc := 22) dJ1_indexOfChar_4cfef_22 rfl ?_
          exact pw_iret (pc := 24) dJ1_indexOfChar_4cfef_24 (by first | omega) (⟨rfl, by rw [ae, show ((snl_ j : Int) - k).toNat = ((snl_ j : Int) - (k + 1)).toNat + 1 by omega]; show k = if_ _ _ _; rw [if_t (by omega)]⟩)
  exact L7 _ _ (by omega) (by rw [show ((snl_ j : Int) - 0).toNat = snl_ j by omega]) (Int.self_le_toNat _)

set_option maxHeartbeats 4000000 in
set_option maxRecDepth 100000 in
theorem j_ix1 {G : GT_} (h : PH_) (j : Nat) (hj : j < 17) (c : Int) (hc : 0 ≤ c ∧ c < 128) (hn : 1 ≤ snl_ j) : PC G yJ1_indexOf_4cfef cJ1_indexOf_4cfef 4 (some .int) 2 [bb_ G j, ii_ c, ii_ 0, ii_ ((snl_ j : Nat) : Int)] h (qi_ (fun z h' => h = h' ∧ z = six_ j c (snl_ j) 0)) := by
  have s1 := (snl_k j hj).2
  have s2 := snl_120 j hj
  refine PC.of (lv := [some (bb_ G j), some (ii_ c), some (ii_ 0), some (ii_ ((snl_ j : Nat) : Int))]) (by decide +kernel) (Nat.le_of_ble_eq_true rfl) rfl rfl ?_
  refine pw_iload_n (z := c) (pc := 0) dJ1_indexOf_4cfef_0 rfl rfl ?_
  refine pw_callS (As := [ii_ c]) (rest := []) (pc := 1) dJ1_indexOf_4cfef_1 (j_canE h c hc) lJ1_88 mJ1_canEncode_9a6ad sJ1_canEncode_9a6ad rfl rfl (by decide) ⟨Nat.zero_le _, Nat.zero_le _⟩ (Nat.le_of_ble_eq_true rfl) (k_i (fun z1 h1 y1 q1 => ?_))
  obtain ⟨rfl, rfl⟩ := q1
  refine pw_if_ne (t := 9) (pc := 4) dJ1_indexOf_4cfef_4 (by decide) (by first | omega) (fun _ => ?_) (fun c4 => absurd c4 (by decide))
  refine pw_iload_n (z := 0) (pc := 9) dJ1_indexOf_4cfef_9 rfl rfl ?_
  refine pw_iconst (pc := 10) dJ1_indexOf_4cfef_10 ?_
  refine pw_mmax (pc := 11) dJ1_indexOf_4cfef_11 lJ1_92 (by first | omega) (by first | omega) (by decide) ⟨Nat.zero_le _, Nat.zero_le _⟩ (Nat.le_of_ble_eq_true rfl) (fun z11 r11 w11 => ?_)
  refine pw_istore_n (lv1 := [some (bb_ G j), some (ii_ c), some (ii_ z11), some (ii_ ((snl_ j : Nat) : Int))]) (pc := 14) dJ1_indexOf_4cfef_14 rfl (by decide) rfl rfl ?_
  refine pw_iload_n (z := ((snl_ j : Nat) : Int)) (pc := 15) dJ1_indexOf_4cfef_15 rfl rfl ?_
  refine pw_aload_b (z := j) (pc := 16) dJ1_indexOf_4cfef_16 rfl rfl ?_
  refine pw_blen (j := j) (by omega) (pc := 17) dJ1_indexOf_4cfef_17 ?_
  refine pw_mmin (pc := 18) dJ1_indexOf_4cfef_18 lJ1_38 (by first | omega) (by first | omega) (by decide) ⟨Nat.zero_le _, Nat.zero_le _⟩ (Nat.le_of_ble_eq_true rfl) (fun z18 r18 w18 => ?_)
  refine pw_istore_n (lv1 := [some (bb_ G j), some (ii_ c), some (ii_ z11), some (ii_ z18)]) (pc := 21) dJ1_indexOf_4cfef_21 rfl (by decide) rfl rfl ?_
  refine pw_iload_n (z := z11) (pc := 22) dJ1_indexOf_4cfef_22 rfl rfl ?_
  refine pw_iload_n (z := z18) (pc := 23) dJ1_indexOf_4cfef_23 rfl rfl ?_
  refine pw_icmp_lt (t := 29) (pc := 24) dJ1_indexOf_4cfef_24 (by decide) (by first | omega) (by first | omega) (fun c24 => ?_) (fun c24 => ?_)
  · have hz11 : z11 = 0 := by omega
    have hz18 : z18 = ((snl_ j : Nat) : Int) := by omega
    rw [hz11]
    rw [hz18]
    refine pw_aload_b (z := j) (pc := 29) dJ1_indexOf_4cfef_29 rfl rfl ?_
    refine pw_iload_n (z := c) (pc := 30) dJ1_indexOf_4cfef_30 rfl rfl ?_
    refine pw_iload_n (z := 0) (pc := 31) dJ1_indexOf_4cfef_31 rfl rfl ?_
    refine pw_iload_n (z := ((snl_ j : Nat) : Int)) (pc := 32) dJ1_indexOf_4cfef_32 rfl rfl ?_
    refine pw_callS (As := [bb_ G j, ii_ c, ii_ 0, ii_ ((snl_ j : Nat) : Int)]) (rest := []) (pc := 33) dJ1_indexOf_4cfef_33 (j_ixC h j hj c hc) lJ1_95 mJ1_indexOfChar_4cfef sJ1_indexOfChar_4cfef rfl rfl (by decide) ⟨Nat.zero_le _, Nat.zero_le _⟩ (Nat.le_of_ble_eq_true rfl) (k_i (fun z33 h33 y33 q33 => ?_))
    obtain ⟨rfl, w33⟩ := q33
    exact pw_iret (pc := 36) dJ1_indexOf_4cfef_36 (by first | omega) (⟨rfl, w33⟩)
  · exfalso; omega

set_option maxHeartbeats 4000000 in
set_option maxRecDepth 100000 in
theorem j_ix2 {G : GT_} (h : PH_) (j : Nat) (hj : j < 17) (c : Int) (hc : 0 ≤ c ∧ c < 128) (hn : 1 ≤ snl_ j) : PC G yJ0_indexOf_7cf53 cJ0_indexOf_7cf53 3 (some .int) 3 [rr_ G (3000 + j), ii_ c, ii_ 0] h (qi_ (fun z h' => h = h' ∧ z = six_ j c (snl_ j) 0)) := by
  have s1 := (snl_k j hj).2
  have s2 := snl_120 j hj
  refine PC.of (lv := [some (rr_ G (3000 + j)), some (ii_ c), some (ii_ 0)]) (by decide +kernel) (Nat.le_of_ble_eq_true rfl) rfl rfl ?_
  refine pw_aload_n (z := (3000 + j)) (pc := 0) dJ0_indexOf_7cf53_0 rfl rfl ?_
  refine pw_callT (j := j) (As := []) (rest := []) (by omega) (pc := 1) dJ0_indexOf_7cf53_1 (j_isL1 h j hj) lJ0_492 mJ0_isLatin1_aae02 vJ0_isLatin1_aae02 rfl rfl rfl (by decide) ⟨Nat.zero_le _, Nat.zero_le _⟩ (Nat.le_of_ble_eq_true rfl) (k_i (fun z1 h1 y1 q1 => ?_))
  obtain ⟨rfl, rfl⟩ := q1
  refine pw_if_eq (t := 23) (pc := 4) dJ0_indexOf_7cf53_4 (by decide) (by first | omega) (fun c4 => absurd c4 (by decide)) (fun _ => ?_)
  refine pw_aload_n (z := (3000 + j)) (pc := 7) dJ0_indexOf_7cf53_7 rfl rfl ?_
  refine pw_sval (j := j) (by omega) (pc := 8) dJ0_indexOf_7cf53_8 fJ0_9 ?_
  refine pw_iload_n (z := c) (pc := 11) dJ0_indexOf_7cf53_11 rfl rfl ?_
  refine pw_iload_n (z := 0) (pc := 12) dJ0_indexOf_7cf53_12 rfl rfl ?_
  refine pw_aload_n (z := (3000 + j)) (pc := 13) dJ0_indexOf_7cf53_13 rfl rfl ?_
  refine pw_callT (j := j) (As := []) (rest := [ii_ 0, ii_ c, bb_ G j]) (by omega) (pc := 14) dJ0_indexOf_7cf53_14 (j_length h j hj) lJ0_505 mJ0_length_8abf5 vJ0_length_8abf5 rfl rfl rfl (by decide) ⟨Nat.zero_le _, Nat.zero_le _⟩ (Nat.le_of_ble_eq_true rfl) (k_i (fun z14 h14 y14 q14 => ?_))
  obtain ⟨rfl, rfl⟩ := q14
  refine pw_callS (As := [bb_ G j, ii_ c, ii_ 0, ii_ ((snl_ j : Nat) : Int)]) (rest := []) (pc := 17) dJ0_indexOf_7cf53_17 (j_ix1 h j hj c hc hn) lJ0_637 mJ1_indexOf_4cfef sJ1_indexOf_4cfef rfl rfl (by decide) ⟨Nat.zero_le _, Nat.zero_le _⟩ (Nat.le_of_ble_eq_true rfl) (k_i (fun z17 h17 y17 q17 => ?_))
  obtain ⟨rfl, w17⟩ := q17
  refine pw_goto (t := 36) (pc := 20) dJ0_indexOf_7cf53_20 (by decide) ?_
  exact pw_iret (pc := 36) dJ0_indexOf_7cf53_36 (by first | omega) (⟨rfl, w17⟩)

set_option maxHeartbeats 4000000 in
set_option maxRecDepth 100000 in
theorem j_indexOf {G : GT_} (h : PH_) (j : Nat) (hj : j < 17) (c : Int) (hc : 0 ≤ c ∧ c < 128) (hn : 1 ≤ snl_ j) : PC G yJ0_indexOf_0f7a4 cJ0_indexOf_0f7a4 2 (some .int) 4 [rr_ G (3000 + j), ii_ c] h (qi_ (fun z h' => h = h' ∧ z = six_ j c (snl_ j) 0)) := by
  have s1 := (snl_k j hj).2
  have s2 := snl_120 j hj
  refine PC.of (lv := [some (rr_ G (3000 + j)), some (ii_ c)]) (by decide +kernel) (Nat.le_of_ble_eq_true rfl) rfl rfl ?_
  refine pw_aload_n (z := (3000 + j)) (pc := 0) dJ0_indexOf_0f7a4_0 rfl rfl ?_
  refine pw_iload_n (z := c) (pc := 1) dJ0_indexOf_0f7a4_1 rfl rfl ?_
  refine pw_iconst (pc := 2) dJ0_indexOf_0f7a4_2 ?_
  refine pw_callT (j := j) (As := [ii_ c, ii_ 0]) (rest := []) (by omega) (pc := 3) dJ0_indexOf_0f7a4_3 (j_ix2 h j hj c hc hn) lJ0_633 mJ0_indexOf_7cf53 vJ0_indexOf_7cf53 rfl rfl rfl (by decide) ⟨Nat.zero_le _, Nat.zero_le _⟩ (Nat.le_of_ble_eq_true rfl) (k_i (fun z3 h3 y3 q3 => ?_))
  obtain ⟨rfl, w3⟩ := q3
  exact pw_iret (pc := 6) dJ0_indexOf_0f7a4_6 (by first | omega) (⟨rfl, w3⟩)

