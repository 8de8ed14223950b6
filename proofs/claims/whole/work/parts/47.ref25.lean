/-! ===== letters, digits, signs; which word is here ===== -/
def let_ (c : Int) : Prop := 97 ≤ c ∧ c ≤ 122
def dig_ (c : Int) : Prop := 48 ≤ c ∧ c ≤ 57
def sof_ (c : Int) : Prop := c = 40 ∨ c = 41 ∨ c = 59 ∨ c = 61 ∨ c = 60 ∨ c = 43 ∨ c = 45 ∨ c = 42
noncomputable def rnk_ (c : Int) : Int := if_ (let_ c) (c - 96) (c - 21)
noncomputable def whr_ (h : PH_) (f : Int) : Nat → Int
  | 0 => -1
  | k + 1 => if_ (wrd_ h (f + (k : Int))) (k : Int) (whr_ h f k)
theorem whr_s {h : PH_} {f k : Int} (hk : 0 ≤ k) : whr_ h f (k + 1).toNat = if_ (wrd_ h (f + k)) k (whr_ h f k.toNat) := by rw [tn_s hk]; show if_ (wrd_ h (f + (k.toNat : Int))) (k.toNat : Int) (whr_ h f k.toNat) = _; rw [tn_c hk]
theorem whr_b (h : PH_) (f : Int) : ∀ n : Nat, -1 ≤ whr_ h f n ∧ whr_ h f n < (n : Int) ∨ n = 0 ∧ whr_ h f n = -1
  | 0 => Or.inr ⟨rfl, rfl⟩
  | n + 1 => by
    have e := whr_b h f n
    unfold whr_
    by_cases c : wrd_ h (f + (n : Int))
    · rw [if_t c]; omega
    · rw [if_f c]; omega

set_option maxHeartbeats 4000000 in
set_option maxRecDepth 100000 in
theorem c_isLetter {G : GT_} (h : PH_) (c : Int) (h1 : ir_ c) : PC G yX12_isLetter cX12_isLetter 1 (some .boolean) 1 [ii_ c] h (qi_ (fun z h' => h = h' ∧ (z = 1 ∧ (let_ c) ∨ z = 0 ∧ ¬ (let_ c)))) := by
  refine PC.of (lv := [some (ii_ c)]) (by decide +kernel) (Nat.le_of_ble_eq_true rfl) rfl rfl ?_
  refine pw_iload_n (z := c) (pc := 0) dX12_isLetter_0 rfl rfl ?_
  refine pw_bipush (pc := 1) dX12_isLetter_1 rfl ?_
  refine pw_icmp_lt (t := 16) (pc := 3) dX12_isLetter_3 (by decide) (by first | omega) (by first | omega) (fun c3 => ?_) (fun c3 => ?_)
  · refine pw_iconst (pc := 16) dX12_isLetter_16 ?_
    exact pw_zret (pc := 17) dX12_isLetter_17 (by first | omega) (⟨rfl, by unfold let_; omega⟩)
  · refine pw_iload_n (z := c) (pc := 6) dX12_isLetter_6 rfl rfl ?_
    refine pw_bipush (pc := 7) dX12_isLetter_7 rfl ?_
    refine pw_icmp_gt (t := 16) (pc := 9) dX12_isLetter_9 (by decide) (by first | omega) (by first | omega) (fun c9 => ?_) (fun c9 => ?_)
    · refine pw_iconst (pc := 16) dX12_isLetter_16 ?_
      exact pw_zret (pc := 17) dX12_isLetter_17 (by first | omega) (⟨rfl, by unfold let_; omega⟩)
    · refine pw_iconst (pc := 12) dX12_isLetter_12 ?_
      refine pw_goto (t := 17) (pc := 13) dX12_isLetter_13 (by decide) ?_
      exact pw_zret (pc := 17) dX12_isLetter_17 (by first | omega) (⟨rfl, by unfold let_; omega⟩)

set_option maxHeartbeats 4000000 in
set_option maxRecDepth 100000 in
theorem c_isDigit {G : GT_} (h : PH_) (c : Int) (h1 : ir_ c) : PC G yX12_isDigit cX12_isDigit 1 (some .boolean) 1 [ii_ c] h (qi_ (fun z h' => h = h' ∧ (z = 1 ∧ (dig_ c) ∨ z = 0 ∧ ¬ (dig_ c)))) := by
  refine PC.of (lv := [some (ii_ c)]) (by decide +kernel) (Nat.le_of_ble_eq_true rfl) rfl rfl ?_
  refine pw_iload_n (z := c) (pc := 0) dX12_isDigit_0 rfl rfl ?_
  refine pw_bipush (pc := 1) dX12_isDigit_1 rfl ?_
  refine pw_icmp_lt (t := 16) (pc := 3) dX12_isDigit_3 (by decide) (by first | omega) (by first | omega) (fun c3 => ?_) (fun c3 => ?_)
  · refine pw_iconst (pc := 16) dX12_isDigit_16 ?_
    exact pw_zret (pc := 17) dX12_isDigit_17 (by first | omega) (⟨rfl, by unfold dig_; omega⟩)
  · refine pw_iload_n (z := c) (pc := 6) dX12_isDigit_6 rfl rfl ?_
    refine pw_bipush (pc := 7) dX12_isDigit_7 rfl ?_
    refine pw_icmp_gt (t := 16) (pc := 9) dX12_isDigit_9 (by decide) (by first | omega) (by first | omega) (fun c9 => ?_) (fun c9 => ?_)
    · refine pw_iconst (pc := 16) dX12_isDigit_16 ?_
      exact pw_zret (pc := 17) dX12_isDigit_17 (by first | omega) (⟨rfl, by unfold dig_; omega⟩)
    · refine pw_iconst (pc := 12) dX12_isDigit_12 ?_
      refine pw_goto (t := 17) (pc := 13) dX12_isDigit_13 (by decide) ?_
      exact pw_zret (pc := 17) dX12_isDigit_17 (by first | omega) (⟨rfl, by unfold dig_; omega⟩)

set_option maxHeartbeats 4000000 in
set_option maxRecDepth 100000 in
theorem c_isSignOf {G : GT_} (h : PH_) (c : Int) (h1 : ir_ c) : PC G yX12_isSignOf cX12_isSignOf 1 (some .boolean) 1 [ii_ c] h (qi_ (fun z h' => h = h' ∧ (z = 1 ∧ (sof_ c) ∨ z = 0 ∧ ¬ (sof_ c)))) := by
  refine PC.of (lv := [some (ii_ c)]) (by decide +kernel) (Nat.le_of_ble_eq_true rfl) rfl rfl ?_
  refine pw_iload_n (z := c) (pc := 0) dX12_isSignOf_0 rfl rfl ?_
  refine pw_bipush (pc := 1) dX12_isSignOf_1 rfl ?_
  refine pw_icmp_eq (t := 48) (pc := 3) dX12_isSignOf_3 (by decide) (by first | omega) (by first | omega) (fun c3 => ?_) (fun c3 => ?_)
  · refine pw_iconst (pc := 48) dX12_isSignOf_48 ?_
    refine pw_goto (t := 53) (pc := 49) dX12_isSignOf_49 (by decide) ?_
    exact pw_zret (pc := 53) dX12_isSignOf_53 (by first | omega) (⟨rfl, by unfold sof_; omega⟩)
  · refine pw_iload_n (z := c) (pc := 6) dX12_isSignOf_6 rfl rfl ?_
    refine pw_bipush (pc := 7) dX12_isSignOf_7 rfl ?_
    refine pw_icmp_eq (t := 48) (pc := 9) dX12_isSignOf_9 (by decide) (by first | omega) (by first | omega) (fun c9 => ?_) (fun c9 => ?_)
    · refine pw_iconst (pc := 48) dX12_isSignOf_48 ?_
      refine pw_goto (t := 53) (pc := 49) dX12_isSignOf_49 (by decide) ?_
      exact pw_zret (pc := 53) dX12_isSignOf_53 (by first | omega) (⟨rfl, by unfold sof_; omega⟩)
    · refine pw_iload_n (z := c) (pc := 12) dX12_isSignOf_12 rfl rfl ?_
      refine pw_bipush (pc := 13) dX12_isSignOf_13 rfl ?_
      refine pw_icmp_eq (t := 48) (pc := 15) dX12_isSignOf_15 (by decide) (by first | omega) (by first | omega) (fun c15 => ?_) (fun c15 => ?_)
      · refine pw_iconst (pc := 48) dX12_isSignOf_48 ?_
        refine pw_goto (t := 53) (pc := 49) dX12_isSignOf_49 (by decide) ?_
        exact pw_zret (pc := 53) dX12_isSignOf_53 (by first | omega) (⟨rfl, by unfold sof_; omega⟩)
      · refine pw_iload_n (z := c) (pc := 18) dX12_isSignOf_18 rfl rfl ?_
        refine pw_bipush (pc := 19) dX12_isSignOf_19 rfl ?_
        refine pw_icmp_eq (t := 48) (pc := 21) dX12_isSignOf_21 (by decide) (by first | omega) (by first | omega) (fun c21 => ?_) (fun c21 => ?_)
        · refine pw_iconst (pc := 48) dX12_isSignOf_48 ?_
          refine pw_goto (t := 53) (pc := 49) dX12_isSignOf_49 (by decide) ?_
          exact pw_zret (pc := 53) dX12_isSignOf_53 (by first | omega) (⟨rfl, by unfold sof_; omega⟩)
        · refine pw_iload_n (z := c) (pc := 24) dX12_isSignOf_24 rfl rfl ?_
          refine pw_bipush (pc := 25) dX12_isSignOf_25 rfl ?_
          refine pw_icmp_eq (t := 48) (pc := 27) dX12_isSignOf_27 (by decide) (by first | omega) (by first | omega) (fun c27 => ?_) (fun c27 => ?_)
          · refine pw_iconst (pc := 48) dX12_isSignOf_48 ?_
            refine pw_goto (t := 53) (pc := 49) dX12_isSignOf_49 (by decide) ?_
            exact pw_zret (pc := 53) dX12_isSignOf_53 (by first | omega) (⟨rfl, by unfold sof_; omega⟩)
          · refine pw_iload_n (z := c) (pc := 30) dX12_isSignOf_30 rfl rfl ?_
            refine pw_bipush (pc := 31) dX12_isSignOf_31 rfl ?_
            refine pw_icmp_eq (t := 48) (pc := 33) dX12_isSignOf_33 (by decide) (by first | omega) (by first | omega) (fun c33 => ?_) (fun c33 => ?_)
            · refine pw_iconst (pc := 48) dX12_isSignOf_48 ?_
              refine pw_goto (t := 53) (pc := 49) dX12_isSignOf_49 (by decide) ?_
              exact pw_zret (pc := 53) dX12_isSignOf_53 (by first | omega) (⟨rfl, by unfold sof_; omega⟩)
            · refine pw_iload_n (z := c) (pc := 36) dX12_isSignOf_36 rfl rfl ?_
              refine pw_bipush (pc := 37) dX12_isSignOf_37 rfl ?_
              refine pw_icmp_eq (t := 48) (pc := 39) dX12_isSignOf_39 (by decide) (by first | omega) (by first | omega) (fun c39 => ?_) (fun c39 => ?_)
              · refine pw_iconst (pc := 48) dX12_isSignOf_48 ?_
                refine pw_goto (t := 53) (pc := 49) dX12_isSignOf_49 (by decide) ?_
                exact pw_zret (pc := 53) dX12_isSignOf_53 (by first | omega) (⟨rfl, by unfold sof_; omega⟩)
              · refine pw_iload_n (z := c) (pc := 42) dX12_isSignOf_42 rfl rfl ?_
                refine pw_bipush (pc := 43) dX12_isSignOf_43 rfl ?_
                refine pw_icmp_ne (t := 52) (pc := 45) dX12_isSignOf_45 (by decide) (by first | omega) (by first | omega) (fun c45 => ?_) (fun c45 => ?_)
                · refine pw_iconst (pc := 52) dX12_isSignOf_52 ?_
                  exact pw_zret (pc := 53) dX12_isSignOf_53 (by first | omega) (⟨rfl, by unfold sof_; omega⟩)
                · refine pw_iconst (pc := 48) dX12_isSignOf_48 ?_
                  refine pw_goto (t := 53) (pc := 49) dX12_isSignOf_49 (by decide) ?_
                  exact pw_zret (pc := 53) dX12_isSignOf_53 (by first | omega) (⟨rfl, by unfold sof_; omega⟩)

set_option maxHeartbeats 4000000 in
set_option maxRecDepth 100000 in
theorem c_rank {G : GT_} (h : PH_) (c : Int) (h1 : 0 ≤ c ∧ c ≤ 255) : PC G yX12_rank cX12_rank 1 (some .int) 2 [ii_ c] h (qi_ (fun z h' => h = h' ∧ z = rnk_ c)) := by
  refine PC.of (lv := [some (ii_ c)]) (by decide +kernel) (Nat.le_of_ble_eq_true rfl) rfl rfl ?_
  refine pw_iload_n (z := c) (pc := 0) dX12_rank_0 rfl rfl ?_
  refine pw_callS (As := [ii_ c]) (rest := []) (pc := 1) dX12_rank_1 (c_isLetter h (c) (by first | omega)) lX12_192 mX12_isLetter sX12_isLetter rfl rfl (by decide) ⟨Nat.zero_le _, Nat.zero_le _⟩ (Nat.le_of_ble_eq_true rfl) (k_i (fun z1 h1 y1 q1 => ?_))
  obtain ⟨rfl, ⟨rfl, p1⟩ | ⟨rfl, p1⟩⟩ := q1
  · refine pw_if_eq (t := 14) (pc := 4) dX12_rank_4 (by decide) (by first | omega) (fun c4 => absurd c4 (by decide)) (fun _ => ?_)
    refine pw_iload_n (z := c) (pc := 7) dX12_rank_7 rfl rfl ?_
    refine pw_bipush (pc := 8) dX12_rank_8 rfl ?_
    refine pw_isub (pc := 10) dX12_rank_10 ?_
    refine pw_goto (t := 18) (pc := 11) dX12_rank_11 (by decide) ?_
    exact pw_iret (pc := 18) dX12_rank_18 (by first | omega) (⟨rfl, by unfold rnk_; first | (rw [if_t p1]; done) | (rw [if_f p1]; done)⟩)
  · refine pw_if_eq (t := 14) (pc := 4) dX12_rank_4 (by decide) (by first | omega) (fun _ => ?_) (fun c4 => absurd c4 (by decide))
    refine pw_iload_n (z := c) (pc := 14) dX12_rank_14 rfl rfl ?_
    refine pw_bipush (pc := 15) dX12_rank_15 rfl ?_
    refine pw_isub (pc := 17) dX12_rank_17 ?_
    exact pw_iret (pc := 18) dX12_rank_18 (by first | omega) (⟨rfl, by unfold rnk_; first | (rw [if_t p1]; done) | (rw [if_f p1]; done)⟩)

set_option maxHeartbeats 4000000 in
set_option maxRecDepth 100000 in
theorem c_wordHere {G : GT_} (hM : okM_ G) (h : PH_) (ha : 0 ≤ h mo_ 7 ∧ h mo_ 7 ≤ 1001) (f m : Int) (h1 : 0 ≤ f ∧ 0 ≤ m ∧ f + m ≤ 30) : PC G yX12_wordHere cX12_wordHere 5 (some .int) 2 [rr_ G mo_, ii_ f, ii_ m] h (qi_ (fun z h' => h = h' ∧ z = whr_ h f m.toNat)) := by
  refine PC.of (lv := [some (rr_ G mo_), some (ii_ f), some (ii_ m), none, none]) (by decide +kernel) (Nat.le_of_ble_eq_true rfl) rfl rfl ?_
  refine pw_iconst (pc := 0) dX12_wordHere_0 ?_
  refine pw_istore_n (lv1 := [some (rr_ G mo_), some (ii_ f), some (ii_ m), some (ii_ (-1)), none]) (pc := 1) dX12_wordHere_1 rfl (by decide) rfl rfl ?_
  refine pw_iconst (pc := 2) dX12_wordHere_2 ?_
  refine pw_istore (lv1 := [some (rr_ G mo_), some (ii_ f), some (ii_ m), some (ii_ (-1)), some (ii_ 0)]) (pc := 3) dX12_wordHere_3 (by decide) rfl rfl ?_
  have L5 : ∀ (nn : Nat) (v : Int) (k : Int), (0 ≤ k ∧ k ≤ m) → (v = whr_ h f k.toNat) → ((m - k + 1 : Int) ≤ nn) → PW G RX12 cX12_wordHere 5 (some .int) (rm_ 2) 0 0 (zm_ G (qi_ (fun z h' => h = h' ∧ z = whr_ h f m.toNat))) 5 [some (rr_ G mo_), some (ii_ f), some (ii_ m), some (ii_ v), some (ii_ k)] [] h := by
    intro nn
    induction nn with
    | zero => intro v k ak av ams; exfalso; omega
    | succ nn ih5 =>
      intro v k ak av ams
      have wb := whr_b h f k.toNat
      refine pw_iload (z := k) (pc := 5) dX12_wordHere_5 rfl ?_
      refine pw_iload_n (z := m) (pc := 7) dX12_wordHere_7 rfl rfl ?_
      refine pw_icmp_ge (t := 35) (pc := 8) dX12_wordHere_8 (by decide) (by first | omega) (by first | omega) (fun c8 => ?_) (fun c8 => ?_)
      · refine pw_iload_n (z := v) (pc := 35) dX12_wordHere_35 rfl rfl ?_
        exact pw_iret (pc := 36) dX12_wordHere_36 (by first | omega) (⟨rfl, by rw [av, show k = m by omega]⟩)
      · refine pw_aload_n (z := mo_) (pc := 11) dX12_wordHere_11 rfl rfl ?_
        refine pw_iload_n (z := f) (pc := 12) dX12_wordHere_12 rfl rfl ?_
        refine pw_iload (z := k) (pc := 13) dX12_wordHere_13 rfl ?_
        refine pw_iadd (pc := 15) dX12_wordHere_15 ?_
        refine pw_callV (c := 12) (o := mo_) (As := [ii_ (f + k)]) (rest := []) (pc := 16) dX12_wordHere_16 (c_isWord hM h (by first | omega) (f + k) (by first | omega)) lX12_227 mX12_isWord vX12_isWord (im_mo_ hM) k_mo_ rfl rfl rfl (by decide) ⟨Nat.zero_le _, Nat.zero_le _⟩ (Nat.le_of_ble_eq_true rfl) (k_i (fun z16 h16 y16 q16 => ?_))
        obtain ⟨rfl, ⟨rfl, p16⟩ | ⟨rfl, p16⟩⟩ := q16
        · refine pw_if_eq (t := 27) (pc := 19) dX12_wordHere_19 (by decide) (by first | omega) (fun c19 => absurd c19 (by decide)) (fun _ => ?_)
          refine pw_iload (z := k) (pc := 22) dX12_wordHere_22 rfl ?_
          refine pw_goto (t := 28) (pc := 24) dX12_wordHere_24 (by decide) ?_
          refine pw_istore_n (lv1 := [some (rr_ G mo_), some (ii_ f), some (ii_ m), some (ii_ k), some (ii_ k)]) (pc := 28) dX12_wordHere_28 rfl (by decide) rfl rfl ?_
          refine pw_iinc (z := k) (lv1 := [some (rr_ G mo_), some (ii_ f), some (ii_ m), some (ii_ k), some (ii_ (k + 1))]) (pc := 29) dX12_wordHere_29 rfl (by decide) rfl rfl ?_
          refine pw_goto (t := 5) (pc := 32) dX12_wordHere_32 (by decide) ?_
          exact ih5 _ _ (by omega) (by rw [whr_s ak.1, ← av]; first | (rw [if_t p16]; done) | (rw [if_f p16]; done)) (by omega)
        · refine pw_if_eq (t := 27) (pc := 19) dX12_wordHere_19 (by decide) (by first | omega) (fun _ => ?_) (fun c19 => absurd c19 (by decide))
          refine pw_iload_n (z := v) (pc := 27) dX12_wordHere_27 rfl rfl ?_
          refine pw_istore_n (lv1 := [some (rr_ G mo_), some (ii_ f), some (ii_ m), some (ii_ v), some (ii_ k)]) (pc := 28) dX12_wordHere_28 rfl (by decide) rfl rfl ?_
          refine pw_iinc (z := k) (lv1 := [some (rr_ G mo_), some (ii_ f), some (ii_ m), some (ii_ v), some (ii_ (k + 1))]) (pc := 29) dX12_wordHere_29 rfl (by decide) rfl rfl ?_
          refine pw_goto (t := 5) (pc := 32) dX12_wordHere_32 (by decide) ?_
          exact ih5 _ _ (by omega) (by rw [whr_s ak.1, ← av]; first | (rw [if_t p16]; done) | (rw [if_f p16]; done)) (by omega)
  exact L5 _ _ _ (by omega) (rfl) (Int.self_le_toNat _)

