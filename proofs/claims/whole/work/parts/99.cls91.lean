set_option maxHeartbeats 4000000 in
set_option maxRecDepth 100000 in
/-- the law comes to its end with true -/
theorem law_loop {G : GT_} (hC : okC_ G) (hM : okM_ G) (hO : 2000 ∈ gi_ G) (hX : gX_ G) {sb L : Nat} {xs : Nat → Int32} (hS : gS_ G sb L xs) (hL : L ≤ 3584) : ∀ (nn : Nat) (i : Int) (cs ss : Nat) (l5 l6 : Option Value) (h : PH_), INVE_ h → 0 ≤ i → i ≤ L → (L : Int) - i + 7 ≤ nn → cs + nn ≤ 601024 → ss + 6 * nn ≤ 7293033 → PW G RL cL_law 7 (some .boolean) room_1 cs ss (zl_ G) 23 [some (.ref sb), some (rr_ G 0), some (rr_ G mo_), some (rr_ G 2000), some (ii_ i), l5, l6] [] h := by
  intro nn
  induction nn with
  | zero => intro i cs ss l5 l6 h I0 hi hiL hn hc hs; exfalso; omega
  | succ nn ih =>
    intro i cs ss l5 l6 h I0 hi hiL hn hc hs
    refine pw_iload (z := i) (pc := 23) dL_law_23 rfl ?_
    refine pw_aloadQ_n (q := sb) (pc := 25) dL_law_25 rfl rfl ?_
    refine pw_slen (pc := 26) dL_law_26 hS ?_
    refine pw_bipush (pc := 27) dL_law_27 rfl ?_
    refine pw_isub (pc := 29) dL_law_29 ?_
    refine pw_icmp_gt (t := 1201) (pc := 30) dL_law_30 (by decide) (by constructor <;> omega) (by constructor <;> omega) (fun c => ?_) (fun c => ?_)
    · refine pw_iconst (pc := 1201) dL_law_1201 ?_
      exact pw_lawret (pc := 1202) dL_law_1202 (by omega) (by omega)
    · have J : ∀ (cs1 ss1 : Nat) (l5 l6 : Option Value) (h1 : PH_), INVE_ h1 → cs1 ≤ cs + 1 → ss1 ≤ ss + 6 → PW G RL cL_law 7 (some .boolean) room_1 cs1 ss1 (zl_ G) 1195 [some (.ref sb), some (rr_ G 0), some (rr_ G mo_), some (rr_ G 2000), some (ii_ i), l5, l6] [] h1 := by
        intro cs1 ss1 l5 l6 h1 I1 a1 a2
        refine pw_iinc (z := i) (lv1 := [some (.ref sb), some (rr_ G 0), some (rr_ G mo_), some (rr_ G 2000), some (ii_ (i + 7)), l5, l6]) (pc := 1195) dL_law_1195 rfl (by decide) rfl rfl ?_
        refine pw_goto (t := 23) (pc := 1198) dL_law_1198 (by decide) ?_
        exact ih (i + 7) cs1 ss1 l5 l6 h1 I1 (by omega) (by omega) (by omega) (by omega) (by omega)
      refine pw_aloadQ_n (q := sb) (pc := 33) dL_law_33 rfl rfl ?_
      refine pw_iload (z := i) (pc := 34) dL_law_34 rfl ?_
      refine pw_sld (pc := 36) dL_law_36 hS hL (by omega) (by omega) ?_
      refine pw_bipush (pc := 37) dL_law_37 rfl ?_
      refine pw_iand31 (pc := 39) dL_law_39 ?_
      have hv : 0 ≤ sv_ xs i % 32 ∧ sv_ xs i % 32 < 32 := by omega
      generalize sv_ xs i % 32 = v at hv ⊢
      have hr : ir_ v := by constructor <;> omega
      have sw : v = 0 ∨ v = 1 ∨ v = 2 ∨ v = 3 ∨ v = 4 ∨ v = 5 ∨ v = 6 ∨ v = 7 ∨ v = 8 ∨ v = 9 ∨ v = 10 ∨ v = 11 ∨ v = 12 ∨ v = 13 ∨ v = 14 ∨ v = 15 ∨ v = 16 ∨ v = 17 ∨ v = 18 ∨ v = 19 ∨ v = 20 ∨ v = 21 ∨ v = 22 ∨ v = 23 ∨ v = 24 ∨ v = 25 ∨ v = 26 ∨ (v < 0 ∨ 26 < v) := by omega
      rcases sw with sw | sw | sw | sw | sw | sw | sw | sw | sw | sw | sw | sw | sw | sw | sw | sw | sw | sw | sw | sw | sw | sw | sw | sw | sw | sw | sw | sw
      · refine pw_tableIn (t := 164) (off := 124) (pc := 40) dL_law_40 hr (by omega) (by omega) (by rw [sw]; rfl) (by decide) ?_
        exact law_c0 hC hM hO hX hS hL I0 ⟨hi, by omega⟩ ⟨by omega, by omega⟩ J
      · refine pw_tableIn (t := 311) (off := 271) (pc := 40) dL_law_40 hr (by omega) (by omega) (by rw [sw]; rfl) (by decide) ?_
        exact law_c1 hC hM hO hX hS hL I0 ⟨hi, by omega⟩ ⟨by omega, by omega⟩ J
      · refine pw_tableIn (t := 324) (off := 284) (pc := 40) dL_law_40 hr (by omega) (by omega) (by rw [sw]; rfl) (by decide) ?_
        exact law_c2 hC hM hO hX hS hL I0 ⟨hi, by omega⟩ ⟨by omega, by omega⟩ J
      · refine pw_tableIn (t := 337) (off := 297) (pc := 40) dL_law_40 hr (by omega) (by omega) (by rw [sw]; rfl) (by decide) ?_
        exact law_c3 hC hM hO hX hS hL I0 ⟨hi, by omega⟩ ⟨by omega, by omega⟩ J
      · refine pw_tableIn (t := 350) (off := 310) (pc := 40) dL_law_40 hr (by omega) (by omega) (by rw [sw]; rfl) (by decide) ?_
        exact law_c4 hC hM hO hX hS hL I0 ⟨hi, by omega⟩ ⟨by omega, by omega⟩ J
      · refine pw_tableIn (t := 418) (off := 378) (pc := 40) dL_law_40 hr (by omega) (by omega) (by rw [sw]; rfl) (by decide) ?_
        exact law_c5 hC hM hO hX hS hL I0 ⟨hi, by omega⟩ ⟨by omega, by omega⟩ J
      · refine pw_tableIn (t := 455) (off := 415) (pc := 40) dL_law_40 hr (by omega) (by omega) (by rw [sw]; rfl) (by decide) ?_
        exact law_c6 hC hM hO hX hS hL I0 ⟨hi, by omega⟩ ⟨by omega, by omega⟩ J
      · refine pw_tableIn (t := 480) (off := 440) (pc := 40) dL_law_40 hr (by omega) (by omega) (by rw [sw]; rfl) (by decide) ?_
        exact law_c7 hC hM hO hX hS hL I0 ⟨hi, by omega⟩ ⟨by omega, by omega⟩ J
      · refine pw_tableIn (t := 529) (off := 489) (pc := 40) dL_law_40 hr (by omega) (by omega) (by rw [sw]; rfl) (by decide) ?_
        exact law_c8 hC hM hO hX hS hL I0 ⟨hi, by omega⟩ ⟨by omega, by omega⟩ J
      · refine pw_tableIn (t := 542) (off := 502) (pc := 40) dL_law_40 hr (by omega) (by omega) (by rw [sw]; rfl) (by decide) ?_
        exact law_c9 hC hM hO hX hS hL I0 ⟨hi, by omega⟩ ⟨by omega, by omega⟩ J
      · refine pw_tableIn (t := 579) (off := 539) (pc := 40) dL_law_40 hr (by omega) (by omega) (by rw [sw]; rfl) (by decide) ?_
        exact law_c10 hC hM hO hX hS hL I0 ⟨hi, by omega⟩ ⟨by omega, by omega⟩ J
      · refine pw_tableIn (t := 592) (off := 552) (pc := 40) dL_law_40 hr (by omega) (by omega) (by rw [sw]; rfl) (by decide) ?_
        exact law_c11 hC hM hO hX hS hL I0 ⟨hi, by omega⟩ ⟨by omega, by omega⟩ J
      · refine pw_tableIn (t := 605) (off := 565) (pc := 40) dL_law_40 hr (by omega) (by omega) (by rw [sw]; rfl) (by decide) ?_
        exact law_c12 hC hM hO hX hS hL I0 ⟨hi, by omega⟩ ⟨by omega, by omega⟩ J
      · refine pw_tableIn (t := 630) (off := 590) (pc := 40) dL_law_40 hr (by omega) (by omega) (by rw [sw]; rfl) (by decide) ?_
        exact law_c13 hC hM hO hX hS hL I0 ⟨hi, by omega⟩ ⟨by omega, by omega⟩ J
      · refine pw_tableIn (t := 667) (off := 627) (pc := 40) dL_law_40 hr (by omega) (by omega) (by rw [sw]; rfl) (by decide) ?_
        exact law_c14 hC hM hO hX hS hL I0 ⟨hi, by omega⟩ ⟨by omega, by omega⟩ J
      · refine pw_tableIn (t := 723) (off := 683) (pc := 40) dL_law_40 hr (by omega) (by omega) (by rw [sw]; rfl) (by decide) ?_
        exact law_c15 hC hM hO hX hS hL I0 ⟨hi, by omega⟩ ⟨by omega, by omega⟩ J
      · refine pw_tableIn (t := 767) (off := 727) (pc := 40) dL_law_40 hr (by omega) (by omega) (by rw [sw]; rfl) (by decide) ?_
        exact law_c16 hC hM hO hX hS hL I0 ⟨hi, by omega⟩ ⟨by omega, by omega⟩ J
      · refine pw_tableIn (t := 780) (off := 740) (pc := 40) dL_law_40 hr (by omega) (by omega) (by rw [sw]; rfl) (by decide) ?_
        exact law_c17 hC hM hO hX hS hL I0 ⟨hi, by omega⟩ ⟨by omega, by omega⟩ J
      · refine pw_tableIn (t := 817) (off := 777) (pc := 40) dL_law_40 hr (by omega) (by omega) (by rw [sw]; rfl) (by decide) ?_
        exact law_c18 hC hM hO hX hS hL I0 ⟨hi, by omega⟩ ⟨by omega, by omega⟩ J
      · refine pw_tableIn (t := 854) (off := 814) (pc := 40) dL_law_40 hr (by omega) (by omega) (by rw [sw]; rfl) (by decide) ?_
        exact law_c19 hC hM hO hX hS hL I0 ⟨hi, by omega⟩ ⟨by omega, by omega⟩ J
      · refine pw_tableIn (t := 916) (off := 876) (pc := 40) dL_law_40 hr (by omega) (by omega) (by rw [sw]; rfl) (by decide) ?_
        exact law_c20 hC hM hO hX hS hL I0 ⟨hi, by omega⟩ ⟨by omega, by omega⟩ J
      · refine pw_tableIn (t := 953) (off := 913) (pc := 40) dL_law_40 hr (by omega) (by omega) (by rw [sw]; rfl) (by decide) ?_
        exact law_c21 hC hM hO hX hS hL I0 ⟨hi, by omega⟩ ⟨by omega, by omega⟩ J
      · refine pw_tableIn (t := 966) (off := 926) (pc := 40) dL_law_40 hr (by omega) (by omega) (by rw [sw]; rfl) (by decide) ?_
        exact law_c22 hC hM hO hX hS hL I0 ⟨hi, by omega⟩ ⟨by omega, by omega⟩ J
      · refine pw_tableIn (t := 1043) (off := 1003) (pc := 40) dL_law_40 hr (by omega) (by omega) (by rw [sw]; rfl) (by decide) ?_
        exact law_c23 hC hM hO hX hS hL I0 ⟨hi, by omega⟩ ⟨by omega, by omega⟩ J
      · refine pw_tableIn (t := 1068) (off := 1028) (pc := 40) dL_law_40 hr (by omega) (by omega) (by rw [sw]; rfl) (by decide) ?_
        exact law_c24 hC hM hO hX hS hL I0 ⟨hi, by omega⟩ ⟨by omega, by omega⟩ J
      · refine pw_tableIn (t := 1117) (off := 1077) (pc := 40) dL_law_40 hr (by omega) (by omega) (by rw [sw]; rfl) (by decide) ?_
        exact law_c25 hC hM hO hX hS hL I0 ⟨hi, by omega⟩ ⟨by omega, by omega⟩ J
      · refine pw_tableIn (t := 1170) (off := 1130) (pc := 40) dL_law_40 hr (by omega) (by omega) (by rw [sw]; rfl) (by decide) ?_
        exact law_c26 hC hM hO hX hS hL I0 ⟨hi, by omega⟩ ⟨by omega, by omega⟩ J
      · refine pw_tableOut (t := 1195) (pc := 40) dL_law_40 hr sw (by decide) ?_
        exact J cs ss l5 l6 h I0 (by omega) (by omega)

