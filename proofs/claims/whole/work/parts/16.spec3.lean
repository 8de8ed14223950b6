/-! ===== plans, one by one ===== -/
theorem dg_b (R p r : Int) : 0 ≤ dg_ R p r ∧ dg_ R p r ≤ 3 := by unfold dg_; omega
theorem lwt_cg {ro si sj : Int → Int} {r : Int} (hr : si r = sj r) : ∀ {n : Nat}, (∀ e, 0 ≤ e → e < (n : Int) → si e = sj e) → (lwt_ ro si r n ↔ lwt_ ro sj r n)
  | 0, _ => Iff.rfl
  | n + 1, h => by
    have h1 := lwt_cg (ro := ro) hr (n := n) (fun e h0 h1 => h e h0 (by omega))
    have h2 := h n (by omega) (by omega)
    unfold lwt_
    rw [h1, hr, h2]
theorem lwf_cg {ro si sj : Int → Int} : ∀ {n : Nat}, (∀ e, 0 ≤ e → e < (n : Int) → si e = sj e) → (lwf_ ro si n ↔ lwf_ ro sj n)
  | 0, _ => Iff.rfl
  | n + 1, h => by
    have h1 := lwf_cg (ro := ro) (n := n) (fun e h0 h1 => h e h0 (by omega))
    have h2 := h n (by omega) (by omega)
    have h3 := lwt_cg (ro := ro) h2 (n := n) (fun e h0 h1 => h e h0 (by omega))
    unfold lwf_
    rw [h1, h2, h3]
theorem tip_cg {ro si sj : Int → Int} {r : Int} (hr : si r = sj r) : ∀ {n : Nat}, (∀ e, 0 ≤ e → e < (n : Int) → si e = sj e) → tip_ ro si r n = tip_ ro sj r n
  | 0, _ => rfl
  | n + 1, h => by
    have h1 := tip_cg (ro := ro) hr (n := n) (fun e h0 h1 => h e h0 (by omega))
    have h2 := h n (by omega) (by omega)
    unfold tip_
    rw [h1, hr, h2]
/-- a LAWFUL PLAN -/
def lp1_ (ro : Int → Int) (p : Int) : Prop := lwf_ ro (dg_ (ro 2) p) (ro 2).toNat
def lpl_ (ro : Int → Int) (p : Int) : Prop := vp_ok (ro 0) (ro 2) p ∧ lp1_ ro p
/-- what it is worth to a rider on a stretch -/
noncomputable def wsi_ (ro : Int → Int) (P : List (Int × Int)) (si : Int → Int) (r t : Int) : Int := wv_ ro P r (si r) t (tip_ ro si r (ro 2).toNat)
theorem wsi_cg {ro si sj : Int → Int} {P : List (Int × Int)} {r t : Int} (hr : 0 ≤ r ∧ r < ro 2) (h : ∀ e, 0 ≤ e → e < ro 2 → si e = sj e) : wsi_ ro P si r t = wsi_ ro P sj r t := by
  unfold wsi_
  rw [h r hr.1 hr.2, tip_cg (h r hr.1 hr.2) (fun e h0 h1 => h e h0 (by omega))]
noncomputable def cnt_ (ro : Int → Int) : Nat → Int
  | 0 => 0
  | n + 1 => cnt_ ro n + if_ (lpl_ ro n) 1 0
theorem cnt_s (ro : Int → Int) {n : Int} (h : 0 ≤ n) : cnt_ ro (n + 1).toNat = cnt_ ro n.toNat + if_ (lpl_ ro n) 1 0 := by rw [tn_s h]; show cnt_ ro n.toNat + _ = _; rw [tn_c h]
theorem if_b {P : Prop} : 0 ≤ if_ P (1 : Int) 0 ∧ if_ P (1 : Int) 0 ≤ 1 := by
  by_cases h : P
  · rw [if_t h]; omega
  · rw [if_f h]; omega
theorem cnt_b (ro : Int → Int) : ∀ n, 0 ≤ cnt_ ro n ∧ cnt_ ro n ≤ n
  | 0 => by unfold cnt_; omega
  | n + 1 => by have := cnt_b ro n; have := if_b (P := lpl_ ro n); unfold cnt_; omega
theorem dj_if {z : Int} {P : Prop} (h : z = 1 ∧ P ∨ z = 0 ∧ ¬ P) : z = if_ P 1 0 := by
  rcases h with h | h
  · rw [if_t h.2]; exact h.1
  · rw [if_f h.2]; exact h.1
/-- frames of the reference: these cells, these fields of it -/
def fr2_ (L : List Nat) (ks : List Int) (h h' : PH_) : Prop := off_ (mo_ :: L) h h' ∧ ∀ k, k ∉ ks → h' mo_ k = h mo_ k
theorem fr2_up {L : List Nat} {ks : List Int} {h : PH_} {k z : Int} (hk : k ∈ ks) : fr2_ L ks h (up_ h mo_ k z) := ⟨off_up off_rf List.mem_cons_self, fun j hj => by rw [up_at, if_neg (fun e => hj (by rw [e]; exact hk))]⟩
theorem fr2_tr {L : List Nat} {ks : List Int} {a b c : PH_} (h1 : fr2_ L ks a b) (h2 : fr2_ L ks b c) : fr2_ L ks a c := ⟨off_tr h1.1 h2.1, fun k hk => (h2.2 k hk).trans (h1.2 k hk)⟩
theorem fr2_off {L : List Nat} {ks : List Int} {h h' : PH_} (h1 : off_ L h h') (hm : mo_ ∉ L) : fr2_ L ks h h' := ⟨off_mo h1 (fun i hi => List.mem_cons_of_mem _ hi), fun k _ => by rw [h1 mo_ hm]⟩
theorem fr2_mo {L L' : List Nat} {ks ks' : List Int} {h h' : PH_} (h1 : fr2_ L ks h h') (hl : ∀ i ∈ L, i ∈ L') (hk : ∀ i ∈ ks, i ∈ ks') : fr2_ L' ks' h h' := ⟨off_mo h1.1 (fun i hi => by rcases List.mem_cons.mp hi with e | e; rw [e]; exact List.mem_cons_self; exact List.mem_cons_of_mem _ (hl i e)), fun k hk9 => h1.2 k (fun hh => hk9 (hk k hh))⟩
theorem fr2_rf {L : List Nat} {ks : List Int} {h : PH_} : fr2_ L ks h h := ⟨off_rf, fun _ _ => rfl⟩
