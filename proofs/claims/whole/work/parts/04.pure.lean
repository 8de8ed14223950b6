def kdTC : List Nat := [21, 18, 3, 15, 16, 0, 1, 0, 0, 0, 0, 0, 12, 0, 0, 0, 0, 0, 0, 0, 16, 0, 1, 0, 0, 0, 0, 0, 12, 0, 0, 0, 0, 0, 0, 0, 20, 0, 0, 20, 0, 0, 13, 17, 0, 0, 0, 0, 0, 4, 13, 17, 0, 0, 0, 0, 0, 13, 17, 0, 0, 0, 0, 0, 13, 17, 0, 0, 0, 0, 0, 13, 17, 0, 0, 0, 0, 0, 5, 17, 0, 0, 0, 17, 0, 0, 0, 17, 0, 0, 0, 17, 0, 0, 0, 17, 0, 0, 0, 17, 0, 0, 0, 17, 0, 0, 0, 17, 0, 0, 0, 17, 0, 0, 0, 17, 0, 0, 0, 17, 0, 0, 0, 17, 0, 0, 0, 17, 0, 0, 0, 17, 0, 0, 0, 17, 0, 0, 0, 17, 0, 0, 0, 17, 0, 0, 0, 0, 0, 0, 0, 11, 0, 0, 0, 0, 0, 0, 0, 0, 0, 14, 0, 0, 0, 0, 19, 0, 0, 0, 10, 0, 0]
def kdTM : List Nat := [22, 0, 0, 0, 1, 1, 0, 0, 0, 1, 1, 0, 0, 0, 0, 0, 0, 0, 2, 0, 0, 0, 0, 0, 0, 0, 0, 0, 0, 0, 0, 0, 0, 0, 0]
def lnTC : List Nat := [0, 0, 1000, 0, 0, 20, 8, 4, 4, 4, 4, 4, 0, 1000, 32, 5, 5, 5, 24, 192, 0, 20, 8, 4, 4, 4, 4, 4, 0, 1000, 32, 5, 5, 5, 24, 192, 0, 20, 20, 0, 20, 20, 0, 0, 4, 4, 4, 16, 40, 4, 0, 0, 4, 4, 4, 16, 40, 0, 0, 4, 4, 4, 16, 40, 0, 0, 4, 4, 4, 16, 40, 0, 0, 4, 4, 4, 16, 40, 16, 0, 4, 4, 4, 0, 4, 4, 4, 0, 4, 4, 4, 0, 4, 4, 4, 0, 4, 4, 4, 0, 4, 4, 4, 0, 4, 4, 4, 0, 4, 4, 4, 0, 4, 4, 4, 0, 4, 4, 4, 0, 4, 4, 4, 0, 4, 4, 4, 0, 4, 4, 4, 0, 4, 4, 4, 0, 4, 4, 4, 0, 4, 4, 4, 0, 4, 4, 4, 4, 4, 4, 16, 0, 4, 384, 1920, 96, 20, 4, 4, 4, 78, 0, 16, 4, 16, 16, 0, 4, 4, 4, 0, 4, 4]
def lnTM : List Nat := [0, 1000, 1002, 1002, 1002, 30, 160, 2200, 2200, 8, 8, 8, 8, 90, 16, 5, 1100, 1760, 4, 4, 24, 384, 576, 5, 20, 5, 4, 5, 4, 16, 40, 4, 4, 5, 4]
def kd_ (i : Nat) : Nat := if i < 1000 then kdTC.getD i 9 else if i < 2000 then kdTM.getD (i - 1000) 9 else 1
def ln_ (i : Nat) : Nat := if i < 1000 then lnTC.getD i 0 else if i < 2000 then lnTM.getD (i - 1000) 0 else 1
def ft_ : Nat → List Nat := fun c => match c with
  | 0 => [3, 0, 0, 0, 1, 2, 2, 0, 1, 1]
  | 1 => [3, 0, 2, 2, 2, 2, 2, 2, 2, 2, 2, 0, 0, 0, 0, 0, 0]
  | 2 => [2, 2, 2, 0]
  | 3 => [2, 2, 2, 0, 0, 0]
  | 4 => [2, 2, 2, 2, 0]
  | 5 => [2, 3, 3, 0, 0, 0]
  | 6 => [0, 0, 0, 0, 0, 0, 0, 0, 2, 2, 2, 2, 2, 2, 2, 2, 2, 2, 2, 2]
  | 7 => [2, 2, 2, 0]
  | 8 => [2, 0, 0, 0, 0, 0, 1]
  | 9 => [2, 2, 2, 0]
  | 10 => [2, 2, 0]
  | 11 => [2, 2, 3, 3, 3, 3, 2, 2, 2, 0, 0, 2, 2, 2, 2, 2, 2, 2, 2, 2]
  | 12 => [0, 2, 0, 0, 2, 2, 2, 0, 0, 2, 2, 2, 2, 0, 2, 2, 2, 2, 0, 0, 0, 0, 0, 2, 2, 2, 2, 2, 0, 2, 2, 2, 0, 2, 2, 2, 2, 2, 2, 0, 0, 0, 0, 0, 2, 2, 2, 2, 0, 2, 2, 1, 1, 2, 2, 0, 0, 0, 1, 0]
  | _ => []
def of_ : Nat → List Nat := fun c => match c with
  | 0 => [0, 0, 0, 0, 0, 1, 2, 0, 0, 0]
  | 1 => [0, 0, 1, 2, 3, 4, 5, 6, 7, 8, 9, 0, 0, 0, 0, 0, 0]
  | 2 => [1, 2, 3, 0]
  | 3 => [1, 5, 6, 0, 0, 0]
  | 4 => [1, 2, 3, 4, 0]
  | 5 => [1, 0, 0, 0, 0, 0]
  | 6 => [0, 0, 0, 0, 0, 0, 0, 0, 1, 2, 3, 4, 5, 6, 7, 8, 12, 13, 14, 15]
  | 7 => [1, 2, 3, 0]
  | 8 => [1, 0, 0, 0, 0, 0, 0]
  | 9 => [1, 2, 3, 0]
  | 10 => [1, 2, 0]
  | 11 => [1, 3, 0, 0, 0, 0, 42, 49, 78, 0, 0, 143, 147, 148, 149, 150, 151, 161, 166, 170]
  | 12 => [0, 1, 0, 0, 2, 3, 4, 0, 0, 5, 6, 7, 8, 0, 9, 10, 11, 12, 0, 0, 0, 0, 0, 13, 14, 15, 16, 17, 0, 18, 19, 20, 0, 21, 22, 23, 24, 25, 26, 0, 0, 0, 0, 0, 27, 28, 29, 30, 0, 31, 32, 0, 0, 33, 34, 0, 0, 0, 0, 0]
  | _ => []
/-- the cell that a final field of the object i, of class c, points at -/
def fr_ (i c k : Nat) : Nat := if c = 5 then (of_ c).getD k 0 else i + (of_ c).getD k 0
/-! ===== the pure layer: values, heaps of ints, the world that they stand for ===== -/
abbrev PH_ : Type := Nat → Int → Int
/-- launch, base, addresses, ids, class table, array classes, the strings' byte rows, what else is to be kept -/
abbrev GT_ : Type := Launch × Nat × (Nat → Nat) × List Nat × va_G × (Nat → ClassId) × (Nat → Nat) × (State → Heap → Prop)
abbrev gl_ (G : GT_) : Launch := G.1
abbrev gb_ (G : GT_) : Nat := G.2.1
abbrev ga_ (G : GT_) : Nat → Nat := G.2.2.1
abbrev gi_ (G : GT_) : List Nat := G.2.2.2.1
abbrev gd_ (G : GT_) : va_G := G.2.2.2.2.1
abbrev gc_ (G : GT_) : Nat → ClassId := G.2.2.2.2.2.1
abbrev gv_ (G : GT_) : Nat → Nat := G.2.2.2.2.2.2.1
abbrev gx_ (G : GT_) : State → Heap → Prop := G.2.2.2.2.2.2.2
def ii_ (z : Int) : Value := .int (Int32.ofInt z)
def ll_ (z : Int) : Value := .long (Int64.ofInt z)
def rr_ (G : GT_) (i : Nat) : Value := .ref (ga_ G i)
def rq_ (G : GT_) (z : Int) : Value := if z < 0 then .null else .ref (ga_ G z.toNat)
abbrev ir_ (z : Int) : Prop := -2147483648 ≤ z ∧ z ≤ 2147483647
abbrev lr_ (z : Int) : Prop := -9223372036854775808 ≤ z ∧ z ≤ 9223372036854775807
def fv_ (G : GT_) (f : Int → Int) (i c k t : Nat) : Value := match t with
  | 0 => ii_ (f k)
  | 1 => ll_ (f k)
  | 2 => rr_ G (fr_ i c k)
  | _ => rq_ G (f k)
def fs_ (G : GT_) (f : Int → Int) (i c : Nat) : List Value := (ft_ c).mapIdx (fun k t => fv_ G f i c k t)
def cf_ (G : GT_) (i : Nat) (f : Int → Int) : va_E :=
  if kd_ i = 1 then .inl (gc_ G 1, ln_ i, .inr (.inl (fun j => Int64.ofInt (f j))))
  else if 10 ≤ kd_ i then .inr (kd_ i - 10, fs_ G f i (kd_ i - 10))
  else if kd_ i = 4 ∨ kd_ i = 5 then .inl (gc_ G (kd_ i), ln_ i, .inr (.inr (.inr (.inr (fun j => some (ga_ G (f j).toNat))))))
  else .inl (gc_ G (kd_ i), ln_ i, .inl (fun j => Int32.ofInt (f j)))
def ws_ (G : GT_) (h : PH_) : va_W := (gi_ G).map (fun i => (ga_ G i, cf_ G i (h i)))
def ag_ (G : GT_) : Nat → Prop := fun q => gb_ G ≤ q
def tys_ (G : GT_) : List (ClassId × FieldType) := [(gc_ G 0, .int), (gc_ G 1, .long), (gc_ G 2, .boolean), (gc_ G 3, .char), (gc_ G 4, .object RX3), (gc_ G 5, .object RX7)]
def up_ (h : PH_) (i : Nat) (x z : Int) : PH_ := fun j => if j = i then (fun y => if y = x then z else h i y) else h j
theorem up_off {h : PH_} {i : Nat} {x z : Int} {j : Nat} (hj : j ≠ i) : up_ h i x z j = h j := by simp [up_, hj]
theorem up_same (h : PH_) (i : Nat) (x z : Int) : up_ h i x z i x = z := by simp [up_]
theorem up_at (h : PH_) (i : Nat) (x z y : Int) : up_ h i x z i y = if y = x then z else h i y := by simp [up_]
theorem up_ap (h : PH_) (i : Nat) (x z : Int) (j : Nat) (y : Int) : up_ h i x z j y = if j = i ∧ y = x then z else h j y := by
  unfold up_
  by_cases hj : j = i
  · subst hj; simp
  · simp [hj]
/-- a slot that holds a long -/
def sl_ (i : Nat) (x : Int) : Bool := kd_ i == 1 || (decide (10 ≤ kd_ i) && decide (0 ≤ x) && ((ft_ (kd_ i - 10))[x.toNat]? == some 1))
def nr_ (h : PH_) : Prop := ∀ (i : Nat) (x : Int), (sl_ i x = false → ir_ (h i x)) ∧ lr_ (h i x)
theorem nr_up {h : PH_} {i : Nat} {x z : Int} (hn : nr_ h) (h1 : sl_ i x = false → ir_ z) (h2 : lr_ z) : nr_ (up_ h i x z) := by
  intro j y
  rw [up_ap]
  by_cases hc : j = i ∧ y = x
  · rw [if_pos hc]; obtain ⟨rfl, rfl⟩ := hc; exact ⟨h1, h2⟩
  · rw [if_neg hc]; exact hn j y
/-- the words that hold at every call -/
def gt_ : List Cond := lw_tbl.filter goodWord
theorem gm_ {w : Cond} (i : Nat) (h : lw_tbl[i]? = some w) (hg : goodWord w = true) : w ∈ gt_ := List.mem_filter.mpr ⟨List.mem_of_getElem? h, hg⟩
theorem gt_sub {ws : List Cond} (h : ∀ w ∈ ws, w ∈ lw_tbl) (hg : ws.all goodWord = true) : ∀ w ∈ ws, w ∈ gt_ := fun w hw => List.mem_filter.mpr ⟨h w hw, List.all_eq_true.mp hg w hw⟩
/-- the strings that are constants: class, entry, text -/
def stT_ : List (String × Nat × String) := [
  ("MiddleSeat$Reader", 9, ""),
  ("MiddleSeat$Tape", 42, "()<=+-*;"),
  ("MiddleSeat$Reader", 141, "seats "),
  ("MiddleSeat$Reader", 40, "stretch rider apart never gap fight worth rule "),
  ("MiddleSeat$Reader", 164, "has "),
  ("MiddleSeat$Reader", 121, "seats stretch has rider dash past apart never gap fight worth rule sit drive row plain sick sleeper small not and or "),
  ("MiddleSeat$Reader", 171, "plain sick sleeper small "),
  ("MiddleSeat$Reader", 173, "dash "),
  ("MiddleSeat$Reader", 178, "past "),
  ("MiddleSeat$Reader", 208, "base time kind end tip "),
  ("MiddleSeat$Reader", 258, "not "),
  ("MiddleSeat$Reader", 256, "and or "),
  ("MiddleSeat$Reader", 217, "seat stop who "),
  ("MiddleSeat$Reader", 219, "sit drive "),
  ("MiddleSeat$Reader", 226, "row "),
  ("MiddleSeat", 153, "no such rider"),
  ("MiddleSeat", 255, "no such journey")]
def stL_ : List Nat := stT_.map (fun q => q.2.2.length)
def stB_ : List (List Int32) := stT_.map (fun q => q.2.2.toList.map (fun c => Int32.ofNat c.toNat))
/-- it stays when links are resolved and what lies below is as it was -/
def sx_ (G : GT_) (x : State → Heap → Prop) : Prop := ∀ (U U' : State) (H H1 : Heap), x U H → U.WarmedH U'.vm → (∀ a : Nat, a < H.size → ¬ ag_ G a → H1[a]? = H[a]?) → x U' H1
def stR_ (G : GT_) (U : State) (H : Heap) : Prop := (vk_S 17 stL_ stB_ (fun j => ga_ G (3000 + j)) (gv_ G) (ag_ G) U H ∧ va_Nw (.methodLinkNest RX1 164 yX11_spreadOf RX11) U ∧ va_Z "java/lang/String" "COMPACT_STRINGS" "Z" (.int 1) (ag_ G) U H ∧ va_Zq "jdk/internal/util/Preconditions" "SIOOBE_FORMATTER" "Ljava/util/function/BiFunction;" (ag_ G) U H ∧ gx_ G U H ∧ sx_ G (gx_ G)) ∧ ∀ (j : Nat) (q : String × Nat × String), stT_[j]? = some q → vk_R q.1 q.2.1 q.2.2 (ga_ G (3000 + j)) U
def ph_ (G : GT_) (h : PH_) (H : Heap) : Prop := va_P (gd_ G) vwCl (ws_ G h) H ∧ va_D (ag_ G) (ws_ G h) ∧ nr_ h
def pr_ (G : GT_) (h : PH_) (U : State) : Prop := ph_ G h U.heap ∧ va_K (gd_ G) vwCl (tys_ G) U ∧ gb_ G ≤ U.heap.size ∧ stR_ G U U.heap
def px_ (G : GT_) (own : String) (cc : ByteArray) (nL : Nat) (rt : Option FieldType) (p : Program) (s : State) (m : MethodId) (args : Array Value) (meth : Method) (c : Code) : Prop :=
  p.tables.exec = Jvm.exec ∧ c.code = cc ∧ c.maxLocals = nL ∧ meth.sig.returnType = rt ∧ meth.locks = false ∧ s.vm.findClass own = some m.cls ∧ (∀ w ∈ gt_, w.before args s = true) ∧ va_K (gd_ G) vwCl (tys_ G) s ∧ gb_ G ≤ s.heap.size ∧ stR_ G s s.heap
/-- locals by their numbers -/
def lh_ (ls : Array Slot) (nL : Nat) (lv : List (Option Value)) : Prop := ls.size = nL ∧ lv_wf ls ∧ lv.length = nL ∧ ∀ (i : Nat) (v : Value), lv[i]? = some (some v) → ls[i]? = some (.val v)
def lp_ (lv : List (Option Value)) : List (Nat × Value) := lv.zipIdx.filterMap (fun q => q.1.map (fun v => (q.2, v)))
theorem lp_mem {lv : List (Option Value)} {i : Nat} {v : Value} : (i, v) ∈ lp_ lv ↔ lv[i]? = some (some v) := by
  unfold lp_
  rw [List.mem_filterMap]
  constructor
  · rintro ⟨⟨o, j⟩, hm, he⟩
    have h1 := List.mem_zipIdx' hm
    cases o with
    | none => simp at he
    | some w =>
      simp at he
      obtain ⟨rfl, rfl⟩ := he
      obtain ⟨h2, h3⟩ := h1
      rw [List.getElem?_eq_getElem h2, ← h3]
  · intro h
    refine ⟨(some v, i), ?_, by simp⟩
    have hl := (List.getElem?_eq_some_iff.mp h).1
    rw [List.mem_iff_getElem?]
    exact ⟨i, by simp [h]⟩
theorem lh_has {ls : Array Slot} {nL : Nat} {lv : List (Option Value)} (h : lh_ ls nL lv) : lv_has ls nL (lp_ lv) := by
  refine ⟨h.1, h.2.1, fun q hq => ?_⟩
  obtain ⟨i, v⟩ := q
  exact h.2.2.2 i v (lp_mem.mp hq)
/-- the entry ahead of i is no long -/
def pv_ (lv : List (Option Value)) (i : Nat) : Bool := i == 0 || (match lv[i - 1]? with | some (some w) => w.category != 2 | _ => true)
theorem lh_st1 {ls : Array Slot} {nL : Nat} {lv : List (Option Value)} {i : Nat} {v : Value} (hlen : lv.length = nL) (hp : pv_ lv i = true) (h : lv_has ls nL ((i, v) :: (lp_ lv).filter (fun q => !(q.1 == i) && !(q.1 + 1 == i && q.2.category == 2)))) : lh_ ls nL (lv.set i (some v)) := by
  refine ⟨h.1, h.2.1, by simp [hlen], fun j w hj => ?_⟩
  rw [List.getElem?_set] at hj
  by_cases hij : i = j
  · rw [if_pos hij] at hj
    subst hij
    split at hj
    · cases hj; exact h.2.2 _ List.mem_cons_self
    · cases hj
  · rw [if_neg hij] at hj
    refine h.2.2 (j, w) (List.mem_cons_of_mem _ (List.mem_filter.mpr ⟨lp_mem.mpr hj, ?_⟩))
    simp only [Bool.and_eq_true, Bool.not_eq_true', beq_eq_false_iff_ne]
    refine ⟨fun e => hij e.symm, ?_⟩
    by_cases hj1 : j + 1 = i
    · have hi1 : i - 1 = j := by omega
      have hi0 : (i == 0) = false := by simp; omega
      unfold pv_ at hp
      rw [hi0, hi1, hj] at hp
      simp at hp
      simp [hp]
    · simp [hj1]
theorem lh_st2 {ls : Array Slot} {nL : Nat} {lv : List (Option Value)} {i : Nat} {v : Value} (hlen : lv.length = nL) (hp : pv_ lv i = true) (h : lv_has ls nL ((i, v) :: (lp_ lv).filter (fun q => !(q.1 == i) && (!(q.1 == i + 1) && !(q.1 + 1 == i && q.2.category == 2))))) : lh_ ls nL ((lv.set i (some v)).set (i + 1) none) := by
  refine ⟨h.1, h.2.1, by simp [hlen], fun j w hj => ?_⟩
  rw [List.getElem?_set] at hj
  by_cases hij : i + 1 = j
  · rw [if_pos hij] at hj
    split at hj <;> cases hj
  rw [if_neg hij, List.getElem?_set] at hj
  by_cases hij2 : i = j
  · rw [if_pos hij2] at hj
    subst hij2
    split at hj
    · cases hj; exact h.2.2 _ List.mem_cons_self
    · cases hj
  · rw [if_neg hij2] at hj
    refine h.2.2 (j, w) (List.mem_cons_of_mem _ (List.mem_filter.mpr ⟨lp_mem.mpr hj, ?_⟩))
    simp only [Bool.and_eq_true, Bool.not_eq_true', beq_eq_false_iff_ne]
    refine ⟨fun e => hij2 e.symm, fun e => hij e.symm, ?_⟩
    by_cases hj1 : j + 1 = i
    · have hi1 : i - 1 = j := by omega
      have hi0 : (i == 0) = false := by simp; omega
      unfold pv_ at hp
      rw [hi0, hi1, hj] at hp
      simp at hp
      simp [hp]
    · simp [hj1]
/-- fewer locals -/
theorem lh_less {ls : Array Slot} {nL : Nat} {lv lv' : List (Option Value)} (h : lh_ ls nL lv) (hl : lv'.length = lv.length) (hs : ∀ (i : Nat) (v : Value), lv'[i]? = some (some v) → lv[i]? = some (some v)) : lh_ ls nL lv' := ⟨h.1, h.2.1, hl.trans h.2.2.1, fun i v hi => h.2.2.2 i v (hs i v hi)⟩
/-- the judgement: with the pure heap h, at pc, with these locals and this stack, the method comes to its end -/
def PW (G : GT_) (own : String) (cc : ByteArray) (nL : Nat) (rt : Option FieldType) (R : Room) (cs ss : Nat) (Zf : List Frame → Array Value → State → State → Prop) (pc : Nat) (lv : List (Option Value)) (st : List Value) (h : PH_) : Prop :=
  ∀ (p : Program) (e : Env) (s : State) (m : MethodId) (args : Array Value) (below : List Frame) (meth : Method) (c : Code) (H : Heap) (locs : List Loc) (ls : Array Slot),
    px_ G own cc nL rt p s m args meth c → ph_ G h H → va_S (ag_ G) s.heap H locs → lh_ ls nL lv →
    W p (gl_ G) e R s m args below meth c H locs cs ss (Zf below args s) (F0 m pc ls st)
def rm_ (d : Nat) : Room := { frames := d, cells := 0, slots := 0, locals := 60 * d }
def zm_ (G : GT_) (Q : Option Value → PH_ → Prop) : List Frame → Array Value → State → State → Prop := fun below args s => MQ below (fun _ st oc t => (∃ (r : Option Value) (h' : PH_), oc = .returned r ∧ Q r h' ∧ ph_ G h' t.heap) ∧ va_F (ag_ G) st t) args s 0 0 (ag_ G)
/-- a method's contract -/
def PC (G : GT_) (y : MethodName) (cc : ByteArray) (mL : Nat) (rt : Option FieldType) (d : Nat) (av : List Value) (h : PH_) (Q : Option Value → PH_ → Prop) : Prop :=
  Met (gl_ G) y (.code y cc mL rt :: gt_) (rm_ d) (va_Pc av (fun U => pr_ G h U)) (fun _ st oc t => (∃ (r : Option Value) (h' : PH_), oc = .returned r ∧ Q r h' ∧ ph_ G h' t.heap) ∧ va_F (ag_ G) st t) 0 0 (ag_ G)
abbrev qi_ (Q : Int → PH_ → Prop) : Option Value → PH_ → Prop := fun r h' => ∃ z : Int, r = some (ii_ z) ∧ ir_ z ∧ Q z h'
abbrev ql_ (Q : Int → PH_ → Prop) : Option Value → PH_ → Prop := fun r h' => ∃ z : Int, r = some (ll_ z) ∧ lr_ z ∧ Q z h'
abbrev qv_ (Q : PH_ → Prop) : Option Value → PH_ → Prop := fun r h' => r = none ∧ Q h'
/-- the locals at a method's entry -/
def la_ : List Value → List (Option Value)
  | [] => []
  | v :: vs => if v.category = 2 then some v :: none :: la_ vs else some v :: la_ vs
theorem la_args : ∀ (vs : List Value) (k : Nat) (pre : List (Option Value)), pre.length = k → ∀ (i : Nat) (v : Value), k ≤ i → (pre ++ la_ vs)[i]? = some (some v) → (i, v) ∈ lv_args k vs
  | [], k, pre, hk, i, v, hi, h => by
    simp [la_] at h
    obtain ⟨h1, -⟩ := List.getElem?_eq_some_iff.mp h
    omega
  | w :: vs, k, pre, hk, i, v, hi, h => by
    unfold la_ at h
    unfold lv_args
    by_cases hc : w.category = 2
    · rw [if_pos hc] at h ⊢
      by_cases e : i = k
      · subst e
        rw [List.getElem?_append_right (by omega)] at h
        simp [hk] at h
        subst h
        exact List.mem_cons_self
      · refine List.mem_cons_of_mem _ (la_args vs (k + 2) (pre ++ [some w, none]) (by simp [hk]) i v ?_ (by simpa using h))
        by_cases e2 : i = k + 1
        · subst e2
          rw [List.getElem?_append_right (by omega)] at h
          simp [hk] at h
        · omega
    · rw [if_neg hc] at h ⊢
      by_cases e : i = k
      · subst e
        rw [List.getElem?_append_right (by omega)] at h
        simp [hk] at h
        subst h
        exact List.mem_cons_self
      · exact List.mem_cons_of_mem _ (la_args vs (k + 1) (pre ++ [some w]) (by simp [hk]) i v (by omega) (by simpa using h))
theorem stR_moved {G : GT_} {U U' : State} {H H1 : Heap} (h : stR_ G U H) (hW : U.WarmedH U'.vm) (hq : ∀ a : Nat, a < H.size → ¬ ag_ G a → H1[a]? = H[a]?) : stR_ G U' H1 :=
  ⟨⟨(vk_S.moved hW.alike h.1.1).kept hq, va_Nw.warmM hW h.1.2.1, (va_Z.moved hW.alike h.1.2.2.1).kept hq, (va_Zq.moved hW.alike h.1.2.2.2.1).kept hq, h.1.2.2.2.2.2 U U' H H1 h.1.2.2.2.2.1 hW hq, h.1.2.2.2.2.2⟩, fun j q hj => (h.2 j q hj).warm hW⟩
/-- a contract out of its body -/
theorem PC.of {G : GT_} {y : MethodName} {cc : ByteArray} {mL : Nat} {rt : Option FieldType} {d : Nat} {av : List Value} {h : PH_} {Q : Option Value → PH_ → Prop} {lv : List (Option Value)}
    (hy : plainName y.cls = true) (hn : (lg_sl av).length ≤ mL) (hl : la_ av ++ List.replicate (mL - (la_ av).length) none = lv) (hlen : lv.length = mL)
    (k : PW G y.cls cc mL rt (rm_ d) 0 0 (zm_ G Q) 0 lv [] h) : PC G y cc mL rt d av h Q := by
  refine Met.ofW (cc := cc) (maxL := mL) (ret := rt) hy rfl ?_
  intro p e s m args below meth c s₁ B hml hv
  obtain ⟨rfl, hP, hK, hb, hS⟩ := hv
  have hts0 := atoms_spec (ws := .code y cc mL rt :: gt_) B.pre
  have hown : s.vm.findClass y.cls = some m.cls := findClass_of_methodNamed B.named
  have hle := lv_entry av (n := mL) hn
  rw [lg_entry_eq]
  generalize (lg_sl av ++ List.replicate (mL - (lg_sl av).length) Slot.unset).toArray = ls at hle ⊢
  refine k p e s m _ below meth c s.heap [] ls ⟨B.exec, B.bytes, hml, B.returns, B.notSynchronized, hown, fun w hw => hts0 w (List.mem_cons_of_mem _ hw), hK, hb, hS⟩ hP va_S.rf ⟨hle.1, hle.2.1, hlen, fun i v hi => ?_⟩
  refine hle.2.2 (i, v) (la_args av 0 [] rfl i v (Nat.zero_le _) ?_)
  rw [← hl] at hi
  by_cases hb1 : i < (la_ av).length
  · rw [List.getElem?_append_left hb1] at hi
    simpa using hi
  · rw [List.getElem?_append_right (by omega)] at hi
    have := List.mem_of_getElem? hi
    simp at this
