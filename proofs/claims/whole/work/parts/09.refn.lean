section PWW
variable {G : GT_} {own : String} {cc : ByteArray} {nL : Nat} {rt : Option FieldType} {R : Room} {cs ss : Nat} {Zf : List Frame → Array Value → State → State → Prop} {pc : Nat} {lv : List (Option Value)} {st : List Value} {h : PH_}
theorem pw_gI {idx o c k : Nat} {x : Int} {d : String} {fin : Bool} (hd : decode cc pc = .ok (.getfield idx, 3)) (fa : fa_ own idx c k d fin) (ho : o ∈ gi_ G) (hk : kd_ o = c + 10) (ht : (ft_ c)[k]? = some 0) (hx : (k : Int) = x)
    (kk : ir_ (h o x) → PW G own cc nL rt R cs ss Zf (pc + 3) lv (ii_ (h o x) :: st) h) : PW G own cc nL rt R cs ss Zf pc lv (rr_ G o :: st) h := by
  subst hx; exact pw_getI hd fa ho hk ht kk
theorem pw_gJ {idx o c k : Nat} {x : Int} {d : String} {fin : Bool} (hd : decode cc pc = .ok (.getfield idx, 3)) (fa : fa_ own idx c k d fin) (ho : o ∈ gi_ G) (hk : kd_ o = c + 10) (ht : (ft_ c)[k]? = some 1) (hx : (k : Int) = x)
    (kk : lr_ (h o x) → PW G own cc nL rt R cs ss Zf (pc + 3) lv (ll_ (h o x) :: st) h) : PW G own cc nL rt R cs ss Zf pc lv (rr_ G o :: st) h := by
  subst hx; exact pw_getJ hd fa ho hk ht kk
theorem pw_gD {idx o c k r : Nat} {x : Int} {d : String} {fin : Bool} (hd : decode cc pc = .ok (.getfield idx, 3)) (fa : fa_ own idx c k d fin) (ho : o ∈ gi_ G) (hk : kd_ o = c + 10) (ht : (ft_ c)[k]? = some 3) (hx : (k : Int) = x) (hr : h o x = (r : Int))
    (kk : PW G own cc nL rt R cs ss Zf (pc + 3) lv (rr_ G r :: st) h) : PW G own cc nL rt R cs ss Zf pc lv (rr_ G o :: st) h := by
  subst hx; exact pw_getD hd fa ho hk ht hr kk
theorem pw_pI {idx o c k : Nat} {x z : Int} (hd : decode cc pc = .ok (.putfield idx, 3)) (fa : fa_ own idx c k "I" false) (ho : o ∈ gi_ G) (hk : kd_ o = c + 10) (ht : (ft_ c)[k]? = some 0) (hx : (k : Int) = x) (hz : ir_ z)
    (kk : PW G own cc nL rt R cs ss Zf (pc + 3) lv st (up_ h o x z)) : PW G own cc nL rt R cs ss Zf pc lv (ii_ z :: rr_ G o :: st) h := by
  subst hx; exact pw_putI hd fa ho hk ht hz kk
theorem pw_pZ {idx o c k : Nat} {x z : Int} (hd : decode cc pc = .ok (.putfield idx, 3)) (fa : fa_ own idx c k "Z" false) (ho : o ∈ gi_ G) (hk : kd_ o = c + 10) (ht : (ft_ c)[k]? = some 0) (hx : (k : Int) = x) (hz : z = 0 ∨ z = 1)
    (kk : PW G own cc nL rt R cs ss Zf (pc + 3) lv st (up_ h o x z)) : PW G own cc nL rt R cs ss Zf pc lv (ii_ z :: rr_ G o :: st) h := by
  subst hx; exact pw_putZ hd fa ho hk ht hz kk
theorem pw_pJ {idx o c k : Nat} {x z : Int} (hd : decode cc pc = .ok (.putfield idx, 3)) (fa : fa_ own idx c k "J" false) (ho : o ∈ gi_ G) (hk : kd_ o = c + 10) (ht : (ft_ c)[k]? = some 1) (hx : (k : Int) = x) (hz : lr_ z)
    (kk : PW G own cc nL rt R cs ss Zf (pc + 3) lv st (up_ h o x z)) : PW G own cc nL rt R cs ss Zf pc lv (ll_ z :: rr_ G o :: st) h := by
  subst hx; exact pw_putJ hd fa ho hk ht hz kk
theorem pw_pD {idx o c k r : Nat} {x : Int} {nm d : String} (hd : decode cc pc = .ok (.putfield idx, 3)) (fa : fa_ own idx c k d false) (ho : o ∈ gi_ G) (hk : kd_ o = c + 10) (ht : (ft_ c)[k]? = some 3) (hx : (k : Int) = x) (hp : parseFieldDescriptor d = some (.object nm)) (hz : r < 4000)
    (kk : PW G own cc nL rt R cs ss Zf (pc + 3) lv st (up_ h o x (r : Int))) : PW G own cc nL rt R cs ss Zf pc lv (rr_ G r :: rr_ G o :: st) h := by
  subst hx; exact pw_putD hd fa ho hk ht hp hz kk
end PWW
abbrev mo_ : Nat := 1000
theorem k_mo_ : kd_ mo_ = 12 + 10 := by decide +kernel
def okM_ (G : GT_) : Prop := ∀ i, 1000 ≤ i → i < 1035 → i ∈ gi_ G
theorem im_mo_ {G : GT_} (hM : okM_ G) : mo_ ∈ gi_ G := hM _ (by decide) (by decide)
abbrev mTape : Nat := 1001
theorem k_mTape : kd_ mTape = 0 := by decide +kernel
theorem l_mTape : ln_ mTape = 1000 := by decide +kernel
theorem im_mTape {G : GT_} (hM : okM_ G) : mTape ∈ gi_ G := hM _ (by decide) (by decide)
theorem fr_mTape : fr_ mo_ 12 1 = mTape := by decide +kernel
abbrev mSort : Nat := 1002
theorem k_mSort : kd_ mSort = 0 := by decide +kernel
theorem l_mSort : ln_ mSort = 1002 := by decide +kernel
theorem im_mSort {G : GT_} (hM : okM_ G) : mSort ∈ gi_ G := hM _ (by decide) (by decide)
theorem fr_mSort : fr_ mo_ 12 4 = mSort := by decide +kernel
abbrev mPlace : Nat := 1003
theorem k_mPlace : kd_ mPlace = 0 := by decide +kernel
theorem l_mPlace : ln_ mPlace = 1002 := by decide +kernel
theorem im_mPlace {G : GT_} (hM : okM_ G) : mPlace ∈ gi_ G := hM _ (by decide) (by decide)
theorem fr_mPlace : fr_ mo_ 12 5 = mPlace := by decide +kernel
abbrev mValue : Nat := 1004
theorem k_mValue : kd_ mValue = 1 := by decide +kernel
theorem l_mValue : ln_ mValue = 1002 := by decide +kernel
theorem im_mValue {G : GT_} (hM : okM_ G) : mValue ∈ gi_ G := hM _ (by decide) (by decide)
theorem fr_mValue : fr_ mo_ 12 6 = mValue := by decide +kernel
abbrev mWords : Nat := 1005
theorem k_mWords : kd_ mWords = 1 := by decide +kernel
theorem l_mWords : ln_ mWords = 30 := by decide +kernel
theorem im_mWords {G : GT_} (hM : okM_ G) : mWords ∈ gi_ G := hM _ (by decide) (by decide)
theorem fr_mWords : fr_ mo_ 12 9 = mWords := by decide +kernel
abbrev mRoads : Nat := 1006
theorem k_mRoads : kd_ mRoads = 0 := by decide +kernel
theorem l_mRoads : ln_ mRoads = 160 := by decide +kernel
theorem im_mRoads {G : GT_} (hM : okM_ G) : mRoads ∈ gi_ G := hM _ (by decide) (by decide)
theorem fr_mRoads : fr_ mo_ 12 10 = mRoads := by decide +kernel
abbrev mOp : Nat := 1007
theorem k_mOp : kd_ mOp = 0 := by decide +kernel
theorem l_mOp : ln_ mOp = 2200 := by decide +kernel
theorem im_mOp {G : GT_} (hM : okM_ G) : mOp ∈ gi_ G := hM _ (by decide) (by decide)
theorem fr_mOp : fr_ mo_ 12 11 = mOp := by decide +kernel
abbrev mArg : Nat := 1008
theorem k_mArg : kd_ mArg = 0 := by decide +kernel
theorem l_mArg : ln_ mArg = 2200 := by decide +kernel
theorem im_mArg {G : GT_} (hM : okM_ G) : mArg ∈ gi_ G := hM _ (by decide) (by decide)
theorem fr_mArg : fr_ mo_ 12 12 = mArg := by decide +kernel
abbrev mNames : Nat := 1009
theorem k_mNames : kd_ mNames = 1 := by decide +kernel
theorem l_mNames : ln_ mNames = 8 := by decide +kernel
theorem im_mNames {G : GT_} (hM : okM_ G) : mNames ∈ gi_ G := hM _ (by decide) (by decide)
theorem fr_mNames : fr_ mo_ 12 14 = mNames := by decide +kernel
abbrev mReadNames : Nat := 1010
theorem k_mReadNames : kd_ mReadNames = 1 := by decide +kernel
theorem l_mReadNames : ln_ mReadNames = 8 := by decide +kernel
theorem im_mReadNames {G : GT_} (hM : okM_ G) : mReadNames ∈ gi_ G := hM _ (by decide) (by decide)
theorem fr_mReadNames : fr_ mo_ 12 15 = mReadNames := by decide +kernel
abbrev mNameOf : Nat := 1011
theorem k_mNameOf : kd_ mNameOf = 0 := by decide +kernel
theorem l_mNameOf : ln_ mNameOf = 8 := by decide +kernel
theorem im_mNameOf {G : GT_} (hM : okM_ G) : mNameOf ∈ gi_ G := hM _ (by decide) (by decide)
theorem fr_mNameOf : fr_ mo_ 12 16 = mNameOf := by decide +kernel
abbrev mReadNameOf : Nat := 1012
theorem k_mReadNameOf : kd_ mReadNameOf = 0 := by decide +kernel
theorem l_mReadNameOf : ln_ mReadNameOf = 8 := by decide +kernel
theorem im_mReadNameOf {G : GT_} (hM : okM_ G) : mReadNameOf ∈ gi_ G := hM _ (by decide) (by decide)
theorem fr_mReadNameOf : fr_ mo_ 12 17 = mReadNameOf := by decide +kernel
abbrev mLines : Nat := 1013
theorem k_mLines : kd_ mLines = 0 := by decide +kernel
theorem l_mLines : ln_ mLines = 90 := by decide +kernel
theorem im_mLines {G : GT_} (hM : okM_ G) : mLines ∈ gi_ G := hM _ (by decide) (by decide)
theorem fr_mLines : fr_ mo_ 12 23 = mLines := by decide +kernel
abbrev mReadShares : Nat := 1014
theorem k_mReadShares : kd_ mReadShares = 0 := by decide +kernel
theorem l_mReadShares : ln_ mReadShares = 16 := by decide +kernel
theorem im_mReadShares {G : GT_} (hM : okM_ G) : mReadShares ∈ gi_ G := hM _ (by decide) (by decide)
theorem fr_mReadShares : fr_ mo_ 12 24 = mReadShares := by decide +kernel
abbrev mFacts : Nat := 1015
theorem k_mFacts : kd_ mFacts = 0 := by decide +kernel
theorem l_mFacts : ln_ mFacts = 5 := by decide +kernel
theorem im_mFacts {G : GT_} (hM : okM_ G) : mFacts ∈ gi_ G := hM _ (by decide) (by decide)
theorem fr_mFacts : fr_ mo_ 12 25 = mFacts := by decide +kernel
abbrev mPile : Nat := 1016
theorem k_mPile : kd_ mPile = 0 := by decide +kernel
theorem l_mPile : ln_ mPile = 1100 := by decide +kernel
theorem im_mPile {G : GT_} (hM : okM_ G) : mPile ∈ gi_ G := hM _ (by decide) (by decide)
theorem fr_mPile : fr_ mo_ 12 26 = mPile := by decide +kernel
abbrev mState : Nat := 1017
theorem k_mState : kd_ mState = 0 := by decide +kernel
theorem l_mState : ln_ mState = 1760 := by decide +kernel
theorem im_mState {G : GT_} (hM : okM_ G) : mState ∈ gi_ G := hM _ (by decide) (by decide)
theorem fr_mState : fr_ mo_ 12 27 = mState := by decide +kernel
abbrev mIsMarked : Nat := 1018
theorem k_mIsMarked : kd_ mIsMarked = 2 := by decide +kernel
theorem l_mIsMarked : ln_ mIsMarked = 4 := by decide +kernel
theorem im_mIsMarked {G : GT_} (hM : okM_ G) : mIsMarked ∈ gi_ G := hM _ (by decide) (by decide)
theorem fr_mIsMarked : fr_ mo_ 12 29 = mIsMarked := by decide +kernel
abbrev mSits : Nat := 1019
theorem k_mSits : kd_ mSits = 0 := by decide +kernel
theorem l_mSits : ln_ mSits = 4 := by decide +kernel
theorem im_mSits {G : GT_} (hM : okM_ G) : mSits ∈ gi_ G := hM _ (by decide) (by decide)
theorem fr_mSits : fr_ mo_ 12 30 = mSits := by decide +kernel
abbrev mLawfuls : Nat := 1020
theorem k_mLawfuls : kd_ mLawfuls = 0 := by decide +kernel
theorem l_mLawfuls : ln_ mLawfuls = 24 := by decide +kernel
theorem im_mLawfuls {G : GT_} (hM : okM_ G) : mLawfuls ∈ gi_ G := hM _ (by decide) (by decide)
theorem fr_mLawfuls : fr_ mo_ 12 31 = mLawfuls := by decide +kernel
abbrev mWorths : Nat := 1021
theorem k_mWorths : kd_ mWorths = 0 := by decide +kernel
theorem l_mWorths : ln_ mWorths = 384 := by decide +kernel
theorem im_mWorths {G : GT_} (hM : okM_ G) : mWorths ∈ gi_ G := hM _ (by decide) (by decide)
theorem fr_mWorths : fr_ mo_ 12 33 = mWorths := by decide +kernel
abbrev mChanges : Nat := 1022
theorem k_mChanges : kd_ mChanges = 0 := by decide +kernel
theorem l_mChanges : ln_ mChanges = 576 := by decide +kernel
theorem im_mChanges {G : GT_} (hM : okM_ G) : mChanges ∈ gi_ G := hM _ (by decide) (by decide)
theorem fr_mChanges : fr_ mo_ 12 34 = mChanges := by decide +kernel
abbrev mRow : Nat := 1023
theorem k_mRow : kd_ mRow = 0 := by decide +kernel
theorem l_mRow : ln_ mRow = 5 := by decide +kernel
theorem im_mRow {G : GT_} (hM : okM_ G) : mRow ∈ gi_ G := hM _ (by decide) (by decide)
theorem fr_mRow : fr_ mo_ 12 35 = mRow := by decide +kernel
abbrev mTotals : Nat := 1024
theorem k_mTotals : kd_ mTotals = 0 := by decide +kernel
theorem l_mTotals : ln_ mTotals = 20 := by decide +kernel
theorem im_mTotals {G : GT_} (hM : okM_ G) : mTotals ∈ gi_ G := hM _ (by decide) (by decide)
theorem fr_mTotals : fr_ mo_ 12 36 = mTotals := by decide +kernel
abbrev mMoves : Nat := 1025
theorem k_mMoves : kd_ mMoves = 0 := by decide +kernel
theorem l_mMoves : ln_ mMoves = 5 := by decide +kernel
theorem im_mMoves {G : GT_} (hM : okM_ G) : mMoves ∈ gi_ G := hM _ (by decide) (by decide)
theorem fr_mMoves : fr_ mo_ 12 37 = mMoves := by decide +kernel
abbrev mPasts : Nat := 1026
theorem k_mPasts : kd_ mPasts = 0 := by decide +kernel
theorem l_mPasts : ln_ mPasts = 4 := by decide +kernel
theorem im_mPasts {G : GT_} (hM : okM_ G) : mPasts ∈ gi_ G := hM _ (by decide) (by decide)
theorem fr_mPasts : fr_ mo_ 12 38 = mPasts := by decide +kernel
abbrev mBestRow : Nat := 1027
theorem k_mBestRow : kd_ mBestRow = 0 := by decide +kernel
theorem l_mBestRow : ln_ mBestRow = 5 := by decide +kernel
theorem im_mBestRow {G : GT_} (hM : okM_ G) : mBestRow ∈ gi_ G := hM _ (by decide) (by decide)
theorem fr_mBestRow : fr_ mo_ 12 44 = mBestRow := by decide +kernel
abbrev mBestTotals : Nat := 1028
theorem k_mBestTotals : kd_ mBestTotals = 0 := by decide +kernel
theorem l_mBestTotals : ln_ mBestTotals = 4 := by decide +kernel
theorem im_mBestTotals {G : GT_} (hM : okM_ G) : mBestTotals ∈ gi_ G := hM _ (by decide) (by decide)
theorem fr_mBestTotals : fr_ mo_ 12 45 = mBestTotals := by decide +kernel
abbrev mLeft : Nat := 1029
theorem k_mLeft : kd_ mLeft = 0 := by decide +kernel
theorem l_mLeft : ln_ mLeft = 16 := by decide +kernel
theorem im_mLeft {G : GT_} (hM : okM_ G) : mLeft ∈ gi_ G := hM _ (by decide) (by decide)
theorem fr_mLeft : fr_ mo_ 12 46 = mLeft := by decide +kernel
abbrev mPieces : Nat := 1030
theorem k_mPieces : kd_ mPieces = 0 := by decide +kernel
theorem l_mPieces : ln_ mPieces = 40 := by decide +kernel
theorem im_mPieces {G : GT_} (hM : okM_ G) : mPieces ∈ gi_ G := hM _ (by decide) (by decide)
theorem fr_mPieces : fr_ mo_ 12 47 = mPieces := by decide +kernel
abbrev mPrices : Nat := 1031
theorem k_mPrices : kd_ mPrices = 0 := by decide +kernel
theorem l_mPrices : ln_ mPrices = 4 := by decide +kernel
theorem im_mPrices {G : GT_} (hM : okM_ G) : mPrices ∈ gi_ G := hM _ (by decide) (by decide)
theorem fr_mPrices : fr_ mo_ 12 49 = mPrices := by decide +kernel
abbrev mHas : Nat := 1032
theorem k_mHas : kd_ mHas = 0 := by decide +kernel
theorem l_mHas : ln_ mHas = 4 := by decide +kernel
theorem im_mHas {G : GT_} (hM : okM_ G) : mHas ∈ gi_ G := hM _ (by decide) (by decide)
theorem fr_mHas : fr_ mo_ 12 50 = mHas := by decide +kernel
abbrev mCalledPlans : Nat := 1033
theorem k_mCalledPlans : kd_ mCalledPlans = 0 := by decide +kernel
theorem l_mCalledPlans : ln_ mCalledPlans = 5 := by decide +kernel
theorem im_mCalledPlans {G : GT_} (hM : okM_ G) : mCalledPlans ∈ gi_ G := hM _ (by decide) (by decide)
theorem fr_mCalledPlans : fr_ mo_ 12 53 = mCalledPlans := by decide +kernel
abbrev mSeatsThen : Nat := 1034
theorem k_mSeatsThen : kd_ mSeatsThen = 0 := by decide +kernel
theorem l_mSeatsThen : ln_ mSeatsThen = 4 := by decide +kernel
theorem im_mSeatsThen {G : GT_} (hM : okM_ G) : mSeatsThen ∈ gi_ G := hM _ (by decide) (by decide)
theorem fr_mSeatsThen : fr_ mo_ 12 54 = mSeatsThen := by decide +kernel
