abbrev rmX8_in : Room := { frames := 0, cells := 0, slots := 0, locals := 0 }
set_option maxHeartbeats 4000000 in
set_option maxRecDepth 100000 in
theorem c_X8_in (l : Launch) (D : va_G) (k : Nat → ClassId) (sz : Nat) (p1 : Int64) (p2 : Int64) (p3 : Int64) (r_ : Int32) (hf : f_X8_in p1 p2 p3 = some r_) : mR l yX8_in wsX8_in rmX8_in D k sz [.long p1, .long p2, .long p3] ([]) ([]) (some (.int r_)) := by
  refine mR_of (cc := cX8_in) (maxL := 6) (ret := some .boolean) (by decide) rfl (Nat.le_of_ble_eq_true rfl) [(0, .long p1), (2, .long p2), (4, .long p3)] rfl ?_
  intro p e s m below meth c A ls args Q cx hK hA hw hl hQ
  have fx := cx.1
  obtain ⟨⟨hx, hb, hml, hown, hts⟩, hr, hlocks⟩ := cx
  have h := hf
  unfold f_X8_in at h
  clear hf
  refine lv_lload_n hx hb dX8_in_0 rfl (lv_at hl 0 rfl) ?_
  refine lv_lload_n hx hb dX8_in_1 rfl (lv_at hl 1 rfl) ?_
  refine W.lcmp hx hb dX8_in_2 ?_
  refine kb_if_lt (tgt := 17) hx hb dX8_in_3 (by decide) h (fun c_3 h => ?_) (fun c_3 h => ?_)
  · refine lv_iconst (v := 0) hx hb dX8_in_17 (by decide) ?_
    cases h
    exact k_zret hx hb hr hlocks hw (by decide) rfl dX8_in_18 hQ
  · refine lv_lload_n hx hb dX8_in_6 rfl (lv_at hl 0 rfl) ?_
    refine lv_lload hx hb dX8_in_7 (lv_at hl 2 rfl) ?_
    refine W.lcmp hx hb dX8_in_9 ?_
    refine kb_if_gt (tgt := 17) hx hb dX8_in_10 (by decide) h (fun c_10 h => ?_) (fun c_10 h => ?_)
    · refine lv_iconst (v := 0) hx hb dX8_in_17 (by decide) ?_
      cases h
      exact k_zret hx hb hr hlocks hw (by decide) rfl dX8_in_18 hQ
    · refine lv_iconst (v := 1) hx hb dX8_in_13 (by decide) ?_
      refine lv_goto (tgt := 18) hx hb dX8_in_14 (by decide) ?_
      cases h
      exact k_zret hx hb hr hlocks hw (by decide) rfl dX8_in_18 hQ
abbrev rmX8_isOne : Room := { frames := 1, cells := 0, slots := 0, locals := 25 }
set_option maxHeartbeats 4000000 in
set_option maxRecDepth 100000 in
theorem c_X8_isOne (l : Launch) (D : va_G) (k : Nat → ClassId) (mh mrSt mrNow mrIsKept mrDraft mrTape mrRow mrRode mrWays mrLanes mrSizes mrCells mrBefore : Nat) (sz : Nat) (mSt : (Nat → Int32)) (mNow : (Nat → Int32)) (mIsKept : (Nat → Int32)) (mPeople : Int32) (mDraft : (Nat → Int32)) (mDPeople : Int32) (mHasDry : Int32) (mToldDebts : Int32) (mHighest : Int32) (mTape : (Nat → Int32)) (mTaped : Int32) (mPos : Int32) (mBegun : Int32) (mSort : Int32) (mValue : Int32) (mFault : Int32) (mWrongAt : Int32) (mPaid : Int32) (mRow : (Nat → Int32)) (mRingMuch : Int32) (mRideSum : Int64) (mOwedSum : Int64) (mAllWays : Int64) (mRode : (Nat → Int32)) (mWays : (Nat → Int32)) (mLanes : (Nat → Int32)) (mSizes : (Nat → Int32)) (mCells : (Nat → Int32)) (mTorn : Int32) (mBefore : (Nat → Int32)) (p1 : Int32) (r_ : Int32) (hf : f_X8_isOne mPeople p1 = some r_) : mR l yX8_isOne wsX8_isOne rmX8_isOne D k sz [.ref mh, .int p1] (wX8 k mh mrSt mrNow mrIsKept mrDraft mrTape mrRow mrRode mrWays mrLanes mrSizes mrCells mrBefore mSt mNow mIsKept mPeople mDraft mDPeople mHasDry mToldDebts mHighest mTape mTaped mPos mBegun mSort mValue mFault mWrongAt mPaid mRow mRingMuch mRideSum mOwedSum mAllWays mRode mWays mLanes mSizes mCells mTorn mBefore) (wX8 k mh mrSt mrNow mrIsKept mrDraft mrTape mrRow mrRode mrWays mrLanes mrSizes mrCells mrBefore mSt mNow mIsKept mPeople mDraft mDPeople mHasDry mToldDebts mHighest mTape mTaped mPos mBegun mSort mValue mFault mWrongAt mPaid mRow mRingMuch mRideSum mOwedSum mAllWays mRode mWays mLanes mSizes mCells mTorn mBefore) (some (.int r_)) := by
  refine mR_of (cc := cX8_isOne) (maxL := 2) (ret := some .boolean) (by decide) rfl (Nat.le_of_ble_eq_true rfl) [(0, .ref mh), (1, .int p1)] rfl ?_
  intro p e s m below meth c A ls args Q cx hK hA hw hl hQ
  have fx := cx.1
  obtain ⟨⟨hx, hb, hml, hown, hts⟩, hr, hlocks⟩ := cx
  have hinX8 : ∀ w ∈ wsX80, w ∈ wsX8_isOne := fun w h => List.mem_cons_of_mem _ (List.mem_append_right _ h)
  have q_1 := hts (.fieldLink RX8 67 "DebtRidesModel" "people" "I") (List.mem_of_getElem? (i := 1) rfl)
  have h := hf
  unfold f_X8_isOne at h
  clear hf
  refine lv_iload_n hx hb dX8_isOne_0 rfl (lv_at hl 1 rfl) ?_
  refine lv_i2l hx hb dX8_isOne_1 rfl ?_
  refine lv_lconst (v := 0) hx hb dX8_isOne_2 rfl ?_
  refine lv_aload_n hx hb dX8_isOne_3 rfl (lv_at hl 0 rfl) ?_
  refine va_get (ci := 8) (v := .int mPeople) (C := RX8) (T := TX8) (N := 30) hx hb hts hinX8 hown hK.1 hw.1 0 rfl rfl 3 (by decide) q_1 (fun _ h9 => h9) rfl dX8_isOne_4 ?_
  refine lv_iconst (v := 1) hx hb dX8_isOne_7 (by decide) ?_
  refine lv_isub hx hb dX8_isOne_8 ?_
  refine lv_i2l hx hb dX8_isOne_9 rfl ?_
  obtain ⟨r_1, hf, h⟩ := b1_inv h
  refine k_callS (b := 0) (C := "") (host := "") fx hK hA hw (c_X8_in l D k _ p1.toInt64 0 ((mPeople - 1).toInt64) r_1 hf) (va_cwS 3 hts gX8_isOne_X8_in rfl rfl rfl (by decide +kernel) ⟨by decide, by decide⟩) (As := [.long p1.toInt64, .long 0, .long ((mPeople - 1).toInt64)]) (wr := [(mh, .inr (8, [.ref mrSt, .ref mrNow, .ref mrIsKept, .int mPeople, .ref mrDraft, .int mDPeople, .int mHasDry, .int mToldDebts, .int mHighest, .ref mrTape, .int mTaped, .int mPos, .int mBegun, .int mSort, .int mValue, .int mFault, .int mWrongAt, .int mPaid, .ref mrRow, .int mRingMuch, .long mRideSum, .long mOwedSum, .long mAllWays, .ref mrRode, .ref mrWays, .ref mrLanes, .ref mrSizes, .ref mrCells, .int mTorn, .ref mrBefore])), (mrSt, .inl (k 0, 183, .inl mSt)), (mrNow, .inl (k 0, 61, .inl mNow)), (mrIsKept, .inl (k 1, 2, .inl mIsKept)), (mrDraft, .inl (k 0, 61, .inl mDraft)), (mrTape, .inl (k 0, 160, .inl mTape)), (mrRow, .inl (k 0, 5, .inl mRow)), (mrRode, .inl (k 0, 31, .inl mRode)), (mrWays, .inl (k 0, 31, .inl mWays)), (mrLanes, .inl (k 0, 4, .inl mLanes)), (mrSizes, .inl (k 0, 4, .inl mSizes)), (mrCells, .inl (k 0, 160, .inl mCells)), (mrBefore, .inl (k 0, 61, .inl mBefore))]) (ws' := wX8 k mh mrSt mrNow mrIsKept mrDraft mrTape mrRow mrRode mrWays mrLanes mrSizes mrCells mrBefore mSt mNow mIsKept mPeople mDraft mDPeople mHasDry mToldDebts mHighest mTape mTaped mPos mBegun mSort mValue mFault mWrongAt mPaid mRow mRingMuch mRideSum mOwedSum mAllWays mRode mWays mLanes mSizes mCells mTorn mBefore) [] [0, 1, 2, 3, 4, 5, 6, 7, 8, 9, 10, 11, 12] [0, 1, 2, 3, 4, 5, 6, 7, 8, 9, 10, 11, 12] rfl rfl (by decide) (by decide) (by decide) rfl (by decide) [] rfl hl.1 rfl (Nat.le_of_ble_eq_true rfl) dX8_isOne_10 ⟨by decide, by decide⟩ (fun H locs (hw : Wd D A s.heap H locs (wX8 k mh mrSt mrNow mrIsKept mrDraft mrTape mrRow mrRode mrWays mrLanes mrSizes mrCells mrBefore mSt mNow mIsKept mPeople mDraft mDPeople mHasDry mToldDebts mHighest mTape mTaped mPos mBegun mSort mValue mFault mWrongAt mPaid mRow mRingMuch mRideSum mOwedSum mAllWays mRode mWays mLanes mSizes mCells mTorn mBefore)) => ?_)
  refine W.eq (g2 := F0 m 13 ls ([.int r_1])) rfl ?_
  obtain ⟨z_2, hz, h⟩ := b1_inv h
  obtain ⟨hz1, hz2⟩ := bz_inv hz
  refine k_lit hz1.symm ?_
  rw [← hz1] at hz2
  cases h
  exact k_zret hx hb hr hlocks hw hz2 rfl dX8_isOne_13 hQ
abbrev rmX8_isFar : Room := { frames := 1, cells := 0, slots := 0, locals := 25 }
set_option maxHeartbeats 4000000 in
set_option maxRecDepth 100000 in
theorem c_X8_isFar (l : Launch) (D : va_G) (k : Nat → ClassId) (sz : Nat) (p1 : Int32) (r_ : Int32) (hf : f_X8_isFar p1 = some r_) : mR l yX8_isFar wsX8_isFar rmX8_isFar D k sz [.int p1] ([]) ([]) (some (.int r_)) := by
  refine mR_of (cc := cX8_isFar) (maxL := 1) (ret := some .boolean) (by decide) rfl (Nat.le_of_ble_eq_true rfl) [(0, .int p1)] rfl ?_
  intro p e s m below meth c A ls args Q cx hK hA hw hl hQ
  have fx := cx.1
  obtain ⟨⟨hx, hb, hml, hown, hts⟩, hr, hlocks⟩ := cx
  have q_1 := hts (.constantLong RX8 229 (60)) (List.mem_of_getElem? (i := 1) rfl)
  have h := hf
  unfold f_X8_isFar at h
  clear hf
  refine lv_iload_n hx hb dX8_isFar_0 rfl (lv_at hl 0 rfl) ?_
  refine lv_i2l hx hb dX8_isFar_1 rfl ?_
  refine lv_lconst (v := 0) hx hb dX8_isFar_2 rfl ?_
  refine lv_ldc2 (v := 60) hx hb hown q_1 dX8_isFar_3 ?_
  obtain ⟨r_1, hf, h⟩ := b1_inv h
  refine k_callS (b := 0) (C := "") (host := "") fx hK hA hw (c_X8_in l D k _ p1.toInt64 0 60 r_1 hf) (va_cwS 3 hts gX8_isFar_X8_in rfl rfl rfl (by decide +kernel) ⟨by decide, by decide⟩) (As := [.long p1.toInt64, .long 0, .long 60]) (wr := []) (ws' := []) [] [] [] rfl rfl (by decide) (by decide) (by decide) rfl (by decide) [] rfl hl.1 rfl (Nat.le_of_ble_eq_true rfl) dX8_isFar_6 ⟨by decide, by decide⟩ (fun H locs (hw : Wd D A s.heap H locs ([])) => ?_)
  refine W.eq (g2 := F0 m 9 ls ([.int r_1])) rfl ?_
  obtain ⟨z_2, hz, h⟩ := b1_inv h
  obtain ⟨hz1, hz2⟩ := bz_inv hz
  refine k_lit hz1.symm ?_
  rw [← hz1] at hz2
  cases h
  exact k_zret hx hb hr hlocks hw hz2 rfl dX8_isFar_9 hQ
abbrev rmX8_starts : Room := { frames := 0, cells := 0, slots := 0, locals := 0 }
set_option maxHeartbeats 4000000 in
set_option maxRecDepth 100000 in
theorem c_X8_starts (l : Launch) (D : va_G) (k : Nat → ClassId) (mh mrSt mrNow mrIsKept mrDraft mrTape mrRow mrRode mrWays mrLanes mrSizes mrCells mrBefore : Nat) (sz : Nat) (mSt : (Nat → Int32)) (mNow : (Nat → Int32)) (mIsKept : (Nat → Int32)) (mPeople : Int32) (mDraft : (Nat → Int32)) (mDPeople : Int32) (mHasDry : Int32) (mToldDebts : Int32) (mHighest : Int32) (mTape : (Nat → Int32)) (mTaped : Int32) (mPos : Int32) (mBegun : Int32) (mSort : Int32) (mValue : Int32) (mFault : Int32) (mWrongAt : Int32) (mPaid : Int32) (mRow : (Nat → Int32)) (mRingMuch : Int32) (mRideSum : Int64) (mOwedSum : Int64) (mAllWays : Int64) (mRode : (Nat → Int32)) (mWays : (Nat → Int32)) (mLanes : (Nat → Int32)) (mSizes : (Nat → Int32)) (mCells : (Nat → Int32)) (mTorn : Int32) (mBefore : (Nat → Int32)) (n_mNow : (Nat → Int32)) (hf : f_X8_starts mSt mNow = some n_mNow) : mR l yX8_starts wsX8_starts rmX8_starts D k sz [.ref mh] (wX8 k mh mrSt mrNow mrIsKept mrDraft mrTape mrRow mrRode mrWays mrLanes mrSizes mrCells mrBefore mSt mNow mIsKept mPeople mDraft mDPeople mHasDry mToldDebts mHighest mTape mTaped mPos mBegun mSort mValue mFault mWrongAt mPaid mRow mRingMuch mRideSum mOwedSum mAllWays mRode mWays mLanes mSizes mCells mTorn mBefore) (wX8 k mh mrSt mrNow mrIsKept mrDraft mrTape mrRow mrRode mrWays mrLanes mrSizes mrCells mrBefore mSt n_mNow mIsKept mPeople mDraft mDPeople mHasDry mToldDebts mHighest mTape mTaped mPos mBegun mSort mValue mFault mWrongAt mPaid mRow mRingMuch mRideSum mOwedSum mAllWays mRode mWays mLanes mSizes mCells mTorn mBefore) (none) := by
  refine mR_of (cc := cX8_starts) (maxL := 2) (ret := none) (by decide) rfl (Nat.le_of_ble_eq_true rfl) [(0, .ref mh)] rfl ?_
  intro p e s m below meth c A ls args Q cx hK hA hw hl hQ
  have fx := cx.1
  obtain ⟨⟨hx, hb, hml, hown, hts⟩, hr, hlocks⟩ := cx
  have hinX8 : ∀ w ∈ wsX80, w ∈ wsX8_starts := fun w h => List.mem_cons_of_mem _ (List.mem_append_right _ h)
  have q_1 := hts (.fieldLink RX8 13 "DebtRidesModel" "now" "[I") (List.mem_of_getElem? (i := 1) rfl)
  have q_2 := hts (.fieldLink RX8 7 "DebtRidesModel" "st" "[I") (List.mem_of_getElem? (i := 2) rfl)
  have h := hf
  unfold f_X8_starts at h
  clear hf
  refine lv_iconst (v := 0) hx hb dX8_starts_0 (by decide) ?_
  refine lv_istore_n (lv' := [(1, .int 0), (0, .ref mh)]) hx hb dX8_starts_1 rfl hl (by decide) rfl (fun ls hl => ?_)
  obtain ⟨mNow_3, hL_2, h⟩ := b1_inv h
  have X_2 : ∀ (H : Heap) (locs : List Loc) (ls : Array Slot), Wd D A s.heap H locs (wX8 k mh mrSt mrNow mrIsKept mrDraft mrTape mrRow mrRode mrWays mrLanes mrSizes mrCells mrBefore mSt mNow_3 mIsKept mPeople mDraft mDPeople mHasDry mToldDebts mHighest mTape mTaped mPos mBegun mSort mValue mFault mWrongAt mPaid mRow mRingMuch mRideSum mOwedSum mAllWays mRode mWays mLanes mSizes mCells mTorn mBefore) → lv_has ls 2 [] → W p l e rmX8_starts s m args below meth c H locs 0 0 Q (F0 m 26 ls []) := by
    intro H locs ls hw hl
    cases h
    exact k_vret hx hb hr hlocks hw dX8_starts_26 hQ
  clear h
  have LP_2 : ∀ (n : Nat) (v1_1 : Int32) (mNow_2 : (Nat → Int32)), f_X8_starts_L2 mSt n v1_1 mNow_2 = some mNow_3 → ∀ (H : Heap) (locs : List Loc) (ls : Array Slot), Wd D A s.heap H locs (wX8 k mh mrSt mrNow mrIsKept mrDraft mrTape mrRow mrRode mrWays mrLanes mrSizes mrCells mrBefore mSt mNow_2 mIsKept mPeople mDraft mDPeople mHasDry mToldDebts mHighest mTape mTaped mPos mBegun mSort mValue mFault mWrongAt mPaid mRow mRingMuch mRideSum mOwedSum mAllWays mRode mWays mLanes mSizes mCells mTorn mBefore) → lv_has ls 2 [(0, .ref mh), (1, .int v1_1)] → W p l e rmX8_starts s m args below meth c H locs 0 0 Q (F0 m 2 ls []) := by
    clear hL_2 hw hl
    intro n
    induction n with
    | zero => intro v1_1 mNow_2 h; rw [f_X8_starts_L2] at h; cases h
    | succ n ih =>
      intro v1_1 mNow_2 h H locs ls hw hl
      rw [f_X8_starts_L2] at h
      refine lv_iload_n hx hb dX8_starts_2 rfl (lv_at hl 1 rfl) ?_
      refine lv_bipush (v := 61) hx hb dX8_starts_3 (by decide) ?_
      refine kb_icmp_ge (tgt := 26) hx hb dX8_starts_5 (by decide) h (fun c_5 h => ?_) (fun c_5 h => ?_)
      · cases h
        exact X_2 _ _ _ hw (lv_sub hl [] rfl)
      · refine lv_aload_n hx hb dX8_starts_8 rfl (lv_at hl 0 rfl) ?_
        refine va_get (ci := 8) (v := .ref mrNow) (C := RX8) (T := TX8) (N := 30) hx hb hts hinX8 hown hK.1 hw.1 0 rfl rfl 1 (by decide) q_1 (fun _ h9 => h9) rfl dX8_starts_9 ?_
        refine lv_iload_n hx hb dX8_starts_12 rfl (lv_at hl 1 rfl) ?_
        refine lv_aload_n hx hb dX8_starts_13 rfl (lv_at hl 0 rfl) ?_
        refine va_get (ci := 8) (v := .ref mrSt) (C := RX8) (T := TX8) (N := 30) hx hb hts hinX8 hown hK.1 hw.1 0 rfl rfl 0 (by decide) q_2 (fun _ h9 => h9) rfl dX8_starts_14 ?_
        refine lv_iload_n hx hb dX8_starts_17 rfl (lv_at hl 1 rfl) ?_
        refine k_iald hx hb hK hw 1 rfl dX8_starts_18 h (fun a_4 h => ?_)
        refine k_iast hx hb hK hw 2 rfl dX8_starts_19 h (fun mNow_5 h H locs (hw : Wd D A s.heap H locs (wX8 k mh mrSt mrNow mrIsKept mrDraft mrTape mrRow mrRode mrWays mrLanes mrSizes mrCells mrBefore mSt mNow_5 mIsKept mPeople mDraft mDPeople mHasDry mToldDebts mHighest mTape mTaped mPos mBegun mSort mValue mFault mWrongAt mPaid mRow mRingMuch mRideSum mOwedSum mAllWays mRode mWays mLanes mSizes mCells mTorn mBefore)) => ?_)
        refine lv_iinc (v := v1_1 + 1) (lv' := [(1, .int (v1_1 + 1)), (0, .ref mh)]) hx hb dX8_starts_20 hl (k := 1) rfl rfl (by decide) rfl (fun ls hl => ?_)
        refine lv_goto (tgt := 2) hx hb dX8_starts_23 (by decide) ?_
        exact ih _ _ h _ _ _ hw (lv_sub hl [1, 0] rfl)
  exact LP_2 400 0 mNow hL_2 _ _ _ hw (lv_sub hl [1, 0] rfl)
abbrev rmX8_of : Room := { frames := 0, cells := 0, slots := 0, locals := 0 }
set_option maxHeartbeats 4000000 in
set_option maxRecDepth 100000 in
theorem c_X8_of (l : Launch) (D : va_G) (k : Nat → ClassId) (mh mrSt mrNow mrIsKept mrDraft mrTape mrRow mrRode mrWays mrLanes mrSizes mrCells mrBefore : Nat) (sz : Nat) (mSt : (Nat → Int32)) (mNow : (Nat → Int32)) (mIsKept : (Nat → Int32)) (mPeople : Int32) (mDraft : (Nat → Int32)) (mDPeople : Int32) (mHasDry : Int32) (mToldDebts : Int32) (mHighest : Int32) (mTape : (Nat → Int32)) (mTaped : Int32) (mPos : Int32) (mBegun : Int32) (mSort : Int32) (mValue : Int32) (mFault : Int32) (mWrongAt : Int32) (mPaid : Int32) (mRow : (Nat → Int32)) (mRingMuch : Int32) (mRideSum : Int64) (mOwedSum : Int64) (mAllWays : Int64) (mRode : (Nat → Int32)) (mWays : (Nat → Int32)) (mLanes : (Nat → Int32)) (mSizes : (Nat → Int32)) (mCells : (Nat → Int32)) (mTorn : Int32) (mBefore : (Nat → Int32)) (p1 : Int32) (p2 : Int32) (r_ : Int32) (hf : f_X8_of mNow p1 p2 = some r_) : mR l yX8_of wsX8_of rmX8_of D k sz [.ref mh, .int p1, .int p2] (wX8 k mh mrSt mrNow mrIsKept mrDraft mrTape mrRow mrRode mrWays mrLanes mrSizes mrCells mrBefore mSt mNow mIsKept mPeople mDraft mDPeople mHasDry mToldDebts mHighest mTape mTaped mPos mBegun mSort mValue mFault mWrongAt mPaid mRow mRingMuch mRideSum mOwedSum mAllWays mRode mWays mLanes mSizes mCells mTorn mBefore) (wX8 k mh mrSt mrNow mrIsKept mrDraft mrTape mrRow mrRode mrWays mrLanes mrSizes mrCells mrBefore mSt mNow mIsKept mPeople mDraft mDPeople mHasDry mToldDebts mHighest mTape mTaped mPos mBegun mSort mValue mFault mWrongAt mPaid mRow mRingMuch mRideSum mOwedSum mAllWays mRode mWays mLanes mSizes mCells mTorn mBefore) (some (.int r_)) := by
  refine mR_of (cc := cX8_of) (maxL := 3) (ret := some .int) (by decide) rfl (Nat.le_of_ble_eq_true rfl) [(0, .ref mh), (1, .int p1), (2, .int p2)] rfl ?_
  intro p e s m below meth c A ls args Q cx hK hA hw hl hQ
  have fx := cx.1
  obtain ⟨⟨hx, hb, hml, hown, hts⟩, hr, hlocks⟩ := cx
  have hinX8 : ∀ w ∈ wsX80, w ∈ wsX8_of := fun w h => List.mem_cons_of_mem _ (List.mem_append_right _ h)
  have q_1 := hts (.fieldLink RX8 13 "DebtRidesModel" "now" "[I") (List.mem_of_getElem? (i := 1) rfl)
  have h := hf
  unfold f_X8_of at h
  clear hf
  refine lv_aload_n hx hb dX8_of_0 rfl (lv_at hl 0 rfl) ?_
  refine va_get (ci := 8) (v := .ref mrNow) (C := RX8) (T := TX8) (N := 30) hx hb hts hinX8 hown hK.1 hw.1 0 rfl rfl 1 (by decide) q_1 (fun _ h9 => h9) rfl dX8_of_1 ?_
  refine lv_iconst (v := 3) hx hb dX8_of_4 (by decide) ?_
  refine lv_iload_n hx hb dX8_of_5 rfl (lv_at hl 1 rfl) ?_
  refine lv_imul hx hb dX8_of_6 ?_
  refine lv_iload_n hx hb dX8_of_7 rfl (lv_at hl 2 rfl) ?_
  refine lv_iadd hx hb dX8_of_8 ?_
  refine k_iald hx hb hK hw 2 rfl dX8_of_9 h (fun a_1 h => ?_)
  cases h
  exact k_iret hx hb hr hlocks hw rfl dX8_of_10 hQ
abbrev rmX8_lesser : Room := { frames := 0, cells := 0, slots := 0, locals := 0 }
set_option maxHeartbeats 4000000 in
set_option maxRecDepth 100000 in
theorem c_X8_lesser (l : Launch) (D : va_G) (k : Nat → ClassId) (sz : Nat) (p1 : Int32) (p2 : Int32) (r_ : Int32) (hf : f_X8_lesser p1 p2 = some r_) : mR l yX8_lesser wsX8_lesser rmX8_lesser D k sz [.int p1, .int p2] ([]) ([]) (some (.int r_)) := by
  refine mR_of (cc := cX8_lesser) (maxL := 2) (ret := some .int) (by decide) rfl (Nat.le_of_ble_eq_true rfl) [(0, .int p1), (1, .int p2)] rfl ?_
  intro p e s m below meth c A ls args Q cx hK hA hw hl hQ
  have fx := cx.1
  obtain ⟨⟨hx, hb, hml, hown, hts⟩, hr, hlocks⟩ := cx
  have h := hf
  unfold f_X8_lesser at h
  clear hf
  refine lv_iload_n hx hb dX8_lesser_0 rfl (lv_at hl 0 rfl) ?_
  refine lv_iload_n hx hb dX8_lesser_1 rfl (lv_at hl 1 rfl) ?_
  refine kb_icmp_ge (tgt := 9) hx hb dX8_lesser_2 (by decide) h (fun c_2 h => ?_) (fun c_2 h => ?_)
  · refine lv_iload_n hx hb dX8_lesser_9 rfl (lv_at hl 1 rfl) ?_
    cases h
    exact k_iret hx hb hr hlocks hw rfl dX8_lesser_10 hQ
  · refine lv_iload_n hx hb dX8_lesser_5 rfl (lv_at hl 0 rfl) ?_
    refine lv_goto (tgt := 10) hx hb dX8_lesser_6 (by decide) ?_
    cases h
    exact k_iret hx hb hr hlocks hw rfl dX8_lesser_10 hQ
abbrev rmX8_becomesOf : Room := { frames := 0, cells := 0, slots := 0, locals := 0 }
set_option maxHeartbeats 4000000 in
set_option maxRecDepth 100000 in
theorem c_X8_becomesOf (l : Launch) (D : va_G) (k : Nat → ClassId) (mh mrSt mrNow mrIsKept mrDraft mrTape mrRow mrRode mrWays mrLanes mrSizes mrCells mrBefore : Nat) (sz : Nat) (mSt : (Nat → Int32)) (mNow : (Nat → Int32)) (mIsKept : (Nat → Int32)) (mPeople : Int32) (mDraft : (Nat → Int32)) (mDPeople : Int32) (mHasDry : Int32) (mToldDebts : Int32) (mHighest : Int32) (mTape : (Nat → Int32)) (mTaped : Int32) (mPos : Int32) (mBegun : Int32) (mSort : Int32) (mValue : Int32) (mFault : Int32) (mWrongAt : Int32) (mPaid : Int32) (mRow : (Nat → Int32)) (mRingMuch : Int32) (mRideSum : Int64) (mOwedSum : Int64) (mAllWays : Int64) (mRode : (Nat → Int32)) (mWays : (Nat → Int32)) (mLanes : (Nat → Int32)) (mSizes : (Nat → Int32)) (mCells : (Nat → Int32)) (mTorn : Int32) (mBefore : (Nat → Int32)) (p1 : Int32) (p2 : Int32) (p3 : Int32) (n_mNow : (Nat → Int32)) (hf : f_X8_becomesOf mNow p1 p2 p3 = some n_mNow) : mR l yX8_becomesOf wsX8_becomesOf rmX8_becomesOf D k sz [.ref mh, .int p1, .int p2, .int p3] (wX8 k mh mrSt mrNow mrIsKept mrDraft mrTape mrRow mrRode mrWays mrLanes mrSizes mrCells mrBefore mSt mNow mIsKept mPeople mDraft mDPeople mHasDry mToldDebts mHighest mTape mTaped mPos mBegun mSort mValue mFault mWrongAt mPaid mRow mRingMuch mRideSum mOwedSum mAllWays mRode mWays mLanes mSizes mCells mTorn mBefore) (wX8 k mh mrSt mrNow mrIsKept mrDraft mrTape mrRow mrRode mrWays mrLanes mrSizes mrCells mrBefore mSt n_mNow mIsKept mPeople mDraft mDPeople mHasDry mToldDebts mHighest mTape mTaped mPos mBegun mSort mValue mFault mWrongAt mPaid mRow mRingMuch mRideSum mOwedSum mAllWays mRode mWays mLanes mSizes mCells mTorn mBefore) (none) := by
  refine mR_of (cc := cX8_becomesOf) (maxL := 4) (ret := none) (by decide) rfl (Nat.le_of_ble_eq_true rfl) [(0, .ref mh), (1, .int p1), (2, .int p2), (3, .int p3)] rfl ?_
  intro p e s m below meth c A ls args Q cx hK hA hw hl hQ
  have fx := cx.1
  obtain ⟨⟨hx, hb, hml, hown, hts⟩, hr, hlocks⟩ := cx
  have hinX8 : ∀ w ∈ wsX80, w ∈ wsX8_becomesOf := fun w h => List.mem_cons_of_mem _ (List.mem_append_right _ h)
  have q_1 := hts (.fieldLink RX8 13 "DebtRidesModel" "now" "[I") (List.mem_of_getElem? (i := 1) rfl)
  have h := hf
  unfold f_X8_becomesOf at h
  clear hf
  refine lv_aload_n hx hb dX8_becomesOf_0 rfl (lv_at hl 0 rfl) ?_
  refine va_get (ci := 8) (v := .ref mrNow) (C := RX8) (T := TX8) (N := 30) hx hb hts hinX8 hown hK.1 hw.1 0 rfl rfl 1 (by decide) q_1 (fun _ h9 => h9) rfl dX8_becomesOf_1 ?_
  refine lv_iconst (v := 3) hx hb dX8_becomesOf_4 (by decide) ?_
  refine lv_iload_n hx hb dX8_becomesOf_5 rfl (lv_at hl 1 rfl) ?_
  refine lv_imul hx hb dX8_becomesOf_6 ?_
  refine lv_iload_n hx hb dX8_becomesOf_7 rfl (lv_at hl 2 rfl) ?_
  refine lv_iadd hx hb dX8_becomesOf_8 ?_
  refine lv_iload_n hx hb dX8_becomesOf_9 rfl (lv_at hl 3 rfl) ?_
  refine k_iast hx hb hK hw 2 rfl dX8_becomesOf_10 h (fun mNow_1 h H locs (hw : Wd D A s.heap H locs (wX8 k mh mrSt mrNow mrIsKept mrDraft mrTape mrRow mrRode mrWays mrLanes mrSizes mrCells mrBefore mSt mNow_1 mIsKept mPeople mDraft mDPeople mHasDry mToldDebts mHighest mTape mTaped mPos mBegun mSort mValue mFault mWrongAt mPaid mRow mRingMuch mRideSum mOwedSum mAllWays mRode mWays mLanes mSizes mCells mTorn mBefore)) => ?_)
  cases h
  exact k_vret hx hb hr hlocks hw dX8_becomesOf_11 hQ
abbrev rmX8_gets : Room := { frames := 1, cells := 0, slots := 0, locals := 23 }
set_option maxHeartbeats 4000000 in
set_option maxRecDepth 100000 in
theorem c_X8_gets (l : Launch) (D : va_G) (k : Nat → ClassId) (mh mrSt mrNow mrIsKept mrDraft mrTape mrRow mrRode mrWays mrLanes mrSizes mrCells mrBefore : Nat) (sz : Nat) (mSt : (Nat → Int32)) (mNow : (Nat → Int32)) (mIsKept : (Nat → Int32)) (mPeople : Int32) (mDraft : (Nat → Int32)) (mDPeople : Int32) (mHasDry : Int32) (mToldDebts : Int32) (mHighest : Int32) (mTape : (Nat → Int32)) (mTaped : Int32) (mPos : Int32) (mBegun : Int32) (mSort : Int32) (mValue : Int32) (mFault : Int32) (mWrongAt : Int32) (mPaid : Int32) (mRow : (Nat → Int32)) (mRingMuch : Int32) (mRideSum : Int64) (mOwedSum : Int64) (mAllWays : Int64) (mRode : (Nat → Int32)) (mWays : (Nat → Int32)) (mLanes : (Nat → Int32)) (mSizes : (Nat → Int32)) (mCells : (Nat → Int32)) (mTorn : Int32) (mBefore : (Nat → Int32)) (p1 : Int32) (p2 : Int32) (n_mNow : (Nat → Int32)) (hf : f_X8_gets mNow p1 p2 = some n_mNow) : mR l yX8_gets wsX8_gets rmX8_gets D k sz [.ref mh, .int p1, .int p2] (wX8 k mh mrSt mrNow mrIsKept mrDraft mrTape mrRow mrRode mrWays mrLanes mrSizes mrCells mrBefore mSt mNow mIsKept mPeople mDraft mDPeople mHasDry mToldDebts mHighest mTape mTaped mPos mBegun mSort mValue mFault mWrongAt mPaid mRow mRingMuch mRideSum mOwedSum mAllWays mRode mWays mLanes mSizes mCells mTorn mBefore) (wX8 k mh mrSt mrNow mrIsKept mrDraft mrTape mrRow mrRode mrWays mrLanes mrSizes mrCells mrBefore mSt n_mNow mIsKept mPeople mDraft mDPeople mHasDry mToldDebts mHighest mTape mTaped mPos mBegun mSort mValue mFault mWrongAt mPaid mRow mRingMuch mRideSum mOwedSum mAllWays mRode mWays mLanes mSizes mCells mTorn mBefore) (none) := by
  refine mR_of (cc := cX8_gets) (maxL := 3) (ret := none) (by decide) rfl (Nat.le_of_ble_eq_true rfl) [(0, .ref mh), (1, .int p1), (2, .int p2)] rfl ?_
  intro p e s m below meth c A ls args Q cx hK hA hw hl hQ
  have fx := cx.1
  obtain ⟨⟨hx, hb, hml, hown, hts⟩, hr, hlocks⟩ := cx
  have h := hf
  unfold f_X8_gets at h
  clear hf
  refine lv_aload_n hx hb dX8_gets_0 rfl (lv_at hl 0 rfl) ?_
  refine lv_iload_n hx hb dX8_gets_1 rfl (lv_at hl 1 rfl) ?_
  refine lv_iconst (v := 1) hx hb dX8_gets_2 (by decide) ?_
  refine lv_sipush (v := 999) hx hb dX8_gets_3 (by decide) ?_
  refine lv_aload_n hx hb dX8_gets_6 rfl (lv_at hl 0 rfl) ?_
  refine lv_iload_n hx hb dX8_gets_7 rfl (lv_at hl 1 rfl) ?_
  refine lv_iconst (v := 1) hx hb dX8_gets_8 (by decide) ?_
  obtain ⟨r_1, hf, h⟩ := b1_inv h
  refine k_callV (host := "") fx hK hA hw (c_X8_of l D k mh mrSt mrNow mrIsKept mrDraft mrTape mrRow mrRode mrWays mrLanes mrSizes mrCells mrBefore _ mSt mNow mIsKept mPeople mDraft mDPeople mHasDry mToldDebts mHighest mTape mTaped mPos mBegun mSort mValue mFault mWrongAt mPaid mRow mRingMuch mRideSum mOwedSum mAllWays mRode mWays mLanes mSizes mCells mTorn mBefore p1 1 r_1 hf) (cwV 2 hts gX8_gets_X8_of rfl rfl rfl (by decide +kernel) ⟨by decide, by decide⟩) (As := [.int p1, .int 1]) (wr := []) (ws' := wX8 k mh mrSt mrNow mrIsKept mrDraft mrTape mrRow mrRode mrWays mrLanes mrSizes mrCells mrBefore mSt mNow mIsKept mPeople mDraft mDPeople mHasDry mToldDebts mHighest mTape mTaped mPos mBegun mSort mValue mFault mWrongAt mPaid mRow mRingMuch mRideSum mOwedSum mAllWays mRode mWays mLanes mSizes mCells mTorn mBefore) [0, 1, 2, 3, 4, 5, 6, 7, 8, 9, 10, 11, 12] [] [0, 1, 2, 3, 4, 5, 6, 7, 8, 9, 10, 11, 12] rfl rfl (by decide) (by decide) (by decide) rfl (by decide) 8 rfl rfl [.int 999, .int 1, .int p1, .ref mh] rfl hl.1 rfl (Nat.le_of_ble_eq_true rfl) dX8_gets_9 ⟨by decide, by decide⟩ (fun H locs (hw : Wd D A s.heap H locs (wX8 k mh mrSt mrNow mrIsKept mrDraft mrTape mrRow mrRode mrWays mrLanes mrSizes mrCells mrBefore mSt mNow mIsKept mPeople mDraft mDPeople mHasDry mToldDebts mHighest mTape mTaped mPos mBegun mSort mValue mFault mWrongAt mPaid mRow mRingMuch mRideSum mOwedSum mAllWays mRode mWays mLanes mSizes mCells mTorn mBefore)) => ?_)
  refine W.eq (g2 := F0 m 12 ls ([.int r_1, .int 999, .int 1, .int p1, .ref mh])) rfl ?_
  refine lv_iload_n hx hb dX8_gets_12 rfl (lv_at hl 2 rfl) ?_
  refine lv_iadd hx hb dX8_gets_13 ?_
  obtain ⟨r_2, hf, h⟩ := b1_inv h
  refine k_callS (b := 0) (C := "") (host := "") fx hK hA hw (c_X8_lesser l D k _ 999 (r_1 + p2) r_2 hf) (va_cwS 2 hts gX8_gets_X8_lesser rfl rfl rfl (by decide +kernel) ⟨by decide, by decide⟩) (As := [.int 999, .int (r_1 + p2)]) (wr := [(mh, .inr (8, [.ref mrSt, .ref mrNow, .ref mrIsKept, .int mPeople, .ref mrDraft, .int mDPeople, .int mHasDry, .int mToldDebts, .int mHighest, .ref mrTape, .int mTaped, .int mPos, .int mBegun, .int mSort, .int mValue, .int mFault, .int mWrongAt, .int mPaid, .ref mrRow, .int mRingMuch, .long mRideSum, .long mOwedSum, .long mAllWays, .ref mrRode, .ref mrWays, .ref mrLanes, .ref mrSizes, .ref mrCells, .int mTorn, .ref mrBefore])), (mrSt, .inl (k 0, 183, .inl mSt)), (mrNow, .inl (k 0, 61, .inl mNow)), (mrIsKept, .inl (k 1, 2, .inl mIsKept)), (mrDraft, .inl (k 0, 61, .inl mDraft)), (mrTape, .inl (k 0, 160, .inl mTape)), (mrRow, .inl (k 0, 5, .inl mRow)), (mrRode, .inl (k 0, 31, .inl mRode)), (mrWays, .inl (k 0, 31, .inl mWays)), (mrLanes, .inl (k 0, 4, .inl mLanes)), (mrSizes, .inl (k 0, 4, .inl mSizes)), (mrCells, .inl (k 0, 160, .inl mCells)), (mrBefore, .inl (k 0, 61, .inl mBefore))]) (ws' := wX8 k mh mrSt mrNow mrIsKept mrDraft mrTape mrRow mrRode mrWays mrLanes mrSizes mrCells mrBefore mSt mNow mIsKept mPeople mDraft mDPeople mHasDry mToldDebts mHighest mTape mTaped mPos mBegun mSort mValue mFault mWrongAt mPaid mRow mRingMuch mRideSum mOwedSum mAllWays mRode mWays mLanes mSizes mCells mTorn mBefore) [] [0, 1, 2, 3, 4, 5, 6, 7, 8, 9, 10, 11, 12] [0, 1, 2, 3, 4, 5, 6, 7, 8, 9, 10, 11, 12] rfl rfl (by decide) (by decide) (by decide) rfl (by decide) [.int 1, .int p1, .ref mh] rfl hl.1 rfl (Nat.le_of_ble_eq_true rfl) dX8_gets_14 ⟨by decide, by decide⟩ (fun H locs (hw : Wd D A s.heap H locs (wX8 k mh mrSt mrNow mrIsKept mrDraft mrTape mrRow mrRode mrWays mrLanes mrSizes mrCells mrBefore mSt mNow mIsKept mPeople mDraft mDPeople mHasDry mToldDebts mHighest mTape mTaped mPos mBegun mSort mValue mFault mWrongAt mPaid mRow mRingMuch mRideSum mOwedSum mAllWays mRode mWays mLanes mSizes mCells mTorn mBefore)) => ?_)
  refine W.eq (g2 := F0 m 17 ls ([.int r_2, .int 1, .int p1, .ref mh])) rfl ?_
  obtain ⟨mNow_3, hf, h⟩ := b1_inv h
  refine k_callV (host := "") fx hK hA hw (c_X8_becomesOf l D k mh mrSt mrNow mrIsKept mrDraft mrTape mrRow mrRode mrWays mrLanes mrSizes mrCells mrBefore _ mSt mNow mIsKept mPeople mDraft mDPeople mHasDry mToldDebts mHighest mTape mTaped mPos mBegun mSort mValue mFault mWrongAt mPaid mRow mRingMuch mRideSum mOwedSum mAllWays mRode mWays mLanes mSizes mCells mTorn mBefore p1 1 r_2 mNow_3 hf) (cwV 3 hts gX8_gets_X8_becomesOf rfl rfl rfl (by decide +kernel) ⟨by decide, by decide⟩) (As := [.int p1, .int 1, .int r_2]) (wr := []) (ws' := wX8 k mh mrSt mrNow mrIsKept mrDraft mrTape mrRow mrRode mrWays mrLanes mrSizes mrCells mrBefore mSt mNow_3 mIsKept mPeople mDraft mDPeople mHasDry mToldDebts mHighest mTape mTaped mPos mBegun mSort mValue mFault mWrongAt mPaid mRow mRingMuch mRideSum mOwedSum mAllWays mRode mWays mLanes mSizes mCells mTorn mBefore) [0, 1, 2, 3, 4, 5, 6, 7, 8, 9, 10, 11, 12] [] [0, 1, 2, 3, 4, 5, 6, 7, 8, 9, 10, 11, 12] rfl rfl (by decide) (by decide) (by decide) rfl (by decide) 8 rfl rfl [] rfl hl.1 rfl (Nat.le_of_ble_eq_true rfl) dX8_gets_17 ⟨by decide, by decide⟩ (fun H locs (hw : Wd D A s.heap H locs (wX8 k mh mrSt mrNow mrIsKept mrDraft mrTape mrRow mrRode mrWays mrLanes mrSizes mrCells mrBefore mSt mNow_3 mIsKept mPeople mDraft mDPeople mHasDry mToldDebts mHighest mTape mTaped mPos mBegun mSort mValue mFault mWrongAt mPaid mRow mRingMuch mRideSum mOwedSum mAllWays mRode mWays mLanes mSizes mCells mTorn mBefore)) => ?_)
  refine W.eq (g2 := F0 m 20 ls ([])) rfl ?_
  cases h
  exact k_vret hx hb hr hlocks hw dX8_gets_20 hQ
abbrev rmX8_debt : Room := { frames := 0, cells := 0, slots := 0, locals := 0 }
set_option maxHeartbeats 4000000 in
set_option maxRecDepth 100000 in
theorem c_X8_debt (l : Launch) (D : va_G) (k : Nat → ClassId) (mh mrSt mrNow mrIsKept mrDraft mrTape mrRow mrRode mrWays mrLanes mrSizes mrCells mrBefore : Nat) (sz : Nat) (mSt : (Nat → Int32)) (mNow : (Nat → Int32)) (mIsKept : (Nat → Int32)) (mPeople : Int32) (mDraft : (Nat → Int32)) (mDPeople : Int32) (mHasDry : Int32) (mToldDebts : Int32) (mHighest : Int32) (mTape : (Nat → Int32)) (mTaped : Int32) (mPos : Int32) (mBegun : Int32) (mSort : Int32) (mValue : Int32) (mFault : Int32) (mWrongAt : Int32) (mPaid : Int32) (mRow : (Nat → Int32)) (mRingMuch : Int32) (mRideSum : Int64) (mOwedSum : Int64) (mAllWays : Int64) (mRode : (Nat → Int32)) (mWays : (Nat → Int32)) (mLanes : (Nat → Int32)) (mSizes : (Nat → Int32)) (mCells : (Nat → Int32)) (mTorn : Int32) (mBefore : (Nat → Int32)) (p1 : Int32) (p2 : Int32) (r_ : Int32) (hf : f_X8_debt mNow p1 p2 = some r_) : mR l yX8_debt wsX8_debt rmX8_debt D k sz [.ref mh, .int p1, .int p2] (wX8 k mh mrSt mrNow mrIsKept mrDraft mrTape mrRow mrRode mrWays mrLanes mrSizes mrCells mrBefore mSt mNow mIsKept mPeople mDraft mDPeople mHasDry mToldDebts mHighest mTape mTaped mPos mBegun mSort mValue mFault mWrongAt mPaid mRow mRingMuch mRideSum mOwedSum mAllWays mRode mWays mLanes mSizes mCells mTorn mBefore) (wX8 k mh mrSt mrNow mrIsKept mrDraft mrTape mrRow mrRode mrWays mrLanes mrSizes mrCells mrBefore mSt mNow mIsKept mPeople mDraft mDPeople mHasDry mToldDebts mHighest mTape mTaped mPos mBegun mSort mValue mFault mWrongAt mPaid mRow mRingMuch mRideSum mOwedSum mAllWays mRode mWays mLanes mSizes mCells mTorn mBefore) (some (.int r_)) := by
  refine mR_of (cc := cX8_debt) (maxL := 3) (ret := some .int) (by decide) rfl (Nat.le_of_ble_eq_true rfl) [(0, .ref mh), (1, .int p1), (2, .int p2)] rfl ?_
  intro p e s m below meth c A ls args Q cx hK hA hw hl hQ
  have fx := cx.1
  obtain ⟨⟨hx, hb, hml, hown, hts⟩, hr, hlocks⟩ := cx
  have hinX8 : ∀ w ∈ wsX80, w ∈ wsX8_debt := fun w h => List.mem_cons_of_mem _ (List.mem_append_right _ h)
  have q_1 := hts (.fieldLink RX8 13 "DebtRidesModel" "now" "[I") (List.mem_of_getElem? (i := 1) rfl)
  have h := hf
  unfold f_X8_debt at h
  clear hf
  refine lv_aload_n hx hb dX8_debt_0 rfl (lv_at hl 0 rfl) ?_
  refine va_get (ci := 8) (v := .ref mrNow) (C := RX8) (T := TX8) (N := 30) hx hb hts hinX8 hown hK.1 hw.1 0 rfl rfl 1 (by decide) q_1 (fun _ h9 => h9) rfl dX8_debt_1 ?_
  refine lv_bipush (v := 15) hx hb dX8_debt_4 (by decide) ?_
  refine lv_iconst (v := 5) hx hb dX8_debt_6 (by decide) ?_
  refine lv_iload_n hx hb dX8_debt_7 rfl (lv_at hl 1 rfl) ?_
  refine lv_imul hx hb dX8_debt_8 ?_
  refine lv_iadd hx hb dX8_debt_9 ?_
  refine lv_iload_n hx hb dX8_debt_10 rfl (lv_at hl 2 rfl) ?_
  refine lv_iadd hx hb dX8_debt_11 ?_
  refine k_iald hx hb hK hw 2 rfl dX8_debt_12 h (fun a_1 h => ?_)
  cases h
  exact k_iret hx hb hr hlocks hw rfl dX8_debt_13 hQ
abbrev rmX8_owesAll : Room := { frames := 1, cells := 0, slots := 0, locals := 22 }
set_option maxHeartbeats 4000000 in
set_option maxRecDepth 100000 in
theorem c_X8_owesAll (l : Launch) (D : va_G) (k : Nat → ClassId) (mh mrSt mrNow mrIsKept mrDraft mrTape mrRow mrRode mrWays mrLanes mrSizes mrCells mrBefore : Nat) (sz : Nat) (mSt : (Nat → Int32)) (mNow : (Nat → Int32)) (mIsKept : (Nat → Int32)) (mPeople : Int32) (mDraft : (Nat → Int32)) (mDPeople : Int32) (mHasDry : Int32) (mToldDebts : Int32) (mHighest : Int32) (mTape : (Nat → Int32)) (mTaped : Int32) (mPos : Int32) (mBegun : Int32) (mSort : Int32) (mValue : Int32) (mFault : Int32) (mWrongAt : Int32) (mPaid : Int32) (mRow : (Nat → Int32)) (mRingMuch : Int32) (mRideSum : Int64) (mOwedSum : Int64) (mAllWays : Int64) (mRode : (Nat → Int32)) (mWays : (Nat → Int32)) (mLanes : (Nat → Int32)) (mSizes : (Nat → Int32)) (mCells : (Nat → Int32)) (mTorn : Int32) (mBefore : (Nat → Int32)) (p1 : Int32) (r_ : Int32) (hf : f_X8_owesAll mNow mPeople p1 = some r_) : mR l yX8_owesAll wsX8_owesAll rmX8_owesAll D k sz [.ref mh, .int p1] (wX8 k mh mrSt mrNow mrIsKept mrDraft mrTape mrRow mrRode mrWays mrLanes mrSizes mrCells mrBefore mSt mNow mIsKept mPeople mDraft mDPeople mHasDry mToldDebts mHighest mTape mTaped mPos mBegun mSort mValue mFault mWrongAt mPaid mRow mRingMuch mRideSum mOwedSum mAllWays mRode mWays mLanes mSizes mCells mTorn mBefore) (wX8 k mh mrSt mrNow mrIsKept mrDraft mrTape mrRow mrRode mrWays mrLanes mrSizes mrCells mrBefore mSt mNow mIsKept mPeople mDraft mDPeople mHasDry mToldDebts mHighest mTape mTaped mPos mBegun mSort mValue mFault mWrongAt mPaid mRow mRingMuch mRideSum mOwedSum mAllWays mRode mWays mLanes mSizes mCells mTorn mBefore) (some (.int r_)) := by
  refine mR_of (cc := cX8_owesAll) (maxL := 4) (ret := some .int) (by decide) rfl (Nat.le_of_ble_eq_true rfl) [(0, .ref mh), (1, .int p1)] rfl ?_
  intro p e s m below meth c A ls args Q cx hK hA hw hl hQ
  have fx := cx.1
  obtain ⟨⟨hx, hb, hml, hown, hts⟩, hr, hlocks⟩ := cx
  have hinX8 : ∀ w ∈ wsX80, w ∈ wsX8_owesAll := fun w h => List.mem_cons_of_mem _ (List.mem_append_right _ h)
  have q_1 := hts (.fieldLink RX8 67 "DebtRidesModel" "people" "I") (List.mem_of_getElem? (i := 1) rfl)
  have h := hf
  unfold f_X8_owesAll at h
  clear hf
  refine lv_iconst (v := 0) hx hb dX8_owesAll_0 (by decide) ?_
  refine lv_istore_n (lv' := [(2, .int 0), (0, .ref mh), (1, .int p1)]) hx hb dX8_owesAll_1 rfl hl (by decide) rfl (fun ls hl => ?_)
  refine lv_iconst (v := 0) hx hb dX8_owesAll_2 (by decide) ?_
  refine lv_istore_n (lv' := [(3, .int 0), (2, .int 0), (0, .ref mh), (1, .int p1)]) hx hb dX8_owesAll_3 rfl hl (by decide) rfl (fun ls hl => ?_)
  obtain ⟨v2_3, hL_4, h⟩ := b1_inv h
  have X_4 : ∀ (H : Heap) (locs : List Loc) (ls : Array Slot), Wd D A s.heap H locs (wX8 k mh mrSt mrNow mrIsKept mrDraft mrTape mrRow mrRode mrWays mrLanes mrSizes mrCells mrBefore mSt mNow mIsKept mPeople mDraft mDPeople mHasDry mToldDebts mHighest mTape mTaped mPos mBegun mSort mValue mFault mWrongAt mPaid mRow mRingMuch mRideSum mOwedSum mAllWays mRode mWays mLanes mSizes mCells mTorn mBefore) → lv_has ls 4 [(2, .int v2_3)] → W p l e rmX8_owesAll s m args below meth c H locs 0 0 Q (F0 m 27 ls []) := by
    intro H locs ls hw hl
    refine lv_iload_n hx hb dX8_owesAll_27 rfl (lv_at hl 0 rfl) ?_
    cases h
    exact k_iret hx hb hr hlocks hw rfl dX8_owesAll_28 hQ
  clear h
  have LP_4 : ∀ (n : Nat) (v2_1 : Int32) (v3_2 : Int32), f_X8_owesAll_L4 mNow mPeople p1 n v2_1 v3_2 = some v2_3 → ∀ (H : Heap) (locs : List Loc) (ls : Array Slot), Wd D A s.heap H locs (wX8 k mh mrSt mrNow mrIsKept mrDraft mrTape mrRow mrRode mrWays mrLanes mrSizes mrCells mrBefore mSt mNow mIsKept mPeople mDraft mDPeople mHasDry mToldDebts mHighest mTape mTaped mPos mBegun mSort mValue mFault mWrongAt mPaid mRow mRingMuch mRideSum mOwedSum mAllWays mRode mWays mLanes mSizes mCells mTorn mBefore) → lv_has ls 4 [(0, .ref mh), (1, .int p1), (2, .int v2_1), (3, .int v3_2)] → W p l e rmX8_owesAll s m args below meth c H locs 0 0 Q (F0 m 4 ls []) := by
    clear hL_4 hw hl
    intro n
    induction n with
    | zero => intro v2_1 v3_2 h; rw [f_X8_owesAll_L4] at h; cases h
    | succ n ih =>
      intro v2_1 v3_2 h H locs ls hw hl
      rw [f_X8_owesAll_L4] at h
      refine lv_iload_n hx hb dX8_owesAll_4 rfl (lv_at hl 3 rfl) ?_
      refine lv_aload_n hx hb dX8_owesAll_5 rfl (lv_at hl 0 rfl) ?_
      refine va_get (ci := 8) (v := .int mPeople) (C := RX8) (T := TX8) (N := 30) hx hb hts hinX8 hown hK.1 hw.1 0 rfl rfl 3 (by decide) q_1 (fun _ h9 => h9) rfl dX8_owesAll_6 ?_
      refine kb_icmp_ge (tgt := 27) hx hb dX8_owesAll_9 (by decide) h (fun c_9 h => ?_) (fun c_9 h => ?_)
      · cases h
        exact X_4 _ _ _ hw (lv_sub hl [2] rfl)
      · refine lv_iload_n hx hb dX8_owesAll_12 rfl (lv_at hl 2 rfl) ?_
        refine lv_aload_n hx hb dX8_owesAll_13 rfl (lv_at hl 0 rfl) ?_
        refine lv_iload_n hx hb dX8_owesAll_14 rfl (lv_at hl 1 rfl) ?_
        refine lv_iload_n hx hb dX8_owesAll_15 rfl (lv_at hl 3 rfl) ?_
        obtain ⟨r_4, hf, h⟩ := b1_inv h
        refine k_callV (host := "") fx hK hA hw (c_X8_debt l D k mh mrSt mrNow mrIsKept mrDraft mrTape mrRow mrRode mrWays mrLanes mrSizes mrCells mrBefore _ mSt mNow mIsKept mPeople mDraft mDPeople mHasDry mToldDebts mHighest mTape mTaped mPos mBegun mSort mValue mFault mWrongAt mPaid mRow mRingMuch mRideSum mOwedSum mAllWays mRode mWays mLanes mSizes mCells mTorn mBefore p1 v3_2 r_4 hf) (cwV 2 hts gX8_owesAll_X8_debt rfl rfl rfl (by decide +kernel) ⟨by decide, by decide⟩) (As := [.int p1, .int v3_2]) (wr := []) (ws' := wX8 k mh mrSt mrNow mrIsKept mrDraft mrTape mrRow mrRode mrWays mrLanes mrSizes mrCells mrBefore mSt mNow mIsKept mPeople mDraft mDPeople mHasDry mToldDebts mHighest mTape mTaped mPos mBegun mSort mValue mFault mWrongAt mPaid mRow mRingMuch mRideSum mOwedSum mAllWays mRode mWays mLanes mSizes mCells mTorn mBefore) [0, 1, 2, 3, 4, 5, 6, 7, 8, 9, 10, 11, 12] [] [0, 1, 2, 3, 4, 5, 6, 7, 8, 9, 10, 11, 12] rfl rfl (by decide) (by decide) (by decide) rfl (by decide) 8 rfl rfl [.int v2_1] rfl hl.1 rfl (Nat.le_of_ble_eq_true rfl) dX8_owesAll_16 ⟨by decide, by decide⟩ (fun H locs (hw : Wd D A s.heap H locs (wX8 k mh mrSt mrNow mrIsKept mrDraft mrTape mrRow mrRode mrWays mrLanes mrSizes mrCells mrBefore mSt mNow mIsKept mPeople mDraft mDPeople mHasDry mToldDebts mHighest mTape mTaped mPos mBegun mSort mValue mFault mWrongAt mPaid mRow mRingMuch mRideSum mOwedSum mAllWays mRode mWays mLanes mSizes mCells mTorn mBefore)) => ?_)
        refine W.eq (g2 := F0 m 19 ls ([.int r_4, .int v2_1])) rfl ?_
        refine lv_iadd hx hb dX8_owesAll_19 ?_
        refine lv_istore_n (lv' := [(2, .int (v2_1 + r_4)), (0, .ref mh), (1, .int p1), (3, .int v3_2)]) hx hb dX8_owesAll_20 rfl hl (by decide) rfl (fun ls hl => ?_)
        refine lv_iinc (v := v3_2 + 1) (lv' := [(3, .int (v3_2 + 1)), (2, .int (v2_1 + r_4)), (0, .ref mh), (1, .int p1)]) hx hb dX8_owesAll_21 hl (k := 3) rfl rfl (by decide) rfl (fun ls hl => ?_)
        refine lv_goto (tgt := 4) hx hb dX8_owesAll_24 (by decide) ?_
        exact ih _ _ h _ _ _ hw (lv_sub hl [2, 3, 1, 0] rfl)
  exact LP_4 400 0 0 hL_4 _ _ _ hw (lv_sub hl [2, 3, 1, 0] rfl)
abbrev rmX8_will : Room := { frames := 2, cells := 0, slots := 0, locals := 45 }
set_option maxHeartbeats 4000000 in
set_option maxRecDepth 100000 in
theorem c_X8_will (l : Launch) (D : va_G) (k : Nat → ClassId) (mh mrSt mrNow mrIsKept mrDraft mrTape mrRow mrRode mrWays mrLanes mrSizes mrCells mrBefore : Nat) (sz : Nat) (mSt : (Nat → Int32)) (mNow : (Nat → Int32)) (mIsKept : (Nat → Int32)) (mPeople : Int32) (mDraft : (Nat → Int32)) (mDPeople : Int32) (mHasDry : Int32) (mToldDebts : Int32) (mHighest : Int32) (mTape : (Nat → Int32)) (mTaped : Int32) (mPos : Int32) (mBegun : Int32) (mSort : Int32) (mValue : Int32) (mFault : Int32) (mWrongAt : Int32) (mPaid : Int32) (mRow : (Nat → Int32)) (mRingMuch : Int32) (mRideSum : Int64) (mOwedSum : Int64) (mAllWays : Int64) (mRode : (Nat → Int32)) (mWays : (Nat → Int32)) (mLanes : (Nat → Int32)) (mSizes : (Nat → Int32)) (mCells : (Nat → Int32)) (mTorn : Int32) (mBefore : (Nat → Int32)) (p1 : Int32) (r_ : Int32) (hf : f_X8_will mNow mPeople p1 = some r_) : mR l yX8_will wsX8_will rmX8_will D k sz [.ref mh, .int p1] (wX8 k mh mrSt mrNow mrIsKept mrDraft mrTape mrRow mrRode mrWays mrLanes mrSizes mrCells mrBefore mSt mNow mIsKept mPeople mDraft mDPeople mHasDry mToldDebts mHighest mTape mTaped mPos mBegun mSort mValue mFault mWrongAt mPaid mRow mRingMuch mRideSum mOwedSum mAllWays mRode mWays mLanes mSizes mCells mTorn mBefore) (wX8 k mh mrSt mrNow mrIsKept mrDraft mrTape mrRow mrRode mrWays mrLanes mrSizes mrCells mrBefore mSt mNow mIsKept mPeople mDraft mDPeople mHasDry mToldDebts mHighest mTape mTaped mPos mBegun mSort mValue mFault mWrongAt mPaid mRow mRingMuch mRideSum mOwedSum mAllWays mRode mWays mLanes mSizes mCells mTorn mBefore) (some (.int r_)) := by
  refine mR_of (cc := cX8_will) (maxL := 3) (ret := some .int) (by decide) rfl (Nat.le_of_ble_eq_true rfl) [(0, .ref mh), (1, .int p1)] rfl ?_
  intro p e s m below meth c A ls args Q cx hK hA hw hl hQ
  have fx := cx.1
  obtain ⟨⟨hx, hb, hml, hown, hts⟩, hr, hlocks⟩ := cx
  have h := hf
  unfold f_X8_will at h
  clear hf
  refine lv_aload_n hx hb dX8_will_0 rfl (lv_at hl 0 rfl) ?_
  refine lv_iload_n hx hb dX8_will_1 rfl (lv_at hl 1 rfl) ?_
  refine lv_iconst (v := 1) hx hb dX8_will_2 (by decide) ?_
  obtain ⟨r_1, hf, h⟩ := b1_inv h
  refine k_callV (host := "") fx hK hA hw (c_X8_of l D k mh mrSt mrNow mrIsKept mrDraft mrTape mrRow mrRode mrWays mrLanes mrSizes mrCells mrBefore _ mSt mNow mIsKept mPeople mDraft mDPeople mHasDry mToldDebts mHighest mTape mTaped mPos mBegun mSort mValue mFault mWrongAt mPaid mRow mRingMuch mRideSum mOwedSum mAllWays mRode mWays mLanes mSizes mCells mTorn mBefore p1 1 r_1 hf) (cwV 2 hts gX8_will_X8_of rfl rfl rfl (by decide +kernel) ⟨by decide, by decide⟩) (As := [.int p1, .int 1]) (wr := []) (ws' := wX8 k mh mrSt mrNow mrIsKept mrDraft mrTape mrRow mrRode mrWays mrLanes mrSizes mrCells mrBefore mSt mNow mIsKept mPeople mDraft mDPeople mHasDry mToldDebts mHighest mTape mTaped mPos mBegun mSort mValue mFault mWrongAt mPaid mRow mRingMuch mRideSum mOwedSum mAllWays mRode mWays mLanes mSizes mCells mTorn mBefore) [0, 1, 2, 3, 4, 5, 6, 7, 8, 9, 10, 11, 12] [] [0, 1, 2, 3, 4, 5, 6, 7, 8, 9, 10, 11, 12] rfl rfl (by decide) (by decide) (by decide) rfl (by decide) 8 rfl rfl [] rfl hl.1 rfl (Nat.le_of_ble_eq_true rfl) dX8_will_3 ⟨by decide, by decide⟩ (fun H locs (hw : Wd D A s.heap H locs (wX8 k mh mrSt mrNow mrIsKept mrDraft mrTape mrRow mrRode mrWays mrLanes mrSizes mrCells mrBefore mSt mNow mIsKept mPeople mDraft mDPeople mHasDry mToldDebts mHighest mTape mTaped mPos mBegun mSort mValue mFault mWrongAt mPaid mRow mRingMuch mRideSum mOwedSum mAllWays mRode mWays mLanes mSizes mCells mTorn mBefore)) => ?_)
  refine W.eq (g2 := F0 m 6 ls ([.int r_1])) rfl ?_
  refine lv_istore_n (lv' := [(2, .int r_1), (0, .ref mh), (1, .int p1)]) hx hb dX8_will_6 rfl hl (by decide) rfl (fun ls hl => ?_)
  refine lv_aload_n hx hb dX8_will_7 rfl (lv_at hl 1 rfl) ?_
  refine lv_iload_n hx hb dX8_will_8 rfl (lv_at hl 2 rfl) ?_
  refine lv_iconst (v := 0) hx hb dX8_will_9 (by decide) ?_
  obtain ⟨r_2, hf, h⟩ := b1_inv h
  refine k_callV (host := "") fx hK hA hw (c_X8_of l D k mh mrSt mrNow mrIsKept mrDraft mrTape mrRow mrRode mrWays mrLanes mrSizes mrCells mrBefore _ mSt mNow mIsKept mPeople mDraft mDPeople mHasDry mToldDebts mHighest mTape mTaped mPos mBegun mSort mValue mFault mWrongAt mPaid mRow mRingMuch mRideSum mOwedSum mAllWays mRode mWays mLanes mSizes mCells mTorn mBefore p1 0 r_2 hf) (cwV 2 hts gX8_will_X8_of rfl rfl rfl (by decide +kernel) ⟨by decide, by decide⟩) (As := [.int p1, .int 0]) (wr := []) (ws' := wX8 k mh mrSt mrNow mrIsKept mrDraft mrTape mrRow mrRode mrWays mrLanes mrSizes mrCells mrBefore mSt mNow mIsKept mPeople mDraft mDPeople mHasDry mToldDebts mHighest mTape mTaped mPos mBegun mSort mValue mFault mWrongAt mPaid mRow mRingMuch mRideSum mOwedSum mAllWays mRode mWays mLanes mSizes mCells mTorn mBefore) [0, 1, 2, 3, 4, 5, 6, 7, 8, 9, 10, 11, 12] [] [0, 1, 2, 3, 4, 5, 6, 7, 8, 9, 10, 11, 12] rfl rfl (by decide) (by decide) (by decide) rfl (by decide) 8 rfl rfl [] rfl hl.1 rfl (Nat.le_of_ble_eq_true rfl) dX8_will_10 ⟨by decide, by decide⟩ (fun H locs (hw : Wd D A s.heap H locs (wX8 k mh mrSt mrNow mrIsKept mrDraft mrTape mrRow mrRode mrWays mrLanes mrSizes mrCells mrBefore mSt mNow mIsKept mPeople mDraft mDPeople mHasDry mToldDebts mHighest mTape mTaped mPos mBegun mSort mValue mFault mWrongAt mPaid mRow mRingMuch mRideSum mOwedSum mAllWays mRode mWays mLanes mSizes mCells mTorn mBefore)) => ?_)
  refine W.eq (g2 := F0 m 13 ls ([.int r_2])) rfl ?_
  by_cases c13_1 : r_2 = 1
  · rw [if_pos c13_1] at h
    refine lv_tableIn (off := 27) (tgt := 40) hx hb dX8_will_13 (by rw [c13_1]; decide) (by rw [c13_1]; decide) (by rw [c13_1]; rfl) (by decide) ?_
    refine lv_iload_n hx hb dX8_will_40 rfl (lv_at hl 0 rfl) ?_
    refine lv_iconst (v := 2) hx hb dX8_will_41 (by decide) ?_
    refine lv_idiv hx hb dX8_will_42 (by decide) ?_
    cases h
    exact k_iret hx hb hr hlocks hw rfl dX8_will_43 hQ
  · rw [if_neg c13_1] at h
    by_cases c13_2 : r_2 = 2
    · rw [if_pos c13_2] at h
      refine lv_tableIn (off := 31) (tgt := 44) hx hb dX8_will_13 (by rw [c13_2]; decide) (by rw [c13_2]; decide) (by rw [c13_2]; rfl) (by decide) ?_
      refine lv_iload_n hx hb dX8_will_44 rfl (lv_at hl 0 rfl) ?_
      refine lv_iconst (v := 4) hx hb dX8_will_45 (by decide) ?_
      refine lv_idiv hx hb dX8_will_46 (by decide) ?_
      cases h
      exact k_iret hx hb hr hlocks hw rfl dX8_will_47 hQ
    · rw [if_neg c13_2] at h
      by_cases c13_3 : r_2 = 3
      · rw [if_pos c13_3] at h
        refine lv_tableIn (off := 35) (tgt := 48) hx hb dX8_will_13 (by rw [c13_3]; decide) (by rw [c13_3]; decide) (by rw [c13_3]; rfl) (by decide) ?_
        refine lv_aload_n hx hb dX8_will_48 rfl (lv_at hl 1 rfl) ?_
        refine lv_iload_n hx hb dX8_will_49 rfl (lv_at hl 2 rfl) ?_
        obtain ⟨r_3, hf, h⟩ := b1_inv h
        refine k_callV (host := "") fx hK hA hw (c_X8_owesAll l D k mh mrSt mrNow mrIsKept mrDraft mrTape mrRow mrRode mrWays mrLanes mrSizes mrCells mrBefore _ mSt mNow mIsKept mPeople mDraft mDPeople mHasDry mToldDebts mHighest mTape mTaped mPos mBegun mSort mValue mFault mWrongAt mPaid mRow mRingMuch mRideSum mOwedSum mAllWays mRode mWays mLanes mSizes mCells mTorn mBefore p1 r_3 hf) (cwV 1 hts gX8_will_X8_owesAll rfl rfl rfl (by decide +kernel) ⟨by decide, by decide⟩) (As := [.int p1]) (wr := []) (ws' := wX8 k mh mrSt mrNow mrIsKept mrDraft mrTape mrRow mrRode mrWays mrLanes mrSizes mrCells mrBefore mSt mNow mIsKept mPeople mDraft mDPeople mHasDry mToldDebts mHighest mTape mTaped mPos mBegun mSort mValue mFault mWrongAt mPaid mRow mRingMuch mRideSum mOwedSum mAllWays mRode mWays mLanes mSizes mCells mTorn mBefore) [0, 1, 2, 3, 4, 5, 6, 7, 8, 9, 10, 11, 12] [] [0, 1, 2, 3, 4, 5, 6, 7, 8, 9, 10, 11, 12] rfl rfl (by decide) (by decide) (by decide) rfl (by decide) 8 rfl rfl [] rfl hl.1 rfl (Nat.le_of_ble_eq_true rfl) dX8_will_50 ⟨by decide, by decide⟩ (fun H locs (hw : Wd D A s.heap H locs (wX8 k mh mrSt mrNow mrIsKept mrDraft mrTape mrRow mrRode mrWays mrLanes mrSizes mrCells mrBefore mSt mNow mIsKept mPeople mDraft mDPeople mHasDry mToldDebts mHighest mTape mTaped mPos mBegun mSort mValue mFault mWrongAt mPaid mRow mRingMuch mRideSum mOwedSum mAllWays mRode mWays mLanes mSizes mCells mTorn mBefore)) => ?_)
        refine W.eq (g2 := F0 m 53 ls ([.int r_3])) rfl ?_
        refine lv_bipush (v := 10) hx hb dX8_will_53 (by decide) ?_
        refine kb_icmp_lt (tgt := 64) hx hb dX8_will_55 (by decide) h (fun c_55 h => ?_) (fun c_55 h => ?_)
        · refine lv_iconst (v := 0) hx hb dX8_will_64 (by decide) ?_
          cases h
          exact k_iret hx hb hr hlocks hw rfl dX8_will_65 hQ
        · refine lv_iload_n hx hb dX8_will_58 rfl (lv_at hl 0 rfl) ?_
          refine lv_iconst (v := 2) hx hb dX8_will_59 (by decide) ?_
          refine lv_idiv hx hb dX8_will_60 (by decide) ?_
          refine lv_goto (tgt := 65) hx hb dX8_will_61 (by decide) ?_
          cases h
          exact k_iret hx hb hr hlocks hw rfl dX8_will_65 hQ
      · rw [if_neg c13_3] at h
        refine lv_tableOut (tgt := 66) hx hb dX8_will_13 (by have q1 : r_2.toInt ≠ 1 := sw_ne c13_1; have q2 : r_2.toInt ≠ 2 := sw_ne c13_2; have q3 : r_2.toInt ≠ 3 := sw_ne c13_3; omega) (by decide) ?_
        refine lv_iload_n hx hb dX8_will_66 rfl (lv_at hl 0 rfl) ?_
        cases h
        exact k_iret hx hb hr hlocks hw rfl dX8_will_67 hQ
abbrev rmX8_paysTo : Room := { frames := 2, cells := 0, slots := 0, locals := 45 }
set_option maxHeartbeats 4000000 in
set_option maxRecDepth 100000 in
theorem c_X8_paysTo (l : Launch) (D : va_G) (k : Nat → ClassId) (mh mrSt mrNow mrIsKept mrDraft mrTape mrRow mrRode mrWays mrLanes mrSizes mrCells mrBefore : Nat) (sz : Nat) (mSt : (Nat → Int32)) (mNow : (Nat → Int32)) (mIsKept : (Nat → Int32)) (mPeople : Int32) (mDraft : (Nat → Int32)) (mDPeople : Int32) (mHasDry : Int32) (mToldDebts : Int32) (mHighest : Int32) (mTape : (Nat → Int32)) (mTaped : Int32) (mPos : Int32) (mBegun : Int32) (mSort : Int32) (mValue : Int32) (mFault : Int32) (mWrongAt : Int32) (mPaid : Int32) (mRow : (Nat → Int32)) (mRingMuch : Int32) (mRideSum : Int64) (mOwedSum : Int64) (mAllWays : Int64) (mRode : (Nat → Int32)) (mWays : (Nat → Int32)) (mLanes : (Nat → Int32)) (mSizes : (Nat → Int32)) (mCells : (Nat → Int32)) (mTorn : Int32) (mBefore : (Nat → Int32)) (p1 : Int32) (p2 : Int32) (p3 : Int32) (n_mNow : (Nat → Int32)) (hf : f_X8_paysTo mNow p1 p2 p3 = some n_mNow) : mR l yX8_paysTo wsX8_paysTo rmX8_paysTo D k sz [.ref mh, .int p1, .int p2, .int p3] (wX8 k mh mrSt mrNow mrIsKept mrDraft mrTape mrRow mrRode mrWays mrLanes mrSizes mrCells mrBefore mSt mNow mIsKept mPeople mDraft mDPeople mHasDry mToldDebts mHighest mTape mTaped mPos mBegun mSort mValue mFault mWrongAt mPaid mRow mRingMuch mRideSum mOwedSum mAllWays mRode mWays mLanes mSizes mCells mTorn mBefore) (wX8 k mh mrSt mrNow mrIsKept mrDraft mrTape mrRow mrRode mrWays mrLanes mrSizes mrCells mrBefore mSt n_mNow mIsKept mPeople mDraft mDPeople mHasDry mToldDebts mHighest mTape mTaped mPos mBegun mSort mValue mFault mWrongAt mPaid mRow mRingMuch mRideSum mOwedSum mAllWays mRode mWays mLanes mSizes mCells mTorn mBefore) (none) := by
  refine mR_of (cc := cX8_paysTo) (maxL := 4) (ret := none) (by decide) rfl (Nat.le_of_ble_eq_true rfl) [(0, .ref mh), (1, .int p1), (2, .int p2), (3, .int p3)] rfl ?_
  intro p e s m below meth c A ls args Q cx hK hA hw hl hQ
  have fx := cx.1
  obtain ⟨⟨hx, hb, hml, hown, hts⟩, hr, hlocks⟩ := cx
  have hinX8 : ∀ w ∈ wsX80, w ∈ wsX8_paysTo := fun w h => List.mem_cons_of_mem _ (List.mem_append_right _ h)
  have q_1 := hts (.fieldLink RX8 13 "DebtRidesModel" "now" "[I") (List.mem_of_getElem? (i := 1) rfl)
  have h := hf
  unfold f_X8_paysTo at h
  clear hf
  refine lv_aload_n hx hb dX8_paysTo_0 rfl (lv_at hl 0 rfl) ?_
  refine va_get (ci := 8) (v := .ref mrNow) (C := RX8) (T := TX8) (N := 30) hx hb hts hinX8 hown hK.1 hw.1 0 rfl rfl 1 (by decide) q_1 (fun _ h9 => h9) rfl dX8_paysTo_1 ?_
  refine lv_bipush (v := 15) hx hb dX8_paysTo_4 (by decide) ?_
  refine lv_iconst (v := 5) hx hb dX8_paysTo_6 (by decide) ?_
  refine lv_iload_n hx hb dX8_paysTo_7 rfl (lv_at hl 1 rfl) ?_
  refine lv_imul hx hb dX8_paysTo_8 ?_
  refine lv_iadd hx hb dX8_paysTo_9 ?_
  refine lv_iload_n hx hb dX8_paysTo_10 rfl (lv_at hl 2 rfl) ?_
  refine lv_iadd hx hb dX8_paysTo_11 ?_
  refine lv_dup2_11 hx hb dX8_paysTo_12 rfl rfl ?_
  refine k_iald hx hb hK hw 2 rfl dX8_paysTo_13 h (fun a_1 h => ?_)
  refine lv_iload_n hx hb dX8_paysTo_14 rfl (lv_at hl 3 rfl) ?_
  refine lv_isub hx hb dX8_paysTo_15 ?_
  refine k_iast hx hb hK hw 2 rfl dX8_paysTo_16 h (fun mNow_2 h H locs (hw : Wd D A s.heap H locs (wX8 k mh mrSt mrNow mrIsKept mrDraft mrTape mrRow mrRode mrWays mrLanes mrSizes mrCells mrBefore mSt mNow_2 mIsKept mPeople mDraft mDPeople mHasDry mToldDebts mHighest mTape mTaped mPos mBegun mSort mValue mFault mWrongAt mPaid mRow mRingMuch mRideSum mOwedSum mAllWays mRode mWays mLanes mSizes mCells mTorn mBefore)) => ?_)
  refine lv_aload_n hx hb dX8_paysTo_17 rfl (lv_at hl 0 rfl) ?_
  refine lv_iload_n hx hb dX8_paysTo_18 rfl (lv_at hl 1 rfl) ?_
  refine lv_iconst (v := 1) hx hb dX8_paysTo_19 (by decide) ?_
  refine lv_aload_n hx hb dX8_paysTo_20 rfl (lv_at hl 0 rfl) ?_
  refine lv_iload_n hx hb dX8_paysTo_21 rfl (lv_at hl 1 rfl) ?_
  refine lv_iconst (v := 1) hx hb dX8_paysTo_22 (by decide) ?_
  obtain ⟨r_3, hf, h⟩ := b1_inv h
  refine k_callV (host := "") fx hK hA hw (c_X8_of l D k mh mrSt mrNow mrIsKept mrDraft mrTape mrRow mrRode mrWays mrLanes mrSizes mrCells mrBefore _ mSt mNow_2 mIsKept mPeople mDraft mDPeople mHasDry mToldDebts mHighest mTape mTaped mPos mBegun mSort mValue mFault mWrongAt mPaid mRow mRingMuch mRideSum mOwedSum mAllWays mRode mWays mLanes mSizes mCells mTorn mBefore p1 1 r_3 hf) (cwV 2 hts gX8_paysTo_X8_of rfl rfl rfl (by decide +kernel) ⟨by decide, by decide⟩) (As := [.int p1, .int 1]) (wr := []) (ws' := wX8 k mh mrSt mrNow mrIsKept mrDraft mrTape mrRow mrRode mrWays mrLanes mrSizes mrCells mrBefore mSt mNow_2 mIsKept mPeople mDraft mDPeople mHasDry mToldDebts mHighest mTape mTaped mPos mBegun mSort mValue mFault mWrongAt mPaid mRow mRingMuch mRideSum mOwedSum mAllWays mRode mWays mLanes mSizes mCells mTorn mBefore) [0, 1, 2, 3, 4, 5, 6, 7, 8, 9, 10, 11, 12] [] [0, 1, 2, 3, 4, 5, 6, 7, 8, 9, 10, 11, 12] rfl rfl (by decide) (by decide) (by decide) rfl (by decide) 8 rfl rfl [.int 1, .int p1, .ref mh] rfl hl.1 rfl (Nat.le_of_ble_eq_true rfl) dX8_paysTo_23 ⟨by decide, by decide⟩ (fun H locs (hw : Wd D A s.heap H locs (wX8 k mh mrSt mrNow mrIsKept mrDraft mrTape mrRow mrRode mrWays mrLanes mrSizes mrCells mrBefore mSt mNow_2 mIsKept mPeople mDraft mDPeople mHasDry mToldDebts mHighest mTape mTaped mPos mBegun mSort mValue mFault mWrongAt mPaid mRow mRingMuch mRideSum mOwedSum mAllWays mRode mWays mLanes mSizes mCells mTorn mBefore)) => ?_)
  refine W.eq (g2 := F0 m 26 ls ([.int r_3, .int 1, .int p1, .ref mh])) rfl ?_
  refine lv_iload_n hx hb dX8_paysTo_26 rfl (lv_at hl 3 rfl) ?_
  refine lv_isub hx hb dX8_paysTo_27 ?_
  obtain ⟨mNow_4, hf, h⟩ := b1_inv h
  refine k_callV (host := "") fx hK hA hw (c_X8_becomesOf l D k mh mrSt mrNow mrIsKept mrDraft mrTape mrRow mrRode mrWays mrLanes mrSizes mrCells mrBefore _ mSt mNow_2 mIsKept mPeople mDraft mDPeople mHasDry mToldDebts mHighest mTape mTaped mPos mBegun mSort mValue mFault mWrongAt mPaid mRow mRingMuch mRideSum mOwedSum mAllWays mRode mWays mLanes mSizes mCells mTorn mBefore p1 1 (r_3 - p3) mNow_4 hf) (cwV 3 hts gX8_paysTo_X8_becomesOf rfl rfl rfl (by decide +kernel) ⟨by decide, by decide⟩) (As := [.int p1, .int 1, .int (r_3 - p3)]) (wr := []) (ws' := wX8 k mh mrSt mrNow mrIsKept mrDraft mrTape mrRow mrRode mrWays mrLanes mrSizes mrCells mrBefore mSt mNow_4 mIsKept mPeople mDraft mDPeople mHasDry mToldDebts mHighest mTape mTaped mPos mBegun mSort mValue mFault mWrongAt mPaid mRow mRingMuch mRideSum mOwedSum mAllWays mRode mWays mLanes mSizes mCells mTorn mBefore) [0, 1, 2, 3, 4, 5, 6, 7, 8, 9, 10, 11, 12] [] [0, 1, 2, 3, 4, 5, 6, 7, 8, 9, 10, 11, 12] rfl rfl (by decide) (by decide) (by decide) rfl (by decide) 8 rfl rfl [] rfl hl.1 rfl (Nat.le_of_ble_eq_true rfl) dX8_paysTo_28 ⟨by decide, by decide⟩ (fun H locs (hw : Wd D A s.heap H locs (wX8 k mh mrSt mrNow mrIsKept mrDraft mrTape mrRow mrRode mrWays mrLanes mrSizes mrCells mrBefore mSt mNow_4 mIsKept mPeople mDraft mDPeople mHasDry mToldDebts mHighest mTape mTaped mPos mBegun mSort mValue mFault mWrongAt mPaid mRow mRingMuch mRideSum mOwedSum mAllWays mRode mWays mLanes mSizes mCells mTorn mBefore)) => ?_)
  refine W.eq (g2 := F0 m 31 ls ([])) rfl ?_
  refine lv_aload_n hx hb dX8_paysTo_31 rfl (lv_at hl 0 rfl) ?_
  refine lv_iload_n hx hb dX8_paysTo_32 rfl (lv_at hl 2 rfl) ?_
  refine lv_iload_n hx hb dX8_paysTo_33 rfl (lv_at hl 3 rfl) ?_
  obtain ⟨mNow_5, hf, h⟩ := b1_inv h
  refine k_callV (host := "") fx hK hA hw (c_X8_gets l D k mh mrSt mrNow mrIsKept mrDraft mrTape mrRow mrRode mrWays mrLanes mrSizes mrCells mrBefore _ mSt mNow_4 mIsKept mPeople mDraft mDPeople mHasDry mToldDebts mHighest mTape mTaped mPos mBegun mSort mValue mFault mWrongAt mPaid mRow mRingMuch mRideSum mOwedSum mAllWays mRode mWays mLanes mSizes mCells mTorn mBefore p2 p3 mNow_5 hf) (cwV 2 hts gX8_paysTo_X8_gets rfl rfl rfl (by decide +kernel) ⟨by decide, by decide⟩) (As := [.int p2, .int p3]) (wr := []) (ws' := wX8 k mh mrSt mrNow mrIsKept mrDraft mrTape mrRow mrRode mrWays mrLanes mrSizes mrCells mrBefore mSt mNow_5 mIsKept mPeople mDraft mDPeople mHasDry mToldDebts mHighest mTape mTaped mPos mBegun mSort mValue mFault mWrongAt mPaid mRow mRingMuch mRideSum mOwedSum mAllWays mRode mWays mLanes mSizes mCells mTorn mBefore) [0, 1, 2, 3, 4, 5, 6, 7, 8, 9, 10, 11, 12] [] [0, 1, 2, 3, 4, 5, 6, 7, 8, 9, 10, 11, 12] rfl rfl (by decide) (by decide) (by decide) rfl (by decide) 8 rfl rfl [] rfl hl.1 rfl (Nat.le_of_ble_eq_true rfl) dX8_paysTo_34 ⟨by decide, by decide⟩ (fun H locs (hw : Wd D A s.heap H locs (wX8 k mh mrSt mrNow mrIsKept mrDraft mrTape mrRow mrRode mrWays mrLanes mrSizes mrCells mrBefore mSt mNow_5 mIsKept mPeople mDraft mDPeople mHasDry mToldDebts mHighest mTape mTaped mPos mBegun mSort mValue mFault mWrongAt mPaid mRow mRingMuch mRideSum mOwedSum mAllWays mRode mWays mLanes mSizes mCells mTorn mBefore)) => ?_)
  refine W.eq (g2 := F0 m 37 ls ([])) rfl ?_
  cases h
  exact k_vret hx hb hr hlocks hw dX8_paysTo_37 hQ
abbrev rmX8_dayGoes : Room := { frames := 3, cells := 0, slots := 0, locals := 68 }
set_option maxHeartbeats 4000000 in
set_option maxRecDepth 100000 in
theorem c_X8_dayGoes (l : Launch) (D : va_G) (k : Nat → ClassId) (mh mrSt mrNow mrIsKept mrDraft mrTape mrRow mrRode mrWays mrLanes mrSizes mrCells mrBefore : Nat) (sz : Nat) (mSt : (Nat → Int32)) (mNow : (Nat → Int32)) (mIsKept : (Nat → Int32)) (mPeople : Int32) (mDraft : (Nat → Int32)) (mDPeople : Int32) (mHasDry : Int32) (mToldDebts : Int32) (mHighest : Int32) (mTape : (Nat → Int32)) (mTaped : Int32) (mPos : Int32) (mBegun : Int32) (mSort : Int32) (mValue : Int32) (mFault : Int32) (mWrongAt : Int32) (mPaid : Int32) (mRow : (Nat → Int32)) (mRingMuch : Int32) (mRideSum : Int64) (mOwedSum : Int64) (mAllWays : Int64) (mRode : (Nat → Int32)) (mWays : (Nat → Int32)) (mLanes : (Nat → Int32)) (mSizes : (Nat → Int32)) (mCells : (Nat → Int32)) (mTorn : Int32) (mBefore : (Nat → Int32)) (n_mNow : (Nat → Int32)) (n_mPaid : Int32) (hf : f_X8_dayGoes mNow mPeople mPaid = some (n_mNow, n_mPaid)) : mR l yX8_dayGoes wsX8_dayGoes rmX8_dayGoes D k sz [.ref mh] (wX8 k mh mrSt mrNow mrIsKept mrDraft mrTape mrRow mrRode mrWays mrLanes mrSizes mrCells mrBefore mSt mNow mIsKept mPeople mDraft mDPeople mHasDry mToldDebts mHighest mTape mTaped mPos mBegun mSort mValue mFault mWrongAt mPaid mRow mRingMuch mRideSum mOwedSum mAllWays mRode mWays mLanes mSizes mCells mTorn mBefore) (wX8 k mh mrSt mrNow mrIsKept mrDraft mrTape mrRow mrRode mrWays mrLanes mrSizes mrCells mrBefore mSt n_mNow mIsKept mPeople mDraft mDPeople mHasDry mToldDebts mHighest mTape mTaped mPos mBegun mSort mValue mFault mWrongAt n_mPaid mRow mRingMuch mRideSum mOwedSum mAllWays mRode mWays mLanes mSizes mCells mTorn mBefore) (none) := by
  refine mR_of (cc := cX8_dayGoes) (maxL := 5) (ret := none) (by decide) rfl (Nat.le_of_ble_eq_true rfl) [(0, .ref mh)] rfl ?_
  intro p e s m below meth c A ls args Q cx hK hA hw hl hQ
  have fx := cx.1
  obtain ⟨⟨hx, hb, hml, hown, hts⟩, hr, hlocks⟩ := cx
  have hinX8 : ∀ w ∈ wsX80, w ∈ wsX8_dayGoes := fun w h => List.mem_cons_of_mem _ (List.mem_append_right _ h)
  have q_1 := hts (.fieldLink RX8 67 "DebtRidesModel" "people" "I") (List.mem_of_getElem? (i := 1) rfl)
  have q_2 := hts (.fieldLink RX8 13 "DebtRidesModel" "now" "[I") (List.mem_of_getElem? (i := 2) rfl)
  have q_3 := hts (.fieldLink RX8 178 "DebtRidesModel" "paid" "I") (List.mem_of_getElem? (i := 3) rfl)
  have h := hf
  unfold f_X8_dayGoes at h
  clear hf
  refine lv_iconst (v := 0) hx hb dX8_dayGoes_0 (by decide) ?_
  refine lv_istore_n (lv' := [(1, .int 0), (0, .ref mh)]) hx hb dX8_dayGoes_1 rfl hl (by decide) rfl (fun ls hl => ?_)
  obtain ⟨mNow_3, hL_2, h⟩ := b1_inv h
  have X_2 : ∀ (H : Heap) (locs : List Loc) (ls : Array Slot), Wd D A s.heap H locs (wX8 k mh mrSt mrNow mrIsKept mrDraft mrTape mrRow mrRode mrWays mrLanes mrSizes mrCells mrBefore mSt mNow_3 mIsKept mPeople mDraft mDPeople mHasDry mToldDebts mHighest mTape mTaped mPos mBegun mSort mValue mFault mWrongAt mPaid mRow mRingMuch mRideSum mOwedSum mAllWays mRode mWays mLanes mSizes mCells mTorn mBefore) → lv_has ls 5 [(0, .ref mh)] → W p l e rmX8_dayGoes s m args below meth c H locs 0 0 Q (F0 m 45 ls []) := by
    intro H locs ls hw hl
    refine lv_iconst (v := 0) hx hb dX8_dayGoes_45 (by decide) ?_
    refine lv_istore_n (lv' := [(1, .int 0), (0, .ref mh)]) hx hb dX8_dayGoes_46 rfl hl (by decide) rfl (fun ls hl => ?_)
    obtain ⟨mNow_11, mPaid_12, hL_47, h⟩ := b2_inv h
    have X_47 : ∀ (H : Heap) (locs : List Loc) (ls : Array Slot), Wd D A s.heap H locs (wX8 k mh mrSt mrNow mrIsKept mrDraft mrTape mrRow mrRode mrWays mrLanes mrSizes mrCells mrBefore mSt mNow_11 mIsKept mPeople mDraft mDPeople mHasDry mToldDebts mHighest mTape mTaped mPos mBegun mSort mValue mFault mWrongAt mPaid_12 mRow mRingMuch mRideSum mOwedSum mAllWays mRode mWays mLanes mSizes mCells mTorn mBefore) → lv_has ls 5 [(0, .ref mh)] → W p l e rmX8_dayGoes s m args below meth c H locs 0 0 Q (F0 m 124 ls []) := by
      intro H locs ls hw hl
      refine lv_aload_n hx hb dX8_dayGoes_124 rfl (lv_at hl 0 rfl) ?_
      refine va_get (ci := 8) (v := .ref mrNow) (C := RX8) (T := TX8) (N := 30) hx hb hts hinX8 hown hK.1 hw.1 0 rfl rfl 1 (by decide) q_2 (fun _ h9 => h9) rfl dX8_dayGoes_125 ?_
      refine lv_bipush (v := 40) hx hb dX8_dayGoes_128 (by decide) ?_
      refine lv_dup2_11 hx hb dX8_dayGoes_130 rfl rfl ?_
      refine k_iald hx hb hK hw 2 rfl dX8_dayGoes_131 h (fun a_23 h => ?_)
      refine lv_iconst (v := 1) hx hb dX8_dayGoes_132 (by decide) ?_
      refine lv_iadd hx hb dX8_dayGoes_133 ?_
      refine k_iast hx hb hK hw 2 rfl dX8_dayGoes_134 h (fun mNow_24 h H locs (hw : Wd D A s.heap H locs (wX8 k mh mrSt mrNow mrIsKept mrDraft mrTape mrRow mrRode mrWays mrLanes mrSizes mrCells mrBefore mSt mNow_24 mIsKept mPeople mDraft mDPeople mHasDry mToldDebts mHighest mTape mTaped mPos mBegun mSort mValue mFault mWrongAt mPaid_12 mRow mRingMuch mRideSum mOwedSum mAllWays mRode mWays mLanes mSizes mCells mTorn mBefore)) => ?_)
      cases h
      exact k_vret hx hb hr hlocks hw dX8_dayGoes_135 hQ
    clear h
    have LP_47 : ∀ (n : Nat) (v1_8 : Int32) (mNow_9 : (Nat → Int32)) (mPaid_10 : Int32), f_X8_dayGoes_L47 mPeople n v1_8 mNow_9 mPaid_10 = some (mNow_11, mPaid_12) → ∀ (H : Heap) (locs : List Loc) (ls : Array Slot), Wd D A s.heap H locs (wX8 k mh mrSt mrNow mrIsKept mrDraft mrTape mrRow mrRode mrWays mrLanes mrSizes mrCells mrBefore mSt mNow_9 mIsKept mPeople mDraft mDPeople mHasDry mToldDebts mHighest mTape mTaped mPos mBegun mSort mValue mFault mWrongAt mPaid_10 mRow mRingMuch mRideSum mOwedSum mAllWays mRode mWays mLanes mSizes mCells mTorn mBefore) → lv_has ls 5 [(0, .ref mh), (1, .int v1_8)] → W p l e rmX8_dayGoes s m args below meth c H locs 0 0 Q (F0 m 47 ls []) := by
      clear hL_47 hw hl
      intro n
      induction n with
      | zero => intro v1_8 mNow_9 mPaid_10 h; rw [f_X8_dayGoes_L47] at h; cases h
      | succ n ih =>
        intro v1_8 mNow_9 mPaid_10 h H locs ls hw hl
        rw [f_X8_dayGoes_L47] at h
        refine lv_iload_n hx hb dX8_dayGoes_47 rfl (lv_at hl 1 rfl) ?_
        refine lv_aload_n hx hb dX8_dayGoes_48 rfl (lv_at hl 0 rfl) ?_
        refine va_get (ci := 8) (v := .int mPeople) (C := RX8) (T := TX8) (N := 30) hx hb hts hinX8 hown hK.1 hw.1 0 rfl rfl 3 (by decide) q_1 (fun _ h9 => h9) rfl dX8_dayGoes_49 ?_
        refine kb_icmp_ge (tgt := 124) hx hb dX8_dayGoes_52 (by decide) h (fun c_52 h => ?_) (fun c_52 h => ?_)
        · cases h
          exact X_47 _ _ _ hw (lv_sub hl [0] rfl)
        · refine lv_aload_n hx hb dX8_dayGoes_55 rfl (lv_at hl 0 rfl) ?_
          refine lv_iload_n hx hb dX8_dayGoes_56 rfl (lv_at hl 1 rfl) ?_
          obtain ⟨r_13, hf, h⟩ := b1_inv h
          refine k_callV (host := "") fx hK hA hw (c_X8_will l D k mh mrSt mrNow mrIsKept mrDraft mrTape mrRow mrRode mrWays mrLanes mrSizes mrCells mrBefore _ mSt mNow_9 mIsKept mPeople mDraft mDPeople mHasDry mToldDebts mHighest mTape mTaped mPos mBegun mSort mValue mFault mWrongAt mPaid_10 mRow mRingMuch mRideSum mOwedSum mAllWays mRode mWays mLanes mSizes mCells mTorn mBefore v1_8 r_13 hf) (cwV 1 hts gX8_dayGoes_X8_will rfl rfl rfl (by decide +kernel) ⟨by decide, by decide⟩) (As := [.int v1_8]) (wr := []) (ws' := wX8 k mh mrSt mrNow mrIsKept mrDraft mrTape mrRow mrRode mrWays mrLanes mrSizes mrCells mrBefore mSt mNow_9 mIsKept mPeople mDraft mDPeople mHasDry mToldDebts mHighest mTape mTaped mPos mBegun mSort mValue mFault mWrongAt mPaid_10 mRow mRingMuch mRideSum mOwedSum mAllWays mRode mWays mLanes mSizes mCells mTorn mBefore) [0, 1, 2, 3, 4, 5, 6, 7, 8, 9, 10, 11, 12] [] [0, 1, 2, 3, 4, 5, 6, 7, 8, 9, 10, 11, 12] rfl rfl (by decide) (by decide) (by decide) rfl (by decide) 8 rfl rfl [] rfl hl.1 rfl (Nat.le_of_ble_eq_true rfl) dX8_dayGoes_57 ⟨by decide, by decide⟩ (fun H locs (hw : Wd D A s.heap H locs (wX8 k mh mrSt mrNow mrIsKept mrDraft mrTape mrRow mrRode mrWays mrLanes mrSizes mrCells mrBefore mSt mNow_9 mIsKept mPeople mDraft mDPeople mHasDry mToldDebts mHighest mTape mTaped mPos mBegun mSort mValue mFault mWrongAt mPaid_10 mRow mRingMuch mRideSum mOwedSum mAllWays mRode mWays mLanes mSizes mCells mTorn mBefore)) => ?_)
          refine W.eq (g2 := F0 m 60 ls ([.int r_13])) rfl ?_
          refine lv_istore_n (lv' := [(2, .int r_13), (0, .ref mh), (1, .int v1_8)]) hx hb dX8_dayGoes_60 rfl hl (by decide) rfl (fun ls hl => ?_)
          refine lv_iconst (v := 0) hx hb dX8_dayGoes_61 (by decide) ?_
          refine lv_istore_n (lv' := [(3, .int 0), (2, .int r_13), (0, .ref mh), (1, .int v1_8)]) hx hb dX8_dayGoes_62 rfl hl (by decide) rfl (fun ls hl => ?_)
          obtain ⟨mNow_18, mPaid_19, hL_63, h⟩ := b2_inv h
          have X_63 : ∀ (H : Heap) (locs : List Loc) (ls : Array Slot), Wd D A s.heap H locs (wX8 k mh mrSt mrNow mrIsKept mrDraft mrTape mrRow mrRode mrWays mrLanes mrSizes mrCells mrBefore mSt mNow_18 mIsKept mPeople mDraft mDPeople mHasDry mToldDebts mHighest mTape mTaped mPos mBegun mSort mValue mFault mWrongAt mPaid_19 mRow mRingMuch mRideSum mOwedSum mAllWays mRode mWays mLanes mSizes mCells mTorn mBefore) → lv_has ls 5 [(0, .ref mh), (1, .int v1_8)] → W p l e rmX8_dayGoes s m args below meth c H locs 0 0 Q (F0 m 118 ls []) := by
            intro H locs ls hw hl
            refine lv_iinc (v := v1_8 + 1) (lv' := [(1, .int (v1_8 + 1)), (0, .ref mh)]) hx hb dX8_dayGoes_118 hl (k := 1) rfl rfl (by decide) rfl (fun ls hl => ?_)
            refine lv_goto (tgt := 47) hx hb dX8_dayGoes_121 (by decide) ?_
            exact ih _ _ _ h _ _ _ hw (lv_sub hl [1, 0] rfl)
          clear h
          have LP_63 : ∀ (n : Nat) (v2_14 : Int32) (v3_15 : Int32) (mNow_16 : (Nat → Int32)) (mPaid_17 : Int32), f_X8_dayGoes_L63 mPeople v1_8 n v2_14 v3_15 mNow_16 mPaid_17 = some (mNow_18, mPaid_19) → ∀ (H : Heap) (locs : List Loc) (ls : Array Slot), Wd D A s.heap H locs (wX8 k mh mrSt mrNow mrIsKept mrDraft mrTape mrRow mrRode mrWays mrLanes mrSizes mrCells mrBefore mSt mNow_16 mIsKept mPeople mDraft mDPeople mHasDry mToldDebts mHighest mTape mTaped mPos mBegun mSort mValue mFault mWrongAt mPaid_17 mRow mRingMuch mRideSum mOwedSum mAllWays mRode mWays mLanes mSizes mCells mTorn mBefore) → lv_has ls 5 [(0, .ref mh), (1, .int v1_8), (2, .int v2_14), (3, .int v3_15)] → W p l e rmX8_dayGoes s m args below meth c H locs 0 0 Q (F0 m 63 ls []) := by
            clear hL_63 hw hl
            intro n
            induction n with
            | zero => intro v2_14 v3_15 mNow_16 mPaid_17 h; rw [f_X8_dayGoes_L63] at h; cases h
            | succ n ih =>
              intro v2_14 v3_15 mNow_16 mPaid_17 h H locs ls hw hl
              rw [f_X8_dayGoes_L63] at h
              refine lv_iload_n hx hb dX8_dayGoes_63 rfl (lv_at hl 3 rfl) ?_
              refine lv_aload_n hx hb dX8_dayGoes_64 rfl (lv_at hl 0 rfl) ?_
              refine va_get (ci := 8) (v := .int mPeople) (C := RX8) (T := TX8) (N := 30) hx hb hts hinX8 hown hK.1 hw.1 0 rfl rfl 3 (by decide) q_1 (fun _ h9 => h9) rfl dX8_dayGoes_65 ?_
              refine kb_icmp_ge (tgt := 118) hx hb dX8_dayGoes_68 (by decide) h (fun c_68 h => ?_) (fun c_68 h => ?_)
              · cases h
                exact X_63 _ _ _ hw (lv_sub hl [0, 1] rfl)
              · refine lv_iload_n hx hb dX8_dayGoes_71 rfl (lv_at hl 2 rfl) ?_
                refine lv_aload_n hx hb dX8_dayGoes_72 rfl (lv_at hl 0 rfl) ?_
                refine lv_iload_n hx hb dX8_dayGoes_73 rfl (lv_at hl 1 rfl) ?_
                refine lv_iload_n hx hb dX8_dayGoes_74 rfl (lv_at hl 3 rfl) ?_
                obtain ⟨r_20, hf, h⟩ := b1_inv h
                refine k_callV (host := "") fx hK hA hw (c_X8_debt l D k mh mrSt mrNow mrIsKept mrDraft mrTape mrRow mrRode mrWays mrLanes mrSizes mrCells mrBefore _ mSt mNow_16 mIsKept mPeople mDraft mDPeople mHasDry mToldDebts mHighest mTape mTaped mPos mBegun mSort mValue mFault mWrongAt mPaid_17 mRow mRingMuch mRideSum mOwedSum mAllWays mRode mWays mLanes mSizes mCells mTorn mBefore v1_8 v3_15 r_20 hf) (cwV 2 hts gX8_dayGoes_X8_debt rfl rfl rfl (by decide +kernel) ⟨by decide, by decide⟩) (As := [.int v1_8, .int v3_15]) (wr := []) (ws' := wX8 k mh mrSt mrNow mrIsKept mrDraft mrTape mrRow mrRode mrWays mrLanes mrSizes mrCells mrBefore mSt mNow_16 mIsKept mPeople mDraft mDPeople mHasDry mToldDebts mHighest mTape mTaped mPos mBegun mSort mValue mFault mWrongAt mPaid_17 mRow mRingMuch mRideSum mOwedSum mAllWays mRode mWays mLanes mSizes mCells mTorn mBefore) [0, 1, 2, 3, 4, 5, 6, 7, 8, 9, 10, 11, 12] [] [0, 1, 2, 3, 4, 5, 6, 7, 8, 9, 10, 11, 12] rfl rfl (by decide) (by decide) (by decide) rfl (by decide) 8 rfl rfl [.int v2_14] rfl hl.1 rfl (Nat.le_of_ble_eq_true rfl) dX8_dayGoes_75 ⟨by decide, by decide⟩ (fun H locs (hw : Wd D A s.heap H locs (wX8 k mh mrSt mrNow mrIsKept mrDraft mrTape mrRow mrRode mrWays mrLanes mrSizes mrCells mrBefore mSt mNow_16 mIsKept mPeople mDraft mDPeople mHasDry mToldDebts mHighest mTape mTaped mPos mBegun mSort mValue mFault mWrongAt mPaid_17 mRow mRingMuch mRideSum mOwedSum mAllWays mRode mWays mLanes mSizes mCells mTorn mBefore)) => ?_)
                refine W.eq (g2 := F0 m 78 ls ([.int r_20, .int v2_14])) rfl ?_
                obtain ⟨r_21, hf, h⟩ := b1_inv h
                refine k_callS (b := 0) (C := "") (host := "") fx hK hA hw (c_X8_lesser l D k _ v2_14 r_20 r_21 hf) (va_cwS 2 hts gX8_dayGoes_X8_lesser rfl rfl rfl (by decide +kernel) ⟨by decide, by decide⟩) (As := [.int v2_14, .int r_20]) (wr := [(mh, .inr (8, [.ref mrSt, .ref mrNow, .ref mrIsKept, .int mPeople, .ref mrDraft, .int mDPeople, .int mHasDry, .int mToldDebts, .int mHighest, .ref mrTape, .int mTaped, .int mPos, .int mBegun, .int mSort, .int mValue, .int mFault, .int mWrongAt, .int mPaid_17, .ref mrRow, .int mRingMuch, .long mRideSum, .long mOwedSum, .long mAllWays, .ref mrRode, .ref mrWays, .ref mrLanes, .ref mrSizes, .ref mrCells, .int mTorn, .ref mrBefore])), (mrSt, .inl (k 0, 183, .inl mSt)), (mrNow, .inl (k 0, 61, .inl mNow_16)), (mrIsKept, .inl (k 1, 2, .inl mIsKept)), (mrDraft, .inl (k 0, 61, .inl mDraft)), (mrTape, .inl (k 0, 160, .inl mTape)), (mrRow, .inl (k 0, 5, .inl mRow)), (mrRode, .inl (k 0, 31, .inl mRode)), (mrWays, .inl (k 0, 31, .inl mWays)), (mrLanes, .inl (k 0, 4, .inl mLanes)), (mrSizes, .inl (k 0, 4, .inl mSizes)), (mrCells, .inl (k 0, 160, .inl mCells)), (mrBefore, .inl (k 0, 61, .inl mBefore))]) (ws' := wX8 k mh mrSt mrNow mrIsKept mrDraft mrTape mrRow mrRode mrWays mrLanes mrSizes mrCells mrBefore mSt mNow_16 mIsKept mPeople mDraft mDPeople mHasDry mToldDebts mHighest mTape mTaped mPos mBegun mSort mValue mFault mWrongAt mPaid_17 mRow mRingMuch mRideSum mOwedSum mAllWays mRode mWays mLanes mSizes mCells mTorn mBefore) [] [0, 1, 2, 3, 4, 5, 6, 7, 8, 9, 10, 11, 12] [0, 1, 2, 3, 4, 5, 6, 7, 8, 9, 10, 11, 12] rfl rfl (by decide) (by decide) (by decide) rfl (by decide) [] rfl hl.1 rfl (Nat.le_of_ble_eq_true rfl) dX8_dayGoes_78 ⟨by decide, by decide⟩ (fun H locs (hw : Wd D A s.heap H locs (wX8 k mh mrSt mrNow mrIsKept mrDraft mrTape mrRow mrRode mrWays mrLanes mrSizes mrCells mrBefore mSt mNow_16 mIsKept mPeople mDraft mDPeople mHasDry mToldDebts mHighest mTape mTaped mPos mBegun mSort mValue mFault mWrongAt mPaid_17 mRow mRingMuch mRideSum mOwedSum mAllWays mRode mWays mLanes mSizes mCells mTorn mBefore)) => ?_)
                refine W.eq (g2 := F0 m 81 ls ([.int r_21])) rfl ?_
                refine lv_istore (lv' := [(4, .int r_21), (0, .ref mh), (1, .int v1_8), (2, .int v2_14), (3, .int v3_15)]) hx hb dX8_dayGoes_81 hl (by decide) rfl (fun ls hl => ?_)
                refine lv_iload hx hb dX8_dayGoes_83 (lv_at hl 0 rfl) ?_
                refine kb_if_le (tgt := 112) hx hb dX8_dayGoes_85 (by decide) h (fun c_85 h => ?_) (fun c_85 h => ?_)
                · refine lv_iinc (v := v3_15 + 1) (lv' := [(3, .int (v3_15 + 1)), (4, .int r_21), (0, .ref mh), (1, .int v1_8), (2, .int v2_14)]) hx hb dX8_dayGoes_112 hl (k := 4) rfl rfl (by decide) rfl (fun ls hl => ?_)
                  refine lv_goto (tgt := 63) hx hb dX8_dayGoes_115 (by decide) ?_
                  exact ih _ _ _ _ h _ _ _ hw (lv_sub hl [2, 3, 4, 0] rfl)
                · refine lv_aload_n hx hb dX8_dayGoes_88 rfl (lv_at hl 1 rfl) ?_
                  refine lv_iload_n hx hb dX8_dayGoes_89 rfl (lv_at hl 2 rfl) ?_
                  refine lv_iload_n hx hb dX8_dayGoes_90 rfl (lv_at hl 4 rfl) ?_
                  refine lv_iload hx hb dX8_dayGoes_91 (lv_at hl 0 rfl) ?_
                  obtain ⟨mNow_22, hf, h⟩ := b1_inv h
                  refine k_callV (host := "") fx hK hA hw (c_X8_paysTo l D k mh mrSt mrNow mrIsKept mrDraft mrTape mrRow mrRode mrWays mrLanes mrSizes mrCells mrBefore _ mSt mNow_16 mIsKept mPeople mDraft mDPeople mHasDry mToldDebts mHighest mTape mTaped mPos mBegun mSort mValue mFault mWrongAt mPaid_17 mRow mRingMuch mRideSum mOwedSum mAllWays mRode mWays mLanes mSizes mCells mTorn mBefore v1_8 v3_15 r_21 mNow_22 hf) (cwV 3 hts gX8_dayGoes_X8_paysTo rfl rfl rfl (by decide +kernel) ⟨by decide, by decide⟩) (As := [.int v1_8, .int v3_15, .int r_21]) (wr := []) (ws' := wX8 k mh mrSt mrNow mrIsKept mrDraft mrTape mrRow mrRode mrWays mrLanes mrSizes mrCells mrBefore mSt mNow_22 mIsKept mPeople mDraft mDPeople mHasDry mToldDebts mHighest mTape mTaped mPos mBegun mSort mValue mFault mWrongAt mPaid_17 mRow mRingMuch mRideSum mOwedSum mAllWays mRode mWays mLanes mSizes mCells mTorn mBefore) [0, 1, 2, 3, 4, 5, 6, 7, 8, 9, 10, 11, 12] [] [0, 1, 2, 3, 4, 5, 6, 7, 8, 9, 10, 11, 12] rfl rfl (by decide) (by decide) (by decide) rfl (by decide) 8 rfl rfl [] rfl hl.1 rfl (Nat.le_of_ble_eq_true rfl) dX8_dayGoes_93 ⟨by decide, by decide⟩ (fun H locs (hw : Wd D A s.heap H locs (wX8 k mh mrSt mrNow mrIsKept mrDraft mrTape mrRow mrRode mrWays mrLanes mrSizes mrCells mrBefore mSt mNow_22 mIsKept mPeople mDraft mDPeople mHasDry mToldDebts mHighest mTape mTaped mPos mBegun mSort mValue mFault mWrongAt mPaid_17 mRow mRingMuch mRideSum mOwedSum mAllWays mRode mWays mLanes mSizes mCells mTorn mBefore)) => ?_)
                  refine W.eq (g2 := F0 m 96 ls ([])) rfl ?_
                  refine lv_iload_n hx hb dX8_dayGoes_96 rfl (lv_at hl 3 rfl) ?_
                  refine lv_iload hx hb dX8_dayGoes_97 (lv_at hl 0 rfl) ?_
                  refine lv_isub hx hb dX8_dayGoes_99 ?_
                  refine lv_istore_n (lv' := [(2, .int (v2_14 - r_21)), (4, .int r_21), (0, .ref mh), (1, .int v1_8), (3, .int v3_15)]) hx hb dX8_dayGoes_100 rfl hl (by decide) rfl (fun ls hl => ?_)
                  refine lv_aload_n hx hb dX8_dayGoes_101 rfl (lv_at hl 2 rfl) ?_
                  refine lv_dup hx hb dX8_dayGoes_102 rfl ?_
                  refine va_get (ci := 8) (v := .int mPaid_17) (C := RX8) (T := TX8) (N := 30) hx hb hts hinX8 hown hK.1 hw.1 0 rfl rfl 17 (by decide) q_3 (fun _ h9 => h9) rfl dX8_dayGoes_103 ?_
                  refine lv_iload hx hb dX8_dayGoes_106 (lv_at hl 1 rfl) ?_
                  refine lv_iadd hx hb dX8_dayGoes_108 ?_
                  refine va_put (ci := 8) (v := .int (mPaid_17 + r_21)) (ty := tyX8 17) (C := RX8) (T := TX8) (N := 30) hx hb hts hinX8 tyX8 tyX8_ok nmX8 hown hK.1 hw.1 hw.2.1 hw.2.2 0 rfl rfl 17 (by decide) q_3 (fun _ h9 => h9) rfl (tyX8_ok 17 (by decide)) rfl rfl (Nat.le_of_ble_eq_true rfl) dX8_dayGoes_109 (fun H locs hP hD hS => ?_)
                  have hw : Wd D A s.heap H locs (wX8 k mh mrSt mrNow mrIsKept mrDraft mrTape mrRow mrRode mrWays mrLanes mrSizes mrCells mrBefore mSt mNow_22 mIsKept mPeople mDraft mDPeople mHasDry mToldDebts mHighest mTape mTaped mPos mBegun mSort mValue mFault mWrongAt (mPaid_17 + r_21) mRow mRingMuch mRideSum mOwedSum mAllWays mRode mWays mLanes mSizes mCells mTorn mBefore) := ⟨hP, hD, hS⟩
                  refine lv_iinc (v := v3_15 + 1) (lv' := [(3, .int (v3_15 + 1)), (2, .int (v2_14 - r_21)), (4, .int r_21), (0, .ref mh), (1, .int v1_8)]) hx hb dX8_dayGoes_112 hl (k := 4) rfl rfl (by decide) rfl (fun ls hl => ?_)
                  refine lv_goto (tgt := 63) hx hb dX8_dayGoes_115 (by decide) ?_
                  exact ih _ _ _ _ h _ _ _ hw (lv_sub hl [3, 4, 1, 0] rfl)
          exact LP_63 400 r_13 0 mNow_9 mPaid_10 hL_63 _ _ _ hw (lv_sub hl [2, 3, 1, 0] rfl)
    exact LP_47 400 0 mNow_3 mPaid hL_47 _ _ _ hw (lv_sub hl [1, 0] rfl)
  clear h
  have LP_2 : ∀ (n : Nat) (v1_1 : Int32) (mNow_2 : (Nat → Int32)), f_X8_dayGoes_L2 mPeople n v1_1 mNow_2 = some mNow_3 → ∀ (H : Heap) (locs : List Loc) (ls : Array Slot), Wd D A s.heap H locs (wX8 k mh mrSt mrNow mrIsKept mrDraft mrTape mrRow mrRode mrWays mrLanes mrSizes mrCells mrBefore mSt mNow_2 mIsKept mPeople mDraft mDPeople mHasDry mToldDebts mHighest mTape mTaped mPos mBegun mSort mValue mFault mWrongAt mPaid mRow mRingMuch mRideSum mOwedSum mAllWays mRode mWays mLanes mSizes mCells mTorn mBefore) → lv_has ls 5 [(0, .ref mh), (1, .int v1_1)] → W p l e rmX8_dayGoes s m args below meth c H locs 0 0 Q (F0 m 2 ls []) := by
    clear hL_2 hw hl
    intro n
    induction n with
    | zero => intro v1_1 mNow_2 h; rw [f_X8_dayGoes_L2] at h; cases h
    | succ n ih =>
      intro v1_1 mNow_2 h H locs ls hw hl
      rw [f_X8_dayGoes_L2] at h
      refine lv_iload_n hx hb dX8_dayGoes_2 rfl (lv_at hl 1 rfl) ?_
      refine lv_aload_n hx hb dX8_dayGoes_3 rfl (lv_at hl 0 rfl) ?_
      refine va_get (ci := 8) (v := .int mPeople) (C := RX8) (T := TX8) (N := 30) hx hb hts hinX8 hown hK.1 hw.1 0 rfl rfl 3 (by decide) q_1 (fun _ h9 => h9) rfl dX8_dayGoes_4 ?_
      refine kb_icmp_ge (tgt := 45) hx hb dX8_dayGoes_7 (by decide) h (fun c_7 h => ?_) (fun c_7 h => ?_)
      · cases h
        exact X_2 _ _ _ hw (lv_sub hl [0] rfl)
      · refine lv_aload_n hx hb dX8_dayGoes_10 rfl (lv_at hl 0 rfl) ?_
        refine lv_iload_n hx hb dX8_dayGoes_11 rfl (lv_at hl 1 rfl) ?_
        refine lv_iconst (v := 2) hx hb dX8_dayGoes_12 (by decide) ?_
        obtain ⟨r_4, hf, h⟩ := b1_inv h
        refine k_callV (host := "") fx hK hA hw (c_X8_of l D k mh mrSt mrNow mrIsKept mrDraft mrTape mrRow mrRode mrWays mrLanes mrSizes mrCells mrBefore _ mSt mNow_2 mIsKept mPeople mDraft mDPeople mHasDry mToldDebts mHighest mTape mTaped mPos mBegun mSort mValue mFault mWrongAt mPaid mRow mRingMuch mRideSum mOwedSum mAllWays mRode mWays mLanes mSizes mCells mTorn mBefore v1_1 2 r_4 hf) (cwV 2 hts gX8_dayGoes_X8_of rfl rfl rfl (by decide +kernel) ⟨by decide, by decide⟩) (As := [.int v1_1, .int 2]) (wr := []) (ws' := wX8 k mh mrSt mrNow mrIsKept mrDraft mrTape mrRow mrRode mrWays mrLanes mrSizes mrCells mrBefore mSt mNow_2 mIsKept mPeople mDraft mDPeople mHasDry mToldDebts mHighest mTape mTaped mPos mBegun mSort mValue mFault mWrongAt mPaid mRow mRingMuch mRideSum mOwedSum mAllWays mRode mWays mLanes mSizes mCells mTorn mBefore) [0, 1, 2, 3, 4, 5, 6, 7, 8, 9, 10, 11, 12] [] [0, 1, 2, 3, 4, 5, 6, 7, 8, 9, 10, 11, 12] rfl rfl (by decide) (by decide) (by decide) rfl (by decide) 8 rfl rfl [] rfl hl.1 rfl (Nat.le_of_ble_eq_true rfl) dX8_dayGoes_13 ⟨by decide, by decide⟩ (fun H locs (hw : Wd D A s.heap H locs (wX8 k mh mrSt mrNow mrIsKept mrDraft mrTape mrRow mrRode mrWays mrLanes mrSizes mrCells mrBefore mSt mNow_2 mIsKept mPeople mDraft mDPeople mHasDry mToldDebts mHighest mTape mTaped mPos mBegun mSort mValue mFault mWrongAt mPaid mRow mRingMuch mRideSum mOwedSum mAllWays mRode mWays mLanes mSizes mCells mTorn mBefore)) => ?_)
        refine W.eq (g2 := F0 m 16 ls ([.int r_4])) rfl ?_
        refine lv_aload_n hx hb dX8_dayGoes_16 rfl (lv_at hl 0 rfl) ?_
        refine va_get (ci := 8) (v := .ref mrNow) (C := RX8) (T := TX8) (N := 30) hx hb hts hinX8 hown hK.1 hw.1 0 rfl rfl 1 (by decide) q_2 (fun _ h9 => h9) rfl dX8_dayGoes_17 ?_
        refine lv_bipush (v := 41) hx hb dX8_dayGoes_20 (by decide) ?_
        refine k_iald hx hb hK hw 2 rfl dX8_dayGoes_22 h (fun a_5 h => ?_)
        refine lv_isub hx hb dX8_dayGoes_23 ?_
        refine lv_istore_n (lv' := [(2, .int (r_4 - a_5)), (0, .ref mh), (1, .int v1_1)]) hx hb dX8_dayGoes_24 rfl hl (by decide) rfl (fun ls hl => ?_)
        refine lv_aload_n hx hb dX8_dayGoes_25 rfl (lv_at hl 1 rfl) ?_
        refine lv_iload_n hx hb dX8_dayGoes_26 rfl (lv_at hl 2 rfl) ?_
        refine lv_iload_n hx hb dX8_dayGoes_27 rfl (lv_at hl 0 rfl) ?_
        obtain ⟨t_6, hj_28, h⟩ := b1_inv h
        have J_28 : ∀ (H : Heap) (locs : List Loc) (ls : Array Slot), Wd D A s.heap H locs (wX8 k mh mrSt mrNow mrIsKept mrDraft mrTape mrRow mrRode mrWays mrLanes mrSizes mrCells mrBefore mSt mNow_2 mIsKept mPeople mDraft mDPeople mHasDry mToldDebts mHighest mTape mTaped mPos mBegun mSort mValue mFault mWrongAt mPaid mRow mRingMuch mRideSum mOwedSum mAllWays mRode mWays mLanes mSizes mCells mTorn mBefore) → lv_has ls 5 [(0, .ref mh), (1, .int v1_1)] → W p l e rmX8_dayGoes s m args below meth c H locs 0 0 Q (F0 m 36 ls [.int t_6, .int v1_1, .ref mh]) := by
          intro H locs ls hw hl
          obtain ⟨mNow_7, hf, h⟩ := b1_inv h
          refine k_callV (host := "") fx hK hA hw (c_X8_gets l D k mh mrSt mrNow mrIsKept mrDraft mrTape mrRow mrRode mrWays mrLanes mrSizes mrCells mrBefore _ mSt mNow_2 mIsKept mPeople mDraft mDPeople mHasDry mToldDebts mHighest mTape mTaped mPos mBegun mSort mValue mFault mWrongAt mPaid mRow mRingMuch mRideSum mOwedSum mAllWays mRode mWays mLanes mSizes mCells mTorn mBefore v1_1 t_6 mNow_7 hf) (cwV 2 hts gX8_dayGoes_X8_gets rfl rfl rfl (by decide +kernel) ⟨by decide, by decide⟩) (As := [.int v1_1, .int t_6]) (wr := []) (ws' := wX8 k mh mrSt mrNow mrIsKept mrDraft mrTape mrRow mrRode mrWays mrLanes mrSizes mrCells mrBefore mSt mNow_7 mIsKept mPeople mDraft mDPeople mHasDry mToldDebts mHighest mTape mTaped mPos mBegun mSort mValue mFault mWrongAt mPaid mRow mRingMuch mRideSum mOwedSum mAllWays mRode mWays mLanes mSizes mCells mTorn mBefore) [0, 1, 2, 3, 4, 5, 6, 7, 8, 9, 10, 11, 12] [] [0, 1, 2, 3, 4, 5, 6, 7, 8, 9, 10, 11, 12] rfl rfl (by decide) (by decide) (by decide) rfl (by decide) 8 rfl rfl [] rfl hl.1 rfl (Nat.le_of_ble_eq_true rfl) dX8_dayGoes_36 ⟨by decide, by decide⟩ (fun H locs (hw : Wd D A s.heap H locs (wX8 k mh mrSt mrNow mrIsKept mrDraft mrTape mrRow mrRode mrWays mrLanes mrSizes mrCells mrBefore mSt mNow_7 mIsKept mPeople mDraft mDPeople mHasDry mToldDebts mHighest mTape mTaped mPos mBegun mSort mValue mFault mWrongAt mPaid mRow mRingMuch mRideSum mOwedSum mAllWays mRode mWays mLanes mSizes mCells mTorn mBefore)) => ?_)
          refine W.eq (g2 := F0 m 39 ls ([])) rfl ?_
          refine lv_iinc (v := v1_1 + 1) (lv' := [(1, .int (v1_1 + 1)), (0, .ref mh)]) hx hb dX8_dayGoes_39 hl (k := 1) rfl rfl (by decide) rfl (fun ls hl => ?_)
          refine lv_goto (tgt := 2) hx hb dX8_dayGoes_42 (by decide) ?_
          exact ih _ _ h _ _ _ hw (lv_sub hl [1, 0] rfl)
        clear h
        have h := hj_28
        refine kb_if_le (tgt := 35) hx hb dX8_dayGoes_28 (by decide) h (fun c_28 h => ?_) (fun c_28 h => ?_)
        · refine lv_iconst (v := 0) hx hb dX8_dayGoes_35 (by decide) ?_
          cases h
          exact J_28 _ _ _ hw (lv_sub hl [1, 2] rfl)
        · refine lv_iload_n hx hb dX8_dayGoes_31 rfl (lv_at hl 0 rfl) ?_
          refine lv_goto (tgt := 36) hx hb dX8_dayGoes_32 (by decide) ?_
          cases h
          exact J_28 _ _ _ hw (lv_sub hl [1, 2] rfl)
  exact LP_2 400 0 mNow hL_2 _ _ _ hw (lv_sub hl [1, 0] rfl)
abbrev rmX8_daysGo : Room := { frames := 4, cells := 0, slots := 0, locals := 92 }
set_option maxHeartbeats 4000000 in
set_option maxRecDepth 100000 in
theorem c_X8_daysGo (l : Launch) (D : va_G) (k : Nat → ClassId) (mh mrSt mrNow mrIsKept mrDraft mrTape mrRow mrRode mrWays mrLanes mrSizes mrCells mrBefore : Nat) (sz : Nat) (mSt : (Nat → Int32)) (mNow : (Nat → Int32)) (mIsKept : (Nat → Int32)) (mPeople : Int32) (mDraft : (Nat → Int32)) (mDPeople : Int32) (mHasDry : Int32) (mToldDebts : Int32) (mHighest : Int32) (mTape : (Nat → Int32)) (mTaped : Int32) (mPos : Int32) (mBegun : Int32) (mSort : Int32) (mValue : Int32) (mFault : Int32) (mWrongAt : Int32) (mPaid : Int32) (mRow : (Nat → Int32)) (mRingMuch : Int32) (mRideSum : Int64) (mOwedSum : Int64) (mAllWays : Int64) (mRode : (Nat → Int32)) (mWays : (Nat → Int32)) (mLanes : (Nat → Int32)) (mSizes : (Nat → Int32)) (mCells : (Nat → Int32)) (mTorn : Int32) (mBefore : (Nat → Int32)) (p1 : Int32) (n_mNow : (Nat → Int32)) (n_mPaid : Int32) (hf : f_X8_daysGo mNow mPeople p1 = some (n_mNow, n_mPaid)) : mR l yX8_daysGo wsX8_daysGo rmX8_daysGo D k sz [.ref mh, .int p1] (wX8 k mh mrSt mrNow mrIsKept mrDraft mrTape mrRow mrRode mrWays mrLanes mrSizes mrCells mrBefore mSt mNow mIsKept mPeople mDraft mDPeople mHasDry mToldDebts mHighest mTape mTaped mPos mBegun mSort mValue mFault mWrongAt mPaid mRow mRingMuch mRideSum mOwedSum mAllWays mRode mWays mLanes mSizes mCells mTorn mBefore) (wX8 k mh mrSt mrNow mrIsKept mrDraft mrTape mrRow mrRode mrWays mrLanes mrSizes mrCells mrBefore mSt n_mNow mIsKept mPeople mDraft mDPeople mHasDry mToldDebts mHighest mTape mTaped mPos mBegun mSort mValue mFault mWrongAt n_mPaid mRow mRingMuch mRideSum mOwedSum mAllWays mRode mWays mLanes mSizes mCells mTorn mBefore) (none) := by
  refine mR_of (cc := cX8_daysGo) (maxL := 3) (ret := none) (by decide) rfl (Nat.le_of_ble_eq_true rfl) [(0, .ref mh), (1, .int p1)] rfl ?_
  intro p e s m below meth c A ls args Q cx hK hA hw hl hQ
  have fx := cx.1
  obtain ⟨⟨hx, hb, hml, hown, hts⟩, hr, hlocks⟩ := cx
  have hinX8 : ∀ w ∈ wsX80, w ∈ wsX8_daysGo := fun w h => List.mem_cons_of_mem _ (List.mem_append_right _ h)
  have q_1 := hts (.fieldLink RX8 178 "DebtRidesModel" "paid" "I") (List.mem_of_getElem? (i := 1) rfl)
  have h := hf
  unfold f_X8_daysGo at h
  clear hf
  refine lv_aload_n hx hb dX8_daysGo_0 rfl (lv_at hl 0 rfl) ?_
  refine lv_iconst (v := 0) hx hb dX8_daysGo_1 (by decide) ?_
  refine va_put (ci := 8) (v := .int 0) (ty := tyX8 17) (C := RX8) (T := TX8) (N := 30) hx hb hts hinX8 tyX8 tyX8_ok nmX8 hown hK.1 hw.1 hw.2.1 hw.2.2 0 rfl rfl 17 (by decide) q_1 (fun _ h9 => h9) rfl (tyX8_ok 17 (by decide)) rfl rfl (Nat.le_of_ble_eq_true rfl) dX8_daysGo_2 (fun H locs hP hD hS => ?_)
  have hw : Wd D A s.heap H locs (wX8 k mh mrSt mrNow mrIsKept mrDraft mrTape mrRow mrRode mrWays mrLanes mrSizes mrCells mrBefore mSt mNow mIsKept mPeople mDraft mDPeople mHasDry mToldDebts mHighest mTape mTaped mPos mBegun mSort mValue mFault mWrongAt 0 mRow mRingMuch mRideSum mOwedSum mAllWays mRode mWays mLanes mSizes mCells mTorn mBefore) := ⟨hP, hD, hS⟩
  refine lv_iconst (v := 0) hx hb dX8_daysGo_5 (by decide) ?_
  refine lv_istore_n (lv' := [(2, .int 0), (0, .ref mh), (1, .int p1)]) hx hb dX8_daysGo_6 rfl hl (by decide) rfl (fun ls hl => ?_)
  obtain ⟨mNow_4, mPaid_5, hL_7, h⟩ := b2_inv h
  have X_7 : ∀ (H : Heap) (locs : List Loc) (ls : Array Slot), Wd D A s.heap H locs (wX8 k mh mrSt mrNow mrIsKept mrDraft mrTape mrRow mrRode mrWays mrLanes mrSizes mrCells mrBefore mSt mNow_4 mIsKept mPeople mDraft mDPeople mHasDry mToldDebts mHighest mTape mTaped mPos mBegun mSort mValue mFault mWrongAt mPaid_5 mRow mRingMuch mRideSum mOwedSum mAllWays mRode mWays mLanes mSizes mCells mTorn mBefore) → lv_has ls 3 [] → W p l e rmX8_daysGo s m args below meth c H locs 0 0 Q (F0 m 22 ls []) := by
    intro H locs ls hw hl
    cases h
    exact k_vret hx hb hr hlocks hw dX8_daysGo_22 hQ
  clear h
  have LP_7 : ∀ (n : Nat) (v2_1 : Int32) (mNow_2 : (Nat → Int32)) (mPaid_3 : Int32), f_X8_daysGo_L7 mPeople p1 n v2_1 mNow_2 mPaid_3 = some (mNow_4, mPaid_5) → ∀ (H : Heap) (locs : List Loc) (ls : Array Slot), Wd D A s.heap H locs (wX8 k mh mrSt mrNow mrIsKept mrDraft mrTape mrRow mrRode mrWays mrLanes mrSizes mrCells mrBefore mSt mNow_2 mIsKept mPeople mDraft mDPeople mHasDry mToldDebts mHighest mTape mTaped mPos mBegun mSort mValue mFault mWrongAt mPaid_3 mRow mRingMuch mRideSum mOwedSum mAllWays mRode mWays mLanes mSizes mCells mTorn mBefore) → lv_has ls 3 [(0, .ref mh), (1, .int p1), (2, .int v2_1)] → W p l e rmX8_daysGo s m args below meth c H locs 0 0 Q (F0 m 7 ls []) := by
    clear hL_7 hw hl
    intro n
    induction n with
    | zero => intro v2_1 mNow_2 mPaid_3 h; rw [f_X8_daysGo_L7] at h; cases h
    | succ n ih =>
      intro v2_1 mNow_2 mPaid_3 h H locs ls hw hl
      rw [f_X8_daysGo_L7] at h
      refine lv_iload_n hx hb dX8_daysGo_7 rfl (lv_at hl 2 rfl) ?_
      refine lv_iload_n hx hb dX8_daysGo_8 rfl (lv_at hl 1 rfl) ?_
      refine kb_icmp_ge (tgt := 22) hx hb dX8_daysGo_9 (by decide) h (fun c_9 h => ?_) (fun c_9 h => ?_)
      · cases h
        exact X_7 _ _ _ hw (lv_sub hl [] rfl)
      · refine lv_aload_n hx hb dX8_daysGo_12 rfl (lv_at hl 0 rfl) ?_
        obtain ⟨mNow_6, mPaid_7, hf, h⟩ := b2_inv h
        refine k_callV (host := "") fx hK hA hw (c_X8_dayGoes l D k mh mrSt mrNow mrIsKept mrDraft mrTape mrRow mrRode mrWays mrLanes mrSizes mrCells mrBefore _ mSt mNow_2 mIsKept mPeople mDraft mDPeople mHasDry mToldDebts mHighest mTape mTaped mPos mBegun mSort mValue mFault mWrongAt mPaid_3 mRow mRingMuch mRideSum mOwedSum mAllWays mRode mWays mLanes mSizes mCells mTorn mBefore mNow_6 mPaid_7 hf) (cwV 0 hts gX8_daysGo_X8_dayGoes rfl rfl rfl (by decide +kernel) ⟨by decide, by decide⟩) (As := []) (wr := []) (ws' := wX8 k mh mrSt mrNow mrIsKept mrDraft mrTape mrRow mrRode mrWays mrLanes mrSizes mrCells mrBefore mSt mNow_6 mIsKept mPeople mDraft mDPeople mHasDry mToldDebts mHighest mTape mTaped mPos mBegun mSort mValue mFault mWrongAt mPaid_7 mRow mRingMuch mRideSum mOwedSum mAllWays mRode mWays mLanes mSizes mCells mTorn mBefore) [0, 1, 2, 3, 4, 5, 6, 7, 8, 9, 10, 11, 12] [] [0, 1, 2, 3, 4, 5, 6, 7, 8, 9, 10, 11, 12] rfl rfl (by decide) (by decide) (by decide) rfl (by decide) 8 rfl rfl [] rfl hl.1 rfl (Nat.le_of_ble_eq_true rfl) dX8_daysGo_13 ⟨by decide, by decide⟩ (fun H locs (hw : Wd D A s.heap H locs (wX8 k mh mrSt mrNow mrIsKept mrDraft mrTape mrRow mrRode mrWays mrLanes mrSizes mrCells mrBefore mSt mNow_6 mIsKept mPeople mDraft mDPeople mHasDry mToldDebts mHighest mTape mTaped mPos mBegun mSort mValue mFault mWrongAt mPaid_7 mRow mRingMuch mRideSum mOwedSum mAllWays mRode mWays mLanes mSizes mCells mTorn mBefore)) => ?_)
        refine W.eq (g2 := F0 m 16 ls ([])) rfl ?_
        refine lv_iinc (v := v2_1 + 1) (lv' := [(2, .int (v2_1 + 1)), (0, .ref mh), (1, .int p1)]) hx hb dX8_daysGo_16 hl (k := 2) rfl rfl (by decide) rfl (fun ls hl => ?_)
        refine lv_goto (tgt := 7) hx hb dX8_daysGo_19 (by decide) ?_
        exact ih _ _ _ h _ _ _ hw (lv_sub hl [1, 2, 0] rfl)
  exact LP_7 400 0 mNow 0 hL_7 _ _ _ hw (lv_sub hl [1, 2, 0] rfl)
abbrev rmX8_isOwed : Room := { frames := 1, cells := 0, slots := 0, locals := 22 }
set_option maxHeartbeats 4000000 in
set_option maxRecDepth 100000 in
theorem c_X8_isOwed (l : Launch) (D : va_G) (k : Nat → ClassId) (mh mrSt mrNow mrIsKept mrDraft mrTape mrRow mrRode mrWays mrLanes mrSizes mrCells mrBefore : Nat) (sz : Nat) (mSt : (Nat → Int32)) (mNow : (Nat → Int32)) (mIsKept : (Nat → Int32)) (mPeople : Int32) (mDraft : (Nat → Int32)) (mDPeople : Int32) (mHasDry : Int32) (mToldDebts : Int32) (mHighest : Int32) (mTape : (Nat → Int32)) (mTaped : Int32) (mPos : Int32) (mBegun : Int32) (mSort : Int32) (mValue : Int32) (mFault : Int32) (mWrongAt : Int32) (mPaid : Int32) (mRow : (Nat → Int32)) (mRingMuch : Int32) (mRideSum : Int64) (mOwedSum : Int64) (mAllWays : Int64) (mRode : (Nat → Int32)) (mWays : (Nat → Int32)) (mLanes : (Nat → Int32)) (mSizes : (Nat → Int32)) (mCells : (Nat → Int32)) (mTorn : Int32) (mBefore : (Nat → Int32)) (p1 : Int32) (r_ : Int32) (hf : f_X8_isOwed mNow mPeople p1 = some r_) : mR l yX8_isOwed wsX8_isOwed rmX8_isOwed D k sz [.ref mh, .int p1] (wX8 k mh mrSt mrNow mrIsKept mrDraft mrTape mrRow mrRode mrWays mrLanes mrSizes mrCells mrBefore mSt mNow mIsKept mPeople mDraft mDPeople mHasDry mToldDebts mHighest mTape mTaped mPos mBegun mSort mValue mFault mWrongAt mPaid mRow mRingMuch mRideSum mOwedSum mAllWays mRode mWays mLanes mSizes mCells mTorn mBefore) (wX8 k mh mrSt mrNow mrIsKept mrDraft mrTape mrRow mrRode mrWays mrLanes mrSizes mrCells mrBefore mSt mNow mIsKept mPeople mDraft mDPeople mHasDry mToldDebts mHighest mTape mTaped mPos mBegun mSort mValue mFault mWrongAt mPaid mRow mRingMuch mRideSum mOwedSum mAllWays mRode mWays mLanes mSizes mCells mTorn mBefore) (some (.int r_)) := by
  refine mR_of (cc := cX8_isOwed) (maxL := 4) (ret := some .int) (by decide) rfl (Nat.le_of_ble_eq_true rfl) [(0, .ref mh), (1, .int p1)] rfl ?_
  intro p e s m below meth c A ls args Q cx hK hA hw hl hQ
  have fx := cx.1
  obtain ⟨⟨hx, hb, hml, hown, hts⟩, hr, hlocks⟩ := cx
  have hinX8 : ∀ w ∈ wsX80, w ∈ wsX8_isOwed := fun w h => List.mem_cons_of_mem _ (List.mem_append_right _ h)
  have q_1 := hts (.fieldLink RX8 67 "DebtRidesModel" "people" "I") (List.mem_of_getElem? (i := 1) rfl)
  have h := hf
  unfold f_X8_isOwed at h
  clear hf
  refine lv_iconst (v := 0) hx hb dX8_isOwed_0 (by decide) ?_
  refine lv_istore_n (lv' := [(2, .int 0), (0, .ref mh), (1, .int p1)]) hx hb dX8_isOwed_1 rfl hl (by decide) rfl (fun ls hl => ?_)
  refine lv_iconst (v := 0) hx hb dX8_isOwed_2 (by decide) ?_
  refine lv_istore_n (lv' := [(3, .int 0), (2, .int 0), (0, .ref mh), (1, .int p1)]) hx hb dX8_isOwed_3 rfl hl (by decide) rfl (fun ls hl => ?_)
  obtain ⟨v2_3, hL_4, h⟩ := b1_inv h
  have X_4 : ∀ (H : Heap) (locs : List Loc) (ls : Array Slot), Wd D A s.heap H locs (wX8 k mh mrSt mrNow mrIsKept mrDraft mrTape mrRow mrRode mrWays mrLanes mrSizes mrCells mrBefore mSt mNow mIsKept mPeople mDraft mDPeople mHasDry mToldDebts mHighest mTape mTaped mPos mBegun mSort mValue mFault mWrongAt mPaid mRow mRingMuch mRideSum mOwedSum mAllWays mRode mWays mLanes mSizes mCells mTorn mBefore) → lv_has ls 4 [(2, .int v2_3)] → W p l e rmX8_isOwed s m args below meth c H locs 0 0 Q (F0 m 27 ls []) := by
    intro H locs ls hw hl
    refine lv_iload_n hx hb dX8_isOwed_27 rfl (lv_at hl 0 rfl) ?_
    cases h
    exact k_iret hx hb hr hlocks hw rfl dX8_isOwed_28 hQ
  clear h
  have LP_4 : ∀ (n : Nat) (v2_1 : Int32) (v3_2 : Int32), f_X8_isOwed_L4 mNow mPeople p1 n v2_1 v3_2 = some v2_3 → ∀ (H : Heap) (locs : List Loc) (ls : Array Slot), Wd D A s.heap H locs (wX8 k mh mrSt mrNow mrIsKept mrDraft mrTape mrRow mrRode mrWays mrLanes mrSizes mrCells mrBefore mSt mNow mIsKept mPeople mDraft mDPeople mHasDry mToldDebts mHighest mTape mTaped mPos mBegun mSort mValue mFault mWrongAt mPaid mRow mRingMuch mRideSum mOwedSum mAllWays mRode mWays mLanes mSizes mCells mTorn mBefore) → lv_has ls 4 [(0, .ref mh), (1, .int p1), (2, .int v2_1), (3, .int v3_2)] → W p l e rmX8_isOwed s m args below meth c H locs 0 0 Q (F0 m 4 ls []) := by
    clear hL_4 hw hl
    intro n
    induction n with
    | zero => intro v2_1 v3_2 h; rw [f_X8_isOwed_L4] at h; cases h
    | succ n ih =>
      intro v2_1 v3_2 h H locs ls hw hl
      rw [f_X8_isOwed_L4] at h
      refine lv_iload_n hx hb dX8_isOwed_4 rfl (lv_at hl 3 rfl) ?_
      refine lv_aload_n hx hb dX8_isOwed_5 rfl (lv_at hl 0 rfl) ?_
      refine va_get (ci := 8) (v := .int mPeople) (C := RX8) (T := TX8) (N := 30) hx hb hts hinX8 hown hK.1 hw.1 0 rfl rfl 3 (by decide) q_1 (fun _ h9 => h9) rfl dX8_isOwed_6 ?_
      refine kb_icmp_ge (tgt := 27) hx hb dX8_isOwed_9 (by decide) h (fun c_9 h => ?_) (fun c_9 h => ?_)
      · cases h
        exact X_4 _ _ _ hw (lv_sub hl [2] rfl)
      · refine lv_iload_n hx hb dX8_isOwed_12 rfl (lv_at hl 2 rfl) ?_
        refine lv_aload_n hx hb dX8_isOwed_13 rfl (lv_at hl 0 rfl) ?_
        refine lv_iload_n hx hb dX8_isOwed_14 rfl (lv_at hl 3 rfl) ?_
        refine lv_iload_n hx hb dX8_isOwed_15 rfl (lv_at hl 1 rfl) ?_
        obtain ⟨r_4, hf, h⟩ := b1_inv h
        refine k_callV (host := "") fx hK hA hw (c_X8_debt l D k mh mrSt mrNow mrIsKept mrDraft mrTape mrRow mrRode mrWays mrLanes mrSizes mrCells mrBefore _ mSt mNow mIsKept mPeople mDraft mDPeople mHasDry mToldDebts mHighest mTape mTaped mPos mBegun mSort mValue mFault mWrongAt mPaid mRow mRingMuch mRideSum mOwedSum mAllWays mRode mWays mLanes mSizes mCells mTorn mBefore v3_2 p1 r_4 hf) (cwV 2 hts gX8_isOwed_X8_debt rfl rfl rfl (by decide +kernel) ⟨by decide, by decide⟩) (As := [.int v3_2, .int p1]) (wr := []) (ws' := wX8 k mh mrSt mrNow mrIsKept mrDraft mrTape mrRow mrRode mrWays mrLanes mrSizes mrCells mrBefore mSt mNow mIsKept mPeople mDraft mDPeople mHasDry mToldDebts mHighest mTape mTaped mPos mBegun mSort mValue mFault mWrongAt mPaid mRow mRingMuch mRideSum mOwedSum mAllWays mRode mWays mLanes mSizes mCells mTorn mBefore) [0, 1, 2, 3, 4, 5, 6, 7, 8, 9, 10, 11, 12] [] [0, 1, 2, 3, 4, 5, 6, 7, 8, 9, 10, 11, 12] rfl rfl (by decide) (by decide) (by decide) rfl (by decide) 8 rfl rfl [.int v2_1] rfl hl.1 rfl (Nat.le_of_ble_eq_true rfl) dX8_isOwed_16 ⟨by decide, by decide⟩ (fun H locs (hw : Wd D A s.heap H locs (wX8 k mh mrSt mrNow mrIsKept mrDraft mrTape mrRow mrRode mrWays mrLanes mrSizes mrCells mrBefore mSt mNow mIsKept mPeople mDraft mDPeople mHasDry mToldDebts mHighest mTape mTaped mPos mBegun mSort mValue mFault mWrongAt mPaid mRow mRingMuch mRideSum mOwedSum mAllWays mRode mWays mLanes mSizes mCells mTorn mBefore)) => ?_)
        refine W.eq (g2 := F0 m 19 ls ([.int r_4, .int v2_1])) rfl ?_
        refine lv_iadd hx hb dX8_isOwed_19 ?_
        refine lv_istore_n (lv' := [(2, .int (v2_1 + r_4)), (0, .ref mh), (1, .int p1), (3, .int v3_2)]) hx hb dX8_isOwed_20 rfl hl (by decide) rfl (fun ls hl => ?_)
        refine lv_iinc (v := v3_2 + 1) (lv' := [(3, .int (v3_2 + 1)), (2, .int (v2_1 + r_4)), (0, .ref mh), (1, .int p1)]) hx hb dX8_isOwed_21 hl (k := 3) rfl rfl (by decide) rfl (fun ls hl => ?_)
        refine lv_goto (tgt := 4) hx hb dX8_isOwed_24 (by decide) ?_
        exact ih _ _ h _ _ _ hw (lv_sub hl [2, 3, 1, 0] rfl)
  exact LP_4 400 0 0 hL_4 _ _ _ hw (lv_sub hl [2, 3, 1, 0] rfl)
abbrev rmX8_height : Room := { frames := 2, cells := 0, slots := 0, locals := 45 }
set_option maxHeartbeats 4000000 in
set_option maxRecDepth 100000 in
theorem c_X8_height (l : Launch) (D : va_G) (k : Nat → ClassId) (mh mrSt mrNow mrIsKept mrDraft mrTape mrRow mrRode mrWays mrLanes mrSizes mrCells mrBefore : Nat) (sz : Nat) (mSt : (Nat → Int32)) (mNow : (Nat → Int32)) (mIsKept : (Nat → Int32)) (mPeople : Int32) (mDraft : (Nat → Int32)) (mDPeople : Int32) (mHasDry : Int32) (mToldDebts : Int32) (mHighest : Int32) (mTape : (Nat → Int32)) (mTaped : Int32) (mPos : Int32) (mBegun : Int32) (mSort : Int32) (mValue : Int32) (mFault : Int32) (mWrongAt : Int32) (mPaid : Int32) (mRow : (Nat → Int32)) (mRingMuch : Int32) (mRideSum : Int64) (mOwedSum : Int64) (mAllWays : Int64) (mRode : (Nat → Int32)) (mWays : (Nat → Int32)) (mLanes : (Nat → Int32)) (mSizes : (Nat → Int32)) (mCells : (Nat → Int32)) (mTorn : Int32) (mBefore : (Nat → Int32)) (p1 : Int32) (r_ : Int32) (hf : f_X8_height mNow mPeople p1 = some r_) : mR l yX8_height wsX8_height rmX8_height D k sz [.ref mh, .int p1] (wX8 k mh mrSt mrNow mrIsKept mrDraft mrTape mrRow mrRode mrWays mrLanes mrSizes mrCells mrBefore mSt mNow mIsKept mPeople mDraft mDPeople mHasDry mToldDebts mHighest mTape mTaped mPos mBegun mSort mValue mFault mWrongAt mPaid mRow mRingMuch mRideSum mOwedSum mAllWays mRode mWays mLanes mSizes mCells mTorn mBefore) (wX8 k mh mrSt mrNow mrIsKept mrDraft mrTape mrRow mrRode mrWays mrLanes mrSizes mrCells mrBefore mSt mNow mIsKept mPeople mDraft mDPeople mHasDry mToldDebts mHighest mTape mTaped mPos mBegun mSort mValue mFault mWrongAt mPaid mRow mRingMuch mRideSum mOwedSum mAllWays mRode mWays mLanes mSizes mCells mTorn mBefore) (some (.int r_)) := by
  refine mR_of (cc := cX8_height) (maxL := 4) (ret := some .int) (by decide) rfl (Nat.le_of_ble_eq_true rfl) [(0, .ref mh), (1, .int p1)] rfl ?_
  intro p e s m below meth c A ls args Q cx hK hA hw hl hQ
  have fx := cx.1
  obtain ⟨⟨hx, hb, hml, hown, hts⟩, hr, hlocks⟩ := cx
  have h := hf
  unfold f_X8_height at h
  clear hf
  refine lv_aload_n hx hb dX8_height_0 rfl (lv_at hl 0 rfl) ?_
  refine lv_iload_n hx hb dX8_height_1 rfl (lv_at hl 1 rfl) ?_
  obtain ⟨r_1, hf, h⟩ := b1_inv h
  refine k_callV (host := "") fx hK hA hw (c_X8_isOwed l D k mh mrSt mrNow mrIsKept mrDraft mrTape mrRow mrRode mrWays mrLanes mrSizes mrCells mrBefore _ mSt mNow mIsKept mPeople mDraft mDPeople mHasDry mToldDebts mHighest mTape mTaped mPos mBegun mSort mValue mFault mWrongAt mPaid mRow mRingMuch mRideSum mOwedSum mAllWays mRode mWays mLanes mSizes mCells mTorn mBefore p1 r_1 hf) (cwV 1 hts gX8_height_X8_isOwed rfl rfl rfl (by decide +kernel) ⟨by decide, by decide⟩) (As := [.int p1]) (wr := []) (ws' := wX8 k mh mrSt mrNow mrIsKept mrDraft mrTape mrRow mrRode mrWays mrLanes mrSizes mrCells mrBefore mSt mNow mIsKept mPeople mDraft mDPeople mHasDry mToldDebts mHighest mTape mTaped mPos mBegun mSort mValue mFault mWrongAt mPaid mRow mRingMuch mRideSum mOwedSum mAllWays mRode mWays mLanes mSizes mCells mTorn mBefore) [0, 1, 2, 3, 4, 5, 6, 7, 8, 9, 10, 11, 12] [] [0, 1, 2, 3, 4, 5, 6, 7, 8, 9, 10, 11, 12] rfl rfl (by decide) (by decide) (by decide) rfl (by decide) 8 rfl rfl [] rfl hl.1 rfl (Nat.le_of_ble_eq_true rfl) dX8_height_2 ⟨by decide, by decide⟩ (fun H locs (hw : Wd D A s.heap H locs (wX8 k mh mrSt mrNow mrIsKept mrDraft mrTape mrRow mrRode mrWays mrLanes mrSizes mrCells mrBefore mSt mNow mIsKept mPeople mDraft mDPeople mHasDry mToldDebts mHighest mTape mTaped mPos mBegun mSort mValue mFault mWrongAt mPaid mRow mRingMuch mRideSum mOwedSum mAllWays mRode mWays mLanes mSizes mCells mTorn mBefore)) => ?_)
  refine W.eq (g2 := F0 m 5 ls ([.int r_1])) rfl ?_
  refine lv_istore_n (lv' := [(2, .int r_1), (0, .ref mh), (1, .int p1)]) hx hb dX8_height_5 rfl hl (by decide) rfl (fun ls hl => ?_)
  refine lv_iload_n hx hb dX8_height_6 rfl (lv_at hl 0 rfl) ?_
  refine lv_iconst (v := 1) hx hb dX8_height_7 (by decide) ?_
  refine lv_iadd hx hb dX8_height_8 ?_
  refine lv_iconst (v := 2) hx hb dX8_height_9 (by decide) ?_
  refine lv_idiv hx hb dX8_height_10 (by decide) ?_
  refine lv_istore_n (lv' := [(3, .int ((r_1 + 1) / 2)), (2, .int r_1), (0, .ref mh), (1, .int p1)]) hx hb dX8_height_11 rfl hl (by decide) rfl (fun ls hl => ?_)
  refine lv_aload_n hx hb dX8_height_12 rfl (lv_at hl 2 rfl) ?_
  refine lv_iload_n hx hb dX8_height_13 rfl (lv_at hl 3 rfl) ?_
  obtain ⟨r_2, hf, h⟩ := b1_inv h
  refine k_callV (host := "") fx hK hA hw (c_X8_owesAll l D k mh mrSt mrNow mrIsKept mrDraft mrTape mrRow mrRode mrWays mrLanes mrSizes mrCells mrBefore _ mSt mNow mIsKept mPeople mDraft mDPeople mHasDry mToldDebts mHighest mTape mTaped mPos mBegun mSort mValue mFault mWrongAt mPaid mRow mRingMuch mRideSum mOwedSum mAllWays mRode mWays mLanes mSizes mCells mTorn mBefore p1 r_2 hf) (cwV 1 hts gX8_height_X8_owesAll rfl rfl rfl (by decide +kernel) ⟨by decide, by decide⟩) (As := [.int p1]) (wr := []) (ws' := wX8 k mh mrSt mrNow mrIsKept mrDraft mrTape mrRow mrRode mrWays mrLanes mrSizes mrCells mrBefore mSt mNow mIsKept mPeople mDraft mDPeople mHasDry mToldDebts mHighest mTape mTaped mPos mBegun mSort mValue mFault mWrongAt mPaid mRow mRingMuch mRideSum mOwedSum mAllWays mRode mWays mLanes mSizes mCells mTorn mBefore) [0, 1, 2, 3, 4, 5, 6, 7, 8, 9, 10, 11, 12] [] [0, 1, 2, 3, 4, 5, 6, 7, 8, 9, 10, 11, 12] rfl rfl (by decide) (by decide) (by decide) rfl (by decide) 8 rfl rfl [] rfl hl.1 rfl (Nat.le_of_ble_eq_true rfl) dX8_height_14 ⟨by decide, by decide⟩ (fun H locs (hw : Wd D A s.heap H locs (wX8 k mh mrSt mrNow mrIsKept mrDraft mrTape mrRow mrRode mrWays mrLanes mrSizes mrCells mrBefore mSt mNow mIsKept mPeople mDraft mDPeople mHasDry mToldDebts mHighest mTape mTaped mPos mBegun mSort mValue mFault mWrongAt mPaid mRow mRingMuch mRideSum mOwedSum mAllWays mRode mWays mLanes mSizes mCells mTorn mBefore)) => ?_)
  refine W.eq (g2 := F0 m 17 ls ([.int r_2])) rfl ?_
  refine kb_if_le (tgt := 22) hx hb dX8_height_17 (by decide) h (fun c_17 h => ?_) (fun c_17 h => ?_)
  · refine lv_aload_n hx hb dX8_height_22 rfl (lv_at hl 2 rfl) ?_
    refine lv_iload_n hx hb dX8_height_23 rfl (lv_at hl 3 rfl) ?_
    refine lv_iconst (v := 0) hx hb dX8_height_24 (by decide) ?_
    obtain ⟨r_3, hf, h⟩ := b1_inv h
    refine k_callV (host := "") fx hK hA hw (c_X8_of l D k mh mrSt mrNow mrIsKept mrDraft mrTape mrRow mrRode mrWays mrLanes mrSizes mrCells mrBefore _ mSt mNow mIsKept mPeople mDraft mDPeople mHasDry mToldDebts mHighest mTape mTaped mPos mBegun mSort mValue mFault mWrongAt mPaid mRow mRingMuch mRideSum mOwedSum mAllWays mRode mWays mLanes mSizes mCells mTorn mBefore p1 0 r_3 hf) (cwV 2 hts gX8_height_X8_of rfl rfl rfl (by decide +kernel) ⟨by decide, by decide⟩) (As := [.int p1, .int 0]) (wr := []) (ws' := wX8 k mh mrSt mrNow mrIsKept mrDraft mrTape mrRow mrRode mrWays mrLanes mrSizes mrCells mrBefore mSt mNow mIsKept mPeople mDraft mDPeople mHasDry mToldDebts mHighest mTape mTaped mPos mBegun mSort mValue mFault mWrongAt mPaid mRow mRingMuch mRideSum mOwedSum mAllWays mRode mWays mLanes mSizes mCells mTorn mBefore) [0, 1, 2, 3, 4, 5, 6, 7, 8, 9, 10, 11, 12] [] [0, 1, 2, 3, 4, 5, 6, 7, 8, 9, 10, 11, 12] rfl rfl (by decide) (by decide) (by decide) rfl (by decide) 8 rfl rfl [] rfl hl.1 rfl (Nat.le_of_ble_eq_true rfl) dX8_height_25 ⟨by decide, by decide⟩ (fun H locs (hw : Wd D A s.heap H locs (wX8 k mh mrSt mrNow mrIsKept mrDraft mrTape mrRow mrRode mrWays mrLanes mrSizes mrCells mrBefore mSt mNow mIsKept mPeople mDraft mDPeople mHasDry mToldDebts mHighest mTape mTaped mPos mBegun mSort mValue mFault mWrongAt mPaid mRow mRingMuch mRideSum mOwedSum mAllWays mRode mWays mLanes mSizes mCells mTorn mBefore)) => ?_)
    refine W.eq (g2 := F0 m 28 ls ([.int r_3])) rfl ?_
    by_cases c28_1 : r_3 = 1
    · rw [if_pos c28_1] at h
      refine lv_tableIn (off := 28) (tgt := 56) hx hb dX8_height_28 (by rw [c28_1]; decide) (by rw [c28_1]; decide) (by rw [c28_1]; rfl) (by decide) ?_
      refine lv_iload_n hx hb dX8_height_56 rfl (lv_at hl 0 rfl) ?_
      cases h
      exact k_iret hx hb hr hlocks hw rfl dX8_height_57 hQ
    · rw [if_neg c28_1] at h
      by_cases c28_2 : r_3 = 2
      · rw [if_pos c28_2] at h
        refine lv_tableIn (off := 30) (tgt := 58) hx hb dX8_height_28 (by rw [c28_2]; decide) (by rw [c28_2]; decide) (by rw [c28_2]; rfl) (by decide) ?_
        refine lv_iconst (v := 2) hx hb dX8_height_58 (by decide) ?_
        refine lv_iload_n hx hb dX8_height_59 rfl (lv_at hl 1 rfl) ?_
        refine lv_imul hx hb dX8_height_60 ?_
        refine lv_iconst (v := 1) hx hb dX8_height_61 (by decide) ?_
        refine lv_iadd hx hb dX8_height_62 ?_
        cases h
        exact k_iret hx hb hr hlocks hw rfl dX8_height_63 hQ
      · rw [if_neg c28_2] at h
        by_cases c28_3 : r_3 = 3
        · rw [if_pos c28_3] at h
          refine lv_tableIn (off := 36) (tgt := 64) hx hb dX8_height_28 (by rw [c28_3]; decide) (by rw [c28_3]; decide) (by rw [c28_3]; rfl) (by decide) ?_
          refine lv_iload_n hx hb dX8_height_64 rfl (lv_at hl 0 rfl) ?_
          refine kb_if_le (tgt := 74) hx hb dX8_height_65 (by decide) h (fun c_65 h => ?_) (fun c_65 h => ?_)
          · refine lv_iconst (v := 0) hx hb dX8_height_74 (by decide) ?_
            cases h
            exact k_iret hx hb hr hlocks hw rfl dX8_height_75 hQ
          · refine lv_iload_n hx hb dX8_height_68 rfl (lv_at hl 0 rfl) ?_
            refine lv_iconst (v := 1) hx hb dX8_height_69 (by decide) ?_
            refine lv_isub hx hb dX8_height_70 ?_
            refine lv_goto (tgt := 75) hx hb dX8_height_71 (by decide) ?_
            cases h
            exact k_iret hx hb hr hlocks hw rfl dX8_height_75 hQ
        · rw [if_neg c28_3] at h
          refine lv_tableOut (tgt := 76) hx hb dX8_height_28 (by have q1 : r_3.toInt ≠ 1 := sw_ne c28_1; have q2 : r_3.toInt ≠ 2 := sw_ne c28_2; have q3 : r_3.toInt ≠ 3 := sw_ne c28_3; omega) (by decide) ?_
          refine lv_iload_n hx hb dX8_height_76 rfl (lv_at hl 1 rfl) ?_
          cases h
          exact k_iret hx hb hr hlocks hw rfl dX8_height_77 hQ
  · refine lv_iconst (v := 0) hx hb dX8_height_20 (by decide) ?_
    cases h
    exact k_iret hx hb hr hlocks hw rfl dX8_height_21 hQ
abbrev rmX8_ahead : Room := { frames := 5, cells := 0, slots := 0, locals := 114 }
set_option maxHeartbeats 4000000 in
set_option maxRecDepth 100000 in
theorem c_X8_ahead (l : Launch) (D : va_G) (k : Nat → ClassId) (mh mrSt mrNow mrIsKept mrDraft mrTape mrRow mrRode mrWays mrLanes mrSizes mrCells mrBefore : Nat) (sz : Nat) (mSt : (Nat → Int32)) (mNow : (Nat → Int32)) (mIsKept : (Nat → Int32)) (mPeople : Int32) (mDraft : (Nat → Int32)) (mDPeople : Int32) (mHasDry : Int32) (mToldDebts : Int32) (mHighest : Int32) (mTape : (Nat → Int32)) (mTaped : Int32) (mPos : Int32) (mBegun : Int32) (mSort : Int32) (mValue : Int32) (mFault : Int32) (mWrongAt : Int32) (mPaid : Int32) (mRow : (Nat → Int32)) (mRingMuch : Int32) (mRideSum : Int64) (mOwedSum : Int64) (mAllWays : Int64) (mRode : (Nat → Int32)) (mWays : (Nat → Int32)) (mLanes : (Nat → Int32)) (mSizes : (Nat → Int32)) (mCells : (Nat → Int32)) (mTorn : Int32) (mBefore : (Nat → Int32)) (p1 : Int32) (p2 : Int32) (p3 : Int32) (r_ : Int32) (n_mNow : (Nat → Int32)) (n_mPaid : Int32) (hf : f_X8_ahead mSt mNow mPeople mPaid p1 p2 p3 = some (r_, n_mNow, n_mPaid)) : mR l yX8_ahead wsX8_ahead rmX8_ahead D k sz [.ref mh, .int p1, .int p2, .int p3] (wX8 k mh mrSt mrNow mrIsKept mrDraft mrTape mrRow mrRode mrWays mrLanes mrSizes mrCells mrBefore mSt mNow mIsKept mPeople mDraft mDPeople mHasDry mToldDebts mHighest mTape mTaped mPos mBegun mSort mValue mFault mWrongAt mPaid mRow mRingMuch mRideSum mOwedSum mAllWays mRode mWays mLanes mSizes mCells mTorn mBefore) (wX8 k mh mrSt mrNow mrIsKept mrDraft mrTape mrRow mrRode mrWays mrLanes mrSizes mrCells mrBefore mSt n_mNow mIsKept mPeople mDraft mDPeople mHasDry mToldDebts mHighest mTape mTaped mPos mBegun mSort mValue mFault mWrongAt n_mPaid mRow mRingMuch mRideSum mOwedSum mAllWays mRode mWays mLanes mSizes mCells mTorn mBefore) (some (.int r_)) := by
  refine mR_of (cc := cX8_ahead) (maxL := 4) (ret := some .int) (by decide) rfl (Nat.le_of_ble_eq_true rfl) [(0, .ref mh), (1, .int p1), (2, .int p2), (3, .int p3)] rfl ?_
  intro p e s m below meth c A ls args Q cx hK hA hw hl hQ
  have fx := cx.1
  obtain ⟨⟨hx, hb, hml, hown, hts⟩, hr, hlocks⟩ := cx
  have q_1 := hts (.constantLong RX8 234 (2)) (List.mem_of_getElem? (i := 1) rfl)
  have h := hf
  unfold f_X8_ahead at h
  clear hf
  refine lv_aload_n hx hb dX8_ahead_0 rfl (lv_at hl 0 rfl) ?_
  refine lv_iload_n hx hb dX8_ahead_1 rfl (lv_at hl 1 rfl) ?_
  obtain ⟨r_1, hf, h⟩ := b1_inv h
  refine k_callV (host := "") fx hK hA hw (c_X8_isOne l D k mh mrSt mrNow mrIsKept mrDraft mrTape mrRow mrRode mrWays mrLanes mrSizes mrCells mrBefore _ mSt mNow mIsKept mPeople mDraft mDPeople mHasDry mToldDebts mHighest mTape mTaped mPos mBegun mSort mValue mFault mWrongAt mPaid mRow mRingMuch mRideSum mOwedSum mAllWays mRode mWays mLanes mSizes mCells mTorn mBefore p1 r_1 hf) (cwV 1 hts gX8_ahead_X8_isOne rfl rfl rfl (by decide +kernel) ⟨by decide, by decide⟩) (As := [.int p1]) (wr := []) (ws' := wX8 k mh mrSt mrNow mrIsKept mrDraft mrTape mrRow mrRode mrWays mrLanes mrSizes mrCells mrBefore mSt mNow mIsKept mPeople mDraft mDPeople mHasDry mToldDebts mHighest mTape mTaped mPos mBegun mSort mValue mFault mWrongAt mPaid mRow mRingMuch mRideSum mOwedSum mAllWays mRode mWays mLanes mSizes mCells mTorn mBefore) [0, 1, 2, 3, 4, 5, 6, 7, 8, 9, 10, 11, 12] [] [0, 1, 2, 3, 4, 5, 6, 7, 8, 9, 10, 11, 12] rfl rfl (by decide) (by decide) (by decide) rfl (by decide) 8 rfl rfl [] rfl hl.1 rfl (Nat.le_of_ble_eq_true rfl) dX8_ahead_2 ⟨by decide, by decide⟩ (fun H locs (hw : Wd D A s.heap H locs (wX8 k mh mrSt mrNow mrIsKept mrDraft mrTape mrRow mrRode mrWays mrLanes mrSizes mrCells mrBefore mSt mNow mIsKept mPeople mDraft mDPeople mHasDry mToldDebts mHighest mTape mTaped mPos mBegun mSort mValue mFault mWrongAt mPaid mRow mRingMuch mRideSum mOwedSum mAllWays mRode mWays mLanes mSizes mCells mTorn mBefore)) => ?_)
  refine W.eq (g2 := F0 m 5 ls ([.int r_1])) rfl ?_
  refine kb_if_eq (tgt := 27) hx hb dX8_ahead_5 (by decide) h (fun c_5 h => ?_) (fun c_5 h => ?_)
  · refine lv_iconst (v := (-1)) hx hb dX8_ahead_27 (by decide) ?_
    cases h
    exact k_iret hx hb hr hlocks hw rfl dX8_ahead_28 hQ
  · refine lv_iload_n hx hb dX8_ahead_8 rfl (lv_at hl 2 rfl) ?_
    obtain ⟨r_2, hf, h⟩ := b1_inv h
    refine k_callS (b := 0) (C := "") (host := "") fx hK hA hw (c_X8_isFar l D k _ p2 r_2 hf) (va_cwS 1 hts gX8_ahead_X8_isFar rfl rfl rfl (by decide +kernel) ⟨by decide, by decide⟩) (As := [.int p2]) (wr := [(mh, .inr (8, [.ref mrSt, .ref mrNow, .ref mrIsKept, .int mPeople, .ref mrDraft, .int mDPeople, .int mHasDry, .int mToldDebts, .int mHighest, .ref mrTape, .int mTaped, .int mPos, .int mBegun, .int mSort, .int mValue, .int mFault, .int mWrongAt, .int mPaid, .ref mrRow, .int mRingMuch, .long mRideSum, .long mOwedSum, .long mAllWays, .ref mrRode, .ref mrWays, .ref mrLanes, .ref mrSizes, .ref mrCells, .int mTorn, .ref mrBefore])), (mrSt, .inl (k 0, 183, .inl mSt)), (mrNow, .inl (k 0, 61, .inl mNow)), (mrIsKept, .inl (k 1, 2, .inl mIsKept)), (mrDraft, .inl (k 0, 61, .inl mDraft)), (mrTape, .inl (k 0, 160, .inl mTape)), (mrRow, .inl (k 0, 5, .inl mRow)), (mrRode, .inl (k 0, 31, .inl mRode)), (mrWays, .inl (k 0, 31, .inl mWays)), (mrLanes, .inl (k 0, 4, .inl mLanes)), (mrSizes, .inl (k 0, 4, .inl mSizes)), (mrCells, .inl (k 0, 160, .inl mCells)), (mrBefore, .inl (k 0, 61, .inl mBefore))]) (ws' := wX8 k mh mrSt mrNow mrIsKept mrDraft mrTape mrRow mrRode mrWays mrLanes mrSizes mrCells mrBefore mSt mNow mIsKept mPeople mDraft mDPeople mHasDry mToldDebts mHighest mTape mTaped mPos mBegun mSort mValue mFault mWrongAt mPaid mRow mRingMuch mRideSum mOwedSum mAllWays mRode mWays mLanes mSizes mCells mTorn mBefore) [] [0, 1, 2, 3, 4, 5, 6, 7, 8, 9, 10, 11, 12] [0, 1, 2, 3, 4, 5, 6, 7, 8, 9, 10, 11, 12] rfl rfl (by decide) (by decide) (by decide) rfl (by decide) [] rfl hl.1 rfl (Nat.le_of_ble_eq_true rfl) dX8_ahead_9 ⟨by decide, by decide⟩ (fun H locs (hw : Wd D A s.heap H locs (wX8 k mh mrSt mrNow mrIsKept mrDraft mrTape mrRow mrRode mrWays mrLanes mrSizes mrCells mrBefore mSt mNow mIsKept mPeople mDraft mDPeople mHasDry mToldDebts mHighest mTape mTaped mPos mBegun mSort mValue mFault mWrongAt mPaid mRow mRingMuch mRideSum mOwedSum mAllWays mRode mWays mLanes mSizes mCells mTorn mBefore)) => ?_)
    refine W.eq (g2 := F0 m 12 ls ([.int r_2])) rfl ?_
    refine kb_if_eq (tgt := 27) hx hb dX8_ahead_12 (by decide) h (fun c_12 h => ?_) (fun c_12 h => ?_)
    · refine lv_iconst (v := (-1)) hx hb dX8_ahead_27 (by decide) ?_
      cases h
      exact k_iret hx hb hr hlocks hw rfl dX8_ahead_28 hQ
    · refine lv_iload_n hx hb dX8_ahead_15 rfl (lv_at hl 3 rfl) ?_
      refine lv_i2l hx hb dX8_ahead_16 rfl ?_
      refine lv_lconst (v := 0) hx hb dX8_ahead_17 rfl ?_
      refine lv_ldc2 (v := 2) hx hb hown q_1 dX8_ahead_18 ?_
      obtain ⟨r_3, hf, h⟩ := b1_inv h
      refine k_callS (b := 0) (C := "") (host := "") fx hK hA hw (c_X8_in l D k _ p3.toInt64 0 2 r_3 hf) (va_cwS 3 hts gX8_ahead_X8_in rfl rfl rfl (by decide +kernel) ⟨by decide, by decide⟩) (As := [.long p3.toInt64, .long 0, .long 2]) (wr := [(mh, .inr (8, [.ref mrSt, .ref mrNow, .ref mrIsKept, .int mPeople, .ref mrDraft, .int mDPeople, .int mHasDry, .int mToldDebts, .int mHighest, .ref mrTape, .int mTaped, .int mPos, .int mBegun, .int mSort, .int mValue, .int mFault, .int mWrongAt, .int mPaid, .ref mrRow, .int mRingMuch, .long mRideSum, .long mOwedSum, .long mAllWays, .ref mrRode, .ref mrWays, .ref mrLanes, .ref mrSizes, .ref mrCells, .int mTorn, .ref mrBefore])), (mrSt, .inl (k 0, 183, .inl mSt)), (mrNow, .inl (k 0, 61, .inl mNow)), (mrIsKept, .inl (k 1, 2, .inl mIsKept)), (mrDraft, .inl (k 0, 61, .inl mDraft)), (mrTape, .inl (k 0, 160, .inl mTape)), (mrRow, .inl (k 0, 5, .inl mRow)), (mrRode, .inl (k 0, 31, .inl mRode)), (mrWays, .inl (k 0, 31, .inl mWays)), (mrLanes, .inl (k 0, 4, .inl mLanes)), (mrSizes, .inl (k 0, 4, .inl mSizes)), (mrCells, .inl (k 0, 160, .inl mCells)), (mrBefore, .inl (k 0, 61, .inl mBefore))]) (ws' := wX8 k mh mrSt mrNow mrIsKept mrDraft mrTape mrRow mrRode mrWays mrLanes mrSizes mrCells mrBefore mSt mNow mIsKept mPeople mDraft mDPeople mHasDry mToldDebts mHighest mTape mTaped mPos mBegun mSort mValue mFault mWrongAt mPaid mRow mRingMuch mRideSum mOwedSum mAllWays mRode mWays mLanes mSizes mCells mTorn mBefore) [] [0, 1, 2, 3, 4, 5, 6, 7, 8, 9, 10, 11, 12] [0, 1, 2, 3, 4, 5, 6, 7, 8, 9, 10, 11, 12] rfl rfl (by decide) (by decide) (by decide) rfl (by decide) [] rfl hl.1 rfl (Nat.le_of_ble_eq_true rfl) dX8_ahead_21 ⟨by decide, by decide⟩ (fun H locs (hw : Wd D A s.heap H locs (wX8 k mh mrSt mrNow mrIsKept mrDraft mrTape mrRow mrRode mrWays mrLanes mrSizes mrCells mrBefore mSt mNow mIsKept mPeople mDraft mDPeople mHasDry mToldDebts mHighest mTape mTaped mPos mBegun mSort mValue mFault mWrongAt mPaid mRow mRingMuch mRideSum mOwedSum mAllWays mRode mWays mLanes mSizes mCells mTorn mBefore)) => ?_)
      refine W.eq (g2 := F0 m 24 ls ([.int r_3])) rfl ?_
      refine kb_if_ne (tgt := 29) hx hb dX8_ahead_24 (by decide) h (fun c_24 h => ?_) (fun c_24 h => ?_)
      · refine lv_iconst (v := (-1)) hx hb dX8_ahead_27 (by decide) ?_
        cases h
        exact k_iret hx hb hr hlocks hw rfl dX8_ahead_28 hQ
      · refine lv_aload_n hx hb dX8_ahead_29 rfl (lv_at hl 0 rfl) ?_
        obtain ⟨mNow_4, hf, h⟩ := b1_inv h
        refine k_callV (host := "") fx hK hA hw (c_X8_starts l D k mh mrSt mrNow mrIsKept mrDraft mrTape mrRow mrRode mrWays mrLanes mrSizes mrCells mrBefore _ mSt mNow mIsKept mPeople mDraft mDPeople mHasDry mToldDebts mHighest mTape mTaped mPos mBegun mSort mValue mFault mWrongAt mPaid mRow mRingMuch mRideSum mOwedSum mAllWays mRode mWays mLanes mSizes mCells mTorn mBefore mNow_4 hf) (cwV 0 hts gX8_ahead_X8_starts rfl rfl rfl (by decide +kernel) ⟨by decide, by decide⟩) (As := []) (wr := []) (ws' := wX8 k mh mrSt mrNow mrIsKept mrDraft mrTape mrRow mrRode mrWays mrLanes mrSizes mrCells mrBefore mSt mNow_4 mIsKept mPeople mDraft mDPeople mHasDry mToldDebts mHighest mTape mTaped mPos mBegun mSort mValue mFault mWrongAt mPaid mRow mRingMuch mRideSum mOwedSum mAllWays mRode mWays mLanes mSizes mCells mTorn mBefore) [0, 1, 2, 3, 4, 5, 6, 7, 8, 9, 10, 11, 12] [] [0, 1, 2, 3, 4, 5, 6, 7, 8, 9, 10, 11, 12] rfl rfl (by decide) (by decide) (by decide) rfl (by decide) 8 rfl rfl [] rfl hl.1 rfl (Nat.le_of_ble_eq_true rfl) dX8_ahead_30 ⟨by decide, by decide⟩ (fun H locs (hw : Wd D A s.heap H locs (wX8 k mh mrSt mrNow mrIsKept mrDraft mrTape mrRow mrRode mrWays mrLanes mrSizes mrCells mrBefore mSt mNow_4 mIsKept mPeople mDraft mDPeople mHasDry mToldDebts mHighest mTape mTaped mPos mBegun mSort mValue mFault mWrongAt mPaid mRow mRingMuch mRideSum mOwedSum mAllWays mRode mWays mLanes mSizes mCells mTorn mBefore)) => ?_)
        refine W.eq (g2 := F0 m 33 ls ([])) rfl ?_
        refine lv_aload_n hx hb dX8_ahead_33 rfl (lv_at hl 0 rfl) ?_
        refine lv_iload_n hx hb dX8_ahead_34 rfl (lv_at hl 2 rfl) ?_
        obtain ⟨mNow_5, mPaid_6, hf, h⟩ := b2_inv h
        refine k_callV (host := "") fx hK hA hw (c_X8_daysGo l D k mh mrSt mrNow mrIsKept mrDraft mrTape mrRow mrRode mrWays mrLanes mrSizes mrCells mrBefore _ mSt mNow_4 mIsKept mPeople mDraft mDPeople mHasDry mToldDebts mHighest mTape mTaped mPos mBegun mSort mValue mFault mWrongAt mPaid mRow mRingMuch mRideSum mOwedSum mAllWays mRode mWays mLanes mSizes mCells mTorn mBefore p2 mNow_5 mPaid_6 hf) (cwV 1 hts gX8_ahead_X8_daysGo rfl rfl rfl (by decide +kernel) ⟨by decide, by decide⟩) (As := [.int p2]) (wr := []) (ws' := wX8 k mh mrSt mrNow mrIsKept mrDraft mrTape mrRow mrRode mrWays mrLanes mrSizes mrCells mrBefore mSt mNow_5 mIsKept mPeople mDraft mDPeople mHasDry mToldDebts mHighest mTape mTaped mPos mBegun mSort mValue mFault mWrongAt mPaid_6 mRow mRingMuch mRideSum mOwedSum mAllWays mRode mWays mLanes mSizes mCells mTorn mBefore) [0, 1, 2, 3, 4, 5, 6, 7, 8, 9, 10, 11, 12] [] [0, 1, 2, 3, 4, 5, 6, 7, 8, 9, 10, 11, 12] rfl rfl (by decide) (by decide) (by decide) rfl (by decide) 8 rfl rfl [] rfl hl.1 rfl (Nat.le_of_ble_eq_true rfl) dX8_ahead_35 ⟨by decide, by decide⟩ (fun H locs (hw : Wd D A s.heap H locs (wX8 k mh mrSt mrNow mrIsKept mrDraft mrTape mrRow mrRode mrWays mrLanes mrSizes mrCells mrBefore mSt mNow_5 mIsKept mPeople mDraft mDPeople mHasDry mToldDebts mHighest mTape mTaped mPos mBegun mSort mValue mFault mWrongAt mPaid_6 mRow mRingMuch mRideSum mOwedSum mAllWays mRode mWays mLanes mSizes mCells mTorn mBefore)) => ?_)
        refine W.eq (g2 := F0 m 38 ls ([])) rfl ?_
        refine lv_iload_n hx hb dX8_ahead_38 rfl (lv_at hl 3 rfl) ?_
        refine kb_if_ne (tgt := 50) hx hb dX8_ahead_39 (by decide) h (fun c_39 h => ?_) (fun c_39 h => ?_)
        · refine lv_aload_n hx hb dX8_ahead_42 rfl (lv_at hl 0 rfl) ?_
          refine lv_iload_n hx hb dX8_ahead_43 rfl (lv_at hl 1 rfl) ?_
          obtain ⟨r_9, hf, h⟩ := b1_inv h
          refine k_callV (host := "") fx hK hA hw (c_X8_owesAll l D k mh mrSt mrNow mrIsKept mrDraft mrTape mrRow mrRode mrWays mrLanes mrSizes mrCells mrBefore _ mSt mNow_5 mIsKept mPeople mDraft mDPeople mHasDry mToldDebts mHighest mTape mTaped mPos mBegun mSort mValue mFault mWrongAt mPaid_6 mRow mRingMuch mRideSum mOwedSum mAllWays mRode mWays mLanes mSizes mCells mTorn mBefore p1 r_9 hf) (cwV 1 hts gX8_ahead_X8_owesAll rfl rfl rfl (by decide +kernel) ⟨by decide, by decide⟩) (As := [.int p1]) (wr := []) (ws' := wX8 k mh mrSt mrNow mrIsKept mrDraft mrTape mrRow mrRode mrWays mrLanes mrSizes mrCells mrBefore mSt mNow_5 mIsKept mPeople mDraft mDPeople mHasDry mToldDebts mHighest mTape mTaped mPos mBegun mSort mValue mFault mWrongAt mPaid_6 mRow mRingMuch mRideSum mOwedSum mAllWays mRode mWays mLanes mSizes mCells mTorn mBefore) [0, 1, 2, 3, 4, 5, 6, 7, 8, 9, 10, 11, 12] [] [0, 1, 2, 3, 4, 5, 6, 7, 8, 9, 10, 11, 12] rfl rfl (by decide) (by decide) (by decide) rfl (by decide) 8 rfl rfl [] rfl hl.1 rfl (Nat.le_of_ble_eq_true rfl) dX8_ahead_44 ⟨by decide, by decide⟩ (fun H locs (hw : Wd D A s.heap H locs (wX8 k mh mrSt mrNow mrIsKept mrDraft mrTape mrRow mrRode mrWays mrLanes mrSizes mrCells mrBefore mSt mNow_5 mIsKept mPeople mDraft mDPeople mHasDry mToldDebts mHighest mTape mTaped mPos mBegun mSort mValue mFault mWrongAt mPaid_6 mRow mRingMuch mRideSum mOwedSum mAllWays mRode mWays mLanes mSizes mCells mTorn mBefore)) => ?_)
          refine W.eq (g2 := F0 m 47 ls ([.int r_9])) rfl ?_
          refine lv_goto (tgt := 69) hx hb dX8_ahead_47 (by decide) ?_
          cases h
          exact k_iret hx hb hr hlocks hw rfl dX8_ahead_69 hQ
        · refine lv_iload_n hx hb dX8_ahead_50 rfl (lv_at hl 3 rfl) ?_
          refine lv_iconst (v := 1) hx hb dX8_ahead_51 (by decide) ?_
          refine kb_icmp_ne (tgt := 64) hx hb dX8_ahead_52 (by decide) h (fun c_52 h => ?_) (fun c_52 h => ?_)
          · refine lv_aload_n hx hb dX8_ahead_55 rfl (lv_at hl 0 rfl) ?_
            refine lv_iload_n hx hb dX8_ahead_56 rfl (lv_at hl 1 rfl) ?_
            refine lv_iconst (v := 1) hx hb dX8_ahead_57 (by decide) ?_
            obtain ⟨r_8, hf, h⟩ := b1_inv h
            refine k_callV (host := "") fx hK hA hw (c_X8_of l D k mh mrSt mrNow mrIsKept mrDraft mrTape mrRow mrRode mrWays mrLanes mrSizes mrCells mrBefore _ mSt mNow_5 mIsKept mPeople mDraft mDPeople mHasDry mToldDebts mHighest mTape mTaped mPos mBegun mSort mValue mFault mWrongAt mPaid_6 mRow mRingMuch mRideSum mOwedSum mAllWays mRode mWays mLanes mSizes mCells mTorn mBefore p1 1 r_8 hf) (cwV 2 hts gX8_ahead_X8_of rfl rfl rfl (by decide +kernel) ⟨by decide, by decide⟩) (As := [.int p1, .int 1]) (wr := []) (ws' := wX8 k mh mrSt mrNow mrIsKept mrDraft mrTape mrRow mrRode mrWays mrLanes mrSizes mrCells mrBefore mSt mNow_5 mIsKept mPeople mDraft mDPeople mHasDry mToldDebts mHighest mTape mTaped mPos mBegun mSort mValue mFault mWrongAt mPaid_6 mRow mRingMuch mRideSum mOwedSum mAllWays mRode mWays mLanes mSizes mCells mTorn mBefore) [0, 1, 2, 3, 4, 5, 6, 7, 8, 9, 10, 11, 12] [] [0, 1, 2, 3, 4, 5, 6, 7, 8, 9, 10, 11, 12] rfl rfl (by decide) (by decide) (by decide) rfl (by decide) 8 rfl rfl [] rfl hl.1 rfl (Nat.le_of_ble_eq_true rfl) dX8_ahead_58 ⟨by decide, by decide⟩ (fun H locs (hw : Wd D A s.heap H locs (wX8 k mh mrSt mrNow mrIsKept mrDraft mrTape mrRow mrRode mrWays mrLanes mrSizes mrCells mrBefore mSt mNow_5 mIsKept mPeople mDraft mDPeople mHasDry mToldDebts mHighest mTape mTaped mPos mBegun mSort mValue mFault mWrongAt mPaid_6 mRow mRingMuch mRideSum mOwedSum mAllWays mRode mWays mLanes mSizes mCells mTorn mBefore)) => ?_)
            refine W.eq (g2 := F0 m 61 ls ([.int r_8])) rfl ?_
            refine lv_goto (tgt := 69) hx hb dX8_ahead_61 (by decide) ?_
            cases h
            exact k_iret hx hb hr hlocks hw rfl dX8_ahead_69 hQ
          · refine lv_aload_n hx hb dX8_ahead_64 rfl (lv_at hl 0 rfl) ?_
            refine lv_iload_n hx hb dX8_ahead_65 rfl (lv_at hl 1 rfl) ?_
            obtain ⟨r_7, hf, h⟩ := b1_inv h
            refine k_callV (host := "") fx hK hA hw (c_X8_height l D k mh mrSt mrNow mrIsKept mrDraft mrTape mrRow mrRode mrWays mrLanes mrSizes mrCells mrBefore _ mSt mNow_5 mIsKept mPeople mDraft mDPeople mHasDry mToldDebts mHighest mTape mTaped mPos mBegun mSort mValue mFault mWrongAt mPaid_6 mRow mRingMuch mRideSum mOwedSum mAllWays mRode mWays mLanes mSizes mCells mTorn mBefore p1 r_7 hf) (cwV 1 hts gX8_ahead_X8_height rfl rfl rfl (by decide +kernel) ⟨by decide, by decide⟩) (As := [.int p1]) (wr := []) (ws' := wX8 k mh mrSt mrNow mrIsKept mrDraft mrTape mrRow mrRode mrWays mrLanes mrSizes mrCells mrBefore mSt mNow_5 mIsKept mPeople mDraft mDPeople mHasDry mToldDebts mHighest mTape mTaped mPos mBegun mSort mValue mFault mWrongAt mPaid_6 mRow mRingMuch mRideSum mOwedSum mAllWays mRode mWays mLanes mSizes mCells mTorn mBefore) [0, 1, 2, 3, 4, 5, 6, 7, 8, 9, 10, 11, 12] [] [0, 1, 2, 3, 4, 5, 6, 7, 8, 9, 10, 11, 12] rfl rfl (by decide) (by decide) (by decide) rfl (by decide) 8 rfl rfl [] rfl hl.1 rfl (Nat.le_of_ble_eq_true rfl) dX8_ahead_66 ⟨by decide, by decide⟩ (fun H locs (hw : Wd D A s.heap H locs (wX8 k mh mrSt mrNow mrIsKept mrDraft mrTape mrRow mrRode mrWays mrLanes mrSizes mrCells mrBefore mSt mNow_5 mIsKept mPeople mDraft mDPeople mHasDry mToldDebts mHighest mTape mTaped mPos mBegun mSort mValue mFault mWrongAt mPaid_6 mRow mRingMuch mRideSum mOwedSum mAllWays mRode mWays mLanes mSizes mCells mTorn mBefore)) => ?_)
            refine W.eq (g2 := F0 m 69 ls ([.int r_7])) rfl ?_
            cases h
            exact k_iret hx hb hr hlocks hw rfl dX8_ahead_69 hQ
abbrev rmX8_allMoney : Room := { frames := 1, cells := 0, slots := 0, locals := 22 }
set_option maxHeartbeats 4000000 in
set_option maxRecDepth 100000 in
theorem c_X8_allMoney (l : Launch) (D : va_G) (k : Nat → ClassId) (mh mrSt mrNow mrIsKept mrDraft mrTape mrRow mrRode mrWays mrLanes mrSizes mrCells mrBefore : Nat) (sz : Nat) (mSt : (Nat → Int32)) (mNow : (Nat → Int32)) (mIsKept : (Nat → Int32)) (mPeople : Int32) (mDraft : (Nat → Int32)) (mDPeople : Int32) (mHasDry : Int32) (mToldDebts : Int32) (mHighest : Int32) (mTape : (Nat → Int32)) (mTaped : Int32) (mPos : Int32) (mBegun : Int32) (mSort : Int32) (mValue : Int32) (mFault : Int32) (mWrongAt : Int32) (mPaid : Int32) (mRow : (Nat → Int32)) (mRingMuch : Int32) (mRideSum : Int64) (mOwedSum : Int64) (mAllWays : Int64) (mRode : (Nat → Int32)) (mWays : (Nat → Int32)) (mLanes : (Nat → Int32)) (mSizes : (Nat → Int32)) (mCells : (Nat → Int32)) (mTorn : Int32) (mBefore : (Nat → Int32)) (r_ : Int32) (hf : f_X8_allMoney mNow mPeople = some r_) : mR l yX8_allMoney wsX8_allMoney rmX8_allMoney D k sz [.ref mh] (wX8 k mh mrSt mrNow mrIsKept mrDraft mrTape mrRow mrRode mrWays mrLanes mrSizes mrCells mrBefore mSt mNow mIsKept mPeople mDraft mDPeople mHasDry mToldDebts mHighest mTape mTaped mPos mBegun mSort mValue mFault mWrongAt mPaid mRow mRingMuch mRideSum mOwedSum mAllWays mRode mWays mLanes mSizes mCells mTorn mBefore) (wX8 k mh mrSt mrNow mrIsKept mrDraft mrTape mrRow mrRode mrWays mrLanes mrSizes mrCells mrBefore mSt mNow mIsKept mPeople mDraft mDPeople mHasDry mToldDebts mHighest mTape mTaped mPos mBegun mSort mValue mFault mWrongAt mPaid mRow mRingMuch mRideSum mOwedSum mAllWays mRode mWays mLanes mSizes mCells mTorn mBefore) (some (.int r_)) := by
  refine mR_of (cc := cX8_allMoney) (maxL := 3) (ret := some .int) (by decide) rfl (Nat.le_of_ble_eq_true rfl) [(0, .ref mh)] rfl ?_
  intro p e s m below meth c A ls args Q cx hK hA hw hl hQ
  have fx := cx.1
  obtain ⟨⟨hx, hb, hml, hown, hts⟩, hr, hlocks⟩ := cx
  have hinX8 : ∀ w ∈ wsX80, w ∈ wsX8_allMoney := fun w h => List.mem_cons_of_mem _ (List.mem_append_right _ h)
  have q_1 := hts (.fieldLink RX8 67 "DebtRidesModel" "people" "I") (List.mem_of_getElem? (i := 1) rfl)
  have h := hf
  unfold f_X8_allMoney at h
  clear hf
  refine lv_iconst (v := 0) hx hb dX8_allMoney_0 (by decide) ?_
  refine lv_istore_n (lv' := [(1, .int 0), (0, .ref mh)]) hx hb dX8_allMoney_1 rfl hl (by decide) rfl (fun ls hl => ?_)
  refine lv_iconst (v := 0) hx hb dX8_allMoney_2 (by decide) ?_
  refine lv_istore_n (lv' := [(2, .int 0), (1, .int 0), (0, .ref mh)]) hx hb dX8_allMoney_3 rfl hl (by decide) rfl (fun ls hl => ?_)
  obtain ⟨v1_3, hL_4, h⟩ := b1_inv h
  have X_4 : ∀ (H : Heap) (locs : List Loc) (ls : Array Slot), Wd D A s.heap H locs (wX8 k mh mrSt mrNow mrIsKept mrDraft mrTape mrRow mrRode mrWays mrLanes mrSizes mrCells mrBefore mSt mNow mIsKept mPeople mDraft mDPeople mHasDry mToldDebts mHighest mTape mTaped mPos mBegun mSort mValue mFault mWrongAt mPaid mRow mRingMuch mRideSum mOwedSum mAllWays mRode mWays mLanes mSizes mCells mTorn mBefore) → lv_has ls 3 [(1, .int v1_3)] → W p l e rmX8_allMoney s m args below meth c H locs 0 0 Q (F0 m 27 ls []) := by
    intro H locs ls hw hl
    refine lv_iload_n hx hb dX8_allMoney_27 rfl (lv_at hl 0 rfl) ?_
    cases h
    exact k_iret hx hb hr hlocks hw rfl dX8_allMoney_28 hQ
  clear h
  have LP_4 : ∀ (n : Nat) (v1_1 : Int32) (v2_2 : Int32), f_X8_allMoney_L4 mNow mPeople n v1_1 v2_2 = some v1_3 → ∀ (H : Heap) (locs : List Loc) (ls : Array Slot), Wd D A s.heap H locs (wX8 k mh mrSt mrNow mrIsKept mrDraft mrTape mrRow mrRode mrWays mrLanes mrSizes mrCells mrBefore mSt mNow mIsKept mPeople mDraft mDPeople mHasDry mToldDebts mHighest mTape mTaped mPos mBegun mSort mValue mFault mWrongAt mPaid mRow mRingMuch mRideSum mOwedSum mAllWays mRode mWays mLanes mSizes mCells mTorn mBefore) → lv_has ls 3 [(0, .ref mh), (1, .int v1_1), (2, .int v2_2)] → W p l e rmX8_allMoney s m args below meth c H locs 0 0 Q (F0 m 4 ls []) := by
    clear hL_4 hw hl
    intro n
    induction n with
    | zero => intro v1_1 v2_2 h; rw [f_X8_allMoney_L4] at h; cases h
    | succ n ih =>
      intro v1_1 v2_2 h H locs ls hw hl
      rw [f_X8_allMoney_L4] at h
      refine lv_iload_n hx hb dX8_allMoney_4 rfl (lv_at hl 2 rfl) ?_
      refine lv_aload_n hx hb dX8_allMoney_5 rfl (lv_at hl 0 rfl) ?_
      refine va_get (ci := 8) (v := .int mPeople) (C := RX8) (T := TX8) (N := 30) hx hb hts hinX8 hown hK.1 hw.1 0 rfl rfl 3 (by decide) q_1 (fun _ h9 => h9) rfl dX8_allMoney_6 ?_
      refine kb_icmp_ge (tgt := 27) hx hb dX8_allMoney_9 (by decide) h (fun c_9 h => ?_) (fun c_9 h => ?_)
      · cases h
        exact X_4 _ _ _ hw (lv_sub hl [1] rfl)
      · refine lv_iload_n hx hb dX8_allMoney_12 rfl (lv_at hl 1 rfl) ?_
        refine lv_aload_n hx hb dX8_allMoney_13 rfl (lv_at hl 0 rfl) ?_
        refine lv_iload_n hx hb dX8_allMoney_14 rfl (lv_at hl 2 rfl) ?_
        refine lv_iconst (v := 1) hx hb dX8_allMoney_15 (by decide) ?_
        obtain ⟨r_4, hf, h⟩ := b1_inv h
        refine k_callV (host := "") fx hK hA hw (c_X8_of l D k mh mrSt mrNow mrIsKept mrDraft mrTape mrRow mrRode mrWays mrLanes mrSizes mrCells mrBefore _ mSt mNow mIsKept mPeople mDraft mDPeople mHasDry mToldDebts mHighest mTape mTaped mPos mBegun mSort mValue mFault mWrongAt mPaid mRow mRingMuch mRideSum mOwedSum mAllWays mRode mWays mLanes mSizes mCells mTorn mBefore v2_2 1 r_4 hf) (cwV 2 hts gX8_allMoney_X8_of rfl rfl rfl (by decide +kernel) ⟨by decide, by decide⟩) (As := [.int v2_2, .int 1]) (wr := []) (ws' := wX8 k mh mrSt mrNow mrIsKept mrDraft mrTape mrRow mrRode mrWays mrLanes mrSizes mrCells mrBefore mSt mNow mIsKept mPeople mDraft mDPeople mHasDry mToldDebts mHighest mTape mTaped mPos mBegun mSort mValue mFault mWrongAt mPaid mRow mRingMuch mRideSum mOwedSum mAllWays mRode mWays mLanes mSizes mCells mTorn mBefore) [0, 1, 2, 3, 4, 5, 6, 7, 8, 9, 10, 11, 12] [] [0, 1, 2, 3, 4, 5, 6, 7, 8, 9, 10, 11, 12] rfl rfl (by decide) (by decide) (by decide) rfl (by decide) 8 rfl rfl [.int v1_1] rfl hl.1 rfl (Nat.le_of_ble_eq_true rfl) dX8_allMoney_16 ⟨by decide, by decide⟩ (fun H locs (hw : Wd D A s.heap H locs (wX8 k mh mrSt mrNow mrIsKept mrDraft mrTape mrRow mrRode mrWays mrLanes mrSizes mrCells mrBefore mSt mNow mIsKept mPeople mDraft mDPeople mHasDry mToldDebts mHighest mTape mTaped mPos mBegun mSort mValue mFault mWrongAt mPaid mRow mRingMuch mRideSum mOwedSum mAllWays mRode mWays mLanes mSizes mCells mTorn mBefore)) => ?_)
        refine W.eq (g2 := F0 m 19 ls ([.int r_4, .int v1_1])) rfl ?_
        refine lv_iadd hx hb dX8_allMoney_19 ?_
        refine lv_istore_n (lv' := [(1, .int (v1_1 + r_4)), (0, .ref mh), (2, .int v2_2)]) hx hb dX8_allMoney_20 rfl hl (by decide) rfl (fun ls hl => ?_)
        refine lv_iinc (v := v2_2 + 1) (lv' := [(2, .int (v2_2 + 1)), (1, .int (v1_1 + r_4)), (0, .ref mh)]) hx hb dX8_allMoney_21 hl (k := 2) rfl rfl (by decide) rfl (fun ls hl => ?_)
        refine lv_goto (tgt := 4) hx hb dX8_allMoney_24 (by decide) ?_
        exact ih _ _ h _ _ _ hw (lv_sub hl [2, 1, 0] rfl)
  exact LP_4 400 0 0 hL_4 _ _ _ hw (lv_sub hl [2, 1, 0] rfl)
abbrev rmX8_allOwed : Room := { frames := 2, cells := 0, slots := 0, locals := 45 }
set_option maxHeartbeats 4000000 in
set_option maxRecDepth 100000 in
theorem c_X8_allOwed (l : Launch) (D : va_G) (k : Nat → ClassId) (mh mrSt mrNow mrIsKept mrDraft mrTape mrRow mrRode mrWays mrLanes mrSizes mrCells mrBefore : Nat) (sz : Nat) (mSt : (Nat → Int32)) (mNow : (Nat → Int32)) (mIsKept : (Nat → Int32)) (mPeople : Int32) (mDraft : (Nat → Int32)) (mDPeople : Int32) (mHasDry : Int32) (mToldDebts : Int32) (mHighest : Int32) (mTape : (Nat → Int32)) (mTaped : Int32) (mPos : Int32) (mBegun : Int32) (mSort : Int32) (mValue : Int32) (mFault : Int32) (mWrongAt : Int32) (mPaid : Int32) (mRow : (Nat → Int32)) (mRingMuch : Int32) (mRideSum : Int64) (mOwedSum : Int64) (mAllWays : Int64) (mRode : (Nat → Int32)) (mWays : (Nat → Int32)) (mLanes : (Nat → Int32)) (mSizes : (Nat → Int32)) (mCells : (Nat → Int32)) (mTorn : Int32) (mBefore : (Nat → Int32)) (r_ : Int32) (hf : f_X8_allOwed mNow mPeople = some r_) : mR l yX8_allOwed wsX8_allOwed rmX8_allOwed D k sz [.ref mh] (wX8 k mh mrSt mrNow mrIsKept mrDraft mrTape mrRow mrRode mrWays mrLanes mrSizes mrCells mrBefore mSt mNow mIsKept mPeople mDraft mDPeople mHasDry mToldDebts mHighest mTape mTaped mPos mBegun mSort mValue mFault mWrongAt mPaid mRow mRingMuch mRideSum mOwedSum mAllWays mRode mWays mLanes mSizes mCells mTorn mBefore) (wX8 k mh mrSt mrNow mrIsKept mrDraft mrTape mrRow mrRode mrWays mrLanes mrSizes mrCells mrBefore mSt mNow mIsKept mPeople mDraft mDPeople mHasDry mToldDebts mHighest mTape mTaped mPos mBegun mSort mValue mFault mWrongAt mPaid mRow mRingMuch mRideSum mOwedSum mAllWays mRode mWays mLanes mSizes mCells mTorn mBefore) (some (.int r_)) := by
  refine mR_of (cc := cX8_allOwed) (maxL := 3) (ret := some .int) (by decide) rfl (Nat.le_of_ble_eq_true rfl) [(0, .ref mh)] rfl ?_
  intro p e s m below meth c A ls args Q cx hK hA hw hl hQ
  have fx := cx.1
  obtain ⟨⟨hx, hb, hml, hown, hts⟩, hr, hlocks⟩ := cx
  have hinX8 : ∀ w ∈ wsX80, w ∈ wsX8_allOwed := fun w h => List.mem_cons_of_mem _ (List.mem_append_right _ h)
  have q_1 := hts (.fieldLink RX8 67 "DebtRidesModel" "people" "I") (List.mem_of_getElem? (i := 1) rfl)
  have h := hf
  unfold f_X8_allOwed at h
  clear hf
  refine lv_iconst (v := 0) hx hb dX8_allOwed_0 (by decide) ?_
  refine lv_istore_n (lv' := [(1, .int 0), (0, .ref mh)]) hx hb dX8_allOwed_1 rfl hl (by decide) rfl (fun ls hl => ?_)
  refine lv_iconst (v := 0) hx hb dX8_allOwed_2 (by decide) ?_
  refine lv_istore_n (lv' := [(2, .int 0), (1, .int 0), (0, .ref mh)]) hx hb dX8_allOwed_3 rfl hl (by decide) rfl (fun ls hl => ?_)
  obtain ⟨v1_3, hL_4, h⟩ := b1_inv h
  have X_4 : ∀ (H : Heap) (locs : List Loc) (ls : Array Slot), Wd D A s.heap H locs (wX8 k mh mrSt mrNow mrIsKept mrDraft mrTape mrRow mrRode mrWays mrLanes mrSizes mrCells mrBefore mSt mNow mIsKept mPeople mDraft mDPeople mHasDry mToldDebts mHighest mTape mTaped mPos mBegun mSort mValue mFault mWrongAt mPaid mRow mRingMuch mRideSum mOwedSum mAllWays mRode mWays mLanes mSizes mCells mTorn mBefore) → lv_has ls 3 [(1, .int v1_3)] → W p l e rmX8_allOwed s m args below meth c H locs 0 0 Q (F0 m 26 ls []) := by
    intro H locs ls hw hl
    refine lv_iload_n hx hb dX8_allOwed_26 rfl (lv_at hl 0 rfl) ?_
    cases h
    exact k_iret hx hb hr hlocks hw rfl dX8_allOwed_27 hQ
  clear h
  have LP_4 : ∀ (n : Nat) (v1_1 : Int32) (v2_2 : Int32), f_X8_allOwed_L4 mNow mPeople n v1_1 v2_2 = some v1_3 → ∀ (H : Heap) (locs : List Loc) (ls : Array Slot), Wd D A s.heap H locs (wX8 k mh mrSt mrNow mrIsKept mrDraft mrTape mrRow mrRode mrWays mrLanes mrSizes mrCells mrBefore mSt mNow mIsKept mPeople mDraft mDPeople mHasDry mToldDebts mHighest mTape mTaped mPos mBegun mSort mValue mFault mWrongAt mPaid mRow mRingMuch mRideSum mOwedSum mAllWays mRode mWays mLanes mSizes mCells mTorn mBefore) → lv_has ls 3 [(0, .ref mh), (1, .int v1_1), (2, .int v2_2)] → W p l e rmX8_allOwed s m args below meth c H locs 0 0 Q (F0 m 4 ls []) := by
    clear hL_4 hw hl
    intro n
    induction n with
    | zero => intro v1_1 v2_2 h; rw [f_X8_allOwed_L4] at h; cases h
    | succ n ih =>
      intro v1_1 v2_2 h H locs ls hw hl
      rw [f_X8_allOwed_L4] at h
      refine lv_iload_n hx hb dX8_allOwed_4 rfl (lv_at hl 2 rfl) ?_
      refine lv_aload_n hx hb dX8_allOwed_5 rfl (lv_at hl 0 rfl) ?_
      refine va_get (ci := 8) (v := .int mPeople) (C := RX8) (T := TX8) (N := 30) hx hb hts hinX8 hown hK.1 hw.1 0 rfl rfl 3 (by decide) q_1 (fun _ h9 => h9) rfl dX8_allOwed_6 ?_
      refine kb_icmp_ge (tgt := 26) hx hb dX8_allOwed_9 (by decide) h (fun c_9 h => ?_) (fun c_9 h => ?_)
      · cases h
        exact X_4 _ _ _ hw (lv_sub hl [1] rfl)
      · refine lv_iload_n hx hb dX8_allOwed_12 rfl (lv_at hl 1 rfl) ?_
        refine lv_aload_n hx hb dX8_allOwed_13 rfl (lv_at hl 0 rfl) ?_
        refine lv_iload_n hx hb dX8_allOwed_14 rfl (lv_at hl 2 rfl) ?_
        obtain ⟨r_4, hf, h⟩ := b1_inv h
        refine k_callV (host := "") fx hK hA hw (c_X8_owesAll l D k mh mrSt mrNow mrIsKept mrDraft mrTape mrRow mrRode mrWays mrLanes mrSizes mrCells mrBefore _ mSt mNow mIsKept mPeople mDraft mDPeople mHasDry mToldDebts mHighest mTape mTaped mPos mBegun mSort mValue mFault mWrongAt mPaid mRow mRingMuch mRideSum mOwedSum mAllWays mRode mWays mLanes mSizes mCells mTorn mBefore v2_2 r_4 hf) (cwV 1 hts gX8_allOwed_X8_owesAll rfl rfl rfl (by decide +kernel) ⟨by decide, by decide⟩) (As := [.int v2_2]) (wr := []) (ws' := wX8 k mh mrSt mrNow mrIsKept mrDraft mrTape mrRow mrRode mrWays mrLanes mrSizes mrCells mrBefore mSt mNow mIsKept mPeople mDraft mDPeople mHasDry mToldDebts mHighest mTape mTaped mPos mBegun mSort mValue mFault mWrongAt mPaid mRow mRingMuch mRideSum mOwedSum mAllWays mRode mWays mLanes mSizes mCells mTorn mBefore) [0, 1, 2, 3, 4, 5, 6, 7, 8, 9, 10, 11, 12] [] [0, 1, 2, 3, 4, 5, 6, 7, 8, 9, 10, 11, 12] rfl rfl (by decide) (by decide) (by decide) rfl (by decide) 8 rfl rfl [.int v1_1] rfl hl.1 rfl (Nat.le_of_ble_eq_true rfl) dX8_allOwed_15 ⟨by decide, by decide⟩ (fun H locs (hw : Wd D A s.heap H locs (wX8 k mh mrSt mrNow mrIsKept mrDraft mrTape mrRow mrRode mrWays mrLanes mrSizes mrCells mrBefore mSt mNow mIsKept mPeople mDraft mDPeople mHasDry mToldDebts mHighest mTape mTaped mPos mBegun mSort mValue mFault mWrongAt mPaid mRow mRingMuch mRideSum mOwedSum mAllWays mRode mWays mLanes mSizes mCells mTorn mBefore)) => ?_)
        refine W.eq (g2 := F0 m 18 ls ([.int r_4, .int v1_1])) rfl ?_
        refine lv_iadd hx hb dX8_allOwed_18 ?_
        refine lv_istore_n (lv' := [(1, .int (v1_1 + r_4)), (0, .ref mh), (2, .int v2_2)]) hx hb dX8_allOwed_19 rfl hl (by decide) rfl (fun ls hl => ?_)
        refine lv_iinc (v := v2_2 + 1) (lv' := [(2, .int (v2_2 + 1)), (1, .int (v1_1 + r_4)), (0, .ref mh)]) hx hb dX8_allOwed_20 hl (k := 2) rfl rfl (by decide) rfl (fun ls hl => ?_)
        refine lv_goto (tgt := 4) hx hb dX8_allOwed_23 (by decide) ?_
        exact ih _ _ h _ _ _ hw (lv_sub hl [2, 1, 0] rfl)
  exact LP_4 400 0 0 hL_4 _ _ _ hw (lv_sub hl [2, 1, 0] rfl)
abbrev rmX8_becomes : Room := { frames := 0, cells := 0, slots := 0, locals := 0 }
set_option maxHeartbeats 4000000 in
set_option maxRecDepth 100000 in
theorem c_X8_becomes (l : Launch) (D : va_G) (k : Nat → ClassId) (mh mrSt mrNow mrIsKept mrDraft mrTape mrRow mrRode mrWays mrLanes mrSizes mrCells mrBefore : Nat) (sz : Nat) (mSt : (Nat → Int32)) (mNow : (Nat → Int32)) (mIsKept : (Nat → Int32)) (mPeople : Int32) (mDraft : (Nat → Int32)) (mDPeople : Int32) (mHasDry : Int32) (mToldDebts : Int32) (mHighest : Int32) (mTape : (Nat → Int32)) (mTaped : Int32) (mPos : Int32) (mBegun : Int32) (mSort : Int32) (mValue : Int32) (mFault : Int32) (mWrongAt : Int32) (mPaid : Int32) (mRow : (Nat → Int32)) (mRingMuch : Int32) (mRideSum : Int64) (mOwedSum : Int64) (mAllWays : Int64) (mRode : (Nat → Int32)) (mWays : (Nat → Int32)) (mLanes : (Nat → Int32)) (mSizes : (Nat → Int32)) (mCells : (Nat → Int32)) (mTorn : Int32) (mBefore : (Nat → Int32)) (p1 : Int32) (p2 : Int32) (r_ : Int32) (n_mSt : (Nat → Int32)) (hf : f_X8_becomes mSt p1 p2 = some (r_, n_mSt)) : mR l yX8_becomes wsX8_becomes rmX8_becomes D k sz [.ref mh, .int p1, .int p2] (wX8 k mh mrSt mrNow mrIsKept mrDraft mrTape mrRow mrRode mrWays mrLanes mrSizes mrCells mrBefore mSt mNow mIsKept mPeople mDraft mDPeople mHasDry mToldDebts mHighest mTape mTaped mPos mBegun mSort mValue mFault mWrongAt mPaid mRow mRingMuch mRideSum mOwedSum mAllWays mRode mWays mLanes mSizes mCells mTorn mBefore) (wX8 k mh mrSt mrNow mrIsKept mrDraft mrTape mrRow mrRode mrWays mrLanes mrSizes mrCells mrBefore n_mSt mNow mIsKept mPeople mDraft mDPeople mHasDry mToldDebts mHighest mTape mTaped mPos mBegun mSort mValue mFault mWrongAt mPaid mRow mRingMuch mRideSum mOwedSum mAllWays mRode mWays mLanes mSizes mCells mTorn mBefore) (some (.int r_)) := by
  refine mR_of (cc := cX8_becomes) (maxL := 4) (ret := some .int) (by decide) rfl (Nat.le_of_ble_eq_true rfl) [(0, .ref mh), (1, .int p1), (2, .int p2)] rfl ?_
  intro p e s m below meth c A ls args Q cx hK hA hw hl hQ
  have fx := cx.1
  obtain ⟨⟨hx, hb, hml, hown, hts⟩, hr, hlocks⟩ := cx
  have hinX8 : ∀ w ∈ wsX80, w ∈ wsX8_becomes := fun w h => List.mem_cons_of_mem _ (List.mem_append_right _ h)
  have q_1 := hts (.fieldLink RX8 7 "DebtRidesModel" "st" "[I") (List.mem_of_getElem? (i := 1) rfl)
  have h := hf
  unfold f_X8_becomes at h
  clear hf
  refine lv_aload_n hx hb dX8_becomes_0 rfl (lv_at hl 0 rfl) ?_
  refine va_get (ci := 8) (v := .ref mrSt) (C := RX8) (T := TX8) (N := 30) hx hb hts hinX8 hown hK.1 hw.1 0 rfl rfl 0 (by decide) q_1 (fun _ h9 => h9) rfl dX8_becomes_1 ?_
  refine lv_iload_n hx hb dX8_becomes_4 rfl (lv_at hl 1 rfl) ?_
  refine k_iald hx hb hK hw 1 rfl dX8_becomes_5 h (fun a_1 h => ?_)
  refine lv_istore_n (lv' := [(3, .int a_1), (0, .ref mh), (1, .int p1), (2, .int p2)]) hx hb dX8_becomes_6 rfl hl (by decide) rfl (fun ls hl => ?_)
  refine lv_aload_n hx hb dX8_becomes_7 rfl (lv_at hl 1 rfl) ?_
  refine va_get (ci := 8) (v := .ref mrSt) (C := RX8) (T := TX8) (N := 30) hx hb hts hinX8 hown hK.1 hw.1 0 rfl rfl 0 (by decide) q_1 (fun _ h9 => h9) rfl dX8_becomes_8 ?_
  refine lv_iload_n hx hb dX8_becomes_11 rfl (lv_at hl 2 rfl) ?_
  refine lv_iload_n hx hb dX8_becomes_12 rfl (lv_at hl 3 rfl) ?_
  refine k_iast hx hb hK hw 1 rfl dX8_becomes_13 h (fun mSt_2 h H locs (hw : Wd D A s.heap H locs (wX8 k mh mrSt mrNow mrIsKept mrDraft mrTape mrRow mrRode mrWays mrLanes mrSizes mrCells mrBefore mSt_2 mNow mIsKept mPeople mDraft mDPeople mHasDry mToldDebts mHighest mTape mTaped mPos mBegun mSort mValue mFault mWrongAt mPaid mRow mRingMuch mRideSum mOwedSum mAllWays mRode mWays mLanes mSizes mCells mTorn mBefore)) => ?_)
  refine lv_iload_n hx hb dX8_becomes_14 rfl (lv_at hl 0 rfl) ?_
  cases h
  exact k_iret hx hb hr hlocks hw rfl dX8_becomes_15 hQ
abbrev rmX8_alter : Room := { frames := 2, cells := 0, slots := 0, locals := 46 }
set_option maxHeartbeats 4000000 in
set_option maxRecDepth 100000 in
theorem c_X8_alter (l : Launch) (D : va_G) (k : Nat → ClassId) (mh mrSt mrNow mrIsKept mrDraft mrTape mrRow mrRode mrWays mrLanes mrSizes mrCells mrBefore : Nat) (sz : Nat) (mSt : (Nat → Int32)) (mNow : (Nat → Int32)) (mIsKept : (Nat → Int32)) (mPeople : Int32) (mDraft : (Nat → Int32)) (mDPeople : Int32) (mHasDry : Int32) (mToldDebts : Int32) (mHighest : Int32) (mTape : (Nat → Int32)) (mTaped : Int32) (mPos : Int32) (mBegun : Int32) (mSort : Int32) (mValue : Int32) (mFault : Int32) (mWrongAt : Int32) (mPaid : Int32) (mRow : (Nat → Int32)) (mRingMuch : Int32) (mRideSum : Int64) (mOwedSum : Int64) (mAllWays : Int64) (mRode : (Nat → Int32)) (mWays : (Nat → Int32)) (mLanes : (Nat → Int32)) (mSizes : (Nat → Int32)) (mCells : (Nat → Int32)) (mTorn : Int32) (mBefore : (Nat → Int32)) (p1 : Int32) (p2 : Int32) (p3 : Int32) (r_ : Int32) (n_mSt : (Nat → Int32)) (hf : f_X8_alter mSt mPeople p1 p2 p3 = some (r_, n_mSt)) : mR l yX8_alter wsX8_alter rmX8_alter D k sz [.ref mh, .int p1, .int p2, .int p3] (wX8 k mh mrSt mrNow mrIsKept mrDraft mrTape mrRow mrRode mrWays mrLanes mrSizes mrCells mrBefore mSt mNow mIsKept mPeople mDraft mDPeople mHasDry mToldDebts mHighest mTape mTaped mPos mBegun mSort mValue mFault mWrongAt mPaid mRow mRingMuch mRideSum mOwedSum mAllWays mRode mWays mLanes mSizes mCells mTorn mBefore) (wX8 k mh mrSt mrNow mrIsKept mrDraft mrTape mrRow mrRode mrWays mrLanes mrSizes mrCells mrBefore n_mSt mNow mIsKept mPeople mDraft mDPeople mHasDry mToldDebts mHighest mTape mTaped mPos mBegun mSort mValue mFault mWrongAt mPaid mRow mRingMuch mRideSum mOwedSum mAllWays mRode mWays mLanes mSizes mCells mTorn mBefore) (some (.int r_)) := by
  refine mR_of (cc := cX8_alter) (maxL := 5) (ret := some .int) (by decide) rfl (Nat.le_of_ble_eq_true rfl) [(0, .ref mh), (1, .int p1), (2, .int p2), (3, .int p3)] rfl ?_
  intro p e s m below meth c A ls args Q cx hK hA hw hl hQ
  have fx := cx.1
  obtain ⟨⟨hx, hb, hml, hown, hts⟩, hr, hlocks⟩ := cx
  have q_3 := hts (.constantLong RX8 211 (9)) (List.mem_of_getElem? (i := 3) rfl)
  have q_2 := hts (.constantLong RX8 209 (999)) (List.mem_of_getElem? (i := 2) rfl)
  have q_1 := hts (.constantLong RX8 207 (3)) (List.mem_of_getElem? (i := 1) rfl)
  have h := hf
  unfold f_X8_alter at h
  clear hf
  refine lv_iload_n hx hb dX8_alter_0 rfl (lv_at hl 2 rfl) ?_
  obtain ⟨t_1, hj_1, h⟩ := b1_inv h
  have J_1 : ∀ (H : Heap) (locs : List Loc) (ls : Array Slot), Wd D A s.heap H locs (wX8 k mh mrSt mrNow mrIsKept mrDraft mrTape mrRow mrRode mrWays mrLanes mrSizes mrCells mrBefore mSt mNow mIsKept mPeople mDraft mDPeople mHasDry mToldDebts mHighest mTape mTaped mPos mBegun mSort mValue mFault mWrongAt mPaid mRow mRingMuch mRideSum mOwedSum mAllWays mRode mWays mLanes mSizes mCells mTorn mBefore) → lv_has ls 5 [(0, .ref mh), (1, .int p1), (2, .int p2), (3, .int p3)] → W p l e rmX8_alter s m args below meth c H locs 0 0 Q (F0 m 55 ls [.int t_1]) := by
    intro H locs ls hw hl
    refine lv_istore (lv' := [(4, .int t_1), (0, .ref mh), (1, .int p1), (2, .int p2), (3, .int p3)]) hx hb dX8_alter_55 hl (by decide) rfl (fun ls hl => ?_)
    refine lv_aload_n hx hb dX8_alter_57 rfl (lv_at hl 1 rfl) ?_
    refine lv_iload_n hx hb dX8_alter_58 rfl (lv_at hl 2 rfl) ?_
    obtain ⟨r_5, hf, h⟩ := b1_inv h
    refine k_callV (host := "") fx hK hA hw (c_X8_isOne l D k mh mrSt mrNow mrIsKept mrDraft mrTape mrRow mrRode mrWays mrLanes mrSizes mrCells mrBefore _ mSt mNow mIsKept mPeople mDraft mDPeople mHasDry mToldDebts mHighest mTape mTaped mPos mBegun mSort mValue mFault mWrongAt mPaid mRow mRingMuch mRideSum mOwedSum mAllWays mRode mWays mLanes mSizes mCells mTorn mBefore p1 r_5 hf) (cwV 1 hts gX8_alter_X8_isOne rfl rfl rfl (by decide +kernel) ⟨by decide, by decide⟩) (As := [.int p1]) (wr := []) (ws' := wX8 k mh mrSt mrNow mrIsKept mrDraft mrTape mrRow mrRode mrWays mrLanes mrSizes mrCells mrBefore mSt mNow mIsKept mPeople mDraft mDPeople mHasDry mToldDebts mHighest mTape mTaped mPos mBegun mSort mValue mFault mWrongAt mPaid mRow mRingMuch mRideSum mOwedSum mAllWays mRode mWays mLanes mSizes mCells mTorn mBefore) [0, 1, 2, 3, 4, 5, 6, 7, 8, 9, 10, 11, 12] [] [0, 1, 2, 3, 4, 5, 6, 7, 8, 9, 10, 11, 12] rfl rfl (by decide) (by decide) (by decide) rfl (by decide) 8 rfl rfl [] rfl hl.1 rfl (Nat.le_of_ble_eq_true rfl) dX8_alter_59 ⟨by decide, by decide⟩ (fun H locs (hw : Wd D A s.heap H locs (wX8 k mh mrSt mrNow mrIsKept mrDraft mrTape mrRow mrRode mrWays mrLanes mrSizes mrCells mrBefore mSt mNow mIsKept mPeople mDraft mDPeople mHasDry mToldDebts mHighest mTape mTaped mPos mBegun mSort mValue mFault mWrongAt mPaid mRow mRingMuch mRideSum mOwedSum mAllWays mRode mWays mLanes mSizes mCells mTorn mBefore)) => ?_)
    refine W.eq (g2 := F0 m 62 ls ([.int r_5])) rfl ?_
    refine kb_if_eq (tgt := 83) hx hb dX8_alter_62 (by decide) h (fun c_62 h => ?_) (fun c_62 h => ?_)
    · refine lv_iconst (v := (-1)) hx hb dX8_alter_83 (by decide) ?_
      cases h
      exact k_iret hx hb hr hlocks hw rfl dX8_alter_84 hQ
    · refine lv_iload hx hb dX8_alter_65 (lv_at hl 0 rfl) ?_
      refine kb_if_eq (tgt := 83) hx hb dX8_alter_67 (by decide) h (fun c_67 h => ?_) (fun c_67 h => ?_)
      · refine lv_iconst (v := (-1)) hx hb dX8_alter_83 (by decide) ?_
        cases h
        exact k_iret hx hb hr hlocks hw rfl dX8_alter_84 hQ
      · refine lv_aload_n hx hb dX8_alter_70 rfl (lv_at hl 1 rfl) ?_
        refine lv_iconst (v := 3) hx hb dX8_alter_71 (by decide) ?_
        refine lv_iload_n hx hb dX8_alter_72 rfl (lv_at hl 2 rfl) ?_
        refine lv_imul hx hb dX8_alter_73 ?_
        refine lv_iload_n hx hb dX8_alter_74 rfl (lv_at hl 3 rfl) ?_
        refine lv_iadd hx hb dX8_alter_75 ?_
        refine lv_iload_n hx hb dX8_alter_76 rfl (lv_at hl 4 rfl) ?_
        obtain ⟨r_6, mSt_7, hf, h⟩ := b2_inv h
        refine k_callV (host := "") fx hK hA hw (c_X8_becomes l D k mh mrSt mrNow mrIsKept mrDraft mrTape mrRow mrRode mrWays mrLanes mrSizes mrCells mrBefore _ mSt mNow mIsKept mPeople mDraft mDPeople mHasDry mToldDebts mHighest mTape mTaped mPos mBegun mSort mValue mFault mWrongAt mPaid mRow mRingMuch mRideSum mOwedSum mAllWays mRode mWays mLanes mSizes mCells mTorn mBefore ((3 * p1) + p2) p3 r_6 mSt_7 hf) (cwV 2 hts gX8_alter_X8_becomes rfl rfl rfl (by decide +kernel) ⟨by decide, by decide⟩) (As := [.int ((3 * p1) + p2), .int p3]) (wr := []) (ws' := wX8 k mh mrSt mrNow mrIsKept mrDraft mrTape mrRow mrRode mrWays mrLanes mrSizes mrCells mrBefore mSt_7 mNow mIsKept mPeople mDraft mDPeople mHasDry mToldDebts mHighest mTape mTaped mPos mBegun mSort mValue mFault mWrongAt mPaid mRow mRingMuch mRideSum mOwedSum mAllWays mRode mWays mLanes mSizes mCells mTorn mBefore) [0, 1, 2, 3, 4, 5, 6, 7, 8, 9, 10, 11, 12] [] [0, 1, 2, 3, 4, 5, 6, 7, 8, 9, 10, 11, 12] rfl rfl (by decide) (by decide) (by decide) rfl (by decide) 8 rfl rfl [] rfl hl.1 rfl (Nat.le_of_ble_eq_true rfl) dX8_alter_77 ⟨by decide, by decide⟩ (fun H locs (hw : Wd D A s.heap H locs (wX8 k mh mrSt mrNow mrIsKept mrDraft mrTape mrRow mrRode mrWays mrLanes mrSizes mrCells mrBefore mSt_7 mNow mIsKept mPeople mDraft mDPeople mHasDry mToldDebts mHighest mTape mTaped mPos mBegun mSort mValue mFault mWrongAt mPaid mRow mRingMuch mRideSum mOwedSum mAllWays mRode mWays mLanes mSizes mCells mTorn mBefore)) => ?_)
        refine W.eq (g2 := F0 m 80 ls ([.int r_6])) rfl ?_
        refine lv_goto (tgt := 84) hx hb dX8_alter_80 (by decide) ?_
        cases h
        exact k_iret hx hb hr hlocks hw rfl dX8_alter_84 hQ
  clear h
  have h := hj_1
  refine kb_if_ne (tgt := 16) hx hb dX8_alter_1 (by decide) h (fun c_1 h => ?_) (fun c_1 h => ?_)
  · refine lv_iload_n hx hb dX8_alter_4 rfl (lv_at hl 3 rfl) ?_
    refine lv_i2l hx hb dX8_alter_5 rfl ?_
    refine lv_lconst (v := 0) hx hb dX8_alter_6 rfl ?_
    refine lv_ldc2 (v := 3) hx hb hown q_1 dX8_alter_7 ?_
    obtain ⟨r_4, hf, h⟩ := b1_inv h
    refine k_callS (b := 0) (C := "") (host := "") fx hK hA hw (c_X8_in l D k _ p3.toInt64 0 3 r_4 hf) (va_cwS 3 hts gX8_alter_X8_in rfl rfl rfl (by decide +kernel) ⟨by decide, by decide⟩) (As := [.long p3.toInt64, .long 0, .long 3]) (wr := [(mh, .inr (8, [.ref mrSt, .ref mrNow, .ref mrIsKept, .int mPeople, .ref mrDraft, .int mDPeople, .int mHasDry, .int mToldDebts, .int mHighest, .ref mrTape, .int mTaped, .int mPos, .int mBegun, .int mSort, .int mValue, .int mFault, .int mWrongAt, .int mPaid, .ref mrRow, .int mRingMuch, .long mRideSum, .long mOwedSum, .long mAllWays, .ref mrRode, .ref mrWays, .ref mrLanes, .ref mrSizes, .ref mrCells, .int mTorn, .ref mrBefore])), (mrSt, .inl (k 0, 183, .inl mSt)), (mrNow, .inl (k 0, 61, .inl mNow)), (mrIsKept, .inl (k 1, 2, .inl mIsKept)), (mrDraft, .inl (k 0, 61, .inl mDraft)), (mrTape, .inl (k 0, 160, .inl mTape)), (mrRow, .inl (k 0, 5, .inl mRow)), (mrRode, .inl (k 0, 31, .inl mRode)), (mrWays, .inl (k 0, 31, .inl mWays)), (mrLanes, .inl (k 0, 4, .inl mLanes)), (mrSizes, .inl (k 0, 4, .inl mSizes)), (mrCells, .inl (k 0, 160, .inl mCells)), (mrBefore, .inl (k 0, 61, .inl mBefore))]) (ws' := wX8 k mh mrSt mrNow mrIsKept mrDraft mrTape mrRow mrRode mrWays mrLanes mrSizes mrCells mrBefore mSt mNow mIsKept mPeople mDraft mDPeople mHasDry mToldDebts mHighest mTape mTaped mPos mBegun mSort mValue mFault mWrongAt mPaid mRow mRingMuch mRideSum mOwedSum mAllWays mRode mWays mLanes mSizes mCells mTorn mBefore) [] [0, 1, 2, 3, 4, 5, 6, 7, 8, 9, 10, 11, 12] [0, 1, 2, 3, 4, 5, 6, 7, 8, 9, 10, 11, 12] rfl rfl (by decide) (by decide) (by decide) rfl (by decide) [] rfl hl.1 rfl (Nat.le_of_ble_eq_true rfl) dX8_alter_10 ⟨by decide, by decide⟩ (fun H locs (hw : Wd D A s.heap H locs (wX8 k mh mrSt mrNow mrIsKept mrDraft mrTape mrRow mrRode mrWays mrLanes mrSizes mrCells mrBefore mSt mNow mIsKept mPeople mDraft mDPeople mHasDry mToldDebts mHighest mTape mTaped mPos mBegun mSort mValue mFault mWrongAt mPaid mRow mRingMuch mRideSum mOwedSum mAllWays mRode mWays mLanes mSizes mCells mTorn mBefore)) => ?_)
    refine W.eq (g2 := F0 m 13 ls ([.int r_4])) rfl ?_
    refine lv_goto (tgt := 55) hx hb dX8_alter_13 (by decide) ?_
    cases h
    exact J_1 _ _ _ hw (lv_sub hl [0, 1, 2, 3] rfl)
  · refine lv_iload_n hx hb dX8_alter_16 rfl (lv_at hl 2 rfl) ?_
    refine lv_iconst (v := 1) hx hb dX8_alter_17 (by decide) ?_
    refine kb_icmp_ne (tgt := 33) hx hb dX8_alter_18 (by decide) h (fun c_18 h => ?_) (fun c_18 h => ?_)
    · refine lv_iload_n hx hb dX8_alter_21 rfl (lv_at hl 3 rfl) ?_
      refine lv_i2l hx hb dX8_alter_22 rfl ?_
      refine lv_lconst (v := 0) hx hb dX8_alter_23 rfl ?_
      refine lv_ldc2 (v := 999) hx hb hown q_2 dX8_alter_24 ?_
      obtain ⟨r_3, hf, h⟩ := b1_inv h
      refine k_callS (b := 0) (C := "") (host := "") fx hK hA hw (c_X8_in l D k _ p3.toInt64 0 999 r_3 hf) (va_cwS 3 hts gX8_alter_X8_in rfl rfl rfl (by decide +kernel) ⟨by decide, by decide⟩) (As := [.long p3.toInt64, .long 0, .long 999]) (wr := [(mh, .inr (8, [.ref mrSt, .ref mrNow, .ref mrIsKept, .int mPeople, .ref mrDraft, .int mDPeople, .int mHasDry, .int mToldDebts, .int mHighest, .ref mrTape, .int mTaped, .int mPos, .int mBegun, .int mSort, .int mValue, .int mFault, .int mWrongAt, .int mPaid, .ref mrRow, .int mRingMuch, .long mRideSum, .long mOwedSum, .long mAllWays, .ref mrRode, .ref mrWays, .ref mrLanes, .ref mrSizes, .ref mrCells, .int mTorn, .ref mrBefore])), (mrSt, .inl (k 0, 183, .inl mSt)), (mrNow, .inl (k 0, 61, .inl mNow)), (mrIsKept, .inl (k 1, 2, .inl mIsKept)), (mrDraft, .inl (k 0, 61, .inl mDraft)), (mrTape, .inl (k 0, 160, .inl mTape)), (mrRow, .inl (k 0, 5, .inl mRow)), (mrRode, .inl (k 0, 31, .inl mRode)), (mrWays, .inl (k 0, 31, .inl mWays)), (mrLanes, .inl (k 0, 4, .inl mLanes)), (mrSizes, .inl (k 0, 4, .inl mSizes)), (mrCells, .inl (k 0, 160, .inl mCells)), (mrBefore, .inl (k 0, 61, .inl mBefore))]) (ws' := wX8 k mh mrSt mrNow mrIsKept mrDraft mrTape mrRow mrRode mrWays mrLanes mrSizes mrCells mrBefore mSt mNow mIsKept mPeople mDraft mDPeople mHasDry mToldDebts mHighest mTape mTaped mPos mBegun mSort mValue mFault mWrongAt mPaid mRow mRingMuch mRideSum mOwedSum mAllWays mRode mWays mLanes mSizes mCells mTorn mBefore) [] [0, 1, 2, 3, 4, 5, 6, 7, 8, 9, 10, 11, 12] [0, 1, 2, 3, 4, 5, 6, 7, 8, 9, 10, 11, 12] rfl rfl (by decide) (by decide) (by decide) rfl (by decide) [] rfl hl.1 rfl (Nat.le_of_ble_eq_true rfl) dX8_alter_27 ⟨by decide, by decide⟩ (fun H locs (hw : Wd D A s.heap H locs (wX8 k mh mrSt mrNow mrIsKept mrDraft mrTape mrRow mrRode mrWays mrLanes mrSizes mrCells mrBefore mSt mNow mIsKept mPeople mDraft mDPeople mHasDry mToldDebts mHighest mTape mTaped mPos mBegun mSort mValue mFault mWrongAt mPaid mRow mRingMuch mRideSum mOwedSum mAllWays mRode mWays mLanes mSizes mCells mTorn mBefore)) => ?_)
      refine W.eq (g2 := F0 m 30 ls ([.int r_3])) rfl ?_
      refine lv_goto (tgt := 55) hx hb dX8_alter_30 (by decide) ?_
      cases h
      exact J_1 _ _ _ hw (lv_sub hl [0, 1, 2, 3] rfl)
    · refine lv_iload_n hx hb dX8_alter_33 rfl (lv_at hl 2 rfl) ?_
      refine lv_iconst (v := 2) hx hb dX8_alter_34 (by decide) ?_
      refine kb_icmp_ne (tgt := 54) hx hb dX8_alter_35 (by decide) h (fun c_35 h => ?_) (fun c_35 h => ?_)
      · refine lv_iload_n hx hb dX8_alter_38 rfl (lv_at hl 3 rfl) ?_
        refine lv_i2l hx hb dX8_alter_39 rfl ?_
        refine lv_lconst (v := 0) hx hb dX8_alter_40 rfl ?_
        refine lv_ldc2 (v := 9) hx hb hown q_3 dX8_alter_41 ?_
        obtain ⟨r_2, hf, h⟩ := b1_inv h
        refine k_callS (b := 0) (C := "") (host := "") fx hK hA hw (c_X8_in l D k _ p3.toInt64 0 9 r_2 hf) (va_cwS 3 hts gX8_alter_X8_in rfl rfl rfl (by decide +kernel) ⟨by decide, by decide⟩) (As := [.long p3.toInt64, .long 0, .long 9]) (wr := [(mh, .inr (8, [.ref mrSt, .ref mrNow, .ref mrIsKept, .int mPeople, .ref mrDraft, .int mDPeople, .int mHasDry, .int mToldDebts, .int mHighest, .ref mrTape, .int mTaped, .int mPos, .int mBegun, .int mSort, .int mValue, .int mFault, .int mWrongAt, .int mPaid, .ref mrRow, .int mRingMuch, .long mRideSum, .long mOwedSum, .long mAllWays, .ref mrRode, .ref mrWays, .ref mrLanes, .ref mrSizes, .ref mrCells, .int mTorn, .ref mrBefore])), (mrSt, .inl (k 0, 183, .inl mSt)), (mrNow, .inl (k 0, 61, .inl mNow)), (mrIsKept, .inl (k 1, 2, .inl mIsKept)), (mrDraft, .inl (k 0, 61, .inl mDraft)), (mrTape, .inl (k 0, 160, .inl mTape)), (mrRow, .inl (k 0, 5, .inl mRow)), (mrRode, .inl (k 0, 31, .inl mRode)), (mrWays, .inl (k 0, 31, .inl mWays)), (mrLanes, .inl (k 0, 4, .inl mLanes)), (mrSizes, .inl (k 0, 4, .inl mSizes)), (mrCells, .inl (k 0, 160, .inl mCells)), (mrBefore, .inl (k 0, 61, .inl mBefore))]) (ws' := wX8 k mh mrSt mrNow mrIsKept mrDraft mrTape mrRow mrRode mrWays mrLanes mrSizes mrCells mrBefore mSt mNow mIsKept mPeople mDraft mDPeople mHasDry mToldDebts mHighest mTape mTaped mPos mBegun mSort mValue mFault mWrongAt mPaid mRow mRingMuch mRideSum mOwedSum mAllWays mRode mWays mLanes mSizes mCells mTorn mBefore) [] [0, 1, 2, 3, 4, 5, 6, 7, 8, 9, 10, 11, 12] [0, 1, 2, 3, 4, 5, 6, 7, 8, 9, 10, 11, 12] rfl rfl (by decide) (by decide) (by decide) rfl (by decide) [] rfl hl.1 rfl (Nat.le_of_ble_eq_true rfl) dX8_alter_44 ⟨by decide, by decide⟩ (fun H locs (hw : Wd D A s.heap H locs (wX8 k mh mrSt mrNow mrIsKept mrDraft mrTape mrRow mrRode mrWays mrLanes mrSizes mrCells mrBefore mSt mNow mIsKept mPeople mDraft mDPeople mHasDry mToldDebts mHighest mTape mTaped mPos mBegun mSort mValue mFault mWrongAt mPaid mRow mRingMuch mRideSum mOwedSum mAllWays mRode mWays mLanes mSizes mCells mTorn mBefore)) => ?_)
        refine W.eq (g2 := F0 m 47 ls ([.int r_2])) rfl ?_
        refine kb_if_eq (tgt := 54) hx hb dX8_alter_47 (by decide) h (fun c_47 h => ?_) (fun c_47 h => ?_)
        · refine lv_iconst (v := 0) hx hb dX8_alter_54 (by decide) ?_
          cases h
          exact J_1 _ _ _ hw (lv_sub hl [0, 1, 2, 3] rfl)
        · refine lv_iconst (v := 1) hx hb dX8_alter_50 (by decide) ?_
          refine lv_goto (tgt := 55) hx hb dX8_alter_51 (by decide) ?_
          cases h
          exact J_1 _ _ _ hw (lv_sub hl [0, 1, 2, 3] rfl)
      · refine lv_iconst (v := 0) hx hb dX8_alter_54 (by decide) ?_
        cases h
        exact J_1 _ _ _ hw (lv_sub hl [0, 1, 2, 3] rfl)
abbrev rmX8_areTwo : Room := { frames := 2, cells := 0, slots := 0, locals := 46 }
set_option maxHeartbeats 4000000 in
set_option maxRecDepth 100000 in
theorem c_X8_areTwo (l : Launch) (D : va_G) (k : Nat → ClassId) (mh mrSt mrNow mrIsKept mrDraft mrTape mrRow mrRode mrWays mrLanes mrSizes mrCells mrBefore : Nat) (sz : Nat) (mSt : (Nat → Int32)) (mNow : (Nat → Int32)) (mIsKept : (Nat → Int32)) (mPeople : Int32) (mDraft : (Nat → Int32)) (mDPeople : Int32) (mHasDry : Int32) (mToldDebts : Int32) (mHighest : Int32) (mTape : (Nat → Int32)) (mTaped : Int32) (mPos : Int32) (mBegun : Int32) (mSort : Int32) (mValue : Int32) (mFault : Int32) (mWrongAt : Int32) (mPaid : Int32) (mRow : (Nat → Int32)) (mRingMuch : Int32) (mRideSum : Int64) (mOwedSum : Int64) (mAllWays : Int64) (mRode : (Nat → Int32)) (mWays : (Nat → Int32)) (mLanes : (Nat → Int32)) (mSizes : (Nat → Int32)) (mCells : (Nat → Int32)) (mTorn : Int32) (mBefore : (Nat → Int32)) (p1 : Int32) (p2 : Int32) (r_ : Int32) (hf : f_X8_areTwo mPeople p1 p2 = some r_) : mR l yX8_areTwo wsX8_areTwo rmX8_areTwo D k sz [.ref mh, .int p1, .int p2] (wX8 k mh mrSt mrNow mrIsKept mrDraft mrTape mrRow mrRode mrWays mrLanes mrSizes mrCells mrBefore mSt mNow mIsKept mPeople mDraft mDPeople mHasDry mToldDebts mHighest mTape mTaped mPos mBegun mSort mValue mFault mWrongAt mPaid mRow mRingMuch mRideSum mOwedSum mAllWays mRode mWays mLanes mSizes mCells mTorn mBefore) (wX8 k mh mrSt mrNow mrIsKept mrDraft mrTape mrRow mrRode mrWays mrLanes mrSizes mrCells mrBefore mSt mNow mIsKept mPeople mDraft mDPeople mHasDry mToldDebts mHighest mTape mTaped mPos mBegun mSort mValue mFault mWrongAt mPaid mRow mRingMuch mRideSum mOwedSum mAllWays mRode mWays mLanes mSizes mCells mTorn mBefore) (some (.int r_)) := by
  refine mR_of (cc := cX8_areTwo) (maxL := 3) (ret := some .boolean) (by decide) rfl (Nat.le_of_ble_eq_true rfl) [(0, .ref mh), (1, .int p1), (2, .int p2)] rfl ?_
  intro p e s m below meth c A ls args Q cx hK hA hw hl hQ
  have fx := cx.1
  obtain ⟨⟨hx, hb, hml, hown, hts⟩, hr, hlocks⟩ := cx
  have h := hf
  unfold f_X8_areTwo at h
  clear hf
  refine lv_aload_n hx hb dX8_areTwo_0 rfl (lv_at hl 0 rfl) ?_
  refine lv_iload_n hx hb dX8_areTwo_1 rfl (lv_at hl 1 rfl) ?_
  obtain ⟨r_1, hf, h⟩ := b1_inv h
  refine k_callV (host := "") fx hK hA hw (c_X8_isOne l D k mh mrSt mrNow mrIsKept mrDraft mrTape mrRow mrRode mrWays mrLanes mrSizes mrCells mrBefore _ mSt mNow mIsKept mPeople mDraft mDPeople mHasDry mToldDebts mHighest mTape mTaped mPos mBegun mSort mValue mFault mWrongAt mPaid mRow mRingMuch mRideSum mOwedSum mAllWays mRode mWays mLanes mSizes mCells mTorn mBefore p1 r_1 hf) (cwV 1 hts gX8_areTwo_X8_isOne rfl rfl rfl (by decide +kernel) ⟨by decide, by decide⟩) (As := [.int p1]) (wr := []) (ws' := wX8 k mh mrSt mrNow mrIsKept mrDraft mrTape mrRow mrRode mrWays mrLanes mrSizes mrCells mrBefore mSt mNow mIsKept mPeople mDraft mDPeople mHasDry mToldDebts mHighest mTape mTaped mPos mBegun mSort mValue mFault mWrongAt mPaid mRow mRingMuch mRideSum mOwedSum mAllWays mRode mWays mLanes mSizes mCells mTorn mBefore) [0, 1, 2, 3, 4, 5, 6, 7, 8, 9, 10, 11, 12] [] [0, 1, 2, 3, 4, 5, 6, 7, 8, 9, 10, 11, 12] rfl rfl (by decide) (by decide) (by decide) rfl (by decide) 8 rfl rfl [] rfl hl.1 rfl (Nat.le_of_ble_eq_true rfl) dX8_areTwo_2 ⟨by decide, by decide⟩ (fun H locs (hw : Wd D A s.heap H locs (wX8 k mh mrSt mrNow mrIsKept mrDraft mrTape mrRow mrRode mrWays mrLanes mrSizes mrCells mrBefore mSt mNow mIsKept mPeople mDraft mDPeople mHasDry mToldDebts mHighest mTape mTaped mPos mBegun mSort mValue mFault mWrongAt mPaid mRow mRingMuch mRideSum mOwedSum mAllWays mRode mWays mLanes mSizes mCells mTorn mBefore)) => ?_)
  refine W.eq (g2 := F0 m 5 ls ([.int r_1])) rfl ?_
  refine kb_if_eq (tgt := 25) hx hb dX8_areTwo_5 (by decide) h (fun c_5 h => ?_) (fun c_5 h => ?_)
  · refine lv_iconst (v := 0) hx hb dX8_areTwo_25 (by decide) ?_
    cases h
    exact k_zret hx hb hr hlocks hw (by decide) rfl dX8_areTwo_26 hQ
  · refine lv_aload_n hx hb dX8_areTwo_8 rfl (lv_at hl 0 rfl) ?_
    refine lv_iload_n hx hb dX8_areTwo_9 rfl (lv_at hl 2 rfl) ?_
    obtain ⟨r_2, hf, h⟩ := b1_inv h
    refine k_callV (host := "") fx hK hA hw (c_X8_isOne l D k mh mrSt mrNow mrIsKept mrDraft mrTape mrRow mrRode mrWays mrLanes mrSizes mrCells mrBefore _ mSt mNow mIsKept mPeople mDraft mDPeople mHasDry mToldDebts mHighest mTape mTaped mPos mBegun mSort mValue mFault mWrongAt mPaid mRow mRingMuch mRideSum mOwedSum mAllWays mRode mWays mLanes mSizes mCells mTorn mBefore p2 r_2 hf) (cwV 1 hts gX8_areTwo_X8_isOne rfl rfl rfl (by decide +kernel) ⟨by decide, by decide⟩) (As := [.int p2]) (wr := []) (ws' := wX8 k mh mrSt mrNow mrIsKept mrDraft mrTape mrRow mrRode mrWays mrLanes mrSizes mrCells mrBefore mSt mNow mIsKept mPeople mDraft mDPeople mHasDry mToldDebts mHighest mTape mTaped mPos mBegun mSort mValue mFault mWrongAt mPaid mRow mRingMuch mRideSum mOwedSum mAllWays mRode mWays mLanes mSizes mCells mTorn mBefore) [0, 1, 2, 3, 4, 5, 6, 7, 8, 9, 10, 11, 12] [] [0, 1, 2, 3, 4, 5, 6, 7, 8, 9, 10, 11, 12] rfl rfl (by decide) (by decide) (by decide) rfl (by decide) 8 rfl rfl [] rfl hl.1 rfl (Nat.le_of_ble_eq_true rfl) dX8_areTwo_10 ⟨by decide, by decide⟩ (fun H locs (hw : Wd D A s.heap H locs (wX8 k mh mrSt mrNow mrIsKept mrDraft mrTape mrRow mrRode mrWays mrLanes mrSizes mrCells mrBefore mSt mNow mIsKept mPeople mDraft mDPeople mHasDry mToldDebts mHighest mTape mTaped mPos mBegun mSort mValue mFault mWrongAt mPaid mRow mRingMuch mRideSum mOwedSum mAllWays mRode mWays mLanes mSizes mCells mTorn mBefore)) => ?_)
    refine W.eq (g2 := F0 m 13 ls ([.int r_2])) rfl ?_
    refine kb_if_eq (tgt := 25) hx hb dX8_areTwo_13 (by decide) h (fun c_13 h => ?_) (fun c_13 h => ?_)
    · refine lv_iconst (v := 0) hx hb dX8_areTwo_25 (by decide) ?_
      cases h
      exact k_zret hx hb hr hlocks hw (by decide) rfl dX8_areTwo_26 hQ
    · refine lv_iload_n hx hb dX8_areTwo_16 rfl (lv_at hl 1 rfl) ?_
      refine lv_iload_n hx hb dX8_areTwo_17 rfl (lv_at hl 2 rfl) ?_
      refine kb_icmp_eq (tgt := 25) hx hb dX8_areTwo_18 (by decide) h (fun c_18 h => ?_) (fun c_18 h => ?_)
      · refine lv_iconst (v := 0) hx hb dX8_areTwo_25 (by decide) ?_
        cases h
        exact k_zret hx hb hr hlocks hw (by decide) rfl dX8_areTwo_26 hQ
      · refine lv_iconst (v := 1) hx hb dX8_areTwo_21 (by decide) ?_
        refine lv_goto (tgt := 26) hx hb dX8_areTwo_22 (by decide) ?_
        cases h
        exact k_zret hx hb hr hlocks hw (by decide) rfl dX8_areTwo_26 hQ
abbrev rmX8_isPart : Room := { frames := 1, cells := 0, slots := 0, locals := 25 }
set_option maxHeartbeats 4000000 in
set_option maxRecDepth 100000 in
theorem c_X8_isPart (l : Launch) (D : va_G) (k : Nat → ClassId) (sz : Nat) (p1 : Int32) (r_ : Int32) (hf : f_X8_isPart p1 = some r_) : mR l yX8_isPart wsX8_isPart rmX8_isPart D k sz [.int p1] ([]) ([]) (some (.int r_)) := by
  refine mR_of (cc := cX8_isPart) (maxL := 1) (ret := some .boolean) (by decide) rfl (Nat.le_of_ble_eq_true rfl) [(0, .int p1)] rfl ?_
  intro p e s m below meth c A ls args Q cx hK hA hw hl hQ
  have fx := cx.1
  obtain ⟨⟨hx, hb, hml, hown, hts⟩, hr, hlocks⟩ := cx
  have h := hf
  unfold f_X8_isPart at h
  clear hf
  refine lv_iload_n hx hb dX8_isPart_0 rfl (lv_at hl 0 rfl) ?_
  refine lv_i2l hx hb dX8_isPart_1 rfl ?_
  refine lv_lconst (v := 0) hx hb dX8_isPart_2 rfl ?_
  refine lv_lconst (v := 1) hx hb dX8_isPart_3 rfl ?_
  obtain ⟨r_1, hf, h⟩ := b1_inv h
  refine k_callS (b := 0) (C := "") (host := "") fx hK hA hw (c_X8_in l D k _ p1.toInt64 0 1 r_1 hf) (va_cwS 3 hts gX8_isPart_X8_in rfl rfl rfl (by decide +kernel) ⟨by decide, by decide⟩) (As := [.long p1.toInt64, .long 0, .long 1]) (wr := []) (ws' := []) [] [] [] rfl rfl (by decide) (by decide) (by decide) rfl (by decide) [] rfl hl.1 rfl (Nat.le_of_ble_eq_true rfl) dX8_isPart_4 ⟨by decide, by decide⟩ (fun H locs (hw : Wd D A s.heap H locs ([])) => ?_)
  refine W.eq (g2 := F0 m 7 ls ([.int r_1])) rfl ?_
  obtain ⟨z_2, hz, h⟩ := b1_inv h
  obtain ⟨hz1, hz2⟩ := bz_inv hz
  refine k_lit hz1.symm ?_
  rw [← hz1] at hz2
  cases h
  exact k_zret hx hb hr hlocks hw hz2 rfl dX8_isPart_7 hQ
abbrev rmX8_flag : Room := { frames := 0, cells := 0, slots := 0, locals := 0 }
set_option maxHeartbeats 4000000 in
set_option maxRecDepth 100000 in
theorem c_X8_flag (l : Launch) (D : va_G) (k : Nat → ClassId) (sz : Nat) (p1 : Int32) (r_ : Int32) (hf : f_X8_flag p1 = some r_) : mR l yX8_flag wsX8_flag rmX8_flag D k sz [.int p1] ([]) ([]) (some (.int r_)) := by
  refine mR_of (cc := cX8_flag) (maxL := 1) (ret := some .int) (by decide) rfl (Nat.le_of_ble_eq_true rfl) [(0, .int p1)] rfl ?_
  intro p e s m below meth c A ls args Q cx hK hA hw hl hQ
  have fx := cx.1
  obtain ⟨⟨hx, hb, hml, hown, hts⟩, hr, hlocks⟩ := cx
  have h := hf
  unfold f_X8_flag at h
  clear hf
  refine lv_iload_n hx hb dX8_flag_0 rfl (lv_at hl 0 rfl) ?_
  refine kb_if_eq (tgt := 8) hx hb dX8_flag_1 (by decide) h (fun c_1 h => ?_) (fun c_1 h => ?_)
  · refine lv_iconst (v := 0) hx hb dX8_flag_8 (by decide) ?_
    cases h
    exact k_iret hx hb hr hlocks hw rfl dX8_flag_9 hQ
  · refine lv_iconst (v := 1) hx hb dX8_flag_4 (by decide) ?_
    refine lv_goto (tgt := 9) hx hb dX8_flag_5 (by decide) ?_
    cases h
    exact k_iret hx hb hr hlocks hw rfl dX8_flag_9 hQ
abbrev rmX8_riding : Room := { frames := 2, cells := 0, slots := 0, locals := 45 }
set_option maxHeartbeats 4000000 in
set_option maxRecDepth 100000 in
theorem c_X8_riding (l : Launch) (D : va_G) (k : Nat → ClassId) (mh mrSt mrNow mrIsKept mrDraft mrTape mrRow mrRode mrWays mrLanes mrSizes mrCells mrBefore : Nat) (sz : Nat) (mSt : (Nat → Int32)) (mNow : (Nat → Int32)) (mIsKept : (Nat → Int32)) (mPeople : Int32) (mDraft : (Nat → Int32)) (mDPeople : Int32) (mHasDry : Int32) (mToldDebts : Int32) (mHighest : Int32) (mTape : (Nat → Int32)) (mTaped : Int32) (mPos : Int32) (mBegun : Int32) (mSort : Int32) (mValue : Int32) (mFault : Int32) (mWrongAt : Int32) (mPaid : Int32) (mRow : (Nat → Int32)) (mRingMuch : Int32) (mRideSum : Int64) (mOwedSum : Int64) (mAllWays : Int64) (mRode : (Nat → Int32)) (mWays : (Nat → Int32)) (mLanes : (Nat → Int32)) (mSizes : (Nat → Int32)) (mCells : (Nat → Int32)) (mTorn : Int32) (mBefore : (Nat → Int32)) (r_ : Int32) (hf : f_X8_riding mNow mPeople = some r_) : mR l yX8_riding wsX8_riding rmX8_riding D k sz [.ref mh] (wX8 k mh mrSt mrNow mrIsKept mrDraft mrTape mrRow mrRode mrWays mrLanes mrSizes mrCells mrBefore mSt mNow mIsKept mPeople mDraft mDPeople mHasDry mToldDebts mHighest mTape mTaped mPos mBegun mSort mValue mFault mWrongAt mPaid mRow mRingMuch mRideSum mOwedSum mAllWays mRode mWays mLanes mSizes mCells mTorn mBefore) (wX8 k mh mrSt mrNow mrIsKept mrDraft mrTape mrRow mrRode mrWays mrLanes mrSizes mrCells mrBefore mSt mNow mIsKept mPeople mDraft mDPeople mHasDry mToldDebts mHighest mTape mTaped mPos mBegun mSort mValue mFault mWrongAt mPaid mRow mRingMuch mRideSum mOwedSum mAllWays mRode mWays mLanes mSizes mCells mTorn mBefore) (some (.int r_)) := by
  refine mR_of (cc := cX8_riding) (maxL := 3) (ret := some .int) (by decide) rfl (Nat.le_of_ble_eq_true rfl) [(0, .ref mh)] rfl ?_
  intro p e s m below meth c A ls args Q cx hK hA hw hl hQ
  have fx := cx.1
  obtain ⟨⟨hx, hb, hml, hown, hts⟩, hr, hlocks⟩ := cx
  have hinX8 : ∀ w ∈ wsX80, w ∈ wsX8_riding := fun w h => List.mem_cons_of_mem _ (List.mem_append_right _ h)
  have q_1 := hts (.fieldLink RX8 67 "DebtRidesModel" "people" "I") (List.mem_of_getElem? (i := 1) rfl)
  have h := hf
  unfold f_X8_riding at h
  clear hf
  refine lv_iconst (v := 0) hx hb dX8_riding_0 (by decide) ?_
  refine lv_istore_n (lv' := [(1, .int 0), (0, .ref mh)]) hx hb dX8_riding_1 rfl hl (by decide) rfl (fun ls hl => ?_)
  refine lv_iconst (v := 0) hx hb dX8_riding_2 (by decide) ?_
  refine lv_istore_n (lv' := [(2, .int 0), (1, .int 0), (0, .ref mh)]) hx hb dX8_riding_3 rfl hl (by decide) rfl (fun ls hl => ?_)
  obtain ⟨v1_3, hL_4, h⟩ := b1_inv h
  have X_4 : ∀ (H : Heap) (locs : List Loc) (ls : Array Slot), Wd D A s.heap H locs (wX8 k mh mrSt mrNow mrIsKept mrDraft mrTape mrRow mrRode mrWays mrLanes mrSizes mrCells mrBefore mSt mNow mIsKept mPeople mDraft mDPeople mHasDry mToldDebts mHighest mTape mTaped mPos mBegun mSort mValue mFault mWrongAt mPaid mRow mRingMuch mRideSum mOwedSum mAllWays mRode mWays mLanes mSizes mCells mTorn mBefore) → lv_has ls 3 [(1, .int v1_3)] → W p l e rmX8_riding s m args below meth c H locs 0 0 Q (F0 m 39 ls []) := by
    intro H locs ls hw hl
    refine lv_iload_n hx hb dX8_riding_39 rfl (lv_at hl 0 rfl) ?_
    cases h
    exact k_iret hx hb hr hlocks hw rfl dX8_riding_40 hQ
  clear h
  have LP_4 : ∀ (n : Nat) (v1_1 : Int32) (v2_2 : Int32), f_X8_riding_L4 mNow mPeople n v1_1 v2_2 = some v1_3 → ∀ (H : Heap) (locs : List Loc) (ls : Array Slot), Wd D A s.heap H locs (wX8 k mh mrSt mrNow mrIsKept mrDraft mrTape mrRow mrRode mrWays mrLanes mrSizes mrCells mrBefore mSt mNow mIsKept mPeople mDraft mDPeople mHasDry mToldDebts mHighest mTape mTaped mPos mBegun mSort mValue mFault mWrongAt mPaid mRow mRingMuch mRideSum mOwedSum mAllWays mRode mWays mLanes mSizes mCells mTorn mBefore) → lv_has ls 3 [(0, .ref mh), (1, .int v1_1), (2, .int v2_2)] → W p l e rmX8_riding s m args below meth c H locs 0 0 Q (F0 m 4 ls []) := by
    clear hL_4 hw hl
    intro n
    induction n with
    | zero => intro v1_1 v2_2 h; rw [f_X8_riding_L4] at h; cases h
    | succ n ih =>
      intro v1_1 v2_2 h H locs ls hw hl
      rw [f_X8_riding_L4] at h
      refine lv_iload_n hx hb dX8_riding_4 rfl (lv_at hl 2 rfl) ?_
      refine lv_aload_n hx hb dX8_riding_5 rfl (lv_at hl 0 rfl) ?_
      refine va_get (ci := 8) (v := .int mPeople) (C := RX8) (T := TX8) (N := 30) hx hb hts hinX8 hown hK.1 hw.1 0 rfl rfl 3 (by decide) q_1 (fun _ h9 => h9) rfl dX8_riding_6 ?_
      refine kb_icmp_ge (tgt := 39) hx hb dX8_riding_9 (by decide) h (fun c_9 h => ?_) (fun c_9 h => ?_)
      · cases h
        exact X_4 _ _ _ hw (lv_sub hl [1] rfl)
      · refine lv_iload_n hx hb dX8_riding_12 rfl (lv_at hl 1 rfl) ?_
        refine lv_aload_n hx hb dX8_riding_13 rfl (lv_at hl 0 rfl) ?_
        refine lv_iload_n hx hb dX8_riding_14 rfl (lv_at hl 2 rfl) ?_
        obtain ⟨r_4, hf, h⟩ := b1_inv h
        refine k_callV (host := "") fx hK hA hw (c_X8_owesAll l D k mh mrSt mrNow mrIsKept mrDraft mrTape mrRow mrRode mrWays mrLanes mrSizes mrCells mrBefore _ mSt mNow mIsKept mPeople mDraft mDPeople mHasDry mToldDebts mHighest mTape mTaped mPos mBegun mSort mValue mFault mWrongAt mPaid mRow mRingMuch mRideSum mOwedSum mAllWays mRode mWays mLanes mSizes mCells mTorn mBefore v2_2 r_4 hf) (cwV 1 hts gX8_riding_X8_owesAll rfl rfl rfl (by decide +kernel) ⟨by decide, by decide⟩) (As := [.int v2_2]) (wr := []) (ws' := wX8 k mh mrSt mrNow mrIsKept mrDraft mrTape mrRow mrRode mrWays mrLanes mrSizes mrCells mrBefore mSt mNow mIsKept mPeople mDraft mDPeople mHasDry mToldDebts mHighest mTape mTaped mPos mBegun mSort mValue mFault mWrongAt mPaid mRow mRingMuch mRideSum mOwedSum mAllWays mRode mWays mLanes mSizes mCells mTorn mBefore) [0, 1, 2, 3, 4, 5, 6, 7, 8, 9, 10, 11, 12] [] [0, 1, 2, 3, 4, 5, 6, 7, 8, 9, 10, 11, 12] rfl rfl (by decide) (by decide) (by decide) rfl (by decide) 8 rfl rfl [.int v1_1] rfl hl.1 rfl (Nat.le_of_ble_eq_true rfl) dX8_riding_15 ⟨by decide, by decide⟩ (fun H locs (hw : Wd D A s.heap H locs (wX8 k mh mrSt mrNow mrIsKept mrDraft mrTape mrRow mrRode mrWays mrLanes mrSizes mrCells mrBefore mSt mNow mIsKept mPeople mDraft mDPeople mHasDry mToldDebts mHighest mTape mTaped mPos mBegun mSort mValue mFault mWrongAt mPaid mRow mRingMuch mRideSum mOwedSum mAllWays mRode mWays mLanes mSizes mCells mTorn mBefore)) => ?_)
        refine W.eq (g2 := F0 m 18 ls ([.int r_4, .int v1_1])) rfl ?_
        obtain ⟨t_5, hj_18, h⟩ := b1_inv h
        have J_18 : ∀ (H : Heap) (locs : List Loc) (ls : Array Slot), Wd D A s.heap H locs (wX8 k mh mrSt mrNow mrIsKept mrDraft mrTape mrRow mrRode mrWays mrLanes mrSizes mrCells mrBefore mSt mNow mIsKept mPeople mDraft mDPeople mHasDry mToldDebts mHighest mTape mTaped mPos mBegun mSort mValue mFault mWrongAt mPaid mRow mRingMuch mRideSum mOwedSum mAllWays mRode mWays mLanes mSizes mCells mTorn mBefore) → lv_has ls 3 [(0, .ref mh), (2, .int v2_2)] → W p l e rmX8_riding s m args below meth c H locs 0 0 Q (F0 m 26 ls [.int t_5, .int v1_1]) := by
          intro H locs ls hw hl
          obtain ⟨r_6, hf, h⟩ := b1_inv h
          refine k_callS (b := 0) (C := "") (host := "") fx hK hA hw (c_X8_flag l D k _ t_5 r_6 hf) (va_cwS 1 hts gX8_riding_X8_flag rfl rfl rfl (by decide +kernel) ⟨by decide, by decide⟩) (As := [.int t_5]) (wr := [(mh, .inr (8, [.ref mrSt, .ref mrNow, .ref mrIsKept, .int mPeople, .ref mrDraft, .int mDPeople, .int mHasDry, .int mToldDebts, .int mHighest, .ref mrTape, .int mTaped, .int mPos, .int mBegun, .int mSort, .int mValue, .int mFault, .int mWrongAt, .int mPaid, .ref mrRow, .int mRingMuch, .long mRideSum, .long mOwedSum, .long mAllWays, .ref mrRode, .ref mrWays, .ref mrLanes, .ref mrSizes, .ref mrCells, .int mTorn, .ref mrBefore])), (mrSt, .inl (k 0, 183, .inl mSt)), (mrNow, .inl (k 0, 61, .inl mNow)), (mrIsKept, .inl (k 1, 2, .inl mIsKept)), (mrDraft, .inl (k 0, 61, .inl mDraft)), (mrTape, .inl (k 0, 160, .inl mTape)), (mrRow, .inl (k 0, 5, .inl mRow)), (mrRode, .inl (k 0, 31, .inl mRode)), (mrWays, .inl (k 0, 31, .inl mWays)), (mrLanes, .inl (k 0, 4, .inl mLanes)), (mrSizes, .inl (k 0, 4, .inl mSizes)), (mrCells, .inl (k 0, 160, .inl mCells)), (mrBefore, .inl (k 0, 61, .inl mBefore))]) (ws' := wX8 k mh mrSt mrNow mrIsKept mrDraft mrTape mrRow mrRode mrWays mrLanes mrSizes mrCells mrBefore mSt mNow mIsKept mPeople mDraft mDPeople mHasDry mToldDebts mHighest mTape mTaped mPos mBegun mSort mValue mFault mWrongAt mPaid mRow mRingMuch mRideSum mOwedSum mAllWays mRode mWays mLanes mSizes mCells mTorn mBefore) [] [0, 1, 2, 3, 4, 5, 6, 7, 8, 9, 10, 11, 12] [0, 1, 2, 3, 4, 5, 6, 7, 8, 9, 10, 11, 12] rfl rfl (by decide) (by decide) (by decide) rfl (by decide) [.int v1_1] rfl hl.1 rfl (Nat.le_of_ble_eq_true rfl) dX8_riding_26 ⟨by decide, by decide⟩ (fun H locs (hw : Wd D A s.heap H locs (wX8 k mh mrSt mrNow mrIsKept mrDraft mrTape mrRow mrRode mrWays mrLanes mrSizes mrCells mrBefore mSt mNow mIsKept mPeople mDraft mDPeople mHasDry mToldDebts mHighest mTape mTaped mPos mBegun mSort mValue mFault mWrongAt mPaid mRow mRingMuch mRideSum mOwedSum mAllWays mRode mWays mLanes mSizes mCells mTorn mBefore)) => ?_)
          refine W.eq (g2 := F0 m 29 ls ([.int r_6, .int v1_1])) rfl ?_
          refine lv_iload_n hx hb dX8_riding_29 rfl (lv_at hl 1 rfl) ?_
          refine lv_ishl hx hb dX8_riding_30 ?_
          refine lv_ior hx hb dX8_riding_31 ?_
          refine lv_istore_n (lv' := [(1, .int (v1_1 ||| (r_6 <<< (v2_2 &&& 31)))), (0, .ref mh), (2, .int v2_2)]) hx hb dX8_riding_32 rfl hl (by decide) rfl (fun ls hl => ?_)
          refine lv_iinc (v := v2_2 + 1) (lv' := [(2, .int (v2_2 + 1)), (1, .int (v1_1 ||| (r_6 <<< (v2_2 &&& 31)))), (0, .ref mh)]) hx hb dX8_riding_33 hl (k := 2) rfl rfl (by decide) rfl (fun ls hl => ?_)
          refine lv_goto (tgt := 4) hx hb dX8_riding_36 (by decide) ?_
          exact ih _ _ h _ _ _ hw (lv_sub hl [2, 1, 0] rfl)
        clear h
        have h := hj_18
        refine kb_if_ne (tgt := 25) hx hb dX8_riding_18 (by decide) h (fun c_18 h => ?_) (fun c_18 h => ?_)
        · refine lv_iconst (v := 1) hx hb dX8_riding_21 (by decide) ?_
          refine lv_goto (tgt := 26) hx hb dX8_riding_22 (by decide) ?_
          cases h
          exact J_18 _ _ _ hw (lv_sub hl [0, 2] rfl)
        · refine lv_iconst (v := 0) hx hb dX8_riding_25 (by decide) ?_
          cases h
          exact J_18 _ _ _ hw (lv_sub hl [0, 2] rfl)
  exact LP_4 400 0 0 hL_4 _ _ _ hw (lv_sub hl [2, 1, 0] rfl)
abbrev rmX8_isSoWith : Room := { frames := 4, cells := 0, slots := 0, locals := 92 }
set_option maxHeartbeats 4000000 in
set_option maxRecDepth 100000 in
theorem c_X8_isSoWith (l : Launch) (D : va_G) (k : Nat → ClassId) (mh mrSt mrNow mrIsKept mrDraft mrTape mrRow mrRode mrWays mrLanes mrSizes mrCells mrBefore : Nat) (sz : Nat) (mSt : (Nat → Int32)) (mNow : (Nat → Int32)) (mIsKept : (Nat → Int32)) (mPeople : Int32) (mDraft : (Nat → Int32)) (mDPeople : Int32) (mHasDry : Int32) (mToldDebts : Int32) (mHighest : Int32) (mTape : (Nat → Int32)) (mTaped : Int32) (mPos : Int32) (mBegun : Int32) (mSort : Int32) (mValue : Int32) (mFault : Int32) (mWrongAt : Int32) (mPaid : Int32) (mRow : (Nat → Int32)) (mRingMuch : Int32) (mRideSum : Int64) (mOwedSum : Int64) (mAllWays : Int64) (mRode : (Nat → Int32)) (mWays : (Nat → Int32)) (mLanes : (Nat → Int32)) (mSizes : (Nat → Int32)) (mCells : (Nat → Int32)) (mTorn : Int32) (mBefore : (Nat → Int32)) (p1 : Int32) (p2 : Int32) (p3 : Int32) (r_ : Int32) (n_mNow : (Nat → Int32)) (n_mPaid : Int32) (n_mRode : (Nat → Int32)) (hf : f_X8_isSoWith mSt mNow mPeople mPaid mRode p1 p2 p3 = some (r_, n_mNow, n_mPaid, n_mRode)) : mR l yX8_isSoWith wsX8_isSoWith rmX8_isSoWith D k sz [.ref mh, .int p1, .int p2, .int p3] (wX8 k mh mrSt mrNow mrIsKept mrDraft mrTape mrRow mrRode mrWays mrLanes mrSizes mrCells mrBefore mSt mNow mIsKept mPeople mDraft mDPeople mHasDry mToldDebts mHighest mTape mTaped mPos mBegun mSort mValue mFault mWrongAt mPaid mRow mRingMuch mRideSum mOwedSum mAllWays mRode mWays mLanes mSizes mCells mTorn mBefore) (wX8 k mh mrSt mrNow mrIsKept mrDraft mrTape mrRow mrRode mrWays mrLanes mrSizes mrCells mrBefore mSt n_mNow mIsKept mPeople mDraft mDPeople mHasDry mToldDebts mHighest mTape mTaped mPos mBegun mSort mValue mFault mWrongAt n_mPaid mRow mRingMuch mRideSum mOwedSum mAllWays n_mRode mWays mLanes mSizes mCells mTorn mBefore) (some (.int r_)) := by
  refine mR_of (cc := cX8_isSoWith) (maxL := 7) (ret := some .boolean) (by decide) rfl (Nat.le_of_ble_eq_true rfl) [(0, .ref mh), (1, .int p1), (2, .int p2), (3, .int p3)] rfl ?_
  intro p e s m below meth c A ls args Q cx hK hA hw hl hQ
  have fx := cx.1
  obtain ⟨⟨hx, hb, hml, hown, hts⟩, hr, hlocks⟩ := cx
  have hinX8 : ∀ w ∈ wsX80, w ∈ wsX8_isSoWith := fun w h => List.mem_cons_of_mem _ (List.mem_append_right _ h)
  have q_1 := hts (.fieldLink RX8 29 "DebtRidesModel" "rode" "[I") (List.mem_of_getElem? (i := 1) rfl)
  have q_2 := hts (.fieldLink RX8 7 "DebtRidesModel" "st" "[I") (List.mem_of_getElem? (i := 2) rfl)
  have h := hf
  unfold f_X8_isSoWith at h
  clear hf
  refine lv_aload_n hx hb dX8_isSoWith_0 rfl (lv_at hl 0 rfl) ?_
  obtain ⟨mNow_1, hf, h⟩ := b1_inv h
  refine k_callV (host := "") fx hK hA hw (c_X8_starts l D k mh mrSt mrNow mrIsKept mrDraft mrTape mrRow mrRode mrWays mrLanes mrSizes mrCells mrBefore _ mSt mNow mIsKept mPeople mDraft mDPeople mHasDry mToldDebts mHighest mTape mTaped mPos mBegun mSort mValue mFault mWrongAt mPaid mRow mRingMuch mRideSum mOwedSum mAllWays mRode mWays mLanes mSizes mCells mTorn mBefore mNow_1 hf) (cwV 0 hts gX8_isSoWith_X8_starts rfl rfl rfl (by decide +kernel) ⟨by decide, by decide⟩) (As := []) (wr := []) (ws' := wX8 k mh mrSt mrNow mrIsKept mrDraft mrTape mrRow mrRode mrWays mrLanes mrSizes mrCells mrBefore mSt mNow_1 mIsKept mPeople mDraft mDPeople mHasDry mToldDebts mHighest mTape mTaped mPos mBegun mSort mValue mFault mWrongAt mPaid mRow mRingMuch mRideSum mOwedSum mAllWays mRode mWays mLanes mSizes mCells mTorn mBefore) [0, 1, 2, 3, 4, 5, 6, 7, 8, 9, 10, 11, 12] [] [0, 1, 2, 3, 4, 5, 6, 7, 8, 9, 10, 11, 12] rfl rfl (by decide) (by decide) (by decide) rfl (by decide) 8 rfl rfl [] rfl hl.1 rfl (Nat.le_of_ble_eq_true rfl) dX8_isSoWith_1 ⟨by decide, by decide⟩ (fun H locs (hw : Wd D A s.heap H locs (wX8 k mh mrSt mrNow mrIsKept mrDraft mrTape mrRow mrRode mrWays mrLanes mrSizes mrCells mrBefore mSt mNow_1 mIsKept mPeople mDraft mDPeople mHasDry mToldDebts mHighest mTape mTaped mPos mBegun mSort mValue mFault mWrongAt mPaid mRow mRingMuch mRideSum mOwedSum mAllWays mRode mWays mLanes mSizes mCells mTorn mBefore)) => ?_)
  refine W.eq (g2 := F0 m 4 ls ([])) rfl ?_
  refine lv_aload_n hx hb dX8_isSoWith_4 rfl (lv_at hl 0 rfl) ?_
  refine lv_iload_n hx hb dX8_isSoWith_5 rfl (lv_at hl 1 rfl) ?_
  refine lv_iload_n hx hb dX8_isSoWith_6 rfl (lv_at hl 2 rfl) ?_
  refine lv_iload_n hx hb dX8_isSoWith_7 rfl (lv_at hl 3 rfl) ?_
  obtain ⟨mNow_2, hf, h⟩ := b1_inv h
  refine k_callV (host := "") fx hK hA hw (c_X8_becomesOf l D k mh mrSt mrNow mrIsKept mrDraft mrTape mrRow mrRode mrWays mrLanes mrSizes mrCells mrBefore _ mSt mNow_1 mIsKept mPeople mDraft mDPeople mHasDry mToldDebts mHighest mTape mTaped mPos mBegun mSort mValue mFault mWrongAt mPaid mRow mRingMuch mRideSum mOwedSum mAllWays mRode mWays mLanes mSizes mCells mTorn mBefore p1 p2 p3 mNow_2 hf) (cwV 3 hts gX8_isSoWith_X8_becomesOf rfl rfl rfl (by decide +kernel) ⟨by decide, by decide⟩) (As := [.int p1, .int p2, .int p3]) (wr := []) (ws' := wX8 k mh mrSt mrNow mrIsKept mrDraft mrTape mrRow mrRode mrWays mrLanes mrSizes mrCells mrBefore mSt mNow_2 mIsKept mPeople mDraft mDPeople mHasDry mToldDebts mHighest mTape mTaped mPos mBegun mSort mValue mFault mWrongAt mPaid mRow mRingMuch mRideSum mOwedSum mAllWays mRode mWays mLanes mSizes mCells mTorn mBefore) [0, 1, 2, 3, 4, 5, 6, 7, 8, 9, 10, 11, 12] [] [0, 1, 2, 3, 4, 5, 6, 7, 8, 9, 10, 11, 12] rfl rfl (by decide) (by decide) (by decide) rfl (by decide) 8 rfl rfl [] rfl hl.1 rfl (Nat.le_of_ble_eq_true rfl) dX8_isSoWith_8 ⟨by decide, by decide⟩ (fun H locs (hw : Wd D A s.heap H locs (wX8 k mh mrSt mrNow mrIsKept mrDraft mrTape mrRow mrRode mrWays mrLanes mrSizes mrCells mrBefore mSt mNow_2 mIsKept mPeople mDraft mDPeople mHasDry mToldDebts mHighest mTape mTaped mPos mBegun mSort mValue mFault mWrongAt mPaid mRow mRingMuch mRideSum mOwedSum mAllWays mRode mWays mLanes mSizes mCells mTorn mBefore)) => ?_)
  refine W.eq (g2 := F0 m 11 ls ([])) rfl ?_
  refine lv_iconst (v := 0) hx hb dX8_isSoWith_11 (by decide) ?_
  refine lv_istore (lv' := [(4, .int 0), (0, .ref mh), (1, .int p1), (2, .int p2), (3, .int p3)]) hx hb dX8_isSoWith_12 hl (by decide) rfl (fun ls hl => ?_)
  obtain ⟨mNow_7, mPaid_8, mRode_9, hL_14, h⟩ := b3_inv h
  have X_14 : ∀ (H : Heap) (locs : List Loc) (ls : Array Slot), Wd D A s.heap H locs (wX8 k mh mrSt mrNow mrIsKept mrDraft mrTape mrRow mrRode mrWays mrLanes mrSizes mrCells mrBefore mSt mNow_7 mIsKept mPeople mDraft mDPeople mHasDry mToldDebts mHighest mTape mTaped mPos mBegun mSort mValue mFault mWrongAt mPaid_8 mRow mRingMuch mRideSum mOwedSum mAllWays mRode_9 mWays mLanes mSizes mCells mTorn mBefore) → lv_has ls 7 [(0, .ref mh)] → W p l e rmX8_isSoWith s m args below meth c H locs 0 0 Q (F0 m 42 ls []) := by
    intro H locs ls hw hl
    refine lv_iconst (v := 1) hx hb dX8_isSoWith_42 (by decide) ?_
    refine lv_istore (lv' := [(4, .int 1), (0, .ref mh)]) hx hb dX8_isSoWith_43 hl (by decide) rfl (fun ls hl => ?_)
    refine lv_iconst (v := 0) hx hb dX8_isSoWith_45 (by decide) ?_
    refine lv_istore (lv' := [(5, .int 0), (4, .int 1), (0, .ref mh)]) hx hb dX8_isSoWith_46 hl (by decide) rfl (fun ls hl => ?_)
    obtain ⟨v4_16, hL_48, h⟩ := b1_inv h
    have X_48 : ∀ (H : Heap) (locs : List Loc) (ls : Array Slot), Wd D A s.heap H locs (wX8 k mh mrSt mrNow mrIsKept mrDraft mrTape mrRow mrRode mrWays mrLanes mrSizes mrCells mrBefore mSt mNow_7 mIsKept mPeople mDraft mDPeople mHasDry mToldDebts mHighest mTape mTaped mPos mBegun mSort mValue mFault mWrongAt mPaid_8 mRow mRingMuch mRideSum mOwedSum mAllWays mRode_9 mWays mLanes mSizes mCells mTorn mBefore) → lv_has ls 7 [(4, .int v4_16)] → W p l e rmX8_isSoWith s m args below meth c H locs 0 0 Q (F0 m 123 ls []) := by
      intro H locs ls hw hl
      refine lv_iload hx hb dX8_isSoWith_123 (lv_at hl 0 rfl) ?_
      obtain ⟨z_22, hz, h⟩ := b1_inv h
      obtain ⟨hz1, hz2⟩ := bz_inv hz
      refine k_lit hz1.symm ?_
      rw [← hz1] at hz2
      cases h
      exact k_zret hx hb hr hlocks hw hz2 rfl dX8_isSoWith_125 hQ
    clear h
    have LP_48 : ∀ (n : Nat) (v4_14 : Int32) (v5_15 : Int32), f_X8_isSoWith_L48 mSt mRode_9 n v4_14 v5_15 = some v4_16 → ∀ (H : Heap) (locs : List Loc) (ls : Array Slot), Wd D A s.heap H locs (wX8 k mh mrSt mrNow mrIsKept mrDraft mrTape mrRow mrRode mrWays mrLanes mrSizes mrCells mrBefore mSt mNow_7 mIsKept mPeople mDraft mDPeople mHasDry mToldDebts mHighest mTape mTaped mPos mBegun mSort mValue mFault mWrongAt mPaid_8 mRow mRingMuch mRideSum mOwedSum mAllWays mRode_9 mWays mLanes mSizes mCells mTorn mBefore) → lv_has ls 7 [(0, .ref mh), (4, .int v4_14), (5, .int v5_15)] → W p l e rmX8_isSoWith s m args below meth c H locs 0 0 Q (F0 m 48 ls []) := by
      clear hL_48 hw hl
      intro n
      induction n with
      | zero => intro v4_14 v5_15 h; rw [f_X8_isSoWith_L48] at h; cases h
      | succ n ih =>
        intro v4_14 v5_15 h H locs ls hw hl
        rw [f_X8_isSoWith_L48] at h
        refine lv_iload hx hb dX8_isSoWith_48 (lv_at hl 2 rfl) ?_
        refine lv_aload_n hx hb dX8_isSoWith_50 rfl (lv_at hl 0 rfl) ?_
        refine va_get (ci := 8) (v := .ref mrSt) (C := RX8) (T := TX8) (N := 30) hx hb hts hinX8 hown hK.1 hw.1 0 rfl rfl 0 (by decide) q_2 (fun _ h9 => h9) rfl dX8_isSoWith_51 ?_
        refine lv_bipush (v := 42) hx hb dX8_isSoWith_54 (by decide) ?_
        refine k_iald hx hb hK hw 1 rfl dX8_isSoWith_56 h (fun a_17 h => ?_)
        refine kb_icmp_ge (tgt := 123) hx hb dX8_isSoWith_57 (by decide) h (fun c_57 h => ?_) (fun c_57 h => ?_)
        · cases h
          exact X_48 _ _ _ hw (lv_sub hl [1] rfl)
        · refine lv_bipush (v := 43) hx hb dX8_isSoWith_60 (by decide) ?_
          refine lv_iconst (v := 3) hx hb dX8_isSoWith_62 (by decide) ?_
          refine lv_iload hx hb dX8_isSoWith_63 (lv_at hl 2 rfl) ?_
          refine lv_imul hx hb dX8_isSoWith_65 ?_
          refine lv_iadd hx hb dX8_isSoWith_66 ?_
          refine lv_istore (lv' := [(6, .int (43 + (3 * v5_15))), (0, .ref mh), (4, .int v4_14), (5, .int v5_15)]) hx hb dX8_isSoWith_67 hl (by decide) rfl (fun ls hl => ?_)
          refine lv_iload hx hb dX8_isSoWith_69 (lv_at hl 2 rfl) ?_
          refine kb_if_eq (tgt := 114) hx hb dX8_isSoWith_71 (by decide) h (fun c_71 h => ?_) (fun c_71 h => ?_)
          · refine lv_iconst (v := 0) hx hb dX8_isSoWith_114 (by decide) ?_
            refine lv_istore (lv' := [(4, .int 0), (6, .int (43 + (3 * v5_15))), (0, .ref mh), (5, .int v5_15)]) hx hb dX8_isSoWith_115 hl (by decide) rfl (fun ls hl => ?_)
            refine lv_iinc (v := v5_15 + 1) (lv' := [(5, .int (v5_15 + 1)), (4, .int 0), (6, .int (43 + (3 * v5_15))), (0, .ref mh)]) hx hb dX8_isSoWith_117 hl (k := 3) rfl rfl (by decide) rfl (fun ls hl => ?_)
            refine lv_goto (tgt := 48) hx hb dX8_isSoWith_120 (by decide) ?_
            exact ih _ _ h _ _ _ hw (lv_sub hl [3, 1, 0] rfl)
          · refine lv_aload_n hx hb dX8_isSoWith_74 rfl (lv_at hl 1 rfl) ?_
            refine va_get (ci := 8) (v := .ref mrRode) (C := RX8) (T := TX8) (N := 30) hx hb hts hinX8 hown hK.1 hw.1 0 rfl rfl 23 (by decide) q_1 (fun _ h9 => h9) rfl dX8_isSoWith_75 ?_
            refine lv_aload_n hx hb dX8_isSoWith_78 rfl (lv_at hl 1 rfl) ?_
            refine va_get (ci := 8) (v := .ref mrSt) (C := RX8) (T := TX8) (N := 30) hx hb hts hinX8 hown hK.1 hw.1 0 rfl rfl 0 (by decide) q_2 (fun _ h9 => h9) rfl dX8_isSoWith_79 ?_
            refine lv_iload hx hb dX8_isSoWith_82 (lv_at hl 0 rfl) ?_
            refine k_iald hx hb hK hw 1 rfl dX8_isSoWith_84 h (fun a_18 h => ?_)
            refine k_iald hx hb hK hw 7 rfl dX8_isSoWith_85 h (fun a_19 h => ?_)
            refine lv_aload_n hx hb dX8_isSoWith_86 rfl (lv_at hl 1 rfl) ?_
            refine va_get (ci := 8) (v := .ref mrSt) (C := RX8) (T := TX8) (N := 30) hx hb hts hinX8 hown hK.1 hw.1 0 rfl rfl 0 (by decide) q_2 (fun _ h9 => h9) rfl dX8_isSoWith_87 ?_
            refine lv_iload hx hb dX8_isSoWith_90 (lv_at hl 0 rfl) ?_
            refine lv_iconst (v := 1) hx hb dX8_isSoWith_92 (by decide) ?_
            refine lv_iadd hx hb dX8_isSoWith_93 ?_
            refine k_iald hx hb hK hw 1 rfl dX8_isSoWith_94 h (fun a_20 h => ?_)
            refine lv_ishr hx hb dX8_isSoWith_95 ?_
            refine lv_iconst (v := 1) hx hb dX8_isSoWith_96 (by decide) ?_
            refine lv_iand hx hb dX8_isSoWith_97 ?_
            refine lv_aload_n hx hb dX8_isSoWith_98 rfl (lv_at hl 1 rfl) ?_
            refine va_get (ci := 8) (v := .ref mrSt) (C := RX8) (T := TX8) (N := 30) hx hb hts hinX8 hown hK.1 hw.1 0 rfl rfl 0 (by decide) q_2 (fun _ h9 => h9) rfl dX8_isSoWith_99 ?_
            refine lv_iload hx hb dX8_isSoWith_102 (lv_at hl 0 rfl) ?_
            refine lv_iconst (v := 2) hx hb dX8_isSoWith_104 (by decide) ?_
            refine lv_iadd hx hb dX8_isSoWith_105 ?_
            refine k_iald hx hb hK hw 1 rfl dX8_isSoWith_106 h (fun a_21 h => ?_)
            refine kb_icmp_ne (tgt := 114) hx hb dX8_isSoWith_107 (by decide) h (fun c_107 h => ?_) (fun c_107 h => ?_)
            · refine lv_iconst (v := 1) hx hb dX8_isSoWith_110 (by decide) ?_
              refine lv_goto (tgt := 115) hx hb dX8_isSoWith_111 (by decide) ?_
              refine lv_istore (lv' := [(4, .int 1), (6, .int (43 + (3 * v5_15))), (0, .ref mh), (5, .int v5_15)]) hx hb dX8_isSoWith_115 hl (by decide) rfl (fun ls hl => ?_)
              refine lv_iinc (v := v5_15 + 1) (lv' := [(5, .int (v5_15 + 1)), (4, .int 1), (6, .int (43 + (3 * v5_15))), (0, .ref mh)]) hx hb dX8_isSoWith_117 hl (k := 3) rfl rfl (by decide) rfl (fun ls hl => ?_)
              refine lv_goto (tgt := 48) hx hb dX8_isSoWith_120 (by decide) ?_
              exact ih _ _ h _ _ _ hw (lv_sub hl [3, 1, 0] rfl)
            · refine lv_iconst (v := 0) hx hb dX8_isSoWith_114 (by decide) ?_
              refine lv_istore (lv' := [(4, .int 0), (6, .int (43 + (3 * v5_15))), (0, .ref mh), (5, .int v5_15)]) hx hb dX8_isSoWith_115 hl (by decide) rfl (fun ls hl => ?_)
              refine lv_iinc (v := v5_15 + 1) (lv' := [(5, .int (v5_15 + 1)), (4, .int 0), (6, .int (43 + (3 * v5_15))), (0, .ref mh)]) hx hb dX8_isSoWith_117 hl (k := 3) rfl rfl (by decide) rfl (fun ls hl => ?_)
              refine lv_goto (tgt := 48) hx hb dX8_isSoWith_120 (by decide) ?_
              exact ih _ _ h _ _ _ hw (lv_sub hl [3, 1, 0] rfl)
    exact LP_48 400 1 0 hL_48 _ _ _ hw (lv_sub hl [2, 1, 0] rfl)
  clear h
  have LP_14 : ∀ (n : Nat) (v4_3 : Int32) (mNow_4 : (Nat → Int32)) (mPaid_5 : Int32) (mRode_6 : (Nat → Int32)), f_X8_isSoWith_L14 mPeople n v4_3 mNow_4 mPaid_5 mRode_6 = some (mNow_7, mPaid_8, mRode_9) → ∀ (H : Heap) (locs : List Loc) (ls : Array Slot), Wd D A s.heap H locs (wX8 k mh mrSt mrNow mrIsKept mrDraft mrTape mrRow mrRode mrWays mrLanes mrSizes mrCells mrBefore mSt mNow_4 mIsKept mPeople mDraft mDPeople mHasDry mToldDebts mHighest mTape mTaped mPos mBegun mSort mValue mFault mWrongAt mPaid_5 mRow mRingMuch mRideSum mOwedSum mAllWays mRode_6 mWays mLanes mSizes mCells mTorn mBefore) → lv_has ls 7 [(0, .ref mh), (4, .int v4_3)] → W p l e rmX8_isSoWith s m args below meth c H locs 0 0 Q (F0 m 14 ls []) := by
    clear hL_14 hw hl
    intro n
    induction n with
    | zero => intro v4_3 mNow_4 mPaid_5 mRode_6 h; rw [f_X8_isSoWith_L14] at h; cases h
    | succ n ih =>
      intro v4_3 mNow_4 mPaid_5 mRode_6 h H locs ls hw hl
      rw [f_X8_isSoWith_L14] at h
      refine lv_iload hx hb dX8_isSoWith_14 (lv_at hl 1 rfl) ?_
      refine lv_bipush (v := 30) hx hb dX8_isSoWith_16 (by decide) ?_
      refine kb_icmp_gt (tgt := 42) hx hb dX8_isSoWith_18 (by decide) h (fun c_18 h => ?_) (fun c_18 h => ?_)
      · cases h
        exact X_14 _ _ _ hw (lv_sub hl [0] rfl)
      · refine lv_aload_n hx hb dX8_isSoWith_21 rfl (lv_at hl 0 rfl) ?_
        refine va_get (ci := 8) (v := .ref mrRode) (C := RX8) (T := TX8) (N := 30) hx hb hts hinX8 hown hK.1 hw.1 0 rfl rfl 23 (by decide) q_1 (fun _ h9 => h9) rfl dX8_isSoWith_22 ?_
        refine lv_iload hx hb dX8_isSoWith_25 (lv_at hl 1 rfl) ?_
        refine lv_aload_n hx hb dX8_isSoWith_27 rfl (lv_at hl 0 rfl) ?_
        obtain ⟨r_10, hf, h⟩ := b1_inv h
        refine k_callV (host := "") fx hK hA hw (c_X8_riding l D k mh mrSt mrNow mrIsKept mrDraft mrTape mrRow mrRode mrWays mrLanes mrSizes mrCells mrBefore _ mSt mNow_4 mIsKept mPeople mDraft mDPeople mHasDry mToldDebts mHighest mTape mTaped mPos mBegun mSort mValue mFault mWrongAt mPaid_5 mRow mRingMuch mRideSum mOwedSum mAllWays mRode_6 mWays mLanes mSizes mCells mTorn mBefore r_10 hf) (cwV 0 hts gX8_isSoWith_X8_riding rfl rfl rfl (by decide +kernel) ⟨by decide, by decide⟩) (As := []) (wr := []) (ws' := wX8 k mh mrSt mrNow mrIsKept mrDraft mrTape mrRow mrRode mrWays mrLanes mrSizes mrCells mrBefore mSt mNow_4 mIsKept mPeople mDraft mDPeople mHasDry mToldDebts mHighest mTape mTaped mPos mBegun mSort mValue mFault mWrongAt mPaid_5 mRow mRingMuch mRideSum mOwedSum mAllWays mRode_6 mWays mLanes mSizes mCells mTorn mBefore) [0, 1, 2, 3, 4, 5, 6, 7, 8, 9, 10, 11, 12] [] [0, 1, 2, 3, 4, 5, 6, 7, 8, 9, 10, 11, 12] rfl rfl (by decide) (by decide) (by decide) rfl (by decide) 8 rfl rfl [.int v4_3, .ref mrRode] rfl hl.1 rfl (Nat.le_of_ble_eq_true rfl) dX8_isSoWith_28 ⟨by decide, by decide⟩ (fun H locs (hw : Wd D A s.heap H locs (wX8 k mh mrSt mrNow mrIsKept mrDraft mrTape mrRow mrRode mrWays mrLanes mrSizes mrCells mrBefore mSt mNow_4 mIsKept mPeople mDraft mDPeople mHasDry mToldDebts mHighest mTape mTaped mPos mBegun mSort mValue mFault mWrongAt mPaid_5 mRow mRingMuch mRideSum mOwedSum mAllWays mRode_6 mWays mLanes mSizes mCells mTorn mBefore)) => ?_)
        refine W.eq (g2 := F0 m 31 ls ([.int r_10, .int v4_3, .ref mrRode])) rfl ?_
        refine k_iast hx hb hK hw 7 rfl dX8_isSoWith_31 h (fun mRode_11 h H locs (hw : Wd D A s.heap H locs (wX8 k mh mrSt mrNow mrIsKept mrDraft mrTape mrRow mrRode mrWays mrLanes mrSizes mrCells mrBefore mSt mNow_4 mIsKept mPeople mDraft mDPeople mHasDry mToldDebts mHighest mTape mTaped mPos mBegun mSort mValue mFault mWrongAt mPaid_5 mRow mRingMuch mRideSum mOwedSum mAllWays mRode_11 mWays mLanes mSizes mCells mTorn mBefore)) => ?_)
        refine lv_aload_n hx hb dX8_isSoWith_32 rfl (lv_at hl 0 rfl) ?_
        obtain ⟨mNow_12, mPaid_13, hf, h⟩ := b2_inv h
        refine k_callV (host := "") fx hK hA hw (c_X8_dayGoes l D k mh mrSt mrNow mrIsKept mrDraft mrTape mrRow mrRode mrWays mrLanes mrSizes mrCells mrBefore _ mSt mNow_4 mIsKept mPeople mDraft mDPeople mHasDry mToldDebts mHighest mTape mTaped mPos mBegun mSort mValue mFault mWrongAt mPaid_5 mRow mRingMuch mRideSum mOwedSum mAllWays mRode_11 mWays mLanes mSizes mCells mTorn mBefore mNow_12 mPaid_13 hf) (cwV 0 hts gX8_isSoWith_X8_dayGoes rfl rfl rfl (by decide +kernel) ⟨by decide, by decide⟩) (As := []) (wr := []) (ws' := wX8 k mh mrSt mrNow mrIsKept mrDraft mrTape mrRow mrRode mrWays mrLanes mrSizes mrCells mrBefore mSt mNow_12 mIsKept mPeople mDraft mDPeople mHasDry mToldDebts mHighest mTape mTaped mPos mBegun mSort mValue mFault mWrongAt mPaid_13 mRow mRingMuch mRideSum mOwedSum mAllWays mRode_11 mWays mLanes mSizes mCells mTorn mBefore) [0, 1, 2, 3, 4, 5, 6, 7, 8, 9, 10, 11, 12] [] [0, 1, 2, 3, 4, 5, 6, 7, 8, 9, 10, 11, 12] rfl rfl (by decide) (by decide) (by decide) rfl (by decide) 8 rfl rfl [] rfl hl.1 rfl (Nat.le_of_ble_eq_true rfl) dX8_isSoWith_33 ⟨by decide, by decide⟩ (fun H locs (hw : Wd D A s.heap H locs (wX8 k mh mrSt mrNow mrIsKept mrDraft mrTape mrRow mrRode mrWays mrLanes mrSizes mrCells mrBefore mSt mNow_12 mIsKept mPeople mDraft mDPeople mHasDry mToldDebts mHighest mTape mTaped mPos mBegun mSort mValue mFault mWrongAt mPaid_13 mRow mRingMuch mRideSum mOwedSum mAllWays mRode_11 mWays mLanes mSizes mCells mTorn mBefore)) => ?_)
        refine W.eq (g2 := F0 m 36 ls ([])) rfl ?_
        refine lv_iinc (v := v4_3 + 1) (lv' := [(4, .int (v4_3 + 1)), (0, .ref mh)]) hx hb dX8_isSoWith_36 hl (k := 1) rfl rfl (by decide) rfl (fun ls hl => ?_)
        refine lv_goto (tgt := 14) hx hb dX8_isSoWith_39 (by decide) ?_
        exact ih _ _ _ _ h _ _ _ hw (lv_sub hl [1, 0] rfl)
  exact LP_14 400 0 mNow_2 mPaid mRode hL_14 _ _ _ hw (lv_sub hl [1, 0] rfl)
abbrev rmX8_ask : Room := { frames := 5, cells := 0, slots := 0, locals := 118 }
set_option maxHeartbeats 4000000 in
set_option maxRecDepth 100000 in
theorem c_X8_ask (l : Launch) (D : va_G) (k : Nat → ClassId) (mh mrSt mrNow mrIsKept mrDraft mrTape mrRow mrRode mrWays mrLanes mrSizes mrCells mrBefore : Nat) (sz : Nat) (mSt : (Nat → Int32)) (mNow : (Nat → Int32)) (mIsKept : (Nat → Int32)) (mPeople : Int32) (mDraft : (Nat → Int32)) (mDPeople : Int32) (mHasDry : Int32) (mToldDebts : Int32) (mHighest : Int32) (mTape : (Nat → Int32)) (mTaped : Int32) (mPos : Int32) (mBegun : Int32) (mSort : Int32) (mValue : Int32) (mFault : Int32) (mWrongAt : Int32) (mPaid : Int32) (mRow : (Nat → Int32)) (mRingMuch : Int32) (mRideSum : Int64) (mOwedSum : Int64) (mAllWays : Int64) (mRode : (Nat → Int32)) (mWays : (Nat → Int32)) (mLanes : (Nat → Int32)) (mSizes : (Nat → Int32)) (mCells : (Nat → Int32)) (mTorn : Int32) (mBefore : (Nat → Int32)) (p1 : Int32) (p2 : Int32) (r_ : Int32) (n_mNow : (Nat → Int32)) (n_mPaid : Int32) (n_mRode : (Nat → Int32)) (n_mWays : (Nat → Int32)) (hf : f_X8_ask mSt mNow mPeople mPaid mRode mWays p1 p2 = some (r_, n_mNow, n_mPaid, n_mRode, n_mWays)) : mR l yX8_ask wsX8_ask rmX8_ask D k sz [.ref mh, .int p1, .int p2] (wX8 k mh mrSt mrNow mrIsKept mrDraft mrTape mrRow mrRode mrWays mrLanes mrSizes mrCells mrBefore mSt mNow mIsKept mPeople mDraft mDPeople mHasDry mToldDebts mHighest mTape mTaped mPos mBegun mSort mValue mFault mWrongAt mPaid mRow mRingMuch mRideSum mOwedSum mAllWays mRode mWays mLanes mSizes mCells mTorn mBefore) (wX8 k mh mrSt mrNow mrIsKept mrDraft mrTape mrRow mrRode mrWays mrLanes mrSizes mrCells mrBefore mSt n_mNow mIsKept mPeople mDraft mDPeople mHasDry mToldDebts mHighest mTape mTaped mPos mBegun mSort mValue mFault mWrongAt n_mPaid mRow mRingMuch mRideSum mOwedSum mAllWays n_mRode n_mWays mLanes mSizes mCells mTorn mBefore) (some (.int r_)) := by
  refine mR_of (cc := cX8_ask) (maxL := 8) (ret := some .int) (by decide) rfl (Nat.le_of_ble_eq_true rfl) [(0, .ref mh), (1, .int p1), (2, .int p2)] rfl ?_
  intro p e s m below meth c A ls args Q cx hK hA hw hl hQ
  have fx := cx.1
  obtain ⟨⟨hx, hb, hml, hown, hts⟩, hr, hlocks⟩ := cx
  have hinX8 : ∀ w ∈ wsX80, w ∈ wsX8_ask := fun w h => List.mem_cons_of_mem _ (List.mem_append_right _ h)
  have q_1 := hts (.fieldLink RX8 32 "DebtRidesModel" "ways" "[I") (List.mem_of_getElem? (i := 1) rfl)
  have q_2 := hts (.fieldLink RX8 29 "DebtRidesModel" "rode" "[I") (List.mem_of_getElem? (i := 2) rfl)
  have h := hf
  unfold f_X8_ask at h
  clear hf
  refine lv_aload_n hx hb dX8_ask_0 rfl (lv_at hl 0 rfl) ?_
  refine lv_iload_n hx hb dX8_ask_1 rfl (lv_at hl 1 rfl) ?_
  obtain ⟨r_1, hf, h⟩ := b1_inv h
  refine k_callV (host := "") fx hK hA hw (c_X8_isOne l D k mh mrSt mrNow mrIsKept mrDraft mrTape mrRow mrRode mrWays mrLanes mrSizes mrCells mrBefore _ mSt mNow mIsKept mPeople mDraft mDPeople mHasDry mToldDebts mHighest mTape mTaped mPos mBegun mSort mValue mFault mWrongAt mPaid mRow mRingMuch mRideSum mOwedSum mAllWays mRode mWays mLanes mSizes mCells mTorn mBefore p1 r_1 hf) (cwV 1 hts gX8_ask_X8_isOne rfl rfl rfl (by decide +kernel) ⟨by decide, by decide⟩) (As := [.int p1]) (wr := []) (ws' := wX8 k mh mrSt mrNow mrIsKept mrDraft mrTape mrRow mrRode mrWays mrLanes mrSizes mrCells mrBefore mSt mNow mIsKept mPeople mDraft mDPeople mHasDry mToldDebts mHighest mTape mTaped mPos mBegun mSort mValue mFault mWrongAt mPaid mRow mRingMuch mRideSum mOwedSum mAllWays mRode mWays mLanes mSizes mCells mTorn mBefore) [0, 1, 2, 3, 4, 5, 6, 7, 8, 9, 10, 11, 12] [] [0, 1, 2, 3, 4, 5, 6, 7, 8, 9, 10, 11, 12] rfl rfl (by decide) (by decide) (by decide) rfl (by decide) 8 rfl rfl [] rfl hl.1 rfl (Nat.le_of_ble_eq_true rfl) dX8_ask_2 ⟨by decide, by decide⟩ (fun H locs (hw : Wd D A s.heap H locs (wX8 k mh mrSt mrNow mrIsKept mrDraft mrTape mrRow mrRode mrWays mrLanes mrSizes mrCells mrBefore mSt mNow mIsKept mPeople mDraft mDPeople mHasDry mToldDebts mHighest mTape mTaped mPos mBegun mSort mValue mFault mWrongAt mPaid mRow mRingMuch mRideSum mOwedSum mAllWays mRode mWays mLanes mSizes mCells mTorn mBefore)) => ?_)
  refine W.eq (g2 := F0 m 5 ls ([.int r_1])) rfl ?_
  refine kb_if_eq (tgt := 15) hx hb dX8_ask_5 (by decide) h (fun c_5 h => ?_) (fun c_5 h => ?_)
  · refine lv_iconst (v := (-1)) hx hb dX8_ask_15 (by decide) ?_
    cases h
    exact k_iret hx hb hr hlocks hw rfl dX8_ask_16 hQ
  · refine lv_iload_n hx hb dX8_ask_8 rfl (lv_at hl 2 rfl) ?_
    obtain ⟨r_2, hf, h⟩ := b1_inv h
    refine k_callS (b := 0) (C := "") (host := "") fx hK hA hw (c_X8_isPart l D k _ p2 r_2 hf) (va_cwS 1 hts gX8_ask_X8_isPart rfl rfl rfl (by decide +kernel) ⟨by decide, by decide⟩) (As := [.int p2]) (wr := [(mh, .inr (8, [.ref mrSt, .ref mrNow, .ref mrIsKept, .int mPeople, .ref mrDraft, .int mDPeople, .int mHasDry, .int mToldDebts, .int mHighest, .ref mrTape, .int mTaped, .int mPos, .int mBegun, .int mSort, .int mValue, .int mFault, .int mWrongAt, .int mPaid, .ref mrRow, .int mRingMuch, .long mRideSum, .long mOwedSum, .long mAllWays, .ref mrRode, .ref mrWays, .ref mrLanes, .ref mrSizes, .ref mrCells, .int mTorn, .ref mrBefore])), (mrSt, .inl (k 0, 183, .inl mSt)), (mrNow, .inl (k 0, 61, .inl mNow)), (mrIsKept, .inl (k 1, 2, .inl mIsKept)), (mrDraft, .inl (k 0, 61, .inl mDraft)), (mrTape, .inl (k 0, 160, .inl mTape)), (mrRow, .inl (k 0, 5, .inl mRow)), (mrRode, .inl (k 0, 31, .inl mRode)), (mrWays, .inl (k 0, 31, .inl mWays)), (mrLanes, .inl (k 0, 4, .inl mLanes)), (mrSizes, .inl (k 0, 4, .inl mSizes)), (mrCells, .inl (k 0, 160, .inl mCells)), (mrBefore, .inl (k 0, 61, .inl mBefore))]) (ws' := wX8 k mh mrSt mrNow mrIsKept mrDraft mrTape mrRow mrRode mrWays mrLanes mrSizes mrCells mrBefore mSt mNow mIsKept mPeople mDraft mDPeople mHasDry mToldDebts mHighest mTape mTaped mPos mBegun mSort mValue mFault mWrongAt mPaid mRow mRingMuch mRideSum mOwedSum mAllWays mRode mWays mLanes mSizes mCells mTorn mBefore) [] [0, 1, 2, 3, 4, 5, 6, 7, 8, 9, 10, 11, 12] [0, 1, 2, 3, 4, 5, 6, 7, 8, 9, 10, 11, 12] rfl rfl (by decide) (by decide) (by decide) rfl (by decide) [] rfl hl.1 rfl (Nat.le_of_ble_eq_true rfl) dX8_ask_9 ⟨by decide, by decide⟩ (fun H locs (hw : Wd D A s.heap H locs (wX8 k mh mrSt mrNow mrIsKept mrDraft mrTape mrRow mrRode mrWays mrLanes mrSizes mrCells mrBefore mSt mNow mIsKept mPeople mDraft mDPeople mHasDry mToldDebts mHighest mTape mTaped mPos mBegun mSort mValue mFault mWrongAt mPaid mRow mRingMuch mRideSum mOwedSum mAllWays mRode mWays mLanes mSizes mCells mTorn mBefore)) => ?_)
    refine W.eq (g2 := F0 m 12 ls ([.int r_2])) rfl ?_
    refine kb_if_ne (tgt := 17) hx hb dX8_ask_12 (by decide) h (fun c_12 h => ?_) (fun c_12 h => ?_)
    · refine lv_iconst (v := (-1)) hx hb dX8_ask_15 (by decide) ?_
      cases h
      exact k_iret hx hb hr hlocks hw rfl dX8_ask_16 hQ
    · refine lv_iconst (v := 0) hx hb dX8_ask_17 (by decide) ?_
      refine lv_istore_n (lv' := [(3, .int 0), (0, .ref mh), (1, .int p1), (2, .int p2)]) hx hb dX8_ask_18 rfl hl (by decide) rfl (fun ls hl => ?_)
      refine lv_iconst (v := 0) hx hb dX8_ask_19 (by decide) ?_
      refine lv_istore (lv' := [(4, .int 0), (3, .int 0), (0, .ref mh), (1, .int p1), (2, .int p2)]) hx hb dX8_ask_20 hl (by decide) rfl (fun ls hl => ?_)
      obtain ⟨mWays_5, hL_22, h⟩ := b1_inv h
      have X_22 : ∀ (H : Heap) (locs : List Loc) (ls : Array Slot), Wd D A s.heap H locs (wX8 k mh mrSt mrNow mrIsKept mrDraft mrTape mrRow mrRode mrWays mrLanes mrSizes mrCells mrBefore mSt mNow mIsKept mPeople mDraft mDPeople mHasDry mToldDebts mHighest mTape mTaped mPos mBegun mSort mValue mFault mWrongAt mPaid mRow mRingMuch mRideSum mOwedSum mAllWays mRode mWays_5 mLanes mSizes mCells mTorn mBefore) → lv_has ls 8 [(0, .ref mh), (1, .int p1), (2, .int p2), (3, .int 0)] → W p l e rmX8_ask s m args below meth c H locs 0 0 Q (F0 m 43 ls []) := by
        intro H locs ls hw hl
        refine lv_iconst (v := 0) hx hb dX8_ask_43 (by decide) ?_
        refine lv_istore (lv' := [(4, .int 0), (0, .ref mh), (1, .int p1), (2, .int p2), (3, .int 0)]) hx hb dX8_ask_44 hl (by decide) rfl (fun ls hl => ?_)
        obtain ⟨v3_13, mNow_14, mPaid_15, mRode_16, mWays_17, hL_46, h⟩ := b5_inv h
        have X_46 : ∀ (H : Heap) (locs : List Loc) (ls : Array Slot), Wd D A s.heap H locs (wX8 k mh mrSt mrNow mrIsKept mrDraft mrTape mrRow mrRode mrWays mrLanes mrSizes mrCells mrBefore mSt mNow_14 mIsKept mPeople mDraft mDPeople mHasDry mToldDebts mHighest mTape mTaped mPos mBegun mSort mValue mFault mWrongAt mPaid_15 mRow mRingMuch mRideSum mOwedSum mAllWays mRode_16 mWays_17 mLanes mSizes mCells mTorn mBefore) → lv_has ls 8 [(0, .ref mh), (2, .int p2), (3, .int v3_13)] → W p l e rmX8_ask s m args below meth c H locs 0 0 Q (F0 m 110 ls []) := by
          intro H locs ls hw hl
          refine lv_iload_n hx hb dX8_ask_110 rfl (lv_at hl 2 rfl) ?_
          refine lv_istore (lv' := [(4, .int v3_13), (0, .ref mh), (2, .int p2), (3, .int v3_13)]) hx hb dX8_ask_111 hl (by decide) rfl (fun ls hl => ?_)
          refine lv_bipush (v := (-4)) hx hb dX8_ask_113 (by decide) ?_
          refine lv_istore (lv' := [(5, .int (-4)), (4, .int v3_13), (0, .ref mh), (2, .int p2), (3, .int v3_13)]) hx hb dX8_ask_115 hl (by decide) rfl (fun ls hl => ?_)
          refine lv_iconst (v := 0) hx hb dX8_ask_117 (by decide) ?_
          refine lv_istore (lv' := [(6, .int 0), (5, .int (-4)), (4, .int v3_13), (0, .ref mh), (2, .int p2), (3, .int v3_13)]) hx hb dX8_ask_118 hl (by decide) rfl (fun ls hl => ?_)
          obtain ⟨v4_31, v5_32, hL_120, h⟩ := b2_inv h
          have X_120 : ∀ (H : Heap) (locs : List Loc) (ls : Array Slot), Wd D A s.heap H locs (wX8 k mh mrSt mrNow mrIsKept mrDraft mrTape mrRow mrRode mrWays mrLanes mrSizes mrCells mrBefore mSt mNow_14 mIsKept mPeople mDraft mDPeople mHasDry mToldDebts mHighest mTape mTaped mPos mBegun mSort mValue mFault mWrongAt mPaid_15 mRow mRingMuch mRideSum mOwedSum mAllWays mRode_16 mWays_17 mLanes mSizes mCells mTorn mBefore) → lv_has ls 8 [(2, .int p2), (4, .int v4_31), (5, .int v5_32)] → W p l e rmX8_ask s m args below meth c H locs 0 0 Q (F0 m 198 ls []) := by
            intro H locs ls hw hl
            refine lv_iload hx hb dX8_ask_198 (lv_at hl 2 rfl) ?_
            refine lv_bipush (v := (-4)) hx hb dX8_ask_200 (by decide) ?_
            refine kb_icmp_ne (tgt := 210) hx hb dX8_ask_202 (by decide) h (fun c_202 h => ?_) (fun c_202 h => ?_)
            · refine lv_bipush (v := (-4)) hx hb dX8_ask_205 (by decide) ?_
              refine lv_goto (tgt := 221) hx hb dX8_ask_207 (by decide) ?_
              cases h
              exact k_iret hx hb hr hlocks hw rfl dX8_ask_221 hQ
            · refine lv_iload_n hx hb dX8_ask_210 rfl (lv_at hl 0 rfl) ?_
              refine kb_if_ne (tgt := 219) hx hb dX8_ask_211 (by decide) h (fun c_211 h => ?_) (fun c_211 h => ?_)
              · refine lv_iload hx hb dX8_ask_214 (lv_at hl 2 rfl) ?_
                refine lv_goto (tgt := 221) hx hb dX8_ask_216 (by decide) ?_
                cases h
                exact k_iret hx hb hr hlocks hw rfl dX8_ask_221 hQ
              · refine lv_iload hx hb dX8_ask_219 (lv_at hl 1 rfl) ?_
                cases h
                exact k_iret hx hb hr hlocks hw rfl dX8_ask_221 hQ
          clear h
          have LP_120 : ∀ (n : Nat) (v4_28 : Int32) (v5_29 : Int32) (v6_30 : Int32), f_X8_ask_L120 mWays_17 v3_13 n v4_28 v5_29 v6_30 = some (v4_31, v5_32) → ∀ (H : Heap) (locs : List Loc) (ls : Array Slot), Wd D A s.heap H locs (wX8 k mh mrSt mrNow mrIsKept mrDraft mrTape mrRow mrRode mrWays mrLanes mrSizes mrCells mrBefore mSt mNow_14 mIsKept mPeople mDraft mDPeople mHasDry mToldDebts mHighest mTape mTaped mPos mBegun mSort mValue mFault mWrongAt mPaid_15 mRow mRingMuch mRideSum mOwedSum mAllWays mRode_16 mWays_17 mLanes mSizes mCells mTorn mBefore) → lv_has ls 8 [(0, .ref mh), (2, .int p2), (3, .int v3_13), (4, .int v4_28), (5, .int v5_29), (6, .int v6_30)] → W p l e rmX8_ask s m args below meth c H locs 0 0 Q (F0 m 120 ls []) := by
            clear hL_120 hw hl
            intro n
            induction n with
            | zero => intro v4_28 v5_29 v6_30 h; rw [f_X8_ask_L120] at h; cases h
            | succ n ih =>
              intro v4_28 v5_29 v6_30 h H locs ls hw hl
              rw [f_X8_ask_L120] at h
              refine lv_iload hx hb dX8_ask_120 (lv_at hl 5 rfl) ?_
              refine lv_bipush (v := 30) hx hb dX8_ask_122 (by decide) ?_
              refine kb_icmp_gt (tgt := 198) hx hb dX8_ask_124 (by decide) h (fun c_124 h => ?_) (fun c_124 h => ?_)
              · cases h
                exact X_120 _ _ _ hw (lv_sub hl [1, 3, 4] rfl)
              · refine lv_aload_n hx hb dX8_ask_127 rfl (lv_at hl 0 rfl) ?_
                refine va_get (ci := 8) (v := .ref mrWays) (C := RX8) (T := TX8) (N := 30) hx hb hts hinX8 hown hK.1 hw.1 0 rfl rfl 24 (by decide) q_1 (fun _ h9 => h9) rfl dX8_ask_128 ?_
                refine lv_iload hx hb dX8_ask_131 (lv_at hl 5 rfl) ?_
                refine k_iald hx hb hK hw 8 rfl dX8_ask_133 h (fun a_33 h => ?_)
                refine lv_iload_n hx hb dX8_ask_134 rfl (lv_at hl 2 rfl) ?_
                refine lv_aload_n hx hb dX8_ask_135 rfl (lv_at hl 0 rfl) ?_
                refine va_get (ci := 8) (v := .ref mrWays) (C := RX8) (T := TX8) (N := 30) hx hb hts hinX8 hown hK.1 hw.1 0 rfl rfl 24 (by decide) q_1 (fun _ h9 => h9) rfl dX8_ask_136 ?_
                refine lv_iload hx hb dX8_ask_139 (lv_at hl 5 rfl) ?_
                refine k_iald hx hb hK hw 8 rfl dX8_ask_141 h (fun a_34 h => ?_)
                refine lv_isub hx hb dX8_ask_142 ?_
                obtain ⟨t_35, hj_143, h⟩ := b1_inv h
                have J_143 : ∀ (H : Heap) (locs : List Loc) (ls : Array Slot), Wd D A s.heap H locs (wX8 k mh mrSt mrNow mrIsKept mrDraft mrTape mrRow mrRode mrWays mrLanes mrSizes mrCells mrBefore mSt mNow_14 mIsKept mPeople mDraft mDPeople mHasDry mToldDebts mHighest mTape mTaped mPos mBegun mSort mValue mFault mWrongAt mPaid_15 mRow mRingMuch mRideSum mOwedSum mAllWays mRode_16 mWays_17 mLanes mSizes mCells mTorn mBefore) → lv_has ls 8 [(0, .ref mh), (2, .int p2), (3, .int v3_13), (4, .int v4_28), (5, .int v5_29), (6, .int v6_30)] → W p l e rmX8_ask s m args below meth c H locs 0 0 Q (F0 m 165 ls [.int t_35]) := by
                  intro H locs ls hw hl
                  refine lv_istore (lv' := [(7, .int t_35), (0, .ref mh), (2, .int p2), (3, .int v3_13), (4, .int v4_28), (5, .int v5_29), (6, .int v6_30)]) hx hb dX8_ask_165 hl (by decide) rfl (fun ls hl => ?_)
                  refine lv_iload hx hb dX8_ask_167 (lv_at hl 0 rfl) ?_
                  refine lv_iload hx hb dX8_ask_169 (lv_at hl 4 rfl) ?_
                  obtain ⟨t_38, hj_171, h⟩ := b1_inv h
                  have J_171 : ∀ (H : Heap) (locs : List Loc) (ls : Array Slot), Wd D A s.heap H locs (wX8 k mh mrSt mrNow mrIsKept mrDraft mrTape mrRow mrRode mrWays mrLanes mrSizes mrCells mrBefore mSt mNow_14 mIsKept mPeople mDraft mDPeople mHasDry mToldDebts mHighest mTape mTaped mPos mBegun mSort mValue mFault mWrongAt mPaid_15 mRow mRingMuch mRideSum mOwedSum mAllWays mRode_16 mWays_17 mLanes mSizes mCells mTorn mBefore) → lv_has ls 8 [(0, .ref mh), (2, .int p2), (3, .int v3_13), (4, .int v4_28), (6, .int v6_30), (7, .int t_35)] → W p l e rmX8_ask s m args below meth c H locs 0 0 Q (F0 m 181 ls [.int t_38]) := by
                    intro H locs ls hw hl
                    refine lv_istore (lv' := [(5, .int t_38), (0, .ref mh), (2, .int p2), (3, .int v3_13), (4, .int v4_28), (6, .int v6_30), (7, .int t_35)]) hx hb dX8_ask_181 hl (by decide) rfl (fun ls hl => ?_)
                    refine lv_iload hx hb dX8_ask_183 (lv_at hl 6 rfl) ?_
                    refine lv_iload hx hb dX8_ask_185 (lv_at hl 4 rfl) ?_
                    obtain ⟨r_39, hf, h⟩ := b1_inv h
                    refine k_callS (b := 0) (C := "") (host := "") fx hK hA hw (c_X8_lesser l D k _ t_35 v4_28 r_39 hf) (va_cwS 2 hts gX8_ask_X8_lesser rfl rfl rfl (by decide +kernel) ⟨by decide, by decide⟩) (As := [.int t_35, .int v4_28]) (wr := [(mh, .inr (8, [.ref mrSt, .ref mrNow, .ref mrIsKept, .int mPeople, .ref mrDraft, .int mDPeople, .int mHasDry, .int mToldDebts, .int mHighest, .ref mrTape, .int mTaped, .int mPos, .int mBegun, .int mSort, .int mValue, .int mFault, .int mWrongAt, .int mPaid_15, .ref mrRow, .int mRingMuch, .long mRideSum, .long mOwedSum, .long mAllWays, .ref mrRode, .ref mrWays, .ref mrLanes, .ref mrSizes, .ref mrCells, .int mTorn, .ref mrBefore])), (mrSt, .inl (k 0, 183, .inl mSt)), (mrNow, .inl (k 0, 61, .inl mNow_14)), (mrIsKept, .inl (k 1, 2, .inl mIsKept)), (mrDraft, .inl (k 0, 61, .inl mDraft)), (mrTape, .inl (k 0, 160, .inl mTape)), (mrRow, .inl (k 0, 5, .inl mRow)), (mrRode, .inl (k 0, 31, .inl mRode_16)), (mrWays, .inl (k 0, 31, .inl mWays_17)), (mrLanes, .inl (k 0, 4, .inl mLanes)), (mrSizes, .inl (k 0, 4, .inl mSizes)), (mrCells, .inl (k 0, 160, .inl mCells)), (mrBefore, .inl (k 0, 61, .inl mBefore))]) (ws' := wX8 k mh mrSt mrNow mrIsKept mrDraft mrTape mrRow mrRode mrWays mrLanes mrSizes mrCells mrBefore mSt mNow_14 mIsKept mPeople mDraft mDPeople mHasDry mToldDebts mHighest mTape mTaped mPos mBegun mSort mValue mFault mWrongAt mPaid_15 mRow mRingMuch mRideSum mOwedSum mAllWays mRode_16 mWays_17 mLanes mSizes mCells mTorn mBefore) [] [0, 1, 2, 3, 4, 5, 6, 7, 8, 9, 10, 11, 12] [0, 1, 2, 3, 4, 5, 6, 7, 8, 9, 10, 11, 12] rfl rfl (by decide) (by decide) (by decide) rfl (by decide) [] rfl hl.1 rfl (Nat.le_of_ble_eq_true rfl) dX8_ask_187 ⟨by decide, by decide⟩ (fun H locs (hw : Wd D A s.heap H locs (wX8 k mh mrSt mrNow mrIsKept mrDraft mrTape mrRow mrRode mrWays mrLanes mrSizes mrCells mrBefore mSt mNow_14 mIsKept mPeople mDraft mDPeople mHasDry mToldDebts mHighest mTape mTaped mPos mBegun mSort mValue mFault mWrongAt mPaid_15 mRow mRingMuch mRideSum mOwedSum mAllWays mRode_16 mWays_17 mLanes mSizes mCells mTorn mBefore)) => ?_)
                    refine W.eq (g2 := F0 m 190 ls ([.int r_39])) rfl ?_
                    refine lv_istore (lv' := [(4, .int r_39), (5, .int t_38), (0, .ref mh), (2, .int p2), (3, .int v3_13), (6, .int v6_30), (7, .int t_35)]) hx hb dX8_ask_190 hl (by decide) rfl (fun ls hl => ?_)
                    refine lv_iinc (v := v6_30 + 1) (lv' := [(6, .int (v6_30 + 1)), (4, .int r_39), (5, .int t_38), (0, .ref mh), (2, .int p2), (3, .int v3_13), (7, .int t_35)]) hx hb dX8_ask_192 hl (k := 5) rfl rfl (by decide) rfl (fun ls hl => ?_)
                    refine lv_goto (tgt := 120) hx hb dX8_ask_195 (by decide) ?_
                    exact ih _ _ _ h _ _ _ hw (lv_sub hl [3, 4, 5, 1, 2, 0] rfl)
                  clear h
                  have h := hj_171
                  refine kb_icmp_ge (tgt := 179) hx hb dX8_ask_171 (by decide) h (fun c_171 h => ?_) (fun c_171 h => ?_)
                  · refine lv_iload hx hb dX8_ask_179 (lv_at hl 5 rfl) ?_
                    cases h
                    exact J_171 _ _ _ hw (lv_sub hl [1, 2, 3, 4, 6, 0] rfl)
                  · refine lv_iload hx hb dX8_ask_174 (lv_at hl 6 rfl) ?_
                    refine lv_goto (tgt := 181) hx hb dX8_ask_176 (by decide) ?_
                    cases h
                    exact J_171 _ _ _ hw (lv_sub hl [1, 2, 3, 4, 6, 0] rfl)
                clear h
                have h := hj_143
                refine kb_icmp_le (tgt := 156) hx hb dX8_ask_143 (by decide) h (fun c_143 h => ?_) (fun c_143 h => ?_)
                · refine lv_iload_n hx hb dX8_ask_156 rfl (lv_at hl 2 rfl) ?_
                  refine lv_aload_n hx hb dX8_ask_157 rfl (lv_at hl 0 rfl) ?_
                  refine va_get (ci := 8) (v := .ref mrWays) (C := RX8) (T := TX8) (N := 30) hx hb hts hinX8 hown hK.1 hw.1 0 rfl rfl 24 (by decide) q_1 (fun _ h9 => h9) rfl dX8_ask_158 ?_
                  refine lv_iload hx hb dX8_ask_161 (lv_at hl 5 rfl) ?_
                  refine k_iald hx hb hK hw 8 rfl dX8_ask_163 h (fun a_36 h => ?_)
                  refine lv_isub hx hb dX8_ask_164 ?_
                  cases h
                  exact J_143 _ _ _ hw (lv_sub hl [0, 1, 2, 3, 4, 5] rfl)
                · refine lv_aload_n hx hb dX8_ask_146 rfl (lv_at hl 0 rfl) ?_
                  refine va_get (ci := 8) (v := .ref mrWays) (C := RX8) (T := TX8) (N := 30) hx hb hts hinX8 hown hK.1 hw.1 0 rfl rfl 24 (by decide) q_1 (fun _ h9 => h9) rfl dX8_ask_147 ?_
                  refine lv_iload hx hb dX8_ask_150 (lv_at hl 5 rfl) ?_
                  refine k_iald hx hb hK hw 8 rfl dX8_ask_152 h (fun a_37 h => ?_)
                  refine lv_goto (tgt := 165) hx hb dX8_ask_153 (by decide) ?_
                  cases h
                  exact J_143 _ _ _ hw (lv_sub hl [0, 1, 2, 3, 4, 5] rfl)
          exact LP_120 400 v3_13 (-4) 0 hL_120 _ _ _ hw (lv_sub hl [3, 4, 5, 2, 1, 0] rfl)
        clear h
        have LP_46 : ∀ (n : Nat) (v3_7 : Int32) (v4_8 : Int32) (mNow_9 : (Nat → Int32)) (mPaid_10 : Int32) (mRode_11 : (Nat → Int32)) (mWays_12 : (Nat → Int32)), f_X8_ask_L46 mSt mPeople p1 n v3_7 v4_8 mNow_9 mPaid_10 mRode_11 mWays_12 = some (v3_13, mNow_14, mPaid_15, mRode_16, mWays_17) → ∀ (H : Heap) (locs : List Loc) (ls : Array Slot), Wd D A s.heap H locs (wX8 k mh mrSt mrNow mrIsKept mrDraft mrTape mrRow mrRode mrWays mrLanes mrSizes mrCells mrBefore mSt mNow_9 mIsKept mPeople mDraft mDPeople mHasDry mToldDebts mHighest mTape mTaped mPos mBegun mSort mValue mFault mWrongAt mPaid_10 mRow mRingMuch mRideSum mOwedSum mAllWays mRode_11 mWays_12 mLanes mSizes mCells mTorn mBefore) → lv_has ls 8 [(0, .ref mh), (1, .int p1), (2, .int p2), (3, .int v3_7), (4, .int v4_8)] → W p l e rmX8_ask s m args below meth c H locs 0 0 Q (F0 m 46 ls []) := by
          clear hL_46 hw hl
          intro n
          induction n with
          | zero => intro v3_7 v4_8 mNow_9 mPaid_10 mRode_11 mWays_12 h; rw [f_X8_ask_L46] at h; cases h
          | succ n ih =>
            intro v3_7 v4_8 mNow_9 mPaid_10 mRode_11 mWays_12 h H locs ls hw hl
            rw [f_X8_ask_L46] at h
            refine lv_iload hx hb dX8_ask_46 (lv_at hl 4 rfl) ?_
            refine lv_bipush (v := 9) hx hb dX8_ask_48 (by decide) ?_
            refine kb_icmp_gt (tgt := 110) hx hb dX8_ask_50 (by decide) h (fun c_50 h => ?_) (fun c_50 h => ?_)
            · cases h
              exact X_46 _ _ _ hw (lv_sub hl [0, 2, 3] rfl)
            · refine lv_aload_n hx hb dX8_ask_53 rfl (lv_at hl 0 rfl) ?_
              refine lv_iload_n hx hb dX8_ask_54 rfl (lv_at hl 1 rfl) ?_
              refine lv_iconst (v := 2) hx hb dX8_ask_55 (by decide) ?_
              refine lv_iload hx hb dX8_ask_56 (lv_at hl 4 rfl) ?_
              obtain ⟨r_18, mNow_19, mPaid_20, mRode_21, hf, h⟩ := b4_inv h
              refine k_callV (host := "") fx hK hA hw (c_X8_isSoWith l D k mh mrSt mrNow mrIsKept mrDraft mrTape mrRow mrRode mrWays mrLanes mrSizes mrCells mrBefore _ mSt mNow_9 mIsKept mPeople mDraft mDPeople mHasDry mToldDebts mHighest mTape mTaped mPos mBegun mSort mValue mFault mWrongAt mPaid_10 mRow mRingMuch mRideSum mOwedSum mAllWays mRode_11 mWays_12 mLanes mSizes mCells mTorn mBefore p1 2 v4_8 r_18 mNow_19 mPaid_20 mRode_21 hf) (cwV 3 hts gX8_ask_X8_isSoWith rfl rfl rfl (by decide +kernel) ⟨by decide, by decide⟩) (As := [.int p1, .int 2, .int v4_8]) (wr := []) (ws' := wX8 k mh mrSt mrNow mrIsKept mrDraft mrTape mrRow mrRode mrWays mrLanes mrSizes mrCells mrBefore mSt mNow_19 mIsKept mPeople mDraft mDPeople mHasDry mToldDebts mHighest mTape mTaped mPos mBegun mSort mValue mFault mWrongAt mPaid_20 mRow mRingMuch mRideSum mOwedSum mAllWays mRode_21 mWays_12 mLanes mSizes mCells mTorn mBefore) [0, 1, 2, 3, 4, 5, 6, 7, 8, 9, 10, 11, 12] [] [0, 1, 2, 3, 4, 5, 6, 7, 8, 9, 10, 11, 12] rfl rfl (by decide) (by decide) (by decide) rfl (by decide) 8 rfl rfl [] rfl hl.1 rfl (Nat.le_of_ble_eq_true rfl) dX8_ask_58 ⟨by decide, by decide⟩ (fun H locs (hw : Wd D A s.heap H locs (wX8 k mh mrSt mrNow mrIsKept mrDraft mrTape mrRow mrRode mrWays mrLanes mrSizes mrCells mrBefore mSt mNow_19 mIsKept mPeople mDraft mDPeople mHasDry mToldDebts mHighest mTape mTaped mPos mBegun mSort mValue mFault mWrongAt mPaid_20 mRow mRingMuch mRideSum mOwedSum mAllWays mRode_21 mWays_12 mLanes mSizes mCells mTorn mBefore)) => ?_)
              refine W.eq (g2 := F0 m 61 ls ([.int r_18])) rfl ?_
              refine kb_if_eq (tgt := 104) hx hb dX8_ask_61 (by decide) h (fun c_61 h => ?_) (fun c_61 h => ?_)
              · refine lv_iinc (v := v4_8 + 1) (lv' := [(4, .int (v4_8 + 1)), (0, .ref mh), (1, .int p1), (2, .int p2), (3, .int v3_7)]) hx hb dX8_ask_104 hl (k := 4) rfl rfl (by decide) rfl (fun ls hl => ?_)
                refine lv_goto (tgt := 46) hx hb dX8_ask_107 (by decide) ?_
                exact ih _ _ _ _ _ _ h _ _ _ hw (lv_sub hl [1, 2, 3, 4, 0] rfl)
              · refine lv_iinc (v := v3_7 + 1) (lv' := [(3, .int (v3_7 + 1)), (0, .ref mh), (1, .int p1), (2, .int p2), (4, .int v4_8)]) hx hb dX8_ask_64 hl (k := 3) rfl rfl (by decide) rfl (fun ls hl => ?_)
                refine lv_iconst (v := 0) hx hb dX8_ask_67 (by decide) ?_
                refine lv_istore (lv' := [(5, .int 0), (3, .int (v3_7 + 1)), (0, .ref mh), (1, .int p1), (2, .int p2), (4, .int v4_8)]) hx hb dX8_ask_68 hl (by decide) rfl (fun ls hl => ?_)
                obtain ⟨mWays_24, hL_70, h⟩ := b1_inv h
                have X_70 : ∀ (H : Heap) (locs : List Loc) (ls : Array Slot), Wd D A s.heap H locs (wX8 k mh mrSt mrNow mrIsKept mrDraft mrTape mrRow mrRode mrWays mrLanes mrSizes mrCells mrBefore mSt mNow_19 mIsKept mPeople mDraft mDPeople mHasDry mToldDebts mHighest mTape mTaped mPos mBegun mSort mValue mFault mWrongAt mPaid_20 mRow mRingMuch mRideSum mOwedSum mAllWays mRode_21 mWays_24 mLanes mSizes mCells mTorn mBefore) → lv_has ls 8 [(0, .ref mh), (1, .int p1), (2, .int p2), (3, .int (v3_7 + 1)), (4, .int v4_8)] → W p l e rmX8_ask s m args below meth c H locs 0 0 Q (F0 m 104 ls []) := by
                  intro H locs ls hw hl
                  refine lv_iinc (v := v4_8 + 1) (lv' := [(4, .int (v4_8 + 1)), (0, .ref mh), (1, .int p1), (2, .int p2), (3, .int (v3_7 + 1))]) hx hb dX8_ask_104 hl (k := 4) rfl rfl (by decide) rfl (fun ls hl => ?_)
                  refine lv_goto (tgt := 46) hx hb dX8_ask_107 (by decide) ?_
                  exact ih _ _ _ _ _ _ h _ _ _ hw (lv_sub hl [1, 2, 3, 4, 0] rfl)
                clear h
                have LP_70 : ∀ (n : Nat) (v5_22 : Int32) (mWays_23 : (Nat → Int32)), f_X8_ask_L70 p1 mRode_21 n v5_22 mWays_23 = some mWays_24 → ∀ (H : Heap) (locs : List Loc) (ls : Array Slot), Wd D A s.heap H locs (wX8 k mh mrSt mrNow mrIsKept mrDraft mrTape mrRow mrRode mrWays mrLanes mrSizes mrCells mrBefore mSt mNow_19 mIsKept mPeople mDraft mDPeople mHasDry mToldDebts mHighest mTape mTaped mPos mBegun mSort mValue mFault mWrongAt mPaid_20 mRow mRingMuch mRideSum mOwedSum mAllWays mRode_21 mWays_23 mLanes mSizes mCells mTorn mBefore) → lv_has ls 8 [(0, .ref mh), (1, .int p1), (2, .int p2), (3, .int (v3_7 + 1)), (4, .int v4_8), (5, .int v5_22)] → W p l e rmX8_ask s m args below meth c H locs 0 0 Q (F0 m 70 ls []) := by
                  clear hL_70 hw hl
                  intro n
                  induction n with
                  | zero => intro v5_22 mWays_23 h; rw [f_X8_ask_L70] at h; cases h
                  | succ n ih =>
                    intro v5_22 mWays_23 h H locs ls hw hl
                    rw [f_X8_ask_L70] at h
                    refine lv_iload hx hb dX8_ask_70 (lv_at hl 5 rfl) ?_
                    refine lv_bipush (v := 30) hx hb dX8_ask_72 (by decide) ?_
                    refine kb_icmp_gt (tgt := 104) hx hb dX8_ask_74 (by decide) h (fun c_74 h => ?_) (fun c_74 h => ?_)
                    · cases h
                      exact X_70 _ _ _ hw (lv_sub hl [0, 1, 2, 3, 4] rfl)
                    · refine lv_aload_n hx hb dX8_ask_77 rfl (lv_at hl 0 rfl) ?_
                      refine va_get (ci := 8) (v := .ref mrWays) (C := RX8) (T := TX8) (N := 30) hx hb hts hinX8 hown hK.1 hw.1 0 rfl rfl 24 (by decide) q_1 (fun _ h9 => h9) rfl dX8_ask_78 ?_
                      refine lv_iload hx hb dX8_ask_81 (lv_at hl 5 rfl) ?_
                      refine lv_dup2_11 hx hb dX8_ask_83 rfl rfl ?_
                      refine k_iald hx hb hK hw 8 rfl dX8_ask_84 h (fun a_25 h => ?_)
                      refine lv_aload_n hx hb dX8_ask_85 rfl (lv_at hl 0 rfl) ?_
                      refine va_get (ci := 8) (v := .ref mrRode) (C := RX8) (T := TX8) (N := 30) hx hb hts hinX8 hown hK.1 hw.1 0 rfl rfl 23 (by decide) q_2 (fun _ h9 => h9) rfl dX8_ask_86 ?_
                      refine lv_iload hx hb dX8_ask_89 (lv_at hl 5 rfl) ?_
                      refine k_iald hx hb hK hw 7 rfl dX8_ask_91 h (fun a_26 h => ?_)
                      refine lv_iload_n hx hb dX8_ask_92 rfl (lv_at hl 1 rfl) ?_
                      refine lv_ishr hx hb dX8_ask_93 ?_
                      refine lv_iconst (v := 1) hx hb dX8_ask_94 (by decide) ?_
                      refine lv_iand hx hb dX8_ask_95 ?_
                      refine lv_iadd hx hb dX8_ask_96 ?_
                      refine k_iast hx hb hK hw 8 rfl dX8_ask_97 h (fun mWays_27 h H locs (hw : Wd D A s.heap H locs (wX8 k mh mrSt mrNow mrIsKept mrDraft mrTape mrRow mrRode mrWays mrLanes mrSizes mrCells mrBefore mSt mNow_19 mIsKept mPeople mDraft mDPeople mHasDry mToldDebts mHighest mTape mTaped mPos mBegun mSort mValue mFault mWrongAt mPaid_20 mRow mRingMuch mRideSum mOwedSum mAllWays mRode_21 mWays_27 mLanes mSizes mCells mTorn mBefore)) => ?_)
                      refine lv_iinc (v := v5_22 + 1) (lv' := [(5, .int (v5_22 + 1)), (0, .ref mh), (1, .int p1), (2, .int p2), (3, .int (v3_7 + 1)), (4, .int v4_8)]) hx hb dX8_ask_98 hl (k := 5) rfl rfl (by decide) rfl (fun ls hl => ?_)
                      refine lv_goto (tgt := 70) hx hb dX8_ask_101 (by decide) ?_
                      exact ih _ _ h _ _ _ hw (lv_sub hl [1, 2, 3, 4, 5, 0] rfl)
                exact LP_70 400 0 mWays_12 hL_70 _ _ _ hw (lv_sub hl [2, 3, 4, 1, 5, 0] rfl)
        exact LP_46 400 0 0 mNow mPaid mRode mWays_5 hL_46 _ _ _ hw (lv_sub hl [1, 2, 3, 4, 0] rfl)
      clear h
      have LP_22 : ∀ (n : Nat) (v4_3 : Int32) (mWays_4 : (Nat → Int32)), f_X8_ask_L22 n v4_3 mWays_4 = some mWays_5 → ∀ (H : Heap) (locs : List Loc) (ls : Array Slot), Wd D A s.heap H locs (wX8 k mh mrSt mrNow mrIsKept mrDraft mrTape mrRow mrRode mrWays mrLanes mrSizes mrCells mrBefore mSt mNow mIsKept mPeople mDraft mDPeople mHasDry mToldDebts mHighest mTape mTaped mPos mBegun mSort mValue mFault mWrongAt mPaid mRow mRingMuch mRideSum mOwedSum mAllWays mRode mWays_4 mLanes mSizes mCells mTorn mBefore) → lv_has ls 8 [(0, .ref mh), (1, .int p1), (2, .int p2), (3, .int 0), (4, .int v4_3)] → W p l e rmX8_ask s m args below meth c H locs 0 0 Q (F0 m 22 ls []) := by
        clear hL_22 hw hl
        intro n
        induction n with
        | zero => intro v4_3 mWays_4 h; rw [f_X8_ask_L22] at h; cases h
        | succ n ih =>
          intro v4_3 mWays_4 h H locs ls hw hl
          rw [f_X8_ask_L22] at h
          refine lv_iload hx hb dX8_ask_22 (lv_at hl 4 rfl) ?_
          refine lv_bipush (v := 30) hx hb dX8_ask_24 (by decide) ?_
          refine kb_icmp_gt (tgt := 43) hx hb dX8_ask_26 (by decide) h (fun c_26 h => ?_) (fun c_26 h => ?_)
          · cases h
            exact X_22 _ _ _ hw (lv_sub hl [0, 1, 2, 3] rfl)
          · refine lv_aload_n hx hb dX8_ask_29 rfl (lv_at hl 0 rfl) ?_
            refine va_get (ci := 8) (v := .ref mrWays) (C := RX8) (T := TX8) (N := 30) hx hb hts hinX8 hown hK.1 hw.1 0 rfl rfl 24 (by decide) q_1 (fun _ h9 => h9) rfl dX8_ask_30 ?_
            refine lv_iload hx hb dX8_ask_33 (lv_at hl 4 rfl) ?_
            refine lv_iconst (v := 0) hx hb dX8_ask_35 (by decide) ?_
            refine k_iast hx hb hK hw 8 rfl dX8_ask_36 h (fun mWays_6 h H locs (hw : Wd D A s.heap H locs (wX8 k mh mrSt mrNow mrIsKept mrDraft mrTape mrRow mrRode mrWays mrLanes mrSizes mrCells mrBefore mSt mNow mIsKept mPeople mDraft mDPeople mHasDry mToldDebts mHighest mTape mTaped mPos mBegun mSort mValue mFault mWrongAt mPaid mRow mRingMuch mRideSum mOwedSum mAllWays mRode mWays_6 mLanes mSizes mCells mTorn mBefore)) => ?_)
            refine lv_iinc (v := v4_3 + 1) (lv' := [(4, .int (v4_3 + 1)), (0, .ref mh), (1, .int p1), (2, .int p2), (3, .int 0)]) hx hb dX8_ask_37 hl (k := 4) rfl rfl (by decide) rfl (fun ls hl => ?_)
            refine lv_goto (tgt := 22) hx hb dX8_ask_40 (by decide) ?_
            exact ih _ _ h _ _ _ hw (lv_sub hl [1, 2, 3, 4, 0] rfl)
      exact LP_22 400 0 mWays hL_22 _ _ _ hw (lv_sub hl [2, 3, 4, 1, 0] rfl)
abbrev rmX8_copies : Room := { frames := 0, cells := 0, slots := 0, locals := 0 }
set_option maxHeartbeats 4000000 in
set_option maxRecDepth 100000 in
theorem c_X8_copies (l : Launch) (D : va_G) (k : Nat → ClassId) (mh mrSt mrNow mrIsKept mrDraft mrTape mrRow mrRode mrWays mrLanes mrSizes mrCells mrBefore : Nat) (sz : Nat) (mSt : (Nat → Int32)) (mNow : (Nat → Int32)) (mIsKept : (Nat → Int32)) (mPeople : Int32) (mDraft : (Nat → Int32)) (mDPeople : Int32) (mHasDry : Int32) (mToldDebts : Int32) (mHighest : Int32) (mTape : (Nat → Int32)) (mTaped : Int32) (mPos : Int32) (mBegun : Int32) (mSort : Int32) (mValue : Int32) (mFault : Int32) (mWrongAt : Int32) (mPaid : Int32) (mRow : (Nat → Int32)) (mRingMuch : Int32) (mRideSum : Int64) (mOwedSum : Int64) (mAllWays : Int64) (mRode : (Nat → Int32)) (mWays : (Nat → Int32)) (mLanes : (Nat → Int32)) (mSizes : (Nat → Int32)) (mCells : (Nat → Int32)) (mTorn : Int32) (mBefore : (Nat → Int32)) (p1 : Int32) (p2 : Int32) (n_mSt : (Nat → Int32)) (hf : f_X8_copies mSt p1 p2 = some n_mSt) : mR l yX8_copies wsX8_copies rmX8_copies D k sz [.ref mh, .int p1, .int p2] (wX8 k mh mrSt mrNow mrIsKept mrDraft mrTape mrRow mrRode mrWays mrLanes mrSizes mrCells mrBefore mSt mNow mIsKept mPeople mDraft mDPeople mHasDry mToldDebts mHighest mTape mTaped mPos mBegun mSort mValue mFault mWrongAt mPaid mRow mRingMuch mRideSum mOwedSum mAllWays mRode mWays mLanes mSizes mCells mTorn mBefore) (wX8 k mh mrSt mrNow mrIsKept mrDraft mrTape mrRow mrRode mrWays mrLanes mrSizes mrCells mrBefore n_mSt mNow mIsKept mPeople mDraft mDPeople mHasDry mToldDebts mHighest mTape mTaped mPos mBegun mSort mValue mFault mWrongAt mPaid mRow mRingMuch mRideSum mOwedSum mAllWays mRode mWays mLanes mSizes mCells mTorn mBefore) (none) := by
  refine mR_of (cc := cX8_copies) (maxL := 4) (ret := none) (by decide) rfl (Nat.le_of_ble_eq_true rfl) [(0, .ref mh), (1, .int p1), (2, .int p2)] rfl ?_
  intro p e s m below meth c A ls args Q cx hK hA hw hl hQ
  have fx := cx.1
  obtain ⟨⟨hx, hb, hml, hown, hts⟩, hr, hlocks⟩ := cx
  have hinX8 : ∀ w ∈ wsX80, w ∈ wsX8_copies := fun w h => List.mem_cons_of_mem _ (List.mem_append_right _ h)
  have q_1 := hts (.fieldLink RX8 7 "DebtRidesModel" "st" "[I") (List.mem_of_getElem? (i := 1) rfl)
  have h := hf
  unfold f_X8_copies at h
  clear hf
  refine lv_iconst (v := 0) hx hb dX8_copies_0 (by decide) ?_
  refine lv_istore_n (lv' := [(3, .int 0), (0, .ref mh), (1, .int p1), (2, .int p2)]) hx hb dX8_copies_1 rfl hl (by decide) rfl (fun ls hl => ?_)
  obtain ⟨mSt_3, hL_2, h⟩ := b1_inv h
  have X_2 : ∀ (H : Heap) (locs : List Loc) (ls : Array Slot), Wd D A s.heap H locs (wX8 k mh mrSt mrNow mrIsKept mrDraft mrTape mrRow mrRode mrWays mrLanes mrSizes mrCells mrBefore mSt_3 mNow mIsKept mPeople mDraft mDPeople mHasDry mToldDebts mHighest mTape mTaped mPos mBegun mSort mValue mFault mWrongAt mPaid mRow mRingMuch mRideSum mOwedSum mAllWays mRode mWays mLanes mSizes mCells mTorn mBefore) → lv_has ls 4 [] → W p l e rmX8_copies s m args below meth c H locs 0 0 Q (F0 m 30 ls []) := by
    intro H locs ls hw hl
    cases h
    exact k_vret hx hb hr hlocks hw dX8_copies_30 hQ
  clear h
  have LP_2 : ∀ (n : Nat) (v3_1 : Int32) (mSt_2 : (Nat → Int32)), f_X8_copies_L2 p1 p2 n v3_1 mSt_2 = some mSt_3 → ∀ (H : Heap) (locs : List Loc) (ls : Array Slot), Wd D A s.heap H locs (wX8 k mh mrSt mrNow mrIsKept mrDraft mrTape mrRow mrRode mrWays mrLanes mrSizes mrCells mrBefore mSt_2 mNow mIsKept mPeople mDraft mDPeople mHasDry mToldDebts mHighest mTape mTaped mPos mBegun mSort mValue mFault mWrongAt mPaid mRow mRingMuch mRideSum mOwedSum mAllWays mRode mWays mLanes mSizes mCells mTorn mBefore) → lv_has ls 4 [(0, .ref mh), (1, .int p1), (2, .int p2), (3, .int v3_1)] → W p l e rmX8_copies s m args below meth c H locs 0 0 Q (F0 m 2 ls []) := by
    clear hL_2 hw hl
    intro n
    induction n with
    | zero => intro v3_1 mSt_2 h; rw [f_X8_copies_L2] at h; cases h
    | succ n ih =>
      intro v3_1 mSt_2 h H locs ls hw hl
      rw [f_X8_copies_L2] at h
      refine lv_iload_n hx hb dX8_copies_2 rfl (lv_at hl 3 rfl) ?_
      refine lv_bipush (v := 61) hx hb dX8_copies_3 (by decide) ?_
      refine kb_icmp_ge (tgt := 30) hx hb dX8_copies_5 (by decide) h (fun c_5 h => ?_) (fun c_5 h => ?_)
      · cases h
        exact X_2 _ _ _ hw (lv_sub hl [] rfl)
      · refine lv_aload_n hx hb dX8_copies_8 rfl (lv_at hl 0 rfl) ?_
        refine va_get (ci := 8) (v := .ref mrSt) (C := RX8) (T := TX8) (N := 30) hx hb hts hinX8 hown hK.1 hw.1 0 rfl rfl 0 (by decide) q_1 (fun _ h9 => h9) rfl dX8_copies_9 ?_
        refine lv_iload_n hx hb dX8_copies_12 rfl (lv_at hl 1 rfl) ?_
        refine lv_iload_n hx hb dX8_copies_13 rfl (lv_at hl 3 rfl) ?_
        refine lv_iadd hx hb dX8_copies_14 ?_
        refine lv_aload_n hx hb dX8_copies_15 rfl (lv_at hl 0 rfl) ?_
        refine va_get (ci := 8) (v := .ref mrSt) (C := RX8) (T := TX8) (N := 30) hx hb hts hinX8 hown hK.1 hw.1 0 rfl rfl 0 (by decide) q_1 (fun _ h9 => h9) rfl dX8_copies_16 ?_
        refine lv_iload_n hx hb dX8_copies_19 rfl (lv_at hl 2 rfl) ?_
        refine lv_iload_n hx hb dX8_copies_20 rfl (lv_at hl 3 rfl) ?_
        refine lv_iadd hx hb dX8_copies_21 ?_
        refine k_iald hx hb hK hw 1 rfl dX8_copies_22 h (fun a_4 h => ?_)
        refine k_iast hx hb hK hw 1 rfl dX8_copies_23 h (fun mSt_5 h H locs (hw : Wd D A s.heap H locs (wX8 k mh mrSt mrNow mrIsKept mrDraft mrTape mrRow mrRode mrWays mrLanes mrSizes mrCells mrBefore mSt_5 mNow mIsKept mPeople mDraft mDPeople mHasDry mToldDebts mHighest mTape mTaped mPos mBegun mSort mValue mFault mWrongAt mPaid mRow mRingMuch mRideSum mOwedSum mAllWays mRode mWays mLanes mSizes mCells mTorn mBefore)) => ?_)
        refine lv_iinc (v := v3_1 + 1) (lv' := [(3, .int (v3_1 + 1)), (0, .ref mh), (1, .int p1), (2, .int p2)]) hx hb dX8_copies_24 hl (k := 3) rfl rfl (by decide) rfl (fun ls hl => ?_)
        refine lv_goto (tgt := 2) hx hb dX8_copies_27 (by decide) ?_
        exact ih _ _ h _ _ _ hw (lv_sub hl [1, 2, 3, 0] rfl)
  exact LP_2 400 0 mSt hL_2 _ _ _ hw (lv_sub hl [1, 2, 3, 0] rfl)
abbrev rmX8_back : Room := { frames := 1, cells := 0, slots := 0, locals := 25 }
set_option maxHeartbeats 4000000 in
set_option maxRecDepth 100000 in
theorem c_X8_back (l : Launch) (D : va_G) (k : Nat → ClassId) (mh mrSt mrNow mrIsKept mrDraft mrTape mrRow mrRode mrWays mrLanes mrSizes mrCells mrBefore : Nat) (sz : Nat) (mSt : (Nat → Int32)) (mNow : (Nat → Int32)) (mIsKept : (Nat → Int32)) (mPeople : Int32) (mDraft : (Nat → Int32)) (mDPeople : Int32) (mHasDry : Int32) (mToldDebts : Int32) (mHighest : Int32) (mTape : (Nat → Int32)) (mTaped : Int32) (mPos : Int32) (mBegun : Int32) (mSort : Int32) (mValue : Int32) (mFault : Int32) (mWrongAt : Int32) (mPaid : Int32) (mRow : (Nat → Int32)) (mRingMuch : Int32) (mRideSum : Int64) (mOwedSum : Int64) (mAllWays : Int64) (mRode : (Nat → Int32)) (mWays : (Nat → Int32)) (mLanes : (Nat → Int32)) (mSizes : (Nat → Int32)) (mCells : (Nat → Int32)) (mTorn : Int32) (mBefore : (Nat → Int32)) (p1 : Int32) (r_ : Int32) (n_mSt : (Nat → Int32)) (hf : f_X8_back mSt mIsKept p1 = some (r_, n_mSt)) : mR l yX8_back wsX8_back rmX8_back D k sz [.ref mh, .int p1] (wX8 k mh mrSt mrNow mrIsKept mrDraft mrTape mrRow mrRode mrWays mrLanes mrSizes mrCells mrBefore mSt mNow mIsKept mPeople mDraft mDPeople mHasDry mToldDebts mHighest mTape mTaped mPos mBegun mSort mValue mFault mWrongAt mPaid mRow mRingMuch mRideSum mOwedSum mAllWays mRode mWays mLanes mSizes mCells mTorn mBefore) (wX8 k mh mrSt mrNow mrIsKept mrDraft mrTape mrRow mrRode mrWays mrLanes mrSizes mrCells mrBefore n_mSt mNow mIsKept mPeople mDraft mDPeople mHasDry mToldDebts mHighest mTape mTaped mPos mBegun mSort mValue mFault mWrongAt mPaid mRow mRingMuch mRideSum mOwedSum mAllWays mRode mWays mLanes mSizes mCells mTorn mBefore) (some (.int r_)) := by
  refine mR_of (cc := cX8_back) (maxL := 2) (ret := some .int) (by decide) rfl (Nat.le_of_ble_eq_true rfl) [(0, .ref mh), (1, .int p1)] rfl ?_
  intro p e s m below meth c A ls args Q cx hK hA hw hl hQ
  have fx := cx.1
  obtain ⟨⟨hx, hb, hml, hown, hts⟩, hr, hlocks⟩ := cx
  have hinX8 : ∀ w ∈ wsX80, w ∈ wsX8_back := fun w h => List.mem_cons_of_mem _ (List.mem_append_right _ h)
  have q_1 := hts (.fieldLink RX8 16 "DebtRidesModel" "isKept" "[Z") (List.mem_of_getElem? (i := 1) rfl)
  have q_2 := hts (.fieldLink RX8 7 "DebtRidesModel" "st" "[I") (List.mem_of_getElem? (i := 2) rfl)
  have h := hf
  unfold f_X8_back at h
  clear hf
  refine lv_iload_n hx hb dX8_back_0 rfl (lv_at hl 1 rfl) ?_
  refine lv_i2l hx hb dX8_back_1 rfl ?_
  refine lv_lconst (v := 0) hx hb dX8_back_2 rfl ?_
  refine lv_lconst (v := 1) hx hb dX8_back_3 rfl ?_
  obtain ⟨r_1, hf, h⟩ := b1_inv h
  refine k_callS (b := 0) (C := "") (host := "") fx hK hA hw (c_X8_in l D k _ p1.toInt64 0 1 r_1 hf) (va_cwS 3 hts gX8_back_X8_in rfl rfl rfl (by decide +kernel) ⟨by decide, by decide⟩) (As := [.long p1.toInt64, .long 0, .long 1]) (wr := [(mh, .inr (8, [.ref mrSt, .ref mrNow, .ref mrIsKept, .int mPeople, .ref mrDraft, .int mDPeople, .int mHasDry, .int mToldDebts, .int mHighest, .ref mrTape, .int mTaped, .int mPos, .int mBegun, .int mSort, .int mValue, .int mFault, .int mWrongAt, .int mPaid, .ref mrRow, .int mRingMuch, .long mRideSum, .long mOwedSum, .long mAllWays, .ref mrRode, .ref mrWays, .ref mrLanes, .ref mrSizes, .ref mrCells, .int mTorn, .ref mrBefore])), (mrSt, .inl (k 0, 183, .inl mSt)), (mrNow, .inl (k 0, 61, .inl mNow)), (mrIsKept, .inl (k 1, 2, .inl mIsKept)), (mrDraft, .inl (k 0, 61, .inl mDraft)), (mrTape, .inl (k 0, 160, .inl mTape)), (mrRow, .inl (k 0, 5, .inl mRow)), (mrRode, .inl (k 0, 31, .inl mRode)), (mrWays, .inl (k 0, 31, .inl mWays)), (mrLanes, .inl (k 0, 4, .inl mLanes)), (mrSizes, .inl (k 0, 4, .inl mSizes)), (mrCells, .inl (k 0, 160, .inl mCells)), (mrBefore, .inl (k 0, 61, .inl mBefore))]) (ws' := wX8 k mh mrSt mrNow mrIsKept mrDraft mrTape mrRow mrRode mrWays mrLanes mrSizes mrCells mrBefore mSt mNow mIsKept mPeople mDraft mDPeople mHasDry mToldDebts mHighest mTape mTaped mPos mBegun mSort mValue mFault mWrongAt mPaid mRow mRingMuch mRideSum mOwedSum mAllWays mRode mWays mLanes mSizes mCells mTorn mBefore) [] [0, 1, 2, 3, 4, 5, 6, 7, 8, 9, 10, 11, 12] [0, 1, 2, 3, 4, 5, 6, 7, 8, 9, 10, 11, 12] rfl rfl (by decide) (by decide) (by decide) rfl (by decide) [] rfl hl.1 rfl (Nat.le_of_ble_eq_true rfl) dX8_back_4 ⟨by decide, by decide⟩ (fun H locs (hw : Wd D A s.heap H locs (wX8 k mh mrSt mrNow mrIsKept mrDraft mrTape mrRow mrRode mrWays mrLanes mrSizes mrCells mrBefore mSt mNow mIsKept mPeople mDraft mDPeople mHasDry mToldDebts mHighest mTape mTaped mPos mBegun mSort mValue mFault mWrongAt mPaid mRow mRingMuch mRideSum mOwedSum mAllWays mRode mWays mLanes mSizes mCells mTorn mBefore)) => ?_)
  refine W.eq (g2 := F0 m 7 ls ([.int r_1])) rfl ?_
  refine kb_if_ne (tgt := 12) hx hb dX8_back_7 (by decide) h (fun c_7 h => ?_) (fun c_7 h => ?_)
  · refine lv_iconst (v := (-1)) hx hb dX8_back_10 (by decide) ?_
    cases h
    exact k_iret hx hb hr hlocks hw rfl dX8_back_11 hQ
  · refine lv_aload_n hx hb dX8_back_12 rfl (lv_at hl 0 rfl) ?_
    refine va_get (ci := 8) (v := .ref mrIsKept) (C := RX8) (T := TX8) (N := 30) hx hb hts hinX8 hown hK.1 hw.1 0 rfl rfl 2 (by decide) q_1 (fun _ h9 => h9) rfl dX8_back_13 ?_
    refine lv_iload_n hx hb dX8_back_16 rfl (lv_at hl 1 rfl) ?_
    refine k_zald hx hb hK hw 3 rfl dX8_back_17 h (fun a_2 h => ?_)
    refine kb_if_ne (tgt := 24) hx hb dX8_back_18 (by decide) h (fun c_18 h => ?_) (fun c_18 h => ?_)
    · refine lv_bipush (v := (-2)) hx hb dX8_back_21 (by decide) ?_
      cases h
      exact k_iret hx hb hr hlocks hw rfl dX8_back_23 hQ
    · refine lv_aload_n hx hb dX8_back_24 rfl (lv_at hl 0 rfl) ?_
      refine lv_iconst (v := 0) hx hb dX8_back_25 (by decide) ?_
      refine lv_bipush (v := 61) hx hb dX8_back_26 (by decide) ?_
      refine lv_iload_n hx hb dX8_back_28 rfl (lv_at hl 1 rfl) ?_
      refine lv_iconst (v := 1) hx hb dX8_back_29 (by decide) ?_
      refine lv_iadd hx hb dX8_back_30 ?_
      refine lv_imul hx hb dX8_back_31 ?_
      obtain ⟨mSt_3, hf, h⟩ := b1_inv h
      refine k_callV (host := "") fx hK hA hw (c_X8_copies l D k mh mrSt mrNow mrIsKept mrDraft mrTape mrRow mrRode mrWays mrLanes mrSizes mrCells mrBefore _ mSt mNow mIsKept mPeople mDraft mDPeople mHasDry mToldDebts mHighest mTape mTaped mPos mBegun mSort mValue mFault mWrongAt mPaid mRow mRingMuch mRideSum mOwedSum mAllWays mRode mWays mLanes mSizes mCells mTorn mBefore 0 (61 * (p1 + 1)) mSt_3 hf) (cwV 2 hts gX8_back_X8_copies rfl rfl rfl (by decide +kernel) ⟨by decide, by decide⟩) (As := [.int 0, .int (61 * (p1 + 1))]) (wr := []) (ws' := wX8 k mh mrSt mrNow mrIsKept mrDraft mrTape mrRow mrRode mrWays mrLanes mrSizes mrCells mrBefore mSt_3 mNow mIsKept mPeople mDraft mDPeople mHasDry mToldDebts mHighest mTape mTaped mPos mBegun mSort mValue mFault mWrongAt mPaid mRow mRingMuch mRideSum mOwedSum mAllWays mRode mWays mLanes mSizes mCells mTorn mBefore) [0, 1, 2, 3, 4, 5, 6, 7, 8, 9, 10, 11, 12] [] [0, 1, 2, 3, 4, 5, 6, 7, 8, 9, 10, 11, 12] rfl rfl (by decide) (by decide) (by decide) rfl (by decide) 8 rfl rfl [] rfl hl.1 rfl (Nat.le_of_ble_eq_true rfl) dX8_back_32 ⟨by decide, by decide⟩ (fun H locs (hw : Wd D A s.heap H locs (wX8 k mh mrSt mrNow mrIsKept mrDraft mrTape mrRow mrRode mrWays mrLanes mrSizes mrCells mrBefore mSt_3 mNow mIsKept mPeople mDraft mDPeople mHasDry mToldDebts mHighest mTape mTaped mPos mBegun mSort mValue mFault mWrongAt mPaid mRow mRingMuch mRideSum mOwedSum mAllWays mRode mWays mLanes mSizes mCells mTorn mBefore)) => ?_)
      refine W.eq (g2 := F0 m 35 ls ([])) rfl ?_
      refine lv_aload_n hx hb dX8_back_35 rfl (lv_at hl 0 rfl) ?_
      refine va_get (ci := 8) (v := .ref mrSt) (C := RX8) (T := TX8) (N := 30) hx hb hts hinX8 hown hK.1 hw.1 0 rfl rfl 0 (by decide) q_2 (fun _ h9 => h9) rfl dX8_back_36 ?_
      refine lv_bipush (v := 40) hx hb dX8_back_39 (by decide) ?_
      refine k_iald hx hb hK hw 1 rfl dX8_back_41 h (fun a_4 h => ?_)
      cases h
      exact k_iret hx hb hr hlocks hw rfl dX8_back_42 hQ
abbrev rmX8_bond : Room := { frames := 3, cells := 0, slots := 0, locals := 68 }
set_option maxHeartbeats 4000000 in
set_option maxRecDepth 100000 in
theorem c_X8_bond (l : Launch) (D : va_G) (k : Nat → ClassId) (mh mrSt mrNow mrIsKept mrDraft mrTape mrRow mrRode mrWays mrLanes mrSizes mrCells mrBefore : Nat) (sz : Nat) (mSt : (Nat → Int32)) (mNow : (Nat → Int32)) (mIsKept : (Nat → Int32)) (mPeople : Int32) (mDraft : (Nat → Int32)) (mDPeople : Int32) (mHasDry : Int32) (mToldDebts : Int32) (mHighest : Int32) (mTape : (Nat → Int32)) (mTaped : Int32) (mPos : Int32) (mBegun : Int32) (mSort : Int32) (mValue : Int32) (mFault : Int32) (mWrongAt : Int32) (mPaid : Int32) (mRow : (Nat → Int32)) (mRingMuch : Int32) (mRideSum : Int64) (mOwedSum : Int64) (mAllWays : Int64) (mRode : (Nat → Int32)) (mWays : (Nat → Int32)) (mLanes : (Nat → Int32)) (mSizes : (Nat → Int32)) (mCells : (Nat → Int32)) (mTorn : Int32) (mBefore : (Nat → Int32)) (p1 : Int32) (p2 : Int32) (p3 : Int32) (r_ : Int32) (n_mSt : (Nat → Int32)) (hf : f_X8_bond mSt mPeople p1 p2 p3 = some (r_, n_mSt)) : mR l yX8_bond wsX8_bond rmX8_bond D k sz [.ref mh, .int p1, .int p2, .int p3] (wX8 k mh mrSt mrNow mrIsKept mrDraft mrTape mrRow mrRode mrWays mrLanes mrSizes mrCells mrBefore mSt mNow mIsKept mPeople mDraft mDPeople mHasDry mToldDebts mHighest mTape mTaped mPos mBegun mSort mValue mFault mWrongAt mPaid mRow mRingMuch mRideSum mOwedSum mAllWays mRode mWays mLanes mSizes mCells mTorn mBefore) (wX8 k mh mrSt mrNow mrIsKept mrDraft mrTape mrRow mrRode mrWays mrLanes mrSizes mrCells mrBefore n_mSt mNow mIsKept mPeople mDraft mDPeople mHasDry mToldDebts mHighest mTape mTaped mPos mBegun mSort mValue mFault mWrongAt mPaid mRow mRingMuch mRideSum mOwedSum mAllWays mRode mWays mLanes mSizes mCells mTorn mBefore) (some (.int r_)) := by
  refine mR_of (cc := cX8_bond) (maxL := 4) (ret := some .int) (by decide) rfl (Nat.le_of_ble_eq_true rfl) [(0, .ref mh), (1, .int p1), (2, .int p2), (3, .int p3)] rfl ?_
  intro p e s m below meth c A ls args Q cx hK hA hw hl hQ
  have fx := cx.1
  obtain ⟨⟨hx, hb, hml, hown, hts⟩, hr, hlocks⟩ := cx
  have q_1 := hts (.constantLong RX8 216 (99)) (List.mem_of_getElem? (i := 1) rfl)
  have h := hf
  unfold f_X8_bond at h
  clear hf
  refine lv_aload_n hx hb dX8_bond_0 rfl (lv_at hl 0 rfl) ?_
  refine lv_iload_n hx hb dX8_bond_1 rfl (lv_at hl 1 rfl) ?_
  refine lv_iload_n hx hb dX8_bond_2 rfl (lv_at hl 2 rfl) ?_
  obtain ⟨r_1, hf, h⟩ := b1_inv h
  refine k_callV (host := "") fx hK hA hw (c_X8_areTwo l D k mh mrSt mrNow mrIsKept mrDraft mrTape mrRow mrRode mrWays mrLanes mrSizes mrCells mrBefore _ mSt mNow mIsKept mPeople mDraft mDPeople mHasDry mToldDebts mHighest mTape mTaped mPos mBegun mSort mValue mFault mWrongAt mPaid mRow mRingMuch mRideSum mOwedSum mAllWays mRode mWays mLanes mSizes mCells mTorn mBefore p1 p2 r_1 hf) (cwV 2 hts gX8_bond_X8_areTwo rfl rfl rfl (by decide +kernel) ⟨by decide, by decide⟩) (As := [.int p1, .int p2]) (wr := []) (ws' := wX8 k mh mrSt mrNow mrIsKept mrDraft mrTape mrRow mrRode mrWays mrLanes mrSizes mrCells mrBefore mSt mNow mIsKept mPeople mDraft mDPeople mHasDry mToldDebts mHighest mTape mTaped mPos mBegun mSort mValue mFault mWrongAt mPaid mRow mRingMuch mRideSum mOwedSum mAllWays mRode mWays mLanes mSizes mCells mTorn mBefore) [0, 1, 2, 3, 4, 5, 6, 7, 8, 9, 10, 11, 12] [] [0, 1, 2, 3, 4, 5, 6, 7, 8, 9, 10, 11, 12] rfl rfl (by decide) (by decide) (by decide) rfl (by decide) 8 rfl rfl [] rfl hl.1 rfl (Nat.le_of_ble_eq_true rfl) dX8_bond_3 ⟨by decide, by decide⟩ (fun H locs (hw : Wd D A s.heap H locs (wX8 k mh mrSt mrNow mrIsKept mrDraft mrTape mrRow mrRode mrWays mrLanes mrSizes mrCells mrBefore mSt mNow mIsKept mPeople mDraft mDPeople mHasDry mToldDebts mHighest mTape mTaped mPos mBegun mSort mValue mFault mWrongAt mPaid mRow mRingMuch mRideSum mOwedSum mAllWays mRode mWays mLanes mSizes mCells mTorn mBefore)) => ?_)
  refine W.eq (g2 := F0 m 6 ls ([.int r_1])) rfl ?_
  refine kb_if_eq (tgt := 37) hx hb dX8_bond_6 (by decide) h (fun c_6 h => ?_) (fun c_6 h => ?_)
  · refine lv_iconst (v := (-1)) hx hb dX8_bond_37 (by decide) ?_
    cases h
    exact k_iret hx hb hr hlocks hw rfl dX8_bond_38 hQ
  · refine lv_iload_n hx hb dX8_bond_9 rfl (lv_at hl 3 rfl) ?_
    refine lv_i2l hx hb dX8_bond_10 rfl ?_
    refine lv_lconst (v := 0) hx hb dX8_bond_11 rfl ?_
    refine lv_ldc2 (v := 99) hx hb hown q_1 dX8_bond_12 ?_
    obtain ⟨r_2, hf, h⟩ := b1_inv h
    refine k_callS (b := 0) (C := "") (host := "") fx hK hA hw (c_X8_in l D k _ p3.toInt64 0 99 r_2 hf) (va_cwS 3 hts gX8_bond_X8_in rfl rfl rfl (by decide +kernel) ⟨by decide, by decide⟩) (As := [.long p3.toInt64, .long 0, .long 99]) (wr := [(mh, .inr (8, [.ref mrSt, .ref mrNow, .ref mrIsKept, .int mPeople, .ref mrDraft, .int mDPeople, .int mHasDry, .int mToldDebts, .int mHighest, .ref mrTape, .int mTaped, .int mPos, .int mBegun, .int mSort, .int mValue, .int mFault, .int mWrongAt, .int mPaid, .ref mrRow, .int mRingMuch, .long mRideSum, .long mOwedSum, .long mAllWays, .ref mrRode, .ref mrWays, .ref mrLanes, .ref mrSizes, .ref mrCells, .int mTorn, .ref mrBefore])), (mrSt, .inl (k 0, 183, .inl mSt)), (mrNow, .inl (k 0, 61, .inl mNow)), (mrIsKept, .inl (k 1, 2, .inl mIsKept)), (mrDraft, .inl (k 0, 61, .inl mDraft)), (mrTape, .inl (k 0, 160, .inl mTape)), (mrRow, .inl (k 0, 5, .inl mRow)), (mrRode, .inl (k 0, 31, .inl mRode)), (mrWays, .inl (k 0, 31, .inl mWays)), (mrLanes, .inl (k 0, 4, .inl mLanes)), (mrSizes, .inl (k 0, 4, .inl mSizes)), (mrCells, .inl (k 0, 160, .inl mCells)), (mrBefore, .inl (k 0, 61, .inl mBefore))]) (ws' := wX8 k mh mrSt mrNow mrIsKept mrDraft mrTape mrRow mrRode mrWays mrLanes mrSizes mrCells mrBefore mSt mNow mIsKept mPeople mDraft mDPeople mHasDry mToldDebts mHighest mTape mTaped mPos mBegun mSort mValue mFault mWrongAt mPaid mRow mRingMuch mRideSum mOwedSum mAllWays mRode mWays mLanes mSizes mCells mTorn mBefore) [] [0, 1, 2, 3, 4, 5, 6, 7, 8, 9, 10, 11, 12] [0, 1, 2, 3, 4, 5, 6, 7, 8, 9, 10, 11, 12] rfl rfl (by decide) (by decide) (by decide) rfl (by decide) [] rfl hl.1 rfl (Nat.le_of_ble_eq_true rfl) dX8_bond_15 ⟨by decide, by decide⟩ (fun H locs (hw : Wd D A s.heap H locs (wX8 k mh mrSt mrNow mrIsKept mrDraft mrTape mrRow mrRode mrWays mrLanes mrSizes mrCells mrBefore mSt mNow mIsKept mPeople mDraft mDPeople mHasDry mToldDebts mHighest mTape mTaped mPos mBegun mSort mValue mFault mWrongAt mPaid mRow mRingMuch mRideSum mOwedSum mAllWays mRode mWays mLanes mSizes mCells mTorn mBefore)) => ?_)
    refine W.eq (g2 := F0 m 18 ls ([.int r_2])) rfl ?_
    refine kb_if_eq (tgt := 37) hx hb dX8_bond_18 (by decide) h (fun c_18 h => ?_) (fun c_18 h => ?_)
    · refine lv_iconst (v := (-1)) hx hb dX8_bond_37 (by decide) ?_
      cases h
      exact k_iret hx hb hr hlocks hw rfl dX8_bond_38 hQ
    · refine lv_aload_n hx hb dX8_bond_21 rfl (lv_at hl 0 rfl) ?_
      refine lv_bipush (v := 15) hx hb dX8_bond_22 (by decide) ?_
      refine lv_iconst (v := 5) hx hb dX8_bond_24 (by decide) ?_
      refine lv_iload_n hx hb dX8_bond_25 rfl (lv_at hl 1 rfl) ?_
      refine lv_imul hx hb dX8_bond_26 ?_
      refine lv_iadd hx hb dX8_bond_27 ?_
      refine lv_iload_n hx hb dX8_bond_28 rfl (lv_at hl 2 rfl) ?_
      refine lv_iadd hx hb dX8_bond_29 ?_
      refine lv_iload_n hx hb dX8_bond_30 rfl (lv_at hl 3 rfl) ?_
      obtain ⟨r_3, mSt_4, hf, h⟩ := b2_inv h
      refine k_callV (host := "") fx hK hA hw (c_X8_becomes l D k mh mrSt mrNow mrIsKept mrDraft mrTape mrRow mrRode mrWays mrLanes mrSizes mrCells mrBefore _ mSt mNow mIsKept mPeople mDraft mDPeople mHasDry mToldDebts mHighest mTape mTaped mPos mBegun mSort mValue mFault mWrongAt mPaid mRow mRingMuch mRideSum mOwedSum mAllWays mRode mWays mLanes mSizes mCells mTorn mBefore ((15 + (5 * p1)) + p2) p3 r_3 mSt_4 hf) (cwV 2 hts gX8_bond_X8_becomes rfl rfl rfl (by decide +kernel) ⟨by decide, by decide⟩) (As := [.int ((15 + (5 * p1)) + p2), .int p3]) (wr := []) (ws' := wX8 k mh mrSt mrNow mrIsKept mrDraft mrTape mrRow mrRode mrWays mrLanes mrSizes mrCells mrBefore mSt_4 mNow mIsKept mPeople mDraft mDPeople mHasDry mToldDebts mHighest mTape mTaped mPos mBegun mSort mValue mFault mWrongAt mPaid mRow mRingMuch mRideSum mOwedSum mAllWays mRode mWays mLanes mSizes mCells mTorn mBefore) [0, 1, 2, 3, 4, 5, 6, 7, 8, 9, 10, 11, 12] [] [0, 1, 2, 3, 4, 5, 6, 7, 8, 9, 10, 11, 12] rfl rfl (by decide) (by decide) (by decide) rfl (by decide) 8 rfl rfl [] rfl hl.1 rfl (Nat.le_of_ble_eq_true rfl) dX8_bond_31 ⟨by decide, by decide⟩ (fun H locs (hw : Wd D A s.heap H locs (wX8 k mh mrSt mrNow mrIsKept mrDraft mrTape mrRow mrRode mrWays mrLanes mrSizes mrCells mrBefore mSt_4 mNow mIsKept mPeople mDraft mDPeople mHasDry mToldDebts mHighest mTape mTaped mPos mBegun mSort mValue mFault mWrongAt mPaid mRow mRingMuch mRideSum mOwedSum mAllWays mRode mWays mLanes mSizes mCells mTorn mBefore)) => ?_)
      refine W.eq (g2 := F0 m 34 ls ([.int r_3])) rfl ?_
      refine lv_goto (tgt := 38) hx hb dX8_bond_34 (by decide) ?_
      cases h
      exact k_iret hx hb hr hlocks hw rfl dX8_bond_38 hQ
abbrev rmX8_byteAt : Room := { frames := 0, cells := 0, slots := 0, locals := 0 }
set_option maxHeartbeats 4000000 in
set_option maxRecDepth 100000 in
theorem c_X8_byteAt (l : Launch) (D : va_G) (k : Nat → ClassId) (mh mrSt mrNow mrIsKept mrDraft mrTape mrRow mrRode mrWays mrLanes mrSizes mrCells mrBefore : Nat) (sz : Nat) (mSt : (Nat → Int32)) (mNow : (Nat → Int32)) (mIsKept : (Nat → Int32)) (mPeople : Int32) (mDraft : (Nat → Int32)) (mDPeople : Int32) (mHasDry : Int32) (mToldDebts : Int32) (mHighest : Int32) (mTape : (Nat → Int32)) (mTaped : Int32) (mPos : Int32) (mBegun : Int32) (mSort : Int32) (mValue : Int32) (mFault : Int32) (mWrongAt : Int32) (mPaid : Int32) (mRow : (Nat → Int32)) (mRingMuch : Int32) (mRideSum : Int64) (mOwedSum : Int64) (mAllWays : Int64) (mRode : (Nat → Int32)) (mWays : (Nat → Int32)) (mLanes : (Nat → Int32)) (mSizes : (Nat → Int32)) (mCells : (Nat → Int32)) (mTorn : Int32) (mBefore : (Nat → Int32)) (p1 : Int32) (r_ : Int32) (hf : f_X8_byteAt mTape mTaped p1 = some r_) : mR l yX8_byteAt wsX8_byteAt rmX8_byteAt D k sz [.ref mh, .int p1] (wX8 k mh mrSt mrNow mrIsKept mrDraft mrTape mrRow mrRode mrWays mrLanes mrSizes mrCells mrBefore mSt mNow mIsKept mPeople mDraft mDPeople mHasDry mToldDebts mHighest mTape mTaped mPos mBegun mSort mValue mFault mWrongAt mPaid mRow mRingMuch mRideSum mOwedSum mAllWays mRode mWays mLanes mSizes mCells mTorn mBefore) (wX8 k mh mrSt mrNow mrIsKept mrDraft mrTape mrRow mrRode mrWays mrLanes mrSizes mrCells mrBefore mSt mNow mIsKept mPeople mDraft mDPeople mHasDry mToldDebts mHighest mTape mTaped mPos mBegun mSort mValue mFault mWrongAt mPaid mRow mRingMuch mRideSum mOwedSum mAllWays mRode mWays mLanes mSizes mCells mTorn mBefore) (some (.int r_)) := by
  refine mR_of (cc := cX8_byteAt) (maxL := 2) (ret := some .int) (by decide) rfl (Nat.le_of_ble_eq_true rfl) [(0, .ref mh), (1, .int p1)] rfl ?_
  intro p e s m below meth c A ls args Q cx hK hA hw hl hQ
  have fx := cx.1
  obtain ⟨⟨hx, hb, hml, hown, hts⟩, hr, hlocks⟩ := cx
  have hinX8 : ∀ w ∈ wsX80, w ∈ wsX8_byteAt := fun w h => List.mem_cons_of_mem _ (List.mem_append_right _ h)
  have q_1 := hts (.fieldLink RX8 76 "DebtRidesModel" "taped" "I") (List.mem_of_getElem? (i := 1) rfl)
  have q_2 := hts (.fieldLink RX8 23 "DebtRidesModel" "tape" "[I") (List.mem_of_getElem? (i := 2) rfl)
  have h := hf
  unfold f_X8_byteAt at h
  clear hf
  refine lv_iload_n hx hb dX8_byteAt_0 rfl (lv_at hl 1 rfl) ?_
  refine lv_aload_n hx hb dX8_byteAt_1 rfl (lv_at hl 0 rfl) ?_
  refine va_get (ci := 8) (v := .int mTaped) (C := RX8) (T := TX8) (N := 30) hx hb hts hinX8 hown hK.1 hw.1 0 rfl rfl 10 (by decide) q_1 (fun _ h9 => h9) rfl dX8_byteAt_2 ?_
  refine kb_icmp_ge (tgt := 17) hx hb dX8_byteAt_5 (by decide) h (fun c_5 h => ?_) (fun c_5 h => ?_)
  · refine lv_iconst (v := (-1)) hx hb dX8_byteAt_17 (by decide) ?_
    cases h
    exact k_iret hx hb hr hlocks hw rfl dX8_byteAt_18 hQ
  · refine lv_aload_n hx hb dX8_byteAt_8 rfl (lv_at hl 0 rfl) ?_
    refine va_get (ci := 8) (v := .ref mrTape) (C := RX8) (T := TX8) (N := 30) hx hb hts hinX8 hown hK.1 hw.1 0 rfl rfl 9 (by decide) q_2 (fun _ h9 => h9) rfl dX8_byteAt_9 ?_
    refine lv_iload_n hx hb dX8_byteAt_12 rfl (lv_at hl 1 rfl) ?_
    refine k_iald hx hb hK hw 5 rfl dX8_byteAt_13 h (fun a_1 h => ?_)
    refine lv_goto (tgt := 18) hx hb dX8_byteAt_14 (by decide) ?_
    cases h
    exact k_iret hx hb hr hlocks hw rfl dX8_byteAt_18 hQ
abbrev rmX8_clears : Room := { frames := 1, cells := 0, slots := 0, locals := 22 }
set_option maxHeartbeats 4000000 in
set_option maxRecDepth 100000 in
theorem c_X8_clears (l : Launch) (D : va_G) (k : Nat → ClassId) (mh mrSt mrNow mrIsKept mrDraft mrTape mrRow mrRode mrWays mrLanes mrSizes mrCells mrBefore : Nat) (sz : Nat) (mSt : (Nat → Int32)) (mNow : (Nat → Int32)) (mIsKept : (Nat → Int32)) (mPeople : Int32) (mDraft : (Nat → Int32)) (mDPeople : Int32) (mHasDry : Int32) (mToldDebts : Int32) (mHighest : Int32) (mTape : (Nat → Int32)) (mTaped : Int32) (mPos : Int32) (mBegun : Int32) (mSort : Int32) (mValue : Int32) (mFault : Int32) (mWrongAt : Int32) (mPaid : Int32) (mRow : (Nat → Int32)) (mRingMuch : Int32) (mRideSum : Int64) (mOwedSum : Int64) (mAllWays : Int64) (mRode : (Nat → Int32)) (mWays : (Nat → Int32)) (mLanes : (Nat → Int32)) (mSizes : (Nat → Int32)) (mCells : (Nat → Int32)) (mTorn : Int32) (mBefore : (Nat → Int32)) (p1 : Int32) (p2 : Int32) (r_ : Int32) (n_mRow : (Nat → Int32)) (hf : f_X8_clears mNow mPeople mRow p1 p2 = some (r_, n_mRow)) : mR l yX8_clears wsX8_clears rmX8_clears D k sz [.ref mh, .int p1, .int p2] (wX8 k mh mrSt mrNow mrIsKept mrDraft mrTape mrRow mrRode mrWays mrLanes mrSizes mrCells mrBefore mSt mNow mIsKept mPeople mDraft mDPeople mHasDry mToldDebts mHighest mTape mTaped mPos mBegun mSort mValue mFault mWrongAt mPaid mRow mRingMuch mRideSum mOwedSum mAllWays mRode mWays mLanes mSizes mCells mTorn mBefore) (wX8 k mh mrSt mrNow mrIsKept mrDraft mrTape mrRow mrRode mrWays mrLanes mrSizes mrCells mrBefore mSt mNow mIsKept mPeople mDraft mDPeople mHasDry mToldDebts mHighest mTape mTaped mPos mBegun mSort mValue mFault mWrongAt mPaid n_mRow mRingMuch mRideSum mOwedSum mAllWays mRode mWays mLanes mSizes mCells mTorn mBefore) (some (.int r_)) := by
  refine mR_of (cc := cX8_clears) (maxL := 8) (ret := some .int) (by decide) rfl (Nat.le_of_ble_eq_true rfl) [(0, .ref mh), (1, .int p1), (2, .int p2)] rfl ?_
  intro p e s m below meth c A ls args Q cx hK hA hw hl hQ
  have fx := cx.1
  obtain ⟨⟨hx, hb, hml, hown, hts⟩, hr, hlocks⟩ := cx
  have hinX8 : ∀ w ∈ wsX80, w ∈ wsX8_clears := fun w h => List.mem_cons_of_mem _ (List.mem_append_right _ h)
  have q_1 := hts (.fieldLink RX8 26 "DebtRidesModel" "row" "[I") (List.mem_of_getElem? (i := 1) rfl)
  have q_2 := hts (.fieldLink RX8 67 "DebtRidesModel" "people" "I") (List.mem_of_getElem? (i := 2) rfl)
  have h := hf
  unfold f_X8_clears at h
  clear hf
  refine lv_iload_n hx hb dX8_clears_0 rfl (lv_at hl 1 rfl) ?_
  refine lv_istore_n (lv' := [(3, .int p1), (0, .ref mh), (1, .int p1), (2, .int p2)]) hx hb dX8_clears_1 rfl hl (by decide) rfl (fun ls hl => ?_)
  refine lv_iconst (v := 0) hx hb dX8_clears_2 (by decide) ?_
  refine lv_istore (lv' := [(4, .int 0), (3, .int p1), (0, .ref mh), (1, .int p1), (2, .int p2)]) hx hb dX8_clears_3 hl (by decide) rfl (fun ls hl => ?_)
  refine lv_iconst (v := 1) hx hb dX8_clears_5 (by decide) ?_
  refine lv_istore (lv' := [(5, .int 1), (4, .int 0), (3, .int p1), (0, .ref mh), (1, .int p1), (2, .int p2)]) hx hb dX8_clears_6 hl (by decide) rfl (fun ls hl => ?_)
  refine lv_iload_n hx hb dX8_clears_8 rfl (lv_at hl 5 rfl) ?_
  refine lv_iconst (v := 1) hx hb dX8_clears_9 (by decide) ?_
  refine lv_isub hx hb dX8_clears_10 ?_
  refine lv_istore (lv' := [(6, .int (p2 - 1)), (5, .int 1), (4, .int 0), (3, .int p1), (0, .ref mh), (1, .int p1), (2, .int p2)]) hx hb dX8_clears_11 hl (by decide) rfl (fun ls hl => ?_)
  obtain ⟨v5_6, mRow_7, hL_13, h⟩ := b2_inv h
  have X_13 : ∀ (H : Heap) (locs : List Loc) (ls : Array Slot), Wd D A s.heap H locs (wX8 k mh mrSt mrNow mrIsKept mrDraft mrTape mrRow mrRode mrWays mrLanes mrSizes mrCells mrBefore mSt mNow mIsKept mPeople mDraft mDPeople mHasDry mToldDebts mHighest mTape mTaped mPos mBegun mSort mValue mFault mWrongAt mPaid mRow_7 mRingMuch mRideSum mOwedSum mAllWays mRode mWays mLanes mSizes mCells mTorn mBefore) → lv_has ls 8 [(0, .ref mh), (2, .int p2), (5, .int v5_6)] → W p l e rmX8_clears s m args below meth c H locs 0 0 Q (F0 m 85 ls []) := by
    intro H locs ls hw hl
    refine lv_bipush (v := 100) hx hb dX8_clears_85 (by decide) ?_
    refine lv_istore (lv' := [(6, .int 100), (0, .ref mh), (2, .int p2), (5, .int v5_6)]) hx hb dX8_clears_87 hl (by decide) rfl (fun ls hl => ?_)
    refine lv_iconst (v := 0) hx hb dX8_clears_89 (by decide) ?_
    refine lv_istore (lv' := [(7, .int 0), (6, .int 100), (0, .ref mh), (2, .int p2), (5, .int v5_6)]) hx hb dX8_clears_90 hl (by decide) rfl (fun ls hl => ?_)
    obtain ⟨v5_15, v6_16, hL_92, h⟩ := b2_inv h
    have X_92 : ∀ (H : Heap) (locs : List Loc) (ls : Array Slot), Wd D A s.heap H locs (wX8 k mh mrSt mrNow mrIsKept mrDraft mrTape mrRow mrRode mrWays mrLanes mrSizes mrCells mrBefore mSt mNow mIsKept mPeople mDraft mDPeople mHasDry mToldDebts mHighest mTape mTaped mPos mBegun mSort mValue mFault mWrongAt mPaid mRow_7 mRingMuch mRideSum mOwedSum mAllWays mRode mWays mLanes mSizes mCells mTorn mBefore) → lv_has ls 8 [(5, .int v5_15), (6, .int v6_16)] → W p l e rmX8_clears s m args below meth c H locs 0 0 Q (F0 m 161 ls []) := by
      intro H locs ls hw hl
      refine lv_iload hx hb dX8_clears_161 (lv_at hl 0 rfl) ?_
      refine kb_if_eq (tgt := 171) hx hb dX8_clears_163 (by decide) h (fun c_163 h => ?_) (fun c_163 h => ?_)
      · refine lv_iconst (v := 0) hx hb dX8_clears_171 (by decide) ?_
        cases h
        exact k_iret hx hb hr hlocks hw rfl dX8_clears_172 hQ
      · refine lv_iload hx hb dX8_clears_166 (lv_at hl 1 rfl) ?_
        refine lv_goto (tgt := 172) hx hb dX8_clears_168 (by decide) ?_
        cases h
        exact k_iret hx hb hr hlocks hw rfl dX8_clears_172 hQ
    clear h
    have LP_92 : ∀ (n : Nat) (v5_12 : Int32) (v6_13 : Int32) (v7_14 : Int32), f_X8_clears_L92 mNow p2 mRow_7 n v5_12 v6_13 v7_14 = some (v5_15, v6_16) → ∀ (H : Heap) (locs : List Loc) (ls : Array Slot), Wd D A s.heap H locs (wX8 k mh mrSt mrNow mrIsKept mrDraft mrTape mrRow mrRode mrWays mrLanes mrSizes mrCells mrBefore mSt mNow mIsKept mPeople mDraft mDPeople mHasDry mToldDebts mHighest mTape mTaped mPos mBegun mSort mValue mFault mWrongAt mPaid mRow_7 mRingMuch mRideSum mOwedSum mAllWays mRode mWays mLanes mSizes mCells mTorn mBefore) → lv_has ls 8 [(0, .ref mh), (2, .int p2), (5, .int v5_12), (6, .int v6_13), (7, .int v7_14)] → W p l e rmX8_clears s m args below meth c H locs 0 0 Q (F0 m 92 ls []) := by
      clear hL_92 hw hl
      intro n
      induction n with
      | zero => intro v5_12 v6_13 v7_14 h; rw [f_X8_clears_L92] at h; cases h
      | succ n ih =>
        intro v5_12 v6_13 v7_14 h H locs ls hw hl
        rw [f_X8_clears_L92] at h
        refine lv_iload hx hb dX8_clears_92 (lv_at hl 4 rfl) ?_
        refine lv_iload_n hx hb dX8_clears_94 rfl (lv_at hl 1 rfl) ?_
        refine kb_icmp_ge (tgt := 161) hx hb dX8_clears_95 (by decide) h (fun c_95 h => ?_) (fun c_95 h => ?_)
        · cases h
          exact X_92 _ _ _ hw (lv_sub hl [2, 3] rfl)
        · refine lv_iload hx hb dX8_clears_98 (lv_at hl 2 rfl) ?_
          obtain ⟨t_17, hj_100, h⟩ := b1_inv h
          have J_100 : ∀ (H : Heap) (locs : List Loc) (ls : Array Slot), Wd D A s.heap H locs (wX8 k mh mrSt mrNow mrIsKept mrDraft mrTape mrRow mrRode mrWays mrLanes mrSizes mrCells mrBefore mSt mNow mIsKept mPeople mDraft mDPeople mHasDry mToldDebts mHighest mTape mTaped mPos mBegun mSort mValue mFault mWrongAt mPaid mRow_7 mRingMuch mRideSum mOwedSum mAllWays mRode mWays mLanes mSizes mCells mTorn mBefore) → lv_has ls 8 [(0, .ref mh), (2, .int p2), (6, .int v6_13), (7, .int v7_14)] → W p l e rmX8_clears s m args below meth c H locs 0 0 Q (F0 m 124 ls [.int t_17]) := by
            intro H locs ls hw hl
            refine lv_istore (lv' := [(5, .int t_17), (0, .ref mh), (2, .int p2), (6, .int v6_13), (7, .int v7_14)]) hx hb dX8_clears_124 hl (by decide) rfl (fun ls hl => ?_)
            refine lv_iload hx hb dX8_clears_126 (lv_at hl 3 rfl) ?_
            refine lv_aload_n hx hb dX8_clears_128 rfl (lv_at hl 1 rfl) ?_
            refine lv_aload_n hx hb dX8_clears_129 rfl (lv_at hl 1 rfl) ?_
            refine va_get (ci := 8) (v := .ref mrRow) (C := RX8) (T := TX8) (N := 30) hx hb hts hinX8 hown hK.1 hw.1 0 rfl rfl 18 (by decide) q_1 (fun _ h9 => h9) rfl dX8_clears_130 ?_
            refine lv_iload hx hb dX8_clears_133 (lv_at hl 4 rfl) ?_
            refine k_iald hx hb hK hw 6 rfl dX8_clears_135 h (fun a_20 h => ?_)
            refine lv_aload_n hx hb dX8_clears_136 rfl (lv_at hl 1 rfl) ?_
            refine va_get (ci := 8) (v := .ref mrRow) (C := RX8) (T := TX8) (N := 30) hx hb hts hinX8 hown hK.1 hw.1 0 rfl rfl 18 (by decide) q_1 (fun _ h9 => h9) rfl dX8_clears_137 ?_
            refine lv_iload hx hb dX8_clears_140 (lv_at hl 4 rfl) ?_
            refine lv_iconst (v := 1) hx hb dX8_clears_142 (by decide) ?_
            refine lv_iadd hx hb dX8_clears_143 ?_
            refine lv_iload_n hx hb dX8_clears_144 rfl (lv_at hl 2 rfl) ?_
            refine k_irem hx hb dX8_clears_145 h (fun h => ?_)
            refine k_iald hx hb hK hw 6 rfl dX8_clears_146 h (fun a_21 h => ?_)
            obtain ⟨r_22, hf, h⟩ := b1_inv h
            refine k_callV (host := "") fx hK hA hw (c_X8_debt l D k mh mrSt mrNow mrIsKept mrDraft mrTape mrRow mrRode mrWays mrLanes mrSizes mrCells mrBefore _ mSt mNow mIsKept mPeople mDraft mDPeople mHasDry mToldDebts mHighest mTape mTaped mPos mBegun mSort mValue mFault mWrongAt mPaid mRow_7 mRingMuch mRideSum mOwedSum mAllWays mRode mWays mLanes mSizes mCells mTorn mBefore a_20 a_21 r_22 hf) (cwV 2 hts gX8_clears_X8_debt rfl rfl rfl (by decide +kernel) ⟨by decide, by decide⟩) (As := [.int a_20, .int a_21]) (wr := []) (ws' := wX8 k mh mrSt mrNow mrIsKept mrDraft mrTape mrRow mrRode mrWays mrLanes mrSizes mrCells mrBefore mSt mNow mIsKept mPeople mDraft mDPeople mHasDry mToldDebts mHighest mTape mTaped mPos mBegun mSort mValue mFault mWrongAt mPaid mRow_7 mRingMuch mRideSum mOwedSum mAllWays mRode mWays mLanes mSizes mCells mTorn mBefore) [0, 1, 2, 3, 4, 5, 6, 7, 8, 9, 10, 11, 12] [] [0, 1, 2, 3, 4, 5, 6, 7, 8, 9, 10, 11, 12] rfl rfl (by decide) (by decide) (by decide) rfl (by decide) 8 rfl rfl [.int v6_13] rfl hl.1 rfl (Nat.le_of_ble_eq_true rfl) dX8_clears_147 ⟨by decide, by decide⟩ (fun H locs (hw : Wd D A s.heap H locs (wX8 k mh mrSt mrNow mrIsKept mrDraft mrTape mrRow mrRode mrWays mrLanes mrSizes mrCells mrBefore mSt mNow mIsKept mPeople mDraft mDPeople mHasDry mToldDebts mHighest mTape mTaped mPos mBegun mSort mValue mFault mWrongAt mPaid mRow_7 mRingMuch mRideSum mOwedSum mAllWays mRode mWays mLanes mSizes mCells mTorn mBefore)) => ?_)
            refine W.eq (g2 := F0 m 150 ls ([.int r_22, .int v6_13])) rfl ?_
            obtain ⟨r_23, hf, h⟩ := b1_inv h
            refine k_callS (b := 0) (C := "") (host := "") fx hK hA hw (c_X8_lesser l D k _ v6_13 r_22 r_23 hf) (va_cwS 2 hts gX8_clears_X8_lesser rfl rfl rfl (by decide +kernel) ⟨by decide, by decide⟩) (As := [.int v6_13, .int r_22]) (wr := [(mh, .inr (8, [.ref mrSt, .ref mrNow, .ref mrIsKept, .int mPeople, .ref mrDraft, .int mDPeople, .int mHasDry, .int mToldDebts, .int mHighest, .ref mrTape, .int mTaped, .int mPos, .int mBegun, .int mSort, .int mValue, .int mFault, .int mWrongAt, .int mPaid, .ref mrRow, .int mRingMuch, .long mRideSum, .long mOwedSum, .long mAllWays, .ref mrRode, .ref mrWays, .ref mrLanes, .ref mrSizes, .ref mrCells, .int mTorn, .ref mrBefore])), (mrSt, .inl (k 0, 183, .inl mSt)), (mrNow, .inl (k 0, 61, .inl mNow)), (mrIsKept, .inl (k 1, 2, .inl mIsKept)), (mrDraft, .inl (k 0, 61, .inl mDraft)), (mrTape, .inl (k 0, 160, .inl mTape)), (mrRow, .inl (k 0, 5, .inl mRow_7)), (mrRode, .inl (k 0, 31, .inl mRode)), (mrWays, .inl (k 0, 31, .inl mWays)), (mrLanes, .inl (k 0, 4, .inl mLanes)), (mrSizes, .inl (k 0, 4, .inl mSizes)), (mrCells, .inl (k 0, 160, .inl mCells)), (mrBefore, .inl (k 0, 61, .inl mBefore))]) (ws' := wX8 k mh mrSt mrNow mrIsKept mrDraft mrTape mrRow mrRode mrWays mrLanes mrSizes mrCells mrBefore mSt mNow mIsKept mPeople mDraft mDPeople mHasDry mToldDebts mHighest mTape mTaped mPos mBegun mSort mValue mFault mWrongAt mPaid mRow_7 mRingMuch mRideSum mOwedSum mAllWays mRode mWays mLanes mSizes mCells mTorn mBefore) [] [0, 1, 2, 3, 4, 5, 6, 7, 8, 9, 10, 11, 12] [0, 1, 2, 3, 4, 5, 6, 7, 8, 9, 10, 11, 12] rfl rfl (by decide) (by decide) (by decide) rfl (by decide) [] rfl hl.1 rfl (Nat.le_of_ble_eq_true rfl) dX8_clears_150 ⟨by decide, by decide⟩ (fun H locs (hw : Wd D A s.heap H locs (wX8 k mh mrSt mrNow mrIsKept mrDraft mrTape mrRow mrRode mrWays mrLanes mrSizes mrCells mrBefore mSt mNow mIsKept mPeople mDraft mDPeople mHasDry mToldDebts mHighest mTape mTaped mPos mBegun mSort mValue mFault mWrongAt mPaid mRow_7 mRingMuch mRideSum mOwedSum mAllWays mRode mWays mLanes mSizes mCells mTorn mBefore)) => ?_)
            refine W.eq (g2 := F0 m 153 ls ([.int r_23])) rfl ?_
            refine lv_istore (lv' := [(6, .int r_23), (5, .int t_17), (0, .ref mh), (2, .int p2), (7, .int v7_14)]) hx hb dX8_clears_153 hl (by decide) rfl (fun ls hl => ?_)
            refine lv_iinc (v := v7_14 + 1) (lv' := [(7, .int (v7_14 + 1)), (6, .int r_23), (5, .int t_17), (0, .ref mh), (2, .int p2)]) hx hb dX8_clears_155 hl (k := 4) rfl rfl (by decide) rfl (fun ls hl => ?_)
            refine lv_goto (tgt := 92) hx hb dX8_clears_158 (by decide) ?_
            exact ih _ _ _ h _ _ _ hw (lv_sub hl [3, 4, 2, 1, 0] rfl)
          clear h
          have h := hj_100
          refine kb_if_eq (tgt := 123) hx hb dX8_clears_100 (by decide) h (fun c_100 h => ?_) (fun c_100 h => ?_)
          · refine lv_iconst (v := 0) hx hb dX8_clears_123 (by decide) ?_
            cases h
            exact J_100 _ _ _ hw (lv_sub hl [0, 1, 3, 4] rfl)
          · refine lv_aload_n hx hb dX8_clears_103 rfl (lv_at hl 0 rfl) ?_
            refine va_get (ci := 8) (v := .ref mrRow) (C := RX8) (T := TX8) (N := 30) hx hb hts hinX8 hown hK.1 hw.1 0 rfl rfl 18 (by decide) q_1 (fun _ h9 => h9) rfl dX8_clears_104 ?_
            refine lv_iload hx hb dX8_clears_107 (lv_at hl 4 rfl) ?_
            refine k_iald hx hb hK hw 6 rfl dX8_clears_109 h (fun a_18 h => ?_)
            refine lv_aload_n hx hb dX8_clears_110 rfl (lv_at hl 0 rfl) ?_
            refine va_get (ci := 8) (v := .ref mrRow) (C := RX8) (T := TX8) (N := 30) hx hb hts hinX8 hown hK.1 hw.1 0 rfl rfl 18 (by decide) q_1 (fun _ h9 => h9) rfl dX8_clears_111 ?_
            refine lv_iconst (v := 0) hx hb dX8_clears_114 (by decide) ?_
            refine k_iald hx hb hK hw 6 rfl dX8_clears_115 h (fun a_19 h => ?_)
            refine kb_icmp_lt (tgt := 123) hx hb dX8_clears_116 (by decide) h (fun c_116 h => ?_) (fun c_116 h => ?_)
            · refine lv_iconst (v := 0) hx hb dX8_clears_123 (by decide) ?_
              cases h
              exact J_100 _ _ _ hw (lv_sub hl [0, 1, 3, 4] rfl)
            · refine lv_iconst (v := 1) hx hb dX8_clears_119 (by decide) ?_
              refine lv_goto (tgt := 124) hx hb dX8_clears_120 (by decide) ?_
              cases h
              exact J_100 _ _ _ hw (lv_sub hl [0, 1, 3, 4] rfl)
    exact LP_92 400 v5_6 100 0 hL_92 _ _ _ hw (lv_sub hl [2, 3, 4, 1, 0] rfl)
  clear h
  have LP_13 : ∀ (n : Nat) (v3_1 : Int32) (v4_2 : Int32) (v5_3 : Int32) (v6_4 : Int32) (mRow_5 : (Nat → Int32)), f_X8_clears_L13 mPeople n v3_1 v4_2 v5_3 v6_4 mRow_5 = some (v5_6, mRow_7) → ∀ (H : Heap) (locs : List Loc) (ls : Array Slot), Wd D A s.heap H locs (wX8 k mh mrSt mrNow mrIsKept mrDraft mrTape mrRow mrRode mrWays mrLanes mrSizes mrCells mrBefore mSt mNow mIsKept mPeople mDraft mDPeople mHasDry mToldDebts mHighest mTape mTaped mPos mBegun mSort mValue mFault mWrongAt mPaid mRow_5 mRingMuch mRideSum mOwedSum mAllWays mRode mWays mLanes mSizes mCells mTorn mBefore) → lv_has ls 8 [(0, .ref mh), (2, .int p2), (3, .int v3_1), (4, .int v4_2), (5, .int v5_3), (6, .int v6_4)] → W p l e rmX8_clears s m args below meth c H locs 0 0 Q (F0 m 13 ls []) := by
    clear hL_13 hw hl
    intro n
    induction n with
    | zero => intro v3_1 v4_2 v5_3 v6_4 mRow_5 h; rw [f_X8_clears_L13] at h; cases h
    | succ n ih =>
      intro v3_1 v4_2 v5_3 v6_4 mRow_5 h H locs ls hw hl
      rw [f_X8_clears_L13] at h
      refine lv_iload hx hb dX8_clears_13 (lv_at hl 5 rfl) ?_
      refine kb_if_lt (tgt := 85) hx hb dX8_clears_15 (by decide) h (fun c_15 h => ?_) (fun c_15 h => ?_)
      · cases h
        exact X_13 _ _ _ hw (lv_sub hl [0, 1, 4] rfl)
      · refine lv_aload_n hx hb dX8_clears_18 rfl (lv_at hl 0 rfl) ?_
        refine va_get (ci := 8) (v := .ref mrRow) (C := RX8) (T := TX8) (N := 30) hx hb hts hinX8 hown hK.1 hw.1 0 rfl rfl 18 (by decide) q_1 (fun _ h9 => h9) rfl dX8_clears_19 ?_
        refine lv_iload hx hb dX8_clears_22 (lv_at hl 5 rfl) ?_
        refine lv_iload_n hx hb dX8_clears_24 rfl (lv_at hl 2 rfl) ?_
        refine lv_aload_n hx hb dX8_clears_25 rfl (lv_at hl 0 rfl) ?_
        refine va_get (ci := 8) (v := .int mPeople) (C := RX8) (T := TX8) (N := 30) hx hb hts hinX8 hown hK.1 hw.1 0 rfl rfl 3 (by decide) q_2 (fun _ h9 => h9) rfl dX8_clears_26 ?_
        refine k_irem hx hb dX8_clears_29 h (fun h => ?_)
        refine k_iast hx hb hK hw 6 rfl dX8_clears_30 h (fun mRow_8 h H locs (hw : Wd D A s.heap H locs (wX8 k mh mrSt mrNow mrIsKept mrDraft mrTape mrRow mrRode mrWays mrLanes mrSizes mrCells mrBefore mSt mNow mIsKept mPeople mDraft mDPeople mHasDry mToldDebts mHighest mTape mTaped mPos mBegun mSort mValue mFault mWrongAt mPaid mRow_8 mRingMuch mRideSum mOwedSum mAllWays mRode mWays mLanes mSizes mCells mTorn mBefore)) => ?_)
        refine lv_iload_n hx hb dX8_clears_31 rfl (lv_at hl 2 rfl) ?_
        refine lv_aload_n hx hb dX8_clears_32 rfl (lv_at hl 0 rfl) ?_
        refine va_get (ci := 8) (v := .int mPeople) (C := RX8) (T := TX8) (N := 30) hx hb hts hinX8 hown hK.1 hw.1 0 rfl rfl 3 (by decide) q_2 (fun _ h9 => h9) rfl dX8_clears_33 ?_
        refine k_idiv hx hb dX8_clears_36 h (fun h => ?_)
        refine lv_istore_n (lv' := [(3, .int (v3_1 / mPeople)), (0, .ref mh), (2, .int p2), (4, .int v4_2), (5, .int v5_3), (6, .int v6_4)]) hx hb dX8_clears_37 rfl hl (by decide) rfl (fun ls hl => ?_)
        refine lv_iload hx hb dX8_clears_38 (lv_at hl 4 rfl) ?_
        obtain ⟨t_9, hj_40, h⟩ := b1_inv h
        have J_40 : ∀ (H : Heap) (locs : List Loc) (ls : Array Slot), Wd D A s.heap H locs (wX8 k mh mrSt mrNow mrIsKept mrDraft mrTape mrRow mrRode mrWays mrLanes mrSizes mrCells mrBefore mSt mNow mIsKept mPeople mDraft mDPeople mHasDry mToldDebts mHighest mTape mTaped mPos mBegun mSort mValue mFault mWrongAt mPaid mRow_8 mRingMuch mRideSum mOwedSum mAllWays mRode mWays mLanes mSizes mCells mTorn mBefore) → lv_has ls 8 [(0, .ref mh), (2, .int p2), (3, .int (v3_1 / mPeople)), (4, .int v4_2), (6, .int v6_4)] → W p l e rmX8_clears s m args below meth c H locs 0 0 Q (F0 m 63 ls [.int t_9]) := by
          intro H locs ls hw hl
          refine lv_istore (lv' := [(5, .int t_9), (0, .ref mh), (2, .int p2), (3, .int (v3_1 / mPeople)), (4, .int v4_2), (6, .int v6_4)]) hx hb dX8_clears_63 hl (by decide) rfl (fun ls hl => ?_)
          refine lv_iload hx hb dX8_clears_65 (lv_at hl 4 rfl) ?_
          refine lv_iconst (v := 1) hx hb dX8_clears_67 (by decide) ?_
          refine lv_aload_n hx hb dX8_clears_68 rfl (lv_at hl 1 rfl) ?_
          refine va_get (ci := 8) (v := .ref mrRow) (C := RX8) (T := TX8) (N := 30) hx hb hts hinX8 hown hK.1 hw.1 0 rfl rfl 18 (by decide) q_1 (fun _ h9 => h9) rfl dX8_clears_69 ?_
          refine lv_iload hx hb dX8_clears_72 (lv_at hl 5 rfl) ?_
          refine k_iald hx hb hK hw 6 rfl dX8_clears_74 h (fun a_11 h => ?_)
          refine lv_ishl hx hb dX8_clears_75 ?_
          refine lv_ior hx hb dX8_clears_76 ?_
          refine lv_istore (lv' := [(4, .int (v4_2 ||| ((1 : Int32) <<< (a_11 &&& 31)))), (5, .int t_9), (0, .ref mh), (2, .int p2), (3, .int (v3_1 / mPeople)), (6, .int v6_4)]) hx hb dX8_clears_77 hl (by decide) rfl (fun ls hl => ?_)
          refine lv_iinc (v := v6_4 + (-1)) (lv' := [(6, .int (v6_4 + (-1))), (4, .int (v4_2 ||| ((1 : Int32) <<< (a_11 &&& 31)))), (5, .int t_9), (0, .ref mh), (2, .int p2), (3, .int (v3_1 / mPeople))]) hx hb dX8_clears_79 hl (k := 5) rfl rfl (by decide) rfl (fun ls hl => ?_)
          refine lv_goto (tgt := 13) hx hb dX8_clears_82 (by decide) ?_
          exact ih _ _ _ _ _ h _ _ _ hw (lv_sub hl [3, 4, 5, 1, 2, 0] rfl)
        clear h
        have h := hj_40
        refine kb_if_eq (tgt := 62) hx hb dX8_clears_40 (by decide) h (fun c_40 h => ?_) (fun c_40 h => ?_)
        · refine lv_iconst (v := 0) hx hb dX8_clears_62 (by decide) ?_
          cases h
          exact J_40 _ _ _ hw (lv_sub hl [1, 2, 0, 3, 5] rfl)
        · refine lv_iload hx hb dX8_clears_43 (lv_at hl 3 rfl) ?_
          refine lv_aload_n hx hb dX8_clears_45 rfl (lv_at hl 1 rfl) ?_
          refine va_get (ci := 8) (v := .ref mrRow) (C := RX8) (T := TX8) (N := 30) hx hb hts hinX8 hown hK.1 hw.1 0 rfl rfl 18 (by decide) q_1 (fun _ h9 => h9) rfl dX8_clears_46 ?_
          refine lv_iload hx hb dX8_clears_49 (lv_at hl 5 rfl) ?_
          refine k_iald hx hb hK hw 6 rfl dX8_clears_51 h (fun a_10 h => ?_)
          refine lv_ishr hx hb dX8_clears_52 ?_
          refine lv_iconst (v := 1) hx hb dX8_clears_53 (by decide) ?_
          refine lv_iand hx hb dX8_clears_54 ?_
          refine kb_if_ne (tgt := 62) hx hb dX8_clears_55 (by decide) h (fun c_55 h => ?_) (fun c_55 h => ?_)
          · refine lv_iconst (v := 1) hx hb dX8_clears_58 (by decide) ?_
            refine lv_goto (tgt := 63) hx hb dX8_clears_59 (by decide) ?_
            cases h
            exact J_40 _ _ _ hw (lv_sub hl [1, 2, 0, 3, 5] rfl)
          · refine lv_iconst (v := 0) hx hb dX8_clears_62 (by decide) ?_
            cases h
            exact J_40 _ _ _ hw (lv_sub hl [1, 2, 0, 3, 5] rfl)
  exact LP_13 400 p1 0 1 (p2 - 1) mRow hL_13 _ _ _ hw (lv_sub hl [4, 6, 3, 2, 1, 0] rfl)
abbrev rmX8_findRing : Room := { frames := 2, cells := 0, slots := 0, locals := 49 }
set_option maxHeartbeats 4000000 in
set_option maxRecDepth 100000 in
theorem c_X8_findRing (l : Launch) (D : va_G) (k : Nat → ClassId) (mh mrSt mrNow mrIsKept mrDraft mrTape mrRow mrRode mrWays mrLanes mrSizes mrCells mrBefore : Nat) (sz : Nat) (mSt : (Nat → Int32)) (mNow : (Nat → Int32)) (mIsKept : (Nat → Int32)) (mPeople : Int32) (mDraft : (Nat → Int32)) (mDPeople : Int32) (mHasDry : Int32) (mToldDebts : Int32) (mHighest : Int32) (mTape : (Nat → Int32)) (mTaped : Int32) (mPos : Int32) (mBegun : Int32) (mSort : Int32) (mValue : Int32) (mFault : Int32) (mWrongAt : Int32) (mPaid : Int32) (mRow : (Nat → Int32)) (mRingMuch : Int32) (mRideSum : Int64) (mOwedSum : Int64) (mAllWays : Int64) (mRode : (Nat → Int32)) (mWays : (Nat → Int32)) (mLanes : (Nat → Int32)) (mSizes : (Nat → Int32)) (mCells : (Nat → Int32)) (mTorn : Int32) (mBefore : (Nat → Int32)) (r_ : Int32) (n_mRow : (Nat → Int32)) (n_mRingMuch : Int32) (hf : f_X8_findRing mNow mPeople mRow mRingMuch = some (r_, n_mRow, n_mRingMuch)) : mR l yX8_findRing wsX8_findRing rmX8_findRing D k sz [.ref mh] (wX8 k mh mrSt mrNow mrIsKept mrDraft mrTape mrRow mrRode mrWays mrLanes mrSizes mrCells mrBefore mSt mNow mIsKept mPeople mDraft mDPeople mHasDry mToldDebts mHighest mTape mTaped mPos mBegun mSort mValue mFault mWrongAt mPaid mRow mRingMuch mRideSum mOwedSum mAllWays mRode mWays mLanes mSizes mCells mTorn mBefore) (wX8 k mh mrSt mrNow mrIsKept mrDraft mrTape mrRow mrRode mrWays mrLanes mrSizes mrCells mrBefore mSt mNow mIsKept mPeople mDraft mDPeople mHasDry mToldDebts mHighest mTape mTaped mPos mBegun mSort mValue mFault mWrongAt mPaid n_mRow n_mRingMuch mRideSum mOwedSum mAllWays mRode mWays mLanes mSizes mCells mTorn mBefore) (some (.int r_)) := by
  refine mR_of (cc := cX8_findRing) (maxL := 4) (ret := some .int) (by decide) rfl (Nat.le_of_ble_eq_true rfl) [(0, .ref mh)] rfl ?_
  intro p e s m below meth c A ls args Q cx hK hA hw hl hQ
  have fx := cx.1
  obtain ⟨⟨hx, hb, hml, hown, hts⟩, hr, hlocks⟩ := cx
  have hinX8 : ∀ w ∈ wsX80, w ∈ wsX8_findRing := fun w h => List.mem_cons_of_mem _ (List.mem_append_right _ h)
  have q_1 := hts (.fieldLink RX8 67 "DebtRidesModel" "people" "I") (List.mem_of_getElem? (i := 1) rfl)
  have q_2 := hts (.fieldLink RX8 245 "DebtRidesModel" "ringMuch" "I") (List.mem_of_getElem? (i := 2) rfl)
  have h := hf
  unfold f_X8_findRing at h
  clear hf
  refine lv_aload_n hx hb dX8_findRing_0 rfl (lv_at hl 0 rfl) ?_
  refine va_get (ci := 8) (v := .int mPeople) (C := RX8) (T := TX8) (N := 30) hx hb hts hinX8 hown hK.1 hw.1 0 rfl rfl 3 (by decide) q_1 (fun _ h9 => h9) rfl dX8_findRing_1 ?_
  refine lv_istore_n (lv' := [(1, .int mPeople), (0, .ref mh)]) hx hb dX8_findRing_4 rfl hl (by decide) rfl (fun ls hl => ?_)
  refine lv_iconst (v := 2) hx hb dX8_findRing_5 (by decide) ?_
  refine lv_istore_n (lv' := [(2, .int 2), (1, .int mPeople), (0, .ref mh)]) hx hb dX8_findRing_6 rfl hl (by decide) rfl (fun ls hl => ?_)
  obtain ⟨ex_7, hL_7, hX_7⟩ := bs2_inv h
  clear h
  have X_7 : ∀ (mRow_5 : (Nat → Int32)) (mRingMuch_6 : Int32), ex_7 = Sum.inr (mRow_5, mRingMuch_6) → ∀ (H : Heap) (locs : List Loc) (ls : Array Slot), Wd D A s.heap H locs (wX8 k mh mrSt mrNow mrIsKept mrDraft mrTape mrRow mrRode mrWays mrLanes mrSizes mrCells mrBefore mSt mNow mIsKept mPeople mDraft mDPeople mHasDry mToldDebts mHighest mTape mTaped mPos mBegun mSort mValue mFault mWrongAt mPaid mRow_5 mRingMuch_6 mRideSum mOwedSum mAllWays mRode mWays mLanes mSizes mCells mTorn mBefore) → lv_has ls 4 [] → W p l e rmX8_findRing s m args below meth c H locs 0 0 Q (F0 m 60 ls []) := by
    intro mRow_5 mRingMuch_6 hex H locs ls hw hl
    subst hex
    have h := bs2_r hX_7
    refine lv_bipush (v := (-4)) hx hb dX8_findRing_60 (by decide) ?_
    cases h
    exact k_iret hx hb hr hlocks hw rfl dX8_findRing_62 hQ
  have LP_7 : ∀ (n : Nat) (v1_1 : Int32) (v2_2 : Int32) (mRow_3 : (Nat → Int32)) (mRingMuch_4 : Int32), f_X8_findRing_L7 mNow mPeople n v1_1 v2_2 mRow_3 mRingMuch_4 = some ex_7 → ∀ (H : Heap) (locs : List Loc) (ls : Array Slot), Wd D A s.heap H locs (wX8 k mh mrSt mrNow mrIsKept mrDraft mrTape mrRow mrRode mrWays mrLanes mrSizes mrCells mrBefore mSt mNow mIsKept mPeople mDraft mDPeople mHasDry mToldDebts mHighest mTape mTaped mPos mBegun mSort mValue mFault mWrongAt mPaid mRow_3 mRingMuch_4 mRideSum mOwedSum mAllWays mRode mWays mLanes mSizes mCells mTorn mBefore) → lv_has ls 4 [(0, .ref mh), (1, .int v1_1), (2, .int v2_2)] → W p l e rmX8_findRing s m args below meth c H locs 0 0 Q (F0 m 7 ls []) := by
    clear hL_7 hw hl
    intro n
    induction n with
    | zero => intro v1_1 v2_2 mRow_3 mRingMuch_4 h; rw [f_X8_findRing_L7] at h; cases h
    | succ n ih =>
      intro v1_1 v2_2 mRow_3 mRingMuch_4 h H locs ls hw hl
      rw [f_X8_findRing_L7] at h
      refine lv_iload_n hx hb dX8_findRing_7 rfl (lv_at hl 2 rfl) ?_
      refine lv_aload_n hx hb dX8_findRing_8 rfl (lv_at hl 0 rfl) ?_
      refine va_get (ci := 8) (v := .int mPeople) (C := RX8) (T := TX8) (N := 30) hx hb hts hinX8 hown hK.1 hw.1 0 rfl rfl 3 (by decide) q_1 (fun _ h9 => h9) rfl dX8_findRing_9 ?_
      refine kb_icmp_gt (tgt := 60) hx hb dX8_findRing_12 (by decide) h (fun c_12 h => ?_) (fun c_12 h => ?_)
      · cases h
        exact X_7 _ _ rfl _ _ _ hw (lv_sub hl [] rfl)
      · refine lv_iload_n hx hb dX8_findRing_15 rfl (lv_at hl 1 rfl) ?_
        refine lv_aload_n hx hb dX8_findRing_16 rfl (lv_at hl 0 rfl) ?_
        refine va_get (ci := 8) (v := .int mPeople) (C := RX8) (T := TX8) (N := 30) hx hb hts hinX8 hown hK.1 hw.1 0 rfl rfl 3 (by decide) q_1 (fun _ h9 => h9) rfl dX8_findRing_17 ?_
        refine lv_imul hx hb dX8_findRing_20 ?_
        refine lv_istore_n (lv' := [(1, .int (v1_1 * mPeople)), (0, .ref mh), (2, .int v2_2)]) hx hb dX8_findRing_21 rfl hl (by decide) rfl (fun ls hl => ?_)
        refine lv_iconst (v := 0) hx hb dX8_findRing_22 (by decide) ?_
        refine lv_istore_n (lv' := [(3, .int 0), (1, .int (v1_1 * mPeople)), (0, .ref mh), (2, .int v2_2)]) hx hb dX8_findRing_23 rfl hl (by decide) rfl (fun ls hl => ?_)
        obtain ⟨ex_24, hL_24, hX_24⟩ := bt2_inv h
        clear h
        have X_24 : ∀ (mRow_10 : (Nat → Int32)) (mRingMuch_11 : Int32), ex_24 = Sum.inr (mRow_10, mRingMuch_11) → ∀ (H : Heap) (locs : List Loc) (ls : Array Slot), Wd D A s.heap H locs (wX8 k mh mrSt mrNow mrIsKept mrDraft mrTape mrRow mrRode mrWays mrLanes mrSizes mrCells mrBefore mSt mNow mIsKept mPeople mDraft mDPeople mHasDry mToldDebts mHighest mTape mTaped mPos mBegun mSort mValue mFault mWrongAt mPaid mRow_10 mRingMuch_11 mRideSum mOwedSum mAllWays mRode mWays mLanes mSizes mCells mTorn mBefore) → lv_has ls 4 [(0, .ref mh), (1, .int (v1_1 * mPeople)), (2, .int v2_2)] → W p l e rmX8_findRing s m args below meth c H locs 0 0 Q (F0 m 54 ls []) := by
          intro mRow_10 mRingMuch_11 hex H locs ls hw hl
          subst hex
          have h := bt2_r hX_24
          refine lv_iinc (v := v2_2 + 1) (lv' := [(2, .int (v2_2 + 1)), (0, .ref mh), (1, .int (v1_1 * mPeople))]) hx hb dX8_findRing_54 hl (k := 2) rfl rfl (by decide) rfl (fun ls hl => ?_)
          refine lv_goto (tgt := 7) hx hb dX8_findRing_57 (by decide) ?_
          exact ih _ _ _ _ h _ _ _ hw (lv_sub hl [1, 2, 0] rfl)
        have LP_24 : ∀ (n : Nat) (v3_7 : Int32) (mRow_8 : (Nat → Int32)) (mRingMuch_9 : Int32), f_X8_findRing_L24 mNow mPeople v1_1 v2_2 n v3_7 mRow_8 mRingMuch_9 = some ex_24 → ∀ (H : Heap) (locs : List Loc) (ls : Array Slot), Wd D A s.heap H locs (wX8 k mh mrSt mrNow mrIsKept mrDraft mrTape mrRow mrRode mrWays mrLanes mrSizes mrCells mrBefore mSt mNow mIsKept mPeople mDraft mDPeople mHasDry mToldDebts mHighest mTape mTaped mPos mBegun mSort mValue mFault mWrongAt mPaid mRow_8 mRingMuch_9 mRideSum mOwedSum mAllWays mRode mWays mLanes mSizes mCells mTorn mBefore) → lv_has ls 4 [(0, .ref mh), (1, .int (v1_1 * mPeople)), (2, .int v2_2), (3, .int v3_7)] → W p l e rmX8_findRing s m args below meth c H locs 0 0 Q (F0 m 24 ls []) := by
          clear hL_24 hw hl
          intro n
          induction n with
          | zero => intro v3_7 mRow_8 mRingMuch_9 h; rw [f_X8_findRing_L24] at h; cases h
          | succ n ih =>
            intro v3_7 mRow_8 mRingMuch_9 h H locs ls hw hl
            rw [f_X8_findRing_L24] at h
            refine lv_iload_n hx hb dX8_findRing_24 rfl (lv_at hl 3 rfl) ?_
            refine lv_iload_n hx hb dX8_findRing_25 rfl (lv_at hl 1 rfl) ?_
            refine kb_icmp_ge (tgt := 54) hx hb dX8_findRing_26 (by decide) h (fun c_26 h => ?_) (fun c_26 h => ?_)
            · cases h
              exact X_24 _ _ rfl _ _ _ hw (lv_sub hl [0, 1, 2] rfl)
            · refine lv_aload_n hx hb dX8_findRing_29 rfl (lv_at hl 0 rfl) ?_
              refine lv_aload_n hx hb dX8_findRing_30 rfl (lv_at hl 0 rfl) ?_
              refine lv_iload_n hx hb dX8_findRing_31 rfl (lv_at hl 3 rfl) ?_
              refine lv_iload_n hx hb dX8_findRing_32 rfl (lv_at hl 2 rfl) ?_
              obtain ⟨r_12, mRow_13, hf, h⟩ := b2_inv h
              refine k_callV (host := "") fx hK hA hw (c_X8_clears l D k mh mrSt mrNow mrIsKept mrDraft mrTape mrRow mrRode mrWays mrLanes mrSizes mrCells mrBefore _ mSt mNow mIsKept mPeople mDraft mDPeople mHasDry mToldDebts mHighest mTape mTaped mPos mBegun mSort mValue mFault mWrongAt mPaid mRow_8 mRingMuch_9 mRideSum mOwedSum mAllWays mRode mWays mLanes mSizes mCells mTorn mBefore v3_7 v2_2 r_12 mRow_13 hf) (cwV 2 hts gX8_findRing_X8_clears rfl rfl rfl (by decide +kernel) ⟨by decide, by decide⟩) (As := [.int v3_7, .int v2_2]) (wr := []) (ws' := wX8 k mh mrSt mrNow mrIsKept mrDraft mrTape mrRow mrRode mrWays mrLanes mrSizes mrCells mrBefore mSt mNow mIsKept mPeople mDraft mDPeople mHasDry mToldDebts mHighest mTape mTaped mPos mBegun mSort mValue mFault mWrongAt mPaid mRow_13 mRingMuch_9 mRideSum mOwedSum mAllWays mRode mWays mLanes mSizes mCells mTorn mBefore) [0, 1, 2, 3, 4, 5, 6, 7, 8, 9, 10, 11, 12] [] [0, 1, 2, 3, 4, 5, 6, 7, 8, 9, 10, 11, 12] rfl rfl (by decide) (by decide) (by decide) rfl (by decide) 8 rfl rfl [.ref mh] rfl hl.1 rfl (Nat.le_of_ble_eq_true rfl) dX8_findRing_33 ⟨by decide, by decide⟩ (fun H locs (hw : Wd D A s.heap H locs (wX8 k mh mrSt mrNow mrIsKept mrDraft mrTape mrRow mrRode mrWays mrLanes mrSizes mrCells mrBefore mSt mNow mIsKept mPeople mDraft mDPeople mHasDry mToldDebts mHighest mTape mTaped mPos mBegun mSort mValue mFault mWrongAt mPaid mRow_13 mRingMuch_9 mRideSum mOwedSum mAllWays mRode mWays mLanes mSizes mCells mTorn mBefore)) => ?_)
              refine W.eq (g2 := F0 m 36 ls ([.int r_12, .ref mh])) rfl ?_
              refine va_put (ci := 8) (v := .int r_12) (ty := tyX8 19) (C := RX8) (T := TX8) (N := 30) hx hb hts hinX8 tyX8 tyX8_ok nmX8 hown hK.1 hw.1 hw.2.1 hw.2.2 0 rfl rfl 19 (by decide) q_2 (fun _ h9 => h9) rfl (tyX8_ok 19 (by decide)) rfl rfl (Nat.le_of_ble_eq_true rfl) dX8_findRing_36 (fun H locs hP hD hS => ?_)
              have hw : Wd D A s.heap H locs (wX8 k mh mrSt mrNow mrIsKept mrDraft mrTape mrRow mrRode mrWays mrLanes mrSizes mrCells mrBefore mSt mNow mIsKept mPeople mDraft mDPeople mHasDry mToldDebts mHighest mTape mTaped mPos mBegun mSort mValue mFault mWrongAt mPaid mRow_13 r_12 mRideSum mOwedSum mAllWays mRode mWays mLanes mSizes mCells mTorn mBefore) := ⟨hP, hD, hS⟩
              refine lv_aload_n hx hb dX8_findRing_39 rfl (lv_at hl 0 rfl) ?_
              refine va_get (ci := 8) (v := .int r_12) (C := RX8) (T := TX8) (N := 30) hx hb hts hinX8 hown hK.1 hw.1 0 rfl rfl 19 (by decide) q_2 (fun _ h9 => h9) rfl dX8_findRing_40 ?_
              refine kb_if_le (tgt := 48) hx hb dX8_findRing_43 (by decide) h (fun c_43 h => ?_) (fun c_43 h => ?_)
              · refine lv_iinc (v := v3_7 + 1) (lv' := [(3, .int (v3_7 + 1)), (0, .ref mh), (1, .int (v1_1 * mPeople)), (2, .int v2_2)]) hx hb dX8_findRing_48 hl (k := 3) rfl rfl (by decide) rfl (fun ls hl => ?_)
                refine lv_goto (tgt := 24) hx hb dX8_findRing_51 (by decide) ?_
                exact ih _ _ _ h _ _ _ hw (lv_sub hl [1, 2, 3, 0] rfl)
              · refine lv_iload_n hx hb dX8_findRing_46 rfl (lv_at hl 2 rfl) ?_
                cases h
                have h := bt2_l hX_24
                cases h
                have h := bs2_l hX_7
                cases h
                exact k_iret hx hb hr hlocks hw rfl dX8_findRing_47 hQ
        exact LP_24 4000 0 mRow_3 mRingMuch_4 hL_24 _ _ _ hw (lv_sub hl [2, 1, 3, 0] rfl)
  exact LP_7 400 mPeople 2 mRow mRingMuch hL_7 _ _ _ hw (lv_sub hl [2, 1, 0] rfl)
abbrev rmX8_settles : Room := { frames := 0, cells := 0, slots := 0, locals := 0 }
set_option maxHeartbeats 4000000 in
set_option maxRecDepth 100000 in
theorem c_X8_settles (l : Launch) (D : va_G) (k : Nat → ClassId) (mh mrSt mrNow mrIsKept mrDraft mrTape mrRow mrRode mrWays mrLanes mrSizes mrCells mrBefore : Nat) (sz : Nat) (mSt : (Nat → Int32)) (mNow : (Nat → Int32)) (mIsKept : (Nat → Int32)) (mPeople : Int32) (mDraft : (Nat → Int32)) (mDPeople : Int32) (mHasDry : Int32) (mToldDebts : Int32) (mHighest : Int32) (mTape : (Nat → Int32)) (mTaped : Int32) (mPos : Int32) (mBegun : Int32) (mSort : Int32) (mValue : Int32) (mFault : Int32) (mWrongAt : Int32) (mPaid : Int32) (mRow : (Nat → Int32)) (mRingMuch : Int32) (mRideSum : Int64) (mOwedSum : Int64) (mAllWays : Int64) (mRode : (Nat → Int32)) (mWays : (Nat → Int32)) (mLanes : (Nat → Int32)) (mSizes : (Nat → Int32)) (mCells : (Nat → Int32)) (mTorn : Int32) (mBefore : (Nat → Int32)) (n_mSt : (Nat → Int32)) (hf : f_X8_settles mSt mNow = some n_mSt) : mR l yX8_settles wsX8_settles rmX8_settles D k sz [.ref mh] (wX8 k mh mrSt mrNow mrIsKept mrDraft mrTape mrRow mrRode mrWays mrLanes mrSizes mrCells mrBefore mSt mNow mIsKept mPeople mDraft mDPeople mHasDry mToldDebts mHighest mTape mTaped mPos mBegun mSort mValue mFault mWrongAt mPaid mRow mRingMuch mRideSum mOwedSum mAllWays mRode mWays mLanes mSizes mCells mTorn mBefore) (wX8 k mh mrSt mrNow mrIsKept mrDraft mrTape mrRow mrRode mrWays mrLanes mrSizes mrCells mrBefore n_mSt mNow mIsKept mPeople mDraft mDPeople mHasDry mToldDebts mHighest mTape mTaped mPos mBegun mSort mValue mFault mWrongAt mPaid mRow mRingMuch mRideSum mOwedSum mAllWays mRode mWays mLanes mSizes mCells mTorn mBefore) (none) := by
  refine mR_of (cc := cX8_settles) (maxL := 2) (ret := none) (by decide) rfl (Nat.le_of_ble_eq_true rfl) [(0, .ref mh)] rfl ?_
  intro p e s m below meth c A ls args Q cx hK hA hw hl hQ
  have fx := cx.1
  obtain ⟨⟨hx, hb, hml, hown, hts⟩, hr, hlocks⟩ := cx
  have hinX8 : ∀ w ∈ wsX80, w ∈ wsX8_settles := fun w h => List.mem_cons_of_mem _ (List.mem_append_right _ h)
  have q_1 := hts (.fieldLink RX8 7 "DebtRidesModel" "st" "[I") (List.mem_of_getElem? (i := 1) rfl)
  have q_2 := hts (.fieldLink RX8 13 "DebtRidesModel" "now" "[I") (List.mem_of_getElem? (i := 2) rfl)
  have h := hf
  unfold f_X8_settles at h
  clear hf
  refine lv_iconst (v := 0) hx hb dX8_settles_0 (by decide) ?_
  refine lv_istore_n (lv' := [(1, .int 0), (0, .ref mh)]) hx hb dX8_settles_1 rfl hl (by decide) rfl (fun ls hl => ?_)
  obtain ⟨mSt_3, hL_2, h⟩ := b1_inv h
  have X_2 : ∀ (H : Heap) (locs : List Loc) (ls : Array Slot), Wd D A s.heap H locs (wX8 k mh mrSt mrNow mrIsKept mrDraft mrTape mrRow mrRode mrWays mrLanes mrSizes mrCells mrBefore mSt_3 mNow mIsKept mPeople mDraft mDPeople mHasDry mToldDebts mHighest mTape mTaped mPos mBegun mSort mValue mFault mWrongAt mPaid mRow mRingMuch mRideSum mOwedSum mAllWays mRode mWays mLanes mSizes mCells mTorn mBefore) → lv_has ls 2 [] → W p l e rmX8_settles s m args below meth c H locs 0 0 Q (F0 m 26 ls []) := by
    intro H locs ls hw hl
    cases h
    exact k_vret hx hb hr hlocks hw dX8_settles_26 hQ
  clear h
  have LP_2 : ∀ (n : Nat) (v1_1 : Int32) (mSt_2 : (Nat → Int32)), f_X8_settles_L2 mNow n v1_1 mSt_2 = some mSt_3 → ∀ (H : Heap) (locs : List Loc) (ls : Array Slot), Wd D A s.heap H locs (wX8 k mh mrSt mrNow mrIsKept mrDraft mrTape mrRow mrRode mrWays mrLanes mrSizes mrCells mrBefore mSt_2 mNow mIsKept mPeople mDraft mDPeople mHasDry mToldDebts mHighest mTape mTaped mPos mBegun mSort mValue mFault mWrongAt mPaid mRow mRingMuch mRideSum mOwedSum mAllWays mRode mWays mLanes mSizes mCells mTorn mBefore) → lv_has ls 2 [(0, .ref mh), (1, .int v1_1)] → W p l e rmX8_settles s m args below meth c H locs 0 0 Q (F0 m 2 ls []) := by
    clear hL_2 hw hl
    intro n
    induction n with
    | zero => intro v1_1 mSt_2 h; rw [f_X8_settles_L2] at h; cases h
    | succ n ih =>
      intro v1_1 mSt_2 h H locs ls hw hl
      rw [f_X8_settles_L2] at h
      refine lv_iload_n hx hb dX8_settles_2 rfl (lv_at hl 1 rfl) ?_
      refine lv_bipush (v := 61) hx hb dX8_settles_3 (by decide) ?_
      refine kb_icmp_ge (tgt := 26) hx hb dX8_settles_5 (by decide) h (fun c_5 h => ?_) (fun c_5 h => ?_)
      · cases h
        exact X_2 _ _ _ hw (lv_sub hl [] rfl)
      · refine lv_aload_n hx hb dX8_settles_8 rfl (lv_at hl 0 rfl) ?_
        refine va_get (ci := 8) (v := .ref mrSt) (C := RX8) (T := TX8) (N := 30) hx hb hts hinX8 hown hK.1 hw.1 0 rfl rfl 0 (by decide) q_1 (fun _ h9 => h9) rfl dX8_settles_9 ?_
        refine lv_iload_n hx hb dX8_settles_12 rfl (lv_at hl 1 rfl) ?_
        refine lv_aload_n hx hb dX8_settles_13 rfl (lv_at hl 0 rfl) ?_
        refine va_get (ci := 8) (v := .ref mrNow) (C := RX8) (T := TX8) (N := 30) hx hb hts hinX8 hown hK.1 hw.1 0 rfl rfl 1 (by decide) q_2 (fun _ h9 => h9) rfl dX8_settles_14 ?_
        refine lv_iload_n hx hb dX8_settles_17 rfl (lv_at hl 1 rfl) ?_
        refine k_iald hx hb hK hw 2 rfl dX8_settles_18 h (fun a_4 h => ?_)
        refine k_iast hx hb hK hw 1 rfl dX8_settles_19 h (fun mSt_5 h H locs (hw : Wd D A s.heap H locs (wX8 k mh mrSt mrNow mrIsKept mrDraft mrTape mrRow mrRode mrWays mrLanes mrSizes mrCells mrBefore mSt_5 mNow mIsKept mPeople mDraft mDPeople mHasDry mToldDebts mHighest mTape mTaped mPos mBegun mSort mValue mFault mWrongAt mPaid mRow mRingMuch mRideSum mOwedSum mAllWays mRode mWays mLanes mSizes mCells mTorn mBefore)) => ?_)
        refine lv_iinc (v := v1_1 + 1) (lv' := [(1, .int (v1_1 + 1)), (0, .ref mh)]) hx hb dX8_settles_20 hl (k := 1) rfl rfl (by decide) rfl (fun ls hl => ?_)
        refine lv_goto (tgt := 2) hx hb dX8_settles_23 (by decide) ?_
        exact ih _ _ h _ _ _ hw (lv_sub hl [1, 0] rfl)
  exact LP_2 400 0 mSt hL_2 _ _ _ hw (lv_sub hl [1, 0] rfl)
