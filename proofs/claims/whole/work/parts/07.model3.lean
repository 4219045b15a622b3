abbrev rmX8_readNumber : Room := { frames := 2, cells := 0, slots := 0, locals := 47 }
set_option maxHeartbeats 4000000 in
set_option maxRecDepth 100000 in
theorem c_X8_readNumber (l : Launch) (D : va_G) (k : Nat → ClassId) (mh mrSt mrNow mrIsKept mrDraft mrTape mrRow mrRode mrWays mrLanes mrSizes mrCells mrBefore : Nat) (sz : Nat) (mSt : (Nat → Int32)) (mNow : (Nat → Int32)) (mIsKept : (Nat → Int32)) (mPeople : Int32) (mDraft : (Nat → Int32)) (mDPeople : Int32) (mHasDry : Int32) (mToldDebts : Int32) (mHighest : Int32) (mTape : (Nat → Int32)) (mTaped : Int32) (mPos : Int32) (mBegun : Int32) (mSort : Int32) (mValue : Int32) (mFault : Int32) (mWrongAt : Int32) (mPaid : Int32) (mRow : (Nat → Int32)) (mRingMuch : Int32) (mRideSum : Int64) (mOwedSum : Int64) (mAllWays : Int64) (mRode : (Nat → Int32)) (mWays : (Nat → Int32)) (mLanes : (Nat → Int32)) (mSizes : (Nat → Int32)) (mCells : (Nat → Int32)) (mTorn : Int32) (mBefore : (Nat → Int32)) (p1 : Int32) (p2 : Int32) (r_ : Int32) (n_mPos : Int32) (n_mBegun : Int32) (n_mSort : Int32) (n_mValue : Int32) (n_mFault : Int32) (n_mWrongAt : Int32) (hf : f_X8_readNumber mTape mTaped mPos mBegun mSort mValue mFault mWrongAt p1 p2 = some (r_, n_mPos, n_mBegun, n_mSort, n_mValue, n_mFault, n_mWrongAt)) : mR l yX8_readNumber wsX8_readNumber rmX8_readNumber D k sz [.ref mh, .int p1, .int p2] (wX8 k mh mrSt mrNow mrIsKept mrDraft mrTape mrRow mrRode mrWays mrLanes mrSizes mrCells mrBefore mSt mNow mIsKept mPeople mDraft mDPeople mHasDry mToldDebts mHighest mTape mTaped mPos mBegun mSort mValue mFault mWrongAt mPaid mRow mRingMuch mRideSum mOwedSum mAllWays mRode mWays mLanes mSizes mCells mTorn mBefore) (wX8 k mh mrSt mrNow mrIsKept mrDraft mrTape mrRow mrRode mrWays mrLanes mrSizes mrCells mrBefore mSt mNow mIsKept mPeople mDraft mDPeople mHasDry mToldDebts mHighest mTape mTaped n_mPos n_mBegun n_mSort n_mValue n_mFault n_mWrongAt mPaid mRow mRingMuch mRideSum mOwedSum mAllWays mRode mWays mLanes mSizes mCells mTorn mBefore) (some (.int r_)) := by
  refine mR_of (cc := cX8_readNumber) (maxL := 4) (ret := some .int) (by decide) rfl (Nat.le_of_ble_eq_true rfl) [(0, .ref mh), (1, .int p1), (2, .int p2)] rfl ?_
  intro p e s m below meth c A ls args Q cx hK hA hw hl hQ
  have fx := cx.1
  obtain ⟨⟨hx, hb, hml, hown, hts⟩, hr, hlocks⟩ := cx
  have h := hf
  unfold f_X8_readNumber at h
  clear hf
  refine lv_aload_n hx hb dX8_readNumber_0 rfl (lv_at hl 0 rfl) ?_
  refine lv_iload_n hx hb dX8_readNumber_1 rfl (lv_at hl 1 rfl) ?_
  refine lv_iload_n hx hb dX8_readNumber_2 rfl (lv_at hl 2 rfl) ?_
  obtain ⟨r_1, mFault_2, mWrongAt_3, hf, h⟩ := b3_inv h
  refine k_callV (host := "") fx hK hA hw (c_X8_looked l D k mh mrSt mrNow mrIsKept mrDraft mrTape mrRow mrRode mrWays mrLanes mrSizes mrCells mrBefore _ mSt mNow mIsKept mPeople mDraft mDPeople mHasDry mToldDebts mHighest mTape mTaped mPos mBegun mSort mValue mFault mWrongAt mPaid mRow mRingMuch mRideSum mOwedSum mAllWays mRode mWays mLanes mSizes mCells mTorn mBefore p1 p2 r_1 mFault_2 mWrongAt_3 hf) (cwV 2 hts gX8_readNumber_X8_looked rfl rfl rfl (by decide +kernel) ⟨by decide, by decide⟩) (As := [.int p1, .int p2]) (wr := []) (ws' := wX8 k mh mrSt mrNow mrIsKept mrDraft mrTape mrRow mrRode mrWays mrLanes mrSizes mrCells mrBefore mSt mNow mIsKept mPeople mDraft mDPeople mHasDry mToldDebts mHighest mTape mTaped mPos mBegun mSort mValue mFault_2 mWrongAt_3 mPaid mRow mRingMuch mRideSum mOwedSum mAllWays mRode mWays mLanes mSizes mCells mTorn mBefore) [0, 1, 2, 3, 4, 5, 6, 7, 8, 9, 10, 11, 12] [] [0, 1, 2, 3, 4, 5, 6, 7, 8, 9, 10, 11, 12] rfl rfl (by decide) (by decide) (by decide) rfl (by decide) 8 rfl rfl [] rfl hl.1 rfl (Nat.le_of_ble_eq_true rfl) dX8_readNumber_3 ⟨by decide, by decide⟩ (fun H locs (hw : Wd D A s.heap H locs (wX8 k mh mrSt mrNow mrIsKept mrDraft mrTape mrRow mrRode mrWays mrLanes mrSizes mrCells mrBefore mSt mNow mIsKept mPeople mDraft mDPeople mHasDry mToldDebts mHighest mTape mTaped mPos mBegun mSort mValue mFault_2 mWrongAt_3 mPaid mRow mRingMuch mRideSum mOwedSum mAllWays mRode mWays mLanes mSizes mCells mTorn mBefore)) => ?_)
  refine W.eq (g2 := F0 m 6 ls ([.int r_1])) rfl ?_
  refine lv_istore_n (lv' := [(3, .int r_1), (0, .ref mh), (1, .int p1), (2, .int p2)]) hx hb dX8_readNumber_6 rfl hl (by decide) rfl (fun ls hl => ?_)
  refine lv_aload_n hx hb dX8_readNumber_7 rfl (lv_at hl 1 rfl) ?_
  obtain ⟨mPos_4, mBegun_5, mSort_6, mValue_7, mFault_8, mWrongAt_9, hf, h⟩ := b6_inv h
  refine k_callV (host := "") fx hK hA hw (c_X8_takes l D k mh mrSt mrNow mrIsKept mrDraft mrTape mrRow mrRode mrWays mrLanes mrSizes mrCells mrBefore _ mSt mNow mIsKept mPeople mDraft mDPeople mHasDry mToldDebts mHighest mTape mTaped mPos mBegun mSort mValue mFault_2 mWrongAt_3 mPaid mRow mRingMuch mRideSum mOwedSum mAllWays mRode mWays mLanes mSizes mCells mTorn mBefore mPos_4 mBegun_5 mSort_6 mValue_7 mFault_8 mWrongAt_9 hf) (cwV 0 hts gX8_readNumber_X8_takes rfl rfl rfl (by decide +kernel) ⟨by decide, by decide⟩) (As := []) (wr := []) (ws' := wX8 k mh mrSt mrNow mrIsKept mrDraft mrTape mrRow mrRode mrWays mrLanes mrSizes mrCells mrBefore mSt mNow mIsKept mPeople mDraft mDPeople mHasDry mToldDebts mHighest mTape mTaped mPos_4 mBegun_5 mSort_6 mValue_7 mFault_8 mWrongAt_9 mPaid mRow mRingMuch mRideSum mOwedSum mAllWays mRode mWays mLanes mSizes mCells mTorn mBefore) [0, 1, 2, 3, 4, 5, 6, 7, 8, 9, 10, 11, 12] [] [0, 1, 2, 3, 4, 5, 6, 7, 8, 9, 10, 11, 12] rfl rfl (by decide) (by decide) (by decide) rfl (by decide) 8 rfl rfl [] rfl hl.1 rfl (Nat.le_of_ble_eq_true rfl) dX8_readNumber_8 ⟨by decide, by decide⟩ (fun H locs (hw : Wd D A s.heap H locs (wX8 k mh mrSt mrNow mrIsKept mrDraft mrTape mrRow mrRode mrWays mrLanes mrSizes mrCells mrBefore mSt mNow mIsKept mPeople mDraft mDPeople mHasDry mToldDebts mHighest mTape mTaped mPos_4 mBegun_5 mSort_6 mValue_7 mFault_8 mWrongAt_9 mPaid mRow mRingMuch mRideSum mOwedSum mAllWays mRode mWays mLanes mSizes mCells mTorn mBefore)) => ?_)
  refine W.eq (g2 := F0 m 11 ls ([])) rfl ?_
  refine lv_iload_n hx hb dX8_readNumber_11 rfl (lv_at hl 0 rfl) ?_
  cases h
  exact k_iret hx hb hr hlocks hw rfl dX8_readNumber_12 hQ
abbrev rmX8_readDebt : Room := { frames := 3, cells := 0, slots := 0, locals := 70 }
set_option maxHeartbeats 4000000 in
set_option maxRecDepth 100000 in
theorem c_X8_readDebt (l : Launch) (D : va_G) (k : Nat → ClassId) (mh mrSt mrNow mrIsKept mrDraft mrTape mrRow mrRode mrWays mrLanes mrSizes mrCells mrBefore : Nat) (sz : Nat) (mSt : (Nat → Int32)) (mNow : (Nat → Int32)) (mIsKept : (Nat → Int32)) (mPeople : Int32) (mDraft : (Nat → Int32)) (mDPeople : Int32) (mHasDry : Int32) (mToldDebts : Int32) (mHighest : Int32) (mTape : (Nat → Int32)) (mTaped : Int32) (mPos : Int32) (mBegun : Int32) (mSort : Int32) (mValue : Int32) (mFault : Int32) (mWrongAt : Int32) (mPaid : Int32) (mRow : (Nat → Int32)) (mRingMuch : Int32) (mRideSum : Int64) (mOwedSum : Int64) (mAllWays : Int64) (mRode : (Nat → Int32)) (mWays : (Nat → Int32)) (mLanes : (Nat → Int32)) (mSizes : (Nat → Int32)) (mCells : (Nat → Int32)) (mTorn : Int32) (mBefore : (Nat → Int32)) (n_mDraft : (Nat → Int32)) (n_mToldDebts : Int32) (n_mHighest : Int32) (n_mPos : Int32) (n_mBegun : Int32) (n_mSort : Int32) (n_mValue : Int32) (n_mFault : Int32) (n_mWrongAt : Int32) (hf : f_X8_readDebt mDraft mToldDebts mHighest mTape mTaped mPos mBegun mSort mValue mFault mWrongAt = some (n_mDraft, n_mToldDebts, n_mHighest, n_mPos, n_mBegun, n_mSort, n_mValue, n_mFault, n_mWrongAt)) : mR l yX8_readDebt wsX8_readDebt rmX8_readDebt D k sz [.ref mh] (wX8 k mh mrSt mrNow mrIsKept mrDraft mrTape mrRow mrRode mrWays mrLanes mrSizes mrCells mrBefore mSt mNow mIsKept mPeople mDraft mDPeople mHasDry mToldDebts mHighest mTape mTaped mPos mBegun mSort mValue mFault mWrongAt mPaid mRow mRingMuch mRideSum mOwedSum mAllWays mRode mWays mLanes mSizes mCells mTorn mBefore) (wX8 k mh mrSt mrNow mrIsKept mrDraft mrTape mrRow mrRode mrWays mrLanes mrSizes mrCells mrBefore mSt mNow mIsKept mPeople n_mDraft mDPeople mHasDry n_mToldDebts n_mHighest mTape mTaped n_mPos n_mBegun n_mSort n_mValue n_mFault n_mWrongAt mPaid mRow mRingMuch mRideSum mOwedSum mAllWays mRode mWays mLanes mSizes mCells mTorn mBefore) (none) := by
  refine mR_of (cc := cX8_readDebt) (maxL := 3) (ret := none) (by decide) rfl (Nat.le_of_ble_eq_true rfl) [(0, .ref mh)] rfl ?_
  intro p e s m below meth c A ls args Q cx hK hA hw hl hQ
  have fx := cx.1
  obtain ⟨⟨hx, hb, hml, hown, hts⟩, hr, hlocks⟩ := cx
  have hinX8 : ∀ w ∈ wsX80, w ∈ wsX8_readDebt := fun w h => List.mem_cons_of_mem _ (List.mem_append_right _ h)
  have q_1 := hts (.fieldLink RX8 61 "DebtRidesModel" "toldDebts" "I") (List.mem_of_getElem? (i := 1) rfl)
  have q_2 := hts (.fieldLink RX8 64 "DebtRidesModel" "highest" "I") (List.mem_of_getElem? (i := 2) rfl)
  have q_3 := hts (.fieldLink RX8 20 "DebtRidesModel" "draft" "[I") (List.mem_of_getElem? (i := 3) rfl)
  have h := hf
  unfold f_X8_readDebt at h
  clear hf
  refine lv_aload_n hx hb dX8_readDebt_0 rfl (lv_at hl 0 rfl) ?_
  refine lv_iconst (v := 0) hx hb dX8_readDebt_1 (by decide) ?_
  refine lv_iconst (v := 4) hx hb dX8_readDebt_2 (by decide) ?_
  obtain ⟨r_1, mPos_2, mBegun_3, mSort_4, mValue_5, mFault_6, mWrongAt_7, hf, h⟩ := b7_inv h
  refine k_callV (host := "") fx hK hA hw (c_X8_readNumber l D k mh mrSt mrNow mrIsKept mrDraft mrTape mrRow mrRode mrWays mrLanes mrSizes mrCells mrBefore _ mSt mNow mIsKept mPeople mDraft mDPeople mHasDry mToldDebts mHighest mTape mTaped mPos mBegun mSort mValue mFault mWrongAt mPaid mRow mRingMuch mRideSum mOwedSum mAllWays mRode mWays mLanes mSizes mCells mTorn mBefore 0 4 r_1 mPos_2 mBegun_3 mSort_4 mValue_5 mFault_6 mWrongAt_7 hf) (cwV 2 hts gX8_readDebt_X8_readNumber rfl rfl rfl (by decide +kernel) ⟨by decide, by decide⟩) (As := [.int 0, .int 4]) (wr := []) (ws' := wX8 k mh mrSt mrNow mrIsKept mrDraft mrTape mrRow mrRode mrWays mrLanes mrSizes mrCells mrBefore mSt mNow mIsKept mPeople mDraft mDPeople mHasDry mToldDebts mHighest mTape mTaped mPos_2 mBegun_3 mSort_4 mValue_5 mFault_6 mWrongAt_7 mPaid mRow mRingMuch mRideSum mOwedSum mAllWays mRode mWays mLanes mSizes mCells mTorn mBefore) [0, 1, 2, 3, 4, 5, 6, 7, 8, 9, 10, 11, 12] [] [0, 1, 2, 3, 4, 5, 6, 7, 8, 9, 10, 11, 12] rfl rfl (by decide) (by decide) (by decide) rfl (by decide) 8 rfl rfl [] rfl hl.1 rfl (Nat.le_of_ble_eq_true rfl) dX8_readDebt_3 ⟨by decide, by decide⟩ (fun H locs (hw : Wd D A s.heap H locs (wX8 k mh mrSt mrNow mrIsKept mrDraft mrTape mrRow mrRode mrWays mrLanes mrSizes mrCells mrBefore mSt mNow mIsKept mPeople mDraft mDPeople mHasDry mToldDebts mHighest mTape mTaped mPos_2 mBegun_3 mSort_4 mValue_5 mFault_6 mWrongAt_7 mPaid mRow mRingMuch mRideSum mOwedSum mAllWays mRode mWays mLanes mSizes mCells mTorn mBefore)) => ?_)
  refine W.eq (g2 := F0 m 6 ls ([.int r_1])) rfl ?_
  refine lv_istore_n (lv' := [(1, .int r_1), (0, .ref mh)]) hx hb dX8_readDebt_6 rfl hl (by decide) rfl (fun ls hl => ?_)
  refine lv_aload_n hx hb dX8_readDebt_7 rfl (lv_at hl 1 rfl) ?_
  refine lv_iconst (v := 0) hx hb dX8_readDebt_8 (by decide) ?_
  refine lv_iconst (v := 4) hx hb dX8_readDebt_9 (by decide) ?_
  obtain ⟨r_8, mFault_9, mWrongAt_10, hf, h⟩ := b3_inv h
  refine k_callV (host := "") fx hK hA hw (c_X8_looked l D k mh mrSt mrNow mrIsKept mrDraft mrTape mrRow mrRode mrWays mrLanes mrSizes mrCells mrBefore _ mSt mNow mIsKept mPeople mDraft mDPeople mHasDry mToldDebts mHighest mTape mTaped mPos_2 mBegun_3 mSort_4 mValue_5 mFault_6 mWrongAt_7 mPaid mRow mRingMuch mRideSum mOwedSum mAllWays mRode mWays mLanes mSizes mCells mTorn mBefore 0 4 r_8 mFault_9 mWrongAt_10 hf) (cwV 2 hts gX8_readDebt_X8_looked rfl rfl rfl (by decide +kernel) ⟨by decide, by decide⟩) (As := [.int 0, .int 4]) (wr := []) (ws' := wX8 k mh mrSt mrNow mrIsKept mrDraft mrTape mrRow mrRode mrWays mrLanes mrSizes mrCells mrBefore mSt mNow mIsKept mPeople mDraft mDPeople mHasDry mToldDebts mHighest mTape mTaped mPos_2 mBegun_3 mSort_4 mValue_5 mFault_9 mWrongAt_10 mPaid mRow mRingMuch mRideSum mOwedSum mAllWays mRode mWays mLanes mSizes mCells mTorn mBefore) [0, 1, 2, 3, 4, 5, 6, 7, 8, 9, 10, 11, 12] [] [0, 1, 2, 3, 4, 5, 6, 7, 8, 9, 10, 11, 12] rfl rfl (by decide) (by decide) (by decide) rfl (by decide) 8 rfl rfl [] rfl hl.1 rfl (Nat.le_of_ble_eq_true rfl) dX8_readDebt_10 ⟨by decide, by decide⟩ (fun H locs (hw : Wd D A s.heap H locs (wX8 k mh mrSt mrNow mrIsKept mrDraft mrTape mrRow mrRode mrWays mrLanes mrSizes mrCells mrBefore mSt mNow mIsKept mPeople mDraft mDPeople mHasDry mToldDebts mHighest mTape mTaped mPos_2 mBegun_3 mSort_4 mValue_5 mFault_9 mWrongAt_10 mPaid mRow mRingMuch mRideSum mOwedSum mAllWays mRode mWays mLanes mSizes mCells mTorn mBefore)) => ?_)
  refine W.eq (g2 := F0 m 13 ls ([.int r_8])) rfl ?_
  refine lv_istore_n (lv' := [(2, .int r_8), (1, .int r_1), (0, .ref mh)]) hx hb dX8_readDebt_13 rfl hl (by decide) rfl (fun ls hl => ?_)
  refine lv_aload_n hx hb dX8_readDebt_14 rfl (lv_at hl 2 rfl) ?_
  refine lv_iload_n hx hb dX8_readDebt_15 rfl (lv_at hl 1 rfl) ?_
  refine lv_iload_n hx hb dX8_readDebt_16 rfl (lv_at hl 0 rfl) ?_
  obtain ⟨t_11, hj_17, h⟩ := b1_inv h
  have J_17 : ∀ (H : Heap) (locs : List Loc) (ls : Array Slot), Wd D A s.heap H locs (wX8 k mh mrSt mrNow mrIsKept mrDraft mrTape mrRow mrRode mrWays mrLanes mrSizes mrCells mrBefore mSt mNow mIsKept mPeople mDraft mDPeople mHasDry mToldDebts mHighest mTape mTaped mPos_2 mBegun_3 mSort_4 mValue_5 mFault_9 mWrongAt_10 mPaid mRow mRingMuch mRideSum mOwedSum mAllWays mRode mWays mLanes mSizes mCells mTorn mBefore) → lv_has ls 3 [(0, .ref mh), (1, .int r_1), (2, .int r_8)] → W p l e rmX8_readDebt s m args below meth c H locs 0 0 Q (F0 m 25 ls [.int t_11, .ref mh]) := by
    intro H locs ls hw hl
    refine lv_iconst (v := 3) hx hb dX8_readDebt_25 (by decide) ?_
    obtain ⟨mFault_12, mWrongAt_13, hf, h⟩ := b2_inv h
    refine k_callV (host := "") fx hK hA hw (c_X8_needs l D k mh mrSt mrNow mrIsKept mrDraft mrTape mrRow mrRode mrWays mrLanes mrSizes mrCells mrBefore _ mSt mNow mIsKept mPeople mDraft mDPeople mHasDry mToldDebts mHighest mTape mTaped mPos_2 mBegun_3 mSort_4 mValue_5 mFault_9 mWrongAt_10 mPaid mRow mRingMuch mRideSum mOwedSum mAllWays mRode mWays mLanes mSizes mCells mTorn mBefore t_11 3 mFault_12 mWrongAt_13 hf) (cwV 2 hts gX8_readDebt_X8_needs rfl rfl rfl (by decide +kernel) ⟨by decide, by decide⟩) (As := [.int t_11, .int 3]) (wr := []) (ws' := wX8 k mh mrSt mrNow mrIsKept mrDraft mrTape mrRow mrRode mrWays mrLanes mrSizes mrCells mrBefore mSt mNow mIsKept mPeople mDraft mDPeople mHasDry mToldDebts mHighest mTape mTaped mPos_2 mBegun_3 mSort_4 mValue_5 mFault_12 mWrongAt_13 mPaid mRow mRingMuch mRideSum mOwedSum mAllWays mRode mWays mLanes mSizes mCells mTorn mBefore) [0, 1, 2, 3, 4, 5, 6, 7, 8, 9, 10, 11, 12] [] [0, 1, 2, 3, 4, 5, 6, 7, 8, 9, 10, 11, 12] rfl rfl (by decide) (by decide) (by decide) rfl (by decide) 8 rfl rfl [] rfl hl.1 rfl (Nat.le_of_ble_eq_true rfl) dX8_readDebt_26 ⟨by decide, by decide⟩ (fun H locs (hw : Wd D A s.heap H locs (wX8 k mh mrSt mrNow mrIsKept mrDraft mrTape mrRow mrRode mrWays mrLanes mrSizes mrCells mrBefore mSt mNow mIsKept mPeople mDraft mDPeople mHasDry mToldDebts mHighest mTape mTaped mPos_2 mBegun_3 mSort_4 mValue_5 mFault_12 mWrongAt_13 mPaid mRow mRingMuch mRideSum mOwedSum mAllWays mRode mWays mLanes mSizes mCells mTorn mBefore)) => ?_)
    refine W.eq (g2 := F0 m 29 ls ([])) rfl ?_
    refine lv_aload_n hx hb dX8_readDebt_29 rfl (lv_at hl 0 rfl) ?_
    refine lv_aload_n hx hb dX8_readDebt_30 rfl (lv_at hl 0 rfl) ?_
    refine va_get (ci := 8) (v := .int mToldDebts) (C := RX8) (T := TX8) (N := 30) hx hb hts hinX8 hown hK.1 hw.1 0 rfl rfl 7 (by decide) q_1 (fun _ h9 => h9) rfl dX8_readDebt_31 ?_
    refine lv_iconst (v := 5) hx hb dX8_readDebt_34 (by decide) ?_
    refine lv_iload_n hx hb dX8_readDebt_35 rfl (lv_at hl 1 rfl) ?_
    refine lv_imul hx hb dX8_readDebt_36 ?_
    refine lv_iload_n hx hb dX8_readDebt_37 rfl (lv_at hl 2 rfl) ?_
    refine lv_iadd hx hb dX8_readDebt_38 ?_
    refine lv_ishr hx hb dX8_readDebt_39 ?_
    refine lv_iconst (v := 1) hx hb dX8_readDebt_40 (by decide) ?_
    refine lv_iand hx hb dX8_readDebt_41 ?_
    obtain ⟨t_14, hj_42, h⟩ := b1_inv h
    have J_42 : ∀ (H : Heap) (locs : List Loc) (ls : Array Slot), Wd D A s.heap H locs (wX8 k mh mrSt mrNow mrIsKept mrDraft mrTape mrRow mrRode mrWays mrLanes mrSizes mrCells mrBefore mSt mNow mIsKept mPeople mDraft mDPeople mHasDry mToldDebts mHighest mTape mTaped mPos_2 mBegun_3 mSort_4 mValue_5 mFault_12 mWrongAt_13 mPaid mRow mRingMuch mRideSum mOwedSum mAllWays mRode mWays mLanes mSizes mCells mTorn mBefore) → lv_has ls 3 [(0, .ref mh), (1, .int r_1), (2, .int r_8)] → W p l e rmX8_readDebt s m args below meth c H locs 0 0 Q (F0 m 50 ls [.int t_14, .ref mh]) := by
      intro H locs ls hw hl
      refine lv_iconst (v := 4) hx hb dX8_readDebt_50 (by decide) ?_
      obtain ⟨mFault_15, mWrongAt_16, hf, h⟩ := b2_inv h
      refine k_callV (host := "") fx hK hA hw (c_X8_needs l D k mh mrSt mrNow mrIsKept mrDraft mrTape mrRow mrRode mrWays mrLanes mrSizes mrCells mrBefore _ mSt mNow mIsKept mPeople mDraft mDPeople mHasDry mToldDebts mHighest mTape mTaped mPos_2 mBegun_3 mSort_4 mValue_5 mFault_12 mWrongAt_13 mPaid mRow mRingMuch mRideSum mOwedSum mAllWays mRode mWays mLanes mSizes mCells mTorn mBefore t_14 4 mFault_15 mWrongAt_16 hf) (cwV 2 hts gX8_readDebt_X8_needs rfl rfl rfl (by decide +kernel) ⟨by decide, by decide⟩) (As := [.int t_14, .int 4]) (wr := []) (ws' := wX8 k mh mrSt mrNow mrIsKept mrDraft mrTape mrRow mrRode mrWays mrLanes mrSizes mrCells mrBefore mSt mNow mIsKept mPeople mDraft mDPeople mHasDry mToldDebts mHighest mTape mTaped mPos_2 mBegun_3 mSort_4 mValue_5 mFault_15 mWrongAt_16 mPaid mRow mRingMuch mRideSum mOwedSum mAllWays mRode mWays mLanes mSizes mCells mTorn mBefore) [0, 1, 2, 3, 4, 5, 6, 7, 8, 9, 10, 11, 12] [] [0, 1, 2, 3, 4, 5, 6, 7, 8, 9, 10, 11, 12] rfl rfl (by decide) (by decide) (by decide) rfl (by decide) 8 rfl rfl [] rfl hl.1 rfl (Nat.le_of_ble_eq_true rfl) dX8_readDebt_51 ⟨by decide, by decide⟩ (fun H locs (hw : Wd D A s.heap H locs (wX8 k mh mrSt mrNow mrIsKept mrDraft mrTape mrRow mrRode mrWays mrLanes mrSizes mrCells mrBefore mSt mNow mIsKept mPeople mDraft mDPeople mHasDry mToldDebts mHighest mTape mTaped mPos_2 mBegun_3 mSort_4 mValue_5 mFault_15 mWrongAt_16 mPaid mRow mRingMuch mRideSum mOwedSum mAllWays mRode mWays mLanes mSizes mCells mTorn mBefore)) => ?_)
      refine W.eq (g2 := F0 m 54 ls ([])) rfl ?_
      refine lv_aload_n hx hb dX8_readDebt_54 rfl (lv_at hl 0 rfl) ?_
      refine lv_dup hx hb dX8_readDebt_55 rfl ?_
      refine va_get (ci := 8) (v := .int mToldDebts) (C := RX8) (T := TX8) (N := 30) hx hb hts hinX8 hown hK.1 hw.1 0 rfl rfl 7 (by decide) q_1 (fun _ h9 => h9) rfl dX8_readDebt_56 ?_
      refine lv_iconst (v := 1) hx hb dX8_readDebt_59 (by decide) ?_
      refine lv_iconst (v := 5) hx hb dX8_readDebt_60 (by decide) ?_
      refine lv_iload_n hx hb dX8_readDebt_61 rfl (lv_at hl 1 rfl) ?_
      refine lv_imul hx hb dX8_readDebt_62 ?_
      refine lv_iload_n hx hb dX8_readDebt_63 rfl (lv_at hl 2 rfl) ?_
      refine lv_iadd hx hb dX8_readDebt_64 ?_
      refine lv_ishl hx hb dX8_readDebt_65 ?_
      refine lv_ior hx hb dX8_readDebt_66 ?_
      refine va_put (ci := 8) (v := .int (mToldDebts ||| ((1 : Int32) <<< (((5 * r_1) + r_8) &&& 31)))) (ty := tyX8 7) (C := RX8) (T := TX8) (N := 30) hx hb hts hinX8 tyX8 tyX8_ok nmX8 hown hK.1 hw.1 hw.2.1 hw.2.2 0 rfl rfl 7 (by decide) q_1 (fun _ h9 => h9) rfl (tyX8_ok 7 (by decide)) rfl rfl (Nat.le_of_ble_eq_true rfl) dX8_readDebt_67 (fun H locs hP hD hS => ?_)
      have hw : Wd D A s.heap H locs (wX8 k mh mrSt mrNow mrIsKept mrDraft mrTape mrRow mrRode mrWays mrLanes mrSizes mrCells mrBefore mSt mNow mIsKept mPeople mDraft mDPeople mHasDry (mToldDebts ||| ((1 : Int32) <<< (((5 * r_1) + r_8) &&& 31))) mHighest mTape mTaped mPos_2 mBegun_3 mSort_4 mValue_5 mFault_15 mWrongAt_16 mPaid mRow mRingMuch mRideSum mOwedSum mAllWays mRode mWays mLanes mSizes mCells mTorn mBefore) := ⟨hP, hD, hS⟩
      refine lv_aload_n hx hb dX8_readDebt_70 rfl (lv_at hl 0 rfl) ?_
      refine lv_iload_n hx hb dX8_readDebt_71 rfl (lv_at hl 1 rfl) ?_
      refine lv_aload_n hx hb dX8_readDebt_72 rfl (lv_at hl 0 rfl) ?_
      refine va_get (ci := 8) (v := .int mHighest) (C := RX8) (T := TX8) (N := 30) hx hb hts hinX8 hown hK.1 hw.1 0 rfl rfl 8 (by decide) q_2 (fun _ h9 => h9) rfl dX8_readDebt_73 ?_
      obtain ⟨t_17, hj_76, h⟩ := b1_inv h
      have J_76 : ∀ (H : Heap) (locs : List Loc) (ls : Array Slot), Wd D A s.heap H locs (wX8 k mh mrSt mrNow mrIsKept mrDraft mrTape mrRow mrRode mrWays mrLanes mrSizes mrCells mrBefore mSt mNow mIsKept mPeople mDraft mDPeople mHasDry (mToldDebts ||| ((1 : Int32) <<< (((5 * r_1) + r_8) &&& 31))) mHighest mTape mTaped mPos_2 mBegun_3 mSort_4 mValue_5 mFault_15 mWrongAt_16 mPaid mRow mRingMuch mRideSum mOwedSum mAllWays mRode mWays mLanes mSizes mCells mTorn mBefore) → lv_has ls 3 [(0, .ref mh), (1, .int r_1), (2, .int r_8)] → W p l e rmX8_readDebt s m args below meth c H locs 0 0 Q (F0 m 87 ls [.int t_17, .ref mh]) := by
        intro H locs ls hw hl
        refine va_put (ci := 8) (v := .int t_17) (ty := tyX8 8) (C := RX8) (T := TX8) (N := 30) hx hb hts hinX8 tyX8 tyX8_ok nmX8 hown hK.1 hw.1 hw.2.1 hw.2.2 0 rfl rfl 8 (by decide) q_2 (fun _ h9 => h9) rfl (tyX8_ok 8 (by decide)) rfl rfl (Nat.le_of_ble_eq_true rfl) dX8_readDebt_87 (fun H locs hP hD hS => ?_)
        have hw : Wd D A s.heap H locs (wX8 k mh mrSt mrNow mrIsKept mrDraft mrTape mrRow mrRode mrWays mrLanes mrSizes mrCells mrBefore mSt mNow mIsKept mPeople mDraft mDPeople mHasDry (mToldDebts ||| ((1 : Int32) <<< (((5 * r_1) + r_8) &&& 31))) t_17 mTape mTaped mPos_2 mBegun_3 mSort_4 mValue_5 mFault_15 mWrongAt_16 mPaid mRow mRingMuch mRideSum mOwedSum mAllWays mRode mWays mLanes mSizes mCells mTorn mBefore) := ⟨hP, hD, hS⟩
        refine lv_aload_n hx hb dX8_readDebt_90 rfl (lv_at hl 0 rfl) ?_
        refine lv_iload_n hx hb dX8_readDebt_91 rfl (lv_at hl 2 rfl) ?_
        refine lv_aload_n hx hb dX8_readDebt_92 rfl (lv_at hl 0 rfl) ?_
        refine va_get (ci := 8) (v := .int t_17) (C := RX8) (T := TX8) (N := 30) hx hb hts hinX8 hown hK.1 hw.1 0 rfl rfl 8 (by decide) q_2 (fun _ h9 => h9) rfl dX8_readDebt_93 ?_
        obtain ⟨t_18, hj_96, h⟩ := b1_inv h
        have J_96 : ∀ (H : Heap) (locs : List Loc) (ls : Array Slot), Wd D A s.heap H locs (wX8 k mh mrSt mrNow mrIsKept mrDraft mrTape mrRow mrRode mrWays mrLanes mrSizes mrCells mrBefore mSt mNow mIsKept mPeople mDraft mDPeople mHasDry (mToldDebts ||| ((1 : Int32) <<< (((5 * r_1) + r_8) &&& 31))) t_17 mTape mTaped mPos_2 mBegun_3 mSort_4 mValue_5 mFault_15 mWrongAt_16 mPaid mRow mRingMuch mRideSum mOwedSum mAllWays mRode mWays mLanes mSizes mCells mTorn mBefore) → lv_has ls 3 [(0, .ref mh), (1, .int r_1), (2, .int r_8)] → W p l e rmX8_readDebt s m args below meth c H locs 0 0 Q (F0 m 107 ls [.int t_18, .ref mh]) := by
          intro H locs ls hw hl
          refine va_put (ci := 8) (v := .int t_18) (ty := tyX8 8) (C := RX8) (T := TX8) (N := 30) hx hb hts hinX8 tyX8 tyX8_ok nmX8 hown hK.1 hw.1 hw.2.1 hw.2.2 0 rfl rfl 8 (by decide) q_2 (fun _ h9 => h9) rfl (tyX8_ok 8 (by decide)) rfl rfl (Nat.le_of_ble_eq_true rfl) dX8_readDebt_107 (fun H locs hP hD hS => ?_)
          have hw : Wd D A s.heap H locs (wX8 k mh mrSt mrNow mrIsKept mrDraft mrTape mrRow mrRode mrWays mrLanes mrSizes mrCells mrBefore mSt mNow mIsKept mPeople mDraft mDPeople mHasDry (mToldDebts ||| ((1 : Int32) <<< (((5 * r_1) + r_8) &&& 31))) t_18 mTape mTaped mPos_2 mBegun_3 mSort_4 mValue_5 mFault_15 mWrongAt_16 mPaid mRow mRingMuch mRideSum mOwedSum mAllWays mRode mWays mLanes mSizes mCells mTorn mBefore) := ⟨hP, hD, hS⟩
          refine lv_aload_n hx hb dX8_readDebt_110 rfl (lv_at hl 0 rfl) ?_
          obtain ⟨mPos_19, mBegun_20, mSort_21, mValue_22, mFault_23, mWrongAt_24, hf, h⟩ := b6_inv h
          refine k_callV (host := "") fx hK hA hw (c_X8_takes l D k mh mrSt mrNow mrIsKept mrDraft mrTape mrRow mrRode mrWays mrLanes mrSizes mrCells mrBefore _ mSt mNow mIsKept mPeople mDraft mDPeople mHasDry (mToldDebts ||| ((1 : Int32) <<< (((5 * r_1) + r_8) &&& 31))) t_18 mTape mTaped mPos_2 mBegun_3 mSort_4 mValue_5 mFault_15 mWrongAt_16 mPaid mRow mRingMuch mRideSum mOwedSum mAllWays mRode mWays mLanes mSizes mCells mTorn mBefore mPos_19 mBegun_20 mSort_21 mValue_22 mFault_23 mWrongAt_24 hf) (cwV 0 hts gX8_readDebt_X8_takes rfl rfl rfl (by decide +kernel) ⟨by decide, by decide⟩) (As := []) (wr := []) (ws' := wX8 k mh mrSt mrNow mrIsKept mrDraft mrTape mrRow mrRode mrWays mrLanes mrSizes mrCells mrBefore mSt mNow mIsKept mPeople mDraft mDPeople mHasDry (mToldDebts ||| ((1 : Int32) <<< (((5 * r_1) + r_8) &&& 31))) t_18 mTape mTaped mPos_19 mBegun_20 mSort_21 mValue_22 mFault_23 mWrongAt_24 mPaid mRow mRingMuch mRideSum mOwedSum mAllWays mRode mWays mLanes mSizes mCells mTorn mBefore) [0, 1, 2, 3, 4, 5, 6, 7, 8, 9, 10, 11, 12] [] [0, 1, 2, 3, 4, 5, 6, 7, 8, 9, 10, 11, 12] rfl rfl (by decide) (by decide) (by decide) rfl (by decide) 8 rfl rfl [] rfl hl.1 rfl (Nat.le_of_ble_eq_true rfl) dX8_readDebt_111 ⟨by decide, by decide⟩ (fun H locs (hw : Wd D A s.heap H locs (wX8 k mh mrSt mrNow mrIsKept mrDraft mrTape mrRow mrRode mrWays mrLanes mrSizes mrCells mrBefore mSt mNow mIsKept mPeople mDraft mDPeople mHasDry (mToldDebts ||| ((1 : Int32) <<< (((5 * r_1) + r_8) &&& 31))) t_18 mTape mTaped mPos_19 mBegun_20 mSort_21 mValue_22 mFault_23 mWrongAt_24 mPaid mRow mRingMuch mRideSum mOwedSum mAllWays mRode mWays mLanes mSizes mCells mTorn mBefore)) => ?_)
          refine W.eq (g2 := F0 m 114 ls ([])) rfl ?_
          refine lv_aload_n hx hb dX8_readDebt_114 rfl (lv_at hl 0 rfl) ?_
          refine va_get (ci := 8) (v := .ref mrDraft) (C := RX8) (T := TX8) (N := 30) hx hb hts hinX8 hown hK.1 hw.1 0 rfl rfl 4 (by decide) q_3 (fun _ h9 => h9) rfl dX8_readDebt_115 ?_
          refine lv_bipush (v := 15) hx hb dX8_readDebt_118 (by decide) ?_
          refine lv_iconst (v := 5) hx hb dX8_readDebt_120 (by decide) ?_
          refine lv_iload_n hx hb dX8_readDebt_121 rfl (lv_at hl 1 rfl) ?_
          refine lv_imul hx hb dX8_readDebt_122 ?_
          refine lv_iadd hx hb dX8_readDebt_123 ?_
          refine lv_iload_n hx hb dX8_readDebt_124 rfl (lv_at hl 2 rfl) ?_
          refine lv_iadd hx hb dX8_readDebt_125 ?_
          refine lv_aload_n hx hb dX8_readDebt_126 rfl (lv_at hl 0 rfl) ?_
          refine lv_iconst (v := 1) hx hb dX8_readDebt_127 (by decide) ?_
          refine lv_bipush (v := 99) hx hb dX8_readDebt_128 (by decide) ?_
          obtain ⟨r_25, mPos_26, mBegun_27, mSort_28, mValue_29, mFault_30, mWrongAt_31, hf, h⟩ := b7_inv h
          refine k_callV (host := "") fx hK hA hw (c_X8_readNumber l D k mh mrSt mrNow mrIsKept mrDraft mrTape mrRow mrRode mrWays mrLanes mrSizes mrCells mrBefore _ mSt mNow mIsKept mPeople mDraft mDPeople mHasDry (mToldDebts ||| ((1 : Int32) <<< (((5 * r_1) + r_8) &&& 31))) t_18 mTape mTaped mPos_19 mBegun_20 mSort_21 mValue_22 mFault_23 mWrongAt_24 mPaid mRow mRingMuch mRideSum mOwedSum mAllWays mRode mWays mLanes mSizes mCells mTorn mBefore 1 99 r_25 mPos_26 mBegun_27 mSort_28 mValue_29 mFault_30 mWrongAt_31 hf) (cwV 2 hts gX8_readDebt_X8_readNumber rfl rfl rfl (by decide +kernel) ⟨by decide, by decide⟩) (As := [.int 1, .int 99]) (wr := []) (ws' := wX8 k mh mrSt mrNow mrIsKept mrDraft mrTape mrRow mrRode mrWays mrLanes mrSizes mrCells mrBefore mSt mNow mIsKept mPeople mDraft mDPeople mHasDry (mToldDebts ||| ((1 : Int32) <<< (((5 * r_1) + r_8) &&& 31))) t_18 mTape mTaped mPos_26 mBegun_27 mSort_28 mValue_29 mFault_30 mWrongAt_31 mPaid mRow mRingMuch mRideSum mOwedSum mAllWays mRode mWays mLanes mSizes mCells mTorn mBefore) [0, 1, 2, 3, 4, 5, 6, 7, 8, 9, 10, 11, 12] [] [0, 1, 2, 3, 4, 5, 6, 7, 8, 9, 10, 11, 12] rfl rfl (by decide) (by decide) (by decide) rfl (by decide) 8 rfl rfl [.int ((15 + (5 * r_1)) + r_8), .ref mrDraft] rfl hl.1 rfl (Nat.le_of_ble_eq_true rfl) dX8_readDebt_130 ⟨by decide, by decide⟩ (fun H locs (hw : Wd D A s.heap H locs (wX8 k mh mrSt mrNow mrIsKept mrDraft mrTape mrRow mrRode mrWays mrLanes mrSizes mrCells mrBefore mSt mNow mIsKept mPeople mDraft mDPeople mHasDry (mToldDebts ||| ((1 : Int32) <<< (((5 * r_1) + r_8) &&& 31))) t_18 mTape mTaped mPos_26 mBegun_27 mSort_28 mValue_29 mFault_30 mWrongAt_31 mPaid mRow mRingMuch mRideSum mOwedSum mAllWays mRode mWays mLanes mSizes mCells mTorn mBefore)) => ?_)
          refine W.eq (g2 := F0 m 133 ls ([.int r_25, .int ((15 + (5 * r_1)) + r_8), .ref mrDraft])) rfl ?_
          refine k_iast hx hb hK hw 4 rfl dX8_readDebt_133 h (fun mDraft_32 h H locs (hw : Wd D A s.heap H locs (wX8 k mh mrSt mrNow mrIsKept mrDraft mrTape mrRow mrRode mrWays mrLanes mrSizes mrCells mrBefore mSt mNow mIsKept mPeople mDraft_32 mDPeople mHasDry (mToldDebts ||| ((1 : Int32) <<< (((5 * r_1) + r_8) &&& 31))) t_18 mTape mTaped mPos_26 mBegun_27 mSort_28 mValue_29 mFault_30 mWrongAt_31 mPaid mRow mRingMuch mRideSum mOwedSum mAllWays mRode mWays mLanes mSizes mCells mTorn mBefore)) => ?_)
          cases h
          exact k_vret hx hb hr hlocks hw dX8_readDebt_134 hQ
        clear h
        have h := hj_96
        refine kb_icmp_le (tgt := 103) hx hb dX8_readDebt_96 (by decide) h (fun c_96 h => ?_) (fun c_96 h => ?_)
        · refine lv_aload_n hx hb dX8_readDebt_103 rfl (lv_at hl 0 rfl) ?_
          refine va_get (ci := 8) (v := .int t_17) (C := RX8) (T := TX8) (N := 30) hx hb hts hinX8 hown hK.1 hw.1 0 rfl rfl 8 (by decide) q_2 (fun _ h9 => h9) rfl dX8_readDebt_104 ?_
          cases h
          exact J_96 _ _ _ hw (lv_sub hl [0, 1, 2] rfl)
        · refine lv_iload_n hx hb dX8_readDebt_99 rfl (lv_at hl 2 rfl) ?_
          refine lv_goto (tgt := 107) hx hb dX8_readDebt_100 (by decide) ?_
          cases h
          exact J_96 _ _ _ hw (lv_sub hl [0, 1, 2] rfl)
      clear h
      have h := hj_76
      refine kb_icmp_le (tgt := 83) hx hb dX8_readDebt_76 (by decide) h (fun c_76 h => ?_) (fun c_76 h => ?_)
      · refine lv_aload_n hx hb dX8_readDebt_83 rfl (lv_at hl 0 rfl) ?_
        refine va_get (ci := 8) (v := .int mHighest) (C := RX8) (T := TX8) (N := 30) hx hb hts hinX8 hown hK.1 hw.1 0 rfl rfl 8 (by decide) q_2 (fun _ h9 => h9) rfl dX8_readDebt_84 ?_
        cases h
        exact J_76 _ _ _ hw (lv_sub hl [0, 1, 2] rfl)
      · refine lv_iload_n hx hb dX8_readDebt_79 rfl (lv_at hl 1 rfl) ?_
        refine lv_goto (tgt := 87) hx hb dX8_readDebt_80 (by decide) ?_
        cases h
        exact J_76 _ _ _ hw (lv_sub hl [0, 1, 2] rfl)
    clear h
    have h := hj_42
    refine kb_if_ne (tgt := 49) hx hb dX8_readDebt_42 (by decide) h (fun c_42 h => ?_) (fun c_42 h => ?_)
    · refine lv_iconst (v := 1) hx hb dX8_readDebt_45 (by decide) ?_
      refine lv_goto (tgt := 50) hx hb dX8_readDebt_46 (by decide) ?_
      cases h
      exact J_42 _ _ _ hw (lv_sub hl [0, 1, 2] rfl)
    · refine lv_iconst (v := 0) hx hb dX8_readDebt_49 (by decide) ?_
      cases h
      exact J_42 _ _ _ hw (lv_sub hl [0, 1, 2] rfl)
  clear h
  have h := hj_17
  refine kb_icmp_eq (tgt := 24) hx hb dX8_readDebt_17 (by decide) h (fun c_17 h => ?_) (fun c_17 h => ?_)
  · refine lv_iconst (v := 0) hx hb dX8_readDebt_24 (by decide) ?_
    cases h
    exact J_17 _ _ _ hw (lv_sub hl [2, 1, 0] rfl)
  · refine lv_iconst (v := 1) hx hb dX8_readDebt_20 (by decide) ?_
    refine lv_goto (tgt := 25) hx hb dX8_readDebt_21 (by decide) ?_
    cases h
    exact J_17 _ _ _ hw (lv_sub hl [2, 1, 0] rfl)
abbrev rmX8_readLineOf : Room := { frames := 4, cells := 0, slots := 0, locals := 92 }
set_option maxHeartbeats 4000000 in
set_option maxRecDepth 100000 in
theorem c_X8_readLineOf (l : Launch) (D : va_G) (k : Nat → ClassId) (mh mrSt mrNow mrIsKept mrDraft mrTape mrRow mrRode mrWays mrLanes mrSizes mrCells mrBefore : Nat) (sz : Nat) (mSt : (Nat → Int32)) (mNow : (Nat → Int32)) (mIsKept : (Nat → Int32)) (mPeople : Int32) (mDraft : (Nat → Int32)) (mDPeople : Int32) (mHasDry : Int32) (mToldDebts : Int32) (mHighest : Int32) (mTape : (Nat → Int32)) (mTaped : Int32) (mPos : Int32) (mBegun : Int32) (mSort : Int32) (mValue : Int32) (mFault : Int32) (mWrongAt : Int32) (mPaid : Int32) (mRow : (Nat → Int32)) (mRingMuch : Int32) (mRideSum : Int64) (mOwedSum : Int64) (mAllWays : Int64) (mRode : (Nat → Int32)) (mWays : (Nat → Int32)) (mLanes : (Nat → Int32)) (mSizes : (Nat → Int32)) (mCells : (Nat → Int32)) (mTorn : Int32) (mBefore : (Nat → Int32)) (p1 : Int32) (n_mDraft : (Nat → Int32)) (n_mDPeople : Int32) (n_mToldDebts : Int32) (n_mHighest : Int32) (n_mPos : Int32) (n_mBegun : Int32) (n_mSort : Int32) (n_mValue : Int32) (n_mFault : Int32) (n_mWrongAt : Int32) (hf : f_X8_readLineOf mDraft mDPeople mToldDebts mHighest mTape mTaped mPos mBegun mSort mValue mFault mWrongAt p1 = some (n_mDraft, n_mDPeople, n_mToldDebts, n_mHighest, n_mPos, n_mBegun, n_mSort, n_mValue, n_mFault, n_mWrongAt)) : mR l yX8_readLineOf wsX8_readLineOf rmX8_readLineOf D k sz [.ref mh, .int p1] (wX8 k mh mrSt mrNow mrIsKept mrDraft mrTape mrRow mrRode mrWays mrLanes mrSizes mrCells mrBefore mSt mNow mIsKept mPeople mDraft mDPeople mHasDry mToldDebts mHighest mTape mTaped mPos mBegun mSort mValue mFault mWrongAt mPaid mRow mRingMuch mRideSum mOwedSum mAllWays mRode mWays mLanes mSizes mCells mTorn mBefore) (wX8 k mh mrSt mrNow mrIsKept mrDraft mrTape mrRow mrRode mrWays mrLanes mrSizes mrCells mrBefore mSt mNow mIsKept mPeople n_mDraft n_mDPeople mHasDry n_mToldDebts n_mHighest mTape mTaped n_mPos n_mBegun n_mSort n_mValue n_mFault n_mWrongAt mPaid mRow mRingMuch mRideSum mOwedSum mAllWays mRode mWays mLanes mSizes mCells mTorn mBefore) (none) := by
  refine mR_of (cc := cX8_readLineOf) (maxL := 2) (ret := none) (by decide) rfl (Nat.le_of_ble_eq_true rfl) [(0, .ref mh), (1, .int p1)] rfl ?_
  intro p e s m below meth c A ls args Q cx hK hA hw hl hQ
  have fx := cx.1
  obtain ⟨⟨hx, hb, hml, hown, hts⟩, hr, hlocks⟩ := cx
  have hinX8 : ∀ w ∈ wsX80, w ∈ wsX8_readLineOf := fun w h => List.mem_cons_of_mem _ (List.mem_append_right _ h)
  have q_1 := hts (.fieldLink RX8 20 "DebtRidesModel" "draft" "[I") (List.mem_of_getElem? (i := 1) rfl)
  have q_2 := hts (.fieldLink RX8 53 "DebtRidesModel" "dPeople" "I") (List.mem_of_getElem? (i := 2) rfl)
  have h := hf
  unfold f_X8_readLineOf at h
  clear hf
  refine lv_iload_n hx hb dX8_readLineOf_0 rfl (lv_at hl 1 rfl) ?_
  by_cases c1_4 : p1 = 4
  · rw [if_pos c1_4] at h
    refine lv_lookup (off := 27) (tgt := 28) hx hb dX8_readLineOf_1 (by decide) (by rw [c1_4]; rfl) (by decide) ?_
    refine lv_aload_n hx hb dX8_readLineOf_28 rfl (lv_at hl 0 rfl) ?_
    obtain ⟨mDraft_1, mToldDebts_2, mHighest_3, mPos_4, mBegun_5, mSort_6, mValue_7, mFault_8, mWrongAt_9, hf, h⟩ := b9_inv h
    refine k_callV (host := "") fx hK hA hw (c_X8_readDebt l D k mh mrSt mrNow mrIsKept mrDraft mrTape mrRow mrRode mrWays mrLanes mrSizes mrCells mrBefore _ mSt mNow mIsKept mPeople mDraft mDPeople mHasDry mToldDebts mHighest mTape mTaped mPos mBegun mSort mValue mFault mWrongAt mPaid mRow mRingMuch mRideSum mOwedSum mAllWays mRode mWays mLanes mSizes mCells mTorn mBefore mDraft_1 mToldDebts_2 mHighest_3 mPos_4 mBegun_5 mSort_6 mValue_7 mFault_8 mWrongAt_9 hf) (cwV 0 hts gX8_readLineOf_X8_readDebt rfl rfl rfl (by decide +kernel) ⟨by decide, by decide⟩) (As := []) (wr := []) (ws' := wX8 k mh mrSt mrNow mrIsKept mrDraft mrTape mrRow mrRode mrWays mrLanes mrSizes mrCells mrBefore mSt mNow mIsKept mPeople mDraft_1 mDPeople mHasDry mToldDebts_2 mHighest_3 mTape mTaped mPos_4 mBegun_5 mSort_6 mValue_7 mFault_8 mWrongAt_9 mPaid mRow mRingMuch mRideSum mOwedSum mAllWays mRode mWays mLanes mSizes mCells mTorn mBefore) [0, 1, 2, 3, 4, 5, 6, 7, 8, 9, 10, 11, 12] [] [0, 1, 2, 3, 4, 5, 6, 7, 8, 9, 10, 11, 12] rfl rfl (by decide) (by decide) (by decide) rfl (by decide) 8 rfl rfl [] rfl hl.1 rfl (Nat.le_of_ble_eq_true rfl) dX8_readLineOf_29 ⟨by decide, by decide⟩ (fun H locs (hw : Wd D A s.heap H locs (wX8 k mh mrSt mrNow mrIsKept mrDraft mrTape mrRow mrRode mrWays mrLanes mrSizes mrCells mrBefore mSt mNow mIsKept mPeople mDraft_1 mDPeople mHasDry mToldDebts_2 mHighest_3 mTape mTaped mPos_4 mBegun_5 mSort_6 mValue_7 mFault_8 mWrongAt_9 mPaid mRow mRingMuch mRideSum mOwedSum mAllWays mRode mWays mLanes mSizes mCells mTorn mBefore)) => ?_)
    refine W.eq (g2 := F0 m 32 ls ([])) rfl ?_
    refine lv_goto (tgt := 116) hx hb dX8_readLineOf_32 (by decide) ?_
    cases h
    exact k_vret hx hb hr hlocks hw dX8_readLineOf_116 hQ
  · rw [if_neg c1_4] at h
    by_cases c1_5 : p1 = 5
    · rw [if_pos c1_5] at h
      refine lv_lookup (off := 34) (tgt := 35) hx hb dX8_readLineOf_1 (by decide) (by rw [c1_5]; rfl) (by decide) ?_
      refine lv_aload_n hx hb dX8_readLineOf_35 rfl (lv_at hl 0 rfl) ?_
      refine va_get (ci := 8) (v := .ref mrDraft) (C := RX8) (T := TX8) (N := 30) hx hb hts hinX8 hown hK.1 hw.1 0 rfl rfl 4 (by decide) q_1 (fun _ h9 => h9) rfl dX8_readLineOf_36 ?_
      refine lv_bipush (v := 41) hx hb dX8_readLineOf_39 (by decide) ?_
      refine lv_aload_n hx hb dX8_readLineOf_41 rfl (lv_at hl 0 rfl) ?_
      refine lv_iconst (v := 0) hx hb dX8_readLineOf_42 (by decide) ?_
      refine lv_bipush (v := 9) hx hb dX8_readLineOf_43 (by decide) ?_
      obtain ⟨r_10, mPos_11, mBegun_12, mSort_13, mValue_14, mFault_15, mWrongAt_16, hf, h⟩ := b7_inv h
      refine k_callV (host := "") fx hK hA hw (c_X8_readNumber l D k mh mrSt mrNow mrIsKept mrDraft mrTape mrRow mrRode mrWays mrLanes mrSizes mrCells mrBefore _ mSt mNow mIsKept mPeople mDraft mDPeople mHasDry mToldDebts mHighest mTape mTaped mPos mBegun mSort mValue mFault mWrongAt mPaid mRow mRingMuch mRideSum mOwedSum mAllWays mRode mWays mLanes mSizes mCells mTorn mBefore 0 9 r_10 mPos_11 mBegun_12 mSort_13 mValue_14 mFault_15 mWrongAt_16 hf) (cwV 2 hts gX8_readLineOf_X8_readNumber rfl rfl rfl (by decide +kernel) ⟨by decide, by decide⟩) (As := [.int 0, .int 9]) (wr := []) (ws' := wX8 k mh mrSt mrNow mrIsKept mrDraft mrTape mrRow mrRode mrWays mrLanes mrSizes mrCells mrBefore mSt mNow mIsKept mPeople mDraft mDPeople mHasDry mToldDebts mHighest mTape mTaped mPos_11 mBegun_12 mSort_13 mValue_14 mFault_15 mWrongAt_16 mPaid mRow mRingMuch mRideSum mOwedSum mAllWays mRode mWays mLanes mSizes mCells mTorn mBefore) [0, 1, 2, 3, 4, 5, 6, 7, 8, 9, 10, 11, 12] [] [0, 1, 2, 3, 4, 5, 6, 7, 8, 9, 10, 11, 12] rfl rfl (by decide) (by decide) (by decide) rfl (by decide) 8 rfl rfl [.int 41, .ref mrDraft] rfl hl.1 rfl (Nat.le_of_ble_eq_true rfl) dX8_readLineOf_45 ⟨by decide, by decide⟩ (fun H locs (hw : Wd D A s.heap H locs (wX8 k mh mrSt mrNow mrIsKept mrDraft mrTape mrRow mrRode mrWays mrLanes mrSizes mrCells mrBefore mSt mNow mIsKept mPeople mDraft mDPeople mHasDry mToldDebts mHighest mTape mTaped mPos_11 mBegun_12 mSort_13 mValue_14 mFault_15 mWrongAt_16 mPaid mRow mRingMuch mRideSum mOwedSum mAllWays mRode mWays mLanes mSizes mCells mTorn mBefore)) => ?_)
      refine W.eq (g2 := F0 m 48 ls ([.int r_10, .int 41, .ref mrDraft])) rfl ?_
      refine k_iast hx hb hK hw 4 rfl dX8_readLineOf_48 h (fun mDraft_17 h H locs (hw : Wd D A s.heap H locs (wX8 k mh mrSt mrNow mrIsKept mrDraft mrTape mrRow mrRode mrWays mrLanes mrSizes mrCells mrBefore mSt mNow mIsKept mPeople mDraft_17 mDPeople mHasDry mToldDebts mHighest mTape mTaped mPos_11 mBegun_12 mSort_13 mValue_14 mFault_15 mWrongAt_16 mPaid mRow mRingMuch mRideSum mOwedSum mAllWays mRode mWays mLanes mSizes mCells mTorn mBefore)) => ?_)
      refine lv_goto (tgt := 116) hx hb dX8_readLineOf_49 (by decide) ?_
      cases h
      exact k_vret hx hb hr hlocks hw dX8_readLineOf_116 hQ
    · rw [if_neg c1_5] at h
      refine lv_lookup (off := 51) (tgt := 52) hx hb dX8_readLineOf_1 (by decide) (by have q4 : p1.toInt ≠ 4 := sw_ne c1_4; have q5 : p1.toInt ≠ 5 := sw_ne c1_5; simp [Op.lookupswitch.offset, q4, Ne.symm q4, q5, Ne.symm q5]) (by decide) ?_
      refine lv_aload_n hx hb dX8_readLineOf_52 rfl (lv_at hl 0 rfl) ?_
      refine va_get (ci := 8) (v := .ref mrDraft) (C := RX8) (T := TX8) (N := 30) hx hb hts hinX8 hown hK.1 hw.1 0 rfl rfl 4 (by decide) q_1 (fun _ h9 => h9) rfl dX8_readLineOf_53 ?_
      refine lv_iconst (v := 3) hx hb dX8_readLineOf_56 (by decide) ?_
      refine lv_aload_n hx hb dX8_readLineOf_57 rfl (lv_at hl 0 rfl) ?_
      refine va_get (ci := 8) (v := .int mDPeople) (C := RX8) (T := TX8) (N := 30) hx hb hts hinX8 hown hK.1 hw.1 0 rfl rfl 5 (by decide) q_2 (fun _ h9 => h9) rfl dX8_readLineOf_58 ?_
      refine lv_imul hx hb dX8_readLineOf_61 ?_
      refine lv_iconst (v := 0) hx hb dX8_readLineOf_62 (by decide) ?_
      refine lv_iadd hx hb dX8_readLineOf_63 ?_
      refine lv_iload_n hx hb dX8_readLineOf_64 rfl (lv_at hl 1 rfl) ?_
      refine k_iast hx hb hK hw 4 rfl dX8_readLineOf_65 h (fun mDraft_18 h H locs (hw : Wd D A s.heap H locs (wX8 k mh mrSt mrNow mrIsKept mrDraft mrTape mrRow mrRode mrWays mrLanes mrSizes mrCells mrBefore mSt mNow mIsKept mPeople mDraft_18 mDPeople mHasDry mToldDebts mHighest mTape mTaped mPos mBegun mSort mValue mFault mWrongAt mPaid mRow mRingMuch mRideSum mOwedSum mAllWays mRode mWays mLanes mSizes mCells mTorn mBefore)) => ?_)
      refine lv_aload_n hx hb dX8_readLineOf_66 rfl (lv_at hl 0 rfl) ?_
      refine va_get (ci := 8) (v := .ref mrDraft) (C := RX8) (T := TX8) (N := 30) hx hb hts hinX8 hown hK.1 hw.1 0 rfl rfl 4 (by decide) q_1 (fun _ h9 => h9) rfl dX8_readLineOf_67 ?_
      refine lv_iconst (v := 3) hx hb dX8_readLineOf_70 (by decide) ?_
      refine lv_aload_n hx hb dX8_readLineOf_71 rfl (lv_at hl 0 rfl) ?_
      refine va_get (ci := 8) (v := .int mDPeople) (C := RX8) (T := TX8) (N := 30) hx hb hts hinX8 hown hK.1 hw.1 0 rfl rfl 5 (by decide) q_2 (fun _ h9 => h9) rfl dX8_readLineOf_72 ?_
      refine lv_imul hx hb dX8_readLineOf_75 ?_
      refine lv_iconst (v := 1) hx hb dX8_readLineOf_76 (by decide) ?_
      refine lv_iadd hx hb dX8_readLineOf_77 ?_
      refine lv_aload_n hx hb dX8_readLineOf_78 rfl (lv_at hl 0 rfl) ?_
      refine lv_iconst (v := 0) hx hb dX8_readLineOf_79 (by decide) ?_
      refine lv_bipush (v := 99) hx hb dX8_readLineOf_80 (by decide) ?_
      obtain ⟨r_19, mPos_20, mBegun_21, mSort_22, mValue_23, mFault_24, mWrongAt_25, hf, h⟩ := b7_inv h
      refine k_callV (host := "") fx hK hA hw (c_X8_readNumber l D k mh mrSt mrNow mrIsKept mrDraft mrTape mrRow mrRode mrWays mrLanes mrSizes mrCells mrBefore _ mSt mNow mIsKept mPeople mDraft_18 mDPeople mHasDry mToldDebts mHighest mTape mTaped mPos mBegun mSort mValue mFault mWrongAt mPaid mRow mRingMuch mRideSum mOwedSum mAllWays mRode mWays mLanes mSizes mCells mTorn mBefore 0 99 r_19 mPos_20 mBegun_21 mSort_22 mValue_23 mFault_24 mWrongAt_25 hf) (cwV 2 hts gX8_readLineOf_X8_readNumber rfl rfl rfl (by decide +kernel) ⟨by decide, by decide⟩) (As := [.int 0, .int 99]) (wr := []) (ws' := wX8 k mh mrSt mrNow mrIsKept mrDraft mrTape mrRow mrRode mrWays mrLanes mrSizes mrCells mrBefore mSt mNow mIsKept mPeople mDraft_18 mDPeople mHasDry mToldDebts mHighest mTape mTaped mPos_20 mBegun_21 mSort_22 mValue_23 mFault_24 mWrongAt_25 mPaid mRow mRingMuch mRideSum mOwedSum mAllWays mRode mWays mLanes mSizes mCells mTorn mBefore) [0, 1, 2, 3, 4, 5, 6, 7, 8, 9, 10, 11, 12] [] [0, 1, 2, 3, 4, 5, 6, 7, 8, 9, 10, 11, 12] rfl rfl (by decide) (by decide) (by decide) rfl (by decide) 8 rfl rfl [.int ((3 * mDPeople) + 1), .ref mrDraft] rfl hl.1 rfl (Nat.le_of_ble_eq_true rfl) dX8_readLineOf_82 ⟨by decide, by decide⟩ (fun H locs (hw : Wd D A s.heap H locs (wX8 k mh mrSt mrNow mrIsKept mrDraft mrTape mrRow mrRode mrWays mrLanes mrSizes mrCells mrBefore mSt mNow mIsKept mPeople mDraft_18 mDPeople mHasDry mToldDebts mHighest mTape mTaped mPos_20 mBegun_21 mSort_22 mValue_23 mFault_24 mWrongAt_25 mPaid mRow mRingMuch mRideSum mOwedSum mAllWays mRode mWays mLanes mSizes mCells mTorn mBefore)) => ?_)
      refine W.eq (g2 := F0 m 85 ls ([.int r_19, .int ((3 * mDPeople) + 1), .ref mrDraft])) rfl ?_
      refine k_iast hx hb hK hw 4 rfl dX8_readLineOf_85 h (fun mDraft_26 h H locs (hw : Wd D A s.heap H locs (wX8 k mh mrSt mrNow mrIsKept mrDraft mrTape mrRow mrRode mrWays mrLanes mrSizes mrCells mrBefore mSt mNow mIsKept mPeople mDraft_26 mDPeople mHasDry mToldDebts mHighest mTape mTaped mPos_20 mBegun_21 mSort_22 mValue_23 mFault_24 mWrongAt_25 mPaid mRow mRingMuch mRideSum mOwedSum mAllWays mRode mWays mLanes mSizes mCells mTorn mBefore)) => ?_)
      refine lv_aload_n hx hb dX8_readLineOf_86 rfl (lv_at hl 0 rfl) ?_
      refine va_get (ci := 8) (v := .ref mrDraft) (C := RX8) (T := TX8) (N := 30) hx hb hts hinX8 hown hK.1 hw.1 0 rfl rfl 4 (by decide) q_1 (fun _ h9 => h9) rfl dX8_readLineOf_87 ?_
      refine lv_iconst (v := 3) hx hb dX8_readLineOf_90 (by decide) ?_
      refine lv_aload_n hx hb dX8_readLineOf_91 rfl (lv_at hl 0 rfl) ?_
      refine va_get (ci := 8) (v := .int mDPeople) (C := RX8) (T := TX8) (N := 30) hx hb hts hinX8 hown hK.1 hw.1 0 rfl rfl 5 (by decide) q_2 (fun _ h9 => h9) rfl dX8_readLineOf_92 ?_
      refine lv_imul hx hb dX8_readLineOf_95 ?_
      refine lv_iconst (v := 2) hx hb dX8_readLineOf_96 (by decide) ?_
      refine lv_iadd hx hb dX8_readLineOf_97 ?_
      refine lv_aload_n hx hb dX8_readLineOf_98 rfl (lv_at hl 0 rfl) ?_
      refine lv_iconst (v := 0) hx hb dX8_readLineOf_99 (by decide) ?_
      refine lv_bipush (v := 9) hx hb dX8_readLineOf_100 (by decide) ?_
      obtain ⟨r_27, mPos_28, mBegun_29, mSort_30, mValue_31, mFault_32, mWrongAt_33, hf, h⟩ := b7_inv h
      refine k_callV (host := "") fx hK hA hw (c_X8_readNumber l D k mh mrSt mrNow mrIsKept mrDraft mrTape mrRow mrRode mrWays mrLanes mrSizes mrCells mrBefore _ mSt mNow mIsKept mPeople mDraft_26 mDPeople mHasDry mToldDebts mHighest mTape mTaped mPos_20 mBegun_21 mSort_22 mValue_23 mFault_24 mWrongAt_25 mPaid mRow mRingMuch mRideSum mOwedSum mAllWays mRode mWays mLanes mSizes mCells mTorn mBefore 0 9 r_27 mPos_28 mBegun_29 mSort_30 mValue_31 mFault_32 mWrongAt_33 hf) (cwV 2 hts gX8_readLineOf_X8_readNumber rfl rfl rfl (by decide +kernel) ⟨by decide, by decide⟩) (As := [.int 0, .int 9]) (wr := []) (ws' := wX8 k mh mrSt mrNow mrIsKept mrDraft mrTape mrRow mrRode mrWays mrLanes mrSizes mrCells mrBefore mSt mNow mIsKept mPeople mDraft_26 mDPeople mHasDry mToldDebts mHighest mTape mTaped mPos_28 mBegun_29 mSort_30 mValue_31 mFault_32 mWrongAt_33 mPaid mRow mRingMuch mRideSum mOwedSum mAllWays mRode mWays mLanes mSizes mCells mTorn mBefore) [0, 1, 2, 3, 4, 5, 6, 7, 8, 9, 10, 11, 12] [] [0, 1, 2, 3, 4, 5, 6, 7, 8, 9, 10, 11, 12] rfl rfl (by decide) (by decide) (by decide) rfl (by decide) 8 rfl rfl [.int ((3 * mDPeople) + 2), .ref mrDraft] rfl hl.1 rfl (Nat.le_of_ble_eq_true rfl) dX8_readLineOf_102 ⟨by decide, by decide⟩ (fun H locs (hw : Wd D A s.heap H locs (wX8 k mh mrSt mrNow mrIsKept mrDraft mrTape mrRow mrRode mrWays mrLanes mrSizes mrCells mrBefore mSt mNow mIsKept mPeople mDraft_26 mDPeople mHasDry mToldDebts mHighest mTape mTaped mPos_28 mBegun_29 mSort_30 mValue_31 mFault_32 mWrongAt_33 mPaid mRow mRingMuch mRideSum mOwedSum mAllWays mRode mWays mLanes mSizes mCells mTorn mBefore)) => ?_)
      refine W.eq (g2 := F0 m 105 ls ([.int r_27, .int ((3 * mDPeople) + 2), .ref mrDraft])) rfl ?_
      refine k_iast hx hb hK hw 4 rfl dX8_readLineOf_105 h (fun mDraft_34 h H locs (hw : Wd D A s.heap H locs (wX8 k mh mrSt mrNow mrIsKept mrDraft mrTape mrRow mrRode mrWays mrLanes mrSizes mrCells mrBefore mSt mNow mIsKept mPeople mDraft_34 mDPeople mHasDry mToldDebts mHighest mTape mTaped mPos_28 mBegun_29 mSort_30 mValue_31 mFault_32 mWrongAt_33 mPaid mRow mRingMuch mRideSum mOwedSum mAllWays mRode mWays mLanes mSizes mCells mTorn mBefore)) => ?_)
      refine lv_aload_n hx hb dX8_readLineOf_106 rfl (lv_at hl 0 rfl) ?_
      refine lv_dup hx hb dX8_readLineOf_107 rfl ?_
      refine va_get (ci := 8) (v := .int mDPeople) (C := RX8) (T := TX8) (N := 30) hx hb hts hinX8 hown hK.1 hw.1 0 rfl rfl 5 (by decide) q_2 (fun _ h9 => h9) rfl dX8_readLineOf_108 ?_
      refine lv_iconst (v := 1) hx hb dX8_readLineOf_111 (by decide) ?_
      refine lv_iadd hx hb dX8_readLineOf_112 ?_
      refine va_put (ci := 8) (v := .int (mDPeople + 1)) (ty := tyX8 5) (C := RX8) (T := TX8) (N := 30) hx hb hts hinX8 tyX8 tyX8_ok nmX8 hown hK.1 hw.1 hw.2.1 hw.2.2 0 rfl rfl 5 (by decide) q_2 (fun _ h9 => h9) rfl (tyX8_ok 5 (by decide)) rfl rfl (Nat.le_of_ble_eq_true rfl) dX8_readLineOf_113 (fun H locs hP hD hS => ?_)
      have hw : Wd D A s.heap H locs (wX8 k mh mrSt mrNow mrIsKept mrDraft mrTape mrRow mrRode mrWays mrLanes mrSizes mrCells mrBefore mSt mNow mIsKept mPeople mDraft_34 (mDPeople + 1) mHasDry mToldDebts mHighest mTape mTaped mPos_28 mBegun_29 mSort_30 mValue_31 mFault_32 mWrongAt_33 mPaid mRow mRingMuch mRideSum mOwedSum mAllWays mRode mWays mLanes mSizes mCells mTorn mBefore) := ⟨hP, hD, hS⟩
      cases h
      exact k_vret hx hb hr hlocks hw dX8_readLineOf_116 hQ
abbrev rmX8_readLine : Room := { frames := 5, cells := 0, slots := 0, locals := 113 }
set_option maxHeartbeats 4000000 in
set_option maxRecDepth 100000 in
theorem c_X8_readLine (l : Launch) (D : va_G) (k : Nat → ClassId) (mh mrSt mrNow mrIsKept mrDraft mrTape mrRow mrRode mrWays mrLanes mrSizes mrCells mrBefore : Nat) (sz : Nat) (mSt : (Nat → Int32)) (mNow : (Nat → Int32)) (mIsKept : (Nat → Int32)) (mPeople : Int32) (mDraft : (Nat → Int32)) (mDPeople : Int32) (mHasDry : Int32) (mToldDebts : Int32) (mHighest : Int32) (mTape : (Nat → Int32)) (mTaped : Int32) (mPos : Int32) (mBegun : Int32) (mSort : Int32) (mValue : Int32) (mFault : Int32) (mWrongAt : Int32) (mPaid : Int32) (mRow : (Nat → Int32)) (mRingMuch : Int32) (mRideSum : Int64) (mOwedSum : Int64) (mAllWays : Int64) (mRode : (Nat → Int32)) (mWays : (Nat → Int32)) (mLanes : (Nat → Int32)) (mSizes : (Nat → Int32)) (mCells : (Nat → Int32)) (mTorn : Int32) (mBefore : (Nat → Int32)) (n_mDraft : (Nat → Int32)) (n_mDPeople : Int32) (n_mHasDry : Int32) (n_mToldDebts : Int32) (n_mHighest : Int32) (n_mPos : Int32) (n_mBegun : Int32) (n_mSort : Int32) (n_mValue : Int32) (n_mFault : Int32) (n_mWrongAt : Int32) (hf : f_X8_readLine mDraft mDPeople mHasDry mToldDebts mHighest mTape mTaped mPos mBegun mSort mValue mFault mWrongAt = some (n_mDraft, n_mDPeople, n_mHasDry, n_mToldDebts, n_mHighest, n_mPos, n_mBegun, n_mSort, n_mValue, n_mFault, n_mWrongAt)) : mR l yX8_readLine wsX8_readLine rmX8_readLine D k sz [.ref mh] (wX8 k mh mrSt mrNow mrIsKept mrDraft mrTape mrRow mrRode mrWays mrLanes mrSizes mrCells mrBefore mSt mNow mIsKept mPeople mDraft mDPeople mHasDry mToldDebts mHighest mTape mTaped mPos mBegun mSort mValue mFault mWrongAt mPaid mRow mRingMuch mRideSum mOwedSum mAllWays mRode mWays mLanes mSizes mCells mTorn mBefore) (wX8 k mh mrSt mrNow mrIsKept mrDraft mrTape mrRow mrRode mrWays mrLanes mrSizes mrCells mrBefore mSt mNow mIsKept mPeople n_mDraft n_mDPeople n_mHasDry n_mToldDebts n_mHighest mTape mTaped n_mPos n_mBegun n_mSort n_mValue n_mFault n_mWrongAt mPaid mRow mRingMuch mRideSum mOwedSum mAllWays mRode mWays mLanes mSizes mCells mTorn mBefore) (none) := by
  refine mR_of (cc := cX8_readLine) (maxL := 2) (ret := none) (by decide) rfl (Nat.le_of_ble_eq_true rfl) [(0, .ref mh)] rfl ?_
  intro p e s m below meth c A ls args Q cx hK hA hw hl hQ
  have fx := cx.1
  obtain ⟨⟨hx, hb, hml, hown, hts⟩, hr, hlocks⟩ := cx
  have hinX8 : ∀ w ∈ wsX80, w ∈ wsX8_readLine := fun w h => List.mem_cons_of_mem _ (List.mem_append_right _ h)
  have q_1 := hts (.fieldLink RX8 103 "DebtRidesModel" "sort" "I") (List.mem_of_getElem? (i := 1) rfl)
  have q_2 := hts (.fieldLink RX8 53 "DebtRidesModel" "dPeople" "I") (List.mem_of_getElem? (i := 2) rfl)
  have q_3 := hts (.fieldLink RX8 57 "DebtRidesModel" "hasDry" "Z") (List.mem_of_getElem? (i := 3) rfl)
  have q_4 := hts (.fieldLink RX8 79 "DebtRidesModel" "fault" "I") (List.mem_of_getElem? (i := 4) rfl)
  have h := hf
  unfold f_X8_readLine at h
  clear hf
  refine lv_aload_n hx hb dX8_readLine_0 rfl (lv_at hl 0 rfl) ?_
  refine va_get (ci := 8) (v := .int mSort) (C := RX8) (T := TX8) (N := 30) hx hb hts hinX8 hown hK.1 hw.1 0 rfl rfl 13 (by decide) q_1 (fun _ h9 => h9) rfl dX8_readLine_1 ?_
  refine lv_iconst (v := 1) hx hb dX8_readLine_4 (by decide) ?_
  obtain ⟨t_1, hj_5, h⟩ := b1_inv h
  have J_5 : ∀ (H : Heap) (locs : List Loc) (ls : Array Slot), Wd D A s.heap H locs (wX8 k mh mrSt mrNow mrIsKept mrDraft mrTape mrRow mrRode mrWays mrLanes mrSizes mrCells mrBefore mSt mNow mIsKept mPeople mDraft mDPeople mHasDry mToldDebts mHighest mTape mTaped mPos mBegun mSort mValue mFault mWrongAt mPaid mRow mRingMuch mRideSum mOwedSum mAllWays mRode mWays mLanes mSizes mCells mTorn mBefore) → lv_has ls 2 [(0, .ref mh)] → W p l e rmX8_readLine s m args below meth c H locs 0 0 Q (F0 m 17 ls [.int t_1]) := by
    intro H locs ls hw hl
    refine lv_istore_n (lv' := [(1, .int t_1), (0, .ref mh)]) hx hb dX8_readLine_17 rfl hl (by decide) rfl (fun ls hl => ?_)
    refine lv_aload_n hx hb dX8_readLine_18 rfl (lv_at hl 1 rfl) ?_
    refine lv_iload_n hx hb dX8_readLine_19 rfl (lv_at hl 0 rfl) ?_
    refine lv_bipush (v := (-4)) hx hb dX8_readLine_20 (by decide) ?_
    obtain ⟨t_3, hj_22, h⟩ := b1_inv h
    have J_22 : ∀ (H : Heap) (locs : List Loc) (ls : Array Slot), Wd D A s.heap H locs (wX8 k mh mrSt mrNow mrIsKept mrDraft mrTape mrRow mrRode mrWays mrLanes mrSizes mrCells mrBefore mSt mNow mIsKept mPeople mDraft mDPeople mHasDry mToldDebts mHighest mTape mTaped mPos mBegun mSort mValue mFault mWrongAt mPaid mRow mRingMuch mRideSum mOwedSum mAllWays mRode mWays mLanes mSizes mCells mTorn mBefore) → lv_has ls 2 [(0, .ref mh), (1, .int t_1)] → W p l e rmX8_readLine s m args below meth c H locs 0 0 Q (F0 m 30 ls [.int t_3, .ref mh]) := by
      intro H locs ls hw hl
      refine lv_iconst (v := 2) hx hb dX8_readLine_30 (by decide) ?_
      obtain ⟨mFault_4, mWrongAt_5, hf, h⟩ := b2_inv h
      refine k_callV (host := "") fx hK hA hw (c_X8_needs l D k mh mrSt mrNow mrIsKept mrDraft mrTape mrRow mrRode mrWays mrLanes mrSizes mrCells mrBefore _ mSt mNow mIsKept mPeople mDraft mDPeople mHasDry mToldDebts mHighest mTape mTaped mPos mBegun mSort mValue mFault mWrongAt mPaid mRow mRingMuch mRideSum mOwedSum mAllWays mRode mWays mLanes mSizes mCells mTorn mBefore t_3 2 mFault_4 mWrongAt_5 hf) (cwV 2 hts gX8_readLine_X8_needs rfl rfl rfl (by decide +kernel) ⟨by decide, by decide⟩) (As := [.int t_3, .int 2]) (wr := []) (ws' := wX8 k mh mrSt mrNow mrIsKept mrDraft mrTape mrRow mrRode mrWays mrLanes mrSizes mrCells mrBefore mSt mNow mIsKept mPeople mDraft mDPeople mHasDry mToldDebts mHighest mTape mTaped mPos mBegun mSort mValue mFault_4 mWrongAt_5 mPaid mRow mRingMuch mRideSum mOwedSum mAllWays mRode mWays mLanes mSizes mCells mTorn mBefore) [0, 1, 2, 3, 4, 5, 6, 7, 8, 9, 10, 11, 12] [] [0, 1, 2, 3, 4, 5, 6, 7, 8, 9, 10, 11, 12] rfl rfl (by decide) (by decide) (by decide) rfl (by decide) 8 rfl rfl [] rfl hl.1 rfl (Nat.le_of_ble_eq_true rfl) dX8_readLine_31 ⟨by decide, by decide⟩ (fun H locs (hw : Wd D A s.heap H locs (wX8 k mh mrSt mrNow mrIsKept mrDraft mrTape mrRow mrRode mrWays mrLanes mrSizes mrCells mrBefore mSt mNow mIsKept mPeople mDraft mDPeople mHasDry mToldDebts mHighest mTape mTaped mPos mBegun mSort mValue mFault_4 mWrongAt_5 mPaid mRow mRingMuch mRideSum mOwedSum mAllWays mRode mWays mLanes mSizes mCells mTorn mBefore)) => ?_)
      refine W.eq (g2 := F0 m 34 ls ([])) rfl ?_
      refine lv_aload_n hx hb dX8_readLine_34 rfl (lv_at hl 0 rfl) ?_
      refine lv_iload_n hx hb dX8_readLine_35 rfl (lv_at hl 1 rfl) ?_
      refine lv_iconst (v := 4) hx hb dX8_readLine_36 (by decide) ?_
      obtain ⟨t_6, hj_37, h⟩ := b1_inv h
      have J_37 : ∀ (H : Heap) (locs : List Loc) (ls : Array Slot), Wd D A s.heap H locs (wX8 k mh mrSt mrNow mrIsKept mrDraft mrTape mrRow mrRode mrWays mrLanes mrSizes mrCells mrBefore mSt mNow mIsKept mPeople mDraft mDPeople mHasDry mToldDebts mHighest mTape mTaped mPos mBegun mSort mValue mFault_4 mWrongAt_5 mPaid mRow mRingMuch mRideSum mOwedSum mAllWays mRode mWays mLanes mSizes mCells mTorn mBefore) → lv_has ls 2 [(0, .ref mh), (1, .int t_1)] → W p l e rmX8_readLine s m args below meth c H locs 0 0 Q (F0 m 53 ls [.int t_6, .ref mh]) := by
        intro H locs ls hw hl
        refine lv_iconst (v := 5) hx hb dX8_readLine_53 (by decide) ?_
        obtain ⟨mFault_7, mWrongAt_8, hf, h⟩ := b2_inv h
        refine k_callV (host := "") fx hK hA hw (c_X8_needs l D k mh mrSt mrNow mrIsKept mrDraft mrTape mrRow mrRode mrWays mrLanes mrSizes mrCells mrBefore _ mSt mNow mIsKept mPeople mDraft mDPeople mHasDry mToldDebts mHighest mTape mTaped mPos mBegun mSort mValue mFault_4 mWrongAt_5 mPaid mRow mRingMuch mRideSum mOwedSum mAllWays mRode mWays mLanes mSizes mCells mTorn mBefore t_6 5 mFault_7 mWrongAt_8 hf) (cwV 2 hts gX8_readLine_X8_needs rfl rfl rfl (by decide +kernel) ⟨by decide, by decide⟩) (As := [.int t_6, .int 5]) (wr := []) (ws' := wX8 k mh mrSt mrNow mrIsKept mrDraft mrTape mrRow mrRode mrWays mrLanes mrSizes mrCells mrBefore mSt mNow mIsKept mPeople mDraft mDPeople mHasDry mToldDebts mHighest mTape mTaped mPos mBegun mSort mValue mFault_7 mWrongAt_8 mPaid mRow mRingMuch mRideSum mOwedSum mAllWays mRode mWays mLanes mSizes mCells mTorn mBefore) [0, 1, 2, 3, 4, 5, 6, 7, 8, 9, 10, 11, 12] [] [0, 1, 2, 3, 4, 5, 6, 7, 8, 9, 10, 11, 12] rfl rfl (by decide) (by decide) (by decide) rfl (by decide) 8 rfl rfl [] rfl hl.1 rfl (Nat.le_of_ble_eq_true rfl) dX8_readLine_54 ⟨by decide, by decide⟩ (fun H locs (hw : Wd D A s.heap H locs (wX8 k mh mrSt mrNow mrIsKept mrDraft mrTape mrRow mrRode mrWays mrLanes mrSizes mrCells mrBefore mSt mNow mIsKept mPeople mDraft mDPeople mHasDry mToldDebts mHighest mTape mTaped mPos mBegun mSort mValue mFault_7 mWrongAt_8 mPaid mRow mRingMuch mRideSum mOwedSum mAllWays mRode mWays mLanes mSizes mCells mTorn mBefore)) => ?_)
        refine W.eq (g2 := F0 m 57 ls ([])) rfl ?_
        refine lv_aload_n hx hb dX8_readLine_57 rfl (lv_at hl 0 rfl) ?_
        refine lv_iload_n hx hb dX8_readLine_58 rfl (lv_at hl 1 rfl) ?_
        refine lv_iconst (v := 5) hx hb dX8_readLine_59 (by decide) ?_
        obtain ⟨t_9, hj_60, h⟩ := b1_inv h
        have J_60 : ∀ (H : Heap) (locs : List Loc) (ls : Array Slot), Wd D A s.heap H locs (wX8 k mh mrSt mrNow mrIsKept mrDraft mrTape mrRow mrRode mrWays mrLanes mrSizes mrCells mrBefore mSt mNow mIsKept mPeople mDraft mDPeople mHasDry mToldDebts mHighest mTape mTaped mPos mBegun mSort mValue mFault_7 mWrongAt_8 mPaid mRow mRingMuch mRideSum mOwedSum mAllWays mRode mWays mLanes mSizes mCells mTorn mBefore) → lv_has ls 2 [(0, .ref mh), (1, .int t_1)] → W p l e rmX8_readLine s m args below meth c H locs 0 0 Q (F0 m 75 ls [.int t_9, .ref mh]) := by
          intro H locs ls hw hl
          refine lv_iconst (v := 4) hx hb dX8_readLine_75 (by decide) ?_
          obtain ⟨mFault_10, mWrongAt_11, hf, h⟩ := b2_inv h
          refine k_callV (host := "") fx hK hA hw (c_X8_needs l D k mh mrSt mrNow mrIsKept mrDraft mrTape mrRow mrRode mrWays mrLanes mrSizes mrCells mrBefore _ mSt mNow mIsKept mPeople mDraft mDPeople mHasDry mToldDebts mHighest mTape mTaped mPos mBegun mSort mValue mFault_7 mWrongAt_8 mPaid mRow mRingMuch mRideSum mOwedSum mAllWays mRode mWays mLanes mSizes mCells mTorn mBefore t_9 4 mFault_10 mWrongAt_11 hf) (cwV 2 hts gX8_readLine_X8_needs rfl rfl rfl (by decide +kernel) ⟨by decide, by decide⟩) (As := [.int t_9, .int 4]) (wr := []) (ws' := wX8 k mh mrSt mrNow mrIsKept mrDraft mrTape mrRow mrRode mrWays mrLanes mrSizes mrCells mrBefore mSt mNow mIsKept mPeople mDraft mDPeople mHasDry mToldDebts mHighest mTape mTaped mPos mBegun mSort mValue mFault_10 mWrongAt_11 mPaid mRow mRingMuch mRideSum mOwedSum mAllWays mRode mWays mLanes mSizes mCells mTorn mBefore) [0, 1, 2, 3, 4, 5, 6, 7, 8, 9, 10, 11, 12] [] [0, 1, 2, 3, 4, 5, 6, 7, 8, 9, 10, 11, 12] rfl rfl (by decide) (by decide) (by decide) rfl (by decide) 8 rfl rfl [] rfl hl.1 rfl (Nat.le_of_ble_eq_true rfl) dX8_readLine_76 ⟨by decide, by decide⟩ (fun H locs (hw : Wd D A s.heap H locs (wX8 k mh mrSt mrNow mrIsKept mrDraft mrTape mrRow mrRode mrWays mrLanes mrSizes mrCells mrBefore mSt mNow mIsKept mPeople mDraft mDPeople mHasDry mToldDebts mHighest mTape mTaped mPos mBegun mSort mValue mFault_10 mWrongAt_11 mPaid mRow mRingMuch mRideSum mOwedSum mAllWays mRode mWays mLanes mSizes mCells mTorn mBefore)) => ?_)
          refine W.eq (g2 := F0 m 79 ls ([])) rfl ?_
          refine lv_aload_n hx hb dX8_readLine_79 rfl (lv_at hl 0 rfl) ?_
          refine lv_aload_n hx hb dX8_readLine_80 rfl (lv_at hl 0 rfl) ?_
          refine va_get (ci := 8) (v := .int mHasDry) (C := RX8) (T := TX8) (N := 30) hx hb hts hinX8 hown hK.1 hw.1 0 rfl rfl 6 (by decide) q_3 (fun _ h9 => h9) rfl dX8_readLine_81 ?_
          obtain ⟨t_12, hj_84, h⟩ := b1_inv h
          have J_84 : ∀ (H : Heap) (locs : List Loc) (ls : Array Slot), Wd D A s.heap H locs (wX8 k mh mrSt mrNow mrIsKept mrDraft mrTape mrRow mrRode mrWays mrLanes mrSizes mrCells mrBefore mSt mNow mIsKept mPeople mDraft mDPeople mHasDry mToldDebts mHighest mTape mTaped mPos mBegun mSort mValue mFault_10 mWrongAt_11 mPaid mRow mRingMuch mRideSum mOwedSum mAllWays mRode mWays mLanes mSizes mCells mTorn mBefore) → lv_has ls 2 [(0, .ref mh), (1, .int t_1)] → W p l e rmX8_readLine s m args below meth c H locs 0 0 Q (F0 m 97 ls [.int t_12, .ref mh]) := by
            intro H locs ls hw hl
            obtain ⟨z_13, hz, h⟩ := b1_inv h
            obtain ⟨hz1, hz2⟩ := bz_inv hz
            refine k_lit hz1.symm ?_
            rw [← hz1] at hz2
            refine va_put (ci := 8) (v := .int z_13) (ty := tyX8 6) (C := RX8) (T := TX8) (N := 30) hx hb hts hinX8 tyX8 tyX8_ok nmX8 hown hK.1 hw.1 hw.2.1 hw.2.2 0 rfl rfl 6 (by decide) q_3 (fun _ h9 => h9) rfl (tyX8_ok 6 (by decide)) (bz_nar hz2).1 (bz_nar hz2).2 (Nat.le_of_ble_eq_true rfl) dX8_readLine_97 (fun H locs hP hD hS => ?_)
            have hw : Wd D A s.heap H locs (wX8 k mh mrSt mrNow mrIsKept mrDraft mrTape mrRow mrRode mrWays mrLanes mrSizes mrCells mrBefore mSt mNow mIsKept mPeople mDraft mDPeople z_13 mToldDebts mHighest mTape mTaped mPos mBegun mSort mValue mFault_10 mWrongAt_11 mPaid mRow mRingMuch mRideSum mOwedSum mAllWays mRode mWays mLanes mSizes mCells mTorn mBefore) := ⟨hP, hD, hS⟩
            refine lv_aload_n hx hb dX8_readLine_100 rfl (lv_at hl 0 rfl) ?_
            obtain ⟨mPos_14, mBegun_15, mSort_16, mValue_17, mFault_18, mWrongAt_19, hf, h⟩ := b6_inv h
            refine k_callV (host := "") fx hK hA hw (c_X8_takes l D k mh mrSt mrNow mrIsKept mrDraft mrTape mrRow mrRode mrWays mrLanes mrSizes mrCells mrBefore _ mSt mNow mIsKept mPeople mDraft mDPeople z_13 mToldDebts mHighest mTape mTaped mPos mBegun mSort mValue mFault_10 mWrongAt_11 mPaid mRow mRingMuch mRideSum mOwedSum mAllWays mRode mWays mLanes mSizes mCells mTorn mBefore mPos_14 mBegun_15 mSort_16 mValue_17 mFault_18 mWrongAt_19 hf) (cwV 0 hts gX8_readLine_X8_takes rfl rfl rfl (by decide +kernel) ⟨by decide, by decide⟩) (As := []) (wr := []) (ws' := wX8 k mh mrSt mrNow mrIsKept mrDraft mrTape mrRow mrRode mrWays mrLanes mrSizes mrCells mrBefore mSt mNow mIsKept mPeople mDraft mDPeople z_13 mToldDebts mHighest mTape mTaped mPos_14 mBegun_15 mSort_16 mValue_17 mFault_18 mWrongAt_19 mPaid mRow mRingMuch mRideSum mOwedSum mAllWays mRode mWays mLanes mSizes mCells mTorn mBefore) [0, 1, 2, 3, 4, 5, 6, 7, 8, 9, 10, 11, 12] [] [0, 1, 2, 3, 4, 5, 6, 7, 8, 9, 10, 11, 12] rfl rfl (by decide) (by decide) (by decide) rfl (by decide) 8 rfl rfl [] rfl hl.1 rfl (Nat.le_of_ble_eq_true rfl) dX8_readLine_101 ⟨by decide, by decide⟩ (fun H locs (hw : Wd D A s.heap H locs (wX8 k mh mrSt mrNow mrIsKept mrDraft mrTape mrRow mrRode mrWays mrLanes mrSizes mrCells mrBefore mSt mNow mIsKept mPeople mDraft mDPeople z_13 mToldDebts mHighest mTape mTaped mPos_14 mBegun_15 mSort_16 mValue_17 mFault_18 mWrongAt_19 mPaid mRow mRingMuch mRideSum mOwedSum mAllWays mRode mWays mLanes mSizes mCells mTorn mBefore)) => ?_)
            refine W.eq (g2 := F0 m 104 ls ([])) rfl ?_
            refine lv_aload_n hx hb dX8_readLine_104 rfl (lv_at hl 0 rfl) ?_
            refine va_get (ci := 8) (v := .int mFault_18) (C := RX8) (T := TX8) (N := 30) hx hb hts hinX8 hown hK.1 hw.1 0 rfl rfl 15 (by decide) q_4 (fun _ h9 => h9) rfl dX8_readLine_105 ?_
            refine kb_if_le (tgt := 112) hx hb dX8_readLine_108 (by decide) h (fun c_108 h => ?_) (fun c_108 h => ?_)
            · refine lv_aload_n hx hb dX8_readLine_112 rfl (lv_at hl 0 rfl) ?_
              refine lv_iload_n hx hb dX8_readLine_113 rfl (lv_at hl 1 rfl) ?_
              obtain ⟨mDraft_20, mDPeople_21, mToldDebts_22, mHighest_23, mPos_24, mBegun_25, mSort_26, mValue_27, mFault_28, mWrongAt_29, hf, h⟩ := b10_inv h
              refine k_callV (host := "") fx hK hA hw (c_X8_readLineOf l D k mh mrSt mrNow mrIsKept mrDraft mrTape mrRow mrRode mrWays mrLanes mrSizes mrCells mrBefore _ mSt mNow mIsKept mPeople mDraft mDPeople z_13 mToldDebts mHighest mTape mTaped mPos_14 mBegun_15 mSort_16 mValue_17 mFault_18 mWrongAt_19 mPaid mRow mRingMuch mRideSum mOwedSum mAllWays mRode mWays mLanes mSizes mCells mTorn mBefore t_1 mDraft_20 mDPeople_21 mToldDebts_22 mHighest_23 mPos_24 mBegun_25 mSort_26 mValue_27 mFault_28 mWrongAt_29 hf) (cwV 1 hts gX8_readLine_X8_readLineOf rfl rfl rfl (by decide +kernel) ⟨by decide, by decide⟩) (As := [.int t_1]) (wr := []) (ws' := wX8 k mh mrSt mrNow mrIsKept mrDraft mrTape mrRow mrRode mrWays mrLanes mrSizes mrCells mrBefore mSt mNow mIsKept mPeople mDraft_20 mDPeople_21 z_13 mToldDebts_22 mHighest_23 mTape mTaped mPos_24 mBegun_25 mSort_26 mValue_27 mFault_28 mWrongAt_29 mPaid mRow mRingMuch mRideSum mOwedSum mAllWays mRode mWays mLanes mSizes mCells mTorn mBefore) [0, 1, 2, 3, 4, 5, 6, 7, 8, 9, 10, 11, 12] [] [0, 1, 2, 3, 4, 5, 6, 7, 8, 9, 10, 11, 12] rfl rfl (by decide) (by decide) (by decide) rfl (by decide) 8 rfl rfl [] rfl hl.1 rfl (Nat.le_of_ble_eq_true rfl) dX8_readLine_114 ⟨by decide, by decide⟩ (fun H locs (hw : Wd D A s.heap H locs (wX8 k mh mrSt mrNow mrIsKept mrDraft mrTape mrRow mrRode mrWays mrLanes mrSizes mrCells mrBefore mSt mNow mIsKept mPeople mDraft_20 mDPeople_21 z_13 mToldDebts_22 mHighest_23 mTape mTaped mPos_24 mBegun_25 mSort_26 mValue_27 mFault_28 mWrongAt_29 mPaid mRow mRingMuch mRideSum mOwedSum mAllWays mRode mWays mLanes mSizes mCells mTorn mBefore)) => ?_)
              refine W.eq (g2 := F0 m 117 ls ([])) rfl ?_
              refine lv_aload_n hx hb dX8_readLine_117 rfl (lv_at hl 0 rfl) ?_
              refine va_get (ci := 8) (v := .int mFault_28) (C := RX8) (T := TX8) (N := 30) hx hb hts hinX8 hown hK.1 hw.1 0 rfl rfl 15 (by decide) q_4 (fun _ h9 => h9) rfl dX8_readLine_118 ?_
              obtain ⟨mFault_30, mWrongAt_31, hj_121, h⟩ := b2_inv h
              have J_121 : ∀ (H : Heap) (locs : List Loc) (ls : Array Slot), Wd D A s.heap H locs (wX8 k mh mrSt mrNow mrIsKept mrDraft mrTape mrRow mrRode mrWays mrLanes mrSizes mrCells mrBefore mSt mNow mIsKept mPeople mDraft_20 mDPeople_21 z_13 mToldDebts_22 mHighest_23 mTape mTaped mPos_24 mBegun_25 mSort_26 mValue_27 mFault_30 mWrongAt_31 mPaid mRow mRingMuch mRideSum mOwedSum mAllWays mRode mWays mLanes mSizes mCells mTorn mBefore) → lv_has ls 2 [(0, .ref mh)] → W p l e rmX8_readLine s m args below meth c H locs 0 0 Q (F0 m 142 ls []) := by
                intro H locs ls hw hl
                refine lv_aload_n hx hb dX8_readLine_142 rfl (lv_at hl 0 rfl) ?_
                obtain ⟨mPos_35, mBegun_36, mSort_37, mValue_38, mFault_39, mWrongAt_40, hf, h⟩ := b6_inv h
                refine k_callV (host := "") fx hK hA hw (c_X8_takes l D k mh mrSt mrNow mrIsKept mrDraft mrTape mrRow mrRode mrWays mrLanes mrSizes mrCells mrBefore _ mSt mNow mIsKept mPeople mDraft_20 mDPeople_21 z_13 mToldDebts_22 mHighest_23 mTape mTaped mPos_24 mBegun_25 mSort_26 mValue_27 mFault_30 mWrongAt_31 mPaid mRow mRingMuch mRideSum mOwedSum mAllWays mRode mWays mLanes mSizes mCells mTorn mBefore mPos_35 mBegun_36 mSort_37 mValue_38 mFault_39 mWrongAt_40 hf) (cwV 0 hts gX8_readLine_X8_takes rfl rfl rfl (by decide +kernel) ⟨by decide, by decide⟩) (As := []) (wr := []) (ws' := wX8 k mh mrSt mrNow mrIsKept mrDraft mrTape mrRow mrRode mrWays mrLanes mrSizes mrCells mrBefore mSt mNow mIsKept mPeople mDraft_20 mDPeople_21 z_13 mToldDebts_22 mHighest_23 mTape mTaped mPos_35 mBegun_36 mSort_37 mValue_38 mFault_39 mWrongAt_40 mPaid mRow mRingMuch mRideSum mOwedSum mAllWays mRode mWays mLanes mSizes mCells mTorn mBefore) [0, 1, 2, 3, 4, 5, 6, 7, 8, 9, 10, 11, 12] [] [0, 1, 2, 3, 4, 5, 6, 7, 8, 9, 10, 11, 12] rfl rfl (by decide) (by decide) (by decide) rfl (by decide) 8 rfl rfl [] rfl hl.1 rfl (Nat.le_of_ble_eq_true rfl) dX8_readLine_143 ⟨by decide, by decide⟩ (fun H locs (hw : Wd D A s.heap H locs (wX8 k mh mrSt mrNow mrIsKept mrDraft mrTape mrRow mrRode mrWays mrLanes mrSizes mrCells mrBefore mSt mNow mIsKept mPeople mDraft_20 mDPeople_21 z_13 mToldDebts_22 mHighest_23 mTape mTaped mPos_35 mBegun_36 mSort_37 mValue_38 mFault_39 mWrongAt_40 mPaid mRow mRingMuch mRideSum mOwedSum mAllWays mRode mWays mLanes mSizes mCells mTorn mBefore)) => ?_)
                refine W.eq (g2 := F0 m 146 ls ([])) rfl ?_
                cases h
                exact k_vret hx hb hr hlocks hw dX8_readLine_146 hQ
              clear h
              have h := hj_121
              refine kb_if_ne (tgt := 142) hx hb dX8_readLine_121 (by decide) h (fun c_121 h => ?_) (fun c_121 h => ?_)
              · refine lv_aload_n hx hb dX8_readLine_124 rfl (lv_at hl 0 rfl) ?_
                refine lv_aload_n hx hb dX8_readLine_125 rfl (lv_at hl 0 rfl) ?_
                refine va_get (ci := 8) (v := .int mSort_26) (C := RX8) (T := TX8) (N := 30) hx hb hts hinX8 hown hK.1 hw.1 0 rfl rfl 13 (by decide) q_1 (fun _ h9 => h9) rfl dX8_readLine_126 ?_
                refine lv_iconst (v := 3) hx hb dX8_readLine_129 (by decide) ?_
                obtain ⟨t_32, hj_130, h⟩ := b1_inv h
                have J_130 : ∀ (H : Heap) (locs : List Loc) (ls : Array Slot), Wd D A s.heap H locs (wX8 k mh mrSt mrNow mrIsKept mrDraft mrTape mrRow mrRode mrWays mrLanes mrSizes mrCells mrBefore mSt mNow mIsKept mPeople mDraft_20 mDPeople_21 z_13 mToldDebts_22 mHighest_23 mTape mTaped mPos_24 mBegun_25 mSort_26 mValue_27 mFault_28 mWrongAt_29 mPaid mRow mRingMuch mRideSum mOwedSum mAllWays mRode mWays mLanes mSizes mCells mTorn mBefore) → lv_has ls 2 [(0, .ref mh)] → W p l e rmX8_readLine s m args below meth c H locs 0 0 Q (F0 m 138 ls [.int t_32, .ref mh]) := by
                  intro H locs ls hw hl
                  refine lv_iconst (v := 2) hx hb dX8_readLine_138 (by decide) ?_
                  obtain ⟨mFault_33, mWrongAt_34, hf, h⟩ := b2_inv h
                  refine k_callV (host := "") fx hK hA hw (c_X8_needs l D k mh mrSt mrNow mrIsKept mrDraft mrTape mrRow mrRode mrWays mrLanes mrSizes mrCells mrBefore _ mSt mNow mIsKept mPeople mDraft_20 mDPeople_21 z_13 mToldDebts_22 mHighest_23 mTape mTaped mPos_24 mBegun_25 mSort_26 mValue_27 mFault_28 mWrongAt_29 mPaid mRow mRingMuch mRideSum mOwedSum mAllWays mRode mWays mLanes mSizes mCells mTorn mBefore t_32 2 mFault_33 mWrongAt_34 hf) (cwV 2 hts gX8_readLine_X8_needs rfl rfl rfl (by decide +kernel) ⟨by decide, by decide⟩) (As := [.int t_32, .int 2]) (wr := []) (ws' := wX8 k mh mrSt mrNow mrIsKept mrDraft mrTape mrRow mrRode mrWays mrLanes mrSizes mrCells mrBefore mSt mNow mIsKept mPeople mDraft_20 mDPeople_21 z_13 mToldDebts_22 mHighest_23 mTape mTaped mPos_24 mBegun_25 mSort_26 mValue_27 mFault_33 mWrongAt_34 mPaid mRow mRingMuch mRideSum mOwedSum mAllWays mRode mWays mLanes mSizes mCells mTorn mBefore) [0, 1, 2, 3, 4, 5, 6, 7, 8, 9, 10, 11, 12] [] [0, 1, 2, 3, 4, 5, 6, 7, 8, 9, 10, 11, 12] rfl rfl (by decide) (by decide) (by decide) rfl (by decide) 8 rfl rfl [] rfl hl.1 rfl (Nat.le_of_ble_eq_true rfl) dX8_readLine_139 ⟨by decide, by decide⟩ (fun H locs (hw : Wd D A s.heap H locs (wX8 k mh mrSt mrNow mrIsKept mrDraft mrTape mrRow mrRode mrWays mrLanes mrSizes mrCells mrBefore mSt mNow mIsKept mPeople mDraft_20 mDPeople_21 z_13 mToldDebts_22 mHighest_23 mTape mTaped mPos_24 mBegun_25 mSort_26 mValue_27 mFault_33 mWrongAt_34 mPaid mRow mRingMuch mRideSum mOwedSum mAllWays mRode mWays mLanes mSizes mCells mTorn mBefore)) => ?_)
                  refine W.eq (g2 := F0 m 142 ls ([])) rfl ?_
                  cases h
                  exact J_121 _ _ _ hw (lv_sub hl [0] rfl)
                clear h
                have h := hj_130
                refine kb_icmp_ne (tgt := 137) hx hb dX8_readLine_130 (by decide) h (fun c_130 h => ?_) (fun c_130 h => ?_)
                · refine lv_iconst (v := 1) hx hb dX8_readLine_133 (by decide) ?_
                  refine lv_goto (tgt := 138) hx hb dX8_readLine_134 (by decide) ?_
                  cases h
                  exact J_130 _ _ _ hw (lv_sub hl [0] rfl)
                · refine lv_iconst (v := 0) hx hb dX8_readLine_137 (by decide) ?_
                  cases h
                  exact J_130 _ _ _ hw (lv_sub hl [0] rfl)
              · cases h
                exact J_121 _ _ _ hw (lv_sub hl [0] rfl)
            · cases h
              exact k_vret hx hb hr hlocks hw dX8_readLine_111 hQ
          clear h
          have h := hj_84
          refine kb_if_ne (tgt := 92) hx hb dX8_readLine_84 (by decide) h (fun c_84 h => ?_) (fun c_84 h => ?_)
          · refine lv_iload_n hx hb dX8_readLine_87 rfl (lv_at hl 1 rfl) ?_
            refine lv_iconst (v := 5) hx hb dX8_readLine_88 (by decide) ?_
            refine kb_icmp_ne (tgt := 96) hx hb dX8_readLine_89 (by decide) h (fun c_89 h => ?_) (fun c_89 h => ?_)
            · refine lv_iconst (v := 1) hx hb dX8_readLine_92 (by decide) ?_
              refine lv_goto (tgt := 97) hx hb dX8_readLine_93 (by decide) ?_
              cases h
              exact J_84 _ _ _ hw (lv_sub hl [0, 1] rfl)
            · refine lv_iconst (v := 0) hx hb dX8_readLine_96 (by decide) ?_
              cases h
              exact J_84 _ _ _ hw (lv_sub hl [0, 1] rfl)
          · refine lv_iconst (v := 1) hx hb dX8_readLine_92 (by decide) ?_
            refine lv_goto (tgt := 97) hx hb dX8_readLine_93 (by decide) ?_
            cases h
            exact J_84 _ _ _ hw (lv_sub hl [0, 1] rfl)
        clear h
        have h := hj_60
        refine kb_icmp_ne (tgt := 70) hx hb dX8_readLine_60 (by decide) h (fun c_60 h => ?_) (fun c_60 h => ?_)
        · refine lv_aload_n hx hb dX8_readLine_63 rfl (lv_at hl 0 rfl) ?_
          refine va_get (ci := 8) (v := .int mHasDry) (C := RX8) (T := TX8) (N := 30) hx hb hts hinX8 hown hK.1 hw.1 0 rfl rfl 6 (by decide) q_3 (fun _ h9 => h9) rfl dX8_readLine_64 ?_
          refine kb_if_ne (tgt := 74) hx hb dX8_readLine_67 (by decide) h (fun c_67 h => ?_) (fun c_67 h => ?_)
          · refine lv_iconst (v := 1) hx hb dX8_readLine_70 (by decide) ?_
            refine lv_goto (tgt := 75) hx hb dX8_readLine_71 (by decide) ?_
            cases h
            exact J_60 _ _ _ hw (lv_sub hl [0, 1] rfl)
          · refine lv_iconst (v := 0) hx hb dX8_readLine_74 (by decide) ?_
            cases h
            exact J_60 _ _ _ hw (lv_sub hl [0, 1] rfl)
        · refine lv_iconst (v := 1) hx hb dX8_readLine_70 (by decide) ?_
          refine lv_goto (tgt := 75) hx hb dX8_readLine_71 (by decide) ?_
          cases h
          exact J_60 _ _ _ hw (lv_sub hl [0, 1] rfl)
      clear h
      have h := hj_37
      refine kb_icmp_ge (tgt := 48) hx hb dX8_readLine_37 (by decide) h (fun c_37 h => ?_) (fun c_37 h => ?_)
      · refine lv_iconst (v := 1) hx hb dX8_readLine_48 (by decide) ?_
        refine lv_goto (tgt := 53) hx hb dX8_readLine_49 (by decide) ?_
        cases h
        exact J_37 _ _ _ hw (lv_sub hl [0, 1] rfl)
      · refine lv_aload_n hx hb dX8_readLine_40 rfl (lv_at hl 0 rfl) ?_
        refine va_get (ci := 8) (v := .int mDPeople) (C := RX8) (T := TX8) (N := 30) hx hb hts hinX8 hown hK.1 hw.1 0 rfl rfl 5 (by decide) q_2 (fun _ h9 => h9) rfl dX8_readLine_41 ?_
        refine lv_iconst (v := 5) hx hb dX8_readLine_44 (by decide) ?_
        refine kb_icmp_ge (tgt := 52) hx hb dX8_readLine_45 (by decide) h (fun c_45 h => ?_) (fun c_45 h => ?_)
        · refine lv_iconst (v := 0) hx hb dX8_readLine_52 (by decide) ?_
          cases h
          exact J_37 _ _ _ hw (lv_sub hl [0, 1] rfl)
        · refine lv_iconst (v := 1) hx hb dX8_readLine_48 (by decide) ?_
          refine lv_goto (tgt := 53) hx hb dX8_readLine_49 (by decide) ?_
          cases h
          exact J_37 _ _ _ hw (lv_sub hl [0, 1] rfl)
    clear h
    have h := hj_22
    refine kb_icmp_eq (tgt := 29) hx hb dX8_readLine_22 (by decide) h (fun c_22 h => ?_) (fun c_22 h => ?_)
    · refine lv_iconst (v := 0) hx hb dX8_readLine_29 (by decide) ?_
      cases h
      exact J_22 _ _ _ hw (lv_sub hl [1, 0] rfl)
    · refine lv_iconst (v := 1) hx hb dX8_readLine_25 (by decide) ?_
      refine lv_goto (tgt := 30) hx hb dX8_readLine_26 (by decide) ?_
      cases h
      exact J_22 _ _ _ hw (lv_sub hl [1, 0] rfl)
  clear h
  have h := hj_5
  refine kb_icmp_ne (tgt := 15) hx hb dX8_readLine_5 (by decide) h (fun c_5 h => ?_) (fun c_5 h => ?_)
  · refine lv_aload_n hx hb dX8_readLine_8 rfl (lv_at hl 0 rfl) ?_
    obtain ⟨r_2, hf, h⟩ := b1_inv h
    refine k_callV (host := "") fx hK hA hw (c_X8_lineNow l D k mh mrSt mrNow mrIsKept mrDraft mrTape mrRow mrRode mrWays mrLanes mrSizes mrCells mrBefore _ mSt mNow mIsKept mPeople mDraft mDPeople mHasDry mToldDebts mHighest mTape mTaped mPos mBegun mSort mValue mFault mWrongAt mPaid mRow mRingMuch mRideSum mOwedSum mAllWays mRode mWays mLanes mSizes mCells mTorn mBefore r_2 hf) (cwV 0 hts gX8_readLine_X8_lineNow rfl rfl rfl (by decide +kernel) ⟨by decide, by decide⟩) (As := []) (wr := []) (ws' := wX8 k mh mrSt mrNow mrIsKept mrDraft mrTape mrRow mrRode mrWays mrLanes mrSizes mrCells mrBefore mSt mNow mIsKept mPeople mDraft mDPeople mHasDry mToldDebts mHighest mTape mTaped mPos mBegun mSort mValue mFault mWrongAt mPaid mRow mRingMuch mRideSum mOwedSum mAllWays mRode mWays mLanes mSizes mCells mTorn mBefore) [0, 1, 2, 3, 4, 5, 6, 7, 8, 9, 10, 11, 12] [] [0, 1, 2, 3, 4, 5, 6, 7, 8, 9, 10, 11, 12] rfl rfl (by decide) (by decide) (by decide) rfl (by decide) 8 rfl rfl [] rfl hl.1 rfl (Nat.le_of_ble_eq_true rfl) dX8_readLine_9 ⟨by decide, by decide⟩ (fun H locs (hw : Wd D A s.heap H locs (wX8 k mh mrSt mrNow mrIsKept mrDraft mrTape mrRow mrRode mrWays mrLanes mrSizes mrCells mrBefore mSt mNow mIsKept mPeople mDraft mDPeople mHasDry mToldDebts mHighest mTape mTaped mPos mBegun mSort mValue mFault mWrongAt mPaid mRow mRingMuch mRideSum mOwedSum mAllWays mRode mWays mLanes mSizes mCells mTorn mBefore)) => ?_)
    refine W.eq (g2 := F0 m 12 ls ([.int r_2])) rfl ?_
    refine lv_goto (tgt := 17) hx hb dX8_readLine_12 (by decide) ?_
    cases h
    exact J_5 _ _ _ hw (lv_sub hl [0] rfl)
  · refine lv_bipush (v := (-4)) hx hb dX8_readLine_15 (by decide) ?_
    cases h
    exact J_5 _ _ _ hw (lv_sub hl [0] rfl)
abbrev rmX8_rides : Room := { frames := 5, cells := 0, slots := 0, locals := 114 }
set_option maxHeartbeats 4000000 in
set_option maxRecDepth 100000 in
theorem c_X8_rides (l : Launch) (D : va_G) (k : Nat → ClassId) (mh mrSt mrNow mrIsKept mrDraft mrTape mrRow mrRode mrWays mrLanes mrSizes mrCells mrBefore : Nat) (sz : Nat) (mSt : (Nat → Int32)) (mNow : (Nat → Int32)) (mIsKept : (Nat → Int32)) (mPeople : Int32) (mDraft : (Nat → Int32)) (mDPeople : Int32) (mHasDry : Int32) (mToldDebts : Int32) (mHighest : Int32) (mTape : (Nat → Int32)) (mTaped : Int32) (mPos : Int32) (mBegun : Int32) (mSort : Int32) (mValue : Int32) (mFault : Int32) (mWrongAt : Int32) (mPaid : Int32) (mRow : (Nat → Int32)) (mRingMuch : Int32) (mRideSum : Int64) (mOwedSum : Int64) (mAllWays : Int64) (mRode : (Nat → Int32)) (mWays : (Nat → Int32)) (mLanes : (Nat → Int32)) (mSizes : (Nat → Int32)) (mCells : (Nat → Int32)) (mTorn : Int32) (mBefore : (Nat → Int32)) (p1 : Int32) (r_ : Int32) (n_mNow : (Nat → Int32)) (n_mPaid : Int32) (hf : f_X8_rides mSt mNow mPeople mPaid p1 = some (r_, n_mNow, n_mPaid)) : mR l yX8_rides wsX8_rides rmX8_rides D k sz [.ref mh, .int p1] (wX8 k mh mrSt mrNow mrIsKept mrDraft mrTape mrRow mrRode mrWays mrLanes mrSizes mrCells mrBefore mSt mNow mIsKept mPeople mDraft mDPeople mHasDry mToldDebts mHighest mTape mTaped mPos mBegun mSort mValue mFault mWrongAt mPaid mRow mRingMuch mRideSum mOwedSum mAllWays mRode mWays mLanes mSizes mCells mTorn mBefore) (wX8 k mh mrSt mrNow mrIsKept mrDraft mrTape mrRow mrRode mrWays mrLanes mrSizes mrCells mrBefore mSt n_mNow mIsKept mPeople mDraft mDPeople mHasDry mToldDebts mHighest mTape mTaped mPos mBegun mSort mValue mFault mWrongAt n_mPaid mRow mRingMuch mRideSum mOwedSum mAllWays mRode mWays mLanes mSizes mCells mTorn mBefore) (some (.int r_)) := by
  refine mR_of (cc := cX8_rides) (maxL := 2) (ret := some .int) (by decide) rfl (Nat.le_of_ble_eq_true rfl) [(0, .ref mh), (1, .int p1)] rfl ?_
  intro p e s m below meth c A ls args Q cx hK hA hw hl hQ
  have fx := cx.1
  obtain ⟨⟨hx, hb, hml, hown, hts⟩, hr, hlocks⟩ := cx
  have h := hf
  unfold f_X8_rides at h
  clear hf
  refine lv_aload_n hx hb dX8_rides_0 rfl (lv_at hl 0 rfl) ?_
  refine lv_iload_n hx hb dX8_rides_1 rfl (lv_at hl 1 rfl) ?_
  obtain ⟨r_1, hf, h⟩ := b1_inv h
  refine k_callV (host := "") fx hK hA hw (c_X8_isOne l D k mh mrSt mrNow mrIsKept mrDraft mrTape mrRow mrRode mrWays mrLanes mrSizes mrCells mrBefore _ mSt mNow mIsKept mPeople mDraft mDPeople mHasDry mToldDebts mHighest mTape mTaped mPos mBegun mSort mValue mFault mWrongAt mPaid mRow mRingMuch mRideSum mOwedSum mAllWays mRode mWays mLanes mSizes mCells mTorn mBefore p1 r_1 hf) (cwV 1 hts gX8_rides_X8_isOne rfl rfl rfl (by decide +kernel) ⟨by decide, by decide⟩) (As := [.int p1]) (wr := []) (ws' := wX8 k mh mrSt mrNow mrIsKept mrDraft mrTape mrRow mrRode mrWays mrLanes mrSizes mrCells mrBefore mSt mNow mIsKept mPeople mDraft mDPeople mHasDry mToldDebts mHighest mTape mTaped mPos mBegun mSort mValue mFault mWrongAt mPaid mRow mRingMuch mRideSum mOwedSum mAllWays mRode mWays mLanes mSizes mCells mTorn mBefore) [0, 1, 2, 3, 4, 5, 6, 7, 8, 9, 10, 11, 12] [] [0, 1, 2, 3, 4, 5, 6, 7, 8, 9, 10, 11, 12] rfl rfl (by decide) (by decide) (by decide) rfl (by decide) 8 rfl rfl [] rfl hl.1 rfl (Nat.le_of_ble_eq_true rfl) dX8_rides_2 ⟨by decide, by decide⟩ (fun H locs (hw : Wd D A s.heap H locs (wX8 k mh mrSt mrNow mrIsKept mrDraft mrTape mrRow mrRode mrWays mrLanes mrSizes mrCells mrBefore mSt mNow mIsKept mPeople mDraft mDPeople mHasDry mToldDebts mHighest mTape mTaped mPos mBegun mSort mValue mFault mWrongAt mPaid mRow mRingMuch mRideSum mOwedSum mAllWays mRode mWays mLanes mSizes mCells mTorn mBefore)) => ?_)
  refine W.eq (g2 := F0 m 5 ls ([.int r_1])) rfl ?_
  refine kb_if_ne (tgt := 10) hx hb dX8_rides_5 (by decide) h (fun c_5 h => ?_) (fun c_5 h => ?_)
  · refine lv_iconst (v := (-1)) hx hb dX8_rides_8 (by decide) ?_
    cases h
    exact k_iret hx hb hr hlocks hw rfl dX8_rides_9 hQ
  · refine lv_aload_n hx hb dX8_rides_10 rfl (lv_at hl 0 rfl) ?_
    obtain ⟨mNow_2, hf, h⟩ := b1_inv h
    refine k_callV (host := "") fx hK hA hw (c_X8_starts l D k mh mrSt mrNow mrIsKept mrDraft mrTape mrRow mrRode mrWays mrLanes mrSizes mrCells mrBefore _ mSt mNow mIsKept mPeople mDraft mDPeople mHasDry mToldDebts mHighest mTape mTaped mPos mBegun mSort mValue mFault mWrongAt mPaid mRow mRingMuch mRideSum mOwedSum mAllWays mRode mWays mLanes mSizes mCells mTorn mBefore mNow_2 hf) (cwV 0 hts gX8_rides_X8_starts rfl rfl rfl (by decide +kernel) ⟨by decide, by decide⟩) (As := []) (wr := []) (ws' := wX8 k mh mrSt mrNow mrIsKept mrDraft mrTape mrRow mrRode mrWays mrLanes mrSizes mrCells mrBefore mSt mNow_2 mIsKept mPeople mDraft mDPeople mHasDry mToldDebts mHighest mTape mTaped mPos mBegun mSort mValue mFault mWrongAt mPaid mRow mRingMuch mRideSum mOwedSum mAllWays mRode mWays mLanes mSizes mCells mTorn mBefore) [0, 1, 2, 3, 4, 5, 6, 7, 8, 9, 10, 11, 12] [] [0, 1, 2, 3, 4, 5, 6, 7, 8, 9, 10, 11, 12] rfl rfl (by decide) (by decide) (by decide) rfl (by decide) 8 rfl rfl [] rfl hl.1 rfl (Nat.le_of_ble_eq_true rfl) dX8_rides_11 ⟨by decide, by decide⟩ (fun H locs (hw : Wd D A s.heap H locs (wX8 k mh mrSt mrNow mrIsKept mrDraft mrTape mrRow mrRode mrWays mrLanes mrSizes mrCells mrBefore mSt mNow_2 mIsKept mPeople mDraft mDPeople mHasDry mToldDebts mHighest mTape mTaped mPos mBegun mSort mValue mFault mWrongAt mPaid mRow mRingMuch mRideSum mOwedSum mAllWays mRode mWays mLanes mSizes mCells mTorn mBefore)) => ?_)
    refine W.eq (g2 := F0 m 14 ls ([])) rfl ?_
    refine lv_aload_n hx hb dX8_rides_14 rfl (lv_at hl 0 rfl) ?_
    refine lv_iload_n hx hb dX8_rides_15 rfl (lv_at hl 1 rfl) ?_
    obtain ⟨r_3, mNow_4, mPaid_5, hf, h⟩ := b3_inv h
    refine k_callV (host := "") fx hK hA hw (c_X8_daysTo l D k mh mrSt mrNow mrIsKept mrDraft mrTape mrRow mrRode mrWays mrLanes mrSizes mrCells mrBefore _ mSt mNow_2 mIsKept mPeople mDraft mDPeople mHasDry mToldDebts mHighest mTape mTaped mPos mBegun mSort mValue mFault mWrongAt mPaid mRow mRingMuch mRideSum mOwedSum mAllWays mRode mWays mLanes mSizes mCells mTorn mBefore p1 r_3 mNow_4 mPaid_5 hf) (cwV 1 hts gX8_rides_X8_daysTo rfl rfl rfl (by decide +kernel) ⟨by decide, by decide⟩) (As := [.int p1]) (wr := []) (ws' := wX8 k mh mrSt mrNow mrIsKept mrDraft mrTape mrRow mrRode mrWays mrLanes mrSizes mrCells mrBefore mSt mNow_4 mIsKept mPeople mDraft mDPeople mHasDry mToldDebts mHighest mTape mTaped mPos mBegun mSort mValue mFault mWrongAt mPaid_5 mRow mRingMuch mRideSum mOwedSum mAllWays mRode mWays mLanes mSizes mCells mTorn mBefore) [0, 1, 2, 3, 4, 5, 6, 7, 8, 9, 10, 11, 12] [] [0, 1, 2, 3, 4, 5, 6, 7, 8, 9, 10, 11, 12] rfl rfl (by decide) (by decide) (by decide) rfl (by decide) 8 rfl rfl [] rfl hl.1 rfl (Nat.le_of_ble_eq_true rfl) dX8_rides_16 ⟨by decide, by decide⟩ (fun H locs (hw : Wd D A s.heap H locs (wX8 k mh mrSt mrNow mrIsKept mrDraft mrTape mrRow mrRode mrWays mrLanes mrSizes mrCells mrBefore mSt mNow_4 mIsKept mPeople mDraft mDPeople mHasDry mToldDebts mHighest mTape mTaped mPos mBegun mSort mValue mFault mWrongAt mPaid_5 mRow mRingMuch mRideSum mOwedSum mAllWays mRode mWays mLanes mSizes mCells mTorn mBefore)) => ?_)
    refine W.eq (g2 := F0 m 19 ls ([.int r_3])) rfl ?_
    cases h
    exact k_iret hx hb hr hlocks hw rfl dX8_rides_19 hQ
abbrev rmX8_ring : Room := { frames := 3, cells := 0, slots := 0, locals := 72 }
set_option maxHeartbeats 4000000 in
set_option maxRecDepth 100000 in
theorem c_X8_ring (l : Launch) (D : va_G) (k : Nat → ClassId) (mh mrSt mrNow mrIsKept mrDraft mrTape mrRow mrRode mrWays mrLanes mrSizes mrCells mrBefore : Nat) (sz : Nat) (mSt : (Nat → Int32)) (mNow : (Nat → Int32)) (mIsKept : (Nat → Int32)) (mPeople : Int32) (mDraft : (Nat → Int32)) (mDPeople : Int32) (mHasDry : Int32) (mToldDebts : Int32) (mHighest : Int32) (mTape : (Nat → Int32)) (mTaped : Int32) (mPos : Int32) (mBegun : Int32) (mSort : Int32) (mValue : Int32) (mFault : Int32) (mWrongAt : Int32) (mPaid : Int32) (mRow : (Nat → Int32)) (mRingMuch : Int32) (mRideSum : Int64) (mOwedSum : Int64) (mAllWays : Int64) (mRode : (Nat → Int32)) (mWays : (Nat → Int32)) (mLanes : (Nat → Int32)) (mSizes : (Nat → Int32)) (mCells : (Nat → Int32)) (mTorn : Int32) (mBefore : (Nat → Int32)) (p1 : Int32) (r_ : Int32) (n_mNow : (Nat → Int32)) (n_mRow : (Nat → Int32)) (n_mRingMuch : Int32) (hf : f_X8_ring mSt mNow mPeople mRow mRingMuch p1 = some (r_, n_mNow, n_mRow, n_mRingMuch)) : mR l yX8_ring wsX8_ring rmX8_ring D k sz [.ref mh, .int p1] (wX8 k mh mrSt mrNow mrIsKept mrDraft mrTape mrRow mrRode mrWays mrLanes mrSizes mrCells mrBefore mSt mNow mIsKept mPeople mDraft mDPeople mHasDry mToldDebts mHighest mTape mTaped mPos mBegun mSort mValue mFault mWrongAt mPaid mRow mRingMuch mRideSum mOwedSum mAllWays mRode mWays mLanes mSizes mCells mTorn mBefore) (wX8 k mh mrSt mrNow mrIsKept mrDraft mrTape mrRow mrRode mrWays mrLanes mrSizes mrCells mrBefore mSt n_mNow mIsKept mPeople mDraft mDPeople mHasDry mToldDebts mHighest mTape mTaped mPos mBegun mSort mValue mFault mWrongAt mPaid n_mRow n_mRingMuch mRideSum mOwedSum mAllWays mRode mWays mLanes mSizes mCells mTorn mBefore) (some (.int r_)) := by
  refine mR_of (cc := cX8_ring) (maxL := 3) (ret := some .int) (by decide) rfl (Nat.le_of_ble_eq_true rfl) [(0, .ref mh), (1, .int p1)] rfl ?_
  intro p e s m below meth c A ls args Q cx hK hA hw hl hQ
  have fx := cx.1
  obtain ⟨⟨hx, hb, hml, hown, hts⟩, hr, hlocks⟩ := cx
  have hinX8 : ∀ w ∈ wsX80, w ∈ wsX8_ring := fun w h => List.mem_cons_of_mem _ (List.mem_append_right _ h)
  have q_4 := hts (.fieldLink RX8 26 "DebtRidesModel" "row" "[I") (List.mem_of_getElem? (i := 4) rfl)
  have q_3 := hts (.fieldLink RX8 245 "DebtRidesModel" "ringMuch" "I") (List.mem_of_getElem? (i := 3) rfl)
  have q_1 := hts (.constantLong RX8 251 (10)) (List.mem_of_getElem? (i := 1) rfl)
  have q_2 := hts (.constantLong RX8 253 (14)) (List.mem_of_getElem? (i := 2) rfl)
  have h := hf
  unfold f_X8_ring at h
  clear hf
  refine lv_iload_n hx hb dX8_ring_0 rfl (lv_at hl 1 rfl) ?_
  obtain ⟨r_1, hf, h⟩ := b1_inv h
  refine k_callS (b := 0) (C := "") (host := "") fx hK hA hw (c_X8_isPart l D k _ p1 r_1 hf) (va_cwS 1 hts gX8_ring_X8_isPart rfl rfl rfl (by decide +kernel) ⟨by decide, by decide⟩) (As := [.int p1]) (wr := [(mh, .inr (8, [.ref mrSt, .ref mrNow, .ref mrIsKept, .int mPeople, .ref mrDraft, .int mDPeople, .int mHasDry, .int mToldDebts, .int mHighest, .ref mrTape, .int mTaped, .int mPos, .int mBegun, .int mSort, .int mValue, .int mFault, .int mWrongAt, .int mPaid, .ref mrRow, .int mRingMuch, .long mRideSum, .long mOwedSum, .long mAllWays, .ref mrRode, .ref mrWays, .ref mrLanes, .ref mrSizes, .ref mrCells, .int mTorn, .ref mrBefore])), (mrSt, .inl (k 0, 183, .inl mSt)), (mrNow, .inl (k 0, 61, .inl mNow)), (mrIsKept, .inl (k 1, 2, .inl mIsKept)), (mrDraft, .inl (k 0, 61, .inl mDraft)), (mrTape, .inl (k 0, 160, .inl mTape)), (mrRow, .inl (k 0, 5, .inl mRow)), (mrRode, .inl (k 0, 31, .inl mRode)), (mrWays, .inl (k 0, 31, .inl mWays)), (mrLanes, .inl (k 0, 4, .inl mLanes)), (mrSizes, .inl (k 0, 4, .inl mSizes)), (mrCells, .inl (k 0, 160, .inl mCells)), (mrBefore, .inl (k 0, 61, .inl mBefore))]) (ws' := wX8 k mh mrSt mrNow mrIsKept mrDraft mrTape mrRow mrRode mrWays mrLanes mrSizes mrCells mrBefore mSt mNow mIsKept mPeople mDraft mDPeople mHasDry mToldDebts mHighest mTape mTaped mPos mBegun mSort mValue mFault mWrongAt mPaid mRow mRingMuch mRideSum mOwedSum mAllWays mRode mWays mLanes mSizes mCells mTorn mBefore) [] [0, 1, 2, 3, 4, 5, 6, 7, 8, 9, 10, 11, 12] [0, 1, 2, 3, 4, 5, 6, 7, 8, 9, 10, 11, 12] rfl rfl (by decide) (by decide) (by decide) rfl (by decide) [] rfl hl.1 rfl (Nat.le_of_ble_eq_true rfl) dX8_ring_1 ⟨by decide, by decide⟩ (fun H locs (hw : Wd D A s.heap H locs (wX8 k mh mrSt mrNow mrIsKept mrDraft mrTape mrRow mrRode mrWays mrLanes mrSizes mrCells mrBefore mSt mNow mIsKept mPeople mDraft mDPeople mHasDry mToldDebts mHighest mTape mTaped mPos mBegun mSort mValue mFault mWrongAt mPaid mRow mRingMuch mRideSum mOwedSum mAllWays mRode mWays mLanes mSizes mCells mTorn mBefore)) => ?_)
  refine W.eq (g2 := F0 m 4 ls ([.int r_1])) rfl ?_
  have T_23 : f_X8_ring_B23 mSt mNow mPeople mRow mRingMuch p1 = some (r_, n_mNow, n_mRow, n_mRingMuch) → ∀ (H : Heap) (locs : List Loc) (ls : Array Slot), Wd D A s.heap H locs (wX8 k mh mrSt mrNow mrIsKept mrDraft mrTape mrRow mrRode mrWays mrLanes mrSizes mrCells mrBefore mSt mNow mIsKept mPeople mDraft mDPeople mHasDry mToldDebts mHighest mTape mTaped mPos mBegun mSort mValue mFault mWrongAt mPaid mRow mRingMuch mRideSum mOwedSum mAllWays mRode mWays mLanes mSizes mCells mTorn mBefore) → lv_has ls 3 [(0, .ref mh), (1, .int p1)] → W p l e rmX8_ring s m args below meth c H locs 0 0 Q (F0 m 23 ls []) := by
    clear h
    intro h H locs ls hw hl
    unfold f_X8_ring_B23 at h
    refine lv_aload_n hx hb dX8_ring_23 rfl (lv_at hl 0 rfl) ?_
    obtain ⟨mNow_2, hf, h⟩ := b1_inv h
    refine k_callV (host := "") fx hK hA hw (c_X8_starts l D k mh mrSt mrNow mrIsKept mrDraft mrTape mrRow mrRode mrWays mrLanes mrSizes mrCells mrBefore _ mSt mNow mIsKept mPeople mDraft mDPeople mHasDry mToldDebts mHighest mTape mTaped mPos mBegun mSort mValue mFault mWrongAt mPaid mRow mRingMuch mRideSum mOwedSum mAllWays mRode mWays mLanes mSizes mCells mTorn mBefore mNow_2 hf) (cwV 0 hts gX8_ring_X8_starts rfl rfl rfl (by decide +kernel) ⟨by decide, by decide⟩) (As := []) (wr := []) (ws' := wX8 k mh mrSt mrNow mrIsKept mrDraft mrTape mrRow mrRode mrWays mrLanes mrSizes mrCells mrBefore mSt mNow_2 mIsKept mPeople mDraft mDPeople mHasDry mToldDebts mHighest mTape mTaped mPos mBegun mSort mValue mFault mWrongAt mPaid mRow mRingMuch mRideSum mOwedSum mAllWays mRode mWays mLanes mSizes mCells mTorn mBefore) [0, 1, 2, 3, 4, 5, 6, 7, 8, 9, 10, 11, 12] [] [0, 1, 2, 3, 4, 5, 6, 7, 8, 9, 10, 11, 12] rfl rfl (by decide) (by decide) (by decide) rfl (by decide) 8 rfl rfl [] rfl hl.1 rfl (Nat.le_of_ble_eq_true rfl) dX8_ring_24 ⟨by decide, by decide⟩ (fun H locs (hw : Wd D A s.heap H locs (wX8 k mh mrSt mrNow mrIsKept mrDraft mrTape mrRow mrRode mrWays mrLanes mrSizes mrCells mrBefore mSt mNow_2 mIsKept mPeople mDraft mDPeople mHasDry mToldDebts mHighest mTape mTaped mPos mBegun mSort mValue mFault mWrongAt mPaid mRow mRingMuch mRideSum mOwedSum mAllWays mRode mWays mLanes mSizes mCells mTorn mBefore)) => ?_)
    refine W.eq (g2 := F0 m 27 ls ([])) rfl ?_
    refine lv_aload_n hx hb dX8_ring_27 rfl (lv_at hl 0 rfl) ?_
    obtain ⟨r_3, mRow_4, mRingMuch_5, hf, h⟩ := b3_inv h
    refine k_callV (host := "") fx hK hA hw (c_X8_findRing l D k mh mrSt mrNow mrIsKept mrDraft mrTape mrRow mrRode mrWays mrLanes mrSizes mrCells mrBefore _ mSt mNow_2 mIsKept mPeople mDraft mDPeople mHasDry mToldDebts mHighest mTape mTaped mPos mBegun mSort mValue mFault mWrongAt mPaid mRow mRingMuch mRideSum mOwedSum mAllWays mRode mWays mLanes mSizes mCells mTorn mBefore r_3 mRow_4 mRingMuch_5 hf) (cwV 0 hts gX8_ring_X8_findRing rfl rfl rfl (by decide +kernel) ⟨by decide, by decide⟩) (As := []) (wr := []) (ws' := wX8 k mh mrSt mrNow mrIsKept mrDraft mrTape mrRow mrRode mrWays mrLanes mrSizes mrCells mrBefore mSt mNow_2 mIsKept mPeople mDraft mDPeople mHasDry mToldDebts mHighest mTape mTaped mPos mBegun mSort mValue mFault mWrongAt mPaid mRow_4 mRingMuch_5 mRideSum mOwedSum mAllWays mRode mWays mLanes mSizes mCells mTorn mBefore) [0, 1, 2, 3, 4, 5, 6, 7, 8, 9, 10, 11, 12] [] [0, 1, 2, 3, 4, 5, 6, 7, 8, 9, 10, 11, 12] rfl rfl (by decide) (by decide) (by decide) rfl (by decide) 8 rfl rfl [] rfl hl.1 rfl (Nat.le_of_ble_eq_true rfl) dX8_ring_28 ⟨by decide, by decide⟩ (fun H locs (hw : Wd D A s.heap H locs (wX8 k mh mrSt mrNow mrIsKept mrDraft mrTape mrRow mrRode mrWays mrLanes mrSizes mrCells mrBefore mSt mNow_2 mIsKept mPeople mDraft mDPeople mHasDry mToldDebts mHighest mTape mTaped mPos mBegun mSort mValue mFault mWrongAt mPaid mRow_4 mRingMuch_5 mRideSum mOwedSum mAllWays mRode mWays mLanes mSizes mCells mTorn mBefore)) => ?_)
    refine W.eq (g2 := F0 m 31 ls ([.int r_3])) rfl ?_
    refine lv_istore_n (lv' := [(2, .int r_3), (0, .ref mh), (1, .int p1)]) hx hb dX8_ring_31 rfl hl (by decide) rfl (fun ls hl => ?_)
    refine lv_iload_n hx hb dX8_ring_32 rfl (lv_at hl 0 rfl) ?_
    refine lv_bipush (v := (-4)) hx hb dX8_ring_33 (by decide) ?_
    refine kb_icmp_ne (tgt := 41) hx hb dX8_ring_35 (by decide) h (fun c_35 h => ?_) (fun c_35 h => ?_)
    · refine lv_bipush (v := (-4)) hx hb dX8_ring_38 (by decide) ?_
      cases h
      exact k_iret hx hb hr hlocks hw rfl dX8_ring_40 hQ
    · refine lv_iload_n hx hb dX8_ring_41 rfl (lv_at hl 2 rfl) ?_
      refine kb_if_ne (tgt := 49) hx hb dX8_ring_42 (by decide) h (fun c_42 h => ?_) (fun c_42 h => ?_)
      · refine lv_iload_n hx hb dX8_ring_45 rfl (lv_at hl 0 rfl) ?_
        refine lv_goto (tgt := 83) hx hb dX8_ring_46 (by decide) ?_
        cases h
        exact k_iret hx hb hr hlocks hw rfl dX8_ring_83 hQ
      · refine lv_iload_n hx hb dX8_ring_49 rfl (lv_at hl 2 rfl) ?_
        refine lv_iconst (v := 1) hx hb dX8_ring_50 (by decide) ?_
        refine kb_icmp_ne (tgt := 61) hx hb dX8_ring_51 (by decide) h (fun c_51 h => ?_) (fun c_51 h => ?_)
        · refine lv_aload_n hx hb dX8_ring_54 rfl (lv_at hl 1 rfl) ?_
          refine va_get (ci := 8) (v := .int mRingMuch_5) (C := RX8) (T := TX8) (N := 30) hx hb hts hinX8 hown hK.1 hw.1 0 rfl rfl 19 (by decide) q_3 (fun _ h9 => h9) rfl dX8_ring_55 ?_
          refine lv_goto (tgt := 83) hx hb dX8_ring_58 (by decide) ?_
          cases h
          exact k_iret hx hb hr hlocks hw rfl dX8_ring_83 hQ
        · refine lv_iload_n hx hb dX8_ring_61 rfl (lv_at hl 2 rfl) ?_
          refine lv_bipush (v := 10) hx hb dX8_ring_62 (by decide) ?_
          refine lv_isub hx hb dX8_ring_64 ?_
          refine lv_iload_n hx hb dX8_ring_65 rfl (lv_at hl 0 rfl) ?_
          refine kb_icmp_ge (tgt := 81) hx hb dX8_ring_66 (by decide) h (fun c_66 h => ?_) (fun c_66 h => ?_)
          · refine lv_bipush (v := (-4)) hx hb dX8_ring_81 (by decide) ?_
            cases h
            exact k_iret hx hb hr hlocks hw rfl dX8_ring_83 hQ
          · refine lv_aload_n hx hb dX8_ring_69 rfl (lv_at hl 1 rfl) ?_
            refine va_get (ci := 8) (v := .ref mrRow) (C := RX8) (T := TX8) (N := 30) hx hb hts hinX8 hown hK.1 hw.1 0 rfl rfl 18 (by decide) q_4 (fun _ h9 => h9) rfl dX8_ring_70 ?_
            refine lv_iload_n hx hb dX8_ring_73 rfl (lv_at hl 2 rfl) ?_
            refine lv_bipush (v := 10) hx hb dX8_ring_74 (by decide) ?_
            refine lv_isub hx hb dX8_ring_76 ?_
            refine k_iald hx hb hK hw 6 rfl dX8_ring_77 h (fun a_6 h => ?_)
            refine lv_goto (tgt := 83) hx hb dX8_ring_78 (by decide) ?_
            cases h
            exact k_iret hx hb hr hlocks hw rfl dX8_ring_83 hQ
  refine kb_if_ne (tgt := 23) hx hb dX8_ring_4 (by decide) h (fun c_4 h => ?_) (fun c_4 h => ?_)
  · refine lv_iload_n hx hb dX8_ring_7 rfl (lv_at hl 1 rfl) ?_
    refine lv_i2l hx hb dX8_ring_8 rfl ?_
    refine lv_ldc2 (v := 10) hx hb hown q_1 dX8_ring_9 ?_
    refine lv_ldc2 (v := 14) hx hb hown q_2 dX8_ring_12 ?_
    obtain ⟨r_7, hf, h⟩ := b1_inv h
    refine k_callS (b := 0) (C := "") (host := "") fx hK hA hw (c_X8_in l D k _ p1.toInt64 10 14 r_7 hf) (va_cwS 3 hts gX8_ring_X8_in rfl rfl rfl (by decide +kernel) ⟨by decide, by decide⟩) (As := [.long p1.toInt64, .long 10, .long 14]) (wr := [(mh, .inr (8, [.ref mrSt, .ref mrNow, .ref mrIsKept, .int mPeople, .ref mrDraft, .int mDPeople, .int mHasDry, .int mToldDebts, .int mHighest, .ref mrTape, .int mTaped, .int mPos, .int mBegun, .int mSort, .int mValue, .int mFault, .int mWrongAt, .int mPaid, .ref mrRow, .int mRingMuch, .long mRideSum, .long mOwedSum, .long mAllWays, .ref mrRode, .ref mrWays, .ref mrLanes, .ref mrSizes, .ref mrCells, .int mTorn, .ref mrBefore])), (mrSt, .inl (k 0, 183, .inl mSt)), (mrNow, .inl (k 0, 61, .inl mNow)), (mrIsKept, .inl (k 1, 2, .inl mIsKept)), (mrDraft, .inl (k 0, 61, .inl mDraft)), (mrTape, .inl (k 0, 160, .inl mTape)), (mrRow, .inl (k 0, 5, .inl mRow)), (mrRode, .inl (k 0, 31, .inl mRode)), (mrWays, .inl (k 0, 31, .inl mWays)), (mrLanes, .inl (k 0, 4, .inl mLanes)), (mrSizes, .inl (k 0, 4, .inl mSizes)), (mrCells, .inl (k 0, 160, .inl mCells)), (mrBefore, .inl (k 0, 61, .inl mBefore))]) (ws' := wX8 k mh mrSt mrNow mrIsKept mrDraft mrTape mrRow mrRode mrWays mrLanes mrSizes mrCells mrBefore mSt mNow mIsKept mPeople mDraft mDPeople mHasDry mToldDebts mHighest mTape mTaped mPos mBegun mSort mValue mFault mWrongAt mPaid mRow mRingMuch mRideSum mOwedSum mAllWays mRode mWays mLanes mSizes mCells mTorn mBefore) [] [0, 1, 2, 3, 4, 5, 6, 7, 8, 9, 10, 11, 12] [0, 1, 2, 3, 4, 5, 6, 7, 8, 9, 10, 11, 12] rfl rfl (by decide) (by decide) (by decide) rfl (by decide) [] rfl hl.1 rfl (Nat.le_of_ble_eq_true rfl) dX8_ring_15 ⟨by decide, by decide⟩ (fun H locs (hw : Wd D A s.heap H locs (wX8 k mh mrSt mrNow mrIsKept mrDraft mrTape mrRow mrRode mrWays mrLanes mrSizes mrCells mrBefore mSt mNow mIsKept mPeople mDraft mDPeople mHasDry mToldDebts mHighest mTape mTaped mPos mBegun mSort mValue mFault mWrongAt mPaid mRow mRingMuch mRideSum mOwedSum mAllWays mRode mWays mLanes mSizes mCells mTorn mBefore)) => ?_)
    refine W.eq (g2 := F0 m 18 ls ([.int r_7])) rfl ?_
    refine kb_if_ne (tgt := 23) hx hb dX8_ring_18 (by decide) h (fun c_18 h => ?_) (fun c_18 h => ?_)
    · refine lv_iconst (v := (-1)) hx hb dX8_ring_21 (by decide) ?_
      cases h
      exact k_iret hx hb hr hlocks hw rfl dX8_ring_22 hQ
    · exact T_23 h _ _ _ hw (lv_sub hl [0, 1] rfl)
  · exact T_23 h _ _ _ hw (lv_sub hl [0, 1] rfl)
abbrev rmX8_rule : Room := { frames := 3, cells := 0, slots := 0, locals := 67 }
set_option maxHeartbeats 4000000 in
set_option maxRecDepth 100000 in
theorem c_X8_rule (l : Launch) (D : va_G) (k : Nat → ClassId) (mh mrSt mrNow mrIsKept mrDraft mrTape mrRow mrRode mrWays mrLanes mrSizes mrCells mrBefore : Nat) (sz : Nat) (mSt : (Nat → Int32)) (mNow : (Nat → Int32)) (mIsKept : (Nat → Int32)) (mPeople : Int32) (mDraft : (Nat → Int32)) (mDPeople : Int32) (mHasDry : Int32) (mToldDebts : Int32) (mHighest : Int32) (mTape : (Nat → Int32)) (mTaped : Int32) (mPos : Int32) (mBegun : Int32) (mSort : Int32) (mValue : Int32) (mFault : Int32) (mWrongAt : Int32) (mPaid : Int32) (mRow : (Nat → Int32)) (mRingMuch : Int32) (mRideSum : Int64) (mOwedSum : Int64) (mAllWays : Int64) (mRode : (Nat → Int32)) (mWays : (Nat → Int32)) (mLanes : (Nat → Int32)) (mSizes : (Nat → Int32)) (mCells : (Nat → Int32)) (mTorn : Int32) (mBefore : (Nat → Int32)) (p1 : Int32) (r_ : Int32) (n_mNow : (Nat → Int32)) (hf : f_X8_rule mSt mNow mPeople p1 = some (r_, n_mNow)) : mR l yX8_rule wsX8_rule rmX8_rule D k sz [.ref mh, .int p1] (wX8 k mh mrSt mrNow mrIsKept mrDraft mrTape mrRow mrRode mrWays mrLanes mrSizes mrCells mrBefore mSt mNow mIsKept mPeople mDraft mDPeople mHasDry mToldDebts mHighest mTape mTaped mPos mBegun mSort mValue mFault mWrongAt mPaid mRow mRingMuch mRideSum mOwedSum mAllWays mRode mWays mLanes mSizes mCells mTorn mBefore) (wX8 k mh mrSt mrNow mrIsKept mrDraft mrTape mrRow mrRode mrWays mrLanes mrSizes mrCells mrBefore mSt n_mNow mIsKept mPeople mDraft mDPeople mHasDry mToldDebts mHighest mTape mTaped mPos mBegun mSort mValue mFault mWrongAt mPaid mRow mRingMuch mRideSum mOwedSum mAllWays mRode mWays mLanes mSizes mCells mTorn mBefore) (some (.int r_)) := by
  refine mR_of (cc := cX8_rule) (maxL := 2) (ret := some .int) (by decide) rfl (Nat.le_of_ble_eq_true rfl) [(0, .ref mh), (1, .int p1)] rfl ?_
  intro p e s m below meth c A ls args Q cx hK hA hw hl hQ
  have fx := cx.1
  obtain ⟨⟨hx, hb, hml, hown, hts⟩, hr, hlocks⟩ := cx
  have hinX8 : ∀ w ∈ wsX80, w ∈ wsX8_rule := fun w h => List.mem_cons_of_mem _ (List.mem_append_right _ h)
  have q_1 := hts (.fieldLink RX8 67 "DebtRidesModel" "people" "I") (List.mem_of_getElem? (i := 1) rfl)
  have q_2 := hts (.fieldLink RX8 7 "DebtRidesModel" "st" "[I") (List.mem_of_getElem? (i := 2) rfl)
  have h := hf
  unfold f_X8_rule at h
  clear hf
  refine lv_aload_n hx hb dX8_rule_0 rfl (lv_at hl 0 rfl) ?_
  obtain ⟨mNow_1, hf, h⟩ := b1_inv h
  refine k_callV (host := "") fx hK hA hw (c_X8_starts l D k mh mrSt mrNow mrIsKept mrDraft mrTape mrRow mrRode mrWays mrLanes mrSizes mrCells mrBefore _ mSt mNow mIsKept mPeople mDraft mDPeople mHasDry mToldDebts mHighest mTape mTaped mPos mBegun mSort mValue mFault mWrongAt mPaid mRow mRingMuch mRideSum mOwedSum mAllWays mRode mWays mLanes mSizes mCells mTorn mBefore mNow_1 hf) (cwV 0 hts gX8_rule_X8_starts rfl rfl rfl (by decide +kernel) ⟨by decide, by decide⟩) (As := []) (wr := []) (ws' := wX8 k mh mrSt mrNow mrIsKept mrDraft mrTape mrRow mrRode mrWays mrLanes mrSizes mrCells mrBefore mSt mNow_1 mIsKept mPeople mDraft mDPeople mHasDry mToldDebts mHighest mTape mTaped mPos mBegun mSort mValue mFault mWrongAt mPaid mRow mRingMuch mRideSum mOwedSum mAllWays mRode mWays mLanes mSizes mCells mTorn mBefore) [0, 1, 2, 3, 4, 5, 6, 7, 8, 9, 10, 11, 12] [] [0, 1, 2, 3, 4, 5, 6, 7, 8, 9, 10, 11, 12] rfl rfl (by decide) (by decide) (by decide) rfl (by decide) 8 rfl rfl [] rfl hl.1 rfl (Nat.le_of_ble_eq_true rfl) dX8_rule_1 ⟨by decide, by decide⟩ (fun H locs (hw : Wd D A s.heap H locs (wX8 k mh mrSt mrNow mrIsKept mrDraft mrTape mrRow mrRode mrWays mrLanes mrSizes mrCells mrBefore mSt mNow_1 mIsKept mPeople mDraft mDPeople mHasDry mToldDebts mHighest mTape mTaped mPos mBegun mSort mValue mFault mWrongAt mPaid mRow mRingMuch mRideSum mOwedSum mAllWays mRode mWays mLanes mSizes mCells mTorn mBefore)) => ?_)
  refine W.eq (g2 := F0 m 4 ls ([])) rfl ?_
  refine lv_iload_n hx hb dX8_rule_4 rfl (lv_at hl 1 rfl) ?_
  by_cases c5_0 : p1 = 0
  · rw [if_pos c5_0] at h
    refine lv_tableIn (off := 39) (tgt := 44) hx hb dX8_rule_5 (by rw [c5_0]; decide) (by rw [c5_0]; decide) (by rw [c5_0]; rfl) (by decide) ?_
    refine lv_aload_n hx hb dX8_rule_44 rfl (lv_at hl 0 rfl) ?_
    refine va_get (ci := 8) (v := .int mPeople) (C := RX8) (T := TX8) (N := 30) hx hb hts hinX8 hown hK.1 hw.1 0 rfl rfl 3 (by decide) q_1 (fun _ h9 => h9) rfl dX8_rule_45 ?_
    cases h
    exact k_iret hx hb hr hlocks hw rfl dX8_rule_48 hQ
  · rw [if_neg c5_0] at h
    by_cases c5_1 : p1 = 1
    · rw [if_pos c5_1] at h
      refine lv_tableIn (off := 44) (tgt := 49) hx hb dX8_rule_5 (by rw [c5_1]; decide) (by rw [c5_1]; decide) (by rw [c5_1]; rfl) (by decide) ?_
      refine lv_aload_n hx hb dX8_rule_49 rfl (lv_at hl 0 rfl) ?_
      refine va_get (ci := 8) (v := .ref mrSt) (C := RX8) (T := TX8) (N := 30) hx hb hts hinX8 hown hK.1 hw.1 0 rfl rfl 0 (by decide) q_2 (fun _ h9 => h9) rfl dX8_rule_50 ?_
      refine lv_bipush (v := 40) hx hb dX8_rule_53 (by decide) ?_
      refine k_iald hx hb hK hw 1 rfl dX8_rule_55 h (fun a_2 h => ?_)
      cases h
      exact k_iret hx hb hr hlocks hw rfl dX8_rule_56 hQ
    · rw [if_neg c5_1] at h
      by_cases c5_2 : p1 = 2
      · rw [if_pos c5_2] at h
        refine lv_tableIn (off := 52) (tgt := 57) hx hb dX8_rule_5 (by rw [c5_2]; decide) (by rw [c5_2]; decide) (by rw [c5_2]; rfl) (by decide) ?_
        refine lv_aload_n hx hb dX8_rule_57 rfl (lv_at hl 0 rfl) ?_
        refine va_get (ci := 8) (v := .ref mrSt) (C := RX8) (T := TX8) (N := 30) hx hb hts hinX8 hown hK.1 hw.1 0 rfl rfl 0 (by decide) q_2 (fun _ h9 => h9) rfl dX8_rule_58 ?_
        refine lv_bipush (v := 41) hx hb dX8_rule_61 (by decide) ?_
        refine k_iald hx hb hK hw 1 rfl dX8_rule_63 h (fun a_3 h => ?_)
        cases h
        exact k_iret hx hb hr hlocks hw rfl dX8_rule_64 hQ
      · rw [if_neg c5_2] at h
        by_cases c5_3 : p1 = 3
        · rw [if_pos c5_3] at h
          refine lv_tableIn (off := 60) (tgt := 65) hx hb dX8_rule_5 (by rw [c5_3]; decide) (by rw [c5_3]; decide) (by rw [c5_3]; rfl) (by decide) ?_
          refine lv_aload_n hx hb dX8_rule_65 rfl (lv_at hl 0 rfl) ?_
          obtain ⟨r_4, hf, h⟩ := b1_inv h
          refine k_callV (host := "") fx hK hA hw (c_X8_riding l D k mh mrSt mrNow mrIsKept mrDraft mrTape mrRow mrRode mrWays mrLanes mrSizes mrCells mrBefore _ mSt mNow_1 mIsKept mPeople mDraft mDPeople mHasDry mToldDebts mHighest mTape mTaped mPos mBegun mSort mValue mFault mWrongAt mPaid mRow mRingMuch mRideSum mOwedSum mAllWays mRode mWays mLanes mSizes mCells mTorn mBefore r_4 hf) (cwV 0 hts gX8_rule_X8_riding rfl rfl rfl (by decide +kernel) ⟨by decide, by decide⟩) (As := []) (wr := []) (ws' := wX8 k mh mrSt mrNow mrIsKept mrDraft mrTape mrRow mrRode mrWays mrLanes mrSizes mrCells mrBefore mSt mNow_1 mIsKept mPeople mDraft mDPeople mHasDry mToldDebts mHighest mTape mTaped mPos mBegun mSort mValue mFault mWrongAt mPaid mRow mRingMuch mRideSum mOwedSum mAllWays mRode mWays mLanes mSizes mCells mTorn mBefore) [0, 1, 2, 3, 4, 5, 6, 7, 8, 9, 10, 11, 12] [] [0, 1, 2, 3, 4, 5, 6, 7, 8, 9, 10, 11, 12] rfl rfl (by decide) (by decide) (by decide) rfl (by decide) 8 rfl rfl [] rfl hl.1 rfl (Nat.le_of_ble_eq_true rfl) dX8_rule_66 ⟨by decide, by decide⟩ (fun H locs (hw : Wd D A s.heap H locs (wX8 k mh mrSt mrNow mrIsKept mrDraft mrTape mrRow mrRode mrWays mrLanes mrSizes mrCells mrBefore mSt mNow_1 mIsKept mPeople mDraft mDPeople mHasDry mToldDebts mHighest mTape mTaped mPos mBegun mSort mValue mFault mWrongAt mPaid mRow mRingMuch mRideSum mOwedSum mAllWays mRode mWays mLanes mSizes mCells mTorn mBefore)) => ?_)
          refine W.eq (g2 := F0 m 69 ls ([.int r_4])) rfl ?_
          cases h
          exact k_iret hx hb hr hlocks hw rfl dX8_rule_69 hQ
        · rw [if_neg c5_3] at h
          by_cases c5_4 : p1 = 4
          · rw [if_pos c5_4] at h
            refine lv_tableIn (off := 65) (tgt := 70) hx hb dX8_rule_5 (by rw [c5_4]; decide) (by rw [c5_4]; decide) (by rw [c5_4]; rfl) (by decide) ?_
            refine lv_aload_n hx hb dX8_rule_70 rfl (lv_at hl 0 rfl) ?_
            obtain ⟨r_5, hf, h⟩ := b1_inv h
            refine k_callV (host := "") fx hK hA hw (c_X8_allOwed l D k mh mrSt mrNow mrIsKept mrDraft mrTape mrRow mrRode mrWays mrLanes mrSizes mrCells mrBefore _ mSt mNow_1 mIsKept mPeople mDraft mDPeople mHasDry mToldDebts mHighest mTape mTaped mPos mBegun mSort mValue mFault mWrongAt mPaid mRow mRingMuch mRideSum mOwedSum mAllWays mRode mWays mLanes mSizes mCells mTorn mBefore r_5 hf) (cwV 0 hts gX8_rule_X8_allOwed rfl rfl rfl (by decide +kernel) ⟨by decide, by decide⟩) (As := []) (wr := []) (ws' := wX8 k mh mrSt mrNow mrIsKept mrDraft mrTape mrRow mrRode mrWays mrLanes mrSizes mrCells mrBefore mSt mNow_1 mIsKept mPeople mDraft mDPeople mHasDry mToldDebts mHighest mTape mTaped mPos mBegun mSort mValue mFault mWrongAt mPaid mRow mRingMuch mRideSum mOwedSum mAllWays mRode mWays mLanes mSizes mCells mTorn mBefore) [0, 1, 2, 3, 4, 5, 6, 7, 8, 9, 10, 11, 12] [] [0, 1, 2, 3, 4, 5, 6, 7, 8, 9, 10, 11, 12] rfl rfl (by decide) (by decide) (by decide) rfl (by decide) 8 rfl rfl [] rfl hl.1 rfl (Nat.le_of_ble_eq_true rfl) dX8_rule_71 ⟨by decide, by decide⟩ (fun H locs (hw : Wd D A s.heap H locs (wX8 k mh mrSt mrNow mrIsKept mrDraft mrTape mrRow mrRode mrWays mrLanes mrSizes mrCells mrBefore mSt mNow_1 mIsKept mPeople mDraft mDPeople mHasDry mToldDebts mHighest mTape mTaped mPos mBegun mSort mValue mFault mWrongAt mPaid mRow mRingMuch mRideSum mOwedSum mAllWays mRode mWays mLanes mSizes mCells mTorn mBefore)) => ?_)
            refine W.eq (g2 := F0 m 74 ls ([.int r_5])) rfl ?_
            cases h
            exact k_iret hx hb hr hlocks hw rfl dX8_rule_74 hQ
          · rw [if_neg c5_4] at h
            by_cases c5_5 : p1 = 5
            · rw [if_pos c5_5] at h
              refine lv_tableIn (off := 70) (tgt := 75) hx hb dX8_rule_5 (by rw [c5_5]; decide) (by rw [c5_5]; decide) (by rw [c5_5]; rfl) (by decide) ?_
              refine lv_aload_n hx hb dX8_rule_75 rfl (lv_at hl 0 rfl) ?_
              obtain ⟨r_6, hf, h⟩ := b1_inv h
              refine k_callV (host := "") fx hK hA hw (c_X8_allMoney l D k mh mrSt mrNow mrIsKept mrDraft mrTape mrRow mrRode mrWays mrLanes mrSizes mrCells mrBefore _ mSt mNow_1 mIsKept mPeople mDraft mDPeople mHasDry mToldDebts mHighest mTape mTaped mPos mBegun mSort mValue mFault mWrongAt mPaid mRow mRingMuch mRideSum mOwedSum mAllWays mRode mWays mLanes mSizes mCells mTorn mBefore r_6 hf) (cwV 0 hts gX8_rule_X8_allMoney rfl rfl rfl (by decide +kernel) ⟨by decide, by decide⟩) (As := []) (wr := []) (ws' := wX8 k mh mrSt mrNow mrIsKept mrDraft mrTape mrRow mrRode mrWays mrLanes mrSizes mrCells mrBefore mSt mNow_1 mIsKept mPeople mDraft mDPeople mHasDry mToldDebts mHighest mTape mTaped mPos mBegun mSort mValue mFault mWrongAt mPaid mRow mRingMuch mRideSum mOwedSum mAllWays mRode mWays mLanes mSizes mCells mTorn mBefore) [0, 1, 2, 3, 4, 5, 6, 7, 8, 9, 10, 11, 12] [] [0, 1, 2, 3, 4, 5, 6, 7, 8, 9, 10, 11, 12] rfl rfl (by decide) (by decide) (by decide) rfl (by decide) 8 rfl rfl [] rfl hl.1 rfl (Nat.le_of_ble_eq_true rfl) dX8_rule_76 ⟨by decide, by decide⟩ (fun H locs (hw : Wd D A s.heap H locs (wX8 k mh mrSt mrNow mrIsKept mrDraft mrTape mrRow mrRode mrWays mrLanes mrSizes mrCells mrBefore mSt mNow_1 mIsKept mPeople mDraft mDPeople mHasDry mToldDebts mHighest mTape mTaped mPos mBegun mSort mValue mFault mWrongAt mPaid mRow mRingMuch mRideSum mOwedSum mAllWays mRode mWays mLanes mSizes mCells mTorn mBefore)) => ?_)
              refine W.eq (g2 := F0 m 79 ls ([.int r_6])) rfl ?_
              cases h
              exact k_iret hx hb hr hlocks hw rfl dX8_rule_79 hQ
            · rw [if_neg c5_5] at h
              refine lv_tableOut (tgt := 80) hx hb dX8_rule_5 (by have q0 : p1.toInt ≠ 0 := sw_ne c5_0; have q1 : p1.toInt ≠ 1 := sw_ne c5_1; have q2 : p1.toInt ≠ 2 := sw_ne c5_2; have q3 : p1.toInt ≠ 3 := sw_ne c5_3; have q4 : p1.toInt ≠ 4 := sw_ne c5_4; have q5 : p1.toInt ≠ 5 := sw_ne c5_5; omega) (by decide) ?_
              refine lv_iconst (v := (-1)) hx hb dX8_rule_80 (by decide) ?_
              cases h
              exact k_iret hx hb hr hlocks hw rfl dX8_rule_81 hQ
abbrev rmX8_runs : Room := { frames := 4, cells := 0, slots := 0, locals := 92 }
set_option maxHeartbeats 4000000 in
set_option maxRecDepth 100000 in
theorem c_X8_runs (l : Launch) (D : va_G) (k : Nat → ClassId) (mh mrSt mrNow mrIsKept mrDraft mrTape mrRow mrRode mrWays mrLanes mrSizes mrCells mrBefore : Nat) (sz : Nat) (mSt : (Nat → Int32)) (mNow : (Nat → Int32)) (mIsKept : (Nat → Int32)) (mPeople : Int32) (mDraft : (Nat → Int32)) (mDPeople : Int32) (mHasDry : Int32) (mToldDebts : Int32) (mHighest : Int32) (mTape : (Nat → Int32)) (mTaped : Int32) (mPos : Int32) (mBegun : Int32) (mSort : Int32) (mValue : Int32) (mFault : Int32) (mWrongAt : Int32) (mPaid : Int32) (mRow : (Nat → Int32)) (mRingMuch : Int32) (mRideSum : Int64) (mOwedSum : Int64) (mAllWays : Int64) (mRode : (Nat → Int32)) (mWays : (Nat → Int32)) (mLanes : (Nat → Int32)) (mSizes : (Nat → Int32)) (mCells : (Nat → Int32)) (mTorn : Int32) (mBefore : (Nat → Int32)) (p1 : Int32) (p2 : Int32) (r_ : Int32) (n_mNow : (Nat → Int32)) (n_mPaid : Int32) (hf : f_X8_runs mSt mNow mPeople mPaid p1 p2 = some (r_, n_mNow, n_mPaid)) : mR l yX8_runs wsX8_runs rmX8_runs D k sz [.ref mh, .int p1, .int p2] (wX8 k mh mrSt mrNow mrIsKept mrDraft mrTape mrRow mrRode mrWays mrLanes mrSizes mrCells mrBefore mSt mNow mIsKept mPeople mDraft mDPeople mHasDry mToldDebts mHighest mTape mTaped mPos mBegun mSort mValue mFault mWrongAt mPaid mRow mRingMuch mRideSum mOwedSum mAllWays mRode mWays mLanes mSizes mCells mTorn mBefore) (wX8 k mh mrSt mrNow mrIsKept mrDraft mrTape mrRow mrRode mrWays mrLanes mrSizes mrCells mrBefore mSt n_mNow mIsKept mPeople mDraft mDPeople mHasDry mToldDebts mHighest mTape mTaped mPos mBegun mSort mValue mFault mWrongAt n_mPaid mRow mRingMuch mRideSum mOwedSum mAllWays mRode mWays mLanes mSizes mCells mTorn mBefore) (some (.int r_)) := by
  refine mR_of (cc := cX8_runs) (maxL := 5) (ret := some .int) (by decide) rfl (Nat.le_of_ble_eq_true rfl) [(0, .ref mh), (1, .int p1), (2, .int p2)] rfl ?_
  intro p e s m below meth c A ls args Q cx hK hA hw hl hQ
  have fx := cx.1
  obtain ⟨⟨hx, hb, hml, hown, hts⟩, hr, hlocks⟩ := cx
  have q_1 := hts (.constantLong RX8 207 (3)) (List.mem_of_getElem? (i := 1) rfl)
  have h := hf
  unfold f_X8_runs at h
  clear hf
  refine lv_iload_n hx hb dX8_runs_0 rfl (lv_at hl 1 rfl) ?_
  obtain ⟨r_1, hf, h⟩ := b1_inv h
  refine k_callS (b := 0) (C := "") (host := "") fx hK hA hw (c_X8_isFar l D k _ p1 r_1 hf) (va_cwS 1 hts gX8_runs_X8_isFar rfl rfl rfl (by decide +kernel) ⟨by decide, by decide⟩) (As := [.int p1]) (wr := [(mh, .inr (8, [.ref mrSt, .ref mrNow, .ref mrIsKept, .int mPeople, .ref mrDraft, .int mDPeople, .int mHasDry, .int mToldDebts, .int mHighest, .ref mrTape, .int mTaped, .int mPos, .int mBegun, .int mSort, .int mValue, .int mFault, .int mWrongAt, .int mPaid, .ref mrRow, .int mRingMuch, .long mRideSum, .long mOwedSum, .long mAllWays, .ref mrRode, .ref mrWays, .ref mrLanes, .ref mrSizes, .ref mrCells, .int mTorn, .ref mrBefore])), (mrSt, .inl (k 0, 183, .inl mSt)), (mrNow, .inl (k 0, 61, .inl mNow)), (mrIsKept, .inl (k 1, 2, .inl mIsKept)), (mrDraft, .inl (k 0, 61, .inl mDraft)), (mrTape, .inl (k 0, 160, .inl mTape)), (mrRow, .inl (k 0, 5, .inl mRow)), (mrRode, .inl (k 0, 31, .inl mRode)), (mrWays, .inl (k 0, 31, .inl mWays)), (mrLanes, .inl (k 0, 4, .inl mLanes)), (mrSizes, .inl (k 0, 4, .inl mSizes)), (mrCells, .inl (k 0, 160, .inl mCells)), (mrBefore, .inl (k 0, 61, .inl mBefore))]) (ws' := wX8 k mh mrSt mrNow mrIsKept mrDraft mrTape mrRow mrRode mrWays mrLanes mrSizes mrCells mrBefore mSt mNow mIsKept mPeople mDraft mDPeople mHasDry mToldDebts mHighest mTape mTaped mPos mBegun mSort mValue mFault mWrongAt mPaid mRow mRingMuch mRideSum mOwedSum mAllWays mRode mWays mLanes mSizes mCells mTorn mBefore) [] [0, 1, 2, 3, 4, 5, 6, 7, 8, 9, 10, 11, 12] [0, 1, 2, 3, 4, 5, 6, 7, 8, 9, 10, 11, 12] rfl rfl (by decide) (by decide) (by decide) rfl (by decide) [] rfl hl.1 rfl (Nat.le_of_ble_eq_true rfl) dX8_runs_1 ⟨by decide, by decide⟩ (fun H locs (hw : Wd D A s.heap H locs (wX8 k mh mrSt mrNow mrIsKept mrDraft mrTape mrRow mrRode mrWays mrLanes mrSizes mrCells mrBefore mSt mNow mIsKept mPeople mDraft mDPeople mHasDry mToldDebts mHighest mTape mTaped mPos mBegun mSort mValue mFault mWrongAt mPaid mRow mRingMuch mRideSum mOwedSum mAllWays mRode mWays mLanes mSizes mCells mTorn mBefore)) => ?_)
  refine W.eq (g2 := F0 m 4 ls ([.int r_1])) rfl ?_
  refine kb_if_eq (tgt := 19) hx hb dX8_runs_4 (by decide) h (fun c_4 h => ?_) (fun c_4 h => ?_)
  · refine lv_iconst (v := (-1)) hx hb dX8_runs_19 (by decide) ?_
    cases h
    exact k_iret hx hb hr hlocks hw rfl dX8_runs_20 hQ
  · refine lv_iload_n hx hb dX8_runs_7 rfl (lv_at hl 2 rfl) ?_
    refine lv_i2l hx hb dX8_runs_8 rfl ?_
    refine lv_lconst (v := 0) hx hb dX8_runs_9 rfl ?_
    refine lv_ldc2 (v := 3) hx hb hown q_1 dX8_runs_10 ?_
    obtain ⟨r_2, hf, h⟩ := b1_inv h
    refine k_callS (b := 0) (C := "") (host := "") fx hK hA hw (c_X8_in l D k _ p2.toInt64 0 3 r_2 hf) (va_cwS 3 hts gX8_runs_X8_in rfl rfl rfl (by decide +kernel) ⟨by decide, by decide⟩) (As := [.long p2.toInt64, .long 0, .long 3]) (wr := [(mh, .inr (8, [.ref mrSt, .ref mrNow, .ref mrIsKept, .int mPeople, .ref mrDraft, .int mDPeople, .int mHasDry, .int mToldDebts, .int mHighest, .ref mrTape, .int mTaped, .int mPos, .int mBegun, .int mSort, .int mValue, .int mFault, .int mWrongAt, .int mPaid, .ref mrRow, .int mRingMuch, .long mRideSum, .long mOwedSum, .long mAllWays, .ref mrRode, .ref mrWays, .ref mrLanes, .ref mrSizes, .ref mrCells, .int mTorn, .ref mrBefore])), (mrSt, .inl (k 0, 183, .inl mSt)), (mrNow, .inl (k 0, 61, .inl mNow)), (mrIsKept, .inl (k 1, 2, .inl mIsKept)), (mrDraft, .inl (k 0, 61, .inl mDraft)), (mrTape, .inl (k 0, 160, .inl mTape)), (mrRow, .inl (k 0, 5, .inl mRow)), (mrRode, .inl (k 0, 31, .inl mRode)), (mrWays, .inl (k 0, 31, .inl mWays)), (mrLanes, .inl (k 0, 4, .inl mLanes)), (mrSizes, .inl (k 0, 4, .inl mSizes)), (mrCells, .inl (k 0, 160, .inl mCells)), (mrBefore, .inl (k 0, 61, .inl mBefore))]) (ws' := wX8 k mh mrSt mrNow mrIsKept mrDraft mrTape mrRow mrRode mrWays mrLanes mrSizes mrCells mrBefore mSt mNow mIsKept mPeople mDraft mDPeople mHasDry mToldDebts mHighest mTape mTaped mPos mBegun mSort mValue mFault mWrongAt mPaid mRow mRingMuch mRideSum mOwedSum mAllWays mRode mWays mLanes mSizes mCells mTorn mBefore) [] [0, 1, 2, 3, 4, 5, 6, 7, 8, 9, 10, 11, 12] [0, 1, 2, 3, 4, 5, 6, 7, 8, 9, 10, 11, 12] rfl rfl (by decide) (by decide) (by decide) rfl (by decide) [] rfl hl.1 rfl (Nat.le_of_ble_eq_true rfl) dX8_runs_13 ⟨by decide, by decide⟩ (fun H locs (hw : Wd D A s.heap H locs (wX8 k mh mrSt mrNow mrIsKept mrDraft mrTape mrRow mrRode mrWays mrLanes mrSizes mrCells mrBefore mSt mNow mIsKept mPeople mDraft mDPeople mHasDry mToldDebts mHighest mTape mTaped mPos mBegun mSort mValue mFault mWrongAt mPaid mRow mRingMuch mRideSum mOwedSum mAllWays mRode mWays mLanes mSizes mCells mTorn mBefore)) => ?_)
    refine W.eq (g2 := F0 m 16 ls ([.int r_2])) rfl ?_
    refine kb_if_ne (tgt := 21) hx hb dX8_runs_16 (by decide) h (fun c_16 h => ?_) (fun c_16 h => ?_)
    · refine lv_iconst (v := (-1)) hx hb dX8_runs_19 (by decide) ?_
      cases h
      exact k_iret hx hb hr hlocks hw rfl dX8_runs_20 hQ
    · refine lv_bipush (v := (-4)) hx hb dX8_runs_21 (by decide) ?_
      refine lv_istore_n (lv' := [(3, .int (-4)), (0, .ref mh), (1, .int p1), (2, .int p2)]) hx hb dX8_runs_23 rfl hl (by decide) rfl (fun ls hl => ?_)
      refine lv_aload_n hx hb dX8_runs_24 rfl (lv_at hl 1 rfl) ?_
      obtain ⟨mNow_3, hf, h⟩ := b1_inv h
      refine k_callV (host := "") fx hK hA hw (c_X8_starts l D k mh mrSt mrNow mrIsKept mrDraft mrTape mrRow mrRode mrWays mrLanes mrSizes mrCells mrBefore _ mSt mNow mIsKept mPeople mDraft mDPeople mHasDry mToldDebts mHighest mTape mTaped mPos mBegun mSort mValue mFault mWrongAt mPaid mRow mRingMuch mRideSum mOwedSum mAllWays mRode mWays mLanes mSizes mCells mTorn mBefore mNow_3 hf) (cwV 0 hts gX8_runs_X8_starts rfl rfl rfl (by decide +kernel) ⟨by decide, by decide⟩) (As := []) (wr := []) (ws' := wX8 k mh mrSt mrNow mrIsKept mrDraft mrTape mrRow mrRode mrWays mrLanes mrSizes mrCells mrBefore mSt mNow_3 mIsKept mPeople mDraft mDPeople mHasDry mToldDebts mHighest mTape mTaped mPos mBegun mSort mValue mFault mWrongAt mPaid mRow mRingMuch mRideSum mOwedSum mAllWays mRode mWays mLanes mSizes mCells mTorn mBefore) [0, 1, 2, 3, 4, 5, 6, 7, 8, 9, 10, 11, 12] [] [0, 1, 2, 3, 4, 5, 6, 7, 8, 9, 10, 11, 12] rfl rfl (by decide) (by decide) (by decide) rfl (by decide) 8 rfl rfl [] rfl hl.1 rfl (Nat.le_of_ble_eq_true rfl) dX8_runs_25 ⟨by decide, by decide⟩ (fun H locs (hw : Wd D A s.heap H locs (wX8 k mh mrSt mrNow mrIsKept mrDraft mrTape mrRow mrRode mrWays mrLanes mrSizes mrCells mrBefore mSt mNow_3 mIsKept mPeople mDraft mDPeople mHasDry mToldDebts mHighest mTape mTaped mPos mBegun mSort mValue mFault mWrongAt mPaid mRow mRingMuch mRideSum mOwedSum mAllWays mRode mWays mLanes mSizes mCells mTorn mBefore)) => ?_)
      refine W.eq (g2 := F0 m 28 ls ([])) rfl ?_
      refine lv_iconst (v := 0) hx hb dX8_runs_28 (by decide) ?_
      refine lv_istore (lv' := [(4, .int 0), (3, .int (-4)), (0, .ref mh), (1, .int p1), (2, .int p2)]) hx hb dX8_runs_29 hl (by decide) rfl (fun ls hl => ?_)
      obtain ⟨v3_8, mNow_9, mPaid_10, hL_31, h⟩ := b3_inv h
      have X_31 : ∀ (H : Heap) (locs : List Loc) (ls : Array Slot), Wd D A s.heap H locs (wX8 k mh mrSt mrNow mrIsKept mrDraft mrTape mrRow mrRode mrWays mrLanes mrSizes mrCells mrBefore mSt mNow_9 mIsKept mPeople mDraft mDPeople mHasDry mToldDebts mHighest mTape mTaped mPos mBegun mSort mValue mFault mWrongAt mPaid_10 mRow mRingMuch mRideSum mOwedSum mAllWays mRode mWays mLanes mSizes mCells mTorn mBefore) → lv_has ls 5 [(0, .ref mh), (2, .int p2), (3, .int v3_8)] → W p l e rmX8_runs s m args below meth c H locs 0 0 Q (F0 m 73 ls []) := by
        intro H locs ls hw hl
        refine lv_iload_n hx hb dX8_runs_73 rfl (lv_at hl 1 rfl) ?_
        refine kb_if_ne (tgt := 84) hx hb dX8_runs_74 (by decide) h (fun c_74 h => ?_) (fun c_74 h => ?_)
        · refine lv_aload_n hx hb dX8_runs_77 rfl (lv_at hl 0 rfl) ?_
          obtain ⟨r_17, hf, h⟩ := b1_inv h
          refine k_callV (host := "") fx hK hA hw (c_X8_allOwed l D k mh mrSt mrNow mrIsKept mrDraft mrTape mrRow mrRode mrWays mrLanes mrSizes mrCells mrBefore _ mSt mNow_9 mIsKept mPeople mDraft mDPeople mHasDry mToldDebts mHighest mTape mTaped mPos mBegun mSort mValue mFault mWrongAt mPaid_10 mRow mRingMuch mRideSum mOwedSum mAllWays mRode mWays mLanes mSizes mCells mTorn mBefore r_17 hf) (cwV 0 hts gX8_runs_X8_allOwed rfl rfl rfl (by decide +kernel) ⟨by decide, by decide⟩) (As := []) (wr := []) (ws' := wX8 k mh mrSt mrNow mrIsKept mrDraft mrTape mrRow mrRode mrWays mrLanes mrSizes mrCells mrBefore mSt mNow_9 mIsKept mPeople mDraft mDPeople mHasDry mToldDebts mHighest mTape mTaped mPos mBegun mSort mValue mFault mWrongAt mPaid_10 mRow mRingMuch mRideSum mOwedSum mAllWays mRode mWays mLanes mSizes mCells mTorn mBefore) [0, 1, 2, 3, 4, 5, 6, 7, 8, 9, 10, 11, 12] [] [0, 1, 2, 3, 4, 5, 6, 7, 8, 9, 10, 11, 12] rfl rfl (by decide) (by decide) (by decide) rfl (by decide) 8 rfl rfl [] rfl hl.1 rfl (Nat.le_of_ble_eq_true rfl) dX8_runs_78 ⟨by decide, by decide⟩ (fun H locs (hw : Wd D A s.heap H locs (wX8 k mh mrSt mrNow mrIsKept mrDraft mrTape mrRow mrRode mrWays mrLanes mrSizes mrCells mrBefore mSt mNow_9 mIsKept mPeople mDraft mDPeople mHasDry mToldDebts mHighest mTape mTaped mPos mBegun mSort mValue mFault mWrongAt mPaid_10 mRow mRingMuch mRideSum mOwedSum mAllWays mRode mWays mLanes mSizes mCells mTorn mBefore)) => ?_)
          refine W.eq (g2 := F0 m 81 ls ([.int r_17])) rfl ?_
          refine lv_goto (tgt := 109) hx hb dX8_runs_81 (by decide) ?_
          cases h
          exact k_iret hx hb hr hlocks hw rfl dX8_runs_109 hQ
        · refine lv_iload_n hx hb dX8_runs_84 rfl (lv_at hl 1 rfl) ?_
          refine lv_iconst (v := 1) hx hb dX8_runs_85 (by decide) ?_
          refine kb_icmp_ne (tgt := 96) hx hb dX8_runs_86 (by decide) h (fun c_86 h => ?_) (fun c_86 h => ?_)
          · refine lv_aload_n hx hb dX8_runs_89 rfl (lv_at hl 0 rfl) ?_
            obtain ⟨r_16, hf, h⟩ := b1_inv h
            refine k_callV (host := "") fx hK hA hw (c_X8_riding l D k mh mrSt mrNow mrIsKept mrDraft mrTape mrRow mrRode mrWays mrLanes mrSizes mrCells mrBefore _ mSt mNow_9 mIsKept mPeople mDraft mDPeople mHasDry mToldDebts mHighest mTape mTaped mPos mBegun mSort mValue mFault mWrongAt mPaid_10 mRow mRingMuch mRideSum mOwedSum mAllWays mRode mWays mLanes mSizes mCells mTorn mBefore r_16 hf) (cwV 0 hts gX8_runs_X8_riding rfl rfl rfl (by decide +kernel) ⟨by decide, by decide⟩) (As := []) (wr := []) (ws' := wX8 k mh mrSt mrNow mrIsKept mrDraft mrTape mrRow mrRode mrWays mrLanes mrSizes mrCells mrBefore mSt mNow_9 mIsKept mPeople mDraft mDPeople mHasDry mToldDebts mHighest mTape mTaped mPos mBegun mSort mValue mFault mWrongAt mPaid_10 mRow mRingMuch mRideSum mOwedSum mAllWays mRode mWays mLanes mSizes mCells mTorn mBefore) [0, 1, 2, 3, 4, 5, 6, 7, 8, 9, 10, 11, 12] [] [0, 1, 2, 3, 4, 5, 6, 7, 8, 9, 10, 11, 12] rfl rfl (by decide) (by decide) (by decide) rfl (by decide) 8 rfl rfl [] rfl hl.1 rfl (Nat.le_of_ble_eq_true rfl) dX8_runs_90 ⟨by decide, by decide⟩ (fun H locs (hw : Wd D A s.heap H locs (wX8 k mh mrSt mrNow mrIsKept mrDraft mrTape mrRow mrRode mrWays mrLanes mrSizes mrCells mrBefore mSt mNow_9 mIsKept mPeople mDraft mDPeople mHasDry mToldDebts mHighest mTape mTaped mPos mBegun mSort mValue mFault mWrongAt mPaid_10 mRow mRingMuch mRideSum mOwedSum mAllWays mRode mWays mLanes mSizes mCells mTorn mBefore)) => ?_)
            refine W.eq (g2 := F0 m 93 ls ([.int r_16])) rfl ?_
            refine lv_goto (tgt := 109) hx hb dX8_runs_93 (by decide) ?_
            cases h
            exact k_iret hx hb hr hlocks hw rfl dX8_runs_109 hQ
          · refine lv_iload_n hx hb dX8_runs_96 rfl (lv_at hl 1 rfl) ?_
            refine lv_iconst (v := 2) hx hb dX8_runs_97 (by decide) ?_
            refine kb_icmp_ne (tgt := 108) hx hb dX8_runs_98 (by decide) h (fun c_98 h => ?_) (fun c_98 h => ?_)
            · refine lv_aload_n hx hb dX8_runs_101 rfl (lv_at hl 0 rfl) ?_
              obtain ⟨r_15, hf, h⟩ := b1_inv h
              refine k_callV (host := "") fx hK hA hw (c_X8_allMoney l D k mh mrSt mrNow mrIsKept mrDraft mrTape mrRow mrRode mrWays mrLanes mrSizes mrCells mrBefore _ mSt mNow_9 mIsKept mPeople mDraft mDPeople mHasDry mToldDebts mHighest mTape mTaped mPos mBegun mSort mValue mFault mWrongAt mPaid_10 mRow mRingMuch mRideSum mOwedSum mAllWays mRode mWays mLanes mSizes mCells mTorn mBefore r_15 hf) (cwV 0 hts gX8_runs_X8_allMoney rfl rfl rfl (by decide +kernel) ⟨by decide, by decide⟩) (As := []) (wr := []) (ws' := wX8 k mh mrSt mrNow mrIsKept mrDraft mrTape mrRow mrRode mrWays mrLanes mrSizes mrCells mrBefore mSt mNow_9 mIsKept mPeople mDraft mDPeople mHasDry mToldDebts mHighest mTape mTaped mPos mBegun mSort mValue mFault mWrongAt mPaid_10 mRow mRingMuch mRideSum mOwedSum mAllWays mRode mWays mLanes mSizes mCells mTorn mBefore) [0, 1, 2, 3, 4, 5, 6, 7, 8, 9, 10, 11, 12] [] [0, 1, 2, 3, 4, 5, 6, 7, 8, 9, 10, 11, 12] rfl rfl (by decide) (by decide) (by decide) rfl (by decide) 8 rfl rfl [] rfl hl.1 rfl (Nat.le_of_ble_eq_true rfl) dX8_runs_102 ⟨by decide, by decide⟩ (fun H locs (hw : Wd D A s.heap H locs (wX8 k mh mrSt mrNow mrIsKept mrDraft mrTape mrRow mrRode mrWays mrLanes mrSizes mrCells mrBefore mSt mNow_9 mIsKept mPeople mDraft mDPeople mHasDry mToldDebts mHighest mTape mTaped mPos mBegun mSort mValue mFault mWrongAt mPaid_10 mRow mRingMuch mRideSum mOwedSum mAllWays mRode mWays mLanes mSizes mCells mTorn mBefore)) => ?_)
              refine W.eq (g2 := F0 m 105 ls ([.int r_15])) rfl ?_
              refine lv_goto (tgt := 109) hx hb dX8_runs_105 (by decide) ?_
              cases h
              exact k_iret hx hb hr hlocks hw rfl dX8_runs_109 hQ
            · refine lv_iload_n hx hb dX8_runs_108 rfl (lv_at hl 2 rfl) ?_
              cases h
              exact k_iret hx hb hr hlocks hw rfl dX8_runs_109 hQ
      clear h
      have LP_31 : ∀ (n : Nat) (v3_4 : Int32) (v4_5 : Int32) (mNow_6 : (Nat → Int32)) (mPaid_7 : Int32), f_X8_runs_L31 mPeople p1 n v3_4 v4_5 mNow_6 mPaid_7 = some (v3_8, mNow_9, mPaid_10) → ∀ (H : Heap) (locs : List Loc) (ls : Array Slot), Wd D A s.heap H locs (wX8 k mh mrSt mrNow mrIsKept mrDraft mrTape mrRow mrRode mrWays mrLanes mrSizes mrCells mrBefore mSt mNow_6 mIsKept mPeople mDraft mDPeople mHasDry mToldDebts mHighest mTape mTaped mPos mBegun mSort mValue mFault mWrongAt mPaid_7 mRow mRingMuch mRideSum mOwedSum mAllWays mRode mWays mLanes mSizes mCells mTorn mBefore) → lv_has ls 5 [(0, .ref mh), (1, .int p1), (2, .int p2), (3, .int v3_4), (4, .int v4_5)] → W p l e rmX8_runs s m args below meth c H locs 0 0 Q (F0 m 31 ls []) := by
        clear hL_31 hw hl
        intro n
        induction n with
        | zero => intro v3_4 v4_5 mNow_6 mPaid_7 h; rw [f_X8_runs_L31] at h; cases h
        | succ n ih =>
          intro v3_4 v4_5 mNow_6 mPaid_7 h H locs ls hw hl
          rw [f_X8_runs_L31] at h
          refine lv_iload hx hb dX8_runs_31 (lv_at hl 4 rfl) ?_
          refine lv_iload_n hx hb dX8_runs_33 rfl (lv_at hl 1 rfl) ?_
          refine kb_icmp_gt (tgt := 73) hx hb dX8_runs_34 (by decide) h (fun c_34 h => ?_) (fun c_34 h => ?_)
          · cases h
            exact X_31 _ _ _ hw (lv_sub hl [0, 2, 3] rfl)
          · refine lv_iload_n hx hb dX8_runs_37 rfl (lv_at hl 3 rfl) ?_
            refine lv_bipush (v := (-4)) hx hb dX8_runs_38 (by decide) ?_
            obtain ⟨t_11, hj_40, h⟩ := b1_inv h
            have J_40 : ∀ (H : Heap) (locs : List Loc) (ls : Array Slot), Wd D A s.heap H locs (wX8 k mh mrSt mrNow mrIsKept mrDraft mrTape mrRow mrRode mrWays mrLanes mrSizes mrCells mrBefore mSt mNow_6 mIsKept mPeople mDraft mDPeople mHasDry mToldDebts mHighest mTape mTaped mPos mBegun mSort mValue mFault mWrongAt mPaid_7 mRow mRingMuch mRideSum mOwedSum mAllWays mRode mWays mLanes mSizes mCells mTorn mBefore) → lv_has ls 5 [(0, .ref mh), (1, .int p1), (2, .int p2), (4, .int v4_5)] → W p l e rmX8_runs s m args below meth c H locs 0 0 Q (F0 m 56 ls [.int t_11]) := by
              intro H locs ls hw hl
              refine lv_istore_n (lv' := [(3, .int t_11), (0, .ref mh), (1, .int p1), (2, .int p2), (4, .int v4_5)]) hx hb dX8_runs_56 rfl hl (by decide) rfl (fun ls hl => ?_)
              refine lv_iload hx hb dX8_runs_57 (lv_at hl 4 rfl) ?_
              refine lv_iload_n hx hb dX8_runs_59 rfl (lv_at hl 2 rfl) ?_
              refine kb_icmp_ge (tgt := 67) hx hb dX8_runs_60 (by decide) h (fun c_60 h => ?_) (fun c_60 h => ?_)
              · refine lv_iinc (v := v4_5 + 1) (lv' := [(4, .int (v4_5 + 1)), (3, .int t_11), (0, .ref mh), (1, .int p1), (2, .int p2)]) hx hb dX8_runs_67 hl (k := 4) rfl rfl (by decide) rfl (fun ls hl => ?_)
                refine lv_goto (tgt := 31) hx hb dX8_runs_70 (by decide) ?_
                exact ih _ _ _ _ h _ _ _ hw (lv_sub hl [2, 3, 4, 1, 0] rfl)
              · refine lv_aload_n hx hb dX8_runs_63 rfl (lv_at hl 1 rfl) ?_
                obtain ⟨mNow_13, mPaid_14, hf, h⟩ := b2_inv h
                refine k_callV (host := "") fx hK hA hw (c_X8_dayGoes l D k mh mrSt mrNow mrIsKept mrDraft mrTape mrRow mrRode mrWays mrLanes mrSizes mrCells mrBefore _ mSt mNow_6 mIsKept mPeople mDraft mDPeople mHasDry mToldDebts mHighest mTape mTaped mPos mBegun mSort mValue mFault mWrongAt mPaid_7 mRow mRingMuch mRideSum mOwedSum mAllWays mRode mWays mLanes mSizes mCells mTorn mBefore mNow_13 mPaid_14 hf) (cwV 0 hts gX8_runs_X8_dayGoes rfl rfl rfl (by decide +kernel) ⟨by decide, by decide⟩) (As := []) (wr := []) (ws' := wX8 k mh mrSt mrNow mrIsKept mrDraft mrTape mrRow mrRode mrWays mrLanes mrSizes mrCells mrBefore mSt mNow_13 mIsKept mPeople mDraft mDPeople mHasDry mToldDebts mHighest mTape mTaped mPos mBegun mSort mValue mFault mWrongAt mPaid_14 mRow mRingMuch mRideSum mOwedSum mAllWays mRode mWays mLanes mSizes mCells mTorn mBefore) [0, 1, 2, 3, 4, 5, 6, 7, 8, 9, 10, 11, 12] [] [0, 1, 2, 3, 4, 5, 6, 7, 8, 9, 10, 11, 12] rfl rfl (by decide) (by decide) (by decide) rfl (by decide) 8 rfl rfl [] rfl hl.1 rfl (Nat.le_of_ble_eq_true rfl) dX8_runs_64 ⟨by decide, by decide⟩ (fun H locs (hw : Wd D A s.heap H locs (wX8 k mh mrSt mrNow mrIsKept mrDraft mrTape mrRow mrRode mrWays mrLanes mrSizes mrCells mrBefore mSt mNow_13 mIsKept mPeople mDraft mDPeople mHasDry mToldDebts mHighest mTape mTaped mPos mBegun mSort mValue mFault mWrongAt mPaid_14 mRow mRingMuch mRideSum mOwedSum mAllWays mRode mWays mLanes mSizes mCells mTorn mBefore)) => ?_)
                refine W.eq (g2 := F0 m 67 ls ([])) rfl ?_
                refine lv_iinc (v := v4_5 + 1) (lv' := [(4, .int (v4_5 + 1)), (3, .int t_11), (0, .ref mh), (1, .int p1), (2, .int p2)]) hx hb dX8_runs_67 hl (k := 4) rfl rfl (by decide) rfl (fun ls hl => ?_)
                refine lv_goto (tgt := 31) hx hb dX8_runs_70 (by decide) ?_
                exact ih _ _ _ _ h _ _ _ hw (lv_sub hl [2, 3, 4, 1, 0] rfl)
            clear h
            have h := hj_40
            refine kb_icmp_ne (tgt := 55) hx hb dX8_runs_40 (by decide) h (fun c_40 h => ?_) (fun c_40 h => ?_)
            · refine lv_aload_n hx hb dX8_runs_43 rfl (lv_at hl 0 rfl) ?_
              obtain ⟨r_12, hf, h⟩ := b1_inv h
              refine k_callV (host := "") fx hK hA hw (c_X8_allOwed l D k mh mrSt mrNow mrIsKept mrDraft mrTape mrRow mrRode mrWays mrLanes mrSizes mrCells mrBefore _ mSt mNow_6 mIsKept mPeople mDraft mDPeople mHasDry mToldDebts mHighest mTape mTaped mPos mBegun mSort mValue mFault mWrongAt mPaid_7 mRow mRingMuch mRideSum mOwedSum mAllWays mRode mWays mLanes mSizes mCells mTorn mBefore r_12 hf) (cwV 0 hts gX8_runs_X8_allOwed rfl rfl rfl (by decide +kernel) ⟨by decide, by decide⟩) (As := []) (wr := []) (ws' := wX8 k mh mrSt mrNow mrIsKept mrDraft mrTape mrRow mrRode mrWays mrLanes mrSizes mrCells mrBefore mSt mNow_6 mIsKept mPeople mDraft mDPeople mHasDry mToldDebts mHighest mTape mTaped mPos mBegun mSort mValue mFault mWrongAt mPaid_7 mRow mRingMuch mRideSum mOwedSum mAllWays mRode mWays mLanes mSizes mCells mTorn mBefore) [0, 1, 2, 3, 4, 5, 6, 7, 8, 9, 10, 11, 12] [] [0, 1, 2, 3, 4, 5, 6, 7, 8, 9, 10, 11, 12] rfl rfl (by decide) (by decide) (by decide) rfl (by decide) 8 rfl rfl [] rfl hl.1 rfl (Nat.le_of_ble_eq_true rfl) dX8_runs_44 ⟨by decide, by decide⟩ (fun H locs (hw : Wd D A s.heap H locs (wX8 k mh mrSt mrNow mrIsKept mrDraft mrTape mrRow mrRode mrWays mrLanes mrSizes mrCells mrBefore mSt mNow_6 mIsKept mPeople mDraft mDPeople mHasDry mToldDebts mHighest mTape mTaped mPos mBegun mSort mValue mFault mWrongAt mPaid_7 mRow mRingMuch mRideSum mOwedSum mAllWays mRode mWays mLanes mSizes mCells mTorn mBefore)) => ?_)
              refine W.eq (g2 := F0 m 47 ls ([.int r_12])) rfl ?_
              refine kb_if_ne (tgt := 55) hx hb dX8_runs_47 (by decide) h (fun c_47 h => ?_) (fun c_47 h => ?_)
              · refine lv_iload hx hb dX8_runs_50 (lv_at hl 4 rfl) ?_
                refine lv_goto (tgt := 56) hx hb dX8_runs_52 (by decide) ?_
                cases h
                exact J_40 _ _ _ hw (lv_sub hl [0, 1, 2, 4] rfl)
              · refine lv_iload_n hx hb dX8_runs_55 rfl (lv_at hl 3 rfl) ?_
                cases h
                exact J_40 _ _ _ hw (lv_sub hl [0, 1, 2, 4] rfl)
            · refine lv_iload_n hx hb dX8_runs_55 rfl (lv_at hl 3 rfl) ?_
              cases h
              exact J_40 _ _ _ hw (lv_sub hl [0, 1, 2, 4] rfl)
      exact LP_31 400 (-4) 0 mNow_3 mPaid hL_31 _ _ _ hw (lv_sub hl [2, 3, 4, 1, 0] rfl)
abbrev rmX8_see : Room := { frames := 2, cells := 0, slots := 0, locals := 46 }
set_option maxHeartbeats 4000000 in
set_option maxRecDepth 100000 in
theorem c_X8_see (l : Launch) (D : va_G) (k : Nat → ClassId) (mh mrSt mrNow mrIsKept mrDraft mrTape mrRow mrRode mrWays mrLanes mrSizes mrCells mrBefore : Nat) (sz : Nat) (mSt : (Nat → Int32)) (mNow : (Nat → Int32)) (mIsKept : (Nat → Int32)) (mPeople : Int32) (mDraft : (Nat → Int32)) (mDPeople : Int32) (mHasDry : Int32) (mToldDebts : Int32) (mHighest : Int32) (mTape : (Nat → Int32)) (mTaped : Int32) (mPos : Int32) (mBegun : Int32) (mSort : Int32) (mValue : Int32) (mFault : Int32) (mWrongAt : Int32) (mPaid : Int32) (mRow : (Nat → Int32)) (mRingMuch : Int32) (mRideSum : Int64) (mOwedSum : Int64) (mAllWays : Int64) (mRode : (Nat → Int32)) (mWays : (Nat → Int32)) (mLanes : (Nat → Int32)) (mSizes : (Nat → Int32)) (mCells : (Nat → Int32)) (mTorn : Int32) (mBefore : (Nat → Int32)) (p1 : Int32) (p2 : Int32) (p3 : Int32) (r_ : Int32) (n_mSt : (Nat → Int32)) (hf : f_X8_see mSt mPeople p1 p2 p3 = some (r_, n_mSt)) : mR l yX8_see wsX8_see rmX8_see D k sz [.ref mh, .int p1, .int p2, .int p3] (wX8 k mh mrSt mrNow mrIsKept mrDraft mrTape mrRow mrRode mrWays mrLanes mrSizes mrCells mrBefore mSt mNow mIsKept mPeople mDraft mDPeople mHasDry mToldDebts mHighest mTape mTaped mPos mBegun mSort mValue mFault mWrongAt mPaid mRow mRingMuch mRideSum mOwedSum mAllWays mRode mWays mLanes mSizes mCells mTorn mBefore) (wX8 k mh mrSt mrNow mrIsKept mrDraft mrTape mrRow mrRode mrWays mrLanes mrSizes mrCells mrBefore n_mSt mNow mIsKept mPeople mDraft mDPeople mHasDry mToldDebts mHighest mTape mTaped mPos mBegun mSort mValue mFault mWrongAt mPaid mRow mRingMuch mRideSum mOwedSum mAllWays mRode mWays mLanes mSizes mCells mTorn mBefore) (some (.int r_)) := by
  refine mR_of (cc := cX8_see) (maxL := 5) (ret := some .int) (by decide) rfl (Nat.le_of_ble_eq_true rfl) [(0, .ref mh), (1, .int p1), (2, .int p2), (3, .int p3)] rfl ?_
  intro p e s m below meth c A ls args Q cx hK hA hw hl hQ
  have fx := cx.1
  obtain ⟨⟨hx, hb, hml, hown, hts⟩, hr, hlocks⟩ := cx
  have hinX8 : ∀ w ∈ wsX80, w ∈ wsX8_see := fun w h => List.mem_cons_of_mem _ (List.mem_append_right _ h)
  have q_1 := hts (.constantLong RX8 224 (30)) (List.mem_of_getElem? (i := 1) rfl)
  have q_2 := hts (.fieldLink RX8 7 "DebtRidesModel" "st" "[I") (List.mem_of_getElem? (i := 2) rfl)
  have h := hf
  unfold f_X8_see at h
  clear hf
  refine lv_iload_n hx hb dX8_see_0 rfl (lv_at hl 1 rfl) ?_
  refine lv_i2l hx hb dX8_see_1 rfl ?_
  refine lv_lconst (v := 0) hx hb dX8_see_2 rfl ?_
  refine lv_ldc2 (v := 30) hx hb hown q_1 dX8_see_3 ?_
  obtain ⟨r_1, hf, h⟩ := b1_inv h
  refine k_callS (b := 0) (C := "") (host := "") fx hK hA hw (c_X8_in l D k _ p1.toInt64 0 30 r_1 hf) (va_cwS 3 hts gX8_see_X8_in rfl rfl rfl (by decide +kernel) ⟨by decide, by decide⟩) (As := [.long p1.toInt64, .long 0, .long 30]) (wr := [(mh, .inr (8, [.ref mrSt, .ref mrNow, .ref mrIsKept, .int mPeople, .ref mrDraft, .int mDPeople, .int mHasDry, .int mToldDebts, .int mHighest, .ref mrTape, .int mTaped, .int mPos, .int mBegun, .int mSort, .int mValue, .int mFault, .int mWrongAt, .int mPaid, .ref mrRow, .int mRingMuch, .long mRideSum, .long mOwedSum, .long mAllWays, .ref mrRode, .ref mrWays, .ref mrLanes, .ref mrSizes, .ref mrCells, .int mTorn, .ref mrBefore])), (mrSt, .inl (k 0, 183, .inl mSt)), (mrNow, .inl (k 0, 61, .inl mNow)), (mrIsKept, .inl (k 1, 2, .inl mIsKept)), (mrDraft, .inl (k 0, 61, .inl mDraft)), (mrTape, .inl (k 0, 160, .inl mTape)), (mrRow, .inl (k 0, 5, .inl mRow)), (mrRode, .inl (k 0, 31, .inl mRode)), (mrWays, .inl (k 0, 31, .inl mWays)), (mrLanes, .inl (k 0, 4, .inl mLanes)), (mrSizes, .inl (k 0, 4, .inl mSizes)), (mrCells, .inl (k 0, 160, .inl mCells)), (mrBefore, .inl (k 0, 61, .inl mBefore))]) (ws' := wX8 k mh mrSt mrNow mrIsKept mrDraft mrTape mrRow mrRode mrWays mrLanes mrSizes mrCells mrBefore mSt mNow mIsKept mPeople mDraft mDPeople mHasDry mToldDebts mHighest mTape mTaped mPos mBegun mSort mValue mFault mWrongAt mPaid mRow mRingMuch mRideSum mOwedSum mAllWays mRode mWays mLanes mSizes mCells mTorn mBefore) [] [0, 1, 2, 3, 4, 5, 6, 7, 8, 9, 10, 11, 12] [0, 1, 2, 3, 4, 5, 6, 7, 8, 9, 10, 11, 12] rfl rfl (by decide) (by decide) (by decide) rfl (by decide) [] rfl hl.1 rfl (Nat.le_of_ble_eq_true rfl) dX8_see_6 ⟨by decide, by decide⟩ (fun H locs (hw : Wd D A s.heap H locs (wX8 k mh mrSt mrNow mrIsKept mrDraft mrTape mrRow mrRode mrWays mrLanes mrSizes mrCells mrBefore mSt mNow mIsKept mPeople mDraft mDPeople mHasDry mToldDebts mHighest mTape mTaped mPos mBegun mSort mValue mFault mWrongAt mPaid mRow mRingMuch mRideSum mOwedSum mAllWays mRode mWays mLanes mSizes mCells mTorn mBefore)) => ?_)
  refine W.eq (g2 := F0 m 9 ls ([.int r_1])) rfl ?_
  refine kb_if_eq (tgt := 20) hx hb dX8_see_9 (by decide) h (fun c_9 h => ?_) (fun c_9 h => ?_)
  · refine lv_iconst (v := (-1)) hx hb dX8_see_20 (by decide) ?_
    cases h
    exact k_iret hx hb hr hlocks hw rfl dX8_see_21 hQ
  · refine lv_aload_n hx hb dX8_see_12 rfl (lv_at hl 0 rfl) ?_
    refine lv_iload_n hx hb dX8_see_13 rfl (lv_at hl 2 rfl) ?_
    obtain ⟨r_2, hf, h⟩ := b1_inv h
    refine k_callV (host := "") fx hK hA hw (c_X8_isOne l D k mh mrSt mrNow mrIsKept mrDraft mrTape mrRow mrRode mrWays mrLanes mrSizes mrCells mrBefore _ mSt mNow mIsKept mPeople mDraft mDPeople mHasDry mToldDebts mHighest mTape mTaped mPos mBegun mSort mValue mFault mWrongAt mPaid mRow mRingMuch mRideSum mOwedSum mAllWays mRode mWays mLanes mSizes mCells mTorn mBefore p2 r_2 hf) (cwV 1 hts gX8_see_X8_isOne rfl rfl rfl (by decide +kernel) ⟨by decide, by decide⟩) (As := [.int p2]) (wr := []) (ws' := wX8 k mh mrSt mrNow mrIsKept mrDraft mrTape mrRow mrRode mrWays mrLanes mrSizes mrCells mrBefore mSt mNow mIsKept mPeople mDraft mDPeople mHasDry mToldDebts mHighest mTape mTaped mPos mBegun mSort mValue mFault mWrongAt mPaid mRow mRingMuch mRideSum mOwedSum mAllWays mRode mWays mLanes mSizes mCells mTorn mBefore) [0, 1, 2, 3, 4, 5, 6, 7, 8, 9, 10, 11, 12] [] [0, 1, 2, 3, 4, 5, 6, 7, 8, 9, 10, 11, 12] rfl rfl (by decide) (by decide) (by decide) rfl (by decide) 8 rfl rfl [] rfl hl.1 rfl (Nat.le_of_ble_eq_true rfl) dX8_see_14 ⟨by decide, by decide⟩ (fun H locs (hw : Wd D A s.heap H locs (wX8 k mh mrSt mrNow mrIsKept mrDraft mrTape mrRow mrRode mrWays mrLanes mrSizes mrCells mrBefore mSt mNow mIsKept mPeople mDraft mDPeople mHasDry mToldDebts mHighest mTape mTaped mPos mBegun mSort mValue mFault mWrongAt mPaid mRow mRingMuch mRideSum mOwedSum mAllWays mRode mWays mLanes mSizes mCells mTorn mBefore)) => ?_)
    refine W.eq (g2 := F0 m 17 ls ([.int r_2])) rfl ?_
    refine kb_if_ne (tgt := 22) hx hb dX8_see_17 (by decide) h (fun c_17 h => ?_) (fun c_17 h => ?_)
    · refine lv_iconst (v := (-1)) hx hb dX8_see_20 (by decide) ?_
      cases h
      exact k_iret hx hb hr hlocks hw rfl dX8_see_21 hQ
    · refine lv_aload_n hx hb dX8_see_22 rfl (lv_at hl 0 rfl) ?_
      refine va_get (ci := 8) (v := .ref mrSt) (C := RX8) (T := TX8) (N := 30) hx hb hts hinX8 hown hK.1 hw.1 0 rfl rfl 0 (by decide) q_2 (fun _ h9 => h9) rfl dX8_see_23 ?_
      refine lv_bipush (v := 42) hx hb dX8_see_26 (by decide) ?_
      refine k_iald hx hb hK hw 1 rfl dX8_see_28 h (fun a_3 h => ?_)
      refine lv_bipush (v := 6) hx hb dX8_see_29 (by decide) ?_
      refine kb_icmp_ne (tgt := 37) hx hb dX8_see_31 (by decide) h (fun c_31 h => ?_) (fun c_31 h => ?_)
      · refine lv_bipush (v := (-3)) hx hb dX8_see_34 (by decide) ?_
        cases h
        exact k_iret hx hb hr hlocks hw rfl dX8_see_36 hQ
      · refine lv_bipush (v := 43) hx hb dX8_see_37 (by decide) ?_
        refine lv_iconst (v := 3) hx hb dX8_see_39 (by decide) ?_
        refine lv_aload_n hx hb dX8_see_40 rfl (lv_at hl 0 rfl) ?_
        refine va_get (ci := 8) (v := .ref mrSt) (C := RX8) (T := TX8) (N := 30) hx hb hts hinX8 hown hK.1 hw.1 0 rfl rfl 0 (by decide) q_2 (fun _ h9 => h9) rfl dX8_see_41 ?_
        refine lv_bipush (v := 42) hx hb dX8_see_44 (by decide) ?_
        refine k_iald hx hb hK hw 1 rfl dX8_see_46 h (fun a_4 h => ?_)
        refine lv_imul hx hb dX8_see_47 ?_
        refine lv_iadd hx hb dX8_see_48 ?_
        refine lv_istore (lv' := [(4, .int (43 + (3 * a_4))), (0, .ref mh), (1, .int p1), (2, .int p2), (3, .int p3)]) hx hb dX8_see_49 hl (by decide) rfl (fun ls hl => ?_)
        refine lv_aload_n hx hb dX8_see_51 rfl (lv_at hl 1 rfl) ?_
        refine va_get (ci := 8) (v := .ref mrSt) (C := RX8) (T := TX8) (N := 30) hx hb hts hinX8 hown hK.1 hw.1 0 rfl rfl 0 (by decide) q_2 (fun _ h9 => h9) rfl dX8_see_52 ?_
        refine lv_iload hx hb dX8_see_55 (lv_at hl 0 rfl) ?_
        refine lv_iload_n hx hb dX8_see_57 rfl (lv_at hl 2 rfl) ?_
        refine k_iast hx hb hK hw 1 rfl dX8_see_58 h (fun mSt_5 h H locs (hw : Wd D A s.heap H locs (wX8 k mh mrSt mrNow mrIsKept mrDraft mrTape mrRow mrRode mrWays mrLanes mrSizes mrCells mrBefore mSt_5 mNow mIsKept mPeople mDraft mDPeople mHasDry mToldDebts mHighest mTape mTaped mPos mBegun mSort mValue mFault mWrongAt mPaid mRow mRingMuch mRideSum mOwedSum mAllWays mRode mWays mLanes mSizes mCells mTorn mBefore)) => ?_)
        refine lv_aload_n hx hb dX8_see_59 rfl (lv_at hl 1 rfl) ?_
        refine va_get (ci := 8) (v := .ref mrSt) (C := RX8) (T := TX8) (N := 30) hx hb hts hinX8 hown hK.1 hw.1 0 rfl rfl 0 (by decide) q_2 (fun _ h9 => h9) rfl dX8_see_60 ?_
        refine lv_iload hx hb dX8_see_63 (lv_at hl 0 rfl) ?_
        refine lv_iconst (v := 1) hx hb dX8_see_65 (by decide) ?_
        refine lv_iadd hx hb dX8_see_66 ?_
        refine lv_iload_n hx hb dX8_see_67 rfl (lv_at hl 3 rfl) ?_
        refine k_iast hx hb hK hw 1 rfl dX8_see_68 h (fun mSt_6 h H locs (hw : Wd D A s.heap H locs (wX8 k mh mrSt mrNow mrIsKept mrDraft mrTape mrRow mrRode mrWays mrLanes mrSizes mrCells mrBefore mSt_6 mNow mIsKept mPeople mDraft mDPeople mHasDry mToldDebts mHighest mTape mTaped mPos mBegun mSort mValue mFault mWrongAt mPaid mRow mRingMuch mRideSum mOwedSum mAllWays mRode mWays mLanes mSizes mCells mTorn mBefore)) => ?_)
        refine lv_aload_n hx hb dX8_see_69 rfl (lv_at hl 1 rfl) ?_
        refine va_get (ci := 8) (v := .ref mrSt) (C := RX8) (T := TX8) (N := 30) hx hb hts hinX8 hown hK.1 hw.1 0 rfl rfl 0 (by decide) q_2 (fun _ h9 => h9) rfl dX8_see_70 ?_
        refine lv_iload hx hb dX8_see_73 (lv_at hl 0 rfl) ?_
        refine lv_iconst (v := 2) hx hb dX8_see_75 (by decide) ?_
        refine lv_iadd hx hb dX8_see_76 ?_
        refine lv_iload_n hx hb dX8_see_77 rfl (lv_at hl 4 rfl) ?_
        obtain ⟨r_7, hf, h⟩ := b1_inv h
        refine k_callS (b := 0) (C := "") (host := "") fx hK hA hw (c_X8_flag l D k _ p3 r_7 hf) (va_cwS 1 hts gX8_see_X8_flag rfl rfl rfl (by decide +kernel) ⟨by decide, by decide⟩) (As := [.int p3]) (wr := [(mh, .inr (8, [.ref mrSt, .ref mrNow, .ref mrIsKept, .int mPeople, .ref mrDraft, .int mDPeople, .int mHasDry, .int mToldDebts, .int mHighest, .ref mrTape, .int mTaped, .int mPos, .int mBegun, .int mSort, .int mValue, .int mFault, .int mWrongAt, .int mPaid, .ref mrRow, .int mRingMuch, .long mRideSum, .long mOwedSum, .long mAllWays, .ref mrRode, .ref mrWays, .ref mrLanes, .ref mrSizes, .ref mrCells, .int mTorn, .ref mrBefore])), (mrSt, .inl (k 0, 183, .inl mSt_6)), (mrNow, .inl (k 0, 61, .inl mNow)), (mrIsKept, .inl (k 1, 2, .inl mIsKept)), (mrDraft, .inl (k 0, 61, .inl mDraft)), (mrTape, .inl (k 0, 160, .inl mTape)), (mrRow, .inl (k 0, 5, .inl mRow)), (mrRode, .inl (k 0, 31, .inl mRode)), (mrWays, .inl (k 0, 31, .inl mWays)), (mrLanes, .inl (k 0, 4, .inl mLanes)), (mrSizes, .inl (k 0, 4, .inl mSizes)), (mrCells, .inl (k 0, 160, .inl mCells)), (mrBefore, .inl (k 0, 61, .inl mBefore))]) (ws' := wX8 k mh mrSt mrNow mrIsKept mrDraft mrTape mrRow mrRode mrWays mrLanes mrSizes mrCells mrBefore mSt_6 mNow mIsKept mPeople mDraft mDPeople mHasDry mToldDebts mHighest mTape mTaped mPos mBegun mSort mValue mFault mWrongAt mPaid mRow mRingMuch mRideSum mOwedSum mAllWays mRode mWays mLanes mSizes mCells mTorn mBefore) [] [0, 1, 2, 3, 4, 5, 6, 7, 8, 9, 10, 11, 12] [0, 1, 2, 3, 4, 5, 6, 7, 8, 9, 10, 11, 12] rfl rfl (by decide) (by decide) (by decide) rfl (by decide) [.int ((43 + (3 * a_4)) + 2), .ref mrSt] rfl hl.1 rfl (Nat.le_of_ble_eq_true rfl) dX8_see_78 ⟨by decide, by decide⟩ (fun H locs (hw : Wd D A s.heap H locs (wX8 k mh mrSt mrNow mrIsKept mrDraft mrTape mrRow mrRode mrWays mrLanes mrSizes mrCells mrBefore mSt_6 mNow mIsKept mPeople mDraft mDPeople mHasDry mToldDebts mHighest mTape mTaped mPos mBegun mSort mValue mFault mWrongAt mPaid mRow mRingMuch mRideSum mOwedSum mAllWays mRode mWays mLanes mSizes mCells mTorn mBefore)) => ?_)
        refine W.eq (g2 := F0 m 81 ls ([.int r_7, .int ((43 + (3 * a_4)) + 2), .ref mrSt])) rfl ?_
        refine k_iast hx hb hK hw 1 rfl dX8_see_81 h (fun mSt_8 h H locs (hw : Wd D A s.heap H locs (wX8 k mh mrSt mrNow mrIsKept mrDraft mrTape mrRow mrRode mrWays mrLanes mrSizes mrCells mrBefore mSt_8 mNow mIsKept mPeople mDraft mDPeople mHasDry mToldDebts mHighest mTape mTaped mPos mBegun mSort mValue mFault mWrongAt mPaid mRow mRingMuch mRideSum mOwedSum mAllWays mRode mWays mLanes mSizes mCells mTorn mBefore)) => ?_)
        refine lv_aload_n hx hb dX8_see_82 rfl (lv_at hl 1 rfl) ?_
        refine va_get (ci := 8) (v := .ref mrSt) (C := RX8) (T := TX8) (N := 30) hx hb hts hinX8 hown hK.1 hw.1 0 rfl rfl 0 (by decide) q_2 (fun _ h9 => h9) rfl dX8_see_83 ?_
        refine lv_bipush (v := 42) hx hb dX8_see_86 (by decide) ?_
        refine lv_dup2_11 hx hb dX8_see_88 rfl rfl ?_
        refine k_iald hx hb hK hw 1 rfl dX8_see_89 h (fun a_9 h => ?_)
        refine lv_iconst (v := 1) hx hb dX8_see_90 (by decide) ?_
        refine lv_iadd hx hb dX8_see_91 ?_
        refine k_iast hx hb hK hw 1 rfl dX8_see_92 h (fun mSt_10 h H locs (hw : Wd D A s.heap H locs (wX8 k mh mrSt mrNow mrIsKept mrDraft mrTape mrRow mrRode mrWays mrLanes mrSizes mrCells mrBefore mSt_10 mNow mIsKept mPeople mDraft mDPeople mHasDry mToldDebts mHighest mTape mTaped mPos mBegun mSort mValue mFault mWrongAt mPaid mRow mRingMuch mRideSum mOwedSum mAllWays mRode mWays mLanes mSizes mCells mTorn mBefore)) => ?_)
        refine lv_aload_n hx hb dX8_see_93 rfl (lv_at hl 1 rfl) ?_
        refine va_get (ci := 8) (v := .ref mrSt) (C := RX8) (T := TX8) (N := 30) hx hb hts hinX8 hown hK.1 hw.1 0 rfl rfl 0 (by decide) q_2 (fun _ h9 => h9) rfl dX8_see_94 ?_
        refine lv_bipush (v := 42) hx hb dX8_see_97 (by decide) ?_
        refine k_iald hx hb hK hw 1 rfl dX8_see_99 h (fun a_11 h => ?_)
        cases h
        exact k_iret hx hb hr hlocks hw rfl dX8_see_100 hQ
abbrev rmX8_sheet : Room := { frames := 2, cells := 0, slots := 0, locals := 46 }
set_option maxHeartbeats 4000000 in
set_option maxRecDepth 100000 in
theorem c_X8_sheet (l : Launch) (D : va_G) (k : Nat → ClassId) (mh mrSt mrNow mrIsKept mrDraft mrTape mrRow mrRode mrWays mrLanes mrSizes mrCells mrBefore : Nat) (sz : Nat) (mSt : (Nat → Int32)) (mNow : (Nat → Int32)) (mIsKept : (Nat → Int32)) (mPeople : Int32) (mDraft : (Nat → Int32)) (mDPeople : Int32) (mHasDry : Int32) (mToldDebts : Int32) (mHighest : Int32) (mTape : (Nat → Int32)) (mTaped : Int32) (mPos : Int32) (mBegun : Int32) (mSort : Int32) (mValue : Int32) (mFault : Int32) (mWrongAt : Int32) (mPaid : Int32) (mRow : (Nat → Int32)) (mRingMuch : Int32) (mRideSum : Int64) (mOwedSum : Int64) (mAllWays : Int64) (mRode : (Nat → Int32)) (mWays : (Nat → Int32)) (mLanes : (Nat → Int32)) (mSizes : (Nat → Int32)) (mCells : (Nat → Int32)) (mTorn : Int32) (mBefore : (Nat → Int32)) (p1 : Int32) (p2 : Int32) (p3 : Int32) (r_ : Int32) (n_mLanes : (Nat → Int32)) (n_mSizes : (Nat → Int32)) (n_mCells : (Nat → Int32)) (hf : f_X8_sheet mLanes mSizes mCells p1 p2 p3 = some (r_, n_mLanes, n_mSizes, n_mCells)) : mR l yX8_sheet wsX8_sheet rmX8_sheet D k sz [.ref mh, .int p1, .int p2, .int p3] (wX8 k mh mrSt mrNow mrIsKept mrDraft mrTape mrRow mrRode mrWays mrLanes mrSizes mrCells mrBefore mSt mNow mIsKept mPeople mDraft mDPeople mHasDry mToldDebts mHighest mTape mTaped mPos mBegun mSort mValue mFault mWrongAt mPaid mRow mRingMuch mRideSum mOwedSum mAllWays mRode mWays mLanes mSizes mCells mTorn mBefore) (wX8 k mh mrSt mrNow mrIsKept mrDraft mrTape mrRow mrRode mrWays mrLanes mrSizes mrCells mrBefore mSt mNow mIsKept mPeople mDraft mDPeople mHasDry mToldDebts mHighest mTape mTaped mPos mBegun mSort mValue mFault mWrongAt mPaid mRow mRingMuch mRideSum mOwedSum mAllWays mRode mWays n_mLanes n_mSizes n_mCells mTorn mBefore) (some (.int r_)) := by
  refine mR_of (cc := cX8_sheet) (maxL := 5) (ret := some .int) (by decide) rfl (Nat.le_of_ble_eq_true rfl) [(0, .ref mh), (1, .int p1), (2, .int p2), (3, .int p3)] rfl ?_
  intro p e s m below meth c A ls args Q cx hK hA hw hl hQ
  have fx := cx.1
  obtain ⟨⟨hx, hb, hml, hown, hts⟩, hr, hlocks⟩ := cx
  have hinX8 : ∀ w ∈ wsX80, w ∈ wsX8_sheet := fun w h => List.mem_cons_of_mem _ (List.mem_append_right _ h)
  have q_1 := hts (.fieldLink RX8 35 "DebtRidesModel" "lanes" "[I") (List.mem_of_getElem? (i := 1) rfl)
  have q_2 := hts (.fieldLink RX8 38 "DebtRidesModel" "sizes" "[I") (List.mem_of_getElem? (i := 2) rfl)
  have q_3 := hts (.fieldLink RX8 41 "DebtRidesModel" "cells" "[I") (List.mem_of_getElem? (i := 3) rfl)
  have h := hf
  unfold f_X8_sheet at h
  clear hf
  refine lv_iload_n hx hb dX8_sheet_0 rfl (lv_at hl 1 rfl) ?_
  refine lv_iload_n hx hb dX8_sheet_1 rfl (lv_at hl 2 rfl) ?_
  obtain ⟨r_1, hf, h⟩ := b1_inv h
  refine k_callS (b := 0) (C := "") (host := "") fx hK hA hw (c_X8_isSheet l D k _ p1 p2 r_1 hf) (va_cwS 2 hts gX8_sheet_X8_isSheet rfl rfl rfl (by decide +kernel) ⟨by decide, by decide⟩) (As := [.int p1, .int p2]) (wr := [(mh, .inr (8, [.ref mrSt, .ref mrNow, .ref mrIsKept, .int mPeople, .ref mrDraft, .int mDPeople, .int mHasDry, .int mToldDebts, .int mHighest, .ref mrTape, .int mTaped, .int mPos, .int mBegun, .int mSort, .int mValue, .int mFault, .int mWrongAt, .int mPaid, .ref mrRow, .int mRingMuch, .long mRideSum, .long mOwedSum, .long mAllWays, .ref mrRode, .ref mrWays, .ref mrLanes, .ref mrSizes, .ref mrCells, .int mTorn, .ref mrBefore])), (mrSt, .inl (k 0, 183, .inl mSt)), (mrNow, .inl (k 0, 61, .inl mNow)), (mrIsKept, .inl (k 1, 2, .inl mIsKept)), (mrDraft, .inl (k 0, 61, .inl mDraft)), (mrTape, .inl (k 0, 160, .inl mTape)), (mrRow, .inl (k 0, 5, .inl mRow)), (mrRode, .inl (k 0, 31, .inl mRode)), (mrWays, .inl (k 0, 31, .inl mWays)), (mrLanes, .inl (k 0, 4, .inl mLanes)), (mrSizes, .inl (k 0, 4, .inl mSizes)), (mrCells, .inl (k 0, 160, .inl mCells)), (mrBefore, .inl (k 0, 61, .inl mBefore))]) (ws' := wX8 k mh mrSt mrNow mrIsKept mrDraft mrTape mrRow mrRode mrWays mrLanes mrSizes mrCells mrBefore mSt mNow mIsKept mPeople mDraft mDPeople mHasDry mToldDebts mHighest mTape mTaped mPos mBegun mSort mValue mFault mWrongAt mPaid mRow mRingMuch mRideSum mOwedSum mAllWays mRode mWays mLanes mSizes mCells mTorn mBefore) [] [0, 1, 2, 3, 4, 5, 6, 7, 8, 9, 10, 11, 12] [0, 1, 2, 3, 4, 5, 6, 7, 8, 9, 10, 11, 12] rfl rfl (by decide) (by decide) (by decide) rfl (by decide) [] rfl hl.1 rfl (Nat.le_of_ble_eq_true rfl) dX8_sheet_2 ⟨by decide, by decide⟩ (fun H locs (hw : Wd D A s.heap H locs (wX8 k mh mrSt mrNow mrIsKept mrDraft mrTape mrRow mrRode mrWays mrLanes mrSizes mrCells mrBefore mSt mNow mIsKept mPeople mDraft mDPeople mHasDry mToldDebts mHighest mTape mTaped mPos mBegun mSort mValue mFault mWrongAt mPaid mRow mRingMuch mRideSum mOwedSum mAllWays mRode mWays mLanes mSizes mCells mTorn mBefore)) => ?_)
  refine W.eq (g2 := F0 m 5 ls ([.int r_1])) rfl ?_
  refine kb_if_eq (tgt := 14) hx hb dX8_sheet_5 (by decide) h (fun c_5 h => ?_) (fun c_5 h => ?_)
  · refine lv_iconst (v := (-1)) hx hb dX8_sheet_14 (by decide) ?_
    cases h
    exact k_iret hx hb hr hlocks hw rfl dX8_sheet_15 hQ
  · refine lv_iload_n hx hb dX8_sheet_8 rfl (lv_at hl 3 rfl) ?_
    refine lv_bipush (v := 40) hx hb dX8_sheet_9 (by decide) ?_
    refine kb_icmp_le (tgt := 16) hx hb dX8_sheet_11 (by decide) h (fun c_11 h => ?_) (fun c_11 h => ?_)
    · refine lv_iload_n hx hb dX8_sheet_16 rfl (lv_at hl 3 rfl) ?_
      refine kb_if_ge (tgt := 23) hx hb dX8_sheet_17 (by decide) h (fun c_17 h => ?_) (fun c_17 h => ?_)
      · refine lv_aload_n hx hb dX8_sheet_23 rfl (lv_at hl 0 rfl) ?_
        refine va_get (ci := 8) (v := .ref mrLanes) (C := RX8) (T := TX8) (N := 30) hx hb hts hinX8 hown hK.1 hw.1 0 rfl rfl 25 (by decide) q_1 (fun _ h9 => h9) rfl dX8_sheet_24 ?_
        refine lv_iload_n hx hb dX8_sheet_27 rfl (lv_at hl 1 rfl) ?_
        refine lv_iload_n hx hb dX8_sheet_28 rfl (lv_at hl 2 rfl) ?_
        refine k_iast hx hb hK hw 9 rfl dX8_sheet_29 h (fun mLanes_2 h H locs (hw : Wd D A s.heap H locs (wX8 k mh mrSt mrNow mrIsKept mrDraft mrTape mrRow mrRode mrWays mrLanes mrSizes mrCells mrBefore mSt mNow mIsKept mPeople mDraft mDPeople mHasDry mToldDebts mHighest mTape mTaped mPos mBegun mSort mValue mFault mWrongAt mPaid mRow mRingMuch mRideSum mOwedSum mAllWays mRode mWays mLanes_2 mSizes mCells mTorn mBefore)) => ?_)
        refine lv_aload_n hx hb dX8_sheet_30 rfl (lv_at hl 0 rfl) ?_
        refine va_get (ci := 8) (v := .ref mrSizes) (C := RX8) (T := TX8) (N := 30) hx hb hts hinX8 hown hK.1 hw.1 0 rfl rfl 26 (by decide) q_2 (fun _ h9 => h9) rfl dX8_sheet_31 ?_
        refine lv_iload_n hx hb dX8_sheet_34 rfl (lv_at hl 1 rfl) ?_
        refine lv_iload_n hx hb dX8_sheet_35 rfl (lv_at hl 3 rfl) ?_
        refine k_iast hx hb hK hw 10 rfl dX8_sheet_36 h (fun mSizes_3 h H locs (hw : Wd D A s.heap H locs (wX8 k mh mrSt mrNow mrIsKept mrDraft mrTape mrRow mrRode mrWays mrLanes mrSizes mrCells mrBefore mSt mNow mIsKept mPeople mDraft mDPeople mHasDry mToldDebts mHighest mTape mTaped mPos mBegun mSort mValue mFault mWrongAt mPaid mRow mRingMuch mRideSum mOwedSum mAllWays mRode mWays mLanes_2 mSizes_3 mCells mTorn mBefore)) => ?_)
        refine lv_iconst (v := 0) hx hb dX8_sheet_37 (by decide) ?_
        refine lv_istore (lv' := [(4, .int 0), (0, .ref mh), (1, .int p1), (2, .int p2), (3, .int p3)]) hx hb dX8_sheet_38 hl (by decide) rfl (fun ls hl => ?_)
        obtain ⟨mCells_6, hL_40, h⟩ := b1_inv h
        have X_40 : ∀ (H : Heap) (locs : List Loc) (ls : Array Slot), Wd D A s.heap H locs (wX8 k mh mrSt mrNow mrIsKept mrDraft mrTape mrRow mrRode mrWays mrLanes mrSizes mrCells mrBefore mSt mNow mIsKept mPeople mDraft mDPeople mHasDry mToldDebts mHighest mTape mTaped mPos mBegun mSort mValue mFault mWrongAt mPaid mRow mRingMuch mRideSum mOwedSum mAllWays mRode mWays mLanes_2 mSizes_3 mCells_6 mTorn mBefore) → lv_has ls 5 [] → W p l e rmX8_sheet s m args below meth c H locs 0 0 Q (F0 m 66 ls []) := by
          intro H locs ls hw hl
          refine lv_iconst (v := 1) hx hb dX8_sheet_66 (by decide) ?_
          cases h
          exact k_iret hx hb hr hlocks hw rfl dX8_sheet_67 hQ
        clear h
        have LP_40 : ∀ (n : Nat) (v4_4 : Int32) (mCells_5 : (Nat → Int32)), f_X8_sheet_L40 p1 n v4_4 mCells_5 = some mCells_6 → ∀ (H : Heap) (locs : List Loc) (ls : Array Slot), Wd D A s.heap H locs (wX8 k mh mrSt mrNow mrIsKept mrDraft mrTape mrRow mrRode mrWays mrLanes mrSizes mrCells mrBefore mSt mNow mIsKept mPeople mDraft mDPeople mHasDry mToldDebts mHighest mTape mTaped mPos mBegun mSort mValue mFault mWrongAt mPaid mRow mRingMuch mRideSum mOwedSum mAllWays mRode mWays mLanes_2 mSizes_3 mCells_5 mTorn mBefore) → lv_has ls 5 [(0, .ref mh), (1, .int p1), (4, .int v4_4)] → W p l e rmX8_sheet s m args below meth c H locs 0 0 Q (F0 m 40 ls []) := by
          clear hL_40 hw hl
          intro n
          induction n with
          | zero => intro v4_4 mCells_5 h; rw [f_X8_sheet_L40] at h; cases h
          | succ n ih =>
            intro v4_4 mCells_5 h H locs ls hw hl
            rw [f_X8_sheet_L40] at h
            refine lv_iload hx hb dX8_sheet_40 (lv_at hl 2 rfl) ?_
            refine lv_bipush (v := 40) hx hb dX8_sheet_42 (by decide) ?_
            refine kb_icmp_ge (tgt := 66) hx hb dX8_sheet_44 (by decide) h (fun c_44 h => ?_) (fun c_44 h => ?_)
            · cases h
              exact X_40 _ _ _ hw (lv_sub hl [] rfl)
            · refine lv_aload_n hx hb dX8_sheet_47 rfl (lv_at hl 0 rfl) ?_
              refine va_get (ci := 8) (v := .ref mrCells) (C := RX8) (T := TX8) (N := 30) hx hb hts hinX8 hown hK.1 hw.1 0 rfl rfl 27 (by decide) q_3 (fun _ h9 => h9) rfl dX8_sheet_48 ?_
              refine lv_bipush (v := 40) hx hb dX8_sheet_51 (by decide) ?_
              refine lv_iload_n hx hb dX8_sheet_53 rfl (lv_at hl 1 rfl) ?_
              refine lv_imul hx hb dX8_sheet_54 ?_
              refine lv_iload hx hb dX8_sheet_55 (lv_at hl 2 rfl) ?_
              refine lv_iadd hx hb dX8_sheet_57 ?_
              refine lv_iconst (v := 0) hx hb dX8_sheet_58 (by decide) ?_
              refine k_iast hx hb hK hw 11 rfl dX8_sheet_59 h (fun mCells_7 h H locs (hw : Wd D A s.heap H locs (wX8 k mh mrSt mrNow mrIsKept mrDraft mrTape mrRow mrRode mrWays mrLanes mrSizes mrCells mrBefore mSt mNow mIsKept mPeople mDraft mDPeople mHasDry mToldDebts mHighest mTape mTaped mPos mBegun mSort mValue mFault mWrongAt mPaid mRow mRingMuch mRideSum mOwedSum mAllWays mRode mWays mLanes_2 mSizes_3 mCells_7 mTorn mBefore)) => ?_)
              refine lv_iinc (v := v4_4 + 1) (lv' := [(4, .int (v4_4 + 1)), (0, .ref mh), (1, .int p1)]) hx hb dX8_sheet_60 hl (k := 2) rfl rfl (by decide) rfl (fun ls hl => ?_)
              refine lv_goto (tgt := 40) hx hb dX8_sheet_63 (by decide) ?_
              exact ih _ _ h _ _ _ hw (lv_sub hl [1, 2, 0] rfl)
        exact LP_40 400 0 mCells hL_40 _ _ _ hw (lv_sub hl [1, 2, 0] rfl)
      · refine lv_bipush (v := (-14)) hx hb dX8_sheet_20 (by decide) ?_
        cases h
        exact k_iret hx hb hr hlocks hw rfl dX8_sheet_22 hQ
    · refine lv_iconst (v := (-1)) hx hb dX8_sheet_14 (by decide) ?_
      cases h
      exact k_iret hx hb hr hlocks hw rfl dX8_sheet_15 hQ
abbrev rmX8_text : Room := { frames := 6, cells := 0, slots := 0, locals := 134 }
set_option maxHeartbeats 4000000 in
set_option maxRecDepth 100000 in
theorem c_X8_text (l : Launch) (D : va_G) (k : Nat → ClassId) (mh mrSt mrNow mrIsKept mrDraft mrTape mrRow mrRode mrWays mrLanes mrSizes mrCells mrBefore : Nat) (sz : Nat) (mSt : (Nat → Int32)) (mNow : (Nat → Int32)) (mIsKept : (Nat → Int32)) (mPeople : Int32) (mDraft : (Nat → Int32)) (mDPeople : Int32) (mHasDry : Int32) (mToldDebts : Int32) (mHighest : Int32) (mTape : (Nat → Int32)) (mTaped : Int32) (mPos : Int32) (mBegun : Int32) (mSort : Int32) (mValue : Int32) (mFault : Int32) (mWrongAt : Int32) (mPaid : Int32) (mRow : (Nat → Int32)) (mRingMuch : Int32) (mRideSum : Int64) (mOwedSum : Int64) (mAllWays : Int64) (mRode : (Nat → Int32)) (mWays : (Nat → Int32)) (mLanes : (Nat → Int32)) (mSizes : (Nat → Int32)) (mCells : (Nat → Int32)) (mTorn : Int32) (mBefore : (Nat → Int32)) (r_ : Int32) (n_mSt : (Nat → Int32)) (n_mIsKept : (Nat → Int32)) (n_mPeople : Int32) (n_mDraft : (Nat → Int32)) (n_mDPeople : Int32) (n_mHasDry : Int32) (n_mToldDebts : Int32) (n_mHighest : Int32) (n_mTaped : Int32) (n_mPos : Int32) (n_mBegun : Int32) (n_mSort : Int32) (n_mValue : Int32) (n_mFault : Int32) (n_mWrongAt : Int32) (hf : f_X8_text mSt mIsKept mPeople mDraft mTape mTaped mBegun mSort mValue mWrongAt = some (r_, n_mSt, n_mIsKept, n_mPeople, n_mDraft, n_mDPeople, n_mHasDry, n_mToldDebts, n_mHighest, n_mTaped, n_mPos, n_mBegun, n_mSort, n_mValue, n_mFault, n_mWrongAt)) : mR l yX8_text wsX8_text rmX8_text D k sz [.ref mh] (wX8 k mh mrSt mrNow mrIsKept mrDraft mrTape mrRow mrRode mrWays mrLanes mrSizes mrCells mrBefore mSt mNow mIsKept mPeople mDraft mDPeople mHasDry mToldDebts mHighest mTape mTaped mPos mBegun mSort mValue mFault mWrongAt mPaid mRow mRingMuch mRideSum mOwedSum mAllWays mRode mWays mLanes mSizes mCells mTorn mBefore) (wX8 k mh mrSt mrNow mrIsKept mrDraft mrTape mrRow mrRode mrWays mrLanes mrSizes mrCells mrBefore n_mSt mNow n_mIsKept n_mPeople n_mDraft n_mDPeople n_mHasDry n_mToldDebts n_mHighest mTape n_mTaped n_mPos n_mBegun n_mSort n_mValue n_mFault n_mWrongAt mPaid mRow mRingMuch mRideSum mOwedSum mAllWays mRode mWays mLanes mSizes mCells mTorn mBefore) (some (.int r_)) := by
  refine mR_of (cc := cX8_text) (maxL := 2) (ret := some .int) (by decide) rfl (Nat.le_of_ble_eq_true rfl) [(0, .ref mh)] rfl ?_
  intro p e s m below meth c A ls args Q cx hK hA hw hl hQ
  have fx := cx.1
  obtain ⟨⟨hx, hb, hml, hown, hts⟩, hr, hlocks⟩ := cx
  have hinX8 : ∀ w ∈ wsX80, w ∈ wsX8_text := fun w h => List.mem_cons_of_mem _ (List.mem_append_right _ h)
  have q_1 := hts (.fieldLink RX8 79 "DebtRidesModel" "fault" "I") (List.mem_of_getElem? (i := 1) rfl)
  have q_2 := hts (.fieldLink RX8 88 "DebtRidesModel" "pos" "I") (List.mem_of_getElem? (i := 2) rfl)
  have q_3 := hts (.fieldLink RX8 103 "DebtRidesModel" "sort" "I") (List.mem_of_getElem? (i := 3) rfl)
  have q_4 := hts (.fieldLink RX8 64 "DebtRidesModel" "highest" "I") (List.mem_of_getElem? (i := 4) rfl)
  have q_5 := hts (.fieldLink RX8 53 "DebtRidesModel" "dPeople" "I") (List.mem_of_getElem? (i := 5) rfl)
  have q_6 := hts (.fieldLink RX8 76 "DebtRidesModel" "taped" "I") (List.mem_of_getElem? (i := 6) rfl)
  have q_7 := hts (.fieldLink RX8 85 "DebtRidesModel" "wrongAt" "I") (List.mem_of_getElem? (i := 7) rfl)
  have h := hf
  unfold f_X8_text at h
  clear hf
  refine lv_iconst (v := 0) hx hb dX8_text_0 (by decide) ?_
  refine lv_istore_n (lv' := [(1, .int 0), (0, .ref mh)]) hx hb dX8_text_1 rfl hl (by decide) rfl (fun ls hl => ?_)
  refine lv_aload_n hx hb dX8_text_2 rfl (lv_at hl 1 rfl) ?_
  refine lv_iconst (v := 0) hx hb dX8_text_3 (by decide) ?_
  refine va_put (ci := 8) (v := .int 0) (ty := tyX8 15) (C := RX8) (T := TX8) (N := 30) hx hb hts hinX8 tyX8 tyX8_ok nmX8 hown hK.1 hw.1 hw.2.1 hw.2.2 0 rfl rfl 15 (by decide) q_1 (fun _ h9 => h9) rfl (tyX8_ok 15 (by decide)) rfl rfl (Nat.le_of_ble_eq_true rfl) dX8_text_4 (fun H locs hP hD hS => ?_)
  have hw : Wd D A s.heap H locs (wX8 k mh mrSt mrNow mrIsKept mrDraft mrTape mrRow mrRode mrWays mrLanes mrSizes mrCells mrBefore mSt mNow mIsKept mPeople mDraft mDPeople mHasDry mToldDebts mHighest mTape mTaped mPos mBegun mSort mValue 0 mWrongAt mPaid mRow mRingMuch mRideSum mOwedSum mAllWays mRode mWays mLanes mSizes mCells mTorn mBefore) := ⟨hP, hD, hS⟩
  refine lv_aload_n hx hb dX8_text_7 rfl (lv_at hl 1 rfl) ?_
  refine lv_iconst (v := 0) hx hb dX8_text_8 (by decide) ?_
  refine va_put (ci := 8) (v := .int 0) (ty := tyX8 11) (C := RX8) (T := TX8) (N := 30) hx hb hts hinX8 tyX8 tyX8_ok nmX8 hown hK.1 hw.1 hw.2.1 hw.2.2 0 rfl rfl 11 (by decide) q_2 (fun _ h9 => h9) rfl (tyX8_ok 11 (by decide)) rfl rfl (Nat.le_of_ble_eq_true rfl) dX8_text_9 (fun H locs hP hD hS => ?_)
  have hw : Wd D A s.heap H locs (wX8 k mh mrSt mrNow mrIsKept mrDraft mrTape mrRow mrRode mrWays mrLanes mrSizes mrCells mrBefore mSt mNow mIsKept mPeople mDraft mDPeople mHasDry mToldDebts mHighest mTape mTaped 0 mBegun mSort mValue 0 mWrongAt mPaid mRow mRingMuch mRideSum mOwedSum mAllWays mRode mWays mLanes mSizes mCells mTorn mBefore) := ⟨hP, hD, hS⟩
  refine lv_aload_n hx hb dX8_text_12 rfl (lv_at hl 1 rfl) ?_
  obtain ⟨mDraft_1, mDPeople_2, mHasDry_3, mToldDebts_4, mHighest_5, hf, h⟩ := b5_inv h
  refine k_callV (host := "") fx hK hA hw (c_X8_firstDraft l D k mh mrSt mrNow mrIsKept mrDraft mrTape mrRow mrRode mrWays mrLanes mrSizes mrCells mrBefore _ mSt mNow mIsKept mPeople mDraft mDPeople mHasDry mToldDebts mHighest mTape mTaped 0 mBegun mSort mValue 0 mWrongAt mPaid mRow mRingMuch mRideSum mOwedSum mAllWays mRode mWays mLanes mSizes mCells mTorn mBefore mDraft_1 mDPeople_2 mHasDry_3 mToldDebts_4 mHighest_5 hf) (cwV 0 hts gX8_text_X8_firstDraft rfl rfl rfl (by decide +kernel) ⟨by decide, by decide⟩) (As := []) (wr := []) (ws' := wX8 k mh mrSt mrNow mrIsKept mrDraft mrTape mrRow mrRode mrWays mrLanes mrSizes mrCells mrBefore mSt mNow mIsKept mPeople mDraft_1 mDPeople_2 mHasDry_3 mToldDebts_4 mHighest_5 mTape mTaped 0 mBegun mSort mValue 0 mWrongAt mPaid mRow mRingMuch mRideSum mOwedSum mAllWays mRode mWays mLanes mSizes mCells mTorn mBefore) [0, 1, 2, 3, 4, 5, 6, 7, 8, 9, 10, 11, 12] [] [0, 1, 2, 3, 4, 5, 6, 7, 8, 9, 10, 11, 12] rfl rfl (by decide) (by decide) (by decide) rfl (by decide) 8 rfl rfl [] rfl hl.1 rfl (Nat.le_of_ble_eq_true rfl) dX8_text_13 ⟨by decide, by decide⟩ (fun H locs (hw : Wd D A s.heap H locs (wX8 k mh mrSt mrNow mrIsKept mrDraft mrTape mrRow mrRode mrWays mrLanes mrSizes mrCells mrBefore mSt mNow mIsKept mPeople mDraft_1 mDPeople_2 mHasDry_3 mToldDebts_4 mHighest_5 mTape mTaped 0 mBegun mSort mValue 0 mWrongAt mPaid mRow mRingMuch mRideSum mOwedSum mAllWays mRode mWays mLanes mSizes mCells mTorn mBefore)) => ?_)
  refine W.eq (g2 := F0 m 16 ls ([])) rfl ?_
  refine lv_aload_n hx hb dX8_text_16 rfl (lv_at hl 1 rfl) ?_
  obtain ⟨mPos_6, mBegun_7, mSort_8, mValue_9, mFault_10, mWrongAt_11, hf, h⟩ := b6_inv h
  refine k_callV (host := "") fx hK hA hw (c_X8_takes l D k mh mrSt mrNow mrIsKept mrDraft mrTape mrRow mrRode mrWays mrLanes mrSizes mrCells mrBefore _ mSt mNow mIsKept mPeople mDraft_1 mDPeople_2 mHasDry_3 mToldDebts_4 mHighest_5 mTape mTaped 0 mBegun mSort mValue 0 mWrongAt mPaid mRow mRingMuch mRideSum mOwedSum mAllWays mRode mWays mLanes mSizes mCells mTorn mBefore mPos_6 mBegun_7 mSort_8 mValue_9 mFault_10 mWrongAt_11 hf) (cwV 0 hts gX8_text_X8_takes rfl rfl rfl (by decide +kernel) ⟨by decide, by decide⟩) (As := []) (wr := []) (ws' := wX8 k mh mrSt mrNow mrIsKept mrDraft mrTape mrRow mrRode mrWays mrLanes mrSizes mrCells mrBefore mSt mNow mIsKept mPeople mDraft_1 mDPeople_2 mHasDry_3 mToldDebts_4 mHighest_5 mTape mTaped mPos_6 mBegun_7 mSort_8 mValue_9 mFault_10 mWrongAt_11 mPaid mRow mRingMuch mRideSum mOwedSum mAllWays mRode mWays mLanes mSizes mCells mTorn mBefore) [0, 1, 2, 3, 4, 5, 6, 7, 8, 9, 10, 11, 12] [] [0, 1, 2, 3, 4, 5, 6, 7, 8, 9, 10, 11, 12] rfl rfl (by decide) (by decide) (by decide) rfl (by decide) 8 rfl rfl [] rfl hl.1 rfl (Nat.le_of_ble_eq_true rfl) dX8_text_17 ⟨by decide, by decide⟩ (fun H locs (hw : Wd D A s.heap H locs (wX8 k mh mrSt mrNow mrIsKept mrDraft mrTape mrRow mrRode mrWays mrLanes mrSizes mrCells mrBefore mSt mNow mIsKept mPeople mDraft_1 mDPeople_2 mHasDry_3 mToldDebts_4 mHighest_5 mTape mTaped mPos_6 mBegun_7 mSort_8 mValue_9 mFault_10 mWrongAt_11 mPaid mRow mRingMuch mRideSum mOwedSum mAllWays mRode mWays mLanes mSizes mCells mTorn mBefore)) => ?_)
  refine W.eq (g2 := F0 m 20 ls ([])) rfl ?_
  obtain ⟨v1_24, mDraft_25, mDPeople_26, mHasDry_27, mToldDebts_28, mHighest_29, mPos_30, mBegun_31, mSort_32, mValue_33, mFault_34, mWrongAt_35, hL_20, h⟩ := b12_inv h
  have X_20 : ∀ (H : Heap) (locs : List Loc) (ls : Array Slot), Wd D A s.heap H locs (wX8 k mh mrSt mrNow mrIsKept mrDraft mrTape mrRow mrRode mrWays mrLanes mrSizes mrCells mrBefore mSt mNow mIsKept mPeople mDraft_25 mDPeople_26 mHasDry_27 mToldDebts_28 mHighest_29 mTape mTaped mPos_30 mBegun_31 mSort_32 mValue_33 mFault_34 mWrongAt_35 mPaid mRow mRingMuch mRideSum mOwedSum mAllWays mRode mWays mLanes mSizes mCells mTorn mBefore) → lv_has ls 2 [(0, .ref mh), (1, .int v1_24)] → W p l e rmX8_text s m args below meth c H locs 0 0 Q (F0 m 44 ls []) := by
    intro H locs ls hw hl
    refine lv_aload_n hx hb dX8_text_44 rfl (lv_at hl 0 rfl) ?_
    refine va_get (ci := 8) (v := .int mFault_34) (C := RX8) (T := TX8) (N := 30) hx hb hts hinX8 hown hK.1 hw.1 0 rfl rfl 15 (by decide) q_1 (fun _ h9 => h9) rfl dX8_text_45 ?_
    obtain ⟨mFault_47, mWrongAt_48, hj_48, h⟩ := b2_inv h
    have J_48 : ∀ (H : Heap) (locs : List Loc) (ls : Array Slot), Wd D A s.heap H locs (wX8 k mh mrSt mrNow mrIsKept mrDraft mrTape mrRow mrRode mrWays mrLanes mrSizes mrCells mrBefore mSt mNow mIsKept mPeople mDraft_25 mDPeople_26 mHasDry_27 mToldDebts_28 mHighest_29 mTape mTaped mPos_30 mBegun_31 mSort_32 mValue_33 mFault_47 mWrongAt_48 mPaid mRow mRingMuch mRideSum mOwedSum mAllWays mRode mWays mLanes mSizes mCells mTorn mBefore) → lv_has ls 2 [(0, .ref mh), (1, .int v1_24)] → W p l e rmX8_text s m args below meth c H locs 0 0 Q (F0 m 73 ls []) := by
      intro H locs ls hw hl
      refine lv_aload_n hx hb dX8_text_73 rfl (lv_at hl 0 rfl) ?_
      refine lv_iconst (v := 0) hx hb dX8_text_74 (by decide) ?_
      refine va_put (ci := 8) (v := .int 0) (ty := tyX8 10) (C := RX8) (T := TX8) (N := 30) hx hb hts hinX8 tyX8 tyX8_ok nmX8 hown hK.1 hw.1 hw.2.1 hw.2.2 0 rfl rfl 10 (by decide) q_6 (fun _ h9 => h9) rfl (tyX8_ok 10 (by decide)) rfl rfl (Nat.le_of_ble_eq_true rfl) dX8_text_75 (fun H locs hP hD hS => ?_)
      have hw : Wd D A s.heap H locs (wX8 k mh mrSt mrNow mrIsKept mrDraft mrTape mrRow mrRode mrWays mrLanes mrSizes mrCells mrBefore mSt mNow mIsKept mPeople mDraft_25 mDPeople_26 mHasDry_27 mToldDebts_28 mHighest_29 mTape 0 mPos_30 mBegun_31 mSort_32 mValue_33 mFault_47 mWrongAt_48 mPaid mRow mRingMuch mRideSum mOwedSum mAllWays mRode mWays mLanes mSizes mCells mTorn mBefore) := ⟨hP, hD, hS⟩
      refine lv_aload_n hx hb dX8_text_78 rfl (lv_at hl 0 rfl) ?_
      refine va_get (ci := 8) (v := .int mFault_47) (C := RX8) (T := TX8) (N := 30) hx hb hts hinX8 hown hK.1 hw.1 0 rfl rfl 15 (by decide) q_1 (fun _ h9 => h9) rfl dX8_text_79 ?_
      refine kb_if_le (tgt := 93) hx hb dX8_text_82 (by decide) h (fun c_82 h => ?_) (fun c_82 h => ?_)
      · refine lv_aload_n hx hb dX8_text_93 rfl (lv_at hl 0 rfl) ?_
        obtain ⟨mSt_52, mIsKept_53, mPeople_54, hf, h⟩ := b3_inv h
        refine k_callV (host := "") fx hK hA hw (c_X8_keepDraft l D k mh mrSt mrNow mrIsKept mrDraft mrTape mrRow mrRode mrWays mrLanes mrSizes mrCells mrBefore _ mSt mNow mIsKept mPeople mDraft_25 mDPeople_26 mHasDry_27 mToldDebts_28 mHighest_29 mTape 0 mPos_30 mBegun_31 mSort_32 mValue_33 mFault_47 mWrongAt_48 mPaid mRow mRingMuch mRideSum mOwedSum mAllWays mRode mWays mLanes mSizes mCells mTorn mBefore mSt_52 mIsKept_53 mPeople_54 hf) (cwV 0 hts gX8_text_X8_keepDraft rfl rfl rfl (by decide +kernel) ⟨by decide, by decide⟩) (As := []) (wr := []) (ws' := wX8 k mh mrSt mrNow mrIsKept mrDraft mrTape mrRow mrRode mrWays mrLanes mrSizes mrCells mrBefore mSt_52 mNow mIsKept_53 mPeople_54 mDraft_25 mDPeople_26 mHasDry_27 mToldDebts_28 mHighest_29 mTape 0 mPos_30 mBegun_31 mSort_32 mValue_33 mFault_47 mWrongAt_48 mPaid mRow mRingMuch mRideSum mOwedSum mAllWays mRode mWays mLanes mSizes mCells mTorn mBefore) [0, 1, 2, 3, 4, 5, 6, 7, 8, 9, 10, 11, 12] [] [0, 1, 2, 3, 4, 5, 6, 7, 8, 9, 10, 11, 12] rfl rfl (by decide) (by decide) (by decide) rfl (by decide) 8 rfl rfl [] rfl hl.1 rfl (Nat.le_of_ble_eq_true rfl) dX8_text_94 ⟨by decide, by decide⟩ (fun H locs (hw : Wd D A s.heap H locs (wX8 k mh mrSt mrNow mrIsKept mrDraft mrTape mrRow mrRode mrWays mrLanes mrSizes mrCells mrBefore mSt_52 mNow mIsKept_53 mPeople_54 mDraft_25 mDPeople_26 mHasDry_27 mToldDebts_28 mHighest_29 mTape 0 mPos_30 mBegun_31 mSort_32 mValue_33 mFault_47 mWrongAt_48 mPaid mRow mRingMuch mRideSum mOwedSum mAllWays mRode mWays mLanes mSizes mCells mTorn mBefore)) => ?_)
        refine W.eq (g2 := F0 m 97 ls ([])) rfl ?_
        refine lv_iload_n hx hb dX8_text_97 rfl (lv_at hl 1 rfl) ?_
        cases h
        exact k_iret hx hb hr hlocks hw rfl dX8_text_98 hQ
      · refine lv_bipush (v := (-10)) hx hb dX8_text_85 (by decide) ?_
        refine lv_aload_n hx hb dX8_text_87 rfl (lv_at hl 0 rfl) ?_
        refine va_get (ci := 8) (v := .int mWrongAt_48) (C := RX8) (T := TX8) (N := 30) hx hb hts hinX8 hown hK.1 hw.1 0 rfl rfl 16 (by decide) q_7 (fun _ h9 => h9) rfl dX8_text_88 ?_
        refine lv_isub hx hb dX8_text_91 ?_
        have g0 := Option.some.inj h
        clear h
        obtain ⟨e0, g1⟩ := Prod.mk.inj g0
        obtain ⟨e1, g2⟩ := Prod.mk.inj g1
        obtain ⟨e2, g3⟩ := Prod.mk.inj g2
        obtain ⟨e3, g4⟩ := Prod.mk.inj g3
        obtain ⟨e4, g5⟩ := Prod.mk.inj g4
        obtain ⟨e5, g6⟩ := Prod.mk.inj g5
        obtain ⟨e6, g7⟩ := Prod.mk.inj g6
        obtain ⟨e7, g8⟩ := Prod.mk.inj g7
        obtain ⟨e8, g9⟩ := Prod.mk.inj g8
        obtain ⟨e9, g10⟩ := Prod.mk.inj g9
        obtain ⟨e10, g11⟩ := Prod.mk.inj g10
        obtain ⟨e11, g12⟩ := Prod.mk.inj g11
        obtain ⟨e12, g13⟩ := Prod.mk.inj g12
        obtain ⟨e13, g14⟩ := Prod.mk.inj g13
        obtain ⟨e14, g15⟩ := Prod.mk.inj g14
        subst e0; subst e1; subst e2; subst e3; subst e4; subst e5; subst e6; subst e7; subst e8; subst e9; subst e10; subst e11; subst e12; subst e13; subst e14; subst g15
        exact k_iret hx hb hr hlocks hw rfl dX8_text_92 hQ
    clear h
    have h := hj_48
    refine kb_if_ne (tgt := 73) hx hb dX8_text_48 (by decide) h (fun c_48 h => ?_) (fun c_48 h => ?_)
    · refine lv_aload_n hx hb dX8_text_51 rfl (lv_at hl 0 rfl) ?_
      refine lv_aload_n hx hb dX8_text_52 rfl (lv_at hl 0 rfl) ?_
      refine va_get (ci := 8) (v := .int mHighest_29) (C := RX8) (T := TX8) (N := 30) hx hb hts hinX8 hown hK.1 hw.1 0 rfl rfl 8 (by decide) q_4 (fun _ h9 => h9) rfl dX8_text_53 ?_
      refine lv_aload_n hx hb dX8_text_56 rfl (lv_at hl 0 rfl) ?_
      refine va_get (ci := 8) (v := .int mDPeople_26) (C := RX8) (T := TX8) (N := 30) hx hb hts hinX8 hown hK.1 hw.1 0 rfl rfl 5 (by decide) q_5 (fun _ h9 => h9) rfl dX8_text_57 ?_
      obtain ⟨t_49, hj_60, h⟩ := b1_inv h
      have J_60 : ∀ (H : Heap) (locs : List Loc) (ls : Array Slot), Wd D A s.heap H locs (wX8 k mh mrSt mrNow mrIsKept mrDraft mrTape mrRow mrRode mrWays mrLanes mrSizes mrCells mrBefore mSt mNow mIsKept mPeople mDraft_25 mDPeople_26 mHasDry_27 mToldDebts_28 mHighest_29 mTape mTaped mPos_30 mBegun_31 mSort_32 mValue_33 mFault_34 mWrongAt_35 mPaid mRow mRingMuch mRideSum mOwedSum mAllWays mRode mWays mLanes mSizes mCells mTorn mBefore) → lv_has ls 2 [(0, .ref mh), (1, .int v1_24)] → W p l e rmX8_text s m args below meth c H locs 0 0 Q (F0 m 68 ls [.int t_49, .ref mh]) := by
        intro H locs ls hw hl
        refine lv_bipush (v := 6) hx hb dX8_text_68 (by decide) ?_
        obtain ⟨mFault_50, mWrongAt_51, hf, h⟩ := b2_inv h
        refine k_callV (host := "") fx hK hA hw (c_X8_needs l D k mh mrSt mrNow mrIsKept mrDraft mrTape mrRow mrRode mrWays mrLanes mrSizes mrCells mrBefore _ mSt mNow mIsKept mPeople mDraft_25 mDPeople_26 mHasDry_27 mToldDebts_28 mHighest_29 mTape mTaped mPos_30 mBegun_31 mSort_32 mValue_33 mFault_34 mWrongAt_35 mPaid mRow mRingMuch mRideSum mOwedSum mAllWays mRode mWays mLanes mSizes mCells mTorn mBefore t_49 6 mFault_50 mWrongAt_51 hf) (cwV 2 hts gX8_text_X8_needs rfl rfl rfl (by decide +kernel) ⟨by decide, by decide⟩) (As := [.int t_49, .int 6]) (wr := []) (ws' := wX8 k mh mrSt mrNow mrIsKept mrDraft mrTape mrRow mrRode mrWays mrLanes mrSizes mrCells mrBefore mSt mNow mIsKept mPeople mDraft_25 mDPeople_26 mHasDry_27 mToldDebts_28 mHighest_29 mTape mTaped mPos_30 mBegun_31 mSort_32 mValue_33 mFault_50 mWrongAt_51 mPaid mRow mRingMuch mRideSum mOwedSum mAllWays mRode mWays mLanes mSizes mCells mTorn mBefore) [0, 1, 2, 3, 4, 5, 6, 7, 8, 9, 10, 11, 12] [] [0, 1, 2, 3, 4, 5, 6, 7, 8, 9, 10, 11, 12] rfl rfl (by decide) (by decide) (by decide) rfl (by decide) 8 rfl rfl [] rfl hl.1 rfl (Nat.le_of_ble_eq_true rfl) dX8_text_70 ⟨by decide, by decide⟩ (fun H locs (hw : Wd D A s.heap H locs (wX8 k mh mrSt mrNow mrIsKept mrDraft mrTape mrRow mrRode mrWays mrLanes mrSizes mrCells mrBefore mSt mNow mIsKept mPeople mDraft_25 mDPeople_26 mHasDry_27 mToldDebts_28 mHighest_29 mTape mTaped mPos_30 mBegun_31 mSort_32 mValue_33 mFault_50 mWrongAt_51 mPaid mRow mRingMuch mRideSum mOwedSum mAllWays mRode mWays mLanes mSizes mCells mTorn mBefore)) => ?_)
        refine W.eq (g2 := F0 m 73 ls ([])) rfl ?_
        cases h
        exact J_48 _ _ _ hw (lv_sub hl [0, 1] rfl)
      clear h
      have h := hj_60
      refine kb_icmp_ge (tgt := 67) hx hb dX8_text_60 (by decide) h (fun c_60 h => ?_) (fun c_60 h => ?_)
      · refine lv_iconst (v := 0) hx hb dX8_text_67 (by decide) ?_
        cases h
        exact J_60 _ _ _ hw (lv_sub hl [0, 1] rfl)
      · refine lv_iconst (v := 1) hx hb dX8_text_63 (by decide) ?_
        refine lv_goto (tgt := 68) hx hb dX8_text_64 (by decide) ?_
        cases h
        exact J_60 _ _ _ hw (lv_sub hl [0, 1] rfl)
    · cases h
      exact J_48 _ _ _ hw (lv_sub hl [0, 1] rfl)
  clear h
  have LP_20 : ∀ (n : Nat) (v1_12 : Int32) (mDraft_13 : (Nat → Int32)) (mDPeople_14 : Int32) (mHasDry_15 : Int32) (mToldDebts_16 : Int32) (mHighest_17 : Int32) (mPos_18 : Int32) (mBegun_19 : Int32) (mSort_20 : Int32) (mValue_21 : Int32) (mFault_22 : Int32) (mWrongAt_23 : Int32), f_X8_text_L20 mTape mTaped n v1_12 mDraft_13 mDPeople_14 mHasDry_15 mToldDebts_16 mHighest_17 mPos_18 mBegun_19 mSort_20 mValue_21 mFault_22 mWrongAt_23 = some (v1_24, mDraft_25, mDPeople_26, mHasDry_27, mToldDebts_28, mHighest_29, mPos_30, mBegun_31, mSort_32, mValue_33, mFault_34, mWrongAt_35) → ∀ (H : Heap) (locs : List Loc) (ls : Array Slot), Wd D A s.heap H locs (wX8 k mh mrSt mrNow mrIsKept mrDraft mrTape mrRow mrRode mrWays mrLanes mrSizes mrCells mrBefore mSt mNow mIsKept mPeople mDraft_13 mDPeople_14 mHasDry_15 mToldDebts_16 mHighest_17 mTape mTaped mPos_18 mBegun_19 mSort_20 mValue_21 mFault_22 mWrongAt_23 mPaid mRow mRingMuch mRideSum mOwedSum mAllWays mRode mWays mLanes mSizes mCells mTorn mBefore) → lv_has ls 2 [(0, .ref mh), (1, .int v1_12)] → W p l e rmX8_text s m args below meth c H locs 0 0 Q (F0 m 20 ls []) := by
    clear hL_20 hw hl
    intro n
    induction n with
    | zero => intro v1_12 mDraft_13 mDPeople_14 mHasDry_15 mToldDebts_16 mHighest_17 mPos_18 mBegun_19 mSort_20 mValue_21 mFault_22 mWrongAt_23 h; rw [f_X8_text_L20] at h; cases h
    | succ n ih =>
      intro v1_12 mDraft_13 mDPeople_14 mHasDry_15 mToldDebts_16 mHighest_17 mPos_18 mBegun_19 mSort_20 mValue_21 mFault_22 mWrongAt_23 h H locs ls hw hl
      rw [f_X8_text_L20] at h
      refine lv_aload_n hx hb dX8_text_20 rfl (lv_at hl 0 rfl) ?_
      refine va_get (ci := 8) (v := .int mFault_22) (C := RX8) (T := TX8) (N := 30) hx hb hts hinX8 hown hK.1 hw.1 0 rfl rfl 15 (by decide) q_1 (fun _ h9 => h9) rfl dX8_text_21 ?_
      refine kb_if_ne (tgt := 44) hx hb dX8_text_24 (by decide) h (fun c_24 h => ?_) (fun c_24 h => ?_)
      · refine lv_aload_n hx hb dX8_text_27 rfl (lv_at hl 0 rfl) ?_
        refine va_get (ci := 8) (v := .int mSort_20) (C := RX8) (T := TX8) (N := 30) hx hb hts hinX8 hown hK.1 hw.1 0 rfl rfl 13 (by decide) q_3 (fun _ h9 => h9) rfl dX8_text_28 ?_
        refine kb_if_eq (tgt := 44) hx hb dX8_text_31 (by decide) h (fun c_31 h => ?_) (fun c_31 h => ?_)
        · cases h
          exact X_20 _ _ _ hw (lv_sub hl [0, 1] rfl)
        · refine lv_aload_n hx hb dX8_text_34 rfl (lv_at hl 0 rfl) ?_
          obtain ⟨mDraft_36, mDPeople_37, mHasDry_38, mToldDebts_39, mHighest_40, mPos_41, mBegun_42, mSort_43, mValue_44, mFault_45, mWrongAt_46, hf, h⟩ := b11_inv h
          refine k_callV (host := "") fx hK hA hw (c_X8_readLine l D k mh mrSt mrNow mrIsKept mrDraft mrTape mrRow mrRode mrWays mrLanes mrSizes mrCells mrBefore _ mSt mNow mIsKept mPeople mDraft_13 mDPeople_14 mHasDry_15 mToldDebts_16 mHighest_17 mTape mTaped mPos_18 mBegun_19 mSort_20 mValue_21 mFault_22 mWrongAt_23 mPaid mRow mRingMuch mRideSum mOwedSum mAllWays mRode mWays mLanes mSizes mCells mTorn mBefore mDraft_36 mDPeople_37 mHasDry_38 mToldDebts_39 mHighest_40 mPos_41 mBegun_42 mSort_43 mValue_44 mFault_45 mWrongAt_46 hf) (cwV 0 hts gX8_text_X8_readLine rfl rfl rfl (by decide +kernel) ⟨by decide, by decide⟩) (As := []) (wr := []) (ws' := wX8 k mh mrSt mrNow mrIsKept mrDraft mrTape mrRow mrRode mrWays mrLanes mrSizes mrCells mrBefore mSt mNow mIsKept mPeople mDraft_36 mDPeople_37 mHasDry_38 mToldDebts_39 mHighest_40 mTape mTaped mPos_41 mBegun_42 mSort_43 mValue_44 mFault_45 mWrongAt_46 mPaid mRow mRingMuch mRideSum mOwedSum mAllWays mRode mWays mLanes mSizes mCells mTorn mBefore) [0, 1, 2, 3, 4, 5, 6, 7, 8, 9, 10, 11, 12] [] [0, 1, 2, 3, 4, 5, 6, 7, 8, 9, 10, 11, 12] rfl rfl (by decide) (by decide) (by decide) rfl (by decide) 8 rfl rfl [] rfl hl.1 rfl (Nat.le_of_ble_eq_true rfl) dX8_text_35 ⟨by decide, by decide⟩ (fun H locs (hw : Wd D A s.heap H locs (wX8 k mh mrSt mrNow mrIsKept mrDraft mrTape mrRow mrRode mrWays mrLanes mrSizes mrCells mrBefore mSt mNow mIsKept mPeople mDraft_36 mDPeople_37 mHasDry_38 mToldDebts_39 mHighest_40 mTape mTaped mPos_41 mBegun_42 mSort_43 mValue_44 mFault_45 mWrongAt_46 mPaid mRow mRingMuch mRideSum mOwedSum mAllWays mRode mWays mLanes mSizes mCells mTorn mBefore)) => ?_)
          refine W.eq (g2 := F0 m 38 ls ([])) rfl ?_
          refine lv_iinc (v := v1_12 + 1) (lv' := [(1, .int (v1_12 + 1)), (0, .ref mh)]) hx hb dX8_text_38 hl (k := 1) rfl rfl (by decide) rfl (fun ls hl => ?_)
          refine lv_goto (tgt := 20) hx hb dX8_text_41 (by decide) ?_
          exact ih _ _ _ _ _ _ _ _ _ _ _ _ h _ _ _ hw (lv_sub hl [1, 0] rfl)
      · cases h
        exact X_20 _ _ _ hw (lv_sub hl [0, 1] rfl)
  exact LP_20 400 0 mDraft_1 mDPeople_2 mHasDry_3 mToldDebts_4 mHighest_5 mPos_6 mBegun_7 mSort_8 mValue_9 mFault_10 mWrongAt_11 hL_20 _ _ _ hw (lv_sub hl [1, 0] rfl)
abbrev rmX8_torn : Room := { frames := 0, cells := 0, slots := 0, locals := 0 }
set_option maxHeartbeats 4000000 in
set_option maxRecDepth 100000 in
theorem c_X8_torn (l : Launch) (D : va_G) (k : Nat → ClassId) (mh mrSt mrNow mrIsKept mrDraft mrTape mrRow mrRode mrWays mrLanes mrSizes mrCells mrBefore : Nat) (sz : Nat) (mSt : (Nat → Int32)) (mNow : (Nat → Int32)) (mIsKept : (Nat → Int32)) (mPeople : Int32) (mDraft : (Nat → Int32)) (mDPeople : Int32) (mHasDry : Int32) (mToldDebts : Int32) (mHighest : Int32) (mTape : (Nat → Int32)) (mTaped : Int32) (mPos : Int32) (mBegun : Int32) (mSort : Int32) (mValue : Int32) (mFault : Int32) (mWrongAt : Int32) (mPaid : Int32) (mRow : (Nat → Int32)) (mRingMuch : Int32) (mRideSum : Int64) (mOwedSum : Int64) (mAllWays : Int64) (mRode : (Nat → Int32)) (mWays : (Nat → Int32)) (mLanes : (Nat → Int32)) (mSizes : (Nat → Int32)) (mCells : (Nat → Int32)) (mTorn : Int32) (mBefore : (Nat → Int32)) (r_ : Int32) (hf : f_X8_torn mTorn = some r_) : mR l yX8_torn wsX8_torn rmX8_torn D k sz [.ref mh] (wX8 k mh mrSt mrNow mrIsKept mrDraft mrTape mrRow mrRode mrWays mrLanes mrSizes mrCells mrBefore mSt mNow mIsKept mPeople mDraft mDPeople mHasDry mToldDebts mHighest mTape mTaped mPos mBegun mSort mValue mFault mWrongAt mPaid mRow mRingMuch mRideSum mOwedSum mAllWays mRode mWays mLanes mSizes mCells mTorn mBefore) (wX8 k mh mrSt mrNow mrIsKept mrDraft mrTape mrRow mrRode mrWays mrLanes mrSizes mrCells mrBefore mSt mNow mIsKept mPeople mDraft mDPeople mHasDry mToldDebts mHighest mTape mTaped mPos mBegun mSort mValue mFault mWrongAt mPaid mRow mRingMuch mRideSum mOwedSum mAllWays mRode mWays mLanes mSizes mCells mTorn mBefore) (some (.int r_)) := by
  refine mR_of (cc := cX8_torn) (maxL := 1) (ret := some .int) (by decide) rfl (Nat.le_of_ble_eq_true rfl) [(0, .ref mh)] rfl ?_
  intro p e s m below meth c A ls args Q cx hK hA hw hl hQ
  have fx := cx.1
  obtain ⟨⟨hx, hb, hml, hown, hts⟩, hr, hlocks⟩ := cx
  have hinX8 : ∀ w ∈ wsX80, w ∈ wsX8_torn := fun w h => List.mem_cons_of_mem _ (List.mem_append_right _ h)
  have q_1 := hts (.fieldLink RX8 311 "DebtRidesModel" "torn" "I") (List.mem_of_getElem? (i := 1) rfl)
  have h := hf
  unfold f_X8_torn at h
  clear hf
  refine lv_aload_n hx hb dX8_torn_0 rfl (lv_at hl 0 rfl) ?_
  refine va_get (ci := 8) (v := .int mTorn) (C := RX8) (T := TX8) (N := 30) hx hb hts hinX8 hown hK.1 hw.1 0 rfl rfl 28 (by decide) q_1 (fun _ h9 => h9) rfl dX8_torn_1 ?_
  cases h
  exact k_iret hx hb hr hlocks hw rfl dX8_torn_4 hQ
abbrev rmX8_train : Room := { frames := 5, cells := 0, slots := 0, locals := 114 }
set_option maxHeartbeats 4000000 in
set_option maxRecDepth 100000 in
theorem c_X8_train (l : Launch) (D : va_G) (k : Nat → ClassId) (mh mrSt mrNow mrIsKept mrDraft mrTape mrRow mrRode mrWays mrLanes mrSizes mrCells mrBefore : Nat) (sz : Nat) (mSt : (Nat → Int32)) (mNow : (Nat → Int32)) (mIsKept : (Nat → Int32)) (mPeople : Int32) (mDraft : (Nat → Int32)) (mDPeople : Int32) (mHasDry : Int32) (mToldDebts : Int32) (mHighest : Int32) (mTape : (Nat → Int32)) (mTaped : Int32) (mPos : Int32) (mBegun : Int32) (mSort : Int32) (mValue : Int32) (mFault : Int32) (mWrongAt : Int32) (mPaid : Int32) (mRow : (Nat → Int32)) (mRingMuch : Int32) (mRideSum : Int64) (mOwedSum : Int64) (mAllWays : Int64) (mRode : (Nat → Int32)) (mWays : (Nat → Int32)) (mLanes : (Nat → Int32)) (mSizes : (Nat → Int32)) (mCells : (Nat → Int32)) (mTorn : Int32) (mBefore : (Nat → Int32)) (p1 : Int32) (p2 : Int32) (r_ : Int32) (n_mNow : (Nat → Int32)) (n_mPaid : Int32) (hf : f_X8_train mSt mNow mPeople mPaid p1 p2 = some (r_, n_mNow, n_mPaid)) : mR l yX8_train wsX8_train rmX8_train D k sz [.ref mh, .int p1, .int p2] (wX8 k mh mrSt mrNow mrIsKept mrDraft mrTape mrRow mrRode mrWays mrLanes mrSizes mrCells mrBefore mSt mNow mIsKept mPeople mDraft mDPeople mHasDry mToldDebts mHighest mTape mTaped mPos mBegun mSort mValue mFault mWrongAt mPaid mRow mRingMuch mRideSum mOwedSum mAllWays mRode mWays mLanes mSizes mCells mTorn mBefore) (wX8 k mh mrSt mrNow mrIsKept mrDraft mrTape mrRow mrRode mrWays mrLanes mrSizes mrCells mrBefore mSt n_mNow mIsKept mPeople mDraft mDPeople mHasDry mToldDebts mHighest mTape mTaped mPos mBegun mSort mValue mFault mWrongAt n_mPaid mRow mRingMuch mRideSum mOwedSum mAllWays mRode mWays mLanes mSizes mCells mTorn mBefore) (some (.int r_)) := by
  refine mR_of (cc := cX8_train) (maxL := 7) (ret := some .int) (by decide) rfl (Nat.le_of_ble_eq_true rfl) [(0, .ref mh), (1, .int p1), (2, .int p2)] rfl ?_
  intro p e s m below meth c A ls args Q cx hK hA hw hl hQ
  have fx := cx.1
  obtain ⟨⟨hx, hb, hml, hown, hts⟩, hr, hlocks⟩ := cx
  have hinX8 : ∀ w ∈ wsX80, w ∈ wsX8_train := fun w h => List.mem_cons_of_mem _ (List.mem_append_right _ h)
  have q_1 := hts (.fieldLink RX8 67 "DebtRidesModel" "people" "I") (List.mem_of_getElem? (i := 1) rfl)
  have h := hf
  unfold f_X8_train at h
  clear hf
  refine lv_iload_n hx hb dX8_train_0 rfl (lv_at hl 1 rfl) ?_
  obtain ⟨r_1, hf, h⟩ := b1_inv h
  refine k_callS (b := 0) (C := "") (host := "") fx hK hA hw (c_X8_isFar l D k _ p1 r_1 hf) (va_cwS 1 hts gX8_train_X8_isFar rfl rfl rfl (by decide +kernel) ⟨by decide, by decide⟩) (As := [.int p1]) (wr := [(mh, .inr (8, [.ref mrSt, .ref mrNow, .ref mrIsKept, .int mPeople, .ref mrDraft, .int mDPeople, .int mHasDry, .int mToldDebts, .int mHighest, .ref mrTape, .int mTaped, .int mPos, .int mBegun, .int mSort, .int mValue, .int mFault, .int mWrongAt, .int mPaid, .ref mrRow, .int mRingMuch, .long mRideSum, .long mOwedSum, .long mAllWays, .ref mrRode, .ref mrWays, .ref mrLanes, .ref mrSizes, .ref mrCells, .int mTorn, .ref mrBefore])), (mrSt, .inl (k 0, 183, .inl mSt)), (mrNow, .inl (k 0, 61, .inl mNow)), (mrIsKept, .inl (k 1, 2, .inl mIsKept)), (mrDraft, .inl (k 0, 61, .inl mDraft)), (mrTape, .inl (k 0, 160, .inl mTape)), (mrRow, .inl (k 0, 5, .inl mRow)), (mrRode, .inl (k 0, 31, .inl mRode)), (mrWays, .inl (k 0, 31, .inl mWays)), (mrLanes, .inl (k 0, 4, .inl mLanes)), (mrSizes, .inl (k 0, 4, .inl mSizes)), (mrCells, .inl (k 0, 160, .inl mCells)), (mrBefore, .inl (k 0, 61, .inl mBefore))]) (ws' := wX8 k mh mrSt mrNow mrIsKept mrDraft mrTape mrRow mrRode mrWays mrLanes mrSizes mrCells mrBefore mSt mNow mIsKept mPeople mDraft mDPeople mHasDry mToldDebts mHighest mTape mTaped mPos mBegun mSort mValue mFault mWrongAt mPaid mRow mRingMuch mRideSum mOwedSum mAllWays mRode mWays mLanes mSizes mCells mTorn mBefore) [] [0, 1, 2, 3, 4, 5, 6, 7, 8, 9, 10, 11, 12] [0, 1, 2, 3, 4, 5, 6, 7, 8, 9, 10, 11, 12] rfl rfl (by decide) (by decide) (by decide) rfl (by decide) [] rfl hl.1 rfl (Nat.le_of_ble_eq_true rfl) dX8_train_1 ⟨by decide, by decide⟩ (fun H locs (hw : Wd D A s.heap H locs (wX8 k mh mrSt mrNow mrIsKept mrDraft mrTape mrRow mrRode mrWays mrLanes mrSizes mrCells mrBefore mSt mNow mIsKept mPeople mDraft mDPeople mHasDry mToldDebts mHighest mTape mTaped mPos mBegun mSort mValue mFault mWrongAt mPaid mRow mRingMuch mRideSum mOwedSum mAllWays mRode mWays mLanes mSizes mCells mTorn mBefore)) => ?_)
  refine W.eq (g2 := F0 m 4 ls ([.int r_1])) rfl ?_
  refine kb_if_eq (tgt := 14) hx hb dX8_train_4 (by decide) h (fun c_4 h => ?_) (fun c_4 h => ?_)
  · refine lv_iconst (v := (-1)) hx hb dX8_train_14 (by decide) ?_
    cases h
    exact k_iret hx hb hr hlocks hw rfl dX8_train_15 hQ
  · refine lv_iload_n hx hb dX8_train_7 rfl (lv_at hl 2 rfl) ?_
    obtain ⟨r_2, hf, h⟩ := b1_inv h
    refine k_callS (b := 0) (C := "") (host := "") fx hK hA hw (c_X8_isPart l D k _ p2 r_2 hf) (va_cwS 1 hts gX8_train_X8_isPart rfl rfl rfl (by decide +kernel) ⟨by decide, by decide⟩) (As := [.int p2]) (wr := [(mh, .inr (8, [.ref mrSt, .ref mrNow, .ref mrIsKept, .int mPeople, .ref mrDraft, .int mDPeople, .int mHasDry, .int mToldDebts, .int mHighest, .ref mrTape, .int mTaped, .int mPos, .int mBegun, .int mSort, .int mValue, .int mFault, .int mWrongAt, .int mPaid, .ref mrRow, .int mRingMuch, .long mRideSum, .long mOwedSum, .long mAllWays, .ref mrRode, .ref mrWays, .ref mrLanes, .ref mrSizes, .ref mrCells, .int mTorn, .ref mrBefore])), (mrSt, .inl (k 0, 183, .inl mSt)), (mrNow, .inl (k 0, 61, .inl mNow)), (mrIsKept, .inl (k 1, 2, .inl mIsKept)), (mrDraft, .inl (k 0, 61, .inl mDraft)), (mrTape, .inl (k 0, 160, .inl mTape)), (mrRow, .inl (k 0, 5, .inl mRow)), (mrRode, .inl (k 0, 31, .inl mRode)), (mrWays, .inl (k 0, 31, .inl mWays)), (mrLanes, .inl (k 0, 4, .inl mLanes)), (mrSizes, .inl (k 0, 4, .inl mSizes)), (mrCells, .inl (k 0, 160, .inl mCells)), (mrBefore, .inl (k 0, 61, .inl mBefore))]) (ws' := wX8 k mh mrSt mrNow mrIsKept mrDraft mrTape mrRow mrRode mrWays mrLanes mrSizes mrCells mrBefore mSt mNow mIsKept mPeople mDraft mDPeople mHasDry mToldDebts mHighest mTape mTaped mPos mBegun mSort mValue mFault mWrongAt mPaid mRow mRingMuch mRideSum mOwedSum mAllWays mRode mWays mLanes mSizes mCells mTorn mBefore) [] [0, 1, 2, 3, 4, 5, 6, 7, 8, 9, 10, 11, 12] [0, 1, 2, 3, 4, 5, 6, 7, 8, 9, 10, 11, 12] rfl rfl (by decide) (by decide) (by decide) rfl (by decide) [] rfl hl.1 rfl (Nat.le_of_ble_eq_true rfl) dX8_train_8 ⟨by decide, by decide⟩ (fun H locs (hw : Wd D A s.heap H locs (wX8 k mh mrSt mrNow mrIsKept mrDraft mrTape mrRow mrRode mrWays mrLanes mrSizes mrCells mrBefore mSt mNow mIsKept mPeople mDraft mDPeople mHasDry mToldDebts mHighest mTape mTaped mPos mBegun mSort mValue mFault mWrongAt mPaid mRow mRingMuch mRideSum mOwedSum mAllWays mRode mWays mLanes mSizes mCells mTorn mBefore)) => ?_)
    refine W.eq (g2 := F0 m 11 ls ([.int r_2])) rfl ?_
    refine kb_if_ne (tgt := 16) hx hb dX8_train_11 (by decide) h (fun c_11 h => ?_) (fun c_11 h => ?_)
    · refine lv_iconst (v := (-1)) hx hb dX8_train_14 (by decide) ?_
      cases h
      exact k_iret hx hb hr hlocks hw rfl dX8_train_15 hQ
    · refine lv_aload_n hx hb dX8_train_16 rfl (lv_at hl 0 rfl) ?_
      obtain ⟨mNow_3, hf, h⟩ := b1_inv h
      refine k_callV (host := "") fx hK hA hw (c_X8_starts l D k mh mrSt mrNow mrIsKept mrDraft mrTape mrRow mrRode mrWays mrLanes mrSizes mrCells mrBefore _ mSt mNow mIsKept mPeople mDraft mDPeople mHasDry mToldDebts mHighest mTape mTaped mPos mBegun mSort mValue mFault mWrongAt mPaid mRow mRingMuch mRideSum mOwedSum mAllWays mRode mWays mLanes mSizes mCells mTorn mBefore mNow_3 hf) (cwV 0 hts gX8_train_X8_starts rfl rfl rfl (by decide +kernel) ⟨by decide, by decide⟩) (As := []) (wr := []) (ws' := wX8 k mh mrSt mrNow mrIsKept mrDraft mrTape mrRow mrRode mrWays mrLanes mrSizes mrCells mrBefore mSt mNow_3 mIsKept mPeople mDraft mDPeople mHasDry mToldDebts mHighest mTape mTaped mPos mBegun mSort mValue mFault mWrongAt mPaid mRow mRingMuch mRideSum mOwedSum mAllWays mRode mWays mLanes mSizes mCells mTorn mBefore) [0, 1, 2, 3, 4, 5, 6, 7, 8, 9, 10, 11, 12] [] [0, 1, 2, 3, 4, 5, 6, 7, 8, 9, 10, 11, 12] rfl rfl (by decide) (by decide) (by decide) rfl (by decide) 8 rfl rfl [] rfl hl.1 rfl (Nat.le_of_ble_eq_true rfl) dX8_train_17 ⟨by decide, by decide⟩ (fun H locs (hw : Wd D A s.heap H locs (wX8 k mh mrSt mrNow mrIsKept mrDraft mrTape mrRow mrRode mrWays mrLanes mrSizes mrCells mrBefore mSt mNow_3 mIsKept mPeople mDraft mDPeople mHasDry mToldDebts mHighest mTape mTaped mPos mBegun mSort mValue mFault mWrongAt mPaid mRow mRingMuch mRideSum mOwedSum mAllWays mRode mWays mLanes mSizes mCells mTorn mBefore)) => ?_)
      refine W.eq (g2 := F0 m 20 ls ([])) rfl ?_
      refine lv_aload_n hx hb dX8_train_20 rfl (lv_at hl 0 rfl) ?_
      refine lv_iload_n hx hb dX8_train_21 rfl (lv_at hl 1 rfl) ?_
      obtain ⟨mNow_4, mPaid_5, hf, h⟩ := b2_inv h
      refine k_callV (host := "") fx hK hA hw (c_X8_daysGo l D k mh mrSt mrNow mrIsKept mrDraft mrTape mrRow mrRode mrWays mrLanes mrSizes mrCells mrBefore _ mSt mNow_3 mIsKept mPeople mDraft mDPeople mHasDry mToldDebts mHighest mTape mTaped mPos mBegun mSort mValue mFault mWrongAt mPaid mRow mRingMuch mRideSum mOwedSum mAllWays mRode mWays mLanes mSizes mCells mTorn mBefore p1 mNow_4 mPaid_5 hf) (cwV 1 hts gX8_train_X8_daysGo rfl rfl rfl (by decide +kernel) ⟨by decide, by decide⟩) (As := [.int p1]) (wr := []) (ws' := wX8 k mh mrSt mrNow mrIsKept mrDraft mrTape mrRow mrRode mrWays mrLanes mrSizes mrCells mrBefore mSt mNow_4 mIsKept mPeople mDraft mDPeople mHasDry mToldDebts mHighest mTape mTaped mPos mBegun mSort mValue mFault mWrongAt mPaid_5 mRow mRingMuch mRideSum mOwedSum mAllWays mRode mWays mLanes mSizes mCells mTorn mBefore) [0, 1, 2, 3, 4, 5, 6, 7, 8, 9, 10, 11, 12] [] [0, 1, 2, 3, 4, 5, 6, 7, 8, 9, 10, 11, 12] rfl rfl (by decide) (by decide) (by decide) rfl (by decide) 8 rfl rfl [] rfl hl.1 rfl (Nat.le_of_ble_eq_true rfl) dX8_train_22 ⟨by decide, by decide⟩ (fun H locs (hw : Wd D A s.heap H locs (wX8 k mh mrSt mrNow mrIsKept mrDraft mrTape mrRow mrRode mrWays mrLanes mrSizes mrCells mrBefore mSt mNow_4 mIsKept mPeople mDraft mDPeople mHasDry mToldDebts mHighest mTape mTaped mPos mBegun mSort mValue mFault mWrongAt mPaid_5 mRow mRingMuch mRideSum mOwedSum mAllWays mRode mWays mLanes mSizes mCells mTorn mBefore)) => ?_)
      refine W.eq (g2 := F0 m 25 ls ([])) rfl ?_
      refine lv_iconst (v := 0) hx hb dX8_train_25 (by decide) ?_
      refine lv_istore_n (lv' := [(3, .int 0), (0, .ref mh), (1, .int p1), (2, .int p2)]) hx hb dX8_train_26 rfl hl (by decide) rfl (fun ls hl => ?_)
      refine lv_bipush (v := (-4)) hx hb dX8_train_27 (by decide) ?_
      refine lv_istore (lv' := [(4, .int (-4)), (3, .int 0), (0, .ref mh), (1, .int p1), (2, .int p2)]) hx hb dX8_train_29 hl (by decide) rfl (fun ls hl => ?_)
      refine lv_iconst (v := 0) hx hb dX8_train_31 (by decide) ?_
      refine lv_istore (lv' := [(5, .int 0), (4, .int (-4)), (3, .int 0), (0, .ref mh), (1, .int p1), (2, .int p2)]) hx hb dX8_train_32 hl (by decide) rfl (fun ls hl => ?_)
      obtain ⟨v3_9, v4_10, hL_34, h⟩ := b2_inv h
      have X_34 : ∀ (H : Heap) (locs : List Loc) (ls : Array Slot), Wd D A s.heap H locs (wX8 k mh mrSt mrNow mrIsKept mrDraft mrTape mrRow mrRode mrWays mrLanes mrSizes mrCells mrBefore mSt mNow_4 mIsKept mPeople mDraft mDPeople mHasDry mToldDebts mHighest mTape mTaped mPos mBegun mSort mValue mFault mWrongAt mPaid_5 mRow mRingMuch mRideSum mOwedSum mAllWays mRode mWays mLanes mSizes mCells mTorn mBefore) → lv_has ls 7 [(2, .int p2), (3, .int v3_9), (4, .int v4_10)] → W p l e rmX8_train s m args below meth c H locs 0 0 Q (F0 m 85 ls []) := by
        intro H locs ls hw hl
        refine lv_iload hx hb dX8_train_85 (lv_at hl 2 rfl) ?_
        refine lv_bipush (v := (-4)) hx hb dX8_train_87 (by decide) ?_
        refine kb_icmp_ne (tgt := 97) hx hb dX8_train_89 (by decide) h (fun c_89 h => ?_) (fun c_89 h => ?_)
        · refine lv_bipush (v := (-4)) hx hb dX8_train_92 (by decide) ?_
          refine lv_goto (tgt := 107) hx hb dX8_train_94 (by decide) ?_
          cases h
          exact k_iret hx hb hr hlocks hw rfl dX8_train_107 hQ
        · refine lv_iload_n hx hb dX8_train_97 rfl (lv_at hl 0 rfl) ?_
          refine kb_if_ne (tgt := 106) hx hb dX8_train_98 (by decide) h (fun c_98 h => ?_) (fun c_98 h => ?_)
          · refine lv_iload hx hb dX8_train_101 (lv_at hl 2 rfl) ?_
            refine lv_goto (tgt := 107) hx hb dX8_train_103 (by decide) ?_
            cases h
            exact k_iret hx hb hr hlocks hw rfl dX8_train_107 hQ
          · refine lv_iload_n hx hb dX8_train_106 rfl (lv_at hl 1 rfl) ?_
            cases h
            exact k_iret hx hb hr hlocks hw rfl dX8_train_107 hQ
      clear h
      have LP_34 : ∀ (n : Nat) (v3_6 : Int32) (v4_7 : Int32) (v5_8 : Int32), f_X8_train_L34 mPeople mNow_4 n v3_6 v4_7 v5_8 = some (v3_9, v4_10) → ∀ (H : Heap) (locs : List Loc) (ls : Array Slot), Wd D A s.heap H locs (wX8 k mh mrSt mrNow mrIsKept mrDraft mrTape mrRow mrRode mrWays mrLanes mrSizes mrCells mrBefore mSt mNow_4 mIsKept mPeople mDraft mDPeople mHasDry mToldDebts mHighest mTape mTaped mPos mBegun mSort mValue mFault mWrongAt mPaid_5 mRow mRingMuch mRideSum mOwedSum mAllWays mRode mWays mLanes mSizes mCells mTorn mBefore) → lv_has ls 7 [(0, .ref mh), (2, .int p2), (3, .int v3_6), (4, .int v4_7), (5, .int v5_8)] → W p l e rmX8_train s m args below meth c H locs 0 0 Q (F0 m 34 ls []) := by
        clear hL_34 hw hl
        intro n
        induction n with
        | zero => intro v3_6 v4_7 v5_8 h; rw [f_X8_train_L34] at h; cases h
        | succ n ih =>
          intro v3_6 v4_7 v5_8 h H locs ls hw hl
          rw [f_X8_train_L34] at h
          refine lv_iload hx hb dX8_train_34 (lv_at hl 4 rfl) ?_
          refine lv_aload_n hx hb dX8_train_36 rfl (lv_at hl 0 rfl) ?_
          refine va_get (ci := 8) (v := .int mPeople) (C := RX8) (T := TX8) (N := 30) hx hb hts hinX8 hown hK.1 hw.1 0 rfl rfl 3 (by decide) q_1 (fun _ h9 => h9) rfl dX8_train_37 ?_
          refine kb_icmp_ge (tgt := 85) hx hb dX8_train_40 (by decide) h (fun c_40 h => ?_) (fun c_40 h => ?_)
          · cases h
            exact X_34 _ _ _ hw (lv_sub hl [1, 2, 3] rfl)
          · refine lv_aload_n hx hb dX8_train_43 rfl (lv_at hl 0 rfl) ?_
            refine lv_iload hx hb dX8_train_44 (lv_at hl 4 rfl) ?_
            obtain ⟨r_11, hf, h⟩ := b1_inv h
            refine k_callV (host := "") fx hK hA hw (c_X8_owesAll l D k mh mrSt mrNow mrIsKept mrDraft mrTape mrRow mrRode mrWays mrLanes mrSizes mrCells mrBefore _ mSt mNow_4 mIsKept mPeople mDraft mDPeople mHasDry mToldDebts mHighest mTape mTaped mPos mBegun mSort mValue mFault mWrongAt mPaid_5 mRow mRingMuch mRideSum mOwedSum mAllWays mRode mWays mLanes mSizes mCells mTorn mBefore v5_8 r_11 hf) (cwV 1 hts gX8_train_X8_owesAll rfl rfl rfl (by decide +kernel) ⟨by decide, by decide⟩) (As := [.int v5_8]) (wr := []) (ws' := wX8 k mh mrSt mrNow mrIsKept mrDraft mrTape mrRow mrRode mrWays mrLanes mrSizes mrCells mrBefore mSt mNow_4 mIsKept mPeople mDraft mDPeople mHasDry mToldDebts mHighest mTape mTaped mPos mBegun mSort mValue mFault mWrongAt mPaid_5 mRow mRingMuch mRideSum mOwedSum mAllWays mRode mWays mLanes mSizes mCells mTorn mBefore) [0, 1, 2, 3, 4, 5, 6, 7, 8, 9, 10, 11, 12] [] [0, 1, 2, 3, 4, 5, 6, 7, 8, 9, 10, 11, 12] rfl rfl (by decide) (by decide) (by decide) rfl (by decide) 8 rfl rfl [] rfl hl.1 rfl (Nat.le_of_ble_eq_true rfl) dX8_train_46 ⟨by decide, by decide⟩ (fun H locs (hw : Wd D A s.heap H locs (wX8 k mh mrSt mrNow mrIsKept mrDraft mrTape mrRow mrRode mrWays mrLanes mrSizes mrCells mrBefore mSt mNow_4 mIsKept mPeople mDraft mDPeople mHasDry mToldDebts mHighest mTape mTaped mPos mBegun mSort mValue mFault mWrongAt mPaid_5 mRow mRingMuch mRideSum mOwedSum mAllWays mRode mWays mLanes mSizes mCells mTorn mBefore)) => ?_)
            refine W.eq (g2 := F0 m 49 ls ([.int r_11])) rfl ?_
            refine lv_istore (lv' := [(6, .int r_11), (0, .ref mh), (2, .int p2), (3, .int v3_6), (4, .int v4_7), (5, .int v5_8)]) hx hb dX8_train_49 hl (by decide) rfl (fun ls hl => ?_)
            refine lv_iload hx hb dX8_train_51 (lv_at hl 0 rfl) ?_
            refine lv_iload_n hx hb dX8_train_53 rfl (lv_at hl 3 rfl) ?_
            obtain ⟨t_12, hj_54, h⟩ := b1_inv h
            have J_54 : ∀ (H : Heap) (locs : List Loc) (ls : Array Slot), Wd D A s.heap H locs (wX8 k mh mrSt mrNow mrIsKept mrDraft mrTape mrRow mrRode mrWays mrLanes mrSizes mrCells mrBefore mSt mNow_4 mIsKept mPeople mDraft mDPeople mHasDry mToldDebts mHighest mTape mTaped mPos mBegun mSort mValue mFault mWrongAt mPaid_5 mRow mRingMuch mRideSum mOwedSum mAllWays mRode mWays mLanes mSizes mCells mTorn mBefore) → lv_has ls 7 [(0, .ref mh), (2, .int p2), (3, .int v3_6), (5, .int v5_8), (6, .int r_11)] → W p l e rmX8_train s m args below meth c H locs 0 0 Q (F0 m 64 ls [.int t_12]) := by
              intro H locs ls hw hl
              refine lv_istore (lv' := [(4, .int t_12), (0, .ref mh), (2, .int p2), (3, .int v3_6), (5, .int v5_8), (6, .int r_11)]) hx hb dX8_train_64 hl (by decide) rfl (fun ls hl => ?_)
              refine lv_iload hx hb dX8_train_66 (lv_at hl 5 rfl) ?_
              refine lv_iload_n hx hb dX8_train_68 rfl (lv_at hl 3 rfl) ?_
              refine kb_icmp_le (tgt := 77) hx hb dX8_train_69 (by decide) h (fun c_69 h => ?_) (fun c_69 h => ?_)
              · refine lv_iload_n hx hb dX8_train_77 rfl (lv_at hl 3 rfl) ?_
                refine lv_istore_n (lv' := [(3, .int v3_6), (4, .int t_12), (0, .ref mh), (2, .int p2), (5, .int v5_8), (6, .int r_11)]) hx hb dX8_train_78 rfl hl (by decide) rfl (fun ls hl => ?_)
                refine lv_iinc (v := v5_8 + 1) (lv' := [(5, .int (v5_8 + 1)), (3, .int v3_6), (4, .int t_12), (0, .ref mh), (2, .int p2), (6, .int r_11)]) hx hb dX8_train_79 hl (k := 4) rfl rfl (by decide) rfl (fun ls hl => ?_)
                refine lv_goto (tgt := 34) hx hb dX8_train_82 (by decide) ?_
                exact ih _ _ _ h _ _ _ hw (lv_sub hl [3, 4, 1, 2, 0] rfl)
              · refine lv_iload hx hb dX8_train_72 (lv_at hl 5 rfl) ?_
                refine lv_goto (tgt := 78) hx hb dX8_train_74 (by decide) ?_
                refine lv_istore_n (lv' := [(3, .int r_11), (4, .int t_12), (0, .ref mh), (2, .int p2), (5, .int v5_8), (6, .int r_11)]) hx hb dX8_train_78 rfl hl (by decide) rfl (fun ls hl => ?_)
                refine lv_iinc (v := v5_8 + 1) (lv' := [(5, .int (v5_8 + 1)), (3, .int r_11), (4, .int t_12), (0, .ref mh), (2, .int p2), (6, .int r_11)]) hx hb dX8_train_79 hl (k := 4) rfl rfl (by decide) rfl (fun ls hl => ?_)
                refine lv_goto (tgt := 34) hx hb dX8_train_82 (by decide) ?_
                exact ih _ _ _ h _ _ _ hw (lv_sub hl [3, 4, 1, 2, 0] rfl)
            clear h
            have h := hj_54
            refine kb_icmp_le (tgt := 62) hx hb dX8_train_54 (by decide) h (fun c_54 h => ?_) (fun c_54 h => ?_)
            · refine lv_iload hx hb dX8_train_62 (lv_at hl 4 rfl) ?_
              cases h
              exact J_54 _ _ _ hw (lv_sub hl [1, 2, 3, 5, 0] rfl)
            · refine lv_iload hx hb dX8_train_57 (lv_at hl 5 rfl) ?_
              refine lv_goto (tgt := 64) hx hb dX8_train_59 (by decide) ?_
              cases h
              exact J_54 _ _ _ hw (lv_sub hl [1, 2, 3, 5, 0] rfl)
      exact LP_34 400 0 (-4) 0 hL_34 _ _ _ hw (lv_sub hl [3, 5, 2, 1, 0] rfl)
