abbrev rmX8_clear : Room := { frames := 3, cells := 0, slots := 0, locals := 72 }
set_option maxHeartbeats 4000000 in
set_option maxRecDepth 100000 in
theorem c_X8_clear (l : Launch) (D : va_G) (k : Nat → ClassId) (mh mrSt mrNow mrIsKept mrDraft mrTape mrRow mrRode mrWays mrLanes mrSizes mrCells mrBefore : Nat) (sz : Nat) (mSt : (Nat → Int32)) (mNow : (Nat → Int32)) (mIsKept : (Nat → Int32)) (mPeople : Int32) (mDraft : (Nat → Int32)) (mDPeople : Int32) (mHasDry : Int32) (mToldDebts : Int32) (mHighest : Int32) (mTape : (Nat → Int32)) (mTaped : Int32) (mPos : Int32) (mBegun : Int32) (mSort : Int32) (mValue : Int32) (mFault : Int32) (mWrongAt : Int32) (mPaid : Int32) (mRow : (Nat → Int32)) (mRingMuch : Int32) (mRideSum : Int64) (mOwedSum : Int64) (mAllWays : Int64) (mRode : (Nat → Int32)) (mWays : (Nat → Int32)) (mLanes : (Nat → Int32)) (mSizes : (Nat → Int32)) (mCells : (Nat → Int32)) (mTorn : Int32) (mBefore : (Nat → Int32)) (r_ : Int32) (n_mSt : (Nat → Int32)) (n_mNow : (Nat → Int32)) (n_mRow : (Nat → Int32)) (n_mRingMuch : Int32) (hf : f_X8_clear mSt mNow mPeople mRow mRingMuch = some (r_, n_mSt, n_mNow, n_mRow, n_mRingMuch)) : mR l yX8_clear wsX8_clear rmX8_clear D k sz [.ref mh] (wX8 k mh mrSt mrNow mrIsKept mrDraft mrTape mrRow mrRode mrWays mrLanes mrSizes mrCells mrBefore mSt mNow mIsKept mPeople mDraft mDPeople mHasDry mToldDebts mHighest mTape mTaped mPos mBegun mSort mValue mFault mWrongAt mPaid mRow mRingMuch mRideSum mOwedSum mAllWays mRode mWays mLanes mSizes mCells mTorn mBefore) (wX8 k mh mrSt mrNow mrIsKept mrDraft mrTape mrRow mrRode mrWays mrLanes mrSizes mrCells mrBefore n_mSt n_mNow mIsKept mPeople mDraft mDPeople mHasDry mToldDebts mHighest mTape mTaped mPos mBegun mSort mValue mFault mWrongAt mPaid n_mRow n_mRingMuch mRideSum mOwedSum mAllWays mRode mWays mLanes mSizes mCells mTorn mBefore) (some (.int r_)) := by
  refine mR_of (cc := cX8_clear) (maxL := 5) (ret := some .int) (by decide) rfl (Nat.le_of_ble_eq_true rfl) [(0, .ref mh)] rfl ?_
  intro p e s m below meth c A ls args Q cx hK hA hw hl hQ
  have fx := cx.1
  obtain ⟨⟨hx, hb, hml, hown, hts⟩, hr, hlocks⟩ := cx
  have hinX8 : ∀ w ∈ wsX80, w ∈ wsX8_clear := fun w h => List.mem_cons_of_mem _ (List.mem_append_right _ h)
  have q_1 := hts (.fieldLink RX8 13 "DebtRidesModel" "now" "[I") (List.mem_of_getElem? (i := 1) rfl)
  have q_2 := hts (.fieldLink RX8 26 "DebtRidesModel" "row" "[I") (List.mem_of_getElem? (i := 2) rfl)
  have q_3 := hts (.fieldLink RX8 245 "DebtRidesModel" "ringMuch" "I") (List.mem_of_getElem? (i := 3) rfl)
  have h := hf
  unfold f_X8_clear at h
  clear hf
  refine lv_aload_n hx hb dX8_clear_0 rfl (lv_at hl 0 rfl) ?_
  obtain ⟨mNow_1, hf, h⟩ := b1_inv h
  refine k_callV (host := "") fx hK hA hw (c_X8_starts l D k mh mrSt mrNow mrIsKept mrDraft mrTape mrRow mrRode mrWays mrLanes mrSizes mrCells mrBefore _ mSt mNow mIsKept mPeople mDraft mDPeople mHasDry mToldDebts mHighest mTape mTaped mPos mBegun mSort mValue mFault mWrongAt mPaid mRow mRingMuch mRideSum mOwedSum mAllWays mRode mWays mLanes mSizes mCells mTorn mBefore mNow_1 hf) (cwV 0 hts gX8_clear_X8_starts rfl rfl rfl (by decide +kernel) ⟨by decide, by decide⟩) (As := []) (wr := []) (ws' := wX8 k mh mrSt mrNow mrIsKept mrDraft mrTape mrRow mrRode mrWays mrLanes mrSizes mrCells mrBefore mSt mNow_1 mIsKept mPeople mDraft mDPeople mHasDry mToldDebts mHighest mTape mTaped mPos mBegun mSort mValue mFault mWrongAt mPaid mRow mRingMuch mRideSum mOwedSum mAllWays mRode mWays mLanes mSizes mCells mTorn mBefore) [0, 1, 2, 3, 4, 5, 6, 7, 8, 9, 10, 11, 12] [] [0, 1, 2, 3, 4, 5, 6, 7, 8, 9, 10, 11, 12] rfl rfl (by decide) (by decide) (by decide) rfl (by decide) 8 rfl rfl [] rfl hl.1 rfl (Nat.le_of_ble_eq_true rfl) dX8_clear_1 ⟨by decide, by decide⟩ (fun H locs (hw : Wd D A s.heap H locs (wX8 k mh mrSt mrNow mrIsKept mrDraft mrTape mrRow mrRode mrWays mrLanes mrSizes mrCells mrBefore mSt mNow_1 mIsKept mPeople mDraft mDPeople mHasDry mToldDebts mHighest mTape mTaped mPos mBegun mSort mValue mFault mWrongAt mPaid mRow mRingMuch mRideSum mOwedSum mAllWays mRode mWays mLanes mSizes mCells mTorn mBefore)) => ?_)
  refine W.eq (g2 := F0 m 4 ls ([])) rfl ?_
  refine lv_aload_n hx hb dX8_clear_4 rfl (lv_at hl 0 rfl) ?_
  obtain ⟨r_2, hf, h⟩ := b1_inv h
  refine k_callV (host := "") fx hK hA hw (c_X8_allOwed l D k mh mrSt mrNow mrIsKept mrDraft mrTape mrRow mrRode mrWays mrLanes mrSizes mrCells mrBefore _ mSt mNow_1 mIsKept mPeople mDraft mDPeople mHasDry mToldDebts mHighest mTape mTaped mPos mBegun mSort mValue mFault mWrongAt mPaid mRow mRingMuch mRideSum mOwedSum mAllWays mRode mWays mLanes mSizes mCells mTorn mBefore r_2 hf) (cwV 0 hts gX8_clear_X8_allOwed rfl rfl rfl (by decide +kernel) ⟨by decide, by decide⟩) (As := []) (wr := []) (ws' := wX8 k mh mrSt mrNow mrIsKept mrDraft mrTape mrRow mrRode mrWays mrLanes mrSizes mrCells mrBefore mSt mNow_1 mIsKept mPeople mDraft mDPeople mHasDry mToldDebts mHighest mTape mTaped mPos mBegun mSort mValue mFault mWrongAt mPaid mRow mRingMuch mRideSum mOwedSum mAllWays mRode mWays mLanes mSizes mCells mTorn mBefore) [0, 1, 2, 3, 4, 5, 6, 7, 8, 9, 10, 11, 12] [] [0, 1, 2, 3, 4, 5, 6, 7, 8, 9, 10, 11, 12] rfl rfl (by decide) (by decide) (by decide) rfl (by decide) 8 rfl rfl [] rfl hl.1 rfl (Nat.le_of_ble_eq_true rfl) dX8_clear_5 ⟨by decide, by decide⟩ (fun H locs (hw : Wd D A s.heap H locs (wX8 k mh mrSt mrNow mrIsKept mrDraft mrTape mrRow mrRode mrWays mrLanes mrSizes mrCells mrBefore mSt mNow_1 mIsKept mPeople mDraft mDPeople mHasDry mToldDebts mHighest mTape mTaped mPos mBegun mSort mValue mFault mWrongAt mPaid mRow mRingMuch mRideSum mOwedSum mAllWays mRode mWays mLanes mSizes mCells mTorn mBefore)) => ?_)
  refine W.eq (g2 := F0 m 8 ls ([.int r_2])) rfl ?_
  refine lv_istore_n (lv' := [(1, .int r_2), (0, .ref mh)]) hx hb dX8_clear_8 rfl hl (by decide) rfl (fun ls hl => ?_)
  refine lv_aload_n hx hb dX8_clear_9 rfl (lv_at hl 1 rfl) ?_
  obtain ⟨r_3, mRow_4, mRingMuch_5, hf, h⟩ := b3_inv h
  refine k_callV (host := "") fx hK hA hw (c_X8_findRing l D k mh mrSt mrNow mrIsKept mrDraft mrTape mrRow mrRode mrWays mrLanes mrSizes mrCells mrBefore _ mSt mNow_1 mIsKept mPeople mDraft mDPeople mHasDry mToldDebts mHighest mTape mTaped mPos mBegun mSort mValue mFault mWrongAt mPaid mRow mRingMuch mRideSum mOwedSum mAllWays mRode mWays mLanes mSizes mCells mTorn mBefore r_3 mRow_4 mRingMuch_5 hf) (cwV 0 hts gX8_clear_X8_findRing rfl rfl rfl (by decide +kernel) ⟨by decide, by decide⟩) (As := []) (wr := []) (ws' := wX8 k mh mrSt mrNow mrIsKept mrDraft mrTape mrRow mrRode mrWays mrLanes mrSizes mrCells mrBefore mSt mNow_1 mIsKept mPeople mDraft mDPeople mHasDry mToldDebts mHighest mTape mTaped mPos mBegun mSort mValue mFault mWrongAt mPaid mRow_4 mRingMuch_5 mRideSum mOwedSum mAllWays mRode mWays mLanes mSizes mCells mTorn mBefore) [0, 1, 2, 3, 4, 5, 6, 7, 8, 9, 10, 11, 12] [] [0, 1, 2, 3, 4, 5, 6, 7, 8, 9, 10, 11, 12] rfl rfl (by decide) (by decide) (by decide) rfl (by decide) 8 rfl rfl [] rfl hl.1 rfl (Nat.le_of_ble_eq_true rfl) dX8_clear_10 ⟨by decide, by decide⟩ (fun H locs (hw : Wd D A s.heap H locs (wX8 k mh mrSt mrNow mrIsKept mrDraft mrTape mrRow mrRode mrWays mrLanes mrSizes mrCells mrBefore mSt mNow_1 mIsKept mPeople mDraft mDPeople mHasDry mToldDebts mHighest mTape mTaped mPos mBegun mSort mValue mFault mWrongAt mPaid mRow_4 mRingMuch_5 mRideSum mOwedSum mAllWays mRode mWays mLanes mSizes mCells mTorn mBefore)) => ?_)
  refine W.eq (g2 := F0 m 13 ls ([.int r_3])) rfl ?_
  refine lv_istore_n (lv' := [(2, .int r_3), (1, .int r_2), (0, .ref mh)]) hx hb dX8_clear_13 rfl hl (by decide) rfl (fun ls hl => ?_)
  refine lv_iconst (v := 0) hx hb dX8_clear_14 (by decide) ?_
  refine lv_istore_n (lv' := [(3, .int 0), (2, .int r_3), (1, .int r_2), (0, .ref mh)]) hx hb dX8_clear_15 rfl hl (by decide) rfl (fun ls hl => ?_)
  obtain ⟨mNow_11, mRow_12, mRingMuch_13, hL_16, h⟩ := b3_inv h
  have X_16 : ∀ (H : Heap) (locs : List Loc) (ls : Array Slot), Wd D A s.heap H locs (wX8 k mh mrSt mrNow mrIsKept mrDraft mrTape mrRow mrRode mrWays mrLanes mrSizes mrCells mrBefore mSt mNow_11 mIsKept mPeople mDraft mDPeople mHasDry mToldDebts mHighest mTape mTaped mPos mBegun mSort mValue mFault mWrongAt mPaid mRow_12 mRingMuch_13 mRideSum mOwedSum mAllWays mRode mWays mLanes mSizes mCells mTorn mBefore) → lv_has ls 5 [(0, .ref mh), (1, .int r_2)] → W p l e rmX8_clear s m args below meth c H locs 0 0 Q (F0 m 90 ls []) := by
    intro H locs ls hw hl
    refine lv_aload_n hx hb dX8_clear_90 rfl (lv_at hl 0 rfl) ?_
    obtain ⟨mSt_24, hf, h⟩ := b1_inv h
    refine k_callV (host := "") fx hK hA hw (c_X8_settles l D k mh mrSt mrNow mrIsKept mrDraft mrTape mrRow mrRode mrWays mrLanes mrSizes mrCells mrBefore _ mSt mNow_11 mIsKept mPeople mDraft mDPeople mHasDry mToldDebts mHighest mTape mTaped mPos mBegun mSort mValue mFault mWrongAt mPaid mRow_12 mRingMuch_13 mRideSum mOwedSum mAllWays mRode mWays mLanes mSizes mCells mTorn mBefore mSt_24 hf) (cwV 0 hts gX8_clear_X8_settles rfl rfl rfl (by decide +kernel) ⟨by decide, by decide⟩) (As := []) (wr := []) (ws' := wX8 k mh mrSt mrNow mrIsKept mrDraft mrTape mrRow mrRode mrWays mrLanes mrSizes mrCells mrBefore mSt_24 mNow_11 mIsKept mPeople mDraft mDPeople mHasDry mToldDebts mHighest mTape mTaped mPos mBegun mSort mValue mFault mWrongAt mPaid mRow_12 mRingMuch_13 mRideSum mOwedSum mAllWays mRode mWays mLanes mSizes mCells mTorn mBefore) [0, 1, 2, 3, 4, 5, 6, 7, 8, 9, 10, 11, 12] [] [0, 1, 2, 3, 4, 5, 6, 7, 8, 9, 10, 11, 12] rfl rfl (by decide) (by decide) (by decide) rfl (by decide) 8 rfl rfl [] rfl hl.1 rfl (Nat.le_of_ble_eq_true rfl) dX8_clear_91 ⟨by decide, by decide⟩ (fun H locs (hw : Wd D A s.heap H locs (wX8 k mh mrSt mrNow mrIsKept mrDraft mrTape mrRow mrRode mrWays mrLanes mrSizes mrCells mrBefore mSt_24 mNow_11 mIsKept mPeople mDraft mDPeople mHasDry mToldDebts mHighest mTape mTaped mPos mBegun mSort mValue mFault mWrongAt mPaid mRow_12 mRingMuch_13 mRideSum mOwedSum mAllWays mRode mWays mLanes mSizes mCells mTorn mBefore)) => ?_)
    refine W.eq (g2 := F0 m 94 ls ([])) rfl ?_
    refine lv_iload_n hx hb dX8_clear_94 rfl (lv_at hl 1 rfl) ?_
    refine lv_aload_n hx hb dX8_clear_95 rfl (lv_at hl 0 rfl) ?_
    obtain ⟨r_25, hf, h⟩ := b1_inv h
    refine k_callV (host := "") fx hK hA hw (c_X8_allOwed l D k mh mrSt mrNow mrIsKept mrDraft mrTape mrRow mrRode mrWays mrLanes mrSizes mrCells mrBefore _ mSt_24 mNow_11 mIsKept mPeople mDraft mDPeople mHasDry mToldDebts mHighest mTape mTaped mPos mBegun mSort mValue mFault mWrongAt mPaid mRow_12 mRingMuch_13 mRideSum mOwedSum mAllWays mRode mWays mLanes mSizes mCells mTorn mBefore r_25 hf) (cwV 0 hts gX8_clear_X8_allOwed rfl rfl rfl (by decide +kernel) ⟨by decide, by decide⟩) (As := []) (wr := []) (ws' := wX8 k mh mrSt mrNow mrIsKept mrDraft mrTape mrRow mrRode mrWays mrLanes mrSizes mrCells mrBefore mSt_24 mNow_11 mIsKept mPeople mDraft mDPeople mHasDry mToldDebts mHighest mTape mTaped mPos mBegun mSort mValue mFault mWrongAt mPaid mRow_12 mRingMuch_13 mRideSum mOwedSum mAllWays mRode mWays mLanes mSizes mCells mTorn mBefore) [0, 1, 2, 3, 4, 5, 6, 7, 8, 9, 10, 11, 12] [] [0, 1, 2, 3, 4, 5, 6, 7, 8, 9, 10, 11, 12] rfl rfl (by decide) (by decide) (by decide) rfl (by decide) 8 rfl rfl [.int r_2] rfl hl.1 rfl (Nat.le_of_ble_eq_true rfl) dX8_clear_96 ⟨by decide, by decide⟩ (fun H locs (hw : Wd D A s.heap H locs (wX8 k mh mrSt mrNow mrIsKept mrDraft mrTape mrRow mrRode mrWays mrLanes mrSizes mrCells mrBefore mSt_24 mNow_11 mIsKept mPeople mDraft mDPeople mHasDry mToldDebts mHighest mTape mTaped mPos mBegun mSort mValue mFault mWrongAt mPaid mRow_12 mRingMuch_13 mRideSum mOwedSum mAllWays mRode mWays mLanes mSizes mCells mTorn mBefore)) => ?_)
    refine W.eq (g2 := F0 m 99 ls ([.int r_25, .int r_2])) rfl ?_
    refine lv_isub hx hb dX8_clear_99 ?_
    have g0 := Option.some.inj h
    clear h
    obtain ⟨e0, g1⟩ := Prod.mk.inj g0
    obtain ⟨e1, g2⟩ := Prod.mk.inj g1
    obtain ⟨e2, g3⟩ := Prod.mk.inj g2
    obtain ⟨e3, g4⟩ := Prod.mk.inj g3
    subst e0; subst e1; subst e2; subst e3; subst g4
    exact k_iret hx hb hr hlocks hw rfl dX8_clear_100 hQ
  clear h
  have LP_16 : ∀ (n : Nat) (v2_6 : Int32) (v3_7 : Int32) (mNow_8 : (Nat → Int32)) (mRow_9 : (Nat → Int32)) (mRingMuch_10 : Int32), f_X8_clear_L16 mPeople n v2_6 v3_7 mNow_8 mRow_9 mRingMuch_10 = some (mNow_11, mRow_12, mRingMuch_13) → ∀ (H : Heap) (locs : List Loc) (ls : Array Slot), Wd D A s.heap H locs (wX8 k mh mrSt mrNow mrIsKept mrDraft mrTape mrRow mrRode mrWays mrLanes mrSizes mrCells mrBefore mSt mNow_8 mIsKept mPeople mDraft mDPeople mHasDry mToldDebts mHighest mTape mTaped mPos mBegun mSort mValue mFault mWrongAt mPaid mRow_9 mRingMuch_10 mRideSum mOwedSum mAllWays mRode mWays mLanes mSizes mCells mTorn mBefore) → lv_has ls 5 [(0, .ref mh), (1, .int r_2), (2, .int v2_6), (3, .int v3_7)] → W p l e rmX8_clear s m args below meth c H locs 0 0 Q (F0 m 16 ls []) := by
    clear hL_16 hw hl
    intro n
    induction n with
    | zero => intro v2_6 v3_7 mNow_8 mRow_9 mRingMuch_10 h; rw [f_X8_clear_L16] at h; cases h
    | succ n ih =>
      intro v2_6 v3_7 mNow_8 mRow_9 mRingMuch_10 h H locs ls hw hl
      rw [f_X8_clear_L16] at h
      refine lv_iload_n hx hb dX8_clear_16 rfl (lv_at hl 3 rfl) ?_
      refine lv_bipush (v := 25) hx hb dX8_clear_17 (by decide) ?_
      refine kb_icmp_ge (tgt := 90) hx hb dX8_clear_19 (by decide) h (fun c_19 h => ?_) (fun c_19 h => ?_)
      · cases h
        exact X_16 _ _ _ hw (lv_sub hl [0, 1] rfl)
      · refine lv_iload_n hx hb dX8_clear_22 rfl (lv_at hl 2 rfl) ?_
        refine lv_bipush (v := (-4)) hx hb dX8_clear_23 (by decide) ?_
        refine kb_icmp_eq (tgt := 90) hx hb dX8_clear_25 (by decide) h (fun c_25 h => ?_) (fun c_25 h => ?_)
        · cases h
          exact X_16 _ _ _ hw (lv_sub hl [0, 1] rfl)
        · refine lv_iconst (v := 0) hx hb dX8_clear_28 (by decide) ?_
          refine lv_istore (lv' := [(4, .int 0), (0, .ref mh), (1, .int r_2), (2, .int v2_6), (3, .int v3_7)]) hx hb dX8_clear_29 hl (by decide) rfl (fun ls hl => ?_)
          obtain ⟨mNow_16, hL_31, h⟩ := b1_inv h
          have X_31 : ∀ (H : Heap) (locs : List Loc) (ls : Array Slot), Wd D A s.heap H locs (wX8 k mh mrSt mrNow mrIsKept mrDraft mrTape mrRow mrRode mrWays mrLanes mrSizes mrCells mrBefore mSt mNow_16 mIsKept mPeople mDraft mDPeople mHasDry mToldDebts mHighest mTape mTaped mPos mBegun mSort mValue mFault mWrongAt mPaid mRow_9 mRingMuch_10 mRideSum mOwedSum mAllWays mRode mWays mLanes mSizes mCells mTorn mBefore) → lv_has ls 5 [(0, .ref mh), (1, .int r_2), (3, .int v3_7)] → W p l e rmX8_clear s m args below meth c H locs 0 0 Q (F0 m 79 ls []) := by
            intro H locs ls hw hl
            refine lv_aload_n hx hb dX8_clear_79 rfl (lv_at hl 0 rfl) ?_
            obtain ⟨r_21, mRow_22, mRingMuch_23, hf, h⟩ := b3_inv h
            refine k_callV (host := "") fx hK hA hw (c_X8_findRing l D k mh mrSt mrNow mrIsKept mrDraft mrTape mrRow mrRode mrWays mrLanes mrSizes mrCells mrBefore _ mSt mNow_16 mIsKept mPeople mDraft mDPeople mHasDry mToldDebts mHighest mTape mTaped mPos mBegun mSort mValue mFault mWrongAt mPaid mRow_9 mRingMuch_10 mRideSum mOwedSum mAllWays mRode mWays mLanes mSizes mCells mTorn mBefore r_21 mRow_22 mRingMuch_23 hf) (cwV 0 hts gX8_clear_X8_findRing rfl rfl rfl (by decide +kernel) ⟨by decide, by decide⟩) (As := []) (wr := []) (ws' := wX8 k mh mrSt mrNow mrIsKept mrDraft mrTape mrRow mrRode mrWays mrLanes mrSizes mrCells mrBefore mSt mNow_16 mIsKept mPeople mDraft mDPeople mHasDry mToldDebts mHighest mTape mTaped mPos mBegun mSort mValue mFault mWrongAt mPaid mRow_22 mRingMuch_23 mRideSum mOwedSum mAllWays mRode mWays mLanes mSizes mCells mTorn mBefore) [0, 1, 2, 3, 4, 5, 6, 7, 8, 9, 10, 11, 12] [] [0, 1, 2, 3, 4, 5, 6, 7, 8, 9, 10, 11, 12] rfl rfl (by decide) (by decide) (by decide) rfl (by decide) 8 rfl rfl [] rfl hl.1 rfl (Nat.le_of_ble_eq_true rfl) dX8_clear_80 ⟨by decide, by decide⟩ (fun H locs (hw : Wd D A s.heap H locs (wX8 k mh mrSt mrNow mrIsKept mrDraft mrTape mrRow mrRode mrWays mrLanes mrSizes mrCells mrBefore mSt mNow_16 mIsKept mPeople mDraft mDPeople mHasDry mToldDebts mHighest mTape mTaped mPos mBegun mSort mValue mFault mWrongAt mPaid mRow_22 mRingMuch_23 mRideSum mOwedSum mAllWays mRode mWays mLanes mSizes mCells mTorn mBefore)) => ?_)
            refine W.eq (g2 := F0 m 83 ls ([.int r_21])) rfl ?_
            refine lv_istore_n (lv' := [(2, .int r_21), (0, .ref mh), (1, .int r_2), (3, .int v3_7)]) hx hb dX8_clear_83 rfl hl (by decide) rfl (fun ls hl => ?_)
            refine lv_iinc (v := v3_7 + 1) (lv' := [(3, .int (v3_7 + 1)), (2, .int r_21), (0, .ref mh), (1, .int r_2)]) hx hb dX8_clear_84 hl (k := 3) rfl rfl (by decide) rfl (fun ls hl => ?_)
            refine lv_goto (tgt := 16) hx hb dX8_clear_87 (by decide) ?_
            exact ih _ _ _ _ _ h _ _ _ hw (lv_sub hl [2, 3, 1, 0] rfl)
          clear h
          have LP_31 : ∀ (n : Nat) (v4_14 : Int32) (mNow_15 : (Nat → Int32)), f_X8_clear_L31 v2_6 mRow_9 mRingMuch_10 n v4_14 mNow_15 = some mNow_16 → ∀ (H : Heap) (locs : List Loc) (ls : Array Slot), Wd D A s.heap H locs (wX8 k mh mrSt mrNow mrIsKept mrDraft mrTape mrRow mrRode mrWays mrLanes mrSizes mrCells mrBefore mSt mNow_15 mIsKept mPeople mDraft mDPeople mHasDry mToldDebts mHighest mTape mTaped mPos mBegun mSort mValue mFault mWrongAt mPaid mRow_9 mRingMuch_10 mRideSum mOwedSum mAllWays mRode mWays mLanes mSizes mCells mTorn mBefore) → lv_has ls 5 [(0, .ref mh), (1, .int r_2), (2, .int v2_6), (3, .int v3_7), (4, .int v4_14)] → W p l e rmX8_clear s m args below meth c H locs 0 0 Q (F0 m 31 ls []) := by
            clear hL_31 hw hl
            intro n
            induction n with
            | zero => intro v4_14 mNow_15 h; rw [f_X8_clear_L31] at h; cases h
            | succ n ih =>
              intro v4_14 mNow_15 h H locs ls hw hl
              rw [f_X8_clear_L31] at h
              refine lv_iload hx hb dX8_clear_31 (lv_at hl 4 rfl) ?_
              refine lv_iload_n hx hb dX8_clear_33 rfl (lv_at hl 2 rfl) ?_
              refine kb_icmp_ge (tgt := 79) hx hb dX8_clear_34 (by decide) h (fun c_34 h => ?_) (fun c_34 h => ?_)
              · cases h
                exact X_31 _ _ _ hw (lv_sub hl [0, 1, 3] rfl)
              · refine lv_aload_n hx hb dX8_clear_37 rfl (lv_at hl 0 rfl) ?_
                refine va_get (ci := 8) (v := .ref mrNow) (C := RX8) (T := TX8) (N := 30) hx hb hts hinX8 hown hK.1 hw.1 0 rfl rfl 1 (by decide) q_1 (fun _ h9 => h9) rfl dX8_clear_38 ?_
                refine lv_bipush (v := 15) hx hb dX8_clear_41 (by decide) ?_
                refine lv_iconst (v := 5) hx hb dX8_clear_43 (by decide) ?_
                refine lv_aload_n hx hb dX8_clear_44 rfl (lv_at hl 0 rfl) ?_
                refine va_get (ci := 8) (v := .ref mrRow) (C := RX8) (T := TX8) (N := 30) hx hb hts hinX8 hown hK.1 hw.1 0 rfl rfl 18 (by decide) q_2 (fun _ h9 => h9) rfl dX8_clear_45 ?_
                refine lv_iload hx hb dX8_clear_48 (lv_at hl 4 rfl) ?_
                refine k_iald hx hb hK hw 6 rfl dX8_clear_50 h (fun a_17 h => ?_)
                refine lv_imul hx hb dX8_clear_51 ?_
                refine lv_iadd hx hb dX8_clear_52 ?_
                refine lv_aload_n hx hb dX8_clear_53 rfl (lv_at hl 0 rfl) ?_
                refine va_get (ci := 8) (v := .ref mrRow) (C := RX8) (T := TX8) (N := 30) hx hb hts hinX8 hown hK.1 hw.1 0 rfl rfl 18 (by decide) q_2 (fun _ h9 => h9) rfl dX8_clear_54 ?_
                refine lv_iload hx hb dX8_clear_57 (lv_at hl 4 rfl) ?_
                refine lv_iconst (v := 1) hx hb dX8_clear_59 (by decide) ?_
                refine lv_iadd hx hb dX8_clear_60 ?_
                refine lv_iload_n hx hb dX8_clear_61 rfl (lv_at hl 2 rfl) ?_
                refine k_irem hx hb dX8_clear_62 h (fun h => ?_)
                refine k_iald hx hb hK hw 6 rfl dX8_clear_63 h (fun a_18 h => ?_)
                refine lv_iadd hx hb dX8_clear_64 ?_
                refine lv_dup2_11 hx hb dX8_clear_65 rfl rfl ?_
                refine k_iald hx hb hK hw 2 rfl dX8_clear_66 h (fun a_19 h => ?_)
                refine lv_aload_n hx hb dX8_clear_67 rfl (lv_at hl 0 rfl) ?_
                refine va_get (ci := 8) (v := .int mRingMuch_10) (C := RX8) (T := TX8) (N := 30) hx hb hts hinX8 hown hK.1 hw.1 0 rfl rfl 19 (by decide) q_3 (fun _ h9 => h9) rfl dX8_clear_68 ?_
                refine lv_isub hx hb dX8_clear_71 ?_
                refine k_iast hx hb hK hw 2 rfl dX8_clear_72 h (fun mNow_20 h H locs (hw : Wd D A s.heap H locs (wX8 k mh mrSt mrNow mrIsKept mrDraft mrTape mrRow mrRode mrWays mrLanes mrSizes mrCells mrBefore mSt mNow_20 mIsKept mPeople mDraft mDPeople mHasDry mToldDebts mHighest mTape mTaped mPos mBegun mSort mValue mFault mWrongAt mPaid mRow_9 mRingMuch_10 mRideSum mOwedSum mAllWays mRode mWays mLanes mSizes mCells mTorn mBefore)) => ?_)
                refine lv_iinc (v := v4_14 + 1) (lv' := [(4, .int (v4_14 + 1)), (0, .ref mh), (1, .int r_2), (2, .int v2_6), (3, .int v3_7)]) hx hb dX8_clear_73 hl (k := 4) rfl rfl (by decide) rfl (fun ls hl => ?_)
                refine lv_goto (tgt := 31) hx hb dX8_clear_76 (by decide) ?_
                exact ih _ _ h _ _ _ hw (lv_sub hl [1, 2, 3, 4, 0] rfl)
          exact LP_31 400 0 mNow_8 hL_31 _ _ _ hw (lv_sub hl [1, 2, 3, 4, 0] rfl)
  exact LP_16 400 r_3 0 mNow_1 mRow_4 mRingMuch_5 hL_16 _ _ _ hw (lv_sub hl [3, 2, 1, 0] rfl)
abbrev rmX8_common : Room := { frames := 0, cells := 0, slots := 0, locals := 0 }
set_option maxHeartbeats 4000000 in
set_option maxRecDepth 100000 in
theorem c_X8_common (l : Launch) (D : va_G) (k : Nat → ClassId) (sz : Nat) (p1 : Int64) (p2 : Int64) (r_ : Int64) (hf : f_X8_common p1 p2 = some r_) : mR l yX8_common wsX8_common rmX8_common D k sz [.long p1, .long p2] ([]) ([]) (some (.long r_)) := by
  refine mR_of (cc := cX8_common) (maxL := 10) (ret := some .long) (by decide) rfl (Nat.le_of_ble_eq_true rfl) [(0, .long p1), (2, .long p2)] rfl ?_
  intro p e s m below meth c A ls args Q cx hK hA hw hl hQ
  have fx := cx.1
  obtain ⟨⟨hx, hb, hml, hown, hts⟩, hr, hlocks⟩ := cx
  have h := hf
  unfold f_X8_common at h
  clear hf
  refine lv_lload_n hx hb dX8_common_0 rfl (lv_at hl 0 rfl) ?_
  refine lv_lstore (lv' := [(4, .long p1), (0, .long p1), (2, .long p2)]) hx hb dX8_common_1 hl (by decide) rfl (fun ls hl => ?_)
  refine lv_lload_n hx hb dX8_common_3 rfl (lv_at hl 2 rfl) ?_
  refine lv_lstore (lv' := [(6, .long p2), (4, .long p1), (0, .long p1), (2, .long p2)]) hx hb dX8_common_4 hl (by decide) rfl (fun ls hl => ?_)
  obtain ⟨v4_3, hL_6, h⟩ := b1_inv h
  have X_6 : ∀ (H : Heap) (locs : List Loc) (ls : Array Slot), Wd D A s.heap H locs ([]) → lv_has ls 10 [(4, .long v4_3)] → W p l e rmX8_common s m args below meth c H locs 0 0 Q (F0 m 31 ls []) := by
    intro H locs ls hw hl
    refine lv_lload hx hb dX8_common_31 (lv_at hl 0 rfl) ?_
    cases h
    exact k_lret hx hb hr hlocks hw rfl dX8_common_33 hQ
  clear h
  have LP_6 : ∀ (n : Nat) (v4_1 : Int64) (v6_2 : Int64), f_X8_common_L6 n v4_1 v6_2 = some v4_3 → ∀ (H : Heap) (locs : List Loc) (ls : Array Slot), Wd D A s.heap H locs ([]) → lv_has ls 10 [(4, .long v4_1), (6, .long v6_2)] → W p l e rmX8_common s m args below meth c H locs 0 0 Q (F0 m 6 ls []) := by
    clear hL_6 hw hl
    intro n
    induction n with
    | zero => intro v4_1 v6_2 h; rw [f_X8_common_L6] at h; cases h
    | succ n ih =>
      intro v4_1 v6_2 h H locs ls hw hl
      rw [f_X8_common_L6] at h
      refine lv_lload hx hb dX8_common_6 (lv_at hl 1 rfl) ?_
      refine lv_lconst (v := 0) hx hb dX8_common_8 rfl ?_
      refine W.lcmp hx hb dX8_common_9 ?_
      refine kb_if_eq (tgt := 31) hx hb dX8_common_10 (by decide) h (fun c_10 h => ?_) (fun c_10 h => ?_)
      · cases h
        exact X_6 _ _ _ hw (lv_sub hl [0] rfl)
      · refine lv_lload hx hb dX8_common_13 (lv_at hl 0 rfl) ?_
        refine lv_lload hx hb dX8_common_15 (lv_at hl 1 rfl) ?_
        refine k_lrem hx hb dX8_common_17 h (fun h => ?_)
        refine lv_lstore (lv' := [(8, .long (v4_1 - v4_1 / v6_2 * v6_2)), (4, .long v4_1), (6, .long v6_2)]) hx hb dX8_common_18 hl (by decide) rfl (fun ls hl => ?_)
        refine lv_lload hx hb dX8_common_20 (lv_at hl 2 rfl) ?_
        refine lv_lstore (lv' := [(4, .long v6_2), (8, .long (v4_1 - v4_1 / v6_2 * v6_2)), (6, .long v6_2)]) hx hb dX8_common_22 hl (by decide) rfl (fun ls hl => ?_)
        refine lv_lload hx hb dX8_common_24 (lv_at hl 1 rfl) ?_
        refine lv_lstore (lv' := [(6, .long (v4_1 - v4_1 / v6_2 * v6_2)), (4, .long v6_2), (8, .long (v4_1 - v4_1 / v6_2 * v6_2))]) hx hb dX8_common_26 hl (by decide) rfl (fun ls hl => ?_)
        refine lv_goto (tgt := 6) hx hb dX8_common_28 (by decide) ?_
        exact ih _ _ h _ _ _ hw (lv_sub hl [1, 0] rfl)
  exact LP_6 400 p1 p2 hL_6 _ _ _ hw (lv_sub hl [1, 0] rfl)
abbrev rmX8_count : Room := { frames := 1, cells := 0, slots := 0, locals := 20 }
set_option maxHeartbeats 4000000 in
set_option maxRecDepth 100000 in
theorem c_X8_count (l : Launch) (D : va_G) (k : Nat → ClassId) (mh mrSt mrNow mrIsKept mrDraft mrTape mrRow mrRode mrWays mrLanes mrSizes mrCells mrBefore : Nat) (sz : Nat) (mSt : (Nat → Int32)) (mNow : (Nat → Int32)) (mIsKept : (Nat → Int32)) (mPeople : Int32) (mDraft : (Nat → Int32)) (mDPeople : Int32) (mHasDry : Int32) (mToldDebts : Int32) (mHighest : Int32) (mTape : (Nat → Int32)) (mTaped : Int32) (mPos : Int32) (mBegun : Int32) (mSort : Int32) (mValue : Int32) (mFault : Int32) (mWrongAt : Int32) (mPaid : Int32) (mRow : (Nat → Int32)) (mRingMuch : Int32) (mRideSum : Int64) (mOwedSum : Int64) (mAllWays : Int64) (mRode : (Nat → Int32)) (mWays : (Nat → Int32)) (mLanes : (Nat → Int32)) (mSizes : (Nat → Int32)) (mCells : (Nat → Int32)) (mTorn : Int32) (mBefore : (Nat → Int32)) (p1 : Int32) (r_ : Int32) (hf : f_X8_count mSt mIsKept mTaped mLanes mSizes p1 = some r_) : mR l yX8_count wsX8_count rmX8_count D k sz [.ref mh, .int p1] (wX8 k mh mrSt mrNow mrIsKept mrDraft mrTape mrRow mrRode mrWays mrLanes mrSizes mrCells mrBefore mSt mNow mIsKept mPeople mDraft mDPeople mHasDry mToldDebts mHighest mTape mTaped mPos mBegun mSort mValue mFault mWrongAt mPaid mRow mRingMuch mRideSum mOwedSum mAllWays mRode mWays mLanes mSizes mCells mTorn mBefore) (wX8 k mh mrSt mrNow mrIsKept mrDraft mrTape mrRow mrRode mrWays mrLanes mrSizes mrCells mrBefore mSt mNow mIsKept mPeople mDraft mDPeople mHasDry mToldDebts mHighest mTape mTaped mPos mBegun mSort mValue mFault mWrongAt mPaid mRow mRingMuch mRideSum mOwedSum mAllWays mRode mWays mLanes mSizes mCells mTorn mBefore) (some (.int r_)) := by
  refine mR_of (cc := cX8_count) (maxL := 4) (ret := some .int) (by decide) rfl (Nat.le_of_ble_eq_true rfl) [(0, .ref mh), (1, .int p1)] rfl ?_
  intro p e s m below meth c A ls args Q cx hK hA hw hl hQ
  have fx := cx.1
  obtain ⟨⟨hx, hb, hml, hown, hts⟩, hr, hlocks⟩ := cx
  have hinX8 : ∀ w ∈ wsX80, w ∈ wsX8_count := fun w h => List.mem_cons_of_mem _ (List.mem_append_right _ h)
  have q_1 := hts (.fieldLink RX8 7 "DebtRidesModel" "st" "[I") (List.mem_of_getElem? (i := 1) rfl)
  have q_2 := hts (.fieldLink RX8 16 "DebtRidesModel" "isKept" "[Z") (List.mem_of_getElem? (i := 2) rfl)
  have q_3 := hts (.fieldLink RX8 76 "DebtRidesModel" "taped" "I") (List.mem_of_getElem? (i := 3) rfl)
  have q_4 := hts (.fieldLink RX8 35 "DebtRidesModel" "lanes" "[I") (List.mem_of_getElem? (i := 4) rfl)
  have q_5 := hts (.fieldLink RX8 38 "DebtRidesModel" "sizes" "[I") (List.mem_of_getElem? (i := 5) rfl)
  have h := hf
  unfold f_X8_count at h
  clear hf
  refine lv_iconst (v := 0) hx hb dX8_count_0 (by decide) ?_
  refine lv_istore_n (lv' := [(2, .int 0), (0, .ref mh), (1, .int p1)]) hx hb dX8_count_1 rfl hl (by decide) rfl (fun ls hl => ?_)
  refine lv_iconst (v := 0) hx hb dX8_count_2 (by decide) ?_
  refine lv_istore_n (lv' := [(3, .int 0), (2, .int 0), (0, .ref mh), (1, .int p1)]) hx hb dX8_count_3 rfl hl (by decide) rfl (fun ls hl => ?_)
  obtain ⟨v2_3, hL_4, h⟩ := b1_inv h
  have X_4 : ∀ (H : Heap) (locs : List Loc) (ls : Array Slot), Wd D A s.heap H locs (wX8 k mh mrSt mrNow mrIsKept mrDraft mrTape mrRow mrRode mrWays mrLanes mrSizes mrCells mrBefore mSt mNow mIsKept mPeople mDraft mDPeople mHasDry mToldDebts mHighest mTape mTaped mPos mBegun mSort mValue mFault mWrongAt mPaid mRow mRingMuch mRideSum mOwedSum mAllWays mRode mWays mLanes mSizes mCells mTorn mBefore) → lv_has ls 4 [(0, .ref mh), (1, .int p1), (2, .int v2_3)] → W p l e rmX8_count s m args below meth c H locs 0 0 Q (F0 m 39 ls []) := by
    intro H locs ls hw hl
    refine lv_iload_n hx hb dX8_count_39 rfl (lv_at hl 1 rfl) ?_
    by_cases c40_0 : p1 = 0
    · rw [if_pos c40_0] at h
      refine lv_tableIn (off := 36) (tgt := 76) hx hb dX8_count_40 (by rw [c40_0]; decide) (by rw [c40_0]; decide) (by rw [c40_0]; rfl) (by decide) ?_
      refine lv_aload_n hx hb dX8_count_76 rfl (lv_at hl 0 rfl) ?_
      refine va_get (ci := 8) (v := .ref mrSt) (C := RX8) (T := TX8) (N := 30) hx hb hts hinX8 hown hK.1 hw.1 0 rfl rfl 0 (by decide) q_1 (fun _ h9 => h9) rfl dX8_count_77 ?_
      refine lv_bipush (v := 42) hx hb dX8_count_80 (by decide) ?_
      refine k_iald hx hb hK hw 1 rfl dX8_count_82 h (fun a_7 h => ?_)
      cases h
      exact k_iret hx hb hr hlocks hw rfl dX8_count_83 hQ
    · rw [if_neg c40_0] at h
      by_cases c40_1 : p1 = 1
      · rw [if_pos c40_1] at h
        refine lv_tableIn (off := 44) (tgt := 84) hx hb dX8_count_40 (by rw [c40_1]; decide) (by rw [c40_1]; decide) (by rw [c40_1]; rfl) (by decide) ?_
        refine lv_aload_n hx hb dX8_count_84 rfl (lv_at hl 0 rfl) ?_
        refine va_get (ci := 8) (v := .ref mrIsKept) (C := RX8) (T := TX8) (N := 30) hx hb hts hinX8 hown hK.1 hw.1 0 rfl rfl 2 (by decide) q_2 (fun _ h9 => h9) rfl dX8_count_85 ?_
        refine lv_iconst (v := 0) hx hb dX8_count_88 (by decide) ?_
        refine k_zald hx hb hK hw 3 rfl dX8_count_89 h (fun a_8 h => ?_)
        obtain ⟨r_9, hf, h⟩ := b1_inv h
        refine k_callS (b := 0) (C := "") (host := "") fx hK hA hw (c_X8_flag l D k _ a_8 r_9 hf) (va_cwS 1 hts gX8_count_X8_flag rfl rfl rfl (by decide +kernel) ⟨by decide, by decide⟩) (As := [.int a_8]) (wr := [(mh, .inr (8, [.ref mrSt, .ref mrNow, .ref mrIsKept, .int mPeople, .ref mrDraft, .int mDPeople, .int mHasDry, .int mToldDebts, .int mHighest, .ref mrTape, .int mTaped, .int mPos, .int mBegun, .int mSort, .int mValue, .int mFault, .int mWrongAt, .int mPaid, .ref mrRow, .int mRingMuch, .long mRideSum, .long mOwedSum, .long mAllWays, .ref mrRode, .ref mrWays, .ref mrLanes, .ref mrSizes, .ref mrCells, .int mTorn, .ref mrBefore])), (mrSt, .inl (k 0, 183, .inl mSt)), (mrNow, .inl (k 0, 61, .inl mNow)), (mrIsKept, .inl (k 1, 2, .inl mIsKept)), (mrDraft, .inl (k 0, 61, .inl mDraft)), (mrTape, .inl (k 0, 160, .inl mTape)), (mrRow, .inl (k 0, 5, .inl mRow)), (mrRode, .inl (k 0, 31, .inl mRode)), (mrWays, .inl (k 0, 31, .inl mWays)), (mrLanes, .inl (k 0, 4, .inl mLanes)), (mrSizes, .inl (k 0, 4, .inl mSizes)), (mrCells, .inl (k 0, 160, .inl mCells)), (mrBefore, .inl (k 0, 61, .inl mBefore))]) (ws' := wX8 k mh mrSt mrNow mrIsKept mrDraft mrTape mrRow mrRode mrWays mrLanes mrSizes mrCells mrBefore mSt mNow mIsKept mPeople mDraft mDPeople mHasDry mToldDebts mHighest mTape mTaped mPos mBegun mSort mValue mFault mWrongAt mPaid mRow mRingMuch mRideSum mOwedSum mAllWays mRode mWays mLanes mSizes mCells mTorn mBefore) [] [0, 1, 2, 3, 4, 5, 6, 7, 8, 9, 10, 11, 12] [0, 1, 2, 3, 4, 5, 6, 7, 8, 9, 10, 11, 12] rfl rfl (by decide) (by decide) (by decide) rfl (by decide) [] rfl hl.1 rfl (Nat.le_of_ble_eq_true rfl) dX8_count_90 ⟨by decide, by decide⟩ (fun H locs (hw : Wd D A s.heap H locs (wX8 k mh mrSt mrNow mrIsKept mrDraft mrTape mrRow mrRode mrWays mrLanes mrSizes mrCells mrBefore mSt mNow mIsKept mPeople mDraft mDPeople mHasDry mToldDebts mHighest mTape mTaped mPos mBegun mSort mValue mFault mWrongAt mPaid mRow mRingMuch mRideSum mOwedSum mAllWays mRode mWays mLanes mSizes mCells mTorn mBefore)) => ?_)
        refine W.eq (g2 := F0 m 93 ls ([.int r_9])) rfl ?_
        refine lv_aload_n hx hb dX8_count_93 rfl (lv_at hl 0 rfl) ?_
        refine va_get (ci := 8) (v := .ref mrIsKept) (C := RX8) (T := TX8) (N := 30) hx hb hts hinX8 hown hK.1 hw.1 0 rfl rfl 2 (by decide) q_2 (fun _ h9 => h9) rfl dX8_count_94 ?_
        refine lv_iconst (v := 1) hx hb dX8_count_97 (by decide) ?_
        refine k_zald hx hb hK hw 3 rfl dX8_count_98 h (fun a_10 h => ?_)
        obtain ⟨r_11, hf, h⟩ := b1_inv h
        refine k_callS (b := 0) (C := "") (host := "") fx hK hA hw (c_X8_flag l D k _ a_10 r_11 hf) (va_cwS 1 hts gX8_count_X8_flag rfl rfl rfl (by decide +kernel) ⟨by decide, by decide⟩) (As := [.int a_10]) (wr := [(mh, .inr (8, [.ref mrSt, .ref mrNow, .ref mrIsKept, .int mPeople, .ref mrDraft, .int mDPeople, .int mHasDry, .int mToldDebts, .int mHighest, .ref mrTape, .int mTaped, .int mPos, .int mBegun, .int mSort, .int mValue, .int mFault, .int mWrongAt, .int mPaid, .ref mrRow, .int mRingMuch, .long mRideSum, .long mOwedSum, .long mAllWays, .ref mrRode, .ref mrWays, .ref mrLanes, .ref mrSizes, .ref mrCells, .int mTorn, .ref mrBefore])), (mrSt, .inl (k 0, 183, .inl mSt)), (mrNow, .inl (k 0, 61, .inl mNow)), (mrIsKept, .inl (k 1, 2, .inl mIsKept)), (mrDraft, .inl (k 0, 61, .inl mDraft)), (mrTape, .inl (k 0, 160, .inl mTape)), (mrRow, .inl (k 0, 5, .inl mRow)), (mrRode, .inl (k 0, 31, .inl mRode)), (mrWays, .inl (k 0, 31, .inl mWays)), (mrLanes, .inl (k 0, 4, .inl mLanes)), (mrSizes, .inl (k 0, 4, .inl mSizes)), (mrCells, .inl (k 0, 160, .inl mCells)), (mrBefore, .inl (k 0, 61, .inl mBefore))]) (ws' := wX8 k mh mrSt mrNow mrIsKept mrDraft mrTape mrRow mrRode mrWays mrLanes mrSizes mrCells mrBefore mSt mNow mIsKept mPeople mDraft mDPeople mHasDry mToldDebts mHighest mTape mTaped mPos mBegun mSort mValue mFault mWrongAt mPaid mRow mRingMuch mRideSum mOwedSum mAllWays mRode mWays mLanes mSizes mCells mTorn mBefore) [] [0, 1, 2, 3, 4, 5, 6, 7, 8, 9, 10, 11, 12] [0, 1, 2, 3, 4, 5, 6, 7, 8, 9, 10, 11, 12] rfl rfl (by decide) (by decide) (by decide) rfl (by decide) [.int r_9] rfl hl.1 rfl (Nat.le_of_ble_eq_true rfl) dX8_count_99 ⟨by decide, by decide⟩ (fun H locs (hw : Wd D A s.heap H locs (wX8 k mh mrSt mrNow mrIsKept mrDraft mrTape mrRow mrRode mrWays mrLanes mrSizes mrCells mrBefore mSt mNow mIsKept mPeople mDraft mDPeople mHasDry mToldDebts mHighest mTape mTaped mPos mBegun mSort mValue mFault mWrongAt mPaid mRow mRingMuch mRideSum mOwedSum mAllWays mRode mWays mLanes mSizes mCells mTorn mBefore)) => ?_)
        refine W.eq (g2 := F0 m 102 ls ([.int r_11, .int r_9])) rfl ?_
        refine lv_iadd hx hb dX8_count_102 ?_
        cases h
        exact k_iret hx hb hr hlocks hw rfl dX8_count_103 hQ
      · rw [if_neg c40_1] at h
        by_cases c40_2 : p1 = 2
        · rw [if_pos c40_2] at h
          refine lv_tableIn (off := 64) (tgt := 104) hx hb dX8_count_40 (by rw [c40_2]; decide) (by rw [c40_2]; decide) (by rw [c40_2]; rfl) (by decide) ?_
          refine lv_aload_n hx hb dX8_count_104 rfl (lv_at hl 0 rfl) ?_
          refine va_get (ci := 8) (v := .int mTaped) (C := RX8) (T := TX8) (N := 30) hx hb hts hinX8 hown hK.1 hw.1 0 rfl rfl 10 (by decide) q_3 (fun _ h9 => h9) rfl dX8_count_105 ?_
          cases h
          exact k_iret hx hb hr hlocks hw rfl dX8_count_108 hQ
        · rw [if_neg c40_2] at h
          by_cases c40_3 : p1 = 3
          · rw [if_pos c40_3] at h
            refine lv_tableIn (off := 69) (tgt := 109) hx hb dX8_count_40 (by rw [c40_3]; decide) (by rw [c40_3]; decide) (by rw [c40_3]; rfl) (by decide) ?_
            refine lv_aload_n hx hb dX8_count_109 rfl (lv_at hl 0 rfl) ?_
            refine va_get (ci := 8) (v := .ref mrLanes) (C := RX8) (T := TX8) (N := 30) hx hb hts hinX8 hown hK.1 hw.1 0 rfl rfl 25 (by decide) q_4 (fun _ h9 => h9) rfl dX8_count_110 ?_
            refine lv_iconst (v := 0) hx hb dX8_count_113 (by decide) ?_
            refine k_iald hx hb hK hw 9 rfl dX8_count_114 h (fun a_12 h => ?_)
            refine lv_bipush (v := (-4)) hx hb dX8_count_115 (by decide) ?_
            refine kb_icmp_ne (tgt := 125) hx hb dX8_count_117 (by decide) h (fun c_117 h => ?_) (fun c_117 h => ?_)
            · refine lv_bipush (v := (-4)) hx hb dX8_count_120 (by decide) ?_
              refine lv_goto (tgt := 131) hx hb dX8_count_122 (by decide) ?_
              cases h
              exact k_iret hx hb hr hlocks hw rfl dX8_count_131 hQ
            · refine lv_aload_n hx hb dX8_count_125 rfl (lv_at hl 0 rfl) ?_
              refine va_get (ci := 8) (v := .ref mrSizes) (C := RX8) (T := TX8) (N := 30) hx hb hts hinX8 hown hK.1 hw.1 0 rfl rfl 26 (by decide) q_5 (fun _ h9 => h9) rfl dX8_count_126 ?_
              refine lv_iconst (v := 0) hx hb dX8_count_129 (by decide) ?_
              refine k_iald hx hb hK hw 10 rfl dX8_count_130 h (fun a_13 h => ?_)
              cases h
              exact k_iret hx hb hr hlocks hw rfl dX8_count_131 hQ
          · rw [if_neg c40_3] at h
            by_cases c40_4 : p1 = 4
            · rw [if_pos c40_4] at h
              refine lv_tableIn (off := 92) (tgt := 132) hx hb dX8_count_40 (by rw [c40_4]; decide) (by rw [c40_4]; decide) (by rw [c40_4]; rfl) (by decide) ?_
              refine lv_iload_n hx hb dX8_count_132 rfl (lv_at hl 2 rfl) ?_
              cases h
              exact k_iret hx hb hr hlocks hw rfl dX8_count_133 hQ
            · rw [if_neg c40_4] at h
              refine lv_tableOut (tgt := 134) hx hb dX8_count_40 (by have q0 : p1.toInt ≠ 0 := sw_ne c40_0; have q1 : p1.toInt ≠ 1 := sw_ne c40_1; have q2 : p1.toInt ≠ 2 := sw_ne c40_2; have q3 : p1.toInt ≠ 3 := sw_ne c40_3; have q4 : p1.toInt ≠ 4 := sw_ne c40_4; omega) (by decide) ?_
              refine lv_iconst (v := (-1)) hx hb dX8_count_134 (by decide) ?_
              cases h
              exact k_iret hx hb hr hlocks hw rfl dX8_count_135 hQ
  clear h
  have LP_4 : ∀ (n : Nat) (v2_1 : Int32) (v3_2 : Int32), f_X8_count_L4 mSt n v2_1 v3_2 = some v2_3 → ∀ (H : Heap) (locs : List Loc) (ls : Array Slot), Wd D A s.heap H locs (wX8 k mh mrSt mrNow mrIsKept mrDraft mrTape mrRow mrRode mrWays mrLanes mrSizes mrCells mrBefore mSt mNow mIsKept mPeople mDraft mDPeople mHasDry mToldDebts mHighest mTape mTaped mPos mBegun mSort mValue mFault mWrongAt mPaid mRow mRingMuch mRideSum mOwedSum mAllWays mRode mWays mLanes mSizes mCells mTorn mBefore) → lv_has ls 4 [(0, .ref mh), (1, .int p1), (2, .int v2_1), (3, .int v3_2)] → W p l e rmX8_count s m args below meth c H locs 0 0 Q (F0 m 4 ls []) := by
    clear hL_4 hw hl
    intro n
    induction n with
    | zero => intro v2_1 v3_2 h; rw [f_X8_count_L4] at h; cases h
    | succ n ih =>
      intro v2_1 v3_2 h H locs ls hw hl
      rw [f_X8_count_L4] at h
      refine lv_iload_n hx hb dX8_count_4 rfl (lv_at hl 3 rfl) ?_
      refine lv_bipush (v := 25) hx hb dX8_count_5 (by decide) ?_
      refine kb_icmp_ge (tgt := 39) hx hb dX8_count_7 (by decide) h (fun c_7 h => ?_) (fun c_7 h => ?_)
      · cases h
        exact X_4 _ _ _ hw (lv_sub hl [0, 1, 2] rfl)
      · refine lv_iload_n hx hb dX8_count_10 rfl (lv_at hl 2 rfl) ?_
        refine lv_aload_n hx hb dX8_count_11 rfl (lv_at hl 0 rfl) ?_
        refine va_get (ci := 8) (v := .ref mrSt) (C := RX8) (T := TX8) (N := 30) hx hb hts hinX8 hown hK.1 hw.1 0 rfl rfl 0 (by decide) q_1 (fun _ h9 => h9) rfl dX8_count_12 ?_
        refine lv_bipush (v := 15) hx hb dX8_count_15 (by decide) ?_
        refine lv_iload_n hx hb dX8_count_17 rfl (lv_at hl 3 rfl) ?_
        refine lv_iadd hx hb dX8_count_18 ?_
        refine k_iald hx hb hK hw 1 rfl dX8_count_19 h (fun a_4 h => ?_)
        obtain ⟨t_5, hj_20, h⟩ := b1_inv h
        have J_20 : ∀ (H : Heap) (locs : List Loc) (ls : Array Slot), Wd D A s.heap H locs (wX8 k mh mrSt mrNow mrIsKept mrDraft mrTape mrRow mrRode mrWays mrLanes mrSizes mrCells mrBefore mSt mNow mIsKept mPeople mDraft mDPeople mHasDry mToldDebts mHighest mTape mTaped mPos mBegun mSort mValue mFault mWrongAt mPaid mRow mRingMuch mRideSum mOwedSum mAllWays mRode mWays mLanes mSizes mCells mTorn mBefore) → lv_has ls 4 [(0, .ref mh), (1, .int p1), (3, .int v3_2)] → W p l e rmX8_count s m args below meth c H locs 0 0 Q (F0 m 28 ls [.int t_5, .int v2_1]) := by
          intro H locs ls hw hl
          obtain ⟨r_6, hf, h⟩ := b1_inv h
          refine k_callS (b := 0) (C := "") (host := "") fx hK hA hw (c_X8_flag l D k _ t_5 r_6 hf) (va_cwS 1 hts gX8_count_X8_flag rfl rfl rfl (by decide +kernel) ⟨by decide, by decide⟩) (As := [.int t_5]) (wr := [(mh, .inr (8, [.ref mrSt, .ref mrNow, .ref mrIsKept, .int mPeople, .ref mrDraft, .int mDPeople, .int mHasDry, .int mToldDebts, .int mHighest, .ref mrTape, .int mTaped, .int mPos, .int mBegun, .int mSort, .int mValue, .int mFault, .int mWrongAt, .int mPaid, .ref mrRow, .int mRingMuch, .long mRideSum, .long mOwedSum, .long mAllWays, .ref mrRode, .ref mrWays, .ref mrLanes, .ref mrSizes, .ref mrCells, .int mTorn, .ref mrBefore])), (mrSt, .inl (k 0, 183, .inl mSt)), (mrNow, .inl (k 0, 61, .inl mNow)), (mrIsKept, .inl (k 1, 2, .inl mIsKept)), (mrDraft, .inl (k 0, 61, .inl mDraft)), (mrTape, .inl (k 0, 160, .inl mTape)), (mrRow, .inl (k 0, 5, .inl mRow)), (mrRode, .inl (k 0, 31, .inl mRode)), (mrWays, .inl (k 0, 31, .inl mWays)), (mrLanes, .inl (k 0, 4, .inl mLanes)), (mrSizes, .inl (k 0, 4, .inl mSizes)), (mrCells, .inl (k 0, 160, .inl mCells)), (mrBefore, .inl (k 0, 61, .inl mBefore))]) (ws' := wX8 k mh mrSt mrNow mrIsKept mrDraft mrTape mrRow mrRode mrWays mrLanes mrSizes mrCells mrBefore mSt mNow mIsKept mPeople mDraft mDPeople mHasDry mToldDebts mHighest mTape mTaped mPos mBegun mSort mValue mFault mWrongAt mPaid mRow mRingMuch mRideSum mOwedSum mAllWays mRode mWays mLanes mSizes mCells mTorn mBefore) [] [0, 1, 2, 3, 4, 5, 6, 7, 8, 9, 10, 11, 12] [0, 1, 2, 3, 4, 5, 6, 7, 8, 9, 10, 11, 12] rfl rfl (by decide) (by decide) (by decide) rfl (by decide) [.int v2_1] rfl hl.1 rfl (Nat.le_of_ble_eq_true rfl) dX8_count_28 ⟨by decide, by decide⟩ (fun H locs (hw : Wd D A s.heap H locs (wX8 k mh mrSt mrNow mrIsKept mrDraft mrTape mrRow mrRode mrWays mrLanes mrSizes mrCells mrBefore mSt mNow mIsKept mPeople mDraft mDPeople mHasDry mToldDebts mHighest mTape mTaped mPos mBegun mSort mValue mFault mWrongAt mPaid mRow mRingMuch mRideSum mOwedSum mAllWays mRode mWays mLanes mSizes mCells mTorn mBefore)) => ?_)
          refine W.eq (g2 := F0 m 31 ls ([.int r_6, .int v2_1])) rfl ?_
          refine lv_iadd hx hb dX8_count_31 ?_
          refine lv_istore_n (lv' := [(2, .int (v2_1 + r_6)), (0, .ref mh), (1, .int p1), (3, .int v3_2)]) hx hb dX8_count_32 rfl hl (by decide) rfl (fun ls hl => ?_)
          refine lv_iinc (v := v3_2 + 1) (lv' := [(3, .int (v3_2 + 1)), (2, .int (v2_1 + r_6)), (0, .ref mh), (1, .int p1)]) hx hb dX8_count_33 hl (k := 3) rfl rfl (by decide) rfl (fun ls hl => ?_)
          refine lv_goto (tgt := 4) hx hb dX8_count_36 (by decide) ?_
          exact ih _ _ h _ _ _ hw (lv_sub hl [2, 3, 1, 0] rfl)
        clear h
        have h := hj_20
        refine kb_if_le (tgt := 27) hx hb dX8_count_20 (by decide) h (fun c_20 h => ?_) (fun c_20 h => ?_)
        · refine lv_iconst (v := 0) hx hb dX8_count_27 (by decide) ?_
          cases h
          exact J_20 _ _ _ hw (lv_sub hl [0, 1, 3] rfl)
        · refine lv_iconst (v := 1) hx hb dX8_count_23 (by decide) ?_
          refine lv_goto (tgt := 28) hx hb dX8_count_24 (by decide) ?_
          cases h
          exact J_20 _ _ _ hw (lv_sub hl [0, 1, 3] rfl)
  exact LP_4 400 0 0 hL_4 _ _ _ hw (lv_sub hl [2, 3, 1, 0] rfl)
abbrev rmX8_days : Room := { frames := 5, cells := 0, slots := 0, locals := 114 }
set_option maxHeartbeats 4000000 in
set_option maxRecDepth 100000 in
theorem c_X8_days (l : Launch) (D : va_G) (k : Nat → ClassId) (mh mrSt mrNow mrIsKept mrDraft mrTape mrRow mrRode mrWays mrLanes mrSizes mrCells mrBefore : Nat) (sz : Nat) (mSt : (Nat → Int32)) (mNow : (Nat → Int32)) (mIsKept : (Nat → Int32)) (mPeople : Int32) (mDraft : (Nat → Int32)) (mDPeople : Int32) (mHasDry : Int32) (mToldDebts : Int32) (mHighest : Int32) (mTape : (Nat → Int32)) (mTaped : Int32) (mPos : Int32) (mBegun : Int32) (mSort : Int32) (mValue : Int32) (mFault : Int32) (mWrongAt : Int32) (mPaid : Int32) (mRow : (Nat → Int32)) (mRingMuch : Int32) (mRideSum : Int64) (mOwedSum : Int64) (mAllWays : Int64) (mRode : (Nat → Int32)) (mWays : (Nat → Int32)) (mLanes : (Nat → Int32)) (mSizes : (Nat → Int32)) (mCells : (Nat → Int32)) (mTorn : Int32) (mBefore : (Nat → Int32)) (p1 : Int32) (r_ : Int32) (n_mSt : (Nat → Int32)) (n_mNow : (Nat → Int32)) (n_mPaid : Int32) (hf : f_X8_days mSt mNow mPeople mPaid p1 = some (r_, n_mSt, n_mNow, n_mPaid)) : mR l yX8_days wsX8_days rmX8_days D k sz [.ref mh, .int p1] (wX8 k mh mrSt mrNow mrIsKept mrDraft mrTape mrRow mrRode mrWays mrLanes mrSizes mrCells mrBefore mSt mNow mIsKept mPeople mDraft mDPeople mHasDry mToldDebts mHighest mTape mTaped mPos mBegun mSort mValue mFault mWrongAt mPaid mRow mRingMuch mRideSum mOwedSum mAllWays mRode mWays mLanes mSizes mCells mTorn mBefore) (wX8 k mh mrSt mrNow mrIsKept mrDraft mrTape mrRow mrRode mrWays mrLanes mrSizes mrCells mrBefore n_mSt n_mNow mIsKept mPeople mDraft mDPeople mHasDry mToldDebts mHighest mTape mTaped mPos mBegun mSort mValue mFault mWrongAt n_mPaid mRow mRingMuch mRideSum mOwedSum mAllWays mRode mWays mLanes mSizes mCells mTorn mBefore) (some (.int r_)) := by
  refine mR_of (cc := cX8_days) (maxL := 2) (ret := some .int) (by decide) rfl (Nat.le_of_ble_eq_true rfl) [(0, .ref mh), (1, .int p1)] rfl ?_
  intro p e s m below meth c A ls args Q cx hK hA hw hl hQ
  have fx := cx.1
  obtain ⟨⟨hx, hb, hml, hown, hts⟩, hr, hlocks⟩ := cx
  have hinX8 : ∀ w ∈ wsX80, w ∈ wsX8_days := fun w h => List.mem_cons_of_mem _ (List.mem_append_right _ h)
  have q_1 := hts (.constantLong RX8 224 (30)) (List.mem_of_getElem? (i := 1) rfl)
  have q_2 := hts (.fieldLink RX8 7 "DebtRidesModel" "st" "[I") (List.mem_of_getElem? (i := 2) rfl)
  have q_3 := hts (.fieldLink RX8 178 "DebtRidesModel" "paid" "I") (List.mem_of_getElem? (i := 3) rfl)
  have h := hf
  unfold f_X8_days at h
  clear hf
  refine lv_iload_n hx hb dX8_days_0 rfl (lv_at hl 1 rfl) ?_
  refine lv_i2l hx hb dX8_days_1 rfl ?_
  refine lv_lconst (v := 0) hx hb dX8_days_2 rfl ?_
  refine lv_ldc2 (v := 30) hx hb hown q_1 dX8_days_3 ?_
  obtain ⟨r_1, hf, h⟩ := b1_inv h
  refine k_callS (b := 0) (C := "") (host := "") fx hK hA hw (c_X8_in l D k _ p1.toInt64 0 30 r_1 hf) (va_cwS 3 hts gX8_days_X8_in rfl rfl rfl (by decide +kernel) ⟨by decide, by decide⟩) (As := [.long p1.toInt64, .long 0, .long 30]) (wr := [(mh, .inr (8, [.ref mrSt, .ref mrNow, .ref mrIsKept, .int mPeople, .ref mrDraft, .int mDPeople, .int mHasDry, .int mToldDebts, .int mHighest, .ref mrTape, .int mTaped, .int mPos, .int mBegun, .int mSort, .int mValue, .int mFault, .int mWrongAt, .int mPaid, .ref mrRow, .int mRingMuch, .long mRideSum, .long mOwedSum, .long mAllWays, .ref mrRode, .ref mrWays, .ref mrLanes, .ref mrSizes, .ref mrCells, .int mTorn, .ref mrBefore])), (mrSt, .inl (k 0, 183, .inl mSt)), (mrNow, .inl (k 0, 61, .inl mNow)), (mrIsKept, .inl (k 1, 2, .inl mIsKept)), (mrDraft, .inl (k 0, 61, .inl mDraft)), (mrTape, .inl (k 0, 160, .inl mTape)), (mrRow, .inl (k 0, 5, .inl mRow)), (mrRode, .inl (k 0, 31, .inl mRode)), (mrWays, .inl (k 0, 31, .inl mWays)), (mrLanes, .inl (k 0, 4, .inl mLanes)), (mrSizes, .inl (k 0, 4, .inl mSizes)), (mrCells, .inl (k 0, 160, .inl mCells)), (mrBefore, .inl (k 0, 61, .inl mBefore))]) (ws' := wX8 k mh mrSt mrNow mrIsKept mrDraft mrTape mrRow mrRode mrWays mrLanes mrSizes mrCells mrBefore mSt mNow mIsKept mPeople mDraft mDPeople mHasDry mToldDebts mHighest mTape mTaped mPos mBegun mSort mValue mFault mWrongAt mPaid mRow mRingMuch mRideSum mOwedSum mAllWays mRode mWays mLanes mSizes mCells mTorn mBefore) [] [0, 1, 2, 3, 4, 5, 6, 7, 8, 9, 10, 11, 12] [0, 1, 2, 3, 4, 5, 6, 7, 8, 9, 10, 11, 12] rfl rfl (by decide) (by decide) (by decide) rfl (by decide) [] rfl hl.1 rfl (Nat.le_of_ble_eq_true rfl) dX8_days_6 ⟨by decide, by decide⟩ (fun H locs (hw : Wd D A s.heap H locs (wX8 k mh mrSt mrNow mrIsKept mrDraft mrTape mrRow mrRode mrWays mrLanes mrSizes mrCells mrBefore mSt mNow mIsKept mPeople mDraft mDPeople mHasDry mToldDebts mHighest mTape mTaped mPos mBegun mSort mValue mFault mWrongAt mPaid mRow mRingMuch mRideSum mOwedSum mAllWays mRode mWays mLanes mSizes mCells mTorn mBefore)) => ?_)
  refine W.eq (g2 := F0 m 9 ls ([.int r_1])) rfl ?_
  refine kb_if_ne (tgt := 14) hx hb dX8_days_9 (by decide) h (fun c_9 h => ?_) (fun c_9 h => ?_)
  · refine lv_iconst (v := (-1)) hx hb dX8_days_12 (by decide) ?_
    cases h
    exact k_iret hx hb hr hlocks hw rfl dX8_days_13 hQ
  · refine lv_aload_n hx hb dX8_days_14 rfl (lv_at hl 0 rfl) ?_
    refine va_get (ci := 8) (v := .ref mrSt) (C := RX8) (T := TX8) (N := 30) hx hb hts hinX8 hown hK.1 hw.1 0 rfl rfl 0 (by decide) q_2 (fun _ h9 => h9) rfl dX8_days_15 ?_
    refine lv_bipush (v := 40) hx hb dX8_days_18 (by decide) ?_
    refine k_iald hx hb hK hw 1 rfl dX8_days_20 h (fun a_2 h => ?_)
    refine lv_iload_n hx hb dX8_days_21 rfl (lv_at hl 1 rfl) ?_
    refine lv_iadd hx hb dX8_days_22 ?_
    refine lv_sipush (v := 999) hx hb dX8_days_23 (by decide) ?_
    refine kb_icmp_le (tgt := 32) hx hb dX8_days_26 (by decide) h (fun c_26 h => ?_) (fun c_26 h => ?_)
    · refine lv_aload_n hx hb dX8_days_32 rfl (lv_at hl 0 rfl) ?_
      obtain ⟨mNow_3, hf, h⟩ := b1_inv h
      refine k_callV (host := "") fx hK hA hw (c_X8_starts l D k mh mrSt mrNow mrIsKept mrDraft mrTape mrRow mrRode mrWays mrLanes mrSizes mrCells mrBefore _ mSt mNow mIsKept mPeople mDraft mDPeople mHasDry mToldDebts mHighest mTape mTaped mPos mBegun mSort mValue mFault mWrongAt mPaid mRow mRingMuch mRideSum mOwedSum mAllWays mRode mWays mLanes mSizes mCells mTorn mBefore mNow_3 hf) (cwV 0 hts gX8_days_X8_starts rfl rfl rfl (by decide +kernel) ⟨by decide, by decide⟩) (As := []) (wr := []) (ws' := wX8 k mh mrSt mrNow mrIsKept mrDraft mrTape mrRow mrRode mrWays mrLanes mrSizes mrCells mrBefore mSt mNow_3 mIsKept mPeople mDraft mDPeople mHasDry mToldDebts mHighest mTape mTaped mPos mBegun mSort mValue mFault mWrongAt mPaid mRow mRingMuch mRideSum mOwedSum mAllWays mRode mWays mLanes mSizes mCells mTorn mBefore) [0, 1, 2, 3, 4, 5, 6, 7, 8, 9, 10, 11, 12] [] [0, 1, 2, 3, 4, 5, 6, 7, 8, 9, 10, 11, 12] rfl rfl (by decide) (by decide) (by decide) rfl (by decide) 8 rfl rfl [] rfl hl.1 rfl (Nat.le_of_ble_eq_true rfl) dX8_days_33 ⟨by decide, by decide⟩ (fun H locs (hw : Wd D A s.heap H locs (wX8 k mh mrSt mrNow mrIsKept mrDraft mrTape mrRow mrRode mrWays mrLanes mrSizes mrCells mrBefore mSt mNow_3 mIsKept mPeople mDraft mDPeople mHasDry mToldDebts mHighest mTape mTaped mPos mBegun mSort mValue mFault mWrongAt mPaid mRow mRingMuch mRideSum mOwedSum mAllWays mRode mWays mLanes mSizes mCells mTorn mBefore)) => ?_)
      refine W.eq (g2 := F0 m 36 ls ([])) rfl ?_
      refine lv_aload_n hx hb dX8_days_36 rfl (lv_at hl 0 rfl) ?_
      refine lv_iload_n hx hb dX8_days_37 rfl (lv_at hl 1 rfl) ?_
      obtain ⟨mNow_4, mPaid_5, hf, h⟩ := b2_inv h
      refine k_callV (host := "") fx hK hA hw (c_X8_daysGo l D k mh mrSt mrNow mrIsKept mrDraft mrTape mrRow mrRode mrWays mrLanes mrSizes mrCells mrBefore _ mSt mNow_3 mIsKept mPeople mDraft mDPeople mHasDry mToldDebts mHighest mTape mTaped mPos mBegun mSort mValue mFault mWrongAt mPaid mRow mRingMuch mRideSum mOwedSum mAllWays mRode mWays mLanes mSizes mCells mTorn mBefore p1 mNow_4 mPaid_5 hf) (cwV 1 hts gX8_days_X8_daysGo rfl rfl rfl (by decide +kernel) ⟨by decide, by decide⟩) (As := [.int p1]) (wr := []) (ws' := wX8 k mh mrSt mrNow mrIsKept mrDraft mrTape mrRow mrRode mrWays mrLanes mrSizes mrCells mrBefore mSt mNow_4 mIsKept mPeople mDraft mDPeople mHasDry mToldDebts mHighest mTape mTaped mPos mBegun mSort mValue mFault mWrongAt mPaid_5 mRow mRingMuch mRideSum mOwedSum mAllWays mRode mWays mLanes mSizes mCells mTorn mBefore) [0, 1, 2, 3, 4, 5, 6, 7, 8, 9, 10, 11, 12] [] [0, 1, 2, 3, 4, 5, 6, 7, 8, 9, 10, 11, 12] rfl rfl (by decide) (by decide) (by decide) rfl (by decide) 8 rfl rfl [] rfl hl.1 rfl (Nat.le_of_ble_eq_true rfl) dX8_days_38 ⟨by decide, by decide⟩ (fun H locs (hw : Wd D A s.heap H locs (wX8 k mh mrSt mrNow mrIsKept mrDraft mrTape mrRow mrRode mrWays mrLanes mrSizes mrCells mrBefore mSt mNow_4 mIsKept mPeople mDraft mDPeople mHasDry mToldDebts mHighest mTape mTaped mPos mBegun mSort mValue mFault mWrongAt mPaid_5 mRow mRingMuch mRideSum mOwedSum mAllWays mRode mWays mLanes mSizes mCells mTorn mBefore)) => ?_)
      refine W.eq (g2 := F0 m 41 ls ([])) rfl ?_
      refine lv_aload_n hx hb dX8_days_41 rfl (lv_at hl 0 rfl) ?_
      obtain ⟨mSt_6, hf, h⟩ := b1_inv h
      refine k_callV (host := "") fx hK hA hw (c_X8_settles l D k mh mrSt mrNow mrIsKept mrDraft mrTape mrRow mrRode mrWays mrLanes mrSizes mrCells mrBefore _ mSt mNow_4 mIsKept mPeople mDraft mDPeople mHasDry mToldDebts mHighest mTape mTaped mPos mBegun mSort mValue mFault mWrongAt mPaid_5 mRow mRingMuch mRideSum mOwedSum mAllWays mRode mWays mLanes mSizes mCells mTorn mBefore mSt_6 hf) (cwV 0 hts gX8_days_X8_settles rfl rfl rfl (by decide +kernel) ⟨by decide, by decide⟩) (As := []) (wr := []) (ws' := wX8 k mh mrSt mrNow mrIsKept mrDraft mrTape mrRow mrRode mrWays mrLanes mrSizes mrCells mrBefore mSt_6 mNow_4 mIsKept mPeople mDraft mDPeople mHasDry mToldDebts mHighest mTape mTaped mPos mBegun mSort mValue mFault mWrongAt mPaid_5 mRow mRingMuch mRideSum mOwedSum mAllWays mRode mWays mLanes mSizes mCells mTorn mBefore) [0, 1, 2, 3, 4, 5, 6, 7, 8, 9, 10, 11, 12] [] [0, 1, 2, 3, 4, 5, 6, 7, 8, 9, 10, 11, 12] rfl rfl (by decide) (by decide) (by decide) rfl (by decide) 8 rfl rfl [] rfl hl.1 rfl (Nat.le_of_ble_eq_true rfl) dX8_days_42 ⟨by decide, by decide⟩ (fun H locs (hw : Wd D A s.heap H locs (wX8 k mh mrSt mrNow mrIsKept mrDraft mrTape mrRow mrRode mrWays mrLanes mrSizes mrCells mrBefore mSt_6 mNow_4 mIsKept mPeople mDraft mDPeople mHasDry mToldDebts mHighest mTape mTaped mPos mBegun mSort mValue mFault mWrongAt mPaid_5 mRow mRingMuch mRideSum mOwedSum mAllWays mRode mWays mLanes mSizes mCells mTorn mBefore)) => ?_)
      refine W.eq (g2 := F0 m 45 ls ([])) rfl ?_
      refine lv_aload_n hx hb dX8_days_45 rfl (lv_at hl 0 rfl) ?_
      refine va_get (ci := 8) (v := .int mPaid_5) (C := RX8) (T := TX8) (N := 30) hx hb hts hinX8 hown hK.1 hw.1 0 rfl rfl 17 (by decide) q_3 (fun _ h9 => h9) rfl dX8_days_46 ?_
      cases h
      exact k_iret hx hb hr hlocks hw rfl dX8_days_49 hQ
    · refine lv_bipush (v := (-3)) hx hb dX8_days_29 (by decide) ?_
      cases h
      exact k_iret hx hb hr hlocks hw rfl dX8_days_31 hQ
abbrev rmX8_daysTo : Room := { frames := 4, cells := 0, slots := 0, locals := 92 }
set_option maxHeartbeats 4000000 in
set_option maxRecDepth 100000 in
theorem c_X8_daysTo (l : Launch) (D : va_G) (k : Nat → ClassId) (mh mrSt mrNow mrIsKept mrDraft mrTape mrRow mrRode mrWays mrLanes mrSizes mrCells mrBefore : Nat) (sz : Nat) (mSt : (Nat → Int32)) (mNow : (Nat → Int32)) (mIsKept : (Nat → Int32)) (mPeople : Int32) (mDraft : (Nat → Int32)) (mDPeople : Int32) (mHasDry : Int32) (mToldDebts : Int32) (mHighest : Int32) (mTape : (Nat → Int32)) (mTaped : Int32) (mPos : Int32) (mBegun : Int32) (mSort : Int32) (mValue : Int32) (mFault : Int32) (mWrongAt : Int32) (mPaid : Int32) (mRow : (Nat → Int32)) (mRingMuch : Int32) (mRideSum : Int64) (mOwedSum : Int64) (mAllWays : Int64) (mRode : (Nat → Int32)) (mWays : (Nat → Int32)) (mLanes : (Nat → Int32)) (mSizes : (Nat → Int32)) (mCells : (Nat → Int32)) (mTorn : Int32) (mBefore : (Nat → Int32)) (p1 : Int32) (r_ : Int32) (n_mNow : (Nat → Int32)) (n_mPaid : Int32) (hf : f_X8_daysTo mNow mPeople mPaid p1 = some (r_, n_mNow, n_mPaid)) : mR l yX8_daysTo wsX8_daysTo rmX8_daysTo D k sz [.ref mh, .int p1] (wX8 k mh mrSt mrNow mrIsKept mrDraft mrTape mrRow mrRode mrWays mrLanes mrSizes mrCells mrBefore mSt mNow mIsKept mPeople mDraft mDPeople mHasDry mToldDebts mHighest mTape mTaped mPos mBegun mSort mValue mFault mWrongAt mPaid mRow mRingMuch mRideSum mOwedSum mAllWays mRode mWays mLanes mSizes mCells mTorn mBefore) (wX8 k mh mrSt mrNow mrIsKept mrDraft mrTape mrRow mrRode mrWays mrLanes mrSizes mrCells mrBefore mSt n_mNow mIsKept mPeople mDraft mDPeople mHasDry mToldDebts mHighest mTape mTaped mPos mBegun mSort mValue mFault mWrongAt n_mPaid mRow mRingMuch mRideSum mOwedSum mAllWays mRode mWays mLanes mSizes mCells mTorn mBefore) (some (.int r_)) := by
  refine mR_of (cc := cX8_daysTo) (maxL := 3) (ret := some .int) (by decide) rfl (Nat.le_of_ble_eq_true rfl) [(0, .ref mh), (1, .int p1)] rfl ?_
  intro p e s m below meth c A ls args Q cx hK hA hw hl hQ
  have fx := cx.1
  obtain ⟨⟨hx, hb, hml, hown, hts⟩, hr, hlocks⟩ := cx
  have h := hf
  unfold f_X8_daysTo at h
  clear hf
  refine lv_iconst (v := 0) hx hb dX8_daysTo_0 (by decide) ?_
  refine lv_istore_n (lv' := [(2, .int 0), (0, .ref mh), (1, .int p1)]) hx hb dX8_daysTo_1 rfl hl (by decide) rfl (fun ls hl => ?_)
  obtain ⟨ex_2, hL_2, hX_2⟩ := bs2_inv h
  clear h
  have X_2 : ∀ (mNow_4 : (Nat → Int32)) (mPaid_5 : Int32), ex_2 = Sum.inr (mNow_4, mPaid_5) → ∀ (H : Heap) (locs : List Loc) (ls : Array Slot), Wd D A s.heap H locs (wX8 k mh mrSt mrNow mrIsKept mrDraft mrTape mrRow mrRode mrWays mrLanes mrSizes mrCells mrBefore mSt mNow_4 mIsKept mPeople mDraft mDPeople mHasDry mToldDebts mHighest mTape mTaped mPos mBegun mSort mValue mFault mWrongAt mPaid_5 mRow mRingMuch mRideSum mOwedSum mAllWays mRode mWays mLanes mSizes mCells mTorn mBefore) → lv_has ls 3 [] → W p l e rmX8_daysTo s m args below meth c H locs 0 0 Q (F0 m 28 ls []) := by
    intro mNow_4 mPaid_5 hex H locs ls hw hl
    subst hex
    have h := bs2_r hX_2
    refine lv_bipush (v := (-4)) hx hb dX8_daysTo_28 (by decide) ?_
    cases h
    exact k_iret hx hb hr hlocks hw rfl dX8_daysTo_30 hQ
  have LP_2 : ∀ (n : Nat) (v2_1 : Int32) (mNow_2 : (Nat → Int32)) (mPaid_3 : Int32), f_X8_daysTo_L2 mPeople p1 n v2_1 mNow_2 mPaid_3 = some ex_2 → ∀ (H : Heap) (locs : List Loc) (ls : Array Slot), Wd D A s.heap H locs (wX8 k mh mrSt mrNow mrIsKept mrDraft mrTape mrRow mrRode mrWays mrLanes mrSizes mrCells mrBefore mSt mNow_2 mIsKept mPeople mDraft mDPeople mHasDry mToldDebts mHighest mTape mTaped mPos mBegun mSort mValue mFault mWrongAt mPaid_3 mRow mRingMuch mRideSum mOwedSum mAllWays mRode mWays mLanes mSizes mCells mTorn mBefore) → lv_has ls 3 [(0, .ref mh), (1, .int p1), (2, .int v2_1)] → W p l e rmX8_daysTo s m args below meth c H locs 0 0 Q (F0 m 2 ls []) := by
    clear hL_2 hw hl
    intro n
    induction n with
    | zero => intro v2_1 mNow_2 mPaid_3 h; rw [f_X8_daysTo_L2] at h; cases h
    | succ n ih =>
      intro v2_1 mNow_2 mPaid_3 h H locs ls hw hl
      rw [f_X8_daysTo_L2] at h
      refine lv_iload_n hx hb dX8_daysTo_2 rfl (lv_at hl 2 rfl) ?_
      refine lv_bipush (v := 60) hx hb dX8_daysTo_3 (by decide) ?_
      refine kb_icmp_gt (tgt := 28) hx hb dX8_daysTo_5 (by decide) h (fun c_5 h => ?_) (fun c_5 h => ?_)
      · cases h
        exact X_2 _ _ rfl _ _ _ hw (lv_sub hl [] rfl)
      · refine lv_aload_n hx hb dX8_daysTo_8 rfl (lv_at hl 0 rfl) ?_
        refine lv_iload_n hx hb dX8_daysTo_9 rfl (lv_at hl 1 rfl) ?_
        obtain ⟨r_6, hf, h⟩ := b1_inv h
        refine k_callV (host := "") fx hK hA hw (c_X8_owesAll l D k mh mrSt mrNow mrIsKept mrDraft mrTape mrRow mrRode mrWays mrLanes mrSizes mrCells mrBefore _ mSt mNow_2 mIsKept mPeople mDraft mDPeople mHasDry mToldDebts mHighest mTape mTaped mPos mBegun mSort mValue mFault mWrongAt mPaid_3 mRow mRingMuch mRideSum mOwedSum mAllWays mRode mWays mLanes mSizes mCells mTorn mBefore p1 r_6 hf) (cwV 1 hts gX8_daysTo_X8_owesAll rfl rfl rfl (by decide +kernel) ⟨by decide, by decide⟩) (As := [.int p1]) (wr := []) (ws' := wX8 k mh mrSt mrNow mrIsKept mrDraft mrTape mrRow mrRode mrWays mrLanes mrSizes mrCells mrBefore mSt mNow_2 mIsKept mPeople mDraft mDPeople mHasDry mToldDebts mHighest mTape mTaped mPos mBegun mSort mValue mFault mWrongAt mPaid_3 mRow mRingMuch mRideSum mOwedSum mAllWays mRode mWays mLanes mSizes mCells mTorn mBefore) [0, 1, 2, 3, 4, 5, 6, 7, 8, 9, 10, 11, 12] [] [0, 1, 2, 3, 4, 5, 6, 7, 8, 9, 10, 11, 12] rfl rfl (by decide) (by decide) (by decide) rfl (by decide) 8 rfl rfl [] rfl hl.1 rfl (Nat.le_of_ble_eq_true rfl) dX8_daysTo_10 ⟨by decide, by decide⟩ (fun H locs (hw : Wd D A s.heap H locs (wX8 k mh mrSt mrNow mrIsKept mrDraft mrTape mrRow mrRode mrWays mrLanes mrSizes mrCells mrBefore mSt mNow_2 mIsKept mPeople mDraft mDPeople mHasDry mToldDebts mHighest mTape mTaped mPos mBegun mSort mValue mFault mWrongAt mPaid_3 mRow mRingMuch mRideSum mOwedSum mAllWays mRode mWays mLanes mSizes mCells mTorn mBefore)) => ?_)
        refine W.eq (g2 := F0 m 13 ls ([.int r_6])) rfl ?_
        refine kb_if_ne (tgt := 18) hx hb dX8_daysTo_13 (by decide) h (fun c_13 h => ?_) (fun c_13 h => ?_)
        · refine lv_iload_n hx hb dX8_daysTo_16 rfl (lv_at hl 2 rfl) ?_
          cases h
          have h := bs2_l hX_2
          cases h
          exact k_iret hx hb hr hlocks hw rfl dX8_daysTo_17 hQ
        · refine lv_aload_n hx hb dX8_daysTo_18 rfl (lv_at hl 0 rfl) ?_
          obtain ⟨mNow_7, mPaid_8, hf, h⟩ := b2_inv h
          refine k_callV (host := "") fx hK hA hw (c_X8_dayGoes l D k mh mrSt mrNow mrIsKept mrDraft mrTape mrRow mrRode mrWays mrLanes mrSizes mrCells mrBefore _ mSt mNow_2 mIsKept mPeople mDraft mDPeople mHasDry mToldDebts mHighest mTape mTaped mPos mBegun mSort mValue mFault mWrongAt mPaid_3 mRow mRingMuch mRideSum mOwedSum mAllWays mRode mWays mLanes mSizes mCells mTorn mBefore mNow_7 mPaid_8 hf) (cwV 0 hts gX8_daysTo_X8_dayGoes rfl rfl rfl (by decide +kernel) ⟨by decide, by decide⟩) (As := []) (wr := []) (ws' := wX8 k mh mrSt mrNow mrIsKept mrDraft mrTape mrRow mrRode mrWays mrLanes mrSizes mrCells mrBefore mSt mNow_7 mIsKept mPeople mDraft mDPeople mHasDry mToldDebts mHighest mTape mTaped mPos mBegun mSort mValue mFault mWrongAt mPaid_8 mRow mRingMuch mRideSum mOwedSum mAllWays mRode mWays mLanes mSizes mCells mTorn mBefore) [0, 1, 2, 3, 4, 5, 6, 7, 8, 9, 10, 11, 12] [] [0, 1, 2, 3, 4, 5, 6, 7, 8, 9, 10, 11, 12] rfl rfl (by decide) (by decide) (by decide) rfl (by decide) 8 rfl rfl [] rfl hl.1 rfl (Nat.le_of_ble_eq_true rfl) dX8_daysTo_19 ⟨by decide, by decide⟩ (fun H locs (hw : Wd D A s.heap H locs (wX8 k mh mrSt mrNow mrIsKept mrDraft mrTape mrRow mrRode mrWays mrLanes mrSizes mrCells mrBefore mSt mNow_7 mIsKept mPeople mDraft mDPeople mHasDry mToldDebts mHighest mTape mTaped mPos mBegun mSort mValue mFault mWrongAt mPaid_8 mRow mRingMuch mRideSum mOwedSum mAllWays mRode mWays mLanes mSizes mCells mTorn mBefore)) => ?_)
          refine W.eq (g2 := F0 m 22 ls ([])) rfl ?_
          refine lv_iinc (v := v2_1 + 1) (lv' := [(2, .int (v2_1 + 1)), (0, .ref mh), (1, .int p1)]) hx hb dX8_daysTo_22 hl (k := 2) rfl rfl (by decide) rfl (fun ls hl => ?_)
          refine lv_goto (tgt := 2) hx hb dX8_daysTo_25 (by decide) ?_
          exact ih _ _ _ h _ _ _ hw (lv_sub hl [1, 2, 0] rfl)
  exact LP_2 400 0 mNow mPaid hL_2 _ _ _ hw (lv_sub hl [1, 2, 0] rfl)
abbrev rmX8_daysIf : Room := { frames := 5, cells := 0, slots := 0, locals := 114 }
set_option maxHeartbeats 4000000 in
set_option maxRecDepth 100000 in
theorem c_X8_daysIf (l : Launch) (D : va_G) (k : Nat → ClassId) (mh mrSt mrNow mrIsKept mrDraft mrTape mrRow mrRode mrWays mrLanes mrSizes mrCells mrBefore : Nat) (sz : Nat) (mSt : (Nat → Int32)) (mNow : (Nat → Int32)) (mIsKept : (Nat → Int32)) (mPeople : Int32) (mDraft : (Nat → Int32)) (mDPeople : Int32) (mHasDry : Int32) (mToldDebts : Int32) (mHighest : Int32) (mTape : (Nat → Int32)) (mTaped : Int32) (mPos : Int32) (mBegun : Int32) (mSort : Int32) (mValue : Int32) (mFault : Int32) (mWrongAt : Int32) (mPaid : Int32) (mRow : (Nat → Int32)) (mRingMuch : Int32) (mRideSum : Int64) (mOwedSum : Int64) (mAllWays : Int64) (mRode : (Nat → Int32)) (mWays : (Nat → Int32)) (mLanes : (Nat → Int32)) (mSizes : (Nat → Int32)) (mCells : (Nat → Int32)) (mTorn : Int32) (mBefore : (Nat → Int32)) (p1 : Int32) (p2 : Int32) (r_ : Int32) (n_mNow : (Nat → Int32)) (n_mPaid : Int32) (hf : f_X8_daysIf mSt mNow mPeople mPaid p1 p2 = some (r_, n_mNow, n_mPaid)) : mR l yX8_daysIf wsX8_daysIf rmX8_daysIf D k sz [.ref mh, .int p1, .int p2] (wX8 k mh mrSt mrNow mrIsKept mrDraft mrTape mrRow mrRode mrWays mrLanes mrSizes mrCells mrBefore mSt mNow mIsKept mPeople mDraft mDPeople mHasDry mToldDebts mHighest mTape mTaped mPos mBegun mSort mValue mFault mWrongAt mPaid mRow mRingMuch mRideSum mOwedSum mAllWays mRode mWays mLanes mSizes mCells mTorn mBefore) (wX8 k mh mrSt mrNow mrIsKept mrDraft mrTape mrRow mrRode mrWays mrLanes mrSizes mrCells mrBefore mSt n_mNow mIsKept mPeople mDraft mDPeople mHasDry mToldDebts mHighest mTape mTaped mPos mBegun mSort mValue mFault mWrongAt n_mPaid mRow mRingMuch mRideSum mOwedSum mAllWays mRode mWays mLanes mSizes mCells mTorn mBefore) (some (.int r_)) := by
  refine mR_of (cc := cX8_daysIf) (maxL := 3) (ret := some .int) (by decide) rfl (Nat.le_of_ble_eq_true rfl) [(0, .ref mh), (1, .int p1), (2, .int p2)] rfl ?_
  intro p e s m below meth c A ls args Q cx hK hA hw hl hQ
  have fx := cx.1
  obtain ⟨⟨hx, hb, hml, hown, hts⟩, hr, hlocks⟩ := cx
  have hinX8 : ∀ w ∈ wsX80, w ∈ wsX8_daysIf := fun w h => List.mem_cons_of_mem _ (List.mem_append_right _ h)
  have q_1 := hts (.fieldLink RX8 13 "DebtRidesModel" "now" "[I") (List.mem_of_getElem? (i := 1) rfl)
  have h := hf
  unfold f_X8_daysIf at h
  clear hf
  refine lv_aload_n hx hb dX8_daysIf_0 rfl (lv_at hl 0 rfl) ?_
  obtain ⟨mNow_1, hf, h⟩ := b1_inv h
  refine k_callV (host := "") fx hK hA hw (c_X8_starts l D k mh mrSt mrNow mrIsKept mrDraft mrTape mrRow mrRode mrWays mrLanes mrSizes mrCells mrBefore _ mSt mNow mIsKept mPeople mDraft mDPeople mHasDry mToldDebts mHighest mTape mTaped mPos mBegun mSort mValue mFault mWrongAt mPaid mRow mRingMuch mRideSum mOwedSum mAllWays mRode mWays mLanes mSizes mCells mTorn mBefore mNow_1 hf) (cwV 0 hts gX8_daysIf_X8_starts rfl rfl rfl (by decide +kernel) ⟨by decide, by decide⟩) (As := []) (wr := []) (ws' := wX8 k mh mrSt mrNow mrIsKept mrDraft mrTape mrRow mrRode mrWays mrLanes mrSizes mrCells mrBefore mSt mNow_1 mIsKept mPeople mDraft mDPeople mHasDry mToldDebts mHighest mTape mTaped mPos mBegun mSort mValue mFault mWrongAt mPaid mRow mRingMuch mRideSum mOwedSum mAllWays mRode mWays mLanes mSizes mCells mTorn mBefore) [0, 1, 2, 3, 4, 5, 6, 7, 8, 9, 10, 11, 12] [] [0, 1, 2, 3, 4, 5, 6, 7, 8, 9, 10, 11, 12] rfl rfl (by decide) (by decide) (by decide) rfl (by decide) 8 rfl rfl [] rfl hl.1 rfl (Nat.le_of_ble_eq_true rfl) dX8_daysIf_1 ⟨by decide, by decide⟩ (fun H locs (hw : Wd D A s.heap H locs (wX8 k mh mrSt mrNow mrIsKept mrDraft mrTape mrRow mrRode mrWays mrLanes mrSizes mrCells mrBefore mSt mNow_1 mIsKept mPeople mDraft mDPeople mHasDry mToldDebts mHighest mTape mTaped mPos mBegun mSort mValue mFault mWrongAt mPaid mRow mRingMuch mRideSum mOwedSum mAllWays mRode mWays mLanes mSizes mCells mTorn mBefore)) => ?_)
  refine W.eq (g2 := F0 m 4 ls ([])) rfl ?_
  refine lv_aload_n hx hb dX8_daysIf_4 rfl (lv_at hl 0 rfl) ?_
  refine va_get (ci := 8) (v := .ref mrNow) (C := RX8) (T := TX8) (N := 30) hx hb hts hinX8 hown hK.1 hw.1 0 rfl rfl 1 (by decide) q_1 (fun _ h9 => h9) rfl dX8_daysIf_5 ?_
  refine lv_bipush (v := 41) hx hb dX8_daysIf_8 (by decide) ?_
  refine lv_iload_n hx hb dX8_daysIf_10 rfl (lv_at hl 2 rfl) ?_
  refine k_iast hx hb hK hw 2 rfl dX8_daysIf_11 h (fun mNow_2 h H locs (hw : Wd D A s.heap H locs (wX8 k mh mrSt mrNow mrIsKept mrDraft mrTape mrRow mrRode mrWays mrLanes mrSizes mrCells mrBefore mSt mNow_2 mIsKept mPeople mDraft mDPeople mHasDry mToldDebts mHighest mTape mTaped mPos mBegun mSort mValue mFault mWrongAt mPaid mRow mRingMuch mRideSum mOwedSum mAllWays mRode mWays mLanes mSizes mCells mTorn mBefore)) => ?_)
  refine lv_aload_n hx hb dX8_daysIf_12 rfl (lv_at hl 0 rfl) ?_
  refine lv_iload_n hx hb dX8_daysIf_13 rfl (lv_at hl 1 rfl) ?_
  obtain ⟨r_3, mNow_4, mPaid_5, hf, h⟩ := b3_inv h
  refine k_callV (host := "") fx hK hA hw (c_X8_daysTo l D k mh mrSt mrNow mrIsKept mrDraft mrTape mrRow mrRode mrWays mrLanes mrSizes mrCells mrBefore _ mSt mNow_2 mIsKept mPeople mDraft mDPeople mHasDry mToldDebts mHighest mTape mTaped mPos mBegun mSort mValue mFault mWrongAt mPaid mRow mRingMuch mRideSum mOwedSum mAllWays mRode mWays mLanes mSizes mCells mTorn mBefore p1 r_3 mNow_4 mPaid_5 hf) (cwV 1 hts gX8_daysIf_X8_daysTo rfl rfl rfl (by decide +kernel) ⟨by decide, by decide⟩) (As := [.int p1]) (wr := []) (ws' := wX8 k mh mrSt mrNow mrIsKept mrDraft mrTape mrRow mrRode mrWays mrLanes mrSizes mrCells mrBefore mSt mNow_4 mIsKept mPeople mDraft mDPeople mHasDry mToldDebts mHighest mTape mTaped mPos mBegun mSort mValue mFault mWrongAt mPaid_5 mRow mRingMuch mRideSum mOwedSum mAllWays mRode mWays mLanes mSizes mCells mTorn mBefore) [0, 1, 2, 3, 4, 5, 6, 7, 8, 9, 10, 11, 12] [] [0, 1, 2, 3, 4, 5, 6, 7, 8, 9, 10, 11, 12] rfl rfl (by decide) (by decide) (by decide) rfl (by decide) 8 rfl rfl [] rfl hl.1 rfl (Nat.le_of_ble_eq_true rfl) dX8_daysIf_14 ⟨by decide, by decide⟩ (fun H locs (hw : Wd D A s.heap H locs (wX8 k mh mrSt mrNow mrIsKept mrDraft mrTape mrRow mrRode mrWays mrLanes mrSizes mrCells mrBefore mSt mNow_4 mIsKept mPeople mDraft mDPeople mHasDry mToldDebts mHighest mTape mTaped mPos mBegun mSort mValue mFault mWrongAt mPaid_5 mRow mRingMuch mRideSum mOwedSum mAllWays mRode mWays mLanes mSizes mCells mTorn mBefore)) => ?_)
  refine W.eq (g2 := F0 m 17 ls ([.int r_3])) rfl ?_
  cases h
  exact k_iret hx hb hr hlocks hw rfl dX8_daysIf_17 hQ
abbrev rmX8_lendsNow : Room := { frames := 2, cells := 0, slots := 0, locals := 45 }
set_option maxHeartbeats 4000000 in
set_option maxRecDepth 100000 in
theorem c_X8_lendsNow (l : Launch) (D : va_G) (k : Nat → ClassId) (mh mrSt mrNow mrIsKept mrDraft mrTape mrRow mrRode mrWays mrLanes mrSizes mrCells mrBefore : Nat) (sz : Nat) (mSt : (Nat → Int32)) (mNow : (Nat → Int32)) (mIsKept : (Nat → Int32)) (mPeople : Int32) (mDraft : (Nat → Int32)) (mDPeople : Int32) (mHasDry : Int32) (mToldDebts : Int32) (mHighest : Int32) (mTape : (Nat → Int32)) (mTaped : Int32) (mPos : Int32) (mBegun : Int32) (mSort : Int32) (mValue : Int32) (mFault : Int32) (mWrongAt : Int32) (mPaid : Int32) (mRow : (Nat → Int32)) (mRingMuch : Int32) (mRideSum : Int64) (mOwedSum : Int64) (mAllWays : Int64) (mRode : (Nat → Int32)) (mWays : (Nat → Int32)) (mLanes : (Nat → Int32)) (mSizes : (Nat → Int32)) (mCells : (Nat → Int32)) (mTorn : Int32) (mBefore : (Nat → Int32)) (p1 : Int32) (p2 : Int32) (p3 : Int32) (r_ : Int32) (n_mNow : (Nat → Int32)) (hf : f_X8_lendsNow mNow p1 p2 p3 = some (r_, n_mNow)) : mR l yX8_lendsNow wsX8_lendsNow rmX8_lendsNow D k sz [.ref mh, .int p1, .int p2, .int p3] (wX8 k mh mrSt mrNow mrIsKept mrDraft mrTape mrRow mrRode mrWays mrLanes mrSizes mrCells mrBefore mSt mNow mIsKept mPeople mDraft mDPeople mHasDry mToldDebts mHighest mTape mTaped mPos mBegun mSort mValue mFault mWrongAt mPaid mRow mRingMuch mRideSum mOwedSum mAllWays mRode mWays mLanes mSizes mCells mTorn mBefore) (wX8 k mh mrSt mrNow mrIsKept mrDraft mrTape mrRow mrRode mrWays mrLanes mrSizes mrCells mrBefore mSt n_mNow mIsKept mPeople mDraft mDPeople mHasDry mToldDebts mHighest mTape mTaped mPos mBegun mSort mValue mFault mWrongAt mPaid mRow mRingMuch mRideSum mOwedSum mAllWays mRode mWays mLanes mSizes mCells mTorn mBefore) (some (.int r_)) := by
  refine mR_of (cc := cX8_lendsNow) (maxL := 5) (ret := some .boolean) (by decide) rfl (Nat.le_of_ble_eq_true rfl) [(0, .ref mh), (1, .int p1), (2, .int p2), (3, .int p3)] rfl ?_
  intro p e s m below meth c A ls args Q cx hK hA hw hl hQ
  have fx := cx.1
  obtain ⟨⟨hx, hb, hml, hown, hts⟩, hr, hlocks⟩ := cx
  have hinX8 : ∀ w ∈ wsX80, w ∈ wsX8_lendsNow := fun w h => List.mem_cons_of_mem _ (List.mem_append_right _ h)
  have q_1 := hts (.fieldLink RX8 13 "DebtRidesModel" "now" "[I") (List.mem_of_getElem? (i := 1) rfl)
  have h := hf
  unfold f_X8_lendsNow at h
  clear hf
  refine lv_iload_n hx hb dX8_lendsNow_0 rfl (lv_at hl 1 rfl) ?_
  refine lv_iload_n hx hb dX8_lendsNow_1 rfl (lv_at hl 2 rfl) ?_
  obtain ⟨t_1, hj_2, h⟩ := b1_inv h
  have J_2 : ∀ (H : Heap) (locs : List Loc) (ls : Array Slot), Wd D A s.heap H locs (wX8 k mh mrSt mrNow mrIsKept mrDraft mrTape mrRow mrRode mrWays mrLanes mrSizes mrCells mrBefore mSt mNow mIsKept mPeople mDraft mDPeople mHasDry mToldDebts mHighest mTape mTaped mPos mBegun mSort mValue mFault mWrongAt mPaid mRow mRingMuch mRideSum mOwedSum mAllWays mRode mWays mLanes mSizes mCells mTorn mBefore) → lv_has ls 5 [(0, .ref mh), (1, .int p1), (2, .int p2), (3, .int p3)] → W p l e rmX8_lendsNow s m args below meth c H locs 0 0 Q (F0 m 47 ls [.int t_1]) := by
    intro H locs ls hw hl
    refine lv_istore (lv' := [(4, .int t_1), (0, .ref mh), (1, .int p1), (2, .int p2), (3, .int p3)]) hx hb dX8_lendsNow_47 hl (by decide) rfl (fun ls hl => ?_)
    refine lv_iload hx hb dX8_lendsNow_49 (lv_at hl 0 rfl) ?_
    refine kb_if_eq (tgt := 91) hx hb dX8_lendsNow_51 (by decide) h (fun c_51 h => ?_) (fun c_51 h => ?_)
    · refine lv_iload hx hb dX8_lendsNow_91 (lv_at hl 0 rfl) ?_
      obtain ⟨z_5, hz, h⟩ := b1_inv h
      obtain ⟨hz1, hz2⟩ := bz_inv hz
      refine k_lit hz1.symm ?_
      rw [← hz1] at hz2
      cases h
      exact k_zret hx hb hr hlocks hw hz2 rfl dX8_lendsNow_93 hQ
    · refine lv_aload_n hx hb dX8_lendsNow_54 rfl (lv_at hl 1 rfl) ?_
      refine va_get (ci := 8) (v := .ref mrNow) (C := RX8) (T := TX8) (N := 30) hx hb hts hinX8 hown hK.1 hw.1 0 rfl rfl 1 (by decide) q_1 (fun _ h9 => h9) rfl dX8_lendsNow_55 ?_
      refine lv_bipush (v := 15) hx hb dX8_lendsNow_58 (by decide) ?_
      refine lv_iconst (v := 5) hx hb dX8_lendsNow_60 (by decide) ?_
      refine lv_iload_n hx hb dX8_lendsNow_61 rfl (lv_at hl 3 rfl) ?_
      refine lv_imul hx hb dX8_lendsNow_62 ?_
      refine lv_iadd hx hb dX8_lendsNow_63 ?_
      refine lv_iload_n hx hb dX8_lendsNow_64 rfl (lv_at hl 2 rfl) ?_
      refine lv_iadd hx hb dX8_lendsNow_65 ?_
      refine lv_dup2_11 hx hb dX8_lendsNow_66 rfl rfl ?_
      refine k_iald hx hb hK hw 2 rfl dX8_lendsNow_67 h (fun a_6 h => ?_)
      refine lv_iload_n hx hb dX8_lendsNow_68 rfl (lv_at hl 4 rfl) ?_
      refine lv_iadd hx hb dX8_lendsNow_69 ?_
      refine k_iast hx hb hK hw 2 rfl dX8_lendsNow_70 h (fun mNow_7 h H locs (hw : Wd D A s.heap H locs (wX8 k mh mrSt mrNow mrIsKept mrDraft mrTape mrRow mrRode mrWays mrLanes mrSizes mrCells mrBefore mSt mNow_7 mIsKept mPeople mDraft mDPeople mHasDry mToldDebts mHighest mTape mTaped mPos mBegun mSort mValue mFault mWrongAt mPaid mRow mRingMuch mRideSum mOwedSum mAllWays mRode mWays mLanes mSizes mCells mTorn mBefore)) => ?_)
      refine lv_aload_n hx hb dX8_lendsNow_71 rfl (lv_at hl 1 rfl) ?_
      refine lv_iload_n hx hb dX8_lendsNow_72 rfl (lv_at hl 2 rfl) ?_
      refine lv_iconst (v := 1) hx hb dX8_lendsNow_73 (by decide) ?_
      refine lv_aload_n hx hb dX8_lendsNow_74 rfl (lv_at hl 1 rfl) ?_
      refine lv_iload_n hx hb dX8_lendsNow_75 rfl (lv_at hl 2 rfl) ?_
      refine lv_iconst (v := 1) hx hb dX8_lendsNow_76 (by decide) ?_
      obtain ⟨r_8, hf, h⟩ := b1_inv h
      refine k_callV (host := "") fx hK hA hw (c_X8_of l D k mh mrSt mrNow mrIsKept mrDraft mrTape mrRow mrRode mrWays mrLanes mrSizes mrCells mrBefore _ mSt mNow_7 mIsKept mPeople mDraft mDPeople mHasDry mToldDebts mHighest mTape mTaped mPos mBegun mSort mValue mFault mWrongAt mPaid mRow mRingMuch mRideSum mOwedSum mAllWays mRode mWays mLanes mSizes mCells mTorn mBefore p1 1 r_8 hf) (cwV 2 hts gX8_lendsNow_X8_of rfl rfl rfl (by decide +kernel) ⟨by decide, by decide⟩) (As := [.int p1, .int 1]) (wr := []) (ws' := wX8 k mh mrSt mrNow mrIsKept mrDraft mrTape mrRow mrRode mrWays mrLanes mrSizes mrCells mrBefore mSt mNow_7 mIsKept mPeople mDraft mDPeople mHasDry mToldDebts mHighest mTape mTaped mPos mBegun mSort mValue mFault mWrongAt mPaid mRow mRingMuch mRideSum mOwedSum mAllWays mRode mWays mLanes mSizes mCells mTorn mBefore) [0, 1, 2, 3, 4, 5, 6, 7, 8, 9, 10, 11, 12] [] [0, 1, 2, 3, 4, 5, 6, 7, 8, 9, 10, 11, 12] rfl rfl (by decide) (by decide) (by decide) rfl (by decide) 8 rfl rfl [.int 1, .int p1, .ref mh] rfl hl.1 rfl (Nat.le_of_ble_eq_true rfl) dX8_lendsNow_77 ⟨by decide, by decide⟩ (fun H locs (hw : Wd D A s.heap H locs (wX8 k mh mrSt mrNow mrIsKept mrDraft mrTape mrRow mrRode mrWays mrLanes mrSizes mrCells mrBefore mSt mNow_7 mIsKept mPeople mDraft mDPeople mHasDry mToldDebts mHighest mTape mTaped mPos mBegun mSort mValue mFault mWrongAt mPaid mRow mRingMuch mRideSum mOwedSum mAllWays mRode mWays mLanes mSizes mCells mTorn mBefore)) => ?_)
      refine W.eq (g2 := F0 m 80 ls ([.int r_8, .int 1, .int p1, .ref mh])) rfl ?_
      refine lv_iload_n hx hb dX8_lendsNow_80 rfl (lv_at hl 4 rfl) ?_
      refine lv_isub hx hb dX8_lendsNow_81 ?_
      obtain ⟨mNow_9, hf, h⟩ := b1_inv h
      refine k_callV (host := "") fx hK hA hw (c_X8_becomesOf l D k mh mrSt mrNow mrIsKept mrDraft mrTape mrRow mrRode mrWays mrLanes mrSizes mrCells mrBefore _ mSt mNow_7 mIsKept mPeople mDraft mDPeople mHasDry mToldDebts mHighest mTape mTaped mPos mBegun mSort mValue mFault mWrongAt mPaid mRow mRingMuch mRideSum mOwedSum mAllWays mRode mWays mLanes mSizes mCells mTorn mBefore p1 1 (r_8 - p3) mNow_9 hf) (cwV 3 hts gX8_lendsNow_X8_becomesOf rfl rfl rfl (by decide +kernel) ⟨by decide, by decide⟩) (As := [.int p1, .int 1, .int (r_8 - p3)]) (wr := []) (ws' := wX8 k mh mrSt mrNow mrIsKept mrDraft mrTape mrRow mrRode mrWays mrLanes mrSizes mrCells mrBefore mSt mNow_9 mIsKept mPeople mDraft mDPeople mHasDry mToldDebts mHighest mTape mTaped mPos mBegun mSort mValue mFault mWrongAt mPaid mRow mRingMuch mRideSum mOwedSum mAllWays mRode mWays mLanes mSizes mCells mTorn mBefore) [0, 1, 2, 3, 4, 5, 6, 7, 8, 9, 10, 11, 12] [] [0, 1, 2, 3, 4, 5, 6, 7, 8, 9, 10, 11, 12] rfl rfl (by decide) (by decide) (by decide) rfl (by decide) 8 rfl rfl [] rfl hl.1 rfl (Nat.le_of_ble_eq_true rfl) dX8_lendsNow_82 ⟨by decide, by decide⟩ (fun H locs (hw : Wd D A s.heap H locs (wX8 k mh mrSt mrNow mrIsKept mrDraft mrTape mrRow mrRode mrWays mrLanes mrSizes mrCells mrBefore mSt mNow_9 mIsKept mPeople mDraft mDPeople mHasDry mToldDebts mHighest mTape mTaped mPos mBegun mSort mValue mFault mWrongAt mPaid mRow mRingMuch mRideSum mOwedSum mAllWays mRode mWays mLanes mSizes mCells mTorn mBefore)) => ?_)
      refine W.eq (g2 := F0 m 85 ls ([])) rfl ?_
      refine lv_aload_n hx hb dX8_lendsNow_85 rfl (lv_at hl 1 rfl) ?_
      refine lv_iload_n hx hb dX8_lendsNow_86 rfl (lv_at hl 3 rfl) ?_
      refine lv_iload_n hx hb dX8_lendsNow_87 rfl (lv_at hl 4 rfl) ?_
      obtain ⟨mNow_10, hf, h⟩ := b1_inv h
      refine k_callV (host := "") fx hK hA hw (c_X8_gets l D k mh mrSt mrNow mrIsKept mrDraft mrTape mrRow mrRode mrWays mrLanes mrSizes mrCells mrBefore _ mSt mNow_9 mIsKept mPeople mDraft mDPeople mHasDry mToldDebts mHighest mTape mTaped mPos mBegun mSort mValue mFault mWrongAt mPaid mRow mRingMuch mRideSum mOwedSum mAllWays mRode mWays mLanes mSizes mCells mTorn mBefore p2 p3 mNow_10 hf) (cwV 2 hts gX8_lendsNow_X8_gets rfl rfl rfl (by decide +kernel) ⟨by decide, by decide⟩) (As := [.int p2, .int p3]) (wr := []) (ws' := wX8 k mh mrSt mrNow mrIsKept mrDraft mrTape mrRow mrRode mrWays mrLanes mrSizes mrCells mrBefore mSt mNow_10 mIsKept mPeople mDraft mDPeople mHasDry mToldDebts mHighest mTape mTaped mPos mBegun mSort mValue mFault mWrongAt mPaid mRow mRingMuch mRideSum mOwedSum mAllWays mRode mWays mLanes mSizes mCells mTorn mBefore) [0, 1, 2, 3, 4, 5, 6, 7, 8, 9, 10, 11, 12] [] [0, 1, 2, 3, 4, 5, 6, 7, 8, 9, 10, 11, 12] rfl rfl (by decide) (by decide) (by decide) rfl (by decide) 8 rfl rfl [] rfl hl.1 rfl (Nat.le_of_ble_eq_true rfl) dX8_lendsNow_88 ⟨by decide, by decide⟩ (fun H locs (hw : Wd D A s.heap H locs (wX8 k mh mrSt mrNow mrIsKept mrDraft mrTape mrRow mrRode mrWays mrLanes mrSizes mrCells mrBefore mSt mNow_10 mIsKept mPeople mDraft mDPeople mHasDry mToldDebts mHighest mTape mTaped mPos mBegun mSort mValue mFault mWrongAt mPaid mRow mRingMuch mRideSum mOwedSum mAllWays mRode mWays mLanes mSizes mCells mTorn mBefore)) => ?_)
      refine W.eq (g2 := F0 m 91 ls ([])) rfl ?_
      refine lv_iload hx hb dX8_lendsNow_91 (lv_at hl 0 rfl) ?_
      obtain ⟨z_11, hz, h⟩ := b1_inv h
      obtain ⟨hz1, hz2⟩ := bz_inv hz
      refine k_lit hz1.symm ?_
      rw [← hz1] at hz2
      cases h
      exact k_zret hx hb hr hlocks hw hz2 rfl dX8_lendsNow_93 hQ
  clear h
  have h := hj_2
  refine kb_icmp_eq (tgt := 46) hx hb dX8_lendsNow_2 (by decide) h (fun c_2 h => ?_) (fun c_2 h => ?_)
  · refine lv_iconst (v := 0) hx hb dX8_lendsNow_46 (by decide) ?_
    cases h
    exact J_2 _ _ _ hw (lv_sub hl [0, 1, 2, 3] rfl)
  · refine lv_aload_n hx hb dX8_lendsNow_5 rfl (lv_at hl 0 rfl) ?_
    refine lv_iload_n hx hb dX8_lendsNow_6 rfl (lv_at hl 1 rfl) ?_
    refine lv_iconst (v := 1) hx hb dX8_lendsNow_7 (by decide) ?_
    obtain ⟨r_2, hf, h⟩ := b1_inv h
    refine k_callV (host := "") fx hK hA hw (c_X8_of l D k mh mrSt mrNow mrIsKept mrDraft mrTape mrRow mrRode mrWays mrLanes mrSizes mrCells mrBefore _ mSt mNow mIsKept mPeople mDraft mDPeople mHasDry mToldDebts mHighest mTape mTaped mPos mBegun mSort mValue mFault mWrongAt mPaid mRow mRingMuch mRideSum mOwedSum mAllWays mRode mWays mLanes mSizes mCells mTorn mBefore p1 1 r_2 hf) (cwV 2 hts gX8_lendsNow_X8_of rfl rfl rfl (by decide +kernel) ⟨by decide, by decide⟩) (As := [.int p1, .int 1]) (wr := []) (ws' := wX8 k mh mrSt mrNow mrIsKept mrDraft mrTape mrRow mrRode mrWays mrLanes mrSizes mrCells mrBefore mSt mNow mIsKept mPeople mDraft mDPeople mHasDry mToldDebts mHighest mTape mTaped mPos mBegun mSort mValue mFault mWrongAt mPaid mRow mRingMuch mRideSum mOwedSum mAllWays mRode mWays mLanes mSizes mCells mTorn mBefore) [0, 1, 2, 3, 4, 5, 6, 7, 8, 9, 10, 11, 12] [] [0, 1, 2, 3, 4, 5, 6, 7, 8, 9, 10, 11, 12] rfl rfl (by decide) (by decide) (by decide) rfl (by decide) 8 rfl rfl [] rfl hl.1 rfl (Nat.le_of_ble_eq_true rfl) dX8_lendsNow_8 ⟨by decide, by decide⟩ (fun H locs (hw : Wd D A s.heap H locs (wX8 k mh mrSt mrNow mrIsKept mrDraft mrTape mrRow mrRode mrWays mrLanes mrSizes mrCells mrBefore mSt mNow mIsKept mPeople mDraft mDPeople mHasDry mToldDebts mHighest mTape mTaped mPos mBegun mSort mValue mFault mWrongAt mPaid mRow mRingMuch mRideSum mOwedSum mAllWays mRode mWays mLanes mSizes mCells mTorn mBefore)) => ?_)
    refine W.eq (g2 := F0 m 11 ls ([.int r_2])) rfl ?_
    refine lv_iload_n hx hb dX8_lendsNow_11 rfl (lv_at hl 3 rfl) ?_
    refine kb_icmp_lt (tgt := 46) hx hb dX8_lendsNow_12 (by decide) h (fun c_12 h => ?_) (fun c_12 h => ?_)
    · refine lv_iconst (v := 0) hx hb dX8_lendsNow_46 (by decide) ?_
      cases h
      exact J_2 _ _ _ hw (lv_sub hl [0, 1, 2, 3] rfl)
    · refine lv_aload_n hx hb dX8_lendsNow_15 rfl (lv_at hl 0 rfl) ?_
      refine lv_iload_n hx hb dX8_lendsNow_16 rfl (lv_at hl 2 rfl) ?_
      refine lv_iload_n hx hb dX8_lendsNow_17 rfl (lv_at hl 1 rfl) ?_
      obtain ⟨r_3, hf, h⟩ := b1_inv h
      refine k_callV (host := "") fx hK hA hw (c_X8_debt l D k mh mrSt mrNow mrIsKept mrDraft mrTape mrRow mrRode mrWays mrLanes mrSizes mrCells mrBefore _ mSt mNow mIsKept mPeople mDraft mDPeople mHasDry mToldDebts mHighest mTape mTaped mPos mBegun mSort mValue mFault mWrongAt mPaid mRow mRingMuch mRideSum mOwedSum mAllWays mRode mWays mLanes mSizes mCells mTorn mBefore p2 p1 r_3 hf) (cwV 2 hts gX8_lendsNow_X8_debt rfl rfl rfl (by decide +kernel) ⟨by decide, by decide⟩) (As := [.int p2, .int p1]) (wr := []) (ws' := wX8 k mh mrSt mrNow mrIsKept mrDraft mrTape mrRow mrRode mrWays mrLanes mrSizes mrCells mrBefore mSt mNow mIsKept mPeople mDraft mDPeople mHasDry mToldDebts mHighest mTape mTaped mPos mBegun mSort mValue mFault mWrongAt mPaid mRow mRingMuch mRideSum mOwedSum mAllWays mRode mWays mLanes mSizes mCells mTorn mBefore) [0, 1, 2, 3, 4, 5, 6, 7, 8, 9, 10, 11, 12] [] [0, 1, 2, 3, 4, 5, 6, 7, 8, 9, 10, 11, 12] rfl rfl (by decide) (by decide) (by decide) rfl (by decide) 8 rfl rfl [] rfl hl.1 rfl (Nat.le_of_ble_eq_true rfl) dX8_lendsNow_18 ⟨by decide, by decide⟩ (fun H locs (hw : Wd D A s.heap H locs (wX8 k mh mrSt mrNow mrIsKept mrDraft mrTape mrRow mrRode mrWays mrLanes mrSizes mrCells mrBefore mSt mNow mIsKept mPeople mDraft mDPeople mHasDry mToldDebts mHighest mTape mTaped mPos mBegun mSort mValue mFault mWrongAt mPaid mRow mRingMuch mRideSum mOwedSum mAllWays mRode mWays mLanes mSizes mCells mTorn mBefore)) => ?_)
      refine W.eq (g2 := F0 m 21 ls ([.int r_3])) rfl ?_
      refine lv_iload_n hx hb dX8_lendsNow_21 rfl (lv_at hl 3 rfl) ?_
      refine lv_iadd hx hb dX8_lendsNow_22 ?_
      refine lv_bipush (v := 99) hx hb dX8_lendsNow_23 (by decide) ?_
      refine kb_icmp_gt (tgt := 46) hx hb dX8_lendsNow_25 (by decide) h (fun c_25 h => ?_) (fun c_25 h => ?_)
      · refine lv_iconst (v := 0) hx hb dX8_lendsNow_46 (by decide) ?_
        cases h
        exact J_2 _ _ _ hw (lv_sub hl [0, 1, 2, 3] rfl)
      · refine lv_aload_n hx hb dX8_lendsNow_28 rfl (lv_at hl 0 rfl) ?_
        refine lv_iload_n hx hb dX8_lendsNow_29 rfl (lv_at hl 2 rfl) ?_
        refine lv_iconst (v := 1) hx hb dX8_lendsNow_30 (by decide) ?_
        obtain ⟨r_4, hf, h⟩ := b1_inv h
        refine k_callV (host := "") fx hK hA hw (c_X8_of l D k mh mrSt mrNow mrIsKept mrDraft mrTape mrRow mrRode mrWays mrLanes mrSizes mrCells mrBefore _ mSt mNow mIsKept mPeople mDraft mDPeople mHasDry mToldDebts mHighest mTape mTaped mPos mBegun mSort mValue mFault mWrongAt mPaid mRow mRingMuch mRideSum mOwedSum mAllWays mRode mWays mLanes mSizes mCells mTorn mBefore p2 1 r_4 hf) (cwV 2 hts gX8_lendsNow_X8_of rfl rfl rfl (by decide +kernel) ⟨by decide, by decide⟩) (As := [.int p2, .int 1]) (wr := []) (ws' := wX8 k mh mrSt mrNow mrIsKept mrDraft mrTape mrRow mrRode mrWays mrLanes mrSizes mrCells mrBefore mSt mNow mIsKept mPeople mDraft mDPeople mHasDry mToldDebts mHighest mTape mTaped mPos mBegun mSort mValue mFault mWrongAt mPaid mRow mRingMuch mRideSum mOwedSum mAllWays mRode mWays mLanes mSizes mCells mTorn mBefore) [0, 1, 2, 3, 4, 5, 6, 7, 8, 9, 10, 11, 12] [] [0, 1, 2, 3, 4, 5, 6, 7, 8, 9, 10, 11, 12] rfl rfl (by decide) (by decide) (by decide) rfl (by decide) 8 rfl rfl [] rfl hl.1 rfl (Nat.le_of_ble_eq_true rfl) dX8_lendsNow_31 ⟨by decide, by decide⟩ (fun H locs (hw : Wd D A s.heap H locs (wX8 k mh mrSt mrNow mrIsKept mrDraft mrTape mrRow mrRode mrWays mrLanes mrSizes mrCells mrBefore mSt mNow mIsKept mPeople mDraft mDPeople mHasDry mToldDebts mHighest mTape mTaped mPos mBegun mSort mValue mFault mWrongAt mPaid mRow mRingMuch mRideSum mOwedSum mAllWays mRode mWays mLanes mSizes mCells mTorn mBefore)) => ?_)
        refine W.eq (g2 := F0 m 34 ls ([.int r_4])) rfl ?_
        refine lv_iload_n hx hb dX8_lendsNow_34 rfl (lv_at hl 3 rfl) ?_
        refine lv_iadd hx hb dX8_lendsNow_35 ?_
        refine lv_sipush (v := 999) hx hb dX8_lendsNow_36 (by decide) ?_
        refine kb_icmp_gt (tgt := 46) hx hb dX8_lendsNow_39 (by decide) h (fun c_39 h => ?_) (fun c_39 h => ?_)
        · refine lv_iconst (v := 0) hx hb dX8_lendsNow_46 (by decide) ?_
          cases h
          exact J_2 _ _ _ hw (lv_sub hl [0, 1, 2, 3] rfl)
        · refine lv_iconst (v := 1) hx hb dX8_lendsNow_42 (by decide) ?_
          refine lv_goto (tgt := 47) hx hb dX8_lendsNow_43 (by decide) ?_
          cases h
          exact J_2 _ _ _ hw (lv_sub hl [0, 1, 2, 3] rfl)
abbrev rmX8_drift : Room := { frames := 4, cells := 0, slots := 0, locals := 92 }
set_option maxHeartbeats 4000000 in
set_option maxRecDepth 100000 in
theorem c_X8_drift (l : Launch) (D : va_G) (k : Nat → ClassId) (mh mrSt mrNow mrIsKept mrDraft mrTape mrRow mrRode mrWays mrLanes mrSizes mrCells mrBefore : Nat) (sz : Nat) (mSt : (Nat → Int32)) (mNow : (Nat → Int32)) (mIsKept : (Nat → Int32)) (mPeople : Int32) (mDraft : (Nat → Int32)) (mDPeople : Int32) (mHasDry : Int32) (mToldDebts : Int32) (mHighest : Int32) (mTape : (Nat → Int32)) (mTaped : Int32) (mPos : Int32) (mBegun : Int32) (mSort : Int32) (mValue : Int32) (mFault : Int32) (mWrongAt : Int32) (mPaid : Int32) (mRow : (Nat → Int32)) (mRingMuch : Int32) (mRideSum : Int64) (mOwedSum : Int64) (mAllWays : Int64) (mRode : (Nat → Int32)) (mWays : (Nat → Int32)) (mLanes : (Nat → Int32)) (mSizes : (Nat → Int32)) (mCells : (Nat → Int32)) (mTorn : Int32) (mBefore : (Nat → Int32)) (p1 : Int32) (p2 : Int32) (p3 : Int32) (r_ : Int32) (n_mNow : (Nat → Int32)) (n_mPaid : Int32) (hf : f_X8_drift mSt mNow mPeople mPaid p1 p2 p3 = some (r_, n_mNow, n_mPaid)) : mR l yX8_drift wsX8_drift rmX8_drift D k sz [.ref mh, .int p1, .int p2, .int p3] (wX8 k mh mrSt mrNow mrIsKept mrDraft mrTape mrRow mrRode mrWays mrLanes mrSizes mrCells mrBefore mSt mNow mIsKept mPeople mDraft mDPeople mHasDry mToldDebts mHighest mTape mTaped mPos mBegun mSort mValue mFault mWrongAt mPaid mRow mRingMuch mRideSum mOwedSum mAllWays mRode mWays mLanes mSizes mCells mTorn mBefore) (wX8 k mh mrSt mrNow mrIsKept mrDraft mrTape mrRow mrRode mrWays mrLanes mrSizes mrCells mrBefore mSt n_mNow mIsKept mPeople mDraft mDPeople mHasDry mToldDebts mHighest mTape mTaped mPos mBegun mSort mValue mFault mWrongAt n_mPaid mRow mRingMuch mRideSum mOwedSum mAllWays mRode mWays mLanes mSizes mCells mTorn mBefore) (some (.int r_)) := by
  refine mR_of (cc := cX8_drift) (maxL := 7) (ret := some .int) (by decide) rfl (Nat.le_of_ble_eq_true rfl) [(0, .ref mh), (1, .int p1), (2, .int p2), (3, .int p3)] rfl ?_
  intro p e s m below meth c A ls args Q cx hK hA hw hl hQ
  have fx := cx.1
  obtain ⟨⟨hx, hb, hml, hown, hts⟩, hr, hlocks⟩ := cx
  have hinX8 : ∀ w ∈ wsX80, w ∈ wsX8_drift := fun w h => List.mem_cons_of_mem _ (List.mem_append_right _ h)
  have q_1 := hts (.constantLong RX8 229 (60)) (List.mem_of_getElem? (i := 1) rfl)
  have q_2 := hts (.fieldLink RX8 67 "DebtRidesModel" "people" "I") (List.mem_of_getElem? (i := 2) rfl)
  have q_3 := hts (.constant RX8 299 (1103515245)) (List.mem_of_getElem? (i := 3) rfl)
  have h := hf
  unfold f_X8_drift at h
  clear hf
  refine lv_iload_n hx hb dX8_drift_0 rfl (lv_at hl 2 rfl) ?_
  refine lv_i2l hx hb dX8_drift_1 rfl ?_
  refine lv_lconst (v := 1) hx hb dX8_drift_2 rfl ?_
  refine lv_ldc2 (v := 60) hx hb hown q_1 dX8_drift_3 ?_
  obtain ⟨r_1, hf, h⟩ := b1_inv h
  refine k_callS (b := 0) (C := "") (host := "") fx hK hA hw (c_X8_in l D k _ p2.toInt64 1 60 r_1 hf) (va_cwS 3 hts gX8_drift_X8_in rfl rfl rfl (by decide +kernel) ⟨by decide, by decide⟩) (As := [.long p2.toInt64, .long 1, .long 60]) (wr := [(mh, .inr (8, [.ref mrSt, .ref mrNow, .ref mrIsKept, .int mPeople, .ref mrDraft, .int mDPeople, .int mHasDry, .int mToldDebts, .int mHighest, .ref mrTape, .int mTaped, .int mPos, .int mBegun, .int mSort, .int mValue, .int mFault, .int mWrongAt, .int mPaid, .ref mrRow, .int mRingMuch, .long mRideSum, .long mOwedSum, .long mAllWays, .ref mrRode, .ref mrWays, .ref mrLanes, .ref mrSizes, .ref mrCells, .int mTorn, .ref mrBefore])), (mrSt, .inl (k 0, 183, .inl mSt)), (mrNow, .inl (k 0, 61, .inl mNow)), (mrIsKept, .inl (k 1, 2, .inl mIsKept)), (mrDraft, .inl (k 0, 61, .inl mDraft)), (mrTape, .inl (k 0, 160, .inl mTape)), (mrRow, .inl (k 0, 5, .inl mRow)), (mrRode, .inl (k 0, 31, .inl mRode)), (mrWays, .inl (k 0, 31, .inl mWays)), (mrLanes, .inl (k 0, 4, .inl mLanes)), (mrSizes, .inl (k 0, 4, .inl mSizes)), (mrCells, .inl (k 0, 160, .inl mCells)), (mrBefore, .inl (k 0, 61, .inl mBefore))]) (ws' := wX8 k mh mrSt mrNow mrIsKept mrDraft mrTape mrRow mrRode mrWays mrLanes mrSizes mrCells mrBefore mSt mNow mIsKept mPeople mDraft mDPeople mHasDry mToldDebts mHighest mTape mTaped mPos mBegun mSort mValue mFault mWrongAt mPaid mRow mRingMuch mRideSum mOwedSum mAllWays mRode mWays mLanes mSizes mCells mTorn mBefore) [] [0, 1, 2, 3, 4, 5, 6, 7, 8, 9, 10, 11, 12] [0, 1, 2, 3, 4, 5, 6, 7, 8, 9, 10, 11, 12] rfl rfl (by decide) (by decide) (by decide) rfl (by decide) [] rfl hl.1 rfl (Nat.le_of_ble_eq_true rfl) dX8_drift_6 ⟨by decide, by decide⟩ (fun H locs (hw : Wd D A s.heap H locs (wX8 k mh mrSt mrNow mrIsKept mrDraft mrTape mrRow mrRode mrWays mrLanes mrSizes mrCells mrBefore mSt mNow mIsKept mPeople mDraft mDPeople mHasDry mToldDebts mHighest mTape mTaped mPos mBegun mSort mValue mFault mWrongAt mPaid mRow mRingMuch mRideSum mOwedSum mAllWays mRode mWays mLanes mSizes mCells mTorn mBefore)) => ?_)
  refine W.eq (g2 := F0 m 9 ls ([.int r_1])) rfl ?_
  refine kb_if_eq (tgt := 19) hx hb dX8_drift_9 (by decide) h (fun c_9 h => ?_) (fun c_9 h => ?_)
  · refine lv_iconst (v := (-1)) hx hb dX8_drift_19 (by decide) ?_
    cases h
    exact k_iret hx hb hr hlocks hw rfl dX8_drift_20 hQ
  · refine lv_iload_n hx hb dX8_drift_12 rfl (lv_at hl 3 rfl) ?_
    obtain ⟨r_2, hf, h⟩ := b1_inv h
    refine k_callS (b := 0) (C := "") (host := "") fx hK hA hw (c_X8_isPart l D k _ p3 r_2 hf) (va_cwS 1 hts gX8_drift_X8_isPart rfl rfl rfl (by decide +kernel) ⟨by decide, by decide⟩) (As := [.int p3]) (wr := [(mh, .inr (8, [.ref mrSt, .ref mrNow, .ref mrIsKept, .int mPeople, .ref mrDraft, .int mDPeople, .int mHasDry, .int mToldDebts, .int mHighest, .ref mrTape, .int mTaped, .int mPos, .int mBegun, .int mSort, .int mValue, .int mFault, .int mWrongAt, .int mPaid, .ref mrRow, .int mRingMuch, .long mRideSum, .long mOwedSum, .long mAllWays, .ref mrRode, .ref mrWays, .ref mrLanes, .ref mrSizes, .ref mrCells, .int mTorn, .ref mrBefore])), (mrSt, .inl (k 0, 183, .inl mSt)), (mrNow, .inl (k 0, 61, .inl mNow)), (mrIsKept, .inl (k 1, 2, .inl mIsKept)), (mrDraft, .inl (k 0, 61, .inl mDraft)), (mrTape, .inl (k 0, 160, .inl mTape)), (mrRow, .inl (k 0, 5, .inl mRow)), (mrRode, .inl (k 0, 31, .inl mRode)), (mrWays, .inl (k 0, 31, .inl mWays)), (mrLanes, .inl (k 0, 4, .inl mLanes)), (mrSizes, .inl (k 0, 4, .inl mSizes)), (mrCells, .inl (k 0, 160, .inl mCells)), (mrBefore, .inl (k 0, 61, .inl mBefore))]) (ws' := wX8 k mh mrSt mrNow mrIsKept mrDraft mrTape mrRow mrRode mrWays mrLanes mrSizes mrCells mrBefore mSt mNow mIsKept mPeople mDraft mDPeople mHasDry mToldDebts mHighest mTape mTaped mPos mBegun mSort mValue mFault mWrongAt mPaid mRow mRingMuch mRideSum mOwedSum mAllWays mRode mWays mLanes mSizes mCells mTorn mBefore) [] [0, 1, 2, 3, 4, 5, 6, 7, 8, 9, 10, 11, 12] [0, 1, 2, 3, 4, 5, 6, 7, 8, 9, 10, 11, 12] rfl rfl (by decide) (by decide) (by decide) rfl (by decide) [] rfl hl.1 rfl (Nat.le_of_ble_eq_true rfl) dX8_drift_13 ⟨by decide, by decide⟩ (fun H locs (hw : Wd D A s.heap H locs (wX8 k mh mrSt mrNow mrIsKept mrDraft mrTape mrRow mrRode mrWays mrLanes mrSizes mrCells mrBefore mSt mNow mIsKept mPeople mDraft mDPeople mHasDry mToldDebts mHighest mTape mTaped mPos mBegun mSort mValue mFault mWrongAt mPaid mRow mRingMuch mRideSum mOwedSum mAllWays mRode mWays mLanes mSizes mCells mTorn mBefore)) => ?_)
    refine W.eq (g2 := F0 m 16 ls ([.int r_2])) rfl ?_
    refine kb_if_ne (tgt := 21) hx hb dX8_drift_16 (by decide) h (fun c_16 h => ?_) (fun c_16 h => ?_)
    · refine lv_iconst (v := (-1)) hx hb dX8_drift_19 (by decide) ?_
      cases h
      exact k_iret hx hb hr hlocks hw rfl dX8_drift_20 hQ
    · refine lv_aload_n hx hb dX8_drift_21 rfl (lv_at hl 0 rfl) ?_
      refine va_get (ci := 8) (v := .int mPeople) (C := RX8) (T := TX8) (N := 30) hx hb hts hinX8 hown hK.1 hw.1 0 rfl rfl 3 (by decide) q_2 (fun _ h9 => h9) rfl dX8_drift_22 ?_
      refine kb_if_ne (tgt := 31) hx hb dX8_drift_25 (by decide) h (fun c_25 h => ?_) (fun c_25 h => ?_)
      · refine lv_bipush (v := (-2)) hx hb dX8_drift_28 (by decide) ?_
        cases h
        exact k_iret hx hb hr hlocks hw rfl dX8_drift_30 hQ
      · refine lv_iload_n hx hb dX8_drift_31 rfl (lv_at hl 1 rfl) ?_
        refine lv_istore (lv' := [(4, .int p1), (0, .ref mh), (1, .int p1), (2, .int p2), (3, .int p3)]) hx hb dX8_drift_32 hl (by decide) rfl (fun ls hl => ?_)
        refine lv_aload_n hx hb dX8_drift_34 rfl (lv_at hl 1 rfl) ?_
        obtain ⟨mNow_3, hf, h⟩ := b1_inv h
        refine k_callV (host := "") fx hK hA hw (c_X8_starts l D k mh mrSt mrNow mrIsKept mrDraft mrTape mrRow mrRode mrWays mrLanes mrSizes mrCells mrBefore _ mSt mNow mIsKept mPeople mDraft mDPeople mHasDry mToldDebts mHighest mTape mTaped mPos mBegun mSort mValue mFault mWrongAt mPaid mRow mRingMuch mRideSum mOwedSum mAllWays mRode mWays mLanes mSizes mCells mTorn mBefore mNow_3 hf) (cwV 0 hts gX8_drift_X8_starts rfl rfl rfl (by decide +kernel) ⟨by decide, by decide⟩) (As := []) (wr := []) (ws' := wX8 k mh mrSt mrNow mrIsKept mrDraft mrTape mrRow mrRode mrWays mrLanes mrSizes mrCells mrBefore mSt mNow_3 mIsKept mPeople mDraft mDPeople mHasDry mToldDebts mHighest mTape mTaped mPos mBegun mSort mValue mFault mWrongAt mPaid mRow mRingMuch mRideSum mOwedSum mAllWays mRode mWays mLanes mSizes mCells mTorn mBefore) [0, 1, 2, 3, 4, 5, 6, 7, 8, 9, 10, 11, 12] [] [0, 1, 2, 3, 4, 5, 6, 7, 8, 9, 10, 11, 12] rfl rfl (by decide) (by decide) (by decide) rfl (by decide) 8 rfl rfl [] rfl hl.1 rfl (Nat.le_of_ble_eq_true rfl) dX8_drift_35 ⟨by decide, by decide⟩ (fun H locs (hw : Wd D A s.heap H locs (wX8 k mh mrSt mrNow mrIsKept mrDraft mrTape mrRow mrRode mrWays mrLanes mrSizes mrCells mrBefore mSt mNow_3 mIsKept mPeople mDraft mDPeople mHasDry mToldDebts mHighest mTape mTaped mPos mBegun mSort mValue mFault mWrongAt mPaid mRow mRingMuch mRideSum mOwedSum mAllWays mRode mWays mLanes mSizes mCells mTorn mBefore)) => ?_)
        refine W.eq (g2 := F0 m 38 ls ([])) rfl ?_
        refine lv_iconst (v := 0) hx hb dX8_drift_38 (by decide) ?_
        refine lv_istore (lv' := [(5, .int 0), (4, .int p1), (0, .ref mh), (1, .int p1), (2, .int p2), (3, .int p3)]) hx hb dX8_drift_39 hl (by decide) rfl (fun ls hl => ?_)
        obtain ⟨mNow_8, mPaid_9, hL_41, h⟩ := b2_inv h
        have X_41 : ∀ (H : Heap) (locs : List Loc) (ls : Array Slot), Wd D A s.heap H locs (wX8 k mh mrSt mrNow mrIsKept mrDraft mrTape mrRow mrRode mrWays mrLanes mrSizes mrCells mrBefore mSt mNow_8 mIsKept mPeople mDraft mDPeople mHasDry mToldDebts mHighest mTape mTaped mPos mBegun mSort mValue mFault mWrongAt mPaid_9 mRow mRingMuch mRideSum mOwedSum mAllWays mRode mWays mLanes mSizes mCells mTorn mBefore) → lv_has ls 7 [(0, .ref mh), (3, .int p3)] → W p l e rmX8_drift s m args below meth c H locs 0 0 Q (F0 m 112 ls []) := by
          intro H locs ls hw hl
          refine lv_iload_n hx hb dX8_drift_112 rfl (lv_at hl 1 rfl) ?_
          refine kb_if_ne (tgt := 123) hx hb dX8_drift_113 (by decide) h (fun c_113 h => ?_) (fun c_113 h => ?_)
          · refine lv_aload_n hx hb dX8_drift_116 rfl (lv_at hl 0 rfl) ?_
            obtain ⟨r_15, hf, h⟩ := b1_inv h
            refine k_callV (host := "") fx hK hA hw (c_X8_allOwed l D k mh mrSt mrNow mrIsKept mrDraft mrTape mrRow mrRode mrWays mrLanes mrSizes mrCells mrBefore _ mSt mNow_8 mIsKept mPeople mDraft mDPeople mHasDry mToldDebts mHighest mTape mTaped mPos mBegun mSort mValue mFault mWrongAt mPaid_9 mRow mRingMuch mRideSum mOwedSum mAllWays mRode mWays mLanes mSizes mCells mTorn mBefore r_15 hf) (cwV 0 hts gX8_drift_X8_allOwed rfl rfl rfl (by decide +kernel) ⟨by decide, by decide⟩) (As := []) (wr := []) (ws' := wX8 k mh mrSt mrNow mrIsKept mrDraft mrTape mrRow mrRode mrWays mrLanes mrSizes mrCells mrBefore mSt mNow_8 mIsKept mPeople mDraft mDPeople mHasDry mToldDebts mHighest mTape mTaped mPos mBegun mSort mValue mFault mWrongAt mPaid_9 mRow mRingMuch mRideSum mOwedSum mAllWays mRode mWays mLanes mSizes mCells mTorn mBefore) [0, 1, 2, 3, 4, 5, 6, 7, 8, 9, 10, 11, 12] [] [0, 1, 2, 3, 4, 5, 6, 7, 8, 9, 10, 11, 12] rfl rfl (by decide) (by decide) (by decide) rfl (by decide) 8 rfl rfl [] rfl hl.1 rfl (Nat.le_of_ble_eq_true rfl) dX8_drift_117 ⟨by decide, by decide⟩ (fun H locs (hw : Wd D A s.heap H locs (wX8 k mh mrSt mrNow mrIsKept mrDraft mrTape mrRow mrRode mrWays mrLanes mrSizes mrCells mrBefore mSt mNow_8 mIsKept mPeople mDraft mDPeople mHasDry mToldDebts mHighest mTape mTaped mPos mBegun mSort mValue mFault mWrongAt mPaid_9 mRow mRingMuch mRideSum mOwedSum mAllWays mRode mWays mLanes mSizes mCells mTorn mBefore)) => ?_)
            refine W.eq (g2 := F0 m 120 ls ([.int r_15])) rfl ?_
            refine lv_goto (tgt := 127) hx hb dX8_drift_120 (by decide) ?_
            cases h
            exact k_iret hx hb hr hlocks hw rfl dX8_drift_127 hQ
          · refine lv_aload_n hx hb dX8_drift_123 rfl (lv_at hl 0 rfl) ?_
            obtain ⟨r_14, hf, h⟩ := b1_inv h
            refine k_callV (host := "") fx hK hA hw (c_X8_riding l D k mh mrSt mrNow mrIsKept mrDraft mrTape mrRow mrRode mrWays mrLanes mrSizes mrCells mrBefore _ mSt mNow_8 mIsKept mPeople mDraft mDPeople mHasDry mToldDebts mHighest mTape mTaped mPos mBegun mSort mValue mFault mWrongAt mPaid_9 mRow mRingMuch mRideSum mOwedSum mAllWays mRode mWays mLanes mSizes mCells mTorn mBefore r_14 hf) (cwV 0 hts gX8_drift_X8_riding rfl rfl rfl (by decide +kernel) ⟨by decide, by decide⟩) (As := []) (wr := []) (ws' := wX8 k mh mrSt mrNow mrIsKept mrDraft mrTape mrRow mrRode mrWays mrLanes mrSizes mrCells mrBefore mSt mNow_8 mIsKept mPeople mDraft mDPeople mHasDry mToldDebts mHighest mTape mTaped mPos mBegun mSort mValue mFault mWrongAt mPaid_9 mRow mRingMuch mRideSum mOwedSum mAllWays mRode mWays mLanes mSizes mCells mTorn mBefore) [0, 1, 2, 3, 4, 5, 6, 7, 8, 9, 10, 11, 12] [] [0, 1, 2, 3, 4, 5, 6, 7, 8, 9, 10, 11, 12] rfl rfl (by decide) (by decide) (by decide) rfl (by decide) 8 rfl rfl [] rfl hl.1 rfl (Nat.le_of_ble_eq_true rfl) dX8_drift_124 ⟨by decide, by decide⟩ (fun H locs (hw : Wd D A s.heap H locs (wX8 k mh mrSt mrNow mrIsKept mrDraft mrTape mrRow mrRode mrWays mrLanes mrSizes mrCells mrBefore mSt mNow_8 mIsKept mPeople mDraft mDPeople mHasDry mToldDebts mHighest mTape mTaped mPos mBegun mSort mValue mFault mWrongAt mPaid_9 mRow mRingMuch mRideSum mOwedSum mAllWays mRode mWays mLanes mSizes mCells mTorn mBefore)) => ?_)
            refine W.eq (g2 := F0 m 127 ls ([.int r_14])) rfl ?_
            cases h
            exact k_iret hx hb hr hlocks hw rfl dX8_drift_127 hQ
        clear h
        have LP_41 : ∀ (n : Nat) (v4_4 : Int32) (v5_5 : Int32) (mNow_6 : (Nat → Int32)) (mPaid_7 : Int32), f_X8_drift_L41 mPeople p2 n v4_4 v5_5 mNow_6 mPaid_7 = some (mNow_8, mPaid_9) → ∀ (H : Heap) (locs : List Loc) (ls : Array Slot), Wd D A s.heap H locs (wX8 k mh mrSt mrNow mrIsKept mrDraft mrTape mrRow mrRode mrWays mrLanes mrSizes mrCells mrBefore mSt mNow_6 mIsKept mPeople mDraft mDPeople mHasDry mToldDebts mHighest mTape mTaped mPos mBegun mSort mValue mFault mWrongAt mPaid_7 mRow mRingMuch mRideSum mOwedSum mAllWays mRode mWays mLanes mSizes mCells mTorn mBefore) → lv_has ls 7 [(0, .ref mh), (2, .int p2), (3, .int p3), (4, .int v4_4), (5, .int v5_5)] → W p l e rmX8_drift s m args below meth c H locs 0 0 Q (F0 m 41 ls []) := by
          clear hL_41 hw hl
          intro n
          induction n with
          | zero => intro v4_4 v5_5 mNow_6 mPaid_7 h; rw [f_X8_drift_L41] at h; cases h
          | succ n ih =>
            intro v4_4 v5_5 mNow_6 mPaid_7 h H locs ls hw hl
            rw [f_X8_drift_L41] at h
            refine lv_iload hx hb dX8_drift_41 (lv_at hl 4 rfl) ?_
            refine lv_iload_n hx hb dX8_drift_43 rfl (lv_at hl 1 rfl) ?_
            refine kb_icmp_ge (tgt := 112) hx hb dX8_drift_44 (by decide) h (fun c_44 h => ?_) (fun c_44 h => ?_)
            · cases h
              exact X_41 _ _ _ hw (lv_sub hl [0, 2] rfl)
            · refine lv_iload hx hb dX8_drift_47 (lv_at hl 3 rfl) ?_
              refine lv_ldcw (v := 1103515245) hx hb hown q_3 dX8_drift_49 ?_
              refine lv_imul hx hb dX8_drift_52 ?_
              refine lv_sipush (v := 12345) hx hb dX8_drift_53 (by decide) ?_
              refine lv_iadd hx hb dX8_drift_56 ?_
              refine lv_istore (lv' := [(4, .int ((v4_4 * 1103515245) + 12345)), (0, .ref mh), (2, .int p2), (3, .int p3), (5, .int v5_5)]) hx hb dX8_drift_57 hl (by decide) rfl (fun ls hl => ?_)
              refine lv_iload hx hb dX8_drift_59 (lv_at hl 0 rfl) ?_
              refine lv_bipush (v := 16) hx hb dX8_drift_61 (by decide) ?_
              refine lv_ishr hx hb dX8_drift_63 ?_
              refine lv_sipush (v := 32767) hx hb dX8_drift_64 (by decide) ?_
              refine lv_iand hx hb dX8_drift_67 ?_
              refine lv_istore (lv' := [(6, .int ((((v4_4 * 1103515245) + 12345) >>> ((16 : Int32) &&& 31)) &&& 32767)), (4, .int ((v4_4 * 1103515245) + 12345)), (0, .ref mh), (2, .int p2), (3, .int p3), (5, .int v5_5)]) hx hb dX8_drift_68 hl (by decide) rfl (fun ls hl => ?_)
              refine lv_aload_n hx hb dX8_drift_70 rfl (lv_at hl 2 rfl) ?_
              refine lv_iload hx hb dX8_drift_71 (lv_at hl 0 rfl) ?_
              refine lv_aload_n hx hb dX8_drift_73 rfl (lv_at hl 2 rfl) ?_
              refine va_get (ci := 8) (v := .int mPeople) (C := RX8) (T := TX8) (N := 30) hx hb hts hinX8 hown hK.1 hw.1 0 rfl rfl 3 (by decide) q_2 (fun _ h9 => h9) rfl dX8_drift_74 ?_
              refine k_irem hx hb dX8_drift_77 h (fun h => ?_)
              refine lv_iload hx hb dX8_drift_78 (lv_at hl 0 rfl) ?_
              refine lv_bipush (v := 8) hx hb dX8_drift_80 (by decide) ?_
              refine lv_idiv hx hb dX8_drift_82 (by decide) ?_
              refine lv_aload_n hx hb dX8_drift_83 rfl (lv_at hl 2 rfl) ?_
              refine va_get (ci := 8) (v := .int mPeople) (C := RX8) (T := TX8) (N := 30) hx hb hts hinX8 hown hK.1 hw.1 0 rfl rfl 3 (by decide) q_2 (fun _ h9 => h9) rfl dX8_drift_84 ?_
              refine k_irem hx hb dX8_drift_87 h (fun h => ?_)
              refine lv_iconst (v := 1) hx hb dX8_drift_88 (by decide) ?_
              refine lv_iload hx hb dX8_drift_89 (lv_at hl 0 rfl) ?_
              refine lv_bipush (v := 64) hx hb dX8_drift_91 (by decide) ?_
              refine lv_idiv hx hb dX8_drift_93 (by decide) ?_
              refine lv_bipush (v := 9) hx hb dX8_drift_94 (by decide) ?_
              refine lv_irem hx hb dX8_drift_96 (by decide) ?_
              refine lv_iadd hx hb dX8_drift_97 ?_
              obtain ⟨r_10, mNow_11, hf, h⟩ := b2_inv h
              refine k_callV (host := "") fx hK hA hw (c_X8_lendsNow l D k mh mrSt mrNow mrIsKept mrDraft mrTape mrRow mrRode mrWays mrLanes mrSizes mrCells mrBefore _ mSt mNow_6 mIsKept mPeople mDraft mDPeople mHasDry mToldDebts mHighest mTape mTaped mPos mBegun mSort mValue mFault mWrongAt mPaid_7 mRow mRingMuch mRideSum mOwedSum mAllWays mRode mWays mLanes mSizes mCells mTorn mBefore (((((v4_4 * 1103515245) + 12345) >>> ((16 : Int32) &&& 31)) &&& 32767) - ((((v4_4 * 1103515245) + 12345) >>> ((16 : Int32) &&& 31)) &&& 32767) / mPeople * mPeople) ((((((v4_4 * 1103515245) + 12345) >>> ((16 : Int32) &&& 31)) &&& 32767) / 8) - (((((v4_4 * 1103515245) + 12345) >>> ((16 : Int32) &&& 31)) &&& 32767) / 8) / mPeople * mPeople) (1 + ((((((v4_4 * 1103515245) + 12345) >>> ((16 : Int32) &&& 31)) &&& 32767) / 64) - (((((v4_4 * 1103515245) + 12345) >>> ((16 : Int32) &&& 31)) &&& 32767) / 64) / 9 * 9)) r_10 mNow_11 hf) (cwV 3 hts gX8_drift_X8_lendsNow rfl rfl rfl (by decide +kernel) ⟨by decide, by decide⟩) (As := [.int (((((v4_4 * 1103515245) + 12345) >>> ((16 : Int32) &&& 31)) &&& 32767) - ((((v4_4 * 1103515245) + 12345) >>> ((16 : Int32) &&& 31)) &&& 32767) / mPeople * mPeople), .int ((((((v4_4 * 1103515245) + 12345) >>> ((16 : Int32) &&& 31)) &&& 32767) / 8) - (((((v4_4 * 1103515245) + 12345) >>> ((16 : Int32) &&& 31)) &&& 32767) / 8) / mPeople * mPeople), .int (1 + ((((((v4_4 * 1103515245) + 12345) >>> ((16 : Int32) &&& 31)) &&& 32767) / 64) - (((((v4_4 * 1103515245) + 12345) >>> ((16 : Int32) &&& 31)) &&& 32767) / 64) / 9 * 9))]) (wr := []) (ws' := wX8 k mh mrSt mrNow mrIsKept mrDraft mrTape mrRow mrRode mrWays mrLanes mrSizes mrCells mrBefore mSt mNow_11 mIsKept mPeople mDraft mDPeople mHasDry mToldDebts mHighest mTape mTaped mPos mBegun mSort mValue mFault mWrongAt mPaid_7 mRow mRingMuch mRideSum mOwedSum mAllWays mRode mWays mLanes mSizes mCells mTorn mBefore) [0, 1, 2, 3, 4, 5, 6, 7, 8, 9, 10, 11, 12] [] [0, 1, 2, 3, 4, 5, 6, 7, 8, 9, 10, 11, 12] rfl rfl (by decide) (by decide) (by decide) rfl (by decide) 8 rfl rfl [] rfl hl.1 rfl (Nat.le_of_ble_eq_true rfl) dX8_drift_98 ⟨by decide, by decide⟩ (fun H locs (hw : Wd D A s.heap H locs (wX8 k mh mrSt mrNow mrIsKept mrDraft mrTape mrRow mrRode mrWays mrLanes mrSizes mrCells mrBefore mSt mNow_11 mIsKept mPeople mDraft mDPeople mHasDry mToldDebts mHighest mTape mTaped mPos mBegun mSort mValue mFault mWrongAt mPaid_7 mRow mRingMuch mRideSum mOwedSum mAllWays mRode mWays mLanes mSizes mCells mTorn mBefore)) => ?_)
              refine W.eq (g2 := F0 m 101 ls ([.int r_10])) rfl ?_
              refine lv_pop hx hb dX8_drift_101 rfl ?_
              refine lv_aload_n hx hb dX8_drift_102 rfl (lv_at hl 2 rfl) ?_
              obtain ⟨mNow_12, mPaid_13, hf, h⟩ := b2_inv h
              refine k_callV (host := "") fx hK hA hw (c_X8_dayGoes l D k mh mrSt mrNow mrIsKept mrDraft mrTape mrRow mrRode mrWays mrLanes mrSizes mrCells mrBefore _ mSt mNow_11 mIsKept mPeople mDraft mDPeople mHasDry mToldDebts mHighest mTape mTaped mPos mBegun mSort mValue mFault mWrongAt mPaid_7 mRow mRingMuch mRideSum mOwedSum mAllWays mRode mWays mLanes mSizes mCells mTorn mBefore mNow_12 mPaid_13 hf) (cwV 0 hts gX8_drift_X8_dayGoes rfl rfl rfl (by decide +kernel) ⟨by decide, by decide⟩) (As := []) (wr := []) (ws' := wX8 k mh mrSt mrNow mrIsKept mrDraft mrTape mrRow mrRode mrWays mrLanes mrSizes mrCells mrBefore mSt mNow_12 mIsKept mPeople mDraft mDPeople mHasDry mToldDebts mHighest mTape mTaped mPos mBegun mSort mValue mFault mWrongAt mPaid_13 mRow mRingMuch mRideSum mOwedSum mAllWays mRode mWays mLanes mSizes mCells mTorn mBefore) [0, 1, 2, 3, 4, 5, 6, 7, 8, 9, 10, 11, 12] [] [0, 1, 2, 3, 4, 5, 6, 7, 8, 9, 10, 11, 12] rfl rfl (by decide) (by decide) (by decide) rfl (by decide) 8 rfl rfl [] rfl hl.1 rfl (Nat.le_of_ble_eq_true rfl) dX8_drift_103 ⟨by decide, by decide⟩ (fun H locs (hw : Wd D A s.heap H locs (wX8 k mh mrSt mrNow mrIsKept mrDraft mrTape mrRow mrRode mrWays mrLanes mrSizes mrCells mrBefore mSt mNow_12 mIsKept mPeople mDraft mDPeople mHasDry mToldDebts mHighest mTape mTaped mPos mBegun mSort mValue mFault mWrongAt mPaid_13 mRow mRingMuch mRideSum mOwedSum mAllWays mRode mWays mLanes mSizes mCells mTorn mBefore)) => ?_)
              refine W.eq (g2 := F0 m 106 ls ([])) rfl ?_
              refine lv_iinc (v := v5_5 + 1) (lv' := [(5, .int (v5_5 + 1)), (6, .int ((((v4_4 * 1103515245) + 12345) >>> ((16 : Int32) &&& 31)) &&& 32767)), (4, .int ((v4_4 * 1103515245) + 12345)), (0, .ref mh), (2, .int p2), (3, .int p3)]) hx hb dX8_drift_106 hl (k := 5) rfl rfl (by decide) rfl (fun ls hl => ?_)
              refine lv_goto (tgt := 41) hx hb dX8_drift_109 (by decide) ?_
              exact ih _ _ _ _ h _ _ _ hw (lv_sub hl [3, 4, 5, 2, 0] rfl)
        exact LP_41 400 p1 0 mNow_3 mPaid hL_41 _ _ _ hw (lv_sub hl [2, 4, 5, 1, 0] rfl)
abbrev rmX8_dry : Room := { frames := 1, cells := 0, slots := 0, locals := 25 }
set_option maxHeartbeats 4000000 in
set_option maxRecDepth 100000 in
theorem c_X8_dry (l : Launch) (D : va_G) (k : Nat → ClassId) (mh mrSt mrNow mrIsKept mrDraft mrTape mrRow mrRode mrWays mrLanes mrSizes mrCells mrBefore : Nat) (sz : Nat) (mSt : (Nat → Int32)) (mNow : (Nat → Int32)) (mIsKept : (Nat → Int32)) (mPeople : Int32) (mDraft : (Nat → Int32)) (mDPeople : Int32) (mHasDry : Int32) (mToldDebts : Int32) (mHighest : Int32) (mTape : (Nat → Int32)) (mTaped : Int32) (mPos : Int32) (mBegun : Int32) (mSort : Int32) (mValue : Int32) (mFault : Int32) (mWrongAt : Int32) (mPaid : Int32) (mRow : (Nat → Int32)) (mRingMuch : Int32) (mRideSum : Int64) (mOwedSum : Int64) (mAllWays : Int64) (mRode : (Nat → Int32)) (mWays : (Nat → Int32)) (mLanes : (Nat → Int32)) (mSizes : (Nat → Int32)) (mCells : (Nat → Int32)) (mTorn : Int32) (mBefore : (Nat → Int32)) (p1 : Int32) (r_ : Int32) (n_mSt : (Nat → Int32)) (hf : f_X8_dry mSt p1 = some (r_, n_mSt)) : mR l yX8_dry wsX8_dry rmX8_dry D k sz [.ref mh, .int p1] (wX8 k mh mrSt mrNow mrIsKept mrDraft mrTape mrRow mrRode mrWays mrLanes mrSizes mrCells mrBefore mSt mNow mIsKept mPeople mDraft mDPeople mHasDry mToldDebts mHighest mTape mTaped mPos mBegun mSort mValue mFault mWrongAt mPaid mRow mRingMuch mRideSum mOwedSum mAllWays mRode mWays mLanes mSizes mCells mTorn mBefore) (wX8 k mh mrSt mrNow mrIsKept mrDraft mrTape mrRow mrRode mrWays mrLanes mrSizes mrCells mrBefore n_mSt mNow mIsKept mPeople mDraft mDPeople mHasDry mToldDebts mHighest mTape mTaped mPos mBegun mSort mValue mFault mWrongAt mPaid mRow mRingMuch mRideSum mOwedSum mAllWays mRode mWays mLanes mSizes mCells mTorn mBefore) (some (.int r_)) := by
  refine mR_of (cc := cX8_dry) (maxL := 2) (ret := some .int) (by decide) rfl (Nat.le_of_ble_eq_true rfl) [(0, .ref mh), (1, .int p1)] rfl ?_
  intro p e s m below meth c A ls args Q cx hK hA hw hl hQ
  have fx := cx.1
  obtain ⟨⟨hx, hb, hml, hown, hts⟩, hr, hlocks⟩ := cx
  have q_1 := hts (.constantLong RX8 211 (9)) (List.mem_of_getElem? (i := 1) rfl)
  have h := hf
  unfold f_X8_dry at h
  clear hf
  refine lv_iload_n hx hb dX8_dry_0 rfl (lv_at hl 1 rfl) ?_
  refine lv_i2l hx hb dX8_dry_1 rfl ?_
  refine lv_lconst (v := 0) hx hb dX8_dry_2 rfl ?_
  refine lv_ldc2 (v := 9) hx hb hown q_1 dX8_dry_3 ?_
  obtain ⟨r_1, hf, h⟩ := b1_inv h
  refine k_callS (b := 0) (C := "") (host := "") fx hK hA hw (c_X8_in l D k _ p1.toInt64 0 9 r_1 hf) (va_cwS 3 hts gX8_dry_X8_in rfl rfl rfl (by decide +kernel) ⟨by decide, by decide⟩) (As := [.long p1.toInt64, .long 0, .long 9]) (wr := [(mh, .inr (8, [.ref mrSt, .ref mrNow, .ref mrIsKept, .int mPeople, .ref mrDraft, .int mDPeople, .int mHasDry, .int mToldDebts, .int mHighest, .ref mrTape, .int mTaped, .int mPos, .int mBegun, .int mSort, .int mValue, .int mFault, .int mWrongAt, .int mPaid, .ref mrRow, .int mRingMuch, .long mRideSum, .long mOwedSum, .long mAllWays, .ref mrRode, .ref mrWays, .ref mrLanes, .ref mrSizes, .ref mrCells, .int mTorn, .ref mrBefore])), (mrSt, .inl (k 0, 183, .inl mSt)), (mrNow, .inl (k 0, 61, .inl mNow)), (mrIsKept, .inl (k 1, 2, .inl mIsKept)), (mrDraft, .inl (k 0, 61, .inl mDraft)), (mrTape, .inl (k 0, 160, .inl mTape)), (mrRow, .inl (k 0, 5, .inl mRow)), (mrRode, .inl (k 0, 31, .inl mRode)), (mrWays, .inl (k 0, 31, .inl mWays)), (mrLanes, .inl (k 0, 4, .inl mLanes)), (mrSizes, .inl (k 0, 4, .inl mSizes)), (mrCells, .inl (k 0, 160, .inl mCells)), (mrBefore, .inl (k 0, 61, .inl mBefore))]) (ws' := wX8 k mh mrSt mrNow mrIsKept mrDraft mrTape mrRow mrRode mrWays mrLanes mrSizes mrCells mrBefore mSt mNow mIsKept mPeople mDraft mDPeople mHasDry mToldDebts mHighest mTape mTaped mPos mBegun mSort mValue mFault mWrongAt mPaid mRow mRingMuch mRideSum mOwedSum mAllWays mRode mWays mLanes mSizes mCells mTorn mBefore) [] [0, 1, 2, 3, 4, 5, 6, 7, 8, 9, 10, 11, 12] [0, 1, 2, 3, 4, 5, 6, 7, 8, 9, 10, 11, 12] rfl rfl (by decide) (by decide) (by decide) rfl (by decide) [] rfl hl.1 rfl (Nat.le_of_ble_eq_true rfl) dX8_dry_6 ⟨by decide, by decide⟩ (fun H locs (hw : Wd D A s.heap H locs (wX8 k mh mrSt mrNow mrIsKept mrDraft mrTape mrRow mrRode mrWays mrLanes mrSizes mrCells mrBefore mSt mNow mIsKept mPeople mDraft mDPeople mHasDry mToldDebts mHighest mTape mTaped mPos mBegun mSort mValue mFault mWrongAt mPaid mRow mRingMuch mRideSum mOwedSum mAllWays mRode mWays mLanes mSizes mCells mTorn mBefore)) => ?_)
  refine W.eq (g2 := F0 m 9 ls ([.int r_1])) rfl ?_
  refine kb_if_eq (tgt := 22) hx hb dX8_dry_9 (by decide) h (fun c_9 h => ?_) (fun c_9 h => ?_)
  · refine lv_iconst (v := (-1)) hx hb dX8_dry_22 (by decide) ?_
    cases h
    exact k_iret hx hb hr hlocks hw rfl dX8_dry_23 hQ
  · refine lv_aload_n hx hb dX8_dry_12 rfl (lv_at hl 0 rfl) ?_
    refine lv_bipush (v := 41) hx hb dX8_dry_13 (by decide) ?_
    refine lv_iload_n hx hb dX8_dry_15 rfl (lv_at hl 1 rfl) ?_
    obtain ⟨r_2, mSt_3, hf, h⟩ := b2_inv h
    refine k_callV (host := "") fx hK hA hw (c_X8_becomes l D k mh mrSt mrNow mrIsKept mrDraft mrTape mrRow mrRode mrWays mrLanes mrSizes mrCells mrBefore _ mSt mNow mIsKept mPeople mDraft mDPeople mHasDry mToldDebts mHighest mTape mTaped mPos mBegun mSort mValue mFault mWrongAt mPaid mRow mRingMuch mRideSum mOwedSum mAllWays mRode mWays mLanes mSizes mCells mTorn mBefore 41 p1 r_2 mSt_3 hf) (cwV 2 hts gX8_dry_X8_becomes rfl rfl rfl (by decide +kernel) ⟨by decide, by decide⟩) (As := [.int 41, .int p1]) (wr := []) (ws' := wX8 k mh mrSt mrNow mrIsKept mrDraft mrTape mrRow mrRode mrWays mrLanes mrSizes mrCells mrBefore mSt_3 mNow mIsKept mPeople mDraft mDPeople mHasDry mToldDebts mHighest mTape mTaped mPos mBegun mSort mValue mFault mWrongAt mPaid mRow mRingMuch mRideSum mOwedSum mAllWays mRode mWays mLanes mSizes mCells mTorn mBefore) [0, 1, 2, 3, 4, 5, 6, 7, 8, 9, 10, 11, 12] [] [0, 1, 2, 3, 4, 5, 6, 7, 8, 9, 10, 11, 12] rfl rfl (by decide) (by decide) (by decide) rfl (by decide) 8 rfl rfl [] rfl hl.1 rfl (Nat.le_of_ble_eq_true rfl) dX8_dry_16 ⟨by decide, by decide⟩ (fun H locs (hw : Wd D A s.heap H locs (wX8 k mh mrSt mrNow mrIsKept mrDraft mrTape mrRow mrRode mrWays mrLanes mrSizes mrCells mrBefore mSt_3 mNow mIsKept mPeople mDraft mDPeople mHasDry mToldDebts mHighest mTape mTaped mPos mBegun mSort mValue mFault mWrongAt mPaid mRow mRingMuch mRideSum mOwedSum mAllWays mRode mWays mLanes mSizes mCells mTorn mBefore)) => ?_)
    refine W.eq (g2 := F0 m 19 ls ([.int r_2])) rfl ?_
    refine lv_goto (tgt := 23) hx hb dX8_dry_19 (by decide) ?_
    cases h
    exact k_iret hx hb hr hlocks hw rfl dX8_dry_23 hQ
abbrev rmX8_which : Room := { frames := 5, cells := 0, slots := 0, locals := 118 }
set_option maxHeartbeats 4000000 in
set_option maxRecDepth 100000 in
theorem c_X8_which (l : Launch) (D : va_G) (k : Nat → ClassId) (mh mrSt mrNow mrIsKept mrDraft mrTape mrRow mrRode mrWays mrLanes mrSizes mrCells mrBefore : Nat) (sz : Nat) (mSt : (Nat → Int32)) (mNow : (Nat → Int32)) (mIsKept : (Nat → Int32)) (mPeople : Int32) (mDraft : (Nat → Int32)) (mDPeople : Int32) (mHasDry : Int32) (mToldDebts : Int32) (mHighest : Int32) (mTape : (Nat → Int32)) (mTaped : Int32) (mPos : Int32) (mBegun : Int32) (mSort : Int32) (mValue : Int32) (mFault : Int32) (mWrongAt : Int32) (mPaid : Int32) (mRow : (Nat → Int32)) (mRingMuch : Int32) (mRideSum : Int64) (mOwedSum : Int64) (mAllWays : Int64) (mRode : (Nat → Int32)) (mWays : (Nat → Int32)) (mLanes : (Nat → Int32)) (mSizes : (Nat → Int32)) (mCells : (Nat → Int32)) (mTorn : Int32) (mBefore : (Nat → Int32)) (p1 : Int32) (p2 : Int32) (p3 : Int32) (r_ : Int32) (n_mNow : (Nat → Int32)) (n_mPaid : Int32) (n_mRode : (Nat → Int32)) (hf : f_X8_which mSt mNow mPeople mPaid mRode p1 p2 p3 = some (r_, n_mNow, n_mPaid, n_mRode)) : mR l yX8_which wsX8_which rmX8_which D k sz [.ref mh, .int p1, .int p2, .int p3] (wX8 k mh mrSt mrNow mrIsKept mrDraft mrTape mrRow mrRode mrWays mrLanes mrSizes mrCells mrBefore mSt mNow mIsKept mPeople mDraft mDPeople mHasDry mToldDebts mHighest mTape mTaped mPos mBegun mSort mValue mFault mWrongAt mPaid mRow mRingMuch mRideSum mOwedSum mAllWays mRode mWays mLanes mSizes mCells mTorn mBefore) (wX8 k mh mrSt mrNow mrIsKept mrDraft mrTape mrRow mrRode mrWays mrLanes mrSizes mrCells mrBefore mSt n_mNow mIsKept mPeople mDraft mDPeople mHasDry mToldDebts mHighest mTape mTaped mPos mBegun mSort mValue mFault mWrongAt n_mPaid mRow mRingMuch mRideSum mOwedSum mAllWays n_mRode mWays mLanes mSizes mCells mTorn mBefore) (some (.int r_)) := by
  refine mR_of (cc := cX8_which) (maxL := 6) (ret := some .int) (by decide) rfl (Nat.le_of_ble_eq_true rfl) [(0, .ref mh), (1, .int p1), (2, .int p2), (3, .int p3)] rfl ?_
  intro p e s m below meth c A ls args Q cx hK hA hw hl hQ
  have fx := cx.1
  obtain ⟨⟨hx, hb, hml, hown, hts⟩, hr, hlocks⟩ := cx
  have h := hf
  unfold f_X8_which at h
  clear hf
  refine lv_iconst (v := 0) hx hb dX8_which_0 (by decide) ?_
  refine lv_istore (lv' := [(4, .int 0), (0, .ref mh), (1, .int p1), (2, .int p2), (3, .int p3)]) hx hb dX8_which_1 hl (by decide) rfl (fun ls hl => ?_)
  refine lv_iconst (v := 0) hx hb dX8_which_3 (by decide) ?_
  refine lv_istore (lv' := [(5, .int 0), (4, .int 0), (0, .ref mh), (1, .int p1), (2, .int p2), (3, .int p3)]) hx hb dX8_which_4 hl (by decide) rfl (fun ls hl => ?_)
  obtain ⟨v4_6, mNow_7, mPaid_8, mRode_9, hL_6, h⟩ := b4_inv h
  have X_6 : ∀ (H : Heap) (locs : List Loc) (ls : Array Slot), Wd D A s.heap H locs (wX8 k mh mrSt mrNow mrIsKept mrDraft mrTape mrRow mrRode mrWays mrLanes mrSizes mrCells mrBefore mSt mNow_7 mIsKept mPeople mDraft mDPeople mHasDry mToldDebts mHighest mTape mTaped mPos mBegun mSort mValue mFault mWrongAt mPaid_8 mRow mRingMuch mRideSum mOwedSum mAllWays mRode_9 mWays mLanes mSizes mCells mTorn mBefore) → lv_has ls 6 [(4, .int v4_6)] → W p l e rmX8_which s m args below meth c H locs 0 0 Q (F0 m 37 ls []) := by
    intro H locs ls hw hl
    refine lv_iload hx hb dX8_which_37 (lv_at hl 0 rfl) ?_
    cases h
    exact k_iret hx hb hr hlocks hw rfl dX8_which_39 hQ
  clear h
  have LP_6 : ∀ (n : Nat) (v4_1 : Int32) (v5_2 : Int32) (mNow_3 : (Nat → Int32)) (mPaid_4 : Int32) (mRode_5 : (Nat → Int32)), f_X8_which_L6 mSt mPeople p1 p2 p3 n v4_1 v5_2 mNow_3 mPaid_4 mRode_5 = some (v4_6, mNow_7, mPaid_8, mRode_9) → ∀ (H : Heap) (locs : List Loc) (ls : Array Slot), Wd D A s.heap H locs (wX8 k mh mrSt mrNow mrIsKept mrDraft mrTape mrRow mrRode mrWays mrLanes mrSizes mrCells mrBefore mSt mNow_3 mIsKept mPeople mDraft mDPeople mHasDry mToldDebts mHighest mTape mTaped mPos mBegun mSort mValue mFault mWrongAt mPaid_4 mRow mRingMuch mRideSum mOwedSum mAllWays mRode_5 mWays mLanes mSizes mCells mTorn mBefore) → lv_has ls 6 [(0, .ref mh), (1, .int p1), (2, .int p2), (3, .int p3), (4, .int v4_1), (5, .int v5_2)] → W p l e rmX8_which s m args below meth c H locs 0 0 Q (F0 m 6 ls []) := by
    clear hL_6 hw hl
    intro n
    induction n with
    | zero => intro v4_1 v5_2 mNow_3 mPaid_4 mRode_5 h; rw [f_X8_which_L6] at h; cases h
    | succ n ih =>
      intro v4_1 v5_2 mNow_3 mPaid_4 mRode_5 h H locs ls hw hl
      rw [f_X8_which_L6] at h
      refine lv_iload hx hb dX8_which_6 (lv_at hl 5 rfl) ?_
      refine lv_iload_n hx hb dX8_which_8 rfl (lv_at hl 3 rfl) ?_
      refine kb_icmp_gt (tgt := 37) hx hb dX8_which_9 (by decide) h (fun c_9 h => ?_) (fun c_9 h => ?_)
      · cases h
        exact X_6 _ _ _ hw (lv_sub hl [4] rfl)
      · refine lv_iload hx hb dX8_which_12 (lv_at hl 4 rfl) ?_
        refine lv_aload_n hx hb dX8_which_14 rfl (lv_at hl 0 rfl) ?_
        refine lv_iload_n hx hb dX8_which_15 rfl (lv_at hl 1 rfl) ?_
        refine lv_iload_n hx hb dX8_which_16 rfl (lv_at hl 2 rfl) ?_
        refine lv_iload hx hb dX8_which_17 (lv_at hl 5 rfl) ?_
        obtain ⟨r_10, mNow_11, mPaid_12, mRode_13, hf, h⟩ := b4_inv h
        refine k_callV (host := "") fx hK hA hw (c_X8_isSoWith l D k mh mrSt mrNow mrIsKept mrDraft mrTape mrRow mrRode mrWays mrLanes mrSizes mrCells mrBefore _ mSt mNow_3 mIsKept mPeople mDraft mDPeople mHasDry mToldDebts mHighest mTape mTaped mPos mBegun mSort mValue mFault mWrongAt mPaid_4 mRow mRingMuch mRideSum mOwedSum mAllWays mRode_5 mWays mLanes mSizes mCells mTorn mBefore p1 p2 v5_2 r_10 mNow_11 mPaid_12 mRode_13 hf) (cwV 3 hts gX8_which_X8_isSoWith rfl rfl rfl (by decide +kernel) ⟨by decide, by decide⟩) (As := [.int p1, .int p2, .int v5_2]) (wr := []) (ws' := wX8 k mh mrSt mrNow mrIsKept mrDraft mrTape mrRow mrRode mrWays mrLanes mrSizes mrCells mrBefore mSt mNow_11 mIsKept mPeople mDraft mDPeople mHasDry mToldDebts mHighest mTape mTaped mPos mBegun mSort mValue mFault mWrongAt mPaid_12 mRow mRingMuch mRideSum mOwedSum mAllWays mRode_13 mWays mLanes mSizes mCells mTorn mBefore) [0, 1, 2, 3, 4, 5, 6, 7, 8, 9, 10, 11, 12] [] [0, 1, 2, 3, 4, 5, 6, 7, 8, 9, 10, 11, 12] rfl rfl (by decide) (by decide) (by decide) rfl (by decide) 8 rfl rfl [.int v4_1] rfl hl.1 rfl (Nat.le_of_ble_eq_true rfl) dX8_which_19 ⟨by decide, by decide⟩ (fun H locs (hw : Wd D A s.heap H locs (wX8 k mh mrSt mrNow mrIsKept mrDraft mrTape mrRow mrRode mrWays mrLanes mrSizes mrCells mrBefore mSt mNow_11 mIsKept mPeople mDraft mDPeople mHasDry mToldDebts mHighest mTape mTaped mPos mBegun mSort mValue mFault mWrongAt mPaid_12 mRow mRingMuch mRideSum mOwedSum mAllWays mRode_13 mWays mLanes mSizes mCells mTorn mBefore)) => ?_)
        refine W.eq (g2 := F0 m 22 ls ([.int r_10, .int v4_1])) rfl ?_
        obtain ⟨r_14, hf, h⟩ := b1_inv h
        refine k_callS (b := 0) (C := "") (host := "") fx hK hA hw (c_X8_flag l D k _ r_10 r_14 hf) (va_cwS 1 hts gX8_which_X8_flag rfl rfl rfl (by decide +kernel) ⟨by decide, by decide⟩) (As := [.int r_10]) (wr := [(mh, .inr (8, [.ref mrSt, .ref mrNow, .ref mrIsKept, .int mPeople, .ref mrDraft, .int mDPeople, .int mHasDry, .int mToldDebts, .int mHighest, .ref mrTape, .int mTaped, .int mPos, .int mBegun, .int mSort, .int mValue, .int mFault, .int mWrongAt, .int mPaid_12, .ref mrRow, .int mRingMuch, .long mRideSum, .long mOwedSum, .long mAllWays, .ref mrRode, .ref mrWays, .ref mrLanes, .ref mrSizes, .ref mrCells, .int mTorn, .ref mrBefore])), (mrSt, .inl (k 0, 183, .inl mSt)), (mrNow, .inl (k 0, 61, .inl mNow_11)), (mrIsKept, .inl (k 1, 2, .inl mIsKept)), (mrDraft, .inl (k 0, 61, .inl mDraft)), (mrTape, .inl (k 0, 160, .inl mTape)), (mrRow, .inl (k 0, 5, .inl mRow)), (mrRode, .inl (k 0, 31, .inl mRode_13)), (mrWays, .inl (k 0, 31, .inl mWays)), (mrLanes, .inl (k 0, 4, .inl mLanes)), (mrSizes, .inl (k 0, 4, .inl mSizes)), (mrCells, .inl (k 0, 160, .inl mCells)), (mrBefore, .inl (k 0, 61, .inl mBefore))]) (ws' := wX8 k mh mrSt mrNow mrIsKept mrDraft mrTape mrRow mrRode mrWays mrLanes mrSizes mrCells mrBefore mSt mNow_11 mIsKept mPeople mDraft mDPeople mHasDry mToldDebts mHighest mTape mTaped mPos mBegun mSort mValue mFault mWrongAt mPaid_12 mRow mRingMuch mRideSum mOwedSum mAllWays mRode_13 mWays mLanes mSizes mCells mTorn mBefore) [] [0, 1, 2, 3, 4, 5, 6, 7, 8, 9, 10, 11, 12] [0, 1, 2, 3, 4, 5, 6, 7, 8, 9, 10, 11, 12] rfl rfl (by decide) (by decide) (by decide) rfl (by decide) [.int v4_1] rfl hl.1 rfl (Nat.le_of_ble_eq_true rfl) dX8_which_22 ⟨by decide, by decide⟩ (fun H locs (hw : Wd D A s.heap H locs (wX8 k mh mrSt mrNow mrIsKept mrDraft mrTape mrRow mrRode mrWays mrLanes mrSizes mrCells mrBefore mSt mNow_11 mIsKept mPeople mDraft mDPeople mHasDry mToldDebts mHighest mTape mTaped mPos mBegun mSort mValue mFault mWrongAt mPaid_12 mRow mRingMuch mRideSum mOwedSum mAllWays mRode_13 mWays mLanes mSizes mCells mTorn mBefore)) => ?_)
        refine W.eq (g2 := F0 m 25 ls ([.int r_14, .int v4_1])) rfl ?_
        refine lv_iload hx hb dX8_which_25 (lv_at hl 5 rfl) ?_
        refine lv_ishl hx hb dX8_which_27 ?_
        refine lv_ior hx hb dX8_which_28 ?_
        refine lv_istore (lv' := [(4, .int (v4_1 ||| (r_14 <<< (v5_2 &&& 31)))), (0, .ref mh), (1, .int p1), (2, .int p2), (3, .int p3), (5, .int v5_2)]) hx hb dX8_which_29 hl (by decide) rfl (fun ls hl => ?_)
        refine lv_iinc (v := v5_2 + 1) (lv' := [(5, .int (v5_2 + 1)), (4, .int (v4_1 ||| (r_14 <<< (v5_2 &&& 31)))), (0, .ref mh), (1, .int p1), (2, .int p2), (3, .int p3)]) hx hb dX8_which_31 hl (k := 5) rfl rfl (by decide) rfl (fun ls hl => ?_)
        refine lv_goto (tgt := 6) hx hb dX8_which_34 (by decide) ?_
        exact ih _ _ _ _ _ h _ _ _ hw (lv_sub hl [2, 3, 4, 5, 1, 0] rfl)
  exact LP_6 400 0 0 mNow mPaid mRode hL_6 _ _ _ hw (lv_sub hl [2, 3, 4, 5, 1, 0] rfl)
abbrev rmX8_earns : Room := { frames := 6, cells := 0, slots := 0, locals := 143 }
set_option maxHeartbeats 4000000 in
set_option maxRecDepth 100000 in
theorem c_X8_earns (l : Launch) (D : va_G) (k : Nat → ClassId) (mh mrSt mrNow mrIsKept mrDraft mrTape mrRow mrRode mrWays mrLanes mrSizes mrCells mrBefore : Nat) (sz : Nat) (mSt : (Nat → Int32)) (mNow : (Nat → Int32)) (mIsKept : (Nat → Int32)) (mPeople : Int32) (mDraft : (Nat → Int32)) (mDPeople : Int32) (mHasDry : Int32) (mToldDebts : Int32) (mHighest : Int32) (mTape : (Nat → Int32)) (mTaped : Int32) (mPos : Int32) (mBegun : Int32) (mSort : Int32) (mValue : Int32) (mFault : Int32) (mWrongAt : Int32) (mPaid : Int32) (mRow : (Nat → Int32)) (mRingMuch : Int32) (mRideSum : Int64) (mOwedSum : Int64) (mAllWays : Int64) (mRode : (Nat → Int32)) (mWays : (Nat → Int32)) (mLanes : (Nat → Int32)) (mSizes : (Nat → Int32)) (mCells : (Nat → Int32)) (mTorn : Int32) (mBefore : (Nat → Int32)) (p1 : Int32) (r_ : Int32) (n_mNow : (Nat → Int32)) (n_mPaid : Int32) (n_mRode : (Nat → Int32)) (hf : f_X8_earns mSt mNow mPeople mPaid mRode p1 = some (r_, n_mNow, n_mPaid, n_mRode)) : mR l yX8_earns wsX8_earns rmX8_earns D k sz [.ref mh, .int p1] (wX8 k mh mrSt mrNow mrIsKept mrDraft mrTape mrRow mrRode mrWays mrLanes mrSizes mrCells mrBefore mSt mNow mIsKept mPeople mDraft mDPeople mHasDry mToldDebts mHighest mTape mTaped mPos mBegun mSort mValue mFault mWrongAt mPaid mRow mRingMuch mRideSum mOwedSum mAllWays mRode mWays mLanes mSizes mCells mTorn mBefore) (wX8 k mh mrSt mrNow mrIsKept mrDraft mrTape mrRow mrRode mrWays mrLanes mrSizes mrCells mrBefore mSt n_mNow mIsKept mPeople mDraft mDPeople mHasDry mToldDebts mHighest mTape mTaped mPos mBegun mSort mValue mFault mWrongAt n_mPaid mRow mRingMuch mRideSum mOwedSum mAllWays n_mRode mWays mLanes mSizes mCells mTorn mBefore) (some (.int r_)) := by
  refine mR_of (cc := cX8_earns) (maxL := 2) (ret := some .int) (by decide) rfl (Nat.le_of_ble_eq_true rfl) [(0, .ref mh), (1, .int p1)] rfl ?_
  intro p e s m below meth c A ls args Q cx hK hA hw hl hQ
  have fx := cx.1
  obtain ⟨⟨hx, hb, hml, hown, hts⟩, hr, hlocks⟩ := cx
  have h := hf
  unfold f_X8_earns at h
  clear hf
  refine lv_aload_n hx hb dX8_earns_0 rfl (lv_at hl 0 rfl) ?_
  refine lv_iload_n hx hb dX8_earns_1 rfl (lv_at hl 1 rfl) ?_
  obtain ⟨r_1, hf, h⟩ := b1_inv h
  refine k_callV (host := "") fx hK hA hw (c_X8_isOne l D k mh mrSt mrNow mrIsKept mrDraft mrTape mrRow mrRode mrWays mrLanes mrSizes mrCells mrBefore _ mSt mNow mIsKept mPeople mDraft mDPeople mHasDry mToldDebts mHighest mTape mTaped mPos mBegun mSort mValue mFault mWrongAt mPaid mRow mRingMuch mRideSum mOwedSum mAllWays mRode mWays mLanes mSizes mCells mTorn mBefore p1 r_1 hf) (cwV 1 hts gX8_earns_X8_isOne rfl rfl rfl (by decide +kernel) ⟨by decide, by decide⟩) (As := [.int p1]) (wr := []) (ws' := wX8 k mh mrSt mrNow mrIsKept mrDraft mrTape mrRow mrRode mrWays mrLanes mrSizes mrCells mrBefore mSt mNow mIsKept mPeople mDraft mDPeople mHasDry mToldDebts mHighest mTape mTaped mPos mBegun mSort mValue mFault mWrongAt mPaid mRow mRingMuch mRideSum mOwedSum mAllWays mRode mWays mLanes mSizes mCells mTorn mBefore) [0, 1, 2, 3, 4, 5, 6, 7, 8, 9, 10, 11, 12] [] [0, 1, 2, 3, 4, 5, 6, 7, 8, 9, 10, 11, 12] rfl rfl (by decide) (by decide) (by decide) rfl (by decide) 8 rfl rfl [] rfl hl.1 rfl (Nat.le_of_ble_eq_true rfl) dX8_earns_2 ⟨by decide, by decide⟩ (fun H locs (hw : Wd D A s.heap H locs (wX8 k mh mrSt mrNow mrIsKept mrDraft mrTape mrRow mrRode mrWays mrLanes mrSizes mrCells mrBefore mSt mNow mIsKept mPeople mDraft mDPeople mHasDry mToldDebts mHighest mTape mTaped mPos mBegun mSort mValue mFault mWrongAt mPaid mRow mRingMuch mRideSum mOwedSum mAllWays mRode mWays mLanes mSizes mCells mTorn mBefore)) => ?_)
  refine W.eq (g2 := F0 m 5 ls ([.int r_1])) rfl ?_
  refine kb_if_eq (tgt := 19) hx hb dX8_earns_5 (by decide) h (fun c_5 h => ?_) (fun c_5 h => ?_)
  · refine lv_iconst (v := (-1)) hx hb dX8_earns_19 (by decide) ?_
    cases h
    exact k_iret hx hb hr hlocks hw rfl dX8_earns_20 hQ
  · refine lv_aload_n hx hb dX8_earns_8 rfl (lv_at hl 0 rfl) ?_
    refine lv_iload_n hx hb dX8_earns_9 rfl (lv_at hl 1 rfl) ?_
    refine lv_iconst (v := 2) hx hb dX8_earns_10 (by decide) ?_
    refine lv_bipush (v := 9) hx hb dX8_earns_11 (by decide) ?_
    obtain ⟨r_2, mNow_3, mPaid_4, mRode_5, hf, h⟩ := b4_inv h
    refine k_callV (host := "") fx hK hA hw (c_X8_which l D k mh mrSt mrNow mrIsKept mrDraft mrTape mrRow mrRode mrWays mrLanes mrSizes mrCells mrBefore _ mSt mNow mIsKept mPeople mDraft mDPeople mHasDry mToldDebts mHighest mTape mTaped mPos mBegun mSort mValue mFault mWrongAt mPaid mRow mRingMuch mRideSum mOwedSum mAllWays mRode mWays mLanes mSizes mCells mTorn mBefore p1 2 9 r_2 mNow_3 mPaid_4 mRode_5 hf) (cwV 3 hts gX8_earns_X8_which rfl rfl rfl (by decide +kernel) ⟨by decide, by decide⟩) (As := [.int p1, .int 2, .int 9]) (wr := []) (ws' := wX8 k mh mrSt mrNow mrIsKept mrDraft mrTape mrRow mrRode mrWays mrLanes mrSizes mrCells mrBefore mSt mNow_3 mIsKept mPeople mDraft mDPeople mHasDry mToldDebts mHighest mTape mTaped mPos mBegun mSort mValue mFault mWrongAt mPaid_4 mRow mRingMuch mRideSum mOwedSum mAllWays mRode_5 mWays mLanes mSizes mCells mTorn mBefore) [0, 1, 2, 3, 4, 5, 6, 7, 8, 9, 10, 11, 12] [] [0, 1, 2, 3, 4, 5, 6, 7, 8, 9, 10, 11, 12] rfl rfl (by decide) (by decide) (by decide) rfl (by decide) 8 rfl rfl [] rfl hl.1 rfl (Nat.le_of_ble_eq_true rfl) dX8_earns_13 ⟨by decide, by decide⟩ (fun H locs (hw : Wd D A s.heap H locs (wX8 k mh mrSt mrNow mrIsKept mrDraft mrTape mrRow mrRode mrWays mrLanes mrSizes mrCells mrBefore mSt mNow_3 mIsKept mPeople mDraft mDPeople mHasDry mToldDebts mHighest mTape mTaped mPos mBegun mSort mValue mFault mWrongAt mPaid_4 mRow mRingMuch mRideSum mOwedSum mAllWays mRode_5 mWays mLanes mSizes mCells mTorn mBefore)) => ?_)
    refine W.eq (g2 := F0 m 16 ls ([.int r_2])) rfl ?_
    refine lv_goto (tgt := 20) hx hb dX8_earns_16 (by decide) ?_
    cases h
    exact k_iret hx hb hr hlocks hw rfl dX8_earns_20 hQ
abbrev rmX8_end : Room := { frames := 1, cells := 0, slots := 0, locals := 25 }
set_option maxHeartbeats 4000000 in
set_option maxRecDepth 100000 in
theorem c_X8_end (l : Launch) (D : va_G) (k : Nat → ClassId) (mh mrSt mrNow mrIsKept mrDraft mrTape mrRow mrRode mrWays mrLanes mrSizes mrCells mrBefore : Nat) (sz : Nat) (mSt : (Nat → Int32)) (mNow : (Nat → Int32)) (mIsKept : (Nat → Int32)) (mPeople : Int32) (mDraft : (Nat → Int32)) (mDPeople : Int32) (mHasDry : Int32) (mToldDebts : Int32) (mHighest : Int32) (mTape : (Nat → Int32)) (mTaped : Int32) (mPos : Int32) (mBegun : Int32) (mSort : Int32) (mValue : Int32) (mFault : Int32) (mWrongAt : Int32) (mPaid : Int32) (mRow : (Nat → Int32)) (mRingMuch : Int32) (mRideSum : Int64) (mOwedSum : Int64) (mAllWays : Int64) (mRode : (Nat → Int32)) (mWays : (Nat → Int32)) (mLanes : (Nat → Int32)) (mSizes : (Nat → Int32)) (mCells : (Nat → Int32)) (mTorn : Int32) (mBefore : (Nat → Int32)) (p1 : Int32) (r_ : Int32) (n_mTaped : Int32) (hf : f_X8_end mTaped p1 = some (r_, n_mTaped)) : mR l yX8_end wsX8_end rmX8_end D k sz [.ref mh, .int p1] (wX8 k mh mrSt mrNow mrIsKept mrDraft mrTape mrRow mrRode mrWays mrLanes mrSizes mrCells mrBefore mSt mNow mIsKept mPeople mDraft mDPeople mHasDry mToldDebts mHighest mTape mTaped mPos mBegun mSort mValue mFault mWrongAt mPaid mRow mRingMuch mRideSum mOwedSum mAllWays mRode mWays mLanes mSizes mCells mTorn mBefore) (wX8 k mh mrSt mrNow mrIsKept mrDraft mrTape mrRow mrRode mrWays mrLanes mrSizes mrCells mrBefore mSt mNow mIsKept mPeople mDraft mDPeople mHasDry mToldDebts mHighest mTape n_mTaped mPos mBegun mSort mValue mFault mWrongAt mPaid mRow mRingMuch mRideSum mOwedSum mAllWays mRode mWays mLanes mSizes mCells mTorn mBefore) (some (.int r_)) := by
  refine mR_of (cc := cX8_end) (maxL := 3) (ret := some .int) (by decide) rfl (Nat.le_of_ble_eq_true rfl) [(0, .ref mh), (1, .int p1)] rfl ?_
  intro p e s m below meth c A ls args Q cx hK hA hw hl hQ
  have fx := cx.1
  obtain ⟨⟨hx, hb, hml, hown, hts⟩, hr, hlocks⟩ := cx
  have hinX8 : ∀ w ∈ wsX80, w ∈ wsX8_end := fun w h => List.mem_cons_of_mem _ (List.mem_append_right _ h)
  have q_1 := hts (.fieldLink RX8 76 "DebtRidesModel" "taped" "I") (List.mem_of_getElem? (i := 1) rfl)
  have h := hf
  unfold f_X8_end at h
  clear hf
  refine lv_iload_n hx hb dX8_end_0 rfl (lv_at hl 1 rfl) ?_
  refine lv_i2l hx hb dX8_end_1 rfl ?_
  refine lv_lconst (v := 0) hx hb dX8_end_2 rfl ?_
  refine lv_aload_n hx hb dX8_end_3 rfl (lv_at hl 0 rfl) ?_
  refine va_get (ci := 8) (v := .int mTaped) (C := RX8) (T := TX8) (N := 30) hx hb hts hinX8 hown hK.1 hw.1 0 rfl rfl 10 (by decide) q_1 (fun _ h9 => h9) rfl dX8_end_4 ?_
  refine lv_i2l hx hb dX8_end_7 rfl ?_
  obtain ⟨r_1, hf, h⟩ := b1_inv h
  refine k_callS (b := 0) (C := "") (host := "") fx hK hA hw (c_X8_in l D k _ p1.toInt64 0 mTaped.toInt64 r_1 hf) (va_cwS 3 hts gX8_end_X8_in rfl rfl rfl (by decide +kernel) ⟨by decide, by decide⟩) (As := [.long p1.toInt64, .long 0, .long mTaped.toInt64]) (wr := [(mh, .inr (8, [.ref mrSt, .ref mrNow, .ref mrIsKept, .int mPeople, .ref mrDraft, .int mDPeople, .int mHasDry, .int mToldDebts, .int mHighest, .ref mrTape, .int mTaped, .int mPos, .int mBegun, .int mSort, .int mValue, .int mFault, .int mWrongAt, .int mPaid, .ref mrRow, .int mRingMuch, .long mRideSum, .long mOwedSum, .long mAllWays, .ref mrRode, .ref mrWays, .ref mrLanes, .ref mrSizes, .ref mrCells, .int mTorn, .ref mrBefore])), (mrSt, .inl (k 0, 183, .inl mSt)), (mrNow, .inl (k 0, 61, .inl mNow)), (mrIsKept, .inl (k 1, 2, .inl mIsKept)), (mrDraft, .inl (k 0, 61, .inl mDraft)), (mrTape, .inl (k 0, 160, .inl mTape)), (mrRow, .inl (k 0, 5, .inl mRow)), (mrRode, .inl (k 0, 31, .inl mRode)), (mrWays, .inl (k 0, 31, .inl mWays)), (mrLanes, .inl (k 0, 4, .inl mLanes)), (mrSizes, .inl (k 0, 4, .inl mSizes)), (mrCells, .inl (k 0, 160, .inl mCells)), (mrBefore, .inl (k 0, 61, .inl mBefore))]) (ws' := wX8 k mh mrSt mrNow mrIsKept mrDraft mrTape mrRow mrRode mrWays mrLanes mrSizes mrCells mrBefore mSt mNow mIsKept mPeople mDraft mDPeople mHasDry mToldDebts mHighest mTape mTaped mPos mBegun mSort mValue mFault mWrongAt mPaid mRow mRingMuch mRideSum mOwedSum mAllWays mRode mWays mLanes mSizes mCells mTorn mBefore) [] [0, 1, 2, 3, 4, 5, 6, 7, 8, 9, 10, 11, 12] [0, 1, 2, 3, 4, 5, 6, 7, 8, 9, 10, 11, 12] rfl rfl (by decide) (by decide) (by decide) rfl (by decide) [] rfl hl.1 rfl (Nat.le_of_ble_eq_true rfl) dX8_end_8 ⟨by decide, by decide⟩ (fun H locs (hw : Wd D A s.heap H locs (wX8 k mh mrSt mrNow mrIsKept mrDraft mrTape mrRow mrRode mrWays mrLanes mrSizes mrCells mrBefore mSt mNow mIsKept mPeople mDraft mDPeople mHasDry mToldDebts mHighest mTape mTaped mPos mBegun mSort mValue mFault mWrongAt mPaid mRow mRingMuch mRideSum mOwedSum mAllWays mRode mWays mLanes mSizes mCells mTorn mBefore)) => ?_)
  refine W.eq (g2 := F0 m 11 ls ([.int r_1])) rfl ?_
  refine kb_if_ne (tgt := 16) hx hb dX8_end_11 (by decide) h (fun c_11 h => ?_) (fun c_11 h => ?_)
  · refine lv_iconst (v := (-1)) hx hb dX8_end_14 (by decide) ?_
    cases h
    exact k_iret hx hb hr hlocks hw rfl dX8_end_15 hQ
  · refine lv_aload_n hx hb dX8_end_16 rfl (lv_at hl 0 rfl) ?_
    refine va_get (ci := 8) (v := .int mTaped) (C := RX8) (T := TX8) (N := 30) hx hb hts hinX8 hown hK.1 hw.1 0 rfl rfl 10 (by decide) q_1 (fun _ h9 => h9) rfl dX8_end_17 ?_
    refine lv_istore_n (lv' := [(2, .int mTaped), (0, .ref mh), (1, .int p1)]) hx hb dX8_end_20 rfl hl (by decide) rfl (fun ls hl => ?_)
    refine lv_aload_n hx hb dX8_end_21 rfl (lv_at hl 1 rfl) ?_
    refine lv_iload_n hx hb dX8_end_22 rfl (lv_at hl 2 rfl) ?_
    refine va_put (ci := 8) (v := .int p1) (ty := tyX8 10) (C := RX8) (T := TX8) (N := 30) hx hb hts hinX8 tyX8 tyX8_ok nmX8 hown hK.1 hw.1 hw.2.1 hw.2.2 0 rfl rfl 10 (by decide) q_1 (fun _ h9 => h9) rfl (tyX8_ok 10 (by decide)) rfl rfl (Nat.le_of_ble_eq_true rfl) dX8_end_23 (fun H locs hP hD hS => ?_)
    have hw : Wd D A s.heap H locs (wX8 k mh mrSt mrNow mrIsKept mrDraft mrTape mrRow mrRode mrWays mrLanes mrSizes mrCells mrBefore mSt mNow mIsKept mPeople mDraft mDPeople mHasDry mToldDebts mHighest mTape p1 mPos mBegun mSort mValue mFault mWrongAt mPaid mRow mRingMuch mRideSum mOwedSum mAllWays mRode mWays mLanes mSizes mCells mTorn mBefore) := ⟨hP, hD, hS⟩
    refine lv_iload_n hx hb dX8_end_26 rfl (lv_at hl 0 rfl) ?_
    cases h
    exact k_iret hx hb hr hlocks hw rfl dX8_end_27 hQ
abbrev rmX8_ends : Room := { frames := 1, cells := 0, slots := 0, locals := 21 }
set_option maxHeartbeats 4000000 in
set_option maxRecDepth 100000 in
theorem c_X8_ends (l : Launch) (D : va_G) (k : Nat → ClassId) (mh mrSt mrNow mrIsKept mrDraft mrTape mrRow mrRode mrWays mrLanes mrSizes mrCells mrBefore : Nat) (sz : Nat) (mSt : (Nat → Int32)) (mNow : (Nat → Int32)) (mIsKept : (Nat → Int32)) (mPeople : Int32) (mDraft : (Nat → Int32)) (mDPeople : Int32) (mHasDry : Int32) (mToldDebts : Int32) (mHighest : Int32) (mTape : (Nat → Int32)) (mTaped : Int32) (mPos : Int32) (mBegun : Int32) (mSort : Int32) (mValue : Int32) (mFault : Int32) (mWrongAt : Int32) (mPaid : Int32) (mRow : (Nat → Int32)) (mRingMuch : Int32) (mRideSum : Int64) (mOwedSum : Int64) (mAllWays : Int64) (mRode : (Nat → Int32)) (mWays : (Nat → Int32)) (mLanes : (Nat → Int32)) (mSizes : (Nat → Int32)) (mCells : (Nat → Int32)) (mTorn : Int32) (mBefore : (Nat → Int32)) (p1 : Int32) (p2 : Int32) (p3 : Int32) (r_ : Int32) (hf : f_X8_ends mTape mTaped mBegun p1 p2 p3 = some r_) : mR l yX8_ends wsX8_ends rmX8_ends D k sz [.ref mh, .int p1, .int p2, .int p3] (wX8 k mh mrSt mrNow mrIsKept mrDraft mrTape mrRow mrRode mrWays mrLanes mrSizes mrCells mrBefore mSt mNow mIsKept mPeople mDraft mDPeople mHasDry mToldDebts mHighest mTape mTaped mPos mBegun mSort mValue mFault mWrongAt mPaid mRow mRingMuch mRideSum mOwedSum mAllWays mRode mWays mLanes mSizes mCells mTorn mBefore) (wX8 k mh mrSt mrNow mrIsKept mrDraft mrTape mrRow mrRode mrWays mrLanes mrSizes mrCells mrBefore mSt mNow mIsKept mPeople mDraft mDPeople mHasDry mToldDebts mHighest mTape mTaped mPos mBegun mSort mValue mFault mWrongAt mPaid mRow mRingMuch mRideSum mOwedSum mAllWays mRode mWays mLanes mSizes mCells mTorn mBefore) (some (.int r_)) := by
  refine mR_of (cc := cX8_ends) (maxL := 4) (ret := some .boolean) (by decide) rfl (Nat.le_of_ble_eq_true rfl) [(0, .ref mh), (1, .int p1), (2, .int p2), (3, .int p3)] rfl ?_
  intro p e s m below meth c A ls args Q cx hK hA hw hl hQ
  have fx := cx.1
  obtain ⟨⟨hx, hb, hml, hown, hts⟩, hr, hlocks⟩ := cx
  have hinX8 : ∀ w ∈ wsX80, w ∈ wsX8_ends := fun w h => List.mem_cons_of_mem _ (List.mem_append_right _ h)
  have q_1 := hts (.fieldLink RX8 82 "DebtRidesModel" "begun" "I") (List.mem_of_getElem? (i := 1) rfl)
  have h := hf
  unfold f_X8_ends at h
  clear hf
  refine lv_aload_n hx hb dX8_ends_0 rfl (lv_at hl 0 rfl) ?_
  refine lv_aload_n hx hb dX8_ends_1 rfl (lv_at hl 0 rfl) ?_
  refine va_get (ci := 8) (v := .int mBegun) (C := RX8) (T := TX8) (N := 30) hx hb hts hinX8 hown hK.1 hw.1 0 rfl rfl 12 (by decide) q_1 (fun _ h9 => h9) rfl dX8_ends_2 ?_
  refine lv_iconst (v := 3) hx hb dX8_ends_5 (by decide) ?_
  refine lv_iadd hx hb dX8_ends_6 ?_
  obtain ⟨r_1, hf, h⟩ := b1_inv h
  refine k_callV (host := "") fx hK hA hw (c_X8_byteAt l D k mh mrSt mrNow mrIsKept mrDraft mrTape mrRow mrRode mrWays mrLanes mrSizes mrCells mrBefore _ mSt mNow mIsKept mPeople mDraft mDPeople mHasDry mToldDebts mHighest mTape mTaped mPos mBegun mSort mValue mFault mWrongAt mPaid mRow mRingMuch mRideSum mOwedSum mAllWays mRode mWays mLanes mSizes mCells mTorn mBefore (mBegun + 3) r_1 hf) (cwV 1 hts gX8_ends_X8_byteAt rfl rfl rfl (by decide +kernel) ⟨by decide, by decide⟩) (As := [.int (mBegun + 3)]) (wr := []) (ws' := wX8 k mh mrSt mrNow mrIsKept mrDraft mrTape mrRow mrRode mrWays mrLanes mrSizes mrCells mrBefore mSt mNow mIsKept mPeople mDraft mDPeople mHasDry mToldDebts mHighest mTape mTaped mPos mBegun mSort mValue mFault mWrongAt mPaid mRow mRingMuch mRideSum mOwedSum mAllWays mRode mWays mLanes mSizes mCells mTorn mBefore) [0, 1, 2, 3, 4, 5, 6, 7, 8, 9, 10, 11, 12] [] [0, 1, 2, 3, 4, 5, 6, 7, 8, 9, 10, 11, 12] rfl rfl (by decide) (by decide) (by decide) rfl (by decide) 8 rfl rfl [] rfl hl.1 rfl (Nat.le_of_ble_eq_true rfl) dX8_ends_7 ⟨by decide, by decide⟩ (fun H locs (hw : Wd D A s.heap H locs (wX8 k mh mrSt mrNow mrIsKept mrDraft mrTape mrRow mrRode mrWays mrLanes mrSizes mrCells mrBefore mSt mNow mIsKept mPeople mDraft mDPeople mHasDry mToldDebts mHighest mTape mTaped mPos mBegun mSort mValue mFault mWrongAt mPaid mRow mRingMuch mRideSum mOwedSum mAllWays mRode mWays mLanes mSizes mCells mTorn mBefore)) => ?_)
  refine W.eq (g2 := F0 m 10 ls ([.int r_1])) rfl ?_
  refine lv_iload_n hx hb dX8_ends_10 rfl (lv_at hl 1 rfl) ?_
  refine kb_icmp_ne (tgt := 54) hx hb dX8_ends_11 (by decide) h (fun c_11 h => ?_) (fun c_11 h => ?_)
  · refine lv_iload_n hx hb dX8_ends_14 rfl (lv_at hl 2 rfl) ?_
    have T_32 : f_X8_ends_B32 mTape mTaped mBegun p3 = some r_ → ∀ (H : Heap) (locs : List Loc) (ls : Array Slot), Wd D A s.heap H locs (wX8 k mh mrSt mrNow mrIsKept mrDraft mrTape mrRow mrRode mrWays mrLanes mrSizes mrCells mrBefore mSt mNow mIsKept mPeople mDraft mDPeople mHasDry mToldDebts mHighest mTape mTaped mPos mBegun mSort mValue mFault mWrongAt mPaid mRow mRingMuch mRideSum mOwedSum mAllWays mRode mWays mLanes mSizes mCells mTorn mBefore) → lv_has ls 4 [(0, .ref mh), (3, .int p3)] → W p l e rmX8_ends s m args below meth c H locs 0 0 Q (F0 m 32 ls []) := by
      clear h
      intro h H locs ls hw hl
      unfold f_X8_ends_B32 at h
      refine lv_iload_n hx hb dX8_ends_32 rfl (lv_at hl 1 rfl) ?_
      refine kb_if_eq (tgt := 50) hx hb dX8_ends_33 (by decide) h (fun c_33 h => ?_) (fun c_33 h => ?_)
      · refine lv_iconst (v := 1) hx hb dX8_ends_50 (by decide) ?_
        refine lv_goto (tgt := 55) hx hb dX8_ends_51 (by decide) ?_
        cases h
        exact k_zret hx hb hr hlocks hw (by decide) rfl dX8_ends_55 hQ
      · refine lv_aload_n hx hb dX8_ends_36 rfl (lv_at hl 0 rfl) ?_
        refine lv_aload_n hx hb dX8_ends_37 rfl (lv_at hl 0 rfl) ?_
        refine va_get (ci := 8) (v := .int mBegun) (C := RX8) (T := TX8) (N := 30) hx hb hts hinX8 hown hK.1 hw.1 0 rfl rfl 12 (by decide) q_1 (fun _ h9 => h9) rfl dX8_ends_38 ?_
        refine lv_iconst (v := 5) hx hb dX8_ends_41 (by decide) ?_
        refine lv_iadd hx hb dX8_ends_42 ?_
        obtain ⟨r_2, hf, h⟩ := b1_inv h
        refine k_callV (host := "") fx hK hA hw (c_X8_byteAt l D k mh mrSt mrNow mrIsKept mrDraft mrTape mrRow mrRode mrWays mrLanes mrSizes mrCells mrBefore _ mSt mNow mIsKept mPeople mDraft mDPeople mHasDry mToldDebts mHighest mTape mTaped mPos mBegun mSort mValue mFault mWrongAt mPaid mRow mRingMuch mRideSum mOwedSum mAllWays mRode mWays mLanes mSizes mCells mTorn mBefore (mBegun + 5) r_2 hf) (cwV 1 hts gX8_ends_X8_byteAt rfl rfl rfl (by decide +kernel) ⟨by decide, by decide⟩) (As := [.int (mBegun + 5)]) (wr := []) (ws' := wX8 k mh mrSt mrNow mrIsKept mrDraft mrTape mrRow mrRode mrWays mrLanes mrSizes mrCells mrBefore mSt mNow mIsKept mPeople mDraft mDPeople mHasDry mToldDebts mHighest mTape mTaped mPos mBegun mSort mValue mFault mWrongAt mPaid mRow mRingMuch mRideSum mOwedSum mAllWays mRode mWays mLanes mSizes mCells mTorn mBefore) [0, 1, 2, 3, 4, 5, 6, 7, 8, 9, 10, 11, 12] [] [0, 1, 2, 3, 4, 5, 6, 7, 8, 9, 10, 11, 12] rfl rfl (by decide) (by decide) (by decide) rfl (by decide) 8 rfl rfl [] rfl hl.1 rfl (Nat.le_of_ble_eq_true rfl) dX8_ends_43 ⟨by decide, by decide⟩ (fun H locs (hw : Wd D A s.heap H locs (wX8 k mh mrSt mrNow mrIsKept mrDraft mrTape mrRow mrRode mrWays mrLanes mrSizes mrCells mrBefore mSt mNow mIsKept mPeople mDraft mDPeople mHasDry mToldDebts mHighest mTape mTaped mPos mBegun mSort mValue mFault mWrongAt mPaid mRow mRingMuch mRideSum mOwedSum mAllWays mRode mWays mLanes mSizes mCells mTorn mBefore)) => ?_)
        refine W.eq (g2 := F0 m 46 ls ([.int r_2])) rfl ?_
        refine lv_iload_n hx hb dX8_ends_46 rfl (lv_at hl 1 rfl) ?_
        refine kb_icmp_ne (tgt := 54) hx hb dX8_ends_47 (by decide) h (fun c_47 h => ?_) (fun c_47 h => ?_)
        · refine lv_iconst (v := 1) hx hb dX8_ends_50 (by decide) ?_
          refine lv_goto (tgt := 55) hx hb dX8_ends_51 (by decide) ?_
          cases h
          exact k_zret hx hb hr hlocks hw (by decide) rfl dX8_ends_55 hQ
        · refine lv_iconst (v := 0) hx hb dX8_ends_54 (by decide) ?_
          cases h
          exact k_zret hx hb hr hlocks hw (by decide) rfl dX8_ends_55 hQ
    refine kb_if_eq (tgt := 32) hx hb dX8_ends_15 (by decide) h (fun c_15 h => ?_) (fun c_15 h => ?_)
    · exact T_32 h _ _ _ hw (lv_sub hl [0, 3] rfl)
    · refine lv_aload_n hx hb dX8_ends_18 rfl (lv_at hl 0 rfl) ?_
      refine lv_aload_n hx hb dX8_ends_19 rfl (lv_at hl 0 rfl) ?_
      refine va_get (ci := 8) (v := .int mBegun) (C := RX8) (T := TX8) (N := 30) hx hb hts hinX8 hown hK.1 hw.1 0 rfl rfl 12 (by decide) q_1 (fun _ h9 => h9) rfl dX8_ends_20 ?_
      refine lv_iconst (v := 4) hx hb dX8_ends_23 (by decide) ?_
      refine lv_iadd hx hb dX8_ends_24 ?_
      obtain ⟨r_3, hf, h⟩ := b1_inv h
      refine k_callV (host := "") fx hK hA hw (c_X8_byteAt l D k mh mrSt mrNow mrIsKept mrDraft mrTape mrRow mrRode mrWays mrLanes mrSizes mrCells mrBefore _ mSt mNow mIsKept mPeople mDraft mDPeople mHasDry mToldDebts mHighest mTape mTaped mPos mBegun mSort mValue mFault mWrongAt mPaid mRow mRingMuch mRideSum mOwedSum mAllWays mRode mWays mLanes mSizes mCells mTorn mBefore (mBegun + 4) r_3 hf) (cwV 1 hts gX8_ends_X8_byteAt rfl rfl rfl (by decide +kernel) ⟨by decide, by decide⟩) (As := [.int (mBegun + 4)]) (wr := []) (ws' := wX8 k mh mrSt mrNow mrIsKept mrDraft mrTape mrRow mrRode mrWays mrLanes mrSizes mrCells mrBefore mSt mNow mIsKept mPeople mDraft mDPeople mHasDry mToldDebts mHighest mTape mTaped mPos mBegun mSort mValue mFault mWrongAt mPaid mRow mRingMuch mRideSum mOwedSum mAllWays mRode mWays mLanes mSizes mCells mTorn mBefore) [0, 1, 2, 3, 4, 5, 6, 7, 8, 9, 10, 11, 12] [] [0, 1, 2, 3, 4, 5, 6, 7, 8, 9, 10, 11, 12] rfl rfl (by decide) (by decide) (by decide) rfl (by decide) 8 rfl rfl [] rfl hl.1 rfl (Nat.le_of_ble_eq_true rfl) dX8_ends_25 ⟨by decide, by decide⟩ (fun H locs (hw : Wd D A s.heap H locs (wX8 k mh mrSt mrNow mrIsKept mrDraft mrTape mrRow mrRode mrWays mrLanes mrSizes mrCells mrBefore mSt mNow mIsKept mPeople mDraft mDPeople mHasDry mToldDebts mHighest mTape mTaped mPos mBegun mSort mValue mFault mWrongAt mPaid mRow mRingMuch mRideSum mOwedSum mAllWays mRode mWays mLanes mSizes mCells mTorn mBefore)) => ?_)
      refine W.eq (g2 := F0 m 28 ls ([.int r_3])) rfl ?_
      refine lv_iload_n hx hb dX8_ends_28 rfl (lv_at hl 2 rfl) ?_
      refine kb_icmp_ne (tgt := 54) hx hb dX8_ends_29 (by decide) h (fun c_29 h => ?_) (fun c_29 h => ?_)
      · exact T_32 h _ _ _ hw (lv_sub hl [0, 3] rfl)
      · refine lv_iconst (v := 0) hx hb dX8_ends_54 (by decide) ?_
        cases h
        exact k_zret hx hb hr hlocks hw (by decide) rfl dX8_ends_55 hQ
  · refine lv_iconst (v := 0) hx hb dX8_ends_54 (by decide) ?_
    cases h
    exact k_zret hx hb hr hlocks hw (by decide) rfl dX8_ends_55 hQ
abbrev rmX8_fault : Room := { frames := 0, cells := 0, slots := 0, locals := 0 }
set_option maxHeartbeats 4000000 in
set_option maxRecDepth 100000 in
theorem c_X8_fault (l : Launch) (D : va_G) (k : Nat → ClassId) (mh mrSt mrNow mrIsKept mrDraft mrTape mrRow mrRode mrWays mrLanes mrSizes mrCells mrBefore : Nat) (sz : Nat) (mSt : (Nat → Int32)) (mNow : (Nat → Int32)) (mIsKept : (Nat → Int32)) (mPeople : Int32) (mDraft : (Nat → Int32)) (mDPeople : Int32) (mHasDry : Int32) (mToldDebts : Int32) (mHighest : Int32) (mTape : (Nat → Int32)) (mTaped : Int32) (mPos : Int32) (mBegun : Int32) (mSort : Int32) (mValue : Int32) (mFault : Int32) (mWrongAt : Int32) (mPaid : Int32) (mRow : (Nat → Int32)) (mRingMuch : Int32) (mRideSum : Int64) (mOwedSum : Int64) (mAllWays : Int64) (mRode : (Nat → Int32)) (mWays : (Nat → Int32)) (mLanes : (Nat → Int32)) (mSizes : (Nat → Int32)) (mCells : (Nat → Int32)) (mTorn : Int32) (mBefore : (Nat → Int32)) (r_ : Int32) (hf : f_X8_fault mFault = some r_) : mR l yX8_fault wsX8_fault rmX8_fault D k sz [.ref mh] (wX8 k mh mrSt mrNow mrIsKept mrDraft mrTape mrRow mrRode mrWays mrLanes mrSizes mrCells mrBefore mSt mNow mIsKept mPeople mDraft mDPeople mHasDry mToldDebts mHighest mTape mTaped mPos mBegun mSort mValue mFault mWrongAt mPaid mRow mRingMuch mRideSum mOwedSum mAllWays mRode mWays mLanes mSizes mCells mTorn mBefore) (wX8 k mh mrSt mrNow mrIsKept mrDraft mrTape mrRow mrRode mrWays mrLanes mrSizes mrCells mrBefore mSt mNow mIsKept mPeople mDraft mDPeople mHasDry mToldDebts mHighest mTape mTaped mPos mBegun mSort mValue mFault mWrongAt mPaid mRow mRingMuch mRideSum mOwedSum mAllWays mRode mWays mLanes mSizes mCells mTorn mBefore) (some (.int r_)) := by
  refine mR_of (cc := cX8_fault) (maxL := 1) (ret := some .int) (by decide) rfl (Nat.le_of_ble_eq_true rfl) [(0, .ref mh)] rfl ?_
  intro p e s m below meth c A ls args Q cx hK hA hw hl hQ
  have fx := cx.1
  obtain ⟨⟨hx, hb, hml, hown, hts⟩, hr, hlocks⟩ := cx
  have hinX8 : ∀ w ∈ wsX80, w ∈ wsX8_fault := fun w h => List.mem_cons_of_mem _ (List.mem_append_right _ h)
  have q_1 := hts (.fieldLink RX8 79 "DebtRidesModel" "fault" "I") (List.mem_of_getElem? (i := 1) rfl)
  have h := hf
  unfold f_X8_fault at h
  clear hf
  refine lv_aload_n hx hb dX8_fault_0 rfl (lv_at hl 0 rfl) ?_
  refine va_get (ci := 8) (v := .int mFault) (C := RX8) (T := TX8) (N := 30) hx hb hts hinX8 hown hK.1 hw.1 0 rfl rfl 15 (by decide) q_1 (fun _ h9 => h9) rfl dX8_fault_1 ?_
  cases h
  exact k_iret hx hb hr hlocks hw rfl dX8_fault_4 hQ
abbrev rmX8_feed : Room := { frames := 1, cells := 0, slots := 0, locals := 25 }
set_option maxHeartbeats 4000000 in
set_option maxRecDepth 100000 in
theorem c_X8_feed (l : Launch) (D : va_G) (k : Nat → ClassId) (mh mrSt mrNow mrIsKept mrDraft mrTape mrRow mrRode mrWays mrLanes mrSizes mrCells mrBefore : Nat) (sz : Nat) (mSt : (Nat → Int32)) (mNow : (Nat → Int32)) (mIsKept : (Nat → Int32)) (mPeople : Int32) (mDraft : (Nat → Int32)) (mDPeople : Int32) (mHasDry : Int32) (mToldDebts : Int32) (mHighest : Int32) (mTape : (Nat → Int32)) (mTaped : Int32) (mPos : Int32) (mBegun : Int32) (mSort : Int32) (mValue : Int32) (mFault : Int32) (mWrongAt : Int32) (mPaid : Int32) (mRow : (Nat → Int32)) (mRingMuch : Int32) (mRideSum : Int64) (mOwedSum : Int64) (mAllWays : Int64) (mRode : (Nat → Int32)) (mWays : (Nat → Int32)) (mLanes : (Nat → Int32)) (mSizes : (Nat → Int32)) (mCells : (Nat → Int32)) (mTorn : Int32) (mBefore : (Nat → Int32)) (p1 : Int32) (r_ : Int32) (n_mTape : (Nat → Int32)) (n_mTaped : Int32) (hf : f_X8_feed mTape mTaped p1 = some (r_, n_mTape, n_mTaped)) : mR l yX8_feed wsX8_feed rmX8_feed D k sz [.ref mh, .int p1] (wX8 k mh mrSt mrNow mrIsKept mrDraft mrTape mrRow mrRode mrWays mrLanes mrSizes mrCells mrBefore mSt mNow mIsKept mPeople mDraft mDPeople mHasDry mToldDebts mHighest mTape mTaped mPos mBegun mSort mValue mFault mWrongAt mPaid mRow mRingMuch mRideSum mOwedSum mAllWays mRode mWays mLanes mSizes mCells mTorn mBefore) (wX8 k mh mrSt mrNow mrIsKept mrDraft mrTape mrRow mrRode mrWays mrLanes mrSizes mrCells mrBefore mSt mNow mIsKept mPeople mDraft mDPeople mHasDry mToldDebts mHighest n_mTape n_mTaped mPos mBegun mSort mValue mFault mWrongAt mPaid mRow mRingMuch mRideSum mOwedSum mAllWays mRode mWays mLanes mSizes mCells mTorn mBefore) (some (.int r_)) := by
  refine mR_of (cc := cX8_feed) (maxL := 2) (ret := some .int) (by decide) rfl (Nat.le_of_ble_eq_true rfl) [(0, .ref mh), (1, .int p1)] rfl ?_
  intro p e s m below meth c A ls args Q cx hK hA hw hl hQ
  have fx := cx.1
  obtain ⟨⟨hx, hb, hml, hown, hts⟩, hr, hlocks⟩ := cx
  have hinX8 : ∀ w ∈ wsX80, w ∈ wsX8_feed := fun w h => List.mem_cons_of_mem _ (List.mem_append_right _ h)
  have q_1 := hts (.constantLong RX8 70 (127)) (List.mem_of_getElem? (i := 1) rfl)
  have q_2 := hts (.fieldLink RX8 76 "DebtRidesModel" "taped" "I") (List.mem_of_getElem? (i := 2) rfl)
  have q_3 := hts (.fieldLink RX8 23 "DebtRidesModel" "tape" "[I") (List.mem_of_getElem? (i := 3) rfl)
  have h := hf
  unfold f_X8_feed at h
  clear hf
  refine lv_iload_n hx hb dX8_feed_0 rfl (lv_at hl 1 rfl) ?_
  refine lv_i2l hx hb dX8_feed_1 rfl ?_
  refine lv_lconst (v := 0) hx hb dX8_feed_2 rfl ?_
  refine lv_ldc2 (v := 127) hx hb hown q_1 dX8_feed_3 ?_
  obtain ⟨r_1, hf, h⟩ := b1_inv h
  refine k_callS (b := 0) (C := "") (host := "") fx hK hA hw (c_X8_in l D k _ p1.toInt64 0 127 r_1 hf) (va_cwS 3 hts gX8_feed_X8_in rfl rfl rfl (by decide +kernel) ⟨by decide, by decide⟩) (As := [.long p1.toInt64, .long 0, .long 127]) (wr := [(mh, .inr (8, [.ref mrSt, .ref mrNow, .ref mrIsKept, .int mPeople, .ref mrDraft, .int mDPeople, .int mHasDry, .int mToldDebts, .int mHighest, .ref mrTape, .int mTaped, .int mPos, .int mBegun, .int mSort, .int mValue, .int mFault, .int mWrongAt, .int mPaid, .ref mrRow, .int mRingMuch, .long mRideSum, .long mOwedSum, .long mAllWays, .ref mrRode, .ref mrWays, .ref mrLanes, .ref mrSizes, .ref mrCells, .int mTorn, .ref mrBefore])), (mrSt, .inl (k 0, 183, .inl mSt)), (mrNow, .inl (k 0, 61, .inl mNow)), (mrIsKept, .inl (k 1, 2, .inl mIsKept)), (mrDraft, .inl (k 0, 61, .inl mDraft)), (mrTape, .inl (k 0, 160, .inl mTape)), (mrRow, .inl (k 0, 5, .inl mRow)), (mrRode, .inl (k 0, 31, .inl mRode)), (mrWays, .inl (k 0, 31, .inl mWays)), (mrLanes, .inl (k 0, 4, .inl mLanes)), (mrSizes, .inl (k 0, 4, .inl mSizes)), (mrCells, .inl (k 0, 160, .inl mCells)), (mrBefore, .inl (k 0, 61, .inl mBefore))]) (ws' := wX8 k mh mrSt mrNow mrIsKept mrDraft mrTape mrRow mrRode mrWays mrLanes mrSizes mrCells mrBefore mSt mNow mIsKept mPeople mDraft mDPeople mHasDry mToldDebts mHighest mTape mTaped mPos mBegun mSort mValue mFault mWrongAt mPaid mRow mRingMuch mRideSum mOwedSum mAllWays mRode mWays mLanes mSizes mCells mTorn mBefore) [] [0, 1, 2, 3, 4, 5, 6, 7, 8, 9, 10, 11, 12] [0, 1, 2, 3, 4, 5, 6, 7, 8, 9, 10, 11, 12] rfl rfl (by decide) (by decide) (by decide) rfl (by decide) [] rfl hl.1 rfl (Nat.le_of_ble_eq_true rfl) dX8_feed_6 ⟨by decide, by decide⟩ (fun H locs (hw : Wd D A s.heap H locs (wX8 k mh mrSt mrNow mrIsKept mrDraft mrTape mrRow mrRode mrWays mrLanes mrSizes mrCells mrBefore mSt mNow mIsKept mPeople mDraft mDPeople mHasDry mToldDebts mHighest mTape mTaped mPos mBegun mSort mValue mFault mWrongAt mPaid mRow mRingMuch mRideSum mOwedSum mAllWays mRode mWays mLanes mSizes mCells mTorn mBefore)) => ?_)
  refine W.eq (g2 := F0 m 9 ls ([.int r_1])) rfl ?_
  refine kb_if_ne (tgt := 14) hx hb dX8_feed_9 (by decide) h (fun c_9 h => ?_) (fun c_9 h => ?_)
  · refine lv_iconst (v := (-1)) hx hb dX8_feed_12 (by decide) ?_
    cases h
    exact k_iret hx hb hr hlocks hw rfl dX8_feed_13 hQ
  · refine lv_aload_n hx hb dX8_feed_14 rfl (lv_at hl 0 rfl) ?_
    refine va_get (ci := 8) (v := .int mTaped) (C := RX8) (T := TX8) (N := 30) hx hb hts hinX8 hown hK.1 hw.1 0 rfl rfl 10 (by decide) q_2 (fun _ h9 => h9) rfl dX8_feed_15 ?_
    refine lv_sipush (v := 160) hx hb dX8_feed_18 (by decide) ?_
    refine kb_icmp_ne (tgt := 27) hx hb dX8_feed_21 (by decide) h (fun c_21 h => ?_) (fun c_21 h => ?_)
    · refine lv_bipush (v := (-3)) hx hb dX8_feed_24 (by decide) ?_
      cases h
      exact k_iret hx hb hr hlocks hw rfl dX8_feed_26 hQ
    · refine lv_aload_n hx hb dX8_feed_27 rfl (lv_at hl 0 rfl) ?_
      refine va_get (ci := 8) (v := .ref mrTape) (C := RX8) (T := TX8) (N := 30) hx hb hts hinX8 hown hK.1 hw.1 0 rfl rfl 9 (by decide) q_3 (fun _ h9 => h9) rfl dX8_feed_28 ?_
      refine lv_aload_n hx hb dX8_feed_31 rfl (lv_at hl 0 rfl) ?_
      refine va_get (ci := 8) (v := .int mTaped) (C := RX8) (T := TX8) (N := 30) hx hb hts hinX8 hown hK.1 hw.1 0 rfl rfl 10 (by decide) q_2 (fun _ h9 => h9) rfl dX8_feed_32 ?_
      refine lv_iload_n hx hb dX8_feed_35 rfl (lv_at hl 1 rfl) ?_
      refine k_iast hx hb hK hw 5 rfl dX8_feed_36 h (fun mTape_2 h H locs (hw : Wd D A s.heap H locs (wX8 k mh mrSt mrNow mrIsKept mrDraft mrTape mrRow mrRode mrWays mrLanes mrSizes mrCells mrBefore mSt mNow mIsKept mPeople mDraft mDPeople mHasDry mToldDebts mHighest mTape_2 mTaped mPos mBegun mSort mValue mFault mWrongAt mPaid mRow mRingMuch mRideSum mOwedSum mAllWays mRode mWays mLanes mSizes mCells mTorn mBefore)) => ?_)
      refine lv_aload_n hx hb dX8_feed_37 rfl (lv_at hl 0 rfl) ?_
      refine lv_dup hx hb dX8_feed_38 rfl ?_
      refine va_get (ci := 8) (v := .int mTaped) (C := RX8) (T := TX8) (N := 30) hx hb hts hinX8 hown hK.1 hw.1 0 rfl rfl 10 (by decide) q_2 (fun _ h9 => h9) rfl dX8_feed_39 ?_
      refine lv_iconst (v := 1) hx hb dX8_feed_42 (by decide) ?_
      refine lv_iadd hx hb dX8_feed_43 ?_
      refine va_put (ci := 8) (v := .int (mTaped + 1)) (ty := tyX8 10) (C := RX8) (T := TX8) (N := 30) hx hb hts hinX8 tyX8 tyX8_ok nmX8 hown hK.1 hw.1 hw.2.1 hw.2.2 0 rfl rfl 10 (by decide) q_2 (fun _ h9 => h9) rfl (tyX8_ok 10 (by decide)) rfl rfl (Nat.le_of_ble_eq_true rfl) dX8_feed_44 (fun H locs hP hD hS => ?_)
      have hw : Wd D A s.heap H locs (wX8 k mh mrSt mrNow mrIsKept mrDraft mrTape mrRow mrRode mrWays mrLanes mrSizes mrCells mrBefore mSt mNow mIsKept mPeople mDraft mDPeople mHasDry mToldDebts mHighest mTape_2 (mTaped + 1) mPos mBegun mSort mValue mFault mWrongAt mPaid mRow mRingMuch mRideSum mOwedSum mAllWays mRode mWays mLanes mSizes mCells mTorn mBefore) := ⟨hP, hD, hS⟩
      refine lv_aload_n hx hb dX8_feed_47 rfl (lv_at hl 0 rfl) ?_
      refine va_get (ci := 8) (v := .int (mTaped + 1)) (C := RX8) (T := TX8) (N := 30) hx hb hts hinX8 hown hK.1 hw.1 0 rfl rfl 10 (by decide) q_2 (fun _ h9 => h9) rfl dX8_feed_48 ?_
      cases h
      exact k_iret hx hb hr hlocks hw rfl dX8_feed_51 hQ
abbrev rmX8_findOdds : Room := { frames := 4, cells := 0, slots := 0, locals := 92 }
set_option maxHeartbeats 4000000 in
set_option maxRecDepth 100000 in
theorem c_X8_findOdds (l : Launch) (D : va_G) (k : Nat → ClassId) (mh mrSt mrNow mrIsKept mrDraft mrTape mrRow mrRode mrWays mrLanes mrSizes mrCells mrBefore : Nat) (sz : Nat) (mSt : (Nat → Int32)) (mNow : (Nat → Int32)) (mIsKept : (Nat → Int32)) (mPeople : Int32) (mDraft : (Nat → Int32)) (mDPeople : Int32) (mHasDry : Int32) (mToldDebts : Int32) (mHighest : Int32) (mTape : (Nat → Int32)) (mTaped : Int32) (mPos : Int32) (mBegun : Int32) (mSort : Int32) (mValue : Int32) (mFault : Int32) (mWrongAt : Int32) (mPaid : Int32) (mRow : (Nat → Int32)) (mRingMuch : Int32) (mRideSum : Int64) (mOwedSum : Int64) (mAllWays : Int64) (mRode : (Nat → Int32)) (mWays : (Nat → Int32)) (mLanes : (Nat → Int32)) (mSizes : (Nat → Int32)) (mCells : (Nat → Int32)) (mTorn : Int32) (mBefore : (Nat → Int32)) (p1 : Int32) (p2 : Int32) (p3 : Int32) (n_mNow : (Nat → Int32)) (n_mPaid : Int32) (n_mRideSum : Int64) (n_mOwedSum : Int64) (n_mAllWays : Int64) (hf : f_X8_findOdds mSt mNow mPeople mPaid p1 p2 p3 = some (n_mNow, n_mPaid, n_mRideSum, n_mOwedSum, n_mAllWays)) : mR l yX8_findOdds wsX8_findOdds rmX8_findOdds D k sz [.ref mh, .int p1, .int p2, .int p3] (wX8 k mh mrSt mrNow mrIsKept mrDraft mrTape mrRow mrRode mrWays mrLanes mrSizes mrCells mrBefore mSt mNow mIsKept mPeople mDraft mDPeople mHasDry mToldDebts mHighest mTape mTaped mPos mBegun mSort mValue mFault mWrongAt mPaid mRow mRingMuch mRideSum mOwedSum mAllWays mRode mWays mLanes mSizes mCells mTorn mBefore) (wX8 k mh mrSt mrNow mrIsKept mrDraft mrTape mrRow mrRode mrWays mrLanes mrSizes mrCells mrBefore mSt n_mNow mIsKept mPeople mDraft mDPeople mHasDry mToldDebts mHighest mTape mTaped mPos mBegun mSort mValue mFault mWrongAt n_mPaid mRow mRingMuch n_mRideSum n_mOwedSum n_mAllWays mRode mWays mLanes mSizes mCells mTorn mBefore) (none) := by
  refine mR_of (cc := cX8_findOdds) (maxL := 9) (ret := none) (by decide) rfl (Nat.le_of_ble_eq_true rfl) [(0, .ref mh), (1, .int p1), (2, .int p2), (3, .int p3)] rfl ?_
  intro p e s m below meth c A ls args Q cx hK hA hw hl hQ
  have fx := cx.1
  obtain ⟨⟨hx, hb, hml, hown, hts⟩, hr, hlocks⟩ := cx
  have hinX8 : ∀ w ∈ wsX80, w ∈ wsX8_findOdds := fun w h => List.mem_cons_of_mem _ (List.mem_append_right _ h)
  have q_1 := hts (.fieldLink RX8 271 "DebtRidesModel" "rideSum" "J") (List.mem_of_getElem? (i := 1) rfl)
  have q_2 := hts (.fieldLink RX8 275 "DebtRidesModel" "owedSum" "J") (List.mem_of_getElem? (i := 2) rfl)
  have q_3 := hts (.fieldLink RX8 278 "DebtRidesModel" "allWays" "J") (List.mem_of_getElem? (i := 3) rfl)
  have q_4 := hts (.constantLong RX8 251 (10)) (List.mem_of_getElem? (i := 4) rfl)
  have q_5 := hts (.fieldLink RX8 13 "DebtRidesModel" "now" "[I") (List.mem_of_getElem? (i := 5) rfl)
  have q_6 := hts (.fieldLink RX8 7 "DebtRidesModel" "st" "[I") (List.mem_of_getElem? (i := 6) rfl)
  have h := hf
  unfold f_X8_findOdds at h
  clear hf
  refine lv_aload_n hx hb dX8_findOdds_0 rfl (lv_at hl 0 rfl) ?_
  refine lv_lconst (v := 0) hx hb dX8_findOdds_1 rfl ?_
  refine va_put (ci := 8) (v := .long 0) (ty := tyX8 20) (C := RX8) (T := TX8) (N := 30) hx hb hts hinX8 tyX8 tyX8_ok nmX8 hown hK.1 hw.1 hw.2.1 hw.2.2 0 rfl rfl 20 (by decide) q_1 (fun _ h9 => h9) rfl (tyX8_ok 20 (by decide)) rfl rfl (Nat.le_of_ble_eq_true rfl) dX8_findOdds_2 (fun H locs hP hD hS => ?_)
  have hw : Wd D A s.heap H locs (wX8 k mh mrSt mrNow mrIsKept mrDraft mrTape mrRow mrRode mrWays mrLanes mrSizes mrCells mrBefore mSt mNow mIsKept mPeople mDraft mDPeople mHasDry mToldDebts mHighest mTape mTaped mPos mBegun mSort mValue mFault mWrongAt mPaid mRow mRingMuch 0 mOwedSum mAllWays mRode mWays mLanes mSizes mCells mTorn mBefore) := ⟨hP, hD, hS⟩
  refine lv_aload_n hx hb dX8_findOdds_5 rfl (lv_at hl 0 rfl) ?_
  refine lv_lconst (v := 0) hx hb dX8_findOdds_6 rfl ?_
  refine va_put (ci := 8) (v := .long 0) (ty := tyX8 21) (C := RX8) (T := TX8) (N := 30) hx hb hts hinX8 tyX8 tyX8_ok nmX8 hown hK.1 hw.1 hw.2.1 hw.2.2 0 rfl rfl 21 (by decide) q_2 (fun _ h9 => h9) rfl (tyX8_ok 21 (by decide)) rfl rfl (Nat.le_of_ble_eq_true rfl) dX8_findOdds_7 (fun H locs hP hD hS => ?_)
  have hw : Wd D A s.heap H locs (wX8 k mh mrSt mrNow mrIsKept mrDraft mrTape mrRow mrRode mrWays mrLanes mrSizes mrCells mrBefore mSt mNow mIsKept mPeople mDraft mDPeople mHasDry mToldDebts mHighest mTape mTaped mPos mBegun mSort mValue mFault mWrongAt mPaid mRow mRingMuch 0 0 mAllWays mRode mWays mLanes mSizes mCells mTorn mBefore) := ⟨hP, hD, hS⟩
  refine lv_aload_n hx hb dX8_findOdds_10 rfl (lv_at hl 0 rfl) ?_
  refine lv_lconst (v := 1) hx hb dX8_findOdds_11 rfl ?_
  refine va_put (ci := 8) (v := .long 1) (ty := tyX8 22) (C := RX8) (T := TX8) (N := 30) hx hb hts hinX8 tyX8 tyX8_ok nmX8 hown hK.1 hw.1 hw.2.1 hw.2.2 0 rfl rfl 22 (by decide) q_3 (fun _ h9 => h9) rfl (tyX8_ok 22 (by decide)) rfl rfl (Nat.le_of_ble_eq_true rfl) dX8_findOdds_12 (fun H locs hP hD hS => ?_)
  have hw : Wd D A s.heap H locs (wX8 k mh mrSt mrNow mrIsKept mrDraft mrTape mrRow mrRode mrWays mrLanes mrSizes mrCells mrBefore mSt mNow mIsKept mPeople mDraft mDPeople mHasDry mToldDebts mHighest mTape mTaped mPos mBegun mSort mValue mFault mWrongAt mPaid mRow mRingMuch 0 0 1 mRode mWays mLanes mSizes mCells mTorn mBefore) := ⟨hP, hD, hS⟩
  refine lv_iconst (v := 0) hx hb dX8_findOdds_15 (by decide) ?_
  refine lv_istore (lv' := [(4, .int 0), (0, .ref mh), (1, .int p1), (2, .int p2), (3, .int p3)]) hx hb dX8_findOdds_16 hl (by decide) rfl (fun ls hl => ?_)
  obtain ⟨mAllWays_3, hL_18, h⟩ := b1_inv h
  have X_18 : ∀ (H : Heap) (locs : List Loc) (ls : Array Slot), Wd D A s.heap H locs (wX8 k mh mrSt mrNow mrIsKept mrDraft mrTape mrRow mrRode mrWays mrLanes mrSizes mrCells mrBefore mSt mNow mIsKept mPeople mDraft mDPeople mHasDry mToldDebts mHighest mTape mTaped mPos mBegun mSort mValue mFault mWrongAt mPaid mRow mRingMuch 0 0 mAllWays_3 mRode mWays mLanes mSizes mCells mTorn mBefore) → lv_has ls 9 [(0, .ref mh), (1, .int p1), (2, .int p2), (3, .int p3)] → W p l e rmX8_findOdds s m args below meth c H locs 0 0 Q (F0 m 42 ls []) := by
    intro H locs ls hw hl
    refine lv_iconst (v := 0) hx hb dX8_findOdds_42 (by decide) ?_
    refine lv_istore (lv' := [(4, .int 0), (0, .ref mh), (1, .int p1), (2, .int p2), (3, .int p3)]) hx hb dX8_findOdds_43 hl (by decide) rfl (fun ls hl => ?_)
    obtain ⟨mNow_9, mPaid_10, mRideSum_11, mOwedSum_12, hL_45, h⟩ := b4_inv h
    have X_45 : ∀ (H : Heap) (locs : List Loc) (ls : Array Slot), Wd D A s.heap H locs (wX8 k mh mrSt mrNow mrIsKept mrDraft mrTape mrRow mrRode mrWays mrLanes mrSizes mrCells mrBefore mSt mNow_9 mIsKept mPeople mDraft mDPeople mHasDry mToldDebts mHighest mTape mTaped mPos mBegun mSort mValue mFault mWrongAt mPaid_10 mRow mRingMuch mRideSum_11 mOwedSum_12 mAllWays_3 mRode mWays mLanes mSizes mCells mTorn mBefore) → lv_has ls 9 [] → W p l e rmX8_findOdds s m args below meth c H locs 0 0 Q (F0 m 193 ls []) := by
      intro H locs ls hw hl
      cases h
      exact k_vret hx hb hr hlocks hw dX8_findOdds_193 hQ
    clear h
    have LP_45 : ∀ (n : Nat) (v4_4 : Int32) (mNow_5 : (Nat → Int32)) (mPaid_6 : Int32) (mRideSum_7 : Int64) (mOwedSum_8 : Int64), f_X8_findOdds_L45 mSt mPeople p1 p2 p3 n v4_4 mNow_5 mPaid_6 mRideSum_7 mOwedSum_8 = some (mNow_9, mPaid_10, mRideSum_11, mOwedSum_12) → ∀ (H : Heap) (locs : List Loc) (ls : Array Slot), Wd D A s.heap H locs (wX8 k mh mrSt mrNow mrIsKept mrDraft mrTape mrRow mrRode mrWays mrLanes mrSizes mrCells mrBefore mSt mNow_5 mIsKept mPeople mDraft mDPeople mHasDry mToldDebts mHighest mTape mTaped mPos mBegun mSort mValue mFault mWrongAt mPaid_6 mRow mRingMuch mRideSum_7 mOwedSum_8 mAllWays_3 mRode mWays mLanes mSizes mCells mTorn mBefore) → lv_has ls 9 [(0, .ref mh), (1, .int p1), (2, .int p2), (3, .int p3), (4, .int v4_4)] → W p l e rmX8_findOdds s m args below meth c H locs 0 0 Q (F0 m 45 ls []) := by
      clear hL_45 hw hl
      intro n
      induction n with
      | zero => intro v4_4 mNow_5 mPaid_6 mRideSum_7 mOwedSum_8 h; rw [f_X8_findOdds_L45] at h; cases h
      | succ n ih =>
        intro v4_4 mNow_5 mPaid_6 mRideSum_7 mOwedSum_8 h H locs ls hw hl
        rw [f_X8_findOdds_L45] at h
        refine lv_iload hx hb dX8_findOdds_45 (lv_at hl 4 rfl) ?_
        refine lv_iconst (v := 1) hx hb dX8_findOdds_47 (by decide) ?_
        refine lv_iload_n hx hb dX8_findOdds_48 rfl (lv_at hl 3 rfl) ?_
        refine lv_ishl hx hb dX8_findOdds_49 ?_
        refine kb_icmp_ge (tgt := 193) hx hb dX8_findOdds_50 (by decide) h (fun c_50 h => ?_) (fun c_50 h => ?_)
        · cases h
          exact X_45 _ _ _ hw (lv_sub hl [] rfl)
        · refine lv_lconst (v := 1) hx hb dX8_findOdds_53 rfl ?_
          refine lv_lstore (lv' := [(5, .long 1), (0, .ref mh), (1, .int p1), (2, .int p2), (3, .int p3), (4, .int v4_4)]) hx hb dX8_findOdds_54 hl (by decide) rfl (fun ls hl => ?_)
          refine lv_aload_n hx hb dX8_findOdds_56 rfl (lv_at hl 1 rfl) ?_
          obtain ⟨mNow_13, hf, h⟩ := b1_inv h
          refine k_callV (host := "") fx hK hA hw (c_X8_starts l D k mh mrSt mrNow mrIsKept mrDraft mrTape mrRow mrRode mrWays mrLanes mrSizes mrCells mrBefore _ mSt mNow_5 mIsKept mPeople mDraft mDPeople mHasDry mToldDebts mHighest mTape mTaped mPos mBegun mSort mValue mFault mWrongAt mPaid_6 mRow mRingMuch mRideSum_7 mOwedSum_8 mAllWays_3 mRode mWays mLanes mSizes mCells mTorn mBefore mNow_13 hf) (cwV 0 hts gX8_findOdds_X8_starts rfl rfl rfl (by decide +kernel) ⟨by decide, by decide⟩) (As := []) (wr := []) (ws' := wX8 k mh mrSt mrNow mrIsKept mrDraft mrTape mrRow mrRode mrWays mrLanes mrSizes mrCells mrBefore mSt mNow_13 mIsKept mPeople mDraft mDPeople mHasDry mToldDebts mHighest mTape mTaped mPos mBegun mSort mValue mFault mWrongAt mPaid_6 mRow mRingMuch mRideSum_7 mOwedSum_8 mAllWays_3 mRode mWays mLanes mSizes mCells mTorn mBefore) [0, 1, 2, 3, 4, 5, 6, 7, 8, 9, 10, 11, 12] [] [0, 1, 2, 3, 4, 5, 6, 7, 8, 9, 10, 11, 12] rfl rfl (by decide) (by decide) (by decide) rfl (by decide) 8 rfl rfl [] rfl hl.1 rfl (Nat.le_of_ble_eq_true rfl) dX8_findOdds_57 ⟨by decide, by decide⟩ (fun H locs (hw : Wd D A s.heap H locs (wX8 k mh mrSt mrNow mrIsKept mrDraft mrTape mrRow mrRode mrWays mrLanes mrSizes mrCells mrBefore mSt mNow_13 mIsKept mPeople mDraft mDPeople mHasDry mToldDebts mHighest mTape mTaped mPos mBegun mSort mValue mFault mWrongAt mPaid_6 mRow mRingMuch mRideSum_7 mOwedSum_8 mAllWays_3 mRode mWays mLanes mSizes mCells mTorn mBefore)) => ?_)
          refine W.eq (g2 := F0 m 60 ls ([])) rfl ?_
          refine lv_iconst (v := 0) hx hb dX8_findOdds_60 (by decide) ?_
          refine lv_istore (lv' := [(7, .int 0), (5, .long 1), (0, .ref mh), (1, .int p1), (2, .int p2), (3, .int p3), (4, .int v4_4)]) hx hb dX8_findOdds_61 hl (by decide) rfl (fun ls hl => ?_)
          obtain ⟨v5_18, mNow_19, mPaid_20, hL_63, h⟩ := b3_inv h
          have X_63 : ∀ (H : Heap) (locs : List Loc) (ls : Array Slot), Wd D A s.heap H locs (wX8 k mh mrSt mrNow mrIsKept mrDraft mrTape mrRow mrRode mrWays mrLanes mrSizes mrCells mrBefore mSt mNow_19 mIsKept mPeople mDraft mDPeople mHasDry mToldDebts mHighest mTape mTaped mPos mBegun mSort mValue mFault mWrongAt mPaid_20 mRow mRingMuch mRideSum_7 mOwedSum_8 mAllWays_3 mRode mWays mLanes mSizes mCells mTorn mBefore) → lv_has ls 9 [(0, .ref mh), (1, .int p1), (2, .int p2), (3, .int p3), (4, .int v4_4), (5, .long v5_18)] → W p l e rmX8_findOdds s m args below meth c H locs 0 0 Q (F0 m 141 ls []) := by
            intro H locs ls hw hl
            refine lv_aload_n hx hb dX8_findOdds_141 rfl (lv_at hl 0 rfl) ?_
            refine lv_dup hx hb dX8_findOdds_142 rfl ?_
            refine va_get (ci := 8) (v := .long mRideSum_7) (C := RX8) (T := TX8) (N := 30) hx hb hts hinX8 hown hK.1 hw.1 0 rfl rfl 20 (by decide) q_1 (fun _ h9 => h9) rfl dX8_findOdds_143 ?_
            refine lv_iload_n hx hb dX8_findOdds_146 rfl (lv_at hl 2 rfl) ?_
            refine lv_bipush (v := (-4)) hx hb dX8_findOdds_147 (by decide) ?_
            obtain ⟨t_28, hj_149, h⟩ := b1_inv h
            have J_149 : ∀ (H : Heap) (locs : List Loc) (ls : Array Slot), Wd D A s.heap H locs (wX8 k mh mrSt mrNow mrIsKept mrDraft mrTape mrRow mrRode mrWays mrLanes mrSizes mrCells mrBefore mSt mNow_19 mIsKept mPeople mDraft mDPeople mHasDry mToldDebts mHighest mTape mTaped mPos mBegun mSort mValue mFault mWrongAt mPaid_20 mRow mRingMuch mRideSum_7 mOwedSum_8 mAllWays_3 mRode mWays mLanes mSizes mCells mTorn mBefore) → lv_has ls 9 [(0, .ref mh), (1, .int p1), (2, .int p2), (3, .int p3), (4, .int v4_4), (5, .long v5_18)] → W p l e rmX8_findOdds s m args below meth c H locs 0 0 Q (F0 m 166 ls [.long t_28, .long mRideSum_7, .ref mh]) := by
              intro H locs ls hw hl
              refine lv_ladd hx hb dX8_findOdds_166 ?_
              refine va_put (ci := 8) (v := .long (mRideSum_7 + t_28)) (ty := tyX8 20) (C := RX8) (T := TX8) (N := 30) hx hb hts hinX8 tyX8 tyX8_ok nmX8 hown hK.1 hw.1 hw.2.1 hw.2.2 0 rfl rfl 20 (by decide) q_1 (fun _ h9 => h9) rfl (tyX8_ok 20 (by decide)) rfl rfl (Nat.le_of_ble_eq_true rfl) dX8_findOdds_167 (fun H locs hP hD hS => ?_)
              have hw : Wd D A s.heap H locs (wX8 k mh mrSt mrNow mrIsKept mrDraft mrTape mrRow mrRode mrWays mrLanes mrSizes mrCells mrBefore mSt mNow_19 mIsKept mPeople mDraft mDPeople mHasDry mToldDebts mHighest mTape mTaped mPos mBegun mSort mValue mFault mWrongAt mPaid_20 mRow mRingMuch (mRideSum_7 + t_28) mOwedSum_8 mAllWays_3 mRode mWays mLanes mSizes mCells mTorn mBefore) := ⟨hP, hD, hS⟩
              refine lv_aload_n hx hb dX8_findOdds_170 rfl (lv_at hl 0 rfl) ?_
              refine lv_dup hx hb dX8_findOdds_171 rfl ?_
              refine va_get (ci := 8) (v := .long mOwedSum_8) (C := RX8) (T := TX8) (N := 30) hx hb hts hinX8 hown hK.1 hw.1 0 rfl rfl 21 (by decide) q_2 (fun _ h9 => h9) rfl dX8_findOdds_172 ?_
              refine lv_lload hx hb dX8_findOdds_175 (lv_at hl 5 rfl) ?_
              refine lv_aload_n hx hb dX8_findOdds_177 rfl (lv_at hl 0 rfl) ?_
              obtain ⟨r_30, hf, h⟩ := b1_inv h
              refine k_callV (host := "") fx hK hA hw (c_X8_allOwed l D k mh mrSt mrNow mrIsKept mrDraft mrTape mrRow mrRode mrWays mrLanes mrSizes mrCells mrBefore _ mSt mNow_19 mIsKept mPeople mDraft mDPeople mHasDry mToldDebts mHighest mTape mTaped mPos mBegun mSort mValue mFault mWrongAt mPaid_20 mRow mRingMuch (mRideSum_7 + t_28) mOwedSum_8 mAllWays_3 mRode mWays mLanes mSizes mCells mTorn mBefore r_30 hf) (cwV 0 hts gX8_findOdds_X8_allOwed rfl rfl rfl (by decide +kernel) ⟨by decide, by decide⟩) (As := []) (wr := []) (ws' := wX8 k mh mrSt mrNow mrIsKept mrDraft mrTape mrRow mrRode mrWays mrLanes mrSizes mrCells mrBefore mSt mNow_19 mIsKept mPeople mDraft mDPeople mHasDry mToldDebts mHighest mTape mTaped mPos mBegun mSort mValue mFault mWrongAt mPaid_20 mRow mRingMuch (mRideSum_7 + t_28) mOwedSum_8 mAllWays_3 mRode mWays mLanes mSizes mCells mTorn mBefore) [0, 1, 2, 3, 4, 5, 6, 7, 8, 9, 10, 11, 12] [] [0, 1, 2, 3, 4, 5, 6, 7, 8, 9, 10, 11, 12] rfl rfl (by decide) (by decide) (by decide) rfl (by decide) 8 rfl rfl [.long v5_18, .long mOwedSum_8, .ref mh] rfl hl.1 rfl (Nat.le_of_ble_eq_true rfl) dX8_findOdds_178 ⟨by decide, by decide⟩ (fun H locs (hw : Wd D A s.heap H locs (wX8 k mh mrSt mrNow mrIsKept mrDraft mrTape mrRow mrRode mrWays mrLanes mrSizes mrCells mrBefore mSt mNow_19 mIsKept mPeople mDraft mDPeople mHasDry mToldDebts mHighest mTape mTaped mPos mBegun mSort mValue mFault mWrongAt mPaid_20 mRow mRingMuch (mRideSum_7 + t_28) mOwedSum_8 mAllWays_3 mRode mWays mLanes mSizes mCells mTorn mBefore)) => ?_)
              refine W.eq (g2 := F0 m 181 ls ([.int r_30, .long v5_18, .long mOwedSum_8, .ref mh])) rfl ?_
              refine lv_i2l hx hb dX8_findOdds_181 rfl ?_
              refine lv_lmul hx hb dX8_findOdds_182 ?_
              refine lv_ladd hx hb dX8_findOdds_183 ?_
              refine va_put (ci := 8) (v := .long (mOwedSum_8 + (v5_18 * r_30.toInt64))) (ty := tyX8 21) (C := RX8) (T := TX8) (N := 30) hx hb hts hinX8 tyX8 tyX8_ok nmX8 hown hK.1 hw.1 hw.2.1 hw.2.2 0 rfl rfl 21 (by decide) q_2 (fun _ h9 => h9) rfl (tyX8_ok 21 (by decide)) rfl rfl (Nat.le_of_ble_eq_true rfl) dX8_findOdds_184 (fun H locs hP hD hS => ?_)
              have hw : Wd D A s.heap H locs (wX8 k mh mrSt mrNow mrIsKept mrDraft mrTape mrRow mrRode mrWays mrLanes mrSizes mrCells mrBefore mSt mNow_19 mIsKept mPeople mDraft mDPeople mHasDry mToldDebts mHighest mTape mTaped mPos mBegun mSort mValue mFault mWrongAt mPaid_20 mRow mRingMuch (mRideSum_7 + t_28) (mOwedSum_8 + (v5_18 * r_30.toInt64)) mAllWays_3 mRode mWays mLanes mSizes mCells mTorn mBefore) := ⟨hP, hD, hS⟩
              refine lv_iinc (v := v4_4 + 1) (lv' := [(4, .int (v4_4 + 1)), (0, .ref mh), (1, .int p1), (2, .int p2), (3, .int p3), (5, .long v5_18)]) hx hb dX8_findOdds_187 hl (k := 4) rfl rfl (by decide) rfl (fun ls hl => ?_)
              refine lv_goto (tgt := 45) hx hb dX8_findOdds_190 (by decide) ?_
              exact ih _ _ _ _ _ h _ _ _ hw (lv_sub hl [1, 2, 3, 4, 0] rfl)
            clear h
            have h := hj_149
            refine kb_icmp_eq (tgt := 165) hx hb dX8_findOdds_149 (by decide) h (fun c_149 h => ?_) (fun c_149 h => ?_)
            · refine lv_lconst (v := 0) hx hb dX8_findOdds_165 rfl ?_
              cases h
              exact J_149 _ _ _ hw (lv_sub hl [0, 1, 2, 3, 4, 5] rfl)
            · refine lv_aload_n hx hb dX8_findOdds_152 rfl (lv_at hl 0 rfl) ?_
              refine lv_iload_n hx hb dX8_findOdds_153 rfl (lv_at hl 2 rfl) ?_
              obtain ⟨r_29, hf, h⟩ := b1_inv h
              refine k_callV (host := "") fx hK hA hw (c_X8_owesAll l D k mh mrSt mrNow mrIsKept mrDraft mrTape mrRow mrRode mrWays mrLanes mrSizes mrCells mrBefore _ mSt mNow_19 mIsKept mPeople mDraft mDPeople mHasDry mToldDebts mHighest mTape mTaped mPos mBegun mSort mValue mFault mWrongAt mPaid_20 mRow mRingMuch mRideSum_7 mOwedSum_8 mAllWays_3 mRode mWays mLanes mSizes mCells mTorn mBefore p2 r_29 hf) (cwV 1 hts gX8_findOdds_X8_owesAll rfl rfl rfl (by decide +kernel) ⟨by decide, by decide⟩) (As := [.int p2]) (wr := []) (ws' := wX8 k mh mrSt mrNow mrIsKept mrDraft mrTape mrRow mrRode mrWays mrLanes mrSizes mrCells mrBefore mSt mNow_19 mIsKept mPeople mDraft mDPeople mHasDry mToldDebts mHighest mTape mTaped mPos mBegun mSort mValue mFault mWrongAt mPaid_20 mRow mRingMuch mRideSum_7 mOwedSum_8 mAllWays_3 mRode mWays mLanes mSizes mCells mTorn mBefore) [0, 1, 2, 3, 4, 5, 6, 7, 8, 9, 10, 11, 12] [] [0, 1, 2, 3, 4, 5, 6, 7, 8, 9, 10, 11, 12] rfl rfl (by decide) (by decide) (by decide) rfl (by decide) 8 rfl rfl [.long mRideSum_7, .ref mh] rfl hl.1 rfl (Nat.le_of_ble_eq_true rfl) dX8_findOdds_154 ⟨by decide, by decide⟩ (fun H locs (hw : Wd D A s.heap H locs (wX8 k mh mrSt mrNow mrIsKept mrDraft mrTape mrRow mrRode mrWays mrLanes mrSizes mrCells mrBefore mSt mNow_19 mIsKept mPeople mDraft mDPeople mHasDry mToldDebts mHighest mTape mTaped mPos mBegun mSort mValue mFault mWrongAt mPaid_20 mRow mRingMuch mRideSum_7 mOwedSum_8 mAllWays_3 mRode mWays mLanes mSizes mCells mTorn mBefore)) => ?_)
              refine W.eq (g2 := F0 m 157 ls ([.int r_29, .long mRideSum_7, .ref mh])) rfl ?_
              refine kb_if_ne (tgt := 165) hx hb dX8_findOdds_157 (by decide) h (fun c_157 h => ?_) (fun c_157 h => ?_)
              · refine lv_lload hx hb dX8_findOdds_160 (lv_at hl 5 rfl) ?_
                refine lv_goto (tgt := 166) hx hb dX8_findOdds_162 (by decide) ?_
                cases h
                exact J_149 _ _ _ hw (lv_sub hl [0, 1, 2, 3, 4, 5] rfl)
              · refine lv_lconst (v := 0) hx hb dX8_findOdds_165 rfl ?_
                cases h
                exact J_149 _ _ _ hw (lv_sub hl [0, 1, 2, 3, 4, 5] rfl)
          clear h
          have LP_63 : ∀ (n : Nat) (v5_14 : Int64) (v7_15 : Int32) (mNow_16 : (Nat → Int32)) (mPaid_17 : Int32), f_X8_findOdds_L63 mSt mPeople p1 p3 v4_4 n v5_14 v7_15 mNow_16 mPaid_17 = some (v5_18, mNow_19, mPaid_20) → ∀ (H : Heap) (locs : List Loc) (ls : Array Slot), Wd D A s.heap H locs (wX8 k mh mrSt mrNow mrIsKept mrDraft mrTape mrRow mrRode mrWays mrLanes mrSizes mrCells mrBefore mSt mNow_16 mIsKept mPeople mDraft mDPeople mHasDry mToldDebts mHighest mTape mTaped mPos mBegun mSort mValue mFault mWrongAt mPaid_17 mRow mRingMuch mRideSum_7 mOwedSum_8 mAllWays_3 mRode mWays mLanes mSizes mCells mTorn mBefore) → lv_has ls 9 [(0, .ref mh), (1, .int p1), (2, .int p2), (3, .int p3), (4, .int v4_4), (5, .long v5_14), (7, .int v7_15)] → W p l e rmX8_findOdds s m args below meth c H locs 0 0 Q (F0 m 63 ls []) := by
            clear hL_63 hw hl
            intro n
            induction n with
            | zero => intro v5_14 v7_15 mNow_16 mPaid_17 h; rw [f_X8_findOdds_L63] at h; cases h
            | succ n ih =>
              intro v5_14 v7_15 mNow_16 mPaid_17 h H locs ls hw hl
              rw [f_X8_findOdds_L63] at h
              refine lv_iload hx hb dX8_findOdds_63 (lv_at hl 6 rfl) ?_
              refine lv_iload_n hx hb dX8_findOdds_65 rfl (lv_at hl 3 rfl) ?_
              refine kb_icmp_ge (tgt := 141) hx hb dX8_findOdds_66 (by decide) h (fun c_66 h => ?_) (fun c_66 h => ?_)
              · cases h
                exact X_63 _ _ _ hw (lv_sub hl [0, 1, 2, 3, 4, 5] rfl)
              · refine lv_iload hx hb dX8_findOdds_69 (lv_at hl 4 rfl) ?_
                refine lv_iload hx hb dX8_findOdds_71 (lv_at hl 6 rfl) ?_
                refine lv_ishr hx hb dX8_findOdds_73 ?_
                refine lv_iconst (v := 1) hx hb dX8_findOdds_74 (by decide) ?_
                refine lv_iand hx hb dX8_findOdds_75 ?_
                refine lv_iconst (v := 1) hx hb dX8_findOdds_76 (by decide) ?_
                obtain ⟨t_21, hj_77, h⟩ := b1_inv h
                have J_77 : ∀ (H : Heap) (locs : List Loc) (ls : Array Slot), Wd D A s.heap H locs (wX8 k mh mrSt mrNow mrIsKept mrDraft mrTape mrRow mrRode mrWays mrLanes mrSizes mrCells mrBefore mSt mNow_16 mIsKept mPeople mDraft mDPeople mHasDry mToldDebts mHighest mTape mTaped mPos mBegun mSort mValue mFault mWrongAt mPaid_17 mRow mRingMuch mRideSum_7 mOwedSum_8 mAllWays_3 mRode mWays mLanes mSizes mCells mTorn mBefore) → lv_has ls 9 [(0, .ref mh), (1, .int p1), (2, .int p2), (3, .int p3), (4, .int v4_4), (5, .long v5_14), (7, .int v7_15)] → W p l e rmX8_findOdds s m args below meth c H locs 0 0 Q (F0 m 85 ls [.int t_21]) := by
                  intro H locs ls hw hl
                  refine lv_istore (lv' := [(8, .int t_21), (0, .ref mh), (1, .int p1), (2, .int p2), (3, .int p3), (4, .int v4_4), (5, .long v5_14), (7, .int v7_15)]) hx hb dX8_findOdds_85 hl (by decide) rfl (fun ls hl => ?_)
                  refine lv_lload hx hb dX8_findOdds_87 (lv_at hl 6 rfl) ?_
                  refine lv_iload hx hb dX8_findOdds_89 (lv_at hl 0 rfl) ?_
                  obtain ⟨t_22, hj_91, h⟩ := b1_inv h
                  have J_91 : ∀ (H : Heap) (locs : List Loc) (ls : Array Slot), Wd D A s.heap H locs (wX8 k mh mrSt mrNow mrIsKept mrDraft mrTape mrRow mrRode mrWays mrLanes mrSizes mrCells mrBefore mSt mNow_16 mIsKept mPeople mDraft mDPeople mHasDry mToldDebts mHighest mTape mTaped mPos mBegun mSort mValue mFault mWrongAt mPaid_17 mRow mRingMuch mRideSum_7 mOwedSum_8 mAllWays_3 mRode mWays mLanes mSizes mCells mTorn mBefore) → lv_has ls 9 [(0, .ref mh), (1, .int p1), (2, .int p2), (3, .int p3), (4, .int v4_4), (7, .int v7_15), (8, .int t_21)] → W p l e rmX8_findOdds s m args below meth c H locs 0 0 Q (F0 m 104 ls [.long t_22, .long v5_14]) := by
                    intro H locs ls hw hl
                    refine lv_lmul hx hb dX8_findOdds_104 ?_
                    refine lv_lstore (lv' := [(5, .long (v5_14 * t_22)), (0, .ref mh), (1, .int p1), (2, .int p2), (3, .int p3), (4, .int v4_4), (7, .int v7_15), (8, .int t_21)]) hx hb dX8_findOdds_105 hl (by decide) rfl (fun ls hl => ?_)
                    refine lv_aload_n hx hb dX8_findOdds_107 rfl (lv_at hl 1 rfl) ?_
                    refine va_get (ci := 8) (v := .ref mrNow) (C := RX8) (T := TX8) (N := 30) hx hb hts hinX8 hown hK.1 hw.1 0 rfl rfl 1 (by decide) q_5 (fun _ h9 => h9) rfl dX8_findOdds_108 ?_
                    refine lv_bipush (v := 41) hx hb dX8_findOdds_111 (by decide) ?_
                    refine lv_iload hx hb dX8_findOdds_113 (lv_at hl 7 rfl) ?_
                    obtain ⟨t_23, hj_115, h⟩ := b1_inv h
                    have J_115 : ∀ (H : Heap) (locs : List Loc) (ls : Array Slot), Wd D A s.heap H locs (wX8 k mh mrSt mrNow mrIsKept mrDraft mrTape mrRow mrRode mrWays mrLanes mrSizes mrCells mrBefore mSt mNow_16 mIsKept mPeople mDraft mDPeople mHasDry mToldDebts mHighest mTape mTaped mPos mBegun mSort mValue mFault mWrongAt mPaid_17 mRow mRingMuch mRideSum_7 mOwedSum_8 mAllWays_3 mRode mWays mLanes mSizes mCells mTorn mBefore) → lv_has ls 9 [(0, .ref mh), (1, .int p1), (2, .int p2), (3, .int p3), (4, .int v4_4), (5, .long (v5_14 * t_22)), (7, .int v7_15)] → W p l e rmX8_findOdds s m args below meth c H locs 0 0 Q (F0 m 130 ls [.int t_23, .int 41, .ref mrNow]) := by
                      intro H locs ls hw hl
                      refine k_iast hx hb hK hw 2 rfl dX8_findOdds_130 h (fun mNow_25 h H locs (hw : Wd D A s.heap H locs (wX8 k mh mrSt mrNow mrIsKept mrDraft mrTape mrRow mrRode mrWays mrLanes mrSizes mrCells mrBefore mSt mNow_25 mIsKept mPeople mDraft mDPeople mHasDry mToldDebts mHighest mTape mTaped mPos mBegun mSort mValue mFault mWrongAt mPaid_17 mRow mRingMuch mRideSum_7 mOwedSum_8 mAllWays_3 mRode mWays mLanes mSizes mCells mTorn mBefore)) => ?_)
                      refine lv_aload_n hx hb dX8_findOdds_131 rfl (lv_at hl 0 rfl) ?_
                      obtain ⟨mNow_26, mPaid_27, hf, h⟩ := b2_inv h
                      refine k_callV (host := "") fx hK hA hw (c_X8_dayGoes l D k mh mrSt mrNow mrIsKept mrDraft mrTape mrRow mrRode mrWays mrLanes mrSizes mrCells mrBefore _ mSt mNow_25 mIsKept mPeople mDraft mDPeople mHasDry mToldDebts mHighest mTape mTaped mPos mBegun mSort mValue mFault mWrongAt mPaid_17 mRow mRingMuch mRideSum_7 mOwedSum_8 mAllWays_3 mRode mWays mLanes mSizes mCells mTorn mBefore mNow_26 mPaid_27 hf) (cwV 0 hts gX8_findOdds_X8_dayGoes rfl rfl rfl (by decide +kernel) ⟨by decide, by decide⟩) (As := []) (wr := []) (ws' := wX8 k mh mrSt mrNow mrIsKept mrDraft mrTape mrRow mrRode mrWays mrLanes mrSizes mrCells mrBefore mSt mNow_26 mIsKept mPeople mDraft mDPeople mHasDry mToldDebts mHighest mTape mTaped mPos mBegun mSort mValue mFault mWrongAt mPaid_27 mRow mRingMuch mRideSum_7 mOwedSum_8 mAllWays_3 mRode mWays mLanes mSizes mCells mTorn mBefore) [0, 1, 2, 3, 4, 5, 6, 7, 8, 9, 10, 11, 12] [] [0, 1, 2, 3, 4, 5, 6, 7, 8, 9, 10, 11, 12] rfl rfl (by decide) (by decide) (by decide) rfl (by decide) 8 rfl rfl [] rfl hl.1 rfl (Nat.le_of_ble_eq_true rfl) dX8_findOdds_132 ⟨by decide, by decide⟩ (fun H locs (hw : Wd D A s.heap H locs (wX8 k mh mrSt mrNow mrIsKept mrDraft mrTape mrRow mrRode mrWays mrLanes mrSizes mrCells mrBefore mSt mNow_26 mIsKept mPeople mDraft mDPeople mHasDry mToldDebts mHighest mTape mTaped mPos mBegun mSort mValue mFault mWrongAt mPaid_27 mRow mRingMuch mRideSum_7 mOwedSum_8 mAllWays_3 mRode mWays mLanes mSizes mCells mTorn mBefore)) => ?_)
                      refine W.eq (g2 := F0 m 135 ls ([])) rfl ?_
                      refine lv_iinc (v := v7_15 + 1) (lv' := [(7, .int (v7_15 + 1)), (0, .ref mh), (1, .int p1), (2, .int p2), (3, .int p3), (4, .int v4_4), (5, .long (v5_14 * t_22))]) hx hb dX8_findOdds_135 hl (k := 6) rfl rfl (by decide) rfl (fun ls hl => ?_)
                      refine lv_goto (tgt := 63) hx hb dX8_findOdds_138 (by decide) ?_
                      exact ih _ _ _ _ h _ _ _ hw (lv_sub hl [1, 2, 3, 4, 5, 6, 0] rfl)
                    clear h
                    have h := hj_115
                    refine kb_if_eq (tgt := 123) hx hb dX8_findOdds_115 (by decide) h (fun c_115 h => ?_) (fun c_115 h => ?_)
                    · refine lv_aload_n hx hb dX8_findOdds_123 rfl (lv_at hl 1 rfl) ?_
                      refine va_get (ci := 8) (v := .ref mrSt) (C := RX8) (T := TX8) (N := 30) hx hb hts hinX8 hown hK.1 hw.1 0 rfl rfl 0 (by decide) q_6 (fun _ h9 => h9) rfl dX8_findOdds_124 ?_
                      refine lv_bipush (v := 41) hx hb dX8_findOdds_127 (by decide) ?_
                      refine k_iald hx hb hK hw 1 rfl dX8_findOdds_129 h (fun a_24 h => ?_)
                      cases h
                      exact J_115 _ _ _ hw (lv_sub hl [1, 2, 3, 4, 5, 0, 6] rfl)
                    · refine lv_bipush (v := 9) hx hb dX8_findOdds_118 (by decide) ?_
                      refine lv_goto (tgt := 130) hx hb dX8_findOdds_120 (by decide) ?_
                      cases h
                      exact J_115 _ _ _ hw (lv_sub hl [1, 2, 3, 4, 5, 0, 6] rfl)
                  clear h
                  have h := hj_91
                  refine kb_if_eq (tgt := 99) hx hb dX8_findOdds_91 (by decide) h (fun c_91 h => ?_) (fun c_91 h => ?_)
                  · refine lv_bipush (v := 10) hx hb dX8_findOdds_99 (by decide) ?_
                    refine lv_iload_n hx hb dX8_findOdds_101 rfl (lv_at hl 2 rfl) ?_
                    refine lv_isub hx hb dX8_findOdds_102 ?_
                    refine lv_i2l hx hb dX8_findOdds_103 rfl ?_
                    cases h
                    exact J_91 _ _ _ hw (lv_sub hl [1, 2, 3, 4, 5, 7, 0] rfl)
                  · refine lv_iload_n hx hb dX8_findOdds_94 rfl (lv_at hl 2 rfl) ?_
                    refine lv_i2l hx hb dX8_findOdds_95 rfl ?_
                    refine lv_goto (tgt := 104) hx hb dX8_findOdds_96 (by decide) ?_
                    cases h
                    exact J_91 _ _ _ hw (lv_sub hl [1, 2, 3, 4, 5, 7, 0] rfl)
                clear h
                have h := hj_77
                refine kb_icmp_ne (tgt := 84) hx hb dX8_findOdds_77 (by decide) h (fun c_77 h => ?_) (fun c_77 h => ?_)
                · refine lv_iconst (v := 1) hx hb dX8_findOdds_80 (by decide) ?_
                  refine lv_goto (tgt := 85) hx hb dX8_findOdds_81 (by decide) ?_
                  cases h
                  exact J_77 _ _ _ hw (lv_sub hl [0, 1, 2, 3, 4, 5, 6] rfl)
                · refine lv_iconst (v := 0) hx hb dX8_findOdds_84 (by decide) ?_
                  cases h
                  exact J_77 _ _ _ hw (lv_sub hl [0, 1, 2, 3, 4, 5, 6] rfl)
          exact LP_63 400 1 0 mNow_13 mPaid_6 hL_63 _ _ _ hw (lv_sub hl [2, 3, 4, 5, 6, 1, 0] rfl)
    exact LP_45 400 0 mNow mPaid 0 0 hL_45 _ _ _ hw (lv_sub hl [1, 2, 3, 4, 0] rfl)
  clear h
  have LP_18 : ∀ (n : Nat) (v4_1 : Int32) (mAllWays_2 : Int64), f_X8_findOdds_L18 p3 n v4_1 mAllWays_2 = some mAllWays_3 → ∀ (H : Heap) (locs : List Loc) (ls : Array Slot), Wd D A s.heap H locs (wX8 k mh mrSt mrNow mrIsKept mrDraft mrTape mrRow mrRode mrWays mrLanes mrSizes mrCells mrBefore mSt mNow mIsKept mPeople mDraft mDPeople mHasDry mToldDebts mHighest mTape mTaped mPos mBegun mSort mValue mFault mWrongAt mPaid mRow mRingMuch 0 0 mAllWays_2 mRode mWays mLanes mSizes mCells mTorn mBefore) → lv_has ls 9 [(0, .ref mh), (1, .int p1), (2, .int p2), (3, .int p3), (4, .int v4_1)] → W p l e rmX8_findOdds s m args below meth c H locs 0 0 Q (F0 m 18 ls []) := by
    clear hL_18 hw hl
    intro n
    induction n with
    | zero => intro v4_1 mAllWays_2 h; rw [f_X8_findOdds_L18] at h; cases h
    | succ n ih =>
      intro v4_1 mAllWays_2 h H locs ls hw hl
      rw [f_X8_findOdds_L18] at h
      refine lv_iload hx hb dX8_findOdds_18 (lv_at hl 4 rfl) ?_
      refine lv_iload_n hx hb dX8_findOdds_20 rfl (lv_at hl 3 rfl) ?_
      refine kb_icmp_ge (tgt := 42) hx hb dX8_findOdds_21 (by decide) h (fun c_21 h => ?_) (fun c_21 h => ?_)
      · cases h
        exact X_18 _ _ _ hw (lv_sub hl [0, 1, 2, 3] rfl)
      · refine lv_aload_n hx hb dX8_findOdds_24 rfl (lv_at hl 0 rfl) ?_
        refine lv_dup hx hb dX8_findOdds_25 rfl ?_
        refine va_get (ci := 8) (v := .long mAllWays_2) (C := RX8) (T := TX8) (N := 30) hx hb hts hinX8 hown hK.1 hw.1 0 rfl rfl 22 (by decide) q_3 (fun _ h9 => h9) rfl dX8_findOdds_26 ?_
        refine lv_ldc2 (v := 10) hx hb hown q_4 dX8_findOdds_29 ?_
        refine lv_lmul hx hb dX8_findOdds_32 ?_
        refine va_put (ci := 8) (v := .long (mAllWays_2 * 10)) (ty := tyX8 22) (C := RX8) (T := TX8) (N := 30) hx hb hts hinX8 tyX8 tyX8_ok nmX8 hown hK.1 hw.1 hw.2.1 hw.2.2 0 rfl rfl 22 (by decide) q_3 (fun _ h9 => h9) rfl (tyX8_ok 22 (by decide)) rfl rfl (Nat.le_of_ble_eq_true rfl) dX8_findOdds_33 (fun H locs hP hD hS => ?_)
        have hw : Wd D A s.heap H locs (wX8 k mh mrSt mrNow mrIsKept mrDraft mrTape mrRow mrRode mrWays mrLanes mrSizes mrCells mrBefore mSt mNow mIsKept mPeople mDraft mDPeople mHasDry mToldDebts mHighest mTape mTaped mPos mBegun mSort mValue mFault mWrongAt mPaid mRow mRingMuch 0 0 (mAllWays_2 * 10) mRode mWays mLanes mSizes mCells mTorn mBefore) := ⟨hP, hD, hS⟩
        refine lv_iinc (v := v4_1 + 1) (lv' := [(4, .int (v4_1 + 1)), (0, .ref mh), (1, .int p1), (2, .int p2), (3, .int p3)]) hx hb dX8_findOdds_36 hl (k := 4) rfl rfl (by decide) rfl (fun ls hl => ?_)
        refine lv_goto (tgt := 18) hx hb dX8_findOdds_39 (by decide) ?_
        exact ih _ _ h _ _ _ hw (lv_sub hl [1, 2, 3, 4, 0] rfl)
  exact LP_18 400 0 1 hL_18 _ _ _ hw (lv_sub hl [1, 2, 3, 4, 0] rfl)
abbrev rmX8_firstDraft : Room := { frames := 0, cells := 0, slots := 0, locals := 0 }
set_option maxHeartbeats 4000000 in
set_option maxRecDepth 100000 in
theorem c_X8_firstDraft (l : Launch) (D : va_G) (k : Nat → ClassId) (mh mrSt mrNow mrIsKept mrDraft mrTape mrRow mrRode mrWays mrLanes mrSizes mrCells mrBefore : Nat) (sz : Nat) (mSt : (Nat → Int32)) (mNow : (Nat → Int32)) (mIsKept : (Nat → Int32)) (mPeople : Int32) (mDraft : (Nat → Int32)) (mDPeople : Int32) (mHasDry : Int32) (mToldDebts : Int32) (mHighest : Int32) (mTape : (Nat → Int32)) (mTaped : Int32) (mPos : Int32) (mBegun : Int32) (mSort : Int32) (mValue : Int32) (mFault : Int32) (mWrongAt : Int32) (mPaid : Int32) (mRow : (Nat → Int32)) (mRingMuch : Int32) (mRideSum : Int64) (mOwedSum : Int64) (mAllWays : Int64) (mRode : (Nat → Int32)) (mWays : (Nat → Int32)) (mLanes : (Nat → Int32)) (mSizes : (Nat → Int32)) (mCells : (Nat → Int32)) (mTorn : Int32) (mBefore : (Nat → Int32)) (n_mDraft : (Nat → Int32)) (n_mDPeople : Int32) (n_mHasDry : Int32) (n_mToldDebts : Int32) (n_mHighest : Int32) (hf : f_X8_firstDraft mDraft = some (n_mDraft, n_mDPeople, n_mHasDry, n_mToldDebts, n_mHighest)) : mR l yX8_firstDraft wsX8_firstDraft rmX8_firstDraft D k sz [.ref mh] (wX8 k mh mrSt mrNow mrIsKept mrDraft mrTape mrRow mrRode mrWays mrLanes mrSizes mrCells mrBefore mSt mNow mIsKept mPeople mDraft mDPeople mHasDry mToldDebts mHighest mTape mTaped mPos mBegun mSort mValue mFault mWrongAt mPaid mRow mRingMuch mRideSum mOwedSum mAllWays mRode mWays mLanes mSizes mCells mTorn mBefore) (wX8 k mh mrSt mrNow mrIsKept mrDraft mrTape mrRow mrRode mrWays mrLanes mrSizes mrCells mrBefore mSt mNow mIsKept mPeople n_mDraft n_mDPeople n_mHasDry n_mToldDebts n_mHighest mTape mTaped mPos mBegun mSort mValue mFault mWrongAt mPaid mRow mRingMuch mRideSum mOwedSum mAllWays mRode mWays mLanes mSizes mCells mTorn mBefore) (none) := by
  refine mR_of (cc := cX8_firstDraft) (maxL := 2) (ret := none) (by decide) rfl (Nat.le_of_ble_eq_true rfl) [(0, .ref mh)] rfl ?_
  intro p e s m below meth c A ls args Q cx hK hA hw hl hQ
  have fx := cx.1
  obtain ⟨⟨hx, hb, hml, hown, hts⟩, hr, hlocks⟩ := cx
  have hinX8 : ∀ w ∈ wsX80, w ∈ wsX8_firstDraft := fun w h => List.mem_cons_of_mem _ (List.mem_append_right _ h)
  have q_1 := hts (.fieldLink RX8 20 "DebtRidesModel" "draft" "[I") (List.mem_of_getElem? (i := 1) rfl)
  have q_2 := hts (.fieldLink RX8 53 "DebtRidesModel" "dPeople" "I") (List.mem_of_getElem? (i := 2) rfl)
  have q_3 := hts (.fieldLink RX8 57 "DebtRidesModel" "hasDry" "Z") (List.mem_of_getElem? (i := 3) rfl)
  have q_4 := hts (.fieldLink RX8 61 "DebtRidesModel" "toldDebts" "I") (List.mem_of_getElem? (i := 4) rfl)
  have q_5 := hts (.fieldLink RX8 64 "DebtRidesModel" "highest" "I") (List.mem_of_getElem? (i := 5) rfl)
  have h := hf
  unfold f_X8_firstDraft at h
  clear hf
  refine lv_iconst (v := 0) hx hb dX8_firstDraft_0 (by decide) ?_
  refine lv_istore_n (lv' := [(1, .int 0), (0, .ref mh)]) hx hb dX8_firstDraft_1 rfl hl (by decide) rfl (fun ls hl => ?_)
  obtain ⟨mDraft_3, hL_2, h⟩ := b1_inv h
  have X_2 : ∀ (H : Heap) (locs : List Loc) (ls : Array Slot), Wd D A s.heap H locs (wX8 k mh mrSt mrNow mrIsKept mrDraft mrTape mrRow mrRode mrWays mrLanes mrSizes mrCells mrBefore mSt mNow mIsKept mPeople mDraft_3 mDPeople mHasDry mToldDebts mHighest mTape mTaped mPos mBegun mSort mValue mFault mWrongAt mPaid mRow mRingMuch mRideSum mOwedSum mAllWays mRode mWays mLanes mSizes mCells mTorn mBefore) → lv_has ls 2 [(0, .ref mh)] → W p l e rmX8_firstDraft s m args below meth c H locs 0 0 Q (F0 m 21 ls []) := by
    intro H locs ls hw hl
    refine lv_aload_n hx hb dX8_firstDraft_21 rfl (lv_at hl 0 rfl) ?_
    refine lv_iconst (v := 0) hx hb dX8_firstDraft_22 (by decide) ?_
    refine va_put (ci := 8) (v := .int 0) (ty := tyX8 5) (C := RX8) (T := TX8) (N := 30) hx hb hts hinX8 tyX8 tyX8_ok nmX8 hown hK.1 hw.1 hw.2.1 hw.2.2 0 rfl rfl 5 (by decide) q_2 (fun _ h9 => h9) rfl (tyX8_ok 5 (by decide)) rfl rfl (Nat.le_of_ble_eq_true rfl) dX8_firstDraft_23 (fun H locs hP hD hS => ?_)
    have hw : Wd D A s.heap H locs (wX8 k mh mrSt mrNow mrIsKept mrDraft mrTape mrRow mrRode mrWays mrLanes mrSizes mrCells mrBefore mSt mNow mIsKept mPeople mDraft_3 0 mHasDry mToldDebts mHighest mTape mTaped mPos mBegun mSort mValue mFault mWrongAt mPaid mRow mRingMuch mRideSum mOwedSum mAllWays mRode mWays mLanes mSizes mCells mTorn mBefore) := ⟨hP, hD, hS⟩
    refine lv_aload_n hx hb dX8_firstDraft_26 rfl (lv_at hl 0 rfl) ?_
    refine lv_iconst (v := 0) hx hb dX8_firstDraft_27 (by decide) ?_
    refine va_put (ci := 8) (v := .int 0) (ty := tyX8 6) (C := RX8) (T := TX8) (N := 30) hx hb hts hinX8 tyX8 tyX8_ok nmX8 hown hK.1 hw.1 hw.2.1 hw.2.2 0 rfl rfl 6 (by decide) q_3 (fun _ h9 => h9) rfl (tyX8_ok 6 (by decide)) rfl rfl (Nat.le_of_ble_eq_true rfl) dX8_firstDraft_28 (fun H locs hP hD hS => ?_)
    have hw : Wd D A s.heap H locs (wX8 k mh mrSt mrNow mrIsKept mrDraft mrTape mrRow mrRode mrWays mrLanes mrSizes mrCells mrBefore mSt mNow mIsKept mPeople mDraft_3 0 0 mToldDebts mHighest mTape mTaped mPos mBegun mSort mValue mFault mWrongAt mPaid mRow mRingMuch mRideSum mOwedSum mAllWays mRode mWays mLanes mSizes mCells mTorn mBefore) := ⟨hP, hD, hS⟩
    refine lv_aload_n hx hb dX8_firstDraft_31 rfl (lv_at hl 0 rfl) ?_
    refine lv_iconst (v := 0) hx hb dX8_firstDraft_32 (by decide) ?_
    refine va_put (ci := 8) (v := .int 0) (ty := tyX8 7) (C := RX8) (T := TX8) (N := 30) hx hb hts hinX8 tyX8 tyX8_ok nmX8 hown hK.1 hw.1 hw.2.1 hw.2.2 0 rfl rfl 7 (by decide) q_4 (fun _ h9 => h9) rfl (tyX8_ok 7 (by decide)) rfl rfl (Nat.le_of_ble_eq_true rfl) dX8_firstDraft_33 (fun H locs hP hD hS => ?_)
    have hw : Wd D A s.heap H locs (wX8 k mh mrSt mrNow mrIsKept mrDraft mrTape mrRow mrRode mrWays mrLanes mrSizes mrCells mrBefore mSt mNow mIsKept mPeople mDraft_3 0 0 0 mHighest mTape mTaped mPos mBegun mSort mValue mFault mWrongAt mPaid mRow mRingMuch mRideSum mOwedSum mAllWays mRode mWays mLanes mSizes mCells mTorn mBefore) := ⟨hP, hD, hS⟩
    refine lv_aload_n hx hb dX8_firstDraft_36 rfl (lv_at hl 0 rfl) ?_
    refine lv_bipush (v := (-4)) hx hb dX8_firstDraft_37 (by decide) ?_
    refine va_put (ci := 8) (v := .int (-4)) (ty := tyX8 8) (C := RX8) (T := TX8) (N := 30) hx hb hts hinX8 tyX8 tyX8_ok nmX8 hown hK.1 hw.1 hw.2.1 hw.2.2 0 rfl rfl 8 (by decide) q_5 (fun _ h9 => h9) rfl (tyX8_ok 8 (by decide)) rfl rfl (Nat.le_of_ble_eq_true rfl) dX8_firstDraft_39 (fun H locs hP hD hS => ?_)
    have hw : Wd D A s.heap H locs (wX8 k mh mrSt mrNow mrIsKept mrDraft mrTape mrRow mrRode mrWays mrLanes mrSizes mrCells mrBefore mSt mNow mIsKept mPeople mDraft_3 0 0 0 (-4) mTape mTaped mPos mBegun mSort mValue mFault mWrongAt mPaid mRow mRingMuch mRideSum mOwedSum mAllWays mRode mWays mLanes mSizes mCells mTorn mBefore) := ⟨hP, hD, hS⟩
    cases h
    exact k_vret hx hb hr hlocks hw dX8_firstDraft_42 hQ
  clear h
  have LP_2 : ∀ (n : Nat) (v1_1 : Int32) (mDraft_2 : (Nat → Int32)), f_X8_firstDraft_L2 n v1_1 mDraft_2 = some mDraft_3 → ∀ (H : Heap) (locs : List Loc) (ls : Array Slot), Wd D A s.heap H locs (wX8 k mh mrSt mrNow mrIsKept mrDraft mrTape mrRow mrRode mrWays mrLanes mrSizes mrCells mrBefore mSt mNow mIsKept mPeople mDraft_2 mDPeople mHasDry mToldDebts mHighest mTape mTaped mPos mBegun mSort mValue mFault mWrongAt mPaid mRow mRingMuch mRideSum mOwedSum mAllWays mRode mWays mLanes mSizes mCells mTorn mBefore) → lv_has ls 2 [(0, .ref mh), (1, .int v1_1)] → W p l e rmX8_firstDraft s m args below meth c H locs 0 0 Q (F0 m 2 ls []) := by
    clear hL_2 hw hl
    intro n
    induction n with
    | zero => intro v1_1 mDraft_2 h; rw [f_X8_firstDraft_L2] at h; cases h
    | succ n ih =>
      intro v1_1 mDraft_2 h H locs ls hw hl
      rw [f_X8_firstDraft_L2] at h
      refine lv_iload_n hx hb dX8_firstDraft_2 rfl (lv_at hl 1 rfl) ?_
      refine lv_bipush (v := 61) hx hb dX8_firstDraft_3 (by decide) ?_
      refine kb_icmp_ge (tgt := 21) hx hb dX8_firstDraft_5 (by decide) h (fun c_5 h => ?_) (fun c_5 h => ?_)
      · cases h
        exact X_2 _ _ _ hw (lv_sub hl [0] rfl)
      · refine lv_aload_n hx hb dX8_firstDraft_8 rfl (lv_at hl 0 rfl) ?_
        refine va_get (ci := 8) (v := .ref mrDraft) (C := RX8) (T := TX8) (N := 30) hx hb hts hinX8 hown hK.1 hw.1 0 rfl rfl 4 (by decide) q_1 (fun _ h9 => h9) rfl dX8_firstDraft_9 ?_
        refine lv_iload_n hx hb dX8_firstDraft_12 rfl (lv_at hl 1 rfl) ?_
        refine lv_iconst (v := 0) hx hb dX8_firstDraft_13 (by decide) ?_
        refine k_iast hx hb hK hw 4 rfl dX8_firstDraft_14 h (fun mDraft_4 h H locs (hw : Wd D A s.heap H locs (wX8 k mh mrSt mrNow mrIsKept mrDraft mrTape mrRow mrRode mrWays mrLanes mrSizes mrCells mrBefore mSt mNow mIsKept mPeople mDraft_4 mDPeople mHasDry mToldDebts mHighest mTape mTaped mPos mBegun mSort mValue mFault mWrongAt mPaid mRow mRingMuch mRideSum mOwedSum mAllWays mRode mWays mLanes mSizes mCells mTorn mBefore)) => ?_)
        refine lv_iinc (v := v1_1 + 1) (lv' := [(1, .int (v1_1 + 1)), (0, .ref mh)]) hx hb dX8_firstDraft_15 hl (k := 1) rfl rfl (by decide) rfl (fun ls hl => ?_)
        refine lv_goto (tgt := 2) hx hb dX8_firstDraft_18 (by decide) ?_
        exact ih _ _ h _ _ _ hw (lv_sub hl [1, 0] rfl)
  exact LP_2 400 0 mDraft hL_2 _ _ _ hw (lv_sub hl [1, 0] rfl)
abbrev rmX8_forget : Room := { frames := 1, cells := 0, slots := 0, locals := 25 }
set_option maxHeartbeats 4000000 in
set_option maxRecDepth 100000 in
theorem c_X8_forget (l : Launch) (D : va_G) (k : Nat → ClassId) (mh mrSt mrNow mrIsKept mrDraft mrTape mrRow mrRode mrWays mrLanes mrSizes mrCells mrBefore : Nat) (sz : Nat) (mSt : (Nat → Int32)) (mNow : (Nat → Int32)) (mIsKept : (Nat → Int32)) (mPeople : Int32) (mDraft : (Nat → Int32)) (mDPeople : Int32) (mHasDry : Int32) (mToldDebts : Int32) (mHighest : Int32) (mTape : (Nat → Int32)) (mTaped : Int32) (mPos : Int32) (mBegun : Int32) (mSort : Int32) (mValue : Int32) (mFault : Int32) (mWrongAt : Int32) (mPaid : Int32) (mRow : (Nat → Int32)) (mRingMuch : Int32) (mRideSum : Int64) (mOwedSum : Int64) (mAllWays : Int64) (mRode : (Nat → Int32)) (mWays : (Nat → Int32)) (mLanes : (Nat → Int32)) (mSizes : (Nat → Int32)) (mCells : (Nat → Int32)) (mTorn : Int32) (mBefore : (Nat → Int32)) (p1 : Int32) (r_ : Int32) (n_mSt : (Nat → Int32)) (hf : f_X8_forget mSt p1 = some (r_, n_mSt)) : mR l yX8_forget wsX8_forget rmX8_forget D k sz [.ref mh, .int p1] (wX8 k mh mrSt mrNow mrIsKept mrDraft mrTape mrRow mrRode mrWays mrLanes mrSizes mrCells mrBefore mSt mNow mIsKept mPeople mDraft mDPeople mHasDry mToldDebts mHighest mTape mTaped mPos mBegun mSort mValue mFault mWrongAt mPaid mRow mRingMuch mRideSum mOwedSum mAllWays mRode mWays mLanes mSizes mCells mTorn mBefore) (wX8 k mh mrSt mrNow mrIsKept mrDraft mrTape mrRow mrRode mrWays mrLanes mrSizes mrCells mrBefore n_mSt mNow mIsKept mPeople mDraft mDPeople mHasDry mToldDebts mHighest mTape mTaped mPos mBegun mSort mValue mFault mWrongAt mPaid mRow mRingMuch mRideSum mOwedSum mAllWays mRode mWays mLanes mSizes mCells mTorn mBefore) (some (.int r_)) := by
  refine mR_of (cc := cX8_forget) (maxL := 2) (ret := some .int) (by decide) rfl (Nat.le_of_ble_eq_true rfl) [(0, .ref mh), (1, .int p1)] rfl ?_
  intro p e s m below meth c A ls args Q cx hK hA hw hl hQ
  have fx := cx.1
  obtain ⟨⟨hx, hb, hml, hown, hts⟩, hr, hlocks⟩ := cx
  have hinX8 : ∀ w ∈ wsX80, w ∈ wsX8_forget := fun w h => List.mem_cons_of_mem _ (List.mem_append_right _ h)
  have q_1 := hts (.fieldLink RX8 7 "DebtRidesModel" "st" "[I") (List.mem_of_getElem? (i := 1) rfl)
  have h := hf
  unfold f_X8_forget at h
  clear hf
  refine lv_iload_n hx hb dX8_forget_0 rfl (lv_at hl 1 rfl) ?_
  refine lv_i2l hx hb dX8_forget_1 rfl ?_
  refine lv_lconst (v := 0) hx hb dX8_forget_2 rfl ?_
  refine lv_aload_n hx hb dX8_forget_3 rfl (lv_at hl 0 rfl) ?_
  refine va_get (ci := 8) (v := .ref mrSt) (C := RX8) (T := TX8) (N := 30) hx hb hts hinX8 hown hK.1 hw.1 0 rfl rfl 0 (by decide) q_1 (fun _ h9 => h9) rfl dX8_forget_4 ?_
  refine lv_bipush (v := 42) hx hb dX8_forget_7 (by decide) ?_
  refine k_iald hx hb hK hw 1 rfl dX8_forget_9 h (fun a_1 h => ?_)
  refine lv_i2l hx hb dX8_forget_10 rfl ?_
  obtain ⟨r_2, hf, h⟩ := b1_inv h
  refine k_callS (b := 0) (C := "") (host := "") fx hK hA hw (c_X8_in l D k _ p1.toInt64 0 a_1.toInt64 r_2 hf) (va_cwS 3 hts gX8_forget_X8_in rfl rfl rfl (by decide +kernel) ⟨by decide, by decide⟩) (As := [.long p1.toInt64, .long 0, .long a_1.toInt64]) (wr := [(mh, .inr (8, [.ref mrSt, .ref mrNow, .ref mrIsKept, .int mPeople, .ref mrDraft, .int mDPeople, .int mHasDry, .int mToldDebts, .int mHighest, .ref mrTape, .int mTaped, .int mPos, .int mBegun, .int mSort, .int mValue, .int mFault, .int mWrongAt, .int mPaid, .ref mrRow, .int mRingMuch, .long mRideSum, .long mOwedSum, .long mAllWays, .ref mrRode, .ref mrWays, .ref mrLanes, .ref mrSizes, .ref mrCells, .int mTorn, .ref mrBefore])), (mrSt, .inl (k 0, 183, .inl mSt)), (mrNow, .inl (k 0, 61, .inl mNow)), (mrIsKept, .inl (k 1, 2, .inl mIsKept)), (mrDraft, .inl (k 0, 61, .inl mDraft)), (mrTape, .inl (k 0, 160, .inl mTape)), (mrRow, .inl (k 0, 5, .inl mRow)), (mrRode, .inl (k 0, 31, .inl mRode)), (mrWays, .inl (k 0, 31, .inl mWays)), (mrLanes, .inl (k 0, 4, .inl mLanes)), (mrSizes, .inl (k 0, 4, .inl mSizes)), (mrCells, .inl (k 0, 160, .inl mCells)), (mrBefore, .inl (k 0, 61, .inl mBefore))]) (ws' := wX8 k mh mrSt mrNow mrIsKept mrDraft mrTape mrRow mrRode mrWays mrLanes mrSizes mrCells mrBefore mSt mNow mIsKept mPeople mDraft mDPeople mHasDry mToldDebts mHighest mTape mTaped mPos mBegun mSort mValue mFault mWrongAt mPaid mRow mRingMuch mRideSum mOwedSum mAllWays mRode mWays mLanes mSizes mCells mTorn mBefore) [] [0, 1, 2, 3, 4, 5, 6, 7, 8, 9, 10, 11, 12] [0, 1, 2, 3, 4, 5, 6, 7, 8, 9, 10, 11, 12] rfl rfl (by decide) (by decide) (by decide) rfl (by decide) [] rfl hl.1 rfl (Nat.le_of_ble_eq_true rfl) dX8_forget_11 ⟨by decide, by decide⟩ (fun H locs (hw : Wd D A s.heap H locs (wX8 k mh mrSt mrNow mrIsKept mrDraft mrTape mrRow mrRode mrWays mrLanes mrSizes mrCells mrBefore mSt mNow mIsKept mPeople mDraft mDPeople mHasDry mToldDebts mHighest mTape mTaped mPos mBegun mSort mValue mFault mWrongAt mPaid mRow mRingMuch mRideSum mOwedSum mAllWays mRode mWays mLanes mSizes mCells mTorn mBefore)) => ?_)
  refine W.eq (g2 := F0 m 14 ls ([.int r_2])) rfl ?_
  refine kb_if_eq (tgt := 27) hx hb dX8_forget_14 (by decide) h (fun c_14 h => ?_) (fun c_14 h => ?_)
  · refine lv_iconst (v := (-1)) hx hb dX8_forget_27 (by decide) ?_
    cases h
    exact k_iret hx hb hr hlocks hw rfl dX8_forget_28 hQ
  · refine lv_aload_n hx hb dX8_forget_17 rfl (lv_at hl 0 rfl) ?_
    refine lv_bipush (v := 42) hx hb dX8_forget_18 (by decide) ?_
    refine lv_iload_n hx hb dX8_forget_20 rfl (lv_at hl 1 rfl) ?_
    obtain ⟨r_3, mSt_4, hf, h⟩ := b2_inv h
    refine k_callV (host := "") fx hK hA hw (c_X8_becomes l D k mh mrSt mrNow mrIsKept mrDraft mrTape mrRow mrRode mrWays mrLanes mrSizes mrCells mrBefore _ mSt mNow mIsKept mPeople mDraft mDPeople mHasDry mToldDebts mHighest mTape mTaped mPos mBegun mSort mValue mFault mWrongAt mPaid mRow mRingMuch mRideSum mOwedSum mAllWays mRode mWays mLanes mSizes mCells mTorn mBefore 42 p1 r_3 mSt_4 hf) (cwV 2 hts gX8_forget_X8_becomes rfl rfl rfl (by decide +kernel) ⟨by decide, by decide⟩) (As := [.int 42, .int p1]) (wr := []) (ws' := wX8 k mh mrSt mrNow mrIsKept mrDraft mrTape mrRow mrRode mrWays mrLanes mrSizes mrCells mrBefore mSt_4 mNow mIsKept mPeople mDraft mDPeople mHasDry mToldDebts mHighest mTape mTaped mPos mBegun mSort mValue mFault mWrongAt mPaid mRow mRingMuch mRideSum mOwedSum mAllWays mRode mWays mLanes mSizes mCells mTorn mBefore) [0, 1, 2, 3, 4, 5, 6, 7, 8, 9, 10, 11, 12] [] [0, 1, 2, 3, 4, 5, 6, 7, 8, 9, 10, 11, 12] rfl rfl (by decide) (by decide) (by decide) rfl (by decide) 8 rfl rfl [] rfl hl.1 rfl (Nat.le_of_ble_eq_true rfl) dX8_forget_21 ⟨by decide, by decide⟩ (fun H locs (hw : Wd D A s.heap H locs (wX8 k mh mrSt mrNow mrIsKept mrDraft mrTape mrRow mrRode mrWays mrLanes mrSizes mrCells mrBefore mSt_4 mNow mIsKept mPeople mDraft mDPeople mHasDry mToldDebts mHighest mTape mTaped mPos mBegun mSort mValue mFault mWrongAt mPaid mRow mRingMuch mRideSum mOwedSum mAllWays mRode mWays mLanes mSizes mCells mTorn mBefore)) => ?_)
    refine W.eq (g2 := F0 m 24 ls ([.int r_3])) rfl ?_
    refine lv_goto (tgt := 28) hx hb dX8_forget_24 (by decide) ?_
    cases h
    exact k_iret hx hb hr hlocks hw rfl dX8_forget_28 hQ
abbrev rmX8_ridingMany : Room := { frames := 2, cells := 0, slots := 0, locals := 45 }
set_option maxHeartbeats 4000000 in
set_option maxRecDepth 100000 in
theorem c_X8_ridingMany (l : Launch) (D : va_G) (k : Nat → ClassId) (mh mrSt mrNow mrIsKept mrDraft mrTape mrRow mrRode mrWays mrLanes mrSizes mrCells mrBefore : Nat) (sz : Nat) (mSt : (Nat → Int32)) (mNow : (Nat → Int32)) (mIsKept : (Nat → Int32)) (mPeople : Int32) (mDraft : (Nat → Int32)) (mDPeople : Int32) (mHasDry : Int32) (mToldDebts : Int32) (mHighest : Int32) (mTape : (Nat → Int32)) (mTaped : Int32) (mPos : Int32) (mBegun : Int32) (mSort : Int32) (mValue : Int32) (mFault : Int32) (mWrongAt : Int32) (mPaid : Int32) (mRow : (Nat → Int32)) (mRingMuch : Int32) (mRideSum : Int64) (mOwedSum : Int64) (mAllWays : Int64) (mRode : (Nat → Int32)) (mWays : (Nat → Int32)) (mLanes : (Nat → Int32)) (mSizes : (Nat → Int32)) (mCells : (Nat → Int32)) (mTorn : Int32) (mBefore : (Nat → Int32)) (r_ : Int32) (hf : f_X8_ridingMany mNow mPeople = some r_) : mR l yX8_ridingMany wsX8_ridingMany rmX8_ridingMany D k sz [.ref mh] (wX8 k mh mrSt mrNow mrIsKept mrDraft mrTape mrRow mrRode mrWays mrLanes mrSizes mrCells mrBefore mSt mNow mIsKept mPeople mDraft mDPeople mHasDry mToldDebts mHighest mTape mTaped mPos mBegun mSort mValue mFault mWrongAt mPaid mRow mRingMuch mRideSum mOwedSum mAllWays mRode mWays mLanes mSizes mCells mTorn mBefore) (wX8 k mh mrSt mrNow mrIsKept mrDraft mrTape mrRow mrRode mrWays mrLanes mrSizes mrCells mrBefore mSt mNow mIsKept mPeople mDraft mDPeople mHasDry mToldDebts mHighest mTape mTaped mPos mBegun mSort mValue mFault mWrongAt mPaid mRow mRingMuch mRideSum mOwedSum mAllWays mRode mWays mLanes mSizes mCells mTorn mBefore) (some (.int r_)) := by
  refine mR_of (cc := cX8_ridingMany) (maxL := 3) (ret := some .int) (by decide) rfl (Nat.le_of_ble_eq_true rfl) [(0, .ref mh)] rfl ?_
  intro p e s m below meth c A ls args Q cx hK hA hw hl hQ
  have fx := cx.1
  obtain ⟨⟨hx, hb, hml, hown, hts⟩, hr, hlocks⟩ := cx
  have hinX8 : ∀ w ∈ wsX80, w ∈ wsX8_ridingMany := fun w h => List.mem_cons_of_mem _ (List.mem_append_right _ h)
  have q_1 := hts (.fieldLink RX8 67 "DebtRidesModel" "people" "I") (List.mem_of_getElem? (i := 1) rfl)
  have h := hf
  unfold f_X8_ridingMany at h
  clear hf
  refine lv_iconst (v := 0) hx hb dX8_ridingMany_0 (by decide) ?_
  refine lv_istore_n (lv' := [(1, .int 0), (0, .ref mh)]) hx hb dX8_ridingMany_1 rfl hl (by decide) rfl (fun ls hl => ?_)
  refine lv_iconst (v := 0) hx hb dX8_ridingMany_2 (by decide) ?_
  refine lv_istore_n (lv' := [(2, .int 0), (1, .int 0), (0, .ref mh)]) hx hb dX8_ridingMany_3 rfl hl (by decide) rfl (fun ls hl => ?_)
  obtain ⟨v1_3, hL_4, h⟩ := b1_inv h
  have X_4 : ∀ (H : Heap) (locs : List Loc) (ls : Array Slot), Wd D A s.heap H locs (wX8 k mh mrSt mrNow mrIsKept mrDraft mrTape mrRow mrRode mrWays mrLanes mrSizes mrCells mrBefore mSt mNow mIsKept mPeople mDraft mDPeople mHasDry mToldDebts mHighest mTape mTaped mPos mBegun mSort mValue mFault mWrongAt mPaid mRow mRingMuch mRideSum mOwedSum mAllWays mRode mWays mLanes mSizes mCells mTorn mBefore) → lv_has ls 3 [(1, .int v1_3)] → W p l e rmX8_ridingMany s m args below meth c H locs 0 0 Q (F0 m 37 ls []) := by
    intro H locs ls hw hl
    refine lv_iload_n hx hb dX8_ridingMany_37 rfl (lv_at hl 0 rfl) ?_
    cases h
    exact k_iret hx hb hr hlocks hw rfl dX8_ridingMany_38 hQ
  clear h
  have LP_4 : ∀ (n : Nat) (v1_1 : Int32) (v2_2 : Int32), f_X8_ridingMany_L4 mNow mPeople n v1_1 v2_2 = some v1_3 → ∀ (H : Heap) (locs : List Loc) (ls : Array Slot), Wd D A s.heap H locs (wX8 k mh mrSt mrNow mrIsKept mrDraft mrTape mrRow mrRode mrWays mrLanes mrSizes mrCells mrBefore mSt mNow mIsKept mPeople mDraft mDPeople mHasDry mToldDebts mHighest mTape mTaped mPos mBegun mSort mValue mFault mWrongAt mPaid mRow mRingMuch mRideSum mOwedSum mAllWays mRode mWays mLanes mSizes mCells mTorn mBefore) → lv_has ls 3 [(0, .ref mh), (1, .int v1_1), (2, .int v2_2)] → W p l e rmX8_ridingMany s m args below meth c H locs 0 0 Q (F0 m 4 ls []) := by
    clear hL_4 hw hl
    intro n
    induction n with
    | zero => intro v1_1 v2_2 h; rw [f_X8_ridingMany_L4] at h; cases h
    | succ n ih =>
      intro v1_1 v2_2 h H locs ls hw hl
      rw [f_X8_ridingMany_L4] at h
      refine lv_iload_n hx hb dX8_ridingMany_4 rfl (lv_at hl 2 rfl) ?_
      refine lv_aload_n hx hb dX8_ridingMany_5 rfl (lv_at hl 0 rfl) ?_
      refine va_get (ci := 8) (v := .int mPeople) (C := RX8) (T := TX8) (N := 30) hx hb hts hinX8 hown hK.1 hw.1 0 rfl rfl 3 (by decide) q_1 (fun _ h9 => h9) rfl dX8_ridingMany_6 ?_
      refine kb_icmp_ge (tgt := 37) hx hb dX8_ridingMany_9 (by decide) h (fun c_9 h => ?_) (fun c_9 h => ?_)
      · cases h
        exact X_4 _ _ _ hw (lv_sub hl [1] rfl)
      · refine lv_iload_n hx hb dX8_ridingMany_12 rfl (lv_at hl 1 rfl) ?_
        refine lv_aload_n hx hb dX8_ridingMany_13 rfl (lv_at hl 0 rfl) ?_
        refine lv_iload_n hx hb dX8_ridingMany_14 rfl (lv_at hl 2 rfl) ?_
        obtain ⟨r_4, hf, h⟩ := b1_inv h
        refine k_callV (host := "") fx hK hA hw (c_X8_owesAll l D k mh mrSt mrNow mrIsKept mrDraft mrTape mrRow mrRode mrWays mrLanes mrSizes mrCells mrBefore _ mSt mNow mIsKept mPeople mDraft mDPeople mHasDry mToldDebts mHighest mTape mTaped mPos mBegun mSort mValue mFault mWrongAt mPaid mRow mRingMuch mRideSum mOwedSum mAllWays mRode mWays mLanes mSizes mCells mTorn mBefore v2_2 r_4 hf) (cwV 1 hts gX8_ridingMany_X8_owesAll rfl rfl rfl (by decide +kernel) ⟨by decide, by decide⟩) (As := [.int v2_2]) (wr := []) (ws' := wX8 k mh mrSt mrNow mrIsKept mrDraft mrTape mrRow mrRode mrWays mrLanes mrSizes mrCells mrBefore mSt mNow mIsKept mPeople mDraft mDPeople mHasDry mToldDebts mHighest mTape mTaped mPos mBegun mSort mValue mFault mWrongAt mPaid mRow mRingMuch mRideSum mOwedSum mAllWays mRode mWays mLanes mSizes mCells mTorn mBefore) [0, 1, 2, 3, 4, 5, 6, 7, 8, 9, 10, 11, 12] [] [0, 1, 2, 3, 4, 5, 6, 7, 8, 9, 10, 11, 12] rfl rfl (by decide) (by decide) (by decide) rfl (by decide) 8 rfl rfl [.int v1_1] rfl hl.1 rfl (Nat.le_of_ble_eq_true rfl) dX8_ridingMany_15 ⟨by decide, by decide⟩ (fun H locs (hw : Wd D A s.heap H locs (wX8 k mh mrSt mrNow mrIsKept mrDraft mrTape mrRow mrRode mrWays mrLanes mrSizes mrCells mrBefore mSt mNow mIsKept mPeople mDraft mDPeople mHasDry mToldDebts mHighest mTape mTaped mPos mBegun mSort mValue mFault mWrongAt mPaid mRow mRingMuch mRideSum mOwedSum mAllWays mRode mWays mLanes mSizes mCells mTorn mBefore)) => ?_)
        refine W.eq (g2 := F0 m 18 ls ([.int r_4, .int v1_1])) rfl ?_
        obtain ⟨t_5, hj_18, h⟩ := b1_inv h
        have J_18 : ∀ (H : Heap) (locs : List Loc) (ls : Array Slot), Wd D A s.heap H locs (wX8 k mh mrSt mrNow mrIsKept mrDraft mrTape mrRow mrRode mrWays mrLanes mrSizes mrCells mrBefore mSt mNow mIsKept mPeople mDraft mDPeople mHasDry mToldDebts mHighest mTape mTaped mPos mBegun mSort mValue mFault mWrongAt mPaid mRow mRingMuch mRideSum mOwedSum mAllWays mRode mWays mLanes mSizes mCells mTorn mBefore) → lv_has ls 3 [(0, .ref mh), (2, .int v2_2)] → W p l e rmX8_ridingMany s m args below meth c H locs 0 0 Q (F0 m 26 ls [.int t_5, .int v1_1]) := by
          intro H locs ls hw hl
          obtain ⟨r_6, hf, h⟩ := b1_inv h
          refine k_callS (b := 0) (C := "") (host := "") fx hK hA hw (c_X8_flag l D k _ t_5 r_6 hf) (va_cwS 1 hts gX8_ridingMany_X8_flag rfl rfl rfl (by decide +kernel) ⟨by decide, by decide⟩) (As := [.int t_5]) (wr := [(mh, .inr (8, [.ref mrSt, .ref mrNow, .ref mrIsKept, .int mPeople, .ref mrDraft, .int mDPeople, .int mHasDry, .int mToldDebts, .int mHighest, .ref mrTape, .int mTaped, .int mPos, .int mBegun, .int mSort, .int mValue, .int mFault, .int mWrongAt, .int mPaid, .ref mrRow, .int mRingMuch, .long mRideSum, .long mOwedSum, .long mAllWays, .ref mrRode, .ref mrWays, .ref mrLanes, .ref mrSizes, .ref mrCells, .int mTorn, .ref mrBefore])), (mrSt, .inl (k 0, 183, .inl mSt)), (mrNow, .inl (k 0, 61, .inl mNow)), (mrIsKept, .inl (k 1, 2, .inl mIsKept)), (mrDraft, .inl (k 0, 61, .inl mDraft)), (mrTape, .inl (k 0, 160, .inl mTape)), (mrRow, .inl (k 0, 5, .inl mRow)), (mrRode, .inl (k 0, 31, .inl mRode)), (mrWays, .inl (k 0, 31, .inl mWays)), (mrLanes, .inl (k 0, 4, .inl mLanes)), (mrSizes, .inl (k 0, 4, .inl mSizes)), (mrCells, .inl (k 0, 160, .inl mCells)), (mrBefore, .inl (k 0, 61, .inl mBefore))]) (ws' := wX8 k mh mrSt mrNow mrIsKept mrDraft mrTape mrRow mrRode mrWays mrLanes mrSizes mrCells mrBefore mSt mNow mIsKept mPeople mDraft mDPeople mHasDry mToldDebts mHighest mTape mTaped mPos mBegun mSort mValue mFault mWrongAt mPaid mRow mRingMuch mRideSum mOwedSum mAllWays mRode mWays mLanes mSizes mCells mTorn mBefore) [] [0, 1, 2, 3, 4, 5, 6, 7, 8, 9, 10, 11, 12] [0, 1, 2, 3, 4, 5, 6, 7, 8, 9, 10, 11, 12] rfl rfl (by decide) (by decide) (by decide) rfl (by decide) [.int v1_1] rfl hl.1 rfl (Nat.le_of_ble_eq_true rfl) dX8_ridingMany_26 ⟨by decide, by decide⟩ (fun H locs (hw : Wd D A s.heap H locs (wX8 k mh mrSt mrNow mrIsKept mrDraft mrTape mrRow mrRode mrWays mrLanes mrSizes mrCells mrBefore mSt mNow mIsKept mPeople mDraft mDPeople mHasDry mToldDebts mHighest mTape mTaped mPos mBegun mSort mValue mFault mWrongAt mPaid mRow mRingMuch mRideSum mOwedSum mAllWays mRode mWays mLanes mSizes mCells mTorn mBefore)) => ?_)
          refine W.eq (g2 := F0 m 29 ls ([.int r_6, .int v1_1])) rfl ?_
          refine lv_iadd hx hb dX8_ridingMany_29 ?_
          refine lv_istore_n (lv' := [(1, .int (v1_1 + r_6)), (0, .ref mh), (2, .int v2_2)]) hx hb dX8_ridingMany_30 rfl hl (by decide) rfl (fun ls hl => ?_)
          refine lv_iinc (v := v2_2 + 1) (lv' := [(2, .int (v2_2 + 1)), (1, .int (v1_1 + r_6)), (0, .ref mh)]) hx hb dX8_ridingMany_31 hl (k := 2) rfl rfl (by decide) rfl (fun ls hl => ?_)
          refine lv_goto (tgt := 4) hx hb dX8_ridingMany_34 (by decide) ?_
          exact ih _ _ h _ _ _ hw (lv_sub hl [2, 1, 0] rfl)
        clear h
        have h := hj_18
        refine kb_if_ne (tgt := 25) hx hb dX8_ridingMany_18 (by decide) h (fun c_18 h => ?_) (fun c_18 h => ?_)
        · refine lv_iconst (v := 1) hx hb dX8_ridingMany_21 (by decide) ?_
          refine lv_goto (tgt := 26) hx hb dX8_ridingMany_22 (by decide) ?_
          cases h
          exact J_18 _ _ _ hw (lv_sub hl [0, 2] rfl)
        · refine lv_iconst (v := 0) hx hb dX8_ridingMany_25 (by decide) ?_
          cases h
          exact J_18 _ _ _ hw (lv_sub hl [0, 2] rfl)
  exact LP_4 400 0 0 hL_4 _ _ _ hw (lv_sub hl [2, 1, 0] rfl)
abbrev rmX8_ridingBehind : Room := { frames := 5, cells := 0, slots := 0, locals := 114 }
set_option maxHeartbeats 4000000 in
set_option maxRecDepth 100000 in
theorem c_X8_ridingBehind (l : Launch) (D : va_G) (k : Nat → ClassId) (mh mrSt mrNow mrIsKept mrDraft mrTape mrRow mrRode mrWays mrLanes mrSizes mrCells mrBefore : Nat) (sz : Nat) (mSt : (Nat → Int32)) (mNow : (Nat → Int32)) (mIsKept : (Nat → Int32)) (mPeople : Int32) (mDraft : (Nat → Int32)) (mDPeople : Int32) (mHasDry : Int32) (mToldDebts : Int32) (mHighest : Int32) (mTape : (Nat → Int32)) (mTaped : Int32) (mPos : Int32) (mBegun : Int32) (mSort : Int32) (mValue : Int32) (mFault : Int32) (mWrongAt : Int32) (mPaid : Int32) (mRow : (Nat → Int32)) (mRingMuch : Int32) (mRideSum : Int64) (mOwedSum : Int64) (mAllWays : Int64) (mRode : (Nat → Int32)) (mWays : (Nat → Int32)) (mLanes : (Nat → Int32)) (mSizes : (Nat → Int32)) (mCells : (Nat → Int32)) (mTorn : Int32) (mBefore : (Nat → Int32)) (p1 : Int32) (r_ : Int32) (n_mNow : (Nat → Int32)) (n_mPaid : Int32) (hf : f_X8_ridingBehind mNow mPeople p1 = some (r_, n_mNow, n_mPaid)) : mR l yX8_ridingBehind wsX8_ridingBehind rmX8_ridingBehind D k sz [.ref mh, .int p1] (wX8 k mh mrSt mrNow mrIsKept mrDraft mrTape mrRow mrRode mrWays mrLanes mrSizes mrCells mrBefore mSt mNow mIsKept mPeople mDraft mDPeople mHasDry mToldDebts mHighest mTape mTaped mPos mBegun mSort mValue mFault mWrongAt mPaid mRow mRingMuch mRideSum mOwedSum mAllWays mRode mWays mLanes mSizes mCells mTorn mBefore) (wX8 k mh mrSt mrNow mrIsKept mrDraft mrTape mrRow mrRode mrWays mrLanes mrSizes mrCells mrBefore mSt n_mNow mIsKept mPeople mDraft mDPeople mHasDry mToldDebts mHighest mTape mTaped mPos mBegun mSort mValue mFault mWrongAt n_mPaid mRow mRingMuch mRideSum mOwedSum mAllWays mRode mWays mLanes mSizes mCells mTorn mBefore) (some (.int r_)) := by
  refine mR_of (cc := cX8_ridingBehind) (maxL := 2) (ret := some .int) (by decide) rfl (Nat.le_of_ble_eq_true rfl) [(0, .ref mh), (1, .int p1)] rfl ?_
  intro p e s m below meth c A ls args Q cx hK hA hw hl hQ
  have fx := cx.1
  obtain ⟨⟨hx, hb, hml, hown, hts⟩, hr, hlocks⟩ := cx
  have h := hf
  unfold f_X8_ridingBehind at h
  clear hf
  refine lv_aload_n hx hb dX8_ridingBehind_0 rfl (lv_at hl 0 rfl) ?_
  refine lv_iload_n hx hb dX8_ridingBehind_1 rfl (lv_at hl 1 rfl) ?_
  obtain ⟨mNow_1, mPaid_2, hf, h⟩ := b2_inv h
  refine k_callV (host := "") fx hK hA hw (c_X8_daysGo l D k mh mrSt mrNow mrIsKept mrDraft mrTape mrRow mrRode mrWays mrLanes mrSizes mrCells mrBefore _ mSt mNow mIsKept mPeople mDraft mDPeople mHasDry mToldDebts mHighest mTape mTaped mPos mBegun mSort mValue mFault mWrongAt mPaid mRow mRingMuch mRideSum mOwedSum mAllWays mRode mWays mLanes mSizes mCells mTorn mBefore p1 mNow_1 mPaid_2 hf) (cwV 1 hts gX8_ridingBehind_X8_daysGo rfl rfl rfl (by decide +kernel) ⟨by decide, by decide⟩) (As := [.int p1]) (wr := []) (ws' := wX8 k mh mrSt mrNow mrIsKept mrDraft mrTape mrRow mrRode mrWays mrLanes mrSizes mrCells mrBefore mSt mNow_1 mIsKept mPeople mDraft mDPeople mHasDry mToldDebts mHighest mTape mTaped mPos mBegun mSort mValue mFault mWrongAt mPaid_2 mRow mRingMuch mRideSum mOwedSum mAllWays mRode mWays mLanes mSizes mCells mTorn mBefore) [0, 1, 2, 3, 4, 5, 6, 7, 8, 9, 10, 11, 12] [] [0, 1, 2, 3, 4, 5, 6, 7, 8, 9, 10, 11, 12] rfl rfl (by decide) (by decide) (by decide) rfl (by decide) 8 rfl rfl [] rfl hl.1 rfl (Nat.le_of_ble_eq_true rfl) dX8_ridingBehind_2 ⟨by decide, by decide⟩ (fun H locs (hw : Wd D A s.heap H locs (wX8 k mh mrSt mrNow mrIsKept mrDraft mrTape mrRow mrRode mrWays mrLanes mrSizes mrCells mrBefore mSt mNow_1 mIsKept mPeople mDraft mDPeople mHasDry mToldDebts mHighest mTape mTaped mPos mBegun mSort mValue mFault mWrongAt mPaid_2 mRow mRingMuch mRideSum mOwedSum mAllWays mRode mWays mLanes mSizes mCells mTorn mBefore)) => ?_)
  refine W.eq (g2 := F0 m 5 ls ([])) rfl ?_
  refine lv_aload_n hx hb dX8_ridingBehind_5 rfl (lv_at hl 0 rfl) ?_
  obtain ⟨r_3, hf, h⟩ := b1_inv h
  refine k_callV (host := "") fx hK hA hw (c_X8_ridingMany l D k mh mrSt mrNow mrIsKept mrDraft mrTape mrRow mrRode mrWays mrLanes mrSizes mrCells mrBefore _ mSt mNow_1 mIsKept mPeople mDraft mDPeople mHasDry mToldDebts mHighest mTape mTaped mPos mBegun mSort mValue mFault mWrongAt mPaid_2 mRow mRingMuch mRideSum mOwedSum mAllWays mRode mWays mLanes mSizes mCells mTorn mBefore r_3 hf) (cwV 0 hts gX8_ridingBehind_X8_ridingMany rfl rfl rfl (by decide +kernel) ⟨by decide, by decide⟩) (As := []) (wr := []) (ws' := wX8 k mh mrSt mrNow mrIsKept mrDraft mrTape mrRow mrRode mrWays mrLanes mrSizes mrCells mrBefore mSt mNow_1 mIsKept mPeople mDraft mDPeople mHasDry mToldDebts mHighest mTape mTaped mPos mBegun mSort mValue mFault mWrongAt mPaid_2 mRow mRingMuch mRideSum mOwedSum mAllWays mRode mWays mLanes mSizes mCells mTorn mBefore) [0, 1, 2, 3, 4, 5, 6, 7, 8, 9, 10, 11, 12] [] [0, 1, 2, 3, 4, 5, 6, 7, 8, 9, 10, 11, 12] rfl rfl (by decide) (by decide) (by decide) rfl (by decide) 8 rfl rfl [] rfl hl.1 rfl (Nat.le_of_ble_eq_true rfl) dX8_ridingBehind_6 ⟨by decide, by decide⟩ (fun H locs (hw : Wd D A s.heap H locs (wX8 k mh mrSt mrNow mrIsKept mrDraft mrTape mrRow mrRode mrWays mrLanes mrSizes mrCells mrBefore mSt mNow_1 mIsKept mPeople mDraft mDPeople mHasDry mToldDebts mHighest mTape mTaped mPos mBegun mSort mValue mFault mWrongAt mPaid_2 mRow mRingMuch mRideSum mOwedSum mAllWays mRode mWays mLanes mSizes mCells mTorn mBefore)) => ?_)
  refine W.eq (g2 := F0 m 9 ls ([.int r_3])) rfl ?_
  cases h
  exact k_iret hx hb hr hlocks hw rfl dX8_ridingBehind_9 hQ
abbrev rmX8_forgive : Room := { frames := 6, cells := 0, slots := 0, locals := 135 }
set_option maxHeartbeats 4000000 in
set_option maxRecDepth 100000 in
theorem c_X8_forgive (l : Launch) (D : va_G) (k : Nat → ClassId) (mh mrSt mrNow mrIsKept mrDraft mrTape mrRow mrRode mrWays mrLanes mrSizes mrCells mrBefore : Nat) (sz : Nat) (mSt : (Nat → Int32)) (mNow : (Nat → Int32)) (mIsKept : (Nat → Int32)) (mPeople : Int32) (mDraft : (Nat → Int32)) (mDPeople : Int32) (mHasDry : Int32) (mToldDebts : Int32) (mHighest : Int32) (mTape : (Nat → Int32)) (mTaped : Int32) (mPos : Int32) (mBegun : Int32) (mSort : Int32) (mValue : Int32) (mFault : Int32) (mWrongAt : Int32) (mPaid : Int32) (mRow : (Nat → Int32)) (mRingMuch : Int32) (mRideSum : Int64) (mOwedSum : Int64) (mAllWays : Int64) (mRode : (Nat → Int32)) (mWays : (Nat → Int32)) (mLanes : (Nat → Int32)) (mSizes : (Nat → Int32)) (mCells : (Nat → Int32)) (mTorn : Int32) (mBefore : (Nat → Int32)) (p1 : Int32) (r_ : Int32) (n_mNow : (Nat → Int32)) (n_mPaid : Int32) (hf : f_X8_forgive mSt mNow mPeople mPaid p1 = some (r_, n_mNow, n_mPaid)) : mR l yX8_forgive wsX8_forgive rmX8_forgive D k sz [.ref mh, .int p1] (wX8 k mh mrSt mrNow mrIsKept mrDraft mrTape mrRow mrRode mrWays mrLanes mrSizes mrCells mrBefore mSt mNow mIsKept mPeople mDraft mDPeople mHasDry mToldDebts mHighest mTape mTaped mPos mBegun mSort mValue mFault mWrongAt mPaid mRow mRingMuch mRideSum mOwedSum mAllWays mRode mWays mLanes mSizes mCells mTorn mBefore) (wX8 k mh mrSt mrNow mrIsKept mrDraft mrTape mrRow mrRode mrWays mrLanes mrSizes mrCells mrBefore mSt n_mNow mIsKept mPeople mDraft mDPeople mHasDry mToldDebts mHighest mTape mTaped mPos mBegun mSort mValue mFault mWrongAt n_mPaid mRow mRingMuch mRideSum mOwedSum mAllWays mRode mWays mLanes mSizes mCells mTorn mBefore) (some (.int r_)) := by
  refine mR_of (cc := cX8_forgive) (maxL := 7) (ret := some .int) (by decide) rfl (Nat.le_of_ble_eq_true rfl) [(0, .ref mh), (1, .int p1)] rfl ?_
  intro p e s m below meth c A ls args Q cx hK hA hw hl hQ
  have fx := cx.1
  obtain ⟨⟨hx, hb, hml, hown, hts⟩, hr, hlocks⟩ := cx
  have hinX8 : ∀ w ∈ wsX80, w ∈ wsX8_forgive := fun w h => List.mem_cons_of_mem _ (List.mem_append_right _ h)
  have q_1 := hts (.fieldLink RX8 67 "DebtRidesModel" "people" "I") (List.mem_of_getElem? (i := 1) rfl)
  have q_2 := hts (.fieldLink RX8 13 "DebtRidesModel" "now" "[I") (List.mem_of_getElem? (i := 2) rfl)
  have h := hf
  unfold f_X8_forgive at h
  clear hf
  refine lv_iload_n hx hb dX8_forgive_0 rfl (lv_at hl 1 rfl) ?_
  obtain ⟨r_1, hf, h⟩ := b1_inv h
  refine k_callS (b := 0) (C := "") (host := "") fx hK hA hw (c_X8_isPart l D k _ p1 r_1 hf) (va_cwS 1 hts gX8_forgive_X8_isPart rfl rfl rfl (by decide +kernel) ⟨by decide, by decide⟩) (As := [.int p1]) (wr := [(mh, .inr (8, [.ref mrSt, .ref mrNow, .ref mrIsKept, .int mPeople, .ref mrDraft, .int mDPeople, .int mHasDry, .int mToldDebts, .int mHighest, .ref mrTape, .int mTaped, .int mPos, .int mBegun, .int mSort, .int mValue, .int mFault, .int mWrongAt, .int mPaid, .ref mrRow, .int mRingMuch, .long mRideSum, .long mOwedSum, .long mAllWays, .ref mrRode, .ref mrWays, .ref mrLanes, .ref mrSizes, .ref mrCells, .int mTorn, .ref mrBefore])), (mrSt, .inl (k 0, 183, .inl mSt)), (mrNow, .inl (k 0, 61, .inl mNow)), (mrIsKept, .inl (k 1, 2, .inl mIsKept)), (mrDraft, .inl (k 0, 61, .inl mDraft)), (mrTape, .inl (k 0, 160, .inl mTape)), (mrRow, .inl (k 0, 5, .inl mRow)), (mrRode, .inl (k 0, 31, .inl mRode)), (mrWays, .inl (k 0, 31, .inl mWays)), (mrLanes, .inl (k 0, 4, .inl mLanes)), (mrSizes, .inl (k 0, 4, .inl mSizes)), (mrCells, .inl (k 0, 160, .inl mCells)), (mrBefore, .inl (k 0, 61, .inl mBefore))]) (ws' := wX8 k mh mrSt mrNow mrIsKept mrDraft mrTape mrRow mrRode mrWays mrLanes mrSizes mrCells mrBefore mSt mNow mIsKept mPeople mDraft mDPeople mHasDry mToldDebts mHighest mTape mTaped mPos mBegun mSort mValue mFault mWrongAt mPaid mRow mRingMuch mRideSum mOwedSum mAllWays mRode mWays mLanes mSizes mCells mTorn mBefore) [] [0, 1, 2, 3, 4, 5, 6, 7, 8, 9, 10, 11, 12] [0, 1, 2, 3, 4, 5, 6, 7, 8, 9, 10, 11, 12] rfl rfl (by decide) (by decide) (by decide) rfl (by decide) [] rfl hl.1 rfl (Nat.le_of_ble_eq_true rfl) dX8_forgive_1 ⟨by decide, by decide⟩ (fun H locs (hw : Wd D A s.heap H locs (wX8 k mh mrSt mrNow mrIsKept mrDraft mrTape mrRow mrRode mrWays mrLanes mrSizes mrCells mrBefore mSt mNow mIsKept mPeople mDraft mDPeople mHasDry mToldDebts mHighest mTape mTaped mPos mBegun mSort mValue mFault mWrongAt mPaid mRow mRingMuch mRideSum mOwedSum mAllWays mRode mWays mLanes mSizes mCells mTorn mBefore)) => ?_)
  refine W.eq (g2 := F0 m 4 ls ([.int r_1])) rfl ?_
  refine kb_if_ne (tgt := 9) hx hb dX8_forgive_4 (by decide) h (fun c_4 h => ?_) (fun c_4 h => ?_)
  · refine lv_iconst (v := (-1)) hx hb dX8_forgive_7 (by decide) ?_
    cases h
    exact k_iret hx hb hr hlocks hw rfl dX8_forgive_8 hQ
  · refine lv_aload_n hx hb dX8_forgive_9 rfl (lv_at hl 0 rfl) ?_
    obtain ⟨mNow_2, hf, h⟩ := b1_inv h
    refine k_callV (host := "") fx hK hA hw (c_X8_starts l D k mh mrSt mrNow mrIsKept mrDraft mrTape mrRow mrRode mrWays mrLanes mrSizes mrCells mrBefore _ mSt mNow mIsKept mPeople mDraft mDPeople mHasDry mToldDebts mHighest mTape mTaped mPos mBegun mSort mValue mFault mWrongAt mPaid mRow mRingMuch mRideSum mOwedSum mAllWays mRode mWays mLanes mSizes mCells mTorn mBefore mNow_2 hf) (cwV 0 hts gX8_forgive_X8_starts rfl rfl rfl (by decide +kernel) ⟨by decide, by decide⟩) (As := []) (wr := []) (ws' := wX8 k mh mrSt mrNow mrIsKept mrDraft mrTape mrRow mrRode mrWays mrLanes mrSizes mrCells mrBefore mSt mNow_2 mIsKept mPeople mDraft mDPeople mHasDry mToldDebts mHighest mTape mTaped mPos mBegun mSort mValue mFault mWrongAt mPaid mRow mRingMuch mRideSum mOwedSum mAllWays mRode mWays mLanes mSizes mCells mTorn mBefore) [0, 1, 2, 3, 4, 5, 6, 7, 8, 9, 10, 11, 12] [] [0, 1, 2, 3, 4, 5, 6, 7, 8, 9, 10, 11, 12] rfl rfl (by decide) (by decide) (by decide) rfl (by decide) 8 rfl rfl [] rfl hl.1 rfl (Nat.le_of_ble_eq_true rfl) dX8_forgive_10 ⟨by decide, by decide⟩ (fun H locs (hw : Wd D A s.heap H locs (wX8 k mh mrSt mrNow mrIsKept mrDraft mrTape mrRow mrRode mrWays mrLanes mrSizes mrCells mrBefore mSt mNow_2 mIsKept mPeople mDraft mDPeople mHasDry mToldDebts mHighest mTape mTaped mPos mBegun mSort mValue mFault mWrongAt mPaid mRow mRingMuch mRideSum mOwedSum mAllWays mRode mWays mLanes mSizes mCells mTorn mBefore)) => ?_)
    refine W.eq (g2 := F0 m 13 ls ([])) rfl ?_
    refine lv_aload_n hx hb dX8_forgive_13 rfl (lv_at hl 0 rfl) ?_
    refine lv_bipush (v := 30) hx hb dX8_forgive_14 (by decide) ?_
    obtain ⟨r_3, mNow_4, mPaid_5, hf, h⟩ := b3_inv h
    refine k_callV (host := "") fx hK hA hw (c_X8_ridingBehind l D k mh mrSt mrNow mrIsKept mrDraft mrTape mrRow mrRode mrWays mrLanes mrSizes mrCells mrBefore _ mSt mNow_2 mIsKept mPeople mDraft mDPeople mHasDry mToldDebts mHighest mTape mTaped mPos mBegun mSort mValue mFault mWrongAt mPaid mRow mRingMuch mRideSum mOwedSum mAllWays mRode mWays mLanes mSizes mCells mTorn mBefore 30 r_3 mNow_4 mPaid_5 hf) (cwV 1 hts gX8_forgive_X8_ridingBehind rfl rfl rfl (by decide +kernel) ⟨by decide, by decide⟩) (As := [.int 30]) (wr := []) (ws' := wX8 k mh mrSt mrNow mrIsKept mrDraft mrTape mrRow mrRode mrWays mrLanes mrSizes mrCells mrBefore mSt mNow_4 mIsKept mPeople mDraft mDPeople mHasDry mToldDebts mHighest mTape mTaped mPos mBegun mSort mValue mFault mWrongAt mPaid_5 mRow mRingMuch mRideSum mOwedSum mAllWays mRode mWays mLanes mSizes mCells mTorn mBefore) [0, 1, 2, 3, 4, 5, 6, 7, 8, 9, 10, 11, 12] [] [0, 1, 2, 3, 4, 5, 6, 7, 8, 9, 10, 11, 12] rfl rfl (by decide) (by decide) (by decide) rfl (by decide) 8 rfl rfl [] rfl hl.1 rfl (Nat.le_of_ble_eq_true rfl) dX8_forgive_16 ⟨by decide, by decide⟩ (fun H locs (hw : Wd D A s.heap H locs (wX8 k mh mrSt mrNow mrIsKept mrDraft mrTape mrRow mrRode mrWays mrLanes mrSizes mrCells mrBefore mSt mNow_4 mIsKept mPeople mDraft mDPeople mHasDry mToldDebts mHighest mTape mTaped mPos mBegun mSort mValue mFault mWrongAt mPaid_5 mRow mRingMuch mRideSum mOwedSum mAllWays mRode mWays mLanes mSizes mCells mTorn mBefore)) => ?_)
    refine W.eq (g2 := F0 m 19 ls ([.int r_3])) rfl ?_
    refine lv_istore_n (lv' := [(2, .int r_3), (0, .ref mh), (1, .int p1)]) hx hb dX8_forgive_19 rfl hl (by decide) rfl (fun ls hl => ?_)
    refine lv_bipush (v := (-4)) hx hb dX8_forgive_20 (by decide) ?_
    refine lv_istore_n (lv' := [(3, .int (-4)), (2, .int r_3), (0, .ref mh), (1, .int p1)]) hx hb dX8_forgive_22 rfl hl (by decide) rfl (fun ls hl => ?_)
    refine lv_iconst (v := 0) hx hb dX8_forgive_23 (by decide) ?_
    refine lv_istore (lv' := [(4, .int 0), (3, .int (-4)), (2, .int r_3), (0, .ref mh), (1, .int p1)]) hx hb dX8_forgive_24 hl (by decide) rfl (fun ls hl => ?_)
    obtain ⟨v2_11, v3_12, mNow_13, mPaid_14, hL_26, h⟩ := b4_inv h
    have X_26 : ∀ (H : Heap) (locs : List Loc) (ls : Array Slot), Wd D A s.heap H locs (wX8 k mh mrSt mrNow mrIsKept mrDraft mrTape mrRow mrRode mrWays mrLanes mrSizes mrCells mrBefore mSt mNow_13 mIsKept mPeople mDraft mDPeople mHasDry mToldDebts mHighest mTape mTaped mPos mBegun mSort mValue mFault mWrongAt mPaid_14 mRow mRingMuch mRideSum mOwedSum mAllWays mRode mWays mLanes mSizes mCells mTorn mBefore) → lv_has ls 7 [(1, .int p1), (2, .int v2_11), (3, .int v3_12)] → W p l e rmX8_forgive s m args below meth c H locs 0 0 Q (F0 m 126 ls []) := by
      intro H locs ls hw hl
      refine lv_iload_n hx hb dX8_forgive_126 rfl (lv_at hl 2 rfl) ?_
      refine lv_bipush (v := (-4)) hx hb dX8_forgive_127 (by decide) ?_
      refine kb_icmp_ne (tgt := 137) hx hb dX8_forgive_129 (by decide) h (fun c_129 h => ?_) (fun c_129 h => ?_)
      · refine lv_bipush (v := (-4)) hx hb dX8_forgive_132 (by decide) ?_
        refine lv_goto (tgt := 146) hx hb dX8_forgive_134 (by decide) ?_
        cases h
        exact k_iret hx hb hr hlocks hw rfl dX8_forgive_146 hQ
      · refine lv_iload_n hx hb dX8_forgive_137 rfl (lv_at hl 0 rfl) ?_
        refine kb_if_ne (tgt := 145) hx hb dX8_forgive_138 (by decide) h (fun c_138 h => ?_) (fun c_138 h => ?_)
        · refine lv_iload_n hx hb dX8_forgive_141 rfl (lv_at hl 2 rfl) ?_
          refine lv_goto (tgt := 146) hx hb dX8_forgive_142 (by decide) ?_
          cases h
          exact k_iret hx hb hr hlocks hw rfl dX8_forgive_146 hQ
        · refine lv_iload_n hx hb dX8_forgive_145 rfl (lv_at hl 1 rfl) ?_
          cases h
          exact k_iret hx hb hr hlocks hw rfl dX8_forgive_146 hQ
    clear h
    have LP_26 : ∀ (n : Nat) (v2_6 : Int32) (v3_7 : Int32) (v4_8 : Int32) (mNow_9 : (Nat → Int32)) (mPaid_10 : Int32), f_X8_forgive_L26 mSt mPeople n v2_6 v3_7 v4_8 mNow_9 mPaid_10 = some (v2_11, v3_12, mNow_13, mPaid_14) → ∀ (H : Heap) (locs : List Loc) (ls : Array Slot), Wd D A s.heap H locs (wX8 k mh mrSt mrNow mrIsKept mrDraft mrTape mrRow mrRode mrWays mrLanes mrSizes mrCells mrBefore mSt mNow_9 mIsKept mPeople mDraft mDPeople mHasDry mToldDebts mHighest mTape mTaped mPos mBegun mSort mValue mFault mWrongAt mPaid_10 mRow mRingMuch mRideSum mOwedSum mAllWays mRode mWays mLanes mSizes mCells mTorn mBefore) → lv_has ls 7 [(0, .ref mh), (1, .int p1), (2, .int v2_6), (3, .int v3_7), (4, .int v4_8)] → W p l e rmX8_forgive s m args below meth c H locs 0 0 Q (F0 m 26 ls []) := by
      clear hL_26 hw hl
      intro n
      induction n with
      | zero => intro v2_6 v3_7 v4_8 mNow_9 mPaid_10 h; rw [f_X8_forgive_L26] at h; cases h
      | succ n ih =>
        intro v2_6 v3_7 v4_8 mNow_9 mPaid_10 h H locs ls hw hl
        rw [f_X8_forgive_L26] at h
        refine lv_iload hx hb dX8_forgive_26 (lv_at hl 4 rfl) ?_
        refine lv_aload_n hx hb dX8_forgive_28 rfl (lv_at hl 0 rfl) ?_
        refine va_get (ci := 8) (v := .int mPeople) (C := RX8) (T := TX8) (N := 30) hx hb hts hinX8 hown hK.1 hw.1 0 rfl rfl 3 (by decide) q_1 (fun _ h9 => h9) rfl dX8_forgive_29 ?_
        refine kb_icmp_ge (tgt := 126) hx hb dX8_forgive_32 (by decide) h (fun c_32 h => ?_) (fun c_32 h => ?_)
        · cases h
          exact X_26 _ _ _ hw (lv_sub hl [1, 2, 3] rfl)
        · refine lv_iconst (v := 0) hx hb dX8_forgive_35 (by decide) ?_
          refine lv_istore (lv' := [(5, .int 0), (0, .ref mh), (1, .int p1), (2, .int v2_6), (3, .int v3_7), (4, .int v4_8)]) hx hb dX8_forgive_36 hl (by decide) rfl (fun ls hl => ?_)
          obtain ⟨v2_20, v3_21, mNow_22, mPaid_23, hL_38, h⟩ := b4_inv h
          have X_38 : ∀ (H : Heap) (locs : List Loc) (ls : Array Slot), Wd D A s.heap H locs (wX8 k mh mrSt mrNow mrIsKept mrDraft mrTape mrRow mrRode mrWays mrLanes mrSizes mrCells mrBefore mSt mNow_22 mIsKept mPeople mDraft mDPeople mHasDry mToldDebts mHighest mTape mTaped mPos mBegun mSort mValue mFault mWrongAt mPaid_23 mRow mRingMuch mRideSum mOwedSum mAllWays mRode mWays mLanes mSizes mCells mTorn mBefore) → lv_has ls 7 [(0, .ref mh), (1, .int p1), (2, .int v2_20), (3, .int v3_21), (4, .int v4_8)] → W p l e rmX8_forgive s m args below meth c H locs 0 0 Q (F0 m 120 ls []) := by
            intro H locs ls hw hl
            refine lv_iinc (v := v4_8 + 1) (lv' := [(4, .int (v4_8 + 1)), (0, .ref mh), (1, .int p1), (2, .int v2_20), (3, .int v3_21)]) hx hb dX8_forgive_120 hl (k := 4) rfl rfl (by decide) rfl (fun ls hl => ?_)
            refine lv_goto (tgt := 26) hx hb dX8_forgive_123 (by decide) ?_
            exact ih _ _ _ _ _ h _ _ _ hw (lv_sub hl [1, 2, 3, 4, 0] rfl)
          clear h
          have LP_38 : ∀ (n : Nat) (v2_15 : Int32) (v3_16 : Int32) (v5_17 : Int32) (mNow_18 : (Nat → Int32)) (mPaid_19 : Int32), f_X8_forgive_L38 mSt mPeople v4_8 n v2_15 v3_16 v5_17 mNow_18 mPaid_19 = some (v2_20, v3_21, mNow_22, mPaid_23) → ∀ (H : Heap) (locs : List Loc) (ls : Array Slot), Wd D A s.heap H locs (wX8 k mh mrSt mrNow mrIsKept mrDraft mrTape mrRow mrRode mrWays mrLanes mrSizes mrCells mrBefore mSt mNow_18 mIsKept mPeople mDraft mDPeople mHasDry mToldDebts mHighest mTape mTaped mPos mBegun mSort mValue mFault mWrongAt mPaid_19 mRow mRingMuch mRideSum mOwedSum mAllWays mRode mWays mLanes mSizes mCells mTorn mBefore) → lv_has ls 7 [(0, .ref mh), (1, .int p1), (2, .int v2_15), (3, .int v3_16), (4, .int v4_8), (5, .int v5_17)] → W p l e rmX8_forgive s m args below meth c H locs 0 0 Q (F0 m 38 ls []) := by
            clear hL_38 hw hl
            intro n
            induction n with
            | zero => intro v2_15 v3_16 v5_17 mNow_18 mPaid_19 h; rw [f_X8_forgive_L38] at h; cases h
            | succ n ih =>
              intro v2_15 v3_16 v5_17 mNow_18 mPaid_19 h H locs ls hw hl
              rw [f_X8_forgive_L38] at h
              refine lv_iload hx hb dX8_forgive_38 (lv_at hl 5 rfl) ?_
              refine lv_aload_n hx hb dX8_forgive_40 rfl (lv_at hl 0 rfl) ?_
              refine va_get (ci := 8) (v := .int mPeople) (C := RX8) (T := TX8) (N := 30) hx hb hts hinX8 hown hK.1 hw.1 0 rfl rfl 3 (by decide) q_1 (fun _ h9 => h9) rfl dX8_forgive_41 ?_
              refine kb_icmp_ge (tgt := 120) hx hb dX8_forgive_44 (by decide) h (fun c_44 h => ?_) (fun c_44 h => ?_)
              · cases h
                exact X_38 _ _ _ hw (lv_sub hl [0, 1, 2, 3, 4] rfl)
              · refine lv_iload hx hb dX8_forgive_47 (lv_at hl 4 rfl) ?_
                refine lv_iload hx hb dX8_forgive_49 (lv_at hl 5 rfl) ?_
                refine kb_icmp_eq (tgt := 114) hx hb dX8_forgive_51 (by decide) h (fun c_51 h => ?_) (fun c_51 h => ?_)
                · refine lv_iinc (v := v5_17 + 1) (lv' := [(5, .int (v5_17 + 1)), (0, .ref mh), (1, .int p1), (2, .int v2_15), (3, .int v3_16), (4, .int v4_8)]) hx hb dX8_forgive_114 hl (k := 5) rfl rfl (by decide) rfl (fun ls hl => ?_)
                  refine lv_goto (tgt := 38) hx hb dX8_forgive_117 (by decide) ?_
                  exact ih _ _ _ _ _ h _ _ _ hw (lv_sub hl [1, 2, 3, 4, 5, 0] rfl)
                · refine lv_aload_n hx hb dX8_forgive_54 rfl (lv_at hl 0 rfl) ?_
                  obtain ⟨mNow_24, hf, h⟩ := b1_inv h
                  refine k_callV (host := "") fx hK hA hw (c_X8_starts l D k mh mrSt mrNow mrIsKept mrDraft mrTape mrRow mrRode mrWays mrLanes mrSizes mrCells mrBefore _ mSt mNow_18 mIsKept mPeople mDraft mDPeople mHasDry mToldDebts mHighest mTape mTaped mPos mBegun mSort mValue mFault mWrongAt mPaid_19 mRow mRingMuch mRideSum mOwedSum mAllWays mRode mWays mLanes mSizes mCells mTorn mBefore mNow_24 hf) (cwV 0 hts gX8_forgive_X8_starts rfl rfl rfl (by decide +kernel) ⟨by decide, by decide⟩) (As := []) (wr := []) (ws' := wX8 k mh mrSt mrNow mrIsKept mrDraft mrTape mrRow mrRode mrWays mrLanes mrSizes mrCells mrBefore mSt mNow_24 mIsKept mPeople mDraft mDPeople mHasDry mToldDebts mHighest mTape mTaped mPos mBegun mSort mValue mFault mWrongAt mPaid_19 mRow mRingMuch mRideSum mOwedSum mAllWays mRode mWays mLanes mSizes mCells mTorn mBefore) [0, 1, 2, 3, 4, 5, 6, 7, 8, 9, 10, 11, 12] [] [0, 1, 2, 3, 4, 5, 6, 7, 8, 9, 10, 11, 12] rfl rfl (by decide) (by decide) (by decide) rfl (by decide) 8 rfl rfl [] rfl hl.1 rfl (Nat.le_of_ble_eq_true rfl) dX8_forgive_55 ⟨by decide, by decide⟩ (fun H locs (hw : Wd D A s.heap H locs (wX8 k mh mrSt mrNow mrIsKept mrDraft mrTape mrRow mrRode mrWays mrLanes mrSizes mrCells mrBefore mSt mNow_24 mIsKept mPeople mDraft mDPeople mHasDry mToldDebts mHighest mTape mTaped mPos mBegun mSort mValue mFault mWrongAt mPaid_19 mRow mRingMuch mRideSum mOwedSum mAllWays mRode mWays mLanes mSizes mCells mTorn mBefore)) => ?_)
                  refine W.eq (g2 := F0 m 58 ls ([])) rfl ?_
                  refine lv_aload_n hx hb dX8_forgive_58 rfl (lv_at hl 0 rfl) ?_
                  refine va_get (ci := 8) (v := .ref mrNow) (C := RX8) (T := TX8) (N := 30) hx hb hts hinX8 hown hK.1 hw.1 0 rfl rfl 1 (by decide) q_2 (fun _ h9 => h9) rfl dX8_forgive_59 ?_
                  refine lv_bipush (v := 15) hx hb dX8_forgive_62 (by decide) ?_
                  refine lv_iconst (v := 5) hx hb dX8_forgive_64 (by decide) ?_
                  refine lv_iload hx hb dX8_forgive_65 (lv_at hl 4 rfl) ?_
                  refine lv_imul hx hb dX8_forgive_67 ?_
                  refine lv_iadd hx hb dX8_forgive_68 ?_
                  refine lv_iload hx hb dX8_forgive_69 (lv_at hl 5 rfl) ?_
                  refine lv_iadd hx hb dX8_forgive_71 ?_
                  refine lv_iconst (v := 0) hx hb dX8_forgive_72 (by decide) ?_
                  refine k_iast hx hb hK hw 2 rfl dX8_forgive_73 h (fun mNow_25 h H locs (hw : Wd D A s.heap H locs (wX8 k mh mrSt mrNow mrIsKept mrDraft mrTape mrRow mrRode mrWays mrLanes mrSizes mrCells mrBefore mSt mNow_25 mIsKept mPeople mDraft mDPeople mHasDry mToldDebts mHighest mTape mTaped mPos mBegun mSort mValue mFault mWrongAt mPaid_19 mRow mRingMuch mRideSum mOwedSum mAllWays mRode mWays mLanes mSizes mCells mTorn mBefore)) => ?_)
                  refine lv_aload_n hx hb dX8_forgive_74 rfl (lv_at hl 0 rfl) ?_
                  refine lv_bipush (v := 30) hx hb dX8_forgive_75 (by decide) ?_
                  obtain ⟨r_26, mNow_27, mPaid_28, hf, h⟩ := b3_inv h
                  refine k_callV (host := "") fx hK hA hw (c_X8_ridingBehind l D k mh mrSt mrNow mrIsKept mrDraft mrTape mrRow mrRode mrWays mrLanes mrSizes mrCells mrBefore _ mSt mNow_25 mIsKept mPeople mDraft mDPeople mHasDry mToldDebts mHighest mTape mTaped mPos mBegun mSort mValue mFault mWrongAt mPaid_19 mRow mRingMuch mRideSum mOwedSum mAllWays mRode mWays mLanes mSizes mCells mTorn mBefore 30 r_26 mNow_27 mPaid_28 hf) (cwV 1 hts gX8_forgive_X8_ridingBehind rfl rfl rfl (by decide +kernel) ⟨by decide, by decide⟩) (As := [.int 30]) (wr := []) (ws' := wX8 k mh mrSt mrNow mrIsKept mrDraft mrTape mrRow mrRode mrWays mrLanes mrSizes mrCells mrBefore mSt mNow_27 mIsKept mPeople mDraft mDPeople mHasDry mToldDebts mHighest mTape mTaped mPos mBegun mSort mValue mFault mWrongAt mPaid_28 mRow mRingMuch mRideSum mOwedSum mAllWays mRode mWays mLanes mSizes mCells mTorn mBefore) [0, 1, 2, 3, 4, 5, 6, 7, 8, 9, 10, 11, 12] [] [0, 1, 2, 3, 4, 5, 6, 7, 8, 9, 10, 11, 12] rfl rfl (by decide) (by decide) (by decide) rfl (by decide) 8 rfl rfl [] rfl hl.1 rfl (Nat.le_of_ble_eq_true rfl) dX8_forgive_77 ⟨by decide, by decide⟩ (fun H locs (hw : Wd D A s.heap H locs (wX8 k mh mrSt mrNow mrIsKept mrDraft mrTape mrRow mrRode mrWays mrLanes mrSizes mrCells mrBefore mSt mNow_27 mIsKept mPeople mDraft mDPeople mHasDry mToldDebts mHighest mTape mTaped mPos mBegun mSort mValue mFault mWrongAt mPaid_28 mRow mRingMuch mRideSum mOwedSum mAllWays mRode mWays mLanes mSizes mCells mTorn mBefore)) => ?_)
                  refine W.eq (g2 := F0 m 80 ls ([.int r_26])) rfl ?_
                  refine lv_istore (lv' := [(6, .int r_26), (0, .ref mh), (1, .int p1), (2, .int v2_15), (3, .int v3_16), (4, .int v4_8), (5, .int v5_17)]) hx hb dX8_forgive_80 hl (by decide) rfl (fun ls hl => ?_)
                  refine lv_iload hx hb dX8_forgive_82 (lv_at hl 0 rfl) ?_
                  refine lv_iload_n hx hb dX8_forgive_84 rfl (lv_at hl 3 rfl) ?_
                  obtain ⟨t_29, hj_85, h⟩ := b1_inv h
                  have J_85 : ∀ (H : Heap) (locs : List Loc) (ls : Array Slot), Wd D A s.heap H locs (wX8 k mh mrSt mrNow mrIsKept mrDraft mrTape mrRow mrRode mrWays mrLanes mrSizes mrCells mrBefore mSt mNow_27 mIsKept mPeople mDraft mDPeople mHasDry mToldDebts mHighest mTape mTaped mPos mBegun mSort mValue mFault mWrongAt mPaid_28 mRow mRingMuch mRideSum mOwedSum mAllWays mRode mWays mLanes mSizes mCells mTorn mBefore) → lv_has ls 7 [(0, .ref mh), (1, .int p1), (2, .int v2_15), (4, .int v4_8), (5, .int v5_17), (6, .int r_26)] → W p l e rmX8_forgive s m args below meth c H locs 0 0 Q (F0 m 100 ls [.int t_29]) := by
                    intro H locs ls hw hl
                    refine lv_istore_n (lv' := [(3, .int t_29), (0, .ref mh), (1, .int p1), (2, .int v2_15), (4, .int v4_8), (5, .int v5_17), (6, .int r_26)]) hx hb dX8_forgive_100 rfl hl (by decide) rfl (fun ls hl => ?_)
                    refine lv_iload hx hb dX8_forgive_101 (lv_at hl 6 rfl) ?_
                    refine lv_iload_n hx hb dX8_forgive_103 rfl (lv_at hl 3 rfl) ?_
                    refine kb_icmp_le (tgt := 112) hx hb dX8_forgive_104 (by decide) h (fun c_104 h => ?_) (fun c_104 h => ?_)
                    · refine lv_iload_n hx hb dX8_forgive_112 rfl (lv_at hl 3 rfl) ?_
                      refine lv_istore_n (lv' := [(2, .int v2_15), (3, .int t_29), (0, .ref mh), (1, .int p1), (4, .int v4_8), (5, .int v5_17), (6, .int r_26)]) hx hb dX8_forgive_113 rfl hl (by decide) rfl (fun ls hl => ?_)
                      refine lv_iinc (v := v5_17 + 1) (lv' := [(5, .int (v5_17 + 1)), (2, .int v2_15), (3, .int t_29), (0, .ref mh), (1, .int p1), (4, .int v4_8), (6, .int r_26)]) hx hb dX8_forgive_114 hl (k := 5) rfl rfl (by decide) rfl (fun ls hl => ?_)
                      refine lv_goto (tgt := 38) hx hb dX8_forgive_117 (by decide) ?_
                      exact ih _ _ _ _ _ h _ _ _ hw (lv_sub hl [3, 4, 1, 2, 5, 0] rfl)
                    · refine lv_iload hx hb dX8_forgive_107 (lv_at hl 6 rfl) ?_
                      refine lv_goto (tgt := 113) hx hb dX8_forgive_109 (by decide) ?_
                      refine lv_istore_n (lv' := [(2, .int r_26), (3, .int t_29), (0, .ref mh), (1, .int p1), (4, .int v4_8), (5, .int v5_17), (6, .int r_26)]) hx hb dX8_forgive_113 rfl hl (by decide) rfl (fun ls hl => ?_)
                      refine lv_iinc (v := v5_17 + 1) (lv' := [(5, .int (v5_17 + 1)), (2, .int r_26), (3, .int t_29), (0, .ref mh), (1, .int p1), (4, .int v4_8), (6, .int r_26)]) hx hb dX8_forgive_114 hl (k := 5) rfl rfl (by decide) rfl (fun ls hl => ?_)
                      refine lv_goto (tgt := 38) hx hb dX8_forgive_117 (by decide) ?_
                      exact ih _ _ _ _ _ h _ _ _ hw (lv_sub hl [3, 4, 1, 2, 5, 0] rfl)
                  clear h
                  have h := hj_85
                  refine kb_icmp_le (tgt := 99) hx hb dX8_forgive_85 (by decide) h (fun c_85 h => ?_) (fun c_85 h => ?_)
                  · refine lv_iload_n hx hb dX8_forgive_99 rfl (lv_at hl 4 rfl) ?_
                    cases h
                    exact J_85 _ _ _ hw (lv_sub hl [1, 2, 3, 5, 6, 0] rfl)
                  · refine lv_bipush (v := 10) hx hb dX8_forgive_88 (by decide) ?_
                    refine lv_iload hx hb dX8_forgive_90 (lv_at hl 5 rfl) ?_
                    refine lv_imul hx hb dX8_forgive_92 ?_
                    refine lv_iload hx hb dX8_forgive_93 (lv_at hl 6 rfl) ?_
                    refine lv_iadd hx hb dX8_forgive_95 ?_
                    refine lv_goto (tgt := 100) hx hb dX8_forgive_96 (by decide) ?_
                    cases h
                    exact J_85 _ _ _ hw (lv_sub hl [1, 2, 3, 5, 6, 0] rfl)
          exact LP_38 400 v2_6 v3_7 0 mNow_9 mPaid_10 hL_38 _ _ _ hw (lv_sub hl [1, 2, 3, 4, 5, 0] rfl)
    exact LP_26 400 r_3 (-4) 0 mNow_4 mPaid_5 hL_26 _ _ _ hw (lv_sub hl [3, 4, 2, 1, 0] rfl)
abbrev rmX8_give : Room := { frames := 6, cells := 0, slots := 0, locals := 135 }
set_option maxHeartbeats 4000000 in
set_option maxRecDepth 100000 in
theorem c_X8_give (l : Launch) (D : va_G) (k : Nat → ClassId) (mh mrSt mrNow mrIsKept mrDraft mrTape mrRow mrRode mrWays mrLanes mrSizes mrCells mrBefore : Nat) (sz : Nat) (mSt : (Nat → Int32)) (mNow : (Nat → Int32)) (mIsKept : (Nat → Int32)) (mPeople : Int32) (mDraft : (Nat → Int32)) (mDPeople : Int32) (mHasDry : Int32) (mToldDebts : Int32) (mHighest : Int32) (mTape : (Nat → Int32)) (mTaped : Int32) (mPos : Int32) (mBegun : Int32) (mSort : Int32) (mValue : Int32) (mFault : Int32) (mWrongAt : Int32) (mPaid : Int32) (mRow : (Nat → Int32)) (mRingMuch : Int32) (mRideSum : Int64) (mOwedSum : Int64) (mAllWays : Int64) (mRode : (Nat → Int32)) (mWays : (Nat → Int32)) (mLanes : (Nat → Int32)) (mSizes : (Nat → Int32)) (mCells : (Nat → Int32)) (mTorn : Int32) (mBefore : (Nat → Int32)) (p1 : Int32) (p2 : Int32) (r_ : Int32) (n_mNow : (Nat → Int32)) (n_mPaid : Int32) (hf : f_X8_give mSt mNow mPeople mPaid p1 p2 = some (r_, n_mNow, n_mPaid)) : mR l yX8_give wsX8_give rmX8_give D k sz [.ref mh, .int p1, .int p2] (wX8 k mh mrSt mrNow mrIsKept mrDraft mrTape mrRow mrRode mrWays mrLanes mrSizes mrCells mrBefore mSt mNow mIsKept mPeople mDraft mDPeople mHasDry mToldDebts mHighest mTape mTaped mPos mBegun mSort mValue mFault mWrongAt mPaid mRow mRingMuch mRideSum mOwedSum mAllWays mRode mWays mLanes mSizes mCells mTorn mBefore) (wX8 k mh mrSt mrNow mrIsKept mrDraft mrTape mrRow mrRode mrWays mrLanes mrSizes mrCells mrBefore mSt n_mNow mIsKept mPeople mDraft mDPeople mHasDry mToldDebts mHighest mTape mTaped mPos mBegun mSort mValue mFault mWrongAt n_mPaid mRow mRingMuch mRideSum mOwedSum mAllWays mRode mWays mLanes mSizes mCells mTorn mBefore) (some (.int r_)) := by
  refine mR_of (cc := cX8_give) (maxL := 7) (ret := some .int) (by decide) rfl (Nat.le_of_ble_eq_true rfl) [(0, .ref mh), (1, .int p1), (2, .int p2)] rfl ?_
  intro p e s m below meth c A ls args Q cx hK hA hw hl hQ
  have fx := cx.1
  obtain ⟨⟨hx, hb, hml, hown, hts⟩, hr, hlocks⟩ := cx
  have hinX8 : ∀ w ∈ wsX80, w ∈ wsX8_give := fun w h => List.mem_cons_of_mem _ (List.mem_append_right _ h)
  have q_1 := hts (.constantLong RX8 216 (99)) (List.mem_of_getElem? (i := 1) rfl)
  have q_2 := hts (.fieldLink RX8 67 "DebtRidesModel" "people" "I") (List.mem_of_getElem? (i := 2) rfl)
  have h := hf
  unfold f_X8_give at h
  clear hf
  refine lv_iload_n hx hb dX8_give_0 rfl (lv_at hl 1 rfl) ?_
  refine lv_i2l hx hb dX8_give_1 rfl ?_
  refine lv_lconst (v := 1) hx hb dX8_give_2 rfl ?_
  refine lv_ldc2 (v := 99) hx hb hown q_1 dX8_give_3 ?_
  obtain ⟨r_1, hf, h⟩ := b1_inv h
  refine k_callS (b := 0) (C := "") (host := "") fx hK hA hw (c_X8_in l D k _ p1.toInt64 1 99 r_1 hf) (va_cwS 3 hts gX8_give_X8_in rfl rfl rfl (by decide +kernel) ⟨by decide, by decide⟩) (As := [.long p1.toInt64, .long 1, .long 99]) (wr := [(mh, .inr (8, [.ref mrSt, .ref mrNow, .ref mrIsKept, .int mPeople, .ref mrDraft, .int mDPeople, .int mHasDry, .int mToldDebts, .int mHighest, .ref mrTape, .int mTaped, .int mPos, .int mBegun, .int mSort, .int mValue, .int mFault, .int mWrongAt, .int mPaid, .ref mrRow, .int mRingMuch, .long mRideSum, .long mOwedSum, .long mAllWays, .ref mrRode, .ref mrWays, .ref mrLanes, .ref mrSizes, .ref mrCells, .int mTorn, .ref mrBefore])), (mrSt, .inl (k 0, 183, .inl mSt)), (mrNow, .inl (k 0, 61, .inl mNow)), (mrIsKept, .inl (k 1, 2, .inl mIsKept)), (mrDraft, .inl (k 0, 61, .inl mDraft)), (mrTape, .inl (k 0, 160, .inl mTape)), (mrRow, .inl (k 0, 5, .inl mRow)), (mrRode, .inl (k 0, 31, .inl mRode)), (mrWays, .inl (k 0, 31, .inl mWays)), (mrLanes, .inl (k 0, 4, .inl mLanes)), (mrSizes, .inl (k 0, 4, .inl mSizes)), (mrCells, .inl (k 0, 160, .inl mCells)), (mrBefore, .inl (k 0, 61, .inl mBefore))]) (ws' := wX8 k mh mrSt mrNow mrIsKept mrDraft mrTape mrRow mrRode mrWays mrLanes mrSizes mrCells mrBefore mSt mNow mIsKept mPeople mDraft mDPeople mHasDry mToldDebts mHighest mTape mTaped mPos mBegun mSort mValue mFault mWrongAt mPaid mRow mRingMuch mRideSum mOwedSum mAllWays mRode mWays mLanes mSizes mCells mTorn mBefore) [] [0, 1, 2, 3, 4, 5, 6, 7, 8, 9, 10, 11, 12] [0, 1, 2, 3, 4, 5, 6, 7, 8, 9, 10, 11, 12] rfl rfl (by decide) (by decide) (by decide) rfl (by decide) [] rfl hl.1 rfl (Nat.le_of_ble_eq_true rfl) dX8_give_6 ⟨by decide, by decide⟩ (fun H locs (hw : Wd D A s.heap H locs (wX8 k mh mrSt mrNow mrIsKept mrDraft mrTape mrRow mrRode mrWays mrLanes mrSizes mrCells mrBefore mSt mNow mIsKept mPeople mDraft mDPeople mHasDry mToldDebts mHighest mTape mTaped mPos mBegun mSort mValue mFault mWrongAt mPaid mRow mRingMuch mRideSum mOwedSum mAllWays mRode mWays mLanes mSizes mCells mTorn mBefore)) => ?_)
  refine W.eq (g2 := F0 m 9 ls ([.int r_1])) rfl ?_
  refine kb_if_eq (tgt := 19) hx hb dX8_give_9 (by decide) h (fun c_9 h => ?_) (fun c_9 h => ?_)
  · refine lv_iconst (v := (-1)) hx hb dX8_give_19 (by decide) ?_
    cases h
    exact k_iret hx hb hr hlocks hw rfl dX8_give_20 hQ
  · refine lv_iload_n hx hb dX8_give_12 rfl (lv_at hl 2 rfl) ?_
    obtain ⟨r_2, hf, h⟩ := b1_inv h
    refine k_callS (b := 0) (C := "") (host := "") fx hK hA hw (c_X8_isPart l D k _ p2 r_2 hf) (va_cwS 1 hts gX8_give_X8_isPart rfl rfl rfl (by decide +kernel) ⟨by decide, by decide⟩) (As := [.int p2]) (wr := [(mh, .inr (8, [.ref mrSt, .ref mrNow, .ref mrIsKept, .int mPeople, .ref mrDraft, .int mDPeople, .int mHasDry, .int mToldDebts, .int mHighest, .ref mrTape, .int mTaped, .int mPos, .int mBegun, .int mSort, .int mValue, .int mFault, .int mWrongAt, .int mPaid, .ref mrRow, .int mRingMuch, .long mRideSum, .long mOwedSum, .long mAllWays, .ref mrRode, .ref mrWays, .ref mrLanes, .ref mrSizes, .ref mrCells, .int mTorn, .ref mrBefore])), (mrSt, .inl (k 0, 183, .inl mSt)), (mrNow, .inl (k 0, 61, .inl mNow)), (mrIsKept, .inl (k 1, 2, .inl mIsKept)), (mrDraft, .inl (k 0, 61, .inl mDraft)), (mrTape, .inl (k 0, 160, .inl mTape)), (mrRow, .inl (k 0, 5, .inl mRow)), (mrRode, .inl (k 0, 31, .inl mRode)), (mrWays, .inl (k 0, 31, .inl mWays)), (mrLanes, .inl (k 0, 4, .inl mLanes)), (mrSizes, .inl (k 0, 4, .inl mSizes)), (mrCells, .inl (k 0, 160, .inl mCells)), (mrBefore, .inl (k 0, 61, .inl mBefore))]) (ws' := wX8 k mh mrSt mrNow mrIsKept mrDraft mrTape mrRow mrRode mrWays mrLanes mrSizes mrCells mrBefore mSt mNow mIsKept mPeople mDraft mDPeople mHasDry mToldDebts mHighest mTape mTaped mPos mBegun mSort mValue mFault mWrongAt mPaid mRow mRingMuch mRideSum mOwedSum mAllWays mRode mWays mLanes mSizes mCells mTorn mBefore) [] [0, 1, 2, 3, 4, 5, 6, 7, 8, 9, 10, 11, 12] [0, 1, 2, 3, 4, 5, 6, 7, 8, 9, 10, 11, 12] rfl rfl (by decide) (by decide) (by decide) rfl (by decide) [] rfl hl.1 rfl (Nat.le_of_ble_eq_true rfl) dX8_give_13 ⟨by decide, by decide⟩ (fun H locs (hw : Wd D A s.heap H locs (wX8 k mh mrSt mrNow mrIsKept mrDraft mrTape mrRow mrRode mrWays mrLanes mrSizes mrCells mrBefore mSt mNow mIsKept mPeople mDraft mDPeople mHasDry mToldDebts mHighest mTape mTaped mPos mBegun mSort mValue mFault mWrongAt mPaid mRow mRingMuch mRideSum mOwedSum mAllWays mRode mWays mLanes mSizes mCells mTorn mBefore)) => ?_)
    refine W.eq (g2 := F0 m 16 ls ([.int r_2])) rfl ?_
    refine kb_if_ne (tgt := 21) hx hb dX8_give_16 (by decide) h (fun c_16 h => ?_) (fun c_16 h => ?_)
    · refine lv_iconst (v := (-1)) hx hb dX8_give_19 (by decide) ?_
      cases h
      exact k_iret hx hb hr hlocks hw rfl dX8_give_20 hQ
    · refine lv_aload_n hx hb dX8_give_21 rfl (lv_at hl 0 rfl) ?_
      obtain ⟨mNow_3, hf, h⟩ := b1_inv h
      refine k_callV (host := "") fx hK hA hw (c_X8_starts l D k mh mrSt mrNow mrIsKept mrDraft mrTape mrRow mrRode mrWays mrLanes mrSizes mrCells mrBefore _ mSt mNow mIsKept mPeople mDraft mDPeople mHasDry mToldDebts mHighest mTape mTaped mPos mBegun mSort mValue mFault mWrongAt mPaid mRow mRingMuch mRideSum mOwedSum mAllWays mRode mWays mLanes mSizes mCells mTorn mBefore mNow_3 hf) (cwV 0 hts gX8_give_X8_starts rfl rfl rfl (by decide +kernel) ⟨by decide, by decide⟩) (As := []) (wr := []) (ws' := wX8 k mh mrSt mrNow mrIsKept mrDraft mrTape mrRow mrRode mrWays mrLanes mrSizes mrCells mrBefore mSt mNow_3 mIsKept mPeople mDraft mDPeople mHasDry mToldDebts mHighest mTape mTaped mPos mBegun mSort mValue mFault mWrongAt mPaid mRow mRingMuch mRideSum mOwedSum mAllWays mRode mWays mLanes mSizes mCells mTorn mBefore) [0, 1, 2, 3, 4, 5, 6, 7, 8, 9, 10, 11, 12] [] [0, 1, 2, 3, 4, 5, 6, 7, 8, 9, 10, 11, 12] rfl rfl (by decide) (by decide) (by decide) rfl (by decide) 8 rfl rfl [] rfl hl.1 rfl (Nat.le_of_ble_eq_true rfl) dX8_give_22 ⟨by decide, by decide⟩ (fun H locs (hw : Wd D A s.heap H locs (wX8 k mh mrSt mrNow mrIsKept mrDraft mrTape mrRow mrRode mrWays mrLanes mrSizes mrCells mrBefore mSt mNow_3 mIsKept mPeople mDraft mDPeople mHasDry mToldDebts mHighest mTape mTaped mPos mBegun mSort mValue mFault mWrongAt mPaid mRow mRingMuch mRideSum mOwedSum mAllWays mRode mWays mLanes mSizes mCells mTorn mBefore)) => ?_)
      refine W.eq (g2 := F0 m 25 ls ([])) rfl ?_
      refine lv_aload_n hx hb dX8_give_25 rfl (lv_at hl 0 rfl) ?_
      refine lv_bipush (v := 30) hx hb dX8_give_26 (by decide) ?_
      obtain ⟨r_4, mNow_5, mPaid_6, hf, h⟩ := b3_inv h
      refine k_callV (host := "") fx hK hA hw (c_X8_ridingBehind l D k mh mrSt mrNow mrIsKept mrDraft mrTape mrRow mrRode mrWays mrLanes mrSizes mrCells mrBefore _ mSt mNow_3 mIsKept mPeople mDraft mDPeople mHasDry mToldDebts mHighest mTape mTaped mPos mBegun mSort mValue mFault mWrongAt mPaid mRow mRingMuch mRideSum mOwedSum mAllWays mRode mWays mLanes mSizes mCells mTorn mBefore 30 r_4 mNow_5 mPaid_6 hf) (cwV 1 hts gX8_give_X8_ridingBehind rfl rfl rfl (by decide +kernel) ⟨by decide, by decide⟩) (As := [.int 30]) (wr := []) (ws' := wX8 k mh mrSt mrNow mrIsKept mrDraft mrTape mrRow mrRode mrWays mrLanes mrSizes mrCells mrBefore mSt mNow_5 mIsKept mPeople mDraft mDPeople mHasDry mToldDebts mHighest mTape mTaped mPos mBegun mSort mValue mFault mWrongAt mPaid_6 mRow mRingMuch mRideSum mOwedSum mAllWays mRode mWays mLanes mSizes mCells mTorn mBefore) [0, 1, 2, 3, 4, 5, 6, 7, 8, 9, 10, 11, 12] [] [0, 1, 2, 3, 4, 5, 6, 7, 8, 9, 10, 11, 12] rfl rfl (by decide) (by decide) (by decide) rfl (by decide) 8 rfl rfl [] rfl hl.1 rfl (Nat.le_of_ble_eq_true rfl) dX8_give_28 ⟨by decide, by decide⟩ (fun H locs (hw : Wd D A s.heap H locs (wX8 k mh mrSt mrNow mrIsKept mrDraft mrTape mrRow mrRode mrWays mrLanes mrSizes mrCells mrBefore mSt mNow_5 mIsKept mPeople mDraft mDPeople mHasDry mToldDebts mHighest mTape mTaped mPos mBegun mSort mValue mFault mWrongAt mPaid_6 mRow mRingMuch mRideSum mOwedSum mAllWays mRode mWays mLanes mSizes mCells mTorn mBefore)) => ?_)
      refine W.eq (g2 := F0 m 31 ls ([.int r_4])) rfl ?_
      refine lv_istore_n (lv' := [(3, .int r_4), (0, .ref mh), (1, .int p1), (2, .int p2)]) hx hb dX8_give_31 rfl hl (by decide) rfl (fun ls hl => ?_)
      refine lv_bipush (v := (-4)) hx hb dX8_give_32 (by decide) ?_
      refine lv_istore (lv' := [(4, .int (-4)), (3, .int r_4), (0, .ref mh), (1, .int p1), (2, .int p2)]) hx hb dX8_give_34 hl (by decide) rfl (fun ls hl => ?_)
      refine lv_iconst (v := 0) hx hb dX8_give_36 (by decide) ?_
      refine lv_istore (lv' := [(5, .int 0), (4, .int (-4)), (3, .int r_4), (0, .ref mh), (1, .int p1), (2, .int p2)]) hx hb dX8_give_37 hl (by decide) rfl (fun ls hl => ?_)
      obtain ⟨v3_12, v4_13, mNow_14, mPaid_15, hL_39, h⟩ := b4_inv h
      have X_39 : ∀ (H : Heap) (locs : List Loc) (ls : Array Slot), Wd D A s.heap H locs (wX8 k mh mrSt mrNow mrIsKept mrDraft mrTape mrRow mrRode mrWays mrLanes mrSizes mrCells mrBefore mSt mNow_14 mIsKept mPeople mDraft mDPeople mHasDry mToldDebts mHighest mTape mTaped mPos mBegun mSort mValue mFault mWrongAt mPaid_15 mRow mRingMuch mRideSum mOwedSum mAllWays mRode mWays mLanes mSizes mCells mTorn mBefore) → lv_has ls 7 [(2, .int p2), (3, .int v3_12), (4, .int v4_13)] → W p l e rmX8_give s m args below meth c H locs 0 0 Q (F0 m 101 ls []) := by
        intro H locs ls hw hl
        refine lv_iload hx hb dX8_give_101 (lv_at hl 2 rfl) ?_
        refine lv_bipush (v := (-4)) hx hb dX8_give_103 (by decide) ?_
        refine kb_icmp_ne (tgt := 113) hx hb dX8_give_105 (by decide) h (fun c_105 h => ?_) (fun c_105 h => ?_)
        · refine lv_bipush (v := (-4)) hx hb dX8_give_108 (by decide) ?_
          refine lv_goto (tgt := 123) hx hb dX8_give_110 (by decide) ?_
          cases h
          exact k_iret hx hb hr hlocks hw rfl dX8_give_123 hQ
        · refine lv_iload_n hx hb dX8_give_113 rfl (lv_at hl 0 rfl) ?_
          refine kb_if_ne (tgt := 122) hx hb dX8_give_114 (by decide) h (fun c_114 h => ?_) (fun c_114 h => ?_)
          · refine lv_iload hx hb dX8_give_117 (lv_at hl 2 rfl) ?_
            refine lv_goto (tgt := 123) hx hb dX8_give_119 (by decide) ?_
            cases h
            exact k_iret hx hb hr hlocks hw rfl dX8_give_123 hQ
          · refine lv_iload_n hx hb dX8_give_122 rfl (lv_at hl 1 rfl) ?_
            cases h
            exact k_iret hx hb hr hlocks hw rfl dX8_give_123 hQ
      clear h
      have LP_39 : ∀ (n : Nat) (v3_7 : Int32) (v4_8 : Int32) (v5_9 : Int32) (mNow_10 : (Nat → Int32)) (mPaid_11 : Int32), f_X8_give_L39 mSt mPeople p1 n v3_7 v4_8 v5_9 mNow_10 mPaid_11 = some (v3_12, v4_13, mNow_14, mPaid_15) → ∀ (H : Heap) (locs : List Loc) (ls : Array Slot), Wd D A s.heap H locs (wX8 k mh mrSt mrNow mrIsKept mrDraft mrTape mrRow mrRode mrWays mrLanes mrSizes mrCells mrBefore mSt mNow_10 mIsKept mPeople mDraft mDPeople mHasDry mToldDebts mHighest mTape mTaped mPos mBegun mSort mValue mFault mWrongAt mPaid_11 mRow mRingMuch mRideSum mOwedSum mAllWays mRode mWays mLanes mSizes mCells mTorn mBefore) → lv_has ls 7 [(0, .ref mh), (1, .int p1), (2, .int p2), (3, .int v3_7), (4, .int v4_8), (5, .int v5_9)] → W p l e rmX8_give s m args below meth c H locs 0 0 Q (F0 m 39 ls []) := by
        clear hL_39 hw hl
        intro n
        induction n with
        | zero => intro v3_7 v4_8 v5_9 mNow_10 mPaid_11 h; rw [f_X8_give_L39] at h; cases h
        | succ n ih =>
          intro v3_7 v4_8 v5_9 mNow_10 mPaid_11 h H locs ls hw hl
          rw [f_X8_give_L39] at h
          refine lv_iload hx hb dX8_give_39 (lv_at hl 5 rfl) ?_
          refine lv_aload_n hx hb dX8_give_41 rfl (lv_at hl 0 rfl) ?_
          refine va_get (ci := 8) (v := .int mPeople) (C := RX8) (T := TX8) (N := 30) hx hb hts hinX8 hown hK.1 hw.1 0 rfl rfl 3 (by decide) q_2 (fun _ h9 => h9) rfl dX8_give_42 ?_
          refine kb_icmp_ge (tgt := 101) hx hb dX8_give_45 (by decide) h (fun c_45 h => ?_) (fun c_45 h => ?_)
          · cases h
            exact X_39 _ _ _ hw (lv_sub hl [2, 3, 4] rfl)
          · refine lv_aload_n hx hb dX8_give_48 rfl (lv_at hl 0 rfl) ?_
            obtain ⟨mNow_16, hf, h⟩ := b1_inv h
            refine k_callV (host := "") fx hK hA hw (c_X8_starts l D k mh mrSt mrNow mrIsKept mrDraft mrTape mrRow mrRode mrWays mrLanes mrSizes mrCells mrBefore _ mSt mNow_10 mIsKept mPeople mDraft mDPeople mHasDry mToldDebts mHighest mTape mTaped mPos mBegun mSort mValue mFault mWrongAt mPaid_11 mRow mRingMuch mRideSum mOwedSum mAllWays mRode mWays mLanes mSizes mCells mTorn mBefore mNow_16 hf) (cwV 0 hts gX8_give_X8_starts rfl rfl rfl (by decide +kernel) ⟨by decide, by decide⟩) (As := []) (wr := []) (ws' := wX8 k mh mrSt mrNow mrIsKept mrDraft mrTape mrRow mrRode mrWays mrLanes mrSizes mrCells mrBefore mSt mNow_16 mIsKept mPeople mDraft mDPeople mHasDry mToldDebts mHighest mTape mTaped mPos mBegun mSort mValue mFault mWrongAt mPaid_11 mRow mRingMuch mRideSum mOwedSum mAllWays mRode mWays mLanes mSizes mCells mTorn mBefore) [0, 1, 2, 3, 4, 5, 6, 7, 8, 9, 10, 11, 12] [] [0, 1, 2, 3, 4, 5, 6, 7, 8, 9, 10, 11, 12] rfl rfl (by decide) (by decide) (by decide) rfl (by decide) 8 rfl rfl [] rfl hl.1 rfl (Nat.le_of_ble_eq_true rfl) dX8_give_49 ⟨by decide, by decide⟩ (fun H locs (hw : Wd D A s.heap H locs (wX8 k mh mrSt mrNow mrIsKept mrDraft mrTape mrRow mrRode mrWays mrLanes mrSizes mrCells mrBefore mSt mNow_16 mIsKept mPeople mDraft mDPeople mHasDry mToldDebts mHighest mTape mTaped mPos mBegun mSort mValue mFault mWrongAt mPaid_11 mRow mRingMuch mRideSum mOwedSum mAllWays mRode mWays mLanes mSizes mCells mTorn mBefore)) => ?_)
            refine W.eq (g2 := F0 m 52 ls ([])) rfl ?_
            refine lv_aload_n hx hb dX8_give_52 rfl (lv_at hl 0 rfl) ?_
            refine lv_iload hx hb dX8_give_53 (lv_at hl 5 rfl) ?_
            refine lv_iload_n hx hb dX8_give_55 rfl (lv_at hl 1 rfl) ?_
            obtain ⟨mNow_17, hf, h⟩ := b1_inv h
            refine k_callV (host := "") fx hK hA hw (c_X8_gets l D k mh mrSt mrNow mrIsKept mrDraft mrTape mrRow mrRode mrWays mrLanes mrSizes mrCells mrBefore _ mSt mNow_16 mIsKept mPeople mDraft mDPeople mHasDry mToldDebts mHighest mTape mTaped mPos mBegun mSort mValue mFault mWrongAt mPaid_11 mRow mRingMuch mRideSum mOwedSum mAllWays mRode mWays mLanes mSizes mCells mTorn mBefore v5_9 p1 mNow_17 hf) (cwV 2 hts gX8_give_X8_gets rfl rfl rfl (by decide +kernel) ⟨by decide, by decide⟩) (As := [.int v5_9, .int p1]) (wr := []) (ws' := wX8 k mh mrSt mrNow mrIsKept mrDraft mrTape mrRow mrRode mrWays mrLanes mrSizes mrCells mrBefore mSt mNow_17 mIsKept mPeople mDraft mDPeople mHasDry mToldDebts mHighest mTape mTaped mPos mBegun mSort mValue mFault mWrongAt mPaid_11 mRow mRingMuch mRideSum mOwedSum mAllWays mRode mWays mLanes mSizes mCells mTorn mBefore) [0, 1, 2, 3, 4, 5, 6, 7, 8, 9, 10, 11, 12] [] [0, 1, 2, 3, 4, 5, 6, 7, 8, 9, 10, 11, 12] rfl rfl (by decide) (by decide) (by decide) rfl (by decide) 8 rfl rfl [] rfl hl.1 rfl (Nat.le_of_ble_eq_true rfl) dX8_give_56 ⟨by decide, by decide⟩ (fun H locs (hw : Wd D A s.heap H locs (wX8 k mh mrSt mrNow mrIsKept mrDraft mrTape mrRow mrRode mrWays mrLanes mrSizes mrCells mrBefore mSt mNow_17 mIsKept mPeople mDraft mDPeople mHasDry mToldDebts mHighest mTape mTaped mPos mBegun mSort mValue mFault mWrongAt mPaid_11 mRow mRingMuch mRideSum mOwedSum mAllWays mRode mWays mLanes mSizes mCells mTorn mBefore)) => ?_)
            refine W.eq (g2 := F0 m 59 ls ([])) rfl ?_
            refine lv_aload_n hx hb dX8_give_59 rfl (lv_at hl 0 rfl) ?_
            refine lv_bipush (v := 30) hx hb dX8_give_60 (by decide) ?_
            obtain ⟨r_18, mNow_19, mPaid_20, hf, h⟩ := b3_inv h
            refine k_callV (host := "") fx hK hA hw (c_X8_ridingBehind l D k mh mrSt mrNow mrIsKept mrDraft mrTape mrRow mrRode mrWays mrLanes mrSizes mrCells mrBefore _ mSt mNow_17 mIsKept mPeople mDraft mDPeople mHasDry mToldDebts mHighest mTape mTaped mPos mBegun mSort mValue mFault mWrongAt mPaid_11 mRow mRingMuch mRideSum mOwedSum mAllWays mRode mWays mLanes mSizes mCells mTorn mBefore 30 r_18 mNow_19 mPaid_20 hf) (cwV 1 hts gX8_give_X8_ridingBehind rfl rfl rfl (by decide +kernel) ⟨by decide, by decide⟩) (As := [.int 30]) (wr := []) (ws' := wX8 k mh mrSt mrNow mrIsKept mrDraft mrTape mrRow mrRode mrWays mrLanes mrSizes mrCells mrBefore mSt mNow_19 mIsKept mPeople mDraft mDPeople mHasDry mToldDebts mHighest mTape mTaped mPos mBegun mSort mValue mFault mWrongAt mPaid_20 mRow mRingMuch mRideSum mOwedSum mAllWays mRode mWays mLanes mSizes mCells mTorn mBefore) [0, 1, 2, 3, 4, 5, 6, 7, 8, 9, 10, 11, 12] [] [0, 1, 2, 3, 4, 5, 6, 7, 8, 9, 10, 11, 12] rfl rfl (by decide) (by decide) (by decide) rfl (by decide) 8 rfl rfl [] rfl hl.1 rfl (Nat.le_of_ble_eq_true rfl) dX8_give_62 ⟨by decide, by decide⟩ (fun H locs (hw : Wd D A s.heap H locs (wX8 k mh mrSt mrNow mrIsKept mrDraft mrTape mrRow mrRode mrWays mrLanes mrSizes mrCells mrBefore mSt mNow_19 mIsKept mPeople mDraft mDPeople mHasDry mToldDebts mHighest mTape mTaped mPos mBegun mSort mValue mFault mWrongAt mPaid_20 mRow mRingMuch mRideSum mOwedSum mAllWays mRode mWays mLanes mSizes mCells mTorn mBefore)) => ?_)
            refine W.eq (g2 := F0 m 65 ls ([.int r_18])) rfl ?_
            refine lv_istore (lv' := [(6, .int r_18), (0, .ref mh), (1, .int p1), (2, .int p2), (3, .int v3_7), (4, .int v4_8), (5, .int v5_9)]) hx hb dX8_give_65 hl (by decide) rfl (fun ls hl => ?_)
            refine lv_iload hx hb dX8_give_67 (lv_at hl 0 rfl) ?_
            refine lv_iload_n hx hb dX8_give_69 rfl (lv_at hl 4 rfl) ?_
            obtain ⟨t_21, hj_70, h⟩ := b1_inv h
            have J_70 : ∀ (H : Heap) (locs : List Loc) (ls : Array Slot), Wd D A s.heap H locs (wX8 k mh mrSt mrNow mrIsKept mrDraft mrTape mrRow mrRode mrWays mrLanes mrSizes mrCells mrBefore mSt mNow_19 mIsKept mPeople mDraft mDPeople mHasDry mToldDebts mHighest mTape mTaped mPos mBegun mSort mValue mFault mWrongAt mPaid_20 mRow mRingMuch mRideSum mOwedSum mAllWays mRode mWays mLanes mSizes mCells mTorn mBefore) → lv_has ls 7 [(0, .ref mh), (1, .int p1), (2, .int p2), (3, .int v3_7), (5, .int v5_9), (6, .int r_18)] → W p l e rmX8_give s m args below meth c H locs 0 0 Q (F0 m 80 ls [.int t_21]) := by
              intro H locs ls hw hl
              refine lv_istore (lv' := [(4, .int t_21), (0, .ref mh), (1, .int p1), (2, .int p2), (3, .int v3_7), (5, .int v5_9), (6, .int r_18)]) hx hb dX8_give_80 hl (by decide) rfl (fun ls hl => ?_)
              refine lv_iload hx hb dX8_give_82 (lv_at hl 6 rfl) ?_
              refine lv_iload_n hx hb dX8_give_84 rfl (lv_at hl 4 rfl) ?_
              refine kb_icmp_le (tgt := 93) hx hb dX8_give_85 (by decide) h (fun c_85 h => ?_) (fun c_85 h => ?_)
              · refine lv_iload_n hx hb dX8_give_93 rfl (lv_at hl 4 rfl) ?_
                refine lv_istore_n (lv' := [(3, .int v3_7), (4, .int t_21), (0, .ref mh), (1, .int p1), (2, .int p2), (5, .int v5_9), (6, .int r_18)]) hx hb dX8_give_94 rfl hl (by decide) rfl (fun ls hl => ?_)
                refine lv_iinc (v := v5_9 + 1) (lv' := [(5, .int (v5_9 + 1)), (3, .int v3_7), (4, .int t_21), (0, .ref mh), (1, .int p1), (2, .int p2), (6, .int r_18)]) hx hb dX8_give_95 hl (k := 5) rfl rfl (by decide) rfl (fun ls hl => ?_)
                refine lv_goto (tgt := 39) hx hb dX8_give_98 (by decide) ?_
                exact ih _ _ _ _ _ h _ _ _ hw (lv_sub hl [3, 4, 5, 1, 2, 0] rfl)
              · refine lv_iload hx hb dX8_give_88 (lv_at hl 6 rfl) ?_
                refine lv_goto (tgt := 94) hx hb dX8_give_90 (by decide) ?_
                refine lv_istore_n (lv' := [(3, .int r_18), (4, .int t_21), (0, .ref mh), (1, .int p1), (2, .int p2), (5, .int v5_9), (6, .int r_18)]) hx hb dX8_give_94 rfl hl (by decide) rfl (fun ls hl => ?_)
                refine lv_iinc (v := v5_9 + 1) (lv' := [(5, .int (v5_9 + 1)), (3, .int r_18), (4, .int t_21), (0, .ref mh), (1, .int p1), (2, .int p2), (6, .int r_18)]) hx hb dX8_give_95 hl (k := 5) rfl rfl (by decide) rfl (fun ls hl => ?_)
                refine lv_goto (tgt := 39) hx hb dX8_give_98 (by decide) ?_
                exact ih _ _ _ _ _ h _ _ _ hw (lv_sub hl [3, 4, 5, 1, 2, 0] rfl)
            clear h
            have h := hj_70
            refine kb_icmp_le (tgt := 78) hx hb dX8_give_70 (by decide) h (fun c_70 h => ?_) (fun c_70 h => ?_)
            · refine lv_iload hx hb dX8_give_78 (lv_at hl 5 rfl) ?_
              cases h
              exact J_70 _ _ _ hw (lv_sub hl [1, 2, 3, 4, 6, 0] rfl)
            · refine lv_iload hx hb dX8_give_73 (lv_at hl 6 rfl) ?_
              refine lv_goto (tgt := 80) hx hb dX8_give_75 (by decide) ?_
              cases h
              exact J_70 _ _ _ hw (lv_sub hl [1, 2, 3, 4, 6, 0] rfl)
      exact LP_39 400 r_4 (-4) 0 mNow_5 mPaid_6 hL_39 _ _ _ hw (lv_sub hl [3, 4, 5, 2, 1, 0] rfl)
abbrev rmX8_is : Room := { frames := 1, cells := 0, slots := 0, locals := 21 }
set_option maxHeartbeats 4000000 in
set_option maxRecDepth 100000 in
theorem c_X8_is (l : Launch) (D : va_G) (k : Nat → ClassId) (mh mrSt mrNow mrIsKept mrDraft mrTape mrRow mrRode mrWays mrLanes mrSizes mrCells mrBefore : Nat) (sz : Nat) (mSt : (Nat → Int32)) (mNow : (Nat → Int32)) (mIsKept : (Nat → Int32)) (mPeople : Int32) (mDraft : (Nat → Int32)) (mDPeople : Int32) (mHasDry : Int32) (mToldDebts : Int32) (mHighest : Int32) (mTape : (Nat → Int32)) (mTaped : Int32) (mPos : Int32) (mBegun : Int32) (mSort : Int32) (mValue : Int32) (mFault : Int32) (mWrongAt : Int32) (mPaid : Int32) (mRow : (Nat → Int32)) (mRingMuch : Int32) (mRideSum : Int64) (mOwedSum : Int64) (mAllWays : Int64) (mRode : (Nat → Int32)) (mWays : (Nat → Int32)) (mLanes : (Nat → Int32)) (mSizes : (Nat → Int32)) (mCells : (Nat → Int32)) (mTorn : Int32) (mBefore : (Nat → Int32)) (p1 : Int32) (p2 : Int32) (p3 : Int32) (p4 : Int32) (r_ : Int32) (hf : f_X8_is mTape mTaped mPos mBegun p1 p2 p3 p4 = some r_) : mR l yX8_is wsX8_is rmX8_is D k sz [.ref mh, .int p1, .int p2, .int p3, .int p4] (wX8 k mh mrSt mrNow mrIsKept mrDraft mrTape mrRow mrRode mrWays mrLanes mrSizes mrCells mrBefore mSt mNow mIsKept mPeople mDraft mDPeople mHasDry mToldDebts mHighest mTape mTaped mPos mBegun mSort mValue mFault mWrongAt mPaid mRow mRingMuch mRideSum mOwedSum mAllWays mRode mWays mLanes mSizes mCells mTorn mBefore) (wX8 k mh mrSt mrNow mrIsKept mrDraft mrTape mrRow mrRode mrWays mrLanes mrSizes mrCells mrBefore mSt mNow mIsKept mPeople mDraft mDPeople mHasDry mToldDebts mHighest mTape mTaped mPos mBegun mSort mValue mFault mWrongAt mPaid mRow mRingMuch mRideSum mOwedSum mAllWays mRode mWays mLanes mSizes mCells mTorn mBefore) (some (.int r_)) := by
  refine mR_of (cc := cX8_is) (maxL := 5) (ret := some .boolean) (by decide) rfl (Nat.le_of_ble_eq_true rfl) [(0, .ref mh), (1, .int p1), (2, .int p2), (3, .int p3), (4, .int p4)] rfl ?_
  intro p e s m below meth c A ls args Q cx hK hA hw hl hQ
  have fx := cx.1
  obtain ⟨⟨hx, hb, hml, hown, hts⟩, hr, hlocks⟩ := cx
  have hinX8 : ∀ w ∈ wsX80, w ∈ wsX8_is := fun w h => List.mem_cons_of_mem _ (List.mem_append_right _ h)
  have q_1 := hts (.fieldLink RX8 88 "DebtRidesModel" "pos" "I") (List.mem_of_getElem? (i := 1) rfl)
  have q_2 := hts (.fieldLink RX8 82 "DebtRidesModel" "begun" "I") (List.mem_of_getElem? (i := 2) rfl)
  have h := hf
  unfold f_X8_is at h
  clear hf
  refine lv_aload_n hx hb dX8_is_0 rfl (lv_at hl 0 rfl) ?_
  refine va_get (ci := 8) (v := .int mPos) (C := RX8) (T := TX8) (N := 30) hx hb hts hinX8 hown hK.1 hw.1 0 rfl rfl 11 (by decide) q_1 (fun _ h9 => h9) rfl dX8_is_1 ?_
  refine lv_aload_n hx hb dX8_is_4 rfl (lv_at hl 0 rfl) ?_
  refine va_get (ci := 8) (v := .int mBegun) (C := RX8) (T := TX8) (N := 30) hx hb hts hinX8 hown hK.1 hw.1 0 rfl rfl 12 (by decide) q_2 (fun _ h9 => h9) rfl dX8_is_5 ?_
  refine lv_isub hx hb dX8_is_8 ?_
  refine lv_iload_n hx hb dX8_is_9 rfl (lv_at hl 1 rfl) ?_
  refine kb_icmp_ne (tgt := 58) hx hb dX8_is_10 (by decide) h (fun c_10 h => ?_) (fun c_10 h => ?_)
  · refine lv_aload_n hx hb dX8_is_13 rfl (lv_at hl 0 rfl) ?_
    refine lv_aload_n hx hb dX8_is_14 rfl (lv_at hl 0 rfl) ?_
    refine va_get (ci := 8) (v := .int mBegun) (C := RX8) (T := TX8) (N := 30) hx hb hts hinX8 hown hK.1 hw.1 0 rfl rfl 12 (by decide) q_2 (fun _ h9 => h9) rfl dX8_is_15 ?_
    obtain ⟨r_1, hf, h⟩ := b1_inv h
    refine k_callV (host := "") fx hK hA hw (c_X8_byteAt l D k mh mrSt mrNow mrIsKept mrDraft mrTape mrRow mrRode mrWays mrLanes mrSizes mrCells mrBefore _ mSt mNow mIsKept mPeople mDraft mDPeople mHasDry mToldDebts mHighest mTape mTaped mPos mBegun mSort mValue mFault mWrongAt mPaid mRow mRingMuch mRideSum mOwedSum mAllWays mRode mWays mLanes mSizes mCells mTorn mBefore mBegun r_1 hf) (cwV 1 hts gX8_is_X8_byteAt rfl rfl rfl (by decide +kernel) ⟨by decide, by decide⟩) (As := [.int mBegun]) (wr := []) (ws' := wX8 k mh mrSt mrNow mrIsKept mrDraft mrTape mrRow mrRode mrWays mrLanes mrSizes mrCells mrBefore mSt mNow mIsKept mPeople mDraft mDPeople mHasDry mToldDebts mHighest mTape mTaped mPos mBegun mSort mValue mFault mWrongAt mPaid mRow mRingMuch mRideSum mOwedSum mAllWays mRode mWays mLanes mSizes mCells mTorn mBefore) [0, 1, 2, 3, 4, 5, 6, 7, 8, 9, 10, 11, 12] [] [0, 1, 2, 3, 4, 5, 6, 7, 8, 9, 10, 11, 12] rfl rfl (by decide) (by decide) (by decide) rfl (by decide) 8 rfl rfl [] rfl hl.1 rfl (Nat.le_of_ble_eq_true rfl) dX8_is_18 ⟨by decide, by decide⟩ (fun H locs (hw : Wd D A s.heap H locs (wX8 k mh mrSt mrNow mrIsKept mrDraft mrTape mrRow mrRode mrWays mrLanes mrSizes mrCells mrBefore mSt mNow mIsKept mPeople mDraft mDPeople mHasDry mToldDebts mHighest mTape mTaped mPos mBegun mSort mValue mFault mWrongAt mPaid mRow mRingMuch mRideSum mOwedSum mAllWays mRode mWays mLanes mSizes mCells mTorn mBefore)) => ?_)
    refine W.eq (g2 := F0 m 21 ls ([.int r_1])) rfl ?_
    refine lv_iload_n hx hb dX8_is_21 rfl (lv_at hl 2 rfl) ?_
    refine kb_icmp_ne (tgt := 58) hx hb dX8_is_22 (by decide) h (fun c_22 h => ?_) (fun c_22 h => ?_)
    · refine lv_aload_n hx hb dX8_is_25 rfl (lv_at hl 0 rfl) ?_
      refine lv_aload_n hx hb dX8_is_26 rfl (lv_at hl 0 rfl) ?_
      refine va_get (ci := 8) (v := .int mBegun) (C := RX8) (T := TX8) (N := 30) hx hb hts hinX8 hown hK.1 hw.1 0 rfl rfl 12 (by decide) q_2 (fun _ h9 => h9) rfl dX8_is_27 ?_
      refine lv_iconst (v := 1) hx hb dX8_is_30 (by decide) ?_
      refine lv_iadd hx hb dX8_is_31 ?_
      obtain ⟨r_2, hf, h⟩ := b1_inv h
      refine k_callV (host := "") fx hK hA hw (c_X8_byteAt l D k mh mrSt mrNow mrIsKept mrDraft mrTape mrRow mrRode mrWays mrLanes mrSizes mrCells mrBefore _ mSt mNow mIsKept mPeople mDraft mDPeople mHasDry mToldDebts mHighest mTape mTaped mPos mBegun mSort mValue mFault mWrongAt mPaid mRow mRingMuch mRideSum mOwedSum mAllWays mRode mWays mLanes mSizes mCells mTorn mBefore (mBegun + 1) r_2 hf) (cwV 1 hts gX8_is_X8_byteAt rfl rfl rfl (by decide +kernel) ⟨by decide, by decide⟩) (As := [.int (mBegun + 1)]) (wr := []) (ws' := wX8 k mh mrSt mrNow mrIsKept mrDraft mrTape mrRow mrRode mrWays mrLanes mrSizes mrCells mrBefore mSt mNow mIsKept mPeople mDraft mDPeople mHasDry mToldDebts mHighest mTape mTaped mPos mBegun mSort mValue mFault mWrongAt mPaid mRow mRingMuch mRideSum mOwedSum mAllWays mRode mWays mLanes mSizes mCells mTorn mBefore) [0, 1, 2, 3, 4, 5, 6, 7, 8, 9, 10, 11, 12] [] [0, 1, 2, 3, 4, 5, 6, 7, 8, 9, 10, 11, 12] rfl rfl (by decide) (by decide) (by decide) rfl (by decide) 8 rfl rfl [] rfl hl.1 rfl (Nat.le_of_ble_eq_true rfl) dX8_is_32 ⟨by decide, by decide⟩ (fun H locs (hw : Wd D A s.heap H locs (wX8 k mh mrSt mrNow mrIsKept mrDraft mrTape mrRow mrRode mrWays mrLanes mrSizes mrCells mrBefore mSt mNow mIsKept mPeople mDraft mDPeople mHasDry mToldDebts mHighest mTape mTaped mPos mBegun mSort mValue mFault mWrongAt mPaid mRow mRingMuch mRideSum mOwedSum mAllWays mRode mWays mLanes mSizes mCells mTorn mBefore)) => ?_)
      refine W.eq (g2 := F0 m 35 ls ([.int r_2])) rfl ?_
      refine lv_iload_n hx hb dX8_is_35 rfl (lv_at hl 3 rfl) ?_
      refine kb_icmp_ne (tgt := 58) hx hb dX8_is_36 (by decide) h (fun c_36 h => ?_) (fun c_36 h => ?_)
      · refine lv_aload_n hx hb dX8_is_39 rfl (lv_at hl 0 rfl) ?_
        refine lv_aload_n hx hb dX8_is_40 rfl (lv_at hl 0 rfl) ?_
        refine va_get (ci := 8) (v := .int mBegun) (C := RX8) (T := TX8) (N := 30) hx hb hts hinX8 hown hK.1 hw.1 0 rfl rfl 12 (by decide) q_2 (fun _ h9 => h9) rfl dX8_is_41 ?_
        refine lv_iconst (v := 2) hx hb dX8_is_44 (by decide) ?_
        refine lv_iadd hx hb dX8_is_45 ?_
        obtain ⟨r_3, hf, h⟩ := b1_inv h
        refine k_callV (host := "") fx hK hA hw (c_X8_byteAt l D k mh mrSt mrNow mrIsKept mrDraft mrTape mrRow mrRode mrWays mrLanes mrSizes mrCells mrBefore _ mSt mNow mIsKept mPeople mDraft mDPeople mHasDry mToldDebts mHighest mTape mTaped mPos mBegun mSort mValue mFault mWrongAt mPaid mRow mRingMuch mRideSum mOwedSum mAllWays mRode mWays mLanes mSizes mCells mTorn mBefore (mBegun + 2) r_3 hf) (cwV 1 hts gX8_is_X8_byteAt rfl rfl rfl (by decide +kernel) ⟨by decide, by decide⟩) (As := [.int (mBegun + 2)]) (wr := []) (ws' := wX8 k mh mrSt mrNow mrIsKept mrDraft mrTape mrRow mrRode mrWays mrLanes mrSizes mrCells mrBefore mSt mNow mIsKept mPeople mDraft mDPeople mHasDry mToldDebts mHighest mTape mTaped mPos mBegun mSort mValue mFault mWrongAt mPaid mRow mRingMuch mRideSum mOwedSum mAllWays mRode mWays mLanes mSizes mCells mTorn mBefore) [0, 1, 2, 3, 4, 5, 6, 7, 8, 9, 10, 11, 12] [] [0, 1, 2, 3, 4, 5, 6, 7, 8, 9, 10, 11, 12] rfl rfl (by decide) (by decide) (by decide) rfl (by decide) 8 rfl rfl [] rfl hl.1 rfl (Nat.le_of_ble_eq_true rfl) dX8_is_46 ⟨by decide, by decide⟩ (fun H locs (hw : Wd D A s.heap H locs (wX8 k mh mrSt mrNow mrIsKept mrDraft mrTape mrRow mrRode mrWays mrLanes mrSizes mrCells mrBefore mSt mNow mIsKept mPeople mDraft mDPeople mHasDry mToldDebts mHighest mTape mTaped mPos mBegun mSort mValue mFault mWrongAt mPaid mRow mRingMuch mRideSum mOwedSum mAllWays mRode mWays mLanes mSizes mCells mTorn mBefore)) => ?_)
        refine W.eq (g2 := F0 m 49 ls ([.int r_3])) rfl ?_
        refine lv_iload hx hb dX8_is_49 (lv_at hl 4 rfl) ?_
        refine kb_icmp_ne (tgt := 58) hx hb dX8_is_51 (by decide) h (fun c_51 h => ?_) (fun c_51 h => ?_)
        · refine lv_iconst (v := 1) hx hb dX8_is_54 (by decide) ?_
          refine lv_goto (tgt := 59) hx hb dX8_is_55 (by decide) ?_
          cases h
          exact k_zret hx hb hr hlocks hw (by decide) rfl dX8_is_59 hQ
        · refine lv_iconst (v := 0) hx hb dX8_is_58 (by decide) ?_
          cases h
          exact k_zret hx hb hr hlocks hw (by decide) rfl dX8_is_59 hQ
      · refine lv_iconst (v := 0) hx hb dX8_is_58 (by decide) ?_
        cases h
        exact k_zret hx hb hr hlocks hw (by decide) rfl dX8_is_59 hQ
    · refine lv_iconst (v := 0) hx hb dX8_is_58 (by decide) ?_
      cases h
      exact k_zret hx hb hr hlocks hw (by decide) rfl dX8_is_59 hQ
  · refine lv_iconst (v := 0) hx hb dX8_is_58 (by decide) ?_
    cases h
    exact k_zret hx hb hr hlocks hw (by decide) rfl dX8_is_59 hQ
abbrev rmX8_isSheet : Room := { frames := 1, cells := 0, slots := 0, locals := 25 }
set_option maxHeartbeats 4000000 in
set_option maxRecDepth 100000 in
theorem c_X8_isSheet (l : Launch) (D : va_G) (k : Nat → ClassId) (sz : Nat) (p1 : Int32) (p2 : Int32) (r_ : Int32) (hf : f_X8_isSheet p1 p2 = some r_) : mR l yX8_isSheet wsX8_isSheet rmX8_isSheet D k sz [.int p1, .int p2] ([]) ([]) (some (.int r_)) := by
  refine mR_of (cc := cX8_isSheet) (maxL := 2) (ret := some .boolean) (by decide) rfl (Nat.le_of_ble_eq_true rfl) [(0, .int p1), (1, .int p2)] rfl ?_
  intro p e s m below meth c A ls args Q cx hK hA hw hl hQ
  have fx := cx.1
  obtain ⟨⟨hx, hb, hml, hown, hts⟩, hr, hlocks⟩ := cx
  have q_1 := hts (.constantLong RX8 207 (3)) (List.mem_of_getElem? (i := 1) rfl)
  have q_2 := hts (.constantLong RX8 234 (2)) (List.mem_of_getElem? (i := 2) rfl)
  have h := hf
  unfold f_X8_isSheet at h
  clear hf
  refine lv_iload_n hx hb dX8_isSheet_0 rfl (lv_at hl 0 rfl) ?_
  refine lv_i2l hx hb dX8_isSheet_1 rfl ?_
  refine lv_lconst (v := 0) hx hb dX8_isSheet_2 rfl ?_
  refine lv_ldc2 (v := 3) hx hb hown q_1 dX8_isSheet_3 ?_
  obtain ⟨r_1, hf, h⟩ := b1_inv h
  refine k_callS (b := 0) (C := "") (host := "") fx hK hA hw (c_X8_in l D k _ p1.toInt64 0 3 r_1 hf) (va_cwS 3 hts gX8_isSheet_X8_in rfl rfl rfl (by decide +kernel) ⟨by decide, by decide⟩) (As := [.long p1.toInt64, .long 0, .long 3]) (wr := []) (ws' := []) [] [] [] rfl rfl (by decide) (by decide) (by decide) rfl (by decide) [] rfl hl.1 rfl (Nat.le_of_ble_eq_true rfl) dX8_isSheet_6 ⟨by decide, by decide⟩ (fun H locs (hw : Wd D A s.heap H locs ([])) => ?_)
  refine W.eq (g2 := F0 m 9 ls ([.int r_1])) rfl ?_
  refine kb_if_eq (tgt := 28) hx hb dX8_isSheet_9 (by decide) h (fun c_9 h => ?_) (fun c_9 h => ?_)
  · refine lv_iconst (v := 0) hx hb dX8_isSheet_28 (by decide) ?_
    cases h
    exact k_zret hx hb hr hlocks hw (by decide) rfl dX8_isSheet_29 hQ
  · refine lv_iload_n hx hb dX8_isSheet_12 rfl (lv_at hl 1 rfl) ?_
    refine lv_i2l hx hb dX8_isSheet_13 rfl ?_
    refine lv_lconst (v := 0) hx hb dX8_isSheet_14 rfl ?_
    refine lv_ldc2 (v := 2) hx hb hown q_2 dX8_isSheet_15 ?_
    obtain ⟨r_2, hf, h⟩ := b1_inv h
    refine k_callS (b := 0) (C := "") (host := "") fx hK hA hw (c_X8_in l D k _ p2.toInt64 0 2 r_2 hf) (va_cwS 3 hts gX8_isSheet_X8_in rfl rfl rfl (by decide +kernel) ⟨by decide, by decide⟩) (As := [.long p2.toInt64, .long 0, .long 2]) (wr := []) (ws' := []) [] [] [] rfl rfl (by decide) (by decide) (by decide) rfl (by decide) [] rfl hl.1 rfl (Nat.le_of_ble_eq_true rfl) dX8_isSheet_18 ⟨by decide, by decide⟩ (fun H locs (hw : Wd D A s.heap H locs ([])) => ?_)
    refine W.eq (g2 := F0 m 21 ls ([.int r_2])) rfl ?_
    refine kb_if_eq (tgt := 28) hx hb dX8_isSheet_21 (by decide) h (fun c_21 h => ?_) (fun c_21 h => ?_)
    · refine lv_iconst (v := 0) hx hb dX8_isSheet_28 (by decide) ?_
      cases h
      exact k_zret hx hb hr hlocks hw (by decide) rfl dX8_isSheet_29 hQ
    · refine lv_iconst (v := 1) hx hb dX8_isSheet_24 (by decide) ?_
      refine lv_goto (tgt := 29) hx hb dX8_isSheet_25 (by decide) ?_
      cases h
      exact k_zret hx hb hr hlocks hw (by decide) rfl dX8_isSheet_29 hQ
abbrev rmX8_keep : Room := { frames := 1, cells := 0, slots := 0, locals := 25 }
set_option maxHeartbeats 4000000 in
set_option maxRecDepth 100000 in
theorem c_X8_keep (l : Launch) (D : va_G) (k : Nat → ClassId) (mh mrSt mrNow mrIsKept mrDraft mrTape mrRow mrRode mrWays mrLanes mrSizes mrCells mrBefore : Nat) (sz : Nat) (mSt : (Nat → Int32)) (mNow : (Nat → Int32)) (mIsKept : (Nat → Int32)) (mPeople : Int32) (mDraft : (Nat → Int32)) (mDPeople : Int32) (mHasDry : Int32) (mToldDebts : Int32) (mHighest : Int32) (mTape : (Nat → Int32)) (mTaped : Int32) (mPos : Int32) (mBegun : Int32) (mSort : Int32) (mValue : Int32) (mFault : Int32) (mWrongAt : Int32) (mPaid : Int32) (mRow : (Nat → Int32)) (mRingMuch : Int32) (mRideSum : Int64) (mOwedSum : Int64) (mAllWays : Int64) (mRode : (Nat → Int32)) (mWays : (Nat → Int32)) (mLanes : (Nat → Int32)) (mSizes : (Nat → Int32)) (mCells : (Nat → Int32)) (mTorn : Int32) (mBefore : (Nat → Int32)) (p1 : Int32) (r_ : Int32) (n_mSt : (Nat → Int32)) (n_mIsKept : (Nat → Int32)) (hf : f_X8_keep mSt mIsKept p1 = some (r_, n_mSt, n_mIsKept)) : mR l yX8_keep wsX8_keep rmX8_keep D k sz [.ref mh, .int p1] (wX8 k mh mrSt mrNow mrIsKept mrDraft mrTape mrRow mrRode mrWays mrLanes mrSizes mrCells mrBefore mSt mNow mIsKept mPeople mDraft mDPeople mHasDry mToldDebts mHighest mTape mTaped mPos mBegun mSort mValue mFault mWrongAt mPaid mRow mRingMuch mRideSum mOwedSum mAllWays mRode mWays mLanes mSizes mCells mTorn mBefore) (wX8 k mh mrSt mrNow mrIsKept mrDraft mrTape mrRow mrRode mrWays mrLanes mrSizes mrCells mrBefore n_mSt mNow n_mIsKept mPeople mDraft mDPeople mHasDry mToldDebts mHighest mTape mTaped mPos mBegun mSort mValue mFault mWrongAt mPaid mRow mRingMuch mRideSum mOwedSum mAllWays mRode mWays mLanes mSizes mCells mTorn mBefore) (some (.int r_)) := by
  refine mR_of (cc := cX8_keep) (maxL := 3) (ret := some .int) (by decide) rfl (Nat.le_of_ble_eq_true rfl) [(0, .ref mh), (1, .int p1)] rfl ?_
  intro p e s m below meth c A ls args Q cx hK hA hw hl hQ
  have fx := cx.1
  obtain ⟨⟨hx, hb, hml, hown, hts⟩, hr, hlocks⟩ := cx
  have hinX8 : ∀ w ∈ wsX80, w ∈ wsX8_keep := fun w h => List.mem_cons_of_mem _ (List.mem_append_right _ h)
  have q_1 := hts (.fieldLink RX8 16 "DebtRidesModel" "isKept" "[Z") (List.mem_of_getElem? (i := 1) rfl)
  have h := hf
  unfold f_X8_keep at h
  clear hf
  refine lv_iload_n hx hb dX8_keep_0 rfl (lv_at hl 1 rfl) ?_
  refine lv_i2l hx hb dX8_keep_1 rfl ?_
  refine lv_lconst (v := 0) hx hb dX8_keep_2 rfl ?_
  refine lv_lconst (v := 1) hx hb dX8_keep_3 rfl ?_
  obtain ⟨r_1, hf, h⟩ := b1_inv h
  refine k_callS (b := 0) (C := "") (host := "") fx hK hA hw (c_X8_in l D k _ p1.toInt64 0 1 r_1 hf) (va_cwS 3 hts gX8_keep_X8_in rfl rfl rfl (by decide +kernel) ⟨by decide, by decide⟩) (As := [.long p1.toInt64, .long 0, .long 1]) (wr := [(mh, .inr (8, [.ref mrSt, .ref mrNow, .ref mrIsKept, .int mPeople, .ref mrDraft, .int mDPeople, .int mHasDry, .int mToldDebts, .int mHighest, .ref mrTape, .int mTaped, .int mPos, .int mBegun, .int mSort, .int mValue, .int mFault, .int mWrongAt, .int mPaid, .ref mrRow, .int mRingMuch, .long mRideSum, .long mOwedSum, .long mAllWays, .ref mrRode, .ref mrWays, .ref mrLanes, .ref mrSizes, .ref mrCells, .int mTorn, .ref mrBefore])), (mrSt, .inl (k 0, 183, .inl mSt)), (mrNow, .inl (k 0, 61, .inl mNow)), (mrIsKept, .inl (k 1, 2, .inl mIsKept)), (mrDraft, .inl (k 0, 61, .inl mDraft)), (mrTape, .inl (k 0, 160, .inl mTape)), (mrRow, .inl (k 0, 5, .inl mRow)), (mrRode, .inl (k 0, 31, .inl mRode)), (mrWays, .inl (k 0, 31, .inl mWays)), (mrLanes, .inl (k 0, 4, .inl mLanes)), (mrSizes, .inl (k 0, 4, .inl mSizes)), (mrCells, .inl (k 0, 160, .inl mCells)), (mrBefore, .inl (k 0, 61, .inl mBefore))]) (ws' := wX8 k mh mrSt mrNow mrIsKept mrDraft mrTape mrRow mrRode mrWays mrLanes mrSizes mrCells mrBefore mSt mNow mIsKept mPeople mDraft mDPeople mHasDry mToldDebts mHighest mTape mTaped mPos mBegun mSort mValue mFault mWrongAt mPaid mRow mRingMuch mRideSum mOwedSum mAllWays mRode mWays mLanes mSizes mCells mTorn mBefore) [] [0, 1, 2, 3, 4, 5, 6, 7, 8, 9, 10, 11, 12] [0, 1, 2, 3, 4, 5, 6, 7, 8, 9, 10, 11, 12] rfl rfl (by decide) (by decide) (by decide) rfl (by decide) [] rfl hl.1 rfl (Nat.le_of_ble_eq_true rfl) dX8_keep_4 ⟨by decide, by decide⟩ (fun H locs (hw : Wd D A s.heap H locs (wX8 k mh mrSt mrNow mrIsKept mrDraft mrTape mrRow mrRode mrWays mrLanes mrSizes mrCells mrBefore mSt mNow mIsKept mPeople mDraft mDPeople mHasDry mToldDebts mHighest mTape mTaped mPos mBegun mSort mValue mFault mWrongAt mPaid mRow mRingMuch mRideSum mOwedSum mAllWays mRode mWays mLanes mSizes mCells mTorn mBefore)) => ?_)
  refine W.eq (g2 := F0 m 7 ls ([.int r_1])) rfl ?_
  refine kb_if_ne (tgt := 12) hx hb dX8_keep_7 (by decide) h (fun c_7 h => ?_) (fun c_7 h => ?_)
  · refine lv_iconst (v := (-1)) hx hb dX8_keep_10 (by decide) ?_
    cases h
    exact k_iret hx hb hr hlocks hw rfl dX8_keep_11 hQ
  · refine lv_aload_n hx hb dX8_keep_12 rfl (lv_at hl 0 rfl) ?_
    refine va_get (ci := 8) (v := .ref mrIsKept) (C := RX8) (T := TX8) (N := 30) hx hb hts hinX8 hown hK.1 hw.1 0 rfl rfl 2 (by decide) q_1 (fun _ h9 => h9) rfl dX8_keep_13 ?_
    refine lv_iload_n hx hb dX8_keep_16 rfl (lv_at hl 1 rfl) ?_
    refine k_zald hx hb hK hw 3 rfl dX8_keep_17 h (fun a_2 h => ?_)
    obtain ⟨r_3, hf, h⟩ := b1_inv h
    refine k_callS (b := 0) (C := "") (host := "") fx hK hA hw (c_X8_flag l D k _ a_2 r_3 hf) (va_cwS 1 hts gX8_keep_X8_flag rfl rfl rfl (by decide +kernel) ⟨by decide, by decide⟩) (As := [.int a_2]) (wr := [(mh, .inr (8, [.ref mrSt, .ref mrNow, .ref mrIsKept, .int mPeople, .ref mrDraft, .int mDPeople, .int mHasDry, .int mToldDebts, .int mHighest, .ref mrTape, .int mTaped, .int mPos, .int mBegun, .int mSort, .int mValue, .int mFault, .int mWrongAt, .int mPaid, .ref mrRow, .int mRingMuch, .long mRideSum, .long mOwedSum, .long mAllWays, .ref mrRode, .ref mrWays, .ref mrLanes, .ref mrSizes, .ref mrCells, .int mTorn, .ref mrBefore])), (mrSt, .inl (k 0, 183, .inl mSt)), (mrNow, .inl (k 0, 61, .inl mNow)), (mrIsKept, .inl (k 1, 2, .inl mIsKept)), (mrDraft, .inl (k 0, 61, .inl mDraft)), (mrTape, .inl (k 0, 160, .inl mTape)), (mrRow, .inl (k 0, 5, .inl mRow)), (mrRode, .inl (k 0, 31, .inl mRode)), (mrWays, .inl (k 0, 31, .inl mWays)), (mrLanes, .inl (k 0, 4, .inl mLanes)), (mrSizes, .inl (k 0, 4, .inl mSizes)), (mrCells, .inl (k 0, 160, .inl mCells)), (mrBefore, .inl (k 0, 61, .inl mBefore))]) (ws' := wX8 k mh mrSt mrNow mrIsKept mrDraft mrTape mrRow mrRode mrWays mrLanes mrSizes mrCells mrBefore mSt mNow mIsKept mPeople mDraft mDPeople mHasDry mToldDebts mHighest mTape mTaped mPos mBegun mSort mValue mFault mWrongAt mPaid mRow mRingMuch mRideSum mOwedSum mAllWays mRode mWays mLanes mSizes mCells mTorn mBefore) [] [0, 1, 2, 3, 4, 5, 6, 7, 8, 9, 10, 11, 12] [0, 1, 2, 3, 4, 5, 6, 7, 8, 9, 10, 11, 12] rfl rfl (by decide) (by decide) (by decide) rfl (by decide) [] rfl hl.1 rfl (Nat.le_of_ble_eq_true rfl) dX8_keep_18 ⟨by decide, by decide⟩ (fun H locs (hw : Wd D A s.heap H locs (wX8 k mh mrSt mrNow mrIsKept mrDraft mrTape mrRow mrRode mrWays mrLanes mrSizes mrCells mrBefore mSt mNow mIsKept mPeople mDraft mDPeople mHasDry mToldDebts mHighest mTape mTaped mPos mBegun mSort mValue mFault mWrongAt mPaid mRow mRingMuch mRideSum mOwedSum mAllWays mRode mWays mLanes mSizes mCells mTorn mBefore)) => ?_)
    refine W.eq (g2 := F0 m 21 ls ([.int r_3])) rfl ?_
    refine lv_istore_n (lv' := [(2, .int r_3), (0, .ref mh), (1, .int p1)]) hx hb dX8_keep_21 rfl hl (by decide) rfl (fun ls hl => ?_)
    refine lv_aload_n hx hb dX8_keep_22 rfl (lv_at hl 1 rfl) ?_
    refine va_get (ci := 8) (v := .ref mrIsKept) (C := RX8) (T := TX8) (N := 30) hx hb hts hinX8 hown hK.1 hw.1 0 rfl rfl 2 (by decide) q_1 (fun _ h9 => h9) rfl dX8_keep_23 ?_
    refine lv_iload_n hx hb dX8_keep_26 rfl (lv_at hl 2 rfl) ?_
    refine lv_iconst (v := 1) hx hb dX8_keep_27 (by decide) ?_
    refine k_zast hx hb hK hw 3 rfl (by decide) dX8_keep_28 h (fun mIsKept_4 h H locs (hw : Wd D A s.heap H locs (wX8 k mh mrSt mrNow mrIsKept mrDraft mrTape mrRow mrRode mrWays mrLanes mrSizes mrCells mrBefore mSt mNow mIsKept_4 mPeople mDraft mDPeople mHasDry mToldDebts mHighest mTape mTaped mPos mBegun mSort mValue mFault mWrongAt mPaid mRow mRingMuch mRideSum mOwedSum mAllWays mRode mWays mLanes mSizes mCells mTorn mBefore)) => ?_)
    refine lv_aload_n hx hb dX8_keep_29 rfl (lv_at hl 1 rfl) ?_
    refine lv_bipush (v := 61) hx hb dX8_keep_30 (by decide) ?_
    refine lv_iload_n hx hb dX8_keep_32 rfl (lv_at hl 2 rfl) ?_
    refine lv_iconst (v := 1) hx hb dX8_keep_33 (by decide) ?_
    refine lv_iadd hx hb dX8_keep_34 ?_
    refine lv_imul hx hb dX8_keep_35 ?_
    refine lv_iconst (v := 0) hx hb dX8_keep_36 (by decide) ?_
    obtain ⟨mSt_5, hf, h⟩ := b1_inv h
    refine k_callV (host := "") fx hK hA hw (c_X8_copies l D k mh mrSt mrNow mrIsKept mrDraft mrTape mrRow mrRode mrWays mrLanes mrSizes mrCells mrBefore _ mSt mNow mIsKept_4 mPeople mDraft mDPeople mHasDry mToldDebts mHighest mTape mTaped mPos mBegun mSort mValue mFault mWrongAt mPaid mRow mRingMuch mRideSum mOwedSum mAllWays mRode mWays mLanes mSizes mCells mTorn mBefore (61 * (p1 + 1)) 0 mSt_5 hf) (cwV 2 hts gX8_keep_X8_copies rfl rfl rfl (by decide +kernel) ⟨by decide, by decide⟩) (As := [.int (61 * (p1 + 1)), .int 0]) (wr := []) (ws' := wX8 k mh mrSt mrNow mrIsKept mrDraft mrTape mrRow mrRode mrWays mrLanes mrSizes mrCells mrBefore mSt_5 mNow mIsKept_4 mPeople mDraft mDPeople mHasDry mToldDebts mHighest mTape mTaped mPos mBegun mSort mValue mFault mWrongAt mPaid mRow mRingMuch mRideSum mOwedSum mAllWays mRode mWays mLanes mSizes mCells mTorn mBefore) [0, 1, 2, 3, 4, 5, 6, 7, 8, 9, 10, 11, 12] [] [0, 1, 2, 3, 4, 5, 6, 7, 8, 9, 10, 11, 12] rfl rfl (by decide) (by decide) (by decide) rfl (by decide) 8 rfl rfl [] rfl hl.1 rfl (Nat.le_of_ble_eq_true rfl) dX8_keep_37 ⟨by decide, by decide⟩ (fun H locs (hw : Wd D A s.heap H locs (wX8 k mh mrSt mrNow mrIsKept mrDraft mrTape mrRow mrRode mrWays mrLanes mrSizes mrCells mrBefore mSt_5 mNow mIsKept_4 mPeople mDraft mDPeople mHasDry mToldDebts mHighest mTape mTaped mPos mBegun mSort mValue mFault mWrongAt mPaid mRow mRingMuch mRideSum mOwedSum mAllWays mRode mWays mLanes mSizes mCells mTorn mBefore)) => ?_)
    refine W.eq (g2 := F0 m 40 ls ([])) rfl ?_
    refine lv_iload_n hx hb dX8_keep_40 rfl (lv_at hl 0 rfl) ?_
    cases h
    exact k_iret hx hb hr hlocks hw rfl dX8_keep_41 hQ
abbrev rmX8_keepDraft : Room := { frames := 0, cells := 0, slots := 0, locals := 0 }
set_option maxHeartbeats 4000000 in
set_option maxRecDepth 100000 in
theorem c_X8_keepDraft (l : Launch) (D : va_G) (k : Nat → ClassId) (mh mrSt mrNow mrIsKept mrDraft mrTape mrRow mrRode mrWays mrLanes mrSizes mrCells mrBefore : Nat) (sz : Nat) (mSt : (Nat → Int32)) (mNow : (Nat → Int32)) (mIsKept : (Nat → Int32)) (mPeople : Int32) (mDraft : (Nat → Int32)) (mDPeople : Int32) (mHasDry : Int32) (mToldDebts : Int32) (mHighest : Int32) (mTape : (Nat → Int32)) (mTaped : Int32) (mPos : Int32) (mBegun : Int32) (mSort : Int32) (mValue : Int32) (mFault : Int32) (mWrongAt : Int32) (mPaid : Int32) (mRow : (Nat → Int32)) (mRingMuch : Int32) (mRideSum : Int64) (mOwedSum : Int64) (mAllWays : Int64) (mRode : (Nat → Int32)) (mWays : (Nat → Int32)) (mLanes : (Nat → Int32)) (mSizes : (Nat → Int32)) (mCells : (Nat → Int32)) (mTorn : Int32) (mBefore : (Nat → Int32)) (n_mSt : (Nat → Int32)) (n_mIsKept : (Nat → Int32)) (n_mPeople : Int32) (hf : f_X8_keepDraft mSt mIsKept mDraft mDPeople = some (n_mSt, n_mIsKept, n_mPeople)) : mR l yX8_keepDraft wsX8_keepDraft rmX8_keepDraft D k sz [.ref mh] (wX8 k mh mrSt mrNow mrIsKept mrDraft mrTape mrRow mrRode mrWays mrLanes mrSizes mrCells mrBefore mSt mNow mIsKept mPeople mDraft mDPeople mHasDry mToldDebts mHighest mTape mTaped mPos mBegun mSort mValue mFault mWrongAt mPaid mRow mRingMuch mRideSum mOwedSum mAllWays mRode mWays mLanes mSizes mCells mTorn mBefore) (wX8 k mh mrSt mrNow mrIsKept mrDraft mrTape mrRow mrRode mrWays mrLanes mrSizes mrCells mrBefore n_mSt mNow n_mIsKept n_mPeople mDraft mDPeople mHasDry mToldDebts mHighest mTape mTaped mPos mBegun mSort mValue mFault mWrongAt mPaid mRow mRingMuch mRideSum mOwedSum mAllWays mRode mWays mLanes mSizes mCells mTorn mBefore) (none) := by
  refine mR_of (cc := cX8_keepDraft) (maxL := 2) (ret := none) (by decide) rfl (Nat.le_of_ble_eq_true rfl) [(0, .ref mh)] rfl ?_
  intro p e s m below meth c A ls args Q cx hK hA hw hl hQ
  have fx := cx.1
  obtain ⟨⟨hx, hb, hml, hown, hts⟩, hr, hlocks⟩ := cx
  have hinX8 : ∀ w ∈ wsX80, w ∈ wsX8_keepDraft := fun w h => List.mem_cons_of_mem _ (List.mem_append_right _ h)
  have q_1 := hts (.fieldLink RX8 7 "DebtRidesModel" "st" "[I") (List.mem_of_getElem? (i := 1) rfl)
  have q_2 := hts (.fieldLink RX8 20 "DebtRidesModel" "draft" "[I") (List.mem_of_getElem? (i := 2) rfl)
  have q_3 := hts (.fieldLink RX8 53 "DebtRidesModel" "dPeople" "I") (List.mem_of_getElem? (i := 3) rfl)
  have q_4 := hts (.fieldLink RX8 67 "DebtRidesModel" "people" "I") (List.mem_of_getElem? (i := 4) rfl)
  have q_5 := hts (.fieldLink RX8 16 "DebtRidesModel" "isKept" "[Z") (List.mem_of_getElem? (i := 5) rfl)
  have h := hf
  unfold f_X8_keepDraft at h
  clear hf
  refine lv_iconst (v := 0) hx hb dX8_keepDraft_0 (by decide) ?_
  refine lv_istore_n (lv' := [(1, .int 0), (0, .ref mh)]) hx hb dX8_keepDraft_1 rfl hl (by decide) rfl (fun ls hl => ?_)
  obtain ⟨mSt_3, hL_2, h⟩ := b1_inv h
  have X_2 : ∀ (H : Heap) (locs : List Loc) (ls : Array Slot), Wd D A s.heap H locs (wX8 k mh mrSt mrNow mrIsKept mrDraft mrTape mrRow mrRode mrWays mrLanes mrSizes mrCells mrBefore mSt_3 mNow mIsKept mPeople mDraft mDPeople mHasDry mToldDebts mHighest mTape mTaped mPos mBegun mSort mValue mFault mWrongAt mPaid mRow mRingMuch mRideSum mOwedSum mAllWays mRode mWays mLanes mSizes mCells mTorn mBefore) → lv_has ls 2 [(0, .ref mh)] → W p l e rmX8_keepDraft s m args below meth c H locs 0 0 Q (F0 m 26 ls []) := by
    intro H locs ls hw hl
    refine lv_aload_n hx hb dX8_keepDraft_26 rfl (lv_at hl 0 rfl) ?_
    refine lv_aload_n hx hb dX8_keepDraft_27 rfl (lv_at hl 0 rfl) ?_
    refine va_get (ci := 8) (v := .int mDPeople) (C := RX8) (T := TX8) (N := 30) hx hb hts hinX8 hown hK.1 hw.1 0 rfl rfl 5 (by decide) q_3 (fun _ h9 => h9) rfl dX8_keepDraft_28 ?_
    refine va_put (ci := 8) (v := .int mDPeople) (ty := tyX8 3) (C := RX8) (T := TX8) (N := 30) hx hb hts hinX8 tyX8 tyX8_ok nmX8 hown hK.1 hw.1 hw.2.1 hw.2.2 0 rfl rfl 3 (by decide) q_4 (fun _ h9 => h9) rfl (tyX8_ok 3 (by decide)) rfl rfl (Nat.le_of_ble_eq_true rfl) dX8_keepDraft_31 (fun H locs hP hD hS => ?_)
    have hw : Wd D A s.heap H locs (wX8 k mh mrSt mrNow mrIsKept mrDraft mrTape mrRow mrRode mrWays mrLanes mrSizes mrCells mrBefore mSt_3 mNow mIsKept mDPeople mDraft mDPeople mHasDry mToldDebts mHighest mTape mTaped mPos mBegun mSort mValue mFault mWrongAt mPaid mRow mRingMuch mRideSum mOwedSum mAllWays mRode mWays mLanes mSizes mCells mTorn mBefore) := ⟨hP, hD, hS⟩
    refine lv_aload_n hx hb dX8_keepDraft_34 rfl (lv_at hl 0 rfl) ?_
    refine va_get (ci := 8) (v := .ref mrIsKept) (C := RX8) (T := TX8) (N := 30) hx hb hts hinX8 hown hK.1 hw.1 0 rfl rfl 2 (by decide) q_5 (fun _ h9 => h9) rfl dX8_keepDraft_35 ?_
    refine lv_iconst (v := 0) hx hb dX8_keepDraft_38 (by decide) ?_
    refine lv_iconst (v := 0) hx hb dX8_keepDraft_39 (by decide) ?_
    refine k_zast hx hb hK hw 3 rfl (by decide) dX8_keepDraft_40 h (fun mIsKept_6 h H locs (hw : Wd D A s.heap H locs (wX8 k mh mrSt mrNow mrIsKept mrDraft mrTape mrRow mrRode mrWays mrLanes mrSizes mrCells mrBefore mSt_3 mNow mIsKept_6 mDPeople mDraft mDPeople mHasDry mToldDebts mHighest mTape mTaped mPos mBegun mSort mValue mFault mWrongAt mPaid mRow mRingMuch mRideSum mOwedSum mAllWays mRode mWays mLanes mSizes mCells mTorn mBefore)) => ?_)
    refine lv_aload_n hx hb dX8_keepDraft_41 rfl (lv_at hl 0 rfl) ?_
    refine va_get (ci := 8) (v := .ref mrIsKept) (C := RX8) (T := TX8) (N := 30) hx hb hts hinX8 hown hK.1 hw.1 0 rfl rfl 2 (by decide) q_5 (fun _ h9 => h9) rfl dX8_keepDraft_42 ?_
    refine lv_iconst (v := 1) hx hb dX8_keepDraft_45 (by decide) ?_
    refine lv_iconst (v := 0) hx hb dX8_keepDraft_46 (by decide) ?_
    refine k_zast hx hb hK hw 3 rfl (by decide) dX8_keepDraft_47 h (fun mIsKept_7 h H locs (hw : Wd D A s.heap H locs (wX8 k mh mrSt mrNow mrIsKept mrDraft mrTape mrRow mrRode mrWays mrLanes mrSizes mrCells mrBefore mSt_3 mNow mIsKept_7 mDPeople mDraft mDPeople mHasDry mToldDebts mHighest mTape mTaped mPos mBegun mSort mValue mFault mWrongAt mPaid mRow mRingMuch mRideSum mOwedSum mAllWays mRode mWays mLanes mSizes mCells mTorn mBefore)) => ?_)
    cases h
    exact k_vret hx hb hr hlocks hw dX8_keepDraft_48 hQ
  clear h
  have LP_2 : ∀ (n : Nat) (v1_1 : Int32) (mSt_2 : (Nat → Int32)), f_X8_keepDraft_L2 mDraft n v1_1 mSt_2 = some mSt_3 → ∀ (H : Heap) (locs : List Loc) (ls : Array Slot), Wd D A s.heap H locs (wX8 k mh mrSt mrNow mrIsKept mrDraft mrTape mrRow mrRode mrWays mrLanes mrSizes mrCells mrBefore mSt_2 mNow mIsKept mPeople mDraft mDPeople mHasDry mToldDebts mHighest mTape mTaped mPos mBegun mSort mValue mFault mWrongAt mPaid mRow mRingMuch mRideSum mOwedSum mAllWays mRode mWays mLanes mSizes mCells mTorn mBefore) → lv_has ls 2 [(0, .ref mh), (1, .int v1_1)] → W p l e rmX8_keepDraft s m args below meth c H locs 0 0 Q (F0 m 2 ls []) := by
    clear hL_2 hw hl
    intro n
    induction n with
    | zero => intro v1_1 mSt_2 h; rw [f_X8_keepDraft_L2] at h; cases h
    | succ n ih =>
      intro v1_1 mSt_2 h H locs ls hw hl
      rw [f_X8_keepDraft_L2] at h
      refine lv_iload_n hx hb dX8_keepDraft_2 rfl (lv_at hl 1 rfl) ?_
      refine lv_bipush (v := 61) hx hb dX8_keepDraft_3 (by decide) ?_
      refine kb_icmp_ge (tgt := 26) hx hb dX8_keepDraft_5 (by decide) h (fun c_5 h => ?_) (fun c_5 h => ?_)
      · cases h
        exact X_2 _ _ _ hw (lv_sub hl [0] rfl)
      · refine lv_aload_n hx hb dX8_keepDraft_8 rfl (lv_at hl 0 rfl) ?_
        refine va_get (ci := 8) (v := .ref mrSt) (C := RX8) (T := TX8) (N := 30) hx hb hts hinX8 hown hK.1 hw.1 0 rfl rfl 0 (by decide) q_1 (fun _ h9 => h9) rfl dX8_keepDraft_9 ?_
        refine lv_iload_n hx hb dX8_keepDraft_12 rfl (lv_at hl 1 rfl) ?_
        refine lv_aload_n hx hb dX8_keepDraft_13 rfl (lv_at hl 0 rfl) ?_
        refine va_get (ci := 8) (v := .ref mrDraft) (C := RX8) (T := TX8) (N := 30) hx hb hts hinX8 hown hK.1 hw.1 0 rfl rfl 4 (by decide) q_2 (fun _ h9 => h9) rfl dX8_keepDraft_14 ?_
        refine lv_iload_n hx hb dX8_keepDraft_17 rfl (lv_at hl 1 rfl) ?_
        refine k_iald hx hb hK hw 4 rfl dX8_keepDraft_18 h (fun a_4 h => ?_)
        refine k_iast hx hb hK hw 1 rfl dX8_keepDraft_19 h (fun mSt_5 h H locs (hw : Wd D A s.heap H locs (wX8 k mh mrSt mrNow mrIsKept mrDraft mrTape mrRow mrRode mrWays mrLanes mrSizes mrCells mrBefore mSt_5 mNow mIsKept mPeople mDraft mDPeople mHasDry mToldDebts mHighest mTape mTaped mPos mBegun mSort mValue mFault mWrongAt mPaid mRow mRingMuch mRideSum mOwedSum mAllWays mRode mWays mLanes mSizes mCells mTorn mBefore)) => ?_)
        refine lv_iinc (v := v1_1 + 1) (lv' := [(1, .int (v1_1 + 1)), (0, .ref mh)]) hx hb dX8_keepDraft_20 hl (k := 1) rfl rfl (by decide) rfl (fun ls hl => ?_)
        refine lv_goto (tgt := 2) hx hb dX8_keepDraft_23 (by decide) ?_
        exact ih _ _ h _ _ _ hw (lv_sub hl [1, 0] rfl)
  exact LP_2 400 0 mSt hL_2 _ _ _ hw (lv_sub hl [1, 0] rfl)
