abbrev rmX8_kind : Room := { frames := 5, cells := 0, slots := 0, locals := 114 }
set_option maxHeartbeats 4000000 in
set_option maxRecDepth 100000 in
theorem c_X8_kind (l : Launch) (D : va_G) (k : Nat → ClassId) (mh mrSt mrNow mrIsKept mrDraft mrTape mrRow mrRode mrWays mrLanes mrSizes mrCells mrBefore : Nat) (sz : Nat) (mSt : (Nat → Int32)) (mNow : (Nat → Int32)) (mIsKept : (Nat → Int32)) (mPeople : Int32) (mDraft : (Nat → Int32)) (mDPeople : Int32) (mHasDry : Int32) (mToldDebts : Int32) (mHighest : Int32) (mTape : (Nat → Int32)) (mTaped : Int32) (mPos : Int32) (mBegun : Int32) (mSort : Int32) (mValue : Int32) (mFault : Int32) (mWrongAt : Int32) (mPaid : Int32) (mRow : (Nat → Int32)) (mRingMuch : Int32) (mRideSum : Int64) (mOwedSum : Int64) (mAllWays : Int64) (mRode : (Nat → Int32)) (mWays : (Nat → Int32)) (mLanes : (Nat → Int32)) (mSizes : (Nat → Int32)) (mCells : (Nat → Int32)) (mTorn : Int32) (mBefore : (Nat → Int32)) (p1 : Int32) (p2 : Int32) (r_ : Int32) (n_mNow : (Nat → Int32)) (n_mPaid : Int32) (hf : f_X8_kind mSt mNow mPeople mPaid p1 p2 = some (r_, n_mNow, n_mPaid)) : mR l yX8_kind wsX8_kind rmX8_kind D k sz [.ref mh, .int p1, .int p2] (wX8 k mh mrSt mrNow mrIsKept mrDraft mrTape mrRow mrRode mrWays mrLanes mrSizes mrCells mrBefore mSt mNow mIsKept mPeople mDraft mDPeople mHasDry mToldDebts mHighest mTape mTaped mPos mBegun mSort mValue mFault mWrongAt mPaid mRow mRingMuch mRideSum mOwedSum mAllWays mRode mWays mLanes mSizes mCells mTorn mBefore) (wX8 k mh mrSt mrNow mrIsKept mrDraft mrTape mrRow mrRode mrWays mrLanes mrSizes mrCells mrBefore mSt n_mNow mIsKept mPeople mDraft mDPeople mHasDry mToldDebts mHighest mTape mTaped mPos mBegun mSort mValue mFault mWrongAt n_mPaid mRow mRingMuch mRideSum mOwedSum mAllWays mRode mWays mLanes mSizes mCells mTorn mBefore) (some (.int r_)) := by
  refine mR_of (cc := cX8_kind) (maxL := 8) (ret := some .int) (by decide) rfl (Nat.le_of_ble_eq_true rfl) [(0, .ref mh), (1, .int p1), (2, .int p2)] rfl ?_
  intro p e s m below meth c A ls args Q cx hK hA hw hl hQ
  have fx := cx.1
  obtain ⟨⟨hx, hb, hml, hown, hts⟩, hr, hlocks⟩ := cx
  have h := hf
  unfold f_X8_kind at h
  clear hf
  refine lv_aload_n hx hb dX8_kind_0 rfl (lv_at hl 0 rfl) ?_
  refine lv_iload_n hx hb dX8_kind_1 rfl (lv_at hl 1 rfl) ?_
  obtain ⟨r_1, hf, h⟩ := b1_inv h
  refine k_callV (host := "") fx hK hA hw (c_X8_isOne l D k mh mrSt mrNow mrIsKept mrDraft mrTape mrRow mrRode mrWays mrLanes mrSizes mrCells mrBefore _ mSt mNow mIsKept mPeople mDraft mDPeople mHasDry mToldDebts mHighest mTape mTaped mPos mBegun mSort mValue mFault mWrongAt mPaid mRow mRingMuch mRideSum mOwedSum mAllWays mRode mWays mLanes mSizes mCells mTorn mBefore p1 r_1 hf) (cwV 1 hts gX8_kind_X8_isOne rfl rfl rfl (by decide +kernel) ⟨by decide, by decide⟩) (As := [.int p1]) (wr := []) (ws' := wX8 k mh mrSt mrNow mrIsKept mrDraft mrTape mrRow mrRode mrWays mrLanes mrSizes mrCells mrBefore mSt mNow mIsKept mPeople mDraft mDPeople mHasDry mToldDebts mHighest mTape mTaped mPos mBegun mSort mValue mFault mWrongAt mPaid mRow mRingMuch mRideSum mOwedSum mAllWays mRode mWays mLanes mSizes mCells mTorn mBefore) [0, 1, 2, 3, 4, 5, 6, 7, 8, 9, 10, 11, 12] [] [0, 1, 2, 3, 4, 5, 6, 7, 8, 9, 10, 11, 12] rfl rfl (by decide) (by decide) (by decide) rfl (by decide) 8 rfl rfl [] rfl hl.1 rfl (Nat.le_of_ble_eq_true rfl) dX8_kind_2 ⟨by decide, by decide⟩ (fun H locs (hw : Wd D A s.heap H locs (wX8 k mh mrSt mrNow mrIsKept mrDraft mrTape mrRow mrRode mrWays mrLanes mrSizes mrCells mrBefore mSt mNow mIsKept mPeople mDraft mDPeople mHasDry mToldDebts mHighest mTape mTaped mPos mBegun mSort mValue mFault mWrongAt mPaid mRow mRingMuch mRideSum mOwedSum mAllWays mRode mWays mLanes mSizes mCells mTorn mBefore)) => ?_)
  refine W.eq (g2 := F0 m 5 ls ([.int r_1])) rfl ?_
  refine kb_if_eq (tgt := 15) hx hb dX8_kind_5 (by decide) h (fun c_5 h => ?_) (fun c_5 h => ?_)
  · refine lv_iconst (v := (-1)) hx hb dX8_kind_15 (by decide) ?_
    cases h
    exact k_iret hx hb hr hlocks hw rfl dX8_kind_16 hQ
  · refine lv_iload_n hx hb dX8_kind_8 rfl (lv_at hl 2 rfl) ?_
    obtain ⟨r_2, hf, h⟩ := b1_inv h
    refine k_callS (b := 0) (C := "") (host := "") fx hK hA hw (c_X8_isPart l D k _ p2 r_2 hf) (va_cwS 1 hts gX8_kind_X8_isPart rfl rfl rfl (by decide +kernel) ⟨by decide, by decide⟩) (As := [.int p2]) (wr := [(mh, .inr (8, [.ref mrSt, .ref mrNow, .ref mrIsKept, .int mPeople, .ref mrDraft, .int mDPeople, .int mHasDry, .int mToldDebts, .int mHighest, .ref mrTape, .int mTaped, .int mPos, .int mBegun, .int mSort, .int mValue, .int mFault, .int mWrongAt, .int mPaid, .ref mrRow, .int mRingMuch, .long mRideSum, .long mOwedSum, .long mAllWays, .ref mrRode, .ref mrWays, .ref mrLanes, .ref mrSizes, .ref mrCells, .int mTorn, .ref mrBefore])), (mrSt, .inl (k 0, 183, .inl mSt)), (mrNow, .inl (k 0, 61, .inl mNow)), (mrIsKept, .inl (k 1, 2, .inl mIsKept)), (mrDraft, .inl (k 0, 61, .inl mDraft)), (mrTape, .inl (k 0, 160, .inl mTape)), (mrRow, .inl (k 0, 5, .inl mRow)), (mrRode, .inl (k 0, 31, .inl mRode)), (mrWays, .inl (k 0, 31, .inl mWays)), (mrLanes, .inl (k 0, 4, .inl mLanes)), (mrSizes, .inl (k 0, 4, .inl mSizes)), (mrCells, .inl (k 0, 160, .inl mCells)), (mrBefore, .inl (k 0, 61, .inl mBefore))]) (ws' := wX8 k mh mrSt mrNow mrIsKept mrDraft mrTape mrRow mrRode mrWays mrLanes mrSizes mrCells mrBefore mSt mNow mIsKept mPeople mDraft mDPeople mHasDry mToldDebts mHighest mTape mTaped mPos mBegun mSort mValue mFault mWrongAt mPaid mRow mRingMuch mRideSum mOwedSum mAllWays mRode mWays mLanes mSizes mCells mTorn mBefore) [] [0, 1, 2, 3, 4, 5, 6, 7, 8, 9, 10, 11, 12] [0, 1, 2, 3, 4, 5, 6, 7, 8, 9, 10, 11, 12] rfl rfl (by decide) (by decide) (by decide) rfl (by decide) [] rfl hl.1 rfl (Nat.le_of_ble_eq_true rfl) dX8_kind_9 ⟨by decide, by decide⟩ (fun H locs (hw : Wd D A s.heap H locs (wX8 k mh mrSt mrNow mrIsKept mrDraft mrTape mrRow mrRode mrWays mrLanes mrSizes mrCells mrBefore mSt mNow mIsKept mPeople mDraft mDPeople mHasDry mToldDebts mHighest mTape mTaped mPos mBegun mSort mValue mFault mWrongAt mPaid mRow mRingMuch mRideSum mOwedSum mAllWays mRode mWays mLanes mSizes mCells mTorn mBefore)) => ?_)
    refine W.eq (g2 := F0 m 12 ls ([.int r_2])) rfl ?_
    refine kb_if_ne (tgt := 17) hx hb dX8_kind_12 (by decide) h (fun c_12 h => ?_) (fun c_12 h => ?_)
    · refine lv_iconst (v := (-1)) hx hb dX8_kind_15 (by decide) ?_
      cases h
      exact k_iret hx hb hr hlocks hw rfl dX8_kind_16 hQ
    · refine lv_bipush (v := 61) hx hb dX8_kind_17 (by decide) ?_
      refine lv_istore_n (lv' := [(3, .int 61), (0, .ref mh), (1, .int p1), (2, .int p2)]) hx hb dX8_kind_19 rfl hl (by decide) rfl (fun ls hl => ?_)
      refine lv_bipush (v := (-4)) hx hb dX8_kind_20 (by decide) ?_
      refine lv_istore (lv' := [(4, .int (-4)), (3, .int 61), (0, .ref mh), (1, .int p1), (2, .int p2)]) hx hb dX8_kind_22 hl (by decide) rfl (fun ls hl => ?_)
      refine lv_iconst (v := 0) hx hb dX8_kind_24 (by decide) ?_
      refine lv_istore (lv' := [(5, .int 0), (4, .int (-4)), (3, .int 61), (0, .ref mh), (1, .int p1), (2, .int p2)]) hx hb dX8_kind_25 hl (by decide) rfl (fun ls hl => ?_)
      obtain ⟨v3_8, v4_9, mNow_10, mPaid_11, hL_27, h⟩ := b4_inv h
      have X_27 : ∀ (H : Heap) (locs : List Loc) (ls : Array Slot), Wd D A s.heap H locs (wX8 k mh mrSt mrNow mrIsKept mrDraft mrTape mrRow mrRode mrWays mrLanes mrSizes mrCells mrBefore mSt mNow_10 mIsKept mPeople mDraft mDPeople mHasDry mToldDebts mHighest mTape mTaped mPos mBegun mSort mValue mFault mWrongAt mPaid_11 mRow mRingMuch mRideSum mOwedSum mAllWays mRode mWays mLanes mSizes mCells mTorn mBefore) → lv_has ls 8 [(2, .int p2), (3, .int v3_8), (4, .int v4_9)] → W p l e rmX8_kind s m args below meth c H locs 0 0 Q (F0 m 104 ls []) := by
        intro H locs ls hw hl
        refine lv_iload hx hb dX8_kind_104 (lv_at hl 2 rfl) ?_
        refine lv_bipush (v := (-4)) hx hb dX8_kind_106 (by decide) ?_
        refine kb_icmp_ne (tgt := 116) hx hb dX8_kind_108 (by decide) h (fun c_108 h => ?_) (fun c_108 h => ?_)
        · refine lv_bipush (v := (-4)) hx hb dX8_kind_111 (by decide) ?_
          refine lv_goto (tgt := 126) hx hb dX8_kind_113 (by decide) ?_
          cases h
          exact k_iret hx hb hr hlocks hw rfl dX8_kind_126 hQ
        · refine lv_iload_n hx hb dX8_kind_116 rfl (lv_at hl 0 rfl) ?_
          refine kb_if_ne (tgt := 125) hx hb dX8_kind_117 (by decide) h (fun c_117 h => ?_) (fun c_117 h => ?_)
          · refine lv_iload hx hb dX8_kind_120 (lv_at hl 2 rfl) ?_
            refine lv_goto (tgt := 126) hx hb dX8_kind_122 (by decide) ?_
            cases h
            exact k_iret hx hb hr hlocks hw rfl dX8_kind_126 hQ
          · refine lv_iload_n hx hb dX8_kind_125 rfl (lv_at hl 1 rfl) ?_
            cases h
            exact k_iret hx hb hr hlocks hw rfl dX8_kind_126 hQ
      clear h
      have LP_27 : ∀ (n : Nat) (v3_3 : Int32) (v4_4 : Int32) (v5_5 : Int32) (mNow_6 : (Nat → Int32)) (mPaid_7 : Int32), f_X8_kind_L27 mSt mPeople p1 n v3_3 v4_4 v5_5 mNow_6 mPaid_7 = some (v3_8, v4_9, mNow_10, mPaid_11) → ∀ (H : Heap) (locs : List Loc) (ls : Array Slot), Wd D A s.heap H locs (wX8 k mh mrSt mrNow mrIsKept mrDraft mrTape mrRow mrRode mrWays mrLanes mrSizes mrCells mrBefore mSt mNow_6 mIsKept mPeople mDraft mDPeople mHasDry mToldDebts mHighest mTape mTaped mPos mBegun mSort mValue mFault mWrongAt mPaid_7 mRow mRingMuch mRideSum mOwedSum mAllWays mRode mWays mLanes mSizes mCells mTorn mBefore) → lv_has ls 8 [(0, .ref mh), (1, .int p1), (2, .int p2), (3, .int v3_3), (4, .int v4_4), (5, .int v5_5)] → W p l e rmX8_kind s m args below meth c H locs 0 0 Q (F0 m 27 ls []) := by
        clear hL_27 hw hl
        intro n
        induction n with
        | zero => intro v3_3 v4_4 v5_5 mNow_6 mPaid_7 h; rw [f_X8_kind_L27] at h; cases h
        | succ n ih =>
          intro v3_3 v4_4 v5_5 mNow_6 mPaid_7 h H locs ls hw hl
          rw [f_X8_kind_L27] at h
          refine lv_iload hx hb dX8_kind_27 (lv_at hl 5 rfl) ?_
          refine lv_iconst (v := 4) hx hb dX8_kind_29 (by decide) ?_
          refine kb_icmp_ge (tgt := 104) hx hb dX8_kind_30 (by decide) h (fun c_30 h => ?_) (fun c_30 h => ?_)
          · cases h
            exact X_27 _ _ _ hw (lv_sub hl [2, 3, 4] rfl)
          · refine lv_aload_n hx hb dX8_kind_33 rfl (lv_at hl 0 rfl) ?_
            obtain ⟨mNow_12, hf, h⟩ := b1_inv h
            refine k_callV (host := "") fx hK hA hw (c_X8_starts l D k mh mrSt mrNow mrIsKept mrDraft mrTape mrRow mrRode mrWays mrLanes mrSizes mrCells mrBefore _ mSt mNow_6 mIsKept mPeople mDraft mDPeople mHasDry mToldDebts mHighest mTape mTaped mPos mBegun mSort mValue mFault mWrongAt mPaid_7 mRow mRingMuch mRideSum mOwedSum mAllWays mRode mWays mLanes mSizes mCells mTorn mBefore mNow_12 hf) (cwV 0 hts gX8_kind_X8_starts rfl rfl rfl (by decide +kernel) ⟨by decide, by decide⟩) (As := []) (wr := []) (ws' := wX8 k mh mrSt mrNow mrIsKept mrDraft mrTape mrRow mrRode mrWays mrLanes mrSizes mrCells mrBefore mSt mNow_12 mIsKept mPeople mDraft mDPeople mHasDry mToldDebts mHighest mTape mTaped mPos mBegun mSort mValue mFault mWrongAt mPaid_7 mRow mRingMuch mRideSum mOwedSum mAllWays mRode mWays mLanes mSizes mCells mTorn mBefore) [0, 1, 2, 3, 4, 5, 6, 7, 8, 9, 10, 11, 12] [] [0, 1, 2, 3, 4, 5, 6, 7, 8, 9, 10, 11, 12] rfl rfl (by decide) (by decide) (by decide) rfl (by decide) 8 rfl rfl [] rfl hl.1 rfl (Nat.le_of_ble_eq_true rfl) dX8_kind_34 ⟨by decide, by decide⟩ (fun H locs (hw : Wd D A s.heap H locs (wX8 k mh mrSt mrNow mrIsKept mrDraft mrTape mrRow mrRode mrWays mrLanes mrSizes mrCells mrBefore mSt mNow_12 mIsKept mPeople mDraft mDPeople mHasDry mToldDebts mHighest mTape mTaped mPos mBegun mSort mValue mFault mWrongAt mPaid_7 mRow mRingMuch mRideSum mOwedSum mAllWays mRode mWays mLanes mSizes mCells mTorn mBefore)) => ?_)
            refine W.eq (g2 := F0 m 37 ls ([])) rfl ?_
            refine lv_aload_n hx hb dX8_kind_37 rfl (lv_at hl 0 rfl) ?_
            refine lv_iload_n hx hb dX8_kind_38 rfl (lv_at hl 1 rfl) ?_
            refine lv_iconst (v := 0) hx hb dX8_kind_39 (by decide) ?_
            refine lv_iload hx hb dX8_kind_40 (lv_at hl 5 rfl) ?_
            obtain ⟨mNow_13, hf, h⟩ := b1_inv h
            refine k_callV (host := "") fx hK hA hw (c_X8_becomesOf l D k mh mrSt mrNow mrIsKept mrDraft mrTape mrRow mrRode mrWays mrLanes mrSizes mrCells mrBefore _ mSt mNow_12 mIsKept mPeople mDraft mDPeople mHasDry mToldDebts mHighest mTape mTaped mPos mBegun mSort mValue mFault mWrongAt mPaid_7 mRow mRingMuch mRideSum mOwedSum mAllWays mRode mWays mLanes mSizes mCells mTorn mBefore p1 0 v5_5 mNow_13 hf) (cwV 3 hts gX8_kind_X8_becomesOf rfl rfl rfl (by decide +kernel) ⟨by decide, by decide⟩) (As := [.int p1, .int 0, .int v5_5]) (wr := []) (ws' := wX8 k mh mrSt mrNow mrIsKept mrDraft mrTape mrRow mrRode mrWays mrLanes mrSizes mrCells mrBefore mSt mNow_13 mIsKept mPeople mDraft mDPeople mHasDry mToldDebts mHighest mTape mTaped mPos mBegun mSort mValue mFault mWrongAt mPaid_7 mRow mRingMuch mRideSum mOwedSum mAllWays mRode mWays mLanes mSizes mCells mTorn mBefore) [0, 1, 2, 3, 4, 5, 6, 7, 8, 9, 10, 11, 12] [] [0, 1, 2, 3, 4, 5, 6, 7, 8, 9, 10, 11, 12] rfl rfl (by decide) (by decide) (by decide) rfl (by decide) 8 rfl rfl [] rfl hl.1 rfl (Nat.le_of_ble_eq_true rfl) dX8_kind_42 ⟨by decide, by decide⟩ (fun H locs (hw : Wd D A s.heap H locs (wX8 k mh mrSt mrNow mrIsKept mrDraft mrTape mrRow mrRode mrWays mrLanes mrSizes mrCells mrBefore mSt mNow_13 mIsKept mPeople mDraft mDPeople mHasDry mToldDebts mHighest mTape mTaped mPos mBegun mSort mValue mFault mWrongAt mPaid_7 mRow mRingMuch mRideSum mOwedSum mAllWays mRode mWays mLanes mSizes mCells mTorn mBefore)) => ?_)
            refine W.eq (g2 := F0 m 45 ls ([])) rfl ?_
            refine lv_aload_n hx hb dX8_kind_45 rfl (lv_at hl 0 rfl) ?_
            refine lv_iload_n hx hb dX8_kind_46 rfl (lv_at hl 1 rfl) ?_
            obtain ⟨r_14, mNow_15, mPaid_16, hf, h⟩ := b3_inv h
            refine k_callV (host := "") fx hK hA hw (c_X8_daysTo l D k mh mrSt mrNow mrIsKept mrDraft mrTape mrRow mrRode mrWays mrLanes mrSizes mrCells mrBefore _ mSt mNow_13 mIsKept mPeople mDraft mDPeople mHasDry mToldDebts mHighest mTape mTaped mPos mBegun mSort mValue mFault mWrongAt mPaid_7 mRow mRingMuch mRideSum mOwedSum mAllWays mRode mWays mLanes mSizes mCells mTorn mBefore p1 r_14 mNow_15 mPaid_16 hf) (cwV 1 hts gX8_kind_X8_daysTo rfl rfl rfl (by decide +kernel) ⟨by decide, by decide⟩) (As := [.int p1]) (wr := []) (ws' := wX8 k mh mrSt mrNow mrIsKept mrDraft mrTape mrRow mrRode mrWays mrLanes mrSizes mrCells mrBefore mSt mNow_15 mIsKept mPeople mDraft mDPeople mHasDry mToldDebts mHighest mTape mTaped mPos mBegun mSort mValue mFault mWrongAt mPaid_16 mRow mRingMuch mRideSum mOwedSum mAllWays mRode mWays mLanes mSizes mCells mTorn mBefore) [0, 1, 2, 3, 4, 5, 6, 7, 8, 9, 10, 11, 12] [] [0, 1, 2, 3, 4, 5, 6, 7, 8, 9, 10, 11, 12] rfl rfl (by decide) (by decide) (by decide) rfl (by decide) 8 rfl rfl [] rfl hl.1 rfl (Nat.le_of_ble_eq_true rfl) dX8_kind_47 ⟨by decide, by decide⟩ (fun H locs (hw : Wd D A s.heap H locs (wX8 k mh mrSt mrNow mrIsKept mrDraft mrTape mrRow mrRode mrWays mrLanes mrSizes mrCells mrBefore mSt mNow_15 mIsKept mPeople mDraft mDPeople mHasDry mToldDebts mHighest mTape mTaped mPos mBegun mSort mValue mFault mWrongAt mPaid_16 mRow mRingMuch mRideSum mOwedSum mAllWays mRode mWays mLanes mSizes mCells mTorn mBefore)) => ?_)
            refine W.eq (g2 := F0 m 50 ls ([.int r_14])) rfl ?_
            refine lv_istore (lv' := [(6, .int r_14), (0, .ref mh), (1, .int p1), (2, .int p2), (3, .int v3_3), (4, .int v4_4), (5, .int v5_5)]) hx hb dX8_kind_50 hl (by decide) rfl (fun ls hl => ?_)
            refine lv_iload hx hb dX8_kind_52 (lv_at hl 0 rfl) ?_
            refine lv_bipush (v := (-4)) hx hb dX8_kind_54 (by decide) ?_
            obtain ⟨t_17, hj_56, h⟩ := b1_inv h
            have J_56 : ∀ (H : Heap) (locs : List Loc) (ls : Array Slot), Wd D A s.heap H locs (wX8 k mh mrSt mrNow mrIsKept mrDraft mrTape mrRow mrRode mrWays mrLanes mrSizes mrCells mrBefore mSt mNow_15 mIsKept mPeople mDraft mDPeople mHasDry mToldDebts mHighest mTape mTaped mPos mBegun mSort mValue mFault mWrongAt mPaid_16 mRow mRingMuch mRideSum mOwedSum mAllWays mRode mWays mLanes mSizes mCells mTorn mBefore) → lv_has ls 8 [(0, .ref mh), (1, .int p1), (2, .int p2), (3, .int v3_3), (4, .int v4_4), (5, .int v5_5), (6, .int r_14)] → W p l e rmX8_kind s m args below meth c H locs 0 0 Q (F0 m 70 ls [.int t_17]) := by
              intro H locs ls hw hl
              refine lv_istore (lv' := [(7, .int t_17), (0, .ref mh), (1, .int p1), (2, .int p2), (3, .int v3_3), (4, .int v4_4), (5, .int v5_5), (6, .int r_14)]) hx hb dX8_kind_70 hl (by decide) rfl (fun ls hl => ?_)
              refine lv_iload hx hb dX8_kind_72 (lv_at hl 0 rfl) ?_
              obtain ⟨t_18, hj_74, h⟩ := b1_inv h
              have J_74 : ∀ (H : Heap) (locs : List Loc) (ls : Array Slot), Wd D A s.heap H locs (wX8 k mh mrSt mrNow mrIsKept mrDraft mrTape mrRow mrRode mrWays mrLanes mrSizes mrCells mrBefore mSt mNow_15 mIsKept mPeople mDraft mDPeople mHasDry mToldDebts mHighest mTape mTaped mPos mBegun mSort mValue mFault mWrongAt mPaid_16 mRow mRingMuch mRideSum mOwedSum mAllWays mRode mWays mLanes mSizes mCells mTorn mBefore) → lv_has ls 8 [(0, .ref mh), (1, .int p1), (2, .int p2), (3, .int v3_3), (5, .int v5_5), (6, .int r_14), (7, .int t_17)] → W p l e rmX8_kind s m args below meth c H locs 0 0 Q (F0 m 84 ls [.int t_18]) := by
                intro H locs ls hw hl
                refine lv_istore (lv' := [(4, .int t_18), (0, .ref mh), (1, .int p1), (2, .int p2), (3, .int v3_3), (5, .int v5_5), (6, .int r_14), (7, .int t_17)]) hx hb dX8_kind_84 hl (by decide) rfl (fun ls hl => ?_)
                refine lv_iload hx hb dX8_kind_86 (lv_at hl 7 rfl) ?_
                refine kb_if_eq (tgt := 96) hx hb dX8_kind_88 (by decide) h (fun c_88 h => ?_) (fun c_88 h => ?_)
                · refine lv_iload_n hx hb dX8_kind_96 rfl (lv_at hl 4 rfl) ?_
                  refine lv_istore_n (lv' := [(3, .int v3_3), (4, .int t_18), (0, .ref mh), (1, .int p1), (2, .int p2), (5, .int v5_5), (6, .int r_14), (7, .int t_17)]) hx hb dX8_kind_97 rfl hl (by decide) rfl (fun ls hl => ?_)
                  refine lv_iinc (v := v5_5 + 1) (lv' := [(5, .int (v5_5 + 1)), (3, .int v3_3), (4, .int t_18), (0, .ref mh), (1, .int p1), (2, .int p2), (6, .int r_14), (7, .int t_17)]) hx hb dX8_kind_98 hl (k := 5) rfl rfl (by decide) rfl (fun ls hl => ?_)
                  refine lv_goto (tgt := 27) hx hb dX8_kind_101 (by decide) ?_
                  exact ih _ _ _ _ _ h _ _ _ hw (lv_sub hl [3, 4, 5, 1, 2, 0] rfl)
                · refine lv_iload hx hb dX8_kind_91 (lv_at hl 6 rfl) ?_
                  refine lv_goto (tgt := 97) hx hb dX8_kind_93 (by decide) ?_
                  refine lv_istore_n (lv' := [(3, .int r_14), (4, .int t_18), (0, .ref mh), (1, .int p1), (2, .int p2), (5, .int v5_5), (6, .int r_14), (7, .int t_17)]) hx hb dX8_kind_97 rfl hl (by decide) rfl (fun ls hl => ?_)
                  refine lv_iinc (v := v5_5 + 1) (lv' := [(5, .int (v5_5 + 1)), (3, .int r_14), (4, .int t_18), (0, .ref mh), (1, .int p1), (2, .int p2), (6, .int r_14), (7, .int t_17)]) hx hb dX8_kind_98 hl (k := 5) rfl rfl (by decide) rfl (fun ls hl => ?_)
                  refine lv_goto (tgt := 27) hx hb dX8_kind_101 (by decide) ?_
                  exact ih _ _ _ _ _ h _ _ _ hw (lv_sub hl [3, 4, 5, 1, 2, 0] rfl)
              clear h
              have h := hj_74
              refine kb_if_eq (tgt := 82) hx hb dX8_kind_74 (by decide) h (fun c_74 h => ?_) (fun c_74 h => ?_)
              · refine lv_iload hx hb dX8_kind_82 (lv_at hl 5 rfl) ?_
                cases h
                exact J_74 _ _ _ hw (lv_sub hl [1, 2, 3, 4, 6, 7, 0] rfl)
              · refine lv_iload hx hb dX8_kind_77 (lv_at hl 6 rfl) ?_
                refine lv_goto (tgt := 84) hx hb dX8_kind_79 (by decide) ?_
                cases h
                exact J_74 _ _ _ hw (lv_sub hl [1, 2, 3, 4, 6, 7, 0] rfl)
            clear h
            have h := hj_56
            refine kb_icmp_eq (tgt := 69) hx hb dX8_kind_56 (by decide) h (fun c_56 h => ?_) (fun c_56 h => ?_)
            · refine lv_iconst (v := 0) hx hb dX8_kind_69 (by decide) ?_
              cases h
              exact J_56 _ _ _ hw (lv_sub hl [1, 2, 3, 4, 5, 6, 0] rfl)
            · refine lv_iload hx hb dX8_kind_59 (lv_at hl 0 rfl) ?_
              refine lv_iload_n hx hb dX8_kind_61 rfl (lv_at hl 4 rfl) ?_
              refine kb_icmp_ge (tgt := 69) hx hb dX8_kind_62 (by decide) h (fun c_62 h => ?_) (fun c_62 h => ?_)
              · refine lv_iconst (v := 0) hx hb dX8_kind_69 (by decide) ?_
                cases h
                exact J_56 _ _ _ hw (lv_sub hl [1, 2, 3, 4, 5, 6, 0] rfl)
              · refine lv_iconst (v := 1) hx hb dX8_kind_65 (by decide) ?_
                refine lv_goto (tgt := 70) hx hb dX8_kind_66 (by decide) ?_
                cases h
                exact J_56 _ _ _ hw (lv_sub hl [1, 2, 3, 4, 5, 6, 0] rfl)
      exact LP_27 400 61 (-4) 0 mNow mPaid hL_27 _ _ _ hw (lv_sub hl [3, 4, 5, 2, 1, 0] rfl)
abbrev rmX8_kinds : Room := { frames := 6, cells := 0, slots := 0, locals := 143 }
set_option maxHeartbeats 4000000 in
set_option maxRecDepth 100000 in
theorem c_X8_kinds (l : Launch) (D : va_G) (k : Nat → ClassId) (mh mrSt mrNow mrIsKept mrDraft mrTape mrRow mrRode mrWays mrLanes mrSizes mrCells mrBefore : Nat) (sz : Nat) (mSt : (Nat → Int32)) (mNow : (Nat → Int32)) (mIsKept : (Nat → Int32)) (mPeople : Int32) (mDraft : (Nat → Int32)) (mDPeople : Int32) (mHasDry : Int32) (mToldDebts : Int32) (mHighest : Int32) (mTape : (Nat → Int32)) (mTaped : Int32) (mPos : Int32) (mBegun : Int32) (mSort : Int32) (mValue : Int32) (mFault : Int32) (mWrongAt : Int32) (mPaid : Int32) (mRow : (Nat → Int32)) (mRingMuch : Int32) (mRideSum : Int64) (mOwedSum : Int64) (mAllWays : Int64) (mRode : (Nat → Int32)) (mWays : (Nat → Int32)) (mLanes : (Nat → Int32)) (mSizes : (Nat → Int32)) (mCells : (Nat → Int32)) (mTorn : Int32) (mBefore : (Nat → Int32)) (p1 : Int32) (r_ : Int32) (n_mNow : (Nat → Int32)) (n_mPaid : Int32) (n_mRode : (Nat → Int32)) (hf : f_X8_kinds mSt mNow mPeople mPaid mRode p1 = some (r_, n_mNow, n_mPaid, n_mRode)) : mR l yX8_kinds wsX8_kinds rmX8_kinds D k sz [.ref mh, .int p1] (wX8 k mh mrSt mrNow mrIsKept mrDraft mrTape mrRow mrRode mrWays mrLanes mrSizes mrCells mrBefore mSt mNow mIsKept mPeople mDraft mDPeople mHasDry mToldDebts mHighest mTape mTaped mPos mBegun mSort mValue mFault mWrongAt mPaid mRow mRingMuch mRideSum mOwedSum mAllWays mRode mWays mLanes mSizes mCells mTorn mBefore) (wX8 k mh mrSt mrNow mrIsKept mrDraft mrTape mrRow mrRode mrWays mrLanes mrSizes mrCells mrBefore mSt n_mNow mIsKept mPeople mDraft mDPeople mHasDry mToldDebts mHighest mTape mTaped mPos mBegun mSort mValue mFault mWrongAt n_mPaid mRow mRingMuch mRideSum mOwedSum mAllWays n_mRode mWays mLanes mSizes mCells mTorn mBefore) (some (.int r_)) := by
  refine mR_of (cc := cX8_kinds) (maxL := 2) (ret := some .int) (by decide) rfl (Nat.le_of_ble_eq_true rfl) [(0, .ref mh), (1, .int p1)] rfl ?_
  intro p e s m below meth c A ls args Q cx hK hA hw hl hQ
  have fx := cx.1
  obtain ⟨⟨hx, hb, hml, hown, hts⟩, hr, hlocks⟩ := cx
  have h := hf
  unfold f_X8_kinds at h
  clear hf
  refine lv_aload_n hx hb dX8_kinds_0 rfl (lv_at hl 0 rfl) ?_
  refine lv_iload_n hx hb dX8_kinds_1 rfl (lv_at hl 1 rfl) ?_
  obtain ⟨r_1, hf, h⟩ := b1_inv h
  refine k_callV (host := "") fx hK hA hw (c_X8_isOne l D k mh mrSt mrNow mrIsKept mrDraft mrTape mrRow mrRode mrWays mrLanes mrSizes mrCells mrBefore _ mSt mNow mIsKept mPeople mDraft mDPeople mHasDry mToldDebts mHighest mTape mTaped mPos mBegun mSort mValue mFault mWrongAt mPaid mRow mRingMuch mRideSum mOwedSum mAllWays mRode mWays mLanes mSizes mCells mTorn mBefore p1 r_1 hf) (cwV 1 hts gX8_kinds_X8_isOne rfl rfl rfl (by decide +kernel) ⟨by decide, by decide⟩) (As := [.int p1]) (wr := []) (ws' := wX8 k mh mrSt mrNow mrIsKept mrDraft mrTape mrRow mrRode mrWays mrLanes mrSizes mrCells mrBefore mSt mNow mIsKept mPeople mDraft mDPeople mHasDry mToldDebts mHighest mTape mTaped mPos mBegun mSort mValue mFault mWrongAt mPaid mRow mRingMuch mRideSum mOwedSum mAllWays mRode mWays mLanes mSizes mCells mTorn mBefore) [0, 1, 2, 3, 4, 5, 6, 7, 8, 9, 10, 11, 12] [] [0, 1, 2, 3, 4, 5, 6, 7, 8, 9, 10, 11, 12] rfl rfl (by decide) (by decide) (by decide) rfl (by decide) 8 rfl rfl [] rfl hl.1 rfl (Nat.le_of_ble_eq_true rfl) dX8_kinds_2 ⟨by decide, by decide⟩ (fun H locs (hw : Wd D A s.heap H locs (wX8 k mh mrSt mrNow mrIsKept mrDraft mrTape mrRow mrRode mrWays mrLanes mrSizes mrCells mrBefore mSt mNow mIsKept mPeople mDraft mDPeople mHasDry mToldDebts mHighest mTape mTaped mPos mBegun mSort mValue mFault mWrongAt mPaid mRow mRingMuch mRideSum mOwedSum mAllWays mRode mWays mLanes mSizes mCells mTorn mBefore)) => ?_)
  refine W.eq (g2 := F0 m 5 ls ([.int r_1])) rfl ?_
  refine kb_if_eq (tgt := 18) hx hb dX8_kinds_5 (by decide) h (fun c_5 h => ?_) (fun c_5 h => ?_)
  · refine lv_iconst (v := (-1)) hx hb dX8_kinds_18 (by decide) ?_
    cases h
    exact k_iret hx hb hr hlocks hw rfl dX8_kinds_19 hQ
  · refine lv_aload_n hx hb dX8_kinds_8 rfl (lv_at hl 0 rfl) ?_
    refine lv_iload_n hx hb dX8_kinds_9 rfl (lv_at hl 1 rfl) ?_
    refine lv_iconst (v := 0) hx hb dX8_kinds_10 (by decide) ?_
    refine lv_iconst (v := 3) hx hb dX8_kinds_11 (by decide) ?_
    obtain ⟨r_2, mNow_3, mPaid_4, mRode_5, hf, h⟩ := b4_inv h
    refine k_callV (host := "") fx hK hA hw (c_X8_which l D k mh mrSt mrNow mrIsKept mrDraft mrTape mrRow mrRode mrWays mrLanes mrSizes mrCells mrBefore _ mSt mNow mIsKept mPeople mDraft mDPeople mHasDry mToldDebts mHighest mTape mTaped mPos mBegun mSort mValue mFault mWrongAt mPaid mRow mRingMuch mRideSum mOwedSum mAllWays mRode mWays mLanes mSizes mCells mTorn mBefore p1 0 3 r_2 mNow_3 mPaid_4 mRode_5 hf) (cwV 3 hts gX8_kinds_X8_which rfl rfl rfl (by decide +kernel) ⟨by decide, by decide⟩) (As := [.int p1, .int 0, .int 3]) (wr := []) (ws' := wX8 k mh mrSt mrNow mrIsKept mrDraft mrTape mrRow mrRode mrWays mrLanes mrSizes mrCells mrBefore mSt mNow_3 mIsKept mPeople mDraft mDPeople mHasDry mToldDebts mHighest mTape mTaped mPos mBegun mSort mValue mFault mWrongAt mPaid_4 mRow mRingMuch mRideSum mOwedSum mAllWays mRode_5 mWays mLanes mSizes mCells mTorn mBefore) [0, 1, 2, 3, 4, 5, 6, 7, 8, 9, 10, 11, 12] [] [0, 1, 2, 3, 4, 5, 6, 7, 8, 9, 10, 11, 12] rfl rfl (by decide) (by decide) (by decide) rfl (by decide) 8 rfl rfl [] rfl hl.1 rfl (Nat.le_of_ble_eq_true rfl) dX8_kinds_12 ⟨by decide, by decide⟩ (fun H locs (hw : Wd D A s.heap H locs (wX8 k mh mrSt mrNow mrIsKept mrDraft mrTape mrRow mrRode mrWays mrLanes mrSizes mrCells mrBefore mSt mNow_3 mIsKept mPeople mDraft mDPeople mHasDry mToldDebts mHighest mTape mTaped mPos mBegun mSort mValue mFault mWrongAt mPaid_4 mRow mRingMuch mRideSum mOwedSum mAllWays mRode_5 mWays mLanes mSizes mCells mTorn mBefore)) => ?_)
    refine W.eq (g2 := F0 m 15 ls ([.int r_2])) rfl ?_
    refine lv_goto (tgt := 19) hx hb dX8_kinds_15 (by decide) ?_
    cases h
    exact k_iret hx hb hr hlocks hw rfl dX8_kinds_19 hQ
abbrev rmX8_late : Room := { frames := 6, cells := 0, slots := 0, locals := 136 }
set_option maxHeartbeats 4000000 in
set_option maxRecDepth 100000 in
theorem c_X8_late (l : Launch) (D : va_G) (k : Nat → ClassId) (mh mrSt mrNow mrIsKept mrDraft mrTape mrRow mrRode mrWays mrLanes mrSizes mrCells mrBefore : Nat) (sz : Nat) (mSt : (Nat → Int32)) (mNow : (Nat → Int32)) (mIsKept : (Nat → Int32)) (mPeople : Int32) (mDraft : (Nat → Int32)) (mDPeople : Int32) (mHasDry : Int32) (mToldDebts : Int32) (mHighest : Int32) (mTape : (Nat → Int32)) (mTaped : Int32) (mPos : Int32) (mBegun : Int32) (mSort : Int32) (mValue : Int32) (mFault : Int32) (mWrongAt : Int32) (mPaid : Int32) (mRow : (Nat → Int32)) (mRingMuch : Int32) (mRideSum : Int64) (mOwedSum : Int64) (mAllWays : Int64) (mRode : (Nat → Int32)) (mWays : (Nat → Int32)) (mLanes : (Nat → Int32)) (mSizes : (Nat → Int32)) (mCells : (Nat → Int32)) (mTorn : Int32) (mBefore : (Nat → Int32)) (p1 : Int32) (p2 : Int32) (r_ : Int32) (n_mNow : (Nat → Int32)) (n_mPaid : Int32) (hf : f_X8_late mSt mNow mPeople mPaid p1 p2 = some (r_, n_mNow, n_mPaid)) : mR l yX8_late wsX8_late rmX8_late D k sz [.ref mh, .int p1, .int p2] (wX8 k mh mrSt mrNow mrIsKept mrDraft mrTape mrRow mrRode mrWays mrLanes mrSizes mrCells mrBefore mSt mNow mIsKept mPeople mDraft mDPeople mHasDry mToldDebts mHighest mTape mTaped mPos mBegun mSort mValue mFault mWrongAt mPaid mRow mRingMuch mRideSum mOwedSum mAllWays mRode mWays mLanes mSizes mCells mTorn mBefore) (wX8 k mh mrSt mrNow mrIsKept mrDraft mrTape mrRow mrRode mrWays mrLanes mrSizes mrCells mrBefore mSt n_mNow mIsKept mPeople mDraft mDPeople mHasDry mToldDebts mHighest mTape mTaped mPos mBegun mSort mValue mFault mWrongAt n_mPaid mRow mRingMuch mRideSum mOwedSum mAllWays mRode mWays mLanes mSizes mCells mTorn mBefore) (some (.int r_)) := by
  refine mR_of (cc := cX8_late) (maxL := 5) (ret := some .int) (by decide) rfl (Nat.le_of_ble_eq_true rfl) [(0, .ref mh), (1, .int p1), (2, .int p2)] rfl ?_
  intro p e s m below meth c A ls args Q cx hK hA hw hl hQ
  have fx := cx.1
  obtain ⟨⟨hx, hb, hml, hown, hts⟩, hr, hlocks⟩ := cx
  have q_1 := hts (.constantLong RX8 211 (9)) (List.mem_of_getElem? (i := 1) rfl)
  have h := hf
  unfold f_X8_late at h
  clear hf
  refine lv_aload_n hx hb dX8_late_0 rfl (lv_at hl 0 rfl) ?_
  refine lv_iload_n hx hb dX8_late_1 rfl (lv_at hl 1 rfl) ?_
  obtain ⟨r_1, hf, h⟩ := b1_inv h
  refine k_callV (host := "") fx hK hA hw (c_X8_isOne l D k mh mrSt mrNow mrIsKept mrDraft mrTape mrRow mrRode mrWays mrLanes mrSizes mrCells mrBefore _ mSt mNow mIsKept mPeople mDraft mDPeople mHasDry mToldDebts mHighest mTape mTaped mPos mBegun mSort mValue mFault mWrongAt mPaid mRow mRingMuch mRideSum mOwedSum mAllWays mRode mWays mLanes mSizes mCells mTorn mBefore p1 r_1 hf) (cwV 1 hts gX8_late_X8_isOne rfl rfl rfl (by decide +kernel) ⟨by decide, by decide⟩) (As := [.int p1]) (wr := []) (ws' := wX8 k mh mrSt mrNow mrIsKept mrDraft mrTape mrRow mrRode mrWays mrLanes mrSizes mrCells mrBefore mSt mNow mIsKept mPeople mDraft mDPeople mHasDry mToldDebts mHighest mTape mTaped mPos mBegun mSort mValue mFault mWrongAt mPaid mRow mRingMuch mRideSum mOwedSum mAllWays mRode mWays mLanes mSizes mCells mTorn mBefore) [0, 1, 2, 3, 4, 5, 6, 7, 8, 9, 10, 11, 12] [] [0, 1, 2, 3, 4, 5, 6, 7, 8, 9, 10, 11, 12] rfl rfl (by decide) (by decide) (by decide) rfl (by decide) 8 rfl rfl [] rfl hl.1 rfl (Nat.le_of_ble_eq_true rfl) dX8_late_2 ⟨by decide, by decide⟩ (fun H locs (hw : Wd D A s.heap H locs (wX8 k mh mrSt mrNow mrIsKept mrDraft mrTape mrRow mrRode mrWays mrLanes mrSizes mrCells mrBefore mSt mNow mIsKept mPeople mDraft mDPeople mHasDry mToldDebts mHighest mTape mTaped mPos mBegun mSort mValue mFault mWrongAt mPaid mRow mRingMuch mRideSum mOwedSum mAllWays mRode mWays mLanes mSizes mCells mTorn mBefore)) => ?_)
  refine W.eq (g2 := F0 m 5 ls ([.int r_1])) rfl ?_
  refine kb_if_eq (tgt := 20) hx hb dX8_late_5 (by decide) h (fun c_5 h => ?_) (fun c_5 h => ?_)
  · refine lv_iconst (v := (-1)) hx hb dX8_late_20 (by decide) ?_
    cases h
    exact k_iret hx hb hr hlocks hw rfl dX8_late_21 hQ
  · refine lv_iload_n hx hb dX8_late_8 rfl (lv_at hl 2 rfl) ?_
    refine lv_i2l hx hb dX8_late_9 rfl ?_
    refine lv_lconst (v := 0) hx hb dX8_late_10 rfl ?_
    refine lv_ldc2 (v := 9) hx hb hown q_1 dX8_late_11 ?_
    obtain ⟨r_2, hf, h⟩ := b1_inv h
    refine k_callS (b := 0) (C := "") (host := "") fx hK hA hw (c_X8_in l D k _ p2.toInt64 0 9 r_2 hf) (va_cwS 3 hts gX8_late_X8_in rfl rfl rfl (by decide +kernel) ⟨by decide, by decide⟩) (As := [.long p2.toInt64, .long 0, .long 9]) (wr := [(mh, .inr (8, [.ref mrSt, .ref mrNow, .ref mrIsKept, .int mPeople, .ref mrDraft, .int mDPeople, .int mHasDry, .int mToldDebts, .int mHighest, .ref mrTape, .int mTaped, .int mPos, .int mBegun, .int mSort, .int mValue, .int mFault, .int mWrongAt, .int mPaid, .ref mrRow, .int mRingMuch, .long mRideSum, .long mOwedSum, .long mAllWays, .ref mrRode, .ref mrWays, .ref mrLanes, .ref mrSizes, .ref mrCells, .int mTorn, .ref mrBefore])), (mrSt, .inl (k 0, 183, .inl mSt)), (mrNow, .inl (k 0, 61, .inl mNow)), (mrIsKept, .inl (k 1, 2, .inl mIsKept)), (mrDraft, .inl (k 0, 61, .inl mDraft)), (mrTape, .inl (k 0, 160, .inl mTape)), (mrRow, .inl (k 0, 5, .inl mRow)), (mrRode, .inl (k 0, 31, .inl mRode)), (mrWays, .inl (k 0, 31, .inl mWays)), (mrLanes, .inl (k 0, 4, .inl mLanes)), (mrSizes, .inl (k 0, 4, .inl mSizes)), (mrCells, .inl (k 0, 160, .inl mCells)), (mrBefore, .inl (k 0, 61, .inl mBefore))]) (ws' := wX8 k mh mrSt mrNow mrIsKept mrDraft mrTape mrRow mrRode mrWays mrLanes mrSizes mrCells mrBefore mSt mNow mIsKept mPeople mDraft mDPeople mHasDry mToldDebts mHighest mTape mTaped mPos mBegun mSort mValue mFault mWrongAt mPaid mRow mRingMuch mRideSum mOwedSum mAllWays mRode mWays mLanes mSizes mCells mTorn mBefore) [] [0, 1, 2, 3, 4, 5, 6, 7, 8, 9, 10, 11, 12] [0, 1, 2, 3, 4, 5, 6, 7, 8, 9, 10, 11, 12] rfl rfl (by decide) (by decide) (by decide) rfl (by decide) [] rfl hl.1 rfl (Nat.le_of_ble_eq_true rfl) dX8_late_14 ⟨by decide, by decide⟩ (fun H locs (hw : Wd D A s.heap H locs (wX8 k mh mrSt mrNow mrIsKept mrDraft mrTape mrRow mrRode mrWays mrLanes mrSizes mrCells mrBefore mSt mNow mIsKept mPeople mDraft mDPeople mHasDry mToldDebts mHighest mTape mTaped mPos mBegun mSort mValue mFault mWrongAt mPaid mRow mRingMuch mRideSum mOwedSum mAllWays mRode mWays mLanes mSizes mCells mTorn mBefore)) => ?_)
    refine W.eq (g2 := F0 m 17 ls ([.int r_2])) rfl ?_
    refine kb_if_ne (tgt := 22) hx hb dX8_late_17 (by decide) h (fun c_17 h => ?_) (fun c_17 h => ?_)
    · refine lv_iconst (v := (-1)) hx hb dX8_late_20 (by decide) ?_
      cases h
      exact k_iret hx hb hr hlocks hw rfl dX8_late_21 hQ
    · refine lv_aload_n hx hb dX8_late_22 rfl (lv_at hl 0 rfl) ?_
      refine lv_iload_n hx hb dX8_late_23 rfl (lv_at hl 1 rfl) ?_
      refine lv_iconst (v := 0) hx hb dX8_late_24 (by decide) ?_
      obtain ⟨r_3, mNow_4, mPaid_5, hf, h⟩ := b3_inv h
      refine k_callV (host := "") fx hK hA hw (c_X8_daysIf l D k mh mrSt mrNow mrIsKept mrDraft mrTape mrRow mrRode mrWays mrLanes mrSizes mrCells mrBefore _ mSt mNow mIsKept mPeople mDraft mDPeople mHasDry mToldDebts mHighest mTape mTaped mPos mBegun mSort mValue mFault mWrongAt mPaid mRow mRingMuch mRideSum mOwedSum mAllWays mRode mWays mLanes mSizes mCells mTorn mBefore p1 0 r_3 mNow_4 mPaid_5 hf) (cwV 2 hts gX8_late_X8_daysIf rfl rfl rfl (by decide +kernel) ⟨by decide, by decide⟩) (As := [.int p1, .int 0]) (wr := []) (ws' := wX8 k mh mrSt mrNow mrIsKept mrDraft mrTape mrRow mrRode mrWays mrLanes mrSizes mrCells mrBefore mSt mNow_4 mIsKept mPeople mDraft mDPeople mHasDry mToldDebts mHighest mTape mTaped mPos mBegun mSort mValue mFault mWrongAt mPaid_5 mRow mRingMuch mRideSum mOwedSum mAllWays mRode mWays mLanes mSizes mCells mTorn mBefore) [0, 1, 2, 3, 4, 5, 6, 7, 8, 9, 10, 11, 12] [] [0, 1, 2, 3, 4, 5, 6, 7, 8, 9, 10, 11, 12] rfl rfl (by decide) (by decide) (by decide) rfl (by decide) 8 rfl rfl [] rfl hl.1 rfl (Nat.le_of_ble_eq_true rfl) dX8_late_25 ⟨by decide, by decide⟩ (fun H locs (hw : Wd D A s.heap H locs (wX8 k mh mrSt mrNow mrIsKept mrDraft mrTape mrRow mrRode mrWays mrLanes mrSizes mrCells mrBefore mSt mNow_4 mIsKept mPeople mDraft mDPeople mHasDry mToldDebts mHighest mTape mTaped mPos mBegun mSort mValue mFault mWrongAt mPaid_5 mRow mRingMuch mRideSum mOwedSum mAllWays mRode mWays mLanes mSizes mCells mTorn mBefore)) => ?_)
      refine W.eq (g2 := F0 m 28 ls ([.int r_3])) rfl ?_
      refine lv_istore_n (lv' := [(3, .int r_3), (0, .ref mh), (1, .int p1), (2, .int p2)]) hx hb dX8_late_28 rfl hl (by decide) rfl (fun ls hl => ?_)
      refine lv_aload_n hx hb dX8_late_29 rfl (lv_at hl 1 rfl) ?_
      refine lv_iload_n hx hb dX8_late_30 rfl (lv_at hl 2 rfl) ?_
      refine lv_iload_n hx hb dX8_late_31 rfl (lv_at hl 3 rfl) ?_
      obtain ⟨r_6, mNow_7, mPaid_8, hf, h⟩ := b3_inv h
      refine k_callV (host := "") fx hK hA hw (c_X8_daysIf l D k mh mrSt mrNow mrIsKept mrDraft mrTape mrRow mrRode mrWays mrLanes mrSizes mrCells mrBefore _ mSt mNow_4 mIsKept mPeople mDraft mDPeople mHasDry mToldDebts mHighest mTape mTaped mPos mBegun mSort mValue mFault mWrongAt mPaid_5 mRow mRingMuch mRideSum mOwedSum mAllWays mRode mWays mLanes mSizes mCells mTorn mBefore p1 p2 r_6 mNow_7 mPaid_8 hf) (cwV 2 hts gX8_late_X8_daysIf rfl rfl rfl (by decide +kernel) ⟨by decide, by decide⟩) (As := [.int p1, .int p2]) (wr := []) (ws' := wX8 k mh mrSt mrNow mrIsKept mrDraft mrTape mrRow mrRode mrWays mrLanes mrSizes mrCells mrBefore mSt mNow_7 mIsKept mPeople mDraft mDPeople mHasDry mToldDebts mHighest mTape mTaped mPos mBegun mSort mValue mFault mWrongAt mPaid_8 mRow mRingMuch mRideSum mOwedSum mAllWays mRode mWays mLanes mSizes mCells mTorn mBefore) [0, 1, 2, 3, 4, 5, 6, 7, 8, 9, 10, 11, 12] [] [0, 1, 2, 3, 4, 5, 6, 7, 8, 9, 10, 11, 12] rfl rfl (by decide) (by decide) (by decide) rfl (by decide) 8 rfl rfl [] rfl hl.1 rfl (Nat.le_of_ble_eq_true rfl) dX8_late_32 ⟨by decide, by decide⟩ (fun H locs (hw : Wd D A s.heap H locs (wX8 k mh mrSt mrNow mrIsKept mrDraft mrTape mrRow mrRode mrWays mrLanes mrSizes mrCells mrBefore mSt mNow_7 mIsKept mPeople mDraft mDPeople mHasDry mToldDebts mHighest mTape mTaped mPos mBegun mSort mValue mFault mWrongAt mPaid_8 mRow mRingMuch mRideSum mOwedSum mAllWays mRode mWays mLanes mSizes mCells mTorn mBefore)) => ?_)
      refine W.eq (g2 := F0 m 35 ls ([.int r_6])) rfl ?_
      refine lv_istore (lv' := [(4, .int r_6), (3, .int r_3), (0, .ref mh), (1, .int p1), (2, .int p2)]) hx hb dX8_late_35 hl (by decide) rfl (fun ls hl => ?_)
      refine lv_iload_n hx hb dX8_late_37 rfl (lv_at hl 1 rfl) ?_
      refine lv_bipush (v := (-4)) hx hb dX8_late_38 (by decide) ?_
      refine kb_icmp_eq (tgt := 50) hx hb dX8_late_40 (by decide) h (fun c_40 h => ?_) (fun c_40 h => ?_)
      · refine lv_bipush (v := (-4)) hx hb dX8_late_50 (by decide) ?_
        refine lv_goto (tgt := 59) hx hb dX8_late_52 (by decide) ?_
        cases h
        exact k_iret hx hb hr hlocks hw rfl dX8_late_59 hQ
      · refine lv_iload hx hb dX8_late_43 (lv_at hl 0 rfl) ?_
        refine lv_bipush (v := (-4)) hx hb dX8_late_45 (by decide) ?_
        refine kb_icmp_ne (tgt := 55) hx hb dX8_late_47 (by decide) h (fun c_47 h => ?_) (fun c_47 h => ?_)
        · refine lv_bipush (v := (-4)) hx hb dX8_late_50 (by decide) ?_
          refine lv_goto (tgt := 59) hx hb dX8_late_52 (by decide) ?_
          cases h
          exact k_iret hx hb hr hlocks hw rfl dX8_late_59 hQ
        · refine lv_iload hx hb dX8_late_55 (lv_at hl 0 rfl) ?_
          refine lv_iload_n hx hb dX8_late_57 rfl (lv_at hl 1 rfl) ?_
          refine lv_isub hx hb dX8_late_58 ?_
          have g0 := Option.some.inj h
          clear h
          obtain ⟨e0, g1⟩ := Prod.mk.inj g0
          obtain ⟨e1, g2⟩ := Prod.mk.inj g1
          subst e0; subst e1; subst g2
          exact k_iret hx hb hr hlocks hw rfl dX8_late_59 hQ
abbrev rmX8_lay : Room := { frames := 2, cells := 0, slots := 0, locals := 46 }
set_option maxHeartbeats 4000000 in
set_option maxRecDepth 100000 in
theorem c_X8_lay (l : Launch) (D : va_G) (k : Nat → ClassId) (mh mrSt mrNow mrIsKept mrDraft mrTape mrRow mrRode mrWays mrLanes mrSizes mrCells mrBefore : Nat) (sz : Nat) (mSt : (Nat → Int32)) (mNow : (Nat → Int32)) (mIsKept : (Nat → Int32)) (mPeople : Int32) (mDraft : (Nat → Int32)) (mDPeople : Int32) (mHasDry : Int32) (mToldDebts : Int32) (mHighest : Int32) (mTape : (Nat → Int32)) (mTaped : Int32) (mPos : Int32) (mBegun : Int32) (mSort : Int32) (mValue : Int32) (mFault : Int32) (mWrongAt : Int32) (mPaid : Int32) (mRow : (Nat → Int32)) (mRingMuch : Int32) (mRideSum : Int64) (mOwedSum : Int64) (mAllWays : Int64) (mRode : (Nat → Int32)) (mWays : (Nat → Int32)) (mLanes : (Nat → Int32)) (mSizes : (Nat → Int32)) (mCells : (Nat → Int32)) (mTorn : Int32) (mBefore : (Nat → Int32)) (p1 : Int32) (p2 : Int32) (p3 : Int32) (r_ : Int32) (n_mCells : (Nat → Int32)) (hf : f_X8_lay mLanes mSizes mCells p1 p2 p3 = some (r_, n_mCells)) : mR l yX8_lay wsX8_lay rmX8_lay D k sz [.ref mh, .int p1, .int p2, .int p3] (wX8 k mh mrSt mrNow mrIsKept mrDraft mrTape mrRow mrRode mrWays mrLanes mrSizes mrCells mrBefore mSt mNow mIsKept mPeople mDraft mDPeople mHasDry mToldDebts mHighest mTape mTaped mPos mBegun mSort mValue mFault mWrongAt mPaid mRow mRingMuch mRideSum mOwedSum mAllWays mRode mWays mLanes mSizes mCells mTorn mBefore) (wX8 k mh mrSt mrNow mrIsKept mrDraft mrTape mrRow mrRode mrWays mrLanes mrSizes mrCells mrBefore mSt mNow mIsKept mPeople mDraft mDPeople mHasDry mToldDebts mHighest mTape mTaped mPos mBegun mSort mValue mFault mWrongAt mPaid mRow mRingMuch mRideSum mOwedSum mAllWays mRode mWays mLanes mSizes n_mCells mTorn mBefore) (some (.int r_)) := by
  refine mR_of (cc := cX8_lay) (maxL := 4) (ret := some .int) (by decide) rfl (Nat.le_of_ble_eq_true rfl) [(0, .ref mh), (1, .int p1), (2, .int p2), (3, .int p3)] rfl ?_
  intro p e s m below meth c A ls args Q cx hK hA hw hl hQ
  have fx := cx.1
  obtain ⟨⟨hx, hb, hml, hown, hts⟩, hr, hlocks⟩ := cx
  have hinX8 : ∀ w ∈ wsX80, w ∈ wsX8_lay := fun w h => List.mem_cons_of_mem _ (List.mem_append_right _ h)
  have q_1 := hts (.fieldLink RX8 35 "DebtRidesModel" "lanes" "[I") (List.mem_of_getElem? (i := 1) rfl)
  have q_2 := hts (.fieldLink RX8 38 "DebtRidesModel" "sizes" "[I") (List.mem_of_getElem? (i := 2) rfl)
  have q_3 := hts (.fieldLink RX8 41 "DebtRidesModel" "cells" "[I") (List.mem_of_getElem? (i := 3) rfl)
  have h := hf
  unfold f_X8_lay at h
  clear hf
  refine lv_iload_n hx hb dX8_lay_0 rfl (lv_at hl 1 rfl) ?_
  refine lv_iconst (v := 0) hx hb dX8_lay_1 (by decide) ?_
  obtain ⟨r_1, hf, h⟩ := b1_inv h
  refine k_callS (b := 0) (C := "") (host := "") fx hK hA hw (c_X8_isSheet l D k _ p1 0 r_1 hf) (va_cwS 2 hts gX8_lay_X8_isSheet rfl rfl rfl (by decide +kernel) ⟨by decide, by decide⟩) (As := [.int p1, .int 0]) (wr := [(mh, .inr (8, [.ref mrSt, .ref mrNow, .ref mrIsKept, .int mPeople, .ref mrDraft, .int mDPeople, .int mHasDry, .int mToldDebts, .int mHighest, .ref mrTape, .int mTaped, .int mPos, .int mBegun, .int mSort, .int mValue, .int mFault, .int mWrongAt, .int mPaid, .ref mrRow, .int mRingMuch, .long mRideSum, .long mOwedSum, .long mAllWays, .ref mrRode, .ref mrWays, .ref mrLanes, .ref mrSizes, .ref mrCells, .int mTorn, .ref mrBefore])), (mrSt, .inl (k 0, 183, .inl mSt)), (mrNow, .inl (k 0, 61, .inl mNow)), (mrIsKept, .inl (k 1, 2, .inl mIsKept)), (mrDraft, .inl (k 0, 61, .inl mDraft)), (mrTape, .inl (k 0, 160, .inl mTape)), (mrRow, .inl (k 0, 5, .inl mRow)), (mrRode, .inl (k 0, 31, .inl mRode)), (mrWays, .inl (k 0, 31, .inl mWays)), (mrLanes, .inl (k 0, 4, .inl mLanes)), (mrSizes, .inl (k 0, 4, .inl mSizes)), (mrCells, .inl (k 0, 160, .inl mCells)), (mrBefore, .inl (k 0, 61, .inl mBefore))]) (ws' := wX8 k mh mrSt mrNow mrIsKept mrDraft mrTape mrRow mrRode mrWays mrLanes mrSizes mrCells mrBefore mSt mNow mIsKept mPeople mDraft mDPeople mHasDry mToldDebts mHighest mTape mTaped mPos mBegun mSort mValue mFault mWrongAt mPaid mRow mRingMuch mRideSum mOwedSum mAllWays mRode mWays mLanes mSizes mCells mTorn mBefore) [] [0, 1, 2, 3, 4, 5, 6, 7, 8, 9, 10, 11, 12] [0, 1, 2, 3, 4, 5, 6, 7, 8, 9, 10, 11, 12] rfl rfl (by decide) (by decide) (by decide) rfl (by decide) [] rfl hl.1 rfl (Nat.le_of_ble_eq_true rfl) dX8_lay_2 ⟨by decide, by decide⟩ (fun H locs (hw : Wd D A s.heap H locs (wX8 k mh mrSt mrNow mrIsKept mrDraft mrTape mrRow mrRode mrWays mrLanes mrSizes mrCells mrBefore mSt mNow mIsKept mPeople mDraft mDPeople mHasDry mToldDebts mHighest mTape mTaped mPos mBegun mSort mValue mFault mWrongAt mPaid mRow mRingMuch mRideSum mOwedSum mAllWays mRode mWays mLanes mSizes mCells mTorn mBefore)) => ?_)
  refine W.eq (g2 := F0 m 5 ls ([.int r_1])) rfl ?_
  refine kb_if_ne (tgt := 10) hx hb dX8_lay_5 (by decide) h (fun c_5 h => ?_) (fun c_5 h => ?_)
  · refine lv_iconst (v := (-1)) hx hb dX8_lay_8 (by decide) ?_
    cases h
    exact k_iret hx hb hr hlocks hw rfl dX8_lay_9 hQ
  · refine lv_aload_n hx hb dX8_lay_10 rfl (lv_at hl 0 rfl) ?_
    refine va_get (ci := 8) (v := .ref mrLanes) (C := RX8) (T := TX8) (N := 30) hx hb hts hinX8 hown hK.1 hw.1 0 rfl rfl 25 (by decide) q_1 (fun _ h9 => h9) rfl dX8_lay_11 ?_
    refine lv_iload_n hx hb dX8_lay_14 rfl (lv_at hl 1 rfl) ?_
    refine k_iald hx hb hK hw 9 rfl dX8_lay_15 h (fun a_2 h => ?_)
    refine lv_bipush (v := (-4)) hx hb dX8_lay_16 (by decide) ?_
    refine kb_icmp_ne (tgt := 24) hx hb dX8_lay_18 (by decide) h (fun c_18 h => ?_) (fun c_18 h => ?_)
    · refine lv_bipush (v := (-11)) hx hb dX8_lay_21 (by decide) ?_
      cases h
      exact k_iret hx hb hr hlocks hw rfl dX8_lay_23 hQ
    · refine lv_iload_n hx hb dX8_lay_24 rfl (lv_at hl 2 rfl) ?_
      refine lv_i2l hx hb dX8_lay_25 rfl ?_
      refine lv_lconst (v := 0) hx hb dX8_lay_26 rfl ?_
      refine lv_aload_n hx hb dX8_lay_27 rfl (lv_at hl 0 rfl) ?_
      refine va_get (ci := 8) (v := .ref mrSizes) (C := RX8) (T := TX8) (N := 30) hx hb hts hinX8 hown hK.1 hw.1 0 rfl rfl 26 (by decide) q_2 (fun _ h9 => h9) rfl dX8_lay_28 ?_
      refine lv_iload_n hx hb dX8_lay_31 rfl (lv_at hl 1 rfl) ?_
      refine k_iald hx hb hK hw 10 rfl dX8_lay_32 h (fun a_3 h => ?_)
      refine lv_iconst (v := 1) hx hb dX8_lay_33 (by decide) ?_
      refine lv_isub hx hb dX8_lay_34 ?_
      refine lv_i2l hx hb dX8_lay_35 rfl ?_
      obtain ⟨r_4, hf, h⟩ := b1_inv h
      refine k_callS (b := 0) (C := "") (host := "") fx hK hA hw (c_X8_in l D k _ p2.toInt64 0 ((a_3 - 1).toInt64) r_4 hf) (va_cwS 3 hts gX8_lay_X8_in rfl rfl rfl (by decide +kernel) ⟨by decide, by decide⟩) (As := [.long p2.toInt64, .long 0, .long ((a_3 - 1).toInt64)]) (wr := [(mh, .inr (8, [.ref mrSt, .ref mrNow, .ref mrIsKept, .int mPeople, .ref mrDraft, .int mDPeople, .int mHasDry, .int mToldDebts, .int mHighest, .ref mrTape, .int mTaped, .int mPos, .int mBegun, .int mSort, .int mValue, .int mFault, .int mWrongAt, .int mPaid, .ref mrRow, .int mRingMuch, .long mRideSum, .long mOwedSum, .long mAllWays, .ref mrRode, .ref mrWays, .ref mrLanes, .ref mrSizes, .ref mrCells, .int mTorn, .ref mrBefore])), (mrSt, .inl (k 0, 183, .inl mSt)), (mrNow, .inl (k 0, 61, .inl mNow)), (mrIsKept, .inl (k 1, 2, .inl mIsKept)), (mrDraft, .inl (k 0, 61, .inl mDraft)), (mrTape, .inl (k 0, 160, .inl mTape)), (mrRow, .inl (k 0, 5, .inl mRow)), (mrRode, .inl (k 0, 31, .inl mRode)), (mrWays, .inl (k 0, 31, .inl mWays)), (mrLanes, .inl (k 0, 4, .inl mLanes)), (mrSizes, .inl (k 0, 4, .inl mSizes)), (mrCells, .inl (k 0, 160, .inl mCells)), (mrBefore, .inl (k 0, 61, .inl mBefore))]) (ws' := wX8 k mh mrSt mrNow mrIsKept mrDraft mrTape mrRow mrRode mrWays mrLanes mrSizes mrCells mrBefore mSt mNow mIsKept mPeople mDraft mDPeople mHasDry mToldDebts mHighest mTape mTaped mPos mBegun mSort mValue mFault mWrongAt mPaid mRow mRingMuch mRideSum mOwedSum mAllWays mRode mWays mLanes mSizes mCells mTorn mBefore) [] [0, 1, 2, 3, 4, 5, 6, 7, 8, 9, 10, 11, 12] [0, 1, 2, 3, 4, 5, 6, 7, 8, 9, 10, 11, 12] rfl rfl (by decide) (by decide) (by decide) rfl (by decide) [] rfl hl.1 rfl (Nat.le_of_ble_eq_true rfl) dX8_lay_36 ⟨by decide, by decide⟩ (fun H locs (hw : Wd D A s.heap H locs (wX8 k mh mrSt mrNow mrIsKept mrDraft mrTape mrRow mrRode mrWays mrLanes mrSizes mrCells mrBefore mSt mNow mIsKept mPeople mDraft mDPeople mHasDry mToldDebts mHighest mTape mTaped mPos mBegun mSort mValue mFault mWrongAt mPaid mRow mRingMuch mRideSum mOwedSum mAllWays mRode mWays mLanes mSizes mCells mTorn mBefore)) => ?_)
      refine W.eq (g2 := F0 m 39 ls ([.int r_4])) rfl ?_
      refine kb_if_ne (tgt := 45) hx hb dX8_lay_39 (by decide) h (fun c_39 h => ?_) (fun c_39 h => ?_)
      · refine lv_bipush (v := (-12)) hx hb dX8_lay_42 (by decide) ?_
        cases h
        exact k_iret hx hb hr hlocks hw rfl dX8_lay_44 hQ
      · refine lv_aload_n hx hb dX8_lay_45 rfl (lv_at hl 0 rfl) ?_
        refine va_get (ci := 8) (v := .ref mrCells) (C := RX8) (T := TX8) (N := 30) hx hb hts hinX8 hown hK.1 hw.1 0 rfl rfl 27 (by decide) q_3 (fun _ h9 => h9) rfl dX8_lay_46 ?_
        refine lv_bipush (v := 40) hx hb dX8_lay_49 (by decide) ?_
        refine lv_iload_n hx hb dX8_lay_51 rfl (lv_at hl 1 rfl) ?_
        refine lv_imul hx hb dX8_lay_52 ?_
        refine lv_iload_n hx hb dX8_lay_53 rfl (lv_at hl 2 rfl) ?_
        refine lv_iadd hx hb dX8_lay_54 ?_
        refine lv_aload_n hx hb dX8_lay_55 rfl (lv_at hl 0 rfl) ?_
        refine va_get (ci := 8) (v := .ref mrLanes) (C := RX8) (T := TX8) (N := 30) hx hb hts hinX8 hown hK.1 hw.1 0 rfl rfl 25 (by decide) q_1 (fun _ h9 => h9) rfl dX8_lay_56 ?_
        refine lv_iload_n hx hb dX8_lay_59 rfl (lv_at hl 1 rfl) ?_
        refine k_iald hx hb hK hw 9 rfl dX8_lay_60 h (fun a_5 h => ?_)
        obtain ⟨t_6, hj_61, h⟩ := b1_inv h
        have J_61 : ∀ (H : Heap) (locs : List Loc) (ls : Array Slot), Wd D A s.heap H locs (wX8 k mh mrSt mrNow mrIsKept mrDraft mrTape mrRow mrRode mrWays mrLanes mrSizes mrCells mrBefore mSt mNow mIsKept mPeople mDraft mDPeople mHasDry mToldDebts mHighest mTape mTaped mPos mBegun mSort mValue mFault mWrongAt mPaid mRow mRingMuch mRideSum mOwedSum mAllWays mRode mWays mLanes mSizes mCells mTorn mBefore) → lv_has ls 4 [] → W p l e rmX8_lay s m args below meth c H locs 0 0 Q (F0 m 85 ls [.int t_6, .int ((40 * p1) + p2), .ref mrCells]) := by
          intro H locs ls hw hl
          refine k_iast hx hb hK hw 11 rfl dX8_lay_85 h (fun mCells_8 h H locs (hw : Wd D A s.heap H locs (wX8 k mh mrSt mrNow mrIsKept mrDraft mrTape mrRow mrRode mrWays mrLanes mrSizes mrCells mrBefore mSt mNow mIsKept mPeople mDraft mDPeople mHasDry mToldDebts mHighest mTape mTaped mPos mBegun mSort mValue mFault mWrongAt mPaid mRow mRingMuch mRideSum mOwedSum mAllWays mRode mWays mLanes mSizes mCells_8 mTorn mBefore)) => ?_)
          refine lv_iconst (v := 1) hx hb dX8_lay_86 (by decide) ?_
          cases h
          exact k_iret hx hb hr hlocks hw rfl dX8_lay_87 hQ
        clear h
        have h := hj_61
        refine kb_if_ne (tgt := 69) hx hb dX8_lay_61 (by decide) h (fun c_61 h => ?_) (fun c_61 h => ?_)
        · refine lv_iload_n hx hb dX8_lay_64 rfl (lv_at hl 3 rfl) ?_
          refine lv_i2b hx hb dX8_lay_65 rfl ?_
          refine lv_goto (tgt := 85) hx hb dX8_lay_66 (by decide) ?_
          cases h
          exact J_61 _ _ _ hw (lv_sub hl [] rfl)
        · refine lv_aload_n hx hb dX8_lay_69 rfl (lv_at hl 0 rfl) ?_
          refine va_get (ci := 8) (v := .ref mrLanes) (C := RX8) (T := TX8) (N := 30) hx hb hts hinX8 hown hK.1 hw.1 0 rfl rfl 25 (by decide) q_1 (fun _ h9 => h9) rfl dX8_lay_70 ?_
          refine lv_iload_n hx hb dX8_lay_73 rfl (lv_at hl 1 rfl) ?_
          refine k_iald hx hb hK hw 9 rfl dX8_lay_74 h (fun a_7 h => ?_)
          refine lv_iconst (v := 1) hx hb dX8_lay_75 (by decide) ?_
          refine kb_icmp_ne (tgt := 84) hx hb dX8_lay_76 (by decide) h (fun c_76 h => ?_) (fun c_76 h => ?_)
          · refine lv_iload_n hx hb dX8_lay_79 rfl (lv_at hl 3 rfl) ?_
            refine lv_i2s hx hb dX8_lay_80 rfl ?_
            refine lv_goto (tgt := 85) hx hb dX8_lay_81 (by decide) ?_
            cases h
            exact J_61 _ _ _ hw (lv_sub hl [] rfl)
          · refine lv_iload_n hx hb dX8_lay_84 rfl (lv_at hl 3 rfl) ?_
            cases h
            exact J_61 _ _ _ hw (lv_sub hl [] rfl)
abbrev rmX8_netOf : Room := { frames := 2, cells := 0, slots := 0, locals := 45 }
set_option maxHeartbeats 4000000 in
set_option maxRecDepth 100000 in
theorem c_X8_netOf (l : Launch) (D : va_G) (k : Nat → ClassId) (mh mrSt mrNow mrIsKept mrDraft mrTape mrRow mrRode mrWays mrLanes mrSizes mrCells mrBefore : Nat) (sz : Nat) (mSt : (Nat → Int32)) (mNow : (Nat → Int32)) (mIsKept : (Nat → Int32)) (mPeople : Int32) (mDraft : (Nat → Int32)) (mDPeople : Int32) (mHasDry : Int32) (mToldDebts : Int32) (mHighest : Int32) (mTape : (Nat → Int32)) (mTaped : Int32) (mPos : Int32) (mBegun : Int32) (mSort : Int32) (mValue : Int32) (mFault : Int32) (mWrongAt : Int32) (mPaid : Int32) (mRow : (Nat → Int32)) (mRingMuch : Int32) (mRideSum : Int64) (mOwedSum : Int64) (mAllWays : Int64) (mRode : (Nat → Int32)) (mWays : (Nat → Int32)) (mLanes : (Nat → Int32)) (mSizes : (Nat → Int32)) (mCells : (Nat → Int32)) (mTorn : Int32) (mBefore : (Nat → Int32)) (p1 : Int32) (r_ : Int32) (hf : f_X8_netOf mNow mPeople p1 = some r_) : mR l yX8_netOf wsX8_netOf rmX8_netOf D k sz [.ref mh, .int p1] (wX8 k mh mrSt mrNow mrIsKept mrDraft mrTape mrRow mrRode mrWays mrLanes mrSizes mrCells mrBefore mSt mNow mIsKept mPeople mDraft mDPeople mHasDry mToldDebts mHighest mTape mTaped mPos mBegun mSort mValue mFault mWrongAt mPaid mRow mRingMuch mRideSum mOwedSum mAllWays mRode mWays mLanes mSizes mCells mTorn mBefore) (wX8 k mh mrSt mrNow mrIsKept mrDraft mrTape mrRow mrRode mrWays mrLanes mrSizes mrCells mrBefore mSt mNow mIsKept mPeople mDraft mDPeople mHasDry mToldDebts mHighest mTape mTaped mPos mBegun mSort mValue mFault mWrongAt mPaid mRow mRingMuch mRideSum mOwedSum mAllWays mRode mWays mLanes mSizes mCells mTorn mBefore) (some (.int r_)) := by
  refine mR_of (cc := cX8_netOf) (maxL := 2) (ret := some .int) (by decide) rfl (Nat.le_of_ble_eq_true rfl) [(0, .ref mh), (1, .int p1)] rfl ?_
  intro p e s m below meth c A ls args Q cx hK hA hw hl hQ
  have fx := cx.1
  obtain ⟨⟨hx, hb, hml, hown, hts⟩, hr, hlocks⟩ := cx
  have h := hf
  unfold f_X8_netOf at h
  clear hf
  refine lv_aload_n hx hb dX8_netOf_0 rfl (lv_at hl 0 rfl) ?_
  refine lv_iload_n hx hb dX8_netOf_1 rfl (lv_at hl 1 rfl) ?_
  obtain ⟨r_1, hf, h⟩ := b1_inv h
  refine k_callV (host := "") fx hK hA hw (c_X8_owesAll l D k mh mrSt mrNow mrIsKept mrDraft mrTape mrRow mrRode mrWays mrLanes mrSizes mrCells mrBefore _ mSt mNow mIsKept mPeople mDraft mDPeople mHasDry mToldDebts mHighest mTape mTaped mPos mBegun mSort mValue mFault mWrongAt mPaid mRow mRingMuch mRideSum mOwedSum mAllWays mRode mWays mLanes mSizes mCells mTorn mBefore p1 r_1 hf) (cwV 1 hts gX8_netOf_X8_owesAll rfl rfl rfl (by decide +kernel) ⟨by decide, by decide⟩) (As := [.int p1]) (wr := []) (ws' := wX8 k mh mrSt mrNow mrIsKept mrDraft mrTape mrRow mrRode mrWays mrLanes mrSizes mrCells mrBefore mSt mNow mIsKept mPeople mDraft mDPeople mHasDry mToldDebts mHighest mTape mTaped mPos mBegun mSort mValue mFault mWrongAt mPaid mRow mRingMuch mRideSum mOwedSum mAllWays mRode mWays mLanes mSizes mCells mTorn mBefore) [0, 1, 2, 3, 4, 5, 6, 7, 8, 9, 10, 11, 12] [] [0, 1, 2, 3, 4, 5, 6, 7, 8, 9, 10, 11, 12] rfl rfl (by decide) (by decide) (by decide) rfl (by decide) 8 rfl rfl [] rfl hl.1 rfl (Nat.le_of_ble_eq_true rfl) dX8_netOf_2 ⟨by decide, by decide⟩ (fun H locs (hw : Wd D A s.heap H locs (wX8 k mh mrSt mrNow mrIsKept mrDraft mrTape mrRow mrRode mrWays mrLanes mrSizes mrCells mrBefore mSt mNow mIsKept mPeople mDraft mDPeople mHasDry mToldDebts mHighest mTape mTaped mPos mBegun mSort mValue mFault mWrongAt mPaid mRow mRingMuch mRideSum mOwedSum mAllWays mRode mWays mLanes mSizes mCells mTorn mBefore)) => ?_)
  refine W.eq (g2 := F0 m 5 ls ([.int r_1])) rfl ?_
  refine lv_aload_n hx hb dX8_netOf_5 rfl (lv_at hl 0 rfl) ?_
  refine lv_iload_n hx hb dX8_netOf_6 rfl (lv_at hl 1 rfl) ?_
  obtain ⟨r_2, hf, h⟩ := b1_inv h
  refine k_callV (host := "") fx hK hA hw (c_X8_isOwed l D k mh mrSt mrNow mrIsKept mrDraft mrTape mrRow mrRode mrWays mrLanes mrSizes mrCells mrBefore _ mSt mNow mIsKept mPeople mDraft mDPeople mHasDry mToldDebts mHighest mTape mTaped mPos mBegun mSort mValue mFault mWrongAt mPaid mRow mRingMuch mRideSum mOwedSum mAllWays mRode mWays mLanes mSizes mCells mTorn mBefore p1 r_2 hf) (cwV 1 hts gX8_netOf_X8_isOwed rfl rfl rfl (by decide +kernel) ⟨by decide, by decide⟩) (As := [.int p1]) (wr := []) (ws' := wX8 k mh mrSt mrNow mrIsKept mrDraft mrTape mrRow mrRode mrWays mrLanes mrSizes mrCells mrBefore mSt mNow mIsKept mPeople mDraft mDPeople mHasDry mToldDebts mHighest mTape mTaped mPos mBegun mSort mValue mFault mWrongAt mPaid mRow mRingMuch mRideSum mOwedSum mAllWays mRode mWays mLanes mSizes mCells mTorn mBefore) [0, 1, 2, 3, 4, 5, 6, 7, 8, 9, 10, 11, 12] [] [0, 1, 2, 3, 4, 5, 6, 7, 8, 9, 10, 11, 12] rfl rfl (by decide) (by decide) (by decide) rfl (by decide) 8 rfl rfl [.int r_1] rfl hl.1 rfl (Nat.le_of_ble_eq_true rfl) dX8_netOf_7 ⟨by decide, by decide⟩ (fun H locs (hw : Wd D A s.heap H locs (wX8 k mh mrSt mrNow mrIsKept mrDraft mrTape mrRow mrRode mrWays mrLanes mrSizes mrCells mrBefore mSt mNow mIsKept mPeople mDraft mDPeople mHasDry mToldDebts mHighest mTape mTaped mPos mBegun mSort mValue mFault mWrongAt mPaid mRow mRingMuch mRideSum mOwedSum mAllWays mRode mWays mLanes mSizes mCells mTorn mBefore)) => ?_)
  refine W.eq (g2 := F0 m 10 ls ([.int r_2, .int r_1])) rfl ?_
  refine lv_isub hx hb dX8_netOf_10 ?_
  cases h
  exact k_iret hx hb hr hlocks hw rfl dX8_netOf_11 hQ
abbrev rmX8_least : Room := { frames := 3, cells := 0, slots := 0, locals := 66 }
set_option maxHeartbeats 4000000 in
set_option maxRecDepth 100000 in
theorem c_X8_least (l : Launch) (D : va_G) (k : Nat → ClassId) (mh mrSt mrNow mrIsKept mrDraft mrTape mrRow mrRode mrWays mrLanes mrSizes mrCells mrBefore : Nat) (sz : Nat) (mSt : (Nat → Int32)) (mNow : (Nat → Int32)) (mIsKept : (Nat → Int32)) (mPeople : Int32) (mDraft : (Nat → Int32)) (mDPeople : Int32) (mHasDry : Int32) (mToldDebts : Int32) (mHighest : Int32) (mTape : (Nat → Int32)) (mTaped : Int32) (mPos : Int32) (mBegun : Int32) (mSort : Int32) (mValue : Int32) (mFault : Int32) (mWrongAt : Int32) (mPaid : Int32) (mRow : (Nat → Int32)) (mRingMuch : Int32) (mRideSum : Int64) (mOwedSum : Int64) (mAllWays : Int64) (mRode : (Nat → Int32)) (mWays : (Nat → Int32)) (mLanes : (Nat → Int32)) (mSizes : (Nat → Int32)) (mCells : (Nat → Int32)) (mTorn : Int32) (mBefore : (Nat → Int32)) (r_ : Int32) (n_mNow : (Nat → Int32)) (hf : f_X8_least mSt mNow mPeople = some (r_, n_mNow)) : mR l yX8_least wsX8_least rmX8_least D k sz [.ref mh] (wX8 k mh mrSt mrNow mrIsKept mrDraft mrTape mrRow mrRode mrWays mrLanes mrSizes mrCells mrBefore mSt mNow mIsKept mPeople mDraft mDPeople mHasDry mToldDebts mHighest mTape mTaped mPos mBegun mSort mValue mFault mWrongAt mPaid mRow mRingMuch mRideSum mOwedSum mAllWays mRode mWays mLanes mSizes mCells mTorn mBefore) (wX8 k mh mrSt mrNow mrIsKept mrDraft mrTape mrRow mrRode mrWays mrLanes mrSizes mrCells mrBefore mSt n_mNow mIsKept mPeople mDraft mDPeople mHasDry mToldDebts mHighest mTape mTaped mPos mBegun mSort mValue mFault mWrongAt mPaid mRow mRingMuch mRideSum mOwedSum mAllWays mRode mWays mLanes mSizes mCells mTorn mBefore) (some (.int r_)) := by
  refine mR_of (cc := cX8_least) (maxL := 3) (ret := some .int) (by decide) rfl (Nat.le_of_ble_eq_true rfl) [(0, .ref mh)] rfl ?_
  intro p e s m below meth c A ls args Q cx hK hA hw hl hQ
  have fx := cx.1
  obtain ⟨⟨hx, hb, hml, hown, hts⟩, hr, hlocks⟩ := cx
  have hinX8 : ∀ w ∈ wsX80, w ∈ wsX8_least := fun w h => List.mem_cons_of_mem _ (List.mem_append_right _ h)
  have q_1 := hts (.fieldLink RX8 67 "DebtRidesModel" "people" "I") (List.mem_of_getElem? (i := 1) rfl)
  have h := hf
  unfold f_X8_least at h
  clear hf
  refine lv_iconst (v := 0) hx hb dX8_least_0 (by decide) ?_
  refine lv_istore_n (lv' := [(1, .int 0), (0, .ref mh)]) hx hb dX8_least_1 rfl hl (by decide) rfl (fun ls hl => ?_)
  refine lv_aload_n hx hb dX8_least_2 rfl (lv_at hl 1 rfl) ?_
  obtain ⟨mNow_1, hf, h⟩ := b1_inv h
  refine k_callV (host := "") fx hK hA hw (c_X8_starts l D k mh mrSt mrNow mrIsKept mrDraft mrTape mrRow mrRode mrWays mrLanes mrSizes mrCells mrBefore _ mSt mNow mIsKept mPeople mDraft mDPeople mHasDry mToldDebts mHighest mTape mTaped mPos mBegun mSort mValue mFault mWrongAt mPaid mRow mRingMuch mRideSum mOwedSum mAllWays mRode mWays mLanes mSizes mCells mTorn mBefore mNow_1 hf) (cwV 0 hts gX8_least_X8_starts rfl rfl rfl (by decide +kernel) ⟨by decide, by decide⟩) (As := []) (wr := []) (ws' := wX8 k mh mrSt mrNow mrIsKept mrDraft mrTape mrRow mrRode mrWays mrLanes mrSizes mrCells mrBefore mSt mNow_1 mIsKept mPeople mDraft mDPeople mHasDry mToldDebts mHighest mTape mTaped mPos mBegun mSort mValue mFault mWrongAt mPaid mRow mRingMuch mRideSum mOwedSum mAllWays mRode mWays mLanes mSizes mCells mTorn mBefore) [0, 1, 2, 3, 4, 5, 6, 7, 8, 9, 10, 11, 12] [] [0, 1, 2, 3, 4, 5, 6, 7, 8, 9, 10, 11, 12] rfl rfl (by decide) (by decide) (by decide) rfl (by decide) 8 rfl rfl [] rfl hl.1 rfl (Nat.le_of_ble_eq_true rfl) dX8_least_3 ⟨by decide, by decide⟩ (fun H locs (hw : Wd D A s.heap H locs (wX8 k mh mrSt mrNow mrIsKept mrDraft mrTape mrRow mrRode mrWays mrLanes mrSizes mrCells mrBefore mSt mNow_1 mIsKept mPeople mDraft mDPeople mHasDry mToldDebts mHighest mTape mTaped mPos mBegun mSort mValue mFault mWrongAt mPaid mRow mRingMuch mRideSum mOwedSum mAllWays mRode mWays mLanes mSizes mCells mTorn mBefore)) => ?_)
  refine W.eq (g2 := F0 m 6 ls ([])) rfl ?_
  refine lv_iconst (v := 0) hx hb dX8_least_6 (by decide) ?_
  refine lv_istore_n (lv' := [(2, .int 0), (1, .int 0), (0, .ref mh)]) hx hb dX8_least_7 rfl hl (by decide) rfl (fun ls hl => ?_)
  obtain ⟨v1_4, hL_8, h⟩ := b1_inv h
  have X_8 : ∀ (H : Heap) (locs : List Loc) (ls : Array Slot), Wd D A s.heap H locs (wX8 k mh mrSt mrNow mrIsKept mrDraft mrTape mrRow mrRode mrWays mrLanes mrSizes mrCells mrBefore mSt mNow_1 mIsKept mPeople mDraft mDPeople mHasDry mToldDebts mHighest mTape mTaped mPos mBegun mSort mValue mFault mWrongAt mPaid mRow mRingMuch mRideSum mOwedSum mAllWays mRode mWays mLanes mSizes mCells mTorn mBefore) → lv_has ls 3 [(1, .int v1_4)] → W p l e rmX8_least s m args below meth c H locs 0 0 Q (F0 m 42 ls []) := by
    intro H locs ls hw hl
    refine lv_iload_n hx hb dX8_least_42 rfl (lv_at hl 0 rfl) ?_
    cases h
    exact k_iret hx hb hr hlocks hw rfl dX8_least_43 hQ
  clear h
  have LP_8 : ∀ (n : Nat) (v1_2 : Int32) (v2_3 : Int32), f_X8_least_L8 mPeople mNow_1 n v1_2 v2_3 = some v1_4 → ∀ (H : Heap) (locs : List Loc) (ls : Array Slot), Wd D A s.heap H locs (wX8 k mh mrSt mrNow mrIsKept mrDraft mrTape mrRow mrRode mrWays mrLanes mrSizes mrCells mrBefore mSt mNow_1 mIsKept mPeople mDraft mDPeople mHasDry mToldDebts mHighest mTape mTaped mPos mBegun mSort mValue mFault mWrongAt mPaid mRow mRingMuch mRideSum mOwedSum mAllWays mRode mWays mLanes mSizes mCells mTorn mBefore) → lv_has ls 3 [(0, .ref mh), (1, .int v1_2), (2, .int v2_3)] → W p l e rmX8_least s m args below meth c H locs 0 0 Q (F0 m 8 ls []) := by
    clear hL_8 hw hl
    intro n
    induction n with
    | zero => intro v1_2 v2_3 h; rw [f_X8_least_L8] at h; cases h
    | succ n ih =>
      intro v1_2 v2_3 h H locs ls hw hl
      rw [f_X8_least_L8] at h
      refine lv_iload_n hx hb dX8_least_8 rfl (lv_at hl 2 rfl) ?_
      refine lv_aload_n hx hb dX8_least_9 rfl (lv_at hl 0 rfl) ?_
      refine va_get (ci := 8) (v := .int mPeople) (C := RX8) (T := TX8) (N := 30) hx hb hts hinX8 hown hK.1 hw.1 0 rfl rfl 3 (by decide) q_1 (fun _ h9 => h9) rfl dX8_least_10 ?_
      refine kb_icmp_ge (tgt := 42) hx hb dX8_least_13 (by decide) h (fun c_13 h => ?_) (fun c_13 h => ?_)
      · cases h
        exact X_8 _ _ _ hw (lv_sub hl [1] rfl)
      · refine lv_iload_n hx hb dX8_least_16 rfl (lv_at hl 1 rfl) ?_
        refine lv_aload_n hx hb dX8_least_17 rfl (lv_at hl 0 rfl) ?_
        refine lv_iload_n hx hb dX8_least_18 rfl (lv_at hl 2 rfl) ?_
        obtain ⟨r_5, hf, h⟩ := b1_inv h
        refine k_callV (host := "") fx hK hA hw (c_X8_netOf l D k mh mrSt mrNow mrIsKept mrDraft mrTape mrRow mrRode mrWays mrLanes mrSizes mrCells mrBefore _ mSt mNow_1 mIsKept mPeople mDraft mDPeople mHasDry mToldDebts mHighest mTape mTaped mPos mBegun mSort mValue mFault mWrongAt mPaid mRow mRingMuch mRideSum mOwedSum mAllWays mRode mWays mLanes mSizes mCells mTorn mBefore v2_3 r_5 hf) (cwV 1 hts gX8_least_X8_netOf rfl rfl rfl (by decide +kernel) ⟨by decide, by decide⟩) (As := [.int v2_3]) (wr := []) (ws' := wX8 k mh mrSt mrNow mrIsKept mrDraft mrTape mrRow mrRode mrWays mrLanes mrSizes mrCells mrBefore mSt mNow_1 mIsKept mPeople mDraft mDPeople mHasDry mToldDebts mHighest mTape mTaped mPos mBegun mSort mValue mFault mWrongAt mPaid mRow mRingMuch mRideSum mOwedSum mAllWays mRode mWays mLanes mSizes mCells mTorn mBefore) [0, 1, 2, 3, 4, 5, 6, 7, 8, 9, 10, 11, 12] [] [0, 1, 2, 3, 4, 5, 6, 7, 8, 9, 10, 11, 12] rfl rfl (by decide) (by decide) (by decide) rfl (by decide) 8 rfl rfl [.int v1_2] rfl hl.1 rfl (Nat.le_of_ble_eq_true rfl) dX8_least_19 ⟨by decide, by decide⟩ (fun H locs (hw : Wd D A s.heap H locs (wX8 k mh mrSt mrNow mrIsKept mrDraft mrTape mrRow mrRode mrWays mrLanes mrSizes mrCells mrBefore mSt mNow_1 mIsKept mPeople mDraft mDPeople mHasDry mToldDebts mHighest mTape mTaped mPos mBegun mSort mValue mFault mWrongAt mPaid mRow mRingMuch mRideSum mOwedSum mAllWays mRode mWays mLanes mSizes mCells mTorn mBefore)) => ?_)
        refine W.eq (g2 := F0 m 22 ls ([.int r_5, .int v1_2])) rfl ?_
        obtain ⟨t_6, hj_22, h⟩ := b1_inv h
        have J_22 : ∀ (H : Heap) (locs : List Loc) (ls : Array Slot), Wd D A s.heap H locs (wX8 k mh mrSt mrNow mrIsKept mrDraft mrTape mrRow mrRode mrWays mrLanes mrSizes mrCells mrBefore mSt mNow_1 mIsKept mPeople mDraft mDPeople mHasDry mToldDebts mHighest mTape mTaped mPos mBegun mSort mValue mFault mWrongAt mPaid mRow mRingMuch mRideSum mOwedSum mAllWays mRode mWays mLanes mSizes mCells mTorn mBefore) → lv_has ls 3 [(0, .ref mh), (2, .int v2_3)] → W p l e rmX8_least s m args below meth c H locs 0 0 Q (F0 m 34 ls [.int t_6, .int v1_2]) := by
          intro H locs ls hw hl
          refine lv_iadd hx hb dX8_least_34 ?_
          refine lv_istore_n (lv' := [(1, .int (v1_2 + t_6)), (0, .ref mh), (2, .int v2_3)]) hx hb dX8_least_35 rfl hl (by decide) rfl (fun ls hl => ?_)
          refine lv_iinc (v := v2_3 + 1) (lv' := [(2, .int (v2_3 + 1)), (1, .int (v1_2 + t_6)), (0, .ref mh)]) hx hb dX8_least_36 hl (k := 2) rfl rfl (by decide) rfl (fun ls hl => ?_)
          refine lv_goto (tgt := 8) hx hb dX8_least_39 (by decide) ?_
          exact ih _ _ h _ _ _ hw (lv_sub hl [2, 1, 0] rfl)
        clear h
        have h := hj_22
        refine kb_if_le (tgt := 33) hx hb dX8_least_22 (by decide) h (fun c_22 h => ?_) (fun c_22 h => ?_)
        · refine lv_iconst (v := 0) hx hb dX8_least_33 (by decide) ?_
          cases h
          exact J_22 _ _ _ hw (lv_sub hl [0, 2] rfl)
        · refine lv_aload_n hx hb dX8_least_25 rfl (lv_at hl 0 rfl) ?_
          refine lv_iload_n hx hb dX8_least_26 rfl (lv_at hl 2 rfl) ?_
          obtain ⟨r_7, hf, h⟩ := b1_inv h
          refine k_callV (host := "") fx hK hA hw (c_X8_netOf l D k mh mrSt mrNow mrIsKept mrDraft mrTape mrRow mrRode mrWays mrLanes mrSizes mrCells mrBefore _ mSt mNow_1 mIsKept mPeople mDraft mDPeople mHasDry mToldDebts mHighest mTape mTaped mPos mBegun mSort mValue mFault mWrongAt mPaid mRow mRingMuch mRideSum mOwedSum mAllWays mRode mWays mLanes mSizes mCells mTorn mBefore v2_3 r_7 hf) (cwV 1 hts gX8_least_X8_netOf rfl rfl rfl (by decide +kernel) ⟨by decide, by decide⟩) (As := [.int v2_3]) (wr := []) (ws' := wX8 k mh mrSt mrNow mrIsKept mrDraft mrTape mrRow mrRode mrWays mrLanes mrSizes mrCells mrBefore mSt mNow_1 mIsKept mPeople mDraft mDPeople mHasDry mToldDebts mHighest mTape mTaped mPos mBegun mSort mValue mFault mWrongAt mPaid mRow mRingMuch mRideSum mOwedSum mAllWays mRode mWays mLanes mSizes mCells mTorn mBefore) [0, 1, 2, 3, 4, 5, 6, 7, 8, 9, 10, 11, 12] [] [0, 1, 2, 3, 4, 5, 6, 7, 8, 9, 10, 11, 12] rfl rfl (by decide) (by decide) (by decide) rfl (by decide) 8 rfl rfl [.int v1_2] rfl hl.1 rfl (Nat.le_of_ble_eq_true rfl) dX8_least_27 ⟨by decide, by decide⟩ (fun H locs (hw : Wd D A s.heap H locs (wX8 k mh mrSt mrNow mrIsKept mrDraft mrTape mrRow mrRode mrWays mrLanes mrSizes mrCells mrBefore mSt mNow_1 mIsKept mPeople mDraft mDPeople mHasDry mToldDebts mHighest mTape mTaped mPos mBegun mSort mValue mFault mWrongAt mPaid mRow mRingMuch mRideSum mOwedSum mAllWays mRode mWays mLanes mSizes mCells mTorn mBefore)) => ?_)
          refine W.eq (g2 := F0 m 30 ls ([.int r_7, .int v1_2])) rfl ?_
          refine lv_goto (tgt := 34) hx hb dX8_least_30 (by decide) ?_
          cases h
          exact J_22 _ _ _ hw (lv_sub hl [0, 2] rfl)
  exact LP_8 400 0 0 hL_8 _ _ _ hw (lv_sub hl [2, 1, 0] rfl)
abbrev rmX8_lend : Room := { frames := 3, cells := 0, slots := 0, locals := 69 }
set_option maxHeartbeats 4000000 in
set_option maxRecDepth 100000 in
theorem c_X8_lend (l : Launch) (D : va_G) (k : Nat → ClassId) (mh mrSt mrNow mrIsKept mrDraft mrTape mrRow mrRode mrWays mrLanes mrSizes mrCells mrBefore : Nat) (sz : Nat) (mSt : (Nat → Int32)) (mNow : (Nat → Int32)) (mIsKept : (Nat → Int32)) (mPeople : Int32) (mDraft : (Nat → Int32)) (mDPeople : Int32) (mHasDry : Int32) (mToldDebts : Int32) (mHighest : Int32) (mTape : (Nat → Int32)) (mTaped : Int32) (mPos : Int32) (mBegun : Int32) (mSort : Int32) (mValue : Int32) (mFault : Int32) (mWrongAt : Int32) (mPaid : Int32) (mRow : (Nat → Int32)) (mRingMuch : Int32) (mRideSum : Int64) (mOwedSum : Int64) (mAllWays : Int64) (mRode : (Nat → Int32)) (mWays : (Nat → Int32)) (mLanes : (Nat → Int32)) (mSizes : (Nat → Int32)) (mCells : (Nat → Int32)) (mTorn : Int32) (mBefore : (Nat → Int32)) (p1 : Int32) (p2 : Int32) (p3 : Int32) (r_ : Int32) (n_mSt : (Nat → Int32)) (n_mNow : (Nat → Int32)) (hf : f_X8_lend mSt mNow mPeople p1 p2 p3 = some (r_, n_mSt, n_mNow)) : mR l yX8_lend wsX8_lend rmX8_lend D k sz [.ref mh, .int p1, .int p2, .int p3] (wX8 k mh mrSt mrNow mrIsKept mrDraft mrTape mrRow mrRode mrWays mrLanes mrSizes mrCells mrBefore mSt mNow mIsKept mPeople mDraft mDPeople mHasDry mToldDebts mHighest mTape mTaped mPos mBegun mSort mValue mFault mWrongAt mPaid mRow mRingMuch mRideSum mOwedSum mAllWays mRode mWays mLanes mSizes mCells mTorn mBefore) (wX8 k mh mrSt mrNow mrIsKept mrDraft mrTape mrRow mrRode mrWays mrLanes mrSizes mrCells mrBefore n_mSt n_mNow mIsKept mPeople mDraft mDPeople mHasDry mToldDebts mHighest mTape mTaped mPos mBegun mSort mValue mFault mWrongAt mPaid mRow mRingMuch mRideSum mOwedSum mAllWays mRode mWays mLanes mSizes mCells mTorn mBefore) (some (.int r_)) := by
  refine mR_of (cc := cX8_lend) (maxL := 4) (ret := some .int) (by decide) rfl (Nat.le_of_ble_eq_true rfl) [(0, .ref mh), (1, .int p1), (2, .int p2), (3, .int p3)] rfl ?_
  intro p e s m below meth c A ls args Q cx hK hA hw hl hQ
  have fx := cx.1
  obtain ⟨⟨hx, hb, hml, hown, hts⟩, hr, hlocks⟩ := cx
  have q_1 := hts (.constantLong RX8 216 (99)) (List.mem_of_getElem? (i := 1) rfl)
  have h := hf
  unfold f_X8_lend at h
  clear hf
  refine lv_aload_n hx hb dX8_lend_0 rfl (lv_at hl 0 rfl) ?_
  refine lv_iload_n hx hb dX8_lend_1 rfl (lv_at hl 1 rfl) ?_
  refine lv_iload_n hx hb dX8_lend_2 rfl (lv_at hl 2 rfl) ?_
  obtain ⟨r_1, hf, h⟩ := b1_inv h
  refine k_callV (host := "") fx hK hA hw (c_X8_areTwo l D k mh mrSt mrNow mrIsKept mrDraft mrTape mrRow mrRode mrWays mrLanes mrSizes mrCells mrBefore _ mSt mNow mIsKept mPeople mDraft mDPeople mHasDry mToldDebts mHighest mTape mTaped mPos mBegun mSort mValue mFault mWrongAt mPaid mRow mRingMuch mRideSum mOwedSum mAllWays mRode mWays mLanes mSizes mCells mTorn mBefore p1 p2 r_1 hf) (cwV 2 hts gX8_lend_X8_areTwo rfl rfl rfl (by decide +kernel) ⟨by decide, by decide⟩) (As := [.int p1, .int p2]) (wr := []) (ws' := wX8 k mh mrSt mrNow mrIsKept mrDraft mrTape mrRow mrRode mrWays mrLanes mrSizes mrCells mrBefore mSt mNow mIsKept mPeople mDraft mDPeople mHasDry mToldDebts mHighest mTape mTaped mPos mBegun mSort mValue mFault mWrongAt mPaid mRow mRingMuch mRideSum mOwedSum mAllWays mRode mWays mLanes mSizes mCells mTorn mBefore) [0, 1, 2, 3, 4, 5, 6, 7, 8, 9, 10, 11, 12] [] [0, 1, 2, 3, 4, 5, 6, 7, 8, 9, 10, 11, 12] rfl rfl (by decide) (by decide) (by decide) rfl (by decide) 8 rfl rfl [] rfl hl.1 rfl (Nat.le_of_ble_eq_true rfl) dX8_lend_3 ⟨by decide, by decide⟩ (fun H locs (hw : Wd D A s.heap H locs (wX8 k mh mrSt mrNow mrIsKept mrDraft mrTape mrRow mrRode mrWays mrLanes mrSizes mrCells mrBefore mSt mNow mIsKept mPeople mDraft mDPeople mHasDry mToldDebts mHighest mTape mTaped mPos mBegun mSort mValue mFault mWrongAt mPaid mRow mRingMuch mRideSum mOwedSum mAllWays mRode mWays mLanes mSizes mCells mTorn mBefore)) => ?_)
  refine W.eq (g2 := F0 m 6 ls ([.int r_1])) rfl ?_
  refine kb_if_eq (tgt := 21) hx hb dX8_lend_6 (by decide) h (fun c_6 h => ?_) (fun c_6 h => ?_)
  · refine lv_iconst (v := (-1)) hx hb dX8_lend_21 (by decide) ?_
    cases h
    exact k_iret hx hb hr hlocks hw rfl dX8_lend_22 hQ
  · refine lv_iload_n hx hb dX8_lend_9 rfl (lv_at hl 3 rfl) ?_
    refine lv_i2l hx hb dX8_lend_10 rfl ?_
    refine lv_lconst (v := 1) hx hb dX8_lend_11 rfl ?_
    refine lv_ldc2 (v := 99) hx hb hown q_1 dX8_lend_12 ?_
    obtain ⟨r_2, hf, h⟩ := b1_inv h
    refine k_callS (b := 0) (C := "") (host := "") fx hK hA hw (c_X8_in l D k _ p3.toInt64 1 99 r_2 hf) (va_cwS 3 hts gX8_lend_X8_in rfl rfl rfl (by decide +kernel) ⟨by decide, by decide⟩) (As := [.long p3.toInt64, .long 1, .long 99]) (wr := [(mh, .inr (8, [.ref mrSt, .ref mrNow, .ref mrIsKept, .int mPeople, .ref mrDraft, .int mDPeople, .int mHasDry, .int mToldDebts, .int mHighest, .ref mrTape, .int mTaped, .int mPos, .int mBegun, .int mSort, .int mValue, .int mFault, .int mWrongAt, .int mPaid, .ref mrRow, .int mRingMuch, .long mRideSum, .long mOwedSum, .long mAllWays, .ref mrRode, .ref mrWays, .ref mrLanes, .ref mrSizes, .ref mrCells, .int mTorn, .ref mrBefore])), (mrSt, .inl (k 0, 183, .inl mSt)), (mrNow, .inl (k 0, 61, .inl mNow)), (mrIsKept, .inl (k 1, 2, .inl mIsKept)), (mrDraft, .inl (k 0, 61, .inl mDraft)), (mrTape, .inl (k 0, 160, .inl mTape)), (mrRow, .inl (k 0, 5, .inl mRow)), (mrRode, .inl (k 0, 31, .inl mRode)), (mrWays, .inl (k 0, 31, .inl mWays)), (mrLanes, .inl (k 0, 4, .inl mLanes)), (mrSizes, .inl (k 0, 4, .inl mSizes)), (mrCells, .inl (k 0, 160, .inl mCells)), (mrBefore, .inl (k 0, 61, .inl mBefore))]) (ws' := wX8 k mh mrSt mrNow mrIsKept mrDraft mrTape mrRow mrRode mrWays mrLanes mrSizes mrCells mrBefore mSt mNow mIsKept mPeople mDraft mDPeople mHasDry mToldDebts mHighest mTape mTaped mPos mBegun mSort mValue mFault mWrongAt mPaid mRow mRingMuch mRideSum mOwedSum mAllWays mRode mWays mLanes mSizes mCells mTorn mBefore) [] [0, 1, 2, 3, 4, 5, 6, 7, 8, 9, 10, 11, 12] [0, 1, 2, 3, 4, 5, 6, 7, 8, 9, 10, 11, 12] rfl rfl (by decide) (by decide) (by decide) rfl (by decide) [] rfl hl.1 rfl (Nat.le_of_ble_eq_true rfl) dX8_lend_15 ⟨by decide, by decide⟩ (fun H locs (hw : Wd D A s.heap H locs (wX8 k mh mrSt mrNow mrIsKept mrDraft mrTape mrRow mrRode mrWays mrLanes mrSizes mrCells mrBefore mSt mNow mIsKept mPeople mDraft mDPeople mHasDry mToldDebts mHighest mTape mTaped mPos mBegun mSort mValue mFault mWrongAt mPaid mRow mRingMuch mRideSum mOwedSum mAllWays mRode mWays mLanes mSizes mCells mTorn mBefore)) => ?_)
    refine W.eq (g2 := F0 m 18 ls ([.int r_2])) rfl ?_
    refine kb_if_ne (tgt := 23) hx hb dX8_lend_18 (by decide) h (fun c_18 h => ?_) (fun c_18 h => ?_)
    · refine lv_iconst (v := (-1)) hx hb dX8_lend_21 (by decide) ?_
      cases h
      exact k_iret hx hb hr hlocks hw rfl dX8_lend_22 hQ
    · refine lv_aload_n hx hb dX8_lend_23 rfl (lv_at hl 0 rfl) ?_
      obtain ⟨mNow_3, hf, h⟩ := b1_inv h
      refine k_callV (host := "") fx hK hA hw (c_X8_starts l D k mh mrSt mrNow mrIsKept mrDraft mrTape mrRow mrRode mrWays mrLanes mrSizes mrCells mrBefore _ mSt mNow mIsKept mPeople mDraft mDPeople mHasDry mToldDebts mHighest mTape mTaped mPos mBegun mSort mValue mFault mWrongAt mPaid mRow mRingMuch mRideSum mOwedSum mAllWays mRode mWays mLanes mSizes mCells mTorn mBefore mNow_3 hf) (cwV 0 hts gX8_lend_X8_starts rfl rfl rfl (by decide +kernel) ⟨by decide, by decide⟩) (As := []) (wr := []) (ws' := wX8 k mh mrSt mrNow mrIsKept mrDraft mrTape mrRow mrRode mrWays mrLanes mrSizes mrCells mrBefore mSt mNow_3 mIsKept mPeople mDraft mDPeople mHasDry mToldDebts mHighest mTape mTaped mPos mBegun mSort mValue mFault mWrongAt mPaid mRow mRingMuch mRideSum mOwedSum mAllWays mRode mWays mLanes mSizes mCells mTorn mBefore) [0, 1, 2, 3, 4, 5, 6, 7, 8, 9, 10, 11, 12] [] [0, 1, 2, 3, 4, 5, 6, 7, 8, 9, 10, 11, 12] rfl rfl (by decide) (by decide) (by decide) rfl (by decide) 8 rfl rfl [] rfl hl.1 rfl (Nat.le_of_ble_eq_true rfl) dX8_lend_24 ⟨by decide, by decide⟩ (fun H locs (hw : Wd D A s.heap H locs (wX8 k mh mrSt mrNow mrIsKept mrDraft mrTape mrRow mrRode mrWays mrLanes mrSizes mrCells mrBefore mSt mNow_3 mIsKept mPeople mDraft mDPeople mHasDry mToldDebts mHighest mTape mTaped mPos mBegun mSort mValue mFault mWrongAt mPaid mRow mRingMuch mRideSum mOwedSum mAllWays mRode mWays mLanes mSizes mCells mTorn mBefore)) => ?_)
      refine W.eq (g2 := F0 m 27 ls ([])) rfl ?_
      refine lv_aload_n hx hb dX8_lend_27 rfl (lv_at hl 0 rfl) ?_
      refine lv_iload_n hx hb dX8_lend_28 rfl (lv_at hl 1 rfl) ?_
      refine lv_iload_n hx hb dX8_lend_29 rfl (lv_at hl 2 rfl) ?_
      refine lv_iload_n hx hb dX8_lend_30 rfl (lv_at hl 3 rfl) ?_
      obtain ⟨r_4, mNow_5, hf, h⟩ := b2_inv h
      refine k_callV (host := "") fx hK hA hw (c_X8_lendsNow l D k mh mrSt mrNow mrIsKept mrDraft mrTape mrRow mrRode mrWays mrLanes mrSizes mrCells mrBefore _ mSt mNow_3 mIsKept mPeople mDraft mDPeople mHasDry mToldDebts mHighest mTape mTaped mPos mBegun mSort mValue mFault mWrongAt mPaid mRow mRingMuch mRideSum mOwedSum mAllWays mRode mWays mLanes mSizes mCells mTorn mBefore p1 p2 p3 r_4 mNow_5 hf) (cwV 3 hts gX8_lend_X8_lendsNow rfl rfl rfl (by decide +kernel) ⟨by decide, by decide⟩) (As := [.int p1, .int p2, .int p3]) (wr := []) (ws' := wX8 k mh mrSt mrNow mrIsKept mrDraft mrTape mrRow mrRode mrWays mrLanes mrSizes mrCells mrBefore mSt mNow_5 mIsKept mPeople mDraft mDPeople mHasDry mToldDebts mHighest mTape mTaped mPos mBegun mSort mValue mFault mWrongAt mPaid mRow mRingMuch mRideSum mOwedSum mAllWays mRode mWays mLanes mSizes mCells mTorn mBefore) [0, 1, 2, 3, 4, 5, 6, 7, 8, 9, 10, 11, 12] [] [0, 1, 2, 3, 4, 5, 6, 7, 8, 9, 10, 11, 12] rfl rfl (by decide) (by decide) (by decide) rfl (by decide) 8 rfl rfl [] rfl hl.1 rfl (Nat.le_of_ble_eq_true rfl) dX8_lend_31 ⟨by decide, by decide⟩ (fun H locs (hw : Wd D A s.heap H locs (wX8 k mh mrSt mrNow mrIsKept mrDraft mrTape mrRow mrRode mrWays mrLanes mrSizes mrCells mrBefore mSt mNow_5 mIsKept mPeople mDraft mDPeople mHasDry mToldDebts mHighest mTape mTaped mPos mBegun mSort mValue mFault mWrongAt mPaid mRow mRingMuch mRideSum mOwedSum mAllWays mRode mWays mLanes mSizes mCells mTorn mBefore)) => ?_)
      refine W.eq (g2 := F0 m 34 ls ([.int r_4])) rfl ?_
      refine kb_if_ne (tgt := 40) hx hb dX8_lend_34 (by decide) h (fun c_34 h => ?_) (fun c_34 h => ?_)
      · refine lv_bipush (v := (-2)) hx hb dX8_lend_37 (by decide) ?_
        cases h
        exact k_iret hx hb hr hlocks hw rfl dX8_lend_39 hQ
      · refine lv_aload_n hx hb dX8_lend_40 rfl (lv_at hl 0 rfl) ?_
        obtain ⟨mSt_6, hf, h⟩ := b1_inv h
        refine k_callV (host := "") fx hK hA hw (c_X8_settles l D k mh mrSt mrNow mrIsKept mrDraft mrTape mrRow mrRode mrWays mrLanes mrSizes mrCells mrBefore _ mSt mNow_5 mIsKept mPeople mDraft mDPeople mHasDry mToldDebts mHighest mTape mTaped mPos mBegun mSort mValue mFault mWrongAt mPaid mRow mRingMuch mRideSum mOwedSum mAllWays mRode mWays mLanes mSizes mCells mTorn mBefore mSt_6 hf) (cwV 0 hts gX8_lend_X8_settles rfl rfl rfl (by decide +kernel) ⟨by decide, by decide⟩) (As := []) (wr := []) (ws' := wX8 k mh mrSt mrNow mrIsKept mrDraft mrTape mrRow mrRode mrWays mrLanes mrSizes mrCells mrBefore mSt_6 mNow_5 mIsKept mPeople mDraft mDPeople mHasDry mToldDebts mHighest mTape mTaped mPos mBegun mSort mValue mFault mWrongAt mPaid mRow mRingMuch mRideSum mOwedSum mAllWays mRode mWays mLanes mSizes mCells mTorn mBefore) [0, 1, 2, 3, 4, 5, 6, 7, 8, 9, 10, 11, 12] [] [0, 1, 2, 3, 4, 5, 6, 7, 8, 9, 10, 11, 12] rfl rfl (by decide) (by decide) (by decide) rfl (by decide) 8 rfl rfl [] rfl hl.1 rfl (Nat.le_of_ble_eq_true rfl) dX8_lend_41 ⟨by decide, by decide⟩ (fun H locs (hw : Wd D A s.heap H locs (wX8 k mh mrSt mrNow mrIsKept mrDraft mrTape mrRow mrRode mrWays mrLanes mrSizes mrCells mrBefore mSt_6 mNow_5 mIsKept mPeople mDraft mDPeople mHasDry mToldDebts mHighest mTape mTaped mPos mBegun mSort mValue mFault mWrongAt mPaid mRow mRingMuch mRideSum mOwedSum mAllWays mRode mWays mLanes mSizes mCells mTorn mBefore)) => ?_)
        refine W.eq (g2 := F0 m 44 ls ([])) rfl ?_
        refine lv_aload_n hx hb dX8_lend_44 rfl (lv_at hl 0 rfl) ?_
        refine lv_iload_n hx hb dX8_lend_45 rfl (lv_at hl 2 rfl) ?_
        refine lv_iload_n hx hb dX8_lend_46 rfl (lv_at hl 1 rfl) ?_
        obtain ⟨r_7, hf, h⟩ := b1_inv h
        refine k_callV (host := "") fx hK hA hw (c_X8_debt l D k mh mrSt mrNow mrIsKept mrDraft mrTape mrRow mrRode mrWays mrLanes mrSizes mrCells mrBefore _ mSt_6 mNow_5 mIsKept mPeople mDraft mDPeople mHasDry mToldDebts mHighest mTape mTaped mPos mBegun mSort mValue mFault mWrongAt mPaid mRow mRingMuch mRideSum mOwedSum mAllWays mRode mWays mLanes mSizes mCells mTorn mBefore p2 p1 r_7 hf) (cwV 2 hts gX8_lend_X8_debt rfl rfl rfl (by decide +kernel) ⟨by decide, by decide⟩) (As := [.int p2, .int p1]) (wr := []) (ws' := wX8 k mh mrSt mrNow mrIsKept mrDraft mrTape mrRow mrRode mrWays mrLanes mrSizes mrCells mrBefore mSt_6 mNow_5 mIsKept mPeople mDraft mDPeople mHasDry mToldDebts mHighest mTape mTaped mPos mBegun mSort mValue mFault mWrongAt mPaid mRow mRingMuch mRideSum mOwedSum mAllWays mRode mWays mLanes mSizes mCells mTorn mBefore) [0, 1, 2, 3, 4, 5, 6, 7, 8, 9, 10, 11, 12] [] [0, 1, 2, 3, 4, 5, 6, 7, 8, 9, 10, 11, 12] rfl rfl (by decide) (by decide) (by decide) rfl (by decide) 8 rfl rfl [] rfl hl.1 rfl (Nat.le_of_ble_eq_true rfl) dX8_lend_47 ⟨by decide, by decide⟩ (fun H locs (hw : Wd D A s.heap H locs (wX8 k mh mrSt mrNow mrIsKept mrDraft mrTape mrRow mrRode mrWays mrLanes mrSizes mrCells mrBefore mSt_6 mNow_5 mIsKept mPeople mDraft mDPeople mHasDry mToldDebts mHighest mTape mTaped mPos mBegun mSort mValue mFault mWrongAt mPaid mRow mRingMuch mRideSum mOwedSum mAllWays mRode mWays mLanes mSizes mCells mTorn mBefore)) => ?_)
        refine W.eq (g2 := F0 m 50 ls ([.int r_7])) rfl ?_
        cases h
        exact k_iret hx hb hr hlocks hw rfl dX8_lend_50 hQ
abbrev rmX8_lineNow : Room := { frames := 2, cells := 0, slots := 0, locals := 45 }
set_option maxHeartbeats 4000000 in
set_option maxRecDepth 100000 in
theorem c_X8_lineNow (l : Launch) (D : va_G) (k : Nat → ClassId) (mh mrSt mrNow mrIsKept mrDraft mrTape mrRow mrRode mrWays mrLanes mrSizes mrCells mrBefore : Nat) (sz : Nat) (mSt : (Nat → Int32)) (mNow : (Nat → Int32)) (mIsKept : (Nat → Int32)) (mPeople : Int32) (mDraft : (Nat → Int32)) (mDPeople : Int32) (mHasDry : Int32) (mToldDebts : Int32) (mHighest : Int32) (mTape : (Nat → Int32)) (mTaped : Int32) (mPos : Int32) (mBegun : Int32) (mSort : Int32) (mValue : Int32) (mFault : Int32) (mWrongAt : Int32) (mPaid : Int32) (mRow : (Nat → Int32)) (mRingMuch : Int32) (mRideSum : Int64) (mOwedSum : Int64) (mAllWays : Int64) (mRode : (Nat → Int32)) (mWays : (Nat → Int32)) (mLanes : (Nat → Int32)) (mSizes : (Nat → Int32)) (mCells : (Nat → Int32)) (mTorn : Int32) (mBefore : (Nat → Int32)) (r_ : Int32) (hf : f_X8_lineNow mTape mTaped mPos mBegun = some r_) : mR l yX8_lineNow wsX8_lineNow rmX8_lineNow D k sz [.ref mh] (wX8 k mh mrSt mrNow mrIsKept mrDraft mrTape mrRow mrRode mrWays mrLanes mrSizes mrCells mrBefore mSt mNow mIsKept mPeople mDraft mDPeople mHasDry mToldDebts mHighest mTape mTaped mPos mBegun mSort mValue mFault mWrongAt mPaid mRow mRingMuch mRideSum mOwedSum mAllWays mRode mWays mLanes mSizes mCells mTorn mBefore) (wX8 k mh mrSt mrNow mrIsKept mrDraft mrTape mrRow mrRode mrWays mrLanes mrSizes mrCells mrBefore mSt mNow mIsKept mPeople mDraft mDPeople mHasDry mToldDebts mHighest mTape mTaped mPos mBegun mSort mValue mFault mWrongAt mPaid mRow mRingMuch mRideSum mOwedSum mAllWays mRode mWays mLanes mSizes mCells mTorn mBefore) (some (.int r_)) := by
  refine mR_of (cc := cX8_lineNow) (maxL := 1) (ret := some .int) (by decide) rfl (Nat.le_of_ble_eq_true rfl) [(0, .ref mh)] rfl ?_
  intro p e s m below meth c A ls args Q cx hK hA hw hl hQ
  have fx := cx.1
  obtain ⟨⟨hx, hb, hml, hown, hts⟩, hr, hlocks⟩ := cx
  have h := hf
  unfold f_X8_lineNow at h
  clear hf
  refine lv_aload_n hx hb dX8_lineNow_0 rfl (lv_at hl 0 rfl) ?_
  refine lv_iconst (v := 5) hx hb dX8_lineNow_1 (by decide) ?_
  refine lv_bipush (v := 112) hx hb dX8_lineNow_2 (by decide) ?_
  refine lv_bipush (v := 108) hx hb dX8_lineNow_4 (by decide) ?_
  refine lv_bipush (v := 97) hx hb dX8_lineNow_6 (by decide) ?_
  obtain ⟨r_1, hf, h⟩ := b1_inv h
  refine k_callV (host := "") fx hK hA hw (c_X8_is l D k mh mrSt mrNow mrIsKept mrDraft mrTape mrRow mrRode mrWays mrLanes mrSizes mrCells mrBefore _ mSt mNow mIsKept mPeople mDraft mDPeople mHasDry mToldDebts mHighest mTape mTaped mPos mBegun mSort mValue mFault mWrongAt mPaid mRow mRingMuch mRideSum mOwedSum mAllWays mRode mWays mLanes mSizes mCells mTorn mBefore 5 112 108 97 r_1 hf) (cwV 4 hts gX8_lineNow_X8_is rfl rfl rfl (by decide +kernel) ⟨by decide, by decide⟩) (As := [.int 5, .int 112, .int 108, .int 97]) (wr := []) (ws' := wX8 k mh mrSt mrNow mrIsKept mrDraft mrTape mrRow mrRode mrWays mrLanes mrSizes mrCells mrBefore mSt mNow mIsKept mPeople mDraft mDPeople mHasDry mToldDebts mHighest mTape mTaped mPos mBegun mSort mValue mFault mWrongAt mPaid mRow mRingMuch mRideSum mOwedSum mAllWays mRode mWays mLanes mSizes mCells mTorn mBefore) [0, 1, 2, 3, 4, 5, 6, 7, 8, 9, 10, 11, 12] [] [0, 1, 2, 3, 4, 5, 6, 7, 8, 9, 10, 11, 12] rfl rfl (by decide) (by decide) (by decide) rfl (by decide) 8 rfl rfl [] rfl hl.1 rfl (Nat.le_of_ble_eq_true rfl) dX8_lineNow_8 ⟨by decide, by decide⟩ (fun H locs (hw : Wd D A s.heap H locs (wX8 k mh mrSt mrNow mrIsKept mrDraft mrTape mrRow mrRode mrWays mrLanes mrSizes mrCells mrBefore mSt mNow mIsKept mPeople mDraft mDPeople mHasDry mToldDebts mHighest mTape mTaped mPos mBegun mSort mValue mFault mWrongAt mPaid mRow mRingMuch mRideSum mOwedSum mAllWays mRode mWays mLanes mSizes mCells mTorn mBefore)) => ?_)
  refine W.eq (g2 := F0 m 11 ls ([.int r_1])) rfl ?_
  have T_28 : f_X8_lineNow_B28 mTape mTaped mPos mBegun = some r_ → ∀ (H : Heap) (locs : List Loc) (ls : Array Slot), Wd D A s.heap H locs (wX8 k mh mrSt mrNow mrIsKept mrDraft mrTape mrRow mrRode mrWays mrLanes mrSizes mrCells mrBefore mSt mNow mIsKept mPeople mDraft mDPeople mHasDry mToldDebts mHighest mTape mTaped mPos mBegun mSort mValue mFault mWrongAt mPaid mRow mRingMuch mRideSum mOwedSum mAllWays mRode mWays mLanes mSizes mCells mTorn mBefore) → lv_has ls 1 [(0, .ref mh)] → W p l e rmX8_lineNow s m args below meth c H locs 0 0 Q (F0 m 28 ls []) := by
    clear h
    intro h H locs ls hw hl
    unfold f_X8_lineNow_B28 at h
    refine lv_aload_n hx hb dX8_lineNow_28 rfl (lv_at hl 0 rfl) ?_
    refine lv_iconst (v := 5) hx hb dX8_lineNow_29 (by decide) ?_
    refine lv_bipush (v := 119) hx hb dX8_lineNow_30 (by decide) ?_
    refine lv_bipush (v := 105) hx hb dX8_lineNow_32 (by decide) ?_
    refine lv_bipush (v := 100) hx hb dX8_lineNow_34 (by decide) ?_
    obtain ⟨r_2, hf, h⟩ := b1_inv h
    refine k_callV (host := "") fx hK hA hw (c_X8_is l D k mh mrSt mrNow mrIsKept mrDraft mrTape mrRow mrRode mrWays mrLanes mrSizes mrCells mrBefore _ mSt mNow mIsKept mPeople mDraft mDPeople mHasDry mToldDebts mHighest mTape mTaped mPos mBegun mSort mValue mFault mWrongAt mPaid mRow mRingMuch mRideSum mOwedSum mAllWays mRode mWays mLanes mSizes mCells mTorn mBefore 5 119 105 100 r_2 hf) (cwV 4 hts gX8_lineNow_X8_is rfl rfl rfl (by decide +kernel) ⟨by decide, by decide⟩) (As := [.int 5, .int 119, .int 105, .int 100]) (wr := []) (ws' := wX8 k mh mrSt mrNow mrIsKept mrDraft mrTape mrRow mrRode mrWays mrLanes mrSizes mrCells mrBefore mSt mNow mIsKept mPeople mDraft mDPeople mHasDry mToldDebts mHighest mTape mTaped mPos mBegun mSort mValue mFault mWrongAt mPaid mRow mRingMuch mRideSum mOwedSum mAllWays mRode mWays mLanes mSizes mCells mTorn mBefore) [0, 1, 2, 3, 4, 5, 6, 7, 8, 9, 10, 11, 12] [] [0, 1, 2, 3, 4, 5, 6, 7, 8, 9, 10, 11, 12] rfl rfl (by decide) (by decide) (by decide) rfl (by decide) 8 rfl rfl [] rfl hl.1 rfl (Nat.le_of_ble_eq_true rfl) dX8_lineNow_36 ⟨by decide, by decide⟩ (fun H locs (hw : Wd D A s.heap H locs (wX8 k mh mrSt mrNow mrIsKept mrDraft mrTape mrRow mrRode mrWays mrLanes mrSizes mrCells mrBefore mSt mNow mIsKept mPeople mDraft mDPeople mHasDry mToldDebts mHighest mTape mTaped mPos mBegun mSort mValue mFault mWrongAt mPaid mRow mRingMuch mRideSum mOwedSum mAllWays mRode mWays mLanes mSizes mCells mTorn mBefore)) => ?_)
    refine W.eq (g2 := F0 m 39 ls ([.int r_2])) rfl ?_
    have T_56 : f_X8_lineNow_B56 mTape mTaped mPos mBegun = some r_ → ∀ (H : Heap) (locs : List Loc) (ls : Array Slot), Wd D A s.heap H locs (wX8 k mh mrSt mrNow mrIsKept mrDraft mrTape mrRow mrRode mrWays mrLanes mrSizes mrCells mrBefore mSt mNow mIsKept mPeople mDraft mDPeople mHasDry mToldDebts mHighest mTape mTaped mPos mBegun mSort mValue mFault mWrongAt mPaid mRow mRingMuch mRideSum mOwedSum mAllWays mRode mWays mLanes mSizes mCells mTorn mBefore) → lv_has ls 1 [(0, .ref mh)] → W p l e rmX8_lineNow s m args below meth c H locs 0 0 Q (F0 m 56 ls []) := by
      clear h
      intro h H locs ls hw hl
      unfold f_X8_lineNow_B56 at h
      refine lv_aload_n hx hb dX8_lineNow_56 rfl (lv_at hl 0 rfl) ?_
      refine lv_bipush (v := 6) hx hb dX8_lineNow_57 (by decide) ?_
      refine lv_bipush (v := 115) hx hb dX8_lineNow_59 (by decide) ?_
      refine lv_bipush (v := 113) hx hb dX8_lineNow_61 (by decide) ?_
      refine lv_bipush (v := 117) hx hb dX8_lineNow_63 (by decide) ?_
      obtain ⟨r_3, hf, h⟩ := b1_inv h
      refine k_callV (host := "") fx hK hA hw (c_X8_is l D k mh mrSt mrNow mrIsKept mrDraft mrTape mrRow mrRode mrWays mrLanes mrSizes mrCells mrBefore _ mSt mNow mIsKept mPeople mDraft mDPeople mHasDry mToldDebts mHighest mTape mTaped mPos mBegun mSort mValue mFault mWrongAt mPaid mRow mRingMuch mRideSum mOwedSum mAllWays mRode mWays mLanes mSizes mCells mTorn mBefore 6 115 113 117 r_3 hf) (cwV 4 hts gX8_lineNow_X8_is rfl rfl rfl (by decide +kernel) ⟨by decide, by decide⟩) (As := [.int 6, .int 115, .int 113, .int 117]) (wr := []) (ws' := wX8 k mh mrSt mrNow mrIsKept mrDraft mrTape mrRow mrRode mrWays mrLanes mrSizes mrCells mrBefore mSt mNow mIsKept mPeople mDraft mDPeople mHasDry mToldDebts mHighest mTape mTaped mPos mBegun mSort mValue mFault mWrongAt mPaid mRow mRingMuch mRideSum mOwedSum mAllWays mRode mWays mLanes mSizes mCells mTorn mBefore) [0, 1, 2, 3, 4, 5, 6, 7, 8, 9, 10, 11, 12] [] [0, 1, 2, 3, 4, 5, 6, 7, 8, 9, 10, 11, 12] rfl rfl (by decide) (by decide) (by decide) rfl (by decide) 8 rfl rfl [] rfl hl.1 rfl (Nat.le_of_ble_eq_true rfl) dX8_lineNow_65 ⟨by decide, by decide⟩ (fun H locs (hw : Wd D A s.heap H locs (wX8 k mh mrSt mrNow mrIsKept mrDraft mrTape mrRow mrRode mrWays mrLanes mrSizes mrCells mrBefore mSt mNow mIsKept mPeople mDraft mDPeople mHasDry mToldDebts mHighest mTape mTaped mPos mBegun mSort mValue mFault mWrongAt mPaid mRow mRingMuch mRideSum mOwedSum mAllWays mRode mWays mLanes mSizes mCells mTorn mBefore)) => ?_)
      refine W.eq (g2 := F0 m 68 ls ([.int r_3])) rfl ?_
      have T_86 : f_X8_lineNow_B86 mTape mTaped mPos mBegun = some r_ → ∀ (H : Heap) (locs : List Loc) (ls : Array Slot), Wd D A s.heap H locs (wX8 k mh mrSt mrNow mrIsKept mrDraft mrTape mrRow mrRode mrWays mrLanes mrSizes mrCells mrBefore mSt mNow mIsKept mPeople mDraft mDPeople mHasDry mToldDebts mHighest mTape mTaped mPos mBegun mSort mValue mFault mWrongAt mPaid mRow mRingMuch mRideSum mOwedSum mAllWays mRode mWays mLanes mSizes mCells mTorn mBefore) → lv_has ls 1 [(0, .ref mh)] → W p l e rmX8_lineNow s m args below meth c H locs 0 0 Q (F0 m 86 ls []) := by
        clear h
        intro h H locs ls hw hl
        unfold f_X8_lineNow_B86 at h
        refine lv_aload_n hx hb dX8_lineNow_86 rfl (lv_at hl 0 rfl) ?_
        refine lv_iconst (v := 5) hx hb dX8_lineNow_87 (by decide) ?_
        refine lv_bipush (v := 109) hx hb dX8_lineNow_88 (by decide) ?_
        refine lv_bipush (v := 105) hx hb dX8_lineNow_90 (by decide) ?_
        refine lv_bipush (v := 115) hx hb dX8_lineNow_92 (by decide) ?_
        obtain ⟨r_4, hf, h⟩ := b1_inv h
        refine k_callV (host := "") fx hK hA hw (c_X8_is l D k mh mrSt mrNow mrIsKept mrDraft mrTape mrRow mrRode mrWays mrLanes mrSizes mrCells mrBefore _ mSt mNow mIsKept mPeople mDraft mDPeople mHasDry mToldDebts mHighest mTape mTaped mPos mBegun mSort mValue mFault mWrongAt mPaid mRow mRingMuch mRideSum mOwedSum mAllWays mRode mWays mLanes mSizes mCells mTorn mBefore 5 109 105 115 r_4 hf) (cwV 4 hts gX8_lineNow_X8_is rfl rfl rfl (by decide +kernel) ⟨by decide, by decide⟩) (As := [.int 5, .int 109, .int 105, .int 115]) (wr := []) (ws' := wX8 k mh mrSt mrNow mrIsKept mrDraft mrTape mrRow mrRode mrWays mrLanes mrSizes mrCells mrBefore mSt mNow mIsKept mPeople mDraft mDPeople mHasDry mToldDebts mHighest mTape mTaped mPos mBegun mSort mValue mFault mWrongAt mPaid mRow mRingMuch mRideSum mOwedSum mAllWays mRode mWays mLanes mSizes mCells mTorn mBefore) [0, 1, 2, 3, 4, 5, 6, 7, 8, 9, 10, 11, 12] [] [0, 1, 2, 3, 4, 5, 6, 7, 8, 9, 10, 11, 12] rfl rfl (by decide) (by decide) (by decide) rfl (by decide) 8 rfl rfl [] rfl hl.1 rfl (Nat.le_of_ble_eq_true rfl) dX8_lineNow_94 ⟨by decide, by decide⟩ (fun H locs (hw : Wd D A s.heap H locs (wX8 k mh mrSt mrNow mrIsKept mrDraft mrTape mrRow mrRode mrWays mrLanes mrSizes mrCells mrBefore mSt mNow mIsKept mPeople mDraft mDPeople mHasDry mToldDebts mHighest mTape mTaped mPos mBegun mSort mValue mFault mWrongAt mPaid mRow mRingMuch mRideSum mOwedSum mAllWays mRode mWays mLanes mSizes mCells mTorn mBefore)) => ?_)
        refine W.eq (g2 := F0 m 97 ls ([.int r_4])) rfl ?_
        have T_114 : f_X8_lineNow_B114 mTape mTaped mPos mBegun = some r_ → ∀ (H : Heap) (locs : List Loc) (ls : Array Slot), Wd D A s.heap H locs (wX8 k mh mrSt mrNow mrIsKept mrDraft mrTape mrRow mrRode mrWays mrLanes mrSizes mrCells mrBefore mSt mNow mIsKept mPeople mDraft mDPeople mHasDry mToldDebts mHighest mTape mTaped mPos mBegun mSort mValue mFault mWrongAt mPaid mRow mRingMuch mRideSum mOwedSum mAllWays mRode mWays mLanes mSizes mCells mTorn mBefore) → lv_has ls 1 [(0, .ref mh)] → W p l e rmX8_lineNow s m args below meth c H locs 0 0 Q (F0 m 114 ls []) := by
          clear h
          intro h H locs ls hw hl
          unfold f_X8_lineNow_B114 at h
          refine lv_aload_n hx hb dX8_lineNow_114 rfl (lv_at hl 0 rfl) ?_
          refine lv_iconst (v := 4) hx hb dX8_lineNow_115 (by decide) ?_
          refine lv_bipush (v := 111) hx hb dX8_lineNow_116 (by decide) ?_
          refine lv_bipush (v := 119) hx hb dX8_lineNow_118 (by decide) ?_
          refine lv_bipush (v := 101) hx hb dX8_lineNow_120 (by decide) ?_
          obtain ⟨r_5, hf, h⟩ := b1_inv h
          refine k_callV (host := "") fx hK hA hw (c_X8_is l D k mh mrSt mrNow mrIsKept mrDraft mrTape mrRow mrRode mrWays mrLanes mrSizes mrCells mrBefore _ mSt mNow mIsKept mPeople mDraft mDPeople mHasDry mToldDebts mHighest mTape mTaped mPos mBegun mSort mValue mFault mWrongAt mPaid mRow mRingMuch mRideSum mOwedSum mAllWays mRode mWays mLanes mSizes mCells mTorn mBefore 4 111 119 101 r_5 hf) (cwV 4 hts gX8_lineNow_X8_is rfl rfl rfl (by decide +kernel) ⟨by decide, by decide⟩) (As := [.int 4, .int 111, .int 119, .int 101]) (wr := []) (ws' := wX8 k mh mrSt mrNow mrIsKept mrDraft mrTape mrRow mrRode mrWays mrLanes mrSizes mrCells mrBefore mSt mNow mIsKept mPeople mDraft mDPeople mHasDry mToldDebts mHighest mTape mTaped mPos mBegun mSort mValue mFault mWrongAt mPaid mRow mRingMuch mRideSum mOwedSum mAllWays mRode mWays mLanes mSizes mCells mTorn mBefore) [0, 1, 2, 3, 4, 5, 6, 7, 8, 9, 10, 11, 12] [] [0, 1, 2, 3, 4, 5, 6, 7, 8, 9, 10, 11, 12] rfl rfl (by decide) (by decide) (by decide) rfl (by decide) 8 rfl rfl [] rfl hl.1 rfl (Nat.le_of_ble_eq_true rfl) dX8_lineNow_122 ⟨by decide, by decide⟩ (fun H locs (hw : Wd D A s.heap H locs (wX8 k mh mrSt mrNow mrIsKept mrDraft mrTape mrRow mrRode mrWays mrLanes mrSizes mrCells mrBefore mSt mNow mIsKept mPeople mDraft mDPeople mHasDry mToldDebts mHighest mTape mTaped mPos mBegun mSort mValue mFault mWrongAt mPaid mRow mRingMuch mRideSum mOwedSum mAllWays mRode mWays mLanes mSizes mCells mTorn mBefore)) => ?_)
          refine W.eq (g2 := F0 m 125 ls ([.int r_5])) rfl ?_
          have T_143 : f_X8_lineNow_B143 mTape mTaped mPos mBegun = some r_ → ∀ (H : Heap) (locs : List Loc) (ls : Array Slot), Wd D A s.heap H locs (wX8 k mh mrSt mrNow mrIsKept mrDraft mrTape mrRow mrRode mrWays mrLanes mrSizes mrCells mrBefore mSt mNow mIsKept mPeople mDraft mDPeople mHasDry mToldDebts mHighest mTape mTaped mPos mBegun mSort mValue mFault mWrongAt mPaid mRow mRingMuch mRideSum mOwedSum mAllWays mRode mWays mLanes mSizes mCells mTorn mBefore) → lv_has ls 1 [(0, .ref mh)] → W p l e rmX8_lineNow s m args below meth c H locs 0 0 Q (F0 m 143 ls []) := by
            clear h
            intro h H locs ls hw hl
            unfold f_X8_lineNow_B143 at h
            refine lv_aload_n hx hb dX8_lineNow_143 rfl (lv_at hl 0 rfl) ?_
            refine lv_iconst (v := 3) hx hb dX8_lineNow_144 (by decide) ?_
            refine lv_bipush (v := 100) hx hb dX8_lineNow_145 (by decide) ?_
            refine lv_bipush (v := 114) hx hb dX8_lineNow_147 (by decide) ?_
            refine lv_bipush (v := 121) hx hb dX8_lineNow_149 (by decide) ?_
            obtain ⟨r_6, hf, h⟩ := b1_inv h
            refine k_callV (host := "") fx hK hA hw (c_X8_is l D k mh mrSt mrNow mrIsKept mrDraft mrTape mrRow mrRode mrWays mrLanes mrSizes mrCells mrBefore _ mSt mNow mIsKept mPeople mDraft mDPeople mHasDry mToldDebts mHighest mTape mTaped mPos mBegun mSort mValue mFault mWrongAt mPaid mRow mRingMuch mRideSum mOwedSum mAllWays mRode mWays mLanes mSizes mCells mTorn mBefore 3 100 114 121 r_6 hf) (cwV 4 hts gX8_lineNow_X8_is rfl rfl rfl (by decide +kernel) ⟨by decide, by decide⟩) (As := [.int 3, .int 100, .int 114, .int 121]) (wr := []) (ws' := wX8 k mh mrSt mrNow mrIsKept mrDraft mrTape mrRow mrRode mrWays mrLanes mrSizes mrCells mrBefore mSt mNow mIsKept mPeople mDraft mDPeople mHasDry mToldDebts mHighest mTape mTaped mPos mBegun mSort mValue mFault mWrongAt mPaid mRow mRingMuch mRideSum mOwedSum mAllWays mRode mWays mLanes mSizes mCells mTorn mBefore) [0, 1, 2, 3, 4, 5, 6, 7, 8, 9, 10, 11, 12] [] [0, 1, 2, 3, 4, 5, 6, 7, 8, 9, 10, 11, 12] rfl rfl (by decide) (by decide) (by decide) rfl (by decide) 8 rfl rfl [] rfl hl.1 rfl (Nat.le_of_ble_eq_true rfl) dX8_lineNow_151 ⟨by decide, by decide⟩ (fun H locs (hw : Wd D A s.heap H locs (wX8 k mh mrSt mrNow mrIsKept mrDraft mrTape mrRow mrRode mrWays mrLanes mrSizes mrCells mrBefore mSt mNow mIsKept mPeople mDraft mDPeople mHasDry mToldDebts mHighest mTape mTaped mPos mBegun mSort mValue mFault mWrongAt mPaid mRow mRingMuch mRideSum mOwedSum mAllWays mRode mWays mLanes mSizes mCells mTorn mBefore)) => ?_)
            refine W.eq (g2 := F0 m 154 ls ([.int r_6])) rfl ?_
            refine kb_if_eq (tgt := 161) hx hb dX8_lineNow_154 (by decide) h (fun c_154 h => ?_) (fun c_154 h => ?_)
            · refine lv_bipush (v := (-4)) hx hb dX8_lineNow_161 (by decide) ?_
              cases h
              exact k_iret hx hb hr hlocks hw rfl dX8_lineNow_163 hQ
            · refine lv_iconst (v := 5) hx hb dX8_lineNow_157 (by decide) ?_
              refine lv_goto (tgt := 163) hx hb dX8_lineNow_158 (by decide) ?_
              cases h
              exact k_iret hx hb hr hlocks hw rfl dX8_lineNow_163 hQ
          refine kb_if_eq (tgt := 143) hx hb dX8_lineNow_125 (by decide) h (fun c_125 h => ?_) (fun c_125 h => ?_)
          · exact T_143 h _ _ _ hw (lv_sub hl [0] rfl)
          · refine lv_aload_n hx hb dX8_lineNow_128 rfl (lv_at hl 0 rfl) ?_
            refine lv_bipush (v := 115) hx hb dX8_lineNow_129 (by decide) ?_
            refine lv_iconst (v := 0) hx hb dX8_lineNow_131 (by decide) ?_
            refine lv_iconst (v := 0) hx hb dX8_lineNow_132 (by decide) ?_
            obtain ⟨r_7, hf, h⟩ := b1_inv h
            refine k_callV (host := "") fx hK hA hw (c_X8_ends l D k mh mrSt mrNow mrIsKept mrDraft mrTape mrRow mrRode mrWays mrLanes mrSizes mrCells mrBefore _ mSt mNow mIsKept mPeople mDraft mDPeople mHasDry mToldDebts mHighest mTape mTaped mPos mBegun mSort mValue mFault mWrongAt mPaid mRow mRingMuch mRideSum mOwedSum mAllWays mRode mWays mLanes mSizes mCells mTorn mBefore 115 0 0 r_7 hf) (cwV 3 hts gX8_lineNow_X8_ends rfl rfl rfl (by decide +kernel) ⟨by decide, by decide⟩) (As := [.int 115, .int 0, .int 0]) (wr := []) (ws' := wX8 k mh mrSt mrNow mrIsKept mrDraft mrTape mrRow mrRode mrWays mrLanes mrSizes mrCells mrBefore mSt mNow mIsKept mPeople mDraft mDPeople mHasDry mToldDebts mHighest mTape mTaped mPos mBegun mSort mValue mFault mWrongAt mPaid mRow mRingMuch mRideSum mOwedSum mAllWays mRode mWays mLanes mSizes mCells mTorn mBefore) [0, 1, 2, 3, 4, 5, 6, 7, 8, 9, 10, 11, 12] [] [0, 1, 2, 3, 4, 5, 6, 7, 8, 9, 10, 11, 12] rfl rfl (by decide) (by decide) (by decide) rfl (by decide) 8 rfl rfl [] rfl hl.1 rfl (Nat.le_of_ble_eq_true rfl) dX8_lineNow_133 ⟨by decide, by decide⟩ (fun H locs (hw : Wd D A s.heap H locs (wX8 k mh mrSt mrNow mrIsKept mrDraft mrTape mrRow mrRode mrWays mrLanes mrSizes mrCells mrBefore mSt mNow mIsKept mPeople mDraft mDPeople mHasDry mToldDebts mHighest mTape mTaped mPos mBegun mSort mValue mFault mWrongAt mPaid mRow mRingMuch mRideSum mOwedSum mAllWays mRode mWays mLanes mSizes mCells mTorn mBefore)) => ?_)
            refine W.eq (g2 := F0 m 136 ls ([.int r_7])) rfl ?_
            refine kb_if_eq (tgt := 143) hx hb dX8_lineNow_136 (by decide) h (fun c_136 h => ?_) (fun c_136 h => ?_)
            · exact T_143 h _ _ _ hw (lv_sub hl [0] rfl)
            · refine lv_iconst (v := 4) hx hb dX8_lineNow_139 (by decide) ?_
              refine lv_goto (tgt := 163) hx hb dX8_lineNow_140 (by decide) ?_
              cases h
              exact k_iret hx hb hr hlocks hw rfl dX8_lineNow_163 hQ
        refine kb_if_eq (tgt := 114) hx hb dX8_lineNow_97 (by decide) h (fun c_97 h => ?_) (fun c_97 h => ?_)
        · exact T_114 h _ _ _ hw (lv_sub hl [0] rfl)
        · refine lv_aload_n hx hb dX8_lineNow_100 rfl (lv_at hl 0 rfl) ?_
          refine lv_bipush (v := 101) hx hb dX8_lineNow_101 (by decide) ?_
          refine lv_bipush (v := 114) hx hb dX8_lineNow_103 (by decide) ?_
          refine lv_iconst (v := 0) hx hb dX8_lineNow_105 (by decide) ?_
          obtain ⟨r_8, hf, h⟩ := b1_inv h
          refine k_callV (host := "") fx hK hA hw (c_X8_ends l D k mh mrSt mrNow mrIsKept mrDraft mrTape mrRow mrRode mrWays mrLanes mrSizes mrCells mrBefore _ mSt mNow mIsKept mPeople mDraft mDPeople mHasDry mToldDebts mHighest mTape mTaped mPos mBegun mSort mValue mFault mWrongAt mPaid mRow mRingMuch mRideSum mOwedSum mAllWays mRode mWays mLanes mSizes mCells mTorn mBefore 101 114 0 r_8 hf) (cwV 3 hts gX8_lineNow_X8_ends rfl rfl rfl (by decide +kernel) ⟨by decide, by decide⟩) (As := [.int 101, .int 114, .int 0]) (wr := []) (ws' := wX8 k mh mrSt mrNow mrIsKept mrDraft mrTape mrRow mrRode mrWays mrLanes mrSizes mrCells mrBefore mSt mNow mIsKept mPeople mDraft mDPeople mHasDry mToldDebts mHighest mTape mTaped mPos mBegun mSort mValue mFault mWrongAt mPaid mRow mRingMuch mRideSum mOwedSum mAllWays mRode mWays mLanes mSizes mCells mTorn mBefore) [0, 1, 2, 3, 4, 5, 6, 7, 8, 9, 10, 11, 12] [] [0, 1, 2, 3, 4, 5, 6, 7, 8, 9, 10, 11, 12] rfl rfl (by decide) (by decide) (by decide) rfl (by decide) 8 rfl rfl [] rfl hl.1 rfl (Nat.le_of_ble_eq_true rfl) dX8_lineNow_106 ⟨by decide, by decide⟩ (fun H locs (hw : Wd D A s.heap H locs (wX8 k mh mrSt mrNow mrIsKept mrDraft mrTape mrRow mrRode mrWays mrLanes mrSizes mrCells mrBefore mSt mNow mIsKept mPeople mDraft mDPeople mHasDry mToldDebts mHighest mTape mTaped mPos mBegun mSort mValue mFault mWrongAt mPaid mRow mRingMuch mRideSum mOwedSum mAllWays mRode mWays mLanes mSizes mCells mTorn mBefore)) => ?_)
          refine W.eq (g2 := F0 m 109 ls ([.int r_8])) rfl ?_
          refine kb_if_eq (tgt := 114) hx hb dX8_lineNow_109 (by decide) h (fun c_109 h => ?_) (fun c_109 h => ?_)
          · exact T_114 h _ _ _ hw (lv_sub hl [0] rfl)
          · refine lv_iconst (v := 3) hx hb dX8_lineNow_112 (by decide) ?_
            cases h
            exact k_iret hx hb hr hlocks hw rfl dX8_lineNow_113 hQ
      refine kb_if_eq (tgt := 86) hx hb dX8_lineNow_68 (by decide) h (fun c_68 h => ?_) (fun c_68 h => ?_)
      · exact T_86 h _ _ _ hw (lv_sub hl [0] rfl)
      · refine lv_aload_n hx hb dX8_lineNow_71 rfl (lv_at hl 0 rfl) ?_
        refine lv_bipush (v := 105) hx hb dX8_lineNow_72 (by decide) ?_
        refine lv_bipush (v := 114) hx hb dX8_lineNow_74 (by decide) ?_
        refine lv_bipush (v := 101) hx hb dX8_lineNow_76 (by decide) ?_
        obtain ⟨r_9, hf, h⟩ := b1_inv h
        refine k_callV (host := "") fx hK hA hw (c_X8_ends l D k mh mrSt mrNow mrIsKept mrDraft mrTape mrRow mrRode mrWays mrLanes mrSizes mrCells mrBefore _ mSt mNow mIsKept mPeople mDraft mDPeople mHasDry mToldDebts mHighest mTape mTaped mPos mBegun mSort mValue mFault mWrongAt mPaid mRow mRingMuch mRideSum mOwedSum mAllWays mRode mWays mLanes mSizes mCells mTorn mBefore 105 114 101 r_9 hf) (cwV 3 hts gX8_lineNow_X8_ends rfl rfl rfl (by decide +kernel) ⟨by decide, by decide⟩) (As := [.int 105, .int 114, .int 101]) (wr := []) (ws' := wX8 k mh mrSt mrNow mrIsKept mrDraft mrTape mrRow mrRode mrWays mrLanes mrSizes mrCells mrBefore mSt mNow mIsKept mPeople mDraft mDPeople mHasDry mToldDebts mHighest mTape mTaped mPos mBegun mSort mValue mFault mWrongAt mPaid mRow mRingMuch mRideSum mOwedSum mAllWays mRode mWays mLanes mSizes mCells mTorn mBefore) [0, 1, 2, 3, 4, 5, 6, 7, 8, 9, 10, 11, 12] [] [0, 1, 2, 3, 4, 5, 6, 7, 8, 9, 10, 11, 12] rfl rfl (by decide) (by decide) (by decide) rfl (by decide) 8 rfl rfl [] rfl hl.1 rfl (Nat.le_of_ble_eq_true rfl) dX8_lineNow_78 ⟨by decide, by decide⟩ (fun H locs (hw : Wd D A s.heap H locs (wX8 k mh mrSt mrNow mrIsKept mrDraft mrTape mrRow mrRode mrWays mrLanes mrSizes mrCells mrBefore mSt mNow mIsKept mPeople mDraft mDPeople mHasDry mToldDebts mHighest mTape mTaped mPos mBegun mSort mValue mFault mWrongAt mPaid mRow mRingMuch mRideSum mOwedSum mAllWays mRode mWays mLanes mSizes mCells mTorn mBefore)) => ?_)
        refine W.eq (g2 := F0 m 81 ls ([.int r_9])) rfl ?_
        refine kb_if_eq (tgt := 86) hx hb dX8_lineNow_81 (by decide) h (fun c_81 h => ?_) (fun c_81 h => ?_)
        · exact T_86 h _ _ _ hw (lv_sub hl [0] rfl)
        · refine lv_iconst (v := 2) hx hb dX8_lineNow_84 (by decide) ?_
          cases h
          exact k_iret hx hb hr hlocks hw rfl dX8_lineNow_85 hQ
    refine kb_if_eq (tgt := 56) hx hb dX8_lineNow_39 (by decide) h (fun c_39 h => ?_) (fun c_39 h => ?_)
    · exact T_56 h _ _ _ hw (lv_sub hl [0] rfl)
    · refine lv_aload_n hx hb dX8_lineNow_42 rfl (lv_at hl 0 rfl) ?_
      refine lv_bipush (v := 111) hx hb dX8_lineNow_43 (by decide) ?_
      refine lv_bipush (v := 119) hx hb dX8_lineNow_45 (by decide) ?_
      refine lv_iconst (v := 0) hx hb dX8_lineNow_47 (by decide) ?_
      obtain ⟨r_10, hf, h⟩ := b1_inv h
      refine k_callV (host := "") fx hK hA hw (c_X8_ends l D k mh mrSt mrNow mrIsKept mrDraft mrTape mrRow mrRode mrWays mrLanes mrSizes mrCells mrBefore _ mSt mNow mIsKept mPeople mDraft mDPeople mHasDry mToldDebts mHighest mTape mTaped mPos mBegun mSort mValue mFault mWrongAt mPaid mRow mRingMuch mRideSum mOwedSum mAllWays mRode mWays mLanes mSizes mCells mTorn mBefore 111 119 0 r_10 hf) (cwV 3 hts gX8_lineNow_X8_ends rfl rfl rfl (by decide +kernel) ⟨by decide, by decide⟩) (As := [.int 111, .int 119, .int 0]) (wr := []) (ws' := wX8 k mh mrSt mrNow mrIsKept mrDraft mrTape mrRow mrRode mrWays mrLanes mrSizes mrCells mrBefore mSt mNow mIsKept mPeople mDraft mDPeople mHasDry mToldDebts mHighest mTape mTaped mPos mBegun mSort mValue mFault mWrongAt mPaid mRow mRingMuch mRideSum mOwedSum mAllWays mRode mWays mLanes mSizes mCells mTorn mBefore) [0, 1, 2, 3, 4, 5, 6, 7, 8, 9, 10, 11, 12] [] [0, 1, 2, 3, 4, 5, 6, 7, 8, 9, 10, 11, 12] rfl rfl (by decide) (by decide) (by decide) rfl (by decide) 8 rfl rfl [] rfl hl.1 rfl (Nat.le_of_ble_eq_true rfl) dX8_lineNow_48 ⟨by decide, by decide⟩ (fun H locs (hw : Wd D A s.heap H locs (wX8 k mh mrSt mrNow mrIsKept mrDraft mrTape mrRow mrRode mrWays mrLanes mrSizes mrCells mrBefore mSt mNow mIsKept mPeople mDraft mDPeople mHasDry mToldDebts mHighest mTape mTaped mPos mBegun mSort mValue mFault mWrongAt mPaid mRow mRingMuch mRideSum mOwedSum mAllWays mRode mWays mLanes mSizes mCells mTorn mBefore)) => ?_)
      refine W.eq (g2 := F0 m 51 ls ([.int r_10])) rfl ?_
      refine kb_if_eq (tgt := 56) hx hb dX8_lineNow_51 (by decide) h (fun c_51 h => ?_) (fun c_51 h => ?_)
      · exact T_56 h _ _ _ hw (lv_sub hl [0] rfl)
      · refine lv_iconst (v := 1) hx hb dX8_lineNow_54 (by decide) ?_
        cases h
        exact k_iret hx hb hr hlocks hw rfl dX8_lineNow_55 hQ
  refine kb_if_eq (tgt := 28) hx hb dX8_lineNow_11 (by decide) h (fun c_11 h => ?_) (fun c_11 h => ?_)
  · exact T_28 h _ _ _ hw (lv_sub hl [0] rfl)
  · refine lv_aload_n hx hb dX8_lineNow_14 rfl (lv_at hl 0 rfl) ?_
    refine lv_bipush (v := 105) hx hb dX8_lineNow_15 (by decide) ?_
    refine lv_bipush (v := 110) hx hb dX8_lineNow_17 (by decide) ?_
    refine lv_iconst (v := 0) hx hb dX8_lineNow_19 (by decide) ?_
    obtain ⟨r_11, hf, h⟩ := b1_inv h
    refine k_callV (host := "") fx hK hA hw (c_X8_ends l D k mh mrSt mrNow mrIsKept mrDraft mrTape mrRow mrRode mrWays mrLanes mrSizes mrCells mrBefore _ mSt mNow mIsKept mPeople mDraft mDPeople mHasDry mToldDebts mHighest mTape mTaped mPos mBegun mSort mValue mFault mWrongAt mPaid mRow mRingMuch mRideSum mOwedSum mAllWays mRode mWays mLanes mSizes mCells mTorn mBefore 105 110 0 r_11 hf) (cwV 3 hts gX8_lineNow_X8_ends rfl rfl rfl (by decide +kernel) ⟨by decide, by decide⟩) (As := [.int 105, .int 110, .int 0]) (wr := []) (ws' := wX8 k mh mrSt mrNow mrIsKept mrDraft mrTape mrRow mrRode mrWays mrLanes mrSizes mrCells mrBefore mSt mNow mIsKept mPeople mDraft mDPeople mHasDry mToldDebts mHighest mTape mTaped mPos mBegun mSort mValue mFault mWrongAt mPaid mRow mRingMuch mRideSum mOwedSum mAllWays mRode mWays mLanes mSizes mCells mTorn mBefore) [0, 1, 2, 3, 4, 5, 6, 7, 8, 9, 10, 11, 12] [] [0, 1, 2, 3, 4, 5, 6, 7, 8, 9, 10, 11, 12] rfl rfl (by decide) (by decide) (by decide) rfl (by decide) 8 rfl rfl [] rfl hl.1 rfl (Nat.le_of_ble_eq_true rfl) dX8_lineNow_20 ⟨by decide, by decide⟩ (fun H locs (hw : Wd D A s.heap H locs (wX8 k mh mrSt mrNow mrIsKept mrDraft mrTape mrRow mrRode mrWays mrLanes mrSizes mrCells mrBefore mSt mNow mIsKept mPeople mDraft mDPeople mHasDry mToldDebts mHighest mTape mTaped mPos mBegun mSort mValue mFault mWrongAt mPaid mRow mRingMuch mRideSum mOwedSum mAllWays mRode mWays mLanes mSizes mCells mTorn mBefore)) => ?_)
    refine W.eq (g2 := F0 m 23 ls ([.int r_11])) rfl ?_
    refine kb_if_eq (tgt := 28) hx hb dX8_lineNow_23 (by decide) h (fun c_23 h => ?_) (fun c_23 h => ?_)
    · exact T_28 h _ _ _ hw (lv_sub hl [0] rfl)
    · refine lv_iconst (v := 0) hx hb dX8_lineNow_26 (by decide) ?_
      cases h
      exact k_iret hx hb hr hlocks hw rfl dX8_lineNow_27 hQ
abbrev rmX8_needs : Room := { frames := 0, cells := 0, slots := 0, locals := 0 }
set_option maxHeartbeats 4000000 in
set_option maxRecDepth 100000 in
theorem c_X8_needs (l : Launch) (D : va_G) (k : Nat → ClassId) (mh mrSt mrNow mrIsKept mrDraft mrTape mrRow mrRode mrWays mrLanes mrSizes mrCells mrBefore : Nat) (sz : Nat) (mSt : (Nat → Int32)) (mNow : (Nat → Int32)) (mIsKept : (Nat → Int32)) (mPeople : Int32) (mDraft : (Nat → Int32)) (mDPeople : Int32) (mHasDry : Int32) (mToldDebts : Int32) (mHighest : Int32) (mTape : (Nat → Int32)) (mTaped : Int32) (mPos : Int32) (mBegun : Int32) (mSort : Int32) (mValue : Int32) (mFault : Int32) (mWrongAt : Int32) (mPaid : Int32) (mRow : (Nat → Int32)) (mRingMuch : Int32) (mRideSum : Int64) (mOwedSum : Int64) (mAllWays : Int64) (mRode : (Nat → Int32)) (mWays : (Nat → Int32)) (mLanes : (Nat → Int32)) (mSizes : (Nat → Int32)) (mCells : (Nat → Int32)) (mTorn : Int32) (mBefore : (Nat → Int32)) (p1 : Int32) (p2 : Int32) (n_mFault : Int32) (n_mWrongAt : Int32) (hf : f_X8_needs mBegun mFault mWrongAt p1 p2 = some (n_mFault, n_mWrongAt)) : mR l yX8_needs wsX8_needs rmX8_needs D k sz [.ref mh, .int p1, .int p2] (wX8 k mh mrSt mrNow mrIsKept mrDraft mrTape mrRow mrRode mrWays mrLanes mrSizes mrCells mrBefore mSt mNow mIsKept mPeople mDraft mDPeople mHasDry mToldDebts mHighest mTape mTaped mPos mBegun mSort mValue mFault mWrongAt mPaid mRow mRingMuch mRideSum mOwedSum mAllWays mRode mWays mLanes mSizes mCells mTorn mBefore) (wX8 k mh mrSt mrNow mrIsKept mrDraft mrTape mrRow mrRode mrWays mrLanes mrSizes mrCells mrBefore mSt mNow mIsKept mPeople mDraft mDPeople mHasDry mToldDebts mHighest mTape mTaped mPos mBegun mSort mValue n_mFault n_mWrongAt mPaid mRow mRingMuch mRideSum mOwedSum mAllWays mRode mWays mLanes mSizes mCells mTorn mBefore) (none) := by
  refine mR_of (cc := cX8_needs) (maxL := 3) (ret := none) (by decide) rfl (Nat.le_of_ble_eq_true rfl) [(0, .ref mh), (1, .int p1), (2, .int p2)] rfl ?_
  intro p e s m below meth c A ls args Q cx hK hA hw hl hQ
  have fx := cx.1
  obtain ⟨⟨hx, hb, hml, hown, hts⟩, hr, hlocks⟩ := cx
  have hinX8 : ∀ w ∈ wsX80, w ∈ wsX8_needs := fun w h => List.mem_cons_of_mem _ (List.mem_append_right _ h)
  have q_1 := hts (.fieldLink RX8 79 "DebtRidesModel" "fault" "I") (List.mem_of_getElem? (i := 1) rfl)
  have q_2 := hts (.fieldLink RX8 82 "DebtRidesModel" "begun" "I") (List.mem_of_getElem? (i := 2) rfl)
  have q_3 := hts (.fieldLink RX8 85 "DebtRidesModel" "wrongAt" "I") (List.mem_of_getElem? (i := 3) rfl)
  have h := hf
  unfold f_X8_needs at h
  clear hf
  refine lv_iload_n hx hb dX8_needs_0 rfl (lv_at hl 1 rfl) ?_
  refine kb_if_ne (tgt := 24) hx hb dX8_needs_1 (by decide) h (fun c_1 h => ?_) (fun c_1 h => ?_)
  · refine lv_aload_n hx hb dX8_needs_4 rfl (lv_at hl 0 rfl) ?_
    refine va_get (ci := 8) (v := .int mFault) (C := RX8) (T := TX8) (N := 30) hx hb hts hinX8 hown hK.1 hw.1 0 rfl rfl 15 (by decide) q_1 (fun _ h9 => h9) rfl dX8_needs_5 ?_
    refine kb_if_ne (tgt := 24) hx hb dX8_needs_8 (by decide) h (fun c_8 h => ?_) (fun c_8 h => ?_)
    · refine lv_aload_n hx hb dX8_needs_11 rfl (lv_at hl 0 rfl) ?_
      refine lv_iload_n hx hb dX8_needs_12 rfl (lv_at hl 2 rfl) ?_
      refine va_put (ci := 8) (v := .int p2) (ty := tyX8 15) (C := RX8) (T := TX8) (N := 30) hx hb hts hinX8 tyX8 tyX8_ok nmX8 hown hK.1 hw.1 hw.2.1 hw.2.2 0 rfl rfl 15 (by decide) q_1 (fun _ h9 => h9) rfl (tyX8_ok 15 (by decide)) rfl rfl (Nat.le_of_ble_eq_true rfl) dX8_needs_13 (fun H locs hP hD hS => ?_)
      have hw : Wd D A s.heap H locs (wX8 k mh mrSt mrNow mrIsKept mrDraft mrTape mrRow mrRode mrWays mrLanes mrSizes mrCells mrBefore mSt mNow mIsKept mPeople mDraft mDPeople mHasDry mToldDebts mHighest mTape mTaped mPos mBegun mSort mValue p2 mWrongAt mPaid mRow mRingMuch mRideSum mOwedSum mAllWays mRode mWays mLanes mSizes mCells mTorn mBefore) := ⟨hP, hD, hS⟩
      refine lv_aload_n hx hb dX8_needs_16 rfl (lv_at hl 0 rfl) ?_
      refine lv_aload_n hx hb dX8_needs_17 rfl (lv_at hl 0 rfl) ?_
      refine va_get (ci := 8) (v := .int mBegun) (C := RX8) (T := TX8) (N := 30) hx hb hts hinX8 hown hK.1 hw.1 0 rfl rfl 12 (by decide) q_2 (fun _ h9 => h9) rfl dX8_needs_18 ?_
      refine va_put (ci := 8) (v := .int mBegun) (ty := tyX8 16) (C := RX8) (T := TX8) (N := 30) hx hb hts hinX8 tyX8 tyX8_ok nmX8 hown hK.1 hw.1 hw.2.1 hw.2.2 0 rfl rfl 16 (by decide) q_3 (fun _ h9 => h9) rfl (tyX8_ok 16 (by decide)) rfl rfl (Nat.le_of_ble_eq_true rfl) dX8_needs_21 (fun H locs hP hD hS => ?_)
      have hw : Wd D A s.heap H locs (wX8 k mh mrSt mrNow mrIsKept mrDraft mrTape mrRow mrRode mrWays mrLanes mrSizes mrCells mrBefore mSt mNow mIsKept mPeople mDraft mDPeople mHasDry mToldDebts mHighest mTape mTaped mPos mBegun mSort mValue p2 mBegun mPaid mRow mRingMuch mRideSum mOwedSum mAllWays mRode mWays mLanes mSizes mCells mTorn mBefore) := ⟨hP, hD, hS⟩
      cases h
      exact k_vret hx hb hr hlocks hw dX8_needs_24 hQ
    · cases h
      exact k_vret hx hb hr hlocks hw dX8_needs_24 hQ
  · cases h
    exact k_vret hx hb hr hlocks hw dX8_needs_24 hQ
abbrev rmX8_looked : Room := { frames := 1, cells := 0, slots := 0, locals := 25 }
set_option maxHeartbeats 4000000 in
set_option maxRecDepth 100000 in
theorem c_X8_looked (l : Launch) (D : va_G) (k : Nat → ClassId) (mh mrSt mrNow mrIsKept mrDraft mrTape mrRow mrRode mrWays mrLanes mrSizes mrCells mrBefore : Nat) (sz : Nat) (mSt : (Nat → Int32)) (mNow : (Nat → Int32)) (mIsKept : (Nat → Int32)) (mPeople : Int32) (mDraft : (Nat → Int32)) (mDPeople : Int32) (mHasDry : Int32) (mToldDebts : Int32) (mHighest : Int32) (mTape : (Nat → Int32)) (mTaped : Int32) (mPos : Int32) (mBegun : Int32) (mSort : Int32) (mValue : Int32) (mFault : Int32) (mWrongAt : Int32) (mPaid : Int32) (mRow : (Nat → Int32)) (mRingMuch : Int32) (mRideSum : Int64) (mOwedSum : Int64) (mAllWays : Int64) (mRode : (Nat → Int32)) (mWays : (Nat → Int32)) (mLanes : (Nat → Int32)) (mSizes : (Nat → Int32)) (mCells : (Nat → Int32)) (mTorn : Int32) (mBefore : (Nat → Int32)) (p1 : Int32) (p2 : Int32) (r_ : Int32) (n_mFault : Int32) (n_mWrongAt : Int32) (hf : f_X8_looked mBegun mSort mValue mFault mWrongAt p1 p2 = some (r_, n_mFault, n_mWrongAt)) : mR l yX8_looked wsX8_looked rmX8_looked D k sz [.ref mh, .int p1, .int p2] (wX8 k mh mrSt mrNow mrIsKept mrDraft mrTape mrRow mrRode mrWays mrLanes mrSizes mrCells mrBefore mSt mNow mIsKept mPeople mDraft mDPeople mHasDry mToldDebts mHighest mTape mTaped mPos mBegun mSort mValue mFault mWrongAt mPaid mRow mRingMuch mRideSum mOwedSum mAllWays mRode mWays mLanes mSizes mCells mTorn mBefore) (wX8 k mh mrSt mrNow mrIsKept mrDraft mrTape mrRow mrRode mrWays mrLanes mrSizes mrCells mrBefore mSt mNow mIsKept mPeople mDraft mDPeople mHasDry mToldDebts mHighest mTape mTaped mPos mBegun mSort mValue n_mFault n_mWrongAt mPaid mRow mRingMuch mRideSum mOwedSum mAllWays mRode mWays mLanes mSizes mCells mTorn mBefore) (some (.int r_)) := by
  refine mR_of (cc := cX8_looked) (maxL := 3) (ret := some .int) (by decide) rfl (Nat.le_of_ble_eq_true rfl) [(0, .ref mh), (1, .int p1), (2, .int p2)] rfl ?_
  intro p e s m below meth c A ls args Q cx hK hA hw hl hQ
  have fx := cx.1
  obtain ⟨⟨hx, hb, hml, hown, hts⟩, hr, hlocks⟩ := cx
  have hinX8 : ∀ w ∈ wsX80, w ∈ wsX8_looked := fun w h => List.mem_cons_of_mem _ (List.mem_append_right _ h)
  have q_1 := hts (.fieldLink RX8 79 "DebtRidesModel" "fault" "I") (List.mem_of_getElem? (i := 1) rfl)
  have q_2 := hts (.fieldLink RX8 103 "DebtRidesModel" "sort" "I") (List.mem_of_getElem? (i := 2) rfl)
  have q_3 := hts (.fieldLink RX8 114 "DebtRidesModel" "value" "I") (List.mem_of_getElem? (i := 3) rfl)
  have h := hf
  unfold f_X8_looked at h
  clear hf
  refine lv_aload_n hx hb dX8_looked_0 rfl (lv_at hl 0 rfl) ?_
  refine va_get (ci := 8) (v := .int mFault) (C := RX8) (T := TX8) (N := 30) hx hb hts hinX8 hown hK.1 hw.1 0 rfl rfl 15 (by decide) q_1 (fun _ h9 => h9) rfl dX8_looked_1 ?_
  obtain ⟨mFault_1, mWrongAt_2, hj_4, h⟩ := b2_inv h
  have J_4 : ∀ (H : Heap) (locs : List Loc) (ls : Array Slot), Wd D A s.heap H locs (wX8 k mh mrSt mrNow mrIsKept mrDraft mrTape mrRow mrRode mrWays mrLanes mrSizes mrCells mrBefore mSt mNow mIsKept mPeople mDraft mDPeople mHasDry mToldDebts mHighest mTape mTaped mPos mBegun mSort mValue mFault_1 mWrongAt_2 mPaid mRow mRingMuch mRideSum mOwedSum mAllWays mRode mWays mLanes mSizes mCells mTorn mBefore) → lv_has ls 3 [(0, .ref mh), (1, .int p1), (2, .int p2)] → W p l e rmX8_looked s m args below meth c H locs 0 0 Q (F0 m 25 ls []) := by
    intro H locs ls hw hl
    refine lv_aload_n hx hb dX8_looked_25 rfl (lv_at hl 0 rfl) ?_
    refine va_get (ci := 8) (v := .int mFault_1) (C := RX8) (T := TX8) (N := 30) hx hb hts hinX8 hown hK.1 hw.1 0 rfl rfl 15 (by decide) q_1 (fun _ h9 => h9) rfl dX8_looked_26 ?_
    obtain ⟨mFault_6, mWrongAt_7, hj_29, h⟩ := b2_inv h
    have J_29 : ∀ (H : Heap) (locs : List Loc) (ls : Array Slot), Wd D A s.heap H locs (wX8 k mh mrSt mrNow mrIsKept mrDraft mrTape mrRow mrRode mrWays mrLanes mrSizes mrCells mrBefore mSt mNow mIsKept mPeople mDraft mDPeople mHasDry mToldDebts mHighest mTape mTaped mPos mBegun mSort mValue mFault_6 mWrongAt_7 mPaid mRow mRingMuch mRideSum mOwedSum mAllWays mRode mWays mLanes mSizes mCells mTorn mBefore) → lv_has ls 3 [(0, .ref mh)] → W p l e rmX8_looked s m args below meth c H locs 0 0 Q (F0 m 49 ls []) := by
      intro H locs ls hw hl
      refine lv_aload_n hx hb dX8_looked_49 rfl (lv_at hl 0 rfl) ?_
      refine va_get (ci := 8) (v := .int mFault_6) (C := RX8) (T := TX8) (N := 30) hx hb hts hinX8 hown hK.1 hw.1 0 rfl rfl 15 (by decide) q_1 (fun _ h9 => h9) rfl dX8_looked_50 ?_
      refine kb_if_ne (tgt := 63) hx hb dX8_looked_53 (by decide) h (fun c_53 h => ?_) (fun c_53 h => ?_)
      · refine lv_aload_n hx hb dX8_looked_56 rfl (lv_at hl 0 rfl) ?_
        refine va_get (ci := 8) (v := .int mValue) (C := RX8) (T := TX8) (N := 30) hx hb hts hinX8 hown hK.1 hw.1 0 rfl rfl 14 (by decide) q_3 (fun _ h9 => h9) rfl dX8_looked_57 ?_
        refine lv_goto (tgt := 64) hx hb dX8_looked_60 (by decide) ?_
        cases h
        exact k_iret hx hb hr hlocks hw rfl dX8_looked_64 hQ
      · refine lv_iconst (v := 0) hx hb dX8_looked_63 (by decide) ?_
        cases h
        exact k_iret hx hb hr hlocks hw rfl dX8_looked_64 hQ
    clear h
    have h := hj_29
    refine kb_if_ne (tgt := 49) hx hb dX8_looked_29 (by decide) h (fun c_29 h => ?_) (fun c_29 h => ?_)
    · refine lv_aload_n hx hb dX8_looked_32 rfl (lv_at hl 0 rfl) ?_
      refine lv_aload_n hx hb dX8_looked_33 rfl (lv_at hl 0 rfl) ?_
      refine va_get (ci := 8) (v := .int mValue) (C := RX8) (T := TX8) (N := 30) hx hb hts hinX8 hown hK.1 hw.1 0 rfl rfl 14 (by decide) q_3 (fun _ h9 => h9) rfl dX8_looked_34 ?_
      refine lv_i2l hx hb dX8_looked_37 rfl ?_
      refine lv_iload_n hx hb dX8_looked_38 rfl (lv_at hl 1 rfl) ?_
      refine lv_i2l hx hb dX8_looked_39 rfl ?_
      refine lv_iload_n hx hb dX8_looked_40 rfl (lv_at hl 2 rfl) ?_
      refine lv_i2l hx hb dX8_looked_41 rfl ?_
      obtain ⟨r_8, hf, h⟩ := b1_inv h
      refine k_callS (b := 0) (C := "") (host := "") fx hK hA hw (c_X8_in l D k _ mValue.toInt64 p1.toInt64 p2.toInt64 r_8 hf) (va_cwS 3 hts gX8_looked_X8_in rfl rfl rfl (by decide +kernel) ⟨by decide, by decide⟩) (As := [.long mValue.toInt64, .long p1.toInt64, .long p2.toInt64]) (wr := [(mh, .inr (8, [.ref mrSt, .ref mrNow, .ref mrIsKept, .int mPeople, .ref mrDraft, .int mDPeople, .int mHasDry, .int mToldDebts, .int mHighest, .ref mrTape, .int mTaped, .int mPos, .int mBegun, .int mSort, .int mValue, .int mFault_1, .int mWrongAt_2, .int mPaid, .ref mrRow, .int mRingMuch, .long mRideSum, .long mOwedSum, .long mAllWays, .ref mrRode, .ref mrWays, .ref mrLanes, .ref mrSizes, .ref mrCells, .int mTorn, .ref mrBefore])), (mrSt, .inl (k 0, 183, .inl mSt)), (mrNow, .inl (k 0, 61, .inl mNow)), (mrIsKept, .inl (k 1, 2, .inl mIsKept)), (mrDraft, .inl (k 0, 61, .inl mDraft)), (mrTape, .inl (k 0, 160, .inl mTape)), (mrRow, .inl (k 0, 5, .inl mRow)), (mrRode, .inl (k 0, 31, .inl mRode)), (mrWays, .inl (k 0, 31, .inl mWays)), (mrLanes, .inl (k 0, 4, .inl mLanes)), (mrSizes, .inl (k 0, 4, .inl mSizes)), (mrCells, .inl (k 0, 160, .inl mCells)), (mrBefore, .inl (k 0, 61, .inl mBefore))]) (ws' := wX8 k mh mrSt mrNow mrIsKept mrDraft mrTape mrRow mrRode mrWays mrLanes mrSizes mrCells mrBefore mSt mNow mIsKept mPeople mDraft mDPeople mHasDry mToldDebts mHighest mTape mTaped mPos mBegun mSort mValue mFault_1 mWrongAt_2 mPaid mRow mRingMuch mRideSum mOwedSum mAllWays mRode mWays mLanes mSizes mCells mTorn mBefore) [] [0, 1, 2, 3, 4, 5, 6, 7, 8, 9, 10, 11, 12] [0, 1, 2, 3, 4, 5, 6, 7, 8, 9, 10, 11, 12] rfl rfl (by decide) (by decide) (by decide) rfl (by decide) [.ref mh] rfl hl.1 rfl (Nat.le_of_ble_eq_true rfl) dX8_looked_42 ⟨by decide, by decide⟩ (fun H locs (hw : Wd D A s.heap H locs (wX8 k mh mrSt mrNow mrIsKept mrDraft mrTape mrRow mrRode mrWays mrLanes mrSizes mrCells mrBefore mSt mNow mIsKept mPeople mDraft mDPeople mHasDry mToldDebts mHighest mTape mTaped mPos mBegun mSort mValue mFault_1 mWrongAt_2 mPaid mRow mRingMuch mRideSum mOwedSum mAllWays mRode mWays mLanes mSizes mCells mTorn mBefore)) => ?_)
      refine W.eq (g2 := F0 m 45 ls ([.int r_8, .ref mh])) rfl ?_
      refine lv_iconst (v := 3) hx hb dX8_looked_45 (by decide) ?_
      obtain ⟨mFault_9, mWrongAt_10, hf, h⟩ := b2_inv h
      refine k_callV (host := "") fx hK hA hw (c_X8_needs l D k mh mrSt mrNow mrIsKept mrDraft mrTape mrRow mrRode mrWays mrLanes mrSizes mrCells mrBefore _ mSt mNow mIsKept mPeople mDraft mDPeople mHasDry mToldDebts mHighest mTape mTaped mPos mBegun mSort mValue mFault_1 mWrongAt_2 mPaid mRow mRingMuch mRideSum mOwedSum mAllWays mRode mWays mLanes mSizes mCells mTorn mBefore r_8 3 mFault_9 mWrongAt_10 hf) (cwV 2 hts gX8_looked_X8_needs rfl rfl rfl (by decide +kernel) ⟨by decide, by decide⟩) (As := [.int r_8, .int 3]) (wr := []) (ws' := wX8 k mh mrSt mrNow mrIsKept mrDraft mrTape mrRow mrRode mrWays mrLanes mrSizes mrCells mrBefore mSt mNow mIsKept mPeople mDraft mDPeople mHasDry mToldDebts mHighest mTape mTaped mPos mBegun mSort mValue mFault_9 mWrongAt_10 mPaid mRow mRingMuch mRideSum mOwedSum mAllWays mRode mWays mLanes mSizes mCells mTorn mBefore) [0, 1, 2, 3, 4, 5, 6, 7, 8, 9, 10, 11, 12] [] [0, 1, 2, 3, 4, 5, 6, 7, 8, 9, 10, 11, 12] rfl rfl (by decide) (by decide) (by decide) rfl (by decide) 8 rfl rfl [] rfl hl.1 rfl (Nat.le_of_ble_eq_true rfl) dX8_looked_46 ⟨by decide, by decide⟩ (fun H locs (hw : Wd D A s.heap H locs (wX8 k mh mrSt mrNow mrIsKept mrDraft mrTape mrRow mrRode mrWays mrLanes mrSizes mrCells mrBefore mSt mNow mIsKept mPeople mDraft mDPeople mHasDry mToldDebts mHighest mTape mTaped mPos mBegun mSort mValue mFault_9 mWrongAt_10 mPaid mRow mRingMuch mRideSum mOwedSum mAllWays mRode mWays mLanes mSizes mCells mTorn mBefore)) => ?_)
      refine W.eq (g2 := F0 m 49 ls ([])) rfl ?_
      cases h
      exact J_29 _ _ _ hw (lv_sub hl [0] rfl)
    · cases h
      exact J_29 _ _ _ hw (lv_sub hl [0] rfl)
  clear h
  have h := hj_4
  refine kb_if_ne (tgt := 25) hx hb dX8_looked_4 (by decide) h (fun c_4 h => ?_) (fun c_4 h => ?_)
  · refine lv_aload_n hx hb dX8_looked_7 rfl (lv_at hl 0 rfl) ?_
    refine lv_aload_n hx hb dX8_looked_8 rfl (lv_at hl 0 rfl) ?_
    refine va_get (ci := 8) (v := .int mSort) (C := RX8) (T := TX8) (N := 30) hx hb hts hinX8 hown hK.1 hw.1 0 rfl rfl 13 (by decide) q_2 (fun _ h9 => h9) rfl dX8_looked_9 ?_
    refine lv_iconst (v := 2) hx hb dX8_looked_12 (by decide) ?_
    obtain ⟨t_3, hj_13, h⟩ := b1_inv h
    have J_13 : ∀ (H : Heap) (locs : List Loc) (ls : Array Slot), Wd D A s.heap H locs (wX8 k mh mrSt mrNow mrIsKept mrDraft mrTape mrRow mrRode mrWays mrLanes mrSizes mrCells mrBefore mSt mNow mIsKept mPeople mDraft mDPeople mHasDry mToldDebts mHighest mTape mTaped mPos mBegun mSort mValue mFault mWrongAt mPaid mRow mRingMuch mRideSum mOwedSum mAllWays mRode mWays mLanes mSizes mCells mTorn mBefore) → lv_has ls 3 [(0, .ref mh), (1, .int p1), (2, .int p2)] → W p l e rmX8_looked s m args below meth c H locs 0 0 Q (F0 m 21 ls [.int t_3, .ref mh]) := by
      intro H locs ls hw hl
      refine lv_iconst (v := 2) hx hb dX8_looked_21 (by decide) ?_
      obtain ⟨mFault_4, mWrongAt_5, hf, h⟩ := b2_inv h
      refine k_callV (host := "") fx hK hA hw (c_X8_needs l D k mh mrSt mrNow mrIsKept mrDraft mrTape mrRow mrRode mrWays mrLanes mrSizes mrCells mrBefore _ mSt mNow mIsKept mPeople mDraft mDPeople mHasDry mToldDebts mHighest mTape mTaped mPos mBegun mSort mValue mFault mWrongAt mPaid mRow mRingMuch mRideSum mOwedSum mAllWays mRode mWays mLanes mSizes mCells mTorn mBefore t_3 2 mFault_4 mWrongAt_5 hf) (cwV 2 hts gX8_looked_X8_needs rfl rfl rfl (by decide +kernel) ⟨by decide, by decide⟩) (As := [.int t_3, .int 2]) (wr := []) (ws' := wX8 k mh mrSt mrNow mrIsKept mrDraft mrTape mrRow mrRode mrWays mrLanes mrSizes mrCells mrBefore mSt mNow mIsKept mPeople mDraft mDPeople mHasDry mToldDebts mHighest mTape mTaped mPos mBegun mSort mValue mFault_4 mWrongAt_5 mPaid mRow mRingMuch mRideSum mOwedSum mAllWays mRode mWays mLanes mSizes mCells mTorn mBefore) [0, 1, 2, 3, 4, 5, 6, 7, 8, 9, 10, 11, 12] [] [0, 1, 2, 3, 4, 5, 6, 7, 8, 9, 10, 11, 12] rfl rfl (by decide) (by decide) (by decide) rfl (by decide) 8 rfl rfl [] rfl hl.1 rfl (Nat.le_of_ble_eq_true rfl) dX8_looked_22 ⟨by decide, by decide⟩ (fun H locs (hw : Wd D A s.heap H locs (wX8 k mh mrSt mrNow mrIsKept mrDraft mrTape mrRow mrRode mrWays mrLanes mrSizes mrCells mrBefore mSt mNow mIsKept mPeople mDraft mDPeople mHasDry mToldDebts mHighest mTape mTaped mPos mBegun mSort mValue mFault_4 mWrongAt_5 mPaid mRow mRingMuch mRideSum mOwedSum mAllWays mRode mWays mLanes mSizes mCells mTorn mBefore)) => ?_)
      refine W.eq (g2 := F0 m 25 ls ([])) rfl ?_
      cases h
      exact J_4 _ _ _ hw (lv_sub hl [0, 1, 2] rfl)
    clear h
    have h := hj_13
    refine kb_icmp_ne (tgt := 20) hx hb dX8_looked_13 (by decide) h (fun c_13 h => ?_) (fun c_13 h => ?_)
    · refine lv_iconst (v := 1) hx hb dX8_looked_16 (by decide) ?_
      refine lv_goto (tgt := 21) hx hb dX8_looked_17 (by decide) ?_
      cases h
      exact J_13 _ _ _ hw (lv_sub hl [0, 1, 2] rfl)
    · refine lv_iconst (v := 0) hx hb dX8_looked_20 (by decide) ?_
      cases h
      exact J_13 _ _ _ hw (lv_sub hl [0, 1, 2] rfl)
  · cases h
    exact J_4 _ _ _ hw (lv_sub hl [0, 1, 2] rfl)
abbrev rmX8_told : Room := { frames := 1, cells := 0, slots := 0, locals := 29 }
set_option maxHeartbeats 4000000 in
set_option maxRecDepth 100000 in
theorem c_X8_told (l : Launch) (D : va_G) (k : Nat → ClassId) (sz : Nat) (p1 : Int64) (p2 : Int64) (p3 : Int32) (r_ : Int64) (hf : f_X8_told p1 p2 p3 = some r_) : mR l yX8_told wsX8_told rmX8_told D k sz [.long p1, .long p2, .int p3] ([]) ([]) (some (.long r_)) := by
  refine mR_of (cc := cX8_told) (maxL := 7) (ret := some .long) (by decide) rfl (Nat.le_of_ble_eq_true rfl) [(0, .long p1), (2, .long p2), (4, .int p3)] rfl ?_
  intro p e s m below meth c A ls args Q cx hK hA hw hl hQ
  have fx := cx.1
  obtain ⟨⟨hx, hb, hml, hown, hts⟩, hr, hlocks⟩ := cx
  have h := hf
  unfold f_X8_told at h
  clear hf
  refine lv_lload_n hx hb dX8_told_0 rfl (lv_at hl 1 rfl) ?_
  refine lv_lload_n hx hb dX8_told_1 rfl (lv_at hl 0 rfl) ?_
  obtain ⟨r_1, hf, h⟩ := b1_inv h
  refine k_callS (b := 0) (C := "") (host := "") fx hK hA hw (c_X8_common l D k _ p2 p1 r_1 hf) (va_cwS 2 hts gX8_told_X8_common rfl rfl rfl (by decide +kernel) ⟨by decide, by decide⟩) (As := [.long p2, .long p1]) (wr := []) (ws' := []) [] [] [] rfl rfl (by decide) (by decide) (by decide) rfl (by decide) [] rfl hl.1 rfl (Nat.le_of_ble_eq_true rfl) dX8_told_2 ⟨by decide, by decide⟩ (fun H locs (hw : Wd D A s.heap H locs ([])) => ?_)
  refine W.eq (g2 := F0 m 5 ls ([.long r_1])) rfl ?_
  refine lv_lstore (lv' := [(5, .long r_1), (0, .long p1), (2, .long p2), (4, .int p3)]) hx hb dX8_told_5 hl (by decide) rfl (fun ls hl => ?_)
  refine lv_iload hx hb dX8_told_7 (lv_at hl 3 rfl) ?_
  refine kb_if_ne (tgt := 19) hx hb dX8_told_9 (by decide) h (fun c_9 h => ?_) (fun c_9 h => ?_)
  · refine lv_lload_n hx hb dX8_told_12 rfl (lv_at hl 1 rfl) ?_
    refine lv_lload hx hb dX8_told_13 (lv_at hl 0 rfl) ?_
    refine k_ldiv hx hb dX8_told_15 h (fun h => ?_)
    refine lv_goto (tgt := 23) hx hb dX8_told_16 (by decide) ?_
    cases h
    exact k_lret hx hb hr hlocks hw rfl dX8_told_23 hQ
  · refine lv_lload_n hx hb dX8_told_19 rfl (lv_at hl 2 rfl) ?_
    refine lv_lload hx hb dX8_told_20 (lv_at hl 0 rfl) ?_
    refine k_ldiv hx hb dX8_told_22 h (fun h => ?_)
    cases h
    exact k_lret hx hb hr hlocks hw rfl dX8_told_23 hQ
abbrev rmX8_luck : Room := { frames := 5, cells := 0, slots := 0, locals := 120 }
set_option maxHeartbeats 4000000 in
set_option maxRecDepth 100000 in
theorem c_X8_luck (l : Launch) (D : va_G) (k : Nat → ClassId) (mh mrSt mrNow mrIsKept mrDraft mrTape mrRow mrRode mrWays mrLanes mrSizes mrCells mrBefore : Nat) (sz : Nat) (mSt : (Nat → Int32)) (mNow : (Nat → Int32)) (mIsKept : (Nat → Int32)) (mPeople : Int32) (mDraft : (Nat → Int32)) (mDPeople : Int32) (mHasDry : Int32) (mToldDebts : Int32) (mHighest : Int32) (mTape : (Nat → Int32)) (mTaped : Int32) (mPos : Int32) (mBegun : Int32) (mSort : Int32) (mValue : Int32) (mFault : Int32) (mWrongAt : Int32) (mPaid : Int32) (mRow : (Nat → Int32)) (mRingMuch : Int32) (mRideSum : Int64) (mOwedSum : Int64) (mAllWays : Int64) (mRode : (Nat → Int32)) (mWays : (Nat → Int32)) (mLanes : (Nat → Int32)) (mSizes : (Nat → Int32)) (mCells : (Nat → Int32)) (mTorn : Int32) (mBefore : (Nat → Int32)) (p1 : Int32) (p2 : Int32) (p3 : Int32) (p4 : Int32) (r_ : Int64) (n_mNow : (Nat → Int32)) (n_mPaid : Int32) (n_mRideSum : Int64) (n_mOwedSum : Int64) (n_mAllWays : Int64) (hf : f_X8_luck mSt mNow mPeople mPaid mRideSum mOwedSum mAllWays p1 p2 p3 p4 = some (r_, n_mNow, n_mPaid, n_mRideSum, n_mOwedSum, n_mAllWays)) : mR l yX8_luck wsX8_luck rmX8_luck D k sz [.ref mh, .int p1, .int p2, .int p3, .int p4] (wX8 k mh mrSt mrNow mrIsKept mrDraft mrTape mrRow mrRode mrWays mrLanes mrSizes mrCells mrBefore mSt mNow mIsKept mPeople mDraft mDPeople mHasDry mToldDebts mHighest mTape mTaped mPos mBegun mSort mValue mFault mWrongAt mPaid mRow mRingMuch mRideSum mOwedSum mAllWays mRode mWays mLanes mSizes mCells mTorn mBefore) (wX8 k mh mrSt mrNow mrIsKept mrDraft mrTape mrRow mrRode mrWays mrLanes mrSizes mrCells mrBefore mSt n_mNow mIsKept mPeople mDraft mDPeople mHasDry mToldDebts mHighest mTape mTaped mPos mBegun mSort mValue mFault mWrongAt n_mPaid mRow mRingMuch n_mRideSum n_mOwedSum n_mAllWays mRode mWays mLanes mSizes mCells mTorn mBefore) (some (.long r_)) := by
  refine mR_of (cc := cX8_luck) (maxL := 5) (ret := some .long) (by decide) rfl (Nat.le_of_ble_eq_true rfl) [(0, .ref mh), (1, .int p1), (2, .int p2), (3, .int p3), (4, .int p4)] rfl ?_
  intro p e s m below meth c A ls args Q cx hK hA hw hl hQ
  have fx := cx.1
  obtain ⟨⟨hx, hb, hml, hown, hts⟩, hr, hlocks⟩ := cx
  have hinX8 : ∀ w ∈ wsX80, w ∈ wsX8_luck := fun w h => List.mem_cons_of_mem _ (List.mem_append_right _ h)
  have q_1 := hts (.constantLong RX8 251 (10)) (List.mem_of_getElem? (i := 1) rfl)
  have q_3 := hts (.constantLong RX8 283 (-1)) (List.mem_of_getElem? (i := 3) rfl)
  have q_2 := hts (.constantLong RX8 281 (8)) (List.mem_of_getElem? (i := 2) rfl)
  have q_4 := hts (.fieldLink RX8 271 "DebtRidesModel" "rideSum" "J") (List.mem_of_getElem? (i := 4) rfl)
  have q_5 := hts (.fieldLink RX8 278 "DebtRidesModel" "allWays" "J") (List.mem_of_getElem? (i := 5) rfl)
  have h := hf
  unfold f_X8_luck at h
  clear hf
  refine lv_iload_n hx hb dX8_luck_0 rfl (lv_at hl 1 rfl) ?_
  refine lv_i2l hx hb dX8_luck_1 rfl ?_
  refine lv_lconst (v := 0) hx hb dX8_luck_2 rfl ?_
  refine lv_ldc2 (v := 10) hx hb hown q_1 dX8_luck_3 ?_
  obtain ⟨r_1, hf, h⟩ := b1_inv h
  refine k_callS (b := 0) (C := "") (host := "") fx hK hA hw (c_X8_in l D k _ p1.toInt64 0 10 r_1 hf) (va_cwS 3 hts gX8_luck_X8_in rfl rfl rfl (by decide +kernel) ⟨by decide, by decide⟩) (As := [.long p1.toInt64, .long 0, .long 10]) (wr := [(mh, .inr (8, [.ref mrSt, .ref mrNow, .ref mrIsKept, .int mPeople, .ref mrDraft, .int mDPeople, .int mHasDry, .int mToldDebts, .int mHighest, .ref mrTape, .int mTaped, .int mPos, .int mBegun, .int mSort, .int mValue, .int mFault, .int mWrongAt, .int mPaid, .ref mrRow, .int mRingMuch, .long mRideSum, .long mOwedSum, .long mAllWays, .ref mrRode, .ref mrWays, .ref mrLanes, .ref mrSizes, .ref mrCells, .int mTorn, .ref mrBefore])), (mrSt, .inl (k 0, 183, .inl mSt)), (mrNow, .inl (k 0, 61, .inl mNow)), (mrIsKept, .inl (k 1, 2, .inl mIsKept)), (mrDraft, .inl (k 0, 61, .inl mDraft)), (mrTape, .inl (k 0, 160, .inl mTape)), (mrRow, .inl (k 0, 5, .inl mRow)), (mrRode, .inl (k 0, 31, .inl mRode)), (mrWays, .inl (k 0, 31, .inl mWays)), (mrLanes, .inl (k 0, 4, .inl mLanes)), (mrSizes, .inl (k 0, 4, .inl mSizes)), (mrCells, .inl (k 0, 160, .inl mCells)), (mrBefore, .inl (k 0, 61, .inl mBefore))]) (ws' := wX8 k mh mrSt mrNow mrIsKept mrDraft mrTape mrRow mrRode mrWays mrLanes mrSizes mrCells mrBefore mSt mNow mIsKept mPeople mDraft mDPeople mHasDry mToldDebts mHighest mTape mTaped mPos mBegun mSort mValue mFault mWrongAt mPaid mRow mRingMuch mRideSum mOwedSum mAllWays mRode mWays mLanes mSizes mCells mTorn mBefore) [] [0, 1, 2, 3, 4, 5, 6, 7, 8, 9, 10, 11, 12] [0, 1, 2, 3, 4, 5, 6, 7, 8, 9, 10, 11, 12] rfl rfl (by decide) (by decide) (by decide) rfl (by decide) [] rfl hl.1 rfl (Nat.le_of_ble_eq_true rfl) dX8_luck_6 ⟨by decide, by decide⟩ (fun H locs (hw : Wd D A s.heap H locs (wX8 k mh mrSt mrNow mrIsKept mrDraft mrTape mrRow mrRode mrWays mrLanes mrSizes mrCells mrBefore mSt mNow mIsKept mPeople mDraft mDPeople mHasDry mToldDebts mHighest mTape mTaped mPos mBegun mSort mValue mFault mWrongAt mPaid mRow mRingMuch mRideSum mOwedSum mAllWays mRode mWays mLanes mSizes mCells mTorn mBefore)) => ?_)
  refine W.eq (g2 := F0 m 9 ls ([.int r_1])) rfl ?_
  refine kb_if_eq (tgt := 40) hx hb dX8_luck_9 (by decide) h (fun c_9 h => ?_) (fun c_9 h => ?_)
  · refine lv_ldc2 (v := -1) hx hb hown q_3 dX8_luck_40 ?_
    cases h
    exact k_lret hx hb hr hlocks hw rfl dX8_luck_43 hQ
  · refine lv_aload_n hx hb dX8_luck_12 rfl (lv_at hl 0 rfl) ?_
    refine lv_iload_n hx hb dX8_luck_13 rfl (lv_at hl 2 rfl) ?_
    obtain ⟨r_2, hf, h⟩ := b1_inv h
    refine k_callV (host := "") fx hK hA hw (c_X8_isOne l D k mh mrSt mrNow mrIsKept mrDraft mrTape mrRow mrRode mrWays mrLanes mrSizes mrCells mrBefore _ mSt mNow mIsKept mPeople mDraft mDPeople mHasDry mToldDebts mHighest mTape mTaped mPos mBegun mSort mValue mFault mWrongAt mPaid mRow mRingMuch mRideSum mOwedSum mAllWays mRode mWays mLanes mSizes mCells mTorn mBefore p2 r_2 hf) (cwV 1 hts gX8_luck_X8_isOne rfl rfl rfl (by decide +kernel) ⟨by decide, by decide⟩) (As := [.int p2]) (wr := []) (ws' := wX8 k mh mrSt mrNow mrIsKept mrDraft mrTape mrRow mrRode mrWays mrLanes mrSizes mrCells mrBefore mSt mNow mIsKept mPeople mDraft mDPeople mHasDry mToldDebts mHighest mTape mTaped mPos mBegun mSort mValue mFault mWrongAt mPaid mRow mRingMuch mRideSum mOwedSum mAllWays mRode mWays mLanes mSizes mCells mTorn mBefore) [0, 1, 2, 3, 4, 5, 6, 7, 8, 9, 10, 11, 12] [] [0, 1, 2, 3, 4, 5, 6, 7, 8, 9, 10, 11, 12] rfl rfl (by decide) (by decide) (by decide) rfl (by decide) 8 rfl rfl [] rfl hl.1 rfl (Nat.le_of_ble_eq_true rfl) dX8_luck_14 ⟨by decide, by decide⟩ (fun H locs (hw : Wd D A s.heap H locs (wX8 k mh mrSt mrNow mrIsKept mrDraft mrTape mrRow mrRode mrWays mrLanes mrSizes mrCells mrBefore mSt mNow mIsKept mPeople mDraft mDPeople mHasDry mToldDebts mHighest mTape mTaped mPos mBegun mSort mValue mFault mWrongAt mPaid mRow mRingMuch mRideSum mOwedSum mAllWays mRode mWays mLanes mSizes mCells mTorn mBefore)) => ?_)
    refine W.eq (g2 := F0 m 17 ls ([.int r_2])) rfl ?_
    refine kb_if_eq (tgt := 40) hx hb dX8_luck_17 (by decide) h (fun c_17 h => ?_) (fun c_17 h => ?_)
    · refine lv_ldc2 (v := -1) hx hb hown q_3 dX8_luck_40 ?_
      cases h
      exact k_lret hx hb hr hlocks hw rfl dX8_luck_43 hQ
    · refine lv_iload_n hx hb dX8_luck_20 rfl (lv_at hl 3 rfl) ?_
      refine lv_i2l hx hb dX8_luck_21 rfl ?_
      refine lv_lconst (v := 0) hx hb dX8_luck_22 rfl ?_
      refine lv_ldc2 (v := 8) hx hb hown q_2 dX8_luck_23 ?_
      obtain ⟨r_3, hf, h⟩ := b1_inv h
      refine k_callS (b := 0) (C := "") (host := "") fx hK hA hw (c_X8_in l D k _ p3.toInt64 0 8 r_3 hf) (va_cwS 3 hts gX8_luck_X8_in rfl rfl rfl (by decide +kernel) ⟨by decide, by decide⟩) (As := [.long p3.toInt64, .long 0, .long 8]) (wr := [(mh, .inr (8, [.ref mrSt, .ref mrNow, .ref mrIsKept, .int mPeople, .ref mrDraft, .int mDPeople, .int mHasDry, .int mToldDebts, .int mHighest, .ref mrTape, .int mTaped, .int mPos, .int mBegun, .int mSort, .int mValue, .int mFault, .int mWrongAt, .int mPaid, .ref mrRow, .int mRingMuch, .long mRideSum, .long mOwedSum, .long mAllWays, .ref mrRode, .ref mrWays, .ref mrLanes, .ref mrSizes, .ref mrCells, .int mTorn, .ref mrBefore])), (mrSt, .inl (k 0, 183, .inl mSt)), (mrNow, .inl (k 0, 61, .inl mNow)), (mrIsKept, .inl (k 1, 2, .inl mIsKept)), (mrDraft, .inl (k 0, 61, .inl mDraft)), (mrTape, .inl (k 0, 160, .inl mTape)), (mrRow, .inl (k 0, 5, .inl mRow)), (mrRode, .inl (k 0, 31, .inl mRode)), (mrWays, .inl (k 0, 31, .inl mWays)), (mrLanes, .inl (k 0, 4, .inl mLanes)), (mrSizes, .inl (k 0, 4, .inl mSizes)), (mrCells, .inl (k 0, 160, .inl mCells)), (mrBefore, .inl (k 0, 61, .inl mBefore))]) (ws' := wX8 k mh mrSt mrNow mrIsKept mrDraft mrTape mrRow mrRode mrWays mrLanes mrSizes mrCells mrBefore mSt mNow mIsKept mPeople mDraft mDPeople mHasDry mToldDebts mHighest mTape mTaped mPos mBegun mSort mValue mFault mWrongAt mPaid mRow mRingMuch mRideSum mOwedSum mAllWays mRode mWays mLanes mSizes mCells mTorn mBefore) [] [0, 1, 2, 3, 4, 5, 6, 7, 8, 9, 10, 11, 12] [0, 1, 2, 3, 4, 5, 6, 7, 8, 9, 10, 11, 12] rfl rfl (by decide) (by decide) (by decide) rfl (by decide) [] rfl hl.1 rfl (Nat.le_of_ble_eq_true rfl) dX8_luck_26 ⟨by decide, by decide⟩ (fun H locs (hw : Wd D A s.heap H locs (wX8 k mh mrSt mrNow mrIsKept mrDraft mrTape mrRow mrRode mrWays mrLanes mrSizes mrCells mrBefore mSt mNow mIsKept mPeople mDraft mDPeople mHasDry mToldDebts mHighest mTape mTaped mPos mBegun mSort mValue mFault mWrongAt mPaid mRow mRingMuch mRideSum mOwedSum mAllWays mRode mWays mLanes mSizes mCells mTorn mBefore)) => ?_)
      refine W.eq (g2 := F0 m 29 ls ([.int r_3])) rfl ?_
      refine kb_if_eq (tgt := 40) hx hb dX8_luck_29 (by decide) h (fun c_29 h => ?_) (fun c_29 h => ?_)
      · refine lv_ldc2 (v := -1) hx hb hown q_3 dX8_luck_40 ?_
        cases h
        exact k_lret hx hb hr hlocks hw rfl dX8_luck_43 hQ
      · refine lv_iload hx hb dX8_luck_32 (lv_at hl 4 rfl) ?_
        obtain ⟨r_4, hf, h⟩ := b1_inv h
        refine k_callS (b := 0) (C := "") (host := "") fx hK hA hw (c_X8_isPart l D k _ p4 r_4 hf) (va_cwS 1 hts gX8_luck_X8_isPart rfl rfl rfl (by decide +kernel) ⟨by decide, by decide⟩) (As := [.int p4]) (wr := [(mh, .inr (8, [.ref mrSt, .ref mrNow, .ref mrIsKept, .int mPeople, .ref mrDraft, .int mDPeople, .int mHasDry, .int mToldDebts, .int mHighest, .ref mrTape, .int mTaped, .int mPos, .int mBegun, .int mSort, .int mValue, .int mFault, .int mWrongAt, .int mPaid, .ref mrRow, .int mRingMuch, .long mRideSum, .long mOwedSum, .long mAllWays, .ref mrRode, .ref mrWays, .ref mrLanes, .ref mrSizes, .ref mrCells, .int mTorn, .ref mrBefore])), (mrSt, .inl (k 0, 183, .inl mSt)), (mrNow, .inl (k 0, 61, .inl mNow)), (mrIsKept, .inl (k 1, 2, .inl mIsKept)), (mrDraft, .inl (k 0, 61, .inl mDraft)), (mrTape, .inl (k 0, 160, .inl mTape)), (mrRow, .inl (k 0, 5, .inl mRow)), (mrRode, .inl (k 0, 31, .inl mRode)), (mrWays, .inl (k 0, 31, .inl mWays)), (mrLanes, .inl (k 0, 4, .inl mLanes)), (mrSizes, .inl (k 0, 4, .inl mSizes)), (mrCells, .inl (k 0, 160, .inl mCells)), (mrBefore, .inl (k 0, 61, .inl mBefore))]) (ws' := wX8 k mh mrSt mrNow mrIsKept mrDraft mrTape mrRow mrRode mrWays mrLanes mrSizes mrCells mrBefore mSt mNow mIsKept mPeople mDraft mDPeople mHasDry mToldDebts mHighest mTape mTaped mPos mBegun mSort mValue mFault mWrongAt mPaid mRow mRingMuch mRideSum mOwedSum mAllWays mRode mWays mLanes mSizes mCells mTorn mBefore) [] [0, 1, 2, 3, 4, 5, 6, 7, 8, 9, 10, 11, 12] [0, 1, 2, 3, 4, 5, 6, 7, 8, 9, 10, 11, 12] rfl rfl (by decide) (by decide) (by decide) rfl (by decide) [] rfl hl.1 rfl (Nat.le_of_ble_eq_true rfl) dX8_luck_34 ⟨by decide, by decide⟩ (fun H locs (hw : Wd D A s.heap H locs (wX8 k mh mrSt mrNow mrIsKept mrDraft mrTape mrRow mrRode mrWays mrLanes mrSizes mrCells mrBefore mSt mNow mIsKept mPeople mDraft mDPeople mHasDry mToldDebts mHighest mTape mTaped mPos mBegun mSort mValue mFault mWrongAt mPaid mRow mRingMuch mRideSum mOwedSum mAllWays mRode mWays mLanes mSizes mCells mTorn mBefore)) => ?_)
        refine W.eq (g2 := F0 m 37 ls ([.int r_4])) rfl ?_
        refine kb_if_ne (tgt := 44) hx hb dX8_luck_37 (by decide) h (fun c_37 h => ?_) (fun c_37 h => ?_)
        · refine lv_ldc2 (v := -1) hx hb hown q_3 dX8_luck_40 ?_
          cases h
          exact k_lret hx hb hr hlocks hw rfl dX8_luck_43 hQ
        · refine lv_aload_n hx hb dX8_luck_44 rfl (lv_at hl 0 rfl) ?_
          refine lv_iload_n hx hb dX8_luck_45 rfl (lv_at hl 1 rfl) ?_
          refine lv_iload_n hx hb dX8_luck_46 rfl (lv_at hl 2 rfl) ?_
          refine lv_iload_n hx hb dX8_luck_47 rfl (lv_at hl 3 rfl) ?_
          obtain ⟨mNow_5, mPaid_6, mRideSum_7, mOwedSum_8, mAllWays_9, hf, h⟩ := b5_inv h
          refine k_callV (host := "") fx hK hA hw (c_X8_findOdds l D k mh mrSt mrNow mrIsKept mrDraft mrTape mrRow mrRode mrWays mrLanes mrSizes mrCells mrBefore _ mSt mNow mIsKept mPeople mDraft mDPeople mHasDry mToldDebts mHighest mTape mTaped mPos mBegun mSort mValue mFault mWrongAt mPaid mRow mRingMuch mRideSum mOwedSum mAllWays mRode mWays mLanes mSizes mCells mTorn mBefore p1 p2 p3 mNow_5 mPaid_6 mRideSum_7 mOwedSum_8 mAllWays_9 hf) (cwV 3 hts gX8_luck_X8_findOdds rfl rfl rfl (by decide +kernel) ⟨by decide, by decide⟩) (As := [.int p1, .int p2, .int p3]) (wr := []) (ws' := wX8 k mh mrSt mrNow mrIsKept mrDraft mrTape mrRow mrRode mrWays mrLanes mrSizes mrCells mrBefore mSt mNow_5 mIsKept mPeople mDraft mDPeople mHasDry mToldDebts mHighest mTape mTaped mPos mBegun mSort mValue mFault mWrongAt mPaid_6 mRow mRingMuch mRideSum_7 mOwedSum_8 mAllWays_9 mRode mWays mLanes mSizes mCells mTorn mBefore) [0, 1, 2, 3, 4, 5, 6, 7, 8, 9, 10, 11, 12] [] [0, 1, 2, 3, 4, 5, 6, 7, 8, 9, 10, 11, 12] rfl rfl (by decide) (by decide) (by decide) rfl (by decide) 8 rfl rfl [] rfl hl.1 rfl (Nat.le_of_ble_eq_true rfl) dX8_luck_48 ⟨by decide, by decide⟩ (fun H locs (hw : Wd D A s.heap H locs (wX8 k mh mrSt mrNow mrIsKept mrDraft mrTape mrRow mrRode mrWays mrLanes mrSizes mrCells mrBefore mSt mNow_5 mIsKept mPeople mDraft mDPeople mHasDry mToldDebts mHighest mTape mTaped mPos mBegun mSort mValue mFault mWrongAt mPaid_6 mRow mRingMuch mRideSum_7 mOwedSum_8 mAllWays_9 mRode mWays mLanes mSizes mCells mTorn mBefore)) => ?_)
          refine W.eq (g2 := F0 m 51 ls ([])) rfl ?_
          refine lv_aload_n hx hb dX8_luck_51 rfl (lv_at hl 0 rfl) ?_
          refine va_get (ci := 8) (v := .long mRideSum_7) (C := RX8) (T := TX8) (N := 30) hx hb hts hinX8 hown hK.1 hw.1 0 rfl rfl 20 (by decide) q_4 (fun _ h9 => h9) rfl dX8_luck_52 ?_
          refine lv_aload_n hx hb dX8_luck_55 rfl (lv_at hl 0 rfl) ?_
          refine va_get (ci := 8) (v := .long mAllWays_9) (C := RX8) (T := TX8) (N := 30) hx hb hts hinX8 hown hK.1 hw.1 0 rfl rfl 22 (by decide) q_5 (fun _ h9 => h9) rfl dX8_luck_56 ?_
          refine lv_iload hx hb dX8_luck_59 (lv_at hl 4 rfl) ?_
          obtain ⟨r_10, hf, h⟩ := b1_inv h
          refine k_callS (b := 0) (C := "") (host := "") fx hK hA hw (c_X8_told l D k _ mRideSum_7 mAllWays_9 p4 r_10 hf) (va_cwS 3 hts gX8_luck_X8_told rfl rfl rfl (by decide +kernel) ⟨by decide, by decide⟩) (As := [.long mRideSum_7, .long mAllWays_9, .int p4]) (wr := [(mh, .inr (8, [.ref mrSt, .ref mrNow, .ref mrIsKept, .int mPeople, .ref mrDraft, .int mDPeople, .int mHasDry, .int mToldDebts, .int mHighest, .ref mrTape, .int mTaped, .int mPos, .int mBegun, .int mSort, .int mValue, .int mFault, .int mWrongAt, .int mPaid_6, .ref mrRow, .int mRingMuch, .long mRideSum_7, .long mOwedSum_8, .long mAllWays_9, .ref mrRode, .ref mrWays, .ref mrLanes, .ref mrSizes, .ref mrCells, .int mTorn, .ref mrBefore])), (mrSt, .inl (k 0, 183, .inl mSt)), (mrNow, .inl (k 0, 61, .inl mNow_5)), (mrIsKept, .inl (k 1, 2, .inl mIsKept)), (mrDraft, .inl (k 0, 61, .inl mDraft)), (mrTape, .inl (k 0, 160, .inl mTape)), (mrRow, .inl (k 0, 5, .inl mRow)), (mrRode, .inl (k 0, 31, .inl mRode)), (mrWays, .inl (k 0, 31, .inl mWays)), (mrLanes, .inl (k 0, 4, .inl mLanes)), (mrSizes, .inl (k 0, 4, .inl mSizes)), (mrCells, .inl (k 0, 160, .inl mCells)), (mrBefore, .inl (k 0, 61, .inl mBefore))]) (ws' := wX8 k mh mrSt mrNow mrIsKept mrDraft mrTape mrRow mrRode mrWays mrLanes mrSizes mrCells mrBefore mSt mNow_5 mIsKept mPeople mDraft mDPeople mHasDry mToldDebts mHighest mTape mTaped mPos mBegun mSort mValue mFault mWrongAt mPaid_6 mRow mRingMuch mRideSum_7 mOwedSum_8 mAllWays_9 mRode mWays mLanes mSizes mCells mTorn mBefore) [] [0, 1, 2, 3, 4, 5, 6, 7, 8, 9, 10, 11, 12] [0, 1, 2, 3, 4, 5, 6, 7, 8, 9, 10, 11, 12] rfl rfl (by decide) (by decide) (by decide) rfl (by decide) [] rfl hl.1 rfl (Nat.le_of_ble_eq_true rfl) dX8_luck_61 ⟨by decide, by decide⟩ (fun H locs (hw : Wd D A s.heap H locs (wX8 k mh mrSt mrNow mrIsKept mrDraft mrTape mrRow mrRode mrWays mrLanes mrSizes mrCells mrBefore mSt mNow_5 mIsKept mPeople mDraft mDPeople mHasDry mToldDebts mHighest mTape mTaped mPos mBegun mSort mValue mFault mWrongAt mPaid_6 mRow mRingMuch mRideSum_7 mOwedSum_8 mAllWays_9 mRode mWays mLanes mSizes mCells mTorn mBefore)) => ?_)
          refine W.eq (g2 := F0 m 64 ls ([.long r_10])) rfl ?_
          cases h
          exact k_lret hx hb hr hlocks hw rfl dX8_luck_64 hQ
abbrev rmX8_mean : Room := { frames := 5, cells := 0, slots := 0, locals := 120 }
set_option maxHeartbeats 4000000 in
set_option maxRecDepth 100000 in
theorem c_X8_mean (l : Launch) (D : va_G) (k : Nat → ClassId) (mh mrSt mrNow mrIsKept mrDraft mrTape mrRow mrRode mrWays mrLanes mrSizes mrCells mrBefore : Nat) (sz : Nat) (mSt : (Nat → Int32)) (mNow : (Nat → Int32)) (mIsKept : (Nat → Int32)) (mPeople : Int32) (mDraft : (Nat → Int32)) (mDPeople : Int32) (mHasDry : Int32) (mToldDebts : Int32) (mHighest : Int32) (mTape : (Nat → Int32)) (mTaped : Int32) (mPos : Int32) (mBegun : Int32) (mSort : Int32) (mValue : Int32) (mFault : Int32) (mWrongAt : Int32) (mPaid : Int32) (mRow : (Nat → Int32)) (mRingMuch : Int32) (mRideSum : Int64) (mOwedSum : Int64) (mAllWays : Int64) (mRode : (Nat → Int32)) (mWays : (Nat → Int32)) (mLanes : (Nat → Int32)) (mSizes : (Nat → Int32)) (mCells : (Nat → Int32)) (mTorn : Int32) (mBefore : (Nat → Int32)) (p1 : Int32) (p2 : Int32) (p3 : Int32) (r_ : Int64) (n_mNow : (Nat → Int32)) (n_mPaid : Int32) (n_mRideSum : Int64) (n_mOwedSum : Int64) (n_mAllWays : Int64) (hf : f_X8_mean mSt mNow mPeople mPaid mRideSum mOwedSum mAllWays p1 p2 p3 = some (r_, n_mNow, n_mPaid, n_mRideSum, n_mOwedSum, n_mAllWays)) : mR l yX8_mean wsX8_mean rmX8_mean D k sz [.ref mh, .int p1, .int p2, .int p3] (wX8 k mh mrSt mrNow mrIsKept mrDraft mrTape mrRow mrRode mrWays mrLanes mrSizes mrCells mrBefore mSt mNow mIsKept mPeople mDraft mDPeople mHasDry mToldDebts mHighest mTape mTaped mPos mBegun mSort mValue mFault mWrongAt mPaid mRow mRingMuch mRideSum mOwedSum mAllWays mRode mWays mLanes mSizes mCells mTorn mBefore) (wX8 k mh mrSt mrNow mrIsKept mrDraft mrTape mrRow mrRode mrWays mrLanes mrSizes mrCells mrBefore mSt n_mNow mIsKept mPeople mDraft mDPeople mHasDry mToldDebts mHighest mTape mTaped mPos mBegun mSort mValue mFault mWrongAt n_mPaid mRow mRingMuch n_mRideSum n_mOwedSum n_mAllWays mRode mWays mLanes mSizes mCells mTorn mBefore) (some (.long r_)) := by
  refine mR_of (cc := cX8_mean) (maxL := 4) (ret := some .long) (by decide) rfl (Nat.le_of_ble_eq_true rfl) [(0, .ref mh), (1, .int p1), (2, .int p2), (3, .int p3)] rfl ?_
  intro p e s m below meth c A ls args Q cx hK hA hw hl hQ
  have fx := cx.1
  obtain ⟨⟨hx, hb, hml, hown, hts⟩, hr, hlocks⟩ := cx
  have hinX8 : ∀ w ∈ wsX80, w ∈ wsX8_mean := fun w h => List.mem_cons_of_mem _ (List.mem_append_right _ h)
  have q_1 := hts (.constantLong RX8 251 (10)) (List.mem_of_getElem? (i := 1) rfl)
  have q_3 := hts (.constantLong RX8 283 (-1)) (List.mem_of_getElem? (i := 3) rfl)
  have q_2 := hts (.constantLong RX8 281 (8)) (List.mem_of_getElem? (i := 2) rfl)
  have q_4 := hts (.fieldLink RX8 275 "DebtRidesModel" "owedSum" "J") (List.mem_of_getElem? (i := 4) rfl)
  have q_5 := hts (.fieldLink RX8 278 "DebtRidesModel" "allWays" "J") (List.mem_of_getElem? (i := 5) rfl)
  have h := hf
  unfold f_X8_mean at h
  clear hf
  refine lv_iload_n hx hb dX8_mean_0 rfl (lv_at hl 1 rfl) ?_
  refine lv_i2l hx hb dX8_mean_1 rfl ?_
  refine lv_lconst (v := 0) hx hb dX8_mean_2 rfl ?_
  refine lv_ldc2 (v := 10) hx hb hown q_1 dX8_mean_3 ?_
  obtain ⟨r_1, hf, h⟩ := b1_inv h
  refine k_callS (b := 0) (C := "") (host := "") fx hK hA hw (c_X8_in l D k _ p1.toInt64 0 10 r_1 hf) (va_cwS 3 hts gX8_mean_X8_in rfl rfl rfl (by decide +kernel) ⟨by decide, by decide⟩) (As := [.long p1.toInt64, .long 0, .long 10]) (wr := [(mh, .inr (8, [.ref mrSt, .ref mrNow, .ref mrIsKept, .int mPeople, .ref mrDraft, .int mDPeople, .int mHasDry, .int mToldDebts, .int mHighest, .ref mrTape, .int mTaped, .int mPos, .int mBegun, .int mSort, .int mValue, .int mFault, .int mWrongAt, .int mPaid, .ref mrRow, .int mRingMuch, .long mRideSum, .long mOwedSum, .long mAllWays, .ref mrRode, .ref mrWays, .ref mrLanes, .ref mrSizes, .ref mrCells, .int mTorn, .ref mrBefore])), (mrSt, .inl (k 0, 183, .inl mSt)), (mrNow, .inl (k 0, 61, .inl mNow)), (mrIsKept, .inl (k 1, 2, .inl mIsKept)), (mrDraft, .inl (k 0, 61, .inl mDraft)), (mrTape, .inl (k 0, 160, .inl mTape)), (mrRow, .inl (k 0, 5, .inl mRow)), (mrRode, .inl (k 0, 31, .inl mRode)), (mrWays, .inl (k 0, 31, .inl mWays)), (mrLanes, .inl (k 0, 4, .inl mLanes)), (mrSizes, .inl (k 0, 4, .inl mSizes)), (mrCells, .inl (k 0, 160, .inl mCells)), (mrBefore, .inl (k 0, 61, .inl mBefore))]) (ws' := wX8 k mh mrSt mrNow mrIsKept mrDraft mrTape mrRow mrRode mrWays mrLanes mrSizes mrCells mrBefore mSt mNow mIsKept mPeople mDraft mDPeople mHasDry mToldDebts mHighest mTape mTaped mPos mBegun mSort mValue mFault mWrongAt mPaid mRow mRingMuch mRideSum mOwedSum mAllWays mRode mWays mLanes mSizes mCells mTorn mBefore) [] [0, 1, 2, 3, 4, 5, 6, 7, 8, 9, 10, 11, 12] [0, 1, 2, 3, 4, 5, 6, 7, 8, 9, 10, 11, 12] rfl rfl (by decide) (by decide) (by decide) rfl (by decide) [] rfl hl.1 rfl (Nat.le_of_ble_eq_true rfl) dX8_mean_6 ⟨by decide, by decide⟩ (fun H locs (hw : Wd D A s.heap H locs (wX8 k mh mrSt mrNow mrIsKept mrDraft mrTape mrRow mrRode mrWays mrLanes mrSizes mrCells mrBefore mSt mNow mIsKept mPeople mDraft mDPeople mHasDry mToldDebts mHighest mTape mTaped mPos mBegun mSort mValue mFault mWrongAt mPaid mRow mRingMuch mRideSum mOwedSum mAllWays mRode mWays mLanes mSizes mCells mTorn mBefore)) => ?_)
  refine W.eq (g2 := F0 m 9 ls ([.int r_1])) rfl ?_
  refine kb_if_eq (tgt := 31) hx hb dX8_mean_9 (by decide) h (fun c_9 h => ?_) (fun c_9 h => ?_)
  · refine lv_ldc2 (v := -1) hx hb hown q_3 dX8_mean_31 ?_
    cases h
    exact k_lret hx hb hr hlocks hw rfl dX8_mean_34 hQ
  · refine lv_iload_n hx hb dX8_mean_12 rfl (lv_at hl 2 rfl) ?_
    refine lv_i2l hx hb dX8_mean_13 rfl ?_
    refine lv_lconst (v := 0) hx hb dX8_mean_14 rfl ?_
    refine lv_ldc2 (v := 8) hx hb hown q_2 dX8_mean_15 ?_
    obtain ⟨r_2, hf, h⟩ := b1_inv h
    refine k_callS (b := 0) (C := "") (host := "") fx hK hA hw (c_X8_in l D k _ p2.toInt64 0 8 r_2 hf) (va_cwS 3 hts gX8_mean_X8_in rfl rfl rfl (by decide +kernel) ⟨by decide, by decide⟩) (As := [.long p2.toInt64, .long 0, .long 8]) (wr := [(mh, .inr (8, [.ref mrSt, .ref mrNow, .ref mrIsKept, .int mPeople, .ref mrDraft, .int mDPeople, .int mHasDry, .int mToldDebts, .int mHighest, .ref mrTape, .int mTaped, .int mPos, .int mBegun, .int mSort, .int mValue, .int mFault, .int mWrongAt, .int mPaid, .ref mrRow, .int mRingMuch, .long mRideSum, .long mOwedSum, .long mAllWays, .ref mrRode, .ref mrWays, .ref mrLanes, .ref mrSizes, .ref mrCells, .int mTorn, .ref mrBefore])), (mrSt, .inl (k 0, 183, .inl mSt)), (mrNow, .inl (k 0, 61, .inl mNow)), (mrIsKept, .inl (k 1, 2, .inl mIsKept)), (mrDraft, .inl (k 0, 61, .inl mDraft)), (mrTape, .inl (k 0, 160, .inl mTape)), (mrRow, .inl (k 0, 5, .inl mRow)), (mrRode, .inl (k 0, 31, .inl mRode)), (mrWays, .inl (k 0, 31, .inl mWays)), (mrLanes, .inl (k 0, 4, .inl mLanes)), (mrSizes, .inl (k 0, 4, .inl mSizes)), (mrCells, .inl (k 0, 160, .inl mCells)), (mrBefore, .inl (k 0, 61, .inl mBefore))]) (ws' := wX8 k mh mrSt mrNow mrIsKept mrDraft mrTape mrRow mrRode mrWays mrLanes mrSizes mrCells mrBefore mSt mNow mIsKept mPeople mDraft mDPeople mHasDry mToldDebts mHighest mTape mTaped mPos mBegun mSort mValue mFault mWrongAt mPaid mRow mRingMuch mRideSum mOwedSum mAllWays mRode mWays mLanes mSizes mCells mTorn mBefore) [] [0, 1, 2, 3, 4, 5, 6, 7, 8, 9, 10, 11, 12] [0, 1, 2, 3, 4, 5, 6, 7, 8, 9, 10, 11, 12] rfl rfl (by decide) (by decide) (by decide) rfl (by decide) [] rfl hl.1 rfl (Nat.le_of_ble_eq_true rfl) dX8_mean_18 ⟨by decide, by decide⟩ (fun H locs (hw : Wd D A s.heap H locs (wX8 k mh mrSt mrNow mrIsKept mrDraft mrTape mrRow mrRode mrWays mrLanes mrSizes mrCells mrBefore mSt mNow mIsKept mPeople mDraft mDPeople mHasDry mToldDebts mHighest mTape mTaped mPos mBegun mSort mValue mFault mWrongAt mPaid mRow mRingMuch mRideSum mOwedSum mAllWays mRode mWays mLanes mSizes mCells mTorn mBefore)) => ?_)
    refine W.eq (g2 := F0 m 21 ls ([.int r_2])) rfl ?_
    refine kb_if_eq (tgt := 31) hx hb dX8_mean_21 (by decide) h (fun c_21 h => ?_) (fun c_21 h => ?_)
    · refine lv_ldc2 (v := -1) hx hb hown q_3 dX8_mean_31 ?_
      cases h
      exact k_lret hx hb hr hlocks hw rfl dX8_mean_34 hQ
    · refine lv_iload_n hx hb dX8_mean_24 rfl (lv_at hl 3 rfl) ?_
      obtain ⟨r_3, hf, h⟩ := b1_inv h
      refine k_callS (b := 0) (C := "") (host := "") fx hK hA hw (c_X8_isPart l D k _ p3 r_3 hf) (va_cwS 1 hts gX8_mean_X8_isPart rfl rfl rfl (by decide +kernel) ⟨by decide, by decide⟩) (As := [.int p3]) (wr := [(mh, .inr (8, [.ref mrSt, .ref mrNow, .ref mrIsKept, .int mPeople, .ref mrDraft, .int mDPeople, .int mHasDry, .int mToldDebts, .int mHighest, .ref mrTape, .int mTaped, .int mPos, .int mBegun, .int mSort, .int mValue, .int mFault, .int mWrongAt, .int mPaid, .ref mrRow, .int mRingMuch, .long mRideSum, .long mOwedSum, .long mAllWays, .ref mrRode, .ref mrWays, .ref mrLanes, .ref mrSizes, .ref mrCells, .int mTorn, .ref mrBefore])), (mrSt, .inl (k 0, 183, .inl mSt)), (mrNow, .inl (k 0, 61, .inl mNow)), (mrIsKept, .inl (k 1, 2, .inl mIsKept)), (mrDraft, .inl (k 0, 61, .inl mDraft)), (mrTape, .inl (k 0, 160, .inl mTape)), (mrRow, .inl (k 0, 5, .inl mRow)), (mrRode, .inl (k 0, 31, .inl mRode)), (mrWays, .inl (k 0, 31, .inl mWays)), (mrLanes, .inl (k 0, 4, .inl mLanes)), (mrSizes, .inl (k 0, 4, .inl mSizes)), (mrCells, .inl (k 0, 160, .inl mCells)), (mrBefore, .inl (k 0, 61, .inl mBefore))]) (ws' := wX8 k mh mrSt mrNow mrIsKept mrDraft mrTape mrRow mrRode mrWays mrLanes mrSizes mrCells mrBefore mSt mNow mIsKept mPeople mDraft mDPeople mHasDry mToldDebts mHighest mTape mTaped mPos mBegun mSort mValue mFault mWrongAt mPaid mRow mRingMuch mRideSum mOwedSum mAllWays mRode mWays mLanes mSizes mCells mTorn mBefore) [] [0, 1, 2, 3, 4, 5, 6, 7, 8, 9, 10, 11, 12] [0, 1, 2, 3, 4, 5, 6, 7, 8, 9, 10, 11, 12] rfl rfl (by decide) (by decide) (by decide) rfl (by decide) [] rfl hl.1 rfl (Nat.le_of_ble_eq_true rfl) dX8_mean_25 ⟨by decide, by decide⟩ (fun H locs (hw : Wd D A s.heap H locs (wX8 k mh mrSt mrNow mrIsKept mrDraft mrTape mrRow mrRode mrWays mrLanes mrSizes mrCells mrBefore mSt mNow mIsKept mPeople mDraft mDPeople mHasDry mToldDebts mHighest mTape mTaped mPos mBegun mSort mValue mFault mWrongAt mPaid mRow mRingMuch mRideSum mOwedSum mAllWays mRode mWays mLanes mSizes mCells mTorn mBefore)) => ?_)
      refine W.eq (g2 := F0 m 28 ls ([.int r_3])) rfl ?_
      refine kb_if_ne (tgt := 35) hx hb dX8_mean_28 (by decide) h (fun c_28 h => ?_) (fun c_28 h => ?_)
      · refine lv_ldc2 (v := -1) hx hb hown q_3 dX8_mean_31 ?_
        cases h
        exact k_lret hx hb hr hlocks hw rfl dX8_mean_34 hQ
      · refine lv_aload_n hx hb dX8_mean_35 rfl (lv_at hl 0 rfl) ?_
        refine lv_iload_n hx hb dX8_mean_36 rfl (lv_at hl 1 rfl) ?_
        refine lv_bipush (v := (-4)) hx hb dX8_mean_37 (by decide) ?_
        refine lv_iload_n hx hb dX8_mean_39 rfl (lv_at hl 2 rfl) ?_
        obtain ⟨mNow_4, mPaid_5, mRideSum_6, mOwedSum_7, mAllWays_8, hf, h⟩ := b5_inv h
        refine k_callV (host := "") fx hK hA hw (c_X8_findOdds l D k mh mrSt mrNow mrIsKept mrDraft mrTape mrRow mrRode mrWays mrLanes mrSizes mrCells mrBefore _ mSt mNow mIsKept mPeople mDraft mDPeople mHasDry mToldDebts mHighest mTape mTaped mPos mBegun mSort mValue mFault mWrongAt mPaid mRow mRingMuch mRideSum mOwedSum mAllWays mRode mWays mLanes mSizes mCells mTorn mBefore p1 (-4) p2 mNow_4 mPaid_5 mRideSum_6 mOwedSum_7 mAllWays_8 hf) (cwV 3 hts gX8_mean_X8_findOdds rfl rfl rfl (by decide +kernel) ⟨by decide, by decide⟩) (As := [.int p1, .int (-4), .int p2]) (wr := []) (ws' := wX8 k mh mrSt mrNow mrIsKept mrDraft mrTape mrRow mrRode mrWays mrLanes mrSizes mrCells mrBefore mSt mNow_4 mIsKept mPeople mDraft mDPeople mHasDry mToldDebts mHighest mTape mTaped mPos mBegun mSort mValue mFault mWrongAt mPaid_5 mRow mRingMuch mRideSum_6 mOwedSum_7 mAllWays_8 mRode mWays mLanes mSizes mCells mTorn mBefore) [0, 1, 2, 3, 4, 5, 6, 7, 8, 9, 10, 11, 12] [] [0, 1, 2, 3, 4, 5, 6, 7, 8, 9, 10, 11, 12] rfl rfl (by decide) (by decide) (by decide) rfl (by decide) 8 rfl rfl [] rfl hl.1 rfl (Nat.le_of_ble_eq_true rfl) dX8_mean_40 ⟨by decide, by decide⟩ (fun H locs (hw : Wd D A s.heap H locs (wX8 k mh mrSt mrNow mrIsKept mrDraft mrTape mrRow mrRode mrWays mrLanes mrSizes mrCells mrBefore mSt mNow_4 mIsKept mPeople mDraft mDPeople mHasDry mToldDebts mHighest mTape mTaped mPos mBegun mSort mValue mFault mWrongAt mPaid_5 mRow mRingMuch mRideSum_6 mOwedSum_7 mAllWays_8 mRode mWays mLanes mSizes mCells mTorn mBefore)) => ?_)
        refine W.eq (g2 := F0 m 43 ls ([])) rfl ?_
        refine lv_aload_n hx hb dX8_mean_43 rfl (lv_at hl 0 rfl) ?_
        refine va_get (ci := 8) (v := .long mOwedSum_7) (C := RX8) (T := TX8) (N := 30) hx hb hts hinX8 hown hK.1 hw.1 0 rfl rfl 21 (by decide) q_4 (fun _ h9 => h9) rfl dX8_mean_44 ?_
        refine lv_aload_n hx hb dX8_mean_47 rfl (lv_at hl 0 rfl) ?_
        refine va_get (ci := 8) (v := .long mAllWays_8) (C := RX8) (T := TX8) (N := 30) hx hb hts hinX8 hown hK.1 hw.1 0 rfl rfl 22 (by decide) q_5 (fun _ h9 => h9) rfl dX8_mean_48 ?_
        refine lv_iload_n hx hb dX8_mean_51 rfl (lv_at hl 3 rfl) ?_
        obtain ⟨r_9, hf, h⟩ := b1_inv h
        refine k_callS (b := 0) (C := "") (host := "") fx hK hA hw (c_X8_told l D k _ mOwedSum_7 mAllWays_8 p3 r_9 hf) (va_cwS 3 hts gX8_mean_X8_told rfl rfl rfl (by decide +kernel) ⟨by decide, by decide⟩) (As := [.long mOwedSum_7, .long mAllWays_8, .int p3]) (wr := [(mh, .inr (8, [.ref mrSt, .ref mrNow, .ref mrIsKept, .int mPeople, .ref mrDraft, .int mDPeople, .int mHasDry, .int mToldDebts, .int mHighest, .ref mrTape, .int mTaped, .int mPos, .int mBegun, .int mSort, .int mValue, .int mFault, .int mWrongAt, .int mPaid_5, .ref mrRow, .int mRingMuch, .long mRideSum_6, .long mOwedSum_7, .long mAllWays_8, .ref mrRode, .ref mrWays, .ref mrLanes, .ref mrSizes, .ref mrCells, .int mTorn, .ref mrBefore])), (mrSt, .inl (k 0, 183, .inl mSt)), (mrNow, .inl (k 0, 61, .inl mNow_4)), (mrIsKept, .inl (k 1, 2, .inl mIsKept)), (mrDraft, .inl (k 0, 61, .inl mDraft)), (mrTape, .inl (k 0, 160, .inl mTape)), (mrRow, .inl (k 0, 5, .inl mRow)), (mrRode, .inl (k 0, 31, .inl mRode)), (mrWays, .inl (k 0, 31, .inl mWays)), (mrLanes, .inl (k 0, 4, .inl mLanes)), (mrSizes, .inl (k 0, 4, .inl mSizes)), (mrCells, .inl (k 0, 160, .inl mCells)), (mrBefore, .inl (k 0, 61, .inl mBefore))]) (ws' := wX8 k mh mrSt mrNow mrIsKept mrDraft mrTape mrRow mrRode mrWays mrLanes mrSizes mrCells mrBefore mSt mNow_4 mIsKept mPeople mDraft mDPeople mHasDry mToldDebts mHighest mTape mTaped mPos mBegun mSort mValue mFault mWrongAt mPaid_5 mRow mRingMuch mRideSum_6 mOwedSum_7 mAllWays_8 mRode mWays mLanes mSizes mCells mTorn mBefore) [] [0, 1, 2, 3, 4, 5, 6, 7, 8, 9, 10, 11, 12] [0, 1, 2, 3, 4, 5, 6, 7, 8, 9, 10, 11, 12] rfl rfl (by decide) (by decide) (by decide) rfl (by decide) [] rfl hl.1 rfl (Nat.le_of_ble_eq_true rfl) dX8_mean_52 ⟨by decide, by decide⟩ (fun H locs (hw : Wd D A s.heap H locs (wX8 k mh mrSt mrNow mrIsKept mrDraft mrTape mrRow mrRode mrWays mrLanes mrSizes mrCells mrBefore mSt mNow_4 mIsKept mPeople mDraft mDPeople mHasDry mToldDebts mHighest mTape mTaped mPos mBegun mSort mValue mFault mWrongAt mPaid_5 mRow mRingMuch mRideSum_6 mOwedSum_7 mAllWays_8 mRode mWays mLanes mSizes mCells mTorn mBefore)) => ?_)
        refine W.eq (g2 := F0 m 55 ls ([.long r_9])) rfl ?_
        cases h
        exact k_lret hx hb hr hlocks hw rfl dX8_mean_55 hQ
abbrev rmX8_meet : Room := { frames := 3, cells := 0, slots := 0, locals := 68 }
set_option maxHeartbeats 4000000 in
set_option maxRecDepth 100000 in
theorem c_X8_meet (l : Launch) (D : va_G) (k : Nat → ClassId) (mh mrSt mrNow mrIsKept mrDraft mrTape mrRow mrRode mrWays mrLanes mrSizes mrCells mrBefore : Nat) (sz : Nat) (mSt : (Nat → Int32)) (mNow : (Nat → Int32)) (mIsKept : (Nat → Int32)) (mPeople : Int32) (mDraft : (Nat → Int32)) (mDPeople : Int32) (mHasDry : Int32) (mToldDebts : Int32) (mHighest : Int32) (mTape : (Nat → Int32)) (mTaped : Int32) (mPos : Int32) (mBegun : Int32) (mSort : Int32) (mValue : Int32) (mFault : Int32) (mWrongAt : Int32) (mPaid : Int32) (mRow : (Nat → Int32)) (mRingMuch : Int32) (mRideSum : Int64) (mOwedSum : Int64) (mAllWays : Int64) (mRode : (Nat → Int32)) (mWays : (Nat → Int32)) (mLanes : (Nat → Int32)) (mSizes : (Nat → Int32)) (mCells : (Nat → Int32)) (mTorn : Int32) (mBefore : (Nat → Int32)) (p1 : Int32) (p2 : Int32) (r_ : Int32) (n_mNow : (Nat → Int32)) (hf : f_X8_meet mSt mNow mPeople p1 p2 = some (r_, n_mNow)) : mR l yX8_meet wsX8_meet rmX8_meet D k sz [.ref mh, .int p1, .int p2] (wX8 k mh mrSt mrNow mrIsKept mrDraft mrTape mrRow mrRode mrWays mrLanes mrSizes mrCells mrBefore mSt mNow mIsKept mPeople mDraft mDPeople mHasDry mToldDebts mHighest mTape mTaped mPos mBegun mSort mValue mFault mWrongAt mPaid mRow mRingMuch mRideSum mOwedSum mAllWays mRode mWays mLanes mSizes mCells mTorn mBefore) (wX8 k mh mrSt mrNow mrIsKept mrDraft mrTape mrRow mrRode mrWays mrLanes mrSizes mrCells mrBefore mSt n_mNow mIsKept mPeople mDraft mDPeople mHasDry mToldDebts mHighest mTape mTaped mPos mBegun mSort mValue mFault mWrongAt mPaid mRow mRingMuch mRideSum mOwedSum mAllWays mRode mWays mLanes mSizes mCells mTorn mBefore) (some (.int r_)) := by
  refine mR_of (cc := cX8_meet) (maxL := 5) (ret := some .int) (by decide) rfl (Nat.le_of_ble_eq_true rfl) [(0, .ref mh), (1, .int p1), (2, .int p2)] rfl ?_
  intro p e s m below meth c A ls args Q cx hK hA hw hl hQ
  have fx := cx.1
  obtain ⟨⟨hx, hb, hml, hown, hts⟩, hr, hlocks⟩ := cx
  have h := hf
  unfold f_X8_meet at h
  clear hf
  refine lv_aload_n hx hb dX8_meet_0 rfl (lv_at hl 0 rfl) ?_
  refine lv_iload_n hx hb dX8_meet_1 rfl (lv_at hl 1 rfl) ?_
  refine lv_iload_n hx hb dX8_meet_2 rfl (lv_at hl 2 rfl) ?_
  obtain ⟨r_1, hf, h⟩ := b1_inv h
  refine k_callV (host := "") fx hK hA hw (c_X8_areTwo l D k mh mrSt mrNow mrIsKept mrDraft mrTape mrRow mrRode mrWays mrLanes mrSizes mrCells mrBefore _ mSt mNow mIsKept mPeople mDraft mDPeople mHasDry mToldDebts mHighest mTape mTaped mPos mBegun mSort mValue mFault mWrongAt mPaid mRow mRingMuch mRideSum mOwedSum mAllWays mRode mWays mLanes mSizes mCells mTorn mBefore p1 p2 r_1 hf) (cwV 2 hts gX8_meet_X8_areTwo rfl rfl rfl (by decide +kernel) ⟨by decide, by decide⟩) (As := [.int p1, .int p2]) (wr := []) (ws' := wX8 k mh mrSt mrNow mrIsKept mrDraft mrTape mrRow mrRode mrWays mrLanes mrSizes mrCells mrBefore mSt mNow mIsKept mPeople mDraft mDPeople mHasDry mToldDebts mHighest mTape mTaped mPos mBegun mSort mValue mFault mWrongAt mPaid mRow mRingMuch mRideSum mOwedSum mAllWays mRode mWays mLanes mSizes mCells mTorn mBefore) [0, 1, 2, 3, 4, 5, 6, 7, 8, 9, 10, 11, 12] [] [0, 1, 2, 3, 4, 5, 6, 7, 8, 9, 10, 11, 12] rfl rfl (by decide) (by decide) (by decide) rfl (by decide) 8 rfl rfl [] rfl hl.1 rfl (Nat.le_of_ble_eq_true rfl) dX8_meet_3 ⟨by decide, by decide⟩ (fun H locs (hw : Wd D A s.heap H locs (wX8 k mh mrSt mrNow mrIsKept mrDraft mrTape mrRow mrRode mrWays mrLanes mrSizes mrCells mrBefore mSt mNow mIsKept mPeople mDraft mDPeople mHasDry mToldDebts mHighest mTape mTaped mPos mBegun mSort mValue mFault mWrongAt mPaid mRow mRingMuch mRideSum mOwedSum mAllWays mRode mWays mLanes mSizes mCells mTorn mBefore)) => ?_)
  refine W.eq (g2 := F0 m 6 ls ([.int r_1])) rfl ?_
  refine kb_if_ne (tgt := 11) hx hb dX8_meet_6 (by decide) h (fun c_6 h => ?_) (fun c_6 h => ?_)
  · refine lv_iconst (v := (-1)) hx hb dX8_meet_9 (by decide) ?_
    cases h
    exact k_iret hx hb hr hlocks hw rfl dX8_meet_10 hQ
  · refine lv_aload_n hx hb dX8_meet_11 rfl (lv_at hl 0 rfl) ?_
    obtain ⟨mNow_2, hf, h⟩ := b1_inv h
    refine k_callV (host := "") fx hK hA hw (c_X8_starts l D k mh mrSt mrNow mrIsKept mrDraft mrTape mrRow mrRode mrWays mrLanes mrSizes mrCells mrBefore _ mSt mNow mIsKept mPeople mDraft mDPeople mHasDry mToldDebts mHighest mTape mTaped mPos mBegun mSort mValue mFault mWrongAt mPaid mRow mRingMuch mRideSum mOwedSum mAllWays mRode mWays mLanes mSizes mCells mTorn mBefore mNow_2 hf) (cwV 0 hts gX8_meet_X8_starts rfl rfl rfl (by decide +kernel) ⟨by decide, by decide⟩) (As := []) (wr := []) (ws' := wX8 k mh mrSt mrNow mrIsKept mrDraft mrTape mrRow mrRode mrWays mrLanes mrSizes mrCells mrBefore mSt mNow_2 mIsKept mPeople mDraft mDPeople mHasDry mToldDebts mHighest mTape mTaped mPos mBegun mSort mValue mFault mWrongAt mPaid mRow mRingMuch mRideSum mOwedSum mAllWays mRode mWays mLanes mSizes mCells mTorn mBefore) [0, 1, 2, 3, 4, 5, 6, 7, 8, 9, 10, 11, 12] [] [0, 1, 2, 3, 4, 5, 6, 7, 8, 9, 10, 11, 12] rfl rfl (by decide) (by decide) (by decide) rfl (by decide) 8 rfl rfl [] rfl hl.1 rfl (Nat.le_of_ble_eq_true rfl) dX8_meet_12 ⟨by decide, by decide⟩ (fun H locs (hw : Wd D A s.heap H locs (wX8 k mh mrSt mrNow mrIsKept mrDraft mrTape mrRow mrRode mrWays mrLanes mrSizes mrCells mrBefore mSt mNow_2 mIsKept mPeople mDraft mDPeople mHasDry mToldDebts mHighest mTape mTaped mPos mBegun mSort mValue mFault mWrongAt mPaid mRow mRingMuch mRideSum mOwedSum mAllWays mRode mWays mLanes mSizes mCells mTorn mBefore)) => ?_)
    refine W.eq (g2 := F0 m 15 ls ([])) rfl ?_
    refine lv_aload_n hx hb dX8_meet_15 rfl (lv_at hl 0 rfl) ?_
    refine lv_iload_n hx hb dX8_meet_16 rfl (lv_at hl 1 rfl) ?_
    obtain ⟨r_3, hf, h⟩ := b1_inv h
    refine k_callV (host := "") fx hK hA hw (c_X8_height l D k mh mrSt mrNow mrIsKept mrDraft mrTape mrRow mrRode mrWays mrLanes mrSizes mrCells mrBefore _ mSt mNow_2 mIsKept mPeople mDraft mDPeople mHasDry mToldDebts mHighest mTape mTaped mPos mBegun mSort mValue mFault mWrongAt mPaid mRow mRingMuch mRideSum mOwedSum mAllWays mRode mWays mLanes mSizes mCells mTorn mBefore p1 r_3 hf) (cwV 1 hts gX8_meet_X8_height rfl rfl rfl (by decide +kernel) ⟨by decide, by decide⟩) (As := [.int p1]) (wr := []) (ws' := wX8 k mh mrSt mrNow mrIsKept mrDraft mrTape mrRow mrRode mrWays mrLanes mrSizes mrCells mrBefore mSt mNow_2 mIsKept mPeople mDraft mDPeople mHasDry mToldDebts mHighest mTape mTaped mPos mBegun mSort mValue mFault mWrongAt mPaid mRow mRingMuch mRideSum mOwedSum mAllWays mRode mWays mLanes mSizes mCells mTorn mBefore) [0, 1, 2, 3, 4, 5, 6, 7, 8, 9, 10, 11, 12] [] [0, 1, 2, 3, 4, 5, 6, 7, 8, 9, 10, 11, 12] rfl rfl (by decide) (by decide) (by decide) rfl (by decide) 8 rfl rfl [] rfl hl.1 rfl (Nat.le_of_ble_eq_true rfl) dX8_meet_17 ⟨by decide, by decide⟩ (fun H locs (hw : Wd D A s.heap H locs (wX8 k mh mrSt mrNow mrIsKept mrDraft mrTape mrRow mrRode mrWays mrLanes mrSizes mrCells mrBefore mSt mNow_2 mIsKept mPeople mDraft mDPeople mHasDry mToldDebts mHighest mTape mTaped mPos mBegun mSort mValue mFault mWrongAt mPaid mRow mRingMuch mRideSum mOwedSum mAllWays mRode mWays mLanes mSizes mCells mTorn mBefore)) => ?_)
    refine W.eq (g2 := F0 m 20 ls ([.int r_3])) rfl ?_
    refine lv_istore_n (lv' := [(3, .int r_3), (0, .ref mh), (1, .int p1), (2, .int p2)]) hx hb dX8_meet_20 rfl hl (by decide) rfl (fun ls hl => ?_)
    refine lv_aload_n hx hb dX8_meet_21 rfl (lv_at hl 1 rfl) ?_
    refine lv_iload_n hx hb dX8_meet_22 rfl (lv_at hl 3 rfl) ?_
    obtain ⟨r_4, hf, h⟩ := b1_inv h
    refine k_callV (host := "") fx hK hA hw (c_X8_height l D k mh mrSt mrNow mrIsKept mrDraft mrTape mrRow mrRode mrWays mrLanes mrSizes mrCells mrBefore _ mSt mNow_2 mIsKept mPeople mDraft mDPeople mHasDry mToldDebts mHighest mTape mTaped mPos mBegun mSort mValue mFault mWrongAt mPaid mRow mRingMuch mRideSum mOwedSum mAllWays mRode mWays mLanes mSizes mCells mTorn mBefore p2 r_4 hf) (cwV 1 hts gX8_meet_X8_height rfl rfl rfl (by decide +kernel) ⟨by decide, by decide⟩) (As := [.int p2]) (wr := []) (ws' := wX8 k mh mrSt mrNow mrIsKept mrDraft mrTape mrRow mrRode mrWays mrLanes mrSizes mrCells mrBefore mSt mNow_2 mIsKept mPeople mDraft mDPeople mHasDry mToldDebts mHighest mTape mTaped mPos mBegun mSort mValue mFault mWrongAt mPaid mRow mRingMuch mRideSum mOwedSum mAllWays mRode mWays mLanes mSizes mCells mTorn mBefore) [0, 1, 2, 3, 4, 5, 6, 7, 8, 9, 10, 11, 12] [] [0, 1, 2, 3, 4, 5, 6, 7, 8, 9, 10, 11, 12] rfl rfl (by decide) (by decide) (by decide) rfl (by decide) 8 rfl rfl [] rfl hl.1 rfl (Nat.le_of_ble_eq_true rfl) dX8_meet_23 ⟨by decide, by decide⟩ (fun H locs (hw : Wd D A s.heap H locs (wX8 k mh mrSt mrNow mrIsKept mrDraft mrTape mrRow mrRode mrWays mrLanes mrSizes mrCells mrBefore mSt mNow_2 mIsKept mPeople mDraft mDPeople mHasDry mToldDebts mHighest mTape mTaped mPos mBegun mSort mValue mFault mWrongAt mPaid mRow mRingMuch mRideSum mOwedSum mAllWays mRode mWays mLanes mSizes mCells mTorn mBefore)) => ?_)
    refine W.eq (g2 := F0 m 26 ls ([.int r_4])) rfl ?_
    refine lv_istore (lv' := [(4, .int r_4), (3, .int r_3), (0, .ref mh), (1, .int p1), (2, .int p2)]) hx hb dX8_meet_26 hl (by decide) rfl (fun ls hl => ?_)
    refine lv_iload_n hx hb dX8_meet_28 rfl (lv_at hl 1 rfl) ?_
    refine lv_iload hx hb dX8_meet_29 (lv_at hl 0 rfl) ?_
    refine kb_icmp_ge (tgt := 38) hx hb dX8_meet_31 (by decide) h (fun c_31 h => ?_) (fun c_31 h => ?_)
    · refine lv_iload hx hb dX8_meet_38 (lv_at hl 0 rfl) ?_
      refine lv_iload_n hx hb dX8_meet_40 rfl (lv_at hl 1 rfl) ?_
      refine kb_icmp_ge (tgt := 48) hx hb dX8_meet_41 (by decide) h (fun c_41 h => ?_) (fun c_41 h => ?_)
      · refine lv_bipush (v := (-4)) hx hb dX8_meet_48 (by decide) ?_
        cases h
        exact k_iret hx hb hr hlocks hw rfl dX8_meet_50 hQ
      · refine lv_iload_n hx hb dX8_meet_44 rfl (lv_at hl 4 rfl) ?_
        refine lv_goto (tgt := 50) hx hb dX8_meet_45 (by decide) ?_
        cases h
        exact k_iret hx hb hr hlocks hw rfl dX8_meet_50 hQ
    · refine lv_iload_n hx hb dX8_meet_34 rfl (lv_at hl 3 rfl) ?_
      refine lv_goto (tgt := 50) hx hb dX8_meet_35 (by decide) ?_
      cases h
      exact k_iret hx hb hr hlocks hw rfl dX8_meet_50 hQ
abbrev rmX8_net : Room := { frames := 3, cells := 0, slots := 0, locals := 66 }
set_option maxHeartbeats 4000000 in
set_option maxRecDepth 100000 in
theorem c_X8_net (l : Launch) (D : va_G) (k : Nat → ClassId) (mh mrSt mrNow mrIsKept mrDraft mrTape mrRow mrRode mrWays mrLanes mrSizes mrCells mrBefore : Nat) (sz : Nat) (mSt : (Nat → Int32)) (mNow : (Nat → Int32)) (mIsKept : (Nat → Int32)) (mPeople : Int32) (mDraft : (Nat → Int32)) (mDPeople : Int32) (mHasDry : Int32) (mToldDebts : Int32) (mHighest : Int32) (mTape : (Nat → Int32)) (mTaped : Int32) (mPos : Int32) (mBegun : Int32) (mSort : Int32) (mValue : Int32) (mFault : Int32) (mWrongAt : Int32) (mPaid : Int32) (mRow : (Nat → Int32)) (mRingMuch : Int32) (mRideSum : Int64) (mOwedSum : Int64) (mAllWays : Int64) (mRode : (Nat → Int32)) (mWays : (Nat → Int32)) (mLanes : (Nat → Int32)) (mSizes : (Nat → Int32)) (mCells : (Nat → Int32)) (mTorn : Int32) (mBefore : (Nat → Int32)) (p1 : Int32) (r_ : Int32) (n_mNow : (Nat → Int32)) (hf : f_X8_net mSt mNow mPeople p1 = some (r_, n_mNow)) : mR l yX8_net wsX8_net rmX8_net D k sz [.ref mh, .int p1] (wX8 k mh mrSt mrNow mrIsKept mrDraft mrTape mrRow mrRode mrWays mrLanes mrSizes mrCells mrBefore mSt mNow mIsKept mPeople mDraft mDPeople mHasDry mToldDebts mHighest mTape mTaped mPos mBegun mSort mValue mFault mWrongAt mPaid mRow mRingMuch mRideSum mOwedSum mAllWays mRode mWays mLanes mSizes mCells mTorn mBefore) (wX8 k mh mrSt mrNow mrIsKept mrDraft mrTape mrRow mrRode mrWays mrLanes mrSizes mrCells mrBefore mSt n_mNow mIsKept mPeople mDraft mDPeople mHasDry mToldDebts mHighest mTape mTaped mPos mBegun mSort mValue mFault mWrongAt mPaid mRow mRingMuch mRideSum mOwedSum mAllWays mRode mWays mLanes mSizes mCells mTorn mBefore) (some (.int r_)) := by
  refine mR_of (cc := cX8_net) (maxL := 2) (ret := some .int) (by decide) rfl (Nat.le_of_ble_eq_true rfl) [(0, .ref mh), (1, .int p1)] rfl ?_
  intro p e s m below meth c A ls args Q cx hK hA hw hl hQ
  have fx := cx.1
  obtain ⟨⟨hx, hb, hml, hown, hts⟩, hr, hlocks⟩ := cx
  have h := hf
  unfold f_X8_net at h
  clear hf
  refine lv_aload_n hx hb dX8_net_0 rfl (lv_at hl 0 rfl) ?_
  refine lv_iload_n hx hb dX8_net_1 rfl (lv_at hl 1 rfl) ?_
  obtain ⟨r_1, hf, h⟩ := b1_inv h
  refine k_callV (host := "") fx hK hA hw (c_X8_isOne l D k mh mrSt mrNow mrIsKept mrDraft mrTape mrRow mrRode mrWays mrLanes mrSizes mrCells mrBefore _ mSt mNow mIsKept mPeople mDraft mDPeople mHasDry mToldDebts mHighest mTape mTaped mPos mBegun mSort mValue mFault mWrongAt mPaid mRow mRingMuch mRideSum mOwedSum mAllWays mRode mWays mLanes mSizes mCells mTorn mBefore p1 r_1 hf) (cwV 1 hts gX8_net_X8_isOne rfl rfl rfl (by decide +kernel) ⟨by decide, by decide⟩) (As := [.int p1]) (wr := []) (ws' := wX8 k mh mrSt mrNow mrIsKept mrDraft mrTape mrRow mrRode mrWays mrLanes mrSizes mrCells mrBefore mSt mNow mIsKept mPeople mDraft mDPeople mHasDry mToldDebts mHighest mTape mTaped mPos mBegun mSort mValue mFault mWrongAt mPaid mRow mRingMuch mRideSum mOwedSum mAllWays mRode mWays mLanes mSizes mCells mTorn mBefore) [0, 1, 2, 3, 4, 5, 6, 7, 8, 9, 10, 11, 12] [] [0, 1, 2, 3, 4, 5, 6, 7, 8, 9, 10, 11, 12] rfl rfl (by decide) (by decide) (by decide) rfl (by decide) 8 rfl rfl [] rfl hl.1 rfl (Nat.le_of_ble_eq_true rfl) dX8_net_2 ⟨by decide, by decide⟩ (fun H locs (hw : Wd D A s.heap H locs (wX8 k mh mrSt mrNow mrIsKept mrDraft mrTape mrRow mrRode mrWays mrLanes mrSizes mrCells mrBefore mSt mNow mIsKept mPeople mDraft mDPeople mHasDry mToldDebts mHighest mTape mTaped mPos mBegun mSort mValue mFault mWrongAt mPaid mRow mRingMuch mRideSum mOwedSum mAllWays mRode mWays mLanes mSizes mCells mTorn mBefore)) => ?_)
  refine W.eq (g2 := F0 m 5 ls ([.int r_1])) rfl ?_
  refine kb_if_ne (tgt := 10) hx hb dX8_net_5 (by decide) h (fun c_5 h => ?_) (fun c_5 h => ?_)
  · refine lv_iconst (v := (-1)) hx hb dX8_net_8 (by decide) ?_
    cases h
    exact k_iret hx hb hr hlocks hw rfl dX8_net_9 hQ
  · refine lv_aload_n hx hb dX8_net_10 rfl (lv_at hl 0 rfl) ?_
    obtain ⟨mNow_2, hf, h⟩ := b1_inv h
    refine k_callV (host := "") fx hK hA hw (c_X8_starts l D k mh mrSt mrNow mrIsKept mrDraft mrTape mrRow mrRode mrWays mrLanes mrSizes mrCells mrBefore _ mSt mNow mIsKept mPeople mDraft mDPeople mHasDry mToldDebts mHighest mTape mTaped mPos mBegun mSort mValue mFault mWrongAt mPaid mRow mRingMuch mRideSum mOwedSum mAllWays mRode mWays mLanes mSizes mCells mTorn mBefore mNow_2 hf) (cwV 0 hts gX8_net_X8_starts rfl rfl rfl (by decide +kernel) ⟨by decide, by decide⟩) (As := []) (wr := []) (ws' := wX8 k mh mrSt mrNow mrIsKept mrDraft mrTape mrRow mrRode mrWays mrLanes mrSizes mrCells mrBefore mSt mNow_2 mIsKept mPeople mDraft mDPeople mHasDry mToldDebts mHighest mTape mTaped mPos mBegun mSort mValue mFault mWrongAt mPaid mRow mRingMuch mRideSum mOwedSum mAllWays mRode mWays mLanes mSizes mCells mTorn mBefore) [0, 1, 2, 3, 4, 5, 6, 7, 8, 9, 10, 11, 12] [] [0, 1, 2, 3, 4, 5, 6, 7, 8, 9, 10, 11, 12] rfl rfl (by decide) (by decide) (by decide) rfl (by decide) 8 rfl rfl [] rfl hl.1 rfl (Nat.le_of_ble_eq_true rfl) dX8_net_11 ⟨by decide, by decide⟩ (fun H locs (hw : Wd D A s.heap H locs (wX8 k mh mrSt mrNow mrIsKept mrDraft mrTape mrRow mrRode mrWays mrLanes mrSizes mrCells mrBefore mSt mNow_2 mIsKept mPeople mDraft mDPeople mHasDry mToldDebts mHighest mTape mTaped mPos mBegun mSort mValue mFault mWrongAt mPaid mRow mRingMuch mRideSum mOwedSum mAllWays mRode mWays mLanes mSizes mCells mTorn mBefore)) => ?_)
    refine W.eq (g2 := F0 m 14 ls ([])) rfl ?_
    refine lv_sipush (v := 1000) hx hb dX8_net_14 (by decide) ?_
    refine lv_aload_n hx hb dX8_net_17 rfl (lv_at hl 0 rfl) ?_
    refine lv_iload_n hx hb dX8_net_18 rfl (lv_at hl 1 rfl) ?_
    obtain ⟨r_3, hf, h⟩ := b1_inv h
    refine k_callV (host := "") fx hK hA hw (c_X8_netOf l D k mh mrSt mrNow mrIsKept mrDraft mrTape mrRow mrRode mrWays mrLanes mrSizes mrCells mrBefore _ mSt mNow_2 mIsKept mPeople mDraft mDPeople mHasDry mToldDebts mHighest mTape mTaped mPos mBegun mSort mValue mFault mWrongAt mPaid mRow mRingMuch mRideSum mOwedSum mAllWays mRode mWays mLanes mSizes mCells mTorn mBefore p1 r_3 hf) (cwV 1 hts gX8_net_X8_netOf rfl rfl rfl (by decide +kernel) ⟨by decide, by decide⟩) (As := [.int p1]) (wr := []) (ws' := wX8 k mh mrSt mrNow mrIsKept mrDraft mrTape mrRow mrRode mrWays mrLanes mrSizes mrCells mrBefore mSt mNow_2 mIsKept mPeople mDraft mDPeople mHasDry mToldDebts mHighest mTape mTaped mPos mBegun mSort mValue mFault mWrongAt mPaid mRow mRingMuch mRideSum mOwedSum mAllWays mRode mWays mLanes mSizes mCells mTorn mBefore) [0, 1, 2, 3, 4, 5, 6, 7, 8, 9, 10, 11, 12] [] [0, 1, 2, 3, 4, 5, 6, 7, 8, 9, 10, 11, 12] rfl rfl (by decide) (by decide) (by decide) rfl (by decide) 8 rfl rfl [.int 1000] rfl hl.1 rfl (Nat.le_of_ble_eq_true rfl) dX8_net_19 ⟨by decide, by decide⟩ (fun H locs (hw : Wd D A s.heap H locs (wX8 k mh mrSt mrNow mrIsKept mrDraft mrTape mrRow mrRode mrWays mrLanes mrSizes mrCells mrBefore mSt mNow_2 mIsKept mPeople mDraft mDPeople mHasDry mToldDebts mHighest mTape mTaped mPos mBegun mSort mValue mFault mWrongAt mPaid mRow mRingMuch mRideSum mOwedSum mAllWays mRode mWays mLanes mSizes mCells mTorn mBefore)) => ?_)
    refine W.eq (g2 := F0 m 22 ls ([.int r_3, .int 1000])) rfl ?_
    refine lv_iadd hx hb dX8_net_22 ?_
    cases h
    exact k_iret hx hb hr hlocks hw rfl dX8_net_23 hQ
abbrev rmX8_one : Room := { frames := 3, cells := 0, slots := 0, locals := 68 }
set_option maxHeartbeats 4000000 in
set_option maxRecDepth 100000 in
theorem c_X8_one (l : Launch) (D : va_G) (k : Nat → ClassId) (mh mrSt mrNow mrIsKept mrDraft mrTape mrRow mrRode mrWays mrLanes mrSizes mrCells mrBefore : Nat) (sz : Nat) (mSt : (Nat → Int32)) (mNow : (Nat → Int32)) (mIsKept : (Nat → Int32)) (mPeople : Int32) (mDraft : (Nat → Int32)) (mDPeople : Int32) (mHasDry : Int32) (mToldDebts : Int32) (mHighest : Int32) (mTape : (Nat → Int32)) (mTaped : Int32) (mPos : Int32) (mBegun : Int32) (mSort : Int32) (mValue : Int32) (mFault : Int32) (mWrongAt : Int32) (mPaid : Int32) (mRow : (Nat → Int32)) (mRingMuch : Int32) (mRideSum : Int64) (mOwedSum : Int64) (mAllWays : Int64) (mRode : (Nat → Int32)) (mWays : (Nat → Int32)) (mLanes : (Nat → Int32)) (mSizes : (Nat → Int32)) (mCells : (Nat → Int32)) (mTorn : Int32) (mBefore : (Nat → Int32)) (p1 : Int32) (p2 : Int32) (r_ : Int32) (n_mNow : (Nat → Int32)) (hf : f_X8_one mSt mNow mPeople p1 p2 = some (r_, n_mNow)) : mR l yX8_one wsX8_one rmX8_one D k sz [.ref mh, .int p1, .int p2] (wX8 k mh mrSt mrNow mrIsKept mrDraft mrTape mrRow mrRode mrWays mrLanes mrSizes mrCells mrBefore mSt mNow mIsKept mPeople mDraft mDPeople mHasDry mToldDebts mHighest mTape mTaped mPos mBegun mSort mValue mFault mWrongAt mPaid mRow mRingMuch mRideSum mOwedSum mAllWays mRode mWays mLanes mSizes mCells mTorn mBefore) (wX8 k mh mrSt mrNow mrIsKept mrDraft mrTape mrRow mrRode mrWays mrLanes mrSizes mrCells mrBefore mSt n_mNow mIsKept mPeople mDraft mDPeople mHasDry mToldDebts mHighest mTape mTaped mPos mBegun mSort mValue mFault mWrongAt mPaid mRow mRingMuch mRideSum mOwedSum mAllWays mRode mWays mLanes mSizes mCells mTorn mBefore) (some (.int r_)) := by
  refine mR_of (cc := cX8_one) (maxL := 3) (ret := some .int) (by decide) rfl (Nat.le_of_ble_eq_true rfl) [(0, .ref mh), (1, .int p1), (2, .int p2)] rfl ?_
  intro p e s m below meth c A ls args Q cx hK hA hw hl hQ
  have fx := cx.1
  obtain ⟨⟨hx, hb, hml, hown, hts⟩, hr, hlocks⟩ := cx
  have h := hf
  unfold f_X8_one at h
  clear hf
  refine lv_aload_n hx hb dX8_one_0 rfl (lv_at hl 0 rfl) ?_
  refine lv_iload_n hx hb dX8_one_1 rfl (lv_at hl 1 rfl) ?_
  obtain ⟨r_1, hf, h⟩ := b1_inv h
  refine k_callV (host := "") fx hK hA hw (c_X8_isOne l D k mh mrSt mrNow mrIsKept mrDraft mrTape mrRow mrRode mrWays mrLanes mrSizes mrCells mrBefore _ mSt mNow mIsKept mPeople mDraft mDPeople mHasDry mToldDebts mHighest mTape mTaped mPos mBegun mSort mValue mFault mWrongAt mPaid mRow mRingMuch mRideSum mOwedSum mAllWays mRode mWays mLanes mSizes mCells mTorn mBefore p1 r_1 hf) (cwV 1 hts gX8_one_X8_isOne rfl rfl rfl (by decide +kernel) ⟨by decide, by decide⟩) (As := [.int p1]) (wr := []) (ws' := wX8 k mh mrSt mrNow mrIsKept mrDraft mrTape mrRow mrRode mrWays mrLanes mrSizes mrCells mrBefore mSt mNow mIsKept mPeople mDraft mDPeople mHasDry mToldDebts mHighest mTape mTaped mPos mBegun mSort mValue mFault mWrongAt mPaid mRow mRingMuch mRideSum mOwedSum mAllWays mRode mWays mLanes mSizes mCells mTorn mBefore) [0, 1, 2, 3, 4, 5, 6, 7, 8, 9, 10, 11, 12] [] [0, 1, 2, 3, 4, 5, 6, 7, 8, 9, 10, 11, 12] rfl rfl (by decide) (by decide) (by decide) rfl (by decide) 8 rfl rfl [] rfl hl.1 rfl (Nat.le_of_ble_eq_true rfl) dX8_one_2 ⟨by decide, by decide⟩ (fun H locs (hw : Wd D A s.heap H locs (wX8 k mh mrSt mrNow mrIsKept mrDraft mrTape mrRow mrRode mrWays mrLanes mrSizes mrCells mrBefore mSt mNow mIsKept mPeople mDraft mDPeople mHasDry mToldDebts mHighest mTape mTaped mPos mBegun mSort mValue mFault mWrongAt mPaid mRow mRingMuch mRideSum mOwedSum mAllWays mRode mWays mLanes mSizes mCells mTorn mBefore)) => ?_)
  refine W.eq (g2 := F0 m 5 ls ([.int r_1])) rfl ?_
  refine kb_if_ne (tgt := 10) hx hb dX8_one_5 (by decide) h (fun c_5 h => ?_) (fun c_5 h => ?_)
  · refine lv_iconst (v := (-1)) hx hb dX8_one_8 (by decide) ?_
    cases h
    exact k_iret hx hb hr hlocks hw rfl dX8_one_9 hQ
  · refine lv_aload_n hx hb dX8_one_10 rfl (lv_at hl 0 rfl) ?_
    obtain ⟨mNow_2, hf, h⟩ := b1_inv h
    refine k_callV (host := "") fx hK hA hw (c_X8_starts l D k mh mrSt mrNow mrIsKept mrDraft mrTape mrRow mrRode mrWays mrLanes mrSizes mrCells mrBefore _ mSt mNow mIsKept mPeople mDraft mDPeople mHasDry mToldDebts mHighest mTape mTaped mPos mBegun mSort mValue mFault mWrongAt mPaid mRow mRingMuch mRideSum mOwedSum mAllWays mRode mWays mLanes mSizes mCells mTorn mBefore mNow_2 hf) (cwV 0 hts gX8_one_X8_starts rfl rfl rfl (by decide +kernel) ⟨by decide, by decide⟩) (As := []) (wr := []) (ws' := wX8 k mh mrSt mrNow mrIsKept mrDraft mrTape mrRow mrRode mrWays mrLanes mrSizes mrCells mrBefore mSt mNow_2 mIsKept mPeople mDraft mDPeople mHasDry mToldDebts mHighest mTape mTaped mPos mBegun mSort mValue mFault mWrongAt mPaid mRow mRingMuch mRideSum mOwedSum mAllWays mRode mWays mLanes mSizes mCells mTorn mBefore) [0, 1, 2, 3, 4, 5, 6, 7, 8, 9, 10, 11, 12] [] [0, 1, 2, 3, 4, 5, 6, 7, 8, 9, 10, 11, 12] rfl rfl (by decide) (by decide) (by decide) rfl (by decide) 8 rfl rfl [] rfl hl.1 rfl (Nat.le_of_ble_eq_true rfl) dX8_one_11 ⟨by decide, by decide⟩ (fun H locs (hw : Wd D A s.heap H locs (wX8 k mh mrSt mrNow mrIsKept mrDraft mrTape mrRow mrRode mrWays mrLanes mrSizes mrCells mrBefore mSt mNow_2 mIsKept mPeople mDraft mDPeople mHasDry mToldDebts mHighest mTape mTaped mPos mBegun mSort mValue mFault mWrongAt mPaid mRow mRingMuch mRideSum mOwedSum mAllWays mRode mWays mLanes mSizes mCells mTorn mBefore)) => ?_)
    refine W.eq (g2 := F0 m 14 ls ([])) rfl ?_
    refine lv_iload_n hx hb dX8_one_14 rfl (lv_at hl 2 rfl) ?_
    by_cases c15_0 : p2 = 0
    · rw [if_pos c15_0] at h
      refine lv_tableIn (off := 41) (tgt := 56) hx hb dX8_one_15 (by rw [c15_0]; decide) (by rw [c15_0]; decide) (by rw [c15_0]; rfl) (by decide) ?_
      refine lv_aload_n hx hb dX8_one_56 rfl (lv_at hl 0 rfl) ?_
      refine lv_iload_n hx hb dX8_one_57 rfl (lv_at hl 1 rfl) ?_
      refine lv_iload_n hx hb dX8_one_58 rfl (lv_at hl 2 rfl) ?_
      obtain ⟨r_3, hf, h⟩ := b1_inv h
      refine k_callV (host := "") fx hK hA hw (c_X8_of l D k mh mrSt mrNow mrIsKept mrDraft mrTape mrRow mrRode mrWays mrLanes mrSizes mrCells mrBefore _ mSt mNow_2 mIsKept mPeople mDraft mDPeople mHasDry mToldDebts mHighest mTape mTaped mPos mBegun mSort mValue mFault mWrongAt mPaid mRow mRingMuch mRideSum mOwedSum mAllWays mRode mWays mLanes mSizes mCells mTorn mBefore p1 p2 r_3 hf) (cwV 2 hts gX8_one_X8_of rfl rfl rfl (by decide +kernel) ⟨by decide, by decide⟩) (As := [.int p1, .int p2]) (wr := []) (ws' := wX8 k mh mrSt mrNow mrIsKept mrDraft mrTape mrRow mrRode mrWays mrLanes mrSizes mrCells mrBefore mSt mNow_2 mIsKept mPeople mDraft mDPeople mHasDry mToldDebts mHighest mTape mTaped mPos mBegun mSort mValue mFault mWrongAt mPaid mRow mRingMuch mRideSum mOwedSum mAllWays mRode mWays mLanes mSizes mCells mTorn mBefore) [0, 1, 2, 3, 4, 5, 6, 7, 8, 9, 10, 11, 12] [] [0, 1, 2, 3, 4, 5, 6, 7, 8, 9, 10, 11, 12] rfl rfl (by decide) (by decide) (by decide) rfl (by decide) 8 rfl rfl [] rfl hl.1 rfl (Nat.le_of_ble_eq_true rfl) dX8_one_59 ⟨by decide, by decide⟩ (fun H locs (hw : Wd D A s.heap H locs (wX8 k mh mrSt mrNow mrIsKept mrDraft mrTape mrRow mrRode mrWays mrLanes mrSizes mrCells mrBefore mSt mNow_2 mIsKept mPeople mDraft mDPeople mHasDry mToldDebts mHighest mTape mTaped mPos mBegun mSort mValue mFault mWrongAt mPaid mRow mRingMuch mRideSum mOwedSum mAllWays mRode mWays mLanes mSizes mCells mTorn mBefore)) => ?_)
      refine W.eq (g2 := F0 m 62 ls ([.int r_3])) rfl ?_
      cases h
      exact k_iret hx hb hr hlocks hw rfl dX8_one_62 hQ
    · rw [if_neg c15_0] at h
      by_cases c15_1 : p2 = 1
      · rw [if_pos c15_1] at h
        refine lv_tableIn (off := 41) (tgt := 56) hx hb dX8_one_15 (by rw [c15_1]; decide) (by rw [c15_1]; decide) (by rw [c15_1]; rfl) (by decide) ?_
        refine lv_aload_n hx hb dX8_one_56 rfl (lv_at hl 0 rfl) ?_
        refine lv_iload_n hx hb dX8_one_57 rfl (lv_at hl 1 rfl) ?_
        refine lv_iload_n hx hb dX8_one_58 rfl (lv_at hl 2 rfl) ?_
        obtain ⟨r_4, hf, h⟩ := b1_inv h
        refine k_callV (host := "") fx hK hA hw (c_X8_of l D k mh mrSt mrNow mrIsKept mrDraft mrTape mrRow mrRode mrWays mrLanes mrSizes mrCells mrBefore _ mSt mNow_2 mIsKept mPeople mDraft mDPeople mHasDry mToldDebts mHighest mTape mTaped mPos mBegun mSort mValue mFault mWrongAt mPaid mRow mRingMuch mRideSum mOwedSum mAllWays mRode mWays mLanes mSizes mCells mTorn mBefore p1 p2 r_4 hf) (cwV 2 hts gX8_one_X8_of rfl rfl rfl (by decide +kernel) ⟨by decide, by decide⟩) (As := [.int p1, .int p2]) (wr := []) (ws' := wX8 k mh mrSt mrNow mrIsKept mrDraft mrTape mrRow mrRode mrWays mrLanes mrSizes mrCells mrBefore mSt mNow_2 mIsKept mPeople mDraft mDPeople mHasDry mToldDebts mHighest mTape mTaped mPos mBegun mSort mValue mFault mWrongAt mPaid mRow mRingMuch mRideSum mOwedSum mAllWays mRode mWays mLanes mSizes mCells mTorn mBefore) [0, 1, 2, 3, 4, 5, 6, 7, 8, 9, 10, 11, 12] [] [0, 1, 2, 3, 4, 5, 6, 7, 8, 9, 10, 11, 12] rfl rfl (by decide) (by decide) (by decide) rfl (by decide) 8 rfl rfl [] rfl hl.1 rfl (Nat.le_of_ble_eq_true rfl) dX8_one_59 ⟨by decide, by decide⟩ (fun H locs (hw : Wd D A s.heap H locs (wX8 k mh mrSt mrNow mrIsKept mrDraft mrTape mrRow mrRode mrWays mrLanes mrSizes mrCells mrBefore mSt mNow_2 mIsKept mPeople mDraft mDPeople mHasDry mToldDebts mHighest mTape mTaped mPos mBegun mSort mValue mFault mWrongAt mPaid mRow mRingMuch mRideSum mOwedSum mAllWays mRode mWays mLanes mSizes mCells mTorn mBefore)) => ?_)
        refine W.eq (g2 := F0 m 62 ls ([.int r_4])) rfl ?_
        cases h
        exact k_iret hx hb hr hlocks hw rfl dX8_one_62 hQ
      · rw [if_neg c15_1] at h
        by_cases c15_2 : p2 = 2
        · rw [if_pos c15_2] at h
          refine lv_tableIn (off := 41) (tgt := 56) hx hb dX8_one_15 (by rw [c15_2]; decide) (by rw [c15_2]; decide) (by rw [c15_2]; rfl) (by decide) ?_
          refine lv_aload_n hx hb dX8_one_56 rfl (lv_at hl 0 rfl) ?_
          refine lv_iload_n hx hb dX8_one_57 rfl (lv_at hl 1 rfl) ?_
          refine lv_iload_n hx hb dX8_one_58 rfl (lv_at hl 2 rfl) ?_
          obtain ⟨r_5, hf, h⟩ := b1_inv h
          refine k_callV (host := "") fx hK hA hw (c_X8_of l D k mh mrSt mrNow mrIsKept mrDraft mrTape mrRow mrRode mrWays mrLanes mrSizes mrCells mrBefore _ mSt mNow_2 mIsKept mPeople mDraft mDPeople mHasDry mToldDebts mHighest mTape mTaped mPos mBegun mSort mValue mFault mWrongAt mPaid mRow mRingMuch mRideSum mOwedSum mAllWays mRode mWays mLanes mSizes mCells mTorn mBefore p1 p2 r_5 hf) (cwV 2 hts gX8_one_X8_of rfl rfl rfl (by decide +kernel) ⟨by decide, by decide⟩) (As := [.int p1, .int p2]) (wr := []) (ws' := wX8 k mh mrSt mrNow mrIsKept mrDraft mrTape mrRow mrRode mrWays mrLanes mrSizes mrCells mrBefore mSt mNow_2 mIsKept mPeople mDraft mDPeople mHasDry mToldDebts mHighest mTape mTaped mPos mBegun mSort mValue mFault mWrongAt mPaid mRow mRingMuch mRideSum mOwedSum mAllWays mRode mWays mLanes mSizes mCells mTorn mBefore) [0, 1, 2, 3, 4, 5, 6, 7, 8, 9, 10, 11, 12] [] [0, 1, 2, 3, 4, 5, 6, 7, 8, 9, 10, 11, 12] rfl rfl (by decide) (by decide) (by decide) rfl (by decide) 8 rfl rfl [] rfl hl.1 rfl (Nat.le_of_ble_eq_true rfl) dX8_one_59 ⟨by decide, by decide⟩ (fun H locs (hw : Wd D A s.heap H locs (wX8 k mh mrSt mrNow mrIsKept mrDraft mrTape mrRow mrRode mrWays mrLanes mrSizes mrCells mrBefore mSt mNow_2 mIsKept mPeople mDraft mDPeople mHasDry mToldDebts mHighest mTape mTaped mPos mBegun mSort mValue mFault mWrongAt mPaid mRow mRingMuch mRideSum mOwedSum mAllWays mRode mWays mLanes mSizes mCells mTorn mBefore)) => ?_)
          refine W.eq (g2 := F0 m 62 ls ([.int r_5])) rfl ?_
          cases h
          exact k_iret hx hb hr hlocks hw rfl dX8_one_62 hQ
        · rw [if_neg c15_2] at h
          by_cases c15_3 : p2 = 3
          · rw [if_pos c15_3] at h
            refine lv_tableIn (off := 48) (tgt := 63) hx hb dX8_one_15 (by rw [c15_3]; decide) (by rw [c15_3]; decide) (by rw [c15_3]; rfl) (by decide) ?_
            refine lv_aload_n hx hb dX8_one_63 rfl (lv_at hl 0 rfl) ?_
            refine lv_iload_n hx hb dX8_one_64 rfl (lv_at hl 1 rfl) ?_
            obtain ⟨r_6, hf, h⟩ := b1_inv h
            refine k_callV (host := "") fx hK hA hw (c_X8_owesAll l D k mh mrSt mrNow mrIsKept mrDraft mrTape mrRow mrRode mrWays mrLanes mrSizes mrCells mrBefore _ mSt mNow_2 mIsKept mPeople mDraft mDPeople mHasDry mToldDebts mHighest mTape mTaped mPos mBegun mSort mValue mFault mWrongAt mPaid mRow mRingMuch mRideSum mOwedSum mAllWays mRode mWays mLanes mSizes mCells mTorn mBefore p1 r_6 hf) (cwV 1 hts gX8_one_X8_owesAll rfl rfl rfl (by decide +kernel) ⟨by decide, by decide⟩) (As := [.int p1]) (wr := []) (ws' := wX8 k mh mrSt mrNow mrIsKept mrDraft mrTape mrRow mrRode mrWays mrLanes mrSizes mrCells mrBefore mSt mNow_2 mIsKept mPeople mDraft mDPeople mHasDry mToldDebts mHighest mTape mTaped mPos mBegun mSort mValue mFault mWrongAt mPaid mRow mRingMuch mRideSum mOwedSum mAllWays mRode mWays mLanes mSizes mCells mTorn mBefore) [0, 1, 2, 3, 4, 5, 6, 7, 8, 9, 10, 11, 12] [] [0, 1, 2, 3, 4, 5, 6, 7, 8, 9, 10, 11, 12] rfl rfl (by decide) (by decide) (by decide) rfl (by decide) 8 rfl rfl [] rfl hl.1 rfl (Nat.le_of_ble_eq_true rfl) dX8_one_65 ⟨by decide, by decide⟩ (fun H locs (hw : Wd D A s.heap H locs (wX8 k mh mrSt mrNow mrIsKept mrDraft mrTape mrRow mrRode mrWays mrLanes mrSizes mrCells mrBefore mSt mNow_2 mIsKept mPeople mDraft mDPeople mHasDry mToldDebts mHighest mTape mTaped mPos mBegun mSort mValue mFault mWrongAt mPaid mRow mRingMuch mRideSum mOwedSum mAllWays mRode mWays mLanes mSizes mCells mTorn mBefore)) => ?_)
            refine W.eq (g2 := F0 m 68 ls ([.int r_6])) rfl ?_
            cases h
            exact k_iret hx hb hr hlocks hw rfl dX8_one_68 hQ
          · rw [if_neg c15_3] at h
            by_cases c15_4 : p2 = 4
            · rw [if_pos c15_4] at h
              refine lv_tableIn (off := 54) (tgt := 69) hx hb dX8_one_15 (by rw [c15_4]; decide) (by rw [c15_4]; decide) (by rw [c15_4]; rfl) (by decide) ?_
              refine lv_aload_n hx hb dX8_one_69 rfl (lv_at hl 0 rfl) ?_
              refine lv_iload_n hx hb dX8_one_70 rfl (lv_at hl 1 rfl) ?_
              obtain ⟨r_7, hf, h⟩ := b1_inv h
              refine k_callV (host := "") fx hK hA hw (c_X8_isOwed l D k mh mrSt mrNow mrIsKept mrDraft mrTape mrRow mrRode mrWays mrLanes mrSizes mrCells mrBefore _ mSt mNow_2 mIsKept mPeople mDraft mDPeople mHasDry mToldDebts mHighest mTape mTaped mPos mBegun mSort mValue mFault mWrongAt mPaid mRow mRingMuch mRideSum mOwedSum mAllWays mRode mWays mLanes mSizes mCells mTorn mBefore p1 r_7 hf) (cwV 1 hts gX8_one_X8_isOwed rfl rfl rfl (by decide +kernel) ⟨by decide, by decide⟩) (As := [.int p1]) (wr := []) (ws' := wX8 k mh mrSt mrNow mrIsKept mrDraft mrTape mrRow mrRode mrWays mrLanes mrSizes mrCells mrBefore mSt mNow_2 mIsKept mPeople mDraft mDPeople mHasDry mToldDebts mHighest mTape mTaped mPos mBegun mSort mValue mFault mWrongAt mPaid mRow mRingMuch mRideSum mOwedSum mAllWays mRode mWays mLanes mSizes mCells mTorn mBefore) [0, 1, 2, 3, 4, 5, 6, 7, 8, 9, 10, 11, 12] [] [0, 1, 2, 3, 4, 5, 6, 7, 8, 9, 10, 11, 12] rfl rfl (by decide) (by decide) (by decide) rfl (by decide) 8 rfl rfl [] rfl hl.1 rfl (Nat.le_of_ble_eq_true rfl) dX8_one_71 ⟨by decide, by decide⟩ (fun H locs (hw : Wd D A s.heap H locs (wX8 k mh mrSt mrNow mrIsKept mrDraft mrTape mrRow mrRode mrWays mrLanes mrSizes mrCells mrBefore mSt mNow_2 mIsKept mPeople mDraft mDPeople mHasDry mToldDebts mHighest mTape mTaped mPos mBegun mSort mValue mFault mWrongAt mPaid mRow mRingMuch mRideSum mOwedSum mAllWays mRode mWays mLanes mSizes mCells mTorn mBefore)) => ?_)
              refine W.eq (g2 := F0 m 74 ls ([.int r_7])) rfl ?_
              cases h
              exact k_iret hx hb hr hlocks hw rfl dX8_one_74 hQ
            · rw [if_neg c15_4] at h
              by_cases c15_5 : p2 = 5
              · rw [if_pos c15_5] at h
                refine lv_tableIn (off := 60) (tgt := 75) hx hb dX8_one_15 (by rw [c15_5]; decide) (by rw [c15_5]; decide) (by rw [c15_5]; rfl) (by decide) ?_
                refine lv_aload_n hx hb dX8_one_75 rfl (lv_at hl 0 rfl) ?_
                refine lv_iload_n hx hb dX8_one_76 rfl (lv_at hl 1 rfl) ?_
                obtain ⟨r_8, hf, h⟩ := b1_inv h
                refine k_callV (host := "") fx hK hA hw (c_X8_height l D k mh mrSt mrNow mrIsKept mrDraft mrTape mrRow mrRode mrWays mrLanes mrSizes mrCells mrBefore _ mSt mNow_2 mIsKept mPeople mDraft mDPeople mHasDry mToldDebts mHighest mTape mTaped mPos mBegun mSort mValue mFault mWrongAt mPaid mRow mRingMuch mRideSum mOwedSum mAllWays mRode mWays mLanes mSizes mCells mTorn mBefore p1 r_8 hf) (cwV 1 hts gX8_one_X8_height rfl rfl rfl (by decide +kernel) ⟨by decide, by decide⟩) (As := [.int p1]) (wr := []) (ws' := wX8 k mh mrSt mrNow mrIsKept mrDraft mrTape mrRow mrRode mrWays mrLanes mrSizes mrCells mrBefore mSt mNow_2 mIsKept mPeople mDraft mDPeople mHasDry mToldDebts mHighest mTape mTaped mPos mBegun mSort mValue mFault mWrongAt mPaid mRow mRingMuch mRideSum mOwedSum mAllWays mRode mWays mLanes mSizes mCells mTorn mBefore) [0, 1, 2, 3, 4, 5, 6, 7, 8, 9, 10, 11, 12] [] [0, 1, 2, 3, 4, 5, 6, 7, 8, 9, 10, 11, 12] rfl rfl (by decide) (by decide) (by decide) rfl (by decide) 8 rfl rfl [] rfl hl.1 rfl (Nat.le_of_ble_eq_true rfl) dX8_one_77 ⟨by decide, by decide⟩ (fun H locs (hw : Wd D A s.heap H locs (wX8 k mh mrSt mrNow mrIsKept mrDraft mrTape mrRow mrRode mrWays mrLanes mrSizes mrCells mrBefore mSt mNow_2 mIsKept mPeople mDraft mDPeople mHasDry mToldDebts mHighest mTape mTaped mPos mBegun mSort mValue mFault mWrongAt mPaid mRow mRingMuch mRideSum mOwedSum mAllWays mRode mWays mLanes mSizes mCells mTorn mBefore)) => ?_)
                refine W.eq (g2 := F0 m 80 ls ([.int r_8])) rfl ?_
                cases h
                exact k_iret hx hb hr hlocks hw rfl dX8_one_80 hQ
              · rw [if_neg c15_5] at h
                by_cases c15_6 : p2 = 6
                · rw [if_pos c15_6] at h
                  refine lv_tableIn (off := 66) (tgt := 81) hx hb dX8_one_15 (by rw [c15_6]; decide) (by rw [c15_6]; decide) (by rw [c15_6]; rfl) (by decide) ?_
                  refine lv_aload_n hx hb dX8_one_81 rfl (lv_at hl 0 rfl) ?_
                  refine lv_iload_n hx hb dX8_one_82 rfl (lv_at hl 1 rfl) ?_
                  obtain ⟨r_9, hf, h⟩ := b1_inv h
                  refine k_callV (host := "") fx hK hA hw (c_X8_will l D k mh mrSt mrNow mrIsKept mrDraft mrTape mrRow mrRode mrWays mrLanes mrSizes mrCells mrBefore _ mSt mNow_2 mIsKept mPeople mDraft mDPeople mHasDry mToldDebts mHighest mTape mTaped mPos mBegun mSort mValue mFault mWrongAt mPaid mRow mRingMuch mRideSum mOwedSum mAllWays mRode mWays mLanes mSizes mCells mTorn mBefore p1 r_9 hf) (cwV 1 hts gX8_one_X8_will rfl rfl rfl (by decide +kernel) ⟨by decide, by decide⟩) (As := [.int p1]) (wr := []) (ws' := wX8 k mh mrSt mrNow mrIsKept mrDraft mrTape mrRow mrRode mrWays mrLanes mrSizes mrCells mrBefore mSt mNow_2 mIsKept mPeople mDraft mDPeople mHasDry mToldDebts mHighest mTape mTaped mPos mBegun mSort mValue mFault mWrongAt mPaid mRow mRingMuch mRideSum mOwedSum mAllWays mRode mWays mLanes mSizes mCells mTorn mBefore) [0, 1, 2, 3, 4, 5, 6, 7, 8, 9, 10, 11, 12] [] [0, 1, 2, 3, 4, 5, 6, 7, 8, 9, 10, 11, 12] rfl rfl (by decide) (by decide) (by decide) rfl (by decide) 8 rfl rfl [] rfl hl.1 rfl (Nat.le_of_ble_eq_true rfl) dX8_one_83 ⟨by decide, by decide⟩ (fun H locs (hw : Wd D A s.heap H locs (wX8 k mh mrSt mrNow mrIsKept mrDraft mrTape mrRow mrRode mrWays mrLanes mrSizes mrCells mrBefore mSt mNow_2 mIsKept mPeople mDraft mDPeople mHasDry mToldDebts mHighest mTape mTaped mPos mBegun mSort mValue mFault mWrongAt mPaid mRow mRingMuch mRideSum mOwedSum mAllWays mRode mWays mLanes mSizes mCells mTorn mBefore)) => ?_)
                  refine W.eq (g2 := F0 m 86 ls ([.int r_9])) rfl ?_
                  cases h
                  exact k_iret hx hb hr hlocks hw rfl dX8_one_86 hQ
                · rw [if_neg c15_6] at h
                  refine lv_tableOut (tgt := 87) hx hb dX8_one_15 (by have q0 : p2.toInt ≠ 0 := sw_ne c15_0; have q1 : p2.toInt ≠ 1 := sw_ne c15_1; have q2 : p2.toInt ≠ 2 := sw_ne c15_2; have q3 : p2.toInt ≠ 3 := sw_ne c15_3; have q4 : p2.toInt ≠ 4 := sw_ne c15_4; have q5 : p2.toInt ≠ 5 := sw_ne c15_5; have q6 : p2.toInt ≠ 6 := sw_ne c15_6; omega) (by decide) ?_
                  refine lv_iconst (v := (-1)) hx hb dX8_one_87 (by decide) ?_
                  cases h
                  exact k_iret hx hb hr hlocks hw rfl dX8_one_88 hQ
abbrev rmX8_owes : Room := { frames := 3, cells := 0, slots := 0, locals := 68 }
set_option maxHeartbeats 4000000 in
set_option maxRecDepth 100000 in
theorem c_X8_owes (l : Launch) (D : va_G) (k : Nat → ClassId) (mh mrSt mrNow mrIsKept mrDraft mrTape mrRow mrRode mrWays mrLanes mrSizes mrCells mrBefore : Nat) (sz : Nat) (mSt : (Nat → Int32)) (mNow : (Nat → Int32)) (mIsKept : (Nat → Int32)) (mPeople : Int32) (mDraft : (Nat → Int32)) (mDPeople : Int32) (mHasDry : Int32) (mToldDebts : Int32) (mHighest : Int32) (mTape : (Nat → Int32)) (mTaped : Int32) (mPos : Int32) (mBegun : Int32) (mSort : Int32) (mValue : Int32) (mFault : Int32) (mWrongAt : Int32) (mPaid : Int32) (mRow : (Nat → Int32)) (mRingMuch : Int32) (mRideSum : Int64) (mOwedSum : Int64) (mAllWays : Int64) (mRode : (Nat → Int32)) (mWays : (Nat → Int32)) (mLanes : (Nat → Int32)) (mSizes : (Nat → Int32)) (mCells : (Nat → Int32)) (mTorn : Int32) (mBefore : (Nat → Int32)) (p1 : Int32) (p2 : Int32) (r_ : Int32) (hf : f_X8_owes mSt mPeople p1 p2 = some r_) : mR l yX8_owes wsX8_owes rmX8_owes D k sz [.ref mh, .int p1, .int p2] (wX8 k mh mrSt mrNow mrIsKept mrDraft mrTape mrRow mrRode mrWays mrLanes mrSizes mrCells mrBefore mSt mNow mIsKept mPeople mDraft mDPeople mHasDry mToldDebts mHighest mTape mTaped mPos mBegun mSort mValue mFault mWrongAt mPaid mRow mRingMuch mRideSum mOwedSum mAllWays mRode mWays mLanes mSizes mCells mTorn mBefore) (wX8 k mh mrSt mrNow mrIsKept mrDraft mrTape mrRow mrRode mrWays mrLanes mrSizes mrCells mrBefore mSt mNow mIsKept mPeople mDraft mDPeople mHasDry mToldDebts mHighest mTape mTaped mPos mBegun mSort mValue mFault mWrongAt mPaid mRow mRingMuch mRideSum mOwedSum mAllWays mRode mWays mLanes mSizes mCells mTorn mBefore) (some (.int r_)) := by
  refine mR_of (cc := cX8_owes) (maxL := 3) (ret := some .int) (by decide) rfl (Nat.le_of_ble_eq_true rfl) [(0, .ref mh), (1, .int p1), (2, .int p2)] rfl ?_
  intro p e s m below meth c A ls args Q cx hK hA hw hl hQ
  have fx := cx.1
  obtain ⟨⟨hx, hb, hml, hown, hts⟩, hr, hlocks⟩ := cx
  have hinX8 : ∀ w ∈ wsX80, w ∈ wsX8_owes := fun w h => List.mem_cons_of_mem _ (List.mem_append_right _ h)
  have q_1 := hts (.fieldLink RX8 7 "DebtRidesModel" "st" "[I") (List.mem_of_getElem? (i := 1) rfl)
  have h := hf
  unfold f_X8_owes at h
  clear hf
  refine lv_aload_n hx hb dX8_owes_0 rfl (lv_at hl 0 rfl) ?_
  refine lv_iload_n hx hb dX8_owes_1 rfl (lv_at hl 1 rfl) ?_
  refine lv_iload_n hx hb dX8_owes_2 rfl (lv_at hl 2 rfl) ?_
  obtain ⟨r_1, hf, h⟩ := b1_inv h
  refine k_callV (host := "") fx hK hA hw (c_X8_areTwo l D k mh mrSt mrNow mrIsKept mrDraft mrTape mrRow mrRode mrWays mrLanes mrSizes mrCells mrBefore _ mSt mNow mIsKept mPeople mDraft mDPeople mHasDry mToldDebts mHighest mTape mTaped mPos mBegun mSort mValue mFault mWrongAt mPaid mRow mRingMuch mRideSum mOwedSum mAllWays mRode mWays mLanes mSizes mCells mTorn mBefore p1 p2 r_1 hf) (cwV 2 hts gX8_owes_X8_areTwo rfl rfl rfl (by decide +kernel) ⟨by decide, by decide⟩) (As := [.int p1, .int p2]) (wr := []) (ws' := wX8 k mh mrSt mrNow mrIsKept mrDraft mrTape mrRow mrRode mrWays mrLanes mrSizes mrCells mrBefore mSt mNow mIsKept mPeople mDraft mDPeople mHasDry mToldDebts mHighest mTape mTaped mPos mBegun mSort mValue mFault mWrongAt mPaid mRow mRingMuch mRideSum mOwedSum mAllWays mRode mWays mLanes mSizes mCells mTorn mBefore) [0, 1, 2, 3, 4, 5, 6, 7, 8, 9, 10, 11, 12] [] [0, 1, 2, 3, 4, 5, 6, 7, 8, 9, 10, 11, 12] rfl rfl (by decide) (by decide) (by decide) rfl (by decide) 8 rfl rfl [] rfl hl.1 rfl (Nat.le_of_ble_eq_true rfl) dX8_owes_3 ⟨by decide, by decide⟩ (fun H locs (hw : Wd D A s.heap H locs (wX8 k mh mrSt mrNow mrIsKept mrDraft mrTape mrRow mrRode mrWays mrLanes mrSizes mrCells mrBefore mSt mNow mIsKept mPeople mDraft mDPeople mHasDry mToldDebts mHighest mTape mTaped mPos mBegun mSort mValue mFault mWrongAt mPaid mRow mRingMuch mRideSum mOwedSum mAllWays mRode mWays mLanes mSizes mCells mTorn mBefore)) => ?_)
  refine W.eq (g2 := F0 m 6 ls ([.int r_1])) rfl ?_
  refine kb_if_eq (tgt := 25) hx hb dX8_owes_6 (by decide) h (fun c_6 h => ?_) (fun c_6 h => ?_)
  · refine lv_iconst (v := (-1)) hx hb dX8_owes_25 (by decide) ?_
    cases h
    exact k_iret hx hb hr hlocks hw rfl dX8_owes_26 hQ
  · refine lv_aload_n hx hb dX8_owes_9 rfl (lv_at hl 0 rfl) ?_
    refine va_get (ci := 8) (v := .ref mrSt) (C := RX8) (T := TX8) (N := 30) hx hb hts hinX8 hown hK.1 hw.1 0 rfl rfl 0 (by decide) q_1 (fun _ h9 => h9) rfl dX8_owes_10 ?_
    refine lv_bipush (v := 15) hx hb dX8_owes_13 (by decide) ?_
    refine lv_iconst (v := 5) hx hb dX8_owes_15 (by decide) ?_
    refine lv_iload_n hx hb dX8_owes_16 rfl (lv_at hl 1 rfl) ?_
    refine lv_imul hx hb dX8_owes_17 ?_
    refine lv_iadd hx hb dX8_owes_18 ?_
    refine lv_iload_n hx hb dX8_owes_19 rfl (lv_at hl 2 rfl) ?_
    refine lv_iadd hx hb dX8_owes_20 ?_
    refine k_iald hx hb hK hw 1 rfl dX8_owes_21 h (fun a_2 h => ?_)
    refine lv_goto (tgt := 26) hx hb dX8_owes_22 (by decide) ?_
    cases h
    exact k_iret hx hb hr hlocks hw rfl dX8_owes_26 hQ
abbrev rmX8_pay : Room := { frames := 3, cells := 0, slots := 0, locals := 68 }
set_option maxHeartbeats 4000000 in
set_option maxRecDepth 100000 in
theorem c_X8_pay (l : Launch) (D : va_G) (k : Nat → ClassId) (mh mrSt mrNow mrIsKept mrDraft mrTape mrRow mrRode mrWays mrLanes mrSizes mrCells mrBefore : Nat) (sz : Nat) (mSt : (Nat → Int32)) (mNow : (Nat → Int32)) (mIsKept : (Nat → Int32)) (mPeople : Int32) (mDraft : (Nat → Int32)) (mDPeople : Int32) (mHasDry : Int32) (mToldDebts : Int32) (mHighest : Int32) (mTape : (Nat → Int32)) (mTaped : Int32) (mPos : Int32) (mBegun : Int32) (mSort : Int32) (mValue : Int32) (mFault : Int32) (mWrongAt : Int32) (mPaid : Int32) (mRow : (Nat → Int32)) (mRingMuch : Int32) (mRideSum : Int64) (mOwedSum : Int64) (mAllWays : Int64) (mRode : (Nat → Int32)) (mWays : (Nat → Int32)) (mLanes : (Nat → Int32)) (mSizes : (Nat → Int32)) (mCells : (Nat → Int32)) (mTorn : Int32) (mBefore : (Nat → Int32)) (p1 : Int32) (p2 : Int32) (p3 : Int32) (r_ : Int32) (n_mSt : (Nat → Int32)) (n_mNow : (Nat → Int32)) (hf : f_X8_pay mSt mNow mPeople p1 p2 p3 = some (r_, n_mSt, n_mNow)) : mR l yX8_pay wsX8_pay rmX8_pay D k sz [.ref mh, .int p1, .int p2, .int p3] (wX8 k mh mrSt mrNow mrIsKept mrDraft mrTape mrRow mrRode mrWays mrLanes mrSizes mrCells mrBefore mSt mNow mIsKept mPeople mDraft mDPeople mHasDry mToldDebts mHighest mTape mTaped mPos mBegun mSort mValue mFault mWrongAt mPaid mRow mRingMuch mRideSum mOwedSum mAllWays mRode mWays mLanes mSizes mCells mTorn mBefore) (wX8 k mh mrSt mrNow mrIsKept mrDraft mrTape mrRow mrRode mrWays mrLanes mrSizes mrCells mrBefore n_mSt n_mNow mIsKept mPeople mDraft mDPeople mHasDry mToldDebts mHighest mTape mTaped mPos mBegun mSort mValue mFault mWrongAt mPaid mRow mRingMuch mRideSum mOwedSum mAllWays mRode mWays mLanes mSizes mCells mTorn mBefore) (some (.int r_)) := by
  refine mR_of (cc := cX8_pay) (maxL := 4) (ret := some .int) (by decide) rfl (Nat.le_of_ble_eq_true rfl) [(0, .ref mh), (1, .int p1), (2, .int p2), (3, .int p3)] rfl ?_
  intro p e s m below meth c A ls args Q cx hK hA hw hl hQ
  have fx := cx.1
  obtain ⟨⟨hx, hb, hml, hown, hts⟩, hr, hlocks⟩ := cx
  have q_1 := hts (.constantLong RX8 216 (99)) (List.mem_of_getElem? (i := 1) rfl)
  have h := hf
  unfold f_X8_pay at h
  clear hf
  refine lv_aload_n hx hb dX8_pay_0 rfl (lv_at hl 0 rfl) ?_
  refine lv_iload_n hx hb dX8_pay_1 rfl (lv_at hl 1 rfl) ?_
  refine lv_iload_n hx hb dX8_pay_2 rfl (lv_at hl 2 rfl) ?_
  obtain ⟨r_1, hf, h⟩ := b1_inv h
  refine k_callV (host := "") fx hK hA hw (c_X8_areTwo l D k mh mrSt mrNow mrIsKept mrDraft mrTape mrRow mrRode mrWays mrLanes mrSizes mrCells mrBefore _ mSt mNow mIsKept mPeople mDraft mDPeople mHasDry mToldDebts mHighest mTape mTaped mPos mBegun mSort mValue mFault mWrongAt mPaid mRow mRingMuch mRideSum mOwedSum mAllWays mRode mWays mLanes mSizes mCells mTorn mBefore p1 p2 r_1 hf) (cwV 2 hts gX8_pay_X8_areTwo rfl rfl rfl (by decide +kernel) ⟨by decide, by decide⟩) (As := [.int p1, .int p2]) (wr := []) (ws' := wX8 k mh mrSt mrNow mrIsKept mrDraft mrTape mrRow mrRode mrWays mrLanes mrSizes mrCells mrBefore mSt mNow mIsKept mPeople mDraft mDPeople mHasDry mToldDebts mHighest mTape mTaped mPos mBegun mSort mValue mFault mWrongAt mPaid mRow mRingMuch mRideSum mOwedSum mAllWays mRode mWays mLanes mSizes mCells mTorn mBefore) [0, 1, 2, 3, 4, 5, 6, 7, 8, 9, 10, 11, 12] [] [0, 1, 2, 3, 4, 5, 6, 7, 8, 9, 10, 11, 12] rfl rfl (by decide) (by decide) (by decide) rfl (by decide) 8 rfl rfl [] rfl hl.1 rfl (Nat.le_of_ble_eq_true rfl) dX8_pay_3 ⟨by decide, by decide⟩ (fun H locs (hw : Wd D A s.heap H locs (wX8 k mh mrSt mrNow mrIsKept mrDraft mrTape mrRow mrRode mrWays mrLanes mrSizes mrCells mrBefore mSt mNow mIsKept mPeople mDraft mDPeople mHasDry mToldDebts mHighest mTape mTaped mPos mBegun mSort mValue mFault mWrongAt mPaid mRow mRingMuch mRideSum mOwedSum mAllWays mRode mWays mLanes mSizes mCells mTorn mBefore)) => ?_)
  refine W.eq (g2 := F0 m 6 ls ([.int r_1])) rfl ?_
  refine kb_if_eq (tgt := 21) hx hb dX8_pay_6 (by decide) h (fun c_6 h => ?_) (fun c_6 h => ?_)
  · refine lv_iconst (v := (-1)) hx hb dX8_pay_21 (by decide) ?_
    cases h
    exact k_iret hx hb hr hlocks hw rfl dX8_pay_22 hQ
  · refine lv_iload_n hx hb dX8_pay_9 rfl (lv_at hl 3 rfl) ?_
    refine lv_i2l hx hb dX8_pay_10 rfl ?_
    refine lv_lconst (v := 1) hx hb dX8_pay_11 rfl ?_
    refine lv_ldc2 (v := 99) hx hb hown q_1 dX8_pay_12 ?_
    obtain ⟨r_2, hf, h⟩ := b1_inv h
    refine k_callS (b := 0) (C := "") (host := "") fx hK hA hw (c_X8_in l D k _ p3.toInt64 1 99 r_2 hf) (va_cwS 3 hts gX8_pay_X8_in rfl rfl rfl (by decide +kernel) ⟨by decide, by decide⟩) (As := [.long p3.toInt64, .long 1, .long 99]) (wr := [(mh, .inr (8, [.ref mrSt, .ref mrNow, .ref mrIsKept, .int mPeople, .ref mrDraft, .int mDPeople, .int mHasDry, .int mToldDebts, .int mHighest, .ref mrTape, .int mTaped, .int mPos, .int mBegun, .int mSort, .int mValue, .int mFault, .int mWrongAt, .int mPaid, .ref mrRow, .int mRingMuch, .long mRideSum, .long mOwedSum, .long mAllWays, .ref mrRode, .ref mrWays, .ref mrLanes, .ref mrSizes, .ref mrCells, .int mTorn, .ref mrBefore])), (mrSt, .inl (k 0, 183, .inl mSt)), (mrNow, .inl (k 0, 61, .inl mNow)), (mrIsKept, .inl (k 1, 2, .inl mIsKept)), (mrDraft, .inl (k 0, 61, .inl mDraft)), (mrTape, .inl (k 0, 160, .inl mTape)), (mrRow, .inl (k 0, 5, .inl mRow)), (mrRode, .inl (k 0, 31, .inl mRode)), (mrWays, .inl (k 0, 31, .inl mWays)), (mrLanes, .inl (k 0, 4, .inl mLanes)), (mrSizes, .inl (k 0, 4, .inl mSizes)), (mrCells, .inl (k 0, 160, .inl mCells)), (mrBefore, .inl (k 0, 61, .inl mBefore))]) (ws' := wX8 k mh mrSt mrNow mrIsKept mrDraft mrTape mrRow mrRode mrWays mrLanes mrSizes mrCells mrBefore mSt mNow mIsKept mPeople mDraft mDPeople mHasDry mToldDebts mHighest mTape mTaped mPos mBegun mSort mValue mFault mWrongAt mPaid mRow mRingMuch mRideSum mOwedSum mAllWays mRode mWays mLanes mSizes mCells mTorn mBefore) [] [0, 1, 2, 3, 4, 5, 6, 7, 8, 9, 10, 11, 12] [0, 1, 2, 3, 4, 5, 6, 7, 8, 9, 10, 11, 12] rfl rfl (by decide) (by decide) (by decide) rfl (by decide) [] rfl hl.1 rfl (Nat.le_of_ble_eq_true rfl) dX8_pay_15 ⟨by decide, by decide⟩ (fun H locs (hw : Wd D A s.heap H locs (wX8 k mh mrSt mrNow mrIsKept mrDraft mrTape mrRow mrRode mrWays mrLanes mrSizes mrCells mrBefore mSt mNow mIsKept mPeople mDraft mDPeople mHasDry mToldDebts mHighest mTape mTaped mPos mBegun mSort mValue mFault mWrongAt mPaid mRow mRingMuch mRideSum mOwedSum mAllWays mRode mWays mLanes mSizes mCells mTorn mBefore)) => ?_)
    refine W.eq (g2 := F0 m 18 ls ([.int r_2])) rfl ?_
    refine kb_if_ne (tgt := 23) hx hb dX8_pay_18 (by decide) h (fun c_18 h => ?_) (fun c_18 h => ?_)
    · refine lv_iconst (v := (-1)) hx hb dX8_pay_21 (by decide) ?_
      cases h
      exact k_iret hx hb hr hlocks hw rfl dX8_pay_22 hQ
    · refine lv_aload_n hx hb dX8_pay_23 rfl (lv_at hl 0 rfl) ?_
      obtain ⟨mNow_3, hf, h⟩ := b1_inv h
      refine k_callV (host := "") fx hK hA hw (c_X8_starts l D k mh mrSt mrNow mrIsKept mrDraft mrTape mrRow mrRode mrWays mrLanes mrSizes mrCells mrBefore _ mSt mNow mIsKept mPeople mDraft mDPeople mHasDry mToldDebts mHighest mTape mTaped mPos mBegun mSort mValue mFault mWrongAt mPaid mRow mRingMuch mRideSum mOwedSum mAllWays mRode mWays mLanes mSizes mCells mTorn mBefore mNow_3 hf) (cwV 0 hts gX8_pay_X8_starts rfl rfl rfl (by decide +kernel) ⟨by decide, by decide⟩) (As := []) (wr := []) (ws' := wX8 k mh mrSt mrNow mrIsKept mrDraft mrTape mrRow mrRode mrWays mrLanes mrSizes mrCells mrBefore mSt mNow_3 mIsKept mPeople mDraft mDPeople mHasDry mToldDebts mHighest mTape mTaped mPos mBegun mSort mValue mFault mWrongAt mPaid mRow mRingMuch mRideSum mOwedSum mAllWays mRode mWays mLanes mSizes mCells mTorn mBefore) [0, 1, 2, 3, 4, 5, 6, 7, 8, 9, 10, 11, 12] [] [0, 1, 2, 3, 4, 5, 6, 7, 8, 9, 10, 11, 12] rfl rfl (by decide) (by decide) (by decide) rfl (by decide) 8 rfl rfl [] rfl hl.1 rfl (Nat.le_of_ble_eq_true rfl) dX8_pay_24 ⟨by decide, by decide⟩ (fun H locs (hw : Wd D A s.heap H locs (wX8 k mh mrSt mrNow mrIsKept mrDraft mrTape mrRow mrRode mrWays mrLanes mrSizes mrCells mrBefore mSt mNow_3 mIsKept mPeople mDraft mDPeople mHasDry mToldDebts mHighest mTape mTaped mPos mBegun mSort mValue mFault mWrongAt mPaid mRow mRingMuch mRideSum mOwedSum mAllWays mRode mWays mLanes mSizes mCells mTorn mBefore)) => ?_)
      refine W.eq (g2 := F0 m 27 ls ([])) rfl ?_
      refine lv_aload_n hx hb dX8_pay_27 rfl (lv_at hl 0 rfl) ?_
      refine lv_iload_n hx hb dX8_pay_28 rfl (lv_at hl 1 rfl) ?_
      refine lv_iload_n hx hb dX8_pay_29 rfl (lv_at hl 2 rfl) ?_
      obtain ⟨r_4, hf, h⟩ := b1_inv h
      refine k_callV (host := "") fx hK hA hw (c_X8_debt l D k mh mrSt mrNow mrIsKept mrDraft mrTape mrRow mrRode mrWays mrLanes mrSizes mrCells mrBefore _ mSt mNow_3 mIsKept mPeople mDraft mDPeople mHasDry mToldDebts mHighest mTape mTaped mPos mBegun mSort mValue mFault mWrongAt mPaid mRow mRingMuch mRideSum mOwedSum mAllWays mRode mWays mLanes mSizes mCells mTorn mBefore p1 p2 r_4 hf) (cwV 2 hts gX8_pay_X8_debt rfl rfl rfl (by decide +kernel) ⟨by decide, by decide⟩) (As := [.int p1, .int p2]) (wr := []) (ws' := wX8 k mh mrSt mrNow mrIsKept mrDraft mrTape mrRow mrRode mrWays mrLanes mrSizes mrCells mrBefore mSt mNow_3 mIsKept mPeople mDraft mDPeople mHasDry mToldDebts mHighest mTape mTaped mPos mBegun mSort mValue mFault mWrongAt mPaid mRow mRingMuch mRideSum mOwedSum mAllWays mRode mWays mLanes mSizes mCells mTorn mBefore) [0, 1, 2, 3, 4, 5, 6, 7, 8, 9, 10, 11, 12] [] [0, 1, 2, 3, 4, 5, 6, 7, 8, 9, 10, 11, 12] rfl rfl (by decide) (by decide) (by decide) rfl (by decide) 8 rfl rfl [] rfl hl.1 rfl (Nat.le_of_ble_eq_true rfl) dX8_pay_30 ⟨by decide, by decide⟩ (fun H locs (hw : Wd D A s.heap H locs (wX8 k mh mrSt mrNow mrIsKept mrDraft mrTape mrRow mrRode mrWays mrLanes mrSizes mrCells mrBefore mSt mNow_3 mIsKept mPeople mDraft mDPeople mHasDry mToldDebts mHighest mTape mTaped mPos mBegun mSort mValue mFault mWrongAt mPaid mRow mRingMuch mRideSum mOwedSum mAllWays mRode mWays mLanes mSizes mCells mTorn mBefore)) => ?_)
      refine W.eq (g2 := F0 m 33 ls ([.int r_4])) rfl ?_
      refine lv_iload_n hx hb dX8_pay_33 rfl (lv_at hl 3 rfl) ?_
      refine kb_icmp_lt (tgt := 47) hx hb dX8_pay_34 (by decide) h (fun c_34 h => ?_) (fun c_34 h => ?_)
      · refine lv_bipush (v := (-2)) hx hb dX8_pay_47 (by decide) ?_
        cases h
        exact k_iret hx hb hr hlocks hw rfl dX8_pay_49 hQ
      · refine lv_aload_n hx hb dX8_pay_37 rfl (lv_at hl 0 rfl) ?_
        refine lv_iload_n hx hb dX8_pay_38 rfl (lv_at hl 1 rfl) ?_
        refine lv_iconst (v := 1) hx hb dX8_pay_39 (by decide) ?_
        obtain ⟨r_5, hf, h⟩ := b1_inv h
        refine k_callV (host := "") fx hK hA hw (c_X8_of l D k mh mrSt mrNow mrIsKept mrDraft mrTape mrRow mrRode mrWays mrLanes mrSizes mrCells mrBefore _ mSt mNow_3 mIsKept mPeople mDraft mDPeople mHasDry mToldDebts mHighest mTape mTaped mPos mBegun mSort mValue mFault mWrongAt mPaid mRow mRingMuch mRideSum mOwedSum mAllWays mRode mWays mLanes mSizes mCells mTorn mBefore p1 1 r_5 hf) (cwV 2 hts gX8_pay_X8_of rfl rfl rfl (by decide +kernel) ⟨by decide, by decide⟩) (As := [.int p1, .int 1]) (wr := []) (ws' := wX8 k mh mrSt mrNow mrIsKept mrDraft mrTape mrRow mrRode mrWays mrLanes mrSizes mrCells mrBefore mSt mNow_3 mIsKept mPeople mDraft mDPeople mHasDry mToldDebts mHighest mTape mTaped mPos mBegun mSort mValue mFault mWrongAt mPaid mRow mRingMuch mRideSum mOwedSum mAllWays mRode mWays mLanes mSizes mCells mTorn mBefore) [0, 1, 2, 3, 4, 5, 6, 7, 8, 9, 10, 11, 12] [] [0, 1, 2, 3, 4, 5, 6, 7, 8, 9, 10, 11, 12] rfl rfl (by decide) (by decide) (by decide) rfl (by decide) 8 rfl rfl [] rfl hl.1 rfl (Nat.le_of_ble_eq_true rfl) dX8_pay_40 ⟨by decide, by decide⟩ (fun H locs (hw : Wd D A s.heap H locs (wX8 k mh mrSt mrNow mrIsKept mrDraft mrTape mrRow mrRode mrWays mrLanes mrSizes mrCells mrBefore mSt mNow_3 mIsKept mPeople mDraft mDPeople mHasDry mToldDebts mHighest mTape mTaped mPos mBegun mSort mValue mFault mWrongAt mPaid mRow mRingMuch mRideSum mOwedSum mAllWays mRode mWays mLanes mSizes mCells mTorn mBefore)) => ?_)
        refine W.eq (g2 := F0 m 43 ls ([.int r_5])) rfl ?_
        refine lv_iload_n hx hb dX8_pay_43 rfl (lv_at hl 3 rfl) ?_
        refine kb_icmp_ge (tgt := 50) hx hb dX8_pay_44 (by decide) h (fun c_44 h => ?_) (fun c_44 h => ?_)
        · refine lv_aload_n hx hb dX8_pay_50 rfl (lv_at hl 0 rfl) ?_
          refine lv_iload_n hx hb dX8_pay_51 rfl (lv_at hl 1 rfl) ?_
          refine lv_iload_n hx hb dX8_pay_52 rfl (lv_at hl 2 rfl) ?_
          refine lv_iload_n hx hb dX8_pay_53 rfl (lv_at hl 3 rfl) ?_
          obtain ⟨mNow_6, hf, h⟩ := b1_inv h
          refine k_callV (host := "") fx hK hA hw (c_X8_paysTo l D k mh mrSt mrNow mrIsKept mrDraft mrTape mrRow mrRode mrWays mrLanes mrSizes mrCells mrBefore _ mSt mNow_3 mIsKept mPeople mDraft mDPeople mHasDry mToldDebts mHighest mTape mTaped mPos mBegun mSort mValue mFault mWrongAt mPaid mRow mRingMuch mRideSum mOwedSum mAllWays mRode mWays mLanes mSizes mCells mTorn mBefore p1 p2 p3 mNow_6 hf) (cwV 3 hts gX8_pay_X8_paysTo rfl rfl rfl (by decide +kernel) ⟨by decide, by decide⟩) (As := [.int p1, .int p2, .int p3]) (wr := []) (ws' := wX8 k mh mrSt mrNow mrIsKept mrDraft mrTape mrRow mrRode mrWays mrLanes mrSizes mrCells mrBefore mSt mNow_6 mIsKept mPeople mDraft mDPeople mHasDry mToldDebts mHighest mTape mTaped mPos mBegun mSort mValue mFault mWrongAt mPaid mRow mRingMuch mRideSum mOwedSum mAllWays mRode mWays mLanes mSizes mCells mTorn mBefore) [0, 1, 2, 3, 4, 5, 6, 7, 8, 9, 10, 11, 12] [] [0, 1, 2, 3, 4, 5, 6, 7, 8, 9, 10, 11, 12] rfl rfl (by decide) (by decide) (by decide) rfl (by decide) 8 rfl rfl [] rfl hl.1 rfl (Nat.le_of_ble_eq_true rfl) dX8_pay_54 ⟨by decide, by decide⟩ (fun H locs (hw : Wd D A s.heap H locs (wX8 k mh mrSt mrNow mrIsKept mrDraft mrTape mrRow mrRode mrWays mrLanes mrSizes mrCells mrBefore mSt mNow_6 mIsKept mPeople mDraft mDPeople mHasDry mToldDebts mHighest mTape mTaped mPos mBegun mSort mValue mFault mWrongAt mPaid mRow mRingMuch mRideSum mOwedSum mAllWays mRode mWays mLanes mSizes mCells mTorn mBefore)) => ?_)
          refine W.eq (g2 := F0 m 57 ls ([])) rfl ?_
          refine lv_aload_n hx hb dX8_pay_57 rfl (lv_at hl 0 rfl) ?_
          obtain ⟨mSt_7, hf, h⟩ := b1_inv h
          refine k_callV (host := "") fx hK hA hw (c_X8_settles l D k mh mrSt mrNow mrIsKept mrDraft mrTape mrRow mrRode mrWays mrLanes mrSizes mrCells mrBefore _ mSt mNow_6 mIsKept mPeople mDraft mDPeople mHasDry mToldDebts mHighest mTape mTaped mPos mBegun mSort mValue mFault mWrongAt mPaid mRow mRingMuch mRideSum mOwedSum mAllWays mRode mWays mLanes mSizes mCells mTorn mBefore mSt_7 hf) (cwV 0 hts gX8_pay_X8_settles rfl rfl rfl (by decide +kernel) ⟨by decide, by decide⟩) (As := []) (wr := []) (ws' := wX8 k mh mrSt mrNow mrIsKept mrDraft mrTape mrRow mrRode mrWays mrLanes mrSizes mrCells mrBefore mSt_7 mNow_6 mIsKept mPeople mDraft mDPeople mHasDry mToldDebts mHighest mTape mTaped mPos mBegun mSort mValue mFault mWrongAt mPaid mRow mRingMuch mRideSum mOwedSum mAllWays mRode mWays mLanes mSizes mCells mTorn mBefore) [0, 1, 2, 3, 4, 5, 6, 7, 8, 9, 10, 11, 12] [] [0, 1, 2, 3, 4, 5, 6, 7, 8, 9, 10, 11, 12] rfl rfl (by decide) (by decide) (by decide) rfl (by decide) 8 rfl rfl [] rfl hl.1 rfl (Nat.le_of_ble_eq_true rfl) dX8_pay_58 ⟨by decide, by decide⟩ (fun H locs (hw : Wd D A s.heap H locs (wX8 k mh mrSt mrNow mrIsKept mrDraft mrTape mrRow mrRode mrWays mrLanes mrSizes mrCells mrBefore mSt_7 mNow_6 mIsKept mPeople mDraft mDPeople mHasDry mToldDebts mHighest mTape mTaped mPos mBegun mSort mValue mFault mWrongAt mPaid mRow mRingMuch mRideSum mOwedSum mAllWays mRode mWays mLanes mSizes mCells mTorn mBefore)) => ?_)
          refine W.eq (g2 := F0 m 61 ls ([])) rfl ?_
          refine lv_aload_n hx hb dX8_pay_61 rfl (lv_at hl 0 rfl) ?_
          refine lv_iload_n hx hb dX8_pay_62 rfl (lv_at hl 1 rfl) ?_
          refine lv_iload_n hx hb dX8_pay_63 rfl (lv_at hl 2 rfl) ?_
          obtain ⟨r_8, hf, h⟩ := b1_inv h
          refine k_callV (host := "") fx hK hA hw (c_X8_debt l D k mh mrSt mrNow mrIsKept mrDraft mrTape mrRow mrRode mrWays mrLanes mrSizes mrCells mrBefore _ mSt_7 mNow_6 mIsKept mPeople mDraft mDPeople mHasDry mToldDebts mHighest mTape mTaped mPos mBegun mSort mValue mFault mWrongAt mPaid mRow mRingMuch mRideSum mOwedSum mAllWays mRode mWays mLanes mSizes mCells mTorn mBefore p1 p2 r_8 hf) (cwV 2 hts gX8_pay_X8_debt rfl rfl rfl (by decide +kernel) ⟨by decide, by decide⟩) (As := [.int p1, .int p2]) (wr := []) (ws' := wX8 k mh mrSt mrNow mrIsKept mrDraft mrTape mrRow mrRode mrWays mrLanes mrSizes mrCells mrBefore mSt_7 mNow_6 mIsKept mPeople mDraft mDPeople mHasDry mToldDebts mHighest mTape mTaped mPos mBegun mSort mValue mFault mWrongAt mPaid mRow mRingMuch mRideSum mOwedSum mAllWays mRode mWays mLanes mSizes mCells mTorn mBefore) [0, 1, 2, 3, 4, 5, 6, 7, 8, 9, 10, 11, 12] [] [0, 1, 2, 3, 4, 5, 6, 7, 8, 9, 10, 11, 12] rfl rfl (by decide) (by decide) (by decide) rfl (by decide) 8 rfl rfl [] rfl hl.1 rfl (Nat.le_of_ble_eq_true rfl) dX8_pay_64 ⟨by decide, by decide⟩ (fun H locs (hw : Wd D A s.heap H locs (wX8 k mh mrSt mrNow mrIsKept mrDraft mrTape mrRow mrRode mrWays mrLanes mrSizes mrCells mrBefore mSt_7 mNow_6 mIsKept mPeople mDraft mDPeople mHasDry mToldDebts mHighest mTape mTaped mPos mBegun mSort mValue mFault mWrongAt mPaid mRow mRingMuch mRideSum mOwedSum mAllWays mRode mWays mLanes mSizes mCells mTorn mBefore)) => ?_)
          refine W.eq (g2 := F0 m 67 ls ([.int r_8])) rfl ?_
          cases h
          exact k_iret hx hb hr hlocks hw rfl dX8_pay_67 hQ
        · refine lv_bipush (v := (-2)) hx hb dX8_pay_47 (by decide) ?_
          cases h
          exact k_iret hx hb hr hlocks hw rfl dX8_pay_49 hQ
abbrev rmX8_read : Room := { frames := 4, cells := 0, slots := 0, locals := 91 }
set_option maxHeartbeats 4000000 in
set_option maxRecDepth 100000 in
theorem c_X8_read (l : Launch) (D : va_G) (k : Nat → ClassId) (mh mrSt mrNow mrIsKept mrDraft mrTape mrRow mrRode mrWays mrLanes mrSizes mrCells mrBefore : Nat) (sz : Nat) (mSt : (Nat → Int32)) (mNow : (Nat → Int32)) (mIsKept : (Nat → Int32)) (mPeople : Int32) (mDraft : (Nat → Int32)) (mDPeople : Int32) (mHasDry : Int32) (mToldDebts : Int32) (mHighest : Int32) (mTape : (Nat → Int32)) (mTaped : Int32) (mPos : Int32) (mBegun : Int32) (mSort : Int32) (mValue : Int32) (mFault : Int32) (mWrongAt : Int32) (mPaid : Int32) (mRow : (Nat → Int32)) (mRingMuch : Int32) (mRideSum : Int64) (mOwedSum : Int64) (mAllWays : Int64) (mRode : (Nat → Int32)) (mWays : (Nat → Int32)) (mLanes : (Nat → Int32)) (mSizes : (Nat → Int32)) (mCells : (Nat → Int32)) (mTorn : Int32) (mBefore : (Nat → Int32)) (p1 : Int32) (p2 : Int32) (p3 : Int32) (p4 : Int32) (r_ : Int32) (n_mSt : (Nat → Int32)) (n_mNow : (Nat → Int32)) (n_mTorn : Int32) (n_mBefore : (Nat → Int32)) (hf : f_X8_read mSt mNow mPeople mLanes mSizes mCells mTorn mBefore p1 p2 p3 p4 = some (r_, n_mSt, n_mNow, n_mTorn, n_mBefore)) : mR l yX8_read wsX8_read rmX8_read D k sz [.ref mh, .int p1, .int p2, .int p3, .int p4] (wX8 k mh mrSt mrNow mrIsKept mrDraft mrTape mrRow mrRode mrWays mrLanes mrSizes mrCells mrBefore mSt mNow mIsKept mPeople mDraft mDPeople mHasDry mToldDebts mHighest mTape mTaped mPos mBegun mSort mValue mFault mWrongAt mPaid mRow mRingMuch mRideSum mOwedSum mAllWays mRode mWays mLanes mSizes mCells mTorn mBefore) (wX8 k mh mrSt mrNow mrIsKept mrDraft mrTape mrRow mrRode mrWays mrLanes mrSizes mrCells mrBefore n_mSt n_mNow mIsKept mPeople mDraft mDPeople mHasDry mToldDebts mHighest mTape mTaped mPos mBegun mSort mValue mFault mWrongAt mPaid mRow mRingMuch mRideSum mOwedSum mAllWays mRode mWays mLanes mSizes mCells n_mTorn n_mBefore) (some (.int r_)) := by
  refine mR_of (cc := cX8_read) (maxL := 11) (ret := some .int) (by decide) rfl (Nat.le_of_ble_eq_true rfl) [(0, .ref mh), (1, .int p1), (2, .int p2), (3, .int p3), (4, .int p4)] rfl ?_
  intro p e s m below meth c A ls args Q cx hK hA hw hl hQ
  have fx := cx.1
  obtain ⟨⟨hx, hb, hml, hown, hts⟩, hr, hlocks⟩ := cx
  have hinX8 : ∀ w ∈ wsX80, w ∈ wsX8_read := fun w h => List.mem_cons_of_mem _ (List.mem_append_right _ h)
  have q_1 := hts (.constantLong RX8 306 (13)) (List.mem_of_getElem? (i := 1) rfl)
  have q_2 := hts (.fieldLink RX8 44 "DebtRidesModel" "before" "[I") (List.mem_of_getElem? (i := 2) rfl)
  have q_3 := hts (.fieldLink RX8 7 "DebtRidesModel" "st" "[I") (List.mem_of_getElem? (i := 3) rfl)
  have q_4 := hts (.fieldLink RX8 35 "DebtRidesModel" "lanes" "[I") (List.mem_of_getElem? (i := 4) rfl)
  have q_5 := hts (.fieldLink RX8 38 "DebtRidesModel" "sizes" "[I") (List.mem_of_getElem? (i := 5) rfl)
  have q_6 := hts (.fieldLink RX8 41 "DebtRidesModel" "cells" "[I") (List.mem_of_getElem? (i := 6) rfl)
  have q_7 := hts (.fieldLink RX8 311 "DebtRidesModel" "torn" "I") (List.mem_of_getElem? (i := 7) rfl)
  have h := hf
  unfold f_X8_read at h
  clear hf
  refine lv_iload_n hx hb dX8_read_0 rfl (lv_at hl 1 rfl) ?_
  refine lv_iload_n hx hb dX8_read_1 rfl (lv_at hl 2 rfl) ?_
  obtain ⟨r_1, hf, h⟩ := b1_inv h
  refine k_callS (b := 0) (C := "") (host := "") fx hK hA hw (c_X8_isSheet l D k _ p1 p2 r_1 hf) (va_cwS 2 hts gX8_read_X8_isSheet rfl rfl rfl (by decide +kernel) ⟨by decide, by decide⟩) (As := [.int p1, .int p2]) (wr := [(mh, .inr (8, [.ref mrSt, .ref mrNow, .ref mrIsKept, .int mPeople, .ref mrDraft, .int mDPeople, .int mHasDry, .int mToldDebts, .int mHighest, .ref mrTape, .int mTaped, .int mPos, .int mBegun, .int mSort, .int mValue, .int mFault, .int mWrongAt, .int mPaid, .ref mrRow, .int mRingMuch, .long mRideSum, .long mOwedSum, .long mAllWays, .ref mrRode, .ref mrWays, .ref mrLanes, .ref mrSizes, .ref mrCells, .int mTorn, .ref mrBefore])), (mrSt, .inl (k 0, 183, .inl mSt)), (mrNow, .inl (k 0, 61, .inl mNow)), (mrIsKept, .inl (k 1, 2, .inl mIsKept)), (mrDraft, .inl (k 0, 61, .inl mDraft)), (mrTape, .inl (k 0, 160, .inl mTape)), (mrRow, .inl (k 0, 5, .inl mRow)), (mrRode, .inl (k 0, 31, .inl mRode)), (mrWays, .inl (k 0, 31, .inl mWays)), (mrLanes, .inl (k 0, 4, .inl mLanes)), (mrSizes, .inl (k 0, 4, .inl mSizes)), (mrCells, .inl (k 0, 160, .inl mCells)), (mrBefore, .inl (k 0, 61, .inl mBefore))]) (ws' := wX8 k mh mrSt mrNow mrIsKept mrDraft mrTape mrRow mrRode mrWays mrLanes mrSizes mrCells mrBefore mSt mNow mIsKept mPeople mDraft mDPeople mHasDry mToldDebts mHighest mTape mTaped mPos mBegun mSort mValue mFault mWrongAt mPaid mRow mRingMuch mRideSum mOwedSum mAllWays mRode mWays mLanes mSizes mCells mTorn mBefore) [] [0, 1, 2, 3, 4, 5, 6, 7, 8, 9, 10, 11, 12] [0, 1, 2, 3, 4, 5, 6, 7, 8, 9, 10, 11, 12] rfl rfl (by decide) (by decide) (by decide) rfl (by decide) [] rfl hl.1 rfl (Nat.le_of_ble_eq_true rfl) dX8_read_2 ⟨by decide, by decide⟩ (fun H locs (hw : Wd D A s.heap H locs (wX8 k mh mrSt mrNow mrIsKept mrDraft mrTape mrRow mrRode mrWays mrLanes mrSizes mrCells mrBefore mSt mNow mIsKept mPeople mDraft mDPeople mHasDry mToldDebts mHighest mTape mTaped mPos mBegun mSort mValue mFault mWrongAt mPaid mRow mRingMuch mRideSum mOwedSum mAllWays mRode mWays mLanes mSizes mCells mTorn mBefore)) => ?_)
  refine W.eq (g2 := F0 m 5 ls ([.int r_1])) rfl ?_
  refine kb_if_eq (tgt := 21) hx hb dX8_read_5 (by decide) h (fun c_5 h => ?_) (fun c_5 h => ?_)
  · refine lv_iconst (v := (-1)) hx hb dX8_read_21 (by decide) ?_
    cases h
    exact k_iret hx hb hr hlocks hw rfl dX8_read_22 hQ
  · refine lv_iload hx hb dX8_read_8 (lv_at hl 4 rfl) ?_
    refine lv_i2l hx hb dX8_read_10 rfl ?_
    refine lv_lconst (v := 0) hx hb dX8_read_11 rfl ?_
    refine lv_ldc2 (v := 13) hx hb hown q_1 dX8_read_12 ?_
    obtain ⟨r_2, hf, h⟩ := b1_inv h
    refine k_callS (b := 0) (C := "") (host := "") fx hK hA hw (c_X8_in l D k _ p4.toInt64 0 13 r_2 hf) (va_cwS 3 hts gX8_read_X8_in rfl rfl rfl (by decide +kernel) ⟨by decide, by decide⟩) (As := [.long p4.toInt64, .long 0, .long 13]) (wr := [(mh, .inr (8, [.ref mrSt, .ref mrNow, .ref mrIsKept, .int mPeople, .ref mrDraft, .int mDPeople, .int mHasDry, .int mToldDebts, .int mHighest, .ref mrTape, .int mTaped, .int mPos, .int mBegun, .int mSort, .int mValue, .int mFault, .int mWrongAt, .int mPaid, .ref mrRow, .int mRingMuch, .long mRideSum, .long mOwedSum, .long mAllWays, .ref mrRode, .ref mrWays, .ref mrLanes, .ref mrSizes, .ref mrCells, .int mTorn, .ref mrBefore])), (mrSt, .inl (k 0, 183, .inl mSt)), (mrNow, .inl (k 0, 61, .inl mNow)), (mrIsKept, .inl (k 1, 2, .inl mIsKept)), (mrDraft, .inl (k 0, 61, .inl mDraft)), (mrTape, .inl (k 0, 160, .inl mTape)), (mrRow, .inl (k 0, 5, .inl mRow)), (mrRode, .inl (k 0, 31, .inl mRode)), (mrWays, .inl (k 0, 31, .inl mWays)), (mrLanes, .inl (k 0, 4, .inl mLanes)), (mrSizes, .inl (k 0, 4, .inl mSizes)), (mrCells, .inl (k 0, 160, .inl mCells)), (mrBefore, .inl (k 0, 61, .inl mBefore))]) (ws' := wX8 k mh mrSt mrNow mrIsKept mrDraft mrTape mrRow mrRode mrWays mrLanes mrSizes mrCells mrBefore mSt mNow mIsKept mPeople mDraft mDPeople mHasDry mToldDebts mHighest mTape mTaped mPos mBegun mSort mValue mFault mWrongAt mPaid mRow mRingMuch mRideSum mOwedSum mAllWays mRode mWays mLanes mSizes mCells mTorn mBefore) [] [0, 1, 2, 3, 4, 5, 6, 7, 8, 9, 10, 11, 12] [0, 1, 2, 3, 4, 5, 6, 7, 8, 9, 10, 11, 12] rfl rfl (by decide) (by decide) (by decide) rfl (by decide) [] rfl hl.1 rfl (Nat.le_of_ble_eq_true rfl) dX8_read_15 ⟨by decide, by decide⟩ (fun H locs (hw : Wd D A s.heap H locs (wX8 k mh mrSt mrNow mrIsKept mrDraft mrTape mrRow mrRode mrWays mrLanes mrSizes mrCells mrBefore mSt mNow mIsKept mPeople mDraft mDPeople mHasDry mToldDebts mHighest mTape mTaped mPos mBegun mSort mValue mFault mWrongAt mPaid mRow mRingMuch mRideSum mOwedSum mAllWays mRode mWays mLanes mSizes mCells mTorn mBefore)) => ?_)
    refine W.eq (g2 := F0 m 18 ls ([.int r_2])) rfl ?_
    refine kb_if_ne (tgt := 23) hx hb dX8_read_18 (by decide) h (fun c_18 h => ?_) (fun c_18 h => ?_)
    · refine lv_iconst (v := (-1)) hx hb dX8_read_21 (by decide) ?_
      cases h
      exact k_iret hx hb hr hlocks hw rfl dX8_read_22 hQ
    · refine lv_iconst (v := 0) hx hb dX8_read_23 (by decide) ?_
      refine lv_istore (lv' := [(5, .int 0), (0, .ref mh), (1, .int p1), (2, .int p2), (3, .int p3), (4, .int p4)]) hx hb dX8_read_24 hl (by decide) rfl (fun ls hl => ?_)
      obtain ⟨mBefore_5, hL_26, h⟩ := b1_inv h
      have X_26 : ∀ (H : Heap) (locs : List Loc) (ls : Array Slot), Wd D A s.heap H locs (wX8 k mh mrSt mrNow mrIsKept mrDraft mrTape mrRow mrRode mrWays mrLanes mrSizes mrCells mrBefore mSt mNow mIsKept mPeople mDraft mDPeople mHasDry mToldDebts mHighest mTape mTaped mPos mBegun mSort mValue mFault mWrongAt mPaid mRow mRingMuch mRideSum mOwedSum mAllWays mRode mWays mLanes mSizes mCells mTorn mBefore_5) → lv_has ls 11 [(0, .ref mh), (1, .int p1), (2, .int p2), (3, .int p3), (4, .int p4)] → W p l e rmX8_read s m args below meth c H locs 0 0 Q (F0 m 53 ls []) := by
        intro H locs ls hw hl
        refine lv_iconst (v := 0) hx hb dX8_read_53 (by decide) ?_
        refine lv_istore (lv' := [(5, .int 0), (0, .ref mh), (1, .int p1), (2, .int p2), (3, .int p3), (4, .int p4)]) hx hb dX8_read_54 hl (by decide) rfl (fun ls hl => ?_)
        refine lv_iconst (v := 0) hx hb dX8_read_56 (by decide) ?_
        refine lv_istore (lv' := [(6, .int 0), (5, .int 0), (0, .ref mh), (1, .int p1), (2, .int p2), (3, .int p3), (4, .int p4)]) hx hb dX8_read_57 hl (by decide) rfl (fun ls hl => ?_)
        refine lv_iconst (v := 0) hx hb dX8_read_59 (by decide) ?_
        refine lv_istore (lv' := [(7, .int 0), (6, .int 0), (5, .int 0), (0, .ref mh), (1, .int p1), (2, .int p2), (3, .int p3), (4, .int p4)]) hx hb dX8_read_60 hl (by decide) rfl (fun ls hl => ?_)
        obtain ⟨ex_62, hL_62, hX_62⟩ := bs4_inv h
        clear h
        have X_62 : ∀ (v5_13 : Int32) (v6_14 : Int32) (mSt_15 : (Nat → Int32)) (mNow_16 : (Nat → Int32)), ex_62 = Sum.inr (v5_13, v6_14, mSt_15, mNow_16) → ∀ (H : Heap) (locs : List Loc) (ls : Array Slot), Wd D A s.heap H locs (wX8 k mh mrSt mrNow mrIsKept mrDraft mrTape mrRow mrRode mrWays mrLanes mrSizes mrCells mrBefore mSt_15 mNow_16 mIsKept mPeople mDraft mDPeople mHasDry mToldDebts mHighest mTape mTaped mPos mBegun mSort mValue mFault mWrongAt mPaid mRow mRingMuch mRideSum mOwedSum mAllWays mRode mWays mLanes mSizes mCells mTorn mBefore_5) → lv_has ls 11 [(0, .ref mh), (5, .int v5_13), (6, .int v6_14)] → W p l e rmX8_read s m args below meth c H locs 0 0 Q (F0 m 259 ls []) := by
          intro v5_13 v6_14 mSt_15 mNow_16 hex H locs ls hw hl
          subst hex
          have h := bs4_r hX_62
          refine lv_aload_n hx hb dX8_read_259 rfl (lv_at hl 0 rfl) ?_
          refine lv_iload hx hb dX8_read_260 (lv_at hl 1 rfl) ?_
          refine va_put (ci := 8) (v := .int v5_13) (ty := tyX8 28) (C := RX8) (T := TX8) (N := 30) hx hb hts hinX8 tyX8 tyX8_ok nmX8 hown hK.1 hw.1 hw.2.1 hw.2.2 0 rfl rfl 28 (by decide) q_7 (fun _ h9 => h9) rfl (tyX8_ok 28 (by decide)) rfl rfl (Nat.le_of_ble_eq_true rfl) dX8_read_262 (fun H locs hP hD hS => ?_)
          have hw : Wd D A s.heap H locs (wX8 k mh mrSt mrNow mrIsKept mrDraft mrTape mrRow mrRode mrWays mrLanes mrSizes mrCells mrBefore mSt_15 mNow_16 mIsKept mPeople mDraft mDPeople mHasDry mToldDebts mHighest mTape mTaped mPos mBegun mSort mValue mFault mWrongAt mPaid mRow mRingMuch mRideSum mOwedSum mAllWays mRode mWays mLanes mSizes mCells v5_13 mBefore_5) := ⟨hP, hD, hS⟩
          refine lv_iload hx hb dX8_read_265 (lv_at hl 2 rfl) ?_
          cases h
          exact k_iret hx hb hr hlocks hw rfl dX8_read_267 hQ
        have LP_62 : ∀ (n : Nat) (v5_8 : Int32) (v6_9 : Int32) (v7_10 : Int32) (mSt_11 : (Nat → Int32)) (mNow_12 : (Nat → Int32)), f_X8_read_L62 mPeople mLanes mSizes mCells mTorn p1 p2 p3 p4 mBefore_5 n v5_8 v6_9 v7_10 mSt_11 mNow_12 = some ex_62 → ∀ (H : Heap) (locs : List Loc) (ls : Array Slot), Wd D A s.heap H locs (wX8 k mh mrSt mrNow mrIsKept mrDraft mrTape mrRow mrRode mrWays mrLanes mrSizes mrCells mrBefore mSt_11 mNow_12 mIsKept mPeople mDraft mDPeople mHasDry mToldDebts mHighest mTape mTaped mPos mBegun mSort mValue mFault mWrongAt mPaid mRow mRingMuch mRideSum mOwedSum mAllWays mRode mWays mLanes mSizes mCells mTorn mBefore_5) → lv_has ls 11 [(0, .ref mh), (1, .int p1), (2, .int p2), (3, .int p3), (4, .int p4), (5, .int v5_8), (6, .int v6_9), (7, .int v7_10)] → W p l e rmX8_read s m args below meth c H locs 0 0 Q (F0 m 62 ls []) := by
          clear hL_62 hw hl
          intro n
          induction n with
          | zero => intro v5_8 v6_9 v7_10 mSt_11 mNow_12 h; rw [f_X8_read_L62] at h; cases h
          | succ n ih =>
            intro v5_8 v6_9 v7_10 mSt_11 mNow_12 h H locs ls hw hl
            rw [f_X8_read_L62] at h
            refine lv_iload hx hb dX8_read_62 (lv_at hl 7 rfl) ?_
            refine lv_iload hx hb dX8_read_64 (lv_at hl 4 rfl) ?_
            refine kb_icmp_ge (tgt := 259) hx hb dX8_read_66 (by decide) h (fun c_66 h => ?_) (fun c_66 h => ?_)
            · cases h
              exact X_62 _ _ _ _ rfl _ _ _ hw (lv_sub hl [0, 5, 6] rfl)
            · refine lv_iload hx hb dX8_read_69 (lv_at hl 5 rfl) ?_
              refine kb_if_ne (tgt := 259) hx hb dX8_read_71 (by decide) h (fun c_71 h => ?_) (fun c_71 h => ?_)
              · refine lv_iconst (v := 0) hx hb dX8_read_74 (by decide) ?_
                refine lv_istore (lv' := [(8, .int 0), (0, .ref mh), (1, .int p1), (2, .int p2), (3, .int p3), (4, .int p4), (5, .int v5_8), (6, .int v6_9), (7, .int v7_10)]) hx hb dX8_read_75 hl (by decide) rfl (fun ls hl => ?_)
                obtain ⟨v5_19, hL_77, h⟩ := b1_inv h
                have X_77 : ∀ (H : Heap) (locs : List Loc) (ls : Array Slot), Wd D A s.heap H locs (wX8 k mh mrSt mrNow mrIsKept mrDraft mrTape mrRow mrRode mrWays mrLanes mrSizes mrCells mrBefore mSt_11 mNow_12 mIsKept mPeople mDraft mDPeople mHasDry mToldDebts mHighest mTape mTaped mPos mBegun mSort mValue mFault mWrongAt mPaid mRow mRingMuch mRideSum mOwedSum mAllWays mRode mWays mLanes mSizes mCells mTorn mBefore_5) → lv_has ls 11 [(0, .ref mh), (1, .int p1), (2, .int p2), (3, .int p3), (4, .int p4), (5, .int v5_19), (6, .int v6_9), (7, .int v7_10)] → W p l e rmX8_read s m args below meth c H locs 0 0 Q (F0 m 164 ls []) := by
                  intro H locs ls hw hl
                  refine lv_iload hx hb dX8_read_164 (lv_at hl 5 rfl) ?_
                  refine kb_if_ne (tgt := 253) hx hb dX8_read_166 (by decide) h (fun c_166 h => ?_) (fun c_166 h => ?_)
                  · refine lv_bipush (v := 40) hx hb dX8_read_169 (by decide) ?_
                    refine lv_iload_n hx hb dX8_read_171 rfl (lv_at hl 1 rfl) ?_
                    refine lv_imul hx hb dX8_read_172 ?_
                    refine lv_iload_n hx hb dX8_read_173 rfl (lv_at hl 3 rfl) ?_
                    refine lv_iadd hx hb dX8_read_174 ?_
                    refine lv_iconst (v := 3) hx hb dX8_read_175 (by decide) ?_
                    refine lv_iload hx hb dX8_read_176 (lv_at hl 7 rfl) ?_
                    refine lv_imul hx hb dX8_read_178 ?_
                    refine lv_iadd hx hb dX8_read_179 ?_
                    refine lv_istore (lv' := [(8, .int (((40 * p1) + p3) + (3 * v7_10))), (0, .ref mh), (1, .int p1), (2, .int p2), (3, .int p3), (4, .int p4), (5, .int v5_19), (6, .int v6_9), (7, .int v7_10)]) hx hb dX8_read_180 hl (by decide) rfl (fun ls hl => ?_)
                    refine lv_aload_n hx hb dX8_read_182 rfl (lv_at hl 1 rfl) ?_
                    refine lv_aload_n hx hb dX8_read_183 rfl (lv_at hl 1 rfl) ?_
                    refine va_get (ci := 8) (v := .ref mrCells) (C := RX8) (T := TX8) (N := 30) hx hb hts hinX8 hown hK.1 hw.1 0 rfl rfl 27 (by decide) q_6 (fun _ h9 => h9) rfl dX8_read_184 ?_
                    refine lv_iload hx hb dX8_read_187 (lv_at hl 0 rfl) ?_
                    refine k_iald hx hb hK hw 11 rfl dX8_read_189 h (fun a_23 h => ?_)
                    refine lv_aload_n hx hb dX8_read_190 rfl (lv_at hl 1 rfl) ?_
                    refine va_get (ci := 8) (v := .ref mrCells) (C := RX8) (T := TX8) (N := 30) hx hb hts hinX8 hown hK.1 hw.1 0 rfl rfl 27 (by decide) q_6 (fun _ h9 => h9) rfl dX8_read_191 ?_
                    refine lv_iload hx hb dX8_read_194 (lv_at hl 0 rfl) ?_
                    refine lv_iconst (v := 1) hx hb dX8_read_196 (by decide) ?_
                    refine lv_iadd hx hb dX8_read_197 ?_
                    refine k_iald hx hb hK hw 11 rfl dX8_read_198 h (fun a_24 h => ?_)
                    refine lv_aload_n hx hb dX8_read_199 rfl (lv_at hl 1 rfl) ?_
                    refine va_get (ci := 8) (v := .ref mrCells) (C := RX8) (T := TX8) (N := 30) hx hb hts hinX8 hown hK.1 hw.1 0 rfl rfl 27 (by decide) q_6 (fun _ h9 => h9) rfl dX8_read_200 ?_
                    refine lv_iload hx hb dX8_read_203 (lv_at hl 0 rfl) ?_
                    refine lv_iconst (v := 2) hx hb dX8_read_205 (by decide) ?_
                    refine lv_iadd hx hb dX8_read_206 ?_
                    refine k_iald hx hb hK hw 11 rfl dX8_read_207 h (fun a_25 h => ?_)
                    obtain ⟨r_26, mSt_27, mNow_28, hf, h⟩ := b3_inv h
                    refine k_callV (host := "") fx hK hA hw (c_X8_pay l D k mh mrSt mrNow mrIsKept mrDraft mrTape mrRow mrRode mrWays mrLanes mrSizes mrCells mrBefore _ mSt_11 mNow_12 mIsKept mPeople mDraft mDPeople mHasDry mToldDebts mHighest mTape mTaped mPos mBegun mSort mValue mFault mWrongAt mPaid mRow mRingMuch mRideSum mOwedSum mAllWays mRode mWays mLanes mSizes mCells mTorn mBefore_5 a_23 a_24 a_25 r_26 mSt_27 mNow_28 hf) (cwV 3 hts gX8_read_X8_pay rfl rfl rfl (by decide +kernel) ⟨by decide, by decide⟩) (As := [.int a_23, .int a_24, .int a_25]) (wr := []) (ws' := wX8 k mh mrSt mrNow mrIsKept mrDraft mrTape mrRow mrRode mrWays mrLanes mrSizes mrCells mrBefore mSt_27 mNow_28 mIsKept mPeople mDraft mDPeople mHasDry mToldDebts mHighest mTape mTaped mPos mBegun mSort mValue mFault mWrongAt mPaid mRow mRingMuch mRideSum mOwedSum mAllWays mRode mWays mLanes mSizes mCells mTorn mBefore_5) [0, 1, 2, 3, 4, 5, 6, 7, 8, 9, 10, 11, 12] [] [0, 1, 2, 3, 4, 5, 6, 7, 8, 9, 10, 11, 12] rfl rfl (by decide) (by decide) (by decide) rfl (by decide) 8 rfl rfl [] rfl hl.1 rfl (Nat.le_of_ble_eq_true rfl) dX8_read_208 ⟨by decide, by decide⟩ (fun H locs (hw : Wd D A s.heap H locs (wX8 k mh mrSt mrNow mrIsKept mrDraft mrTape mrRow mrRode mrWays mrLanes mrSizes mrCells mrBefore mSt_27 mNow_28 mIsKept mPeople mDraft mDPeople mHasDry mToldDebts mHighest mTape mTaped mPos mBegun mSort mValue mFault mWrongAt mPaid mRow mRingMuch mRideSum mOwedSum mAllWays mRode mWays mLanes mSizes mCells mTorn mBefore_5)) => ?_)
                    refine W.eq (g2 := F0 m 211 ls ([.int r_26])) rfl ?_
                    refine kb_if_ge (tgt := 250) hx hb dX8_read_211 (by decide) h (fun c_211 h => ?_) (fun c_211 h => ?_)
                    · refine lv_iinc (v := v6_9 + 1) (lv' := [(6, .int (v6_9 + 1)), (8, .int (((40 * p1) + p3) + (3 * v7_10))), (0, .ref mh), (1, .int p1), (2, .int p2), (3, .int p3), (4, .int p4), (5, .int v5_19), (7, .int v7_10)]) hx hb dX8_read_250 hl (k := 7) rfl rfl (by decide) rfl (fun ls hl => ?_)
                      refine lv_iinc (v := v7_10 + 1) (lv' := [(7, .int (v7_10 + 1)), (6, .int (v6_9 + 1)), (8, .int (((40 * p1) + p3) + (3 * v7_10))), (0, .ref mh), (1, .int p1), (2, .int p2), (3, .int p3), (4, .int p4), (5, .int v5_19)]) hx hb dX8_read_253 hl (k := 8) rfl rfl (by decide) rfl (fun ls hl => ?_)
                      refine lv_goto (tgt := 62) hx hb dX8_read_256 (by decide) ?_
                      exact ih _ _ _ _ _ h _ _ _ hw (lv_sub hl [3, 4, 5, 6, 7, 8, 1, 0] rfl)
                    · refine lv_iconst (v := 0) hx hb dX8_read_214 (by decide) ?_
                      refine lv_istore (lv' := [(9, .int 0), (8, .int (((40 * p1) + p3) + (3 * v7_10))), (0, .ref mh), (1, .int p1), (2, .int p2), (3, .int p3), (4, .int p4), (5, .int v5_19), (6, .int v6_9), (7, .int v7_10)]) hx hb dX8_read_215 hl (by decide) rfl (fun ls hl => ?_)
                      obtain ⟨mSt_31, hL_217, h⟩ := b1_inv h
                      have X_217 : ∀ (H : Heap) (locs : List Loc) (ls : Array Slot), Wd D A s.heap H locs (wX8 k mh mrSt mrNow mrIsKept mrDraft mrTape mrRow mrRode mrWays mrLanes mrSizes mrCells mrBefore mSt_31 mNow_28 mIsKept mPeople mDraft mDPeople mHasDry mToldDebts mHighest mTape mTaped mPos mBegun mSort mValue mFault mWrongAt mPaid mRow mRingMuch mRideSum mOwedSum mAllWays mRode mWays mLanes mSizes mCells mTorn mBefore_5) → lv_has ls 11 [(7, .int v7_10)] → W p l e rmX8_read s m args below meth c H locs 0 0 Q (F0 m 244 ls []) := by
                        intro H locs ls hw hl
                        refine lv_bipush (v := (-20)) hx hb dX8_read_244 (by decide) ?_
                        refine lv_iload hx hb dX8_read_246 (lv_at hl 0 rfl) ?_
                        refine lv_isub hx hb dX8_read_248 ?_
                        cases h
                        have h := bs4_l hX_62
                        have g0 := Option.some.inj h
                        clear h
                        obtain ⟨e0, g1⟩ := Prod.mk.inj g0
                        obtain ⟨e1, g2⟩ := Prod.mk.inj g1
                        obtain ⟨e2, g3⟩ := Prod.mk.inj g2
                        obtain ⟨e3, g4⟩ := Prod.mk.inj g3
                        subst e0; subst e1; subst e2; subst e3; subst g4
                        exact k_iret hx hb hr hlocks hw rfl dX8_read_249 hQ
                      clear h
                      have LP_217 : ∀ (n : Nat) (v9_29 : Int32) (mSt_30 : (Nat → Int32)), f_X8_read_L217 mBefore_5 n v9_29 mSt_30 = some mSt_31 → ∀ (H : Heap) (locs : List Loc) (ls : Array Slot), Wd D A s.heap H locs (wX8 k mh mrSt mrNow mrIsKept mrDraft mrTape mrRow mrRode mrWays mrLanes mrSizes mrCells mrBefore mSt_30 mNow_28 mIsKept mPeople mDraft mDPeople mHasDry mToldDebts mHighest mTape mTaped mPos mBegun mSort mValue mFault mWrongAt mPaid mRow mRingMuch mRideSum mOwedSum mAllWays mRode mWays mLanes mSizes mCells mTorn mBefore_5) → lv_has ls 11 [(0, .ref mh), (7, .int v7_10), (9, .int v9_29)] → W p l e rmX8_read s m args below meth c H locs 0 0 Q (F0 m 217 ls []) := by
                        clear hL_217 hw hl
                        intro n
                        induction n with
                        | zero => intro v9_29 mSt_30 h; rw [f_X8_read_L217] at h; cases h
                        | succ n ih =>
                          intro v9_29 mSt_30 h H locs ls hw hl
                          rw [f_X8_read_L217] at h
                          refine lv_iload hx hb dX8_read_217 (lv_at hl 2 rfl) ?_
                          refine lv_bipush (v := 61) hx hb dX8_read_219 (by decide) ?_
                          refine kb_icmp_ge (tgt := 244) hx hb dX8_read_221 (by decide) h (fun c_221 h => ?_) (fun c_221 h => ?_)
                          · cases h
                            exact X_217 _ _ _ hw (lv_sub hl [1] rfl)
                          · refine lv_aload_n hx hb dX8_read_224 rfl (lv_at hl 0 rfl) ?_
                            refine va_get (ci := 8) (v := .ref mrSt) (C := RX8) (T := TX8) (N := 30) hx hb hts hinX8 hown hK.1 hw.1 0 rfl rfl 0 (by decide) q_3 (fun _ h9 => h9) rfl dX8_read_225 ?_
                            refine lv_iload hx hb dX8_read_228 (lv_at hl 2 rfl) ?_
                            refine lv_aload_n hx hb dX8_read_230 rfl (lv_at hl 0 rfl) ?_
                            refine va_get (ci := 8) (v := .ref mrBefore) (C := RX8) (T := TX8) (N := 30) hx hb hts hinX8 hown hK.1 hw.1 0 rfl rfl 29 (by decide) q_2 (fun _ h9 => h9) rfl dX8_read_231 ?_
                            refine lv_iload hx hb dX8_read_234 (lv_at hl 2 rfl) ?_
                            refine k_iald hx hb hK hw 12 rfl dX8_read_236 h (fun a_32 h => ?_)
                            refine k_iast hx hb hK hw 1 rfl dX8_read_237 h (fun mSt_33 h H locs (hw : Wd D A s.heap H locs (wX8 k mh mrSt mrNow mrIsKept mrDraft mrTape mrRow mrRode mrWays mrLanes mrSizes mrCells mrBefore mSt_33 mNow_28 mIsKept mPeople mDraft mDPeople mHasDry mToldDebts mHighest mTape mTaped mPos mBegun mSort mValue mFault mWrongAt mPaid mRow mRingMuch mRideSum mOwedSum mAllWays mRode mWays mLanes mSizes mCells mTorn mBefore_5)) => ?_)
                            refine lv_iinc (v := v9_29 + 1) (lv' := [(9, .int (v9_29 + 1)), (0, .ref mh), (7, .int v7_10)]) hx hb dX8_read_238 hl (k := 2) rfl rfl (by decide) rfl (fun ls hl => ?_)
                            refine lv_goto (tgt := 217) hx hb dX8_read_241 (by decide) ?_
                            exact ih _ _ h _ _ _ hw (lv_sub hl [1, 2, 0] rfl)
                      exact LP_217 400 0 mSt_27 hL_217 _ _ _ hw (lv_sub hl [2, 9, 0] rfl)
                  · refine lv_iinc (v := v7_10 + 1) (lv' := [(7, .int (v7_10 + 1)), (0, .ref mh), (1, .int p1), (2, .int p2), (3, .int p3), (4, .int p4), (5, .int v5_19), (6, .int v6_9)]) hx hb dX8_read_253 hl (k := 7) rfl rfl (by decide) rfl (fun ls hl => ?_)
                    refine lv_goto (tgt := 62) hx hb dX8_read_256 (by decide) ?_
                    exact ih _ _ _ _ _ h _ _ _ hw (lv_sub hl [1, 2, 3, 4, 5, 6, 7, 0] rfl)
                clear h
                have LP_77 : ∀ (n : Nat) (v5_17 : Int32) (v8_18 : Int32), f_X8_read_L77 mLanes mSizes p1 p2 p3 v7_10 n v5_17 v8_18 = some v5_19 → ∀ (H : Heap) (locs : List Loc) (ls : Array Slot), Wd D A s.heap H locs (wX8 k mh mrSt mrNow mrIsKept mrDraft mrTape mrRow mrRode mrWays mrLanes mrSizes mrCells mrBefore mSt_11 mNow_12 mIsKept mPeople mDraft mDPeople mHasDry mToldDebts mHighest mTape mTaped mPos mBegun mSort mValue mFault mWrongAt mPaid mRow mRingMuch mRideSum mOwedSum mAllWays mRode mWays mLanes mSizes mCells mTorn mBefore_5) → lv_has ls 11 [(0, .ref mh), (1, .int p1), (2, .int p2), (3, .int p3), (4, .int p4), (5, .int v5_17), (6, .int v6_9), (7, .int v7_10), (8, .int v8_18)] → W p l e rmX8_read s m args below meth c H locs 0 0 Q (F0 m 77 ls []) := by
                  clear hL_77 hw hl
                  intro n
                  induction n with
                  | zero => intro v5_17 v8_18 h; rw [f_X8_read_L77] at h; cases h
                  | succ n ih =>
                    intro v5_17 v8_18 h H locs ls hw hl
                    rw [f_X8_read_L77] at h
                    refine lv_iload hx hb dX8_read_77 (lv_at hl 8 rfl) ?_
                    refine lv_iconst (v := 3) hx hb dX8_read_79 (by decide) ?_
                    refine kb_icmp_ge (tgt := 164) hx hb dX8_read_80 (by decide) h (fun c_80 h => ?_) (fun c_80 h => ?_)
                    · cases h
                      exact X_77 _ _ _ hw (lv_sub hl [0, 1, 2, 3, 4, 5, 6, 7] rfl)
                    · refine lv_iload hx hb dX8_read_83 (lv_at hl 5 rfl) ?_
                      refine kb_if_ne (tgt := 164) hx hb dX8_read_85 (by decide) h (fun c_85 h => ?_) (fun c_85 h => ?_)
                      · refine lv_iload_n hx hb dX8_read_88 rfl (lv_at hl 3 rfl) ?_
                        refine lv_i2l hx hb dX8_read_89 rfl ?_
                        refine lv_iconst (v := 3) hx hb dX8_read_90 (by decide) ?_
                        refine lv_iload hx hb dX8_read_91 (lv_at hl 7 rfl) ?_
                        refine lv_imul hx hb dX8_read_93 ?_
                        refine lv_i2l hx hb dX8_read_94 rfl ?_
                        refine lv_ladd hx hb dX8_read_95 ?_
                        refine lv_iload hx hb dX8_read_96 (lv_at hl 8 rfl) ?_
                        refine lv_i2l hx hb dX8_read_98 rfl ?_
                        refine lv_ladd hx hb dX8_read_99 ?_
                        refine lv_lstore (lv' := [(9, .long ((p3.toInt64 + ((3 * v7_10).toInt64)) + v8_18.toInt64)), (0, .ref mh), (1, .int p1), (2, .int p2), (3, .int p3), (4, .int p4), (5, .int v5_17), (6, .int v6_9), (7, .int v7_10), (8, .int v8_18)]) hx hb dX8_read_100 hl (by decide) rfl (fun ls hl => ?_)
                        refine lv_aload_n hx hb dX8_read_102 rfl (lv_at hl 1 rfl) ?_
                        refine va_get (ci := 8) (v := .ref mrLanes) (C := RX8) (T := TX8) (N := 30) hx hb hts hinX8 hown hK.1 hw.1 0 rfl rfl 25 (by decide) q_4 (fun _ h9 => h9) rfl dX8_read_103 ?_
                        refine lv_iload_n hx hb dX8_read_106 rfl (lv_at hl 2 rfl) ?_
                        refine k_iald hx hb hK hw 9 rfl dX8_read_107 h (fun a_20 h => ?_)
                        refine lv_bipush (v := (-4)) hx hb dX8_read_108 (by decide) ?_
                        refine kb_icmp_ne (tgt := 117) hx hb dX8_read_110 (by decide) h (fun c_110 h => ?_) (fun c_110 h => ?_)
                        · refine lv_iconst (v := 1) hx hb dX8_read_113 (by decide) ?_
                          refine lv_goto (tgt := 156) hx hb dX8_read_114 (by decide) ?_
                          refine lv_istore (lv' := [(5, .int 1), (9, .long ((p3.toInt64 + ((3 * v7_10).toInt64)) + v8_18.toInt64)), (0, .ref mh), (1, .int p1), (2, .int p2), (3, .int p3), (4, .int p4), (6, .int v6_9), (7, .int v7_10), (8, .int v8_18)]) hx hb dX8_read_156 hl (by decide) rfl (fun ls hl => ?_)
                          refine lv_iinc (v := v8_18 + 1) (lv' := [(8, .int (v8_18 + 1)), (5, .int 1), (9, .long ((p3.toInt64 + ((3 * v7_10).toInt64)) + v8_18.toInt64)), (0, .ref mh), (1, .int p1), (2, .int p2), (3, .int p3), (4, .int p4), (6, .int v6_9), (7, .int v7_10)]) hx hb dX8_read_158 hl (k := 9) rfl rfl (by decide) rfl (fun ls hl => ?_)
                          refine lv_goto (tgt := 77) hx hb dX8_read_161 (by decide) ?_
                          exact ih _ _ h _ _ _ hw (lv_sub hl [3, 4, 5, 6, 7, 1, 8, 9, 0] rfl)
                        · refine lv_aload_n hx hb dX8_read_117 rfl (lv_at hl 1 rfl) ?_
                          refine va_get (ci := 8) (v := .ref mrLanes) (C := RX8) (T := TX8) (N := 30) hx hb hts hinX8 hown hK.1 hw.1 0 rfl rfl 25 (by decide) q_4 (fun _ h9 => h9) rfl dX8_read_118 ?_
                          refine lv_iload_n hx hb dX8_read_121 rfl (lv_at hl 2 rfl) ?_
                          refine k_iald hx hb hK hw 9 rfl dX8_read_122 h (fun a_21 h => ?_)
                          refine lv_iload_n hx hb dX8_read_123 rfl (lv_at hl 3 rfl) ?_
                          refine kb_icmp_eq (tgt := 131) hx hb dX8_read_124 (by decide) h (fun c_124 h => ?_) (fun c_124 h => ?_)
                          · refine lv_lload hx hb dX8_read_131 (lv_at hl 0 rfl) ?_
                            refine lv_lconst (v := 0) hx hb dX8_read_133 rfl ?_
                            refine W.lcmp hx hb dX8_read_134 ?_
                            refine kb_if_lt (tgt := 151) hx hb dX8_read_135 (by decide) h (fun c_135 h => ?_) (fun c_135 h => ?_)
                            · refine lv_iconst (v := 2) hx hb dX8_read_151 (by decide) ?_
                              refine lv_goto (tgt := 156) hx hb dX8_read_152 (by decide) ?_
                              refine lv_istore (lv' := [(5, .int 2), (9, .long ((p3.toInt64 + ((3 * v7_10).toInt64)) + v8_18.toInt64)), (0, .ref mh), (1, .int p1), (2, .int p2), (3, .int p3), (4, .int p4), (6, .int v6_9), (7, .int v7_10), (8, .int v8_18)]) hx hb dX8_read_156 hl (by decide) rfl (fun ls hl => ?_)
                              refine lv_iinc (v := v8_18 + 1) (lv' := [(8, .int (v8_18 + 1)), (5, .int 2), (9, .long ((p3.toInt64 + ((3 * v7_10).toInt64)) + v8_18.toInt64)), (0, .ref mh), (1, .int p1), (2, .int p2), (3, .int p3), (4, .int p4), (6, .int v6_9), (7, .int v7_10)]) hx hb dX8_read_158 hl (k := 9) rfl rfl (by decide) rfl (fun ls hl => ?_)
                              refine lv_goto (tgt := 77) hx hb dX8_read_161 (by decide) ?_
                              exact ih _ _ h _ _ _ hw (lv_sub hl [3, 4, 5, 6, 7, 1, 8, 9, 0] rfl)
                            · refine lv_lload hx hb dX8_read_138 (lv_at hl 0 rfl) ?_
                              refine lv_aload_n hx hb dX8_read_140 rfl (lv_at hl 1 rfl) ?_
                              refine va_get (ci := 8) (v := .ref mrSizes) (C := RX8) (T := TX8) (N := 30) hx hb hts hinX8 hown hK.1 hw.1 0 rfl rfl 26 (by decide) q_5 (fun _ h9 => h9) rfl dX8_read_141 ?_
                              refine lv_iload_n hx hb dX8_read_144 rfl (lv_at hl 2 rfl) ?_
                              refine k_iald hx hb hK hw 10 rfl dX8_read_145 h (fun a_22 h => ?_)
                              refine lv_i2l hx hb dX8_read_146 rfl ?_
                              refine W.lcmp hx hb dX8_read_147 ?_
                              refine kb_if_lt (tgt := 155) hx hb dX8_read_148 (by decide) h (fun c_148 h => ?_) (fun c_148 h => ?_)
                              · refine lv_iconst (v := 0) hx hb dX8_read_155 (by decide) ?_
                                refine lv_istore (lv' := [(5, .int 0), (9, .long ((p3.toInt64 + ((3 * v7_10).toInt64)) + v8_18.toInt64)), (0, .ref mh), (1, .int p1), (2, .int p2), (3, .int p3), (4, .int p4), (6, .int v6_9), (7, .int v7_10), (8, .int v8_18)]) hx hb dX8_read_156 hl (by decide) rfl (fun ls hl => ?_)
                                refine lv_iinc (v := v8_18 + 1) (lv' := [(8, .int (v8_18 + 1)), (5, .int 0), (9, .long ((p3.toInt64 + ((3 * v7_10).toInt64)) + v8_18.toInt64)), (0, .ref mh), (1, .int p1), (2, .int p2), (3, .int p3), (4, .int p4), (6, .int v6_9), (7, .int v7_10)]) hx hb dX8_read_158 hl (k := 9) rfl rfl (by decide) rfl (fun ls hl => ?_)
                                refine lv_goto (tgt := 77) hx hb dX8_read_161 (by decide) ?_
                                exact ih _ _ h _ _ _ hw (lv_sub hl [3, 4, 5, 6, 7, 1, 8, 9, 0] rfl)
                              · refine lv_iconst (v := 2) hx hb dX8_read_151 (by decide) ?_
                                refine lv_goto (tgt := 156) hx hb dX8_read_152 (by decide) ?_
                                refine lv_istore (lv' := [(5, .int 2), (9, .long ((p3.toInt64 + ((3 * v7_10).toInt64)) + v8_18.toInt64)), (0, .ref mh), (1, .int p1), (2, .int p2), (3, .int p3), (4, .int p4), (6, .int v6_9), (7, .int v7_10), (8, .int v8_18)]) hx hb dX8_read_156 hl (by decide) rfl (fun ls hl => ?_)
                                refine lv_iinc (v := v8_18 + 1) (lv' := [(8, .int (v8_18 + 1)), (5, .int 2), (9, .long ((p3.toInt64 + ((3 * v7_10).toInt64)) + v8_18.toInt64)), (0, .ref mh), (1, .int p1), (2, .int p2), (3, .int p3), (4, .int p4), (6, .int v6_9), (7, .int v7_10)]) hx hb dX8_read_158 hl (k := 9) rfl rfl (by decide) rfl (fun ls hl => ?_)
                                refine lv_goto (tgt := 77) hx hb dX8_read_161 (by decide) ?_
                                exact ih _ _ h _ _ _ hw (lv_sub hl [3, 4, 5, 6, 7, 1, 8, 9, 0] rfl)
                          · refine lv_iconst (v := 3) hx hb dX8_read_127 (by decide) ?_
                            refine lv_goto (tgt := 156) hx hb dX8_read_128 (by decide) ?_
                            refine lv_istore (lv' := [(5, .int 3), (9, .long ((p3.toInt64 + ((3 * v7_10).toInt64)) + v8_18.toInt64)), (0, .ref mh), (1, .int p1), (2, .int p2), (3, .int p3), (4, .int p4), (6, .int v6_9), (7, .int v7_10), (8, .int v8_18)]) hx hb dX8_read_156 hl (by decide) rfl (fun ls hl => ?_)
                            refine lv_iinc (v := v8_18 + 1) (lv' := [(8, .int (v8_18 + 1)), (5, .int 3), (9, .long ((p3.toInt64 + ((3 * v7_10).toInt64)) + v8_18.toInt64)), (0, .ref mh), (1, .int p1), (2, .int p2), (3, .int p3), (4, .int p4), (6, .int v6_9), (7, .int v7_10)]) hx hb dX8_read_158 hl (k := 9) rfl rfl (by decide) rfl (fun ls hl => ?_)
                            refine lv_goto (tgt := 77) hx hb dX8_read_161 (by decide) ?_
                            exact ih _ _ h _ _ _ hw (lv_sub hl [3, 4, 5, 6, 7, 1, 8, 9, 0] rfl)
                      · cases h
                        exact X_77 _ _ _ hw (lv_sub hl [0, 1, 2, 3, 4, 5, 6, 7] rfl)
                exact LP_77 400 v5_8 0 hL_77 _ _ _ hw (lv_sub hl [1, 2, 3, 4, 5, 6, 7, 8, 0] rfl)
              · cases h
                exact X_62 _ _ _ _ rfl _ _ _ hw (lv_sub hl [0, 5, 6] rfl)
        exact LP_62 400 0 0 0 mSt mNow hL_62 _ _ _ hw (lv_sub hl [3, 4, 5, 6, 7, 2, 1, 0] rfl)
      clear h
      have LP_26 : ∀ (n : Nat) (v5_3 : Int32) (mBefore_4 : (Nat → Int32)), f_X8_read_L26 mSt n v5_3 mBefore_4 = some mBefore_5 → ∀ (H : Heap) (locs : List Loc) (ls : Array Slot), Wd D A s.heap H locs (wX8 k mh mrSt mrNow mrIsKept mrDraft mrTape mrRow mrRode mrWays mrLanes mrSizes mrCells mrBefore mSt mNow mIsKept mPeople mDraft mDPeople mHasDry mToldDebts mHighest mTape mTaped mPos mBegun mSort mValue mFault mWrongAt mPaid mRow mRingMuch mRideSum mOwedSum mAllWays mRode mWays mLanes mSizes mCells mTorn mBefore_4) → lv_has ls 11 [(0, .ref mh), (1, .int p1), (2, .int p2), (3, .int p3), (4, .int p4), (5, .int v5_3)] → W p l e rmX8_read s m args below meth c H locs 0 0 Q (F0 m 26 ls []) := by
        clear hL_26 hw hl
        intro n
        induction n with
        | zero => intro v5_3 mBefore_4 h; rw [f_X8_read_L26] at h; cases h
        | succ n ih =>
          intro v5_3 mBefore_4 h H locs ls hw hl
          rw [f_X8_read_L26] at h
          refine lv_iload hx hb dX8_read_26 (lv_at hl 5 rfl) ?_
          refine lv_bipush (v := 61) hx hb dX8_read_28 (by decide) ?_
          refine kb_icmp_ge (tgt := 53) hx hb dX8_read_30 (by decide) h (fun c_30 h => ?_) (fun c_30 h => ?_)
          · cases h
            exact X_26 _ _ _ hw (lv_sub hl [0, 1, 2, 3, 4] rfl)
          · refine lv_aload_n hx hb dX8_read_33 rfl (lv_at hl 0 rfl) ?_
            refine va_get (ci := 8) (v := .ref mrBefore) (C := RX8) (T := TX8) (N := 30) hx hb hts hinX8 hown hK.1 hw.1 0 rfl rfl 29 (by decide) q_2 (fun _ h9 => h9) rfl dX8_read_34 ?_
            refine lv_iload hx hb dX8_read_37 (lv_at hl 5 rfl) ?_
            refine lv_aload_n hx hb dX8_read_39 rfl (lv_at hl 0 rfl) ?_
            refine va_get (ci := 8) (v := .ref mrSt) (C := RX8) (T := TX8) (N := 30) hx hb hts hinX8 hown hK.1 hw.1 0 rfl rfl 0 (by decide) q_3 (fun _ h9 => h9) rfl dX8_read_40 ?_
            refine lv_iload hx hb dX8_read_43 (lv_at hl 5 rfl) ?_
            refine k_iald hx hb hK hw 1 rfl dX8_read_45 h (fun a_6 h => ?_)
            refine k_iast hx hb hK hw 12 rfl dX8_read_46 h (fun mBefore_7 h H locs (hw : Wd D A s.heap H locs (wX8 k mh mrSt mrNow mrIsKept mrDraft mrTape mrRow mrRode mrWays mrLanes mrSizes mrCells mrBefore mSt mNow mIsKept mPeople mDraft mDPeople mHasDry mToldDebts mHighest mTape mTaped mPos mBegun mSort mValue mFault mWrongAt mPaid mRow mRingMuch mRideSum mOwedSum mAllWays mRode mWays mLanes mSizes mCells mTorn mBefore_7)) => ?_)
            refine lv_iinc (v := v5_3 + 1) (lv' := [(5, .int (v5_3 + 1)), (0, .ref mh), (1, .int p1), (2, .int p2), (3, .int p3), (4, .int p4)]) hx hb dX8_read_47 hl (k := 5) rfl rfl (by decide) rfl (fun ls hl => ?_)
            refine lv_goto (tgt := 26) hx hb dX8_read_50 (by decide) ?_
            exact ih _ _ h _ _ _ hw (lv_sub hl [1, 2, 3, 4, 5, 0] rfl)
      exact LP_26 400 0 mBefore hL_26 _ _ _ hw (lv_sub hl [1, 2, 3, 4, 5, 0] rfl)
abbrev rmX8_takes : Room := { frames := 1, cells := 0, slots := 0, locals := 25 }
set_option maxHeartbeats 4000000 in
set_option maxRecDepth 100000 in
theorem c_X8_takes (l : Launch) (D : va_G) (k : Nat → ClassId) (mh mrSt mrNow mrIsKept mrDraft mrTape mrRow mrRode mrWays mrLanes mrSizes mrCells mrBefore : Nat) (sz : Nat) (mSt : (Nat → Int32)) (mNow : (Nat → Int32)) (mIsKept : (Nat → Int32)) (mPeople : Int32) (mDraft : (Nat → Int32)) (mDPeople : Int32) (mHasDry : Int32) (mToldDebts : Int32) (mHighest : Int32) (mTape : (Nat → Int32)) (mTaped : Int32) (mPos : Int32) (mBegun : Int32) (mSort : Int32) (mValue : Int32) (mFault : Int32) (mWrongAt : Int32) (mPaid : Int32) (mRow : (Nat → Int32)) (mRingMuch : Int32) (mRideSum : Int64) (mOwedSum : Int64) (mAllWays : Int64) (mRode : (Nat → Int32)) (mWays : (Nat → Int32)) (mLanes : (Nat → Int32)) (mSizes : (Nat → Int32)) (mCells : (Nat → Int32)) (mTorn : Int32) (mBefore : (Nat → Int32)) (n_mPos : Int32) (n_mBegun : Int32) (n_mSort : Int32) (n_mValue : Int32) (n_mFault : Int32) (n_mWrongAt : Int32) (hf : f_X8_takes mTape mTaped mPos mBegun mSort mValue mFault mWrongAt = some (n_mPos, n_mBegun, n_mSort, n_mValue, n_mFault, n_mWrongAt)) : mR l yX8_takes wsX8_takes rmX8_takes D k sz [.ref mh] (wX8 k mh mrSt mrNow mrIsKept mrDraft mrTape mrRow mrRode mrWays mrLanes mrSizes mrCells mrBefore mSt mNow mIsKept mPeople mDraft mDPeople mHasDry mToldDebts mHighest mTape mTaped mPos mBegun mSort mValue mFault mWrongAt mPaid mRow mRingMuch mRideSum mOwedSum mAllWays mRode mWays mLanes mSizes mCells mTorn mBefore) (wX8 k mh mrSt mrNow mrIsKept mrDraft mrTape mrRow mrRode mrWays mrLanes mrSizes mrCells mrBefore mSt mNow mIsKept mPeople mDraft mDPeople mHasDry mToldDebts mHighest mTape mTaped n_mPos n_mBegun n_mSort n_mValue n_mFault n_mWrongAt mPaid mRow mRingMuch mRideSum mOwedSum mAllWays mRode mWays mLanes mSizes mCells mTorn mBefore) (none) := by
  refine mR_of (cc := cX8_takes) (maxL := 2) (ret := none) (by decide) rfl (Nat.le_of_ble_eq_true rfl) [(0, .ref mh)] rfl ?_
  intro p e s m below meth c A ls args Q cx hK hA hw hl hQ
  have fx := cx.1
  obtain ⟨⟨hx, hb, hml, hown, hts⟩, hr, hlocks⟩ := cx
  have hinX8 : ∀ w ∈ wsX80, w ∈ wsX8_takes := fun w h => List.mem_cons_of_mem _ (List.mem_append_right _ h)
  have q_1 := hts (.fieldLink RX8 79 "DebtRidesModel" "fault" "I") (List.mem_of_getElem? (i := 1) rfl)
  have q_2 := hts (.fieldLink RX8 88 "DebtRidesModel" "pos" "I") (List.mem_of_getElem? (i := 2) rfl)
  have q_3 := hts (.fieldLink RX8 82 "DebtRidesModel" "begun" "I") (List.mem_of_getElem? (i := 3) rfl)
  have q_5 := hts (.constantLong RX8 106 (97)) (List.mem_of_getElem? (i := 5) rfl)
  have q_6 := hts (.constantLong RX8 108 (122)) (List.mem_of_getElem? (i := 6) rfl)
  have q_7 := hts (.constantLong RX8 110 (48)) (List.mem_of_getElem? (i := 7) rfl)
  have q_8 := hts (.constantLong RX8 112 (57)) (List.mem_of_getElem? (i := 8) rfl)
  have q_4 := hts (.fieldLink RX8 103 "DebtRidesModel" "sort" "I") (List.mem_of_getElem? (i := 4) rfl)
  have q_9 := hts (.fieldLink RX8 114 "DebtRidesModel" "value" "I") (List.mem_of_getElem? (i := 9) rfl)
  have h := hf
  unfold f_X8_takes at h
  clear hf
  refine lv_aload_n hx hb dX8_takes_0 rfl (lv_at hl 0 rfl) ?_
  refine va_get (ci := 8) (v := .int mFault) (C := RX8) (T := TX8) (N := 30) hx hb hts hinX8 hown hK.1 hw.1 0 rfl rfl 15 (by decide) q_1 (fun _ h9 => h9) rfl dX8_takes_1 ?_
  refine kb_if_le (tgt := 8) hx hb dX8_takes_4 (by decide) h (fun c_4 h => ?_) (fun c_4 h => ?_)
  · obtain ⟨mPos_2, hL_8, h⟩ := b1_inv h
    have X_8 : ∀ (H : Heap) (locs : List Loc) (ls : Array Slot), Wd D A s.heap H locs (wX8 k mh mrSt mrNow mrIsKept mrDraft mrTape mrRow mrRode mrWays mrLanes mrSizes mrCells mrBefore mSt mNow mIsKept mPeople mDraft mDPeople mHasDry mToldDebts mHighest mTape mTaped mPos_2 mBegun mSort mValue mFault mWrongAt mPaid mRow mRingMuch mRideSum mOwedSum mAllWays mRode mWays mLanes mSizes mCells mTorn mBefore) → lv_has ls 2 [(0, .ref mh)] → W p l e rmX8_takes s m args below meth c H locs 0 0 Q (F0 m 34 ls []) := by
      intro H locs ls hw hl
      refine lv_aload_n hx hb dX8_takes_34 rfl (lv_at hl 0 rfl) ?_
      refine lv_aload_n hx hb dX8_takes_35 rfl (lv_at hl 0 rfl) ?_
      refine va_get (ci := 8) (v := .int mPos_2) (C := RX8) (T := TX8) (N := 30) hx hb hts hinX8 hown hK.1 hw.1 0 rfl rfl 11 (by decide) q_2 (fun _ h9 => h9) rfl dX8_takes_36 ?_
      refine va_put (ci := 8) (v := .int mPos_2) (ty := tyX8 12) (C := RX8) (T := TX8) (N := 30) hx hb hts hinX8 tyX8 tyX8_ok nmX8 hown hK.1 hw.1 hw.2.1 hw.2.2 0 rfl rfl 12 (by decide) q_3 (fun _ h9 => h9) rfl (tyX8_ok 12 (by decide)) rfl rfl (Nat.le_of_ble_eq_true rfl) dX8_takes_39 (fun H locs hP hD hS => ?_)
      have hw : Wd D A s.heap H locs (wX8 k mh mrSt mrNow mrIsKept mrDraft mrTape mrRow mrRode mrWays mrLanes mrSizes mrCells mrBefore mSt mNow mIsKept mPeople mDraft mDPeople mHasDry mToldDebts mHighest mTape mTaped mPos_2 mPos_2 mSort mValue mFault mWrongAt mPaid mRow mRingMuch mRideSum mOwedSum mAllWays mRode mWays mLanes mSizes mCells mTorn mBefore) := ⟨hP, hD, hS⟩
      refine lv_aload_n hx hb dX8_takes_42 rfl (lv_at hl 0 rfl) ?_
      refine lv_aload_n hx hb dX8_takes_43 rfl (lv_at hl 0 rfl) ?_
      refine va_get (ci := 8) (v := .int mPos_2) (C := RX8) (T := TX8) (N := 30) hx hb hts hinX8 hown hK.1 hw.1 0 rfl rfl 11 (by decide) q_2 (fun _ h9 => h9) rfl dX8_takes_44 ?_
      obtain ⟨r_4, hf, h⟩ := b1_inv h
      refine k_callV (host := "") fx hK hA hw (c_X8_byteAt l D k mh mrSt mrNow mrIsKept mrDraft mrTape mrRow mrRode mrWays mrLanes mrSizes mrCells mrBefore _ mSt mNow mIsKept mPeople mDraft mDPeople mHasDry mToldDebts mHighest mTape mTaped mPos_2 mPos_2 mSort mValue mFault mWrongAt mPaid mRow mRingMuch mRideSum mOwedSum mAllWays mRode mWays mLanes mSizes mCells mTorn mBefore mPos_2 r_4 hf) (cwV 1 hts gX8_takes_X8_byteAt rfl rfl rfl (by decide +kernel) ⟨by decide, by decide⟩) (As := [.int mPos_2]) (wr := []) (ws' := wX8 k mh mrSt mrNow mrIsKept mrDraft mrTape mrRow mrRode mrWays mrLanes mrSizes mrCells mrBefore mSt mNow mIsKept mPeople mDraft mDPeople mHasDry mToldDebts mHighest mTape mTaped mPos_2 mPos_2 mSort mValue mFault mWrongAt mPaid mRow mRingMuch mRideSum mOwedSum mAllWays mRode mWays mLanes mSizes mCells mTorn mBefore) [0, 1, 2, 3, 4, 5, 6, 7, 8, 9, 10, 11, 12] [] [0, 1, 2, 3, 4, 5, 6, 7, 8, 9, 10, 11, 12] rfl rfl (by decide) (by decide) (by decide) rfl (by decide) 8 rfl rfl [] rfl hl.1 rfl (Nat.le_of_ble_eq_true rfl) dX8_takes_47 ⟨by decide, by decide⟩ (fun H locs (hw : Wd D A s.heap H locs (wX8 k mh mrSt mrNow mrIsKept mrDraft mrTape mrRow mrRode mrWays mrLanes mrSizes mrCells mrBefore mSt mNow mIsKept mPeople mDraft mDPeople mHasDry mToldDebts mHighest mTape mTaped mPos_2 mPos_2 mSort mValue mFault mWrongAt mPaid mRow mRingMuch mRideSum mOwedSum mAllWays mRode mWays mLanes mSizes mCells mTorn mBefore)) => ?_)
      refine W.eq (g2 := F0 m 50 ls ([.int r_4])) rfl ?_
      refine lv_istore_n (lv' := [(1, .int r_4), (0, .ref mh)]) hx hb dX8_takes_50 rfl hl (by decide) rfl (fun ls hl => ?_)
      refine lv_iload_n hx hb dX8_takes_51 rfl (lv_at hl 0 rfl) ?_
      refine kb_if_ge (tgt := 63) hx hb dX8_takes_52 (by decide) h (fun c_52 h => ?_) (fun c_52 h => ?_)
      · refine lv_iload_n hx hb dX8_takes_63 rfl (lv_at hl 0 rfl) ?_
        refine lv_i2l hx hb dX8_takes_64 rfl ?_
        refine lv_ldc2 (v := 97) hx hb hown q_5 dX8_takes_65 ?_
        refine lv_ldc2 (v := 122) hx hb hown q_6 dX8_takes_68 ?_
        obtain ⟨r_5, hf, h⟩ := b1_inv h
        refine k_callS (b := 0) (C := "") (host := "") fx hK hA hw (c_X8_in l D k _ r_4.toInt64 97 122 r_5 hf) (va_cwS 3 hts gX8_takes_X8_in rfl rfl rfl (by decide +kernel) ⟨by decide, by decide⟩) (As := [.long r_4.toInt64, .long 97, .long 122]) (wr := [(mh, .inr (8, [.ref mrSt, .ref mrNow, .ref mrIsKept, .int mPeople, .ref mrDraft, .int mDPeople, .int mHasDry, .int mToldDebts, .int mHighest, .ref mrTape, .int mTaped, .int mPos_2, .int mPos_2, .int mSort, .int mValue, .int mFault, .int mWrongAt, .int mPaid, .ref mrRow, .int mRingMuch, .long mRideSum, .long mOwedSum, .long mAllWays, .ref mrRode, .ref mrWays, .ref mrLanes, .ref mrSizes, .ref mrCells, .int mTorn, .ref mrBefore])), (mrSt, .inl (k 0, 183, .inl mSt)), (mrNow, .inl (k 0, 61, .inl mNow)), (mrIsKept, .inl (k 1, 2, .inl mIsKept)), (mrDraft, .inl (k 0, 61, .inl mDraft)), (mrTape, .inl (k 0, 160, .inl mTape)), (mrRow, .inl (k 0, 5, .inl mRow)), (mrRode, .inl (k 0, 31, .inl mRode)), (mrWays, .inl (k 0, 31, .inl mWays)), (mrLanes, .inl (k 0, 4, .inl mLanes)), (mrSizes, .inl (k 0, 4, .inl mSizes)), (mrCells, .inl (k 0, 160, .inl mCells)), (mrBefore, .inl (k 0, 61, .inl mBefore))]) (ws' := wX8 k mh mrSt mrNow mrIsKept mrDraft mrTape mrRow mrRode mrWays mrLanes mrSizes mrCells mrBefore mSt mNow mIsKept mPeople mDraft mDPeople mHasDry mToldDebts mHighest mTape mTaped mPos_2 mPos_2 mSort mValue mFault mWrongAt mPaid mRow mRingMuch mRideSum mOwedSum mAllWays mRode mWays mLanes mSizes mCells mTorn mBefore) [] [0, 1, 2, 3, 4, 5, 6, 7, 8, 9, 10, 11, 12] [0, 1, 2, 3, 4, 5, 6, 7, 8, 9, 10, 11, 12] rfl rfl (by decide) (by decide) (by decide) rfl (by decide) [] rfl hl.1 rfl (Nat.le_of_ble_eq_true rfl) dX8_takes_71 ⟨by decide, by decide⟩ (fun H locs (hw : Wd D A s.heap H locs (wX8 k mh mrSt mrNow mrIsKept mrDraft mrTape mrRow mrRode mrWays mrLanes mrSizes mrCells mrBefore mSt mNow mIsKept mPeople mDraft mDPeople mHasDry mToldDebts mHighest mTape mTaped mPos_2 mPos_2 mSort mValue mFault mWrongAt mPaid mRow mRingMuch mRideSum mOwedSum mAllWays mRode mWays mLanes mSizes mCells mTorn mBefore)) => ?_)
        refine W.eq (g2 := F0 m 74 ls ([.int r_5])) rfl ?_
        refine kb_if_eq (tgt := 116) hx hb dX8_takes_74 (by decide) h (fun c_74 h => ?_) (fun c_74 h => ?_)
        · refine lv_iload_n hx hb dX8_takes_116 rfl (lv_at hl 0 rfl) ?_
          refine lv_i2l hx hb dX8_takes_117 rfl ?_
          refine lv_ldc2 (v := 48) hx hb hown q_7 dX8_takes_118 ?_
          refine lv_ldc2 (v := 57) hx hb hown q_8 dX8_takes_121 ?_
          obtain ⟨r_6, hf, h⟩ := b1_inv h
          refine k_callS (b := 0) (C := "") (host := "") fx hK hA hw (c_X8_in l D k _ r_4.toInt64 48 57 r_6 hf) (va_cwS 3 hts gX8_takes_X8_in rfl rfl rfl (by decide +kernel) ⟨by decide, by decide⟩) (As := [.long r_4.toInt64, .long 48, .long 57]) (wr := [(mh, .inr (8, [.ref mrSt, .ref mrNow, .ref mrIsKept, .int mPeople, .ref mrDraft, .int mDPeople, .int mHasDry, .int mToldDebts, .int mHighest, .ref mrTape, .int mTaped, .int mPos_2, .int mPos_2, .int mSort, .int mValue, .int mFault, .int mWrongAt, .int mPaid, .ref mrRow, .int mRingMuch, .long mRideSum, .long mOwedSum, .long mAllWays, .ref mrRode, .ref mrWays, .ref mrLanes, .ref mrSizes, .ref mrCells, .int mTorn, .ref mrBefore])), (mrSt, .inl (k 0, 183, .inl mSt)), (mrNow, .inl (k 0, 61, .inl mNow)), (mrIsKept, .inl (k 1, 2, .inl mIsKept)), (mrDraft, .inl (k 0, 61, .inl mDraft)), (mrTape, .inl (k 0, 160, .inl mTape)), (mrRow, .inl (k 0, 5, .inl mRow)), (mrRode, .inl (k 0, 31, .inl mRode)), (mrWays, .inl (k 0, 31, .inl mWays)), (mrLanes, .inl (k 0, 4, .inl mLanes)), (mrSizes, .inl (k 0, 4, .inl mSizes)), (mrCells, .inl (k 0, 160, .inl mCells)), (mrBefore, .inl (k 0, 61, .inl mBefore))]) (ws' := wX8 k mh mrSt mrNow mrIsKept mrDraft mrTape mrRow mrRode mrWays mrLanes mrSizes mrCells mrBefore mSt mNow mIsKept mPeople mDraft mDPeople mHasDry mToldDebts mHighest mTape mTaped mPos_2 mPos_2 mSort mValue mFault mWrongAt mPaid mRow mRingMuch mRideSum mOwedSum mAllWays mRode mWays mLanes mSizes mCells mTorn mBefore) [] [0, 1, 2, 3, 4, 5, 6, 7, 8, 9, 10, 11, 12] [0, 1, 2, 3, 4, 5, 6, 7, 8, 9, 10, 11, 12] rfl rfl (by decide) (by decide) (by decide) rfl (by decide) [] rfl hl.1 rfl (Nat.le_of_ble_eq_true rfl) dX8_takes_124 ⟨by decide, by decide⟩ (fun H locs (hw : Wd D A s.heap H locs (wX8 k mh mrSt mrNow mrIsKept mrDraft mrTape mrRow mrRode mrWays mrLanes mrSizes mrCells mrBefore mSt mNow mIsKept mPeople mDraft mDPeople mHasDry mToldDebts mHighest mTape mTaped mPos_2 mPos_2 mSort mValue mFault mWrongAt mPaid mRow mRingMuch mRideSum mOwedSum mAllWays mRode mWays mLanes mSizes mCells mTorn mBefore)) => ?_)
          refine W.eq (g2 := F0 m 127 ls ([.int r_6])) rfl ?_
          refine kb_if_eq (tgt := 243) hx hb dX8_takes_127 (by decide) h (fun c_127 h => ?_) (fun c_127 h => ?_)
          · refine lv_aload_n hx hb dX8_takes_243 rfl (lv_at hl 1 rfl) ?_
            refine lv_iconst (v := 3) hx hb dX8_takes_244 (by decide) ?_
            refine va_put (ci := 8) (v := .int 3) (ty := tyX8 13) (C := RX8) (T := TX8) (N := 30) hx hb hts hinX8 tyX8 tyX8_ok nmX8 hown hK.1 hw.1 hw.2.1 hw.2.2 0 rfl rfl 13 (by decide) q_4 (fun _ h9 => h9) rfl (tyX8_ok 13 (by decide)) rfl rfl (Nat.le_of_ble_eq_true rfl) dX8_takes_245 (fun H locs hP hD hS => ?_)
            have hw : Wd D A s.heap H locs (wX8 k mh mrSt mrNow mrIsKept mrDraft mrTape mrRow mrRode mrWays mrLanes mrSizes mrCells mrBefore mSt mNow mIsKept mPeople mDraft mDPeople mHasDry mToldDebts mHighest mTape mTaped mPos_2 mPos_2 3 mValue mFault mWrongAt mPaid mRow mRingMuch mRideSum mOwedSum mAllWays mRode mWays mLanes mSizes mCells mTorn mBefore) := ⟨hP, hD, hS⟩
            refine lv_aload_n hx hb dX8_takes_248 rfl (lv_at hl 1 rfl) ?_
            refine lv_iload_n hx hb dX8_takes_249 rfl (lv_at hl 0 rfl) ?_
            refine lv_bipush (v := 59) hx hb dX8_takes_250 (by decide) ?_
            obtain ⟨t_7, hj_252, h⟩ := b1_inv h
            have J_252 : ∀ (H : Heap) (locs : List Loc) (ls : Array Slot), Wd D A s.heap H locs (wX8 k mh mrSt mrNow mrIsKept mrDraft mrTape mrRow mrRode mrWays mrLanes mrSizes mrCells mrBefore mSt mNow mIsKept mPeople mDraft mDPeople mHasDry mToldDebts mHighest mTape mTaped mPos_2 mPos_2 3 mValue mFault mWrongAt mPaid mRow mRingMuch mRideSum mOwedSum mAllWays mRode mWays mLanes mSizes mCells mTorn mBefore) → lv_has ls 2 [(0, .ref mh)] → W p l e rmX8_takes s m args below meth c H locs 0 0 Q (F0 m 260 ls [.int t_7, .ref mh]) := by
              intro H locs ls hw hl
              refine lv_iconst (v := 1) hx hb dX8_takes_260 (by decide) ?_
              obtain ⟨mFault_8, mWrongAt_9, hf, h⟩ := b2_inv h
              refine k_callV (host := "") fx hK hA hw (c_X8_needs l D k mh mrSt mrNow mrIsKept mrDraft mrTape mrRow mrRode mrWays mrLanes mrSizes mrCells mrBefore _ mSt mNow mIsKept mPeople mDraft mDPeople mHasDry mToldDebts mHighest mTape mTaped mPos_2 mPos_2 3 mValue mFault mWrongAt mPaid mRow mRingMuch mRideSum mOwedSum mAllWays mRode mWays mLanes mSizes mCells mTorn mBefore t_7 1 mFault_8 mWrongAt_9 hf) (cwV 2 hts gX8_takes_X8_needs rfl rfl rfl (by decide +kernel) ⟨by decide, by decide⟩) (As := [.int t_7, .int 1]) (wr := []) (ws' := wX8 k mh mrSt mrNow mrIsKept mrDraft mrTape mrRow mrRode mrWays mrLanes mrSizes mrCells mrBefore mSt mNow mIsKept mPeople mDraft mDPeople mHasDry mToldDebts mHighest mTape mTaped mPos_2 mPos_2 3 mValue mFault_8 mWrongAt_9 mPaid mRow mRingMuch mRideSum mOwedSum mAllWays mRode mWays mLanes mSizes mCells mTorn mBefore) [0, 1, 2, 3, 4, 5, 6, 7, 8, 9, 10, 11, 12] [] [0, 1, 2, 3, 4, 5, 6, 7, 8, 9, 10, 11, 12] rfl rfl (by decide) (by decide) (by decide) rfl (by decide) 8 rfl rfl [] rfl hl.1 rfl (Nat.le_of_ble_eq_true rfl) dX8_takes_261 ⟨by decide, by decide⟩ (fun H locs (hw : Wd D A s.heap H locs (wX8 k mh mrSt mrNow mrIsKept mrDraft mrTape mrRow mrRode mrWays mrLanes mrSizes mrCells mrBefore mSt mNow mIsKept mPeople mDraft mDPeople mHasDry mToldDebts mHighest mTape mTaped mPos_2 mPos_2 3 mValue mFault_8 mWrongAt_9 mPaid mRow mRingMuch mRideSum mOwedSum mAllWays mRode mWays mLanes mSizes mCells mTorn mBefore)) => ?_)
              refine W.eq (g2 := F0 m 264 ls ([])) rfl ?_
              refine lv_aload_n hx hb dX8_takes_264 rfl (lv_at hl 0 rfl) ?_
              refine lv_dup hx hb dX8_takes_265 rfl ?_
              refine va_get (ci := 8) (v := .int mPos_2) (C := RX8) (T := TX8) (N := 30) hx hb hts hinX8 hown hK.1 hw.1 0 rfl rfl 11 (by decide) q_2 (fun _ h9 => h9) rfl dX8_takes_266 ?_
              refine lv_iconst (v := 1) hx hb dX8_takes_269 (by decide) ?_
              refine lv_iadd hx hb dX8_takes_270 ?_
              refine va_put (ci := 8) (v := .int (mPos_2 + 1)) (ty := tyX8 11) (C := RX8) (T := TX8) (N := 30) hx hb hts hinX8 tyX8 tyX8_ok nmX8 hown hK.1 hw.1 hw.2.1 hw.2.2 0 rfl rfl 11 (by decide) q_2 (fun _ h9 => h9) rfl (tyX8_ok 11 (by decide)) rfl rfl (Nat.le_of_ble_eq_true rfl) dX8_takes_271 (fun H locs hP hD hS => ?_)
              have hw : Wd D A s.heap H locs (wX8 k mh mrSt mrNow mrIsKept mrDraft mrTape mrRow mrRode mrWays mrLanes mrSizes mrCells mrBefore mSt mNow mIsKept mPeople mDraft mDPeople mHasDry mToldDebts mHighest mTape mTaped (mPos_2 + 1) mPos_2 3 mValue mFault_8 mWrongAt_9 mPaid mRow mRingMuch mRideSum mOwedSum mAllWays mRode mWays mLanes mSizes mCells mTorn mBefore) := ⟨hP, hD, hS⟩
              cases h
              exact k_vret hx hb hr hlocks hw dX8_takes_274 hQ
            clear h
            have h := hj_252
            refine kb_icmp_ne (tgt := 259) hx hb dX8_takes_252 (by decide) h (fun c_252 h => ?_) (fun c_252 h => ?_)
            · refine lv_iconst (v := 1) hx hb dX8_takes_255 (by decide) ?_
              refine lv_goto (tgt := 260) hx hb dX8_takes_256 (by decide) ?_
              cases h
              exact J_252 _ _ _ hw (lv_sub hl [1] rfl)
            · refine lv_iconst (v := 0) hx hb dX8_takes_259 (by decide) ?_
              cases h
              exact J_252 _ _ _ hw (lv_sub hl [1] rfl)
          · refine lv_aload_n hx hb dX8_takes_130 rfl (lv_at hl 1 rfl) ?_
            refine lv_iconst (v := 2) hx hb dX8_takes_131 (by decide) ?_
            refine va_put (ci := 8) (v := .int 2) (ty := tyX8 13) (C := RX8) (T := TX8) (N := 30) hx hb hts hinX8 tyX8 tyX8_ok nmX8 hown hK.1 hw.1 hw.2.1 hw.2.2 0 rfl rfl 13 (by decide) q_4 (fun _ h9 => h9) rfl (tyX8_ok 13 (by decide)) rfl rfl (Nat.le_of_ble_eq_true rfl) dX8_takes_132 (fun H locs hP hD hS => ?_)
            have hw : Wd D A s.heap H locs (wX8 k mh mrSt mrNow mrIsKept mrDraft mrTape mrRow mrRode mrWays mrLanes mrSizes mrCells mrBefore mSt mNow mIsKept mPeople mDraft mDPeople mHasDry mToldDebts mHighest mTape mTaped mPos_2 mPos_2 2 mValue mFault mWrongAt mPaid mRow mRingMuch mRideSum mOwedSum mAllWays mRode mWays mLanes mSizes mCells mTorn mBefore) := ⟨hP, hD, hS⟩
            refine lv_aload_n hx hb dX8_takes_135 rfl (lv_at hl 1 rfl) ?_
            refine lv_iconst (v := 0) hx hb dX8_takes_136 (by decide) ?_
            refine va_put (ci := 8) (v := .int 0) (ty := tyX8 14) (C := RX8) (T := TX8) (N := 30) hx hb hts hinX8 tyX8 tyX8_ok nmX8 hown hK.1 hw.1 hw.2.1 hw.2.2 0 rfl rfl 14 (by decide) q_9 (fun _ h9 => h9) rfl (tyX8_ok 14 (by decide)) rfl rfl (Nat.le_of_ble_eq_true rfl) dX8_takes_137 (fun H locs hP hD hS => ?_)
            have hw : Wd D A s.heap H locs (wX8 k mh mrSt mrNow mrIsKept mrDraft mrTape mrRow mrRode mrWays mrLanes mrSizes mrCells mrBefore mSt mNow mIsKept mPeople mDraft mDPeople mHasDry mToldDebts mHighest mTape mTaped mPos_2 mPos_2 2 0 mFault mWrongAt mPaid mRow mRingMuch mRideSum mOwedSum mAllWays mRode mWays mLanes mSizes mCells mTorn mBefore) := ⟨hP, hD, hS⟩
            obtain ⟨mPos_12, mValue_13, hL_140, h⟩ := b2_inv h
            have X_140 : ∀ (H : Heap) (locs : List Loc) (ls : Array Slot), Wd D A s.heap H locs (wX8 k mh mrSt mrNow mrIsKept mrDraft mrTape mrRow mrRode mrWays mrLanes mrSizes mrCells mrBefore mSt mNow mIsKept mPeople mDraft mDPeople mHasDry mToldDebts mHighest mTape mTaped mPos_12 mPos_2 2 mValue_13 mFault mWrongAt mPaid mRow mRingMuch mRideSum mOwedSum mAllWays mRode mWays mLanes mSizes mCells mTorn mBefore) → lv_has ls 2 [(0, .ref mh)] → W p l e rmX8_takes s m args below meth c H locs 0 0 Q (F0 m 217 ls []) := by
              intro H locs ls hw hl
              refine lv_aload_n hx hb dX8_takes_217 rfl (lv_at hl 0 rfl) ?_
              refine lv_aload_n hx hb dX8_takes_218 rfl (lv_at hl 0 rfl) ?_
              refine va_get (ci := 8) (v := .int mPos_12) (C := RX8) (T := TX8) (N := 30) hx hb hts hinX8 hown hK.1 hw.1 0 rfl rfl 11 (by decide) q_2 (fun _ h9 => h9) rfl dX8_takes_219 ?_
              refine lv_aload_n hx hb dX8_takes_222 rfl (lv_at hl 0 rfl) ?_
              refine va_get (ci := 8) (v := .int mPos_2) (C := RX8) (T := TX8) (N := 30) hx hb hts hinX8 hown hK.1 hw.1 0 rfl rfl 12 (by decide) q_3 (fun _ h9 => h9) rfl dX8_takes_223 ?_
              refine lv_isub hx hb dX8_takes_226 ?_
              refine lv_iconst (v := 2) hx hb dX8_takes_227 (by decide) ?_
              obtain ⟨t_18, hj_228, h⟩ := b1_inv h
              have J_228 : ∀ (H : Heap) (locs : List Loc) (ls : Array Slot), Wd D A s.heap H locs (wX8 k mh mrSt mrNow mrIsKept mrDraft mrTape mrRow mrRode mrWays mrLanes mrSizes mrCells mrBefore mSt mNow mIsKept mPeople mDraft mDPeople mHasDry mToldDebts mHighest mTape mTaped mPos_12 mPos_2 2 mValue_13 mFault mWrongAt mPaid mRow mRingMuch mRideSum mOwedSum mAllWays mRode mWays mLanes mSizes mCells mTorn mBefore) → lv_has ls 2 [] → W p l e rmX8_takes s m args below meth c H locs 0 0 Q (F0 m 236 ls [.int t_18, .ref mh]) := by
                intro H locs ls hw hl
                refine lv_iconst (v := 1) hx hb dX8_takes_236 (by decide) ?_
                obtain ⟨mFault_19, mWrongAt_20, hf, h⟩ := b2_inv h
                refine k_callV (host := "") fx hK hA hw (c_X8_needs l D k mh mrSt mrNow mrIsKept mrDraft mrTape mrRow mrRode mrWays mrLanes mrSizes mrCells mrBefore _ mSt mNow mIsKept mPeople mDraft mDPeople mHasDry mToldDebts mHighest mTape mTaped mPos_12 mPos_2 2 mValue_13 mFault mWrongAt mPaid mRow mRingMuch mRideSum mOwedSum mAllWays mRode mWays mLanes mSizes mCells mTorn mBefore t_18 1 mFault_19 mWrongAt_20 hf) (cwV 2 hts gX8_takes_X8_needs rfl rfl rfl (by decide +kernel) ⟨by decide, by decide⟩) (As := [.int t_18, .int 1]) (wr := []) (ws' := wX8 k mh mrSt mrNow mrIsKept mrDraft mrTape mrRow mrRode mrWays mrLanes mrSizes mrCells mrBefore mSt mNow mIsKept mPeople mDraft mDPeople mHasDry mToldDebts mHighest mTape mTaped mPos_12 mPos_2 2 mValue_13 mFault_19 mWrongAt_20 mPaid mRow mRingMuch mRideSum mOwedSum mAllWays mRode mWays mLanes mSizes mCells mTorn mBefore) [0, 1, 2, 3, 4, 5, 6, 7, 8, 9, 10, 11, 12] [] [0, 1, 2, 3, 4, 5, 6, 7, 8, 9, 10, 11, 12] rfl rfl (by decide) (by decide) (by decide) rfl (by decide) 8 rfl rfl [] rfl hl.1 rfl (Nat.le_of_ble_eq_true rfl) dX8_takes_237 ⟨by decide, by decide⟩ (fun H locs (hw : Wd D A s.heap H locs (wX8 k mh mrSt mrNow mrIsKept mrDraft mrTape mrRow mrRode mrWays mrLanes mrSizes mrCells mrBefore mSt mNow mIsKept mPeople mDraft mDPeople mHasDry mToldDebts mHighest mTape mTaped mPos_12 mPos_2 2 mValue_13 mFault_19 mWrongAt_20 mPaid mRow mRingMuch mRideSum mOwedSum mAllWays mRode mWays mLanes mSizes mCells mTorn mBefore)) => ?_)
                refine W.eq (g2 := F0 m 240 ls ([])) rfl ?_
                refine lv_goto (tgt := 274) hx hb dX8_takes_240 (by decide) ?_
                cases h
                exact k_vret hx hb hr hlocks hw dX8_takes_274 hQ
              clear h
              have h := hj_228
              refine kb_icmp_gt (tgt := 235) hx hb dX8_takes_228 (by decide) h (fun c_228 h => ?_) (fun c_228 h => ?_)
              · refine lv_iconst (v := 0) hx hb dX8_takes_235 (by decide) ?_
                cases h
                exact J_228 _ _ _ hw (lv_sub hl [] rfl)
              · refine lv_iconst (v := 1) hx hb dX8_takes_231 (by decide) ?_
                refine lv_goto (tgt := 236) hx hb dX8_takes_232 (by decide) ?_
                cases h
                exact J_228 _ _ _ hw (lv_sub hl [] rfl)
            clear h
            have LP_140 : ∀ (n : Nat) (mPos_10 : Int32) (mValue_11 : Int32), f_X8_takes_L140 mTape mTaped mPos_2 n mPos_10 mValue_11 = some (mPos_12, mValue_13) → ∀ (H : Heap) (locs : List Loc) (ls : Array Slot), Wd D A s.heap H locs (wX8 k mh mrSt mrNow mrIsKept mrDraft mrTape mrRow mrRode mrWays mrLanes mrSizes mrCells mrBefore mSt mNow mIsKept mPeople mDraft mDPeople mHasDry mToldDebts mHighest mTape mTaped mPos_10 mPos_2 2 mValue_11 mFault mWrongAt mPaid mRow mRingMuch mRideSum mOwedSum mAllWays mRode mWays mLanes mSizes mCells mTorn mBefore) → lv_has ls 2 [(0, .ref mh)] → W p l e rmX8_takes s m args below meth c H locs 0 0 Q (F0 m 140 ls []) := by
              clear hL_140 hw hl
              intro n
              induction n with
              | zero => intro mPos_10 mValue_11 h; rw [f_X8_takes_L140] at h; cases h
              | succ n ih =>
                intro mPos_10 mValue_11 h H locs ls hw hl
                rw [f_X8_takes_L140] at h
                refine lv_aload_n hx hb dX8_takes_140 rfl (lv_at hl 0 rfl) ?_
                refine lv_aload_n hx hb dX8_takes_141 rfl (lv_at hl 0 rfl) ?_
                refine va_get (ci := 8) (v := .int mPos_10) (C := RX8) (T := TX8) (N := 30) hx hb hts hinX8 hown hK.1 hw.1 0 rfl rfl 11 (by decide) q_2 (fun _ h9 => h9) rfl dX8_takes_142 ?_
                obtain ⟨r_14, hf, h⟩ := b1_inv h
                refine k_callV (host := "") fx hK hA hw (c_X8_byteAt l D k mh mrSt mrNow mrIsKept mrDraft mrTape mrRow mrRode mrWays mrLanes mrSizes mrCells mrBefore _ mSt mNow mIsKept mPeople mDraft mDPeople mHasDry mToldDebts mHighest mTape mTaped mPos_10 mPos_2 2 mValue_11 mFault mWrongAt mPaid mRow mRingMuch mRideSum mOwedSum mAllWays mRode mWays mLanes mSizes mCells mTorn mBefore mPos_10 r_14 hf) (cwV 1 hts gX8_takes_X8_byteAt rfl rfl rfl (by decide +kernel) ⟨by decide, by decide⟩) (As := [.int mPos_10]) (wr := []) (ws' := wX8 k mh mrSt mrNow mrIsKept mrDraft mrTape mrRow mrRode mrWays mrLanes mrSizes mrCells mrBefore mSt mNow mIsKept mPeople mDraft mDPeople mHasDry mToldDebts mHighest mTape mTaped mPos_10 mPos_2 2 mValue_11 mFault mWrongAt mPaid mRow mRingMuch mRideSum mOwedSum mAllWays mRode mWays mLanes mSizes mCells mTorn mBefore) [0, 1, 2, 3, 4, 5, 6, 7, 8, 9, 10, 11, 12] [] [0, 1, 2, 3, 4, 5, 6, 7, 8, 9, 10, 11, 12] rfl rfl (by decide) (by decide) (by decide) rfl (by decide) 8 rfl rfl [] rfl hl.1 rfl (Nat.le_of_ble_eq_true rfl) dX8_takes_145 ⟨by decide, by decide⟩ (fun H locs (hw : Wd D A s.heap H locs (wX8 k mh mrSt mrNow mrIsKept mrDraft mrTape mrRow mrRode mrWays mrLanes mrSizes mrCells mrBefore mSt mNow mIsKept mPeople mDraft mDPeople mHasDry mToldDebts mHighest mTape mTaped mPos_10 mPos_2 2 mValue_11 mFault mWrongAt mPaid mRow mRingMuch mRideSum mOwedSum mAllWays mRode mWays mLanes mSizes mCells mTorn mBefore)) => ?_)
                refine W.eq (g2 := F0 m 148 ls ([.int r_14])) rfl ?_
                refine lv_i2l hx hb dX8_takes_148 rfl ?_
                refine lv_ldc2 (v := 48) hx hb hown q_7 dX8_takes_149 ?_
                refine lv_ldc2 (v := 57) hx hb hown q_8 dX8_takes_152 ?_
                obtain ⟨r_15, hf, h⟩ := b1_inv h
                refine k_callS (b := 0) (C := "") (host := "") fx hK hA hw (c_X8_in l D k _ r_14.toInt64 48 57 r_15 hf) (va_cwS 3 hts gX8_takes_X8_in rfl rfl rfl (by decide +kernel) ⟨by decide, by decide⟩) (As := [.long r_14.toInt64, .long 48, .long 57]) (wr := [(mh, .inr (8, [.ref mrSt, .ref mrNow, .ref mrIsKept, .int mPeople, .ref mrDraft, .int mDPeople, .int mHasDry, .int mToldDebts, .int mHighest, .ref mrTape, .int mTaped, .int mPos_10, .int mPos_2, .int 2, .int mValue_11, .int mFault, .int mWrongAt, .int mPaid, .ref mrRow, .int mRingMuch, .long mRideSum, .long mOwedSum, .long mAllWays, .ref mrRode, .ref mrWays, .ref mrLanes, .ref mrSizes, .ref mrCells, .int mTorn, .ref mrBefore])), (mrSt, .inl (k 0, 183, .inl mSt)), (mrNow, .inl (k 0, 61, .inl mNow)), (mrIsKept, .inl (k 1, 2, .inl mIsKept)), (mrDraft, .inl (k 0, 61, .inl mDraft)), (mrTape, .inl (k 0, 160, .inl mTape)), (mrRow, .inl (k 0, 5, .inl mRow)), (mrRode, .inl (k 0, 31, .inl mRode)), (mrWays, .inl (k 0, 31, .inl mWays)), (mrLanes, .inl (k 0, 4, .inl mLanes)), (mrSizes, .inl (k 0, 4, .inl mSizes)), (mrCells, .inl (k 0, 160, .inl mCells)), (mrBefore, .inl (k 0, 61, .inl mBefore))]) (ws' := wX8 k mh mrSt mrNow mrIsKept mrDraft mrTape mrRow mrRode mrWays mrLanes mrSizes mrCells mrBefore mSt mNow mIsKept mPeople mDraft mDPeople mHasDry mToldDebts mHighest mTape mTaped mPos_10 mPos_2 2 mValue_11 mFault mWrongAt mPaid mRow mRingMuch mRideSum mOwedSum mAllWays mRode mWays mLanes mSizes mCells mTorn mBefore) [] [0, 1, 2, 3, 4, 5, 6, 7, 8, 9, 10, 11, 12] [0, 1, 2, 3, 4, 5, 6, 7, 8, 9, 10, 11, 12] rfl rfl (by decide) (by decide) (by decide) rfl (by decide) [] rfl hl.1 rfl (Nat.le_of_ble_eq_true rfl) dX8_takes_155 ⟨by decide, by decide⟩ (fun H locs (hw : Wd D A s.heap H locs (wX8 k mh mrSt mrNow mrIsKept mrDraft mrTape mrRow mrRode mrWays mrLanes mrSizes mrCells mrBefore mSt mNow mIsKept mPeople mDraft mDPeople mHasDry mToldDebts mHighest mTape mTaped mPos_10 mPos_2 2 mValue_11 mFault mWrongAt mPaid mRow mRingMuch mRideSum mOwedSum mAllWays mRode mWays mLanes mSizes mCells mTorn mBefore)) => ?_)
                refine W.eq (g2 := F0 m 158 ls ([.int r_15])) rfl ?_
                refine kb_if_eq (tgt := 217) hx hb dX8_takes_158 (by decide) h (fun c_158 h => ?_) (fun c_158 h => ?_)
                · cases h
                  exact X_140 _ _ _ hw (lv_sub hl [0] rfl)
                · refine lv_aload_n hx hb dX8_takes_161 rfl (lv_at hl 0 rfl) ?_
                  refine lv_aload_n hx hb dX8_takes_162 rfl (lv_at hl 0 rfl) ?_
                  refine va_get (ci := 8) (v := .int mPos_10) (C := RX8) (T := TX8) (N := 30) hx hb hts hinX8 hown hK.1 hw.1 0 rfl rfl 11 (by decide) q_2 (fun _ h9 => h9) rfl dX8_takes_163 ?_
                  refine lv_aload_n hx hb dX8_takes_166 rfl (lv_at hl 0 rfl) ?_
                  refine va_get (ci := 8) (v := .int mPos_2) (C := RX8) (T := TX8) (N := 30) hx hb hts hinX8 hown hK.1 hw.1 0 rfl rfl 12 (by decide) q_3 (fun _ h9 => h9) rfl dX8_takes_167 ?_
                  refine lv_isub hx hb dX8_takes_170 ?_
                  refine lv_iconst (v := 2) hx hb dX8_takes_171 (by decide) ?_
                  obtain ⟨t_16, hj_172, h⟩ := b1_inv h
                  have J_172 : ∀ (H : Heap) (locs : List Loc) (ls : Array Slot), Wd D A s.heap H locs (wX8 k mh mrSt mrNow mrIsKept mrDraft mrTape mrRow mrRode mrWays mrLanes mrSizes mrCells mrBefore mSt mNow mIsKept mPeople mDraft mDPeople mHasDry mToldDebts mHighest mTape mTaped mPos_10 mPos_2 2 mValue_11 mFault mWrongAt mPaid mRow mRingMuch mRideSum mOwedSum mAllWays mRode mWays mLanes mSizes mCells mTorn mBefore) → lv_has ls 2 [(0, .ref mh)] → W p l e rmX8_takes s m args below meth c H locs 0 0 Q (F0 m 201 ls [.int t_16, .ref mh]) := by
                    intro H locs ls hw hl
                    refine va_put (ci := 8) (v := .int t_16) (ty := tyX8 14) (C := RX8) (T := TX8) (N := 30) hx hb hts hinX8 tyX8 tyX8_ok nmX8 hown hK.1 hw.1 hw.2.1 hw.2.2 0 rfl rfl 14 (by decide) q_9 (fun _ h9 => h9) rfl (tyX8_ok 14 (by decide)) rfl rfl (Nat.le_of_ble_eq_true rfl) dX8_takes_201 (fun H locs hP hD hS => ?_)
                    have hw : Wd D A s.heap H locs (wX8 k mh mrSt mrNow mrIsKept mrDraft mrTape mrRow mrRode mrWays mrLanes mrSizes mrCells mrBefore mSt mNow mIsKept mPeople mDraft mDPeople mHasDry mToldDebts mHighest mTape mTaped mPos_10 mPos_2 2 t_16 mFault mWrongAt mPaid mRow mRingMuch mRideSum mOwedSum mAllWays mRode mWays mLanes mSizes mCells mTorn mBefore) := ⟨hP, hD, hS⟩
                    refine lv_aload_n hx hb dX8_takes_204 rfl (lv_at hl 0 rfl) ?_
                    refine lv_dup hx hb dX8_takes_205 rfl ?_
                    refine va_get (ci := 8) (v := .int mPos_10) (C := RX8) (T := TX8) (N := 30) hx hb hts hinX8 hown hK.1 hw.1 0 rfl rfl 11 (by decide) q_2 (fun _ h9 => h9) rfl dX8_takes_206 ?_
                    refine lv_iconst (v := 1) hx hb dX8_takes_209 (by decide) ?_
                    refine lv_iadd hx hb dX8_takes_210 ?_
                    refine va_put (ci := 8) (v := .int (mPos_10 + 1)) (ty := tyX8 11) (C := RX8) (T := TX8) (N := 30) hx hb hts hinX8 tyX8 tyX8_ok nmX8 hown hK.1 hw.1 hw.2.1 hw.2.2 0 rfl rfl 11 (by decide) q_2 (fun _ h9 => h9) rfl (tyX8_ok 11 (by decide)) rfl rfl (Nat.le_of_ble_eq_true rfl) dX8_takes_211 (fun H locs hP hD hS => ?_)
                    have hw : Wd D A s.heap H locs (wX8 k mh mrSt mrNow mrIsKept mrDraft mrTape mrRow mrRode mrWays mrLanes mrSizes mrCells mrBefore mSt mNow mIsKept mPeople mDraft mDPeople mHasDry mToldDebts mHighest mTape mTaped (mPos_10 + 1) mPos_2 2 t_16 mFault mWrongAt mPaid mRow mRingMuch mRideSum mOwedSum mAllWays mRode mWays mLanes mSizes mCells mTorn mBefore) := ⟨hP, hD, hS⟩
                    refine lv_goto (tgt := 140) hx hb dX8_takes_214 (by decide) ?_
                    exact ih _ _ h _ _ _ hw (lv_sub hl [0] rfl)
                  clear h
                  have h := hj_172
                  refine kb_icmp_ge (tgt := 197) hx hb dX8_takes_172 (by decide) h (fun c_172 h => ?_) (fun c_172 h => ?_)
                  · refine lv_aload_n hx hb dX8_takes_197 rfl (lv_at hl 0 rfl) ?_
                    refine va_get (ci := 8) (v := .int mValue_11) (C := RX8) (T := TX8) (N := 30) hx hb hts hinX8 hown hK.1 hw.1 0 rfl rfl 14 (by decide) q_9 (fun _ h9 => h9) rfl dX8_takes_198 ?_
                    cases h
                    exact J_172 _ _ _ hw (lv_sub hl [0] rfl)
                  · refine lv_bipush (v := 10) hx hb dX8_takes_175 (by decide) ?_
                    refine lv_aload_n hx hb dX8_takes_177 rfl (lv_at hl 0 rfl) ?_
                    refine va_get (ci := 8) (v := .int mValue_11) (C := RX8) (T := TX8) (N := 30) hx hb hts hinX8 hown hK.1 hw.1 0 rfl rfl 14 (by decide) q_9 (fun _ h9 => h9) rfl dX8_takes_178 ?_
                    refine lv_imul hx hb dX8_takes_181 ?_
                    refine lv_aload_n hx hb dX8_takes_182 rfl (lv_at hl 0 rfl) ?_
                    refine lv_aload_n hx hb dX8_takes_183 rfl (lv_at hl 0 rfl) ?_
                    refine va_get (ci := 8) (v := .int mPos_10) (C := RX8) (T := TX8) (N := 30) hx hb hts hinX8 hown hK.1 hw.1 0 rfl rfl 11 (by decide) q_2 (fun _ h9 => h9) rfl dX8_takes_184 ?_
                    obtain ⟨r_17, hf, h⟩ := b1_inv h
                    refine k_callV (host := "") fx hK hA hw (c_X8_byteAt l D k mh mrSt mrNow mrIsKept mrDraft mrTape mrRow mrRode mrWays mrLanes mrSizes mrCells mrBefore _ mSt mNow mIsKept mPeople mDraft mDPeople mHasDry mToldDebts mHighest mTape mTaped mPos_10 mPos_2 2 mValue_11 mFault mWrongAt mPaid mRow mRingMuch mRideSum mOwedSum mAllWays mRode mWays mLanes mSizes mCells mTorn mBefore mPos_10 r_17 hf) (cwV 1 hts gX8_takes_X8_byteAt rfl rfl rfl (by decide +kernel) ⟨by decide, by decide⟩) (As := [.int mPos_10]) (wr := []) (ws' := wX8 k mh mrSt mrNow mrIsKept mrDraft mrTape mrRow mrRode mrWays mrLanes mrSizes mrCells mrBefore mSt mNow mIsKept mPeople mDraft mDPeople mHasDry mToldDebts mHighest mTape mTaped mPos_10 mPos_2 2 mValue_11 mFault mWrongAt mPaid mRow mRingMuch mRideSum mOwedSum mAllWays mRode mWays mLanes mSizes mCells mTorn mBefore) [0, 1, 2, 3, 4, 5, 6, 7, 8, 9, 10, 11, 12] [] [0, 1, 2, 3, 4, 5, 6, 7, 8, 9, 10, 11, 12] rfl rfl (by decide) (by decide) (by decide) rfl (by decide) 8 rfl rfl [.int (10 * mValue_11), .ref mh] rfl hl.1 rfl (Nat.le_of_ble_eq_true rfl) dX8_takes_187 ⟨by decide, by decide⟩ (fun H locs (hw : Wd D A s.heap H locs (wX8 k mh mrSt mrNow mrIsKept mrDraft mrTape mrRow mrRode mrWays mrLanes mrSizes mrCells mrBefore mSt mNow mIsKept mPeople mDraft mDPeople mHasDry mToldDebts mHighest mTape mTaped mPos_10 mPos_2 2 mValue_11 mFault mWrongAt mPaid mRow mRingMuch mRideSum mOwedSum mAllWays mRode mWays mLanes mSizes mCells mTorn mBefore)) => ?_)
                    refine W.eq (g2 := F0 m 190 ls ([.int r_17, .int (10 * mValue_11), .ref mh])) rfl ?_
                    refine lv_iadd hx hb dX8_takes_190 ?_
                    refine lv_bipush (v := 48) hx hb dX8_takes_191 (by decide) ?_
                    refine lv_isub hx hb dX8_takes_193 ?_
                    refine lv_goto (tgt := 201) hx hb dX8_takes_194 (by decide) ?_
                    cases h
                    exact J_172 _ _ _ hw (lv_sub hl [0] rfl)
            exact LP_140 400 mPos_2 0 hL_140 _ _ _ hw (lv_sub hl [1] rfl)
        · refine lv_aload_n hx hb dX8_takes_77 rfl (lv_at hl 1 rfl) ?_
          refine lv_iconst (v := 1) hx hb dX8_takes_78 (by decide) ?_
          refine va_put (ci := 8) (v := .int 1) (ty := tyX8 13) (C := RX8) (T := TX8) (N := 30) hx hb hts hinX8 tyX8 tyX8_ok nmX8 hown hK.1 hw.1 hw.2.1 hw.2.2 0 rfl rfl 13 (by decide) q_4 (fun _ h9 => h9) rfl (tyX8_ok 13 (by decide)) rfl rfl (Nat.le_of_ble_eq_true rfl) dX8_takes_79 (fun H locs hP hD hS => ?_)
          have hw : Wd D A s.heap H locs (wX8 k mh mrSt mrNow mrIsKept mrDraft mrTape mrRow mrRode mrWays mrLanes mrSizes mrCells mrBefore mSt mNow mIsKept mPeople mDraft mDPeople mHasDry mToldDebts mHighest mTape mTaped mPos_2 mPos_2 1 mValue mFault mWrongAt mPaid mRow mRingMuch mRideSum mOwedSum mAllWays mRode mWays mLanes mSizes mCells mTorn mBefore) := ⟨hP, hD, hS⟩
          obtain ⟨mPos_22, hL_82, h⟩ := b1_inv h
          have X_82 : ∀ (H : Heap) (locs : List Loc) (ls : Array Slot), Wd D A s.heap H locs (wX8 k mh mrSt mrNow mrIsKept mrDraft mrTape mrRow mrRode mrWays mrLanes mrSizes mrCells mrBefore mSt mNow mIsKept mPeople mDraft mDPeople mHasDry mToldDebts mHighest mTape mTaped mPos_22 mPos_2 1 mValue mFault mWrongAt mPaid mRow mRingMuch mRideSum mOwedSum mAllWays mRode mWays mLanes mSizes mCells mTorn mBefore) → lv_has ls 2 [] → W p l e rmX8_takes s m args below meth c H locs 0 0 Q (F0 m 274 ls []) := by
            intro H locs ls hw hl
            cases h
            exact k_vret hx hb hr hlocks hw dX8_takes_274 hQ
          clear h
          have LP_82 : ∀ (n : Nat) (mPos_21 : Int32), f_X8_takes_L82 mTape mTaped n mPos_21 = some mPos_22 → ∀ (H : Heap) (locs : List Loc) (ls : Array Slot), Wd D A s.heap H locs (wX8 k mh mrSt mrNow mrIsKept mrDraft mrTape mrRow mrRode mrWays mrLanes mrSizes mrCells mrBefore mSt mNow mIsKept mPeople mDraft mDPeople mHasDry mToldDebts mHighest mTape mTaped mPos_21 mPos_2 1 mValue mFault mWrongAt mPaid mRow mRingMuch mRideSum mOwedSum mAllWays mRode mWays mLanes mSizes mCells mTorn mBefore) → lv_has ls 2 [(0, .ref mh)] → W p l e rmX8_takes s m args below meth c H locs 0 0 Q (F0 m 82 ls []) := by
            clear hL_82 hw hl
            intro n
            induction n with
            | zero => intro mPos_21 h; rw [f_X8_takes_L82] at h; cases h
            | succ n ih =>
              intro mPos_21 h H locs ls hw hl
              rw [f_X8_takes_L82] at h
              refine lv_aload_n hx hb dX8_takes_82 rfl (lv_at hl 0 rfl) ?_
              refine lv_aload_n hx hb dX8_takes_83 rfl (lv_at hl 0 rfl) ?_
              refine va_get (ci := 8) (v := .int mPos_21) (C := RX8) (T := TX8) (N := 30) hx hb hts hinX8 hown hK.1 hw.1 0 rfl rfl 11 (by decide) q_2 (fun _ h9 => h9) rfl dX8_takes_84 ?_
              obtain ⟨r_23, hf, h⟩ := b1_inv h
              refine k_callV (host := "") fx hK hA hw (c_X8_byteAt l D k mh mrSt mrNow mrIsKept mrDraft mrTape mrRow mrRode mrWays mrLanes mrSizes mrCells mrBefore _ mSt mNow mIsKept mPeople mDraft mDPeople mHasDry mToldDebts mHighest mTape mTaped mPos_21 mPos_2 1 mValue mFault mWrongAt mPaid mRow mRingMuch mRideSum mOwedSum mAllWays mRode mWays mLanes mSizes mCells mTorn mBefore mPos_21 r_23 hf) (cwV 1 hts gX8_takes_X8_byteAt rfl rfl rfl (by decide +kernel) ⟨by decide, by decide⟩) (As := [.int mPos_21]) (wr := []) (ws' := wX8 k mh mrSt mrNow mrIsKept mrDraft mrTape mrRow mrRode mrWays mrLanes mrSizes mrCells mrBefore mSt mNow mIsKept mPeople mDraft mDPeople mHasDry mToldDebts mHighest mTape mTaped mPos_21 mPos_2 1 mValue mFault mWrongAt mPaid mRow mRingMuch mRideSum mOwedSum mAllWays mRode mWays mLanes mSizes mCells mTorn mBefore) [0, 1, 2, 3, 4, 5, 6, 7, 8, 9, 10, 11, 12] [] [0, 1, 2, 3, 4, 5, 6, 7, 8, 9, 10, 11, 12] rfl rfl (by decide) (by decide) (by decide) rfl (by decide) 8 rfl rfl [] rfl hl.1 rfl (Nat.le_of_ble_eq_true rfl) dX8_takes_87 ⟨by decide, by decide⟩ (fun H locs (hw : Wd D A s.heap H locs (wX8 k mh mrSt mrNow mrIsKept mrDraft mrTape mrRow mrRode mrWays mrLanes mrSizes mrCells mrBefore mSt mNow mIsKept mPeople mDraft mDPeople mHasDry mToldDebts mHighest mTape mTaped mPos_21 mPos_2 1 mValue mFault mWrongAt mPaid mRow mRingMuch mRideSum mOwedSum mAllWays mRode mWays mLanes mSizes mCells mTorn mBefore)) => ?_)
              refine W.eq (g2 := F0 m 90 ls ([.int r_23])) rfl ?_
              refine lv_i2l hx hb dX8_takes_90 rfl ?_
              refine lv_ldc2 (v := 97) hx hb hown q_5 dX8_takes_91 ?_
              refine lv_ldc2 (v := 122) hx hb hown q_6 dX8_takes_94 ?_
              obtain ⟨r_24, hf, h⟩ := b1_inv h
              refine k_callS (b := 0) (C := "") (host := "") fx hK hA hw (c_X8_in l D k _ r_23.toInt64 97 122 r_24 hf) (va_cwS 3 hts gX8_takes_X8_in rfl rfl rfl (by decide +kernel) ⟨by decide, by decide⟩) (As := [.long r_23.toInt64, .long 97, .long 122]) (wr := [(mh, .inr (8, [.ref mrSt, .ref mrNow, .ref mrIsKept, .int mPeople, .ref mrDraft, .int mDPeople, .int mHasDry, .int mToldDebts, .int mHighest, .ref mrTape, .int mTaped, .int mPos_21, .int mPos_2, .int 1, .int mValue, .int mFault, .int mWrongAt, .int mPaid, .ref mrRow, .int mRingMuch, .long mRideSum, .long mOwedSum, .long mAllWays, .ref mrRode, .ref mrWays, .ref mrLanes, .ref mrSizes, .ref mrCells, .int mTorn, .ref mrBefore])), (mrSt, .inl (k 0, 183, .inl mSt)), (mrNow, .inl (k 0, 61, .inl mNow)), (mrIsKept, .inl (k 1, 2, .inl mIsKept)), (mrDraft, .inl (k 0, 61, .inl mDraft)), (mrTape, .inl (k 0, 160, .inl mTape)), (mrRow, .inl (k 0, 5, .inl mRow)), (mrRode, .inl (k 0, 31, .inl mRode)), (mrWays, .inl (k 0, 31, .inl mWays)), (mrLanes, .inl (k 0, 4, .inl mLanes)), (mrSizes, .inl (k 0, 4, .inl mSizes)), (mrCells, .inl (k 0, 160, .inl mCells)), (mrBefore, .inl (k 0, 61, .inl mBefore))]) (ws' := wX8 k mh mrSt mrNow mrIsKept mrDraft mrTape mrRow mrRode mrWays mrLanes mrSizes mrCells mrBefore mSt mNow mIsKept mPeople mDraft mDPeople mHasDry mToldDebts mHighest mTape mTaped mPos_21 mPos_2 1 mValue mFault mWrongAt mPaid mRow mRingMuch mRideSum mOwedSum mAllWays mRode mWays mLanes mSizes mCells mTorn mBefore) [] [0, 1, 2, 3, 4, 5, 6, 7, 8, 9, 10, 11, 12] [0, 1, 2, 3, 4, 5, 6, 7, 8, 9, 10, 11, 12] rfl rfl (by decide) (by decide) (by decide) rfl (by decide) [] rfl hl.1 rfl (Nat.le_of_ble_eq_true rfl) dX8_takes_97 ⟨by decide, by decide⟩ (fun H locs (hw : Wd D A s.heap H locs (wX8 k mh mrSt mrNow mrIsKept mrDraft mrTape mrRow mrRode mrWays mrLanes mrSizes mrCells mrBefore mSt mNow mIsKept mPeople mDraft mDPeople mHasDry mToldDebts mHighest mTape mTaped mPos_21 mPos_2 1 mValue mFault mWrongAt mPaid mRow mRingMuch mRideSum mOwedSum mAllWays mRode mWays mLanes mSizes mCells mTorn mBefore)) => ?_)
              refine W.eq (g2 := F0 m 100 ls ([.int r_24])) rfl ?_
              refine kb_if_eq (tgt := 274) hx hb dX8_takes_100 (by decide) h (fun c_100 h => ?_) (fun c_100 h => ?_)
              · cases h
                exact X_82 _ _ _ hw (lv_sub hl [] rfl)
              · refine lv_aload_n hx hb dX8_takes_103 rfl (lv_at hl 0 rfl) ?_
                refine lv_dup hx hb dX8_takes_104 rfl ?_
                refine va_get (ci := 8) (v := .int mPos_21) (C := RX8) (T := TX8) (N := 30) hx hb hts hinX8 hown hK.1 hw.1 0 rfl rfl 11 (by decide) q_2 (fun _ h9 => h9) rfl dX8_takes_105 ?_
                refine lv_iconst (v := 1) hx hb dX8_takes_108 (by decide) ?_
                refine lv_iadd hx hb dX8_takes_109 ?_
                refine va_put (ci := 8) (v := .int (mPos_21 + 1)) (ty := tyX8 11) (C := RX8) (T := TX8) (N := 30) hx hb hts hinX8 tyX8 tyX8_ok nmX8 hown hK.1 hw.1 hw.2.1 hw.2.2 0 rfl rfl 11 (by decide) q_2 (fun _ h9 => h9) rfl (tyX8_ok 11 (by decide)) rfl rfl (Nat.le_of_ble_eq_true rfl) dX8_takes_110 (fun H locs hP hD hS => ?_)
                have hw : Wd D A s.heap H locs (wX8 k mh mrSt mrNow mrIsKept mrDraft mrTape mrRow mrRode mrWays mrLanes mrSizes mrCells mrBefore mSt mNow mIsKept mPeople mDraft mDPeople mHasDry mToldDebts mHighest mTape mTaped (mPos_21 + 1) mPos_2 1 mValue mFault mWrongAt mPaid mRow mRingMuch mRideSum mOwedSum mAllWays mRode mWays mLanes mSizes mCells mTorn mBefore) := ⟨hP, hD, hS⟩
                refine lv_goto (tgt := 82) hx hb dX8_takes_113 (by decide) ?_
                exact ih _ h _ _ _ hw (lv_sub hl [0] rfl)
          exact LP_82 400 mPos_2 hL_82 _ _ _ hw (lv_sub hl [1] rfl)
      · refine lv_aload_n hx hb dX8_takes_55 rfl (lv_at hl 1 rfl) ?_
        refine lv_iconst (v := 0) hx hb dX8_takes_56 (by decide) ?_
        refine va_put (ci := 8) (v := .int 0) (ty := tyX8 13) (C := RX8) (T := TX8) (N := 30) hx hb hts hinX8 tyX8 tyX8_ok nmX8 hown hK.1 hw.1 hw.2.1 hw.2.2 0 rfl rfl 13 (by decide) q_4 (fun _ h9 => h9) rfl (tyX8_ok 13 (by decide)) rfl rfl (Nat.le_of_ble_eq_true rfl) dX8_takes_57 (fun H locs hP hD hS => ?_)
        have hw : Wd D A s.heap H locs (wX8 k mh mrSt mrNow mrIsKept mrDraft mrTape mrRow mrRode mrWays mrLanes mrSizes mrCells mrBefore mSt mNow mIsKept mPeople mDraft mDPeople mHasDry mToldDebts mHighest mTape mTaped mPos_2 mPos_2 0 mValue mFault mWrongAt mPaid mRow mRingMuch mRideSum mOwedSum mAllWays mRode mWays mLanes mSizes mCells mTorn mBefore) := ⟨hP, hD, hS⟩
        refine lv_goto (tgt := 274) hx hb dX8_takes_60 (by decide) ?_
        cases h
        exact k_vret hx hb hr hlocks hw dX8_takes_274 hQ
    clear h
    have LP_8 : ∀ (n : Nat) (mPos_1 : Int32), f_X8_takes_L8 mTape mTaped n mPos_1 = some mPos_2 → ∀ (H : Heap) (locs : List Loc) (ls : Array Slot), Wd D A s.heap H locs (wX8 k mh mrSt mrNow mrIsKept mrDraft mrTape mrRow mrRode mrWays mrLanes mrSizes mrCells mrBefore mSt mNow mIsKept mPeople mDraft mDPeople mHasDry mToldDebts mHighest mTape mTaped mPos_1 mBegun mSort mValue mFault mWrongAt mPaid mRow mRingMuch mRideSum mOwedSum mAllWays mRode mWays mLanes mSizes mCells mTorn mBefore) → lv_has ls 2 [(0, .ref mh)] → W p l e rmX8_takes s m args below meth c H locs 0 0 Q (F0 m 8 ls []) := by
      clear hL_8 hw hl
      intro n
      induction n with
      | zero => intro mPos_1 h; rw [f_X8_takes_L8] at h; cases h
      | succ n ih =>
        intro mPos_1 h H locs ls hw hl
        rw [f_X8_takes_L8] at h
        refine lv_aload_n hx hb dX8_takes_8 rfl (lv_at hl 0 rfl) ?_
        refine lv_aload_n hx hb dX8_takes_9 rfl (lv_at hl 0 rfl) ?_
        refine va_get (ci := 8) (v := .int mPos_1) (C := RX8) (T := TX8) (N := 30) hx hb hts hinX8 hown hK.1 hw.1 0 rfl rfl 11 (by decide) q_2 (fun _ h9 => h9) rfl dX8_takes_10 ?_
        obtain ⟨r_3, hf, h⟩ := b1_inv h
        refine k_callV (host := "") fx hK hA hw (c_X8_byteAt l D k mh mrSt mrNow mrIsKept mrDraft mrTape mrRow mrRode mrWays mrLanes mrSizes mrCells mrBefore _ mSt mNow mIsKept mPeople mDraft mDPeople mHasDry mToldDebts mHighest mTape mTaped mPos_1 mBegun mSort mValue mFault mWrongAt mPaid mRow mRingMuch mRideSum mOwedSum mAllWays mRode mWays mLanes mSizes mCells mTorn mBefore mPos_1 r_3 hf) (cwV 1 hts gX8_takes_X8_byteAt rfl rfl rfl (by decide +kernel) ⟨by decide, by decide⟩) (As := [.int mPos_1]) (wr := []) (ws' := wX8 k mh mrSt mrNow mrIsKept mrDraft mrTape mrRow mrRode mrWays mrLanes mrSizes mrCells mrBefore mSt mNow mIsKept mPeople mDraft mDPeople mHasDry mToldDebts mHighest mTape mTaped mPos_1 mBegun mSort mValue mFault mWrongAt mPaid mRow mRingMuch mRideSum mOwedSum mAllWays mRode mWays mLanes mSizes mCells mTorn mBefore) [0, 1, 2, 3, 4, 5, 6, 7, 8, 9, 10, 11, 12] [] [0, 1, 2, 3, 4, 5, 6, 7, 8, 9, 10, 11, 12] rfl rfl (by decide) (by decide) (by decide) rfl (by decide) 8 rfl rfl [] rfl hl.1 rfl (Nat.le_of_ble_eq_true rfl) dX8_takes_13 ⟨by decide, by decide⟩ (fun H locs (hw : Wd D A s.heap H locs (wX8 k mh mrSt mrNow mrIsKept mrDraft mrTape mrRow mrRode mrWays mrLanes mrSizes mrCells mrBefore mSt mNow mIsKept mPeople mDraft mDPeople mHasDry mToldDebts mHighest mTape mTaped mPos_1 mBegun mSort mValue mFault mWrongAt mPaid mRow mRingMuch mRideSum mOwedSum mAllWays mRode mWays mLanes mSizes mCells mTorn mBefore)) => ?_)
        refine W.eq (g2 := F0 m 16 ls ([.int r_3])) rfl ?_
        refine lv_bipush (v := 32) hx hb dX8_takes_16 (by decide) ?_
        refine kb_icmp_ne (tgt := 34) hx hb dX8_takes_18 (by decide) h (fun c_18 h => ?_) (fun c_18 h => ?_)
        · refine lv_aload_n hx hb dX8_takes_21 rfl (lv_at hl 0 rfl) ?_
          refine lv_dup hx hb dX8_takes_22 rfl ?_
          refine va_get (ci := 8) (v := .int mPos_1) (C := RX8) (T := TX8) (N := 30) hx hb hts hinX8 hown hK.1 hw.1 0 rfl rfl 11 (by decide) q_2 (fun _ h9 => h9) rfl dX8_takes_23 ?_
          refine lv_iconst (v := 1) hx hb dX8_takes_26 (by decide) ?_
          refine lv_iadd hx hb dX8_takes_27 ?_
          refine va_put (ci := 8) (v := .int (mPos_1 + 1)) (ty := tyX8 11) (C := RX8) (T := TX8) (N := 30) hx hb hts hinX8 tyX8 tyX8_ok nmX8 hown hK.1 hw.1 hw.2.1 hw.2.2 0 rfl rfl 11 (by decide) q_2 (fun _ h9 => h9) rfl (tyX8_ok 11 (by decide)) rfl rfl (Nat.le_of_ble_eq_true rfl) dX8_takes_28 (fun H locs hP hD hS => ?_)
          have hw : Wd D A s.heap H locs (wX8 k mh mrSt mrNow mrIsKept mrDraft mrTape mrRow mrRode mrWays mrLanes mrSizes mrCells mrBefore mSt mNow mIsKept mPeople mDraft mDPeople mHasDry mToldDebts mHighest mTape mTaped (mPos_1 + 1) mBegun mSort mValue mFault mWrongAt mPaid mRow mRingMuch mRideSum mOwedSum mAllWays mRode mWays mLanes mSizes mCells mTorn mBefore) := ⟨hP, hD, hS⟩
          refine lv_goto (tgt := 8) hx hb dX8_takes_31 (by decide) ?_
          exact ih _ h _ _ _ hw (lv_sub hl [0] rfl)
        · cases h
          exact X_8 _ _ _ hw (lv_sub hl [0] rfl)
    exact LP_8 400 mPos hL_8 _ _ _ hw (lv_sub hl [0] rfl)
  · cases h
    exact k_vret hx hb hr hlocks hw dX8_takes_7 hQ
