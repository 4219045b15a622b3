abbrev rmX3_isName_0 : Room := { frames := 4, cells := 0, slots := 0, locals := 85 }
set_option maxHeartbeats 4000000 in
set_option maxRecDepth 100000 in
theorem c_X3_isName_0 (aK aV : Nat → Nat) (l : Launch) (D : va_G) (k : Nat → ClassId) (xh xrBy xaD : Nat) (sz : Nat) (xBy : (Nat → Int32)) (xLe : Int32) (xLi : Int32) (xFf : Int32) (xFp : Int32) (xPl : Int32) (xSo : Int32) (xSt : Int32) (xVa : Int32) (xDt : Int32) (xHo : Int32) (r_ : Int32) (hf : f_X3_isName_0 xBy xPl xSo xSt = some r_) : mS aK aV l yX3_isName wsX3_isName rmX3_isName_0 D k sz [.ref xh, .ref (aK 0)] (wX3 k xh xrBy xaD xBy xLe xLi xFf xFp xPl xSo xSt xVa xDt xHo) (wX3 k xh xrBy xaD xBy xLe xLi xFf xFp xPl xSo xSt xVa xDt xHo) (some (.int r_)) := by
  refine mS_of (cc := cX3_isName) (maxL := 3) (ret := some .boolean) (by decide) rfl (Nat.le_of_ble_eq_true rfl) [(0, .ref xh), (1, .ref (aK 0))] rfl ?_
  intro p e s m below meth c A ls args Q cx hK hA hw hl hQ hSX
  have fx := cx.1
  obtain ⟨⟨hx, hb, hml, hown, hts⟩, hr, hlocks⟩ := cx
  have hinX3 : ∀ w ∈ wsX30, w ∈ wsX3_isName := fun w h => List.mem_cons_of_mem _ (List.mem_append_right _ h)
  have q_1 := hts (.fieldLink RX3 52 "DebtRides$Reader" "sort" "I") (List.mem_of_getElem? (i := 1) rfl)
  have q_2 := hts (.fieldLink RX3 35 "DebtRides$Reader" "place" "I") (List.mem_of_getElem? (i := 2) rfl)
  have q_3 := hts (.fieldLink RX3 90 "DebtRides$Reader" "start" "I") (List.mem_of_getElem? (i := 3) rfl)
  have q_4 := hts (.fieldLink RX3 9 "DebtRides$Reader" "bytes" "[I") (List.mem_of_getElem? (i := 4) rfl)
  have h := hf
  unfold f_X3_isName_0 at h
  clear hf
  refine lv_aload_n hx hb dX3_isName_0 rfl (lv_at hl 0 rfl) ?_
  refine va_get (ci := 3) (v := .int xSo) (C := RX3) (T := TX3) (N := 12) hx hb hts hinX3 hown hK.1 hw.1 0 rfl rfl 7 (by decide) q_1 (fun _ h9 => h9) rfl dX3_isName_1 ?_
  refine lv_iconst (v := 1) hx hb dX3_isName_4 (by decide) ?_
  refine kb_icmp_ne (tgt := 24) hx hb dX3_isName_5 (by decide) h (fun c_5 h => ?_) (fun c_5 h => ?_)
  · refine lv_aload_n hx hb dX3_isName_8 rfl (lv_at hl 0 rfl) ?_
    refine va_get (ci := 3) (v := .int xPl) (C := RX3) (T := TX3) (N := 12) hx hb hts hinX3 hown hK.1 hw.1 0 rfl rfl 6 (by decide) q_2 (fun _ h9 => h9) rfl dX3_isName_9 ?_
    refine lv_aload_n hx hb dX3_isName_12 rfl (lv_at hl 0 rfl) ?_
    refine va_get (ci := 3) (v := .int xSt) (C := RX3) (T := TX3) (N := 12) hx hb hts hinX3 hown hK.1 hw.1 0 rfl rfl 8 (by decide) q_3 (fun _ h9 => h9) rfl dX3_isName_13 ?_
    refine lv_isub hx hb dX3_isName_16 ?_
    refine lv_aload_n hx hb dX3_isName_17 rfl (lv_at hl 1 rfl) ?_
    refine k_callVS fx hK hA hSX hw (c_J0_length aK aV 0 (by decide) l D k _) (cwV 0 hts gX3_isName_J0_length_8abf5 rfl rfl rfl (by decide +kernel) ⟨by decide, by decide⟩) (As := []) (wr := wX3 k xh xrBy xaD xBy xLe xLi xFf xFp xPl xSo xSt xVa xDt xHo) (ws' := wX3 k xh xrBy xaD xBy xLe xLi xFf xFp xPl xSo xSt xVa xDt xHo) [] [0, 1] [0, 1] rfl rfl (by decide) (by decide) (by decide) rfl (by decide) (fun _ => vk_recv hSX.1.1 (i := 0) (by decide) hw.2.2) [.int (xPl - xSt)] rfl hl.1 rfl (Nat.le_of_ble_eq_true rfl) dX3_isName_18 ⟨by decide, by decide⟩ (fun H locs (hw : Wd D A s.heap H locs (wX3 k xh xrBy xaD xBy xLe xLi xFf xFp xPl xSo xSt xVa xDt xHo)) => ?_)
    refine W.eq (g2 := F0 m 21 ls (.int (nI (LENS.getD 0 0)) :: [.int (xPl - xSt)])) rfl ?_
    refine k_lit (y := 5) (by decide) ?_
    refine kb_icmp_eq (tgt := 26) hx hb dX3_isName_21 (by decide) h (fun c_21 h => ?_) (fun c_21 h => ?_)
    · refine lv_iconst (v := 0) hx hb dX3_isName_26 (by decide) ?_
      refine lv_istore_n (lv' := [(2, .int 0), (0, .ref xh), (1, .ref (aK 0))]) hx hb dX3_isName_27 rfl hl (by decide) rfl (fun ls hl => ?_)
      obtain ⟨ex_28, hL_28, hX_28⟩ := bs1_inv h
      clear h
      have X_28 : ex_28 = Sum.inr () → ∀ (H : Heap) (locs : List Loc) (ls : Array Slot), Wd D A s.heap H locs (wX3 k xh xrBy xaD xBy xLe xLi xFf xFp xPl xSo xSt xVa xDt xHo) → lv_has ls 3 [] → W p l e rmX3_isName_0 s m args below meth c H locs 0 0 Q (F0 m 63 ls []) := by
        intro  hex H locs ls hw hl
        subst hex
        have h := bs1_r hX_28
        refine lv_iconst (v := 1) hx hb dX3_isName_63 (by decide) ?_
        cases h
        exact k_zret hx hb hr hlocks hw (by decide) rfl dX3_isName_64 hQ
      have LP_28 : ∀ (n : Nat) (v2_1 : Int32), f_X3_isName_0_L28 xBy xSt n v2_1 = some ex_28 → ∀ (H : Heap) (locs : List Loc) (ls : Array Slot), Wd D A s.heap H locs (wX3 k xh xrBy xaD xBy xLe xLi xFf xFp xPl xSo xSt xVa xDt xHo) → lv_has ls 3 [(0, .ref xh), (1, .ref (aK 0)), (2, .int v2_1)] → W p l e rmX3_isName_0 s m args below meth c H locs 0 0 Q (F0 m 28 ls []) := by
        clear hL_28 hw hl
        intro n
        induction n with
        | zero => intro v2_1 h; rw [f_X3_isName_0_L28] at h; cases h
        | succ n ih =>
          intro v2_1 h H locs ls hw hl
          rw [f_X3_isName_0_L28] at h
          refine lv_iload_n hx hb dX3_isName_28 rfl (lv_at hl 2 rfl) ?_
          refine lv_aload_n hx hb dX3_isName_29 rfl (lv_at hl 1 rfl) ?_
          refine k_callVS fx hK hA hSX hw (c_J0_length aK aV 0 (by decide) l D k _) (cwV 0 hts gX3_isName_J0_length_8abf5 rfl rfl rfl (by decide +kernel) ⟨by decide, by decide⟩) (As := []) (wr := wX3 k xh xrBy xaD xBy xLe xLi xFf xFp xPl xSo xSt xVa xDt xHo) (ws' := wX3 k xh xrBy xaD xBy xLe xLi xFf xFp xPl xSo xSt xVa xDt xHo) [] [0, 1] [0, 1] rfl rfl (by decide) (by decide) (by decide) rfl (by decide) (fun _ => vk_recv hSX.1.1 (i := 0) (by decide) hw.2.2) [.int v2_1] rfl hl.1 rfl (Nat.le_of_ble_eq_true rfl) dX3_isName_30 ⟨by decide, by decide⟩ (fun H locs (hw : Wd D A s.heap H locs (wX3 k xh xrBy xaD xBy xLe xLi xFf xFp xPl xSo xSt xVa xDt xHo)) => ?_)
          refine W.eq (g2 := F0 m 33 ls (.int (nI (LENS.getD 0 0)) :: [.int v2_1])) rfl ?_
          refine k_lit (y := 5) (by decide) ?_
          refine kb_icmp_ge (tgt := 63) hx hb dX3_isName_33 (by decide) h (fun c_33 h => ?_) (fun c_33 h => ?_)
          · cases h
            exact X_28  rfl _ _ _ hw (lv_sub hl [] rfl)
          · refine lv_aload_n hx hb dX3_isName_36 rfl (lv_at hl 0 rfl) ?_
            refine va_get (ci := 3) (v := .ref xrBy) (C := RX3) (T := TX3) (N := 12) hx hb hts hinX3 hown hK.1 hw.1 0 rfl rfl 0 (by decide) q_4 (fun _ h9 => h9) rfl dX3_isName_37 ?_
            refine lv_aload_n hx hb dX3_isName_40 rfl (lv_at hl 0 rfl) ?_
            refine va_get (ci := 3) (v := .int xSt) (C := RX3) (T := TX3) (N := 12) hx hb hts hinX3 hown hK.1 hw.1 0 rfl rfl 8 (by decide) q_3 (fun _ h9 => h9) rfl dX3_isName_41 ?_
            refine lv_iload_n hx hb dX3_isName_44 rfl (lv_at hl 2 rfl) ?_
            refine lv_iadd hx hb dX3_isName_45 ?_
            refine k_iald hx hb hK hw 1 rfl dX3_isName_46 h (fun a_2 h => ?_)
            refine lv_aload_n hx hb dX3_isName_47 rfl (lv_at hl 1 rfl) ?_
            refine lv_iload_n hx hb dX3_isName_48 rfl (lv_at hl 2 rfl) ?_
            obtain ⟨c_3, hc, h⟩ := b1_inv h
            obtain ⟨hc1, hc2⟩ := rd_inv hc
            refine k_callVS fx hK hA hSX hw (c_J0_charAt aK aV 0 (by decide) v2_1 hc1 l D k _) (cwV 1 hts gX3_isName_J0_charAt_5068e rfl rfl rfl (by decide +kernel) ⟨by decide, by decide⟩) (As := [.int v2_1]) (wr := wX3 k xh xrBy xaD xBy xLe xLi xFf xFp xPl xSo xSt xVa xDt xHo) (ws' := wX3 k xh xrBy xaD xBy xLe xLi xFf xFp xPl xSo xSt xVa xDt xHo) [] [0, 1] [0, 1] rfl rfl (by decide) (by decide) (by decide) rfl (by decide) (fun _ => vk_recv hSX.1.1 (i := 0) (by decide) hw.2.2) [.int a_2] rfl hl.1 rfl (Nat.le_of_ble_eq_true rfl) dX3_isName_49 ⟨by decide, by decide⟩ (fun H locs (hw : Wd D A s.heap H locs (wX3 k xh xrBy xaD xBy xLe xLi xFf xFp xPl xSo xSt xVa xDt xHo)) => ?_)
            refine W.eq (g2 := F0 m 52 ls (.int (chS 0 v2_1.toNatClampNeg) :: [.int a_2])) rfl ?_
            refine k_lit hc2.symm ?_
            refine kb_icmp_eq (tgt := 57) hx hb dX3_isName_52 (by decide) h (fun c_52 h => ?_) (fun c_52 h => ?_)
            · refine lv_iinc (v := v2_1 + 1) (lv' := [(2, .int (v2_1 + 1)), (0, .ref xh), (1, .ref (aK 0))]) hx hb dX3_isName_57 hl (k := 2) rfl rfl (by decide) rfl (fun ls hl => ?_)
              refine lv_goto (tgt := 28) hx hb dX3_isName_60 (by decide) ?_
              exact ih _ h _ _ _ hw (lv_sub hl [1, 2, 0] rfl)
            · refine lv_iconst (v := 0) hx hb dX3_isName_55 (by decide) ?_
              cases h
              have h := bs1_l hX_28
              cases h
              exact k_zret hx hb hr hlocks hw (by decide) rfl dX3_isName_56 hQ
      exact LP_28 400 0 hL_28 _ _ _ hw (lv_sub hl [1, 2, 0] rfl)
    · refine lv_iconst (v := 0) hx hb dX3_isName_24 (by decide) ?_
      cases h
      exact k_zret hx hb hr hlocks hw (by decide) rfl dX3_isName_25 hQ
  · refine lv_iconst (v := 0) hx hb dX3_isName_24 (by decide) ?_
    cases h
    exact k_zret hx hb hr hlocks hw (by decide) rfl dX3_isName_25 hQ
abbrev rmX3_isName_1 : Room := { frames := 4, cells := 0, slots := 0, locals := 85 }
set_option maxHeartbeats 4000000 in
set_option maxRecDepth 100000 in
theorem c_X3_isName_1 (aK aV : Nat → Nat) (l : Launch) (D : va_G) (k : Nat → ClassId) (xh xrBy xaD : Nat) (sz : Nat) (xBy : (Nat → Int32)) (xLe : Int32) (xLi : Int32) (xFf : Int32) (xFp : Int32) (xPl : Int32) (xSo : Int32) (xSt : Int32) (xVa : Int32) (xDt : Int32) (xHo : Int32) (r_ : Int32) (hf : f_X3_isName_1 xBy xPl xSo xSt = some r_) : mS aK aV l yX3_isName wsX3_isName rmX3_isName_1 D k sz [.ref xh, .ref (aK 1)] (wX3 k xh xrBy xaD xBy xLe xLi xFf xFp xPl xSo xSt xVa xDt xHo) (wX3 k xh xrBy xaD xBy xLe xLi xFf xFp xPl xSo xSt xVa xDt xHo) (some (.int r_)) := by
  refine mS_of (cc := cX3_isName) (maxL := 3) (ret := some .boolean) (by decide) rfl (Nat.le_of_ble_eq_true rfl) [(0, .ref xh), (1, .ref (aK 1))] rfl ?_
  intro p e s m below meth c A ls args Q cx hK hA hw hl hQ hSX
  have fx := cx.1
  obtain ⟨⟨hx, hb, hml, hown, hts⟩, hr, hlocks⟩ := cx
  have hinX3 : ∀ w ∈ wsX30, w ∈ wsX3_isName := fun w h => List.mem_cons_of_mem _ (List.mem_append_right _ h)
  have q_1 := hts (.fieldLink RX3 52 "DebtRides$Reader" "sort" "I") (List.mem_of_getElem? (i := 1) rfl)
  have q_2 := hts (.fieldLink RX3 35 "DebtRides$Reader" "place" "I") (List.mem_of_getElem? (i := 2) rfl)
  have q_3 := hts (.fieldLink RX3 90 "DebtRides$Reader" "start" "I") (List.mem_of_getElem? (i := 3) rfl)
  have q_4 := hts (.fieldLink RX3 9 "DebtRides$Reader" "bytes" "[I") (List.mem_of_getElem? (i := 4) rfl)
  have h := hf
  unfold f_X3_isName_1 at h
  clear hf
  refine lv_aload_n hx hb dX3_isName_0 rfl (lv_at hl 0 rfl) ?_
  refine va_get (ci := 3) (v := .int xSo) (C := RX3) (T := TX3) (N := 12) hx hb hts hinX3 hown hK.1 hw.1 0 rfl rfl 7 (by decide) q_1 (fun _ h9 => h9) rfl dX3_isName_1 ?_
  refine lv_iconst (v := 1) hx hb dX3_isName_4 (by decide) ?_
  refine kb_icmp_ne (tgt := 24) hx hb dX3_isName_5 (by decide) h (fun c_5 h => ?_) (fun c_5 h => ?_)
  · refine lv_aload_n hx hb dX3_isName_8 rfl (lv_at hl 0 rfl) ?_
    refine va_get (ci := 3) (v := .int xPl) (C := RX3) (T := TX3) (N := 12) hx hb hts hinX3 hown hK.1 hw.1 0 rfl rfl 6 (by decide) q_2 (fun _ h9 => h9) rfl dX3_isName_9 ?_
    refine lv_aload_n hx hb dX3_isName_12 rfl (lv_at hl 0 rfl) ?_
    refine va_get (ci := 3) (v := .int xSt) (C := RX3) (T := TX3) (N := 12) hx hb hts hinX3 hown hK.1 hw.1 0 rfl rfl 8 (by decide) q_3 (fun _ h9 => h9) rfl dX3_isName_13 ?_
    refine lv_isub hx hb dX3_isName_16 ?_
    refine lv_aload_n hx hb dX3_isName_17 rfl (lv_at hl 1 rfl) ?_
    refine k_callVS fx hK hA hSX hw (c_J0_length aK aV 1 (by decide) l D k _) (cwV 0 hts gX3_isName_J0_length_8abf5 rfl rfl rfl (by decide +kernel) ⟨by decide, by decide⟩) (As := []) (wr := wX3 k xh xrBy xaD xBy xLe xLi xFf xFp xPl xSo xSt xVa xDt xHo) (ws' := wX3 k xh xrBy xaD xBy xLe xLi xFf xFp xPl xSo xSt xVa xDt xHo) [] [0, 1] [0, 1] rfl rfl (by decide) (by decide) (by decide) rfl (by decide) (fun _ => vk_recv hSX.1.1 (i := 1) (by decide) hw.2.2) [.int (xPl - xSt)] rfl hl.1 rfl (Nat.le_of_ble_eq_true rfl) dX3_isName_18 ⟨by decide, by decide⟩ (fun H locs (hw : Wd D A s.heap H locs (wX3 k xh xrBy xaD xBy xLe xLi xFf xFp xPl xSo xSt xVa xDt xHo)) => ?_)
    refine W.eq (g2 := F0 m 21 ls (.int (nI (LENS.getD 1 0)) :: [.int (xPl - xSt)])) rfl ?_
    refine k_lit (y := 5) (by decide) ?_
    refine kb_icmp_eq (tgt := 26) hx hb dX3_isName_21 (by decide) h (fun c_21 h => ?_) (fun c_21 h => ?_)
    · refine lv_iconst (v := 0) hx hb dX3_isName_26 (by decide) ?_
      refine lv_istore_n (lv' := [(2, .int 0), (0, .ref xh), (1, .ref (aK 1))]) hx hb dX3_isName_27 rfl hl (by decide) rfl (fun ls hl => ?_)
      obtain ⟨ex_28, hL_28, hX_28⟩ := bs1_inv h
      clear h
      have X_28 : ex_28 = Sum.inr () → ∀ (H : Heap) (locs : List Loc) (ls : Array Slot), Wd D A s.heap H locs (wX3 k xh xrBy xaD xBy xLe xLi xFf xFp xPl xSo xSt xVa xDt xHo) → lv_has ls 3 [] → W p l e rmX3_isName_1 s m args below meth c H locs 0 0 Q (F0 m 63 ls []) := by
        intro  hex H locs ls hw hl
        subst hex
        have h := bs1_r hX_28
        refine lv_iconst (v := 1) hx hb dX3_isName_63 (by decide) ?_
        cases h
        exact k_zret hx hb hr hlocks hw (by decide) rfl dX3_isName_64 hQ
      have LP_28 : ∀ (n : Nat) (v2_1 : Int32), f_X3_isName_1_L28 xBy xSt n v2_1 = some ex_28 → ∀ (H : Heap) (locs : List Loc) (ls : Array Slot), Wd D A s.heap H locs (wX3 k xh xrBy xaD xBy xLe xLi xFf xFp xPl xSo xSt xVa xDt xHo) → lv_has ls 3 [(0, .ref xh), (1, .ref (aK 1)), (2, .int v2_1)] → W p l e rmX3_isName_1 s m args below meth c H locs 0 0 Q (F0 m 28 ls []) := by
        clear hL_28 hw hl
        intro n
        induction n with
        | zero => intro v2_1 h; rw [f_X3_isName_1_L28] at h; cases h
        | succ n ih =>
          intro v2_1 h H locs ls hw hl
          rw [f_X3_isName_1_L28] at h
          refine lv_iload_n hx hb dX3_isName_28 rfl (lv_at hl 2 rfl) ?_
          refine lv_aload_n hx hb dX3_isName_29 rfl (lv_at hl 1 rfl) ?_
          refine k_callVS fx hK hA hSX hw (c_J0_length aK aV 1 (by decide) l D k _) (cwV 0 hts gX3_isName_J0_length_8abf5 rfl rfl rfl (by decide +kernel) ⟨by decide, by decide⟩) (As := []) (wr := wX3 k xh xrBy xaD xBy xLe xLi xFf xFp xPl xSo xSt xVa xDt xHo) (ws' := wX3 k xh xrBy xaD xBy xLe xLi xFf xFp xPl xSo xSt xVa xDt xHo) [] [0, 1] [0, 1] rfl rfl (by decide) (by decide) (by decide) rfl (by decide) (fun _ => vk_recv hSX.1.1 (i := 1) (by decide) hw.2.2) [.int v2_1] rfl hl.1 rfl (Nat.le_of_ble_eq_true rfl) dX3_isName_30 ⟨by decide, by decide⟩ (fun H locs (hw : Wd D A s.heap H locs (wX3 k xh xrBy xaD xBy xLe xLi xFf xFp xPl xSo xSt xVa xDt xHo)) => ?_)
          refine W.eq (g2 := F0 m 33 ls (.int (nI (LENS.getD 1 0)) :: [.int v2_1])) rfl ?_
          refine k_lit (y := 5) (by decide) ?_
          refine kb_icmp_ge (tgt := 63) hx hb dX3_isName_33 (by decide) h (fun c_33 h => ?_) (fun c_33 h => ?_)
          · cases h
            exact X_28  rfl _ _ _ hw (lv_sub hl [] rfl)
          · refine lv_aload_n hx hb dX3_isName_36 rfl (lv_at hl 0 rfl) ?_
            refine va_get (ci := 3) (v := .ref xrBy) (C := RX3) (T := TX3) (N := 12) hx hb hts hinX3 hown hK.1 hw.1 0 rfl rfl 0 (by decide) q_4 (fun _ h9 => h9) rfl dX3_isName_37 ?_
            refine lv_aload_n hx hb dX3_isName_40 rfl (lv_at hl 0 rfl) ?_
            refine va_get (ci := 3) (v := .int xSt) (C := RX3) (T := TX3) (N := 12) hx hb hts hinX3 hown hK.1 hw.1 0 rfl rfl 8 (by decide) q_3 (fun _ h9 => h9) rfl dX3_isName_41 ?_
            refine lv_iload_n hx hb dX3_isName_44 rfl (lv_at hl 2 rfl) ?_
            refine lv_iadd hx hb dX3_isName_45 ?_
            refine k_iald hx hb hK hw 1 rfl dX3_isName_46 h (fun a_2 h => ?_)
            refine lv_aload_n hx hb dX3_isName_47 rfl (lv_at hl 1 rfl) ?_
            refine lv_iload_n hx hb dX3_isName_48 rfl (lv_at hl 2 rfl) ?_
            obtain ⟨c_3, hc, h⟩ := b1_inv h
            obtain ⟨hc1, hc2⟩ := rd_inv hc
            refine k_callVS fx hK hA hSX hw (c_J0_charAt aK aV 1 (by decide) v2_1 hc1 l D k _) (cwV 1 hts gX3_isName_J0_charAt_5068e rfl rfl rfl (by decide +kernel) ⟨by decide, by decide⟩) (As := [.int v2_1]) (wr := wX3 k xh xrBy xaD xBy xLe xLi xFf xFp xPl xSo xSt xVa xDt xHo) (ws' := wX3 k xh xrBy xaD xBy xLe xLi xFf xFp xPl xSo xSt xVa xDt xHo) [] [0, 1] [0, 1] rfl rfl (by decide) (by decide) (by decide) rfl (by decide) (fun _ => vk_recv hSX.1.1 (i := 1) (by decide) hw.2.2) [.int a_2] rfl hl.1 rfl (Nat.le_of_ble_eq_true rfl) dX3_isName_49 ⟨by decide, by decide⟩ (fun H locs (hw : Wd D A s.heap H locs (wX3 k xh xrBy xaD xBy xLe xLi xFf xFp xPl xSo xSt xVa xDt xHo)) => ?_)
            refine W.eq (g2 := F0 m 52 ls (.int (chS 1 v2_1.toNatClampNeg) :: [.int a_2])) rfl ?_
            refine k_lit hc2.symm ?_
            refine kb_icmp_eq (tgt := 57) hx hb dX3_isName_52 (by decide) h (fun c_52 h => ?_) (fun c_52 h => ?_)
            · refine lv_iinc (v := v2_1 + 1) (lv' := [(2, .int (v2_1 + 1)), (0, .ref xh), (1, .ref (aK 1))]) hx hb dX3_isName_57 hl (k := 2) rfl rfl (by decide) rfl (fun ls hl => ?_)
              refine lv_goto (tgt := 28) hx hb dX3_isName_60 (by decide) ?_
              exact ih _ h _ _ _ hw (lv_sub hl [1, 2, 0] rfl)
            · refine lv_iconst (v := 0) hx hb dX3_isName_55 (by decide) ?_
              cases h
              have h := bs1_l hX_28
              cases h
              exact k_zret hx hb hr hlocks hw (by decide) rfl dX3_isName_56 hQ
      exact LP_28 400 0 hL_28 _ _ _ hw (lv_sub hl [1, 2, 0] rfl)
    · refine lv_iconst (v := 0) hx hb dX3_isName_24 (by decide) ?_
      cases h
      exact k_zret hx hb hr hlocks hw (by decide) rfl dX3_isName_25 hQ
  · refine lv_iconst (v := 0) hx hb dX3_isName_24 (by decide) ?_
    cases h
    exact k_zret hx hb hr hlocks hw (by decide) rfl dX3_isName_25 hQ
abbrev rmX3_isName_2 : Room := { frames := 4, cells := 0, slots := 0, locals := 85 }
set_option maxHeartbeats 4000000 in
set_option maxRecDepth 100000 in
theorem c_X3_isName_2 (aK aV : Nat → Nat) (l : Launch) (D : va_G) (k : Nat → ClassId) (xh xrBy xaD : Nat) (sz : Nat) (xBy : (Nat → Int32)) (xLe : Int32) (xLi : Int32) (xFf : Int32) (xFp : Int32) (xPl : Int32) (xSo : Int32) (xSt : Int32) (xVa : Int32) (xDt : Int32) (xHo : Int32) (r_ : Int32) (hf : f_X3_isName_2 xBy xPl xSo xSt = some r_) : mS aK aV l yX3_isName wsX3_isName rmX3_isName_2 D k sz [.ref xh, .ref (aK 2)] (wX3 k xh xrBy xaD xBy xLe xLi xFf xFp xPl xSo xSt xVa xDt xHo) (wX3 k xh xrBy xaD xBy xLe xLi xFf xFp xPl xSo xSt xVa xDt xHo) (some (.int r_)) := by
  refine mS_of (cc := cX3_isName) (maxL := 3) (ret := some .boolean) (by decide) rfl (Nat.le_of_ble_eq_true rfl) [(0, .ref xh), (1, .ref (aK 2))] rfl ?_
  intro p e s m below meth c A ls args Q cx hK hA hw hl hQ hSX
  have fx := cx.1
  obtain ⟨⟨hx, hb, hml, hown, hts⟩, hr, hlocks⟩ := cx
  have hinX3 : ∀ w ∈ wsX30, w ∈ wsX3_isName := fun w h => List.mem_cons_of_mem _ (List.mem_append_right _ h)
  have q_1 := hts (.fieldLink RX3 52 "DebtRides$Reader" "sort" "I") (List.mem_of_getElem? (i := 1) rfl)
  have q_2 := hts (.fieldLink RX3 35 "DebtRides$Reader" "place" "I") (List.mem_of_getElem? (i := 2) rfl)
  have q_3 := hts (.fieldLink RX3 90 "DebtRides$Reader" "start" "I") (List.mem_of_getElem? (i := 3) rfl)
  have q_4 := hts (.fieldLink RX3 9 "DebtRides$Reader" "bytes" "[I") (List.mem_of_getElem? (i := 4) rfl)
  have h := hf
  unfold f_X3_isName_2 at h
  clear hf
  refine lv_aload_n hx hb dX3_isName_0 rfl (lv_at hl 0 rfl) ?_
  refine va_get (ci := 3) (v := .int xSo) (C := RX3) (T := TX3) (N := 12) hx hb hts hinX3 hown hK.1 hw.1 0 rfl rfl 7 (by decide) q_1 (fun _ h9 => h9) rfl dX3_isName_1 ?_
  refine lv_iconst (v := 1) hx hb dX3_isName_4 (by decide) ?_
  refine kb_icmp_ne (tgt := 24) hx hb dX3_isName_5 (by decide) h (fun c_5 h => ?_) (fun c_5 h => ?_)
  · refine lv_aload_n hx hb dX3_isName_8 rfl (lv_at hl 0 rfl) ?_
    refine va_get (ci := 3) (v := .int xPl) (C := RX3) (T := TX3) (N := 12) hx hb hts hinX3 hown hK.1 hw.1 0 rfl rfl 6 (by decide) q_2 (fun _ h9 => h9) rfl dX3_isName_9 ?_
    refine lv_aload_n hx hb dX3_isName_12 rfl (lv_at hl 0 rfl) ?_
    refine va_get (ci := 3) (v := .int xSt) (C := RX3) (T := TX3) (N := 12) hx hb hts hinX3 hown hK.1 hw.1 0 rfl rfl 8 (by decide) q_3 (fun _ h9 => h9) rfl dX3_isName_13 ?_
    refine lv_isub hx hb dX3_isName_16 ?_
    refine lv_aload_n hx hb dX3_isName_17 rfl (lv_at hl 1 rfl) ?_
    refine k_callVS fx hK hA hSX hw (c_J0_length aK aV 2 (by decide) l D k _) (cwV 0 hts gX3_isName_J0_length_8abf5 rfl rfl rfl (by decide +kernel) ⟨by decide, by decide⟩) (As := []) (wr := wX3 k xh xrBy xaD xBy xLe xLi xFf xFp xPl xSo xSt xVa xDt xHo) (ws' := wX3 k xh xrBy xaD xBy xLe xLi xFf xFp xPl xSo xSt xVa xDt xHo) [] [0, 1] [0, 1] rfl rfl (by decide) (by decide) (by decide) rfl (by decide) (fun _ => vk_recv hSX.1.1 (i := 2) (by decide) hw.2.2) [.int (xPl - xSt)] rfl hl.1 rfl (Nat.le_of_ble_eq_true rfl) dX3_isName_18 ⟨by decide, by decide⟩ (fun H locs (hw : Wd D A s.heap H locs (wX3 k xh xrBy xaD xBy xLe xLi xFf xFp xPl xSo xSt xVa xDt xHo)) => ?_)
    refine W.eq (g2 := F0 m 21 ls (.int (nI (LENS.getD 2 0)) :: [.int (xPl - xSt)])) rfl ?_
    refine k_lit (y := 6) (by decide) ?_
    refine kb_icmp_eq (tgt := 26) hx hb dX3_isName_21 (by decide) h (fun c_21 h => ?_) (fun c_21 h => ?_)
    · refine lv_iconst (v := 0) hx hb dX3_isName_26 (by decide) ?_
      refine lv_istore_n (lv' := [(2, .int 0), (0, .ref xh), (1, .ref (aK 2))]) hx hb dX3_isName_27 rfl hl (by decide) rfl (fun ls hl => ?_)
      obtain ⟨ex_28, hL_28, hX_28⟩ := bs1_inv h
      clear h
      have X_28 : ex_28 = Sum.inr () → ∀ (H : Heap) (locs : List Loc) (ls : Array Slot), Wd D A s.heap H locs (wX3 k xh xrBy xaD xBy xLe xLi xFf xFp xPl xSo xSt xVa xDt xHo) → lv_has ls 3 [] → W p l e rmX3_isName_2 s m args below meth c H locs 0 0 Q (F0 m 63 ls []) := by
        intro  hex H locs ls hw hl
        subst hex
        have h := bs1_r hX_28
        refine lv_iconst (v := 1) hx hb dX3_isName_63 (by decide) ?_
        cases h
        exact k_zret hx hb hr hlocks hw (by decide) rfl dX3_isName_64 hQ
      have LP_28 : ∀ (n : Nat) (v2_1 : Int32), f_X3_isName_2_L28 xBy xSt n v2_1 = some ex_28 → ∀ (H : Heap) (locs : List Loc) (ls : Array Slot), Wd D A s.heap H locs (wX3 k xh xrBy xaD xBy xLe xLi xFf xFp xPl xSo xSt xVa xDt xHo) → lv_has ls 3 [(0, .ref xh), (1, .ref (aK 2)), (2, .int v2_1)] → W p l e rmX3_isName_2 s m args below meth c H locs 0 0 Q (F0 m 28 ls []) := by
        clear hL_28 hw hl
        intro n
        induction n with
        | zero => intro v2_1 h; rw [f_X3_isName_2_L28] at h; cases h
        | succ n ih =>
          intro v2_1 h H locs ls hw hl
          rw [f_X3_isName_2_L28] at h
          refine lv_iload_n hx hb dX3_isName_28 rfl (lv_at hl 2 rfl) ?_
          refine lv_aload_n hx hb dX3_isName_29 rfl (lv_at hl 1 rfl) ?_
          refine k_callVS fx hK hA hSX hw (c_J0_length aK aV 2 (by decide) l D k _) (cwV 0 hts gX3_isName_J0_length_8abf5 rfl rfl rfl (by decide +kernel) ⟨by decide, by decide⟩) (As := []) (wr := wX3 k xh xrBy xaD xBy xLe xLi xFf xFp xPl xSo xSt xVa xDt xHo) (ws' := wX3 k xh xrBy xaD xBy xLe xLi xFf xFp xPl xSo xSt xVa xDt xHo) [] [0, 1] [0, 1] rfl rfl (by decide) (by decide) (by decide) rfl (by decide) (fun _ => vk_recv hSX.1.1 (i := 2) (by decide) hw.2.2) [.int v2_1] rfl hl.1 rfl (Nat.le_of_ble_eq_true rfl) dX3_isName_30 ⟨by decide, by decide⟩ (fun H locs (hw : Wd D A s.heap H locs (wX3 k xh xrBy xaD xBy xLe xLi xFf xFp xPl xSo xSt xVa xDt xHo)) => ?_)
          refine W.eq (g2 := F0 m 33 ls (.int (nI (LENS.getD 2 0)) :: [.int v2_1])) rfl ?_
          refine k_lit (y := 6) (by decide) ?_
          refine kb_icmp_ge (tgt := 63) hx hb dX3_isName_33 (by decide) h (fun c_33 h => ?_) (fun c_33 h => ?_)
          · cases h
            exact X_28  rfl _ _ _ hw (lv_sub hl [] rfl)
          · refine lv_aload_n hx hb dX3_isName_36 rfl (lv_at hl 0 rfl) ?_
            refine va_get (ci := 3) (v := .ref xrBy) (C := RX3) (T := TX3) (N := 12) hx hb hts hinX3 hown hK.1 hw.1 0 rfl rfl 0 (by decide) q_4 (fun _ h9 => h9) rfl dX3_isName_37 ?_
            refine lv_aload_n hx hb dX3_isName_40 rfl (lv_at hl 0 rfl) ?_
            refine va_get (ci := 3) (v := .int xSt) (C := RX3) (T := TX3) (N := 12) hx hb hts hinX3 hown hK.1 hw.1 0 rfl rfl 8 (by decide) q_3 (fun _ h9 => h9) rfl dX3_isName_41 ?_
            refine lv_iload_n hx hb dX3_isName_44 rfl (lv_at hl 2 rfl) ?_
            refine lv_iadd hx hb dX3_isName_45 ?_
            refine k_iald hx hb hK hw 1 rfl dX3_isName_46 h (fun a_2 h => ?_)
            refine lv_aload_n hx hb dX3_isName_47 rfl (lv_at hl 1 rfl) ?_
            refine lv_iload_n hx hb dX3_isName_48 rfl (lv_at hl 2 rfl) ?_
            obtain ⟨c_3, hc, h⟩ := b1_inv h
            obtain ⟨hc1, hc2⟩ := rd_inv hc
            refine k_callVS fx hK hA hSX hw (c_J0_charAt aK aV 2 (by decide) v2_1 hc1 l D k _) (cwV 1 hts gX3_isName_J0_charAt_5068e rfl rfl rfl (by decide +kernel) ⟨by decide, by decide⟩) (As := [.int v2_1]) (wr := wX3 k xh xrBy xaD xBy xLe xLi xFf xFp xPl xSo xSt xVa xDt xHo) (ws' := wX3 k xh xrBy xaD xBy xLe xLi xFf xFp xPl xSo xSt xVa xDt xHo) [] [0, 1] [0, 1] rfl rfl (by decide) (by decide) (by decide) rfl (by decide) (fun _ => vk_recv hSX.1.1 (i := 2) (by decide) hw.2.2) [.int a_2] rfl hl.1 rfl (Nat.le_of_ble_eq_true rfl) dX3_isName_49 ⟨by decide, by decide⟩ (fun H locs (hw : Wd D A s.heap H locs (wX3 k xh xrBy xaD xBy xLe xLi xFf xFp xPl xSo xSt xVa xDt xHo)) => ?_)
            refine W.eq (g2 := F0 m 52 ls (.int (chS 2 v2_1.toNatClampNeg) :: [.int a_2])) rfl ?_
            refine k_lit hc2.symm ?_
            refine kb_icmp_eq (tgt := 57) hx hb dX3_isName_52 (by decide) h (fun c_52 h => ?_) (fun c_52 h => ?_)
            · refine lv_iinc (v := v2_1 + 1) (lv' := [(2, .int (v2_1 + 1)), (0, .ref xh), (1, .ref (aK 2))]) hx hb dX3_isName_57 hl (k := 2) rfl rfl (by decide) rfl (fun ls hl => ?_)
              refine lv_goto (tgt := 28) hx hb dX3_isName_60 (by decide) ?_
              exact ih _ h _ _ _ hw (lv_sub hl [1, 2, 0] rfl)
            · refine lv_iconst (v := 0) hx hb dX3_isName_55 (by decide) ?_
              cases h
              have h := bs1_l hX_28
              cases h
              exact k_zret hx hb hr hlocks hw (by decide) rfl dX3_isName_56 hQ
      exact LP_28 400 0 hL_28 _ _ _ hw (lv_sub hl [1, 2, 0] rfl)
    · refine lv_iconst (v := 0) hx hb dX3_isName_24 (by decide) ?_
      cases h
      exact k_zret hx hb hr hlocks hw (by decide) rfl dX3_isName_25 hQ
  · refine lv_iconst (v := 0) hx hb dX3_isName_24 (by decide) ?_
    cases h
    exact k_zret hx hb hr hlocks hw (by decide) rfl dX3_isName_25 hQ
abbrev rmX3_isName_3 : Room := { frames := 4, cells := 0, slots := 0, locals := 85 }
set_option maxHeartbeats 4000000 in
set_option maxRecDepth 100000 in
theorem c_X3_isName_3 (aK aV : Nat → Nat) (l : Launch) (D : va_G) (k : Nat → ClassId) (xh xrBy xaD : Nat) (sz : Nat) (xBy : (Nat → Int32)) (xLe : Int32) (xLi : Int32) (xFf : Int32) (xFp : Int32) (xPl : Int32) (xSo : Int32) (xSt : Int32) (xVa : Int32) (xDt : Int32) (xHo : Int32) (r_ : Int32) (hf : f_X3_isName_3 xBy xPl xSo xSt = some r_) : mS aK aV l yX3_isName wsX3_isName rmX3_isName_3 D k sz [.ref xh, .ref (aK 3)] (wX3 k xh xrBy xaD xBy xLe xLi xFf xFp xPl xSo xSt xVa xDt xHo) (wX3 k xh xrBy xaD xBy xLe xLi xFf xFp xPl xSo xSt xVa xDt xHo) (some (.int r_)) := by
  refine mS_of (cc := cX3_isName) (maxL := 3) (ret := some .boolean) (by decide) rfl (Nat.le_of_ble_eq_true rfl) [(0, .ref xh), (1, .ref (aK 3))] rfl ?_
  intro p e s m below meth c A ls args Q cx hK hA hw hl hQ hSX
  have fx := cx.1
  obtain ⟨⟨hx, hb, hml, hown, hts⟩, hr, hlocks⟩ := cx
  have hinX3 : ∀ w ∈ wsX30, w ∈ wsX3_isName := fun w h => List.mem_cons_of_mem _ (List.mem_append_right _ h)
  have q_1 := hts (.fieldLink RX3 52 "DebtRides$Reader" "sort" "I") (List.mem_of_getElem? (i := 1) rfl)
  have q_2 := hts (.fieldLink RX3 35 "DebtRides$Reader" "place" "I") (List.mem_of_getElem? (i := 2) rfl)
  have q_3 := hts (.fieldLink RX3 90 "DebtRides$Reader" "start" "I") (List.mem_of_getElem? (i := 3) rfl)
  have q_4 := hts (.fieldLink RX3 9 "DebtRides$Reader" "bytes" "[I") (List.mem_of_getElem? (i := 4) rfl)
  have h := hf
  unfold f_X3_isName_3 at h
  clear hf
  refine lv_aload_n hx hb dX3_isName_0 rfl (lv_at hl 0 rfl) ?_
  refine va_get (ci := 3) (v := .int xSo) (C := RX3) (T := TX3) (N := 12) hx hb hts hinX3 hown hK.1 hw.1 0 rfl rfl 7 (by decide) q_1 (fun _ h9 => h9) rfl dX3_isName_1 ?_
  refine lv_iconst (v := 1) hx hb dX3_isName_4 (by decide) ?_
  refine kb_icmp_ne (tgt := 24) hx hb dX3_isName_5 (by decide) h (fun c_5 h => ?_) (fun c_5 h => ?_)
  · refine lv_aload_n hx hb dX3_isName_8 rfl (lv_at hl 0 rfl) ?_
    refine va_get (ci := 3) (v := .int xPl) (C := RX3) (T := TX3) (N := 12) hx hb hts hinX3 hown hK.1 hw.1 0 rfl rfl 6 (by decide) q_2 (fun _ h9 => h9) rfl dX3_isName_9 ?_
    refine lv_aload_n hx hb dX3_isName_12 rfl (lv_at hl 0 rfl) ?_
    refine va_get (ci := 3) (v := .int xSt) (C := RX3) (T := TX3) (N := 12) hx hb hts hinX3 hown hK.1 hw.1 0 rfl rfl 8 (by decide) q_3 (fun _ h9 => h9) rfl dX3_isName_13 ?_
    refine lv_isub hx hb dX3_isName_16 ?_
    refine lv_aload_n hx hb dX3_isName_17 rfl (lv_at hl 1 rfl) ?_
    refine k_callVS fx hK hA hSX hw (c_J0_length aK aV 3 (by decide) l D k _) (cwV 0 hts gX3_isName_J0_length_8abf5 rfl rfl rfl (by decide +kernel) ⟨by decide, by decide⟩) (As := []) (wr := wX3 k xh xrBy xaD xBy xLe xLi xFf xFp xPl xSo xSt xVa xDt xHo) (ws' := wX3 k xh xrBy xaD xBy xLe xLi xFf xFp xPl xSo xSt xVa xDt xHo) [] [0, 1] [0, 1] rfl rfl (by decide) (by decide) (by decide) rfl (by decide) (fun _ => vk_recv hSX.1.1 (i := 3) (by decide) hw.2.2) [.int (xPl - xSt)] rfl hl.1 rfl (Nat.le_of_ble_eq_true rfl) dX3_isName_18 ⟨by decide, by decide⟩ (fun H locs (hw : Wd D A s.heap H locs (wX3 k xh xrBy xaD xBy xLe xLi xFf xFp xPl xSo xSt xVa xDt xHo)) => ?_)
    refine W.eq (g2 := F0 m 21 ls (.int (nI (LENS.getD 3 0)) :: [.int (xPl - xSt)])) rfl ?_
    refine k_lit (y := 5) (by decide) ?_
    refine kb_icmp_eq (tgt := 26) hx hb dX3_isName_21 (by decide) h (fun c_21 h => ?_) (fun c_21 h => ?_)
    · refine lv_iconst (v := 0) hx hb dX3_isName_26 (by decide) ?_
      refine lv_istore_n (lv' := [(2, .int 0), (0, .ref xh), (1, .ref (aK 3))]) hx hb dX3_isName_27 rfl hl (by decide) rfl (fun ls hl => ?_)
      obtain ⟨ex_28, hL_28, hX_28⟩ := bs1_inv h
      clear h
      have X_28 : ex_28 = Sum.inr () → ∀ (H : Heap) (locs : List Loc) (ls : Array Slot), Wd D A s.heap H locs (wX3 k xh xrBy xaD xBy xLe xLi xFf xFp xPl xSo xSt xVa xDt xHo) → lv_has ls 3 [] → W p l e rmX3_isName_3 s m args below meth c H locs 0 0 Q (F0 m 63 ls []) := by
        intro  hex H locs ls hw hl
        subst hex
        have h := bs1_r hX_28
        refine lv_iconst (v := 1) hx hb dX3_isName_63 (by decide) ?_
        cases h
        exact k_zret hx hb hr hlocks hw (by decide) rfl dX3_isName_64 hQ
      have LP_28 : ∀ (n : Nat) (v2_1 : Int32), f_X3_isName_3_L28 xBy xSt n v2_1 = some ex_28 → ∀ (H : Heap) (locs : List Loc) (ls : Array Slot), Wd D A s.heap H locs (wX3 k xh xrBy xaD xBy xLe xLi xFf xFp xPl xSo xSt xVa xDt xHo) → lv_has ls 3 [(0, .ref xh), (1, .ref (aK 3)), (2, .int v2_1)] → W p l e rmX3_isName_3 s m args below meth c H locs 0 0 Q (F0 m 28 ls []) := by
        clear hL_28 hw hl
        intro n
        induction n with
        | zero => intro v2_1 h; rw [f_X3_isName_3_L28] at h; cases h
        | succ n ih =>
          intro v2_1 h H locs ls hw hl
          rw [f_X3_isName_3_L28] at h
          refine lv_iload_n hx hb dX3_isName_28 rfl (lv_at hl 2 rfl) ?_
          refine lv_aload_n hx hb dX3_isName_29 rfl (lv_at hl 1 rfl) ?_
          refine k_callVS fx hK hA hSX hw (c_J0_length aK aV 3 (by decide) l D k _) (cwV 0 hts gX3_isName_J0_length_8abf5 rfl rfl rfl (by decide +kernel) ⟨by decide, by decide⟩) (As := []) (wr := wX3 k xh xrBy xaD xBy xLe xLi xFf xFp xPl xSo xSt xVa xDt xHo) (ws' := wX3 k xh xrBy xaD xBy xLe xLi xFf xFp xPl xSo xSt xVa xDt xHo) [] [0, 1] [0, 1] rfl rfl (by decide) (by decide) (by decide) rfl (by decide) (fun _ => vk_recv hSX.1.1 (i := 3) (by decide) hw.2.2) [.int v2_1] rfl hl.1 rfl (Nat.le_of_ble_eq_true rfl) dX3_isName_30 ⟨by decide, by decide⟩ (fun H locs (hw : Wd D A s.heap H locs (wX3 k xh xrBy xaD xBy xLe xLi xFf xFp xPl xSo xSt xVa xDt xHo)) => ?_)
          refine W.eq (g2 := F0 m 33 ls (.int (nI (LENS.getD 3 0)) :: [.int v2_1])) rfl ?_
          refine k_lit (y := 5) (by decide) ?_
          refine kb_icmp_ge (tgt := 63) hx hb dX3_isName_33 (by decide) h (fun c_33 h => ?_) (fun c_33 h => ?_)
          · cases h
            exact X_28  rfl _ _ _ hw (lv_sub hl [] rfl)
          · refine lv_aload_n hx hb dX3_isName_36 rfl (lv_at hl 0 rfl) ?_
            refine va_get (ci := 3) (v := .ref xrBy) (C := RX3) (T := TX3) (N := 12) hx hb hts hinX3 hown hK.1 hw.1 0 rfl rfl 0 (by decide) q_4 (fun _ h9 => h9) rfl dX3_isName_37 ?_
            refine lv_aload_n hx hb dX3_isName_40 rfl (lv_at hl 0 rfl) ?_
            refine va_get (ci := 3) (v := .int xSt) (C := RX3) (T := TX3) (N := 12) hx hb hts hinX3 hown hK.1 hw.1 0 rfl rfl 8 (by decide) q_3 (fun _ h9 => h9) rfl dX3_isName_41 ?_
            refine lv_iload_n hx hb dX3_isName_44 rfl (lv_at hl 2 rfl) ?_
            refine lv_iadd hx hb dX3_isName_45 ?_
            refine k_iald hx hb hK hw 1 rfl dX3_isName_46 h (fun a_2 h => ?_)
            refine lv_aload_n hx hb dX3_isName_47 rfl (lv_at hl 1 rfl) ?_
            refine lv_iload_n hx hb dX3_isName_48 rfl (lv_at hl 2 rfl) ?_
            obtain ⟨c_3, hc, h⟩ := b1_inv h
            obtain ⟨hc1, hc2⟩ := rd_inv hc
            refine k_callVS fx hK hA hSX hw (c_J0_charAt aK aV 3 (by decide) v2_1 hc1 l D k _) (cwV 1 hts gX3_isName_J0_charAt_5068e rfl rfl rfl (by decide +kernel) ⟨by decide, by decide⟩) (As := [.int v2_1]) (wr := wX3 k xh xrBy xaD xBy xLe xLi xFf xFp xPl xSo xSt xVa xDt xHo) (ws' := wX3 k xh xrBy xaD xBy xLe xLi xFf xFp xPl xSo xSt xVa xDt xHo) [] [0, 1] [0, 1] rfl rfl (by decide) (by decide) (by decide) rfl (by decide) (fun _ => vk_recv hSX.1.1 (i := 3) (by decide) hw.2.2) [.int a_2] rfl hl.1 rfl (Nat.le_of_ble_eq_true rfl) dX3_isName_49 ⟨by decide, by decide⟩ (fun H locs (hw : Wd D A s.heap H locs (wX3 k xh xrBy xaD xBy xLe xLi xFf xFp xPl xSo xSt xVa xDt xHo)) => ?_)
            refine W.eq (g2 := F0 m 52 ls (.int (chS 3 v2_1.toNatClampNeg) :: [.int a_2])) rfl ?_
            refine k_lit hc2.symm ?_
            refine kb_icmp_eq (tgt := 57) hx hb dX3_isName_52 (by decide) h (fun c_52 h => ?_) (fun c_52 h => ?_)
            · refine lv_iinc (v := v2_1 + 1) (lv' := [(2, .int (v2_1 + 1)), (0, .ref xh), (1, .ref (aK 3))]) hx hb dX3_isName_57 hl (k := 2) rfl rfl (by decide) rfl (fun ls hl => ?_)
              refine lv_goto (tgt := 28) hx hb dX3_isName_60 (by decide) ?_
              exact ih _ h _ _ _ hw (lv_sub hl [1, 2, 0] rfl)
            · refine lv_iconst (v := 0) hx hb dX3_isName_55 (by decide) ?_
              cases h
              have h := bs1_l hX_28
              cases h
              exact k_zret hx hb hr hlocks hw (by decide) rfl dX3_isName_56 hQ
      exact LP_28 400 0 hL_28 _ _ _ hw (lv_sub hl [1, 2, 0] rfl)
    · refine lv_iconst (v := 0) hx hb dX3_isName_24 (by decide) ?_
      cases h
      exact k_zret hx hb hr hlocks hw (by decide) rfl dX3_isName_25 hQ
  · refine lv_iconst (v := 0) hx hb dX3_isName_24 (by decide) ?_
    cases h
    exact k_zret hx hb hr hlocks hw (by decide) rfl dX3_isName_25 hQ
abbrev rmX3_isName_4 : Room := { frames := 4, cells := 0, slots := 0, locals := 85 }
set_option maxHeartbeats 4000000 in
set_option maxRecDepth 100000 in
theorem c_X3_isName_4 (aK aV : Nat → Nat) (l : Launch) (D : va_G) (k : Nat → ClassId) (xh xrBy xaD : Nat) (sz : Nat) (xBy : (Nat → Int32)) (xLe : Int32) (xLi : Int32) (xFf : Int32) (xFp : Int32) (xPl : Int32) (xSo : Int32) (xSt : Int32) (xVa : Int32) (xDt : Int32) (xHo : Int32) (r_ : Int32) (hf : f_X3_isName_4 xBy xPl xSo xSt = some r_) : mS aK aV l yX3_isName wsX3_isName rmX3_isName_4 D k sz [.ref xh, .ref (aK 4)] (wX3 k xh xrBy xaD xBy xLe xLi xFf xFp xPl xSo xSt xVa xDt xHo) (wX3 k xh xrBy xaD xBy xLe xLi xFf xFp xPl xSo xSt xVa xDt xHo) (some (.int r_)) := by
  refine mS_of (cc := cX3_isName) (maxL := 3) (ret := some .boolean) (by decide) rfl (Nat.le_of_ble_eq_true rfl) [(0, .ref xh), (1, .ref (aK 4))] rfl ?_
  intro p e s m below meth c A ls args Q cx hK hA hw hl hQ hSX
  have fx := cx.1
  obtain ⟨⟨hx, hb, hml, hown, hts⟩, hr, hlocks⟩ := cx
  have hinX3 : ∀ w ∈ wsX30, w ∈ wsX3_isName := fun w h => List.mem_cons_of_mem _ (List.mem_append_right _ h)
  have q_1 := hts (.fieldLink RX3 52 "DebtRides$Reader" "sort" "I") (List.mem_of_getElem? (i := 1) rfl)
  have q_2 := hts (.fieldLink RX3 35 "DebtRides$Reader" "place" "I") (List.mem_of_getElem? (i := 2) rfl)
  have q_3 := hts (.fieldLink RX3 90 "DebtRides$Reader" "start" "I") (List.mem_of_getElem? (i := 3) rfl)
  have q_4 := hts (.fieldLink RX3 9 "DebtRides$Reader" "bytes" "[I") (List.mem_of_getElem? (i := 4) rfl)
  have h := hf
  unfold f_X3_isName_4 at h
  clear hf
  refine lv_aload_n hx hb dX3_isName_0 rfl (lv_at hl 0 rfl) ?_
  refine va_get (ci := 3) (v := .int xSo) (C := RX3) (T := TX3) (N := 12) hx hb hts hinX3 hown hK.1 hw.1 0 rfl rfl 7 (by decide) q_1 (fun _ h9 => h9) rfl dX3_isName_1 ?_
  refine lv_iconst (v := 1) hx hb dX3_isName_4 (by decide) ?_
  refine kb_icmp_ne (tgt := 24) hx hb dX3_isName_5 (by decide) h (fun c_5 h => ?_) (fun c_5 h => ?_)
  · refine lv_aload_n hx hb dX3_isName_8 rfl (lv_at hl 0 rfl) ?_
    refine va_get (ci := 3) (v := .int xPl) (C := RX3) (T := TX3) (N := 12) hx hb hts hinX3 hown hK.1 hw.1 0 rfl rfl 6 (by decide) q_2 (fun _ h9 => h9) rfl dX3_isName_9 ?_
    refine lv_aload_n hx hb dX3_isName_12 rfl (lv_at hl 0 rfl) ?_
    refine va_get (ci := 3) (v := .int xSt) (C := RX3) (T := TX3) (N := 12) hx hb hts hinX3 hown hK.1 hw.1 0 rfl rfl 8 (by decide) q_3 (fun _ h9 => h9) rfl dX3_isName_13 ?_
    refine lv_isub hx hb dX3_isName_16 ?_
    refine lv_aload_n hx hb dX3_isName_17 rfl (lv_at hl 1 rfl) ?_
    refine k_callVS fx hK hA hSX hw (c_J0_length aK aV 4 (by decide) l D k _) (cwV 0 hts gX3_isName_J0_length_8abf5 rfl rfl rfl (by decide +kernel) ⟨by decide, by decide⟩) (As := []) (wr := wX3 k xh xrBy xaD xBy xLe xLi xFf xFp xPl xSo xSt xVa xDt xHo) (ws' := wX3 k xh xrBy xaD xBy xLe xLi xFf xFp xPl xSo xSt xVa xDt xHo) [] [0, 1] [0, 1] rfl rfl (by decide) (by decide) (by decide) rfl (by decide) (fun _ => vk_recv hSX.1.1 (i := 4) (by decide) hw.2.2) [.int (xPl - xSt)] rfl hl.1 rfl (Nat.le_of_ble_eq_true rfl) dX3_isName_18 ⟨by decide, by decide⟩ (fun H locs (hw : Wd D A s.heap H locs (wX3 k xh xrBy xaD xBy xLe xLi xFf xFp xPl xSo xSt xVa xDt xHo)) => ?_)
    refine W.eq (g2 := F0 m 21 ls (.int (nI (LENS.getD 4 0)) :: [.int (xPl - xSt)])) rfl ?_
    refine k_lit (y := 4) (by decide) ?_
    refine kb_icmp_eq (tgt := 26) hx hb dX3_isName_21 (by decide) h (fun c_21 h => ?_) (fun c_21 h => ?_)
    · refine lv_iconst (v := 0) hx hb dX3_isName_26 (by decide) ?_
      refine lv_istore_n (lv' := [(2, .int 0), (0, .ref xh), (1, .ref (aK 4))]) hx hb dX3_isName_27 rfl hl (by decide) rfl (fun ls hl => ?_)
      obtain ⟨ex_28, hL_28, hX_28⟩ := bs1_inv h
      clear h
      have X_28 : ex_28 = Sum.inr () → ∀ (H : Heap) (locs : List Loc) (ls : Array Slot), Wd D A s.heap H locs (wX3 k xh xrBy xaD xBy xLe xLi xFf xFp xPl xSo xSt xVa xDt xHo) → lv_has ls 3 [] → W p l e rmX3_isName_4 s m args below meth c H locs 0 0 Q (F0 m 63 ls []) := by
        intro  hex H locs ls hw hl
        subst hex
        have h := bs1_r hX_28
        refine lv_iconst (v := 1) hx hb dX3_isName_63 (by decide) ?_
        cases h
        exact k_zret hx hb hr hlocks hw (by decide) rfl dX3_isName_64 hQ
      have LP_28 : ∀ (n : Nat) (v2_1 : Int32), f_X3_isName_4_L28 xBy xSt n v2_1 = some ex_28 → ∀ (H : Heap) (locs : List Loc) (ls : Array Slot), Wd D A s.heap H locs (wX3 k xh xrBy xaD xBy xLe xLi xFf xFp xPl xSo xSt xVa xDt xHo) → lv_has ls 3 [(0, .ref xh), (1, .ref (aK 4)), (2, .int v2_1)] → W p l e rmX3_isName_4 s m args below meth c H locs 0 0 Q (F0 m 28 ls []) := by
        clear hL_28 hw hl
        intro n
        induction n with
        | zero => intro v2_1 h; rw [f_X3_isName_4_L28] at h; cases h
        | succ n ih =>
          intro v2_1 h H locs ls hw hl
          rw [f_X3_isName_4_L28] at h
          refine lv_iload_n hx hb dX3_isName_28 rfl (lv_at hl 2 rfl) ?_
          refine lv_aload_n hx hb dX3_isName_29 rfl (lv_at hl 1 rfl) ?_
          refine k_callVS fx hK hA hSX hw (c_J0_length aK aV 4 (by decide) l D k _) (cwV 0 hts gX3_isName_J0_length_8abf5 rfl rfl rfl (by decide +kernel) ⟨by decide, by decide⟩) (As := []) (wr := wX3 k xh xrBy xaD xBy xLe xLi xFf xFp xPl xSo xSt xVa xDt xHo) (ws' := wX3 k xh xrBy xaD xBy xLe xLi xFf xFp xPl xSo xSt xVa xDt xHo) [] [0, 1] [0, 1] rfl rfl (by decide) (by decide) (by decide) rfl (by decide) (fun _ => vk_recv hSX.1.1 (i := 4) (by decide) hw.2.2) [.int v2_1] rfl hl.1 rfl (Nat.le_of_ble_eq_true rfl) dX3_isName_30 ⟨by decide, by decide⟩ (fun H locs (hw : Wd D A s.heap H locs (wX3 k xh xrBy xaD xBy xLe xLi xFf xFp xPl xSo xSt xVa xDt xHo)) => ?_)
          refine W.eq (g2 := F0 m 33 ls (.int (nI (LENS.getD 4 0)) :: [.int v2_1])) rfl ?_
          refine k_lit (y := 4) (by decide) ?_
          refine kb_icmp_ge (tgt := 63) hx hb dX3_isName_33 (by decide) h (fun c_33 h => ?_) (fun c_33 h => ?_)
          · cases h
            exact X_28  rfl _ _ _ hw (lv_sub hl [] rfl)
          · refine lv_aload_n hx hb dX3_isName_36 rfl (lv_at hl 0 rfl) ?_
            refine va_get (ci := 3) (v := .ref xrBy) (C := RX3) (T := TX3) (N := 12) hx hb hts hinX3 hown hK.1 hw.1 0 rfl rfl 0 (by decide) q_4 (fun _ h9 => h9) rfl dX3_isName_37 ?_
            refine lv_aload_n hx hb dX3_isName_40 rfl (lv_at hl 0 rfl) ?_
            refine va_get (ci := 3) (v := .int xSt) (C := RX3) (T := TX3) (N := 12) hx hb hts hinX3 hown hK.1 hw.1 0 rfl rfl 8 (by decide) q_3 (fun _ h9 => h9) rfl dX3_isName_41 ?_
            refine lv_iload_n hx hb dX3_isName_44 rfl (lv_at hl 2 rfl) ?_
            refine lv_iadd hx hb dX3_isName_45 ?_
            refine k_iald hx hb hK hw 1 rfl dX3_isName_46 h (fun a_2 h => ?_)
            refine lv_aload_n hx hb dX3_isName_47 rfl (lv_at hl 1 rfl) ?_
            refine lv_iload_n hx hb dX3_isName_48 rfl (lv_at hl 2 rfl) ?_
            obtain ⟨c_3, hc, h⟩ := b1_inv h
            obtain ⟨hc1, hc2⟩ := rd_inv hc
            refine k_callVS fx hK hA hSX hw (c_J0_charAt aK aV 4 (by decide) v2_1 hc1 l D k _) (cwV 1 hts gX3_isName_J0_charAt_5068e rfl rfl rfl (by decide +kernel) ⟨by decide, by decide⟩) (As := [.int v2_1]) (wr := wX3 k xh xrBy xaD xBy xLe xLi xFf xFp xPl xSo xSt xVa xDt xHo) (ws' := wX3 k xh xrBy xaD xBy xLe xLi xFf xFp xPl xSo xSt xVa xDt xHo) [] [0, 1] [0, 1] rfl rfl (by decide) (by decide) (by decide) rfl (by decide) (fun _ => vk_recv hSX.1.1 (i := 4) (by decide) hw.2.2) [.int a_2] rfl hl.1 rfl (Nat.le_of_ble_eq_true rfl) dX3_isName_49 ⟨by decide, by decide⟩ (fun H locs (hw : Wd D A s.heap H locs (wX3 k xh xrBy xaD xBy xLe xLi xFf xFp xPl xSo xSt xVa xDt xHo)) => ?_)
            refine W.eq (g2 := F0 m 52 ls (.int (chS 4 v2_1.toNatClampNeg) :: [.int a_2])) rfl ?_
            refine k_lit hc2.symm ?_
            refine kb_icmp_eq (tgt := 57) hx hb dX3_isName_52 (by decide) h (fun c_52 h => ?_) (fun c_52 h => ?_)
            · refine lv_iinc (v := v2_1 + 1) (lv' := [(2, .int (v2_1 + 1)), (0, .ref xh), (1, .ref (aK 4))]) hx hb dX3_isName_57 hl (k := 2) rfl rfl (by decide) rfl (fun ls hl => ?_)
              refine lv_goto (tgt := 28) hx hb dX3_isName_60 (by decide) ?_
              exact ih _ h _ _ _ hw (lv_sub hl [1, 2, 0] rfl)
            · refine lv_iconst (v := 0) hx hb dX3_isName_55 (by decide) ?_
              cases h
              have h := bs1_l hX_28
              cases h
              exact k_zret hx hb hr hlocks hw (by decide) rfl dX3_isName_56 hQ
      exact LP_28 400 0 hL_28 _ _ _ hw (lv_sub hl [1, 2, 0] rfl)
    · refine lv_iconst (v := 0) hx hb dX3_isName_24 (by decide) ?_
      cases h
      exact k_zret hx hb hr hlocks hw (by decide) rfl dX3_isName_25 hQ
  · refine lv_iconst (v := 0) hx hb dX3_isName_24 (by decide) ?_
    cases h
    exact k_zret hx hb hr hlocks hw (by decide) rfl dX3_isName_25 hQ
abbrev rmX3_isName_5 : Room := { frames := 4, cells := 0, slots := 0, locals := 85 }
set_option maxHeartbeats 4000000 in
set_option maxRecDepth 100000 in
theorem c_X3_isName_5 (aK aV : Nat → Nat) (l : Launch) (D : va_G) (k : Nat → ClassId) (xh xrBy xaD : Nat) (sz : Nat) (xBy : (Nat → Int32)) (xLe : Int32) (xLi : Int32) (xFf : Int32) (xFp : Int32) (xPl : Int32) (xSo : Int32) (xSt : Int32) (xVa : Int32) (xDt : Int32) (xHo : Int32) (r_ : Int32) (hf : f_X3_isName_5 xBy xPl xSo xSt = some r_) : mS aK aV l yX3_isName wsX3_isName rmX3_isName_5 D k sz [.ref xh, .ref (aK 5)] (wX3 k xh xrBy xaD xBy xLe xLi xFf xFp xPl xSo xSt xVa xDt xHo) (wX3 k xh xrBy xaD xBy xLe xLi xFf xFp xPl xSo xSt xVa xDt xHo) (some (.int r_)) := by
  refine mS_of (cc := cX3_isName) (maxL := 3) (ret := some .boolean) (by decide) rfl (Nat.le_of_ble_eq_true rfl) [(0, .ref xh), (1, .ref (aK 5))] rfl ?_
  intro p e s m below meth c A ls args Q cx hK hA hw hl hQ hSX
  have fx := cx.1
  obtain ⟨⟨hx, hb, hml, hown, hts⟩, hr, hlocks⟩ := cx
  have hinX3 : ∀ w ∈ wsX30, w ∈ wsX3_isName := fun w h => List.mem_cons_of_mem _ (List.mem_append_right _ h)
  have q_1 := hts (.fieldLink RX3 52 "DebtRides$Reader" "sort" "I") (List.mem_of_getElem? (i := 1) rfl)
  have q_2 := hts (.fieldLink RX3 35 "DebtRides$Reader" "place" "I") (List.mem_of_getElem? (i := 2) rfl)
  have q_3 := hts (.fieldLink RX3 90 "DebtRides$Reader" "start" "I") (List.mem_of_getElem? (i := 3) rfl)
  have q_4 := hts (.fieldLink RX3 9 "DebtRides$Reader" "bytes" "[I") (List.mem_of_getElem? (i := 4) rfl)
  have h := hf
  unfold f_X3_isName_5 at h
  clear hf
  refine lv_aload_n hx hb dX3_isName_0 rfl (lv_at hl 0 rfl) ?_
  refine va_get (ci := 3) (v := .int xSo) (C := RX3) (T := TX3) (N := 12) hx hb hts hinX3 hown hK.1 hw.1 0 rfl rfl 7 (by decide) q_1 (fun _ h9 => h9) rfl dX3_isName_1 ?_
  refine lv_iconst (v := 1) hx hb dX3_isName_4 (by decide) ?_
  refine kb_icmp_ne (tgt := 24) hx hb dX3_isName_5 (by decide) h (fun c_5 h => ?_) (fun c_5 h => ?_)
  · refine lv_aload_n hx hb dX3_isName_8 rfl (lv_at hl 0 rfl) ?_
    refine va_get (ci := 3) (v := .int xPl) (C := RX3) (T := TX3) (N := 12) hx hb hts hinX3 hown hK.1 hw.1 0 rfl rfl 6 (by decide) q_2 (fun _ h9 => h9) rfl dX3_isName_9 ?_
    refine lv_aload_n hx hb dX3_isName_12 rfl (lv_at hl 0 rfl) ?_
    refine va_get (ci := 3) (v := .int xSt) (C := RX3) (T := TX3) (N := 12) hx hb hts hinX3 hown hK.1 hw.1 0 rfl rfl 8 (by decide) q_3 (fun _ h9 => h9) rfl dX3_isName_13 ?_
    refine lv_isub hx hb dX3_isName_16 ?_
    refine lv_aload_n hx hb dX3_isName_17 rfl (lv_at hl 1 rfl) ?_
    refine k_callVS fx hK hA hSX hw (c_J0_length aK aV 5 (by decide) l D k _) (cwV 0 hts gX3_isName_J0_length_8abf5 rfl rfl rfl (by decide +kernel) ⟨by decide, by decide⟩) (As := []) (wr := wX3 k xh xrBy xaD xBy xLe xLi xFf xFp xPl xSo xSt xVa xDt xHo) (ws' := wX3 k xh xrBy xaD xBy xLe xLi xFf xFp xPl xSo xSt xVa xDt xHo) [] [0, 1] [0, 1] rfl rfl (by decide) (by decide) (by decide) rfl (by decide) (fun _ => vk_recv hSX.1.1 (i := 5) (by decide) hw.2.2) [.int (xPl - xSt)] rfl hl.1 rfl (Nat.le_of_ble_eq_true rfl) dX3_isName_18 ⟨by decide, by decide⟩ (fun H locs (hw : Wd D A s.heap H locs (wX3 k xh xrBy xaD xBy xLe xLi xFf xFp xPl xSo xSt xVa xDt xHo)) => ?_)
    refine W.eq (g2 := F0 m 21 ls (.int (nI (LENS.getD 5 0)) :: [.int (xPl - xSt)])) rfl ?_
    refine k_lit (y := 3) (by decide) ?_
    refine kb_icmp_eq (tgt := 26) hx hb dX3_isName_21 (by decide) h (fun c_21 h => ?_) (fun c_21 h => ?_)
    · refine lv_iconst (v := 0) hx hb dX3_isName_26 (by decide) ?_
      refine lv_istore_n (lv' := [(2, .int 0), (0, .ref xh), (1, .ref (aK 5))]) hx hb dX3_isName_27 rfl hl (by decide) rfl (fun ls hl => ?_)
      obtain ⟨ex_28, hL_28, hX_28⟩ := bs1_inv h
      clear h
      have X_28 : ex_28 = Sum.inr () → ∀ (H : Heap) (locs : List Loc) (ls : Array Slot), Wd D A s.heap H locs (wX3 k xh xrBy xaD xBy xLe xLi xFf xFp xPl xSo xSt xVa xDt xHo) → lv_has ls 3 [] → W p l e rmX3_isName_5 s m args below meth c H locs 0 0 Q (F0 m 63 ls []) := by
        intro  hex H locs ls hw hl
        subst hex
        have h := bs1_r hX_28
        refine lv_iconst (v := 1) hx hb dX3_isName_63 (by decide) ?_
        cases h
        exact k_zret hx hb hr hlocks hw (by decide) rfl dX3_isName_64 hQ
      have LP_28 : ∀ (n : Nat) (v2_1 : Int32), f_X3_isName_5_L28 xBy xSt n v2_1 = some ex_28 → ∀ (H : Heap) (locs : List Loc) (ls : Array Slot), Wd D A s.heap H locs (wX3 k xh xrBy xaD xBy xLe xLi xFf xFp xPl xSo xSt xVa xDt xHo) → lv_has ls 3 [(0, .ref xh), (1, .ref (aK 5)), (2, .int v2_1)] → W p l e rmX3_isName_5 s m args below meth c H locs 0 0 Q (F0 m 28 ls []) := by
        clear hL_28 hw hl
        intro n
        induction n with
        | zero => intro v2_1 h; rw [f_X3_isName_5_L28] at h; cases h
        | succ n ih =>
          intro v2_1 h H locs ls hw hl
          rw [f_X3_isName_5_L28] at h
          refine lv_iload_n hx hb dX3_isName_28 rfl (lv_at hl 2 rfl) ?_
          refine lv_aload_n hx hb dX3_isName_29 rfl (lv_at hl 1 rfl) ?_
          refine k_callVS fx hK hA hSX hw (c_J0_length aK aV 5 (by decide) l D k _) (cwV 0 hts gX3_isName_J0_length_8abf5 rfl rfl rfl (by decide +kernel) ⟨by decide, by decide⟩) (As := []) (wr := wX3 k xh xrBy xaD xBy xLe xLi xFf xFp xPl xSo xSt xVa xDt xHo) (ws' := wX3 k xh xrBy xaD xBy xLe xLi xFf xFp xPl xSo xSt xVa xDt xHo) [] [0, 1] [0, 1] rfl rfl (by decide) (by decide) (by decide) rfl (by decide) (fun _ => vk_recv hSX.1.1 (i := 5) (by decide) hw.2.2) [.int v2_1] rfl hl.1 rfl (Nat.le_of_ble_eq_true rfl) dX3_isName_30 ⟨by decide, by decide⟩ (fun H locs (hw : Wd D A s.heap H locs (wX3 k xh xrBy xaD xBy xLe xLi xFf xFp xPl xSo xSt xVa xDt xHo)) => ?_)
          refine W.eq (g2 := F0 m 33 ls (.int (nI (LENS.getD 5 0)) :: [.int v2_1])) rfl ?_
          refine k_lit (y := 3) (by decide) ?_
          refine kb_icmp_ge (tgt := 63) hx hb dX3_isName_33 (by decide) h (fun c_33 h => ?_) (fun c_33 h => ?_)
          · cases h
            exact X_28  rfl _ _ _ hw (lv_sub hl [] rfl)
          · refine lv_aload_n hx hb dX3_isName_36 rfl (lv_at hl 0 rfl) ?_
            refine va_get (ci := 3) (v := .ref xrBy) (C := RX3) (T := TX3) (N := 12) hx hb hts hinX3 hown hK.1 hw.1 0 rfl rfl 0 (by decide) q_4 (fun _ h9 => h9) rfl dX3_isName_37 ?_
            refine lv_aload_n hx hb dX3_isName_40 rfl (lv_at hl 0 rfl) ?_
            refine va_get (ci := 3) (v := .int xSt) (C := RX3) (T := TX3) (N := 12) hx hb hts hinX3 hown hK.1 hw.1 0 rfl rfl 8 (by decide) q_3 (fun _ h9 => h9) rfl dX3_isName_41 ?_
            refine lv_iload_n hx hb dX3_isName_44 rfl (lv_at hl 2 rfl) ?_
            refine lv_iadd hx hb dX3_isName_45 ?_
            refine k_iald hx hb hK hw 1 rfl dX3_isName_46 h (fun a_2 h => ?_)
            refine lv_aload_n hx hb dX3_isName_47 rfl (lv_at hl 1 rfl) ?_
            refine lv_iload_n hx hb dX3_isName_48 rfl (lv_at hl 2 rfl) ?_
            obtain ⟨c_3, hc, h⟩ := b1_inv h
            obtain ⟨hc1, hc2⟩ := rd_inv hc
            refine k_callVS fx hK hA hSX hw (c_J0_charAt aK aV 5 (by decide) v2_1 hc1 l D k _) (cwV 1 hts gX3_isName_J0_charAt_5068e rfl rfl rfl (by decide +kernel) ⟨by decide, by decide⟩) (As := [.int v2_1]) (wr := wX3 k xh xrBy xaD xBy xLe xLi xFf xFp xPl xSo xSt xVa xDt xHo) (ws' := wX3 k xh xrBy xaD xBy xLe xLi xFf xFp xPl xSo xSt xVa xDt xHo) [] [0, 1] [0, 1] rfl rfl (by decide) (by decide) (by decide) rfl (by decide) (fun _ => vk_recv hSX.1.1 (i := 5) (by decide) hw.2.2) [.int a_2] rfl hl.1 rfl (Nat.le_of_ble_eq_true rfl) dX3_isName_49 ⟨by decide, by decide⟩ (fun H locs (hw : Wd D A s.heap H locs (wX3 k xh xrBy xaD xBy xLe xLi xFf xFp xPl xSo xSt xVa xDt xHo)) => ?_)
            refine W.eq (g2 := F0 m 52 ls (.int (chS 5 v2_1.toNatClampNeg) :: [.int a_2])) rfl ?_
            refine k_lit hc2.symm ?_
            refine kb_icmp_eq (tgt := 57) hx hb dX3_isName_52 (by decide) h (fun c_52 h => ?_) (fun c_52 h => ?_)
            · refine lv_iinc (v := v2_1 + 1) (lv' := [(2, .int (v2_1 + 1)), (0, .ref xh), (1, .ref (aK 5))]) hx hb dX3_isName_57 hl (k := 2) rfl rfl (by decide) rfl (fun ls hl => ?_)
              refine lv_goto (tgt := 28) hx hb dX3_isName_60 (by decide) ?_
              exact ih _ h _ _ _ hw (lv_sub hl [1, 2, 0] rfl)
            · refine lv_iconst (v := 0) hx hb dX3_isName_55 (by decide) ?_
              cases h
              have h := bs1_l hX_28
              cases h
              exact k_zret hx hb hr hlocks hw (by decide) rfl dX3_isName_56 hQ
      exact LP_28 400 0 hL_28 _ _ _ hw (lv_sub hl [1, 2, 0] rfl)
    · refine lv_iconst (v := 0) hx hb dX3_isName_24 (by decide) ?_
      cases h
      exact k_zret hx hb hr hlocks hw (by decide) rfl dX3_isName_25 hQ
  · refine lv_iconst (v := 0) hx hb dX3_isName_24 (by decide) ?_
    cases h
    exact k_zret hx hb hr hlocks hw (by decide) rfl dX3_isName_25 hQ
abbrev rmX3_natureNamed : Room := { frames := 5, cells := 0, slots := 0, locals := 107 }
set_option maxHeartbeats 4000000 in
set_option maxRecDepth 100000 in
theorem c_X3_natureNamed (aK aV : Nat → Nat) (l : Launch) (D : va_G) (k : Nat → ClassId) (xh xrBy xaD : Nat) (sz : Nat) (xBy : (Nat → Int32)) (xLe : Int32) (xLi : Int32) (xFf : Int32) (xFp : Int32) (xPl : Int32) (xSo : Int32) (xSt : Int32) (xVa : Int32) (xDt : Int32) (xHo : Int32) (r_ : Int32) (hf : f_X3_natureNamed xBy xPl xSo xSt = some r_) : mS aK aV l yX3_natureNamed wsX3_natureNamed rmX3_natureNamed D k sz [.ref xh] (wX3 k xh xrBy xaD xBy xLe xLi xFf xFp xPl xSo xSt xVa xDt xHo) (wX3 k xh xrBy xaD xBy xLe xLi xFf xFp xPl xSo xSt xVa xDt xHo) (some (.int r_)) := by
  refine mS_of (cc := cX3_natureNamed) (maxL := 1) (ret := some .int) (by decide) rfl (Nat.le_of_ble_eq_true rfl) [(0, .ref xh)] rfl ?_
  intro p e s m below meth c A ls args Q cx hK hA hw hl hQ hSX
  have fx := cx.1
  obtain ⟨⟨hx, hb, hml, hown, hts⟩, hr, hlocks⟩ := cx
  have h := hf
  unfold f_X3_natureNamed at h
  clear hf
  refine lv_aload_n hx hb dX3_natureNamed_0 rfl (lv_at hl 0 rfl) ?_
  refine va_ldcS hx hb hown hSX.2.1 dX3_natureNamed_1 ?_
  obtain ⟨r_1, hf, h⟩ := b1_inv h
  refine k_callVS fx hK hA hSX hw (c_X3_isName_0 aK aV l D k xh xrBy xaD _ xBy xLe xLi xFf xFp xPl xSo xSt xVa xDt xHo r_1 hf) (cwV 1 hts gX3_natureNamed_X3_isName rfl rfl rfl (by decide +kernel) ⟨by decide, by decide⟩) (As := [.ref (aK 0)]) (wr := []) (ws' := wX3 k xh xrBy xaD xBy xLe xLi xFf xFp xPl xSo xSt xVa xDt xHo) [0, 1] [] [0, 1] rfl rfl (by decide) (by decide) (by decide) rfl (by decide) (fun hPc => va_recv (ci := 3) (q0 := 0) hK.1 hPc rfl rfl) [] rfl hl.1 rfl (Nat.le_of_ble_eq_true rfl) dX3_natureNamed_3 ⟨by decide, by decide⟩ (fun H locs (hw : Wd D A s.heap H locs (wX3 k xh xrBy xaD xBy xLe xLi xFf xFp xPl xSo xSt xVa xDt xHo)) => ?_)
  refine W.eq (g2 := F0 m 6 ls ([.int r_1])) rfl ?_
  refine kb_if_eq (tgt := 11) hx hb dX3_natureNamed_6 (by decide) h (fun c_6 h => ?_) (fun c_6 h => ?_)
  · refine lv_aload_n hx hb dX3_natureNamed_11 rfl (lv_at hl 0 rfl) ?_
    refine va_ldcS hx hb hown hSX.2.2.1 dX3_natureNamed_12 ?_
    obtain ⟨r_2, hf, h⟩ := b1_inv h
    refine k_callVS fx hK hA hSX hw (c_X3_isName_1 aK aV l D k xh xrBy xaD _ xBy xLe xLi xFf xFp xPl xSo xSt xVa xDt xHo r_2 hf) (cwV 1 hts gX3_natureNamed_X3_isName rfl rfl rfl (by decide +kernel) ⟨by decide, by decide⟩) (As := [.ref (aK 1)]) (wr := []) (ws' := wX3 k xh xrBy xaD xBy xLe xLi xFf xFp xPl xSo xSt xVa xDt xHo) [0, 1] [] [0, 1] rfl rfl (by decide) (by decide) (by decide) rfl (by decide) (fun hPc => va_recv (ci := 3) (q0 := 0) hK.1 hPc rfl rfl) [] rfl hl.1 rfl (Nat.le_of_ble_eq_true rfl) dX3_natureNamed_14 ⟨by decide, by decide⟩ (fun H locs (hw : Wd D A s.heap H locs (wX3 k xh xrBy xaD xBy xLe xLi xFf xFp xPl xSo xSt xVa xDt xHo)) => ?_)
    refine W.eq (g2 := F0 m 17 ls ([.int r_2])) rfl ?_
    refine kb_if_eq (tgt := 22) hx hb dX3_natureNamed_17 (by decide) h (fun c_17 h => ?_) (fun c_17 h => ?_)
    · refine lv_aload_n hx hb dX3_natureNamed_22 rfl (lv_at hl 0 rfl) ?_
      refine va_ldcS hx hb hown hSX.2.2.2.1 dX3_natureNamed_23 ?_
      obtain ⟨r_3, hf, h⟩ := b1_inv h
      refine k_callVS fx hK hA hSX hw (c_X3_isName_2 aK aV l D k xh xrBy xaD _ xBy xLe xLi xFf xFp xPl xSo xSt xVa xDt xHo r_3 hf) (cwV 1 hts gX3_natureNamed_X3_isName rfl rfl rfl (by decide +kernel) ⟨by decide, by decide⟩) (As := [.ref (aK 2)]) (wr := []) (ws' := wX3 k xh xrBy xaD xBy xLe xLi xFf xFp xPl xSo xSt xVa xDt xHo) [0, 1] [] [0, 1] rfl rfl (by decide) (by decide) (by decide) rfl (by decide) (fun hPc => va_recv (ci := 3) (q0 := 0) hK.1 hPc rfl rfl) [] rfl hl.1 rfl (Nat.le_of_ble_eq_true rfl) dX3_natureNamed_25 ⟨by decide, by decide⟩ (fun H locs (hw : Wd D A s.heap H locs (wX3 k xh xrBy xaD xBy xLe xLi xFf xFp xPl xSo xSt xVa xDt xHo)) => ?_)
      refine W.eq (g2 := F0 m 28 ls ([.int r_3])) rfl ?_
      refine kb_if_eq (tgt := 33) hx hb dX3_natureNamed_28 (by decide) h (fun c_28 h => ?_) (fun c_28 h => ?_)
      · refine lv_aload_n hx hb dX3_natureNamed_33 rfl (lv_at hl 0 rfl) ?_
        refine va_ldcS hx hb hown hSX.2.2.2.2.1 dX3_natureNamed_34 ?_
        obtain ⟨r_4, hf, h⟩ := b1_inv h
        refine k_callVS fx hK hA hSX hw (c_X3_isName_3 aK aV l D k xh xrBy xaD _ xBy xLe xLi xFf xFp xPl xSo xSt xVa xDt xHo r_4 hf) (cwV 1 hts gX3_natureNamed_X3_isName rfl rfl rfl (by decide +kernel) ⟨by decide, by decide⟩) (As := [.ref (aK 3)]) (wr := []) (ws' := wX3 k xh xrBy xaD xBy xLe xLi xFf xFp xPl xSo xSt xVa xDt xHo) [0, 1] [] [0, 1] rfl rfl (by decide) (by decide) (by decide) rfl (by decide) (fun hPc => va_recv (ci := 3) (q0 := 0) hK.1 hPc rfl rfl) [] rfl hl.1 rfl (Nat.le_of_ble_eq_true rfl) dX3_natureNamed_36 ⟨by decide, by decide⟩ (fun H locs (hw : Wd D A s.heap H locs (wX3 k xh xrBy xaD xBy xLe xLi xFf xFp xPl xSo xSt xVa xDt xHo)) => ?_)
        refine W.eq (g2 := F0 m 39 ls ([.int r_4])) rfl ?_
        refine kb_if_eq (tgt := 46) hx hb dX3_natureNamed_39 (by decide) h (fun c_39 h => ?_) (fun c_39 h => ?_)
        · refine lv_iconst (v := (-1)) hx hb dX3_natureNamed_46 (by decide) ?_
          cases h
          exact k_iret hx hb hr hlocks hw rfl dX3_natureNamed_47 hQ
        · refine lv_iconst (v := 3) hx hb dX3_natureNamed_42 (by decide) ?_
          refine lv_goto (tgt := 47) hx hb dX3_natureNamed_43 (by decide) ?_
          cases h
          exact k_iret hx hb hr hlocks hw rfl dX3_natureNamed_47 hQ
      · refine lv_iconst (v := 2) hx hb dX3_natureNamed_31 (by decide) ?_
        cases h
        exact k_iret hx hb hr hlocks hw rfl dX3_natureNamed_32 hQ
    · refine lv_iconst (v := 1) hx hb dX3_natureNamed_20 (by decide) ?_
      cases h
      exact k_iret hx hb hr hlocks hw rfl dX3_natureNamed_21 hQ
  · refine lv_iconst (v := 0) hx hb dX3_natureNamed_9 (by decide) ?_
    cases h
    exact k_iret hx hb hr hlocks hw rfl dX3_natureNamed_10 hQ
abbrev rmX3_takeLine : Room := { frames := 6, cells := 0, slots := 0, locals := 127 }
set_option maxHeartbeats 4000000 in
set_option maxRecDepth 100000 in
theorem c_X3_takeLine (aK aV : Nat → Nat) (l : Launch) (D : va_G) (k : Nat → ClassId) (xh xrBy xaD drNa drMo drWa drDe : Nat) (sz : Nat) (xBy : (Nat → Int32)) (xLe : Int32) (xLi : Int32) (xFf : Int32) (xFp : Int32) (xPl : Int32) (xSo : Int32) (xSt : Int32) (xVa : Int32) (xDt : Int32) (xHo : Int32) (dPe : Int32) (dDa : Int32) (dDr : Int32) (dNa : (Nat → Int32)) (dMo : (Nat → Int32)) (dWa : (Nat → Int32)) (dDe : (Nat → Int32)) (r_ : Int32) (n_xLi : Int32) (n_xFf : Int32) (n_xFp : Int32) (n_xPl : Int32) (n_xSo : Int32) (n_xSt : Int32) (n_xVa : Int32) (n_xDt : Int32) (n_xHo : Int32) (n_dPe : Int32) (n_dDr : Int32) (n_dNa : (Nat → Int32)) (n_dMo : (Nat → Int32)) (n_dWa : (Nat → Int32)) (n_dDe : (Nat → Int32)) (hf : f_X3_takeLine xBy xLe xLi xFf xFp xPl xSo xSt xVa xDt xHo dPe dDr dNa dMo dWa dDe = some (r_, n_xLi, n_xFf, n_xFp, n_xPl, n_xSo, n_xSt, n_xVa, n_xDt, n_xHo, n_dPe, n_dDr, n_dNa, n_dMo, n_dWa, n_dDe)) : mS aK aV l yX3_takeLine wsX3_takeLine rmX3_takeLine D k sz [.ref xh] (wX3 k xh xrBy xaD xBy xLe xLi xFf xFp xPl xSo xSt xVa xDt xHo ++ (wX1 k xaD drNa drMo drWa drDe dPe dDa dDr dNa dMo dWa dDe)) (wX3 k xh xrBy xaD xBy xLe n_xLi n_xFf n_xFp n_xPl n_xSo n_xSt n_xVa n_xDt n_xHo ++ (wX1 k xaD drNa drMo drWa drDe n_dPe dDa n_dDr n_dNa n_dMo n_dWa n_dDe)) (some (.int r_)) := by
  refine mS_of (cc := cX3_takeLine) (maxL := 3) (ret := some .boolean) (by decide) rfl (Nat.le_of_ble_eq_true rfl) [(0, .ref xh)] rfl ?_
  intro p e s m below meth c A ls args Q cx hK hA hw hl hQ hSX
  have fx := cx.1
  obtain ⟨⟨hx, hb, hml, hown, hts⟩, hr, hlocks⟩ := cx
  have hinX3 : ∀ w ∈ wsX30, w ∈ wsX3_takeLine := fun w h => List.mem_cons_of_mem _ (List.mem_append_left _ (List.mem_append_right _ h))
  have q_1 := hts (.fieldLink RX3 90 "DebtRides$Reader" "start" "I") (List.mem_of_getElem? (i := 1) rfl)
  have q_2 := hts (.fieldLink RX3 25 "DebtRides$Reader" "lines" "I") (List.mem_of_getElem? (i := 2) rfl)
  have h := hf
  unfold f_X3_takeLine at h
  clear hf
  refine lv_aload_n hx hb dX3_takeLine_0 rfl (lv_at hl 0 rfl) ?_
  obtain ⟨r_1, hf, h⟩ := b1_inv h
  refine k_callVS fx hK hA hSX hw (c_X3_natureNamed aK aV l D k xh xrBy xaD _ xBy xLe xLi xFf xFp xPl xSo xSt xVa xDt xHo r_1 hf) (cwV 0 hts gX3_takeLine_X3_natureNamed rfl rfl rfl (by decide +kernel) ⟨by decide, by decide⟩) (As := []) (wr := [(xaD, .inr (1, [.int dPe, .int dDa, .int dDr, .ref drNa, .ref drMo, .ref drWa, .ref drDe])), (drNa, .inl (k 0, 5, .inl dNa)), (drMo, .inl (k 0, 5, .inl dMo)), (drWa, .inl (k 0, 5, .inl dWa)), (drDe, .inl (k 0, 25, .inl dDe))]) (ws' := wX3 k xh xrBy xaD xBy xLe xLi xFf xFp xPl xSo xSt xVa xDt xHo ++ (wX1 k xaD drNa drMo drWa drDe dPe dDa dDr dNa dMo dWa dDe)) [0, 1] [2, 3, 4, 5, 6] [5, 6, 0, 1, 2, 3, 4] rfl rfl (by decide) (by decide) (by decide) rfl (by decide) (fun hPc => va_recv (ci := 3) (q0 := 0) hK.1 hPc rfl rfl) [] rfl hl.1 rfl (Nat.le_of_ble_eq_true rfl) dX3_takeLine_1 ⟨by decide, by decide⟩ (fun H locs (hw : Wd D A s.heap H locs (wX3 k xh xrBy xaD xBy xLe xLi xFf xFp xPl xSo xSt xVa xDt xHo ++ (wX1 k xaD drNa drMo drWa drDe dPe dDa dDr dNa dMo dWa dDe))) => ?_)
  refine W.eq (g2 := F0 m 4 ls ([.int r_1])) rfl ?_
  refine lv_istore_n (lv' := [(1, .int r_1), (0, .ref xh)]) hx hb dX3_takeLine_4 rfl hl (by decide) rfl (fun ls hl => ?_)
  refine lv_iload_n hx hb dX3_takeLine_5 rfl (lv_at hl 0 rfl) ?_
  obtain ⟨v2_2, xFf_3, xFp_4, xPl_5, xSo_6, xSt_7, xVa_8, xDt_9, xHo_10, dPe_11, dDr_12, dNa_13, dMo_14, dWa_15, dDe_16, hj_6, h⟩ := b15_inv h
  have J_6 : ∀ (H : Heap) (locs : List Loc) (ls : Array Slot), Wd D A s.heap H locs (wX3 k xh xrBy xaD xBy xLe xLi xFf_3 xFp_4 xPl_5 xSo_6 xSt_7 xVa_8 xDt_9 xHo_10 ++ (wX1 k xaD drNa drMo drWa drDe dPe_11 dDa dDr_12 dNa_13 dMo_14 dWa_15 dDe_16)) → lv_has ls 3 [(0, .ref xh), (2, .int v2_2)] → W p l e rmX3_takeLine s m args below meth c H locs 0 0 Q (F0 m 62 ls []) := by
    intro H locs ls hw hl
    refine lv_iload_n hx hb dX3_takeLine_62 rfl (lv_at hl 1 rfl) ?_
    refine kb_if_eq (tgt := 76) hx hb dX3_takeLine_63 (by decide) h (fun c_63 h => ?_) (fun c_63 h => ?_)
    · refine lv_iload_n hx hb dX3_takeLine_76 rfl (lv_at hl 1 rfl) ?_
      obtain ⟨z_51, hz, h⟩ := b1_inv h
      obtain ⟨hz1, hz2⟩ := bz_inv hz
      refine k_lit hz1.symm ?_
      rw [← hz1] at hz2
      cases h
      exact k_zret hx hb hr hlocks hw hz2 rfl dX3_takeLine_77 hQ
    · refine lv_aload_n hx hb dX3_takeLine_66 rfl (lv_at hl 0 rfl) ?_
      refine lv_dup hx hb dX3_takeLine_67 rfl ?_
      refine va_get (ci := 3) (v := .int xLi) (C := RX3) (T := TX3) (N := 12) hx hb hts hinX3 hown hK.1 hw.1 0 rfl rfl 3 (by decide) q_2 (fun _ h9 => h9) rfl dX3_takeLine_68 ?_
      refine lv_iconst (v := 1) hx hb dX3_takeLine_71 (by decide) ?_
      refine lv_iadd hx hb dX3_takeLine_72 ?_
      refine va_put (ci := 3) (v := .int (xLi + 1)) (ty := tyX3 3) (C := RX3) (T := TX3) (N := 12) hx hb hts hinX3 tyX3 tyX3_ok nmX3 hown hK.1 hw.1 hw.2.1 hw.2.2 0 rfl rfl 3 (by decide) q_2 (fun _ h9 => h9) rfl (tyX3_ok 3 (by decide)) rfl rfl (Nat.le_of_ble_eq_true rfl) dX3_takeLine_73 (fun H locs hP hD hS => ?_)
      have hw : Wd D A s.heap H locs (wX3 k xh xrBy xaD xBy xLe (xLi + 1) xFf_3 xFp_4 xPl_5 xSo_6 xSt_7 xVa_8 xDt_9 xHo_10 ++ (wX1 k xaD drNa drMo drWa drDe dPe_11 dDa dDr_12 dNa_13 dMo_14 dWa_15 dDe_16)) := ⟨hP, hD, hS⟩
      refine lv_iload_n hx hb dX3_takeLine_76 rfl (lv_at hl 1 rfl) ?_
      obtain ⟨z_52, hz, h⟩ := b1_inv h
      obtain ⟨hz1, hz2⟩ := bz_inv hz
      refine k_lit hz1.symm ?_
      rw [← hz1] at hz2
      cases h
      exact k_zret hx hb hr hlocks hw hz2 rfl dX3_takeLine_77 hQ
  clear h
  have h := hj_6
  refine kb_if_lt (tgt := 18) hx hb dX3_takeLine_6 (by decide) h (fun c_6 h => ?_) (fun c_6 h => ?_)
  · refine lv_aload_n hx hb dX3_takeLine_18 rfl (lv_at hl 1 rfl) ?_
    refine va_ldcS hx hb hown hSX.2.2.2.2.2.1 dX3_takeLine_19 ?_
    obtain ⟨r_17, hf, h⟩ := b1_inv h
    refine k_callVS fx hK hA hSX hw (c_X3_isName_4 aK aV l D k xh xrBy xaD _ xBy xLe xLi xFf xFp xPl xSo xSt xVa xDt xHo r_17 hf) (cwV 1 hts gX3_takeLine_X3_isName rfl rfl rfl (by decide +kernel) ⟨by decide, by decide⟩) (As := [.ref (aK 4)]) (wr := [(xaD, .inr (1, [.int dPe, .int dDa, .int dDr, .ref drNa, .ref drMo, .ref drWa, .ref drDe])), (drNa, .inl (k 0, 5, .inl dNa)), (drMo, .inl (k 0, 5, .inl dMo)), (drWa, .inl (k 0, 5, .inl dWa)), (drDe, .inl (k 0, 25, .inl dDe))]) (ws' := wX3 k xh xrBy xaD xBy xLe xLi xFf xFp xPl xSo xSt xVa xDt xHo ++ (wX1 k xaD drNa drMo drWa drDe dPe dDa dDr dNa dMo dWa dDe)) [0, 1] [2, 3, 4, 5, 6] [5, 6, 0, 1, 2, 3, 4] rfl rfl (by decide) (by decide) (by decide) rfl (by decide) (fun hPc => va_recv (ci := 3) (q0 := 0) hK.1 hPc rfl rfl) [] rfl hl.1 rfl (Nat.le_of_ble_eq_true rfl) dX3_takeLine_21 ⟨by decide, by decide⟩ (fun H locs (hw : Wd D A s.heap H locs (wX3 k xh xrBy xaD xBy xLe xLi xFf xFp xPl xSo xSt xVa xDt xHo ++ (wX1 k xaD drNa drMo drWa drDe dPe dDa dDr dNa dMo dWa dDe))) => ?_)
    refine W.eq (g2 := F0 m 24 ls ([.int r_17])) rfl ?_
    refine kb_if_eq (tgt := 35) hx hb dX3_takeLine_24 (by decide) h (fun c_24 h => ?_) (fun c_24 h => ?_)
    · refine lv_aload_n hx hb dX3_takeLine_35 rfl (lv_at hl 1 rfl) ?_
      refine va_ldcS hx hb hown hSX.2.2.2.2.2.2 dX3_takeLine_36 ?_
      obtain ⟨r_18, hf, h⟩ := b1_inv h
      refine k_callVS fx hK hA hSX hw (c_X3_isName_5 aK aV l D k xh xrBy xaD _ xBy xLe xLi xFf xFp xPl xSo xSt xVa xDt xHo r_18 hf) (cwV 1 hts gX3_takeLine_X3_isName rfl rfl rfl (by decide +kernel) ⟨by decide, by decide⟩) (As := [.ref (aK 5)]) (wr := [(xaD, .inr (1, [.int dPe, .int dDa, .int dDr, .ref drNa, .ref drMo, .ref drWa, .ref drDe])), (drNa, .inl (k 0, 5, .inl dNa)), (drMo, .inl (k 0, 5, .inl dMo)), (drWa, .inl (k 0, 5, .inl dWa)), (drDe, .inl (k 0, 25, .inl dDe))]) (ws' := wX3 k xh xrBy xaD xBy xLe xLi xFf xFp xPl xSo xSt xVa xDt xHo ++ (wX1 k xaD drNa drMo drWa drDe dPe dDa dDr dNa dMo dWa dDe)) [0, 1] [2, 3, 4, 5, 6] [5, 6, 0, 1, 2, 3, 4] rfl rfl (by decide) (by decide) (by decide) rfl (by decide) (fun hPc => va_recv (ci := 3) (q0 := 0) hK.1 hPc rfl rfl) [] rfl hl.1 rfl (Nat.le_of_ble_eq_true rfl) dX3_takeLine_38 ⟨by decide, by decide⟩ (fun H locs (hw : Wd D A s.heap H locs (wX3 k xh xrBy xaD xBy xLe xLi xFf xFp xPl xSo xSt xVa xDt xHo ++ (wX1 k xaD drNa drMo drWa drDe dPe dDa dDr dNa dMo dWa dDe))) => ?_)
      refine W.eq (g2 := F0 m 41 ls ([.int r_18])) rfl ?_
      refine kb_if_eq (tgt := 52) hx hb dX3_takeLine_41 (by decide) h (fun c_41 h => ?_) (fun c_41 h => ?_)
      · refine lv_aload_n hx hb dX3_takeLine_52 rfl (lv_at hl 1 rfl) ?_
        refine lv_iconst (v := 2) hx hb dX3_takeLine_53 (by decide) ?_
        refine lv_aload_n hx hb dX3_takeLine_54 rfl (lv_at hl 1 rfl) ?_
        refine va_get (ci := 3) (v := .int xSt) (C := RX3) (T := TX3) (N := 12) hx hb hts hinX3 hown hK.1 hw.1 0 rfl rfl 8 (by decide) q_1 (fun _ h9 => h9) rfl dX3_takeLine_55 ?_
        obtain ⟨r_19, xFf_20, xFp_21, hf, h⟩ := b3_inv h
        refine k_callV (host := "") fx hK hA hw (c_X3_fail l D k xh xrBy xaD _ xBy xLe xLi xFf xFp xPl xSo xSt xVa xDt xHo 2 xSt r_19 xFf_20 xFp_21 hf) (cwV 2 hts gX3_takeLine_X3_fail rfl rfl rfl (by decide +kernel) ⟨by decide, by decide⟩) (As := [.int 2, .int xSt]) (wr := [(xaD, .inr (1, [.int dPe, .int dDa, .int dDr, .ref drNa, .ref drMo, .ref drWa, .ref drDe])), (drNa, .inl (k 0, 5, .inl dNa)), (drMo, .inl (k 0, 5, .inl dMo)), (drWa, .inl (k 0, 5, .inl dWa)), (drDe, .inl (k 0, 25, .inl dDe))]) (ws' := wX3 k xh xrBy xaD xBy xLe xLi xFf_20 xFp_21 xPl xSo xSt xVa xDt xHo ++ (wX1 k xaD drNa drMo drWa drDe dPe dDa dDr dNa dMo dWa dDe)) [0, 1] [2, 3, 4, 5, 6] [5, 6, 0, 1, 2, 3, 4] rfl rfl (by decide) (by decide) (by decide) rfl (by decide) 3 rfl rfl [] rfl hl.1 rfl (Nat.le_of_ble_eq_true rfl) dX3_takeLine_58 ⟨by decide, by decide⟩ (fun H locs (hw : Wd D A s.heap H locs (wX3 k xh xrBy xaD xBy xLe xLi xFf_20 xFp_21 xPl xSo xSt xVa xDt xHo ++ (wX1 k xaD drNa drMo drWa drDe dPe dDa dDr dNa dMo dWa dDe))) => ?_)
        refine W.eq (g2 := F0 m 61 ls ([.int r_19])) rfl ?_
        refine lv_istore_n (lv' := [(2, .int r_19), (1, .int r_1), (0, .ref xh)]) hx hb dX3_takeLine_61 rfl hl (by decide) rfl (fun ls hl => ?_)
        cases h
        exact J_6 _ _ _ hw (lv_sub hl [2, 0] rfl)
      · refine lv_aload_n hx hb dX3_takeLine_44 rfl (lv_at hl 1 rfl) ?_
        obtain ⟨r_22, xFf_23, xFp_24, xPl_25, xSo_26, xSt_27, xVa_28, xDt_29, dDr_30, hf, h⟩ := b9_inv h
        refine k_callV (host := "") fx hK hA hw (c_X3_takeDry l D k xh xrBy xaD drNa drMo drWa drDe _ xBy xLe xLi xFf xFp xPl xSo xSt xVa xDt xHo dPe dDa dDr dNa dMo dWa dDe r_22 xFf_23 xFp_24 xPl_25 xSo_26 xSt_27 xVa_28 xDt_29 dDr_30 hf) (cwV 0 hts gX3_takeLine_X3_takeDry rfl rfl rfl (by decide +kernel) ⟨by decide, by decide⟩) (As := []) (wr := []) (ws' := wX3 k xh xrBy xaD xBy xLe xLi xFf_23 xFp_24 xPl_25 xSo_26 xSt_27 xVa_28 xDt_29 xHo ++ (wX1 k xaD drNa drMo drWa drDe dPe dDa dDr_30 dNa dMo dWa dDe)) [0, 1, 2, 3, 4, 5, 6] [] [0, 1, 2, 3, 4, 5, 6] rfl rfl (by decide) (by decide) (by decide) rfl (by decide) 3 rfl rfl [] rfl hl.1 rfl (Nat.le_of_ble_eq_true rfl) dX3_takeLine_45 ⟨by decide, by decide⟩ (fun H locs (hw : Wd D A s.heap H locs (wX3 k xh xrBy xaD xBy xLe xLi xFf_23 xFp_24 xPl_25 xSo_26 xSt_27 xVa_28 xDt_29 xHo ++ (wX1 k xaD drNa drMo drWa drDe dPe dDa dDr_30 dNa dMo dWa dDe))) => ?_)
        refine W.eq (g2 := F0 m 48 ls ([.int r_22])) rfl ?_
        refine lv_istore_n (lv' := [(2, .int r_22), (1, .int r_1), (0, .ref xh)]) hx hb dX3_takeLine_48 rfl hl (by decide) rfl (fun ls hl => ?_)
        refine lv_goto (tgt := 62) hx hb dX3_takeLine_49 (by decide) ?_
        cases h
        exact J_6 _ _ _ hw (lv_sub hl [2, 0] rfl)
    · refine lv_aload_n hx hb dX3_takeLine_27 rfl (lv_at hl 1 rfl) ?_
      obtain ⟨r_31, xFf_32, xFp_33, xPl_34, xSo_35, xSt_36, xVa_37, xHo_38, dDe_39, hf, h⟩ := b9_inv h
      refine k_callV (host := "") fx hK hA hw (c_X3_takeOwes l D k xh xrBy xaD drNa drMo drWa drDe _ xBy xLe xLi xFf xFp xPl xSo xSt xVa xDt xHo dPe dDa dDr dNa dMo dWa dDe r_31 xFf_32 xFp_33 xPl_34 xSo_35 xSt_36 xVa_37 xHo_38 dDe_39 hf) (cwV 0 hts gX3_takeLine_X3_takeOwes rfl rfl rfl (by decide +kernel) ⟨by decide, by decide⟩) (As := []) (wr := []) (ws' := wX3 k xh xrBy xaD xBy xLe xLi xFf_32 xFp_33 xPl_34 xSo_35 xSt_36 xVa_37 xDt xHo_38 ++ (wX1 k xaD drNa drMo drWa drDe dPe dDa dDr dNa dMo dWa dDe_39)) [0, 1, 2, 3, 4, 5, 6] [] [0, 1, 2, 3, 4, 5, 6] rfl rfl (by decide) (by decide) (by decide) rfl (by decide) 3 rfl rfl [] rfl hl.1 rfl (Nat.le_of_ble_eq_true rfl) dX3_takeLine_28 ⟨by decide, by decide⟩ (fun H locs (hw : Wd D A s.heap H locs (wX3 k xh xrBy xaD xBy xLe xLi xFf_32 xFp_33 xPl_34 xSo_35 xSt_36 xVa_37 xDt xHo_38 ++ (wX1 k xaD drNa drMo drWa drDe dPe dDa dDr dNa dMo dWa dDe_39))) => ?_)
      refine W.eq (g2 := F0 m 31 ls ([.int r_31])) rfl ?_
      refine lv_istore_n (lv' := [(2, .int r_31), (1, .int r_1), (0, .ref xh)]) hx hb dX3_takeLine_31 rfl hl (by decide) rfl (fun ls hl => ?_)
      refine lv_goto (tgt := 62) hx hb dX3_takeLine_32 (by decide) ?_
      cases h
      exact J_6 _ _ _ hw (lv_sub hl [2, 0] rfl)
  · refine lv_aload_n hx hb dX3_takeLine_9 rfl (lv_at hl 1 rfl) ?_
    refine lv_iload_n hx hb dX3_takeLine_10 rfl (lv_at hl 0 rfl) ?_
    obtain ⟨r_40, xFf_41, xFp_42, xPl_43, xSo_44, xSt_45, xVa_46, dPe_47, dNa_48, dMo_49, dWa_50, hf, h⟩ := b11_inv h
    refine k_callV (host := "") fx hK hA hw (c_X3_takePerson l D k xh xrBy xaD drNa drMo drWa drDe _ xBy xLe xLi xFf xFp xPl xSo xSt xVa xDt xHo dPe dDa dDr dNa dMo dWa dDe r_1 r_40 xFf_41 xFp_42 xPl_43 xSo_44 xSt_45 xVa_46 dPe_47 dNa_48 dMo_49 dWa_50 hf) (cwV 1 hts gX3_takeLine_X3_takePerson rfl rfl rfl (by decide +kernel) ⟨by decide, by decide⟩) (As := [.int r_1]) (wr := []) (ws' := wX3 k xh xrBy xaD xBy xLe xLi xFf_41 xFp_42 xPl_43 xSo_44 xSt_45 xVa_46 xDt xHo ++ (wX1 k xaD drNa drMo drWa drDe dPe_47 dDa dDr dNa_48 dMo_49 dWa_50 dDe)) [0, 1, 2, 3, 4, 5, 6] [] [0, 1, 2, 3, 4, 5, 6] rfl rfl (by decide) (by decide) (by decide) rfl (by decide) 3 rfl rfl [] rfl hl.1 rfl (Nat.le_of_ble_eq_true rfl) dX3_takeLine_11 ⟨by decide, by decide⟩ (fun H locs (hw : Wd D A s.heap H locs (wX3 k xh xrBy xaD xBy xLe xLi xFf_41 xFp_42 xPl_43 xSo_44 xSt_45 xVa_46 xDt xHo ++ (wX1 k xaD drNa drMo drWa drDe dPe_47 dDa dDr dNa_48 dMo_49 dWa_50 dDe))) => ?_)
    refine W.eq (g2 := F0 m 14 ls ([.int r_40])) rfl ?_
    refine lv_istore_n (lv' := [(2, .int r_40), (1, .int r_1), (0, .ref xh)]) hx hb dX3_takeLine_14 rfl hl (by decide) rfl (fun ls hl => ?_)
    refine lv_goto (tgt := 62) hx hb dX3_takeLine_15 (by decide) ?_
    cases h
    exact J_6 _ _ _ hw (lv_sub hl [2, 0] rfl)
abbrev rmX3_takeAll : Room := { frames := 7, cells := 0, slots := 0, locals := 149 }
set_option maxHeartbeats 4000000 in
set_option maxRecDepth 100000 in
theorem c_X3_takeAll (aK aV : Nat → Nat) (l : Launch) (D : va_G) (k : Nat → ClassId) (xh xrBy xaD drNa drMo drWa drDe : Nat) (sz : Nat) (xBy : (Nat → Int32)) (xLe : Int32) (xLi : Int32) (xFf : Int32) (xFp : Int32) (xPl : Int32) (xSo : Int32) (xSt : Int32) (xVa : Int32) (xDt : Int32) (xHo : Int32) (dPe : Int32) (dDa : Int32) (dDr : Int32) (dNa : (Nat → Int32)) (dMo : (Nat → Int32)) (dWa : (Nat → Int32)) (dDe : (Nat → Int32)) (r_ : Int32) (n_xLi : Int32) (n_xFf : Int32) (n_xFp : Int32) (n_xPl : Int32) (n_xSo : Int32) (n_xSt : Int32) (n_xVa : Int32) (n_xDt : Int32) (n_xHo : Int32) (n_dPe : Int32) (n_dDa : Int32) (n_dDr : Int32) (n_dNa : (Nat → Int32)) (n_dMo : (Nat → Int32)) (n_dWa : (Nat → Int32)) (n_dDe : (Nat → Int32)) (hf : f_X3_takeAll xBy xLe xVa dNa dMo dWa = some (r_, n_xLi, n_xFf, n_xFp, n_xPl, n_xSo, n_xSt, n_xVa, n_xDt, n_xHo, n_dPe, n_dDa, n_dDr, n_dNa, n_dMo, n_dWa, n_dDe)) : mS aK aV l yX3_takeAll wsX3_takeAll rmX3_takeAll D k sz [.ref xh] (wX3 k xh xrBy xaD xBy xLe xLi xFf xFp xPl xSo xSt xVa xDt xHo ++ (wX1 k xaD drNa drMo drWa drDe dPe dDa dDr dNa dMo dWa dDe)) (wX3 k xh xrBy xaD xBy xLe n_xLi n_xFf n_xFp n_xPl n_xSo n_xSt n_xVa n_xDt n_xHo ++ (wX1 k xaD drNa drMo drWa drDe n_dPe n_dDa n_dDr n_dNa n_dMo n_dWa n_dDe)) (some (.int r_)) := by
  refine mS_of (cc := cX3_takeAll) (maxL := 3) (ret := some .boolean) (by decide) rfl (Nat.le_of_ble_eq_true rfl) [(0, .ref xh)] rfl ?_
  intro p e s m below meth c A ls args Q cx hK hA hw hl hQ hSX
  have fx := cx.1
  obtain ⟨⟨hx, hb, hml, hown, hts⟩, hr, hlocks⟩ := cx
  have hinX3 : ∀ w ∈ wsX30, w ∈ wsX3_takeAll := fun w h => List.mem_cons_of_mem _ (List.mem_append_left _ (List.mem_append_right _ h))
  have q_1 := hts (.fieldLink RX3 18 "DebtRides$Reader" "draft" "LDebtRides$Land;") (List.mem_of_getElem? (i := 1) rfl)
  have q_2 := hts (.fieldLink RX3 25 "DebtRides$Reader" "lines" "I") (List.mem_of_getElem? (i := 2) rfl)
  have q_3 := hts (.fieldLink RX3 29 "DebtRides$Reader" "foundFault" "I") (List.mem_of_getElem? (i := 3) rfl)
  have q_4 := hts (.fieldLink RX3 32 "DebtRides$Reader" "foundPlace" "I") (List.mem_of_getElem? (i := 4) rfl)
  have q_5 := hts (.fieldLink RX3 35 "DebtRides$Reader" "place" "I") (List.mem_of_getElem? (i := 5) rfl)
  have q_6 := hts (.fieldLink RX3 38 "DebtRides$Reader" "dryTold" "Z") (List.mem_of_getElem? (i := 6) rfl)
  have q_7 := hts (.fieldLink RX3 42 "DebtRides$Reader" "highestOne" "I") (List.mem_of_getElem? (i := 7) rfl)
  have q_8 := hts (.fieldLink RX3 49 "DebtRides$Reader" "length" "I") (List.mem_of_getElem? (i := 8) rfl)
  have q_9 := hts (.fieldLink RX3 52 "DebtRides$Reader" "sort" "I") (List.mem_of_getElem? (i := 9) rfl)
  have h := hf
  unfold f_X3_takeAll at h
  clear hf
  refine lv_aload_n hx hb dX3_takeAll_0 rfl (lv_at hl 0 rfl) ?_
  refine va_get (ci := 3) (v := .ref xaD) (C := RX3) (T := TX3) (N := 12) hx hb hts hinX3 hown hK.1 hw.1 0 rfl rfl 2 (by decide) q_1 (fun _ h9 => h9) rfl dX3_takeAll_1 ?_
  obtain ⟨dPe_1, dDa_2, dDr_3, dDe_4, hf, h⟩ := b4_inv h
  refine k_callV (host := "") fx hK hA hw (c_X1_empty l D k xaD drNa drMo drWa drDe _ dPe dDa dDr dNa dMo dWa dDe dPe_1 dDa_2 dDr_3 dDe_4 hf) (cwV 0 hts gX3_takeAll_X1_empty rfl rfl rfl (by decide +kernel) ⟨by decide, by decide⟩) (As := []) (wr := [(xh, .inr (3, [.ref xrBy, .int xLe, .ref xaD, .int xLi, .int xFf, .int xFp, .int xPl, .int xSo, .int xSt, .int xVa, .int xDt, .int xHo])), (xrBy, .inl (k 0, 160, .inl xBy))]) (ws' := wX3 k xh xrBy xaD xBy xLe xLi xFf xFp xPl xSo xSt xVa xDt xHo ++ (wX1 k xaD drNa drMo drWa drDe dPe_1 dDa_2 dDr_3 dNa dMo dWa dDe_4)) [2, 3, 4, 5, 6] [0, 1] [0, 1, 2, 3, 4, 5, 6] rfl rfl (by decide) (by decide) (by decide) rfl (by decide) 1 rfl rfl [] rfl hl.1 rfl (Nat.le_of_ble_eq_true rfl) dX3_takeAll_4 ⟨by decide, by decide⟩ (fun H locs (hw : Wd D A s.heap H locs (wX3 k xh xrBy xaD xBy xLe xLi xFf xFp xPl xSo xSt xVa xDt xHo ++ (wX1 k xaD drNa drMo drWa drDe dPe_1 dDa_2 dDr_3 dNa dMo dWa dDe_4))) => ?_)
  refine W.eq (g2 := F0 m 7 ls ([])) rfl ?_
  refine lv_aload_n hx hb dX3_takeAll_7 rfl (lv_at hl 0 rfl) ?_
  refine lv_iconst (v := 0) hx hb dX3_takeAll_8 (by decide) ?_
  refine va_put (ci := 3) (v := .int 0) (ty := tyX3 3) (C := RX3) (T := TX3) (N := 12) hx hb hts hinX3 tyX3 tyX3_ok nmX3 hown hK.1 hw.1 hw.2.1 hw.2.2 0 rfl rfl 3 (by decide) q_2 (fun _ h9 => h9) rfl (tyX3_ok 3 (by decide)) rfl rfl (Nat.le_of_ble_eq_true rfl) dX3_takeAll_9 (fun H locs hP hD hS => ?_)
  have hw : Wd D A s.heap H locs (wX3 k xh xrBy xaD xBy xLe 0 xFf xFp xPl xSo xSt xVa xDt xHo ++ (wX1 k xaD drNa drMo drWa drDe dPe_1 dDa_2 dDr_3 dNa dMo dWa dDe_4)) := ⟨hP, hD, hS⟩
  refine lv_aload_n hx hb dX3_takeAll_12 rfl (lv_at hl 0 rfl) ?_
  refine lv_iconst (v := 0) hx hb dX3_takeAll_13 (by decide) ?_
  refine va_put (ci := 3) (v := .int 0) (ty := tyX3 4) (C := RX3) (T := TX3) (N := 12) hx hb hts hinX3 tyX3 tyX3_ok nmX3 hown hK.1 hw.1 hw.2.1 hw.2.2 0 rfl rfl 4 (by decide) q_3 (fun _ h9 => h9) rfl (tyX3_ok 4 (by decide)) rfl rfl (Nat.le_of_ble_eq_true rfl) dX3_takeAll_14 (fun H locs hP hD hS => ?_)
  have hw : Wd D A s.heap H locs (wX3 k xh xrBy xaD xBy xLe 0 0 xFp xPl xSo xSt xVa xDt xHo ++ (wX1 k xaD drNa drMo drWa drDe dPe_1 dDa_2 dDr_3 dNa dMo dWa dDe_4)) := ⟨hP, hD, hS⟩
  refine lv_aload_n hx hb dX3_takeAll_17 rfl (lv_at hl 0 rfl) ?_
  refine lv_iconst (v := 0) hx hb dX3_takeAll_18 (by decide) ?_
  refine va_put (ci := 3) (v := .int 0) (ty := tyX3 5) (C := RX3) (T := TX3) (N := 12) hx hb hts hinX3 tyX3 tyX3_ok nmX3 hown hK.1 hw.1 hw.2.1 hw.2.2 0 rfl rfl 5 (by decide) q_4 (fun _ h9 => h9) rfl (tyX3_ok 5 (by decide)) rfl rfl (Nat.le_of_ble_eq_true rfl) dX3_takeAll_19 (fun H locs hP hD hS => ?_)
  have hw : Wd D A s.heap H locs (wX3 k xh xrBy xaD xBy xLe 0 0 0 xPl xSo xSt xVa xDt xHo ++ (wX1 k xaD drNa drMo drWa drDe dPe_1 dDa_2 dDr_3 dNa dMo dWa dDe_4)) := ⟨hP, hD, hS⟩
  refine lv_aload_n hx hb dX3_takeAll_22 rfl (lv_at hl 0 rfl) ?_
  refine lv_iconst (v := 0) hx hb dX3_takeAll_23 (by decide) ?_
  refine va_put (ci := 3) (v := .int 0) (ty := tyX3 6) (C := RX3) (T := TX3) (N := 12) hx hb hts hinX3 tyX3 tyX3_ok nmX3 hown hK.1 hw.1 hw.2.1 hw.2.2 0 rfl rfl 6 (by decide) q_5 (fun _ h9 => h9) rfl (tyX3_ok 6 (by decide)) rfl rfl (Nat.le_of_ble_eq_true rfl) dX3_takeAll_24 (fun H locs hP hD hS => ?_)
  have hw : Wd D A s.heap H locs (wX3 k xh xrBy xaD xBy xLe 0 0 0 0 xSo xSt xVa xDt xHo ++ (wX1 k xaD drNa drMo drWa drDe dPe_1 dDa_2 dDr_3 dNa dMo dWa dDe_4)) := ⟨hP, hD, hS⟩
  refine lv_aload_n hx hb dX3_takeAll_27 rfl (lv_at hl 0 rfl) ?_
  refine lv_iconst (v := 0) hx hb dX3_takeAll_28 (by decide) ?_
  refine va_put (ci := 3) (v := .int 0) (ty := tyX3 10) (C := RX3) (T := TX3) (N := 12) hx hb hts hinX3 tyX3 tyX3_ok nmX3 hown hK.1 hw.1 hw.2.1 hw.2.2 0 rfl rfl 10 (by decide) q_6 (fun _ h9 => h9) rfl (tyX3_ok 10 (by decide)) rfl rfl (Nat.le_of_ble_eq_true rfl) dX3_takeAll_29 (fun H locs hP hD hS => ?_)
  have hw : Wd D A s.heap H locs (wX3 k xh xrBy xaD xBy xLe 0 0 0 0 xSo xSt xVa 0 xHo ++ (wX1 k xaD drNa drMo drWa drDe dPe_1 dDa_2 dDr_3 dNa dMo dWa dDe_4)) := ⟨hP, hD, hS⟩
  refine lv_aload_n hx hb dX3_takeAll_32 rfl (lv_at hl 0 rfl) ?_
  refine lv_iconst (v := (-1)) hx hb dX3_takeAll_33 (by decide) ?_
  refine va_put (ci := 3) (v := .int (-1)) (ty := tyX3 11) (C := RX3) (T := TX3) (N := 12) hx hb hts hinX3 tyX3 tyX3_ok nmX3 hown hK.1 hw.1 hw.2.1 hw.2.2 0 rfl rfl 11 (by decide) q_7 (fun _ h9 => h9) rfl (tyX3_ok 11 (by decide)) rfl rfl (Nat.le_of_ble_eq_true rfl) dX3_takeAll_34 (fun H locs hP hD hS => ?_)
  have hw : Wd D A s.heap H locs (wX3 k xh xrBy xaD xBy xLe 0 0 0 0 xSo xSt xVa 0 (-1) ++ (wX1 k xaD drNa drMo drWa drDe dPe_1 dDa_2 dDr_3 dNa dMo dWa dDe_4)) := ⟨hP, hD, hS⟩
  refine lv_aload_n hx hb dX3_takeAll_37 rfl (lv_at hl 0 rfl) ?_
  obtain ⟨r_5, xFf_6, xFp_7, xPl_8, xSo_9, xSt_10, hf, h⟩ := b6_inv h
  refine k_callV (host := "") fx hK hA hw (c_X3_next l D k xh xrBy xaD _ xBy xLe 0 0 0 0 xSo xSt xVa 0 (-1) r_5 xFf_6 xFp_7 xPl_8 xSo_9 xSt_10 hf) (cwV 0 hts gX3_takeAll_X3_next rfl rfl rfl (by decide +kernel) ⟨by decide, by decide⟩) (As := []) (wr := [(xaD, .inr (1, [.int dPe_1, .int dDa_2, .int dDr_3, .ref drNa, .ref drMo, .ref drWa, .ref drDe])), (drNa, .inl (k 0, 5, .inl dNa)), (drMo, .inl (k 0, 5, .inl dMo)), (drWa, .inl (k 0, 5, .inl dWa)), (drDe, .inl (k 0, 25, .inl dDe_4))]) (ws' := wX3 k xh xrBy xaD xBy xLe 0 xFf_6 xFp_7 xPl_8 xSo_9 xSt_10 xVa 0 (-1) ++ (wX1 k xaD drNa drMo drWa drDe dPe_1 dDa_2 dDr_3 dNa dMo dWa dDe_4)) [0, 1] [2, 3, 4, 5, 6] [5, 6, 0, 1, 2, 3, 4] rfl rfl (by decide) (by decide) (by decide) rfl (by decide) 3 rfl rfl [] rfl hl.1 rfl (Nat.le_of_ble_eq_true rfl) dX3_takeAll_38 ⟨by decide, by decide⟩ (fun H locs (hw : Wd D A s.heap H locs (wX3 k xh xrBy xaD xBy xLe 0 xFf_6 xFp_7 xPl_8 xSo_9 xSt_10 xVa 0 (-1) ++ (wX1 k xaD drNa drMo drWa drDe dPe_1 dDa_2 dDr_3 dNa dMo dWa dDe_4))) => ?_)
  refine W.eq (g2 := F0 m 41 ls ([.int r_5])) rfl ?_
  refine lv_istore_n (lv' := [(1, .int r_5), (0, .ref xh)]) hx hb dX3_takeAll_41 rfl hl (by decide) rfl (fun ls hl => ?_)
  refine lv_iconst (v := 0) hx hb dX3_takeAll_42 (by decide) ?_
  refine lv_istore_n (lv' := [(2, .int 0), (1, .int r_5), (0, .ref xh)]) hx hb dX3_takeAll_43 rfl hl (by decide) rfl (fun ls hl => ?_)
  obtain ⟨v1_28, xLi_29, xFf_30, xFp_31, xPl_32, xSo_33, xSt_34, xVa_35, xDt_36, xHo_37, dPe_38, dDr_39, dNa_40, dMo_41, dWa_42, dDe_43, hL_44, h⟩ := b16_inv h
  have X_44 : ∀ (H : Heap) (locs : List Loc) (ls : Array Slot), Wd D A s.heap H locs (wX3 k xh xrBy xaD xBy xLe xLi_29 xFf_30 xFp_31 xPl_32 xSo_33 xSt_34 xVa_35 xDt_36 xHo_37 ++ (wX1 k xaD drNa drMo drWa drDe dPe_38 dDa_2 dDr_39 dNa_40 dMo_41 dWa_42 dDe_43)) → lv_has ls 3 [(0, .ref xh), (1, .int v1_28)] → W p l e rmX3_takeAll s m args below meth c H locs 0 0 Q (F0 m 89 ls []) := by
    intro H locs ls hw hl
    refine lv_iload_n hx hb dX3_takeAll_89 rfl (lv_at hl 1 rfl) ?_
    refine kb_if_eq (tgt := 104) hx hb dX3_takeAll_90 (by decide) h (fun c_90 h => ?_) (fun c_90 h => ?_)
    · refine lv_iconst (v := 0) hx hb dX3_takeAll_104 (by decide) ?_
      cases h
      exact k_zret hx hb hr hlocks hw (by decide) rfl dX3_takeAll_105 hQ
    · refine lv_aload_n hx hb dX3_takeAll_93 rfl (lv_at hl 0 rfl) ?_
      obtain ⟨r_66, xFf_67, xFp_68, hf, h⟩ := b3_inv h
      refine k_callV (host := "") fx hK hA hw (c_X3_everyoneIsThere l D k xh xrBy xaD drNa drMo drWa drDe _ xBy xLe xLi_29 xFf_30 xFp_31 xPl_32 xSo_33 xSt_34 xVa_35 xDt_36 xHo_37 dPe_38 dDa_2 dDr_39 dNa_40 dMo_41 dWa_42 dDe_43 r_66 xFf_67 xFp_68 hf) (cwV 0 hts gX3_takeAll_X3_everyoneIsThere rfl rfl rfl (by decide +kernel) ⟨by decide, by decide⟩) (As := []) (wr := []) (ws' := wX3 k xh xrBy xaD xBy xLe xLi_29 xFf_67 xFp_68 xPl_32 xSo_33 xSt_34 xVa_35 xDt_36 xHo_37 ++ (wX1 k xaD drNa drMo drWa drDe dPe_38 dDa_2 dDr_39 dNa_40 dMo_41 dWa_42 dDe_43)) [0, 1, 2, 3, 4, 5, 6] [] [0, 1, 2, 3, 4, 5, 6] rfl rfl (by decide) (by decide) (by decide) rfl (by decide) 3 rfl rfl [] rfl hl.1 rfl (Nat.le_of_ble_eq_true rfl) dX3_takeAll_94 ⟨by decide, by decide⟩ (fun H locs (hw : Wd D A s.heap H locs (wX3 k xh xrBy xaD xBy xLe xLi_29 xFf_67 xFp_68 xPl_32 xSo_33 xSt_34 xVa_35 xDt_36 xHo_37 ++ (wX1 k xaD drNa drMo drWa drDe dPe_38 dDa_2 dDr_39 dNa_40 dMo_41 dWa_42 dDe_43))) => ?_)
      refine W.eq (g2 := F0 m 97 ls ([.int r_66])) rfl ?_
      refine kb_if_eq (tgt := 104) hx hb dX3_takeAll_97 (by decide) h (fun c_97 h => ?_) (fun c_97 h => ?_)
      · refine lv_iconst (v := 0) hx hb dX3_takeAll_104 (by decide) ?_
        cases h
        exact k_zret hx hb hr hlocks hw (by decide) rfl dX3_takeAll_105 hQ
      · refine lv_iconst (v := 1) hx hb dX3_takeAll_100 (by decide) ?_
        refine lv_goto (tgt := 105) hx hb dX3_takeAll_101 (by decide) ?_
        cases h
        exact k_zret hx hb hr hlocks hw (by decide) rfl dX3_takeAll_105 hQ
  clear h
  have LP_44 : ∀ (n : Nat) (v1_11 : Int32) (v2_12 : Int32) (xLi_13 : Int32) (xFf_14 : Int32) (xFp_15 : Int32) (xPl_16 : Int32) (xSo_17 : Int32) (xSt_18 : Int32) (xVa_19 : Int32) (xDt_20 : Int32) (xHo_21 : Int32) (dPe_22 : Int32) (dDr_23 : Int32) (dNa_24 : (Nat → Int32)) (dMo_25 : (Nat → Int32)) (dWa_26 : (Nat → Int32)) (dDe_27 : (Nat → Int32)), f_X3_takeAll_L44 xBy xLe n v1_11 v2_12 xLi_13 xFf_14 xFp_15 xPl_16 xSo_17 xSt_18 xVa_19 xDt_20 xHo_21 dPe_22 dDr_23 dNa_24 dMo_25 dWa_26 dDe_27 = some (v1_28, xLi_29, xFf_30, xFp_31, xPl_32, xSo_33, xSt_34, xVa_35, xDt_36, xHo_37, dPe_38, dDr_39, dNa_40, dMo_41, dWa_42, dDe_43) → ∀ (H : Heap) (locs : List Loc) (ls : Array Slot), Wd D A s.heap H locs (wX3 k xh xrBy xaD xBy xLe xLi_13 xFf_14 xFp_15 xPl_16 xSo_17 xSt_18 xVa_19 xDt_20 xHo_21 ++ (wX1 k xaD drNa drMo drWa drDe dPe_22 dDa_2 dDr_23 dNa_24 dMo_25 dWa_26 dDe_27)) → lv_has ls 3 [(0, .ref xh), (1, .int v1_11), (2, .int v2_12)] → W p l e rmX3_takeAll s m args below meth c H locs 0 0 Q (F0 m 44 ls []) := by
    clear hL_44 hw hl
    intro n
    induction n with
    | zero => intro v1_11 v2_12 xLi_13 xFf_14 xFp_15 xPl_16 xSo_17 xSt_18 xVa_19 xDt_20 xHo_21 dPe_22 dDr_23 dNa_24 dMo_25 dWa_26 dDe_27 h; rw [f_X3_takeAll_L44] at h; cases h
    | succ n ih =>
      intro v1_11 v2_12 xLi_13 xFf_14 xFp_15 xPl_16 xSo_17 xSt_18 xVa_19 xDt_20 xHo_21 dPe_22 dDr_23 dNa_24 dMo_25 dWa_26 dDe_27 h H locs ls hw hl
      rw [f_X3_takeAll_L44] at h
      refine lv_iload_n hx hb dX3_takeAll_44 rfl (lv_at hl 2 rfl) ?_
      refine lv_aload_n hx hb dX3_takeAll_45 rfl (lv_at hl 0 rfl) ?_
      refine va_get (ci := 3) (v := .int xLe) (C := RX3) (T := TX3) (N := 12) hx hb hts hinX3 hown hK.1 hw.1 0 rfl rfl 1 (by decide) q_8 (fun _ h9 => h9) rfl dX3_takeAll_46 ?_
      refine kb_icmp_ge (tgt := 89) hx hb dX3_takeAll_49 (by decide) h (fun c_49 h => ?_) (fun c_49 h => ?_)
      · cases h
        exact X_44 _ _ _ hw (lv_sub hl [0, 1] rfl)
      · refine lv_iload_n hx hb dX3_takeAll_52 rfl (lv_at hl 1 rfl) ?_
        refine kb_if_eq (tgt := 89) hx hb dX3_takeAll_53 (by decide) h (fun c_53 h => ?_) (fun c_53 h => ?_)
        · cases h
          exact X_44 _ _ _ hw (lv_sub hl [0, 1] rfl)
        · refine lv_aload_n hx hb dX3_takeAll_56 rfl (lv_at hl 0 rfl) ?_
          refine va_get (ci := 3) (v := .int xSo_17) (C := RX3) (T := TX3) (N := 12) hx hb hts hinX3 hown hK.1 hw.1 0 rfl rfl 7 (by decide) q_9 (fun _ h9 => h9) rfl dX3_takeAll_57 ?_
          refine kb_if_eq (tgt := 89) hx hb dX3_takeAll_60 (by decide) h (fun c_60 h => ?_) (fun c_60 h => ?_)
          · cases h
            exact X_44 _ _ _ hw (lv_sub hl [0, 1] rfl)
          · refine lv_aload_n hx hb dX3_takeAll_63 rfl (lv_at hl 0 rfl) ?_
            obtain ⟨r_44, xLi_45, xFf_46, xFp_47, xPl_48, xSo_49, xSt_50, xVa_51, xDt_52, xHo_53, dPe_54, dDr_55, dNa_56, dMo_57, dWa_58, dDe_59, hf, h⟩ := b16_inv h
            refine k_callVS fx hK hA hSX hw (c_X3_takeLine aK aV l D k xh xrBy xaD drNa drMo drWa drDe _ xBy xLe xLi_13 xFf_14 xFp_15 xPl_16 xSo_17 xSt_18 xVa_19 xDt_20 xHo_21 dPe_22 dDa_2 dDr_23 dNa_24 dMo_25 dWa_26 dDe_27 r_44 xLi_45 xFf_46 xFp_47 xPl_48 xSo_49 xSt_50 xVa_51 xDt_52 xHo_53 dPe_54 dDr_55 dNa_56 dMo_57 dWa_58 dDe_59 hf) (cwV 0 hts gX3_takeAll_X3_takeLine rfl rfl rfl (by decide +kernel) ⟨by decide, by decide⟩) (As := []) (wr := []) (ws' := wX3 k xh xrBy xaD xBy xLe xLi_45 xFf_46 xFp_47 xPl_48 xSo_49 xSt_50 xVa_51 xDt_52 xHo_53 ++ (wX1 k xaD drNa drMo drWa drDe dPe_54 dDa_2 dDr_55 dNa_56 dMo_57 dWa_58 dDe_59)) [0, 1, 2, 3, 4, 5, 6] [] [0, 1, 2, 3, 4, 5, 6] rfl rfl (by decide) (by decide) (by decide) rfl (by decide) (fun hPc => va_recv (ci := 3) (q0 := 0) hK.1 hPc rfl rfl) [] rfl hl.1 rfl (Nat.le_of_ble_eq_true rfl) dX3_takeAll_64 ⟨by decide, by decide⟩ (fun H locs (hw : Wd D A s.heap H locs (wX3 k xh xrBy xaD xBy xLe xLi_45 xFf_46 xFp_47 xPl_48 xSo_49 xSt_50 xVa_51 xDt_52 xHo_53 ++ (wX1 k xaD drNa drMo drWa drDe dPe_54 dDa_2 dDr_55 dNa_56 dMo_57 dWa_58 dDe_59))) => ?_)
            refine W.eq (g2 := F0 m 67 ls ([.int r_44])) rfl ?_
            refine kb_if_eq (tgt := 81) hx hb dX3_takeAll_67 (by decide) h (fun c_67 h => ?_) (fun c_67 h => ?_)
            · refine lv_iconst (v := 0) hx hb dX3_takeAll_81 (by decide) ?_
              refine lv_istore_n (lv' := [(1, .int 0), (0, .ref xh), (2, .int v2_12)]) hx hb dX3_takeAll_82 rfl hl (by decide) rfl (fun ls hl => ?_)
              refine lv_iinc (v := v2_12 + 1) (lv' := [(2, .int (v2_12 + 1)), (1, .int 0), (0, .ref xh)]) hx hb dX3_takeAll_83 hl (k := 2) rfl rfl (by decide) rfl (fun ls hl => ?_)
              refine lv_goto (tgt := 44) hx hb dX3_takeAll_86 (by decide) ?_
              exact ih _ _ _ _ _ _ _ _ _ _ _ _ _ _ _ _ _ h _ _ _ hw (lv_sub hl [2, 1, 0] rfl)
            · refine lv_aload_n hx hb dX3_takeAll_70 rfl (lv_at hl 0 rfl) ?_
              obtain ⟨r_60, xFf_61, xFp_62, xPl_63, xSo_64, xSt_65, hf, h⟩ := b6_inv h
              refine k_callV (host := "") fx hK hA hw (c_X3_next l D k xh xrBy xaD _ xBy xLe xLi_45 xFf_46 xFp_47 xPl_48 xSo_49 xSt_50 xVa_51 xDt_52 xHo_53 r_60 xFf_61 xFp_62 xPl_63 xSo_64 xSt_65 hf) (cwV 0 hts gX3_takeAll_X3_next rfl rfl rfl (by decide +kernel) ⟨by decide, by decide⟩) (As := []) (wr := [(xaD, .inr (1, [.int dPe_54, .int dDa_2, .int dDr_55, .ref drNa, .ref drMo, .ref drWa, .ref drDe])), (drNa, .inl (k 0, 5, .inl dNa_56)), (drMo, .inl (k 0, 5, .inl dMo_57)), (drWa, .inl (k 0, 5, .inl dWa_58)), (drDe, .inl (k 0, 25, .inl dDe_59))]) (ws' := wX3 k xh xrBy xaD xBy xLe xLi_45 xFf_61 xFp_62 xPl_63 xSo_64 xSt_65 xVa_51 xDt_52 xHo_53 ++ (wX1 k xaD drNa drMo drWa drDe dPe_54 dDa_2 dDr_55 dNa_56 dMo_57 dWa_58 dDe_59)) [0, 1] [2, 3, 4, 5, 6] [5, 6, 0, 1, 2, 3, 4] rfl rfl (by decide) (by decide) (by decide) rfl (by decide) 3 rfl rfl [] rfl hl.1 rfl (Nat.le_of_ble_eq_true rfl) dX3_takeAll_71 ⟨by decide, by decide⟩ (fun H locs (hw : Wd D A s.heap H locs (wX3 k xh xrBy xaD xBy xLe xLi_45 xFf_61 xFp_62 xPl_63 xSo_64 xSt_65 xVa_51 xDt_52 xHo_53 ++ (wX1 k xaD drNa drMo drWa drDe dPe_54 dDa_2 dDr_55 dNa_56 dMo_57 dWa_58 dDe_59))) => ?_)
              refine W.eq (g2 := F0 m 74 ls ([.int r_60])) rfl ?_
              refine kb_if_eq (tgt := 81) hx hb dX3_takeAll_74 (by decide) h (fun c_74 h => ?_) (fun c_74 h => ?_)
              · refine lv_iconst (v := 0) hx hb dX3_takeAll_81 (by decide) ?_
                refine lv_istore_n (lv' := [(1, .int 0), (0, .ref xh), (2, .int v2_12)]) hx hb dX3_takeAll_82 rfl hl (by decide) rfl (fun ls hl => ?_)
                refine lv_iinc (v := v2_12 + 1) (lv' := [(2, .int (v2_12 + 1)), (1, .int 0), (0, .ref xh)]) hx hb dX3_takeAll_83 hl (k := 2) rfl rfl (by decide) rfl (fun ls hl => ?_)
                refine lv_goto (tgt := 44) hx hb dX3_takeAll_86 (by decide) ?_
                exact ih _ _ _ _ _ _ _ _ _ _ _ _ _ _ _ _ _ h _ _ _ hw (lv_sub hl [2, 1, 0] rfl)
              · refine lv_iconst (v := 1) hx hb dX3_takeAll_77 (by decide) ?_
                refine lv_goto (tgt := 82) hx hb dX3_takeAll_78 (by decide) ?_
                refine lv_istore_n (lv' := [(1, .int 1), (0, .ref xh), (2, .int v2_12)]) hx hb dX3_takeAll_82 rfl hl (by decide) rfl (fun ls hl => ?_)
                refine lv_iinc (v := v2_12 + 1) (lv' := [(2, .int (v2_12 + 1)), (1, .int 1), (0, .ref xh)]) hx hb dX3_takeAll_83 hl (k := 2) rfl rfl (by decide) rfl (fun ls hl => ?_)
                refine lv_goto (tgt := 44) hx hb dX3_takeAll_86 (by decide) ?_
                exact ih _ _ _ _ _ _ _ _ _ _ _ _ _ _ _ _ _ h _ _ _ hw (lv_sub hl [2, 1, 0] rfl)
  exact LP_44 400 r_5 0 0 xFf_6 xFp_7 xPl_8 xSo_9 xSt_10 xVa 0 (-1) dPe_1 dDr_3 dNa dMo dWa dDe_4 hL_44 _ _ _ hw (lv_sub hl [2, 1, 0] rfl)
abbrev rmX7_text : Room := { frames := 8, cells := 0, slots := 0, locals := 171 }
set_option maxHeartbeats 4000000 in
set_option maxRecDepth 100000 in
theorem c_X7_text (aK aV : Nat → Nat) (l : Launch) (D : va_G) (k : Nat → ClassId) (xh xaL xaT xaO xaF xaS xaI xaH xaR xaU lrNa lrMo lrWa lrDe rrBy raD drNa drMo drWa drDe srDy srWo srRi i0 i1 i0aL i0aS i1aL i1aS : Nat) (sz : Nat) (xTf : Int32) (xTb : Int32) (lPe : Int32) (lDa : Int32) (lDr : Int32) (lNa : (Nat → Int32)) (lMo : (Nat → Int32)) (lWa : (Nat → Int32)) (lDe : (Nat → Int32)) (rBy : (Nat → Int32)) (rLe : Int32) (rLi : Int32) (rFf : Int32) (rFp : Int32) (rPl : Int32) (rSo : Int32) (rSt : Int32) (rVa : Int32) (rDt : Int32) (rHo : Int32) (dPe : Int32) (dDa : Int32) (dDr : Int32) (dNa : (Nat → Int32)) (dMo : (Nat → Int32)) (dWa : (Nat → Int32)) (dDe : (Nat → Int32)) (sDy : (Nat → Int32)) (sWo : (Nat → Int32)) (sRi : (Nat → Int32)) (sSz : Int32) (i0Ke : Int32) (i1Ke : Int32) (r_ : Int32) (n_xTf : Int32) (n_lPe : Int32) (n_lDa : Int32) (n_lDr : Int32) (n_lNa : (Nat → Int32)) (n_lMo : (Nat → Int32)) (n_lWa : (Nat → Int32)) (n_lDe : (Nat → Int32)) (n_rLe : Int32) (n_rLi : Int32) (n_rFf : Int32) (n_rFp : Int32) (n_rPl : Int32) (n_rSo : Int32) (n_rSt : Int32) (n_rVa : Int32) (n_rDt : Int32) (n_rHo : Int32) (n_dPe : Int32) (n_dDa : Int32) (n_dDr : Int32) (n_dNa : (Nat → Int32)) (n_dMo : (Nat → Int32)) (n_dWa : (Nat → Int32)) (n_dDe : (Nat → Int32)) (n_sSz : Int32) (n_i0Ke : Int32) (n_i1Ke : Int32) (hf : f_X7_text lPe lDa lDr lNa lMo lWa lDe rBy rLe rVa dNa dMo dWa sSz i0Ke i1Ke = some (r_, n_xTf, n_lPe, n_lDa, n_lDr, n_lNa, n_lMo, n_lWa, n_lDe, n_rLe, n_rLi, n_rFf, n_rFp, n_rPl, n_rSo, n_rSt, n_rVa, n_rDt, n_rHo, n_dPe, n_dDa, n_dDr, n_dNa, n_dMo, n_dWa, n_dDe, n_sSz, n_i0Ke, n_i1Ke)) : mS aK aV l yX7_text wsX7_text rmX7_text D k sz [.ref xh] (wX7 k xh xaL xaT xaO xaF xaS xaI xaH xaR xaU xTf xTb ++ (wX1 k xaL lrNa lrMo lrWa lrDe lPe lDa lDr lNa lMo lWa lDe ++ (wX3 k xaR rrBy raD rBy rLe rLi rFf rFp rPl rSo rSt rVa rDt rHo ++ (wX1 k raD drNa drMo drWa drDe dPe dDa dDr dNa dMo dWa dDe ++ (wX5 k xaS srDy srWo srRi sDy sWo sRi sSz ++ (wIA k xaI i0 i1 ++ (wX0 k i0 i0aL i0aS i0Ke ++ (wX0 k i1 i1aL i1aS i1Ke)))))))) (wX7 k xh xaL xaT xaO xaF xaS xaI xaH xaR xaU n_xTf xTb ++ (wX1 k xaL lrNa lrMo lrWa lrDe n_lPe n_lDa n_lDr n_lNa n_lMo n_lWa n_lDe ++ (wX3 k xaR rrBy raD rBy n_rLe n_rLi n_rFf n_rFp n_rPl n_rSo n_rSt n_rVa n_rDt n_rHo ++ (wX1 k raD drNa drMo drWa drDe n_dPe n_dDa n_dDr n_dNa n_dMo n_dWa n_dDe ++ (wX5 k xaS srDy srWo srRi sDy sWo sRi n_sSz ++ (wIA k xaI i0 i1 ++ (wX0 k i0 i0aL i0aS n_i0Ke ++ (wX0 k i1 i1aL i1aS n_i1Ke)))))))) (some (.int r_)) := by
  refine mS_of (cc := cX7_text) (maxL := 3) (ret := some .int) (by decide) rfl (Nat.le_of_ble_eq_true rfl) [(0, .ref xh)] rfl ?_
  intro p e s m below meth c A ls args Q cx hK hA hw hl hQ hSX
  have fx := cx.1
  obtain ⟨⟨hx, hb, hml, hown, hts⟩, hr, hlocks⟩ := cx
  have hinX7 : ∀ w ∈ wsX70, w ∈ wsX7_text := fun w h => List.mem_cons_of_mem _ (List.mem_append_left _ (List.mem_append_left _ (List.mem_append_left _ (List.mem_append_left _ (List.mem_append_right _ h)))))
  have hinX3 : ∀ w ∈ wsX30, w ∈ wsX7_text := fun w h => List.mem_cons_of_mem _ (List.mem_append_left _ (List.mem_append_left _ (List.mem_append_left _ (List.mem_append_right _ h))))
  have hinX5 : ∀ w ∈ wsX50, w ∈ wsX7_text := fun w h => List.mem_cons_of_mem _ (List.mem_append_left _ (List.mem_append_left _ (List.mem_append_right _ h)))
  have hinX0 : ∀ w ∈ wsX00, w ∈ wsX7_text := fun w h => List.mem_cons_of_mem _ (List.mem_append_left _ (List.mem_append_right _ h))
  have q_1 := hts (.fieldLink RX7 57 "DebtRides" "reader" "LDebtRides$Reader;") (List.mem_of_getElem? (i := 1) rfl)
  have q_2 := hts (.fieldLink RX7 69 "DebtRides$Reader" "length" "I") (List.mem_of_getElem? (i := 2) rfl)
  have q_3 := hts (.fieldLink RX7 80 "DebtRides$Reader" "foundFault" "I") (List.mem_of_getElem? (i := 3) rfl)
  have q_4 := hts (.fieldLink RX7 83 "DebtRides" "textFault" "I") (List.mem_of_getElem? (i := 4) rfl)
  have q_6 := hts (.fieldLink RX7 10 "DebtRides" "land" "LDebtRides$Land;") (List.mem_of_getElem? (i := 6) rfl)
  have q_7 := hts (.fieldLink RX7 89 "DebtRides$Reader" "draft" "LDebtRides$Land;") (List.mem_of_getElem? (i := 7) rfl)
  have q_8 := hts (.fieldLink RX7 36 "DebtRides" "seen" "LDebtRides$Seen;") (List.mem_of_getElem? (i := 8) rfl)
  have q_9 := hts (.fieldLink RX7 96 "DebtRides$Seen" "size" "I") (List.mem_of_getElem? (i := 9) rfl)
  have q_10 := hts (.fieldLink RX7 42 "DebtRides" "images" "[LDebtRides$Image;") (List.mem_of_getElem? (i := 10) rfl)
  have q_11 := hts (.fieldLink RX7 99 "DebtRides$Image" "kept" "Z") (List.mem_of_getElem? (i := 11) rfl)
  have q_12 := hts (.fieldLink RX7 103 "DebtRides$Reader" "lines" "I") (List.mem_of_getElem? (i := 12) rfl)
  have q_5 := hts (.fieldLink RX7 86 "DebtRides$Reader" "foundPlace" "I") (List.mem_of_getElem? (i := 5) rfl)
  have h := hf
  unfold f_X7_text at h
  clear hf
  refine lv_aload_n hx hb dX7_text_0 rfl (lv_at hl 0 rfl) ?_
  refine va_get (ci := 7) (v := .ref xaR) (C := RX7) (T := TX7) (N := 11) hx hb hts hinX7 hown hK.1 hw.1 0 rfl rfl 7 (by decide) q_1 (fun _ h9 => h9) rfl dX7_text_1 ?_
  obtain ⟨r_1, rLi_2, rFf_3, rFp_4, rPl_5, rSo_6, rSt_7, rVa_8, rDt_9, rHo_10, dPe_11, dDa_12, dDr_13, dNa_14, dMo_15, dWa_16, dDe_17, hf, h⟩ := b17_inv h
  refine k_callVS fx hK hA hSX hw (c_X3_takeAll aK aV l D k xaR rrBy raD drNa drMo drWa drDe _ rBy rLe rLi rFf rFp rPl rSo rSt rVa rDt rHo dPe dDa dDr dNa dMo dWa dDe r_1 rLi_2 rFf_3 rFp_4 rPl_5 rSo_6 rSt_7 rVa_8 rDt_9 rHo_10 dPe_11 dDa_12 dDr_13 dNa_14 dMo_15 dWa_16 dDe_17 hf) (cwV 0 hts gX7_text_X3_takeAll rfl rfl rfl (by decide +kernel) ⟨by decide, by decide⟩) (As := []) (wr := [(xh, .inr (7, [.ref xaL, .ref xaT, .ref xaO, .ref xaF, .ref xaS, .ref xaI, .ref xaH, .ref xaR, .ref xaU, .int xTf, .int xTb])), (xaL, .inr (1, [.int lPe, .int lDa, .int lDr, .ref lrNa, .ref lrMo, .ref lrWa, .ref lrDe])), (lrNa, .inl (k 0, 5, .inl lNa)), (lrMo, .inl (k 0, 5, .inl lMo)), (lrWa, .inl (k 0, 5, .inl lWa)), (lrDe, .inl (k 0, 25, .inl lDe)), (xaS, .inr (5, [.ref srDy, .ref srWo, .ref srRi, .int sSz])), (srDy, .inl (k 0, 6, .inl sDy)), (srWo, .inl (k 0, 6, .inl sWo)), (srRi, .inl (k 0, 6, .inl sRi)), (xaI, .inl (k 2, 2, .inr (.inr (.inr (.inr (rl [i0, i1])))))), (i0, .inr (0, [.int i0Ke, .ref i0aL, .ref i0aS])), (i1, .inr (0, [.int i1Ke, .ref i1aL, .ref i1aS]))]) (ws' := wX7 k xh xaL xaT xaO xaF xaS xaI xaH xaR xaU xTf xTb ++ (wX1 k xaL lrNa lrMo lrWa lrDe lPe lDa lDr lNa lMo lWa lDe ++ (wX3 k xaR rrBy raD rBy rLe rLi_2 rFf_3 rFp_4 rPl_5 rSo_6 rSt_7 rVa_8 rDt_9 rHo_10 ++ (wX1 k raD drNa drMo drWa drDe dPe_11 dDa_12 dDr_13 dNa_14 dMo_15 dWa_16 dDe_17 ++ (wX5 k xaS srDy srWo srRi sDy sWo sRi sSz ++ (wIA k xaI i0 i1 ++ (wX0 k i0 i0aL i0aS i0Ke ++ (wX0 k i1 i1aL i1aS i1Ke)))))))) [6, 7, 8, 9, 10, 11, 12] [0, 1, 2, 3, 4, 5, 13, 14, 15, 16, 17, 18, 19] [0, 1, 2, 3, 4, 5, 13, 14, 15, 16, 17, 18, 19, 6, 7, 8, 9, 10, 11, 12] rfl rfl (by decide) (by decide) (by decide) rfl (by decide) (fun hPc => va_recv (ci := 3) (q0 := 0) hK.1 hPc rfl rfl) [] rfl hl.1 rfl (Nat.le_of_ble_eq_true rfl) dX7_text_4 ⟨by decide, by decide⟩ (fun H locs (hw : Wd D A s.heap H locs (wX7 k xh xaL xaT xaO xaF xaS xaI xaH xaR xaU xTf xTb ++ (wX1 k xaL lrNa lrMo lrWa lrDe lPe lDa lDr lNa lMo lWa lDe ++ (wX3 k xaR rrBy raD rBy rLe rLi_2 rFf_3 rFp_4 rPl_5 rSo_6 rSt_7 rVa_8 rDt_9 rHo_10 ++ (wX1 k raD drNa drMo drWa drDe dPe_11 dDa_12 dDr_13 dNa_14 dMo_15 dWa_16 dDe_17 ++ (wX5 k xaS srDy srWo srRi sDy sWo sRi sSz ++ (wIA k xaI i0 i1 ++ (wX0 k i0 i0aL i0aS i0Ke ++ (wX0 k i1 i1aL i1aS i1Ke))))))))) => ?_)
  refine W.eq (g2 := F0 m 7 ls ([.int r_1])) rfl ?_
  refine lv_istore_n (lv' := [(1, .int r_1), (0, .ref xh)]) hx hb dX7_text_7 rfl hl (by decide) rfl (fun ls hl => ?_)
  refine lv_aload_n hx hb dX7_text_8 rfl (lv_at hl 1 rfl) ?_
  refine va_get (ci := 7) (v := .ref xaR) (C := RX7) (T := TX7) (N := 11) hx hb hts hinX7 hown hK.1 hw.1 0 rfl rfl 7 (by decide) q_1 (fun _ h9 => h9) rfl dX7_text_9 ?_
  refine lv_iconst (v := 0) hx hb dX7_text_12 (by decide) ?_
  refine va_put (ci := 3) (v := .int 0) (ty := tyX3 1) (C := RX3) (T := TX3) (N := 12) hx hb hts hinX3 tyX3 tyX3_ok nmX3 hown hK.1 hw.1 hw.2.1 hw.2.2 6 rfl rfl 1 (by decide) q_2 (fun _ h9 => h9) rfl (tyX3_ok 1 (by decide)) rfl rfl (Nat.le_of_ble_eq_true rfl) dX7_text_13 (fun H locs hP hD hS => ?_)
  have hw : Wd D A s.heap H locs (wX7 k xh xaL xaT xaO xaF xaS xaI xaH xaR xaU xTf xTb ++ (wX1 k xaL lrNa lrMo lrWa lrDe lPe lDa lDr lNa lMo lWa lDe ++ (wX3 k xaR rrBy raD rBy 0 rLi_2 rFf_3 rFp_4 rPl_5 rSo_6 rSt_7 rVa_8 rDt_9 rHo_10 ++ (wX1 k raD drNa drMo drWa drDe dPe_11 dDa_12 dDr_13 dNa_14 dMo_15 dWa_16 dDe_17 ++ (wX5 k xaS srDy srWo srRi sDy sWo sRi sSz ++ (wIA k xaI i0 i1 ++ (wX0 k i0 i0aL i0aS i0Ke ++ (wX0 k i1 i1aL i1aS i1Ke)))))))) := ⟨hP, hD, hS⟩
  refine lv_aload_n hx hb dX7_text_16 rfl (lv_at hl 1 rfl) ?_
  refine lv_aload_n hx hb dX7_text_17 rfl (lv_at hl 1 rfl) ?_
  refine va_get (ci := 7) (v := .ref xaR) (C := RX7) (T := TX7) (N := 11) hx hb hts hinX7 hown hK.1 hw.1 0 rfl rfl 7 (by decide) q_1 (fun _ h9 => h9) rfl dX7_text_18 ?_
  refine va_get (ci := 3) (v := .int rFf_3) (C := RX3) (T := TX3) (N := 12) hx hb hts hinX3 hown hK.1 hw.1 6 rfl rfl 4 (by decide) q_3 (fun _ h9 => h9) rfl dX7_text_21 ?_
  refine va_put (ci := 7) (v := .int rFf_3) (ty := tyX7 9) (C := RX7) (T := TX7) (N := 11) hx hb hts hinX7 tyX7 tyX7_ok nmX7 hown hK.1 hw.1 hw.2.1 hw.2.2 0 rfl rfl 9 (by decide) q_4 (fun _ h9 => h9) rfl (tyX7_ok 9 (by decide)) rfl rfl (Nat.le_of_ble_eq_true rfl) dX7_text_24 (fun H locs hP hD hS => ?_)
  have hw : Wd D A s.heap H locs (wX7 k xh xaL xaT xaO xaF xaS xaI xaH xaR xaU rFf_3 xTb ++ (wX1 k xaL lrNa lrMo lrWa lrDe lPe lDa lDr lNa lMo lWa lDe ++ (wX3 k xaR rrBy raD rBy 0 rLi_2 rFf_3 rFp_4 rPl_5 rSo_6 rSt_7 rVa_8 rDt_9 rHo_10 ++ (wX1 k raD drNa drMo drWa drDe dPe_11 dDa_12 dDr_13 dNa_14 dMo_15 dWa_16 dDe_17 ++ (wX5 k xaS srDy srWo srRi sDy sWo sRi sSz ++ (wIA k xaI i0 i1 ++ (wX0 k i0 i0aL i0aS i0Ke ++ (wX0 k i1 i1aL i1aS i1Ke)))))))) := ⟨hP, hD, hS⟩
  refine lv_iload_n hx hb dX7_text_27 rfl (lv_at hl 0 rfl) ?_
  refine kb_if_ne (tgt := 42) hx hb dX7_text_28 (by decide) h (fun c_28 h => ?_) (fun c_28 h => ?_)
  · refine lv_bipush (v := (-10)) hx hb dX7_text_31 (by decide) ?_
    refine lv_aload_n hx hb dX7_text_33 rfl (lv_at hl 1 rfl) ?_
    refine va_get (ci := 7) (v := .ref xaR) (C := RX7) (T := TX7) (N := 11) hx hb hts hinX7 hown hK.1 hw.1 0 rfl rfl 7 (by decide) q_1 (fun _ h9 => h9) rfl dX7_text_34 ?_
    refine va_get (ci := 3) (v := .int rFp_4) (C := RX3) (T := TX3) (N := 12) hx hb hts hinX3 hown hK.1 hw.1 6 rfl rfl 5 (by decide) q_5 (fun _ h9 => h9) rfl dX7_text_37 ?_
    refine lv_isub hx hb dX7_text_40 ?_
    have g0 := Option.some.inj h
    clear h
    obtain ⟨e0, g1⟩ := Prod.mk.inj g0
    obtain ⟨e1, g2⟩ := Prod.mk.inj g1
    obtain ⟨e2, g3⟩ := Prod.mk.inj g2
    obtain ⟨e3, g4⟩ := Prod.mk.inj g3
    obtain ⟨e4, g5⟩ := Prod.mk.inj g4
    obtain ⟨e5, g6⟩ := Prod.mk.inj g5
    obtain ⟨e6, g7⟩ := Prod.mk.inj g6
    obtain ⟨e7, g8⟩ := Prod.mk.inj g7
    obtain ⟨e8, g9⟩ := Prod.mk.inj g8
    obtain ⟨e9, g10⟩ := Prod.mk.inj g9
    obtain ⟨e10, g11⟩ := Prod.mk.inj g10
    obtain ⟨e11, g12⟩ := Prod.mk.inj g11
    obtain ⟨e12, g13⟩ := Prod.mk.inj g12
    obtain ⟨e13, g14⟩ := Prod.mk.inj g13
    obtain ⟨e14, g15⟩ := Prod.mk.inj g14
    obtain ⟨e15, g16⟩ := Prod.mk.inj g15
    obtain ⟨e16, g17⟩ := Prod.mk.inj g16
    obtain ⟨e17, g18⟩ := Prod.mk.inj g17
    obtain ⟨e18, g19⟩ := Prod.mk.inj g18
    obtain ⟨e19, g20⟩ := Prod.mk.inj g19
    obtain ⟨e20, g21⟩ := Prod.mk.inj g20
    obtain ⟨e21, g22⟩ := Prod.mk.inj g21
    obtain ⟨e22, g23⟩ := Prod.mk.inj g22
    obtain ⟨e23, g24⟩ := Prod.mk.inj g23
    obtain ⟨e24, g25⟩ := Prod.mk.inj g24
    obtain ⟨e25, g26⟩ := Prod.mk.inj g25
    obtain ⟨e26, g27⟩ := Prod.mk.inj g26
    obtain ⟨e27, g28⟩ := Prod.mk.inj g27
    subst e0; subst e1; subst e2; subst e3; subst e4; subst e5; subst e6; subst e7; subst e8; subst e9; subst e10; subst e11; subst e12; subst e13; subst e14; subst e15; subst e16; subst e17; subst e18; subst e19; subst e20; subst e21; subst e22; subst e23; subst e24; subst e25; subst e26; subst e27; subst g28
    exact k_iret hx hb hr hlocks hw rfl dX7_text_41 hQ
  · refine lv_aload_n hx hb dX7_text_42 rfl (lv_at hl 1 rfl) ?_
    refine va_get (ci := 7) (v := .ref xaL) (C := RX7) (T := TX7) (N := 11) hx hb hts hinX7 hown hK.1 hw.1 0 rfl rfl 0 (by decide) q_6 (fun _ h9 => h9) rfl dX7_text_43 ?_
    refine lv_aload_n hx hb dX7_text_46 rfl (lv_at hl 1 rfl) ?_
    refine va_get (ci := 7) (v := .ref xaR) (C := RX7) (T := TX7) (N := 11) hx hb hts hinX7 hown hK.1 hw.1 0 rfl rfl 7 (by decide) q_1 (fun _ h9 => h9) rfl dX7_text_47 ?_
    refine va_get (ci := 3) (v := .ref raD) (C := RX3) (T := TX3) (N := 12) hx hb hts hinX3 hown hK.1 hw.1 6 rfl rfl 2 (by decide) q_7 (fun _ h9 => h9) rfl dX7_text_50 ?_
    obtain ⟨lPe_18, lDa_19, lDr_20, lNa_21, lMo_22, lWa_23, lDe_24, hf, h⟩ := b7_inv h
    refine k_callV (host := "") fx hK hA hw (c_X1_become l D k xaL lrNa lrMo lrWa lrDe raD drNa drMo drWa drDe _ lPe lDa lDr lNa lMo lWa lDe dPe_11 dDa_12 dDr_13 dNa_14 dMo_15 dWa_16 dDe_17 lPe_18 lDa_19 lDr_20 lNa_21 lMo_22 lWa_23 lDe_24 hf) (cwV 1 hts gX7_text_X1_become rfl rfl rfl (by decide +kernel) ⟨by decide, by decide⟩) (As := [.ref raD]) (wr := [(xh, .inr (7, [.ref xaL, .ref xaT, .ref xaO, .ref xaF, .ref xaS, .ref xaI, .ref xaH, .ref xaR, .ref xaU, .int rFf_3, .int xTb])), (xaR, .inr (3, [.ref rrBy, .int 0, .ref raD, .int rLi_2, .int rFf_3, .int rFp_4, .int rPl_5, .int rSo_6, .int rSt_7, .int rVa_8, .int rDt_9, .int rHo_10])), (rrBy, .inl (k 0, 160, .inl rBy)), (xaS, .inr (5, [.ref srDy, .ref srWo, .ref srRi, .int sSz])), (srDy, .inl (k 0, 6, .inl sDy)), (srWo, .inl (k 0, 6, .inl sWo)), (srRi, .inl (k 0, 6, .inl sRi)), (xaI, .inl (k 2, 2, .inr (.inr (.inr (.inr (rl [i0, i1])))))), (i0, .inr (0, [.int i0Ke, .ref i0aL, .ref i0aS])), (i1, .inr (0, [.int i1Ke, .ref i1aL, .ref i1aS]))]) (ws' := wX7 k xh xaL xaT xaO xaF xaS xaI xaH xaR xaU rFf_3 xTb ++ (wX1 k xaL lrNa lrMo lrWa lrDe lPe_18 lDa_19 lDr_20 lNa_21 lMo_22 lWa_23 lDe_24 ++ (wX3 k xaR rrBy raD rBy 0 rLi_2 rFf_3 rFp_4 rPl_5 rSo_6 rSt_7 rVa_8 rDt_9 rHo_10 ++ (wX1 k raD drNa drMo drWa drDe dPe_11 dDa_12 dDr_13 dNa_14 dMo_15 dWa_16 dDe_17 ++ (wX5 k xaS srDy srWo srRi sDy sWo sRi sSz ++ (wIA k xaI i0 i1 ++ (wX0 k i0 i0aL i0aS i0Ke ++ (wX0 k i1 i1aL i1aS i1Ke)))))))) [1, 2, 3, 4, 5, 8, 9, 10, 11, 12] [0, 6, 7, 13, 14, 15, 16, 17, 18, 19] [0, 10, 11, 12, 13, 14, 1, 2, 15, 16, 17, 18, 19, 3, 4, 5, 6, 7, 8, 9] rfl rfl (by decide) (by decide) (by decide) rfl (by decide) 1 rfl rfl [] rfl hl.1 rfl (Nat.le_of_ble_eq_true rfl) dX7_text_53 ⟨by decide, by decide⟩ (fun H locs (hw : Wd D A s.heap H locs (wX7 k xh xaL xaT xaO xaF xaS xaI xaH xaR xaU rFf_3 xTb ++ (wX1 k xaL lrNa lrMo lrWa lrDe lPe_18 lDa_19 lDr_20 lNa_21 lMo_22 lWa_23 lDe_24 ++ (wX3 k xaR rrBy raD rBy 0 rLi_2 rFf_3 rFp_4 rPl_5 rSo_6 rSt_7 rVa_8 rDt_9 rHo_10 ++ (wX1 k raD drNa drMo drWa drDe dPe_11 dDa_12 dDr_13 dNa_14 dMo_15 dWa_16 dDe_17 ++ (wX5 k xaS srDy srWo srRi sDy sWo sRi sSz ++ (wIA k xaI i0 i1 ++ (wX0 k i0 i0aL i0aS i0Ke ++ (wX0 k i1 i1aL i1aS i1Ke))))))))) => ?_)
    refine W.eq (g2 := F0 m 56 ls ([])) rfl ?_
    refine lv_aload_n hx hb dX7_text_56 rfl (lv_at hl 1 rfl) ?_
    refine va_get (ci := 7) (v := .ref xaS) (C := RX7) (T := TX7) (N := 11) hx hb hts hinX7 hown hK.1 hw.1 0 rfl rfl 4 (by decide) q_8 (fun _ h9 => h9) rfl dX7_text_57 ?_
    refine lv_iconst (v := 0) hx hb dX7_text_60 (by decide) ?_
    refine va_put (ci := 5) (v := .int 0) (ty := tyX5 3) (C := RX5) (T := TX5) (N := 4) hx hb hts hinX5 tyX5 tyX5_ok nmX5 hown hK.1 hw.1 hw.2.1 hw.2.2 13 rfl rfl 3 (by decide) q_9 (fun _ h9 => h9) rfl (tyX5_ok 3 (by decide)) rfl rfl (Nat.le_of_ble_eq_true rfl) dX7_text_61 (fun H locs hP hD hS => ?_)
    have hw : Wd D A s.heap H locs (wX7 k xh xaL xaT xaO xaF xaS xaI xaH xaR xaU rFf_3 xTb ++ (wX1 k xaL lrNa lrMo lrWa lrDe lPe_18 lDa_19 lDr_20 lNa_21 lMo_22 lWa_23 lDe_24 ++ (wX3 k xaR rrBy raD rBy 0 rLi_2 rFf_3 rFp_4 rPl_5 rSo_6 rSt_7 rVa_8 rDt_9 rHo_10 ++ (wX1 k raD drNa drMo drWa drDe dPe_11 dDa_12 dDr_13 dNa_14 dMo_15 dWa_16 dDe_17 ++ (wX5 k xaS srDy srWo srRi sDy sWo sRi 0 ++ (wIA k xaI i0 i1 ++ (wX0 k i0 i0aL i0aS i0Ke ++ (wX0 k i1 i1aL i1aS i1Ke)))))))) := ⟨hP, hD, hS⟩
    refine lv_iconst (v := 0) hx hb dX7_text_64 (by decide) ?_
    refine lv_istore_n (lv' := [(2, .int 0), (1, .int r_1), (0, .ref xh)]) hx hb dX7_text_65 rfl hl (by decide) rfl (fun ls hl => ?_)
    obtain ⟨i0Ke_28, i1Ke_29, hL_66, h⟩ := b2_inv h
    have X_66 : ∀ (H : Heap) (locs : List Loc) (ls : Array Slot), Wd D A s.heap H locs (wX7 k xh xaL xaT xaO xaF xaS xaI xaH xaR xaU rFf_3 xTb ++ (wX1 k xaL lrNa lrMo lrWa lrDe lPe_18 lDa_19 lDr_20 lNa_21 lMo_22 lWa_23 lDe_24 ++ (wX3 k xaR rrBy raD rBy 0 rLi_2 rFf_3 rFp_4 rPl_5 rSo_6 rSt_7 rVa_8 rDt_9 rHo_10 ++ (wX1 k raD drNa drMo drWa drDe dPe_11 dDa_12 dDr_13 dNa_14 dMo_15 dWa_16 dDe_17 ++ (wX5 k xaS srDy srWo srRi sDy sWo sRi 0 ++ (wIA k xaI i0 i1 ++ (wX0 k i0 i0aL i0aS i0Ke_28 ++ (wX0 k i1 i1aL i1aS i1Ke_29)))))))) → lv_has ls 3 [(0, .ref xh)] → W p l e rmX7_text s m args below meth c H locs 0 0 Q (F0 m 87 ls []) := by
      intro H locs ls hw hl
      refine lv_aload_n hx hb dX7_text_87 rfl (lv_at hl 0 rfl) ?_
      refine va_get (ci := 7) (v := .ref xaR) (C := RX7) (T := TX7) (N := 11) hx hb hts hinX7 hown hK.1 hw.1 0 rfl rfl 7 (by decide) q_1 (fun _ h9 => h9) rfl dX7_text_88 ?_
      refine va_get (ci := 3) (v := .int rLi_2) (C := RX3) (T := TX3) (N := 12) hx hb hts hinX3 hown hK.1 hw.1 6 rfl rfl 3 (by decide) q_12 (fun _ h9 => h9) rfl dX7_text_91 ?_
      cases h
      exact k_iret hx hb hr hlocks hw rfl dX7_text_94 hQ
    clear h
    have LP_66 : ∀ (n : Nat) (v2_25 : Int32) (i0Ke_26 : Int32) (i1Ke_27 : Int32), f_X7_text_L66 n v2_25 i0Ke_26 i1Ke_27 = some (i0Ke_28, i1Ke_29) → ∀ (H : Heap) (locs : List Loc) (ls : Array Slot), Wd D A s.heap H locs (wX7 k xh xaL xaT xaO xaF xaS xaI xaH xaR xaU rFf_3 xTb ++ (wX1 k xaL lrNa lrMo lrWa lrDe lPe_18 lDa_19 lDr_20 lNa_21 lMo_22 lWa_23 lDe_24 ++ (wX3 k xaR rrBy raD rBy 0 rLi_2 rFf_3 rFp_4 rPl_5 rSo_6 rSt_7 rVa_8 rDt_9 rHo_10 ++ (wX1 k raD drNa drMo drWa drDe dPe_11 dDa_12 dDr_13 dNa_14 dMo_15 dWa_16 dDe_17 ++ (wX5 k xaS srDy srWo srRi sDy sWo sRi 0 ++ (wIA k xaI i0 i1 ++ (wX0 k i0 i0aL i0aS i0Ke_26 ++ (wX0 k i1 i1aL i1aS i1Ke_27)))))))) → lv_has ls 3 [(0, .ref xh), (2, .int v2_25)] → W p l e rmX7_text s m args below meth c H locs 0 0 Q (F0 m 66 ls []) := by
      clear hL_66 hw hl
      intro n
      induction n with
      | zero => intro v2_25 i0Ke_26 i1Ke_27 h; rw [f_X7_text_L66] at h; cases h
      | succ n ih =>
        intro v2_25 i0Ke_26 i1Ke_27 h H locs ls hw hl
        rw [f_X7_text_L66] at h
        refine lv_iload_n hx hb dX7_text_66 rfl (lv_at hl 1 rfl) ?_
        refine lv_iconst (v := 2) hx hb dX7_text_67 (by decide) ?_
        refine kb_icmp_ge (tgt := 87) hx hb dX7_text_68 (by decide) h (fun c_68 h => ?_) (fun c_68 h => ?_)
        · cases h
          exact X_66 _ _ _ hw (lv_sub hl [0] rfl)
        · refine lv_aload_n hx hb dX7_text_71 rfl (lv_at hl 0 rfl) ?_
          refine va_get (ci := 7) (v := .ref xaI) (C := RX7) (T := TX7) (N := 11) hx hb hts hinX7 hown hK.1 hw.1 0 rfl rfl 5 (by decide) q_10 (fun _ h9 => h9) rfl dX7_text_72 ?_
          refine lv_iload_n hx hb dX7_text_75 rfl (lv_at hl 1 rfl) ?_
          by_cases c_76 : v2_25 = 0
          · rw [if_pos c_76] at h
            refine k_aald hx hb hK hw 17 2 (j := 0) (a' := i0) rfl rfl c_76 (by unfold vp_in; decide) rfl dX7_text_76 ?_
            refine lv_iconst (v := 0) hx hb dX7_text_77 (by decide) ?_
            refine va_put (ci := 0) (v := .int 0) (ty := tyX0 0) (C := RX0) (T := TX0) (N := 3) hx hb hts hinX0 tyX0 tyX0_ok nmX0 hown hK.1 hw.1 hw.2.1 hw.2.2 18 rfl rfl 0 (by decide) q_11 (fun _ h9 => h9) rfl (tyX0_ok 0 (by decide)) rfl rfl (Nat.le_of_ble_eq_true rfl) dX7_text_78 (fun H locs hP hD hS => ?_)
            have hw : Wd D A s.heap H locs (wX7 k xh xaL xaT xaO xaF xaS xaI xaH xaR xaU rFf_3 xTb ++ (wX1 k xaL lrNa lrMo lrWa lrDe lPe_18 lDa_19 lDr_20 lNa_21 lMo_22 lWa_23 lDe_24 ++ (wX3 k xaR rrBy raD rBy 0 rLi_2 rFf_3 rFp_4 rPl_5 rSo_6 rSt_7 rVa_8 rDt_9 rHo_10 ++ (wX1 k raD drNa drMo drWa drDe dPe_11 dDa_12 dDr_13 dNa_14 dMo_15 dWa_16 dDe_17 ++ (wX5 k xaS srDy srWo srRi sDy sWo sRi 0 ++ (wIA k xaI i0 i1 ++ (wX0 k i0 i0aL i0aS 0 ++ (wX0 k i1 i1aL i1aS i1Ke_27)))))))) := ⟨hP, hD, hS⟩
            refine lv_iinc (v := v2_25 + 1) (lv' := [(2, .int (v2_25 + 1)), (0, .ref xh)]) hx hb dX7_text_81 hl (k := 1) rfl rfl (by decide) rfl (fun ls hl => ?_)
            refine lv_goto (tgt := 66) hx hb dX7_text_84 (by decide) ?_
            exact ih _ _ _ h _ _ _ hw (lv_sub hl [1, 0] rfl)
          · rw [if_neg c_76] at h
            by_cases c_76 : v2_25 = 1
            · rw [if_pos c_76] at h
              refine k_aald hx hb hK hw 17 2 (j := 1) (a' := i1) rfl rfl c_76 (by unfold vp_in; decide) rfl dX7_text_76 ?_
              refine lv_iconst (v := 0) hx hb dX7_text_77 (by decide) ?_
              refine va_put (ci := 0) (v := .int 0) (ty := tyX0 0) (C := RX0) (T := TX0) (N := 3) hx hb hts hinX0 tyX0 tyX0_ok nmX0 hown hK.1 hw.1 hw.2.1 hw.2.2 19 rfl rfl 0 (by decide) q_11 (fun _ h9 => h9) rfl (tyX0_ok 0 (by decide)) rfl rfl (Nat.le_of_ble_eq_true rfl) dX7_text_78 (fun H locs hP hD hS => ?_)
              have hw : Wd D A s.heap H locs (wX7 k xh xaL xaT xaO xaF xaS xaI xaH xaR xaU rFf_3 xTb ++ (wX1 k xaL lrNa lrMo lrWa lrDe lPe_18 lDa_19 lDr_20 lNa_21 lMo_22 lWa_23 lDe_24 ++ (wX3 k xaR rrBy raD rBy 0 rLi_2 rFf_3 rFp_4 rPl_5 rSo_6 rSt_7 rVa_8 rDt_9 rHo_10 ++ (wX1 k raD drNa drMo drWa drDe dPe_11 dDa_12 dDr_13 dNa_14 dMo_15 dWa_16 dDe_17 ++ (wX5 k xaS srDy srWo srRi sDy sWo sRi 0 ++ (wIA k xaI i0 i1 ++ (wX0 k i0 i0aL i0aS i0Ke_26 ++ (wX0 k i1 i1aL i1aS 0)))))))) := ⟨hP, hD, hS⟩
              refine lv_iinc (v := v2_25 + 1) (lv' := [(2, .int (v2_25 + 1)), (0, .ref xh)]) hx hb dX7_text_81 hl (k := 1) rfl rfl (by decide) rfl (fun ls hl => ?_)
              refine lv_goto (tgt := 66) hx hb dX7_text_84 (by decide) ?_
              exact ih _ _ _ h _ _ _ hw (lv_sub hl [1, 0] rfl)
            · rw [if_neg c_76] at h
              cases h
    exact LP_66 400 0 i0Ke i1Ke hL_66 _ _ _ hw (lv_sub hl [2, 0] rfl)
