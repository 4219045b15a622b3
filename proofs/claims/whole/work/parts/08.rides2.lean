abbrev rmX7_see : Room := { frames := 1, cells := 0, slots := 0, locals := 23 }
set_option maxHeartbeats 4000000 in
set_option maxRecDepth 100000 in
theorem c_X7_see (l : Launch) (D : va_G) (k : Nat → ClassId) (xh xaL xaT xaO xaF xaS xaI xaH xaR xaU lrNa lrMo lrWa lrDe srDy srWo srRi : Nat) (sz : Nat) (xTf : Int32) (xTb : Int32) (lPe : Int32) (lDa : Int32) (lDr : Int32) (lNa : (Nat → Int32)) (lMo : (Nat → Int32)) (lWa : (Nat → Int32)) (lDe : (Nat → Int32)) (sDy : (Nat → Int32)) (sWo : (Nat → Int32)) (sRi : (Nat → Int32)) (sSz : Int32) (p1 : Int32) (p2 : Int32) (p3 : Int32) (r_ : Int32) (n_sDy : (Nat → Int32)) (n_sWo : (Nat → Int32)) (n_sRi : (Nat → Int32)) (n_sSz : Int32) (hf : f_X7_see lPe sDy sWo sRi sSz p1 p2 p3 = some (r_, n_sDy, n_sWo, n_sRi, n_sSz)) : mR l yX7_see wsX7_see rmX7_see D k sz [.ref xh, .int p1, .int p2, .int p3] (wX7 k xh xaL xaT xaO xaF xaS xaI xaH xaR xaU xTf xTb ++ (wX1 k xaL lrNa lrMo lrWa lrDe lPe lDa lDr lNa lMo lWa lDe ++ (wX5 k xaS srDy srWo srRi sDy sWo sRi sSz))) (wX7 k xh xaL xaT xaO xaF xaS xaI xaH xaR xaU xTf xTb ++ (wX1 k xaL lrNa lrMo lrWa lrDe lPe lDa lDr lNa lMo lWa lDe ++ (wX5 k xaS srDy srWo srRi n_sDy n_sWo n_sRi n_sSz))) (some (.int r_)) := by
  refine mR_of (cc := cX7_see) (maxL := 4) (ret := some .int) (by decide) rfl (Nat.le_of_ble_eq_true rfl) [(0, .ref xh), (1, .int p1), (2, .int p2), (3, .int p3)] rfl ?_
  intro p e s m below meth c A ls args Q cx hK hA hw hl hQ
  have fx := cx.1
  obtain ⟨⟨hx, hb, hml, hown, hts⟩, hr, hlocks⟩ := cx
  have hinX7 : ∀ w ∈ wsX70, w ∈ wsX7_see := fun w h => List.mem_cons_of_mem _ (List.mem_append_left _ (List.mem_append_left _ (List.mem_append_right _ h)))
  have hinX5 : ∀ w ∈ wsX50, w ∈ wsX7_see := fun w h => List.mem_cons_of_mem _ (List.mem_append_left _ (List.mem_append_right _ h))
  have q_1 := hts (.fieldLink RX7 10 "DebtRides" "land" "LDebtRides$Land;") (List.mem_of_getElem? (i := 1) rfl)
  have q_2 := hts (.fieldLink RX7 36 "DebtRides" "seen" "LDebtRides$Seen;") (List.mem_of_getElem? (i := 2) rfl)
  have q_3 := hts (.fieldLink RX7 96 "DebtRides$Seen" "size" "I") (List.mem_of_getElem? (i := 3) rfl)
  have h := hf
  unfold f_X7_see at h
  clear hf
  refine lv_iload_n hx hb dX7_see_0 rfl (lv_at hl 1 rfl) ?_
  refine lv_iconst (v := 0) hx hb dX7_see_1 (by decide) ?_
  refine lv_bipush (v := 30) hx hb dX7_see_2 (by decide) ?_
  obtain ⟨r_1, hf, h⟩ := b1_inv h
  refine k_callS (b := 0) (C := "") (host := "") fx hK hA hw (c_X7_within l D k _ p1 0 30 r_1 hf) (va_cwS 3 hts gX7_see_X7_within rfl rfl rfl (by decide +kernel) ⟨by decide, by decide⟩) (As := [.int p1, .int 0, .int 30]) (wr := [(xh, .inr (7, [.ref xaL, .ref xaT, .ref xaO, .ref xaF, .ref xaS, .ref xaI, .ref xaH, .ref xaR, .ref xaU, .int xTf, .int xTb])), (xaL, .inr (1, [.int lPe, .int lDa, .int lDr, .ref lrNa, .ref lrMo, .ref lrWa, .ref lrDe])), (lrNa, .inl (k 0, 5, .inl lNa)), (lrMo, .inl (k 0, 5, .inl lMo)), (lrWa, .inl (k 0, 5, .inl lWa)), (lrDe, .inl (k 0, 25, .inl lDe)), (xaS, .inr (5, [.ref srDy, .ref srWo, .ref srRi, .int sSz])), (srDy, .inl (k 0, 6, .inl sDy)), (srWo, .inl (k 0, 6, .inl sWo)), (srRi, .inl (k 0, 6, .inl sRi))]) (ws' := wX7 k xh xaL xaT xaO xaF xaS xaI xaH xaR xaU xTf xTb ++ (wX1 k xaL lrNa lrMo lrWa lrDe lPe lDa lDr lNa lMo lWa lDe ++ (wX5 k xaS srDy srWo srRi sDy sWo sRi sSz))) [] [0, 1, 2, 3, 4, 5, 6, 7, 8, 9] [0, 1, 2, 3, 4, 5, 6, 7, 8, 9] rfl rfl (by decide) (by decide) (by decide) rfl (by decide) [] rfl hl.1 rfl (Nat.le_of_ble_eq_true rfl) dX7_see_4 ⟨by decide, by decide⟩ (fun H locs (hw : Wd D A s.heap H locs (wX7 k xh xaL xaT xaO xaF xaS xaI xaH xaR xaU xTf xTb ++ (wX1 k xaL lrNa lrMo lrWa lrDe lPe lDa lDr lNa lMo lWa lDe ++ (wX5 k xaS srDy srWo srRi sDy sWo sRi sSz)))) => ?_)
  refine W.eq (g2 := F0 m 7 ls ([.int r_1])) rfl ?_
  refine kb_if_eq (tgt := 21) hx hb dX7_see_7 (by decide) h (fun c_7 h => ?_) (fun c_7 h => ?_)
  · refine lv_iconst (v := (-1)) hx hb dX7_see_21 (by decide) ?_
    cases h
    exact k_iret hx hb hr hlocks hw rfl dX7_see_22 hQ
  · refine lv_aload_n hx hb dX7_see_10 rfl (lv_at hl 0 rfl) ?_
    refine va_get (ci := 7) (v := .ref xaL) (C := RX7) (T := TX7) (N := 11) hx hb hts hinX7 hown hK.1 hw.1 0 rfl rfl 0 (by decide) q_1 (fun _ h9 => h9) rfl dX7_see_11 ?_
    refine lv_iload_n hx hb dX7_see_14 rfl (lv_at hl 2 rfl) ?_
    obtain ⟨r_2, hf, h⟩ := b1_inv h
    refine k_callV (host := "") fx hK hA hw (c_X1_has l D k xaL lrNa lrMo lrWa lrDe _ lPe lDa lDr lNa lMo lWa lDe p2 r_2 hf) (cwV 1 hts gX7_see_X1_has rfl rfl rfl (by decide +kernel) ⟨by decide, by decide⟩) (As := [.int p2]) (wr := [(xh, .inr (7, [.ref xaL, .ref xaT, .ref xaO, .ref xaF, .ref xaS, .ref xaI, .ref xaH, .ref xaR, .ref xaU, .int xTf, .int xTb])), (xaS, .inr (5, [.ref srDy, .ref srWo, .ref srRi, .int sSz])), (srDy, .inl (k 0, 6, .inl sDy)), (srWo, .inl (k 0, 6, .inl sWo)), (srRi, .inl (k 0, 6, .inl sRi))]) (ws' := wX7 k xh xaL xaT xaO xaF xaS xaI xaH xaR xaU xTf xTb ++ (wX1 k xaL lrNa lrMo lrWa lrDe lPe lDa lDr lNa lMo lWa lDe ++ (wX5 k xaS srDy srWo srRi sDy sWo sRi sSz))) [1, 2, 3, 4, 5] [0, 6, 7, 8, 9] [0, 5, 6, 7, 8, 9, 1, 2, 3, 4] rfl rfl (by decide) (by decide) (by decide) rfl (by decide) 1 rfl rfl [] rfl hl.1 rfl (Nat.le_of_ble_eq_true rfl) dX7_see_15 ⟨by decide, by decide⟩ (fun H locs (hw : Wd D A s.heap H locs (wX7 k xh xaL xaT xaO xaF xaS xaI xaH xaR xaU xTf xTb ++ (wX1 k xaL lrNa lrMo lrWa lrDe lPe lDa lDr lNa lMo lWa lDe ++ (wX5 k xaS srDy srWo srRi sDy sWo sRi sSz)))) => ?_)
    refine W.eq (g2 := F0 m 18 ls ([.int r_2])) rfl ?_
    refine kb_if_ne (tgt := 23) hx hb dX7_see_18 (by decide) h (fun c_18 h => ?_) (fun c_18 h => ?_)
    · refine lv_iconst (v := (-1)) hx hb dX7_see_21 (by decide) ?_
      cases h
      exact k_iret hx hb hr hlocks hw rfl dX7_see_22 hQ
    · refine lv_aload_n hx hb dX7_see_23 rfl (lv_at hl 0 rfl) ?_
      refine va_get (ci := 7) (v := .ref xaS) (C := RX7) (T := TX7) (N := 11) hx hb hts hinX7 hown hK.1 hw.1 0 rfl rfl 4 (by decide) q_2 (fun _ h9 => h9) rfl dX7_see_24 ?_
      refine va_get (ci := 5) (v := .int sSz) (C := RX5) (T := TX5) (N := 4) hx hb hts hinX5 hown hK.1 hw.1 6 rfl rfl 3 (by decide) q_3 (fun _ h9 => h9) rfl dX7_see_27 ?_
      refine lv_bipush (v := 6) hx hb dX7_see_30 (by decide) ?_
      refine kb_icmp_lt (tgt := 38) hx hb dX7_see_32 (by decide) h (fun c_32 h => ?_) (fun c_32 h => ?_)
      · refine lv_aload_n hx hb dX7_see_38 rfl (lv_at hl 0 rfl) ?_
        refine va_get (ci := 7) (v := .ref xaS) (C := RX7) (T := TX7) (N := 11) hx hb hts hinX7 hown hK.1 hw.1 0 rfl rfl 4 (by decide) q_2 (fun _ h9 => h9) rfl dX7_see_39 ?_
        refine lv_iload_n hx hb dX7_see_42 rfl (lv_at hl 1 rfl) ?_
        refine lv_iload_n hx hb dX7_see_43 rfl (lv_at hl 2 rfl) ?_
        refine lv_iload_n hx hb dX7_see_44 rfl (lv_at hl 3 rfl) ?_
        obtain ⟨sDy_3, sWo_4, sRi_5, sSz_6, hf, h⟩ := b4_inv h
        refine k_callV (host := "") fx hK hA hw (c_X5_add l D k xaS srDy srWo srRi _ sDy sWo sRi sSz p1 p2 p3 sDy_3 sWo_4 sRi_5 sSz_6 hf) (cwV 3 hts gX7_see_X5_add rfl rfl rfl (by decide +kernel) ⟨by decide, by decide⟩) (As := [.int p1, .int p2, .int p3]) (wr := [(xh, .inr (7, [.ref xaL, .ref xaT, .ref xaO, .ref xaF, .ref xaS, .ref xaI, .ref xaH, .ref xaR, .ref xaU, .int xTf, .int xTb])), (xaL, .inr (1, [.int lPe, .int lDa, .int lDr, .ref lrNa, .ref lrMo, .ref lrWa, .ref lrDe])), (lrNa, .inl (k 0, 5, .inl lNa)), (lrMo, .inl (k 0, 5, .inl lMo)), (lrWa, .inl (k 0, 5, .inl lWa)), (lrDe, .inl (k 0, 25, .inl lDe))]) (ws' := wX7 k xh xaL xaT xaO xaF xaS xaI xaH xaR xaU xTf xTb ++ (wX1 k xaL lrNa lrMo lrWa lrDe lPe lDa lDr lNa lMo lWa lDe ++ (wX5 k xaS srDy srWo srRi sDy_3 sWo_4 sRi_5 sSz_6))) [6, 7, 8, 9] [0, 1, 2, 3, 4, 5] [0, 1, 2, 3, 4, 5, 6, 7, 8, 9] rfl rfl (by decide) (by decide) (by decide) rfl (by decide) 5 rfl rfl [] rfl hl.1 rfl (Nat.le_of_ble_eq_true rfl) dX7_see_45 ⟨by decide, by decide⟩ (fun H locs (hw : Wd D A s.heap H locs (wX7 k xh xaL xaT xaO xaF xaS xaI xaH xaR xaU xTf xTb ++ (wX1 k xaL lrNa lrMo lrWa lrDe lPe lDa lDr lNa lMo lWa lDe ++ (wX5 k xaS srDy srWo srRi sDy_3 sWo_4 sRi_5 sSz_6)))) => ?_)
        refine W.eq (g2 := F0 m 48 ls ([])) rfl ?_
        refine lv_aload_n hx hb dX7_see_48 rfl (lv_at hl 0 rfl) ?_
        refine va_get (ci := 7) (v := .ref xaS) (C := RX7) (T := TX7) (N := 11) hx hb hts hinX7 hown hK.1 hw.1 0 rfl rfl 4 (by decide) q_2 (fun _ h9 => h9) rfl dX7_see_49 ?_
        refine va_get (ci := 5) (v := .int sSz_6) (C := RX5) (T := TX5) (N := 4) hx hb hts hinX5 hown hK.1 hw.1 6 rfl rfl 3 (by decide) q_3 (fun _ h9 => h9) rfl dX7_see_52 ?_
        cases h
        exact k_iret hx hb hr hlocks hw rfl dX7_see_55 hQ
      · refine lv_bipush (v := (-3)) hx hb dX7_see_35 (by decide) ?_
        cases h
        exact k_iret hx hb hr hlocks hw rfl dX7_see_37 hQ
abbrev rmX7_sheet : Room := { frames := 2, cells := 0, slots := 0, locals := 45 }
set_option maxHeartbeats 4000000 in
set_option maxRecDepth 100000 in
theorem c_X7_sheet (l : Launch) (D : va_G) (k : Nat → ClassId) (xh xaL xaT xaO xaF xaS xaI xaH xaR xaU y0 y1 y2 y3 y0rCe y1rCe y2rCe y3rCe : Nat) (sz : Nat) (xTf : Int32) (xTb : Int32) (y0Th : Int32) (y0La : Int32) (y0Sz : Int32) (y0Ce : (Nat → Int32)) (y1Th : Int32) (y1La : Int32) (y1Sz : Int32) (y1Ce : (Nat → Int32)) (y2Th : Int32) (y2La : Int32) (y2Sz : Int32) (y2Ce : (Nat → Int32)) (y3Th : Int32) (y3La : Int32) (y3Sz : Int32) (y3Ce : (Nat → Int32)) (p1 : Int32) (p2 : Int32) (p3 : Int32) (r_ : Int32) (n_y0Th : Int32) (n_y0La : Int32) (n_y0Sz : Int32) (n_y0Ce : (Nat → Int32)) (n_y1Th : Int32) (n_y1La : Int32) (n_y1Sz : Int32) (n_y1Ce : (Nat → Int32)) (n_y2Th : Int32) (n_y2La : Int32) (n_y2Sz : Int32) (n_y2Ce : (Nat → Int32)) (n_y3Th : Int32) (n_y3La : Int32) (n_y3Sz : Int32) (n_y3Ce : (Nat → Int32)) (hf : f_X7_sheet y0Th y0La y0Sz y0Ce y1Th y1La y1Sz y1Ce y2Th y2La y2Sz y2Ce y3Th y3La y3Sz y3Ce p1 p2 p3 = some (r_, n_y0Th, n_y0La, n_y0Sz, n_y0Ce, n_y1Th, n_y1La, n_y1Sz, n_y1Ce, n_y2Th, n_y2La, n_y2Sz, n_y2Ce, n_y3Th, n_y3La, n_y3Sz, n_y3Ce)) : mR l yX7_sheet wsX7_sheet rmX7_sheet D k sz [.ref xh, .int p1, .int p2, .int p3] (wX7 k xh xaL xaT xaO xaF xaS xaI xaH xaR xaU xTf xTb ++ (wHA k xaH y0 y1 y2 y3 ++ (wX6 k y0 y0rCe y0Th y0La y0Sz y0Ce ++ (wX6 k y1 y1rCe y1Th y1La y1Sz y1Ce ++ (wX6 k y2 y2rCe y2Th y2La y2Sz y2Ce ++ (wX6 k y3 y3rCe y3Th y3La y3Sz y3Ce)))))) (wX7 k xh xaL xaT xaO xaF xaS xaI xaH xaR xaU xTf xTb ++ (wHA k xaH y0 y1 y2 y3 ++ (wX6 k y0 y0rCe n_y0Th n_y0La n_y0Sz n_y0Ce ++ (wX6 k y1 y1rCe n_y1Th n_y1La n_y1Sz n_y1Ce ++ (wX6 k y2 y2rCe n_y2Th n_y2La n_y2Sz n_y2Ce ++ (wX6 k y3 y3rCe n_y3Th n_y3La n_y3Sz n_y3Ce)))))) (some (.int r_)) := by
  refine mR_of (cc := cX7_sheet) (maxL := 4) (ret := some .int) (by decide) rfl (Nat.le_of_ble_eq_true rfl) [(0, .ref xh), (1, .int p1), (2, .int p2), (3, .int p3)] rfl ?_
  intro p e s m below meth c A ls args Q cx hK hA hw hl hQ
  have fx := cx.1
  obtain ⟨⟨hx, hb, hml, hown, hts⟩, hr, hlocks⟩ := cx
  have hinX7 : ∀ w ∈ wsX70, w ∈ wsX7_sheet := fun w h => List.mem_cons_of_mem _ (List.mem_append_left _ (List.mem_append_right _ h))
  have q_1 := hts (.fieldLink RX7 49 "DebtRides" "sheets" "[LDebtRides$Sheet;") (List.mem_of_getElem? (i := 1) rfl)
  have h := hf
  unfold f_X7_sheet at h
  clear hf
  refine lv_iload_n hx hb dX7_sheet_0 rfl (lv_at hl 1 rfl) ?_
  obtain ⟨r_1, hf, h⟩ := b1_inv h
  refine k_callS (b := 0) (C := "") (host := "") fx hK hA hw (c_X7_isSheet l D k _ p1 r_1 hf) (va_cwS 1 hts gX7_sheet_X7_isSheet rfl rfl rfl (by decide +kernel) ⟨by decide, by decide⟩) (As := [.int p1]) (wr := [(xh, .inr (7, [.ref xaL, .ref xaT, .ref xaO, .ref xaF, .ref xaS, .ref xaI, .ref xaH, .ref xaR, .ref xaU, .int xTf, .int xTb])), (xaH, .inl (k 4, 4, .inr (.inr (.inr (.inr (rl [y0, y1, y2, y3])))))), (y0, .inr (6, [.int y0Th, .int y0La, .int y0Sz, .ref y0rCe])), (y0rCe, .inl (k 0, 40, .inl y0Ce)), (y1, .inr (6, [.int y1Th, .int y1La, .int y1Sz, .ref y1rCe])), (y1rCe, .inl (k 0, 40, .inl y1Ce)), (y2, .inr (6, [.int y2Th, .int y2La, .int y2Sz, .ref y2rCe])), (y2rCe, .inl (k 0, 40, .inl y2Ce)), (y3, .inr (6, [.int y3Th, .int y3La, .int y3Sz, .ref y3rCe])), (y3rCe, .inl (k 0, 40, .inl y3Ce))]) (ws' := wX7 k xh xaL xaT xaO xaF xaS xaI xaH xaR xaU xTf xTb ++ (wHA k xaH y0 y1 y2 y3 ++ (wX6 k y0 y0rCe y0Th y0La y0Sz y0Ce ++ (wX6 k y1 y1rCe y1Th y1La y1Sz y1Ce ++ (wX6 k y2 y2rCe y2Th y2La y2Sz y2Ce ++ (wX6 k y3 y3rCe y3Th y3La y3Sz y3Ce)))))) [] [0, 1, 2, 3, 4, 5, 6, 7, 8, 9] [0, 1, 2, 3, 4, 5, 6, 7, 8, 9] rfl rfl (by decide) (by decide) (by decide) rfl (by decide) [] rfl hl.1 rfl (Nat.le_of_ble_eq_true rfl) dX7_sheet_1 ⟨by decide, by decide⟩ (fun H locs (hw : Wd D A s.heap H locs (wX7 k xh xaL xaT xaO xaF xaS xaI xaH xaR xaU xTf xTb ++ (wHA k xaH y0 y1 y2 y3 ++ (wX6 k y0 y0rCe y0Th y0La y0Sz y0Ce ++ (wX6 k y1 y1rCe y1Th y1La y1Sz y1Ce ++ (wX6 k y2 y2rCe y2Th y2La y2Sz y2Ce ++ (wX6 k y3 y3rCe y3Th y3La y3Sz y3Ce))))))) => ?_)
  refine W.eq (g2 := F0 m 4 ls ([.int r_1])) rfl ?_
  refine kb_if_eq (tgt := 22) hx hb dX7_sheet_4 (by decide) h (fun c_4 h => ?_) (fun c_4 h => ?_)
  · refine lv_iconst (v := (-1)) hx hb dX7_sheet_22 (by decide) ?_
    cases h
    exact k_iret hx hb hr hlocks hw rfl dX7_sheet_23 hQ
  · refine lv_iload_n hx hb dX7_sheet_7 rfl (lv_at hl 2 rfl) ?_
    refine lv_iconst (v := 0) hx hb dX7_sheet_8 (by decide) ?_
    refine lv_iconst (v := 2) hx hb dX7_sheet_9 (by decide) ?_
    obtain ⟨r_2, hf, h⟩ := b1_inv h
    refine k_callS (b := 0) (C := "") (host := "") fx hK hA hw (c_X7_within l D k _ p2 0 2 r_2 hf) (va_cwS 3 hts gX7_sheet_X7_within rfl rfl rfl (by decide +kernel) ⟨by decide, by decide⟩) (As := [.int p2, .int 0, .int 2]) (wr := [(xh, .inr (7, [.ref xaL, .ref xaT, .ref xaO, .ref xaF, .ref xaS, .ref xaI, .ref xaH, .ref xaR, .ref xaU, .int xTf, .int xTb])), (xaH, .inl (k 4, 4, .inr (.inr (.inr (.inr (rl [y0, y1, y2, y3])))))), (y0, .inr (6, [.int y0Th, .int y0La, .int y0Sz, .ref y0rCe])), (y0rCe, .inl (k 0, 40, .inl y0Ce)), (y1, .inr (6, [.int y1Th, .int y1La, .int y1Sz, .ref y1rCe])), (y1rCe, .inl (k 0, 40, .inl y1Ce)), (y2, .inr (6, [.int y2Th, .int y2La, .int y2Sz, .ref y2rCe])), (y2rCe, .inl (k 0, 40, .inl y2Ce)), (y3, .inr (6, [.int y3Th, .int y3La, .int y3Sz, .ref y3rCe])), (y3rCe, .inl (k 0, 40, .inl y3Ce))]) (ws' := wX7 k xh xaL xaT xaO xaF xaS xaI xaH xaR xaU xTf xTb ++ (wHA k xaH y0 y1 y2 y3 ++ (wX6 k y0 y0rCe y0Th y0La y0Sz y0Ce ++ (wX6 k y1 y1rCe y1Th y1La y1Sz y1Ce ++ (wX6 k y2 y2rCe y2Th y2La y2Sz y2Ce ++ (wX6 k y3 y3rCe y3Th y3La y3Sz y3Ce)))))) [] [0, 1, 2, 3, 4, 5, 6, 7, 8, 9] [0, 1, 2, 3, 4, 5, 6, 7, 8, 9] rfl rfl (by decide) (by decide) (by decide) rfl (by decide) [] rfl hl.1 rfl (Nat.le_of_ble_eq_true rfl) dX7_sheet_10 ⟨by decide, by decide⟩ (fun H locs (hw : Wd D A s.heap H locs (wX7 k xh xaL xaT xaO xaF xaS xaI xaH xaR xaU xTf xTb ++ (wHA k xaH y0 y1 y2 y3 ++ (wX6 k y0 y0rCe y0Th y0La y0Sz y0Ce ++ (wX6 k y1 y1rCe y1Th y1La y1Sz y1Ce ++ (wX6 k y2 y2rCe y2Th y2La y2Sz y2Ce ++ (wX6 k y3 y3rCe y3Th y3La y3Sz y3Ce))))))) => ?_)
    refine W.eq (g2 := F0 m 13 ls ([.int r_2])) rfl ?_
    refine kb_if_eq (tgt := 22) hx hb dX7_sheet_13 (by decide) h (fun c_13 h => ?_) (fun c_13 h => ?_)
    · refine lv_iconst (v := (-1)) hx hb dX7_sheet_22 (by decide) ?_
      cases h
      exact k_iret hx hb hr hlocks hw rfl dX7_sheet_23 hQ
    · refine lv_iload_n hx hb dX7_sheet_16 rfl (lv_at hl 3 rfl) ?_
      refine lv_bipush (v := 40) hx hb dX7_sheet_17 (by decide) ?_
      refine kb_icmp_le (tgt := 24) hx hb dX7_sheet_19 (by decide) h (fun c_19 h => ?_) (fun c_19 h => ?_)
      · refine lv_iload_n hx hb dX7_sheet_24 rfl (lv_at hl 3 rfl) ?_
        refine kb_if_ge (tgt := 31) hx hb dX7_sheet_25 (by decide) h (fun c_25 h => ?_) (fun c_25 h => ?_)
        · refine lv_aload_n hx hb dX7_sheet_31 rfl (lv_at hl 0 rfl) ?_
          refine va_get (ci := 7) (v := .ref xaH) (C := RX7) (T := TX7) (N := 11) hx hb hts hinX7 hown hK.1 hw.1 0 rfl rfl 6 (by decide) q_1 (fun _ h9 => h9) rfl dX7_sheet_32 ?_
          refine lv_iload_n hx hb dX7_sheet_35 rfl (lv_at hl 1 rfl) ?_
          by_cases c_36 : p1 = 0
          · rw [if_pos c_36] at h
            refine k_aald hx hb hK hw 1 4 (j := 0) (a' := y0) rfl rfl c_36 (by unfold vp_in; decide) rfl dX7_sheet_36 ?_
            refine lv_iload_n hx hb dX7_sheet_37 rfl (lv_at hl 2 rfl) ?_
            refine lv_iload_n hx hb dX7_sheet_38 rfl (lv_at hl 3 rfl) ?_
            obtain ⟨y0Th_3, y0La_4, y0Sz_5, y0Ce_6, hf, h⟩ := b4_inv h
            refine k_callV (host := "") fx hK hA hw (c_X6_renew l D k y0 y0rCe _ y0Th y0La y0Sz y0Ce p2 p3 y0Th_3 y0La_4 y0Sz_5 y0Ce_6 hf) (cwV 2 hts gX7_sheet_X6_renew rfl rfl rfl (by decide +kernel) ⟨by decide, by decide⟩) (As := [.int p2, .int p3]) (wr := [(xh, .inr (7, [.ref xaL, .ref xaT, .ref xaO, .ref xaF, .ref xaS, .ref xaI, .ref xaH, .ref xaR, .ref xaU, .int xTf, .int xTb])), (xaH, .inl (k 4, 4, .inr (.inr (.inr (.inr (rl [y0, y1, y2, y3])))))), (y1, .inr (6, [.int y1Th, .int y1La, .int y1Sz, .ref y1rCe])), (y1rCe, .inl (k 0, 40, .inl y1Ce)), (y2, .inr (6, [.int y2Th, .int y2La, .int y2Sz, .ref y2rCe])), (y2rCe, .inl (k 0, 40, .inl y2Ce)), (y3, .inr (6, [.int y3Th, .int y3La, .int y3Sz, .ref y3rCe])), (y3rCe, .inl (k 0, 40, .inl y3Ce))]) (ws' := wX7 k xh xaL xaT xaO xaF xaS xaI xaH xaR xaU xTf xTb ++ (wHA k xaH y0 y1 y2 y3 ++ (wX6 k y0 y0rCe y0Th_3 y0La_4 y0Sz_5 y0Ce_6 ++ (wX6 k y1 y1rCe y1Th y1La y1Sz y1Ce ++ (wX6 k y2 y2rCe y2Th y2La y2Sz y2Ce ++ (wX6 k y3 y3rCe y3Th y3La y3Sz y3Ce)))))) [2, 3] [0, 1, 4, 5, 6, 7, 8, 9] [0, 1, 8, 9, 2, 3, 4, 5, 6, 7] rfl rfl (by decide) (by decide) (by decide) rfl (by decide) 6 rfl rfl [] rfl hl.1 rfl (Nat.le_of_ble_eq_true rfl) dX7_sheet_39 ⟨by decide, by decide⟩ (fun H locs (hw : Wd D A s.heap H locs (wX7 k xh xaL xaT xaO xaF xaS xaI xaH xaR xaU xTf xTb ++ (wHA k xaH y0 y1 y2 y3 ++ (wX6 k y0 y0rCe y0Th_3 y0La_4 y0Sz_5 y0Ce_6 ++ (wX6 k y1 y1rCe y1Th y1La y1Sz y1Ce ++ (wX6 k y2 y2rCe y2Th y2La y2Sz y2Ce ++ (wX6 k y3 y3rCe y3Th y3La y3Sz y3Ce))))))) => ?_)
            refine W.eq (g2 := F0 m 42 ls ([])) rfl ?_
            refine lv_iconst (v := 1) hx hb dX7_sheet_42 (by decide) ?_
            cases h
            exact k_iret hx hb hr hlocks hw rfl dX7_sheet_43 hQ
          · rw [if_neg c_36] at h
            by_cases c_36 : p1 = 1
            · rw [if_pos c_36] at h
              refine k_aald hx hb hK hw 1 4 (j := 1) (a' := y1) rfl rfl c_36 (by unfold vp_in; decide) rfl dX7_sheet_36 ?_
              refine lv_iload_n hx hb dX7_sheet_37 rfl (lv_at hl 2 rfl) ?_
              refine lv_iload_n hx hb dX7_sheet_38 rfl (lv_at hl 3 rfl) ?_
              obtain ⟨y1Th_7, y1La_8, y1Sz_9, y1Ce_10, hf, h⟩ := b4_inv h
              refine k_callV (host := "") fx hK hA hw (c_X6_renew l D k y1 y1rCe _ y1Th y1La y1Sz y1Ce p2 p3 y1Th_7 y1La_8 y1Sz_9 y1Ce_10 hf) (cwV 2 hts gX7_sheet_X6_renew rfl rfl rfl (by decide +kernel) ⟨by decide, by decide⟩) (As := [.int p2, .int p3]) (wr := [(xh, .inr (7, [.ref xaL, .ref xaT, .ref xaO, .ref xaF, .ref xaS, .ref xaI, .ref xaH, .ref xaR, .ref xaU, .int xTf, .int xTb])), (xaH, .inl (k 4, 4, .inr (.inr (.inr (.inr (rl [y0, y1, y2, y3])))))), (y0, .inr (6, [.int y0Th, .int y0La, .int y0Sz, .ref y0rCe])), (y0rCe, .inl (k 0, 40, .inl y0Ce)), (y2, .inr (6, [.int y2Th, .int y2La, .int y2Sz, .ref y2rCe])), (y2rCe, .inl (k 0, 40, .inl y2Ce)), (y3, .inr (6, [.int y3Th, .int y3La, .int y3Sz, .ref y3rCe])), (y3rCe, .inl (k 0, 40, .inl y3Ce))]) (ws' := wX7 k xh xaL xaT xaO xaF xaS xaI xaH xaR xaU xTf xTb ++ (wHA k xaH y0 y1 y2 y3 ++ (wX6 k y0 y0rCe y0Th y0La y0Sz y0Ce ++ (wX6 k y1 y1rCe y1Th_7 y1La_8 y1Sz_9 y1Ce_10 ++ (wX6 k y2 y2rCe y2Th y2La y2Sz y2Ce ++ (wX6 k y3 y3rCe y3Th y3La y3Sz y3Ce)))))) [4, 5] [0, 1, 2, 3, 6, 7, 8, 9] [0, 1, 2, 3, 8, 9, 4, 5, 6, 7] rfl rfl (by decide) (by decide) (by decide) rfl (by decide) 6 rfl rfl [] rfl hl.1 rfl (Nat.le_of_ble_eq_true rfl) dX7_sheet_39 ⟨by decide, by decide⟩ (fun H locs (hw : Wd D A s.heap H locs (wX7 k xh xaL xaT xaO xaF xaS xaI xaH xaR xaU xTf xTb ++ (wHA k xaH y0 y1 y2 y3 ++ (wX6 k y0 y0rCe y0Th y0La y0Sz y0Ce ++ (wX6 k y1 y1rCe y1Th_7 y1La_8 y1Sz_9 y1Ce_10 ++ (wX6 k y2 y2rCe y2Th y2La y2Sz y2Ce ++ (wX6 k y3 y3rCe y3Th y3La y3Sz y3Ce))))))) => ?_)
              refine W.eq (g2 := F0 m 42 ls ([])) rfl ?_
              refine lv_iconst (v := 1) hx hb dX7_sheet_42 (by decide) ?_
              cases h
              exact k_iret hx hb hr hlocks hw rfl dX7_sheet_43 hQ
            · rw [if_neg c_36] at h
              by_cases c_36 : p1 = 2
              · rw [if_pos c_36] at h
                refine k_aald hx hb hK hw 1 4 (j := 2) (a' := y2) rfl rfl c_36 (by unfold vp_in; decide) rfl dX7_sheet_36 ?_
                refine lv_iload_n hx hb dX7_sheet_37 rfl (lv_at hl 2 rfl) ?_
                refine lv_iload_n hx hb dX7_sheet_38 rfl (lv_at hl 3 rfl) ?_
                obtain ⟨y2Th_11, y2La_12, y2Sz_13, y2Ce_14, hf, h⟩ := b4_inv h
                refine k_callV (host := "") fx hK hA hw (c_X6_renew l D k y2 y2rCe _ y2Th y2La y2Sz y2Ce p2 p3 y2Th_11 y2La_12 y2Sz_13 y2Ce_14 hf) (cwV 2 hts gX7_sheet_X6_renew rfl rfl rfl (by decide +kernel) ⟨by decide, by decide⟩) (As := [.int p2, .int p3]) (wr := [(xh, .inr (7, [.ref xaL, .ref xaT, .ref xaO, .ref xaF, .ref xaS, .ref xaI, .ref xaH, .ref xaR, .ref xaU, .int xTf, .int xTb])), (xaH, .inl (k 4, 4, .inr (.inr (.inr (.inr (rl [y0, y1, y2, y3])))))), (y0, .inr (6, [.int y0Th, .int y0La, .int y0Sz, .ref y0rCe])), (y0rCe, .inl (k 0, 40, .inl y0Ce)), (y1, .inr (6, [.int y1Th, .int y1La, .int y1Sz, .ref y1rCe])), (y1rCe, .inl (k 0, 40, .inl y1Ce)), (y3, .inr (6, [.int y3Th, .int y3La, .int y3Sz, .ref y3rCe])), (y3rCe, .inl (k 0, 40, .inl y3Ce))]) (ws' := wX7 k xh xaL xaT xaO xaF xaS xaI xaH xaR xaU xTf xTb ++ (wHA k xaH y0 y1 y2 y3 ++ (wX6 k y0 y0rCe y0Th y0La y0Sz y0Ce ++ (wX6 k y1 y1rCe y1Th y1La y1Sz y1Ce ++ (wX6 k y2 y2rCe y2Th_11 y2La_12 y2Sz_13 y2Ce_14 ++ (wX6 k y3 y3rCe y3Th y3La y3Sz y3Ce)))))) [6, 7] [0, 1, 2, 3, 4, 5, 8, 9] [0, 1, 2, 3, 4, 5, 8, 9, 6, 7] rfl rfl (by decide) (by decide) (by decide) rfl (by decide) 6 rfl rfl [] rfl hl.1 rfl (Nat.le_of_ble_eq_true rfl) dX7_sheet_39 ⟨by decide, by decide⟩ (fun H locs (hw : Wd D A s.heap H locs (wX7 k xh xaL xaT xaO xaF xaS xaI xaH xaR xaU xTf xTb ++ (wHA k xaH y0 y1 y2 y3 ++ (wX6 k y0 y0rCe y0Th y0La y0Sz y0Ce ++ (wX6 k y1 y1rCe y1Th y1La y1Sz y1Ce ++ (wX6 k y2 y2rCe y2Th_11 y2La_12 y2Sz_13 y2Ce_14 ++ (wX6 k y3 y3rCe y3Th y3La y3Sz y3Ce))))))) => ?_)
                refine W.eq (g2 := F0 m 42 ls ([])) rfl ?_
                refine lv_iconst (v := 1) hx hb dX7_sheet_42 (by decide) ?_
                cases h
                exact k_iret hx hb hr hlocks hw rfl dX7_sheet_43 hQ
              · rw [if_neg c_36] at h
                by_cases c_36 : p1 = 3
                · rw [if_pos c_36] at h
                  refine k_aald hx hb hK hw 1 4 (j := 3) (a' := y3) rfl rfl c_36 (by unfold vp_in; decide) rfl dX7_sheet_36 ?_
                  refine lv_iload_n hx hb dX7_sheet_37 rfl (lv_at hl 2 rfl) ?_
                  refine lv_iload_n hx hb dX7_sheet_38 rfl (lv_at hl 3 rfl) ?_
                  obtain ⟨y3Th_15, y3La_16, y3Sz_17, y3Ce_18, hf, h⟩ := b4_inv h
                  refine k_callV (host := "") fx hK hA hw (c_X6_renew l D k y3 y3rCe _ y3Th y3La y3Sz y3Ce p2 p3 y3Th_15 y3La_16 y3Sz_17 y3Ce_18 hf) (cwV 2 hts gX7_sheet_X6_renew rfl rfl rfl (by decide +kernel) ⟨by decide, by decide⟩) (As := [.int p2, .int p3]) (wr := [(xh, .inr (7, [.ref xaL, .ref xaT, .ref xaO, .ref xaF, .ref xaS, .ref xaI, .ref xaH, .ref xaR, .ref xaU, .int xTf, .int xTb])), (xaH, .inl (k 4, 4, .inr (.inr (.inr (.inr (rl [y0, y1, y2, y3])))))), (y0, .inr (6, [.int y0Th, .int y0La, .int y0Sz, .ref y0rCe])), (y0rCe, .inl (k 0, 40, .inl y0Ce)), (y1, .inr (6, [.int y1Th, .int y1La, .int y1Sz, .ref y1rCe])), (y1rCe, .inl (k 0, 40, .inl y1Ce)), (y2, .inr (6, [.int y2Th, .int y2La, .int y2Sz, .ref y2rCe])), (y2rCe, .inl (k 0, 40, .inl y2Ce))]) (ws' := wX7 k xh xaL xaT xaO xaF xaS xaI xaH xaR xaU xTf xTb ++ (wHA k xaH y0 y1 y2 y3 ++ (wX6 k y0 y0rCe y0Th y0La y0Sz y0Ce ++ (wX6 k y1 y1rCe y1Th y1La y1Sz y1Ce ++ (wX6 k y2 y2rCe y2Th y2La y2Sz y2Ce ++ (wX6 k y3 y3rCe y3Th_15 y3La_16 y3Sz_17 y3Ce_18)))))) [8, 9] [0, 1, 2, 3, 4, 5, 6, 7] [0, 1, 2, 3, 4, 5, 6, 7, 8, 9] rfl rfl (by decide) (by decide) (by decide) rfl (by decide) 6 rfl rfl [] rfl hl.1 rfl (Nat.le_of_ble_eq_true rfl) dX7_sheet_39 ⟨by decide, by decide⟩ (fun H locs (hw : Wd D A s.heap H locs (wX7 k xh xaL xaT xaO xaF xaS xaI xaH xaR xaU xTf xTb ++ (wHA k xaH y0 y1 y2 y3 ++ (wX6 k y0 y0rCe y0Th y0La y0Sz y0Ce ++ (wX6 k y1 y1rCe y1Th y1La y1Sz y1Ce ++ (wX6 k y2 y2rCe y2Th y2La y2Sz y2Ce ++ (wX6 k y3 y3rCe y3Th_15 y3La_16 y3Sz_17 y3Ce_18))))))) => ?_)
                  refine W.eq (g2 := F0 m 42 ls ([])) rfl ?_
                  refine lv_iconst (v := 1) hx hb dX7_sheet_42 (by decide) ?_
                  cases h
                  exact k_iret hx hb hr hlocks hw rfl dX7_sheet_43 hQ
                · rw [if_neg c_36] at h
                  cases h
        · refine lv_bipush (v := (-14)) hx hb dX7_sheet_28 (by decide) ?_
          cases h
          exact k_iret hx hb hr hlocks hw rfl dX7_sheet_30 hQ
      · refine lv_iconst (v := (-1)) hx hb dX7_sheet_22 (by decide) ?_
        cases h
        exact k_iret hx hb hr hlocks hw rfl dX7_sheet_23 hQ
abbrev rmX7_torn : Room := { frames := 0, cells := 0, slots := 0, locals := 0 }
set_option maxHeartbeats 4000000 in
set_option maxRecDepth 100000 in
theorem c_X7_torn (l : Launch) (D : va_G) (k : Nat → ClassId) (xh xaL xaT xaO xaF xaS xaI xaH xaR xaU : Nat) (sz : Nat) (xTf : Int32) (xTb : Int32) (r_ : Int32) (hf : f_X7_torn xTb = some r_) : mR l yX7_torn wsX7_torn rmX7_torn D k sz [.ref xh] (wX7 k xh xaL xaT xaO xaF xaS xaI xaH xaR xaU xTf xTb) (wX7 k xh xaL xaT xaO xaF xaS xaI xaH xaR xaU xTf xTb) (some (.int r_)) := by
  refine mR_of (cc := cX7_torn) (maxL := 1) (ret := some .int) (by decide) rfl (Nat.le_of_ble_eq_true rfl) [(0, .ref xh)] rfl ?_
  intro p e s m below meth c A ls args Q cx hK hA hw hl hQ
  have fx := cx.1
  obtain ⟨⟨hx, hb, hml, hown, hts⟩, hr, hlocks⟩ := cx
  have hinX7 : ∀ w ∈ wsX70, w ∈ wsX7_torn := fun w h => List.mem_cons_of_mem _ (List.mem_append_right _ h)
  have q_1 := hts (.fieldLink RX7 278 "DebtRides" "tornBy" "I") (List.mem_of_getElem? (i := 1) rfl)
  have h := hf
  unfold f_X7_torn at h
  clear hf
  refine lv_aload_n hx hb dX7_torn_0 rfl (lv_at hl 0 rfl) ?_
  refine va_get (ci := 7) (v := .int xTb) (C := RX7) (T := TX7) (N := 11) hx hb hts hinX7 hown hK.1 hw.1 0 rfl rfl 10 (by decide) q_1 (fun _ h9 => h9) rfl dX7_torn_1 ?_
  cases h
  exact k_iret hx hb hr hlocks hw rfl dX7_torn_4 hQ
abbrev rmX7_train : Room := { frames := 5, cells := 0, slots := 0, locals := 117 }
set_option maxHeartbeats 4000000 in
set_option maxRecDepth 100000 in
theorem c_X7_train (l : Launch) (D : va_G) (k : Nat → ClassId) (xh xaL xaT xaO xaF xaS xaI xaH xaR xaU lrNa lrMo lrWa lrDe trNa trMo trWa trDe : Nat) (sz : Nat) (xTf : Int32) (xTb : Int32) (lPe : Int32) (lDa : Int32) (lDr : Int32) (lNa : (Nat → Int32)) (lMo : (Nat → Int32)) (lWa : (Nat → Int32)) (lDe : (Nat → Int32)) (tPe : Int32) (tDa : Int32) (tDr : Int32) (tNa : (Nat → Int32)) (tMo : (Nat → Int32)) (tWa : (Nat → Int32)) (tDe : (Nat → Int32)) (p1 : Int32) (p2 : Int32) (r_ : Int32) (n_tPe : Int32) (n_tDa : Int32) (n_tDr : Int32) (n_tNa : (Nat → Int32)) (n_tMo : (Nat → Int32)) (n_tWa : (Nat → Int32)) (n_tDe : (Nat → Int32)) (hf : f_X7_train lPe lDa lDr lNa lMo lWa lDe tPe tDa tDr tNa tMo tWa tDe p1 p2 = some (r_, n_tPe, n_tDa, n_tDr, n_tNa, n_tMo, n_tWa, n_tDe)) : mR l yX7_train wsX7_train rmX7_train D k sz [.ref xh, .int p1, .int p2] (wX7 k xh xaL xaT xaO xaF xaS xaI xaH xaR xaU xTf xTb ++ (wX1 k xaL lrNa lrMo lrWa lrDe lPe lDa lDr lNa lMo lWa lDe ++ (wX1 k xaT trNa trMo trWa trDe tPe tDa tDr tNa tMo tWa tDe))) (wX7 k xh xaL xaT xaO xaF xaS xaI xaH xaR xaU xTf xTb ++ (wX1 k xaL lrNa lrMo lrWa lrDe lPe lDa lDr lNa lMo lWa lDe ++ (wX1 k xaT trNa trMo trWa trDe n_tPe n_tDa n_tDr n_tNa n_tMo n_tWa n_tDe))) (some (.int r_)) := by
  refine mR_of (cc := cX7_train) (maxL := 7) (ret := some .int) (by decide) rfl (Nat.le_of_ble_eq_true rfl) [(0, .ref xh), (1, .int p1), (2, .int p2)] rfl ?_
  intro p e s m below meth c A ls args Q cx hK hA hw hl hQ
  have fx := cx.1
  obtain ⟨⟨hx, hb, hml, hown, hts⟩, hr, hlocks⟩ := cx
  have hinX7 : ∀ w ∈ wsX70, w ∈ wsX7_train := fun w h => List.mem_cons_of_mem _ (List.mem_append_left _ (List.mem_append_right _ h))
  have hinX1 : ∀ w ∈ wsX10, w ∈ wsX7_train := fun w h => List.mem_cons_of_mem _ (List.mem_append_right _ h)
  have q_1 := hts (.fieldLink RX7 16 "DebtRides" "trial" "LDebtRides$Land;") (List.mem_of_getElem? (i := 1) rfl)
  have q_2 := hts (.fieldLink RX7 10 "DebtRides" "land" "LDebtRides$Land;") (List.mem_of_getElem? (i := 2) rfl)
  have q_3 := hts (.fieldLink RX7 106 "DebtRides$Land" "people" "I") (List.mem_of_getElem? (i := 3) rfl)
  have h := hf
  unfold f_X7_train at h
  clear hf
  refine lv_iload_n hx hb dX7_train_0 rfl (lv_at hl 1 rfl) ?_
  refine lv_iconst (v := 0) hx hb dX7_train_1 (by decide) ?_
  refine lv_bipush (v := 60) hx hb dX7_train_2 (by decide) ?_
  obtain ⟨r_1, hf, h⟩ := b1_inv h
  refine k_callS (b := 0) (C := "") (host := "") fx hK hA hw (c_X7_within l D k _ p1 0 60 r_1 hf) (va_cwS 3 hts gX7_train_X7_within rfl rfl rfl (by decide +kernel) ⟨by decide, by decide⟩) (As := [.int p1, .int 0, .int 60]) (wr := [(xh, .inr (7, [.ref xaL, .ref xaT, .ref xaO, .ref xaF, .ref xaS, .ref xaI, .ref xaH, .ref xaR, .ref xaU, .int xTf, .int xTb])), (xaL, .inr (1, [.int lPe, .int lDa, .int lDr, .ref lrNa, .ref lrMo, .ref lrWa, .ref lrDe])), (lrNa, .inl (k 0, 5, .inl lNa)), (lrMo, .inl (k 0, 5, .inl lMo)), (lrWa, .inl (k 0, 5, .inl lWa)), (lrDe, .inl (k 0, 25, .inl lDe)), (xaT, .inr (1, [.int tPe, .int tDa, .int tDr, .ref trNa, .ref trMo, .ref trWa, .ref trDe])), (trNa, .inl (k 0, 5, .inl tNa)), (trMo, .inl (k 0, 5, .inl tMo)), (trWa, .inl (k 0, 5, .inl tWa)), (trDe, .inl (k 0, 25, .inl tDe))]) (ws' := wX7 k xh xaL xaT xaO xaF xaS xaI xaH xaR xaU xTf xTb ++ (wX1 k xaL lrNa lrMo lrWa lrDe lPe lDa lDr lNa lMo lWa lDe ++ (wX1 k xaT trNa trMo trWa trDe tPe tDa tDr tNa tMo tWa tDe))) [] [0, 1, 2, 3, 4, 5, 6, 7, 8, 9, 10] [0, 1, 2, 3, 4, 5, 6, 7, 8, 9, 10] rfl rfl (by decide) (by decide) (by decide) rfl (by decide) [] rfl hl.1 rfl (Nat.le_of_ble_eq_true rfl) dX7_train_4 ⟨by decide, by decide⟩ (fun H locs (hw : Wd D A s.heap H locs (wX7 k xh xaL xaT xaO xaF xaS xaI xaH xaR xaU xTf xTb ++ (wX1 k xaL lrNa lrMo lrWa lrDe lPe lDa lDr lNa lMo lWa lDe ++ (wX1 k xaT trNa trMo trWa trDe tPe tDa tDr tNa tMo tWa tDe)))) => ?_)
  refine W.eq (g2 := F0 m 7 ls ([.int r_1])) rfl ?_
  refine kb_if_eq (tgt := 19) hx hb dX7_train_7 (by decide) h (fun c_7 h => ?_) (fun c_7 h => ?_)
  · refine lv_iconst (v := (-1)) hx hb dX7_train_19 (by decide) ?_
    cases h
    exact k_iret hx hb hr hlocks hw rfl dX7_train_20 hQ
  · refine lv_iload_n hx hb dX7_train_10 rfl (lv_at hl 2 rfl) ?_
    refine lv_iconst (v := 0) hx hb dX7_train_11 (by decide) ?_
    refine lv_iconst (v := 1) hx hb dX7_train_12 (by decide) ?_
    obtain ⟨r_2, hf, h⟩ := b1_inv h
    refine k_callS (b := 0) (C := "") (host := "") fx hK hA hw (c_X7_within l D k _ p2 0 1 r_2 hf) (va_cwS 3 hts gX7_train_X7_within rfl rfl rfl (by decide +kernel) ⟨by decide, by decide⟩) (As := [.int p2, .int 0, .int 1]) (wr := [(xh, .inr (7, [.ref xaL, .ref xaT, .ref xaO, .ref xaF, .ref xaS, .ref xaI, .ref xaH, .ref xaR, .ref xaU, .int xTf, .int xTb])), (xaL, .inr (1, [.int lPe, .int lDa, .int lDr, .ref lrNa, .ref lrMo, .ref lrWa, .ref lrDe])), (lrNa, .inl (k 0, 5, .inl lNa)), (lrMo, .inl (k 0, 5, .inl lMo)), (lrWa, .inl (k 0, 5, .inl lWa)), (lrDe, .inl (k 0, 25, .inl lDe)), (xaT, .inr (1, [.int tPe, .int tDa, .int tDr, .ref trNa, .ref trMo, .ref trWa, .ref trDe])), (trNa, .inl (k 0, 5, .inl tNa)), (trMo, .inl (k 0, 5, .inl tMo)), (trWa, .inl (k 0, 5, .inl tWa)), (trDe, .inl (k 0, 25, .inl tDe))]) (ws' := wX7 k xh xaL xaT xaO xaF xaS xaI xaH xaR xaU xTf xTb ++ (wX1 k xaL lrNa lrMo lrWa lrDe lPe lDa lDr lNa lMo lWa lDe ++ (wX1 k xaT trNa trMo trWa trDe tPe tDa tDr tNa tMo tWa tDe))) [] [0, 1, 2, 3, 4, 5, 6, 7, 8, 9, 10] [0, 1, 2, 3, 4, 5, 6, 7, 8, 9, 10] rfl rfl (by decide) (by decide) (by decide) rfl (by decide) [] rfl hl.1 rfl (Nat.le_of_ble_eq_true rfl) dX7_train_13 ⟨by decide, by decide⟩ (fun H locs (hw : Wd D A s.heap H locs (wX7 k xh xaL xaT xaO xaF xaS xaI xaH xaR xaU xTf xTb ++ (wX1 k xaL lrNa lrMo lrWa lrDe lPe lDa lDr lNa lMo lWa lDe ++ (wX1 k xaT trNa trMo trWa trDe tPe tDa tDr tNa tMo tWa tDe)))) => ?_)
    refine W.eq (g2 := F0 m 16 ls ([.int r_2])) rfl ?_
    refine kb_if_ne (tgt := 21) hx hb dX7_train_16 (by decide) h (fun c_16 h => ?_) (fun c_16 h => ?_)
    · refine lv_iconst (v := (-1)) hx hb dX7_train_19 (by decide) ?_
      cases h
      exact k_iret hx hb hr hlocks hw rfl dX7_train_20 hQ
    · refine lv_aload_n hx hb dX7_train_21 rfl (lv_at hl 0 rfl) ?_
      refine va_get (ci := 7) (v := .ref xaT) (C := RX7) (T := TX7) (N := 11) hx hb hts hinX7 hown hK.1 hw.1 0 rfl rfl 1 (by decide) q_1 (fun _ h9 => h9) rfl dX7_train_22 ?_
      refine lv_aload_n hx hb dX7_train_25 rfl (lv_at hl 0 rfl) ?_
      refine va_get (ci := 7) (v := .ref xaL) (C := RX7) (T := TX7) (N := 11) hx hb hts hinX7 hown hK.1 hw.1 0 rfl rfl 0 (by decide) q_2 (fun _ h9 => h9) rfl dX7_train_26 ?_
      obtain ⟨tPe_3, tDa_4, tDr_5, tNa_6, tMo_7, tWa_8, tDe_9, hf, h⟩ := b7_inv h
      refine k_callV (host := "") fx hK hA hw (c_X1_become l D k xaT trNa trMo trWa trDe xaL lrNa lrMo lrWa lrDe _ tPe tDa tDr tNa tMo tWa tDe lPe lDa lDr lNa lMo lWa lDe tPe_3 tDa_4 tDr_5 tNa_6 tMo_7 tWa_8 tDe_9 hf) (cwV 1 hts gX7_train_X1_become rfl rfl rfl (by decide +kernel) ⟨by decide, by decide⟩) (As := [.ref xaL]) (wr := [(xh, .inr (7, [.ref xaL, .ref xaT, .ref xaO, .ref xaF, .ref xaS, .ref xaI, .ref xaH, .ref xaR, .ref xaU, .int xTf, .int xTb]))]) (ws' := wX7 k xh xaL xaT xaO xaF xaS xaI xaH xaR xaU xTf xTb ++ (wX1 k xaL lrNa lrMo lrWa lrDe lPe lDa lDr lNa lMo lWa lDe ++ (wX1 k xaT trNa trMo trWa trDe tPe_3 tDa_4 tDr_5 tNa_6 tMo_7 tWa_8 tDe_9))) [6, 7, 8, 9, 10, 1, 2, 3, 4, 5] [0] [0, 6, 7, 8, 9, 10, 1, 2, 3, 4, 5] rfl rfl (by decide) (by decide) (by decide) rfl (by decide) 1 rfl rfl [] rfl hl.1 rfl (Nat.le_of_ble_eq_true rfl) dX7_train_29 ⟨by decide, by decide⟩ (fun H locs (hw : Wd D A s.heap H locs (wX7 k xh xaL xaT xaO xaF xaS xaI xaH xaR xaU xTf xTb ++ (wX1 k xaL lrNa lrMo lrWa lrDe lPe lDa lDr lNa lMo lWa lDe ++ (wX1 k xaT trNa trMo trWa trDe tPe_3 tDa_4 tDr_5 tNa_6 tMo_7 tWa_8 tDe_9)))) => ?_)
      refine W.eq (g2 := F0 m 32 ls ([])) rfl ?_
      refine lv_aload_n hx hb dX7_train_32 rfl (lv_at hl 0 rfl) ?_
      refine va_get (ci := 7) (v := .ref xaT) (C := RX7) (T := TX7) (N := 11) hx hb hts hinX7 hown hK.1 hw.1 0 rfl rfl 1 (by decide) q_1 (fun _ h9 => h9) rfl dX7_train_33 ?_
      refine lv_iload_n hx hb dX7_train_36 rfl (lv_at hl 1 rfl) ?_
      obtain ⟨r_10, tDa_11, tMo_12, tDe_13, hf, h⟩ := b4_inv h
      refine k_callV (host := "") fx hK hA hw (c_X1_runDays l D k xaT trNa trMo trWa trDe _ tPe_3 tDa_4 tDr_5 tNa_6 tMo_7 tWa_8 tDe_9 p1 r_10 tDa_11 tMo_12 tDe_13 hf) (cwV 1 hts gX7_train_X1_runDays rfl rfl rfl (by decide +kernel) ⟨by decide, by decide⟩) (As := [.int p1]) (wr := [(xh, .inr (7, [.ref xaL, .ref xaT, .ref xaO, .ref xaF, .ref xaS, .ref xaI, .ref xaH, .ref xaR, .ref xaU, .int xTf, .int xTb])), (xaL, .inr (1, [.int lPe, .int lDa, .int lDr, .ref lrNa, .ref lrMo, .ref lrWa, .ref lrDe])), (lrNa, .inl (k 0, 5, .inl lNa)), (lrMo, .inl (k 0, 5, .inl lMo)), (lrWa, .inl (k 0, 5, .inl lWa)), (lrDe, .inl (k 0, 25, .inl lDe))]) (ws' := wX7 k xh xaL xaT xaO xaF xaS xaI xaH xaR xaU xTf xTb ++ (wX1 k xaL lrNa lrMo lrWa lrDe lPe lDa lDr lNa lMo lWa lDe ++ (wX1 k xaT trNa trMo trWa trDe tPe_3 tDa_11 tDr_5 tNa_6 tMo_12 tWa_8 tDe_13))) [6, 7, 8, 9, 10] [0, 1, 2, 3, 4, 5] [0, 1, 2, 3, 4, 5, 6, 7, 8, 9, 10] rfl rfl (by decide) (by decide) (by decide) rfl (by decide) 1 rfl rfl [] rfl hl.1 rfl (Nat.le_of_ble_eq_true rfl) dX7_train_37 ⟨by decide, by decide⟩ (fun H locs (hw : Wd D A s.heap H locs (wX7 k xh xaL xaT xaO xaF xaS xaI xaH xaR xaU xTf xTb ++ (wX1 k xaL lrNa lrMo lrWa lrDe lPe lDa lDr lNa lMo lWa lDe ++ (wX1 k xaT trNa trMo trWa trDe tPe_3 tDa_11 tDr_5 tNa_6 tMo_12 tWa_8 tDe_13)))) => ?_)
      refine W.eq (g2 := F0 m 40 ls ([.int r_10])) rfl ?_
      refine lv_pop hx hb dX7_train_40 rfl ?_
      refine lv_bipush (v := (-4)) hx hb dX7_train_41 (by decide) ?_
      refine lv_istore_n (lv' := [(3, .int (-4)), (0, .ref xh), (1, .int p1), (2, .int p2)]) hx hb dX7_train_43 rfl hl (by decide) rfl (fun ls hl => ?_)
      refine lv_iconst (v := 0) hx hb dX7_train_44 (by decide) ?_
      refine lv_istore (lv' := [(4, .int 0), (3, .int (-4)), (0, .ref xh), (1, .int p1), (2, .int p2)]) hx hb dX7_train_45 hl (by decide) rfl (fun ls hl => ?_)
      refine lv_iconst (v := 0) hx hb dX7_train_47 (by decide) ?_
      refine lv_istore (lv' := [(5, .int 0), (4, .int 0), (3, .int (-4)), (0, .ref xh), (1, .int p1), (2, .int p2)]) hx hb dX7_train_48 hl (by decide) rfl (fun ls hl => ?_)
      obtain ⟨v3_17, v4_18, hL_50, h⟩ := b2_inv h
      have X_50 : ∀ (H : Heap) (locs : List Loc) (ls : Array Slot), Wd D A s.heap H locs (wX7 k xh xaL xaT xaO xaF xaS xaI xaH xaR xaU xTf xTb ++ (wX1 k xaL lrNa lrMo lrWa lrDe lPe lDa lDr lNa lMo lWa lDe ++ (wX1 k xaT trNa trMo trWa trDe tPe_3 tDa_11 tDr_5 tNa_6 tMo_12 tWa_8 tDe_13))) → lv_has ls 7 [(2, .int p2), (3, .int v3_17), (4, .int v4_18)] → W p l e rmX7_train s m args below meth c H locs 0 0 Q (F0 m 93 ls []) := by
        intro H locs ls hw hl
        refine lv_iload_n hx hb dX7_train_93 rfl (lv_at hl 1 rfl) ?_
        refine lv_bipush (v := (-4)) hx hb dX7_train_94 (by decide) ?_
        refine kb_icmp_ne (tgt := 102) hx hb dX7_train_96 (by decide) h (fun c_96 h => ?_) (fun c_96 h => ?_)
        · refine lv_bipush (v := (-4)) hx hb dX7_train_99 (by decide) ?_
          cases h
          exact k_iret hx hb hr hlocks hw rfl dX7_train_101 hQ
        · refine lv_iload_n hx hb dX7_train_102 rfl (lv_at hl 0 rfl) ?_
          refine kb_if_ne (tgt := 110) hx hb dX7_train_103 (by decide) h (fun c_103 h => ?_) (fun c_103 h => ?_)
          · refine lv_iload_n hx hb dX7_train_106 rfl (lv_at hl 1 rfl) ?_
            refine lv_goto (tgt := 112) hx hb dX7_train_107 (by decide) ?_
            cases h
            exact k_iret hx hb hr hlocks hw rfl dX7_train_112 hQ
          · refine lv_iload hx hb dX7_train_110 (lv_at hl 2 rfl) ?_
            cases h
            exact k_iret hx hb hr hlocks hw rfl dX7_train_112 hQ
      clear h
      have LP_50 : ∀ (n : Nat) (v3_14 : Int32) (v4_15 : Int32) (v5_16 : Int32), f_X7_train_L50 tPe_3 tDe_13 n v3_14 v4_15 v5_16 = some (v3_17, v4_18) → ∀ (H : Heap) (locs : List Loc) (ls : Array Slot), Wd D A s.heap H locs (wX7 k xh xaL xaT xaO xaF xaS xaI xaH xaR xaU xTf xTb ++ (wX1 k xaL lrNa lrMo lrWa lrDe lPe lDa lDr lNa lMo lWa lDe ++ (wX1 k xaT trNa trMo trWa trDe tPe_3 tDa_11 tDr_5 tNa_6 tMo_12 tWa_8 tDe_13))) → lv_has ls 7 [(0, .ref xh), (2, .int p2), (3, .int v3_14), (4, .int v4_15), (5, .int v5_16)] → W p l e rmX7_train s m args below meth c H locs 0 0 Q (F0 m 50 ls []) := by
        clear hL_50 hw hl
        intro n
        induction n with
        | zero => intro v3_14 v4_15 v5_16 h; rw [f_X7_train_L50] at h; cases h
        | succ n ih =>
          intro v3_14 v4_15 v5_16 h H locs ls hw hl
          rw [f_X7_train_L50] at h
          refine lv_iload hx hb dX7_train_50 (lv_at hl 4 rfl) ?_
          refine lv_aload_n hx hb dX7_train_52 rfl (lv_at hl 0 rfl) ?_
          refine va_get (ci := 7) (v := .ref xaT) (C := RX7) (T := TX7) (N := 11) hx hb hts hinX7 hown hK.1 hw.1 0 rfl rfl 1 (by decide) q_1 (fun _ h9 => h9) rfl dX7_train_53 ?_
          refine va_get (ci := 1) (v := .int tPe_3) (C := RX1) (T := TX1) (N := 7) hx hb hts hinX1 hown hK.1 hw.1 6 rfl rfl 0 (by decide) q_3 (fun _ h9 => h9) rfl dX7_train_56 ?_
          refine kb_icmp_ge (tgt := 93) hx hb dX7_train_59 (by decide) h (fun c_59 h => ?_) (fun c_59 h => ?_)
          · cases h
            exact X_50 _ _ _ hw (lv_sub hl [1, 2, 3] rfl)
          · refine lv_aload_n hx hb dX7_train_62 rfl (lv_at hl 0 rfl) ?_
            refine va_get (ci := 7) (v := .ref xaT) (C := RX7) (T := TX7) (N := 11) hx hb hts hinX7 hown hK.1 hw.1 0 rfl rfl 1 (by decide) q_1 (fun _ h9 => h9) rfl dX7_train_63 ?_
            refine lv_iload hx hb dX7_train_66 (lv_at hl 4 rfl) ?_
            obtain ⟨r_19, hf, h⟩ := b1_inv h
            refine k_callV (host := "") fx hK hA hw (c_X1_owedBy l D k xaT trNa trMo trWa trDe _ tPe_3 tDa_11 tDr_5 tNa_6 tMo_12 tWa_8 tDe_13 v5_16 r_19 hf) (cwV 1 hts gX7_train_X1_owedBy rfl rfl rfl (by decide +kernel) ⟨by decide, by decide⟩) (As := [.int v5_16]) (wr := [(xh, .inr (7, [.ref xaL, .ref xaT, .ref xaO, .ref xaF, .ref xaS, .ref xaI, .ref xaH, .ref xaR, .ref xaU, .int xTf, .int xTb])), (xaL, .inr (1, [.int lPe, .int lDa, .int lDr, .ref lrNa, .ref lrMo, .ref lrWa, .ref lrDe])), (lrNa, .inl (k 0, 5, .inl lNa)), (lrMo, .inl (k 0, 5, .inl lMo)), (lrWa, .inl (k 0, 5, .inl lWa)), (lrDe, .inl (k 0, 25, .inl lDe))]) (ws' := wX7 k xh xaL xaT xaO xaF xaS xaI xaH xaR xaU xTf xTb ++ (wX1 k xaL lrNa lrMo lrWa lrDe lPe lDa lDr lNa lMo lWa lDe ++ (wX1 k xaT trNa trMo trWa trDe tPe_3 tDa_11 tDr_5 tNa_6 tMo_12 tWa_8 tDe_13))) [6, 7, 8, 9, 10] [0, 1, 2, 3, 4, 5] [0, 1, 2, 3, 4, 5, 6, 7, 8, 9, 10] rfl rfl (by decide) (by decide) (by decide) rfl (by decide) 1 rfl rfl [] rfl hl.1 rfl (Nat.le_of_ble_eq_true rfl) dX7_train_68 ⟨by decide, by decide⟩ (fun H locs (hw : Wd D A s.heap H locs (wX7 k xh xaL xaT xaO xaF xaS xaI xaH xaR xaU xTf xTb ++ (wX1 k xaL lrNa lrMo lrWa lrDe lPe lDa lDr lNa lMo lWa lDe ++ (wX1 k xaT trNa trMo trWa trDe tPe_3 tDa_11 tDr_5 tNa_6 tMo_12 tWa_8 tDe_13)))) => ?_)
            refine W.eq (g2 := F0 m 71 ls ([.int r_19])) rfl ?_
            refine lv_istore (lv' := [(6, .int r_19), (0, .ref xh), (2, .int p2), (3, .int v3_14), (4, .int v4_15), (5, .int v5_16)]) hx hb dX7_train_71 hl (by decide) rfl (fun ls hl => ?_)
            refine lv_iload hx hb dX7_train_73 (lv_at hl 0 rfl) ?_
            refine lv_iload hx hb dX7_train_75 (lv_at hl 4 rfl) ?_
            refine kb_icmp_le (tgt := 87) hx hb dX7_train_77 (by decide) h (fun c_77 h => ?_) (fun c_77 h => ?_)
            · refine lv_iinc (v := v5_16 + 1) (lv' := [(5, .int (v5_16 + 1)), (6, .int r_19), (0, .ref xh), (2, .int p2), (3, .int v3_14), (4, .int v4_15)]) hx hb dX7_train_87 hl (k := 5) rfl rfl (by decide) rfl (fun ls hl => ?_)
              refine lv_goto (tgt := 50) hx hb dX7_train_90 (by decide) ?_
              exact ih _ _ _ h _ _ _ hw (lv_sub hl [2, 3, 4, 5, 0] rfl)
            · refine lv_iload hx hb dX7_train_80 (lv_at hl 0 rfl) ?_
              refine lv_istore (lv' := [(4, .int r_19), (6, .int r_19), (0, .ref xh), (2, .int p2), (3, .int v3_14), (5, .int v5_16)]) hx hb dX7_train_82 hl (by decide) rfl (fun ls hl => ?_)
              refine lv_iload hx hb dX7_train_84 (lv_at hl 5 rfl) ?_
              refine lv_istore_n (lv' := [(3, .int v5_16), (4, .int r_19), (6, .int r_19), (0, .ref xh), (2, .int p2), (5, .int v5_16)]) hx hb dX7_train_86 rfl hl (by decide) rfl (fun ls hl => ?_)
              refine lv_iinc (v := v5_16 + 1) (lv' := [(5, .int (v5_16 + 1)), (3, .int v5_16), (4, .int r_19), (6, .int r_19), (0, .ref xh), (2, .int p2)]) hx hb dX7_train_87 hl (k := 5) rfl rfl (by decide) rfl (fun ls hl => ?_)
              refine lv_goto (tgt := 50) hx hb dX7_train_90 (by decide) ?_
              exact ih _ _ _ h _ _ _ hw (lv_sub hl [4, 5, 1, 2, 0] rfl)
      exact LP_50 400 (-4) 0 0 hL_50 _ _ _ hw (lv_sub hl [3, 5, 2, 1, 0] rfl)
