abbrev rmX7_ahead : Room := { frames := 5, cells := 0, slots := 0, locals := 117 }
set_option maxHeartbeats 4000000 in
set_option maxRecDepth 100000 in
theorem c_X7_ahead (l : Launch) (D : va_G) (k : Nat → ClassId) (xh xaL xaT xaO xaF xaS xaI xaH xaR xaU lrNa lrMo lrWa lrDe trNa trMo trWa trDe : Nat) (sz : Nat) (xTf : Int32) (xTb : Int32) (lPe : Int32) (lDa : Int32) (lDr : Int32) (lNa : (Nat → Int32)) (lMo : (Nat → Int32)) (lWa : (Nat → Int32)) (lDe : (Nat → Int32)) (tPe : Int32) (tDa : Int32) (tDr : Int32) (tNa : (Nat → Int32)) (tMo : (Nat → Int32)) (tWa : (Nat → Int32)) (tDe : (Nat → Int32)) (p1 : Int32) (p2 : Int32) (p3 : Int32) (r_ : Int32) (n_tPe : Int32) (n_tDa : Int32) (n_tDr : Int32) (n_tNa : (Nat → Int32)) (n_tMo : (Nat → Int32)) (n_tWa : (Nat → Int32)) (n_tDe : (Nat → Int32)) (hf : f_X7_ahead lPe lDa lDr lNa lMo lWa lDe tPe tDa tDr tNa tMo tWa tDe p1 p2 p3 = some (r_, n_tPe, n_tDa, n_tDr, n_tNa, n_tMo, n_tWa, n_tDe)) : mR l yX7_ahead wsX7_ahead rmX7_ahead D k sz [.ref xh, .int p1, .int p2, .int p3] (wX7 k xh xaL xaT xaO xaF xaS xaI xaH xaR xaU xTf xTb ++ (wX1 k xaL lrNa lrMo lrWa lrDe lPe lDa lDr lNa lMo lWa lDe ++ (wX1 k xaT trNa trMo trWa trDe tPe tDa tDr tNa tMo tWa tDe))) (wX7 k xh xaL xaT xaO xaF xaS xaI xaH xaR xaU xTf xTb ++ (wX1 k xaL lrNa lrMo lrWa lrDe lPe lDa lDr lNa lMo lWa lDe ++ (wX1 k xaT trNa trMo trWa trDe n_tPe n_tDa n_tDr n_tNa n_tMo n_tWa n_tDe))) (some (.int r_)) := by
  refine mR_of (cc := cX7_ahead) (maxL := 4) (ret := some .int) (by decide) rfl (Nat.le_of_ble_eq_true rfl) [(0, .ref xh), (1, .int p1), (2, .int p2), (3, .int p3)] rfl ?_
  intro p e s m below meth c A ls args Q cx hK hA hw hl hQ
  have fx := cx.1
  obtain ⟨⟨hx, hb, hml, hown, hts⟩, hr, hlocks⟩ := cx
  have hinX7 : ∀ w ∈ wsX70, w ∈ wsX7_ahead := fun w h => List.mem_cons_of_mem _ (List.mem_append_left _ (List.mem_append_right _ h))
  have hinX1 : ∀ w ∈ wsX10, w ∈ wsX7_ahead := fun w h => List.mem_cons_of_mem _ (List.mem_append_right _ h)
  have q_1 := hts (.fieldLink RX7 10 "DebtRides" "land" "LDebtRides$Land;") (List.mem_of_getElem? (i := 1) rfl)
  have q_2 := hts (.fieldLink RX7 16 "DebtRides" "trial" "LDebtRides$Land;") (List.mem_of_getElem? (i := 2) rfl)
  have q_3 := hts (.fieldLink RX7 132 "DebtRides$Land" "money" "[I") (List.mem_of_getElem? (i := 3) rfl)
  have h := hf
  unfold f_X7_ahead at h
  clear hf
  refine lv_aload_n hx hb dX7_ahead_0 rfl (lv_at hl 0 rfl) ?_
  refine va_get (ci := 7) (v := .ref xaL) (C := RX7) (T := TX7) (N := 11) hx hb hts hinX7 hown hK.1 hw.1 0 rfl rfl 0 (by decide) q_1 (fun _ h9 => h9) rfl dX7_ahead_1 ?_
  refine lv_iload_n hx hb dX7_ahead_4 rfl (lv_at hl 1 rfl) ?_
  obtain ⟨r_1, hf, h⟩ := b1_inv h
  refine k_callV (host := "") fx hK hA hw (c_X1_has l D k xaL lrNa lrMo lrWa lrDe _ lPe lDa lDr lNa lMo lWa lDe p1 r_1 hf) (cwV 1 hts gX7_ahead_X1_has rfl rfl rfl (by decide +kernel) ⟨by decide, by decide⟩) (As := [.int p1]) (wr := [(xh, .inr (7, [.ref xaL, .ref xaT, .ref xaO, .ref xaF, .ref xaS, .ref xaI, .ref xaH, .ref xaR, .ref xaU, .int xTf, .int xTb])), (xaT, .inr (1, [.int tPe, .int tDa, .int tDr, .ref trNa, .ref trMo, .ref trWa, .ref trDe])), (trNa, .inl (k 0, 5, .inl tNa)), (trMo, .inl (k 0, 5, .inl tMo)), (trWa, .inl (k 0, 5, .inl tWa)), (trDe, .inl (k 0, 25, .inl tDe))]) (ws' := wX7 k xh xaL xaT xaO xaF xaS xaI xaH xaR xaU xTf xTb ++ (wX1 k xaL lrNa lrMo lrWa lrDe lPe lDa lDr lNa lMo lWa lDe ++ (wX1 k xaT trNa trMo trWa trDe tPe tDa tDr tNa tMo tWa tDe))) [1, 2, 3, 4, 5] [0, 6, 7, 8, 9, 10] [0, 6, 7, 8, 9, 10, 1, 2, 3, 4, 5] rfl rfl (by decide) (by decide) (by decide) rfl (by decide) 1 rfl rfl [] rfl hl.1 rfl (Nat.le_of_ble_eq_true rfl) dX7_ahead_5 ⟨by decide, by decide⟩ (fun H locs (hw : Wd D A s.heap H locs (wX7 k xh xaL xaT xaO xaF xaS xaI xaH xaR xaU xTf xTb ++ (wX1 k xaL lrNa lrMo lrWa lrDe lPe lDa lDr lNa lMo lWa lDe ++ (wX1 k xaT trNa trMo trWa trDe tPe tDa tDr tNa tMo tWa tDe)))) => ?_)
  refine W.eq (g2 := F0 m 8 ls ([.int r_1])) rfl ?_
  refine kb_if_eq (tgt := 30) hx hb dX7_ahead_8 (by decide) h (fun c_8 h => ?_) (fun c_8 h => ?_)
  · refine lv_iconst (v := (-1)) hx hb dX7_ahead_30 (by decide) ?_
    cases h
    exact k_iret hx hb hr hlocks hw rfl dX7_ahead_31 hQ
  · refine lv_iload_n hx hb dX7_ahead_11 rfl (lv_at hl 2 rfl) ?_
    refine lv_iconst (v := 0) hx hb dX7_ahead_12 (by decide) ?_
    refine lv_bipush (v := 60) hx hb dX7_ahead_13 (by decide) ?_
    obtain ⟨r_2, hf, h⟩ := b1_inv h
    refine k_callS (b := 0) (C := "") (host := "") fx hK hA hw (c_X7_within l D k _ p2 0 60 r_2 hf) (va_cwS 3 hts gX7_ahead_X7_within rfl rfl rfl (by decide +kernel) ⟨by decide, by decide⟩) (As := [.int p2, .int 0, .int 60]) (wr := [(xh, .inr (7, [.ref xaL, .ref xaT, .ref xaO, .ref xaF, .ref xaS, .ref xaI, .ref xaH, .ref xaR, .ref xaU, .int xTf, .int xTb])), (xaL, .inr (1, [.int lPe, .int lDa, .int lDr, .ref lrNa, .ref lrMo, .ref lrWa, .ref lrDe])), (lrNa, .inl (k 0, 5, .inl lNa)), (lrMo, .inl (k 0, 5, .inl lMo)), (lrWa, .inl (k 0, 5, .inl lWa)), (lrDe, .inl (k 0, 25, .inl lDe)), (xaT, .inr (1, [.int tPe, .int tDa, .int tDr, .ref trNa, .ref trMo, .ref trWa, .ref trDe])), (trNa, .inl (k 0, 5, .inl tNa)), (trMo, .inl (k 0, 5, .inl tMo)), (trWa, .inl (k 0, 5, .inl tWa)), (trDe, .inl (k 0, 25, .inl tDe))]) (ws' := wX7 k xh xaL xaT xaO xaF xaS xaI xaH xaR xaU xTf xTb ++ (wX1 k xaL lrNa lrMo lrWa lrDe lPe lDa lDr lNa lMo lWa lDe ++ (wX1 k xaT trNa trMo trWa trDe tPe tDa tDr tNa tMo tWa tDe))) [] [0, 1, 2, 3, 4, 5, 6, 7, 8, 9, 10] [0, 1, 2, 3, 4, 5, 6, 7, 8, 9, 10] rfl rfl (by decide) (by decide) (by decide) rfl (by decide) [] rfl hl.1 rfl (Nat.le_of_ble_eq_true rfl) dX7_ahead_15 ⟨by decide, by decide⟩ (fun H locs (hw : Wd D A s.heap H locs (wX7 k xh xaL xaT xaO xaF xaS xaI xaH xaR xaU xTf xTb ++ (wX1 k xaL lrNa lrMo lrWa lrDe lPe lDa lDr lNa lMo lWa lDe ++ (wX1 k xaT trNa trMo trWa trDe tPe tDa tDr tNa tMo tWa tDe)))) => ?_)
    refine W.eq (g2 := F0 m 18 ls ([.int r_2])) rfl ?_
    refine kb_if_eq (tgt := 30) hx hb dX7_ahead_18 (by decide) h (fun c_18 h => ?_) (fun c_18 h => ?_)
    · refine lv_iconst (v := (-1)) hx hb dX7_ahead_30 (by decide) ?_
      cases h
      exact k_iret hx hb hr hlocks hw rfl dX7_ahead_31 hQ
    · refine lv_iload_n hx hb dX7_ahead_21 rfl (lv_at hl 3 rfl) ?_
      refine lv_iconst (v := 0) hx hb dX7_ahead_22 (by decide) ?_
      refine lv_iconst (v := 2) hx hb dX7_ahead_23 (by decide) ?_
      obtain ⟨r_3, hf, h⟩ := b1_inv h
      refine k_callS (b := 0) (C := "") (host := "") fx hK hA hw (c_X7_within l D k _ p3 0 2 r_3 hf) (va_cwS 3 hts gX7_ahead_X7_within rfl rfl rfl (by decide +kernel) ⟨by decide, by decide⟩) (As := [.int p3, .int 0, .int 2]) (wr := [(xh, .inr (7, [.ref xaL, .ref xaT, .ref xaO, .ref xaF, .ref xaS, .ref xaI, .ref xaH, .ref xaR, .ref xaU, .int xTf, .int xTb])), (xaL, .inr (1, [.int lPe, .int lDa, .int lDr, .ref lrNa, .ref lrMo, .ref lrWa, .ref lrDe])), (lrNa, .inl (k 0, 5, .inl lNa)), (lrMo, .inl (k 0, 5, .inl lMo)), (lrWa, .inl (k 0, 5, .inl lWa)), (lrDe, .inl (k 0, 25, .inl lDe)), (xaT, .inr (1, [.int tPe, .int tDa, .int tDr, .ref trNa, .ref trMo, .ref trWa, .ref trDe])), (trNa, .inl (k 0, 5, .inl tNa)), (trMo, .inl (k 0, 5, .inl tMo)), (trWa, .inl (k 0, 5, .inl tWa)), (trDe, .inl (k 0, 25, .inl tDe))]) (ws' := wX7 k xh xaL xaT xaO xaF xaS xaI xaH xaR xaU xTf xTb ++ (wX1 k xaL lrNa lrMo lrWa lrDe lPe lDa lDr lNa lMo lWa lDe ++ (wX1 k xaT trNa trMo trWa trDe tPe tDa tDr tNa tMo tWa tDe))) [] [0, 1, 2, 3, 4, 5, 6, 7, 8, 9, 10] [0, 1, 2, 3, 4, 5, 6, 7, 8, 9, 10] rfl rfl (by decide) (by decide) (by decide) rfl (by decide) [] rfl hl.1 rfl (Nat.le_of_ble_eq_true rfl) dX7_ahead_24 ⟨by decide, by decide⟩ (fun H locs (hw : Wd D A s.heap H locs (wX7 k xh xaL xaT xaO xaF xaS xaI xaH xaR xaU xTf xTb ++ (wX1 k xaL lrNa lrMo lrWa lrDe lPe lDa lDr lNa lMo lWa lDe ++ (wX1 k xaT trNa trMo trWa trDe tPe tDa tDr tNa tMo tWa tDe)))) => ?_)
      refine W.eq (g2 := F0 m 27 ls ([.int r_3])) rfl ?_
      refine kb_if_ne (tgt := 32) hx hb dX7_ahead_27 (by decide) h (fun c_27 h => ?_) (fun c_27 h => ?_)
      · refine lv_iconst (v := (-1)) hx hb dX7_ahead_30 (by decide) ?_
        cases h
        exact k_iret hx hb hr hlocks hw rfl dX7_ahead_31 hQ
      · refine lv_aload_n hx hb dX7_ahead_32 rfl (lv_at hl 0 rfl) ?_
        refine va_get (ci := 7) (v := .ref xaT) (C := RX7) (T := TX7) (N := 11) hx hb hts hinX7 hown hK.1 hw.1 0 rfl rfl 1 (by decide) q_2 (fun _ h9 => h9) rfl dX7_ahead_33 ?_
        refine lv_aload_n hx hb dX7_ahead_36 rfl (lv_at hl 0 rfl) ?_
        refine va_get (ci := 7) (v := .ref xaL) (C := RX7) (T := TX7) (N := 11) hx hb hts hinX7 hown hK.1 hw.1 0 rfl rfl 0 (by decide) q_1 (fun _ h9 => h9) rfl dX7_ahead_37 ?_
        obtain ⟨tPe_4, tDa_5, tDr_6, tNa_7, tMo_8, tWa_9, tDe_10, hf, h⟩ := b7_inv h
        refine k_callV (host := "") fx hK hA hw (c_X1_become l D k xaT trNa trMo trWa trDe xaL lrNa lrMo lrWa lrDe _ tPe tDa tDr tNa tMo tWa tDe lPe lDa lDr lNa lMo lWa lDe tPe_4 tDa_5 tDr_6 tNa_7 tMo_8 tWa_9 tDe_10 hf) (cwV 1 hts gX7_ahead_X1_become rfl rfl rfl (by decide +kernel) ⟨by decide, by decide⟩) (As := [.ref xaL]) (wr := [(xh, .inr (7, [.ref xaL, .ref xaT, .ref xaO, .ref xaF, .ref xaS, .ref xaI, .ref xaH, .ref xaR, .ref xaU, .int xTf, .int xTb]))]) (ws' := wX7 k xh xaL xaT xaO xaF xaS xaI xaH xaR xaU xTf xTb ++ (wX1 k xaL lrNa lrMo lrWa lrDe lPe lDa lDr lNa lMo lWa lDe ++ (wX1 k xaT trNa trMo trWa trDe tPe_4 tDa_5 tDr_6 tNa_7 tMo_8 tWa_9 tDe_10))) [6, 7, 8, 9, 10, 1, 2, 3, 4, 5] [0] [0, 6, 7, 8, 9, 10, 1, 2, 3, 4, 5] rfl rfl (by decide) (by decide) (by decide) rfl (by decide) 1 rfl rfl [] rfl hl.1 rfl (Nat.le_of_ble_eq_true rfl) dX7_ahead_40 ⟨by decide, by decide⟩ (fun H locs (hw : Wd D A s.heap H locs (wX7 k xh xaL xaT xaO xaF xaS xaI xaH xaR xaU xTf xTb ++ (wX1 k xaL lrNa lrMo lrWa lrDe lPe lDa lDr lNa lMo lWa lDe ++ (wX1 k xaT trNa trMo trWa trDe tPe_4 tDa_5 tDr_6 tNa_7 tMo_8 tWa_9 tDe_10)))) => ?_)
        refine W.eq (g2 := F0 m 43 ls ([])) rfl ?_
        refine lv_aload_n hx hb dX7_ahead_43 rfl (lv_at hl 0 rfl) ?_
        refine va_get (ci := 7) (v := .ref xaT) (C := RX7) (T := TX7) (N := 11) hx hb hts hinX7 hown hK.1 hw.1 0 rfl rfl 1 (by decide) q_2 (fun _ h9 => h9) rfl dX7_ahead_44 ?_
        refine lv_iload_n hx hb dX7_ahead_47 rfl (lv_at hl 2 rfl) ?_
        obtain ⟨r_11, tDa_12, tMo_13, tDe_14, hf, h⟩ := b4_inv h
        refine k_callV (host := "") fx hK hA hw (c_X1_runDays l D k xaT trNa trMo trWa trDe _ tPe_4 tDa_5 tDr_6 tNa_7 tMo_8 tWa_9 tDe_10 p2 r_11 tDa_12 tMo_13 tDe_14 hf) (cwV 1 hts gX7_ahead_X1_runDays rfl rfl rfl (by decide +kernel) ⟨by decide, by decide⟩) (As := [.int p2]) (wr := [(xh, .inr (7, [.ref xaL, .ref xaT, .ref xaO, .ref xaF, .ref xaS, .ref xaI, .ref xaH, .ref xaR, .ref xaU, .int xTf, .int xTb])), (xaL, .inr (1, [.int lPe, .int lDa, .int lDr, .ref lrNa, .ref lrMo, .ref lrWa, .ref lrDe])), (lrNa, .inl (k 0, 5, .inl lNa)), (lrMo, .inl (k 0, 5, .inl lMo)), (lrWa, .inl (k 0, 5, .inl lWa)), (lrDe, .inl (k 0, 25, .inl lDe))]) (ws' := wX7 k xh xaL xaT xaO xaF xaS xaI xaH xaR xaU xTf xTb ++ (wX1 k xaL lrNa lrMo lrWa lrDe lPe lDa lDr lNa lMo lWa lDe ++ (wX1 k xaT trNa trMo trWa trDe tPe_4 tDa_12 tDr_6 tNa_7 tMo_13 tWa_9 tDe_14))) [6, 7, 8, 9, 10] [0, 1, 2, 3, 4, 5] [0, 1, 2, 3, 4, 5, 6, 7, 8, 9, 10] rfl rfl (by decide) (by decide) (by decide) rfl (by decide) 1 rfl rfl [] rfl hl.1 rfl (Nat.le_of_ble_eq_true rfl) dX7_ahead_48 ⟨by decide, by decide⟩ (fun H locs (hw : Wd D A s.heap H locs (wX7 k xh xaL xaT xaO xaF xaS xaI xaH xaR xaU xTf xTb ++ (wX1 k xaL lrNa lrMo lrWa lrDe lPe lDa lDr lNa lMo lWa lDe ++ (wX1 k xaT trNa trMo trWa trDe tPe_4 tDa_12 tDr_6 tNa_7 tMo_13 tWa_9 tDe_14)))) => ?_)
        refine W.eq (g2 := F0 m 51 ls ([.int r_11])) rfl ?_
        refine lv_pop hx hb dX7_ahead_51 rfl ?_
        refine lv_iload_n hx hb dX7_ahead_52 rfl (lv_at hl 3 rfl) ?_
        refine kb_if_ne (tgt := 65) hx hb dX7_ahead_53 (by decide) h (fun c_53 h => ?_) (fun c_53 h => ?_)
        · refine lv_aload_n hx hb dX7_ahead_56 rfl (lv_at hl 0 rfl) ?_
          refine va_get (ci := 7) (v := .ref xaT) (C := RX7) (T := TX7) (N := 11) hx hb hts hinX7 hown hK.1 hw.1 0 rfl rfl 1 (by decide) q_2 (fun _ h9 => h9) rfl dX7_ahead_57 ?_
          refine lv_iload_n hx hb dX7_ahead_60 rfl (lv_at hl 1 rfl) ?_
          obtain ⟨r_17, hf, h⟩ := b1_inv h
          refine k_callV (host := "") fx hK hA hw (c_X1_owedBy l D k xaT trNa trMo trWa trDe _ tPe_4 tDa_12 tDr_6 tNa_7 tMo_13 tWa_9 tDe_14 p1 r_17 hf) (cwV 1 hts gX7_ahead_X1_owedBy rfl rfl rfl (by decide +kernel) ⟨by decide, by decide⟩) (As := [.int p1]) (wr := [(xh, .inr (7, [.ref xaL, .ref xaT, .ref xaO, .ref xaF, .ref xaS, .ref xaI, .ref xaH, .ref xaR, .ref xaU, .int xTf, .int xTb])), (xaL, .inr (1, [.int lPe, .int lDa, .int lDr, .ref lrNa, .ref lrMo, .ref lrWa, .ref lrDe])), (lrNa, .inl (k 0, 5, .inl lNa)), (lrMo, .inl (k 0, 5, .inl lMo)), (lrWa, .inl (k 0, 5, .inl lWa)), (lrDe, .inl (k 0, 25, .inl lDe))]) (ws' := wX7 k xh xaL xaT xaO xaF xaS xaI xaH xaR xaU xTf xTb ++ (wX1 k xaL lrNa lrMo lrWa lrDe lPe lDa lDr lNa lMo lWa lDe ++ (wX1 k xaT trNa trMo trWa trDe tPe_4 tDa_12 tDr_6 tNa_7 tMo_13 tWa_9 tDe_14))) [6, 7, 8, 9, 10] [0, 1, 2, 3, 4, 5] [0, 1, 2, 3, 4, 5, 6, 7, 8, 9, 10] rfl rfl (by decide) (by decide) (by decide) rfl (by decide) 1 rfl rfl [] rfl hl.1 rfl (Nat.le_of_ble_eq_true rfl) dX7_ahead_61 ⟨by decide, by decide⟩ (fun H locs (hw : Wd D A s.heap H locs (wX7 k xh xaL xaT xaO xaF xaS xaI xaH xaR xaU xTf xTb ++ (wX1 k xaL lrNa lrMo lrWa lrDe lPe lDa lDr lNa lMo lWa lDe ++ (wX1 k xaT trNa trMo trWa trDe tPe_4 tDa_12 tDr_6 tNa_7 tMo_13 tWa_9 tDe_14)))) => ?_)
          refine W.eq (g2 := F0 m 64 ls ([.int r_17])) rfl ?_
          cases h
          exact k_iret hx hb hr hlocks hw rfl dX7_ahead_64 hQ
        · refine lv_iload_n hx hb dX7_ahead_65 rfl (lv_at hl 3 rfl) ?_
          refine lv_iconst (v := 1) hx hb dX7_ahead_66 (by decide) ?_
          refine kb_icmp_ne (tgt := 82) hx hb dX7_ahead_67 (by decide) h (fun c_67 h => ?_) (fun c_67 h => ?_)
          · refine lv_aload_n hx hb dX7_ahead_70 rfl (lv_at hl 0 rfl) ?_
            refine va_get (ci := 7) (v := .ref xaT) (C := RX7) (T := TX7) (N := 11) hx hb hts hinX7 hown hK.1 hw.1 0 rfl rfl 1 (by decide) q_2 (fun _ h9 => h9) rfl dX7_ahead_71 ?_
            refine va_get (ci := 1) (v := .ref trMo) (C := RX1) (T := TX1) (N := 7) hx hb hts hinX1 hown hK.1 hw.1 6 rfl rfl 4 (by decide) q_3 (fun _ h9 => h9) rfl dX7_ahead_74 ?_
            refine lv_iload_n hx hb dX7_ahead_77 rfl (lv_at hl 1 rfl) ?_
            refine k_iald hx hb hK hw 8 rfl dX7_ahead_78 h (fun a_16 h => ?_)
            refine lv_goto (tgt := 90) hx hb dX7_ahead_79 (by decide) ?_
            cases h
            exact k_iret hx hb hr hlocks hw rfl dX7_ahead_90 hQ
          · refine lv_aload_n hx hb dX7_ahead_82 rfl (lv_at hl 0 rfl) ?_
            refine va_get (ci := 7) (v := .ref xaT) (C := RX7) (T := TX7) (N := 11) hx hb hts hinX7 hown hK.1 hw.1 0 rfl rfl 1 (by decide) q_2 (fun _ h9 => h9) rfl dX7_ahead_83 ?_
            refine lv_iload_n hx hb dX7_ahead_86 rfl (lv_at hl 1 rfl) ?_
            obtain ⟨r_15, hf, h⟩ := b1_inv h
            refine k_callV (host := "") fx hK hA hw (c_X1_heightOf l D k xaT trNa trMo trWa trDe _ tPe_4 tDa_12 tDr_6 tNa_7 tMo_13 tWa_9 tDe_14 p1 r_15 hf) (cwV 1 hts gX7_ahead_X1_heightOf rfl rfl rfl (by decide +kernel) ⟨by decide, by decide⟩) (As := [.int p1]) (wr := [(xh, .inr (7, [.ref xaL, .ref xaT, .ref xaO, .ref xaF, .ref xaS, .ref xaI, .ref xaH, .ref xaR, .ref xaU, .int xTf, .int xTb])), (xaL, .inr (1, [.int lPe, .int lDa, .int lDr, .ref lrNa, .ref lrMo, .ref lrWa, .ref lrDe])), (lrNa, .inl (k 0, 5, .inl lNa)), (lrMo, .inl (k 0, 5, .inl lMo)), (lrWa, .inl (k 0, 5, .inl lWa)), (lrDe, .inl (k 0, 25, .inl lDe))]) (ws' := wX7 k xh xaL xaT xaO xaF xaS xaI xaH xaR xaU xTf xTb ++ (wX1 k xaL lrNa lrMo lrWa lrDe lPe lDa lDr lNa lMo lWa lDe ++ (wX1 k xaT trNa trMo trWa trDe tPe_4 tDa_12 tDr_6 tNa_7 tMo_13 tWa_9 tDe_14))) [6, 7, 8, 9, 10] [0, 1, 2, 3, 4, 5] [0, 1, 2, 3, 4, 5, 6, 7, 8, 9, 10] rfl rfl (by decide) (by decide) (by decide) rfl (by decide) 1 rfl rfl [] rfl hl.1 rfl (Nat.le_of_ble_eq_true rfl) dX7_ahead_87 ⟨by decide, by decide⟩ (fun H locs (hw : Wd D A s.heap H locs (wX7 k xh xaL xaT xaO xaF xaS xaI xaH xaR xaU xTf xTb ++ (wX1 k xaL lrNa lrMo lrWa lrDe lPe lDa lDr lNa lMo lWa lDe ++ (wX1 k xaT trNa trMo trWa trDe tPe_4 tDa_12 tDr_6 tNa_7 tMo_13 tWa_9 tDe_14)))) => ?_)
            refine W.eq (g2 := F0 m 90 ls ([.int r_15])) rfl ?_
            cases h
            exact k_iret hx hb hr hlocks hw rfl dX7_ahead_90 hQ
abbrev rmX7_swap : Room := { frames := 1, cells := 0, slots := 0, locals := 22 }
set_option maxHeartbeats 4000000 in
set_option maxRecDepth 100000 in
theorem c_X7_swap (l : Launch) (D : va_G) (k : Nat → ClassId) (wh : Nat) (sz : Nat) (wRo : (Nat → Int32)) (p2 : Int32) (p3 : Int32) (p4 : Int32) (r_ : Int32) (n_wRo : (Nat → Int32)) (hf : f_X7_swap wRo p2 p3 p4 = some (r_, n_wRo)) : mR l yX7_swap wsX7_swap rmX7_swap D k sz [.ref wh, .int p2, .int p3, .int p4] (wROW5 k wh wRo) (wROW5 k wh n_wRo) (some (.int r_)) := by
  refine mR_of (cc := cX7_swap) (maxL := 5) (ret := some .int) (by decide) rfl (Nat.le_of_ble_eq_true rfl) [(0, .ref wh), (1, .int p2), (2, .int p3), (3, .int p4)] rfl ?_
  intro p e s m below meth c A ls args Q cx hK hA hw hl hQ
  have fx := cx.1
  obtain ⟨⟨hx, hb, hml, hown, hts⟩, hr, hlocks⟩ := cx
  have h := hf
  unfold f_X7_swap at h
  clear hf
  refine lv_iload_n hx hb dX7_swap_0 rfl (lv_at hl 2 rfl) ?_
  refine lv_iconst (v := 0) hx hb dX7_swap_1 (by decide) ?_
  refine lv_iload_n hx hb dX7_swap_2 rfl (lv_at hl 3 rfl) ?_
  obtain ⟨r_1, hf, h⟩ := b1_inv h
  refine k_callS (b := 0) (C := "") (host := "") fx hK hA hw (c_X7_within l D k _ p3 0 p4 r_1 hf) (va_cwS 3 hts gX7_swap_X7_within rfl rfl rfl (by decide +kernel) ⟨by decide, by decide⟩) (As := [.int p3, .int 0, .int p4]) (wr := [(wh, .inl (k 0, 5, .inl wRo))]) (ws' := wROW5 k wh wRo) [] [0] [0] rfl rfl (by decide) (by decide) (by decide) rfl (by decide) [] rfl hl.1 rfl (Nat.le_of_ble_eq_true rfl) dX7_swap_3 ⟨by decide, by decide⟩ (fun H locs (hw : Wd D A s.heap H locs (wROW5 k wh wRo)) => ?_)
  refine W.eq (g2 := F0 m 6 ls ([.int r_1])) rfl ?_
  refine kb_if_eq (tgt := 21) hx hb dX7_swap_6 (by decide) h (fun c_6 h => ?_) (fun c_6 h => ?_)
  · refine lv_iconst (v := (-1)) hx hb dX7_swap_21 (by decide) ?_
    cases h
    exact k_iret hx hb hr hlocks hw rfl dX7_swap_22 hQ
  · refine lv_iload_n hx hb dX7_swap_9 rfl (lv_at hl 1 rfl) ?_
    refine lv_iconst (v := 0) hx hb dX7_swap_10 (by decide) ?_
    refine lv_aload_n hx hb dX7_swap_11 rfl (lv_at hl 0 rfl) ?_
    refine va_alen (v := 5) hx hb hK.1 hw.1 0 0 rfl rfl rfl dX7_swap_12 ?_
    refine lv_iconst (v := 1) hx hb dX7_swap_13 (by decide) ?_
    refine lv_isub hx hb dX7_swap_14 ?_
    refine k_lit (y := 4) (by decide) ?_
    obtain ⟨r_2, hf, h⟩ := b1_inv h
    refine k_callS (b := 0) (C := "") (host := "") fx hK hA hw (c_X7_within l D k _ p2 0 4 r_2 hf) (va_cwS 3 hts gX7_swap_X7_within rfl rfl rfl (by decide +kernel) ⟨by decide, by decide⟩) (As := [.int p2, .int 0, .int 4]) (wr := [(wh, .inl (k 0, 5, .inl wRo))]) (ws' := wROW5 k wh wRo) [] [0] [0] rfl rfl (by decide) (by decide) (by decide) rfl (by decide) [] rfl hl.1 rfl (Nat.le_of_ble_eq_true rfl) dX7_swap_15 ⟨by decide, by decide⟩ (fun H locs (hw : Wd D A s.heap H locs (wROW5 k wh wRo)) => ?_)
    refine W.eq (g2 := F0 m 18 ls ([.int r_2])) rfl ?_
    refine kb_if_ne (tgt := 23) hx hb dX7_swap_18 (by decide) h (fun c_18 h => ?_) (fun c_18 h => ?_)
    · refine lv_iconst (v := (-1)) hx hb dX7_swap_21 (by decide) ?_
      cases h
      exact k_iret hx hb hr hlocks hw rfl dX7_swap_22 hQ
    · refine lv_aload_n hx hb dX7_swap_23 rfl (lv_at hl 0 rfl) ?_
      refine lv_iload_n hx hb dX7_swap_24 rfl (lv_at hl 1 rfl) ?_
      refine k_iald hx hb hK hw 0 rfl dX7_swap_25 h (fun a_3 h => ?_)
      refine lv_istore (lv' := [(4, .int a_3), (0, .ref wh), (1, .int p2), (2, .int p3), (3, .int p4)]) hx hb dX7_swap_26 hl (by decide) rfl (fun ls hl => ?_)
      refine lv_aload_n hx hb dX7_swap_28 rfl (lv_at hl 1 rfl) ?_
      refine lv_iload_n hx hb dX7_swap_29 rfl (lv_at hl 2 rfl) ?_
      refine lv_iload_n hx hb dX7_swap_30 rfl (lv_at hl 3 rfl) ?_
      refine k_iast hx hb hK hw 0 rfl dX7_swap_31 h (fun wRo_4 h H locs (hw : Wd D A s.heap H locs (wROW5 k wh wRo_4)) => ?_)
      refine lv_iload hx hb dX7_swap_32 (lv_at hl 0 rfl) ?_
      cases h
      exact k_iret hx hb hr hlocks hw rfl dX7_swap_34 hQ
abbrev rmX7_alter : Room := { frames := 2, cells := 0, slots := 0, locals := 46 }
set_option maxHeartbeats 4000000 in
set_option maxRecDepth 100000 in
theorem c_X7_alter (l : Launch) (D : va_G) (k : Nat → ClassId) (xh xaL xaT xaO xaF xaS xaI xaH xaR xaU lrNa lrMo lrWa lrDe : Nat) (sz : Nat) (xTf : Int32) (xTb : Int32) (lPe : Int32) (lDa : Int32) (lDr : Int32) (lNa : (Nat → Int32)) (lMo : (Nat → Int32)) (lWa : (Nat → Int32)) (lDe : (Nat → Int32)) (p1 : Int32) (p2 : Int32) (p3 : Int32) (r_ : Int32) (n_lNa : (Nat → Int32)) (n_lMo : (Nat → Int32)) (n_lWa : (Nat → Int32)) (hf : f_X7_alter lPe lNa lMo lWa p1 p2 p3 = some (r_, n_lNa, n_lMo, n_lWa)) : mR l yX7_alter wsX7_alter rmX7_alter D k sz [.ref xh, .int p1, .int p2, .int p3] (wX7 k xh xaL xaT xaO xaF xaS xaI xaH xaR xaU xTf xTb ++ (wX1 k xaL lrNa lrMo lrWa lrDe lPe lDa lDr lNa lMo lWa lDe)) (wX7 k xh xaL xaT xaO xaF xaS xaI xaH xaR xaU xTf xTb ++ (wX1 k xaL lrNa lrMo lrWa lrDe lPe lDa lDr n_lNa n_lMo n_lWa lDe)) (some (.int r_)) := by
  refine mR_of (cc := cX7_alter) (maxL := 4) (ret := some .int) (by decide) rfl (Nat.le_of_ble_eq_true rfl) [(0, .ref xh), (1, .int p1), (2, .int p2), (3, .int p3)] rfl ?_
  intro p e s m below meth c A ls args Q cx hK hA hw hl hQ
  have fx := cx.1
  obtain ⟨⟨hx, hb, hml, hown, hts⟩, hr, hlocks⟩ := cx
  have hinX7 : ∀ w ∈ wsX70, w ∈ wsX7_alter := fun w h => List.mem_cons_of_mem _ (List.mem_append_left _ (List.mem_append_right _ h))
  have hinX1 : ∀ w ∈ wsX10, w ∈ wsX7_alter := fun w h => List.mem_cons_of_mem _ (List.mem_append_right _ h)
  have q_1 := hts (.fieldLink RX7 10 "DebtRides" "land" "LDebtRides$Land;") (List.mem_of_getElem? (i := 1) rfl)
  have q_2 := hts (.fieldLink RX7 129 "DebtRides$Land" "nature" "[I") (List.mem_of_getElem? (i := 2) rfl)
  have q_3 := hts (.fieldLink RX7 132 "DebtRides$Land" "money" "[I") (List.mem_of_getElem? (i := 3) rfl)
  have q_4 := hts (.fieldLink RX7 135 "DebtRides$Land" "wage" "[I") (List.mem_of_getElem? (i := 4) rfl)
  have h := hf
  unfold f_X7_alter at h
  clear hf
  refine lv_aload_n hx hb dX7_alter_0 rfl (lv_at hl 0 rfl) ?_
  refine va_get (ci := 7) (v := .ref xaL) (C := RX7) (T := TX7) (N := 11) hx hb hts hinX7 hown hK.1 hw.1 0 rfl rfl 0 (by decide) q_1 (fun _ h9 => h9) rfl dX7_alter_1 ?_
  refine lv_iload_n hx hb dX7_alter_4 rfl (lv_at hl 1 rfl) ?_
  obtain ⟨r_1, hf, h⟩ := b1_inv h
  refine k_callV (host := "") fx hK hA hw (c_X1_has l D k xaL lrNa lrMo lrWa lrDe _ lPe lDa lDr lNa lMo lWa lDe p1 r_1 hf) (cwV 1 hts gX7_alter_X1_has rfl rfl rfl (by decide +kernel) ⟨by decide, by decide⟩) (As := [.int p1]) (wr := [(xh, .inr (7, [.ref xaL, .ref xaT, .ref xaO, .ref xaF, .ref xaS, .ref xaI, .ref xaH, .ref xaR, .ref xaU, .int xTf, .int xTb]))]) (ws' := wX7 k xh xaL xaT xaO xaF xaS xaI xaH xaR xaU xTf xTb ++ (wX1 k xaL lrNa lrMo lrWa lrDe lPe lDa lDr lNa lMo lWa lDe)) [1, 2, 3, 4, 5] [0] [0, 1, 2, 3, 4, 5] rfl rfl (by decide) (by decide) (by decide) rfl (by decide) 1 rfl rfl [] rfl hl.1 rfl (Nat.le_of_ble_eq_true rfl) dX7_alter_5 ⟨by decide, by decide⟩ (fun H locs (hw : Wd D A s.heap H locs (wX7 k xh xaL xaT xaO xaF xaS xaI xaH xaR xaU xTf xTb ++ (wX1 k xaL lrNa lrMo lrWa lrDe lPe lDa lDr lNa lMo lWa lDe))) => ?_)
  refine W.eq (g2 := F0 m 8 ls ([.int r_1])) rfl ?_
  refine kb_if_ne (tgt := 13) hx hb dX7_alter_8 (by decide) h (fun c_8 h => ?_) (fun c_8 h => ?_)
  · refine lv_iconst (v := (-1)) hx hb dX7_alter_11 (by decide) ?_
    cases h
    exact k_iret hx hb hr hlocks hw rfl dX7_alter_12 hQ
  · refine lv_iload_n hx hb dX7_alter_13 rfl (lv_at hl 2 rfl) ?_
    by_cases c14_0 : p2 = 0
    · rw [if_pos c14_0] at h
      refine lv_tableIn (off := 26) (tgt := 40) hx hb dX7_alter_14 (by rw [c14_0]; decide) (by rw [c14_0]; decide) (by rw [c14_0]; rfl) (by decide) ?_
      refine lv_aload_n hx hb dX7_alter_40 rfl (lv_at hl 0 rfl) ?_
      refine va_get (ci := 7) (v := .ref xaL) (C := RX7) (T := TX7) (N := 11) hx hb hts hinX7 hown hK.1 hw.1 0 rfl rfl 0 (by decide) q_1 (fun _ h9 => h9) rfl dX7_alter_41 ?_
      refine va_get (ci := 1) (v := .ref lrNa) (C := RX1) (T := TX1) (N := 7) hx hb hts hinX1 hown hK.1 hw.1 1 rfl rfl 3 (by decide) q_2 (fun _ h9 => h9) rfl dX7_alter_44 ?_
      refine lv_iload_n hx hb dX7_alter_47 rfl (lv_at hl 1 rfl) ?_
      refine lv_iload_n hx hb dX7_alter_48 rfl (lv_at hl 3 rfl) ?_
      refine lv_iconst (v := 3) hx hb dX7_alter_49 (by decide) ?_
      obtain ⟨r_2, lNa_3, hf, h⟩ := b2_inv h
      refine k_callS (b := 0) (C := "") (host := "") fx hK hA hw (c_X7_swap l D k lrNa _ lNa p1 p3 3 r_2 lNa_3 hf) (va_cwS 4 hts gX7_alter_X7_swap rfl rfl rfl (by decide +kernel) ⟨by decide, by decide⟩) (As := [.ref lrNa, .int p1, .int p3, .int 3]) (wr := [(xh, .inr (7, [.ref xaL, .ref xaT, .ref xaO, .ref xaF, .ref xaS, .ref xaI, .ref xaH, .ref xaR, .ref xaU, .int xTf, .int xTb])), (xaL, .inr (1, [.int lPe, .int lDa, .int lDr, .ref lrNa, .ref lrMo, .ref lrWa, .ref lrDe])), (lrMo, .inl (k 0, 5, .inl lMo)), (lrWa, .inl (k 0, 5, .inl lWa)), (lrDe, .inl (k 0, 25, .inl lDe))]) (ws' := wX7 k xh xaL xaT xaO xaF xaS xaI xaH xaR xaU xTf xTb ++ (wX1 k xaL lrNa lrMo lrWa lrDe lPe lDa lDr lNa_3 lMo lWa lDe)) [2] [0, 1, 3, 4, 5] [0, 1, 5, 2, 3, 4] rfl rfl (by decide) (by decide) (by decide) rfl (by decide) [] rfl hl.1 rfl (Nat.le_of_ble_eq_true rfl) dX7_alter_50 ⟨by decide, by decide⟩ (fun H locs (hw : Wd D A s.heap H locs (wX7 k xh xaL xaT xaO xaF xaS xaI xaH xaR xaU xTf xTb ++ (wX1 k xaL lrNa lrMo lrWa lrDe lPe lDa lDr lNa_3 lMo lWa lDe))) => ?_)
      refine W.eq (g2 := F0 m 53 ls ([.int r_2])) rfl ?_
      cases h
      exact k_iret hx hb hr hlocks hw rfl dX7_alter_53 hQ
    · rw [if_neg c14_0] at h
      by_cases c14_1 : p2 = 1
      · rw [if_pos c14_1] at h
        refine lv_tableIn (off := 40) (tgt := 54) hx hb dX7_alter_14 (by rw [c14_1]; decide) (by rw [c14_1]; decide) (by rw [c14_1]; rfl) (by decide) ?_
        refine lv_aload_n hx hb dX7_alter_54 rfl (lv_at hl 0 rfl) ?_
        refine va_get (ci := 7) (v := .ref xaL) (C := RX7) (T := TX7) (N := 11) hx hb hts hinX7 hown hK.1 hw.1 0 rfl rfl 0 (by decide) q_1 (fun _ h9 => h9) rfl dX7_alter_55 ?_
        refine va_get (ci := 1) (v := .ref lrMo) (C := RX1) (T := TX1) (N := 7) hx hb hts hinX1 hown hK.1 hw.1 1 rfl rfl 4 (by decide) q_3 (fun _ h9 => h9) rfl dX7_alter_58 ?_
        refine lv_iload_n hx hb dX7_alter_61 rfl (lv_at hl 1 rfl) ?_
        refine lv_iload_n hx hb dX7_alter_62 rfl (lv_at hl 3 rfl) ?_
        refine lv_sipush (v := 999) hx hb dX7_alter_63 (by decide) ?_
        obtain ⟨r_4, lMo_5, hf, h⟩ := b2_inv h
        refine k_callS (b := 0) (C := "") (host := "") fx hK hA hw (c_X7_swap l D k lrMo _ lMo p1 p3 999 r_4 lMo_5 hf) (va_cwS 4 hts gX7_alter_X7_swap rfl rfl rfl (by decide +kernel) ⟨by decide, by decide⟩) (As := [.ref lrMo, .int p1, .int p3, .int 999]) (wr := [(xh, .inr (7, [.ref xaL, .ref xaT, .ref xaO, .ref xaF, .ref xaS, .ref xaI, .ref xaH, .ref xaR, .ref xaU, .int xTf, .int xTb])), (xaL, .inr (1, [.int lPe, .int lDa, .int lDr, .ref lrNa, .ref lrMo, .ref lrWa, .ref lrDe])), (lrNa, .inl (k 0, 5, .inl lNa)), (lrWa, .inl (k 0, 5, .inl lWa)), (lrDe, .inl (k 0, 25, .inl lDe))]) (ws' := wX7 k xh xaL xaT xaO xaF xaS xaI xaH xaR xaU xTf xTb ++ (wX1 k xaL lrNa lrMo lrWa lrDe lPe lDa lDr lNa lMo_5 lWa lDe)) [3] [0, 1, 2, 4, 5] [0, 1, 2, 5, 3, 4] rfl rfl (by decide) (by decide) (by decide) rfl (by decide) [] rfl hl.1 rfl (Nat.le_of_ble_eq_true rfl) dX7_alter_66 ⟨by decide, by decide⟩ (fun H locs (hw : Wd D A s.heap H locs (wX7 k xh xaL xaT xaO xaF xaS xaI xaH xaR xaU xTf xTb ++ (wX1 k xaL lrNa lrMo lrWa lrDe lPe lDa lDr lNa lMo_5 lWa lDe))) => ?_)
        refine W.eq (g2 := F0 m 69 ls ([.int r_4])) rfl ?_
        cases h
        exact k_iret hx hb hr hlocks hw rfl dX7_alter_69 hQ
      · rw [if_neg c14_1] at h
        by_cases c14_2 : p2 = 2
        · rw [if_pos c14_2] at h
          refine lv_tableIn (off := 56) (tgt := 70) hx hb dX7_alter_14 (by rw [c14_2]; decide) (by rw [c14_2]; decide) (by rw [c14_2]; rfl) (by decide) ?_
          refine lv_aload_n hx hb dX7_alter_70 rfl (lv_at hl 0 rfl) ?_
          refine va_get (ci := 7) (v := .ref xaL) (C := RX7) (T := TX7) (N := 11) hx hb hts hinX7 hown hK.1 hw.1 0 rfl rfl 0 (by decide) q_1 (fun _ h9 => h9) rfl dX7_alter_71 ?_
          refine va_get (ci := 1) (v := .ref lrWa) (C := RX1) (T := TX1) (N := 7) hx hb hts hinX1 hown hK.1 hw.1 1 rfl rfl 5 (by decide) q_4 (fun _ h9 => h9) rfl dX7_alter_74 ?_
          refine lv_iload_n hx hb dX7_alter_77 rfl (lv_at hl 1 rfl) ?_
          refine lv_iload_n hx hb dX7_alter_78 rfl (lv_at hl 3 rfl) ?_
          refine lv_bipush (v := 9) hx hb dX7_alter_79 (by decide) ?_
          obtain ⟨r_6, lWa_7, hf, h⟩ := b2_inv h
          refine k_callS (b := 0) (C := "") (host := "") fx hK hA hw (c_X7_swap l D k lrWa _ lWa p1 p3 9 r_6 lWa_7 hf) (va_cwS 4 hts gX7_alter_X7_swap rfl rfl rfl (by decide +kernel) ⟨by decide, by decide⟩) (As := [.ref lrWa, .int p1, .int p3, .int 9]) (wr := [(xh, .inr (7, [.ref xaL, .ref xaT, .ref xaO, .ref xaF, .ref xaS, .ref xaI, .ref xaH, .ref xaR, .ref xaU, .int xTf, .int xTb])), (xaL, .inr (1, [.int lPe, .int lDa, .int lDr, .ref lrNa, .ref lrMo, .ref lrWa, .ref lrDe])), (lrNa, .inl (k 0, 5, .inl lNa)), (lrMo, .inl (k 0, 5, .inl lMo)), (lrDe, .inl (k 0, 25, .inl lDe))]) (ws' := wX7 k xh xaL xaT xaO xaF xaS xaI xaH xaR xaU xTf xTb ++ (wX1 k xaL lrNa lrMo lrWa lrDe lPe lDa lDr lNa lMo lWa_7 lDe)) [4] [0, 1, 2, 3, 5] [0, 1, 2, 3, 5, 4] rfl rfl (by decide) (by decide) (by decide) rfl (by decide) [] rfl hl.1 rfl (Nat.le_of_ble_eq_true rfl) dX7_alter_81 ⟨by decide, by decide⟩ (fun H locs (hw : Wd D A s.heap H locs (wX7 k xh xaL xaT xaO xaF xaS xaI xaH xaR xaU xTf xTb ++ (wX1 k xaL lrNa lrMo lrWa lrDe lPe lDa lDr lNa lMo lWa_7 lDe))) => ?_)
          refine W.eq (g2 := F0 m 84 ls ([.int r_6])) rfl ?_
          cases h
          exact k_iret hx hb hr hlocks hw rfl dX7_alter_84 hQ
        · rw [if_neg c14_2] at h
          refine lv_tableOut (tgt := 85) hx hb dX7_alter_14 (by have q0 : p2.toInt ≠ 0 := sw_ne c14_0; have q1 : p2.toInt ≠ 1 := sw_ne c14_1; have q2 : p2.toInt ≠ 2 := sw_ne c14_2; omega) (by decide) ?_
          refine lv_iconst (v := (-1)) hx hb dX7_alter_85 (by decide) ?_
          cases h
          exact k_iret hx hb hr hlocks hw rfl dX7_alter_86 hQ
abbrev rmX7_areOdds : Room := { frames := 1, cells := 0, slots := 0, locals := 22 }
set_option maxHeartbeats 4000000 in
set_option maxRecDepth 100000 in
theorem c_X7_areOdds (l : Launch) (D : va_G) (k : Nat → ClassId) (sz : Nat) (p1 : Int32) (p2 : Int32) (p3 : Int32) (r_ : Int32) (hf : f_X7_areOdds p1 p2 p3 = some r_) : mR l yX7_areOdds wsX7_areOdds rmX7_areOdds D k sz [.int p1, .int p2, .int p3] ([]) ([]) (some (.int r_)) := by
  refine mR_of (cc := cX7_areOdds) (maxL := 3) (ret := some .boolean) (by decide) rfl (Nat.le_of_ble_eq_true rfl) [(0, .int p1), (1, .int p2), (2, .int p3)] rfl ?_
  intro p e s m below meth c A ls args Q cx hK hA hw hl hQ
  have fx := cx.1
  obtain ⟨⟨hx, hb, hml, hown, hts⟩, hr, hlocks⟩ := cx
  have h := hf
  unfold f_X7_areOdds at h
  clear hf
  refine lv_iload_n hx hb dX7_areOdds_0 rfl (lv_at hl 0 rfl) ?_
  refine lv_iconst (v := 0) hx hb dX7_areOdds_1 (by decide) ?_
  refine lv_bipush (v := 10) hx hb dX7_areOdds_2 (by decide) ?_
  obtain ⟨r_1, hf, h⟩ := b1_inv h
  refine k_callS (b := 0) (C := "") (host := "") fx hK hA hw (c_X7_within l D k _ p1 0 10 r_1 hf) (va_cwS 3 hts gX7_areOdds_X7_within rfl rfl rfl (by decide +kernel) ⟨by decide, by decide⟩) (As := [.int p1, .int 0, .int 10]) (wr := []) (ws' := []) [] [] [] rfl rfl (by decide) (by decide) (by decide) rfl (by decide) [] rfl hl.1 rfl (Nat.le_of_ble_eq_true rfl) dX7_areOdds_4 ⟨by decide, by decide⟩ (fun H locs (hw : Wd D A s.heap H locs ([])) => ?_)
  refine W.eq (g2 := F0 m 7 ls ([.int r_1])) rfl ?_
  refine kb_if_eq (tgt := 33) hx hb dX7_areOdds_7 (by decide) h (fun c_7 h => ?_) (fun c_7 h => ?_)
  · refine lv_iconst (v := 0) hx hb dX7_areOdds_33 (by decide) ?_
    cases h
    exact k_zret hx hb hr hlocks hw (by decide) rfl dX7_areOdds_34 hQ
  · refine lv_iload_n hx hb dX7_areOdds_10 rfl (lv_at hl 1 rfl) ?_
    refine lv_iconst (v := 0) hx hb dX7_areOdds_11 (by decide) ?_
    refine lv_bipush (v := 8) hx hb dX7_areOdds_12 (by decide) ?_
    obtain ⟨r_2, hf, h⟩ := b1_inv h
    refine k_callS (b := 0) (C := "") (host := "") fx hK hA hw (c_X7_within l D k _ p2 0 8 r_2 hf) (va_cwS 3 hts gX7_areOdds_X7_within rfl rfl rfl (by decide +kernel) ⟨by decide, by decide⟩) (As := [.int p2, .int 0, .int 8]) (wr := []) (ws' := []) [] [] [] rfl rfl (by decide) (by decide) (by decide) rfl (by decide) [] rfl hl.1 rfl (Nat.le_of_ble_eq_true rfl) dX7_areOdds_14 ⟨by decide, by decide⟩ (fun H locs (hw : Wd D A s.heap H locs ([])) => ?_)
    refine W.eq (g2 := F0 m 17 ls ([.int r_2])) rfl ?_
    refine kb_if_eq (tgt := 33) hx hb dX7_areOdds_17 (by decide) h (fun c_17 h => ?_) (fun c_17 h => ?_)
    · refine lv_iconst (v := 0) hx hb dX7_areOdds_33 (by decide) ?_
      cases h
      exact k_zret hx hb hr hlocks hw (by decide) rfl dX7_areOdds_34 hQ
    · refine lv_iload_n hx hb dX7_areOdds_20 rfl (lv_at hl 2 rfl) ?_
      refine lv_iconst (v := 0) hx hb dX7_areOdds_21 (by decide) ?_
      refine lv_iconst (v := 1) hx hb dX7_areOdds_22 (by decide) ?_
      obtain ⟨r_3, hf, h⟩ := b1_inv h
      refine k_callS (b := 0) (C := "") (host := "") fx hK hA hw (c_X7_within l D k _ p3 0 1 r_3 hf) (va_cwS 3 hts gX7_areOdds_X7_within rfl rfl rfl (by decide +kernel) ⟨by decide, by decide⟩) (As := [.int p3, .int 0, .int 1]) (wr := []) (ws' := []) [] [] [] rfl rfl (by decide) (by decide) (by decide) rfl (by decide) [] rfl hl.1 rfl (Nat.le_of_ble_eq_true rfl) dX7_areOdds_23 ⟨by decide, by decide⟩ (fun H locs (hw : Wd D A s.heap H locs ([])) => ?_)
      refine W.eq (g2 := F0 m 26 ls ([.int r_3])) rfl ?_
      refine kb_if_eq (tgt := 33) hx hb dX7_areOdds_26 (by decide) h (fun c_26 h => ?_) (fun c_26 h => ?_)
      · refine lv_iconst (v := 0) hx hb dX7_areOdds_33 (by decide) ?_
        cases h
        exact k_zret hx hb hr hlocks hw (by decide) rfl dX7_areOdds_34 hQ
      · refine lv_iconst (v := 1) hx hb dX7_areOdds_29 (by decide) ?_
        refine lv_goto (tgt := 34) hx hb dX7_areOdds_30 (by decide) ?_
        cases h
        exact k_zret hx hb hr hlocks hw (by decide) rfl dX7_areOdds_34 hQ
abbrev rmX7_possibleWages : Room := { frames := 5, cells := 0, slots := 0, locals := 117 }
set_option maxHeartbeats 4000000 in
set_option maxRecDepth 100000 in
theorem c_X7_possibleWages (l : Launch) (D : va_G) (k : Nat → ClassId) (xh xaL xaT xaO xaF xaS xaI xaH xaR xaU lrNa lrMo lrWa lrDe trNa trMo trWa trDe srDy srWo srRi : Nat) (sz : Nat) (xTf : Int32) (xTb : Int32) (lPe : Int32) (lDa : Int32) (lDr : Int32) (lNa : (Nat → Int32)) (lMo : (Nat → Int32)) (lWa : (Nat → Int32)) (lDe : (Nat → Int32)) (tPe : Int32) (tDa : Int32) (tDr : Int32) (tNa : (Nat → Int32)) (tMo : (Nat → Int32)) (tWa : (Nat → Int32)) (tDe : (Nat → Int32)) (sDy : (Nat → Int32)) (sWo : (Nat → Int32)) (sRi : (Nat → Int32)) (sSz : Int32) (p1 : Int32) (r_ : Int32) (n_tPe : Int32) (n_tDa : Int32) (n_tDr : Int32) (n_tNa : (Nat → Int32)) (n_tMo : (Nat → Int32)) (n_tWa : (Nat → Int32)) (n_tDe : (Nat → Int32)) (hf : f_X7_possibleWages lPe lDa lDr lNa lMo lWa lDe tPe tDa tDr tNa tMo tWa tDe sDy sWo sRi sSz p1 = some (r_, n_tPe, n_tDa, n_tDr, n_tNa, n_tMo, n_tWa, n_tDe)) : mR l yX7_possibleWages wsX7_possibleWages rmX7_possibleWages D k sz [.ref xh, .int p1] (wX7 k xh xaL xaT xaO xaF xaS xaI xaH xaR xaU xTf xTb ++ (wX1 k xaL lrNa lrMo lrWa lrDe lPe lDa lDr lNa lMo lWa lDe ++ (wX1 k xaT trNa trMo trWa trDe tPe tDa tDr tNa tMo tWa tDe ++ (wX5 k xaS srDy srWo srRi sDy sWo sRi sSz)))) (wX7 k xh xaL xaT xaO xaF xaS xaI xaH xaR xaU xTf xTb ++ (wX1 k xaL lrNa lrMo lrWa lrDe lPe lDa lDr lNa lMo lWa lDe ++ (wX1 k xaT trNa trMo trWa trDe n_tPe n_tDa n_tDr n_tNa n_tMo n_tWa n_tDe ++ (wX5 k xaS srDy srWo srRi sDy sWo sRi sSz)))) (some (.int r_)) := by
  refine mR_of (cc := cX7_possibleWages) (maxL := 4) (ret := some .int) (by decide) rfl (Nat.le_of_ble_eq_true rfl) [(0, .ref xh), (1, .int p1)] rfl ?_
  intro p e s m below meth c A ls args Q cx hK hA hw hl hQ
  have fx := cx.1
  obtain ⟨⟨hx, hb, hml, hown, hts⟩, hr, hlocks⟩ := cx
  have hinX7 : ∀ w ∈ wsX70, w ∈ wsX7_possibleWages := fun w h => List.mem_cons_of_mem _ (List.mem_append_left _ (List.mem_append_left _ (List.mem_append_right _ h)))
  have hinX1 : ∀ w ∈ wsX10, w ∈ wsX7_possibleWages := fun w h => List.mem_cons_of_mem _ (List.mem_append_left _ (List.mem_append_right _ h))
  have q_1 := hts (.fieldLink RX7 16 "DebtRides" "trial" "LDebtRides$Land;") (List.mem_of_getElem? (i := 1) rfl)
  have q_2 := hts (.fieldLink RX7 10 "DebtRides" "land" "LDebtRides$Land;") (List.mem_of_getElem? (i := 2) rfl)
  have q_3 := hts (.fieldLink RX7 135 "DebtRides$Land" "wage" "[I") (List.mem_of_getElem? (i := 3) rfl)
  have q_4 := hts (.fieldLink RX7 36 "DebtRides" "seen" "LDebtRides$Seen;") (List.mem_of_getElem? (i := 4) rfl)
  have h := hf
  unfold f_X7_possibleWages at h
  clear hf
  refine lv_iconst (v := 0) hx hb dX7_possibleWages_0 (by decide) ?_
  refine lv_istore_n (lv' := [(2, .int 0), (0, .ref xh), (1, .int p1)]) hx hb dX7_possibleWages_1 rfl hl (by decide) rfl (fun ls hl => ?_)
  refine lv_iconst (v := 0) hx hb dX7_possibleWages_2 (by decide) ?_
  refine lv_istore_n (lv' := [(3, .int 0), (2, .int 0), (0, .ref xh), (1, .int p1)]) hx hb dX7_possibleWages_3 rfl hl (by decide) rfl (fun ls hl => ?_)
  obtain ⟨v2_10, tPe_11, tDa_12, tDr_13, tNa_14, tMo_15, tWa_16, tDe_17, hL_4, h⟩ := b8_inv h
  have X_4 : ∀ (H : Heap) (locs : List Loc) (ls : Array Slot), Wd D A s.heap H locs (wX7 k xh xaL xaT xaO xaF xaS xaI xaH xaR xaU xTf xTb ++ (wX1 k xaL lrNa lrMo lrWa lrDe lPe lDa lDr lNa lMo lWa lDe ++ (wX1 k xaT trNa trMo trWa trDe tPe_11 tDa_12 tDr_13 tNa_14 tMo_15 tWa_16 tDe_17 ++ (wX5 k xaS srDy srWo srRi sDy sWo sRi sSz)))) → lv_has ls 4 [(2, .int v2_10)] → W p l e rmX7_possibleWages s m args below meth c H locs 0 0 Q (F0 m 57 ls []) := by
    intro H locs ls hw hl
    refine lv_iload_n hx hb dX7_possibleWages_57 rfl (lv_at hl 0 rfl) ?_
    cases h
    exact k_iret hx hb hr hlocks hw rfl dX7_possibleWages_58 hQ
  clear h
  have LP_4 : ∀ (n : Nat) (v2_1 : Int32) (v3_2 : Int32) (tPe_3 : Int32) (tDa_4 : Int32) (tDr_5 : Int32) (tNa_6 : (Nat → Int32)) (tMo_7 : (Nat → Int32)) (tWa_8 : (Nat → Int32)) (tDe_9 : (Nat → Int32)), f_X7_possibleWages_L4 lPe lDa lDr lNa lMo lWa lDe sDy sWo sRi sSz p1 n v2_1 v3_2 tPe_3 tDa_4 tDr_5 tNa_6 tMo_7 tWa_8 tDe_9 = some (v2_10, tPe_11, tDa_12, tDr_13, tNa_14, tMo_15, tWa_16, tDe_17) → ∀ (H : Heap) (locs : List Loc) (ls : Array Slot), Wd D A s.heap H locs (wX7 k xh xaL xaT xaO xaF xaS xaI xaH xaR xaU xTf xTb ++ (wX1 k xaL lrNa lrMo lrWa lrDe lPe lDa lDr lNa lMo lWa lDe ++ (wX1 k xaT trNa trMo trWa trDe tPe_3 tDa_4 tDr_5 tNa_6 tMo_7 tWa_8 tDe_9 ++ (wX5 k xaS srDy srWo srRi sDy sWo sRi sSz)))) → lv_has ls 4 [(0, .ref xh), (1, .int p1), (2, .int v2_1), (3, .int v3_2)] → W p l e rmX7_possibleWages s m args below meth c H locs 0 0 Q (F0 m 4 ls []) := by
    clear hL_4 hw hl
    intro n
    induction n with
    | zero => intro v2_1 v3_2 tPe_3 tDa_4 tDr_5 tNa_6 tMo_7 tWa_8 tDe_9 h; rw [f_X7_possibleWages_L4] at h; cases h
    | succ n ih =>
      intro v2_1 v3_2 tPe_3 tDa_4 tDr_5 tNa_6 tMo_7 tWa_8 tDe_9 h H locs ls hw hl
      rw [f_X7_possibleWages_L4] at h
      refine lv_iload_n hx hb dX7_possibleWages_4 rfl (lv_at hl 3 rfl) ?_
      refine lv_bipush (v := 9) hx hb dX7_possibleWages_5 (by decide) ?_
      refine kb_icmp_gt (tgt := 57) hx hb dX7_possibleWages_7 (by decide) h (fun c_7 h => ?_) (fun c_7 h => ?_)
      · cases h
        exact X_4 _ _ _ hw (lv_sub hl [2] rfl)
      · refine lv_aload_n hx hb dX7_possibleWages_10 rfl (lv_at hl 0 rfl) ?_
        refine va_get (ci := 7) (v := .ref xaT) (C := RX7) (T := TX7) (N := 11) hx hb hts hinX7 hown hK.1 hw.1 0 rfl rfl 1 (by decide) q_1 (fun _ h9 => h9) rfl dX7_possibleWages_11 ?_
        refine lv_aload_n hx hb dX7_possibleWages_14 rfl (lv_at hl 0 rfl) ?_
        refine va_get (ci := 7) (v := .ref xaL) (C := RX7) (T := TX7) (N := 11) hx hb hts hinX7 hown hK.1 hw.1 0 rfl rfl 0 (by decide) q_2 (fun _ h9 => h9) rfl dX7_possibleWages_15 ?_
        obtain ⟨tPe_18, tDa_19, tDr_20, tNa_21, tMo_22, tWa_23, tDe_24, hf, h⟩ := b7_inv h
        refine k_callV (host := "") fx hK hA hw (c_X1_become l D k xaT trNa trMo trWa trDe xaL lrNa lrMo lrWa lrDe _ tPe_3 tDa_4 tDr_5 tNa_6 tMo_7 tWa_8 tDe_9 lPe lDa lDr lNa lMo lWa lDe tPe_18 tDa_19 tDr_20 tNa_21 tMo_22 tWa_23 tDe_24 hf) (cwV 1 hts gX7_possibleWages_X1_become rfl rfl rfl (by decide +kernel) ⟨by decide, by decide⟩) (As := [.ref xaL]) (wr := [(xh, .inr (7, [.ref xaL, .ref xaT, .ref xaO, .ref xaF, .ref xaS, .ref xaI, .ref xaH, .ref xaR, .ref xaU, .int xTf, .int xTb])), (xaS, .inr (5, [.ref srDy, .ref srWo, .ref srRi, .int sSz])), (srDy, .inl (k 0, 6, .inl sDy)), (srWo, .inl (k 0, 6, .inl sWo)), (srRi, .inl (k 0, 6, .inl sRi))]) (ws' := wX7 k xh xaL xaT xaO xaF xaS xaI xaH xaR xaU xTf xTb ++ (wX1 k xaL lrNa lrMo lrWa lrDe lPe lDa lDr lNa lMo lWa lDe ++ (wX1 k xaT trNa trMo trWa trDe tPe_18 tDa_19 tDr_20 tNa_21 tMo_22 tWa_23 tDe_24 ++ (wX5 k xaS srDy srWo srRi sDy sWo sRi sSz)))) [6, 7, 8, 9, 10, 1, 2, 3, 4, 5] [0, 11, 12, 13, 14] [0, 10, 11, 12, 13, 14, 5, 6, 7, 8, 9, 1, 2, 3, 4] rfl rfl (by decide) (by decide) (by decide) rfl (by decide) 1 rfl rfl [] rfl hl.1 rfl (Nat.le_of_ble_eq_true rfl) dX7_possibleWages_18 ⟨by decide, by decide⟩ (fun H locs (hw : Wd D A s.heap H locs (wX7 k xh xaL xaT xaO xaF xaS xaI xaH xaR xaU xTf xTb ++ (wX1 k xaL lrNa lrMo lrWa lrDe lPe lDa lDr lNa lMo lWa lDe ++ (wX1 k xaT trNa trMo trWa trDe tPe_18 tDa_19 tDr_20 tNa_21 tMo_22 tWa_23 tDe_24 ++ (wX5 k xaS srDy srWo srRi sDy sWo sRi sSz))))) => ?_)
        refine W.eq (g2 := F0 m 21 ls ([])) rfl ?_
        refine lv_aload_n hx hb dX7_possibleWages_21 rfl (lv_at hl 0 rfl) ?_
        refine va_get (ci := 7) (v := .ref xaT) (C := RX7) (T := TX7) (N := 11) hx hb hts hinX7 hown hK.1 hw.1 0 rfl rfl 1 (by decide) q_1 (fun _ h9 => h9) rfl dX7_possibleWages_22 ?_
        refine va_get (ci := 1) (v := .ref trWa) (C := RX1) (T := TX1) (N := 7) hx hb hts hinX1 hown hK.1 hw.1 6 rfl rfl 5 (by decide) q_3 (fun _ h9 => h9) rfl dX7_possibleWages_25 ?_
        refine lv_iload_n hx hb dX7_possibleWages_28 rfl (lv_at hl 1 rfl) ?_
        refine lv_iload_n hx hb dX7_possibleWages_29 rfl (lv_at hl 3 rfl) ?_
        refine k_iast hx hb hK hw 9 rfl dX7_possibleWages_30 h (fun tWa_25 h H locs (hw : Wd D A s.heap H locs (wX7 k xh xaL xaT xaO xaF xaS xaI xaH xaR xaU xTf xTb ++ (wX1 k xaL lrNa lrMo lrWa lrDe lPe lDa lDr lNa lMo lWa lDe ++ (wX1 k xaT trNa trMo trWa trDe tPe_18 tDa_19 tDr_20 tNa_21 tMo_22 tWa_25 tDe_24 ++ (wX5 k xaS srDy srWo srRi sDy sWo sRi sSz))))) => ?_)
        refine lv_aload_n hx hb dX7_possibleWages_31 rfl (lv_at hl 0 rfl) ?_
        refine va_get (ci := 7) (v := .ref xaS) (C := RX7) (T := TX7) (N := 11) hx hb hts hinX7 hown hK.1 hw.1 0 rfl rfl 4 (by decide) q_4 (fun _ h9 => h9) rfl dX7_possibleWages_32 ?_
        refine lv_aload_n hx hb dX7_possibleWages_35 rfl (lv_at hl 0 rfl) ?_
        refine va_get (ci := 7) (v := .ref xaT) (C := RX7) (T := TX7) (N := 11) hx hb hts hinX7 hown hK.1 hw.1 0 rfl rfl 1 (by decide) q_1 (fun _ h9 => h9) rfl dX7_possibleWages_36 ?_
        obtain ⟨r_26, tDa_27, tMo_28, tDe_29, hf, h⟩ := b4_inv h
        refine k_callV (host := "") fx hK hA hw (c_X5_fits l D k xaS srDy srWo srRi xaT trNa trMo trWa trDe _ sDy sWo sRi sSz tPe_18 tDa_19 tDr_20 tNa_21 tMo_22 tWa_25 tDe_24 r_26 tDa_27 tMo_28 tDe_29 hf) (cwV 1 hts gX7_possibleWages_X5_fits rfl rfl rfl (by decide +kernel) ⟨by decide, by decide⟩) (As := [.ref xaT]) (wr := [(xh, .inr (7, [.ref xaL, .ref xaT, .ref xaO, .ref xaF, .ref xaS, .ref xaI, .ref xaH, .ref xaR, .ref xaU, .int xTf, .int xTb])), (xaL, .inr (1, [.int lPe, .int lDa, .int lDr, .ref lrNa, .ref lrMo, .ref lrWa, .ref lrDe])), (lrNa, .inl (k 0, 5, .inl lNa)), (lrMo, .inl (k 0, 5, .inl lMo)), (lrWa, .inl (k 0, 5, .inl lWa)), (lrDe, .inl (k 0, 25, .inl lDe))]) (ws' := wX7 k xh xaL xaT xaO xaF xaS xaI xaH xaR xaU xTf xTb ++ (wX1 k xaL lrNa lrMo lrWa lrDe lPe lDa lDr lNa lMo lWa lDe ++ (wX1 k xaT trNa trMo trWa trDe tPe_18 tDa_27 tDr_20 tNa_21 tMo_28 tWa_25 tDe_29 ++ (wX5 k xaS srDy srWo srRi sDy sWo sRi sSz)))) [11, 12, 13, 14, 6, 7, 8, 9, 10] [0, 1, 2, 3, 4, 5] [0, 1, 2, 3, 4, 5, 10, 11, 12, 13, 14, 6, 7, 8, 9] rfl rfl (by decide) (by decide) (by decide) rfl (by decide) 5 rfl rfl [] rfl hl.1 rfl (Nat.le_of_ble_eq_true rfl) dX7_possibleWages_39 ⟨by decide, by decide⟩ (fun H locs (hw : Wd D A s.heap H locs (wX7 k xh xaL xaT xaO xaF xaS xaI xaH xaR xaU xTf xTb ++ (wX1 k xaL lrNa lrMo lrWa lrDe lPe lDa lDr lNa lMo lWa lDe ++ (wX1 k xaT trNa trMo trWa trDe tPe_18 tDa_27 tDr_20 tNa_21 tMo_28 tWa_25 tDe_29 ++ (wX5 k xaS srDy srWo srRi sDy sWo sRi sSz))))) => ?_)
        refine W.eq (g2 := F0 m 42 ls ([.int r_26])) rfl ?_
        refine kb_if_eq (tgt := 51) hx hb dX7_possibleWages_42 (by decide) h (fun c_42 h => ?_) (fun c_42 h => ?_)
        · refine lv_iinc (v := v3_2 + 1) (lv' := [(3, .int (v3_2 + 1)), (0, .ref xh), (1, .int p1), (2, .int v2_1)]) hx hb dX7_possibleWages_51 hl (k := 3) rfl rfl (by decide) rfl (fun ls hl => ?_)
          refine lv_goto (tgt := 4) hx hb dX7_possibleWages_54 (by decide) ?_
          exact ih _ _ _ _ _ _ _ _ _ h _ _ _ hw (lv_sub hl [1, 2, 3, 0] rfl)
        · refine lv_iload_n hx hb dX7_possibleWages_45 rfl (lv_at hl 2 rfl) ?_
          refine lv_iconst (v := 1) hx hb dX7_possibleWages_46 (by decide) ?_
          refine lv_iload_n hx hb dX7_possibleWages_47 rfl (lv_at hl 3 rfl) ?_
          refine lv_ishl hx hb dX7_possibleWages_48 ?_
          refine lv_ior hx hb dX7_possibleWages_49 ?_
          refine lv_istore_n (lv' := [(2, .int (v2_1 ||| ((1 : Int32) <<< (v3_2 &&& 31)))), (0, .ref xh), (1, .int p1), (3, .int v3_2)]) hx hb dX7_possibleWages_50 rfl hl (by decide) rfl (fun ls hl => ?_)
          refine lv_iinc (v := v3_2 + 1) (lv' := [(3, .int (v3_2 + 1)), (2, .int (v2_1 ||| ((1 : Int32) <<< (v3_2 &&& 31)))), (0, .ref xh), (1, .int p1)]) hx hb dX7_possibleWages_51 hl (k := 3) rfl rfl (by decide) rfl (fun ls hl => ?_)
          refine lv_goto (tgt := 4) hx hb dX7_possibleWages_54 (by decide) ?_
          exact ih _ _ _ _ _ _ _ _ _ h _ _ _ hw (lv_sub hl [2, 3, 1, 0] rfl)
  exact LP_4 400 0 0 tPe tDa tDr tNa tMo tWa tDe hL_4 _ _ _ hw (lv_sub hl [2, 3, 1, 0] rfl)
abbrev rmX7_countUpBehind : Room := { frames := 4, cells := 0, slots := 0, locals := 94 }
set_option maxHeartbeats 4000000 in
set_option maxRecDepth 100000 in
theorem c_X7_countUpBehind (l : Launch) (D : va_G) (k : Nat → ClassId) (xh xaL xaT xaO xaF xaS xaI xaH xaR xaU lrNa lrMo lrWa lrDe trNa trMo trWa trDe : Nat) (sz : Nat) (xTf : Int32) (xTb : Int32) (lPe : Int32) (lDa : Int32) (lDr : Int32) (lNa : (Nat → Int32)) (lMo : (Nat → Int32)) (lWa : (Nat → Int32)) (lDe : (Nat → Int32)) (tPe : Int32) (tDa : Int32) (tDr : Int32) (tNa : (Nat → Int32)) (tMo : (Nat → Int32)) (tWa : (Nat → Int32)) (tDe : (Nat → Int32)) (uUb : (Nat → Int32)) (p1 : Int32) (p2 : Int32) (n_tPe : Int32) (n_tDa : Int32) (n_tDr : Int32) (n_tNa : (Nat → Int32)) (n_tMo : (Nat → Int32)) (n_tWa : (Nat → Int32)) (n_tDe : (Nat → Int32)) (n_uUb : (Nat → Int32)) (hf : f_X7_countUpBehind lPe lDa lDr lNa lMo lWa lDe tPe tDa tDr tNa tMo tWa tDe p1 p2 = some (n_tPe, n_tDa, n_tDr, n_tNa, n_tMo, n_tWa, n_tDe, n_uUb)) : mR l yX7_countUpBehind wsX7_countUpBehind rmX7_countUpBehind D k sz [.ref xh, .int p1, .int p2] (wX7 k xh xaL xaT xaO xaF xaS xaI xaH xaR xaU xTf xTb ++ (wX1 k xaL lrNa lrMo lrWa lrDe lPe lDa lDr lNa lMo lWa lDe ++ (wX1 k xaT trNa trMo trWa trDe tPe tDa tDr tNa tMo tWa tDe ++ (wU k xaU uUb)))) (wX7 k xh xaL xaT xaO xaF xaS xaI xaH xaR xaU xTf xTb ++ (wX1 k xaL lrNa lrMo lrWa lrDe lPe lDa lDr lNa lMo lWa lDe ++ (wX1 k xaT trNa trMo trWa trDe n_tPe n_tDa n_tDr n_tNa n_tMo n_tWa n_tDe ++ (wU k xaU n_uUb)))) (none) := by
  refine mR_of (cc := cX7_countUpBehind) (maxL := 5) (ret := none) (by decide) rfl (Nat.le_of_ble_eq_true rfl) [(0, .ref xh), (1, .int p1), (2, .int p2)] rfl ?_
  intro p e s m below meth c A ls args Q cx hK hA hw hl hQ
  have fx := cx.1
  obtain ⟨⟨hx, hb, hml, hown, hts⟩, hr, hlocks⟩ := cx
  have hinX7 : ∀ w ∈ wsX70, w ∈ wsX7_countUpBehind := fun w h => List.mem_cons_of_mem _ (List.mem_append_left _ (List.mem_append_right _ h))
  have hinX1 : ∀ w ∈ wsX10, w ∈ wsX7_countUpBehind := fun w h => List.mem_cons_of_mem _ (List.mem_append_right _ h)
  have q_1 := hts (.fieldLink RX7 61 "DebtRides" "upBehind" "[I") (List.mem_of_getElem? (i := 1) rfl)
  have q_2 := hts (.fieldLink RX7 16 "DebtRides" "trial" "LDebtRides$Land;") (List.mem_of_getElem? (i := 2) rfl)
  have q_3 := hts (.fieldLink RX7 10 "DebtRides" "land" "LDebtRides$Land;") (List.mem_of_getElem? (i := 3) rfl)
  have q_4 := hts (.fieldLink RX7 135 "DebtRides$Land" "wage" "[I") (List.mem_of_getElem? (i := 4) rfl)
  have q_5 := hts (.fieldLink RX7 112 "DebtRides$Land" "dryness" "I") (List.mem_of_getElem? (i := 5) rfl)
  have h := hf
  unfold f_X7_countUpBehind at h
  clear hf
  refine lv_aload_n hx hb dX7_countUpBehind_0 rfl (lv_at hl 0 rfl) ?_
  refine va_get (ci := 7) (v := .ref xaU) (C := RX7) (T := TX7) (N := 11) hx hb hts hinX7 hown hK.1 hw.1 0 rfl rfl 8 (by decide) q_1 (fun _ h9 => h9) rfl dX7_countUpBehind_1 ?_
  refine lv_iconst (v := 0) hx hb dX7_countUpBehind_4 (by decide) ?_
  refine k_callS (b := 0) (C := "") (host := "") fx hK hA hw (c_J7_fill_53178 (n := 31) l D k xaU _ uUb 0 (by decide)) (va_cwS 2 hts gX7_countUpBehind_J7_fill_53178 rfl rfl rfl (by decide +kernel) ⟨by decide, by decide⟩) (As := [.ref xaU, .int 0]) (wr := [(xh, .inr (7, [.ref xaL, .ref xaT, .ref xaO, .ref xaF, .ref xaS, .ref xaI, .ref xaH, .ref xaR, .ref xaU, .int xTf, .int xTb])), (xaL, .inr (1, [.int lPe, .int lDa, .int lDr, .ref lrNa, .ref lrMo, .ref lrWa, .ref lrDe])), (lrNa, .inl (k 0, 5, .inl lNa)), (lrMo, .inl (k 0, 5, .inl lMo)), (lrWa, .inl (k 0, 5, .inl lWa)), (lrDe, .inl (k 0, 25, .inl lDe)), (xaT, .inr (1, [.int tPe, .int tDa, .int tDr, .ref trNa, .ref trMo, .ref trWa, .ref trDe])), (trNa, .inl (k 0, 5, .inl tNa)), (trMo, .inl (k 0, 5, .inl tMo)), (trWa, .inl (k 0, 5, .inl tWa)), (trDe, .inl (k 0, 25, .inl tDe))]) (ws' := wX7 k xh xaL xaT xaO xaF xaS xaI xaH xaR xaU xTf xTb ++ (wX1 k xaL lrNa lrMo lrWa lrDe lPe lDa lDr lNa lMo lWa lDe ++ (wX1 k xaT trNa trMo trWa trDe tPe tDa tDr tNa tMo tWa tDe ++ (wU k xaU (fun _ => 0))))) [11] [0, 1, 2, 3, 4, 5, 6, 7, 8, 9, 10] [0, 1, 2, 3, 4, 5, 6, 7, 8, 9, 10, 11] rfl rfl (by decide) (by decide) (by decide) rfl (by decide) [] rfl hl.1 rfl (Nat.le_of_ble_eq_true rfl) dX7_countUpBehind_5 ⟨by decide, by decide⟩ (fun H locs (hw : Wd D A s.heap H locs (wX7 k xh xaL xaT xaO xaF xaS xaI xaH xaR xaU xTf xTb ++ (wX1 k xaL lrNa lrMo lrWa lrDe lPe lDa lDr lNa lMo lWa lDe ++ (wX1 k xaT trNa trMo trWa trDe tPe tDa tDr tNa tMo tWa tDe ++ (wU k xaU (fun _ => 0)))))) => ?_)
  refine W.eq (g2 := F0 m 8 ls ([])) rfl ?_
  refine lv_iconst (v := 0) hx hb dX7_countUpBehind_8 (by decide) ?_
  refine lv_istore_n (lv' := [(3, .int 0), (0, .ref xh), (1, .int p1), (2, .int p2)]) hx hb dX7_countUpBehind_9 rfl hl (by decide) rfl (fun ls hl => ?_)
  obtain ⟨tPe_11, tDa_12, tDr_13, tNa_14, tMo_15, tWa_16, tDe_17, uUb_18, hL_10, h⟩ := b8_inv h
  have X_10 : ∀ (H : Heap) (locs : List Loc) (ls : Array Slot), Wd D A s.heap H locs (wX7 k xh xaL xaT xaO xaF xaS xaI xaH xaR xaU xTf xTb ++ (wX1 k xaL lrNa lrMo lrWa lrDe lPe lDa lDr lNa lMo lWa lDe ++ (wX1 k xaT trNa trMo trWa trDe tPe_11 tDa_12 tDr_13 tNa_14 tMo_15 tWa_16 tDe_17 ++ (wU k xaU uUb_18)))) → lv_has ls 5 [] → W p l e rmX7_countUpBehind s m args below meth c H locs 0 0 Q (F0 m 105 ls []) := by
    intro H locs ls hw hl
    cases h
    exact k_vret hx hb hr hlocks hw dX7_countUpBehind_105 hQ
  clear h
  have LP_10 : ∀ (n : Nat) (v3_2 : Int32) (tPe_3 : Int32) (tDa_4 : Int32) (tDr_5 : Int32) (tNa_6 : (Nat → Int32)) (tMo_7 : (Nat → Int32)) (tWa_8 : (Nat → Int32)) (tDe_9 : (Nat → Int32)) (uUb_10 : (Nat → Int32)), f_X7_countUpBehind_L10 lPe lDa lDr lNa lMo lWa lDe p1 p2 n v3_2 tPe_3 tDa_4 tDr_5 tNa_6 tMo_7 tWa_8 tDe_9 uUb_10 = some (tPe_11, tDa_12, tDr_13, tNa_14, tMo_15, tWa_16, tDe_17, uUb_18) → ∀ (H : Heap) (locs : List Loc) (ls : Array Slot), Wd D A s.heap H locs (wX7 k xh xaL xaT xaO xaF xaS xaI xaH xaR xaU xTf xTb ++ (wX1 k xaL lrNa lrMo lrWa lrDe lPe lDa lDr lNa lMo lWa lDe ++ (wX1 k xaT trNa trMo trWa trDe tPe_3 tDa_4 tDr_5 tNa_6 tMo_7 tWa_8 tDe_9 ++ (wU k xaU uUb_10)))) → lv_has ls 5 [(0, .ref xh), (1, .int p1), (2, .int p2), (3, .int v3_2)] → W p l e rmX7_countUpBehind s m args below meth c H locs 0 0 Q (F0 m 10 ls []) := by
    clear hL_10 hw hl
    intro n
    induction n with
    | zero => intro v3_2 tPe_3 tDa_4 tDr_5 tNa_6 tMo_7 tWa_8 tDe_9 uUb_10 h; rw [f_X7_countUpBehind_L10] at h; cases h
    | succ n ih =>
      intro v3_2 tPe_3 tDa_4 tDr_5 tNa_6 tMo_7 tWa_8 tDe_9 uUb_10 h H locs ls hw hl
      rw [f_X7_countUpBehind_L10] at h
      refine lv_iload_n hx hb dX7_countUpBehind_10 rfl (lv_at hl 3 rfl) ?_
      refine lv_bipush (v := 9) hx hb dX7_countUpBehind_11 (by decide) ?_
      refine kb_icmp_gt (tgt := 105) hx hb dX7_countUpBehind_13 (by decide) h (fun c_13 h => ?_) (fun c_13 h => ?_)
      · cases h
        exact X_10 _ _ _ hw (lv_sub hl [] rfl)
      · refine lv_iload_n hx hb dX7_countUpBehind_16 rfl (lv_at hl 2 rfl) ?_
        refine lv_iload_n hx hb dX7_countUpBehind_17 rfl (lv_at hl 3 rfl) ?_
        refine lv_ishr hx hb dX7_countUpBehind_18 ?_
        refine lv_iconst (v := 1) hx hb dX7_countUpBehind_19 (by decide) ?_
        refine lv_iand hx hb dX7_countUpBehind_20 ?_
        refine lv_iconst (v := 1) hx hb dX7_countUpBehind_21 (by decide) ?_
        refine kb_icmp_ne (tgt := 99) hx hb dX7_countUpBehind_22 (by decide) h (fun c_22 h => ?_) (fun c_22 h => ?_)
        · refine lv_aload_n hx hb dX7_countUpBehind_25 rfl (lv_at hl 0 rfl) ?_
          refine va_get (ci := 7) (v := .ref xaT) (C := RX7) (T := TX7) (N := 11) hx hb hts hinX7 hown hK.1 hw.1 0 rfl rfl 1 (by decide) q_2 (fun _ h9 => h9) rfl dX7_countUpBehind_26 ?_
          refine lv_aload_n hx hb dX7_countUpBehind_29 rfl (lv_at hl 0 rfl) ?_
          refine va_get (ci := 7) (v := .ref xaL) (C := RX7) (T := TX7) (N := 11) hx hb hts hinX7 hown hK.1 hw.1 0 rfl rfl 0 (by decide) q_3 (fun _ h9 => h9) rfl dX7_countUpBehind_30 ?_
          obtain ⟨tPe_19, tDa_20, tDr_21, tNa_22, tMo_23, tWa_24, tDe_25, hf, h⟩ := b7_inv h
          refine k_callV (host := "") fx hK hA hw (c_X1_become l D k xaT trNa trMo trWa trDe xaL lrNa lrMo lrWa lrDe _ tPe_3 tDa_4 tDr_5 tNa_6 tMo_7 tWa_8 tDe_9 lPe lDa lDr lNa lMo lWa lDe tPe_19 tDa_20 tDr_21 tNa_22 tMo_23 tWa_24 tDe_25 hf) (cwV 1 hts gX7_countUpBehind_X1_become rfl rfl rfl (by decide +kernel) ⟨by decide, by decide⟩) (As := [.ref xaL]) (wr := [(xh, .inr (7, [.ref xaL, .ref xaT, .ref xaO, .ref xaF, .ref xaS, .ref xaI, .ref xaH, .ref xaR, .ref xaU, .int xTf, .int xTb])), (xaU, .inl (k 0, 31, .inl uUb_10))]) (ws' := wX7 k xh xaL xaT xaO xaF xaS xaI xaH xaR xaU xTf xTb ++ (wX1 k xaL lrNa lrMo lrWa lrDe lPe lDa lDr lNa lMo lWa lDe ++ (wX1 k xaT trNa trMo trWa trDe tPe_19 tDa_20 tDr_21 tNa_22 tMo_23 tWa_24 tDe_25 ++ (wU k xaU uUb_10)))) [6, 7, 8, 9, 10, 1, 2, 3, 4, 5] [0, 11] [0, 7, 8, 9, 10, 11, 2, 3, 4, 5, 6, 1] rfl rfl (by decide) (by decide) (by decide) rfl (by decide) 1 rfl rfl [] rfl hl.1 rfl (Nat.le_of_ble_eq_true rfl) dX7_countUpBehind_33 ⟨by decide, by decide⟩ (fun H locs (hw : Wd D A s.heap H locs (wX7 k xh xaL xaT xaO xaF xaS xaI xaH xaR xaU xTf xTb ++ (wX1 k xaL lrNa lrMo lrWa lrDe lPe lDa lDr lNa lMo lWa lDe ++ (wX1 k xaT trNa trMo trWa trDe tPe_19 tDa_20 tDr_21 tNa_22 tMo_23 tWa_24 tDe_25 ++ (wU k xaU uUb_10))))) => ?_)
          refine W.eq (g2 := F0 m 36 ls ([])) rfl ?_
          refine lv_aload_n hx hb dX7_countUpBehind_36 rfl (lv_at hl 0 rfl) ?_
          refine va_get (ci := 7) (v := .ref xaT) (C := RX7) (T := TX7) (N := 11) hx hb hts hinX7 hown hK.1 hw.1 0 rfl rfl 1 (by decide) q_2 (fun _ h9 => h9) rfl dX7_countUpBehind_37 ?_
          refine va_get (ci := 1) (v := .ref trWa) (C := RX1) (T := TX1) (N := 7) hx hb hts hinX1 hown hK.1 hw.1 6 rfl rfl 5 (by decide) q_4 (fun _ h9 => h9) rfl dX7_countUpBehind_40 ?_
          refine lv_iload_n hx hb dX7_countUpBehind_43 rfl (lv_at hl 1 rfl) ?_
          refine lv_iload_n hx hb dX7_countUpBehind_44 rfl (lv_at hl 3 rfl) ?_
          refine k_iast hx hb hK hw 9 rfl dX7_countUpBehind_45 h (fun tWa_26 h H locs (hw : Wd D A s.heap H locs (wX7 k xh xaL xaT xaO xaF xaS xaI xaH xaR xaU xTf xTb ++ (wX1 k xaL lrNa lrMo lrWa lrDe lPe lDa lDr lNa lMo lWa lDe ++ (wX1 k xaT trNa trMo trWa trDe tPe_19 tDa_20 tDr_21 tNa_22 tMo_23 tWa_26 tDe_25 ++ (wU k xaU uUb_10))))) => ?_)
          refine lv_iconst (v := 0) hx hb dX7_countUpBehind_46 (by decide) ?_
          refine lv_istore (lv' := [(4, .int 0), (0, .ref xh), (1, .int p1), (2, .int p2), (3, .int v3_2)]) hx hb dX7_countUpBehind_47 hl (by decide) rfl (fun ls hl => ?_)
          obtain ⟨tDa_32, tMo_33, tDe_34, uUb_35, hL_49, h⟩ := b4_inv h
          have X_49 : ∀ (H : Heap) (locs : List Loc) (ls : Array Slot), Wd D A s.heap H locs (wX7 k xh xaL xaT xaO xaF xaS xaI xaH xaR xaU xTf xTb ++ (wX1 k xaL lrNa lrMo lrWa lrDe lPe lDa lDr lNa lMo lWa lDe ++ (wX1 k xaT trNa trMo trWa trDe tPe_19 tDa_32 tDr_21 tNa_22 tMo_33 tWa_26 tDe_34 ++ (wU k xaU uUb_35)))) → lv_has ls 5 [(0, .ref xh), (1, .int p1), (2, .int p2), (3, .int v3_2)] → W p l e rmX7_countUpBehind s m args below meth c H locs 0 0 Q (F0 m 99 ls []) := by
            intro H locs ls hw hl
            refine lv_iinc (v := v3_2 + 1) (lv' := [(3, .int (v3_2 + 1)), (0, .ref xh), (1, .int p1), (2, .int p2)]) hx hb dX7_countUpBehind_99 hl (k := 3) rfl rfl (by decide) rfl (fun ls hl => ?_)
            refine lv_goto (tgt := 10) hx hb dX7_countUpBehind_102 (by decide) ?_
            exact ih _ _ _ _ _ _ _ _ _ h _ _ _ hw (lv_sub hl [1, 2, 3, 0] rfl)
          clear h
          have LP_49 : ∀ (n : Nat) (v4_27 : Int32) (tDa_28 : Int32) (tMo_29 : (Nat → Int32)) (tDe_30 : (Nat → Int32)) (uUb_31 : (Nat → Int32)), f_X7_countUpBehind_L49 p1 tPe_19 tNa_22 tWa_26 tDr_21 n v4_27 tDa_28 tMo_29 tDe_30 uUb_31 = some (tDa_32, tMo_33, tDe_34, uUb_35) → ∀ (H : Heap) (locs : List Loc) (ls : Array Slot), Wd D A s.heap H locs (wX7 k xh xaL xaT xaO xaF xaS xaI xaH xaR xaU xTf xTb ++ (wX1 k xaL lrNa lrMo lrWa lrDe lPe lDa lDr lNa lMo lWa lDe ++ (wX1 k xaT trNa trMo trWa trDe tPe_19 tDa_28 tDr_21 tNa_22 tMo_29 tWa_26 tDe_30 ++ (wU k xaU uUb_31)))) → lv_has ls 5 [(0, .ref xh), (1, .int p1), (2, .int p2), (3, .int v3_2), (4, .int v4_27)] → W p l e rmX7_countUpBehind s m args below meth c H locs 0 0 Q (F0 m 49 ls []) := by
            clear hL_49 hw hl
            intro n
            induction n with
            | zero => intro v4_27 tDa_28 tMo_29 tDe_30 uUb_31 h; rw [f_X7_countUpBehind_L49] at h; cases h
            | succ n ih =>
              intro v4_27 tDa_28 tMo_29 tDe_30 uUb_31 h H locs ls hw hl
              rw [f_X7_countUpBehind_L49] at h
              refine lv_iload hx hb dX7_countUpBehind_49 (lv_at hl 4 rfl) ?_
              refine lv_bipush (v := 30) hx hb dX7_countUpBehind_51 (by decide) ?_
              refine kb_icmp_gt (tgt := 99) hx hb dX7_countUpBehind_53 (by decide) h (fun c_53 h => ?_) (fun c_53 h => ?_)
              · cases h
                exact X_49 _ _ _ hw (lv_sub hl [0, 1, 2, 3] rfl)
              · refine lv_aload_n hx hb dX7_countUpBehind_56 rfl (lv_at hl 0 rfl) ?_
                refine va_get (ci := 7) (v := .ref xaT) (C := RX7) (T := TX7) (N := 11) hx hb hts hinX7 hown hK.1 hw.1 0 rfl rfl 1 (by decide) q_2 (fun _ h9 => h9) rfl dX7_countUpBehind_57 ?_
                refine lv_iload_n hx hb dX7_countUpBehind_60 rfl (lv_at hl 1 rfl) ?_
                obtain ⟨r_36, hf, h⟩ := b1_inv h
                refine k_callV (host := "") fx hK hA hw (c_X1_isRiding l D k xaT trNa trMo trWa trDe _ tPe_19 tDa_28 tDr_21 tNa_22 tMo_29 tWa_26 tDe_30 p1 r_36 hf) (cwV 1 hts gX7_countUpBehind_X1_isRiding rfl rfl rfl (by decide +kernel) ⟨by decide, by decide⟩) (As := [.int p1]) (wr := [(xh, .inr (7, [.ref xaL, .ref xaT, .ref xaO, .ref xaF, .ref xaS, .ref xaI, .ref xaH, .ref xaR, .ref xaU, .int xTf, .int xTb])), (xaL, .inr (1, [.int lPe, .int lDa, .int lDr, .ref lrNa, .ref lrMo, .ref lrWa, .ref lrDe])), (lrNa, .inl (k 0, 5, .inl lNa)), (lrMo, .inl (k 0, 5, .inl lMo)), (lrWa, .inl (k 0, 5, .inl lWa)), (lrDe, .inl (k 0, 25, .inl lDe)), (xaU, .inl (k 0, 31, .inl uUb_31))]) (ws' := wX7 k xh xaL xaT xaO xaF xaS xaI xaH xaR xaU xTf xTb ++ (wX1 k xaL lrNa lrMo lrWa lrDe lPe lDa lDr lNa lMo lWa lDe ++ (wX1 k xaT trNa trMo trWa trDe tPe_19 tDa_28 tDr_21 tNa_22 tMo_29 tWa_26 tDe_30 ++ (wU k xaU uUb_31)))) [6, 7, 8, 9, 10] [0, 1, 2, 3, 4, 5, 11] [0, 1, 2, 3, 4, 5, 7, 8, 9, 10, 11, 6] rfl rfl (by decide) (by decide) (by decide) rfl (by decide) 1 rfl rfl [] rfl hl.1 rfl (Nat.le_of_ble_eq_true rfl) dX7_countUpBehind_61 ⟨by decide, by decide⟩ (fun H locs (hw : Wd D A s.heap H locs (wX7 k xh xaL xaT xaO xaF xaS xaI xaH xaR xaU xTf xTb ++ (wX1 k xaL lrNa lrMo lrWa lrDe lPe lDa lDr lNa lMo lWa lDe ++ (wX1 k xaT trNa trMo trWa trDe tPe_19 tDa_28 tDr_21 tNa_22 tMo_29 tWa_26 tDe_30 ++ (wU k xaU uUb_31))))) => ?_)
                refine W.eq (g2 := F0 m 64 ls ([.int r_36])) rfl ?_
                obtain ⟨uUb_37, hj_64, h⟩ := b1_inv h
                have J_64 : ∀ (H : Heap) (locs : List Loc) (ls : Array Slot), Wd D A s.heap H locs (wX7 k xh xaL xaT xaO xaF xaS xaI xaH xaR xaU xTf xTb ++ (wX1 k xaL lrNa lrMo lrWa lrDe lPe lDa lDr lNa lMo lWa lDe ++ (wX1 k xaT trNa trMo trWa trDe tPe_19 tDa_28 tDr_21 tNa_22 tMo_29 tWa_26 tDe_30 ++ (wU k xaU uUb_37)))) → lv_has ls 5 [(0, .ref xh), (1, .int p1), (2, .int p2), (3, .int v3_2), (4, .int v4_27)] → W p l e rmX7_countUpBehind s m args below meth c H locs 0 0 Q (F0 m 78 ls []) := by
                  intro H locs ls hw hl
                  refine lv_aload_n hx hb dX7_countUpBehind_78 rfl (lv_at hl 0 rfl) ?_
                  refine va_get (ci := 7) (v := .ref xaT) (C := RX7) (T := TX7) (N := 11) hx hb hts hinX7 hown hK.1 hw.1 0 rfl rfl 1 (by decide) q_2 (fun _ h9 => h9) rfl dX7_countUpBehind_79 ?_
                  refine lv_aload_n hx hb dX7_countUpBehind_82 rfl (lv_at hl 0 rfl) ?_
                  refine va_get (ci := 7) (v := .ref xaT) (C := RX7) (T := TX7) (N := 11) hx hb hts hinX7 hown hK.1 hw.1 0 rfl rfl 1 (by decide) q_2 (fun _ h9 => h9) rfl dX7_countUpBehind_83 ?_
                  refine va_get (ci := 1) (v := .int tDr_21) (C := RX1) (T := TX1) (N := 7) hx hb hts hinX1 hown hK.1 hw.1 6 rfl rfl 2 (by decide) q_5 (fun _ h9 => h9) rfl dX7_countUpBehind_86 ?_
                  obtain ⟨r_40, tDa_41, tMo_42, tDe_43, hf, h⟩ := b4_inv h
                  refine k_callV (host := "") fx hK hA hw (c_X1_runDay l D k xaT trNa trMo trWa trDe _ tPe_19 tDa_28 tDr_21 tNa_22 tMo_29 tWa_26 tDe_30 tDr_21 r_40 tDa_41 tMo_42 tDe_43 hf) (cwV 1 hts gX7_countUpBehind_X1_runDay rfl rfl rfl (by decide +kernel) ⟨by decide, by decide⟩) (As := [.int tDr_21]) (wr := [(xh, .inr (7, [.ref xaL, .ref xaT, .ref xaO, .ref xaF, .ref xaS, .ref xaI, .ref xaH, .ref xaR, .ref xaU, .int xTf, .int xTb])), (xaL, .inr (1, [.int lPe, .int lDa, .int lDr, .ref lrNa, .ref lrMo, .ref lrWa, .ref lrDe])), (lrNa, .inl (k 0, 5, .inl lNa)), (lrMo, .inl (k 0, 5, .inl lMo)), (lrWa, .inl (k 0, 5, .inl lWa)), (lrDe, .inl (k 0, 25, .inl lDe)), (xaU, .inl (k 0, 31, .inl uUb_37))]) (ws' := wX7 k xh xaL xaT xaO xaF xaS xaI xaH xaR xaU xTf xTb ++ (wX1 k xaL lrNa lrMo lrWa lrDe lPe lDa lDr lNa lMo lWa lDe ++ (wX1 k xaT trNa trMo trWa trDe tPe_19 tDa_41 tDr_21 tNa_22 tMo_42 tWa_26 tDe_43 ++ (wU k xaU uUb_37)))) [6, 7, 8, 9, 10] [0, 1, 2, 3, 4, 5, 11] [0, 1, 2, 3, 4, 5, 7, 8, 9, 10, 11, 6] rfl rfl (by decide) (by decide) (by decide) rfl (by decide) 1 rfl rfl [] rfl hl.1 rfl (Nat.le_of_ble_eq_true rfl) dX7_countUpBehind_89 ⟨by decide, by decide⟩ (fun H locs (hw : Wd D A s.heap H locs (wX7 k xh xaL xaT xaO xaF xaS xaI xaH xaR xaU xTf xTb ++ (wX1 k xaL lrNa lrMo lrWa lrDe lPe lDa lDr lNa lMo lWa lDe ++ (wX1 k xaT trNa trMo trWa trDe tPe_19 tDa_41 tDr_21 tNa_22 tMo_42 tWa_26 tDe_43 ++ (wU k xaU uUb_37))))) => ?_)
                  refine W.eq (g2 := F0 m 92 ls ([.int r_40])) rfl ?_
                  refine lv_pop hx hb dX7_countUpBehind_92 rfl ?_
                  refine lv_iinc (v := v4_27 + 1) (lv' := [(4, .int (v4_27 + 1)), (0, .ref xh), (1, .int p1), (2, .int p2), (3, .int v3_2)]) hx hb dX7_countUpBehind_93 hl (k := 4) rfl rfl (by decide) rfl (fun ls hl => ?_)
                  refine lv_goto (tgt := 49) hx hb dX7_countUpBehind_96 (by decide) ?_
                  exact ih _ _ _ _ _ h _ _ _ hw (lv_sub hl [1, 2, 3, 4, 0] rfl)
                clear h
                have h := hj_64
                refine kb_if_eq (tgt := 78) hx hb dX7_countUpBehind_64 (by decide) h (fun c_64 h => ?_) (fun c_64 h => ?_)
                · cases h
                  exact J_64 _ _ _ hw (lv_sub hl [0, 1, 2, 3, 4] rfl)
                · refine lv_aload_n hx hb dX7_countUpBehind_67 rfl (lv_at hl 0 rfl) ?_
                  refine va_get (ci := 7) (v := .ref xaU) (C := RX7) (T := TX7) (N := 11) hx hb hts hinX7 hown hK.1 hw.1 0 rfl rfl 8 (by decide) q_1 (fun _ h9 => h9) rfl dX7_countUpBehind_68 ?_
                  refine lv_iload hx hb dX7_countUpBehind_71 (lv_at hl 4 rfl) ?_
                  refine lv_dup2_11 hx hb dX7_countUpBehind_73 rfl rfl ?_
                  refine k_iald hx hb hK hw 11 rfl dX7_countUpBehind_74 h (fun a_38 h => ?_)
                  refine lv_iconst (v := 1) hx hb dX7_countUpBehind_75 (by decide) ?_
                  refine lv_iadd hx hb dX7_countUpBehind_76 ?_
                  refine k_iast hx hb hK hw 11 rfl dX7_countUpBehind_77 h (fun uUb_39 h H locs (hw : Wd D A s.heap H locs (wX7 k xh xaL xaT xaO xaF xaS xaI xaH xaR xaU xTf xTb ++ (wX1 k xaL lrNa lrMo lrWa lrDe lPe lDa lDr lNa lMo lWa lDe ++ (wX1 k xaT trNa trMo trWa trDe tPe_19 tDa_28 tDr_21 tNa_22 tMo_29 tWa_26 tDe_30 ++ (wU k xaU uUb_39))))) => ?_)
                  cases h
                  exact J_64 _ _ _ hw (lv_sub hl [0, 1, 2, 3, 4] rfl)
          exact LP_49 400 0 tDa_20 tMo_23 tDe_25 uUb_10 hL_49 _ _ _ hw (lv_sub hl [1, 2, 3, 4, 0] rfl)
        · refine lv_iinc (v := v3_2 + 1) (lv' := [(3, .int (v3_2 + 1)), (0, .ref xh), (1, .int p1), (2, .int p2)]) hx hb dX7_countUpBehind_99 hl (k := 3) rfl rfl (by decide) rfl (fun ls hl => ?_)
          refine lv_goto (tgt := 10) hx hb dX7_countUpBehind_102 (by decide) ?_
          exact ih _ _ _ _ _ _ _ _ _ h _ _ _ hw (lv_sub hl [1, 2, 3, 0] rfl)
  exact LP_10 400 0 tPe tDa tDr tNa tMo tWa tDe (fun _ => 0) hL_10 _ _ _ hw (lv_sub hl [1, 2, 3, 0] rfl)
abbrev rmX7_ask : Room := { frames := 6, cells := 0, slots := 0, locals := 140 }
set_option maxHeartbeats 4000000 in
set_option maxRecDepth 100000 in
theorem c_X7_ask (l : Launch) (D : va_G) (k : Nat → ClassId) (xh xaL xaT xaO xaF xaS xaI xaH xaR xaU lrNa lrMo lrWa lrDe trNa trMo trWa trDe srDy srWo srRi : Nat) (sz : Nat) (xTf : Int32) (xTb : Int32) (lPe : Int32) (lDa : Int32) (lDr : Int32) (lNa : (Nat → Int32)) (lMo : (Nat → Int32)) (lWa : (Nat → Int32)) (lDe : (Nat → Int32)) (tPe : Int32) (tDa : Int32) (tDr : Int32) (tNa : (Nat → Int32)) (tMo : (Nat → Int32)) (tWa : (Nat → Int32)) (tDe : (Nat → Int32)) (sDy : (Nat → Int32)) (sWo : (Nat → Int32)) (sRi : (Nat → Int32)) (sSz : Int32) (uUb : (Nat → Int32)) (p1 : Int32) (p2 : Int32) (r_ : Int32) (n_tPe : Int32) (n_tDa : Int32) (n_tDr : Int32) (n_tNa : (Nat → Int32)) (n_tMo : (Nat → Int32)) (n_tWa : (Nat → Int32)) (n_tDe : (Nat → Int32)) (n_uUb : (Nat → Int32)) (hf : f_X7_ask lPe lDa lDr lNa lMo lWa lDe tPe tDa tDr tNa tMo tWa tDe sDy sWo sRi sSz uUb p1 p2 = some (r_, n_tPe, n_tDa, n_tDr, n_tNa, n_tMo, n_tWa, n_tDe, n_uUb)) : mR l yX7_ask wsX7_ask rmX7_ask D k sz [.ref xh, .int p1, .int p2] (wX7 k xh xaL xaT xaO xaF xaS xaI xaH xaR xaU xTf xTb ++ (wX1 k xaL lrNa lrMo lrWa lrDe lPe lDa lDr lNa lMo lWa lDe ++ (wX1 k xaT trNa trMo trWa trDe tPe tDa tDr tNa tMo tWa tDe ++ (wX5 k xaS srDy srWo srRi sDy sWo sRi sSz ++ (wU k xaU uUb))))) (wX7 k xh xaL xaT xaO xaF xaS xaI xaH xaR xaU xTf xTb ++ (wX1 k xaL lrNa lrMo lrWa lrDe lPe lDa lDr lNa lMo lWa lDe ++ (wX1 k xaT trNa trMo trWa trDe n_tPe n_tDa n_tDr n_tNa n_tMo n_tWa n_tDe ++ (wX5 k xaS srDy srWo srRi sDy sWo sRi sSz ++ (wU k xaU n_uUb))))) (some (.int r_)) := by
  refine mR_of (cc := cX7_ask) (maxL := 9) (ret := some .int) (by decide) rfl (Nat.le_of_ble_eq_true rfl) [(0, .ref xh), (1, .int p1), (2, .int p2)] rfl ?_
  intro p e s m below meth c A ls args Q cx hK hA hw hl hQ
  have fx := cx.1
  obtain ⟨⟨hx, hb, hml, hown, hts⟩, hr, hlocks⟩ := cx
  have hinX7 : ∀ w ∈ wsX70, w ∈ wsX7_ask := fun w h => List.mem_cons_of_mem _ (List.mem_append_left _ (List.mem_append_left _ (List.mem_append_right _ h)))
  have q_1 := hts (.fieldLink RX7 10 "DebtRides" "land" "LDebtRides$Land;") (List.mem_of_getElem? (i := 1) rfl)
  have q_2 := hts (.fieldLink RX7 61 "DebtRides" "upBehind" "[I") (List.mem_of_getElem? (i := 2) rfl)
  have q_3 := hts (.methodLink RX7 186 Lib.Math.max.name) (List.mem_of_getElem? (i := 3) rfl)
  have q_4 := hts (.static Lib.Math.max.name) (List.mem_of_getElem? (i := 4) rfl)
  have q_5 := hts (.initialized "java/lang/Math") (List.mem_of_getElem? (i := 5) rfl)
  have q_6 := hts (.code Lib.Math.max.name Lib.Math.max.code 2 (some .int)) (List.mem_of_getElem? (i := 6) rfl)
  have h := hf
  unfold f_X7_ask at h
  clear hf
  refine lv_aload_n hx hb dX7_ask_0 rfl (lv_at hl 0 rfl) ?_
  refine va_get (ci := 7) (v := .ref xaL) (C := RX7) (T := TX7) (N := 11) hx hb hts hinX7 hown hK.1 hw.1 0 rfl rfl 0 (by decide) q_1 (fun _ h9 => h9) rfl dX7_ask_1 ?_
  refine lv_iload_n hx hb dX7_ask_4 rfl (lv_at hl 1 rfl) ?_
  obtain ⟨r_1, hf, h⟩ := b1_inv h
  refine k_callV (host := "") fx hK hA hw (c_X1_has l D k xaL lrNa lrMo lrWa lrDe _ lPe lDa lDr lNa lMo lWa lDe p1 r_1 hf) (cwV 1 hts gX7_ask_X1_has rfl rfl rfl (by decide +kernel) ⟨by decide, by decide⟩) (As := [.int p1]) (wr := [(xh, .inr (7, [.ref xaL, .ref xaT, .ref xaO, .ref xaF, .ref xaS, .ref xaI, .ref xaH, .ref xaR, .ref xaU, .int xTf, .int xTb])), (xaT, .inr (1, [.int tPe, .int tDa, .int tDr, .ref trNa, .ref trMo, .ref trWa, .ref trDe])), (trNa, .inl (k 0, 5, .inl tNa)), (trMo, .inl (k 0, 5, .inl tMo)), (trWa, .inl (k 0, 5, .inl tWa)), (trDe, .inl (k 0, 25, .inl tDe)), (xaS, .inr (5, [.ref srDy, .ref srWo, .ref srRi, .int sSz])), (srDy, .inl (k 0, 6, .inl sDy)), (srWo, .inl (k 0, 6, .inl sWo)), (srRi, .inl (k 0, 6, .inl sRi)), (xaU, .inl (k 0, 31, .inl uUb))]) (ws' := wX7 k xh xaL xaT xaO xaF xaS xaI xaH xaR xaU xTf xTb ++ (wX1 k xaL lrNa lrMo lrWa lrDe lPe lDa lDr lNa lMo lWa lDe ++ (wX1 k xaT trNa trMo trWa trDe tPe tDa tDr tNa tMo tWa tDe ++ (wX5 k xaS srDy srWo srRi sDy sWo sRi sSz ++ (wU k xaU uUb))))) [1, 2, 3, 4, 5] [0, 6, 7, 8, 9, 10, 11, 12, 13, 14, 15] [0, 11, 12, 13, 14, 15, 1, 2, 3, 4, 5, 6, 7, 8, 9, 10] rfl rfl (by decide) (by decide) (by decide) rfl (by decide) 1 rfl rfl [] rfl hl.1 rfl (Nat.le_of_ble_eq_true rfl) dX7_ask_5 ⟨by decide, by decide⟩ (fun H locs (hw : Wd D A s.heap H locs (wX7 k xh xaL xaT xaO xaF xaS xaI xaH xaR xaU xTf xTb ++ (wX1 k xaL lrNa lrMo lrWa lrDe lPe lDa lDr lNa lMo lWa lDe ++ (wX1 k xaT trNa trMo trWa trDe tPe tDa tDr tNa tMo tWa tDe ++ (wX5 k xaS srDy srWo srRi sDy sWo sRi sSz ++ (wU k xaU uUb)))))) => ?_)
  refine W.eq (g2 := F0 m 8 ls ([.int r_1])) rfl ?_
  refine kb_if_eq (tgt := 20) hx hb dX7_ask_8 (by decide) h (fun c_8 h => ?_) (fun c_8 h => ?_)
  · refine lv_iconst (v := (-1)) hx hb dX7_ask_20 (by decide) ?_
    cases h
    exact k_iret hx hb hr hlocks hw rfl dX7_ask_21 hQ
  · refine lv_iload_n hx hb dX7_ask_11 rfl (lv_at hl 2 rfl) ?_
    refine lv_iconst (v := 0) hx hb dX7_ask_12 (by decide) ?_
    refine lv_iconst (v := 1) hx hb dX7_ask_13 (by decide) ?_
    obtain ⟨r_2, hf, h⟩ := b1_inv h
    refine k_callS (b := 0) (C := "") (host := "") fx hK hA hw (c_X7_within l D k _ p2 0 1 r_2 hf) (va_cwS 3 hts gX7_ask_X7_within rfl rfl rfl (by decide +kernel) ⟨by decide, by decide⟩) (As := [.int p2, .int 0, .int 1]) (wr := [(xh, .inr (7, [.ref xaL, .ref xaT, .ref xaO, .ref xaF, .ref xaS, .ref xaI, .ref xaH, .ref xaR, .ref xaU, .int xTf, .int xTb])), (xaL, .inr (1, [.int lPe, .int lDa, .int lDr, .ref lrNa, .ref lrMo, .ref lrWa, .ref lrDe])), (lrNa, .inl (k 0, 5, .inl lNa)), (lrMo, .inl (k 0, 5, .inl lMo)), (lrWa, .inl (k 0, 5, .inl lWa)), (lrDe, .inl (k 0, 25, .inl lDe)), (xaT, .inr (1, [.int tPe, .int tDa, .int tDr, .ref trNa, .ref trMo, .ref trWa, .ref trDe])), (trNa, .inl (k 0, 5, .inl tNa)), (trMo, .inl (k 0, 5, .inl tMo)), (trWa, .inl (k 0, 5, .inl tWa)), (trDe, .inl (k 0, 25, .inl tDe)), (xaS, .inr (5, [.ref srDy, .ref srWo, .ref srRi, .int sSz])), (srDy, .inl (k 0, 6, .inl sDy)), (srWo, .inl (k 0, 6, .inl sWo)), (srRi, .inl (k 0, 6, .inl sRi)), (xaU, .inl (k 0, 31, .inl uUb))]) (ws' := wX7 k xh xaL xaT xaO xaF xaS xaI xaH xaR xaU xTf xTb ++ (wX1 k xaL lrNa lrMo lrWa lrDe lPe lDa lDr lNa lMo lWa lDe ++ (wX1 k xaT trNa trMo trWa trDe tPe tDa tDr tNa tMo tWa tDe ++ (wX5 k xaS srDy srWo srRi sDy sWo sRi sSz ++ (wU k xaU uUb))))) [] [0, 1, 2, 3, 4, 5, 6, 7, 8, 9, 10, 11, 12, 13, 14, 15] [0, 1, 2, 3, 4, 5, 6, 7, 8, 9, 10, 11, 12, 13, 14, 15] rfl rfl (by decide) (by decide) (by decide) rfl (by decide) [] rfl hl.1 rfl (Nat.le_of_ble_eq_true rfl) dX7_ask_14 ⟨by decide, by decide⟩ (fun H locs (hw : Wd D A s.heap H locs (wX7 k xh xaL xaT xaO xaF xaS xaI xaH xaR xaU xTf xTb ++ (wX1 k xaL lrNa lrMo lrWa lrDe lPe lDa lDr lNa lMo lWa lDe ++ (wX1 k xaT trNa trMo trWa trDe tPe tDa tDr tNa tMo tWa tDe ++ (wX5 k xaS srDy srWo srRi sDy sWo sRi sSz ++ (wU k xaU uUb)))))) => ?_)
    refine W.eq (g2 := F0 m 17 ls ([.int r_2])) rfl ?_
    refine kb_if_ne (tgt := 22) hx hb dX7_ask_17 (by decide) h (fun c_17 h => ?_) (fun c_17 h => ?_)
    · refine lv_iconst (v := (-1)) hx hb dX7_ask_20 (by decide) ?_
      cases h
      exact k_iret hx hb hr hlocks hw rfl dX7_ask_21 hQ
    · refine lv_aload_n hx hb dX7_ask_22 rfl (lv_at hl 0 rfl) ?_
      refine lv_iload_n hx hb dX7_ask_23 rfl (lv_at hl 1 rfl) ?_
      obtain ⟨r_3, tPe_4, tDa_5, tDr_6, tNa_7, tMo_8, tWa_9, tDe_10, hf, h⟩ := b8_inv h
      refine k_callV (host := "") fx hK hA hw (c_X7_possibleWages l D k xh xaL xaT xaO xaF xaS xaI xaH xaR xaU lrNa lrMo lrWa lrDe trNa trMo trWa trDe srDy srWo srRi _ xTf xTb lPe lDa lDr lNa lMo lWa lDe tPe tDa tDr tNa tMo tWa tDe sDy sWo sRi sSz p1 r_3 tPe_4 tDa_5 tDr_6 tNa_7 tMo_8 tWa_9 tDe_10 hf) (cwV 1 hts gX7_ask_X7_possibleWages rfl rfl rfl (by decide +kernel) ⟨by decide, by decide⟩) (As := [.int p1]) (wr := [(xaU, .inl (k 0, 31, .inl uUb))]) (ws' := wX7 k xh xaL xaT xaO xaF xaS xaI xaH xaR xaU xTf xTb ++ (wX1 k xaL lrNa lrMo lrWa lrDe lPe lDa lDr lNa lMo lWa lDe ++ (wX1 k xaT trNa trMo trWa trDe tPe_4 tDa_5 tDr_6 tNa_7 tMo_8 tWa_9 tDe_10 ++ (wX5 k xaS srDy srWo srRi sDy sWo sRi sSz ++ (wU k xaU uUb))))) [0, 1, 2, 3, 4, 5, 6, 7, 8, 9, 10, 11, 12, 13, 14] [15] [1, 2, 3, 4, 5, 6, 7, 8, 9, 10, 11, 12, 13, 14, 15, 0] rfl rfl (by decide) (by decide) (by decide) rfl (by decide) 7 rfl rfl [] rfl hl.1 rfl (Nat.le_of_ble_eq_true rfl) dX7_ask_24 ⟨by decide, by decide⟩ (fun H locs (hw : Wd D A s.heap H locs (wX7 k xh xaL xaT xaO xaF xaS xaI xaH xaR xaU xTf xTb ++ (wX1 k xaL lrNa lrMo lrWa lrDe lPe lDa lDr lNa lMo lWa lDe ++ (wX1 k xaT trNa trMo trWa trDe tPe_4 tDa_5 tDr_6 tNa_7 tMo_8 tWa_9 tDe_10 ++ (wX5 k xaS srDy srWo srRi sDy sWo sRi sSz ++ (wU k xaU uUb)))))) => ?_)
      refine W.eq (g2 := F0 m 27 ls ([.int r_3])) rfl ?_
      refine lv_istore_n (lv' := [(3, .int r_3), (0, .ref xh), (1, .int p1), (2, .int p2)]) hx hb dX7_ask_27 rfl hl (by decide) rfl (fun ls hl => ?_)
      refine lv_aload_n hx hb dX7_ask_28 rfl (lv_at hl 1 rfl) ?_
      refine lv_iload_n hx hb dX7_ask_29 rfl (lv_at hl 2 rfl) ?_
      refine lv_iload_n hx hb dX7_ask_30 rfl (lv_at hl 0 rfl) ?_
      obtain ⟨tPe_11, tDa_12, tDr_13, tNa_14, tMo_15, tWa_16, tDe_17, uUb_18, hf, h⟩ := b8_inv h
      refine k_callV (host := "") fx hK hA hw (c_X7_countUpBehind l D k xh xaL xaT xaO xaF xaS xaI xaH xaR xaU lrNa lrMo lrWa lrDe trNa trMo trWa trDe _ xTf xTb lPe lDa lDr lNa lMo lWa lDe tPe_4 tDa_5 tDr_6 tNa_7 tMo_8 tWa_9 tDe_10 uUb p1 r_3 tPe_11 tDa_12 tDr_13 tNa_14 tMo_15 tWa_16 tDe_17 uUb_18 hf) (cwV 2 hts gX7_ask_X7_countUpBehind rfl rfl rfl (by decide +kernel) ⟨by decide, by decide⟩) (As := [.int p1, .int r_3]) (wr := [(xaS, .inr (5, [.ref srDy, .ref srWo, .ref srRi, .int sSz])), (srDy, .inl (k 0, 6, .inl sDy)), (srWo, .inl (k 0, 6, .inl sWo)), (srRi, .inl (k 0, 6, .inl sRi))]) (ws' := wX7 k xh xaL xaT xaO xaF xaS xaI xaH xaR xaU xTf xTb ++ (wX1 k xaL lrNa lrMo lrWa lrDe lPe lDa lDr lNa lMo lWa lDe ++ (wX1 k xaT trNa trMo trWa trDe tPe_11 tDa_12 tDr_13 tNa_14 tMo_15 tWa_16 tDe_17 ++ (wX5 k xaS srDy srWo srRi sDy sWo sRi sSz ++ (wU k xaU uUb_18))))) [0, 1, 2, 3, 4, 5, 6, 7, 8, 9, 10, 15] [11, 12, 13, 14] [4, 5, 6, 7, 8, 9, 10, 11, 12, 13, 14, 0, 1, 2, 3, 15] rfl rfl (by decide) (by decide) (by decide) rfl (by decide) 7 rfl rfl [] rfl hl.1 rfl (Nat.le_of_ble_eq_true rfl) dX7_ask_31 ⟨by decide, by decide⟩ (fun H locs (hw : Wd D A s.heap H locs (wX7 k xh xaL xaT xaO xaF xaS xaI xaH xaR xaU xTf xTb ++ (wX1 k xaL lrNa lrMo lrWa lrDe lPe lDa lDr lNa lMo lWa lDe ++ (wX1 k xaT trNa trMo trWa trDe tPe_11 tDa_12 tDr_13 tNa_14 tMo_15 tWa_16 tDe_17 ++ (wX5 k xaS srDy srWo srRi sDy sWo sRi sSz ++ (wU k xaU uUb_18)))))) => ?_)
      refine W.eq (g2 := F0 m 34 ls ([])) rfl ?_
      refine lv_iload_n hx hb dX7_ask_34 rfl (lv_at hl 0 rfl) ?_
      obtain ⟨r_19, hf, h⟩ := b1_inv h
      refine k_callS (b := 0) (C := "") (host := "") fx hK hA hw (c_J6_bitCount_0f7a4 l D k _ r_3 r_19 hf) (va_cwS 1 hts gX7_ask_J6_bitCount_0f7a4 rfl rfl rfl (by decide +kernel) ⟨by decide, by decide⟩) (As := [.int r_3]) (wr := [(xh, .inr (7, [.ref xaL, .ref xaT, .ref xaO, .ref xaF, .ref xaS, .ref xaI, .ref xaH, .ref xaR, .ref xaU, .int xTf, .int xTb])), (xaL, .inr (1, [.int lPe, .int lDa, .int lDr, .ref lrNa, .ref lrMo, .ref lrWa, .ref lrDe])), (lrNa, .inl (k 0, 5, .inl lNa)), (lrMo, .inl (k 0, 5, .inl lMo)), (lrWa, .inl (k 0, 5, .inl lWa)), (lrDe, .inl (k 0, 25, .inl lDe)), (xaT, .inr (1, [.int tPe_11, .int tDa_12, .int tDr_13, .ref trNa, .ref trMo, .ref trWa, .ref trDe])), (trNa, .inl (k 0, 5, .inl tNa_14)), (trMo, .inl (k 0, 5, .inl tMo_15)), (trWa, .inl (k 0, 5, .inl tWa_16)), (trDe, .inl (k 0, 25, .inl tDe_17)), (xaS, .inr (5, [.ref srDy, .ref srWo, .ref srRi, .int sSz])), (srDy, .inl (k 0, 6, .inl sDy)), (srWo, .inl (k 0, 6, .inl sWo)), (srRi, .inl (k 0, 6, .inl sRi)), (xaU, .inl (k 0, 31, .inl uUb_18))]) (ws' := wX7 k xh xaL xaT xaO xaF xaS xaI xaH xaR xaU xTf xTb ++ (wX1 k xaL lrNa lrMo lrWa lrDe lPe lDa lDr lNa lMo lWa lDe ++ (wX1 k xaT trNa trMo trWa trDe tPe_11 tDa_12 tDr_13 tNa_14 tMo_15 tWa_16 tDe_17 ++ (wX5 k xaS srDy srWo srRi sDy sWo sRi sSz ++ (wU k xaU uUb_18))))) [] [0, 1, 2, 3, 4, 5, 6, 7, 8, 9, 10, 11, 12, 13, 14, 15] [0, 1, 2, 3, 4, 5, 6, 7, 8, 9, 10, 11, 12, 13, 14, 15] rfl rfl (by decide) (by decide) (by decide) rfl (by decide) [] rfl hl.1 rfl (Nat.le_of_ble_eq_true rfl) dX7_ask_35 ⟨by decide, by decide⟩ (fun H locs (hw : Wd D A s.heap H locs (wX7 k xh xaL xaT xaO xaF xaS xaI xaH xaR xaU xTf xTb ++ (wX1 k xaL lrNa lrMo lrWa lrDe lPe lDa lDr lNa lMo lWa lDe ++ (wX1 k xaT trNa trMo trWa trDe tPe_11 tDa_12 tDr_13 tNa_14 tMo_15 tWa_16 tDe_17 ++ (wX5 k xaS srDy srWo srRi sDy sWo sRi sSz ++ (wU k xaU uUb_18)))))) => ?_)
      refine W.eq (g2 := F0 m 38 ls ([.int r_19])) rfl ?_
      refine lv_istore (lv' := [(4, .int r_19), (3, .int r_3), (0, .ref xh), (1, .int p1), (2, .int p2)]) hx hb dX7_ask_38 hl (by decide) rfl (fun ls hl => ?_)
      refine lv_iload hx hb dX7_ask_40 (lv_at hl 0 rfl) ?_
      refine lv_istore (lv' := [(5, .int r_19), (4, .int r_19), (3, .int r_3), (0, .ref xh), (1, .int p1), (2, .int p2)]) hx hb dX7_ask_42 hl (by decide) rfl (fun ls hl => ?_)
      refine lv_bipush (v := (-4)) hx hb dX7_ask_44 (by decide) ?_
      refine lv_istore (lv' := [(6, .int (-4)), (5, .int r_19), (4, .int r_19), (3, .int r_3), (0, .ref xh), (1, .int p1), (2, .int p2)]) hx hb dX7_ask_46 hl (by decide) rfl (fun ls hl => ?_)
      refine lv_iconst (v := 0) hx hb dX7_ask_48 (by decide) ?_
      refine lv_istore (lv' := [(7, .int 0), (6, .int (-4)), (5, .int r_19), (4, .int r_19), (3, .int r_3), (0, .ref xh), (1, .int p1), (2, .int p2)]) hx hb dX7_ask_49 hl (by decide) rfl (fun ls hl => ?_)
      obtain ⟨v5_23, v6_24, hL_51, h⟩ := b2_inv h
      have X_51 : ∀ (H : Heap) (locs : List Loc) (ls : Array Slot), Wd D A s.heap H locs (wX7 k xh xaL xaT xaO xaF xaS xaI xaH xaR xaU xTf xTb ++ (wX1 k xaL lrNa lrMo lrWa lrDe lPe lDa lDr lNa lMo lWa lDe ++ (wX1 k xaT trNa trMo trWa trDe tPe_11 tDa_12 tDr_13 tNa_14 tMo_15 tWa_16 tDe_17 ++ (wX5 k xaS srDy srWo srRi sDy sWo sRi sSz ++ (wU k xaU uUb_18))))) → lv_has ls 9 [(2, .int p2), (5, .int v5_23), (6, .int v6_24)] → W p l e rmX7_ask s m args below meth c H locs 0 0 Q (F0 m 101 ls []) := by
        intro H locs ls hw hl
        refine lv_iload hx hb dX7_ask_101 (lv_at hl 2 rfl) ?_
        refine lv_bipush (v := (-4)) hx hb dX7_ask_103 (by decide) ?_
        refine kb_icmp_ne (tgt := 111) hx hb dX7_ask_105 (by decide) h (fun c_105 h => ?_) (fun c_105 h => ?_)
        · refine lv_bipush (v := (-4)) hx hb dX7_ask_108 (by decide) ?_
          cases h
          exact k_iret hx hb hr hlocks hw rfl dX7_ask_110 hQ
        · refine lv_iload_n hx hb dX7_ask_111 rfl (lv_at hl 0 rfl) ?_
          refine kb_if_ne (tgt := 120) hx hb dX7_ask_112 (by decide) h (fun c_112 h => ?_) (fun c_112 h => ?_)
          · refine lv_iload hx hb dX7_ask_115 (lv_at hl 2 rfl) ?_
            refine lv_goto (tgt := 122) hx hb dX7_ask_117 (by decide) ?_
            cases h
            exact k_iret hx hb hr hlocks hw rfl dX7_ask_122 hQ
          · refine lv_iload hx hb dX7_ask_120 (lv_at hl 1 rfl) ?_
            cases h
            exact k_iret hx hb hr hlocks hw rfl dX7_ask_122 hQ
      clear h
      have LP_51 : ∀ (n : Nat) (v5_20 : Int32) (v6_21 : Int32) (v7_22 : Int32), f_X7_ask_L51 uUb_18 r_19 n v5_20 v6_21 v7_22 = some (v5_23, v6_24) → ∀ (H : Heap) (locs : List Loc) (ls : Array Slot), Wd D A s.heap H locs (wX7 k xh xaL xaT xaO xaF xaS xaI xaH xaR xaU xTf xTb ++ (wX1 k xaL lrNa lrMo lrWa lrDe lPe lDa lDr lNa lMo lWa lDe ++ (wX1 k xaT trNa trMo trWa trDe tPe_11 tDa_12 tDr_13 tNa_14 tMo_15 tWa_16 tDe_17 ++ (wX5 k xaS srDy srWo srRi sDy sWo sRi sSz ++ (wU k xaU uUb_18))))) → lv_has ls 9 [(0, .ref xh), (2, .int p2), (4, .int r_19), (5, .int v5_20), (6, .int v6_21), (7, .int v7_22)] → W p l e rmX7_ask s m args below meth c H locs 0 0 Q (F0 m 51 ls []) := by
        clear hL_51 hw hl
        intro n
        induction n with
        | zero => intro v5_20 v6_21 v7_22 h; rw [f_X7_ask_L51] at h; cases h
        | succ n ih =>
          intro v5_20 v6_21 v7_22 h H locs ls hw hl
          rw [f_X7_ask_L51] at h
          refine lv_iload hx hb dX7_ask_51 (lv_at hl 5 rfl) ?_
          refine lv_bipush (v := 30) hx hb dX7_ask_53 (by decide) ?_
          refine kb_icmp_gt (tgt := 101) hx hb dX7_ask_55 (by decide) h (fun c_55 h => ?_) (fun c_55 h => ?_)
          · cases h
            exact X_51 _ _ _ hw (lv_sub hl [1, 3, 4] rfl)
          · refine lv_aload_n hx hb dX7_ask_58 rfl (lv_at hl 0 rfl) ?_
            refine va_get (ci := 7) (v := .ref xaU) (C := RX7) (T := TX7) (N := 11) hx hb hts hinX7 hown hK.1 hw.1 0 rfl rfl 8 (by decide) q_2 (fun _ h9 => h9) rfl dX7_ask_59 ?_
            refine lv_iload hx hb dX7_ask_62 (lv_at hl 5 rfl) ?_
            refine k_iald hx hb hK hw 15 rfl dX7_ask_64 h (fun a_25 h => ?_)
            refine lv_iload hx hb dX7_ask_65 (lv_at hl 2 rfl) ?_
            refine lv_aload_n hx hb dX7_ask_67 rfl (lv_at hl 0 rfl) ?_
            refine va_get (ci := 7) (v := .ref xaU) (C := RX7) (T := TX7) (N := 11) hx hb hts hinX7 hown hK.1 hw.1 0 rfl rfl 8 (by decide) q_2 (fun _ h9 => h9) rfl dX7_ask_68 ?_
            refine lv_iload hx hb dX7_ask_71 (lv_at hl 5 rfl) ?_
            refine k_iald hx hb hK hw 15 rfl dX7_ask_73 h (fun a_26 h => ?_)
            refine lv_isub hx hb dX7_ask_74 ?_
            refine k_max fx hl.1 q_3 q_4 q_5 q_6 (by decide) (Nat.le_of_ble_eq_true rfl) ⟨by decide, by decide⟩ dX7_ask_75 h (fun z_27 h => ?_)
            refine lv_istore (lv' := [(8, .int z_27), (0, .ref xh), (2, .int p2), (4, .int r_19), (5, .int v5_20), (6, .int v6_21), (7, .int v7_22)]) hx hb dX7_ask_78 hl (by decide) rfl (fun ls hl => ?_)
            refine lv_iload hx hb dX7_ask_80 (lv_at hl 0 rfl) ?_
            refine lv_iload hx hb dX7_ask_82 (lv_at hl 4 rfl) ?_
            refine kb_icmp_ge (tgt := 95) hx hb dX7_ask_84 (by decide) h (fun c_84 h => ?_) (fun c_84 h => ?_)
            · refine lv_iinc (v := v7_22 + 1) (lv' := [(7, .int (v7_22 + 1)), (8, .int z_27), (0, .ref xh), (2, .int p2), (4, .int r_19), (5, .int v5_20), (6, .int v6_21)]) hx hb dX7_ask_95 hl (k := 6) rfl rfl (by decide) rfl (fun ls hl => ?_)
              refine lv_goto (tgt := 51) hx hb dX7_ask_98 (by decide) ?_
              exact ih _ _ _ h _ _ _ hw (lv_sub hl [2, 3, 4, 5, 6, 0] rfl)
            · refine lv_iload hx hb dX7_ask_87 (lv_at hl 0 rfl) ?_
              refine lv_istore (lv' := [(5, .int z_27), (8, .int z_27), (0, .ref xh), (2, .int p2), (4, .int r_19), (6, .int v6_21), (7, .int v7_22)]) hx hb dX7_ask_89 hl (by decide) rfl (fun ls hl => ?_)
              refine lv_iload hx hb dX7_ask_91 (lv_at hl 6 rfl) ?_
              refine lv_istore (lv' := [(6, .int v7_22), (5, .int z_27), (8, .int z_27), (0, .ref xh), (2, .int p2), (4, .int r_19), (7, .int v7_22)]) hx hb dX7_ask_93 hl (by decide) rfl (fun ls hl => ?_)
              refine lv_iinc (v := v7_22 + 1) (lv' := [(7, .int (v7_22 + 1)), (6, .int v7_22), (5, .int z_27), (8, .int z_27), (0, .ref xh), (2, .int p2), (4, .int r_19)]) hx hb dX7_ask_95 hl (k := 6) rfl rfl (by decide) rfl (fun ls hl => ?_)
              refine lv_goto (tgt := 51) hx hb dX7_ask_98 (by decide) ?_
              exact ih _ _ _ h _ _ _ hw (lv_sub hl [4, 5, 6, 2, 1, 0] rfl)
      exact LP_51 400 r_19 (-4) 0 hL_51 _ _ _ hw (lv_sub hl [5, 7, 3, 2, 1, 0] rfl)
abbrev rmX7_back : Room := { frames := 2, cells := 0, slots := 0, locals := 81 }
set_option maxHeartbeats 4000000 in
set_option maxRecDepth 100000 in
theorem c_X7_back (l : Launch) (D : va_G) (k : Nat → ClassId) (xh xaL xaT xaO xaF xaS xaI xaH xaR xaU lrNa lrMo lrWa lrDe srDy srWo srRi i0 i1 i0aL i0aS i1aL i1aS j0rNa j0rMo j0rWa j0rDe j1rNa j1rMo j1rWa j1rDe k0rDy k0rWo k0rRi k1rDy k1rWo k1rRi : Nat) (sz : Nat) (xTf : Int32) (xTb : Int32) (lPe : Int32) (lDa : Int32) (lDr : Int32) (lNa : (Nat → Int32)) (lMo : (Nat → Int32)) (lWa : (Nat → Int32)) (lDe : (Nat → Int32)) (sDy : (Nat → Int32)) (sWo : (Nat → Int32)) (sRi : (Nat → Int32)) (sSz : Int32) (i0Ke : Int32) (i1Ke : Int32) (j0Pe : Int32) (j0Da : Int32) (j0Dr : Int32) (j0Na : (Nat → Int32)) (j0Mo : (Nat → Int32)) (j0Wa : (Nat → Int32)) (j0De : (Nat → Int32)) (j1Pe : Int32) (j1Da : Int32) (j1Dr : Int32) (j1Na : (Nat → Int32)) (j1Mo : (Nat → Int32)) (j1Wa : (Nat → Int32)) (j1De : (Nat → Int32)) (k0Dy : (Nat → Int32)) (k0Wo : (Nat → Int32)) (k0Ri : (Nat → Int32)) (k0Sz : Int32) (k1Dy : (Nat → Int32)) (k1Wo : (Nat → Int32)) (k1Ri : (Nat → Int32)) (k1Sz : Int32) (p1 : Int32) (r_ : Int32) (n_lPe : Int32) (n_lDa : Int32) (n_lDr : Int32) (n_lNa : (Nat → Int32)) (n_lMo : (Nat → Int32)) (n_lWa : (Nat → Int32)) (n_lDe : (Nat → Int32)) (n_sDy : (Nat → Int32)) (n_sWo : (Nat → Int32)) (n_sRi : (Nat → Int32)) (n_sSz : Int32) (hf : f_X7_back lPe lDa lDr lNa lMo lWa lDe sDy sWo sRi sSz i0Ke i1Ke j0Pe j0Da j0Dr j0Na j0Mo j0Wa j0De j1Pe j1Da j1Dr j1Na j1Mo j1Wa j1De k0Dy k0Wo k0Ri k0Sz k1Dy k1Wo k1Ri k1Sz p1 = some (r_, n_lPe, n_lDa, n_lDr, n_lNa, n_lMo, n_lWa, n_lDe, n_sDy, n_sWo, n_sRi, n_sSz)) : mR l yX7_back wsX7_back rmX7_back D k sz [.ref xh, .int p1] (wX7 k xh xaL xaT xaO xaF xaS xaI xaH xaR xaU xTf xTb ++ (wX1 k xaL lrNa lrMo lrWa lrDe lPe lDa lDr lNa lMo lWa lDe ++ (wX5 k xaS srDy srWo srRi sDy sWo sRi sSz ++ (wIA k xaI i0 i1 ++ (wX0 k i0 i0aL i0aS i0Ke ++ (wX0 k i1 i1aL i1aS i1Ke ++ (wX1 k i0aL j0rNa j0rMo j0rWa j0rDe j0Pe j0Da j0Dr j0Na j0Mo j0Wa j0De ++ (wX1 k i1aL j1rNa j1rMo j1rWa j1rDe j1Pe j1Da j1Dr j1Na j1Mo j1Wa j1De ++ (wX5 k i0aS k0rDy k0rWo k0rRi k0Dy k0Wo k0Ri k0Sz ++ (wX5 k i1aS k1rDy k1rWo k1rRi k1Dy k1Wo k1Ri k1Sz)))))))))) (wX7 k xh xaL xaT xaO xaF xaS xaI xaH xaR xaU xTf xTb ++ (wX1 k xaL lrNa lrMo lrWa lrDe n_lPe n_lDa n_lDr n_lNa n_lMo n_lWa n_lDe ++ (wX5 k xaS srDy srWo srRi n_sDy n_sWo n_sRi n_sSz ++ (wIA k xaI i0 i1 ++ (wX0 k i0 i0aL i0aS i0Ke ++ (wX0 k i1 i1aL i1aS i1Ke ++ (wX1 k i0aL j0rNa j0rMo j0rWa j0rDe j0Pe j0Da j0Dr j0Na j0Mo j0Wa j0De ++ (wX1 k i1aL j1rNa j1rMo j1rWa j1rDe j1Pe j1Da j1Dr j1Na j1Mo j1Wa j1De ++ (wX5 k i0aS k0rDy k0rWo k0rRi k0Dy k0Wo k0Ri k0Sz ++ (wX5 k i1aS k1rDy k1rWo k1rRi k1Dy k1Wo k1Ri k1Sz)))))))))) (some (.int r_)) := by
  refine mR_of (cc := cX7_back) (maxL := 3) (ret := some .int) (by decide) rfl (Nat.le_of_ble_eq_true rfl) [(0, .ref xh), (1, .int p1)] rfl ?_
  intro p e s m below meth c A ls args Q cx hK hA hw hl hQ
  have fx := cx.1
  obtain ⟨⟨hx, hb, hml, hown, hts⟩, hr, hlocks⟩ := cx
  have hinX7 : ∀ w ∈ wsX70, w ∈ wsX7_back := fun w h => List.mem_cons_of_mem _ (List.mem_append_left _ (List.mem_append_left _ (List.mem_append_left _ (List.mem_append_right _ h))))
  have hinX0 : ∀ w ∈ wsX00, w ∈ wsX7_back := fun w h => List.mem_cons_of_mem _ (List.mem_append_left _ (List.mem_append_left _ (List.mem_append_right _ h)))
  have hinX1 : ∀ w ∈ wsX10, w ∈ wsX7_back := fun w h => List.mem_cons_of_mem _ (List.mem_append_left _ (List.mem_append_right _ h))
  have q_1 := hts (.fieldLink RX7 42 "DebtRides" "images" "[LDebtRides$Image;") (List.mem_of_getElem? (i := 1) rfl)
  have q_2 := hts (.fieldLink RX7 99 "DebtRides$Image" "kept" "Z") (List.mem_of_getElem? (i := 2) rfl)
  have q_3 := hts (.fieldLink RX7 10 "DebtRides" "land" "LDebtRides$Land;") (List.mem_of_getElem? (i := 3) rfl)
  have q_4 := hts (.fieldLink RX7 251 "DebtRides$Image" "keptLand" "LDebtRides$Land;") (List.mem_of_getElem? (i := 4) rfl)
  have q_5 := hts (.fieldLink RX7 36 "DebtRides" "seen" "LDebtRides$Seen;") (List.mem_of_getElem? (i := 5) rfl)
  have q_6 := hts (.fieldLink RX7 254 "DebtRides$Image" "keptSeen" "LDebtRides$Seen;") (List.mem_of_getElem? (i := 6) rfl)
  have q_7 := hts (.fieldLink RX7 109 "DebtRides$Land" "dayNumber" "I") (List.mem_of_getElem? (i := 7) rfl)
  have h := hf
  unfold f_X7_back at h
  clear hf
  refine lv_iload_n hx hb dX7_back_0 rfl (lv_at hl 1 rfl) ?_
  refine lv_iconst (v := 0) hx hb dX7_back_1 (by decide) ?_
  refine lv_iconst (v := 1) hx hb dX7_back_2 (by decide) ?_
  obtain ⟨r_1, hf, h⟩ := b1_inv h
  refine k_callS (b := 0) (C := "") (host := "") fx hK hA hw (c_X7_within l D k _ p1 0 1 r_1 hf) (va_cwS 3 hts gX7_back_X7_within rfl rfl rfl (by decide +kernel) ⟨by decide, by decide⟩) (As := [.int p1, .int 0, .int 1]) (wr := [(xh, .inr (7, [.ref xaL, .ref xaT, .ref xaO, .ref xaF, .ref xaS, .ref xaI, .ref xaH, .ref xaR, .ref xaU, .int xTf, .int xTb])), (xaL, .inr (1, [.int lPe, .int lDa, .int lDr, .ref lrNa, .ref lrMo, .ref lrWa, .ref lrDe])), (lrNa, .inl (k 0, 5, .inl lNa)), (lrMo, .inl (k 0, 5, .inl lMo)), (lrWa, .inl (k 0, 5, .inl lWa)), (lrDe, .inl (k 0, 25, .inl lDe)), (xaS, .inr (5, [.ref srDy, .ref srWo, .ref srRi, .int sSz])), (srDy, .inl (k 0, 6, .inl sDy)), (srWo, .inl (k 0, 6, .inl sWo)), (srRi, .inl (k 0, 6, .inl sRi)), (xaI, .inl (k 2, 2, .inr (.inr (.inr (.inr (rl [i0, i1])))))), (i0, .inr (0, [.int i0Ke, .ref i0aL, .ref i0aS])), (i1, .inr (0, [.int i1Ke, .ref i1aL, .ref i1aS])), (i0aL, .inr (1, [.int j0Pe, .int j0Da, .int j0Dr, .ref j0rNa, .ref j0rMo, .ref j0rWa, .ref j0rDe])), (j0rNa, .inl (k 0, 5, .inl j0Na)), (j0rMo, .inl (k 0, 5, .inl j0Mo)), (j0rWa, .inl (k 0, 5, .inl j0Wa)), (j0rDe, .inl (k 0, 25, .inl j0De)), (i1aL, .inr (1, [.int j1Pe, .int j1Da, .int j1Dr, .ref j1rNa, .ref j1rMo, .ref j1rWa, .ref j1rDe])), (j1rNa, .inl (k 0, 5, .inl j1Na)), (j1rMo, .inl (k 0, 5, .inl j1Mo)), (j1rWa, .inl (k 0, 5, .inl j1Wa)), (j1rDe, .inl (k 0, 25, .inl j1De)), (i0aS, .inr (5, [.ref k0rDy, .ref k0rWo, .ref k0rRi, .int k0Sz])), (k0rDy, .inl (k 0, 6, .inl k0Dy)), (k0rWo, .inl (k 0, 6, .inl k0Wo)), (k0rRi, .inl (k 0, 6, .inl k0Ri)), (i1aS, .inr (5, [.ref k1rDy, .ref k1rWo, .ref k1rRi, .int k1Sz])), (k1rDy, .inl (k 0, 6, .inl k1Dy)), (k1rWo, .inl (k 0, 6, .inl k1Wo)), (k1rRi, .inl (k 0, 6, .inl k1Ri))]) (ws' := wX7 k xh xaL xaT xaO xaF xaS xaI xaH xaR xaU xTf xTb ++ (wX1 k xaL lrNa lrMo lrWa lrDe lPe lDa lDr lNa lMo lWa lDe ++ (wX5 k xaS srDy srWo srRi sDy sWo sRi sSz ++ (wIA k xaI i0 i1 ++ (wX0 k i0 i0aL i0aS i0Ke ++ (wX0 k i1 i1aL i1aS i1Ke ++ (wX1 k i0aL j0rNa j0rMo j0rWa j0rDe j0Pe j0Da j0Dr j0Na j0Mo j0Wa j0De ++ (wX1 k i1aL j1rNa j1rMo j1rWa j1rDe j1Pe j1Da j1Dr j1Na j1Mo j1Wa j1De ++ (wX5 k i0aS k0rDy k0rWo k0rRi k0Dy k0Wo k0Ri k0Sz ++ (wX5 k i1aS k1rDy k1rWo k1rRi k1Dy k1Wo k1Ri k1Sz)))))))))) [] [0, 1, 2, 3, 4, 5, 6, 7, 8, 9, 10, 11, 12, 13, 14, 15, 16, 17, 18, 19, 20, 21, 22, 23, 24, 25, 26, 27, 28, 29, 30] [0, 1, 2, 3, 4, 5, 6, 7, 8, 9, 10, 11, 12, 13, 14, 15, 16, 17, 18, 19, 20, 21, 22, 23, 24, 25, 26, 27, 28, 29, 30] rfl rfl (by decide) (by decide) (by decide) rfl (by decide) [] rfl hl.1 rfl (Nat.le_of_ble_eq_true rfl) dX7_back_3 ⟨by decide, by decide⟩ (fun H locs (hw : Wd D A s.heap H locs (wX7 k xh xaL xaT xaO xaF xaS xaI xaH xaR xaU xTf xTb ++ (wX1 k xaL lrNa lrMo lrWa lrDe lPe lDa lDr lNa lMo lWa lDe ++ (wX5 k xaS srDy srWo srRi sDy sWo sRi sSz ++ (wIA k xaI i0 i1 ++ (wX0 k i0 i0aL i0aS i0Ke ++ (wX0 k i1 i1aL i1aS i1Ke ++ (wX1 k i0aL j0rNa j0rMo j0rWa j0rDe j0Pe j0Da j0Dr j0Na j0Mo j0Wa j0De ++ (wX1 k i1aL j1rNa j1rMo j1rWa j1rDe j1Pe j1Da j1Dr j1Na j1Mo j1Wa j1De ++ (wX5 k i0aS k0rDy k0rWo k0rRi k0Dy k0Wo k0Ri k0Sz ++ (wX5 k i1aS k1rDy k1rWo k1rRi k1Dy k1Wo k1Ri k1Sz))))))))))) => ?_)
  refine W.eq (g2 := F0 m 6 ls ([.int r_1])) rfl ?_
  refine kb_if_ne (tgt := 11) hx hb dX7_back_6 (by decide) h (fun c_6 h => ?_) (fun c_6 h => ?_)
  · refine lv_iconst (v := (-1)) hx hb dX7_back_9 (by decide) ?_
    cases h
    exact k_iret hx hb hr hlocks hw rfl dX7_back_10 hQ
  · refine lv_aload_n hx hb dX7_back_11 rfl (lv_at hl 0 rfl) ?_
    refine va_get (ci := 7) (v := .ref xaI) (C := RX7) (T := TX7) (N := 11) hx hb hts hinX7 hown hK.1 hw.1 0 rfl rfl 5 (by decide) q_1 (fun _ h9 => h9) rfl dX7_back_12 ?_
    refine lv_iload_n hx hb dX7_back_15 rfl (lv_at hl 1 rfl) ?_
    by_cases c_16 : p1 = 0
    · rw [if_pos c_16] at h
      refine k_aald hx hb hK hw 10 2 (j := 0) (a' := i0) rfl rfl c_16 (by unfold vp_in; decide) rfl dX7_back_16 ?_
      refine lv_astore_n (lv' := [(2, .ref i0), (0, .ref xh), (1, .int p1)]) hx hb dX7_back_17 rfl hl (by decide) rfl (fun ls hl => ?_)
      refine lv_aload_n hx hb dX7_back_18 rfl (lv_at hl 0 rfl) ?_
      refine va_get (ci := 0) (v := .int i0Ke) (C := RX0) (T := TX0) (N := 3) hx hb hts hinX0 hown hK.1 hw.1 11 rfl rfl 0 (by decide) q_2 (fun _ h9 => h9) rfl dX7_back_19 ?_
      refine kb_if_ne (tgt := 28) hx hb dX7_back_22 (by decide) h (fun c_22 h => ?_) (fun c_22 h => ?_)
      · refine lv_bipush (v := (-2)) hx hb dX7_back_25 (by decide) ?_
        cases h
        exact k_iret hx hb hr hlocks hw rfl dX7_back_27 hQ
      · refine lv_aload_n hx hb dX7_back_28 rfl (lv_at hl 1 rfl) ?_
        refine va_get (ci := 7) (v := .ref xaL) (C := RX7) (T := TX7) (N := 11) hx hb hts hinX7 hown hK.1 hw.1 0 rfl rfl 0 (by decide) q_3 (fun _ h9 => h9) rfl dX7_back_29 ?_
        refine lv_aload_n hx hb dX7_back_32 rfl (lv_at hl 0 rfl) ?_
        refine va_get (ci := 0) (v := .ref i0aL) (C := RX0) (T := TX0) (N := 3) hx hb hts hinX0 hown hK.1 hw.1 11 rfl rfl 1 (by decide) q_4 (fun _ h9 => h9) rfl dX7_back_33 ?_
        obtain ⟨lPe_2, lDa_3, lDr_4, lNa_5, lMo_6, lWa_7, lDe_8, hf, h⟩ := b7_inv h
        refine k_callV (host := "") fx hK hA hw (c_X1_become l D k xaL lrNa lrMo lrWa lrDe i0aL j0rNa j0rMo j0rWa j0rDe _ lPe lDa lDr lNa lMo lWa lDe j0Pe j0Da j0Dr j0Na j0Mo j0Wa j0De lPe_2 lDa_3 lDr_4 lNa_5 lMo_6 lWa_7 lDe_8 hf) (cwV 1 hts gX7_back_X1_become rfl rfl rfl (by decide +kernel) ⟨by decide, by decide⟩) (As := [.ref i0aL]) (wr := [(xh, .inr (7, [.ref xaL, .ref xaT, .ref xaO, .ref xaF, .ref xaS, .ref xaI, .ref xaH, .ref xaR, .ref xaU, .int xTf, .int xTb])), (xaS, .inr (5, [.ref srDy, .ref srWo, .ref srRi, .int sSz])), (srDy, .inl (k 0, 6, .inl sDy)), (srWo, .inl (k 0, 6, .inl sWo)), (srRi, .inl (k 0, 6, .inl sRi)), (xaI, .inl (k 2, 2, .inr (.inr (.inr (.inr (rl [i0, i1])))))), (i0, .inr (0, [.int i0Ke, .ref i0aL, .ref i0aS])), (i1, .inr (0, [.int i1Ke, .ref i1aL, .ref i1aS])), (i1aL, .inr (1, [.int j1Pe, .int j1Da, .int j1Dr, .ref j1rNa, .ref j1rMo, .ref j1rWa, .ref j1rDe])), (j1rNa, .inl (k 0, 5, .inl j1Na)), (j1rMo, .inl (k 0, 5, .inl j1Mo)), (j1rWa, .inl (k 0, 5, .inl j1Wa)), (j1rDe, .inl (k 0, 25, .inl j1De)), (i0aS, .inr (5, [.ref k0rDy, .ref k0rWo, .ref k0rRi, .int k0Sz])), (k0rDy, .inl (k 0, 6, .inl k0Dy)), (k0rWo, .inl (k 0, 6, .inl k0Wo)), (k0rRi, .inl (k 0, 6, .inl k0Ri)), (i1aS, .inr (5, [.ref k1rDy, .ref k1rWo, .ref k1rRi, .int k1Sz])), (k1rDy, .inl (k 0, 6, .inl k1Dy)), (k1rWo, .inl (k 0, 6, .inl k1Wo)), (k1rRi, .inl (k 0, 6, .inl k1Ri))]) (ws' := wX7 k xh xaL xaT xaO xaF xaS xaI xaH xaR xaU xTf xTb ++ (wX1 k xaL lrNa lrMo lrWa lrDe lPe_2 lDa_3 lDr_4 lNa_5 lMo_6 lWa_7 lDe_8 ++ (wX5 k xaS srDy srWo srRi sDy sWo sRi sSz ++ (wIA k xaI i0 i1 ++ (wX0 k i0 i0aL i0aS i0Ke ++ (wX0 k i1 i1aL i1aS i1Ke ++ (wX1 k i0aL j0rNa j0rMo j0rWa j0rDe j0Pe j0Da j0Dr j0Na j0Mo j0Wa j0De ++ (wX1 k i1aL j1rNa j1rMo j1rWa j1rDe j1Pe j1Da j1Dr j1Na j1Mo j1Wa j1De ++ (wX5 k i0aS k0rDy k0rWo k0rRi k0Dy k0Wo k0Ri k0Sz ++ (wX5 k i1aS k1rDy k1rWo k1rRi k1Dy k1Wo k1Ri k1Sz)))))))))) [1, 2, 3, 4, 5, 13, 14, 15, 16, 17] [0, 6, 7, 8, 9, 10, 11, 12, 18, 19, 20, 21, 22, 23, 24, 25, 26, 27, 28, 29, 30] [0, 21, 22, 23, 24, 25, 1, 2, 3, 4, 5, 6, 7, 26, 27, 28, 29, 30, 8, 9, 10, 11, 12, 13, 14, 15, 16, 17, 18, 19, 20] rfl rfl (by decide) (by decide) (by decide) rfl (by decide) 1 rfl rfl [] rfl hl.1 rfl (Nat.le_of_ble_eq_true rfl) dX7_back_36 ⟨by decide, by decide⟩ (fun H locs (hw : Wd D A s.heap H locs (wX7 k xh xaL xaT xaO xaF xaS xaI xaH xaR xaU xTf xTb ++ (wX1 k xaL lrNa lrMo lrWa lrDe lPe_2 lDa_3 lDr_4 lNa_5 lMo_6 lWa_7 lDe_8 ++ (wX5 k xaS srDy srWo srRi sDy sWo sRi sSz ++ (wIA k xaI i0 i1 ++ (wX0 k i0 i0aL i0aS i0Ke ++ (wX0 k i1 i1aL i1aS i1Ke ++ (wX1 k i0aL j0rNa j0rMo j0rWa j0rDe j0Pe j0Da j0Dr j0Na j0Mo j0Wa j0De ++ (wX1 k i1aL j1rNa j1rMo j1rWa j1rDe j1Pe j1Da j1Dr j1Na j1Mo j1Wa j1De ++ (wX5 k i0aS k0rDy k0rWo k0rRi k0Dy k0Wo k0Ri k0Sz ++ (wX5 k i1aS k1rDy k1rWo k1rRi k1Dy k1Wo k1Ri k1Sz))))))))))) => ?_)
        refine W.eq (g2 := F0 m 39 ls ([])) rfl ?_
        refine lv_aload_n hx hb dX7_back_39 rfl (lv_at hl 1 rfl) ?_
        refine va_get (ci := 7) (v := .ref xaS) (C := RX7) (T := TX7) (N := 11) hx hb hts hinX7 hown hK.1 hw.1 0 rfl rfl 4 (by decide) q_5 (fun _ h9 => h9) rfl dX7_back_40 ?_
        refine lv_aload_n hx hb dX7_back_43 rfl (lv_at hl 0 rfl) ?_
        refine va_get (ci := 0) (v := .ref i0aS) (C := RX0) (T := TX0) (N := 3) hx hb hts hinX0 hown hK.1 hw.1 11 rfl rfl 2 (by decide) q_6 (fun _ h9 => h9) rfl dX7_back_44 ?_
        obtain ⟨sDy_9, sWo_10, sRi_11, sSz_12, hf, h⟩ := b4_inv h
        refine k_callV (host := "") fx hK hA hw (c_X5_become l D k xaS srDy srWo srRi i0aS k0rDy k0rWo k0rRi _ sDy sWo sRi sSz k0Dy k0Wo k0Ri k0Sz sDy_9 sWo_10 sRi_11 sSz_12 hf) (cwV 1 hts gX7_back_X5_become rfl rfl rfl (by decide +kernel) ⟨by decide, by decide⟩) (As := [.ref i0aS]) (wr := [(xh, .inr (7, [.ref xaL, .ref xaT, .ref xaO, .ref xaF, .ref xaS, .ref xaI, .ref xaH, .ref xaR, .ref xaU, .int xTf, .int xTb])), (xaL, .inr (1, [.int lPe_2, .int lDa_3, .int lDr_4, .ref lrNa, .ref lrMo, .ref lrWa, .ref lrDe])), (lrNa, .inl (k 0, 5, .inl lNa_5)), (lrMo, .inl (k 0, 5, .inl lMo_6)), (lrWa, .inl (k 0, 5, .inl lWa_7)), (lrDe, .inl (k 0, 25, .inl lDe_8)), (xaI, .inl (k 2, 2, .inr (.inr (.inr (.inr (rl [i0, i1])))))), (i0, .inr (0, [.int i0Ke, .ref i0aL, .ref i0aS])), (i1, .inr (0, [.int i1Ke, .ref i1aL, .ref i1aS])), (i0aL, .inr (1, [.int j0Pe, .int j0Da, .int j0Dr, .ref j0rNa, .ref j0rMo, .ref j0rWa, .ref j0rDe])), (j0rNa, .inl (k 0, 5, .inl j0Na)), (j0rMo, .inl (k 0, 5, .inl j0Mo)), (j0rWa, .inl (k 0, 5, .inl j0Wa)), (j0rDe, .inl (k 0, 25, .inl j0De)), (i1aL, .inr (1, [.int j1Pe, .int j1Da, .int j1Dr, .ref j1rNa, .ref j1rMo, .ref j1rWa, .ref j1rDe])), (j1rNa, .inl (k 0, 5, .inl j1Na)), (j1rMo, .inl (k 0, 5, .inl j1Mo)), (j1rWa, .inl (k 0, 5, .inl j1Wa)), (j1rDe, .inl (k 0, 25, .inl j1De)), (i1aS, .inr (5, [.ref k1rDy, .ref k1rWo, .ref k1rRi, .int k1Sz])), (k1rDy, .inl (k 0, 6, .inl k1Dy)), (k1rWo, .inl (k 0, 6, .inl k1Wo)), (k1rRi, .inl (k 0, 6, .inl k1Ri))]) (ws' := wX7 k xh xaL xaT xaO xaF xaS xaI xaH xaR xaU xTf xTb ++ (wX1 k xaL lrNa lrMo lrWa lrDe lPe_2 lDa_3 lDr_4 lNa_5 lMo_6 lWa_7 lDe_8 ++ (wX5 k xaS srDy srWo srRi sDy_9 sWo_10 sRi_11 sSz_12 ++ (wIA k xaI i0 i1 ++ (wX0 k i0 i0aL i0aS i0Ke ++ (wX0 k i1 i1aL i1aS i1Ke ++ (wX1 k i0aL j0rNa j0rMo j0rWa j0rDe j0Pe j0Da j0Dr j0Na j0Mo j0Wa j0De ++ (wX1 k i1aL j1rNa j1rMo j1rWa j1rDe j1Pe j1Da j1Dr j1Na j1Mo j1Wa j1De ++ (wX5 k i0aS k0rDy k0rWo k0rRi k0Dy k0Wo k0Ri k0Sz ++ (wX5 k i1aS k1rDy k1rWo k1rRi k1Dy k1Wo k1Ri k1Sz)))))))))) [6, 7, 8, 9, 23, 24, 25, 26] [0, 1, 2, 3, 4, 5, 10, 11, 12, 13, 14, 15, 16, 17, 18, 19, 20, 21, 22, 27, 28, 29, 30] [0, 1, 2, 3, 4, 5, 23, 24, 25, 26, 6, 7, 8, 9, 10, 11, 12, 13, 14, 15, 16, 17, 18, 27, 28, 29, 30, 19, 20, 21, 22] rfl rfl (by decide) (by decide) (by decide) rfl (by decide) 5 rfl rfl [] rfl hl.1 rfl (Nat.le_of_ble_eq_true rfl) dX7_back_47 ⟨by decide, by decide⟩ (fun H locs (hw : Wd D A s.heap H locs (wX7 k xh xaL xaT xaO xaF xaS xaI xaH xaR xaU xTf xTb ++ (wX1 k xaL lrNa lrMo lrWa lrDe lPe_2 lDa_3 lDr_4 lNa_5 lMo_6 lWa_7 lDe_8 ++ (wX5 k xaS srDy srWo srRi sDy_9 sWo_10 sRi_11 sSz_12 ++ (wIA k xaI i0 i1 ++ (wX0 k i0 i0aL i0aS i0Ke ++ (wX0 k i1 i1aL i1aS i1Ke ++ (wX1 k i0aL j0rNa j0rMo j0rWa j0rDe j0Pe j0Da j0Dr j0Na j0Mo j0Wa j0De ++ (wX1 k i1aL j1rNa j1rMo j1rWa j1rDe j1Pe j1Da j1Dr j1Na j1Mo j1Wa j1De ++ (wX5 k i0aS k0rDy k0rWo k0rRi k0Dy k0Wo k0Ri k0Sz ++ (wX5 k i1aS k1rDy k1rWo k1rRi k1Dy k1Wo k1Ri k1Sz))))))))))) => ?_)
        refine W.eq (g2 := F0 m 50 ls ([])) rfl ?_
        refine lv_aload_n hx hb dX7_back_50 rfl (lv_at hl 1 rfl) ?_
        refine va_get (ci := 7) (v := .ref xaL) (C := RX7) (T := TX7) (N := 11) hx hb hts hinX7 hown hK.1 hw.1 0 rfl rfl 0 (by decide) q_3 (fun _ h9 => h9) rfl dX7_back_51 ?_
        refine va_get (ci := 1) (v := .int lDa_3) (C := RX1) (T := TX1) (N := 7) hx hb hts hinX1 hown hK.1 hw.1 1 rfl rfl 1 (by decide) q_7 (fun _ h9 => h9) rfl dX7_back_54 ?_
        cases h
        exact k_iret hx hb hr hlocks hw rfl dX7_back_57 hQ
    · rw [if_neg c_16] at h
      by_cases c_16 : p1 = 1
      · rw [if_pos c_16] at h
        refine k_aald hx hb hK hw 10 2 (j := 1) (a' := i1) rfl rfl c_16 (by unfold vp_in; decide) rfl dX7_back_16 ?_
        refine lv_astore_n (lv' := [(2, .ref i1), (0, .ref xh), (1, .int p1)]) hx hb dX7_back_17 rfl hl (by decide) rfl (fun ls hl => ?_)
        refine lv_aload_n hx hb dX7_back_18 rfl (lv_at hl 0 rfl) ?_
        refine va_get (ci := 0) (v := .int i1Ke) (C := RX0) (T := TX0) (N := 3) hx hb hts hinX0 hown hK.1 hw.1 12 rfl rfl 0 (by decide) q_2 (fun _ h9 => h9) rfl dX7_back_19 ?_
        refine kb_if_ne (tgt := 28) hx hb dX7_back_22 (by decide) h (fun c_22 h => ?_) (fun c_22 h => ?_)
        · refine lv_bipush (v := (-2)) hx hb dX7_back_25 (by decide) ?_
          cases h
          exact k_iret hx hb hr hlocks hw rfl dX7_back_27 hQ
        · refine lv_aload_n hx hb dX7_back_28 rfl (lv_at hl 1 rfl) ?_
          refine va_get (ci := 7) (v := .ref xaL) (C := RX7) (T := TX7) (N := 11) hx hb hts hinX7 hown hK.1 hw.1 0 rfl rfl 0 (by decide) q_3 (fun _ h9 => h9) rfl dX7_back_29 ?_
          refine lv_aload_n hx hb dX7_back_32 rfl (lv_at hl 0 rfl) ?_
          refine va_get (ci := 0) (v := .ref i1aL) (C := RX0) (T := TX0) (N := 3) hx hb hts hinX0 hown hK.1 hw.1 12 rfl rfl 1 (by decide) q_4 (fun _ h9 => h9) rfl dX7_back_33 ?_
          obtain ⟨lPe_13, lDa_14, lDr_15, lNa_16, lMo_17, lWa_18, lDe_19, hf, h⟩ := b7_inv h
          refine k_callV (host := "") fx hK hA hw (c_X1_become l D k xaL lrNa lrMo lrWa lrDe i1aL j1rNa j1rMo j1rWa j1rDe _ lPe lDa lDr lNa lMo lWa lDe j1Pe j1Da j1Dr j1Na j1Mo j1Wa j1De lPe_13 lDa_14 lDr_15 lNa_16 lMo_17 lWa_18 lDe_19 hf) (cwV 1 hts gX7_back_X1_become rfl rfl rfl (by decide +kernel) ⟨by decide, by decide⟩) (As := [.ref i1aL]) (wr := [(xh, .inr (7, [.ref xaL, .ref xaT, .ref xaO, .ref xaF, .ref xaS, .ref xaI, .ref xaH, .ref xaR, .ref xaU, .int xTf, .int xTb])), (xaS, .inr (5, [.ref srDy, .ref srWo, .ref srRi, .int sSz])), (srDy, .inl (k 0, 6, .inl sDy)), (srWo, .inl (k 0, 6, .inl sWo)), (srRi, .inl (k 0, 6, .inl sRi)), (xaI, .inl (k 2, 2, .inr (.inr (.inr (.inr (rl [i0, i1])))))), (i0, .inr (0, [.int i0Ke, .ref i0aL, .ref i0aS])), (i1, .inr (0, [.int i1Ke, .ref i1aL, .ref i1aS])), (i0aL, .inr (1, [.int j0Pe, .int j0Da, .int j0Dr, .ref j0rNa, .ref j0rMo, .ref j0rWa, .ref j0rDe])), (j0rNa, .inl (k 0, 5, .inl j0Na)), (j0rMo, .inl (k 0, 5, .inl j0Mo)), (j0rWa, .inl (k 0, 5, .inl j0Wa)), (j0rDe, .inl (k 0, 25, .inl j0De)), (i0aS, .inr (5, [.ref k0rDy, .ref k0rWo, .ref k0rRi, .int k0Sz])), (k0rDy, .inl (k 0, 6, .inl k0Dy)), (k0rWo, .inl (k 0, 6, .inl k0Wo)), (k0rRi, .inl (k 0, 6, .inl k0Ri)), (i1aS, .inr (5, [.ref k1rDy, .ref k1rWo, .ref k1rRi, .int k1Sz])), (k1rDy, .inl (k 0, 6, .inl k1Dy)), (k1rWo, .inl (k 0, 6, .inl k1Wo)), (k1rRi, .inl (k 0, 6, .inl k1Ri))]) (ws' := wX7 k xh xaL xaT xaO xaF xaS xaI xaH xaR xaU xTf xTb ++ (wX1 k xaL lrNa lrMo lrWa lrDe lPe_13 lDa_14 lDr_15 lNa_16 lMo_17 lWa_18 lDe_19 ++ (wX5 k xaS srDy srWo srRi sDy sWo sRi sSz ++ (wIA k xaI i0 i1 ++ (wX0 k i0 i0aL i0aS i0Ke ++ (wX0 k i1 i1aL i1aS i1Ke ++ (wX1 k i0aL j0rNa j0rMo j0rWa j0rDe j0Pe j0Da j0Dr j0Na j0Mo j0Wa j0De ++ (wX1 k i1aL j1rNa j1rMo j1rWa j1rDe j1Pe j1Da j1Dr j1Na j1Mo j1Wa j1De ++ (wX5 k i0aS k0rDy k0rWo k0rRi k0Dy k0Wo k0Ri k0Sz ++ (wX5 k i1aS k1rDy k1rWo k1rRi k1Dy k1Wo k1Ri k1Sz)))))))))) [1, 2, 3, 4, 5, 18, 19, 20, 21, 22] [0, 6, 7, 8, 9, 10, 11, 12, 13, 14, 15, 16, 17, 23, 24, 25, 26, 27, 28, 29, 30] [0, 21, 22, 23, 24, 25, 1, 2, 3, 4, 5, 6, 7, 8, 9, 10, 11, 12, 26, 27, 28, 29, 30, 13, 14, 15, 16, 17, 18, 19, 20] rfl rfl (by decide) (by decide) (by decide) rfl (by decide) 1 rfl rfl [] rfl hl.1 rfl (Nat.le_of_ble_eq_true rfl) dX7_back_36 ⟨by decide, by decide⟩ (fun H locs (hw : Wd D A s.heap H locs (wX7 k xh xaL xaT xaO xaF xaS xaI xaH xaR xaU xTf xTb ++ (wX1 k xaL lrNa lrMo lrWa lrDe lPe_13 lDa_14 lDr_15 lNa_16 lMo_17 lWa_18 lDe_19 ++ (wX5 k xaS srDy srWo srRi sDy sWo sRi sSz ++ (wIA k xaI i0 i1 ++ (wX0 k i0 i0aL i0aS i0Ke ++ (wX0 k i1 i1aL i1aS i1Ke ++ (wX1 k i0aL j0rNa j0rMo j0rWa j0rDe j0Pe j0Da j0Dr j0Na j0Mo j0Wa j0De ++ (wX1 k i1aL j1rNa j1rMo j1rWa j1rDe j1Pe j1Da j1Dr j1Na j1Mo j1Wa j1De ++ (wX5 k i0aS k0rDy k0rWo k0rRi k0Dy k0Wo k0Ri k0Sz ++ (wX5 k i1aS k1rDy k1rWo k1rRi k1Dy k1Wo k1Ri k1Sz))))))))))) => ?_)
          refine W.eq (g2 := F0 m 39 ls ([])) rfl ?_
          refine lv_aload_n hx hb dX7_back_39 rfl (lv_at hl 1 rfl) ?_
          refine va_get (ci := 7) (v := .ref xaS) (C := RX7) (T := TX7) (N := 11) hx hb hts hinX7 hown hK.1 hw.1 0 rfl rfl 4 (by decide) q_5 (fun _ h9 => h9) rfl dX7_back_40 ?_
          refine lv_aload_n hx hb dX7_back_43 rfl (lv_at hl 0 rfl) ?_
          refine va_get (ci := 0) (v := .ref i1aS) (C := RX0) (T := TX0) (N := 3) hx hb hts hinX0 hown hK.1 hw.1 12 rfl rfl 2 (by decide) q_6 (fun _ h9 => h9) rfl dX7_back_44 ?_
          obtain ⟨sDy_20, sWo_21, sRi_22, sSz_23, hf, h⟩ := b4_inv h
          refine k_callV (host := "") fx hK hA hw (c_X5_become l D k xaS srDy srWo srRi i1aS k1rDy k1rWo k1rRi _ sDy sWo sRi sSz k1Dy k1Wo k1Ri k1Sz sDy_20 sWo_21 sRi_22 sSz_23 hf) (cwV 1 hts gX7_back_X5_become rfl rfl rfl (by decide +kernel) ⟨by decide, by decide⟩) (As := [.ref i1aS]) (wr := [(xh, .inr (7, [.ref xaL, .ref xaT, .ref xaO, .ref xaF, .ref xaS, .ref xaI, .ref xaH, .ref xaR, .ref xaU, .int xTf, .int xTb])), (xaL, .inr (1, [.int lPe_13, .int lDa_14, .int lDr_15, .ref lrNa, .ref lrMo, .ref lrWa, .ref lrDe])), (lrNa, .inl (k 0, 5, .inl lNa_16)), (lrMo, .inl (k 0, 5, .inl lMo_17)), (lrWa, .inl (k 0, 5, .inl lWa_18)), (lrDe, .inl (k 0, 25, .inl lDe_19)), (xaI, .inl (k 2, 2, .inr (.inr (.inr (.inr (rl [i0, i1])))))), (i0, .inr (0, [.int i0Ke, .ref i0aL, .ref i0aS])), (i1, .inr (0, [.int i1Ke, .ref i1aL, .ref i1aS])), (i0aL, .inr (1, [.int j0Pe, .int j0Da, .int j0Dr, .ref j0rNa, .ref j0rMo, .ref j0rWa, .ref j0rDe])), (j0rNa, .inl (k 0, 5, .inl j0Na)), (j0rMo, .inl (k 0, 5, .inl j0Mo)), (j0rWa, .inl (k 0, 5, .inl j0Wa)), (j0rDe, .inl (k 0, 25, .inl j0De)), (i1aL, .inr (1, [.int j1Pe, .int j1Da, .int j1Dr, .ref j1rNa, .ref j1rMo, .ref j1rWa, .ref j1rDe])), (j1rNa, .inl (k 0, 5, .inl j1Na)), (j1rMo, .inl (k 0, 5, .inl j1Mo)), (j1rWa, .inl (k 0, 5, .inl j1Wa)), (j1rDe, .inl (k 0, 25, .inl j1De)), (i0aS, .inr (5, [.ref k0rDy, .ref k0rWo, .ref k0rRi, .int k0Sz])), (k0rDy, .inl (k 0, 6, .inl k0Dy)), (k0rWo, .inl (k 0, 6, .inl k0Wo)), (k0rRi, .inl (k 0, 6, .inl k0Ri))]) (ws' := wX7 k xh xaL xaT xaO xaF xaS xaI xaH xaR xaU xTf xTb ++ (wX1 k xaL lrNa lrMo lrWa lrDe lPe_13 lDa_14 lDr_15 lNa_16 lMo_17 lWa_18 lDe_19 ++ (wX5 k xaS srDy srWo srRi sDy_20 sWo_21 sRi_22 sSz_23 ++ (wIA k xaI i0 i1 ++ (wX0 k i0 i0aL i0aS i0Ke ++ (wX0 k i1 i1aL i1aS i1Ke ++ (wX1 k i0aL j0rNa j0rMo j0rWa j0rDe j0Pe j0Da j0Dr j0Na j0Mo j0Wa j0De ++ (wX1 k i1aL j1rNa j1rMo j1rWa j1rDe j1Pe j1Da j1Dr j1Na j1Mo j1Wa j1De ++ (wX5 k i0aS k0rDy k0rWo k0rRi k0Dy k0Wo k0Ri k0Sz ++ (wX5 k i1aS k1rDy k1rWo k1rRi k1Dy k1Wo k1Ri k1Sz)))))))))) [6, 7, 8, 9, 27, 28, 29, 30] [0, 1, 2, 3, 4, 5, 10, 11, 12, 13, 14, 15, 16, 17, 18, 19, 20, 21, 22, 23, 24, 25, 26] [0, 1, 2, 3, 4, 5, 23, 24, 25, 26, 6, 7, 8, 9, 10, 11, 12, 13, 14, 15, 16, 17, 18, 19, 20, 21, 22, 27, 28, 29, 30] rfl rfl (by decide) (by decide) (by decide) rfl (by decide) 5 rfl rfl [] rfl hl.1 rfl (Nat.le_of_ble_eq_true rfl) dX7_back_47 ⟨by decide, by decide⟩ (fun H locs (hw : Wd D A s.heap H locs (wX7 k xh xaL xaT xaO xaF xaS xaI xaH xaR xaU xTf xTb ++ (wX1 k xaL lrNa lrMo lrWa lrDe lPe_13 lDa_14 lDr_15 lNa_16 lMo_17 lWa_18 lDe_19 ++ (wX5 k xaS srDy srWo srRi sDy_20 sWo_21 sRi_22 sSz_23 ++ (wIA k xaI i0 i1 ++ (wX0 k i0 i0aL i0aS i0Ke ++ (wX0 k i1 i1aL i1aS i1Ke ++ (wX1 k i0aL j0rNa j0rMo j0rWa j0rDe j0Pe j0Da j0Dr j0Na j0Mo j0Wa j0De ++ (wX1 k i1aL j1rNa j1rMo j1rWa j1rDe j1Pe j1Da j1Dr j1Na j1Mo j1Wa j1De ++ (wX5 k i0aS k0rDy k0rWo k0rRi k0Dy k0Wo k0Ri k0Sz ++ (wX5 k i1aS k1rDy k1rWo k1rRi k1Dy k1Wo k1Ri k1Sz))))))))))) => ?_)
          refine W.eq (g2 := F0 m 50 ls ([])) rfl ?_
          refine lv_aload_n hx hb dX7_back_50 rfl (lv_at hl 1 rfl) ?_
          refine va_get (ci := 7) (v := .ref xaL) (C := RX7) (T := TX7) (N := 11) hx hb hts hinX7 hown hK.1 hw.1 0 rfl rfl 0 (by decide) q_3 (fun _ h9 => h9) rfl dX7_back_51 ?_
          refine va_get (ci := 1) (v := .int lDa_14) (C := RX1) (T := TX1) (N := 7) hx hb hts hinX1 hown hK.1 hw.1 1 rfl rfl 1 (by decide) q_7 (fun _ h9 => h9) rfl dX7_back_54 ?_
          cases h
          exact k_iret hx hb hr hlocks hw rfl dX7_back_57 hQ
      · rw [if_neg c_16] at h
        cases h
abbrev rmX7_bond : Room := { frames := 2, cells := 0, slots := 0, locals := 43 }
set_option maxHeartbeats 4000000 in
set_option maxRecDepth 100000 in
theorem c_X7_bond (l : Launch) (D : va_G) (k : Nat → ClassId) (xh xaL xaT xaO xaF xaS xaI xaH xaR xaU lrNa lrMo lrWa lrDe : Nat) (sz : Nat) (xTf : Int32) (xTb : Int32) (lPe : Int32) (lDa : Int32) (lDr : Int32) (lNa : (Nat → Int32)) (lMo : (Nat → Int32)) (lWa : (Nat → Int32)) (lDe : (Nat → Int32)) (p1 : Int32) (p2 : Int32) (p3 : Int32) (r_ : Int32) (n_lDe : (Nat → Int32)) (hf : f_X7_bond lPe lDe p1 p2 p3 = some (r_, n_lDe)) : mR l yX7_bond wsX7_bond rmX7_bond D k sz [.ref xh, .int p1, .int p2, .int p3] (wX7 k xh xaL xaT xaO xaF xaS xaI xaH xaR xaU xTf xTb ++ (wX1 k xaL lrNa lrMo lrWa lrDe lPe lDa lDr lNa lMo lWa lDe)) (wX7 k xh xaL xaT xaO xaF xaS xaI xaH xaR xaU xTf xTb ++ (wX1 k xaL lrNa lrMo lrWa lrDe lPe lDa lDr lNa lMo lWa n_lDe)) (some (.int r_)) := by
  refine mR_of (cc := cX7_bond) (maxL := 5) (ret := some .int) (by decide) rfl (Nat.le_of_ble_eq_true rfl) [(0, .ref xh), (1, .int p1), (2, .int p2), (3, .int p3)] rfl ?_
  intro p e s m below meth c A ls args Q cx hK hA hw hl hQ
  have fx := cx.1
  obtain ⟨⟨hx, hb, hml, hown, hts⟩, hr, hlocks⟩ := cx
  have hinX7 : ∀ w ∈ wsX70, w ∈ wsX7_bond := fun w h => List.mem_cons_of_mem _ (List.mem_append_left _ (List.mem_append_right _ h))
  have q_1 := hts (.fieldLink RX7 10 "DebtRides" "land" "LDebtRides$Land;") (List.mem_of_getElem? (i := 1) rfl)
  have h := hf
  unfold f_X7_bond at h
  clear hf
  refine lv_aload_n hx hb dX7_bond_0 rfl (lv_at hl 0 rfl) ?_
  refine va_get (ci := 7) (v := .ref xaL) (C := RX7) (T := TX7) (N := 11) hx hb hts hinX7 hown hK.1 hw.1 0 rfl rfl 0 (by decide) q_1 (fun _ h9 => h9) rfl dX7_bond_1 ?_
  refine lv_iload_n hx hb dX7_bond_4 rfl (lv_at hl 1 rfl) ?_
  refine lv_iload_n hx hb dX7_bond_5 rfl (lv_at hl 2 rfl) ?_
  obtain ⟨r_1, hf, h⟩ := b1_inv h
  refine k_callV (host := "") fx hK hA hw (c_X1_hasPair l D k xaL lrNa lrMo lrWa lrDe _ lPe lDa lDr lNa lMo lWa lDe p1 p2 r_1 hf) (cwV 2 hts gX7_bond_X1_hasPair rfl rfl rfl (by decide +kernel) ⟨by decide, by decide⟩) (As := [.int p1, .int p2]) (wr := [(xh, .inr (7, [.ref xaL, .ref xaT, .ref xaO, .ref xaF, .ref xaS, .ref xaI, .ref xaH, .ref xaR, .ref xaU, .int xTf, .int xTb]))]) (ws' := wX7 k xh xaL xaT xaO xaF xaS xaI xaH xaR xaU xTf xTb ++ (wX1 k xaL lrNa lrMo lrWa lrDe lPe lDa lDr lNa lMo lWa lDe)) [1, 2, 3, 4, 5] [0] [0, 1, 2, 3, 4, 5] rfl rfl (by decide) (by decide) (by decide) rfl (by decide) 1 rfl rfl [] rfl hl.1 rfl (Nat.le_of_ble_eq_true rfl) dX7_bond_6 ⟨by decide, by decide⟩ (fun H locs (hw : Wd D A s.heap H locs (wX7 k xh xaL xaT xaO xaF xaS xaI xaH xaR xaU xTf xTb ++ (wX1 k xaL lrNa lrMo lrWa lrDe lPe lDa lDr lNa lMo lWa lDe))) => ?_)
  refine W.eq (g2 := F0 m 9 ls ([.int r_1])) rfl ?_
  refine kb_if_eq (tgt := 22) hx hb dX7_bond_9 (by decide) h (fun c_9 h => ?_) (fun c_9 h => ?_)
  · refine lv_iconst (v := (-1)) hx hb dX7_bond_22 (by decide) ?_
    cases h
    exact k_iret hx hb hr hlocks hw rfl dX7_bond_23 hQ
  · refine lv_iload_n hx hb dX7_bond_12 rfl (lv_at hl 3 rfl) ?_
    refine lv_iconst (v := 0) hx hb dX7_bond_13 (by decide) ?_
    refine lv_bipush (v := 99) hx hb dX7_bond_14 (by decide) ?_
    obtain ⟨r_2, hf, h⟩ := b1_inv h
    refine k_callS (b := 0) (C := "") (host := "") fx hK hA hw (c_X7_within l D k _ p3 0 99 r_2 hf) (va_cwS 3 hts gX7_bond_X7_within rfl rfl rfl (by decide +kernel) ⟨by decide, by decide⟩) (As := [.int p3, .int 0, .int 99]) (wr := [(xh, .inr (7, [.ref xaL, .ref xaT, .ref xaO, .ref xaF, .ref xaS, .ref xaI, .ref xaH, .ref xaR, .ref xaU, .int xTf, .int xTb])), (xaL, .inr (1, [.int lPe, .int lDa, .int lDr, .ref lrNa, .ref lrMo, .ref lrWa, .ref lrDe])), (lrNa, .inl (k 0, 5, .inl lNa)), (lrMo, .inl (k 0, 5, .inl lMo)), (lrWa, .inl (k 0, 5, .inl lWa)), (lrDe, .inl (k 0, 25, .inl lDe))]) (ws' := wX7 k xh xaL xaT xaO xaF xaS xaI xaH xaR xaU xTf xTb ++ (wX1 k xaL lrNa lrMo lrWa lrDe lPe lDa lDr lNa lMo lWa lDe)) [] [0, 1, 2, 3, 4, 5] [0, 1, 2, 3, 4, 5] rfl rfl (by decide) (by decide) (by decide) rfl (by decide) [] rfl hl.1 rfl (Nat.le_of_ble_eq_true rfl) dX7_bond_16 ⟨by decide, by decide⟩ (fun H locs (hw : Wd D A s.heap H locs (wX7 k xh xaL xaT xaO xaF xaS xaI xaH xaR xaU xTf xTb ++ (wX1 k xaL lrNa lrMo lrWa lrDe lPe lDa lDr lNa lMo lWa lDe))) => ?_)
    refine W.eq (g2 := F0 m 19 ls ([.int r_2])) rfl ?_
    refine kb_if_ne (tgt := 24) hx hb dX7_bond_19 (by decide) h (fun c_19 h => ?_) (fun c_19 h => ?_)
    · refine lv_iconst (v := (-1)) hx hb dX7_bond_22 (by decide) ?_
      cases h
      exact k_iret hx hb hr hlocks hw rfl dX7_bond_23 hQ
    · refine lv_aload_n hx hb dX7_bond_24 rfl (lv_at hl 0 rfl) ?_
      refine va_get (ci := 7) (v := .ref xaL) (C := RX7) (T := TX7) (N := 11) hx hb hts hinX7 hown hK.1 hw.1 0 rfl rfl 0 (by decide) q_1 (fun _ h9 => h9) rfl dX7_bond_25 ?_
      refine lv_iload_n hx hb dX7_bond_28 rfl (lv_at hl 1 rfl) ?_
      refine lv_iload_n hx hb dX7_bond_29 rfl (lv_at hl 2 rfl) ?_
      obtain ⟨r_3, hf, h⟩ := b1_inv h
      refine k_callV (host := "") fx hK hA hw (c_X1_debt l D k xaL lrNa lrMo lrWa lrDe _ lPe lDa lDr lNa lMo lWa lDe p1 p2 r_3 hf) (cwV 2 hts gX7_bond_X1_debt rfl rfl rfl (by decide +kernel) ⟨by decide, by decide⟩) (As := [.int p1, .int p2]) (wr := [(xh, .inr (7, [.ref xaL, .ref xaT, .ref xaO, .ref xaF, .ref xaS, .ref xaI, .ref xaH, .ref xaR, .ref xaU, .int xTf, .int xTb]))]) (ws' := wX7 k xh xaL xaT xaO xaF xaS xaI xaH xaR xaU xTf xTb ++ (wX1 k xaL lrNa lrMo lrWa lrDe lPe lDa lDr lNa lMo lWa lDe)) [1, 2, 3, 4, 5] [0] [0, 1, 2, 3, 4, 5] rfl rfl (by decide) (by decide) (by decide) rfl (by decide) 1 rfl rfl [] rfl hl.1 rfl (Nat.le_of_ble_eq_true rfl) dX7_bond_30 ⟨by decide, by decide⟩ (fun H locs (hw : Wd D A s.heap H locs (wX7 k xh xaL xaT xaO xaF xaS xaI xaH xaR xaU xTf xTb ++ (wX1 k xaL lrNa lrMo lrWa lrDe lPe lDa lDr lNa lMo lWa lDe))) => ?_)
      refine W.eq (g2 := F0 m 33 ls ([.int r_3])) rfl ?_
      refine lv_istore (lv' := [(4, .int r_3), (0, .ref xh), (1, .int p1), (2, .int p2), (3, .int p3)]) hx hb dX7_bond_33 hl (by decide) rfl (fun ls hl => ?_)
      refine lv_aload_n hx hb dX7_bond_35 rfl (lv_at hl 1 rfl) ?_
      refine va_get (ci := 7) (v := .ref xaL) (C := RX7) (T := TX7) (N := 11) hx hb hts hinX7 hown hK.1 hw.1 0 rfl rfl 0 (by decide) q_1 (fun _ h9 => h9) rfl dX7_bond_36 ?_
      refine lv_iload_n hx hb dX7_bond_39 rfl (lv_at hl 2 rfl) ?_
      refine lv_iload_n hx hb dX7_bond_40 rfl (lv_at hl 3 rfl) ?_
      refine lv_iload_n hx hb dX7_bond_41 rfl (lv_at hl 4 rfl) ?_
      obtain ⟨lDe_4, hf, h⟩ := b1_inv h
      refine k_callV (host := "") fx hK hA hw (c_X1_setDebt l D k xaL lrNa lrMo lrWa lrDe _ lPe lDa lDr lNa lMo lWa lDe p1 p2 p3 lDe_4 hf) (cwV 3 hts gX7_bond_X1_setDebt rfl rfl rfl (by decide +kernel) ⟨by decide, by decide⟩) (As := [.int p1, .int p2, .int p3]) (wr := [(xh, .inr (7, [.ref xaL, .ref xaT, .ref xaO, .ref xaF, .ref xaS, .ref xaI, .ref xaH, .ref xaR, .ref xaU, .int xTf, .int xTb]))]) (ws' := wX7 k xh xaL xaT xaO xaF xaS xaI xaH xaR xaU xTf xTb ++ (wX1 k xaL lrNa lrMo lrWa lrDe lPe lDa lDr lNa lMo lWa lDe_4)) [1, 2, 3, 4, 5] [0] [0, 1, 2, 3, 4, 5] rfl rfl (by decide) (by decide) (by decide) rfl (by decide) 1 rfl rfl [] rfl hl.1 rfl (Nat.le_of_ble_eq_true rfl) dX7_bond_42 ⟨by decide, by decide⟩ (fun H locs (hw : Wd D A s.heap H locs (wX7 k xh xaL xaT xaO xaF xaS xaI xaH xaR xaU xTf xTb ++ (wX1 k xaL lrNa lrMo lrWa lrDe lPe lDa lDr lNa lMo lWa lDe_4))) => ?_)
      refine W.eq (g2 := F0 m 45 ls ([])) rfl ?_
      refine lv_iload hx hb dX7_bond_45 (lv_at hl 0 rfl) ?_
      cases h
      exact k_iret hx hb hr hlocks hw rfl dX7_bond_47 hQ
abbrev rmX7_clear : Room := { frames := 7, cells := 0, slots := 0, locals := 166 }
set_option maxHeartbeats 4000000 in
set_option maxRecDepth 100000 in
theorem c_X7_clear (l : Launch) (D : va_G) (k : Nat → ClassId) (xh xaL xaT xaO xaF xaS xaI xaH xaR xaU lrNa lrMo lrWa lrDe frRo : Nat) (sz : Nat) (xTf : Int32) (xTb : Int32) (lPe : Int32) (lDa : Int32) (lDr : Int32) (lNa : (Nat → Int32)) (lMo : (Nat → Int32)) (lWa : (Nat → Int32)) (lDe : (Nat → Int32)) (fRo : (Nat → Int32)) (fSz : Int32) (r_ : Int32) (n_lDe : (Nat → Int32)) (n_fRo : (Nat → Int32)) (n_fSz : Int32) (hf : f_X7_clear lPe lDe fRo fSz = some (r_, n_lDe, n_fRo, n_fSz)) : mR l yX7_clear wsX7_clear rmX7_clear D k sz [.ref xh] (wX7 k xh xaL xaT xaO xaF xaS xaI xaH xaR xaU xTf xTb ++ (wX1 k xaL lrNa lrMo lrWa lrDe lPe lDa lDr lNa lMo lWa lDe ++ (wX4 k xaF frRo fRo fSz))) (wX7 k xh xaL xaT xaO xaF xaS xaI xaH xaR xaU xTf xTb ++ (wX1 k xaL lrNa lrMo lrWa lrDe lPe lDa lDr lNa lMo lWa n_lDe ++ (wX4 k xaF frRo n_fRo n_fSz))) (some (.int r_)) := by
  refine mR_of (cc := cX7_clear) (maxL := 3) (ret := some .int) (by decide) rfl (Nat.le_of_ble_eq_true rfl) [(0, .ref xh)] rfl ?_
  intro p e s m below meth c A ls args Q cx hK hA hw hl hQ
  have fx := cx.1
  obtain ⟨⟨hx, hb, hml, hown, hts⟩, hr, hlocks⟩ := cx
  have hinX7 : ∀ w ∈ wsX70, w ∈ wsX7_clear := fun w h => List.mem_cons_of_mem _ (List.mem_append_left _ (List.mem_append_left _ (List.mem_append_right _ h)))
  have q_1 := hts (.fieldLink RX7 10 "DebtRides" "land" "LDebtRides$Land;") (List.mem_of_getElem? (i := 1) rfl)
  have q_2 := hts (.fieldLink RX7 29 "DebtRides" "finder" "LDebtRides$RingFinder;") (List.mem_of_getElem? (i := 2) rfl)
  have h := hf
  unfold f_X7_clear at h
  clear hf
  refine lv_aload_n hx hb dX7_clear_0 rfl (lv_at hl 0 rfl) ?_
  refine va_get (ci := 7) (v := .ref xaL) (C := RX7) (T := TX7) (N := 11) hx hb hts hinX7 hown hK.1 hw.1 0 rfl rfl 0 (by decide) q_1 (fun _ h9 => h9) rfl dX7_clear_1 ?_
  obtain ⟨r_1, hf, h⟩ := b1_inv h
  refine k_callV (host := "") fx hK hA hw (c_X1_owedInAll l D k xaL lrNa lrMo lrWa lrDe _ lPe lDa lDr lNa lMo lWa lDe r_1 hf) (cwV 0 hts gX7_clear_X1_owedInAll rfl rfl rfl (by decide +kernel) ⟨by decide, by decide⟩) (As := []) (wr := [(xh, .inr (7, [.ref xaL, .ref xaT, .ref xaO, .ref xaF, .ref xaS, .ref xaI, .ref xaH, .ref xaR, .ref xaU, .int xTf, .int xTb])), (xaF, .inr (4, [.ref frRo, .int fSz])), (frRo, .inl (k 0, 5, .inl fRo))]) (ws' := wX7 k xh xaL xaT xaO xaF xaS xaI xaH xaR xaU xTf xTb ++ (wX1 k xaL lrNa lrMo lrWa lrDe lPe lDa lDr lNa lMo lWa lDe ++ (wX4 k xaF frRo fRo fSz))) [1, 2, 3, 4, 5] [0, 6, 7] [0, 3, 4, 5, 6, 7, 1, 2] rfl rfl (by decide) (by decide) (by decide) rfl (by decide) 1 rfl rfl [] rfl hl.1 rfl (Nat.le_of_ble_eq_true rfl) dX7_clear_4 ⟨by decide, by decide⟩ (fun H locs (hw : Wd D A s.heap H locs (wX7 k xh xaL xaT xaO xaF xaS xaI xaH xaR xaU xTf xTb ++ (wX1 k xaL lrNa lrMo lrWa lrDe lPe lDa lDr lNa lMo lWa lDe ++ (wX4 k xaF frRo fRo fSz)))) => ?_)
  refine W.eq (g2 := F0 m 7 ls ([.int r_1])) rfl ?_
  refine lv_istore_n (lv' := [(1, .int r_1), (0, .ref xh)]) hx hb dX7_clear_7 rfl hl (by decide) rfl (fun ls hl => ?_)
  refine lv_iconst (v := 0) hx hb dX7_clear_8 (by decide) ?_
  refine lv_istore_n (lv' := [(2, .int 0), (1, .int r_1), (0, .ref xh)]) hx hb dX7_clear_9 rfl hl (by decide) rfl (fun ls hl => ?_)
  obtain ⟨lDe_6, fRo_7, fSz_8, hL_10, h⟩ := b3_inv h
  have X_10 : ∀ (H : Heap) (locs : List Loc) (ls : Array Slot), Wd D A s.heap H locs (wX7 k xh xaL xaT xaO xaF xaS xaI xaH xaR xaU xTf xTb ++ (wX1 k xaL lrNa lrMo lrWa lrDe lPe lDa lDr lNa lMo lWa lDe_6 ++ (wX4 k xaF frRo fRo_7 fSz_8))) → lv_has ls 3 [(0, .ref xh), (1, .int r_1)] → W p l e rmX7_clear s m args below meth c H locs 0 0 Q (F0 m 58 ls []) := by
    intro H locs ls hw hl
    refine lv_iload_n hx hb dX7_clear_58 rfl (lv_at hl 1 rfl) ?_
    refine lv_aload_n hx hb dX7_clear_59 rfl (lv_at hl 0 rfl) ?_
    refine va_get (ci := 7) (v := .ref xaL) (C := RX7) (T := TX7) (N := 11) hx hb hts hinX7 hown hK.1 hw.1 0 rfl rfl 0 (by decide) q_1 (fun _ h9 => h9) rfl dX7_clear_60 ?_
    obtain ⟨r_14, hf, h⟩ := b1_inv h
    refine k_callV (host := "") fx hK hA hw (c_X1_owedInAll l D k xaL lrNa lrMo lrWa lrDe _ lPe lDa lDr lNa lMo lWa lDe_6 r_14 hf) (cwV 0 hts gX7_clear_X1_owedInAll rfl rfl rfl (by decide +kernel) ⟨by decide, by decide⟩) (As := []) (wr := [(xh, .inr (7, [.ref xaL, .ref xaT, .ref xaO, .ref xaF, .ref xaS, .ref xaI, .ref xaH, .ref xaR, .ref xaU, .int xTf, .int xTb])), (xaF, .inr (4, [.ref frRo, .int fSz_8])), (frRo, .inl (k 0, 5, .inl fRo_7))]) (ws' := wX7 k xh xaL xaT xaO xaF xaS xaI xaH xaR xaU xTf xTb ++ (wX1 k xaL lrNa lrMo lrWa lrDe lPe lDa lDr lNa lMo lWa lDe_6 ++ (wX4 k xaF frRo fRo_7 fSz_8))) [1, 2, 3, 4, 5] [0, 6, 7] [0, 3, 4, 5, 6, 7, 1, 2] rfl rfl (by decide) (by decide) (by decide) rfl (by decide) 1 rfl rfl [.int r_1] rfl hl.1 rfl (Nat.le_of_ble_eq_true rfl) dX7_clear_63 ⟨by decide, by decide⟩ (fun H locs (hw : Wd D A s.heap H locs (wX7 k xh xaL xaT xaO xaF xaS xaI xaH xaR xaU xTf xTb ++ (wX1 k xaL lrNa lrMo lrWa lrDe lPe lDa lDr lNa lMo lWa lDe_6 ++ (wX4 k xaF frRo fRo_7 fSz_8)))) => ?_)
    refine W.eq (g2 := F0 m 66 ls ([.int r_14, .int r_1])) rfl ?_
    refine lv_isub hx hb dX7_clear_66 ?_
    have g0 := Option.some.inj h
    clear h
    obtain ⟨e0, g1⟩ := Prod.mk.inj g0
    obtain ⟨e1, g2⟩ := Prod.mk.inj g1
    obtain ⟨e2, g3⟩ := Prod.mk.inj g2
    subst e0; subst e1; subst e2; subst g3
    exact k_iret hx hb hr hlocks hw rfl dX7_clear_67 hQ
  clear h
  have LP_10 : ∀ (n : Nat) (v2_2 : Int32) (lDe_3 : (Nat → Int32)) (fRo_4 : (Nat → Int32)) (fSz_5 : Int32), f_X7_clear_L10 lPe n v2_2 lDe_3 fRo_4 fSz_5 = some (lDe_6, fRo_7, fSz_8) → ∀ (H : Heap) (locs : List Loc) (ls : Array Slot), Wd D A s.heap H locs (wX7 k xh xaL xaT xaO xaF xaS xaI xaH xaR xaU xTf xTb ++ (wX1 k xaL lrNa lrMo lrWa lrDe lPe lDa lDr lNa lMo lWa lDe_3 ++ (wX4 k xaF frRo fRo_4 fSz_5))) → lv_has ls 3 [(0, .ref xh), (1, .int r_1), (2, .int v2_2)] → W p l e rmX7_clear s m args below meth c H locs 0 0 Q (F0 m 10 ls []) := by
    clear hL_10 hw hl
    intro n
    induction n with
    | zero => intro v2_2 lDe_3 fRo_4 fSz_5 h; rw [f_X7_clear_L10] at h; cases h
    | succ n ih =>
      intro v2_2 lDe_3 fRo_4 fSz_5 h H locs ls hw hl
      rw [f_X7_clear_L10] at h
      refine lv_iload_n hx hb dX7_clear_10 rfl (lv_at hl 2 rfl) ?_
      refine lv_bipush (v := 25) hx hb dX7_clear_11 (by decide) ?_
      refine kb_icmp_ge (tgt := 58) hx hb dX7_clear_13 (by decide) h (fun c_13 h => ?_) (fun c_13 h => ?_)
      · cases h
        exact X_10 _ _ _ hw (lv_sub hl [0, 1] rfl)
      · refine lv_aload_n hx hb dX7_clear_16 rfl (lv_at hl 0 rfl) ?_
        refine va_get (ci := 7) (v := .ref xaF) (C := RX7) (T := TX7) (N := 11) hx hb hts hinX7 hown hK.1 hw.1 0 rfl rfl 3 (by decide) q_2 (fun _ h9 => h9) rfl dX7_clear_17 ?_
        refine lv_aload_n hx hb dX7_clear_20 rfl (lv_at hl 0 rfl) ?_
        refine va_get (ci := 7) (v := .ref xaL) (C := RX7) (T := TX7) (N := 11) hx hb hts hinX7 hown hK.1 hw.1 0 rfl rfl 0 (by decide) q_1 (fun _ h9 => h9) rfl dX7_clear_21 ?_
        obtain ⟨r_9, fRo_10, fSz_11, hf, h⟩ := b3_inv h
        refine k_callV (host := "") fx hK hA hw (c_X4_find l D k xaF frRo xaL lrNa lrMo lrWa lrDe _ fRo_4 fSz_5 lPe lDa lDr lNa lMo lWa lDe_3 r_9 fRo_10 fSz_11 hf) (cwV 1 hts gX7_clear_X4_find rfl rfl rfl (by decide +kernel) ⟨by decide, by decide⟩) (As := [.ref xaL]) (wr := [(xh, .inr (7, [.ref xaL, .ref xaT, .ref xaO, .ref xaF, .ref xaS, .ref xaI, .ref xaH, .ref xaR, .ref xaU, .int xTf, .int xTb]))]) (ws' := wX7 k xh xaL xaT xaO xaF xaS xaI xaH xaR xaU xTf xTb ++ (wX1 k xaL lrNa lrMo lrWa lrDe lPe lDa lDr lNa lMo lWa lDe_3 ++ (wX4 k xaF frRo fRo_10 fSz_11))) [6, 7, 1, 2, 3, 4, 5] [0] [0, 3, 4, 5, 6, 7, 1, 2] rfl rfl (by decide) (by decide) (by decide) rfl (by decide) 4 rfl rfl [] rfl hl.1 rfl (Nat.le_of_ble_eq_true rfl) dX7_clear_24 ⟨by decide, by decide⟩ (fun H locs (hw : Wd D A s.heap H locs (wX7 k xh xaL xaT xaO xaF xaS xaI xaH xaR xaU xTf xTb ++ (wX1 k xaL lrNa lrMo lrWa lrDe lPe lDa lDr lNa lMo lWa lDe_3 ++ (wX4 k xaF frRo fRo_10 fSz_11)))) => ?_)
        refine W.eq (g2 := F0 m 27 ls ([.int r_9])) rfl ?_
        refine kb_if_eq (tgt := 58) hx hb dX7_clear_27 (by decide) h (fun c_27 h => ?_) (fun c_27 h => ?_)
        · cases h
          exact X_10 _ _ _ hw (lv_sub hl [0, 1] rfl)
        · refine lv_aload_n hx hb dX7_clear_30 rfl (lv_at hl 0 rfl) ?_
          refine va_get (ci := 7) (v := .ref xaF) (C := RX7) (T := TX7) (N := 11) hx hb hts hinX7 hown hK.1 hw.1 0 rfl rfl 3 (by decide) q_2 (fun _ h9 => h9) rfl dX7_clear_31 ?_
          refine lv_aload_n hx hb dX7_clear_34 rfl (lv_at hl 0 rfl) ?_
          refine va_get (ci := 7) (v := .ref xaL) (C := RX7) (T := TX7) (N := 11) hx hb hts hinX7 hown hK.1 hw.1 0 rfl rfl 0 (by decide) q_1 (fun _ h9 => h9) rfl dX7_clear_35 ?_
          refine lv_aload_n hx hb dX7_clear_38 rfl (lv_at hl 0 rfl) ?_
          refine va_get (ci := 7) (v := .ref xaF) (C := RX7) (T := TX7) (N := 11) hx hb hts hinX7 hown hK.1 hw.1 0 rfl rfl 3 (by decide) q_2 (fun _ h9 => h9) rfl dX7_clear_39 ?_
          refine lv_aload_n hx hb dX7_clear_42 rfl (lv_at hl 0 rfl) ?_
          refine va_get (ci := 7) (v := .ref xaL) (C := RX7) (T := TX7) (N := 11) hx hb hts hinX7 hown hK.1 hw.1 0 rfl rfl 0 (by decide) q_1 (fun _ h9 => h9) rfl dX7_clear_43 ?_
          obtain ⟨r_12, hf, h⟩ := b1_inv h
          refine k_callV (host := "") fx hK hA hw (c_X4_leastDebt l D k xaF frRo xaL lrNa lrMo lrWa lrDe _ fRo_10 fSz_11 lPe lDa lDr lNa lMo lWa lDe_3 r_12 hf) (cwV 1 hts gX7_clear_X4_leastDebt rfl rfl rfl (by decide +kernel) ⟨by decide, by decide⟩) (As := [.ref xaL]) (wr := [(xh, .inr (7, [.ref xaL, .ref xaT, .ref xaO, .ref xaF, .ref xaS, .ref xaI, .ref xaH, .ref xaR, .ref xaU, .int xTf, .int xTb]))]) (ws' := wX7 k xh xaL xaT xaO xaF xaS xaI xaH xaR xaU xTf xTb ++ (wX1 k xaL lrNa lrMo lrWa lrDe lPe lDa lDr lNa lMo lWa lDe_3 ++ (wX4 k xaF frRo fRo_10 fSz_11))) [6, 7, 1, 2, 3, 4, 5] [0] [0, 3, 4, 5, 6, 7, 1, 2] rfl rfl (by decide) (by decide) (by decide) rfl (by decide) 4 rfl rfl [.ref xaL, .ref xaF] rfl hl.1 rfl (Nat.le_of_ble_eq_true rfl) dX7_clear_46 ⟨by decide, by decide⟩ (fun H locs (hw : Wd D A s.heap H locs (wX7 k xh xaL xaT xaO xaF xaS xaI xaH xaR xaU xTf xTb ++ (wX1 k xaL lrNa lrMo lrWa lrDe lPe lDa lDr lNa lMo lWa lDe_3 ++ (wX4 k xaF frRo fRo_10 fSz_11)))) => ?_)
          refine W.eq (g2 := F0 m 49 ls ([.int r_12, .ref xaL, .ref xaF])) rfl ?_
          obtain ⟨lDe_13, hf, h⟩ := b1_inv h
          refine k_callV (host := "") fx hK hA hw (c_X4_lessen l D k xaF frRo xaL lrNa lrMo lrWa lrDe _ fRo_10 fSz_11 lPe lDa lDr lNa lMo lWa lDe_3 r_12 lDe_13 hf) (cwV 2 hts gX7_clear_X4_lessen rfl rfl rfl (by decide +kernel) ⟨by decide, by decide⟩) (As := [.ref xaL, .int r_12]) (wr := [(xh, .inr (7, [.ref xaL, .ref xaT, .ref xaO, .ref xaF, .ref xaS, .ref xaI, .ref xaH, .ref xaR, .ref xaU, .int xTf, .int xTb]))]) (ws' := wX7 k xh xaL xaT xaO xaF xaS xaI xaH xaR xaU xTf xTb ++ (wX1 k xaL lrNa lrMo lrWa lrDe lPe lDa lDr lNa lMo lWa lDe_13 ++ (wX4 k xaF frRo fRo_10 fSz_11))) [6, 7, 1, 2, 3, 4, 5] [0] [0, 3, 4, 5, 6, 7, 1, 2] rfl rfl (by decide) (by decide) (by decide) rfl (by decide) 4 rfl rfl [] rfl hl.1 rfl (Nat.le_of_ble_eq_true rfl) dX7_clear_49 ⟨by decide, by decide⟩ (fun H locs (hw : Wd D A s.heap H locs (wX7 k xh xaL xaT xaO xaF xaS xaI xaH xaR xaU xTf xTb ++ (wX1 k xaL lrNa lrMo lrWa lrDe lPe lDa lDr lNa lMo lWa lDe_13 ++ (wX4 k xaF frRo fRo_10 fSz_11)))) => ?_)
          refine W.eq (g2 := F0 m 52 ls ([])) rfl ?_
          refine lv_iinc (v := v2_2 + 1) (lv' := [(2, .int (v2_2 + 1)), (0, .ref xh), (1, .int r_1)]) hx hb dX7_clear_52 hl (k := 2) rfl rfl (by decide) rfl (fun ls hl => ?_)
          refine lv_goto (tgt := 10) hx hb dX7_clear_55 (by decide) ?_
          exact ih _ _ _ _ h _ _ _ hw (lv_sub hl [1, 2, 0] rfl)
  exact LP_10 400 0 lDe fRo fSz hL_10 _ _ _ hw (lv_sub hl [2, 1, 0] rfl)
abbrev rmX7_imagesKept : Room := { frames := 0, cells := 0, slots := 0, locals := 0 }
set_option maxHeartbeats 4000000 in
set_option maxRecDepth 100000 in
theorem c_X7_imagesKept (l : Launch) (D : va_G) (k : Nat → ClassId) (xh xaL xaT xaO xaF xaS xaI xaH xaR xaU i0 i1 i0aL i0aS i1aL i1aS : Nat) (sz : Nat) (xTf : Int32) (xTb : Int32) (i0Ke : Int32) (i1Ke : Int32) (r_ : Int32) (hf : f_X7_imagesKept i0Ke i1Ke = some r_) : mR l yX7_imagesKept wsX7_imagesKept rmX7_imagesKept D k sz [.ref xh] (wX7 k xh xaL xaT xaO xaF xaS xaI xaH xaR xaU xTf xTb ++ (wIA k xaI i0 i1 ++ (wX0 k i0 i0aL i0aS i0Ke ++ (wX0 k i1 i1aL i1aS i1Ke)))) (wX7 k xh xaL xaT xaO xaF xaS xaI xaH xaR xaU xTf xTb ++ (wIA k xaI i0 i1 ++ (wX0 k i0 i0aL i0aS i0Ke ++ (wX0 k i1 i1aL i1aS i1Ke)))) (some (.int r_)) := by
  refine mR_of (cc := cX7_imagesKept) (maxL := 3) (ret := some .int) (by decide) rfl (Nat.le_of_ble_eq_true rfl) [(0, .ref xh)] rfl ?_
  intro p e s m below meth c A ls args Q cx hK hA hw hl hQ
  have fx := cx.1
  obtain ⟨⟨hx, hb, hml, hown, hts⟩, hr, hlocks⟩ := cx
  have hinX7 : ∀ w ∈ wsX70, w ∈ wsX7_imagesKept := fun w h => List.mem_cons_of_mem _ (List.mem_append_left _ (List.mem_append_right _ h))
  have hinX0 : ∀ w ∈ wsX00, w ∈ wsX7_imagesKept := fun w h => List.mem_cons_of_mem _ (List.mem_append_right _ h)
  have q_1 := hts (.fieldLink RX7 42 "DebtRides" "images" "[LDebtRides$Image;") (List.mem_of_getElem? (i := 1) rfl)
  have q_2 := hts (.fieldLink RX7 99 "DebtRides$Image" "kept" "Z") (List.mem_of_getElem? (i := 2) rfl)
  have h := hf
  unfold f_X7_imagesKept at h
  clear hf
  refine lv_iconst (v := 0) hx hb dX7_imagesKept_0 (by decide) ?_
  refine lv_istore_n (lv' := [(1, .int 0), (0, .ref xh)]) hx hb dX7_imagesKept_1 rfl hl (by decide) rfl (fun ls hl => ?_)
  refine lv_iconst (v := 0) hx hb dX7_imagesKept_2 (by decide) ?_
  refine lv_istore_n (lv' := [(2, .int 0), (1, .int 0), (0, .ref xh)]) hx hb dX7_imagesKept_3 rfl hl (by decide) rfl (fun ls hl => ?_)
  obtain ⟨v1_3, hL_4, h⟩ := b1_inv h
  have X_4 : ∀ (H : Heap) (locs : List Loc) (ls : Array Slot), Wd D A s.heap H locs (wX7 k xh xaL xaT xaO xaF xaS xaI xaH xaR xaU xTf xTb ++ (wIA k xaI i0 i1 ++ (wX0 k i0 i0aL i0aS i0Ke ++ (wX0 k i1 i1aL i1aS i1Ke)))) → lv_has ls 3 [(1, .int v1_3)] → W p l e rmX7_imagesKept s m args below meth c H locs 0 0 Q (F0 m 30 ls []) := by
    intro H locs ls hw hl
    refine lv_iload_n hx hb dX7_imagesKept_30 rfl (lv_at hl 0 rfl) ?_
    cases h
    exact k_iret hx hb hr hlocks hw rfl dX7_imagesKept_31 hQ
  clear h
  have LP_4 : ∀ (n : Nat) (v1_1 : Int32) (v2_2 : Int32), f_X7_imagesKept_L4 i0Ke i1Ke n v1_1 v2_2 = some v1_3 → ∀ (H : Heap) (locs : List Loc) (ls : Array Slot), Wd D A s.heap H locs (wX7 k xh xaL xaT xaO xaF xaS xaI xaH xaR xaU xTf xTb ++ (wIA k xaI i0 i1 ++ (wX0 k i0 i0aL i0aS i0Ke ++ (wX0 k i1 i1aL i1aS i1Ke)))) → lv_has ls 3 [(0, .ref xh), (1, .int v1_1), (2, .int v2_2)] → W p l e rmX7_imagesKept s m args below meth c H locs 0 0 Q (F0 m 4 ls []) := by
    clear hL_4 hw hl
    intro n
    induction n with
    | zero => intro v1_1 v2_2 h; rw [f_X7_imagesKept_L4] at h; cases h
    | succ n ih =>
      intro v1_1 v2_2 h H locs ls hw hl
      rw [f_X7_imagesKept_L4] at h
      refine lv_iload_n hx hb dX7_imagesKept_4 rfl (lv_at hl 2 rfl) ?_
      refine lv_iconst (v := 2) hx hb dX7_imagesKept_5 (by decide) ?_
      refine kb_icmp_ge (tgt := 30) hx hb dX7_imagesKept_6 (by decide) h (fun c_6 h => ?_) (fun c_6 h => ?_)
      · cases h
        exact X_4 _ _ _ hw (lv_sub hl [1] rfl)
      · refine lv_aload_n hx hb dX7_imagesKept_9 rfl (lv_at hl 0 rfl) ?_
        refine va_get (ci := 7) (v := .ref xaI) (C := RX7) (T := TX7) (N := 11) hx hb hts hinX7 hown hK.1 hw.1 0 rfl rfl 5 (by decide) q_1 (fun _ h9 => h9) rfl dX7_imagesKept_10 ?_
        refine lv_iload_n hx hb dX7_imagesKept_13 rfl (lv_at hl 2 rfl) ?_
        by_cases c_14 : v2_2 = 0
        · rw [if_pos c_14] at h
          refine k_aald hx hb hK hw 1 2 (j := 0) (a' := i0) rfl rfl c_14 (by unfold vp_in; decide) rfl dX7_imagesKept_14 ?_
          refine va_get (ci := 0) (v := .int i0Ke) (C := RX0) (T := TX0) (N := 3) hx hb hts hinX0 hown hK.1 hw.1 2 rfl rfl 0 (by decide) q_2 (fun _ h9 => h9) rfl dX7_imagesKept_15 ?_
          refine kb_if_eq (tgt := 24) hx hb dX7_imagesKept_18 (by decide) h (fun c_18 h => ?_) (fun c_18 h => ?_)
          · refine lv_iinc (v := v2_2 + 1) (lv' := [(2, .int (v2_2 + 1)), (0, .ref xh), (1, .int v1_1)]) hx hb dX7_imagesKept_24 hl (k := 2) rfl rfl (by decide) rfl (fun ls hl => ?_)
            refine lv_goto (tgt := 4) hx hb dX7_imagesKept_27 (by decide) ?_
            exact ih _ _ h _ _ _ hw (lv_sub hl [1, 2, 0] rfl)
          · refine lv_iinc (v := v1_1 + 1) (lv' := [(1, .int (v1_1 + 1)), (0, .ref xh), (2, .int v2_2)]) hx hb dX7_imagesKept_21 hl (k := 1) rfl rfl (by decide) rfl (fun ls hl => ?_)
            refine lv_iinc (v := v2_2 + 1) (lv' := [(2, .int (v2_2 + 1)), (1, .int (v1_1 + 1)), (0, .ref xh)]) hx hb dX7_imagesKept_24 hl (k := 2) rfl rfl (by decide) rfl (fun ls hl => ?_)
            refine lv_goto (tgt := 4) hx hb dX7_imagesKept_27 (by decide) ?_
            exact ih _ _ h _ _ _ hw (lv_sub hl [2, 1, 0] rfl)
        · rw [if_neg c_14] at h
          by_cases c_14 : v2_2 = 1
          · rw [if_pos c_14] at h
            refine k_aald hx hb hK hw 1 2 (j := 1) (a' := i1) rfl rfl c_14 (by unfold vp_in; decide) rfl dX7_imagesKept_14 ?_
            refine va_get (ci := 0) (v := .int i1Ke) (C := RX0) (T := TX0) (N := 3) hx hb hts hinX0 hown hK.1 hw.1 3 rfl rfl 0 (by decide) q_2 (fun _ h9 => h9) rfl dX7_imagesKept_15 ?_
            refine kb_if_eq (tgt := 24) hx hb dX7_imagesKept_18 (by decide) h (fun c_18 h => ?_) (fun c_18 h => ?_)
            · refine lv_iinc (v := v2_2 + 1) (lv' := [(2, .int (v2_2 + 1)), (0, .ref xh), (1, .int v1_1)]) hx hb dX7_imagesKept_24 hl (k := 2) rfl rfl (by decide) rfl (fun ls hl => ?_)
              refine lv_goto (tgt := 4) hx hb dX7_imagesKept_27 (by decide) ?_
              exact ih _ _ h _ _ _ hw (lv_sub hl [1, 2, 0] rfl)
            · refine lv_iinc (v := v1_1 + 1) (lv' := [(1, .int (v1_1 + 1)), (0, .ref xh), (2, .int v2_2)]) hx hb dX7_imagesKept_21 hl (k := 1) rfl rfl (by decide) rfl (fun ls hl => ?_)
              refine lv_iinc (v := v2_2 + 1) (lv' := [(2, .int (v2_2 + 1)), (1, .int (v1_1 + 1)), (0, .ref xh)]) hx hb dX7_imagesKept_24 hl (k := 2) rfl rfl (by decide) rfl (fun ls hl => ?_)
              refine lv_goto (tgt := 4) hx hb dX7_imagesKept_27 (by decide) ?_
              exact ih _ _ h _ _ _ hw (lv_sub hl [2, 1, 0] rfl)
          · rw [if_neg c_14] at h
            cases h
  exact LP_4 400 0 0 hL_4 _ _ _ hw (lv_sub hl [2, 1, 0] rfl)
abbrev rmX7_count : Room := { frames := 1, cells := 0, slots := 0, locals := 22 }
set_option maxHeartbeats 4000000 in
set_option maxRecDepth 100000 in
theorem c_X7_count (l : Launch) (D : va_G) (k : Nat → ClassId) (xh xaL xaT xaO xaF xaS xaI xaH xaR xaU lrNa lrMo lrWa lrDe srDy srWo srRi i0 i1 i0aL i0aS i1aL i1aS rrBy raD y0 y1 y2 y3 y0rCe y1rCe y2rCe y3rCe : Nat) (sz : Nat) (xTf : Int32) (xTb : Int32) (lPe : Int32) (lDa : Int32) (lDr : Int32) (lNa : (Nat → Int32)) (lMo : (Nat → Int32)) (lWa : (Nat → Int32)) (lDe : (Nat → Int32)) (sDy : (Nat → Int32)) (sWo : (Nat → Int32)) (sRi : (Nat → Int32)) (sSz : Int32) (i0Ke : Int32) (i1Ke : Int32) (rBy : (Nat → Int32)) (rLe : Int32) (rLi : Int32) (rFf : Int32) (rFp : Int32) (rPl : Int32) (rSo : Int32) (rSt : Int32) (rVa : Int32) (rDt : Int32) (rHo : Int32) (y0Th : Int32) (y0La : Int32) (y0Sz : Int32) (y0Ce : (Nat → Int32)) (y1Th : Int32) (y1La : Int32) (y1Sz : Int32) (y1Ce : (Nat → Int32)) (y2Th : Int32) (y2La : Int32) (y2Sz : Int32) (y2Ce : (Nat → Int32)) (y3Th : Int32) (y3La : Int32) (y3Sz : Int32) (y3Ce : (Nat → Int32)) (p1 : Int32) (r_ : Int32) (hf : f_X7_count lDe sSz i0Ke i1Ke rLe y0Th y0Sz p1 = some r_) : mR l yX7_count wsX7_count rmX7_count D k sz [.ref xh, .int p1] (wX7 k xh xaL xaT xaO xaF xaS xaI xaH xaR xaU xTf xTb ++ (wX1 k xaL lrNa lrMo lrWa lrDe lPe lDa lDr lNa lMo lWa lDe ++ (wX5 k xaS srDy srWo srRi sDy sWo sRi sSz ++ (wIA k xaI i0 i1 ++ (wX0 k i0 i0aL i0aS i0Ke ++ (wX0 k i1 i1aL i1aS i1Ke ++ (wX3 k xaR rrBy raD rBy rLe rLi rFf rFp rPl rSo rSt rVa rDt rHo ++ (wHA k xaH y0 y1 y2 y3 ++ (wX6 k y0 y0rCe y0Th y0La y0Sz y0Ce ++ (wX6 k y1 y1rCe y1Th y1La y1Sz y1Ce ++ (wX6 k y2 y2rCe y2Th y2La y2Sz y2Ce ++ (wX6 k y3 y3rCe y3Th y3La y3Sz y3Ce)))))))))))) (wX7 k xh xaL xaT xaO xaF xaS xaI xaH xaR xaU xTf xTb ++ (wX1 k xaL lrNa lrMo lrWa lrDe lPe lDa lDr lNa lMo lWa lDe ++ (wX5 k xaS srDy srWo srRi sDy sWo sRi sSz ++ (wIA k xaI i0 i1 ++ (wX0 k i0 i0aL i0aS i0Ke ++ (wX0 k i1 i1aL i1aS i1Ke ++ (wX3 k xaR rrBy raD rBy rLe rLi rFf rFp rPl rSo rSt rVa rDt rHo ++ (wHA k xaH y0 y1 y2 y3 ++ (wX6 k y0 y0rCe y0Th y0La y0Sz y0Ce ++ (wX6 k y1 y1rCe y1Th y1La y1Sz y1Ce ++ (wX6 k y2 y2rCe y2Th y2La y2Sz y2Ce ++ (wX6 k y3 y3rCe y3Th y3La y3Sz y3Ce)))))))))))) (some (.int r_)) := by
  refine mR_of (cc := cX7_count) (maxL := 2) (ret := some .int) (by decide) rfl (Nat.le_of_ble_eq_true rfl) [(0, .ref xh), (1, .int p1)] rfl ?_
  intro p e s m below meth c A ls args Q cx hK hA hw hl hQ
  have fx := cx.1
  obtain ⟨⟨hx, hb, hml, hown, hts⟩, hr, hlocks⟩ := cx
  have hinX7 : ∀ w ∈ wsX70, w ∈ wsX7_count := fun w h => List.mem_cons_of_mem _ (List.mem_append_left _ (List.mem_append_left _ (List.mem_append_left _ (List.mem_append_left _ (List.mem_append_left _ (List.mem_append_right _ h))))))
  have hinX5 : ∀ w ∈ wsX50, w ∈ wsX7_count := fun w h => List.mem_cons_of_mem _ (List.mem_append_left _ (List.mem_append_left _ (List.mem_append_left _ (List.mem_append_left _ (List.mem_append_right _ h)))))
  have hinX3 : ∀ w ∈ wsX30, w ∈ wsX7_count := fun w h => List.mem_cons_of_mem _ (List.mem_append_left _ (List.mem_append_left _ (List.mem_append_left _ (List.mem_append_right _ h))))
  have hinX6 : ∀ w ∈ wsX60, w ∈ wsX7_count := fun w h => List.mem_cons_of_mem _ (List.mem_append_left _ (List.mem_append_left _ (List.mem_append_right _ h)))
  have q_1 := hts (.fieldLink RX7 36 "DebtRides" "seen" "LDebtRides$Seen;") (List.mem_of_getElem? (i := 1) rfl)
  have q_2 := hts (.fieldLink RX7 96 "DebtRides$Seen" "size" "I") (List.mem_of_getElem? (i := 2) rfl)
  have q_3 := hts (.fieldLink RX7 57 "DebtRides" "reader" "LDebtRides$Reader;") (List.mem_of_getElem? (i := 3) rfl)
  have q_4 := hts (.fieldLink RX7 69 "DebtRides$Reader" "length" "I") (List.mem_of_getElem? (i := 4) rfl)
  have q_5 := hts (.fieldLink RX7 49 "DebtRides" "sheets" "[LDebtRides$Sheet;") (List.mem_of_getElem? (i := 5) rfl)
  have q_6 := hts (.fieldLink RX7 284 "DebtRides$Sheet" "there" "Z") (List.mem_of_getElem? (i := 6) rfl)
  have q_7 := hts (.fieldLink RX7 287 "DebtRides$Sheet" "size" "I") (List.mem_of_getElem? (i := 7) rfl)
  have q_8 := hts (.fieldLink RX7 10 "DebtRides" "land" "LDebtRides$Land;") (List.mem_of_getElem? (i := 8) rfl)
  have h := hf
  unfold f_X7_count at h
  clear hf
  refine lv_iload_n hx hb dX7_count_0 rfl (lv_at hl 1 rfl) ?_
  by_cases c1_0 : p1 = 0
  · rw [if_pos c1_0] at h
    refine lv_tableIn (off := 35) (tgt := 36) hx hb dX7_count_1 (by rw [c1_0]; decide) (by rw [c1_0]; decide) (by rw [c1_0]; rfl) (by decide) ?_
    refine lv_aload_n hx hb dX7_count_36 rfl (lv_at hl 0 rfl) ?_
    refine va_get (ci := 7) (v := .ref xaS) (C := RX7) (T := TX7) (N := 11) hx hb hts hinX7 hown hK.1 hw.1 0 rfl rfl 4 (by decide) q_1 (fun _ h9 => h9) rfl dX7_count_37 ?_
    refine va_get (ci := 5) (v := .int sSz) (C := RX5) (T := TX5) (N := 4) hx hb hts hinX5 hown hK.1 hw.1 6 rfl rfl 3 (by decide) q_2 (fun _ h9 => h9) rfl dX7_count_40 ?_
    cases h
    exact k_iret hx hb hr hlocks hw rfl dX7_count_43 hQ
  · rw [if_neg c1_0] at h
    by_cases c1_1 : p1 = 1
    · rw [if_pos c1_1] at h
      refine lv_tableIn (off := 43) (tgt := 44) hx hb dX7_count_1 (by rw [c1_1]; decide) (by rw [c1_1]; decide) (by rw [c1_1]; rfl) (by decide) ?_
      refine lv_aload_n hx hb dX7_count_44 rfl (lv_at hl 0 rfl) ?_
      obtain ⟨r_1, hf, h⟩ := b1_inv h
      refine k_callV (host := "") fx hK hA hw (c_X7_imagesKept l D k xh xaL xaT xaO xaF xaS xaI xaH xaR xaU i0 i1 i0aL i0aS i1aL i1aS _ xTf xTb i0Ke i1Ke r_1 hf) (cwV 0 hts gX7_count_X7_imagesKept rfl rfl rfl (by decide +kernel) ⟨by decide, by decide⟩) (As := []) (wr := [(xaL, .inr (1, [.int lPe, .int lDa, .int lDr, .ref lrNa, .ref lrMo, .ref lrWa, .ref lrDe])), (lrNa, .inl (k 0, 5, .inl lNa)), (lrMo, .inl (k 0, 5, .inl lMo)), (lrWa, .inl (k 0, 5, .inl lWa)), (lrDe, .inl (k 0, 25, .inl lDe)), (xaS, .inr (5, [.ref srDy, .ref srWo, .ref srRi, .int sSz])), (srDy, .inl (k 0, 6, .inl sDy)), (srWo, .inl (k 0, 6, .inl sWo)), (srRi, .inl (k 0, 6, .inl sRi)), (xaR, .inr (3, [.ref rrBy, .int rLe, .ref raD, .int rLi, .int rFf, .int rFp, .int rPl, .int rSo, .int rSt, .int rVa, .int rDt, .int rHo])), (rrBy, .inl (k 0, 160, .inl rBy)), (xaH, .inl (k 4, 4, .inr (.inr (.inr (.inr (rl [y0, y1, y2, y3])))))), (y0, .inr (6, [.int y0Th, .int y0La, .int y0Sz, .ref y0rCe])), (y0rCe, .inl (k 0, 40, .inl y0Ce)), (y1, .inr (6, [.int y1Th, .int y1La, .int y1Sz, .ref y1rCe])), (y1rCe, .inl (k 0, 40, .inl y1Ce)), (y2, .inr (6, [.int y2Th, .int y2La, .int y2Sz, .ref y2rCe])), (y2rCe, .inl (k 0, 40, .inl y2Ce)), (y3, .inr (6, [.int y3Th, .int y3La, .int y3Sz, .ref y3rCe])), (y3rCe, .inl (k 0, 40, .inl y3Ce))]) (ws' := wX7 k xh xaL xaT xaO xaF xaS xaI xaH xaR xaU xTf xTb ++ (wX1 k xaL lrNa lrMo lrWa lrDe lPe lDa lDr lNa lMo lWa lDe ++ (wX5 k xaS srDy srWo srRi sDy sWo sRi sSz ++ (wIA k xaI i0 i1 ++ (wX0 k i0 i0aL i0aS i0Ke ++ (wX0 k i1 i1aL i1aS i1Ke ++ (wX3 k xaR rrBy raD rBy rLe rLi rFf rFp rPl rSo rSt rVa rDt rHo ++ (wHA k xaH y0 y1 y2 y3 ++ (wX6 k y0 y0rCe y0Th y0La y0Sz y0Ce ++ (wX6 k y1 y1rCe y1Th y1La y1Sz y1Ce ++ (wX6 k y2 y2rCe y2Th y2La y2Sz y2Ce ++ (wX6 k y3 y3rCe y3Th y3La y3Sz y3Ce)))))))))))) [0, 10, 11, 12] [1, 2, 3, 4, 5, 6, 7, 8, 9, 13, 14, 15, 16, 17, 18, 19, 20, 21, 22, 23] [20, 0, 1, 2, 3, 4, 5, 6, 7, 8, 21, 22, 23, 9, 10, 11, 12, 13, 14, 15, 16, 17, 18, 19] rfl rfl (by decide) (by decide) (by decide) rfl (by decide) 7 rfl rfl [] rfl hl.1 rfl (Nat.le_of_ble_eq_true rfl) dX7_count_45 ⟨by decide, by decide⟩ (fun H locs (hw : Wd D A s.heap H locs (wX7 k xh xaL xaT xaO xaF xaS xaI xaH xaR xaU xTf xTb ++ (wX1 k xaL lrNa lrMo lrWa lrDe lPe lDa lDr lNa lMo lWa lDe ++ (wX5 k xaS srDy srWo srRi sDy sWo sRi sSz ++ (wIA k xaI i0 i1 ++ (wX0 k i0 i0aL i0aS i0Ke ++ (wX0 k i1 i1aL i1aS i1Ke ++ (wX3 k xaR rrBy raD rBy rLe rLi rFf rFp rPl rSo rSt rVa rDt rHo ++ (wHA k xaH y0 y1 y2 y3 ++ (wX6 k y0 y0rCe y0Th y0La y0Sz y0Ce ++ (wX6 k y1 y1rCe y1Th y1La y1Sz y1Ce ++ (wX6 k y2 y2rCe y2Th y2La y2Sz y2Ce ++ (wX6 k y3 y3rCe y3Th y3La y3Sz y3Ce))))))))))))) => ?_)
      refine W.eq (g2 := F0 m 48 ls ([.int r_1])) rfl ?_
      cases h
      exact k_iret hx hb hr hlocks hw rfl dX7_count_48 hQ
    · rw [if_neg c1_1] at h
      by_cases c1_2 : p1 = 2
      · rw [if_pos c1_2] at h
        refine lv_tableIn (off := 48) (tgt := 49) hx hb dX7_count_1 (by rw [c1_2]; decide) (by rw [c1_2]; decide) (by rw [c1_2]; rfl) (by decide) ?_
        refine lv_aload_n hx hb dX7_count_49 rfl (lv_at hl 0 rfl) ?_
        refine va_get (ci := 7) (v := .ref xaR) (C := RX7) (T := TX7) (N := 11) hx hb hts hinX7 hown hK.1 hw.1 0 rfl rfl 7 (by decide) q_3 (fun _ h9 => h9) rfl dX7_count_50 ?_
        refine va_get (ci := 3) (v := .int rLe) (C := RX3) (T := TX3) (N := 12) hx hb hts hinX3 hown hK.1 hw.1 13 rfl rfl 1 (by decide) q_4 (fun _ h9 => h9) rfl dX7_count_53 ?_
        cases h
        exact k_iret hx hb hr hlocks hw rfl dX7_count_56 hQ
      · rw [if_neg c1_2] at h
        by_cases c1_3 : p1 = 3
        · rw [if_pos c1_3] at h
          refine lv_tableIn (off := 56) (tgt := 57) hx hb dX7_count_1 (by rw [c1_3]; decide) (by rw [c1_3]; decide) (by rw [c1_3]; rfl) (by decide) ?_
          refine lv_aload_n hx hb dX7_count_57 rfl (lv_at hl 0 rfl) ?_
          refine va_get (ci := 7) (v := .ref xaH) (C := RX7) (T := TX7) (N := 11) hx hb hts hinX7 hown hK.1 hw.1 0 rfl rfl 6 (by decide) q_5 (fun _ h9 => h9) rfl dX7_count_58 ?_
          refine lv_iconst (v := 0) hx hb dX7_count_61 (by decide) ?_
          refine k_aald hx hb hK hw 15 4 (j := 0) (a' := y0) rfl rfl rfl (by unfold vp_in; decide) rfl dX7_count_62 ?_
          refine va_get (ci := 6) (v := .int y0Th) (C := RX6) (T := TX6) (N := 4) hx hb hts hinX6 hown hK.1 hw.1 16 rfl rfl 0 (by decide) q_6 (fun _ h9 => h9) rfl dX7_count_63 ?_
          refine kb_if_eq (tgt := 81) hx hb dX7_count_66 (by decide) h (fun c_66 h => ?_) (fun c_66 h => ?_)
          · refine lv_bipush (v := (-4)) hx hb dX7_count_81 (by decide) ?_
            cases h
            exact k_iret hx hb hr hlocks hw rfl dX7_count_83 hQ
          · refine lv_aload_n hx hb dX7_count_69 rfl (lv_at hl 0 rfl) ?_
            refine va_get (ci := 7) (v := .ref xaH) (C := RX7) (T := TX7) (N := 11) hx hb hts hinX7 hown hK.1 hw.1 0 rfl rfl 6 (by decide) q_5 (fun _ h9 => h9) rfl dX7_count_70 ?_
            refine lv_iconst (v := 0) hx hb dX7_count_73 (by decide) ?_
            refine k_aald hx hb hK hw 15 4 (j := 0) (a' := y0) rfl rfl rfl (by unfold vp_in; decide) rfl dX7_count_74 ?_
            refine va_get (ci := 6) (v := .int y0Sz) (C := RX6) (T := TX6) (N := 4) hx hb hts hinX6 hown hK.1 hw.1 16 rfl rfl 2 (by decide) q_7 (fun _ h9 => h9) rfl dX7_count_75 ?_
            refine lv_goto (tgt := 83) hx hb dX7_count_78 (by decide) ?_
            cases h
            exact k_iret hx hb hr hlocks hw rfl dX7_count_83 hQ
        · rw [if_neg c1_3] at h
          by_cases c1_4 : p1 = 4
          · rw [if_pos c1_4] at h
            refine lv_tableIn (off := 83) (tgt := 84) hx hb dX7_count_1 (by rw [c1_4]; decide) (by rw [c1_4]; decide) (by rw [c1_4]; rfl) (by decide) ?_
            refine lv_aload_n hx hb dX7_count_84 rfl (lv_at hl 0 rfl) ?_
            refine va_get (ci := 7) (v := .ref xaL) (C := RX7) (T := TX7) (N := 11) hx hb hts hinX7 hown hK.1 hw.1 0 rfl rfl 0 (by decide) q_8 (fun _ h9 => h9) rfl dX7_count_85 ?_
            obtain ⟨r_2, hf, h⟩ := b1_inv h
            refine k_callV (host := "") fx hK hA hw (c_X1_debtsInAll l D k xaL lrNa lrMo lrWa lrDe _ lPe lDa lDr lNa lMo lWa lDe r_2 hf) (cwV 0 hts gX7_count_X1_debtsInAll rfl rfl rfl (by decide +kernel) ⟨by decide, by decide⟩) (As := []) (wr := [(xh, .inr (7, [.ref xaL, .ref xaT, .ref xaO, .ref xaF, .ref xaS, .ref xaI, .ref xaH, .ref xaR, .ref xaU, .int xTf, .int xTb])), (xaS, .inr (5, [.ref srDy, .ref srWo, .ref srRi, .int sSz])), (srDy, .inl (k 0, 6, .inl sDy)), (srWo, .inl (k 0, 6, .inl sWo)), (srRi, .inl (k 0, 6, .inl sRi)), (xaI, .inl (k 2, 2, .inr (.inr (.inr (.inr (rl [i0, i1])))))), (i0, .inr (0, [.int i0Ke, .ref i0aL, .ref i0aS])), (i1, .inr (0, [.int i1Ke, .ref i1aL, .ref i1aS])), (xaR, .inr (3, [.ref rrBy, .int rLe, .ref raD, .int rLi, .int rFf, .int rFp, .int rPl, .int rSo, .int rSt, .int rVa, .int rDt, .int rHo])), (rrBy, .inl (k 0, 160, .inl rBy)), (xaH, .inl (k 4, 4, .inr (.inr (.inr (.inr (rl [y0, y1, y2, y3])))))), (y0, .inr (6, [.int y0Th, .int y0La, .int y0Sz, .ref y0rCe])), (y0rCe, .inl (k 0, 40, .inl y0Ce)), (y1, .inr (6, [.int y1Th, .int y1La, .int y1Sz, .ref y1rCe])), (y1rCe, .inl (k 0, 40, .inl y1Ce)), (y2, .inr (6, [.int y2Th, .int y2La, .int y2Sz, .ref y2rCe])), (y2rCe, .inl (k 0, 40, .inl y2Ce)), (y3, .inr (6, [.int y3Th, .int y3La, .int y3Sz, .ref y3rCe])), (y3rCe, .inl (k 0, 40, .inl y3Ce))]) (ws' := wX7 k xh xaL xaT xaO xaF xaS xaI xaH xaR xaU xTf xTb ++ (wX1 k xaL lrNa lrMo lrWa lrDe lPe lDa lDr lNa lMo lWa lDe ++ (wX5 k xaS srDy srWo srRi sDy sWo sRi sSz ++ (wIA k xaI i0 i1 ++ (wX0 k i0 i0aL i0aS i0Ke ++ (wX0 k i1 i1aL i1aS i1Ke ++ (wX3 k xaR rrBy raD rBy rLe rLi rFf rFp rPl rSo rSt rVa rDt rHo ++ (wHA k xaH y0 y1 y2 y3 ++ (wX6 k y0 y0rCe y0Th y0La y0Sz y0Ce ++ (wX6 k y1 y1rCe y1Th y1La y1Sz y1Ce ++ (wX6 k y2 y2rCe y2Th y2La y2Sz y2Ce ++ (wX6 k y3 y3rCe y3Th y3La y3Sz y3Ce)))))))))))) [1, 2, 3, 4, 5] [0, 6, 7, 8, 9, 10, 11, 12, 13, 14, 15, 16, 17, 18, 19, 20, 21, 22, 23] [0, 19, 20, 21, 22, 23, 1, 2, 3, 4, 5, 6, 7, 8, 9, 10, 11, 12, 13, 14, 15, 16, 17, 18] rfl rfl (by decide) (by decide) (by decide) rfl (by decide) 1 rfl rfl [] rfl hl.1 rfl (Nat.le_of_ble_eq_true rfl) dX7_count_88 ⟨by decide, by decide⟩ (fun H locs (hw : Wd D A s.heap H locs (wX7 k xh xaL xaT xaO xaF xaS xaI xaH xaR xaU xTf xTb ++ (wX1 k xaL lrNa lrMo lrWa lrDe lPe lDa lDr lNa lMo lWa lDe ++ (wX5 k xaS srDy srWo srRi sDy sWo sRi sSz ++ (wIA k xaI i0 i1 ++ (wX0 k i0 i0aL i0aS i0Ke ++ (wX0 k i1 i1aL i1aS i1Ke ++ (wX3 k xaR rrBy raD rBy rLe rLi rFf rFp rPl rSo rSt rVa rDt rHo ++ (wHA k xaH y0 y1 y2 y3 ++ (wX6 k y0 y0rCe y0Th y0La y0Sz y0Ce ++ (wX6 k y1 y1rCe y1Th y1La y1Sz y1Ce ++ (wX6 k y2 y2rCe y2Th y2La y2Sz y2Ce ++ (wX6 k y3 y3rCe y3Th y3La y3Sz y3Ce))))))))))))) => ?_)
            refine W.eq (g2 := F0 m 91 ls ([.int r_2])) rfl ?_
            cases h
            exact k_iret hx hb hr hlocks hw rfl dX7_count_91 hQ
          · rw [if_neg c1_4] at h
            refine lv_tableOut (tgt := 92) hx hb dX7_count_1 (by have q0 : p1.toInt ≠ 0 := sw_ne c1_0; have q1 : p1.toInt ≠ 1 := sw_ne c1_1; have q2 : p1.toInt ≠ 2 := sw_ne c1_2; have q3 : p1.toInt ≠ 3 := sw_ne c1_3; have q4 : p1.toInt ≠ 4 := sw_ne c1_4; omega) (by decide) ?_
            refine lv_iconst (v := (-1)) hx hb dX7_count_92 (by decide) ?_
            cases h
            exact k_iret hx hb hr hlocks hw rfl dX7_count_93 hQ
abbrev rmX7_days : Room := { frames := 5, cells := 0, slots := 0, locals := 117 }
set_option maxHeartbeats 4000000 in
set_option maxRecDepth 100000 in
theorem c_X7_days (l : Launch) (D : va_G) (k : Nat → ClassId) (xh xaL xaT xaO xaF xaS xaI xaH xaR xaU lrNa lrMo lrWa lrDe : Nat) (sz : Nat) (xTf : Int32) (xTb : Int32) (lPe : Int32) (lDa : Int32) (lDr : Int32) (lNa : (Nat → Int32)) (lMo : (Nat → Int32)) (lWa : (Nat → Int32)) (lDe : (Nat → Int32)) (p1 : Int32) (r_ : Int32) (n_lDa : Int32) (n_lMo : (Nat → Int32)) (n_lDe : (Nat → Int32)) (hf : f_X7_days lPe lDa lDr lNa lMo lWa lDe p1 = some (r_, n_lDa, n_lMo, n_lDe)) : mR l yX7_days wsX7_days rmX7_days D k sz [.ref xh, .int p1] (wX7 k xh xaL xaT xaO xaF xaS xaI xaH xaR xaU xTf xTb ++ (wX1 k xaL lrNa lrMo lrWa lrDe lPe lDa lDr lNa lMo lWa lDe)) (wX7 k xh xaL xaT xaO xaF xaS xaI xaH xaR xaU xTf xTb ++ (wX1 k xaL lrNa lrMo lrWa lrDe lPe n_lDa lDr lNa n_lMo lWa n_lDe)) (some (.int r_)) := by
  refine mR_of (cc := cX7_days) (maxL := 2) (ret := some .int) (by decide) rfl (Nat.le_of_ble_eq_true rfl) [(0, .ref xh), (1, .int p1)] rfl ?_
  intro p e s m below meth c A ls args Q cx hK hA hw hl hQ
  have fx := cx.1
  obtain ⟨⟨hx, hb, hml, hown, hts⟩, hr, hlocks⟩ := cx
  have hinX7 : ∀ w ∈ wsX70, w ∈ wsX7_days := fun w h => List.mem_cons_of_mem _ (List.mem_append_left _ (List.mem_append_right _ h))
  have hinX1 : ∀ w ∈ wsX10, w ∈ wsX7_days := fun w h => List.mem_cons_of_mem _ (List.mem_append_right _ h)
  have q_1 := hts (.fieldLink RX7 10 "DebtRides" "land" "LDebtRides$Land;") (List.mem_of_getElem? (i := 1) rfl)
  have q_2 := hts (.fieldLink RX7 109 "DebtRides$Land" "dayNumber" "I") (List.mem_of_getElem? (i := 2) rfl)
  have h := hf
  unfold f_X7_days at h
  clear hf
  refine lv_iload_n hx hb dX7_days_0 rfl (lv_at hl 1 rfl) ?_
  refine lv_iconst (v := 0) hx hb dX7_days_1 (by decide) ?_
  refine lv_bipush (v := 30) hx hb dX7_days_2 (by decide) ?_
  obtain ⟨r_1, hf, h⟩ := b1_inv h
  refine k_callS (b := 0) (C := "") (host := "") fx hK hA hw (c_X7_within l D k _ p1 0 30 r_1 hf) (va_cwS 3 hts gX7_days_X7_within rfl rfl rfl (by decide +kernel) ⟨by decide, by decide⟩) (As := [.int p1, .int 0, .int 30]) (wr := [(xh, .inr (7, [.ref xaL, .ref xaT, .ref xaO, .ref xaF, .ref xaS, .ref xaI, .ref xaH, .ref xaR, .ref xaU, .int xTf, .int xTb])), (xaL, .inr (1, [.int lPe, .int lDa, .int lDr, .ref lrNa, .ref lrMo, .ref lrWa, .ref lrDe])), (lrNa, .inl (k 0, 5, .inl lNa)), (lrMo, .inl (k 0, 5, .inl lMo)), (lrWa, .inl (k 0, 5, .inl lWa)), (lrDe, .inl (k 0, 25, .inl lDe))]) (ws' := wX7 k xh xaL xaT xaO xaF xaS xaI xaH xaR xaU xTf xTb ++ (wX1 k xaL lrNa lrMo lrWa lrDe lPe lDa lDr lNa lMo lWa lDe)) [] [0, 1, 2, 3, 4, 5] [0, 1, 2, 3, 4, 5] rfl rfl (by decide) (by decide) (by decide) rfl (by decide) [] rfl hl.1 rfl (Nat.le_of_ble_eq_true rfl) dX7_days_4 ⟨by decide, by decide⟩ (fun H locs (hw : Wd D A s.heap H locs (wX7 k xh xaL xaT xaO xaF xaS xaI xaH xaR xaU xTf xTb ++ (wX1 k xaL lrNa lrMo lrWa lrDe lPe lDa lDr lNa lMo lWa lDe))) => ?_)
  refine W.eq (g2 := F0 m 7 ls ([.int r_1])) rfl ?_
  refine kb_if_ne (tgt := 12) hx hb dX7_days_7 (by decide) h (fun c_7 h => ?_) (fun c_7 h => ?_)
  · refine lv_iconst (v := (-1)) hx hb dX7_days_10 (by decide) ?_
    cases h
    exact k_iret hx hb hr hlocks hw rfl dX7_days_11 hQ
  · refine lv_aload_n hx hb dX7_days_12 rfl (lv_at hl 0 rfl) ?_
    refine va_get (ci := 7) (v := .ref xaL) (C := RX7) (T := TX7) (N := 11) hx hb hts hinX7 hown hK.1 hw.1 0 rfl rfl 0 (by decide) q_1 (fun _ h9 => h9) rfl dX7_days_13 ?_
    refine va_get (ci := 1) (v := .int lDa) (C := RX1) (T := TX1) (N := 7) hx hb hts hinX1 hown hK.1 hw.1 1 rfl rfl 1 (by decide) q_2 (fun _ h9 => h9) rfl dX7_days_16 ?_
    refine lv_iload_n hx hb dX7_days_19 rfl (lv_at hl 1 rfl) ?_
    refine lv_iadd hx hb dX7_days_20 ?_
    refine lv_sipush (v := 999) hx hb dX7_days_21 (by decide) ?_
    refine kb_icmp_le (tgt := 30) hx hb dX7_days_24 (by decide) h (fun c_24 h => ?_) (fun c_24 h => ?_)
    · refine lv_aload_n hx hb dX7_days_30 rfl (lv_at hl 0 rfl) ?_
      refine va_get (ci := 7) (v := .ref xaL) (C := RX7) (T := TX7) (N := 11) hx hb hts hinX7 hown hK.1 hw.1 0 rfl rfl 0 (by decide) q_1 (fun _ h9 => h9) rfl dX7_days_31 ?_
      refine lv_iload_n hx hb dX7_days_34 rfl (lv_at hl 1 rfl) ?_
      obtain ⟨r_2, lDa_3, lMo_4, lDe_5, hf, h⟩ := b4_inv h
      refine k_callV (host := "") fx hK hA hw (c_X1_runDays l D k xaL lrNa lrMo lrWa lrDe _ lPe lDa lDr lNa lMo lWa lDe p1 r_2 lDa_3 lMo_4 lDe_5 hf) (cwV 1 hts gX7_days_X1_runDays rfl rfl rfl (by decide +kernel) ⟨by decide, by decide⟩) (As := [.int p1]) (wr := [(xh, .inr (7, [.ref xaL, .ref xaT, .ref xaO, .ref xaF, .ref xaS, .ref xaI, .ref xaH, .ref xaR, .ref xaU, .int xTf, .int xTb]))]) (ws' := wX7 k xh xaL xaT xaO xaF xaS xaI xaH xaR xaU xTf xTb ++ (wX1 k xaL lrNa lrMo lrWa lrDe lPe lDa_3 lDr lNa lMo_4 lWa lDe_5)) [1, 2, 3, 4, 5] [0] [0, 1, 2, 3, 4, 5] rfl rfl (by decide) (by decide) (by decide) rfl (by decide) 1 rfl rfl [] rfl hl.1 rfl (Nat.le_of_ble_eq_true rfl) dX7_days_35 ⟨by decide, by decide⟩ (fun H locs (hw : Wd D A s.heap H locs (wX7 k xh xaL xaT xaO xaF xaS xaI xaH xaR xaU xTf xTb ++ (wX1 k xaL lrNa lrMo lrWa lrDe lPe lDa_3 lDr lNa lMo_4 lWa lDe_5))) => ?_)
      refine W.eq (g2 := F0 m 38 ls ([.int r_2])) rfl ?_
      cases h
      exact k_iret hx hb hr hlocks hw rfl dX7_days_38 hQ
    · refine lv_bipush (v := (-3)) hx hb dX7_days_27 (by decide) ?_
      cases h
      exact k_iret hx hb hr hlocks hw rfl dX7_days_29 hQ
abbrev rmX7_daysByDryness : Room := { frames := 5, cells := 0, slots := 0, locals := 116 }
set_option maxHeartbeats 4000000 in
set_option maxRecDepth 100000 in
theorem c_X7_daysByDryness (l : Launch) (D : va_G) (k : Nat → ClassId) (xh xaL xaT xaO xaF xaS xaI xaH xaR xaU lrNa lrMo lrWa lrDe trNa trMo trWa trDe : Nat) (sz : Nat) (xTf : Int32) (xTb : Int32) (lPe : Int32) (lDa : Int32) (lDr : Int32) (lNa : (Nat → Int32)) (lMo : (Nat → Int32)) (lWa : (Nat → Int32)) (lDe : (Nat → Int32)) (tPe : Int32) (tDa : Int32) (tDr : Int32) (tNa : (Nat → Int32)) (tMo : (Nat → Int32)) (tWa : (Nat → Int32)) (tDe : (Nat → Int32)) (p1 : Int32) (p2 : Int32) (r_ : Int32) (n_tPe : Int32) (n_tDa : Int32) (n_tDr : Int32) (n_tNa : (Nat → Int32)) (n_tMo : (Nat → Int32)) (n_tWa : (Nat → Int32)) (n_tDe : (Nat → Int32)) (hf : f_X7_daysByDryness lPe lDa lDr lNa lMo lWa lDe p1 p2 = some (r_, n_tPe, n_tDa, n_tDr, n_tNa, n_tMo, n_tWa, n_tDe)) : mR l yX7_daysByDryness wsX7_daysByDryness rmX7_daysByDryness D k sz [.ref xh, .int p1, .int p2] (wX7 k xh xaL xaT xaO xaF xaS xaI xaH xaR xaU xTf xTb ++ (wX1 k xaL lrNa lrMo lrWa lrDe lPe lDa lDr lNa lMo lWa lDe ++ (wX1 k xaT trNa trMo trWa trDe tPe tDa tDr tNa tMo tWa tDe))) (wX7 k xh xaL xaT xaO xaF xaS xaI xaH xaR xaU xTf xTb ++ (wX1 k xaL lrNa lrMo lrWa lrDe lPe lDa lDr lNa lMo lWa lDe ++ (wX1 k xaT trNa trMo trWa trDe n_tPe n_tDa n_tDr n_tNa n_tMo n_tWa n_tDe))) (some (.int r_)) := by
  refine mR_of (cc := cX7_daysByDryness) (maxL := 3) (ret := some .int) (by decide) rfl (Nat.le_of_ble_eq_true rfl) [(0, .ref xh), (1, .int p1), (2, .int p2)] rfl ?_
  intro p e s m below meth c A ls args Q cx hK hA hw hl hQ
  have fx := cx.1
  obtain ⟨⟨hx, hb, hml, hown, hts⟩, hr, hlocks⟩ := cx
  have hinX7 : ∀ w ∈ wsX70, w ∈ wsX7_daysByDryness := fun w h => List.mem_cons_of_mem _ (List.mem_append_left _ (List.mem_append_right _ h))
  have hinX1 : ∀ w ∈ wsX10, w ∈ wsX7_daysByDryness := fun w h => List.mem_cons_of_mem _ (List.mem_append_right _ h)
  have q_1 := hts (.fieldLink RX7 16 "DebtRides" "trial" "LDebtRides$Land;") (List.mem_of_getElem? (i := 1) rfl)
  have q_2 := hts (.fieldLink RX7 10 "DebtRides" "land" "LDebtRides$Land;") (List.mem_of_getElem? (i := 2) rfl)
  have q_3 := hts (.fieldLink RX7 112 "DebtRides$Land" "dryness" "I") (List.mem_of_getElem? (i := 3) rfl)
  have h := hf
  unfold f_X7_daysByDryness at h
  clear hf
  refine lv_aload_n hx hb dX7_daysByDryness_0 rfl (lv_at hl 0 rfl) ?_
  refine va_get (ci := 7) (v := .ref xaT) (C := RX7) (T := TX7) (N := 11) hx hb hts hinX7 hown hK.1 hw.1 0 rfl rfl 1 (by decide) q_1 (fun _ h9 => h9) rfl dX7_daysByDryness_1 ?_
  refine lv_aload_n hx hb dX7_daysByDryness_4 rfl (lv_at hl 0 rfl) ?_
  refine va_get (ci := 7) (v := .ref xaL) (C := RX7) (T := TX7) (N := 11) hx hb hts hinX7 hown hK.1 hw.1 0 rfl rfl 0 (by decide) q_2 (fun _ h9 => h9) rfl dX7_daysByDryness_5 ?_
  obtain ⟨tPe_1, tDa_2, tDr_3, tNa_4, tMo_5, tWa_6, tDe_7, hf, h⟩ := b7_inv h
  refine k_callV (host := "") fx hK hA hw (c_X1_become l D k xaT trNa trMo trWa trDe xaL lrNa lrMo lrWa lrDe _ tPe tDa tDr tNa tMo tWa tDe lPe lDa lDr lNa lMo lWa lDe tPe_1 tDa_2 tDr_3 tNa_4 tMo_5 tWa_6 tDe_7 hf) (cwV 1 hts gX7_daysByDryness_X1_become rfl rfl rfl (by decide +kernel) ⟨by decide, by decide⟩) (As := [.ref xaL]) (wr := [(xh, .inr (7, [.ref xaL, .ref xaT, .ref xaO, .ref xaF, .ref xaS, .ref xaI, .ref xaH, .ref xaR, .ref xaU, .int xTf, .int xTb]))]) (ws' := wX7 k xh xaL xaT xaO xaF xaS xaI xaH xaR xaU xTf xTb ++ (wX1 k xaL lrNa lrMo lrWa lrDe lPe lDa lDr lNa lMo lWa lDe ++ (wX1 k xaT trNa trMo trWa trDe tPe_1 tDa_2 tDr_3 tNa_4 tMo_5 tWa_6 tDe_7))) [6, 7, 8, 9, 10, 1, 2, 3, 4, 5] [0] [0, 6, 7, 8, 9, 10, 1, 2, 3, 4, 5] rfl rfl (by decide) (by decide) (by decide) rfl (by decide) 1 rfl rfl [] rfl hl.1 rfl (Nat.le_of_ble_eq_true rfl) dX7_daysByDryness_8 ⟨by decide, by decide⟩ (fun H locs (hw : Wd D A s.heap H locs (wX7 k xh xaL xaT xaO xaF xaS xaI xaH xaR xaU xTf xTb ++ (wX1 k xaL lrNa lrMo lrWa lrDe lPe lDa lDr lNa lMo lWa lDe ++ (wX1 k xaT trNa trMo trWa trDe tPe_1 tDa_2 tDr_3 tNa_4 tMo_5 tWa_6 tDe_7)))) => ?_)
  refine W.eq (g2 := F0 m 11 ls ([])) rfl ?_
  refine lv_aload_n hx hb dX7_daysByDryness_11 rfl (lv_at hl 0 rfl) ?_
  refine va_get (ci := 7) (v := .ref xaT) (C := RX7) (T := TX7) (N := 11) hx hb hts hinX7 hown hK.1 hw.1 0 rfl rfl 1 (by decide) q_1 (fun _ h9 => h9) rfl dX7_daysByDryness_12 ?_
  refine lv_iload_n hx hb dX7_daysByDryness_15 rfl (lv_at hl 2 rfl) ?_
  refine va_put (ci := 1) (v := .int p2) (ty := tyX1 2) (C := RX1) (T := TX1) (N := 7) hx hb hts hinX1 tyX1 tyX1_ok nmX1 hown hK.1 hw.1 hw.2.1 hw.2.2 6 rfl rfl 2 (by decide) q_3 (fun _ h9 => h9) rfl (tyX1_ok 2 (by decide)) rfl rfl (Nat.le_of_ble_eq_true rfl) dX7_daysByDryness_16 (fun H locs hP hD hS => ?_)
  have hw : Wd D A s.heap H locs (wX7 k xh xaL xaT xaO xaF xaS xaI xaH xaR xaU xTf xTb ++ (wX1 k xaL lrNa lrMo lrWa lrDe lPe lDa lDr lNa lMo lWa lDe ++ (wX1 k xaT trNa trMo trWa trDe tPe_1 tDa_2 p2 tNa_4 tMo_5 tWa_6 tDe_7))) := ⟨hP, hD, hS⟩
  refine lv_aload_n hx hb dX7_daysByDryness_19 rfl (lv_at hl 0 rfl) ?_
  refine va_get (ci := 7) (v := .ref xaT) (C := RX7) (T := TX7) (N := 11) hx hb hts hinX7 hown hK.1 hw.1 0 rfl rfl 1 (by decide) q_1 (fun _ h9 => h9) rfl dX7_daysByDryness_20 ?_
  refine lv_iload_n hx hb dX7_daysByDryness_23 rfl (lv_at hl 1 rfl) ?_
  obtain ⟨r_8, tDa_9, tMo_10, tDe_11, hf, h⟩ := b4_inv h
  refine k_callV (host := "") fx hK hA hw (c_X1_daysTillRiding l D k xaT trNa trMo trWa trDe _ tPe_1 tDa_2 p2 tNa_4 tMo_5 tWa_6 tDe_7 p1 r_8 tDa_9 tMo_10 tDe_11 hf) (cwV 1 hts gX7_daysByDryness_X1_daysTillRiding rfl rfl rfl (by decide +kernel) ⟨by decide, by decide⟩) (As := [.int p1]) (wr := [(xh, .inr (7, [.ref xaL, .ref xaT, .ref xaO, .ref xaF, .ref xaS, .ref xaI, .ref xaH, .ref xaR, .ref xaU, .int xTf, .int xTb])), (xaL, .inr (1, [.int lPe, .int lDa, .int lDr, .ref lrNa, .ref lrMo, .ref lrWa, .ref lrDe])), (lrNa, .inl (k 0, 5, .inl lNa)), (lrMo, .inl (k 0, 5, .inl lMo)), (lrWa, .inl (k 0, 5, .inl lWa)), (lrDe, .inl (k 0, 25, .inl lDe))]) (ws' := wX7 k xh xaL xaT xaO xaF xaS xaI xaH xaR xaU xTf xTb ++ (wX1 k xaL lrNa lrMo lrWa lrDe lPe lDa lDr lNa lMo lWa lDe ++ (wX1 k xaT trNa trMo trWa trDe tPe_1 tDa_9 p2 tNa_4 tMo_10 tWa_6 tDe_11))) [6, 7, 8, 9, 10] [0, 1, 2, 3, 4, 5] [0, 1, 2, 3, 4, 5, 6, 7, 8, 9, 10] rfl rfl (by decide) (by decide) (by decide) rfl (by decide) 1 rfl rfl [] rfl hl.1 rfl (Nat.le_of_ble_eq_true rfl) dX7_daysByDryness_24 ⟨by decide, by decide⟩ (fun H locs (hw : Wd D A s.heap H locs (wX7 k xh xaL xaT xaO xaF xaS xaI xaH xaR xaU xTf xTb ++ (wX1 k xaL lrNa lrMo lrWa lrDe lPe lDa lDr lNa lMo lWa lDe ++ (wX1 k xaT trNa trMo trWa trDe tPe_1 tDa_9 p2 tNa_4 tMo_10 tWa_6 tDe_11)))) => ?_)
  refine W.eq (g2 := F0 m 27 ls ([.int r_8])) rfl ?_
  cases h
  exact k_iret hx hb hr hlocks hw rfl dX7_daysByDryness_27 hQ
abbrev rmX7_drift : Room := { frames := 4, cells := 0, slots := 0, locals := 94 }
set_option maxHeartbeats 4000000 in
set_option maxRecDepth 100000 in
theorem c_X7_drift (l : Launch) (D : va_G) (k : Nat → ClassId) (xh xaL xaT xaO xaF xaS xaI xaH xaR xaU lrNa lrMo lrWa lrDe trNa trMo trWa trDe : Nat) (sz : Nat) (xTf : Int32) (xTb : Int32) (lPe : Int32) (lDa : Int32) (lDr : Int32) (lNa : (Nat → Int32)) (lMo : (Nat → Int32)) (lWa : (Nat → Int32)) (lDe : (Nat → Int32)) (tPe : Int32) (tDa : Int32) (tDr : Int32) (tNa : (Nat → Int32)) (tMo : (Nat → Int32)) (tWa : (Nat → Int32)) (tDe : (Nat → Int32)) (p1 : Int32) (p2 : Int32) (p3 : Int32) (r_ : Int32) (n_tPe : Int32) (n_tDa : Int32) (n_tDr : Int32) (n_tNa : (Nat → Int32)) (n_tMo : (Nat → Int32)) (n_tWa : (Nat → Int32)) (n_tDe : (Nat → Int32)) (hf : f_X7_drift lPe lDa lDr lNa lMo lWa lDe tPe tDa tDr tNa tMo tWa tDe p1 p2 p3 = some (r_, n_tPe, n_tDa, n_tDr, n_tNa, n_tMo, n_tWa, n_tDe)) : mR l yX7_drift wsX7_drift rmX7_drift D k sz [.ref xh, .int p1, .int p2, .int p3] (wX7 k xh xaL xaT xaO xaF xaS xaI xaH xaR xaU xTf xTb ++ (wX1 k xaL lrNa lrMo lrWa lrDe lPe lDa lDr lNa lMo lWa lDe ++ (wX1 k xaT trNa trMo trWa trDe tPe tDa tDr tNa tMo tWa tDe))) (wX7 k xh xaL xaT xaO xaF xaS xaI xaH xaR xaU xTf xTb ++ (wX1 k xaL lrNa lrMo lrWa lrDe lPe lDa lDr lNa lMo lWa lDe ++ (wX1 k xaT trNa trMo trWa trDe n_tPe n_tDa n_tDr n_tNa n_tMo n_tWa n_tDe))) (some (.int r_)) := by
  refine mR_of (cc := cX7_drift) (maxL := 8) (ret := some .int) (by decide) rfl (Nat.le_of_ble_eq_true rfl) [(0, .ref xh), (1, .int p1), (2, .int p2), (3, .int p3)] rfl ?_
  intro p e s m below meth c A ls args Q cx hK hA hw hl hQ
  have fx := cx.1
  obtain ⟨⟨hx, hb, hml, hown, hts⟩, hr, hlocks⟩ := cx
  have hinX7 : ∀ w ∈ wsX70, w ∈ wsX7_drift := fun w h => List.mem_cons_of_mem _ (List.mem_append_left _ (List.mem_append_right _ h))
  have hinX1 : ∀ w ∈ wsX10, w ∈ wsX7_drift := fun w h => List.mem_cons_of_mem _ (List.mem_append_right _ h)
  have q_1 := hts (.fieldLink RX7 10 "DebtRides" "land" "LDebtRides$Land;") (List.mem_of_getElem? (i := 1) rfl)
  have q_2 := hts (.fieldLink RX7 106 "DebtRides$Land" "people" "I") (List.mem_of_getElem? (i := 2) rfl)
  have q_3 := hts (.fieldLink RX7 16 "DebtRides" "trial" "LDebtRides$Land;") (List.mem_of_getElem? (i := 3) rfl)
  have q_4 := hts (.constant RX7 247 (1103515245)) (List.mem_of_getElem? (i := 4) rfl)
  have q_5 := hts (.fieldLink RX7 112 "DebtRides$Land" "dryness" "I") (List.mem_of_getElem? (i := 5) rfl)
  have h := hf
  unfold f_X7_drift at h
  clear hf
  refine lv_iload_n hx hb dX7_drift_0 rfl (lv_at hl 2 rfl) ?_
  refine lv_iconst (v := 1) hx hb dX7_drift_1 (by decide) ?_
  refine lv_bipush (v := 60) hx hb dX7_drift_2 (by decide) ?_
  obtain ⟨r_1, hf, h⟩ := b1_inv h
  refine k_callS (b := 0) (C := "") (host := "") fx hK hA hw (c_X7_within l D k _ p2 1 60 r_1 hf) (va_cwS 3 hts gX7_drift_X7_within rfl rfl rfl (by decide +kernel) ⟨by decide, by decide⟩) (As := [.int p2, .int 1, .int 60]) (wr := [(xh, .inr (7, [.ref xaL, .ref xaT, .ref xaO, .ref xaF, .ref xaS, .ref xaI, .ref xaH, .ref xaR, .ref xaU, .int xTf, .int xTb])), (xaL, .inr (1, [.int lPe, .int lDa, .int lDr, .ref lrNa, .ref lrMo, .ref lrWa, .ref lrDe])), (lrNa, .inl (k 0, 5, .inl lNa)), (lrMo, .inl (k 0, 5, .inl lMo)), (lrWa, .inl (k 0, 5, .inl lWa)), (lrDe, .inl (k 0, 25, .inl lDe)), (xaT, .inr (1, [.int tPe, .int tDa, .int tDr, .ref trNa, .ref trMo, .ref trWa, .ref trDe])), (trNa, .inl (k 0, 5, .inl tNa)), (trMo, .inl (k 0, 5, .inl tMo)), (trWa, .inl (k 0, 5, .inl tWa)), (trDe, .inl (k 0, 25, .inl tDe))]) (ws' := wX7 k xh xaL xaT xaO xaF xaS xaI xaH xaR xaU xTf xTb ++ (wX1 k xaL lrNa lrMo lrWa lrDe lPe lDa lDr lNa lMo lWa lDe ++ (wX1 k xaT trNa trMo trWa trDe tPe tDa tDr tNa tMo tWa tDe))) [] [0, 1, 2, 3, 4, 5, 6, 7, 8, 9, 10] [0, 1, 2, 3, 4, 5, 6, 7, 8, 9, 10] rfl rfl (by decide) (by decide) (by decide) rfl (by decide) [] rfl hl.1 rfl (Nat.le_of_ble_eq_true rfl) dX7_drift_4 ⟨by decide, by decide⟩ (fun H locs (hw : Wd D A s.heap H locs (wX7 k xh xaL xaT xaO xaF xaS xaI xaH xaR xaU xTf xTb ++ (wX1 k xaL lrNa lrMo lrWa lrDe lPe lDa lDr lNa lMo lWa lDe ++ (wX1 k xaT trNa trMo trWa trDe tPe tDa tDr tNa tMo tWa tDe)))) => ?_)
  refine W.eq (g2 := F0 m 7 ls ([.int r_1])) rfl ?_
  refine kb_if_eq (tgt := 19) hx hb dX7_drift_7 (by decide) h (fun c_7 h => ?_) (fun c_7 h => ?_)
  · refine lv_iconst (v := (-1)) hx hb dX7_drift_19 (by decide) ?_
    cases h
    exact k_iret hx hb hr hlocks hw rfl dX7_drift_20 hQ
  · refine lv_iload_n hx hb dX7_drift_10 rfl (lv_at hl 3 rfl) ?_
    refine lv_iconst (v := 0) hx hb dX7_drift_11 (by decide) ?_
    refine lv_iconst (v := 1) hx hb dX7_drift_12 (by decide) ?_
    obtain ⟨r_2, hf, h⟩ := b1_inv h
    refine k_callS (b := 0) (C := "") (host := "") fx hK hA hw (c_X7_within l D k _ p3 0 1 r_2 hf) (va_cwS 3 hts gX7_drift_X7_within rfl rfl rfl (by decide +kernel) ⟨by decide, by decide⟩) (As := [.int p3, .int 0, .int 1]) (wr := [(xh, .inr (7, [.ref xaL, .ref xaT, .ref xaO, .ref xaF, .ref xaS, .ref xaI, .ref xaH, .ref xaR, .ref xaU, .int xTf, .int xTb])), (xaL, .inr (1, [.int lPe, .int lDa, .int lDr, .ref lrNa, .ref lrMo, .ref lrWa, .ref lrDe])), (lrNa, .inl (k 0, 5, .inl lNa)), (lrMo, .inl (k 0, 5, .inl lMo)), (lrWa, .inl (k 0, 5, .inl lWa)), (lrDe, .inl (k 0, 25, .inl lDe)), (xaT, .inr (1, [.int tPe, .int tDa, .int tDr, .ref trNa, .ref trMo, .ref trWa, .ref trDe])), (trNa, .inl (k 0, 5, .inl tNa)), (trMo, .inl (k 0, 5, .inl tMo)), (trWa, .inl (k 0, 5, .inl tWa)), (trDe, .inl (k 0, 25, .inl tDe))]) (ws' := wX7 k xh xaL xaT xaO xaF xaS xaI xaH xaR xaU xTf xTb ++ (wX1 k xaL lrNa lrMo lrWa lrDe lPe lDa lDr lNa lMo lWa lDe ++ (wX1 k xaT trNa trMo trWa trDe tPe tDa tDr tNa tMo tWa tDe))) [] [0, 1, 2, 3, 4, 5, 6, 7, 8, 9, 10] [0, 1, 2, 3, 4, 5, 6, 7, 8, 9, 10] rfl rfl (by decide) (by decide) (by decide) rfl (by decide) [] rfl hl.1 rfl (Nat.le_of_ble_eq_true rfl) dX7_drift_13 ⟨by decide, by decide⟩ (fun H locs (hw : Wd D A s.heap H locs (wX7 k xh xaL xaT xaO xaF xaS xaI xaH xaR xaU xTf xTb ++ (wX1 k xaL lrNa lrMo lrWa lrDe lPe lDa lDr lNa lMo lWa lDe ++ (wX1 k xaT trNa trMo trWa trDe tPe tDa tDr tNa tMo tWa tDe)))) => ?_)
    refine W.eq (g2 := F0 m 16 ls ([.int r_2])) rfl ?_
    refine kb_if_ne (tgt := 21) hx hb dX7_drift_16 (by decide) h (fun c_16 h => ?_) (fun c_16 h => ?_)
    · refine lv_iconst (v := (-1)) hx hb dX7_drift_19 (by decide) ?_
      cases h
      exact k_iret hx hb hr hlocks hw rfl dX7_drift_20 hQ
    · refine lv_aload_n hx hb dX7_drift_21 rfl (lv_at hl 0 rfl) ?_
      refine va_get (ci := 7) (v := .ref xaL) (C := RX7) (T := TX7) (N := 11) hx hb hts hinX7 hown hK.1 hw.1 0 rfl rfl 0 (by decide) q_1 (fun _ h9 => h9) rfl dX7_drift_22 ?_
      refine va_get (ci := 1) (v := .int lPe) (C := RX1) (T := TX1) (N := 7) hx hb hts hinX1 hown hK.1 hw.1 1 rfl rfl 0 (by decide) q_2 (fun _ h9 => h9) rfl dX7_drift_25 ?_
      refine lv_istore (lv' := [(4, .int lPe), (0, .ref xh), (1, .int p1), (2, .int p2), (3, .int p3)]) hx hb dX7_drift_28 hl (by decide) rfl (fun ls hl => ?_)
      refine lv_iload hx hb dX7_drift_30 (lv_at hl 0 rfl) ?_
      refine kb_if_ne (tgt := 38) hx hb dX7_drift_32 (by decide) h (fun c_32 h => ?_) (fun c_32 h => ?_)
      · refine lv_bipush (v := (-2)) hx hb dX7_drift_35 (by decide) ?_
        cases h
        exact k_iret hx hb hr hlocks hw rfl dX7_drift_37 hQ
      · refine lv_aload_n hx hb dX7_drift_38 rfl (lv_at hl 1 rfl) ?_
        refine va_get (ci := 7) (v := .ref xaT) (C := RX7) (T := TX7) (N := 11) hx hb hts hinX7 hown hK.1 hw.1 0 rfl rfl 1 (by decide) q_3 (fun _ h9 => h9) rfl dX7_drift_39 ?_
        refine lv_aload_n hx hb dX7_drift_42 rfl (lv_at hl 1 rfl) ?_
        refine va_get (ci := 7) (v := .ref xaL) (C := RX7) (T := TX7) (N := 11) hx hb hts hinX7 hown hK.1 hw.1 0 rfl rfl 0 (by decide) q_1 (fun _ h9 => h9) rfl dX7_drift_43 ?_
        obtain ⟨tPe_3, tDa_4, tDr_5, tNa_6, tMo_7, tWa_8, tDe_9, hf, h⟩ := b7_inv h
        refine k_callV (host := "") fx hK hA hw (c_X1_become l D k xaT trNa trMo trWa trDe xaL lrNa lrMo lrWa lrDe _ tPe tDa tDr tNa tMo tWa tDe lPe lDa lDr lNa lMo lWa lDe tPe_3 tDa_4 tDr_5 tNa_6 tMo_7 tWa_8 tDe_9 hf) (cwV 1 hts gX7_drift_X1_become rfl rfl rfl (by decide +kernel) ⟨by decide, by decide⟩) (As := [.ref xaL]) (wr := [(xh, .inr (7, [.ref xaL, .ref xaT, .ref xaO, .ref xaF, .ref xaS, .ref xaI, .ref xaH, .ref xaR, .ref xaU, .int xTf, .int xTb]))]) (ws' := wX7 k xh xaL xaT xaO xaF xaS xaI xaH xaR xaU xTf xTb ++ (wX1 k xaL lrNa lrMo lrWa lrDe lPe lDa lDr lNa lMo lWa lDe ++ (wX1 k xaT trNa trMo trWa trDe tPe_3 tDa_4 tDr_5 tNa_6 tMo_7 tWa_8 tDe_9))) [6, 7, 8, 9, 10, 1, 2, 3, 4, 5] [0] [0, 6, 7, 8, 9, 10, 1, 2, 3, 4, 5] rfl rfl (by decide) (by decide) (by decide) rfl (by decide) 1 rfl rfl [] rfl hl.1 rfl (Nat.le_of_ble_eq_true rfl) dX7_drift_46 ⟨by decide, by decide⟩ (fun H locs (hw : Wd D A s.heap H locs (wX7 k xh xaL xaT xaO xaF xaS xaI xaH xaR xaU xTf xTb ++ (wX1 k xaL lrNa lrMo lrWa lrDe lPe lDa lDr lNa lMo lWa lDe ++ (wX1 k xaT trNa trMo trWa trDe tPe_3 tDa_4 tDr_5 tNa_6 tMo_7 tWa_8 tDe_9)))) => ?_)
        refine W.eq (g2 := F0 m 49 ls ([])) rfl ?_
        refine lv_iload_n hx hb dX7_drift_49 rfl (lv_at hl 2 rfl) ?_
        refine lv_istore (lv' := [(5, .int p1), (4, .int lPe), (0, .ref xh), (1, .int p1), (2, .int p2), (3, .int p3)]) hx hb dX7_drift_50 hl (by decide) rfl (fun ls hl => ?_)
        refine lv_iconst (v := 0) hx hb dX7_drift_52 (by decide) ?_
        refine lv_istore (lv' := [(6, .int 0), (5, .int p1), (4, .int lPe), (0, .ref xh), (1, .int p1), (2, .int p2), (3, .int p3)]) hx hb dX7_drift_53 hl (by decide) rfl (fun ls hl => ?_)
        obtain ⟨tDa_15, tMo_16, tDe_17, hL_55, h⟩ := b3_inv h
        have X_55 : ∀ (H : Heap) (locs : List Loc) (ls : Array Slot), Wd D A s.heap H locs (wX7 k xh xaL xaT xaO xaF xaS xaI xaH xaR xaU xTf xTb ++ (wX1 k xaL lrNa lrMo lrWa lrDe lPe lDa lDr lNa lMo lWa lDe ++ (wX1 k xaT trNa trMo trWa trDe tPe_3 tDa_15 tDr_5 tNa_6 tMo_16 tWa_8 tDe_17))) → lv_has ls 8 [(0, .ref xh), (3, .int p3)] → W p l e rmX7_drift s m args below meth c H locs 0 0 Q (F0 m 135 ls []) := by
          intro H locs ls hw hl
          refine lv_iload_n hx hb dX7_drift_135 rfl (lv_at hl 1 rfl) ?_
          refine kb_if_ne (tgt := 149) hx hb dX7_drift_136 (by decide) h (fun c_136 h => ?_) (fun c_136 h => ?_)
          · refine lv_aload_n hx hb dX7_drift_139 rfl (lv_at hl 0 rfl) ?_
            refine va_get (ci := 7) (v := .ref xaT) (C := RX7) (T := TX7) (N := 11) hx hb hts hinX7 hown hK.1 hw.1 0 rfl rfl 1 (by decide) q_3 (fun _ h9 => h9) rfl dX7_drift_140 ?_
            obtain ⟨r_27, hf, h⟩ := b1_inv h
            refine k_callV (host := "") fx hK hA hw (c_X1_owedInAll l D k xaT trNa trMo trWa trDe _ tPe_3 tDa_15 tDr_5 tNa_6 tMo_16 tWa_8 tDe_17 r_27 hf) (cwV 0 hts gX7_drift_X1_owedInAll rfl rfl rfl (by decide +kernel) ⟨by decide, by decide⟩) (As := []) (wr := [(xh, .inr (7, [.ref xaL, .ref xaT, .ref xaO, .ref xaF, .ref xaS, .ref xaI, .ref xaH, .ref xaR, .ref xaU, .int xTf, .int xTb])), (xaL, .inr (1, [.int lPe, .int lDa, .int lDr, .ref lrNa, .ref lrMo, .ref lrWa, .ref lrDe])), (lrNa, .inl (k 0, 5, .inl lNa)), (lrMo, .inl (k 0, 5, .inl lMo)), (lrWa, .inl (k 0, 5, .inl lWa)), (lrDe, .inl (k 0, 25, .inl lDe))]) (ws' := wX7 k xh xaL xaT xaO xaF xaS xaI xaH xaR xaU xTf xTb ++ (wX1 k xaL lrNa lrMo lrWa lrDe lPe lDa lDr lNa lMo lWa lDe ++ (wX1 k xaT trNa trMo trWa trDe tPe_3 tDa_15 tDr_5 tNa_6 tMo_16 tWa_8 tDe_17))) [6, 7, 8, 9, 10] [0, 1, 2, 3, 4, 5] [0, 1, 2, 3, 4, 5, 6, 7, 8, 9, 10] rfl rfl (by decide) (by decide) (by decide) rfl (by decide) 1 rfl rfl [] rfl hl.1 rfl (Nat.le_of_ble_eq_true rfl) dX7_drift_143 ⟨by decide, by decide⟩ (fun H locs (hw : Wd D A s.heap H locs (wX7 k xh xaL xaT xaO xaF xaS xaI xaH xaR xaU xTf xTb ++ (wX1 k xaL lrNa lrMo lrWa lrDe lPe lDa lDr lNa lMo lWa lDe ++ (wX1 k xaT trNa trMo trWa trDe tPe_3 tDa_15 tDr_5 tNa_6 tMo_16 tWa_8 tDe_17)))) => ?_)
            refine W.eq (g2 := F0 m 146 ls ([.int r_27])) rfl ?_
            refine lv_goto (tgt := 156) hx hb dX7_drift_146 (by decide) ?_
            cases h
            exact k_iret hx hb hr hlocks hw rfl dX7_drift_156 hQ
          · refine lv_aload_n hx hb dX7_drift_149 rfl (lv_at hl 0 rfl) ?_
            refine va_get (ci := 7) (v := .ref xaT) (C := RX7) (T := TX7) (N := 11) hx hb hts hinX7 hown hK.1 hw.1 0 rfl rfl 1 (by decide) q_3 (fun _ h9 => h9) rfl dX7_drift_150 ?_
            obtain ⟨r_26, hf, h⟩ := b1_inv h
            refine k_callV (host := "") fx hK hA hw (c_X1_riders l D k xaT trNa trMo trWa trDe _ tPe_3 tDa_15 tDr_5 tNa_6 tMo_16 tWa_8 tDe_17 r_26 hf) (cwV 0 hts gX7_drift_X1_riders rfl rfl rfl (by decide +kernel) ⟨by decide, by decide⟩) (As := []) (wr := [(xh, .inr (7, [.ref xaL, .ref xaT, .ref xaO, .ref xaF, .ref xaS, .ref xaI, .ref xaH, .ref xaR, .ref xaU, .int xTf, .int xTb])), (xaL, .inr (1, [.int lPe, .int lDa, .int lDr, .ref lrNa, .ref lrMo, .ref lrWa, .ref lrDe])), (lrNa, .inl (k 0, 5, .inl lNa)), (lrMo, .inl (k 0, 5, .inl lMo)), (lrWa, .inl (k 0, 5, .inl lWa)), (lrDe, .inl (k 0, 25, .inl lDe))]) (ws' := wX7 k xh xaL xaT xaO xaF xaS xaI xaH xaR xaU xTf xTb ++ (wX1 k xaL lrNa lrMo lrWa lrDe lPe lDa lDr lNa lMo lWa lDe ++ (wX1 k xaT trNa trMo trWa trDe tPe_3 tDa_15 tDr_5 tNa_6 tMo_16 tWa_8 tDe_17))) [6, 7, 8, 9, 10] [0, 1, 2, 3, 4, 5] [0, 1, 2, 3, 4, 5, 6, 7, 8, 9, 10] rfl rfl (by decide) (by decide) (by decide) rfl (by decide) 1 rfl rfl [] rfl hl.1 rfl (Nat.le_of_ble_eq_true rfl) dX7_drift_153 ⟨by decide, by decide⟩ (fun H locs (hw : Wd D A s.heap H locs (wX7 k xh xaL xaT xaO xaF xaS xaI xaH xaR xaU xTf xTb ++ (wX1 k xaL lrNa lrMo lrWa lrDe lPe lDa lDr lNa lMo lWa lDe ++ (wX1 k xaT trNa trMo trWa trDe tPe_3 tDa_15 tDr_5 tNa_6 tMo_16 tWa_8 tDe_17)))) => ?_)
            refine W.eq (g2 := F0 m 156 ls ([.int r_26])) rfl ?_
            cases h
            exact k_iret hx hb hr hlocks hw rfl dX7_drift_156 hQ
        clear h
        have LP_55 : ∀ (n : Nat) (v5_10 : Int32) (v6_11 : Int32) (tDa_12 : Int32) (tMo_13 : (Nat → Int32)) (tDe_14 : (Nat → Int32)), f_X7_drift_L55 lPe p2 tPe_3 tNa_6 tWa_8 tDr_5 n v5_10 v6_11 tDa_12 tMo_13 tDe_14 = some (tDa_15, tMo_16, tDe_17) → ∀ (H : Heap) (locs : List Loc) (ls : Array Slot), Wd D A s.heap H locs (wX7 k xh xaL xaT xaO xaF xaS xaI xaH xaR xaU xTf xTb ++ (wX1 k xaL lrNa lrMo lrWa lrDe lPe lDa lDr lNa lMo lWa lDe ++ (wX1 k xaT trNa trMo trWa trDe tPe_3 tDa_12 tDr_5 tNa_6 tMo_13 tWa_8 tDe_14))) → lv_has ls 8 [(0, .ref xh), (2, .int p2), (3, .int p3), (4, .int lPe), (5, .int v5_10), (6, .int v6_11)] → W p l e rmX7_drift s m args below meth c H locs 0 0 Q (F0 m 55 ls []) := by
          clear hL_55 hw hl
          intro n
          induction n with
          | zero => intro v5_10 v6_11 tDa_12 tMo_13 tDe_14 h; rw [f_X7_drift_L55] at h; cases h
          | succ n ih =>
            intro v5_10 v6_11 tDa_12 tMo_13 tDe_14 h H locs ls hw hl
            rw [f_X7_drift_L55] at h
            refine lv_iload hx hb dX7_drift_55 (lv_at hl 5 rfl) ?_
            refine lv_iload_n hx hb dX7_drift_57 rfl (lv_at hl 1 rfl) ?_
            refine kb_icmp_ge (tgt := 135) hx hb dX7_drift_58 (by decide) h (fun c_58 h => ?_) (fun c_58 h => ?_)
            · cases h
              exact X_55 _ _ _ hw (lv_sub hl [0, 2] rfl)
            · refine lv_iload hx hb dX7_drift_61 (lv_at hl 4 rfl) ?_
              refine lv_ldc (v := 1103515245) hx hb hown q_4 dX7_drift_63 ?_
              refine lv_imul hx hb dX7_drift_65 ?_
              refine lv_sipush (v := 12345) hx hb dX7_drift_66 (by decide) ?_
              refine lv_iadd hx hb dX7_drift_69 ?_
              refine lv_istore (lv' := [(5, .int ((v5_10 * 1103515245) + 12345)), (0, .ref xh), (2, .int p2), (3, .int p3), (4, .int lPe), (6, .int v6_11)]) hx hb dX7_drift_70 hl (by decide) rfl (fun ls hl => ?_)
              refine lv_iload hx hb dX7_drift_72 (lv_at hl 0 rfl) ?_
              refine lv_bipush (v := 16) hx hb dX7_drift_74 (by decide) ?_
              refine lv_iushr hx hb dX7_drift_76 rfl ?_
              refine lv_sipush (v := 32767) hx hb dX7_drift_77 (by decide) ?_
              refine lv_iand hx hb dX7_drift_80 ?_
              refine lv_topi (fun z_18 ez_18 => ?_)
              have h := nm_inv ez_18 h
              refine lv_istore (lv' := [(7, .int z_18), (5, .int ((v5_10 * 1103515245) + 12345)), (0, .ref xh), (2, .int p2), (3, .int p3), (4, .int lPe), (6, .int v6_11)]) hx hb dX7_drift_81 hl (by decide) rfl (fun ls hl => ?_)
              refine lv_aload_n hx hb dX7_drift_83 rfl (lv_at hl 2 rfl) ?_
              refine va_get (ci := 7) (v := .ref xaT) (C := RX7) (T := TX7) (N := 11) hx hb hts hinX7 hown hK.1 hw.1 0 rfl rfl 1 (by decide) q_3 (fun _ h9 => h9) rfl dX7_drift_84 ?_
              refine lv_iload hx hb dX7_drift_87 (lv_at hl 0 rfl) ?_
              refine lv_iload hx hb dX7_drift_89 (lv_at hl 5 rfl) ?_
              refine k_irem hx hb dX7_drift_91 h (fun h => ?_)
              refine lv_iload hx hb dX7_drift_92 (lv_at hl 0 rfl) ?_
              refine lv_bipush (v := 8) hx hb dX7_drift_94 (by decide) ?_
              refine lv_idiv hx hb dX7_drift_96 (by decide) ?_
              refine lv_iload hx hb dX7_drift_97 (lv_at hl 5 rfl) ?_
              refine k_irem hx hb dX7_drift_99 h (fun h => ?_)
              refine lv_iconst (v := 1) hx hb dX7_drift_100 (by decide) ?_
              refine lv_iload hx hb dX7_drift_101 (lv_at hl 0 rfl) ?_
              refine lv_bipush (v := 64) hx hb dX7_drift_103 (by decide) ?_
              refine lv_idiv hx hb dX7_drift_105 (by decide) ?_
              refine lv_bipush (v := 9) hx hb dX7_drift_106 (by decide) ?_
              refine lv_irem hx hb dX7_drift_108 (by decide) ?_
              refine lv_iadd hx hb dX7_drift_109 ?_
              obtain ⟨r_19, tMo_20, tDe_21, hf, h⟩ := b3_inv h
              refine k_callV (host := "") fx hK hA hw (c_X1_lendTo l D k xaT trNa trMo trWa trDe _ tPe_3 tDa_12 tDr_5 tNa_6 tMo_13 tWa_8 tDe_14 (z_18 - z_18 / lPe * lPe) ((z_18 / 8) - (z_18 / 8) / lPe * lPe) (1 + ((z_18 / 64) - (z_18 / 64) / 9 * 9)) r_19 tMo_20 tDe_21 hf) (cwV 3 hts gX7_drift_X1_lendTo rfl rfl rfl (by decide +kernel) ⟨by decide, by decide⟩) (As := [.int (z_18 - z_18 / lPe * lPe), .int ((z_18 / 8) - (z_18 / 8) / lPe * lPe), .int (1 + ((z_18 / 64) - (z_18 / 64) / 9 * 9))]) (wr := [(xh, .inr (7, [.ref xaL, .ref xaT, .ref xaO, .ref xaF, .ref xaS, .ref xaI, .ref xaH, .ref xaR, .ref xaU, .int xTf, .int xTb])), (xaL, .inr (1, [.int lPe, .int lDa, .int lDr, .ref lrNa, .ref lrMo, .ref lrWa, .ref lrDe])), (lrNa, .inl (k 0, 5, .inl lNa)), (lrMo, .inl (k 0, 5, .inl lMo)), (lrWa, .inl (k 0, 5, .inl lWa)), (lrDe, .inl (k 0, 25, .inl lDe))]) (ws' := wX7 k xh xaL xaT xaO xaF xaS xaI xaH xaR xaU xTf xTb ++ (wX1 k xaL lrNa lrMo lrWa lrDe lPe lDa lDr lNa lMo lWa lDe ++ (wX1 k xaT trNa trMo trWa trDe tPe_3 tDa_12 tDr_5 tNa_6 tMo_20 tWa_8 tDe_21))) [6, 7, 8, 9, 10] [0, 1, 2, 3, 4, 5] [0, 1, 2, 3, 4, 5, 6, 7, 8, 9, 10] rfl rfl (by decide) (by decide) (by decide) rfl (by decide) 1 rfl rfl [] rfl hl.1 rfl (Nat.le_of_ble_eq_true rfl) dX7_drift_110 ⟨by decide, by decide⟩ (fun H locs (hw : Wd D A s.heap H locs (wX7 k xh xaL xaT xaO xaF xaS xaI xaH xaR xaU xTf xTb ++ (wX1 k xaL lrNa lrMo lrWa lrDe lPe lDa lDr lNa lMo lWa lDe ++ (wX1 k xaT trNa trMo trWa trDe tPe_3 tDa_12 tDr_5 tNa_6 tMo_20 tWa_8 tDe_21)))) => ?_)
              refine W.eq (g2 := F0 m 113 ls ([.int r_19])) rfl ?_
              refine lv_pop hx hb dX7_drift_113 rfl ?_
              refine lv_aload_n hx hb dX7_drift_114 rfl (lv_at hl 2 rfl) ?_
              refine va_get (ci := 7) (v := .ref xaT) (C := RX7) (T := TX7) (N := 11) hx hb hts hinX7 hown hK.1 hw.1 0 rfl rfl 1 (by decide) q_3 (fun _ h9 => h9) rfl dX7_drift_115 ?_
              refine lv_aload_n hx hb dX7_drift_118 rfl (lv_at hl 2 rfl) ?_
              refine va_get (ci := 7) (v := .ref xaT) (C := RX7) (T := TX7) (N := 11) hx hb hts hinX7 hown hK.1 hw.1 0 rfl rfl 1 (by decide) q_3 (fun _ h9 => h9) rfl dX7_drift_119 ?_
              refine va_get (ci := 1) (v := .int tDr_5) (C := RX1) (T := TX1) (N := 7) hx hb hts hinX1 hown hK.1 hw.1 6 rfl rfl 2 (by decide) q_5 (fun _ h9 => h9) rfl dX7_drift_122 ?_
              obtain ⟨r_22, tDa_23, tMo_24, tDe_25, hf, h⟩ := b4_inv h
              refine k_callV (host := "") fx hK hA hw (c_X1_runDay l D k xaT trNa trMo trWa trDe _ tPe_3 tDa_12 tDr_5 tNa_6 tMo_20 tWa_8 tDe_21 tDr_5 r_22 tDa_23 tMo_24 tDe_25 hf) (cwV 1 hts gX7_drift_X1_runDay rfl rfl rfl (by decide +kernel) ⟨by decide, by decide⟩) (As := [.int tDr_5]) (wr := [(xh, .inr (7, [.ref xaL, .ref xaT, .ref xaO, .ref xaF, .ref xaS, .ref xaI, .ref xaH, .ref xaR, .ref xaU, .int xTf, .int xTb])), (xaL, .inr (1, [.int lPe, .int lDa, .int lDr, .ref lrNa, .ref lrMo, .ref lrWa, .ref lrDe])), (lrNa, .inl (k 0, 5, .inl lNa)), (lrMo, .inl (k 0, 5, .inl lMo)), (lrWa, .inl (k 0, 5, .inl lWa)), (lrDe, .inl (k 0, 25, .inl lDe))]) (ws' := wX7 k xh xaL xaT xaO xaF xaS xaI xaH xaR xaU xTf xTb ++ (wX1 k xaL lrNa lrMo lrWa lrDe lPe lDa lDr lNa lMo lWa lDe ++ (wX1 k xaT trNa trMo trWa trDe tPe_3 tDa_23 tDr_5 tNa_6 tMo_24 tWa_8 tDe_25))) [6, 7, 8, 9, 10] [0, 1, 2, 3, 4, 5] [0, 1, 2, 3, 4, 5, 6, 7, 8, 9, 10] rfl rfl (by decide) (by decide) (by decide) rfl (by decide) 1 rfl rfl [] rfl hl.1 rfl (Nat.le_of_ble_eq_true rfl) dX7_drift_125 ⟨by decide, by decide⟩ (fun H locs (hw : Wd D A s.heap H locs (wX7 k xh xaL xaT xaO xaF xaS xaI xaH xaR xaU xTf xTb ++ (wX1 k xaL lrNa lrMo lrWa lrDe lPe lDa lDr lNa lMo lWa lDe ++ (wX1 k xaT trNa trMo trWa trDe tPe_3 tDa_23 tDr_5 tNa_6 tMo_24 tWa_8 tDe_25)))) => ?_)
              refine W.eq (g2 := F0 m 128 ls ([.int r_22])) rfl ?_
              refine lv_pop hx hb dX7_drift_128 rfl ?_
              refine lv_iinc (v := v6_11 + 1) (lv' := [(6, .int (v6_11 + 1)), (7, .int z_18), (5, .int ((v5_10 * 1103515245) + 12345)), (0, .ref xh), (2, .int p2), (3, .int p3), (4, .int lPe)]) hx hb dX7_drift_129 hl (k := 6) rfl rfl (by decide) rfl (fun ls hl => ?_)
              refine lv_goto (tgt := 55) hx hb dX7_drift_132 (by decide) ?_
              exact ih _ _ _ _ _ h _ _ _ hw (lv_sub hl [3, 4, 5, 6, 2, 0] rfl)
        exact LP_55 400 p1 0 tDa_4 tMo_7 tDe_9 hL_55 _ _ _ hw (lv_sub hl [3, 5, 6, 2, 1, 0] rfl)
abbrev rmX7_dry : Room := { frames := 1, cells := 0, slots := 0, locals := 22 }
set_option maxHeartbeats 4000000 in
set_option maxRecDepth 100000 in
theorem c_X7_dry (l : Launch) (D : va_G) (k : Nat → ClassId) (xh xaL xaT xaO xaF xaS xaI xaH xaR xaU lrNa lrMo lrWa lrDe : Nat) (sz : Nat) (xTf : Int32) (xTb : Int32) (lPe : Int32) (lDa : Int32) (lDr : Int32) (lNa : (Nat → Int32)) (lMo : (Nat → Int32)) (lWa : (Nat → Int32)) (lDe : (Nat → Int32)) (p1 : Int32) (r_ : Int32) (n_lDr : Int32) (hf : f_X7_dry lDr p1 = some (r_, n_lDr)) : mR l yX7_dry wsX7_dry rmX7_dry D k sz [.ref xh, .int p1] (wX7 k xh xaL xaT xaO xaF xaS xaI xaH xaR xaU xTf xTb ++ (wX1 k xaL lrNa lrMo lrWa lrDe lPe lDa lDr lNa lMo lWa lDe)) (wX7 k xh xaL xaT xaO xaF xaS xaI xaH xaR xaU xTf xTb ++ (wX1 k xaL lrNa lrMo lrWa lrDe lPe lDa n_lDr lNa lMo lWa lDe)) (some (.int r_)) := by
  refine mR_of (cc := cX7_dry) (maxL := 3) (ret := some .int) (by decide) rfl (Nat.le_of_ble_eq_true rfl) [(0, .ref xh), (1, .int p1)] rfl ?_
  intro p e s m below meth c A ls args Q cx hK hA hw hl hQ
  have fx := cx.1
  obtain ⟨⟨hx, hb, hml, hown, hts⟩, hr, hlocks⟩ := cx
  have hinX7 : ∀ w ∈ wsX70, w ∈ wsX7_dry := fun w h => List.mem_cons_of_mem _ (List.mem_append_left _ (List.mem_append_right _ h))
  have hinX1 : ∀ w ∈ wsX10, w ∈ wsX7_dry := fun w h => List.mem_cons_of_mem _ (List.mem_append_right _ h)
  have q_1 := hts (.fieldLink RX7 10 "DebtRides" "land" "LDebtRides$Land;") (List.mem_of_getElem? (i := 1) rfl)
  have q_2 := hts (.fieldLink RX7 112 "DebtRides$Land" "dryness" "I") (List.mem_of_getElem? (i := 2) rfl)
  have h := hf
  unfold f_X7_dry at h
  clear hf
  refine lv_iload_n hx hb dX7_dry_0 rfl (lv_at hl 1 rfl) ?_
  refine lv_iconst (v := 0) hx hb dX7_dry_1 (by decide) ?_
  refine lv_bipush (v := 9) hx hb dX7_dry_2 (by decide) ?_
  obtain ⟨r_1, hf, h⟩ := b1_inv h
  refine k_callS (b := 0) (C := "") (host := "") fx hK hA hw (c_X7_within l D k _ p1 0 9 r_1 hf) (va_cwS 3 hts gX7_dry_X7_within rfl rfl rfl (by decide +kernel) ⟨by decide, by decide⟩) (As := [.int p1, .int 0, .int 9]) (wr := [(xh, .inr (7, [.ref xaL, .ref xaT, .ref xaO, .ref xaF, .ref xaS, .ref xaI, .ref xaH, .ref xaR, .ref xaU, .int xTf, .int xTb])), (xaL, .inr (1, [.int lPe, .int lDa, .int lDr, .ref lrNa, .ref lrMo, .ref lrWa, .ref lrDe])), (lrNa, .inl (k 0, 5, .inl lNa)), (lrMo, .inl (k 0, 5, .inl lMo)), (lrWa, .inl (k 0, 5, .inl lWa)), (lrDe, .inl (k 0, 25, .inl lDe))]) (ws' := wX7 k xh xaL xaT xaO xaF xaS xaI xaH xaR xaU xTf xTb ++ (wX1 k xaL lrNa lrMo lrWa lrDe lPe lDa lDr lNa lMo lWa lDe)) [] [0, 1, 2, 3, 4, 5] [0, 1, 2, 3, 4, 5] rfl rfl (by decide) (by decide) (by decide) rfl (by decide) [] rfl hl.1 rfl (Nat.le_of_ble_eq_true rfl) dX7_dry_4 ⟨by decide, by decide⟩ (fun H locs (hw : Wd D A s.heap H locs (wX7 k xh xaL xaT xaO xaF xaS xaI xaH xaR xaU xTf xTb ++ (wX1 k xaL lrNa lrMo lrWa lrDe lPe lDa lDr lNa lMo lWa lDe))) => ?_)
  refine W.eq (g2 := F0 m 7 ls ([.int r_1])) rfl ?_
  refine kb_if_ne (tgt := 12) hx hb dX7_dry_7 (by decide) h (fun c_7 h => ?_) (fun c_7 h => ?_)
  · refine lv_iconst (v := (-1)) hx hb dX7_dry_10 (by decide) ?_
    cases h
    exact k_iret hx hb hr hlocks hw rfl dX7_dry_11 hQ
  · refine lv_aload_n hx hb dX7_dry_12 rfl (lv_at hl 0 rfl) ?_
    refine va_get (ci := 7) (v := .ref xaL) (C := RX7) (T := TX7) (N := 11) hx hb hts hinX7 hown hK.1 hw.1 0 rfl rfl 0 (by decide) q_1 (fun _ h9 => h9) rfl dX7_dry_13 ?_
    refine va_get (ci := 1) (v := .int lDr) (C := RX1) (T := TX1) (N := 7) hx hb hts hinX1 hown hK.1 hw.1 1 rfl rfl 2 (by decide) q_2 (fun _ h9 => h9) rfl dX7_dry_16 ?_
    refine lv_istore_n (lv' := [(2, .int lDr), (0, .ref xh), (1, .int p1)]) hx hb dX7_dry_19 rfl hl (by decide) rfl (fun ls hl => ?_)
    refine lv_aload_n hx hb dX7_dry_20 rfl (lv_at hl 1 rfl) ?_
    refine va_get (ci := 7) (v := .ref xaL) (C := RX7) (T := TX7) (N := 11) hx hb hts hinX7 hown hK.1 hw.1 0 rfl rfl 0 (by decide) q_1 (fun _ h9 => h9) rfl dX7_dry_21 ?_
    refine lv_iload_n hx hb dX7_dry_24 rfl (lv_at hl 2 rfl) ?_
    refine va_put (ci := 1) (v := .int p1) (ty := tyX1 2) (C := RX1) (T := TX1) (N := 7) hx hb hts hinX1 tyX1 tyX1_ok nmX1 hown hK.1 hw.1 hw.2.1 hw.2.2 1 rfl rfl 2 (by decide) q_2 (fun _ h9 => h9) rfl (tyX1_ok 2 (by decide)) rfl rfl (Nat.le_of_ble_eq_true rfl) dX7_dry_25 (fun H locs hP hD hS => ?_)
    have hw : Wd D A s.heap H locs (wX7 k xh xaL xaT xaO xaF xaS xaI xaH xaR xaU xTf xTb ++ (wX1 k xaL lrNa lrMo lrWa lrDe lPe lDa p1 lNa lMo lWa lDe)) := ⟨hP, hD, hS⟩
    refine lv_iload_n hx hb dX7_dry_28 rfl (lv_at hl 0 rfl) ?_
    cases h
    exact k_iret hx hb hr hlocks hw rfl dX7_dry_29 hQ
abbrev rmX7_earns : Room := { frames := 6, cells := 0, slots := 0, locals := 140 }
set_option maxHeartbeats 4000000 in
set_option maxRecDepth 100000 in
theorem c_X7_earns (l : Launch) (D : va_G) (k : Nat → ClassId) (xh xaL xaT xaO xaF xaS xaI xaH xaR xaU lrNa lrMo lrWa lrDe trNa trMo trWa trDe srDy srWo srRi : Nat) (sz : Nat) (xTf : Int32) (xTb : Int32) (lPe : Int32) (lDa : Int32) (lDr : Int32) (lNa : (Nat → Int32)) (lMo : (Nat → Int32)) (lWa : (Nat → Int32)) (lDe : (Nat → Int32)) (tPe : Int32) (tDa : Int32) (tDr : Int32) (tNa : (Nat → Int32)) (tMo : (Nat → Int32)) (tWa : (Nat → Int32)) (tDe : (Nat → Int32)) (sDy : (Nat → Int32)) (sWo : (Nat → Int32)) (sRi : (Nat → Int32)) (sSz : Int32) (p1 : Int32) (r_ : Int32) (n_tPe : Int32) (n_tDa : Int32) (n_tDr : Int32) (n_tNa : (Nat → Int32)) (n_tMo : (Nat → Int32)) (n_tWa : (Nat → Int32)) (n_tDe : (Nat → Int32)) (hf : f_X7_earns lPe lDa lDr lNa lMo lWa lDe tPe tDa tDr tNa tMo tWa tDe sDy sWo sRi sSz p1 = some (r_, n_tPe, n_tDa, n_tDr, n_tNa, n_tMo, n_tWa, n_tDe)) : mR l yX7_earns wsX7_earns rmX7_earns D k sz [.ref xh, .int p1] (wX7 k xh xaL xaT xaO xaF xaS xaI xaH xaR xaU xTf xTb ++ (wX1 k xaL lrNa lrMo lrWa lrDe lPe lDa lDr lNa lMo lWa lDe ++ (wX1 k xaT trNa trMo trWa trDe tPe tDa tDr tNa tMo tWa tDe ++ (wX5 k xaS srDy srWo srRi sDy sWo sRi sSz)))) (wX7 k xh xaL xaT xaO xaF xaS xaI xaH xaR xaU xTf xTb ++ (wX1 k xaL lrNa lrMo lrWa lrDe lPe lDa lDr lNa lMo lWa lDe ++ (wX1 k xaT trNa trMo trWa trDe n_tPe n_tDa n_tDr n_tNa n_tMo n_tWa n_tDe ++ (wX5 k xaS srDy srWo srRi sDy sWo sRi sSz)))) (some (.int r_)) := by
  refine mR_of (cc := cX7_earns) (maxL := 2) (ret := some .int) (by decide) rfl (Nat.le_of_ble_eq_true rfl) [(0, .ref xh), (1, .int p1)] rfl ?_
  intro p e s m below meth c A ls args Q cx hK hA hw hl hQ
  have fx := cx.1
  obtain ⟨⟨hx, hb, hml, hown, hts⟩, hr, hlocks⟩ := cx
  have hinX7 : ∀ w ∈ wsX70, w ∈ wsX7_earns := fun w h => List.mem_cons_of_mem _ (List.mem_append_left _ (List.mem_append_left _ (List.mem_append_right _ h)))
  have q_1 := hts (.fieldLink RX7 10 "DebtRides" "land" "LDebtRides$Land;") (List.mem_of_getElem? (i := 1) rfl)
  have h := hf
  unfold f_X7_earns at h
  clear hf
  refine lv_aload_n hx hb dX7_earns_0 rfl (lv_at hl 0 rfl) ?_
  refine va_get (ci := 7) (v := .ref xaL) (C := RX7) (T := TX7) (N := 11) hx hb hts hinX7 hown hK.1 hw.1 0 rfl rfl 0 (by decide) q_1 (fun _ h9 => h9) rfl dX7_earns_1 ?_
  refine lv_iload_n hx hb dX7_earns_4 rfl (lv_at hl 1 rfl) ?_
  obtain ⟨r_1, hf, h⟩ := b1_inv h
  refine k_callV (host := "") fx hK hA hw (c_X1_has l D k xaL lrNa lrMo lrWa lrDe _ lPe lDa lDr lNa lMo lWa lDe p1 r_1 hf) (cwV 1 hts gX7_earns_X1_has rfl rfl rfl (by decide +kernel) ⟨by decide, by decide⟩) (As := [.int p1]) (wr := [(xh, .inr (7, [.ref xaL, .ref xaT, .ref xaO, .ref xaF, .ref xaS, .ref xaI, .ref xaH, .ref xaR, .ref xaU, .int xTf, .int xTb])), (xaT, .inr (1, [.int tPe, .int tDa, .int tDr, .ref trNa, .ref trMo, .ref trWa, .ref trDe])), (trNa, .inl (k 0, 5, .inl tNa)), (trMo, .inl (k 0, 5, .inl tMo)), (trWa, .inl (k 0, 5, .inl tWa)), (trDe, .inl (k 0, 25, .inl tDe)), (xaS, .inr (5, [.ref srDy, .ref srWo, .ref srRi, .int sSz])), (srDy, .inl (k 0, 6, .inl sDy)), (srWo, .inl (k 0, 6, .inl sWo)), (srRi, .inl (k 0, 6, .inl sRi))]) (ws' := wX7 k xh xaL xaT xaO xaF xaS xaI xaH xaR xaU xTf xTb ++ (wX1 k xaL lrNa lrMo lrWa lrDe lPe lDa lDr lNa lMo lWa lDe ++ (wX1 k xaT trNa trMo trWa trDe tPe tDa tDr tNa tMo tWa tDe ++ (wX5 k xaS srDy srWo srRi sDy sWo sRi sSz)))) [1, 2, 3, 4, 5] [0, 6, 7, 8, 9, 10, 11, 12, 13, 14] [0, 10, 11, 12, 13, 14, 1, 2, 3, 4, 5, 6, 7, 8, 9] rfl rfl (by decide) (by decide) (by decide) rfl (by decide) 1 rfl rfl [] rfl hl.1 rfl (Nat.le_of_ble_eq_true rfl) dX7_earns_5 ⟨by decide, by decide⟩ (fun H locs (hw : Wd D A s.heap H locs (wX7 k xh xaL xaT xaO xaF xaS xaI xaH xaR xaU xTf xTb ++ (wX1 k xaL lrNa lrMo lrWa lrDe lPe lDa lDr lNa lMo lWa lDe ++ (wX1 k xaT trNa trMo trWa trDe tPe tDa tDr tNa tMo tWa tDe ++ (wX5 k xaS srDy srWo srRi sDy sWo sRi sSz))))) => ?_)
  refine W.eq (g2 := F0 m 8 ls ([.int r_1])) rfl ?_
  refine kb_if_ne (tgt := 13) hx hb dX7_earns_8 (by decide) h (fun c_8 h => ?_) (fun c_8 h => ?_)
  · refine lv_iconst (v := (-1)) hx hb dX7_earns_11 (by decide) ?_
    cases h
    exact k_iret hx hb hr hlocks hw rfl dX7_earns_12 hQ
  · refine lv_aload_n hx hb dX7_earns_13 rfl (lv_at hl 0 rfl) ?_
    refine lv_iload_n hx hb dX7_earns_14 rfl (lv_at hl 1 rfl) ?_
    obtain ⟨r_2, tPe_3, tDa_4, tDr_5, tNa_6, tMo_7, tWa_8, tDe_9, hf, h⟩ := b8_inv h
    refine k_callV (host := "") fx hK hA hw (c_X7_possibleWages l D k xh xaL xaT xaO xaF xaS xaI xaH xaR xaU lrNa lrMo lrWa lrDe trNa trMo trWa trDe srDy srWo srRi _ xTf xTb lPe lDa lDr lNa lMo lWa lDe tPe tDa tDr tNa tMo tWa tDe sDy sWo sRi sSz p1 r_2 tPe_3 tDa_4 tDr_5 tNa_6 tMo_7 tWa_8 tDe_9 hf) (cwV 1 hts gX7_earns_X7_possibleWages rfl rfl rfl (by decide +kernel) ⟨by decide, by decide⟩) (As := [.int p1]) (wr := []) (ws' := wX7 k xh xaL xaT xaO xaF xaS xaI xaH xaR xaU xTf xTb ++ (wX1 k xaL lrNa lrMo lrWa lrDe lPe lDa lDr lNa lMo lWa lDe ++ (wX1 k xaT trNa trMo trWa trDe tPe_3 tDa_4 tDr_5 tNa_6 tMo_7 tWa_8 tDe_9 ++ (wX5 k xaS srDy srWo srRi sDy sWo sRi sSz)))) [0, 1, 2, 3, 4, 5, 6, 7, 8, 9, 10, 11, 12, 13, 14] [] [0, 1, 2, 3, 4, 5, 6, 7, 8, 9, 10, 11, 12, 13, 14] rfl rfl (by decide) (by decide) (by decide) rfl (by decide) 7 rfl rfl [] rfl hl.1 rfl (Nat.le_of_ble_eq_true rfl) dX7_earns_15 ⟨by decide, by decide⟩ (fun H locs (hw : Wd D A s.heap H locs (wX7 k xh xaL xaT xaO xaF xaS xaI xaH xaR xaU xTf xTb ++ (wX1 k xaL lrNa lrMo lrWa lrDe lPe lDa lDr lNa lMo lWa lDe ++ (wX1 k xaT trNa trMo trWa trDe tPe_3 tDa_4 tDr_5 tNa_6 tMo_7 tWa_8 tDe_9 ++ (wX5 k xaS srDy srWo srRi sDy sWo sRi sSz))))) => ?_)
    refine W.eq (g2 := F0 m 18 ls ([.int r_2])) rfl ?_
    cases h
    exact k_iret hx hb hr hlocks hw rfl dX7_earns_18 hQ
abbrev rmX7_end : Room := { frames := 1, cells := 0, slots := 0, locals := 22 }
set_option maxHeartbeats 4000000 in
set_option maxRecDepth 100000 in
theorem c_X7_end (l : Launch) (D : va_G) (k : Nat → ClassId) (xh xaL xaT xaO xaF xaS xaI xaH xaR xaU rrBy raD : Nat) (sz : Nat) (xTf : Int32) (xTb : Int32) (rBy : (Nat → Int32)) (rLe : Int32) (rLi : Int32) (rFf : Int32) (rFp : Int32) (rPl : Int32) (rSo : Int32) (rSt : Int32) (rVa : Int32) (rDt : Int32) (rHo : Int32) (p1 : Int32) (r_ : Int32) (n_rLe : Int32) (hf : f_X7_end rLe p1 = some (r_, n_rLe)) : mR l yX7_end wsX7_end rmX7_end D k sz [.ref xh, .int p1] (wX7 k xh xaL xaT xaO xaF xaS xaI xaH xaR xaU xTf xTb ++ (wX3 k xaR rrBy raD rBy rLe rLi rFf rFp rPl rSo rSt rVa rDt rHo)) (wX7 k xh xaL xaT xaO xaF xaS xaI xaH xaR xaU xTf xTb ++ (wX3 k xaR rrBy raD rBy n_rLe rLi rFf rFp rPl rSo rSt rVa rDt rHo)) (some (.int r_)) := by
  refine mR_of (cc := cX7_end) (maxL := 3) (ret := some .int) (by decide) rfl (Nat.le_of_ble_eq_true rfl) [(0, .ref xh), (1, .int p1)] rfl ?_
  intro p e s m below meth c A ls args Q cx hK hA hw hl hQ
  have fx := cx.1
  obtain ⟨⟨hx, hb, hml, hown, hts⟩, hr, hlocks⟩ := cx
  have hinX7 : ∀ w ∈ wsX70, w ∈ wsX7_end := fun w h => List.mem_cons_of_mem _ (List.mem_append_left _ (List.mem_append_right _ h))
  have hinX3 : ∀ w ∈ wsX30, w ∈ wsX7_end := fun w h => List.mem_cons_of_mem _ (List.mem_append_right _ h)
  have q_1 := hts (.fieldLink RX7 57 "DebtRides" "reader" "LDebtRides$Reader;") (List.mem_of_getElem? (i := 1) rfl)
  have q_2 := hts (.fieldLink RX7 69 "DebtRides$Reader" "length" "I") (List.mem_of_getElem? (i := 2) rfl)
  have h := hf
  unfold f_X7_end at h
  clear hf
  refine lv_iload_n hx hb dX7_end_0 rfl (lv_at hl 1 rfl) ?_
  refine lv_iconst (v := 0) hx hb dX7_end_1 (by decide) ?_
  refine lv_aload_n hx hb dX7_end_2 rfl (lv_at hl 0 rfl) ?_
  refine va_get (ci := 7) (v := .ref xaR) (C := RX7) (T := TX7) (N := 11) hx hb hts hinX7 hown hK.1 hw.1 0 rfl rfl 7 (by decide) q_1 (fun _ h9 => h9) rfl dX7_end_3 ?_
  refine va_get (ci := 3) (v := .int rLe) (C := RX3) (T := TX3) (N := 12) hx hb hts hinX3 hown hK.1 hw.1 1 rfl rfl 1 (by decide) q_2 (fun _ h9 => h9) rfl dX7_end_6 ?_
  obtain ⟨r_1, hf, h⟩ := b1_inv h
  refine k_callS (b := 0) (C := "") (host := "") fx hK hA hw (c_X7_within l D k _ p1 0 rLe r_1 hf) (va_cwS 3 hts gX7_end_X7_within rfl rfl rfl (by decide +kernel) ⟨by decide, by decide⟩) (As := [.int p1, .int 0, .int rLe]) (wr := [(xh, .inr (7, [.ref xaL, .ref xaT, .ref xaO, .ref xaF, .ref xaS, .ref xaI, .ref xaH, .ref xaR, .ref xaU, .int xTf, .int xTb])), (xaR, .inr (3, [.ref rrBy, .int rLe, .ref raD, .int rLi, .int rFf, .int rFp, .int rPl, .int rSo, .int rSt, .int rVa, .int rDt, .int rHo])), (rrBy, .inl (k 0, 160, .inl rBy))]) (ws' := wX7 k xh xaL xaT xaO xaF xaS xaI xaH xaR xaU xTf xTb ++ (wX3 k xaR rrBy raD rBy rLe rLi rFf rFp rPl rSo rSt rVa rDt rHo)) [] [0, 1, 2] [0, 1, 2] rfl rfl (by decide) (by decide) (by decide) rfl (by decide) [] rfl hl.1 rfl (Nat.le_of_ble_eq_true rfl) dX7_end_9 ⟨by decide, by decide⟩ (fun H locs (hw : Wd D A s.heap H locs (wX7 k xh xaL xaT xaO xaF xaS xaI xaH xaR xaU xTf xTb ++ (wX3 k xaR rrBy raD rBy rLe rLi rFf rFp rPl rSo rSt rVa rDt rHo))) => ?_)
  refine W.eq (g2 := F0 m 12 ls ([.int r_1])) rfl ?_
  refine kb_if_ne (tgt := 17) hx hb dX7_end_12 (by decide) h (fun c_12 h => ?_) (fun c_12 h => ?_)
  · refine lv_iconst (v := (-1)) hx hb dX7_end_15 (by decide) ?_
    cases h
    exact k_iret hx hb hr hlocks hw rfl dX7_end_16 hQ
  · refine lv_aload_n hx hb dX7_end_17 rfl (lv_at hl 0 rfl) ?_
    refine va_get (ci := 7) (v := .ref xaR) (C := RX7) (T := TX7) (N := 11) hx hb hts hinX7 hown hK.1 hw.1 0 rfl rfl 7 (by decide) q_1 (fun _ h9 => h9) rfl dX7_end_18 ?_
    refine va_get (ci := 3) (v := .int rLe) (C := RX3) (T := TX3) (N := 12) hx hb hts hinX3 hown hK.1 hw.1 1 rfl rfl 1 (by decide) q_2 (fun _ h9 => h9) rfl dX7_end_21 ?_
    refine lv_istore_n (lv' := [(2, .int rLe), (0, .ref xh), (1, .int p1)]) hx hb dX7_end_24 rfl hl (by decide) rfl (fun ls hl => ?_)
    refine lv_aload_n hx hb dX7_end_25 rfl (lv_at hl 1 rfl) ?_
    refine va_get (ci := 7) (v := .ref xaR) (C := RX7) (T := TX7) (N := 11) hx hb hts hinX7 hown hK.1 hw.1 0 rfl rfl 7 (by decide) q_1 (fun _ h9 => h9) rfl dX7_end_26 ?_
    refine lv_iload_n hx hb dX7_end_29 rfl (lv_at hl 2 rfl) ?_
    refine va_put (ci := 3) (v := .int p1) (ty := tyX3 1) (C := RX3) (T := TX3) (N := 12) hx hb hts hinX3 tyX3 tyX3_ok nmX3 hown hK.1 hw.1 hw.2.1 hw.2.2 1 rfl rfl 1 (by decide) q_2 (fun _ h9 => h9) rfl (tyX3_ok 1 (by decide)) rfl rfl (Nat.le_of_ble_eq_true rfl) dX7_end_30 (fun H locs hP hD hS => ?_)
    have hw : Wd D A s.heap H locs (wX7 k xh xaL xaT xaO xaF xaS xaI xaH xaR xaU xTf xTb ++ (wX3 k xaR rrBy raD rBy p1 rLi rFf rFp rPl rSo rSt rVa rDt rHo)) := ⟨hP, hD, hS⟩
    refine lv_iload_n hx hb dX7_end_33 rfl (lv_at hl 0 rfl) ?_
    cases h
    exact k_iret hx hb hr hlocks hw rfl dX7_end_34 hQ
abbrev rmX7_fault : Room := { frames := 0, cells := 0, slots := 0, locals := 0 }
set_option maxHeartbeats 4000000 in
set_option maxRecDepth 100000 in
theorem c_X7_fault (l : Launch) (D : va_G) (k : Nat → ClassId) (xh xaL xaT xaO xaF xaS xaI xaH xaR xaU : Nat) (sz : Nat) (xTf : Int32) (xTb : Int32) (r_ : Int32) (hf : f_X7_fault xTf = some r_) : mR l yX7_fault wsX7_fault rmX7_fault D k sz [.ref xh] (wX7 k xh xaL xaT xaO xaF xaS xaI xaH xaR xaU xTf xTb) (wX7 k xh xaL xaT xaO xaF xaS xaI xaH xaR xaU xTf xTb) (some (.int r_)) := by
  refine mR_of (cc := cX7_fault) (maxL := 1) (ret := some .int) (by decide) rfl (Nat.le_of_ble_eq_true rfl) [(0, .ref xh)] rfl ?_
  intro p e s m below meth c A ls args Q cx hK hA hw hl hQ
  have fx := cx.1
  obtain ⟨⟨hx, hb, hml, hown, hts⟩, hr, hlocks⟩ := cx
  have hinX7 : ∀ w ∈ wsX70, w ∈ wsX7_fault := fun w h => List.mem_cons_of_mem _ (List.mem_append_right _ h)
  have q_1 := hts (.fieldLink RX7 83 "DebtRides" "textFault" "I") (List.mem_of_getElem? (i := 1) rfl)
  have h := hf
  unfold f_X7_fault at h
  clear hf
  refine lv_aload_n hx hb dX7_fault_0 rfl (lv_at hl 0 rfl) ?_
  refine va_get (ci := 7) (v := .int xTf) (C := RX7) (T := TX7) (N := 11) hx hb hts hinX7 hown hK.1 hw.1 0 rfl rfl 9 (by decide) q_1 (fun _ h9 => h9) rfl dX7_fault_1 ?_
  cases h
  exact k_iret hx hb hr hlocks hw rfl dX7_fault_4 hQ
abbrev rmX7_feed : Room := { frames := 1, cells := 0, slots := 0, locals := 22 }
set_option maxHeartbeats 4000000 in
set_option maxRecDepth 100000 in
theorem c_X7_feed (l : Launch) (D : va_G) (k : Nat → ClassId) (xh xaL xaT xaO xaF xaS xaI xaH xaR xaU rrBy raD : Nat) (sz : Nat) (xTf : Int32) (xTb : Int32) (rBy : (Nat → Int32)) (rLe : Int32) (rLi : Int32) (rFf : Int32) (rFp : Int32) (rPl : Int32) (rSo : Int32) (rSt : Int32) (rVa : Int32) (rDt : Int32) (rHo : Int32) (p1 : Int32) (r_ : Int32) (n_rBy : (Nat → Int32)) (n_rLe : Int32) (hf : f_X7_feed rBy rLe p1 = some (r_, n_rBy, n_rLe)) : mR l yX7_feed wsX7_feed rmX7_feed D k sz [.ref xh, .int p1] (wX7 k xh xaL xaT xaO xaF xaS xaI xaH xaR xaU xTf xTb ++ (wX3 k xaR rrBy raD rBy rLe rLi rFf rFp rPl rSo rSt rVa rDt rHo)) (wX7 k xh xaL xaT xaO xaF xaS xaI xaH xaR xaU xTf xTb ++ (wX3 k xaR rrBy raD n_rBy n_rLe rLi rFf rFp rPl rSo rSt rVa rDt rHo)) (some (.int r_)) := by
  refine mR_of (cc := cX7_feed) (maxL := 2) (ret := some .int) (by decide) rfl (Nat.le_of_ble_eq_true rfl) [(0, .ref xh), (1, .int p1)] rfl ?_
  intro p e s m below meth c A ls args Q cx hK hA hw hl hQ
  have fx := cx.1
  obtain ⟨⟨hx, hb, hml, hown, hts⟩, hr, hlocks⟩ := cx
  have hinX7 : ∀ w ∈ wsX70, w ∈ wsX7_feed := fun w h => List.mem_cons_of_mem _ (List.mem_append_left _ (List.mem_append_right _ h))
  have hinX3 : ∀ w ∈ wsX30, w ∈ wsX7_feed := fun w h => List.mem_cons_of_mem _ (List.mem_append_right _ h)
  have q_1 := hts (.fieldLink RX7 57 "DebtRides" "reader" "LDebtRides$Reader;") (List.mem_of_getElem? (i := 1) rfl)
  have q_2 := hts (.fieldLink RX7 69 "DebtRides$Reader" "length" "I") (List.mem_of_getElem? (i := 2) rfl)
  have q_3 := hts (.fieldLink RX7 73 "DebtRides$Reader" "bytes" "[I") (List.mem_of_getElem? (i := 3) rfl)
  have h := hf
  unfold f_X7_feed at h
  clear hf
  refine lv_iload_n hx hb dX7_feed_0 rfl (lv_at hl 1 rfl) ?_
  refine lv_iconst (v := 0) hx hb dX7_feed_1 (by decide) ?_
  refine lv_bipush (v := 127) hx hb dX7_feed_2 (by decide) ?_
  obtain ⟨r_1, hf, h⟩ := b1_inv h
  refine k_callS (b := 0) (C := "") (host := "") fx hK hA hw (c_X7_within l D k _ p1 0 127 r_1 hf) (va_cwS 3 hts gX7_feed_X7_within rfl rfl rfl (by decide +kernel) ⟨by decide, by decide⟩) (As := [.int p1, .int 0, .int 127]) (wr := [(xh, .inr (7, [.ref xaL, .ref xaT, .ref xaO, .ref xaF, .ref xaS, .ref xaI, .ref xaH, .ref xaR, .ref xaU, .int xTf, .int xTb])), (xaR, .inr (3, [.ref rrBy, .int rLe, .ref raD, .int rLi, .int rFf, .int rFp, .int rPl, .int rSo, .int rSt, .int rVa, .int rDt, .int rHo])), (rrBy, .inl (k 0, 160, .inl rBy))]) (ws' := wX7 k xh xaL xaT xaO xaF xaS xaI xaH xaR xaU xTf xTb ++ (wX3 k xaR rrBy raD rBy rLe rLi rFf rFp rPl rSo rSt rVa rDt rHo)) [] [0, 1, 2] [0, 1, 2] rfl rfl (by decide) (by decide) (by decide) rfl (by decide) [] rfl hl.1 rfl (Nat.le_of_ble_eq_true rfl) dX7_feed_4 ⟨by decide, by decide⟩ (fun H locs (hw : Wd D A s.heap H locs (wX7 k xh xaL xaT xaO xaF xaS xaI xaH xaR xaU xTf xTb ++ (wX3 k xaR rrBy raD rBy rLe rLi rFf rFp rPl rSo rSt rVa rDt rHo))) => ?_)
  refine W.eq (g2 := F0 m 7 ls ([.int r_1])) rfl ?_
  refine kb_if_ne (tgt := 12) hx hb dX7_feed_7 (by decide) h (fun c_7 h => ?_) (fun c_7 h => ?_)
  · refine lv_iconst (v := (-1)) hx hb dX7_feed_10 (by decide) ?_
    cases h
    exact k_iret hx hb hr hlocks hw rfl dX7_feed_11 hQ
  · refine lv_aload_n hx hb dX7_feed_12 rfl (lv_at hl 0 rfl) ?_
    refine va_get (ci := 7) (v := .ref xaR) (C := RX7) (T := TX7) (N := 11) hx hb hts hinX7 hown hK.1 hw.1 0 rfl rfl 7 (by decide) q_1 (fun _ h9 => h9) rfl dX7_feed_13 ?_
    refine va_get (ci := 3) (v := .int rLe) (C := RX3) (T := TX3) (N := 12) hx hb hts hinX3 hown hK.1 hw.1 1 rfl rfl 1 (by decide) q_2 (fun _ h9 => h9) rfl dX7_feed_16 ?_
    refine lv_sipush (v := 160) hx hb dX7_feed_19 (by decide) ?_
    refine kb_icmp_lt (tgt := 28) hx hb dX7_feed_22 (by decide) h (fun c_22 h => ?_) (fun c_22 h => ?_)
    · refine lv_aload_n hx hb dX7_feed_28 rfl (lv_at hl 0 rfl) ?_
      refine va_get (ci := 7) (v := .ref xaR) (C := RX7) (T := TX7) (N := 11) hx hb hts hinX7 hown hK.1 hw.1 0 rfl rfl 7 (by decide) q_1 (fun _ h9 => h9) rfl dX7_feed_29 ?_
      refine va_get (ci := 3) (v := .ref rrBy) (C := RX3) (T := TX3) (N := 12) hx hb hts hinX3 hown hK.1 hw.1 1 rfl rfl 0 (by decide) q_3 (fun _ h9 => h9) rfl dX7_feed_32 ?_
      refine lv_aload_n hx hb dX7_feed_35 rfl (lv_at hl 0 rfl) ?_
      refine va_get (ci := 7) (v := .ref xaR) (C := RX7) (T := TX7) (N := 11) hx hb hts hinX7 hown hK.1 hw.1 0 rfl rfl 7 (by decide) q_1 (fun _ h9 => h9) rfl dX7_feed_36 ?_
      refine va_get (ci := 3) (v := .int rLe) (C := RX3) (T := TX3) (N := 12) hx hb hts hinX3 hown hK.1 hw.1 1 rfl rfl 1 (by decide) q_2 (fun _ h9 => h9) rfl dX7_feed_39 ?_
      refine lv_iload_n hx hb dX7_feed_42 rfl (lv_at hl 1 rfl) ?_
      refine k_iast hx hb hK hw 2 rfl dX7_feed_43 h (fun rBy_2 h H locs (hw : Wd D A s.heap H locs (wX7 k xh xaL xaT xaO xaF xaS xaI xaH xaR xaU xTf xTb ++ (wX3 k xaR rrBy raD rBy_2 rLe rLi rFf rFp rPl rSo rSt rVa rDt rHo))) => ?_)
      refine lv_aload_n hx hb dX7_feed_44 rfl (lv_at hl 0 rfl) ?_
      refine va_get (ci := 7) (v := .ref xaR) (C := RX7) (T := TX7) (N := 11) hx hb hts hinX7 hown hK.1 hw.1 0 rfl rfl 7 (by decide) q_1 (fun _ h9 => h9) rfl dX7_feed_45 ?_
      refine lv_dup hx hb dX7_feed_48 rfl ?_
      refine va_get (ci := 3) (v := .int rLe) (C := RX3) (T := TX3) (N := 12) hx hb hts hinX3 hown hK.1 hw.1 1 rfl rfl 1 (by decide) q_2 (fun _ h9 => h9) rfl dX7_feed_49 ?_
      refine lv_iconst (v := 1) hx hb dX7_feed_52 (by decide) ?_
      refine lv_iadd hx hb dX7_feed_53 ?_
      refine va_put (ci := 3) (v := .int (rLe + 1)) (ty := tyX3 1) (C := RX3) (T := TX3) (N := 12) hx hb hts hinX3 tyX3 tyX3_ok nmX3 hown hK.1 hw.1 hw.2.1 hw.2.2 1 rfl rfl 1 (by decide) q_2 (fun _ h9 => h9) rfl (tyX3_ok 1 (by decide)) rfl rfl (Nat.le_of_ble_eq_true rfl) dX7_feed_54 (fun H locs hP hD hS => ?_)
      have hw : Wd D A s.heap H locs (wX7 k xh xaL xaT xaO xaF xaS xaI xaH xaR xaU xTf xTb ++ (wX3 k xaR rrBy raD rBy_2 (rLe + 1) rLi rFf rFp rPl rSo rSt rVa rDt rHo)) := ⟨hP, hD, hS⟩
      refine lv_aload_n hx hb dX7_feed_57 rfl (lv_at hl 0 rfl) ?_
      refine va_get (ci := 7) (v := .ref xaR) (C := RX7) (T := TX7) (N := 11) hx hb hts hinX7 hown hK.1 hw.1 0 rfl rfl 7 (by decide) q_1 (fun _ h9 => h9) rfl dX7_feed_58 ?_
      refine va_get (ci := 3) (v := .int (rLe + 1)) (C := RX3) (T := TX3) (N := 12) hx hb hts hinX3 hown hK.1 hw.1 1 rfl rfl 1 (by decide) q_2 (fun _ h9 => h9) rfl dX7_feed_61 ?_
      cases h
      exact k_iret hx hb hr hlocks hw rfl dX7_feed_64 hQ
    · refine lv_bipush (v := (-3)) hx hb dX7_feed_25 (by decide) ?_
      cases h
      exact k_iret hx hb hr hlocks hw rfl dX7_feed_27 hQ
abbrev rmX7_forget : Room := { frames := 1, cells := 0, slots := 0, locals := 22 }
set_option maxHeartbeats 4000000 in
set_option maxRecDepth 100000 in
theorem c_X7_forget (l : Launch) (D : va_G) (k : Nat → ClassId) (xh xaL xaT xaO xaF xaS xaI xaH xaR xaU srDy srWo srRi : Nat) (sz : Nat) (xTf : Int32) (xTb : Int32) (sDy : (Nat → Int32)) (sWo : (Nat → Int32)) (sRi : (Nat → Int32)) (sSz : Int32) (p1 : Int32) (r_ : Int32) (n_sSz : Int32) (hf : f_X7_forget sSz p1 = some (r_, n_sSz)) : mR l yX7_forget wsX7_forget rmX7_forget D k sz [.ref xh, .int p1] (wX7 k xh xaL xaT xaO xaF xaS xaI xaH xaR xaU xTf xTb ++ (wX5 k xaS srDy srWo srRi sDy sWo sRi sSz)) (wX7 k xh xaL xaT xaO xaF xaS xaI xaH xaR xaU xTf xTb ++ (wX5 k xaS srDy srWo srRi sDy sWo sRi n_sSz)) (some (.int r_)) := by
  refine mR_of (cc := cX7_forget) (maxL := 3) (ret := some .int) (by decide) rfl (Nat.le_of_ble_eq_true rfl) [(0, .ref xh), (1, .int p1)] rfl ?_
  intro p e s m below meth c A ls args Q cx hK hA hw hl hQ
  have fx := cx.1
  obtain ⟨⟨hx, hb, hml, hown, hts⟩, hr, hlocks⟩ := cx
  have hinX7 : ∀ w ∈ wsX70, w ∈ wsX7_forget := fun w h => List.mem_cons_of_mem _ (List.mem_append_left _ (List.mem_append_right _ h))
  have hinX5 : ∀ w ∈ wsX50, w ∈ wsX7_forget := fun w h => List.mem_cons_of_mem _ (List.mem_append_right _ h)
  have q_1 := hts (.fieldLink RX7 36 "DebtRides" "seen" "LDebtRides$Seen;") (List.mem_of_getElem? (i := 1) rfl)
  have q_2 := hts (.fieldLink RX7 96 "DebtRides$Seen" "size" "I") (List.mem_of_getElem? (i := 2) rfl)
  have h := hf
  unfold f_X7_forget at h
  clear hf
  refine lv_iload_n hx hb dX7_forget_0 rfl (lv_at hl 1 rfl) ?_
  refine lv_iconst (v := 0) hx hb dX7_forget_1 (by decide) ?_
  refine lv_aload_n hx hb dX7_forget_2 rfl (lv_at hl 0 rfl) ?_
  refine va_get (ci := 7) (v := .ref xaS) (C := RX7) (T := TX7) (N := 11) hx hb hts hinX7 hown hK.1 hw.1 0 rfl rfl 4 (by decide) q_1 (fun _ h9 => h9) rfl dX7_forget_3 ?_
  refine va_get (ci := 5) (v := .int sSz) (C := RX5) (T := TX5) (N := 4) hx hb hts hinX5 hown hK.1 hw.1 1 rfl rfl 3 (by decide) q_2 (fun _ h9 => h9) rfl dX7_forget_6 ?_
  obtain ⟨r_1, hf, h⟩ := b1_inv h
  refine k_callS (b := 0) (C := "") (host := "") fx hK hA hw (c_X7_within l D k _ p1 0 sSz r_1 hf) (va_cwS 3 hts gX7_forget_X7_within rfl rfl rfl (by decide +kernel) ⟨by decide, by decide⟩) (As := [.int p1, .int 0, .int sSz]) (wr := [(xh, .inr (7, [.ref xaL, .ref xaT, .ref xaO, .ref xaF, .ref xaS, .ref xaI, .ref xaH, .ref xaR, .ref xaU, .int xTf, .int xTb])), (xaS, .inr (5, [.ref srDy, .ref srWo, .ref srRi, .int sSz])), (srDy, .inl (k 0, 6, .inl sDy)), (srWo, .inl (k 0, 6, .inl sWo)), (srRi, .inl (k 0, 6, .inl sRi))]) (ws' := wX7 k xh xaL xaT xaO xaF xaS xaI xaH xaR xaU xTf xTb ++ (wX5 k xaS srDy srWo srRi sDy sWo sRi sSz)) [] [0, 1, 2, 3, 4] [0, 1, 2, 3, 4] rfl rfl (by decide) (by decide) (by decide) rfl (by decide) [] rfl hl.1 rfl (Nat.le_of_ble_eq_true rfl) dX7_forget_9 ⟨by decide, by decide⟩ (fun H locs (hw : Wd D A s.heap H locs (wX7 k xh xaL xaT xaO xaF xaS xaI xaH xaR xaU xTf xTb ++ (wX5 k xaS srDy srWo srRi sDy sWo sRi sSz))) => ?_)
  refine W.eq (g2 := F0 m 12 ls ([.int r_1])) rfl ?_
  refine kb_if_ne (tgt := 17) hx hb dX7_forget_12 (by decide) h (fun c_12 h => ?_) (fun c_12 h => ?_)
  · refine lv_iconst (v := (-1)) hx hb dX7_forget_15 (by decide) ?_
    cases h
    exact k_iret hx hb hr hlocks hw rfl dX7_forget_16 hQ
  · refine lv_aload_n hx hb dX7_forget_17 rfl (lv_at hl 0 rfl) ?_
    refine va_get (ci := 7) (v := .ref xaS) (C := RX7) (T := TX7) (N := 11) hx hb hts hinX7 hown hK.1 hw.1 0 rfl rfl 4 (by decide) q_1 (fun _ h9 => h9) rfl dX7_forget_18 ?_
    refine va_get (ci := 5) (v := .int sSz) (C := RX5) (T := TX5) (N := 4) hx hb hts hinX5 hown hK.1 hw.1 1 rfl rfl 3 (by decide) q_2 (fun _ h9 => h9) rfl dX7_forget_21 ?_
    refine lv_istore_n (lv' := [(2, .int sSz), (0, .ref xh), (1, .int p1)]) hx hb dX7_forget_24 rfl hl (by decide) rfl (fun ls hl => ?_)
    refine lv_aload_n hx hb dX7_forget_25 rfl (lv_at hl 1 rfl) ?_
    refine va_get (ci := 7) (v := .ref xaS) (C := RX7) (T := TX7) (N := 11) hx hb hts hinX7 hown hK.1 hw.1 0 rfl rfl 4 (by decide) q_1 (fun _ h9 => h9) rfl dX7_forget_26 ?_
    refine lv_iload_n hx hb dX7_forget_29 rfl (lv_at hl 2 rfl) ?_
    refine va_put (ci := 5) (v := .int p1) (ty := tyX5 3) (C := RX5) (T := TX5) (N := 4) hx hb hts hinX5 tyX5 tyX5_ok nmX5 hown hK.1 hw.1 hw.2.1 hw.2.2 1 rfl rfl 3 (by decide) q_2 (fun _ h9 => h9) rfl (tyX5_ok 3 (by decide)) rfl rfl (Nat.le_of_ble_eq_true rfl) dX7_forget_30 (fun H locs hP hD hS => ?_)
    have hw : Wd D A s.heap H locs (wX7 k xh xaL xaT xaO xaF xaS xaI xaH xaR xaU xTf xTb ++ (wX5 k xaS srDy srWo srRi sDy sWo sRi p1)) := ⟨hP, hD, hS⟩
    refine lv_iload_n hx hb dX7_forget_33 rfl (lv_at hl 0 rfl) ?_
    cases h
    exact k_iret hx hb hr hlocks hw rfl dX7_forget_34 hQ
abbrev rmX7_ridersIfForgiven : Room := { frames := 5, cells := 0, slots := 0, locals := 115 }
set_option maxHeartbeats 4000000 in
set_option maxRecDepth 100000 in
theorem c_X7_ridersIfForgiven (l : Launch) (D : va_G) (k : Nat → ClassId) (xh xaL xaT xaO xaF xaS xaI xaH xaR xaU lrNa lrMo lrWa lrDe trNa trMo trWa trDe : Nat) (sz : Nat) (xTf : Int32) (xTb : Int32) (lPe : Int32) (lDa : Int32) (lDr : Int32) (lNa : (Nat → Int32)) (lMo : (Nat → Int32)) (lWa : (Nat → Int32)) (lDe : (Nat → Int32)) (tPe : Int32) (tDa : Int32) (tDr : Int32) (tNa : (Nat → Int32)) (tMo : (Nat → Int32)) (tWa : (Nat → Int32)) (tDe : (Nat → Int32)) (p1 : Int32) (p2 : Int32) (r_ : Int32) (n_tPe : Int32) (n_tDa : Int32) (n_tDr : Int32) (n_tNa : (Nat → Int32)) (n_tMo : (Nat → Int32)) (n_tWa : (Nat → Int32)) (n_tDe : (Nat → Int32)) (hf : f_X7_ridersIfForgiven lPe lDa lDr lNa lMo lWa lDe p1 p2 = some (r_, n_tPe, n_tDa, n_tDr, n_tNa, n_tMo, n_tWa, n_tDe)) : mR l yX7_ridersIfForgiven wsX7_ridersIfForgiven rmX7_ridersIfForgiven D k sz [.ref xh, .int p1, .int p2] (wX7 k xh xaL xaT xaO xaF xaS xaI xaH xaR xaU xTf xTb ++ (wX1 k xaL lrNa lrMo lrWa lrDe lPe lDa lDr lNa lMo lWa lDe ++ (wX1 k xaT trNa trMo trWa trDe tPe tDa tDr tNa tMo tWa tDe))) (wX7 k xh xaL xaT xaO xaF xaS xaI xaH xaR xaU xTf xTb ++ (wX1 k xaL lrNa lrMo lrWa lrDe lPe lDa lDr lNa lMo lWa lDe ++ (wX1 k xaT trNa trMo trWa trDe n_tPe n_tDa n_tDr n_tNa n_tMo n_tWa n_tDe))) (some (.int r_)) := by
  refine mR_of (cc := cX7_ridersIfForgiven) (maxL := 3) (ret := some .int) (by decide) rfl (Nat.le_of_ble_eq_true rfl) [(0, .ref xh), (1, .int p1), (2, .int p2)] rfl ?_
  intro p e s m below meth c A ls args Q cx hK hA hw hl hQ
  have fx := cx.1
  obtain ⟨⟨hx, hb, hml, hown, hts⟩, hr, hlocks⟩ := cx
  have hinX7 : ∀ w ∈ wsX70, w ∈ wsX7_ridersIfForgiven := fun w h => List.mem_cons_of_mem _ (List.mem_append_left _ (List.mem_append_right _ h))
  have q_1 := hts (.fieldLink RX7 16 "DebtRides" "trial" "LDebtRides$Land;") (List.mem_of_getElem? (i := 1) rfl)
  have q_2 := hts (.fieldLink RX7 10 "DebtRides" "land" "LDebtRides$Land;") (List.mem_of_getElem? (i := 2) rfl)
  have h := hf
  unfold f_X7_ridersIfForgiven at h
  clear hf
  refine lv_aload_n hx hb dX7_ridersIfForgiven_0 rfl (lv_at hl 0 rfl) ?_
  refine va_get (ci := 7) (v := .ref xaT) (C := RX7) (T := TX7) (N := 11) hx hb hts hinX7 hown hK.1 hw.1 0 rfl rfl 1 (by decide) q_1 (fun _ h9 => h9) rfl dX7_ridersIfForgiven_1 ?_
  refine lv_aload_n hx hb dX7_ridersIfForgiven_4 rfl (lv_at hl 0 rfl) ?_
  refine va_get (ci := 7) (v := .ref xaL) (C := RX7) (T := TX7) (N := 11) hx hb hts hinX7 hown hK.1 hw.1 0 rfl rfl 0 (by decide) q_2 (fun _ h9 => h9) rfl dX7_ridersIfForgiven_5 ?_
  obtain ⟨tPe_1, tDa_2, tDr_3, tNa_4, tMo_5, tWa_6, tDe_7, hf, h⟩ := b7_inv h
  refine k_callV (host := "") fx hK hA hw (c_X1_become l D k xaT trNa trMo trWa trDe xaL lrNa lrMo lrWa lrDe _ tPe tDa tDr tNa tMo tWa tDe lPe lDa lDr lNa lMo lWa lDe tPe_1 tDa_2 tDr_3 tNa_4 tMo_5 tWa_6 tDe_7 hf) (cwV 1 hts gX7_ridersIfForgiven_X1_become rfl rfl rfl (by decide +kernel) ⟨by decide, by decide⟩) (As := [.ref xaL]) (wr := [(xh, .inr (7, [.ref xaL, .ref xaT, .ref xaO, .ref xaF, .ref xaS, .ref xaI, .ref xaH, .ref xaR, .ref xaU, .int xTf, .int xTb]))]) (ws' := wX7 k xh xaL xaT xaO xaF xaS xaI xaH xaR xaU xTf xTb ++ (wX1 k xaL lrNa lrMo lrWa lrDe lPe lDa lDr lNa lMo lWa lDe ++ (wX1 k xaT trNa trMo trWa trDe tPe_1 tDa_2 tDr_3 tNa_4 tMo_5 tWa_6 tDe_7))) [6, 7, 8, 9, 10, 1, 2, 3, 4, 5] [0] [0, 6, 7, 8, 9, 10, 1, 2, 3, 4, 5] rfl rfl (by decide) (by decide) (by decide) rfl (by decide) 1 rfl rfl [] rfl hl.1 rfl (Nat.le_of_ble_eq_true rfl) dX7_ridersIfForgiven_8 ⟨by decide, by decide⟩ (fun H locs (hw : Wd D A s.heap H locs (wX7 k xh xaL xaT xaO xaF xaS xaI xaH xaR xaU xTf xTb ++ (wX1 k xaL lrNa lrMo lrWa lrDe lPe lDa lDr lNa lMo lWa lDe ++ (wX1 k xaT trNa trMo trWa trDe tPe_1 tDa_2 tDr_3 tNa_4 tMo_5 tWa_6 tDe_7)))) => ?_)
  refine W.eq (g2 := F0 m 11 ls ([])) rfl ?_
  refine lv_aload_n hx hb dX7_ridersIfForgiven_11 rfl (lv_at hl 0 rfl) ?_
  refine va_get (ci := 7) (v := .ref xaT) (C := RX7) (T := TX7) (N := 11) hx hb hts hinX7 hown hK.1 hw.1 0 rfl rfl 1 (by decide) q_1 (fun _ h9 => h9) rfl dX7_ridersIfForgiven_12 ?_
  refine lv_iload_n hx hb dX7_ridersIfForgiven_15 rfl (lv_at hl 1 rfl) ?_
  refine lv_iload_n hx hb dX7_ridersIfForgiven_16 rfl (lv_at hl 2 rfl) ?_
  refine lv_iconst (v := 0) hx hb dX7_ridersIfForgiven_17 (by decide) ?_
  obtain ⟨tDe_8, hf, h⟩ := b1_inv h
  refine k_callV (host := "") fx hK hA hw (c_X1_setDebt l D k xaT trNa trMo trWa trDe _ tPe_1 tDa_2 tDr_3 tNa_4 tMo_5 tWa_6 tDe_7 p1 p2 0 tDe_8 hf) (cwV 3 hts gX7_ridersIfForgiven_X1_setDebt rfl rfl rfl (by decide +kernel) ⟨by decide, by decide⟩) (As := [.int p1, .int p2, .int 0]) (wr := [(xh, .inr (7, [.ref xaL, .ref xaT, .ref xaO, .ref xaF, .ref xaS, .ref xaI, .ref xaH, .ref xaR, .ref xaU, .int xTf, .int xTb])), (xaL, .inr (1, [.int lPe, .int lDa, .int lDr, .ref lrNa, .ref lrMo, .ref lrWa, .ref lrDe])), (lrNa, .inl (k 0, 5, .inl lNa)), (lrMo, .inl (k 0, 5, .inl lMo)), (lrWa, .inl (k 0, 5, .inl lWa)), (lrDe, .inl (k 0, 25, .inl lDe))]) (ws' := wX7 k xh xaL xaT xaO xaF xaS xaI xaH xaR xaU xTf xTb ++ (wX1 k xaL lrNa lrMo lrWa lrDe lPe lDa lDr lNa lMo lWa lDe ++ (wX1 k xaT trNa trMo trWa trDe tPe_1 tDa_2 tDr_3 tNa_4 tMo_5 tWa_6 tDe_8))) [6, 7, 8, 9, 10] [0, 1, 2, 3, 4, 5] [0, 1, 2, 3, 4, 5, 6, 7, 8, 9, 10] rfl rfl (by decide) (by decide) (by decide) rfl (by decide) 1 rfl rfl [] rfl hl.1 rfl (Nat.le_of_ble_eq_true rfl) dX7_ridersIfForgiven_18 ⟨by decide, by decide⟩ (fun H locs (hw : Wd D A s.heap H locs (wX7 k xh xaL xaT xaO xaF xaS xaI xaH xaR xaU xTf xTb ++ (wX1 k xaL lrNa lrMo lrWa lrDe lPe lDa lDr lNa lMo lWa lDe ++ (wX1 k xaT trNa trMo trWa trDe tPe_1 tDa_2 tDr_3 tNa_4 tMo_5 tWa_6 tDe_8)))) => ?_)
  refine W.eq (g2 := F0 m 21 ls ([])) rfl ?_
  refine lv_aload_n hx hb dX7_ridersIfForgiven_21 rfl (lv_at hl 0 rfl) ?_
  refine va_get (ci := 7) (v := .ref xaT) (C := RX7) (T := TX7) (N := 11) hx hb hts hinX7 hown hK.1 hw.1 0 rfl rfl 1 (by decide) q_1 (fun _ h9 => h9) rfl dX7_ridersIfForgiven_22 ?_
  obtain ⟨r_9, tDa_10, tMo_11, tDe_12, hf, h⟩ := b4_inv h
  refine k_callV (host := "") fx hK hA hw (c_X1_ridersInTheEnd l D k xaT trNa trMo trWa trDe _ tPe_1 tDa_2 tDr_3 tNa_4 tMo_5 tWa_6 tDe_8 r_9 tDa_10 tMo_11 tDe_12 hf) (cwV 0 hts gX7_ridersIfForgiven_X1_ridersInTheEnd rfl rfl rfl (by decide +kernel) ⟨by decide, by decide⟩) (As := []) (wr := [(xh, .inr (7, [.ref xaL, .ref xaT, .ref xaO, .ref xaF, .ref xaS, .ref xaI, .ref xaH, .ref xaR, .ref xaU, .int xTf, .int xTb])), (xaL, .inr (1, [.int lPe, .int lDa, .int lDr, .ref lrNa, .ref lrMo, .ref lrWa, .ref lrDe])), (lrNa, .inl (k 0, 5, .inl lNa)), (lrMo, .inl (k 0, 5, .inl lMo)), (lrWa, .inl (k 0, 5, .inl lWa)), (lrDe, .inl (k 0, 25, .inl lDe))]) (ws' := wX7 k xh xaL xaT xaO xaF xaS xaI xaH xaR xaU xTf xTb ++ (wX1 k xaL lrNa lrMo lrWa lrDe lPe lDa lDr lNa lMo lWa lDe ++ (wX1 k xaT trNa trMo trWa trDe tPe_1 tDa_10 tDr_3 tNa_4 tMo_11 tWa_6 tDe_12))) [6, 7, 8, 9, 10] [0, 1, 2, 3, 4, 5] [0, 1, 2, 3, 4, 5, 6, 7, 8, 9, 10] rfl rfl (by decide) (by decide) (by decide) rfl (by decide) 1 rfl rfl [] rfl hl.1 rfl (Nat.le_of_ble_eq_true rfl) dX7_ridersIfForgiven_25 ⟨by decide, by decide⟩ (fun H locs (hw : Wd D A s.heap H locs (wX7 k xh xaL xaT xaO xaF xaS xaI xaH xaR xaU xTf xTb ++ (wX1 k xaL lrNa lrMo lrWa lrDe lPe lDa lDr lNa lMo lWa lDe ++ (wX1 k xaT trNa trMo trWa trDe tPe_1 tDa_10 tDr_3 tNa_4 tMo_11 tWa_6 tDe_12)))) => ?_)
  refine W.eq (g2 := F0 m 28 ls ([.int r_9])) rfl ?_
  cases h
  exact k_iret hx hb hr hlocks hw rfl dX7_ridersIfForgiven_28 hQ
abbrev rmX7_forgive : Room := { frames := 6, cells := 0, slots := 0, locals := 137 }
set_option maxHeartbeats 4000000 in
set_option maxRecDepth 100000 in
theorem c_X7_forgive (l : Launch) (D : va_G) (k : Nat → ClassId) (xh xaL xaT xaO xaF xaS xaI xaH xaR xaU lrNa lrMo lrWa lrDe trNa trMo trWa trDe : Nat) (sz : Nat) (xTf : Int32) (xTb : Int32) (lPe : Int32) (lDa : Int32) (lDr : Int32) (lNa : (Nat → Int32)) (lMo : (Nat → Int32)) (lWa : (Nat → Int32)) (lDe : (Nat → Int32)) (tPe : Int32) (tDa : Int32) (tDr : Int32) (tNa : (Nat → Int32)) (tMo : (Nat → Int32)) (tWa : (Nat → Int32)) (tDe : (Nat → Int32)) (p1 : Int32) (r_ : Int32) (n_tPe : Int32) (n_tDa : Int32) (n_tDr : Int32) (n_tNa : (Nat → Int32)) (n_tMo : (Nat → Int32)) (n_tWa : (Nat → Int32)) (n_tDe : (Nat → Int32)) (hf : f_X7_forgive lPe lDa lDr lNa lMo lWa lDe tPe tDa tDr tNa tMo tWa tDe p1 = some (r_, n_tPe, n_tDa, n_tDr, n_tNa, n_tMo, n_tWa, n_tDe)) : mR l yX7_forgive wsX7_forgive rmX7_forgive D k sz [.ref xh, .int p1] (wX7 k xh xaL xaT xaO xaF xaS xaI xaH xaR xaU xTf xTb ++ (wX1 k xaL lrNa lrMo lrWa lrDe lPe lDa lDr lNa lMo lWa lDe ++ (wX1 k xaT trNa trMo trWa trDe tPe tDa tDr tNa tMo tWa tDe))) (wX7 k xh xaL xaT xaO xaF xaS xaI xaH xaR xaU xTf xTb ++ (wX1 k xaL lrNa lrMo lrWa lrDe lPe lDa lDr lNa lMo lWa lDe ++ (wX1 k xaT trNa trMo trWa trDe n_tPe n_tDa n_tDr n_tNa n_tMo n_tWa n_tDe))) (some (.int r_)) := by
  refine mR_of (cc := cX7_forgive) (maxL := 7) (ret := some .int) (by decide) rfl (Nat.le_of_ble_eq_true rfl) [(0, .ref xh), (1, .int p1)] rfl ?_
  intro p e s m below meth c A ls args Q cx hK hA hw hl hQ
  have fx := cx.1
  obtain ⟨⟨hx, hb, hml, hown, hts⟩, hr, hlocks⟩ := cx
  have hinX7 : ∀ w ∈ wsX70, w ∈ wsX7_forgive := fun w h => List.mem_cons_of_mem _ (List.mem_append_left _ (List.mem_append_right _ h))
  have hinX1 : ∀ w ∈ wsX10, w ∈ wsX7_forgive := fun w h => List.mem_cons_of_mem _ (List.mem_append_right _ h)
  have q_1 := hts (.fieldLink RX7 16 "DebtRides" "trial" "LDebtRides$Land;") (List.mem_of_getElem? (i := 1) rfl)
  have q_2 := hts (.fieldLink RX7 10 "DebtRides" "land" "LDebtRides$Land;") (List.mem_of_getElem? (i := 2) rfl)
  have q_3 := hts (.fieldLink RX7 106 "DebtRides$Land" "people" "I") (List.mem_of_getElem? (i := 3) rfl)
  have h := hf
  unfold f_X7_forgive at h
  clear hf
  refine lv_iload_n hx hb dX7_forgive_0 rfl (lv_at hl 1 rfl) ?_
  refine lv_iconst (v := 0) hx hb dX7_forgive_1 (by decide) ?_
  refine lv_iconst (v := 1) hx hb dX7_forgive_2 (by decide) ?_
  obtain ⟨r_1, hf, h⟩ := b1_inv h
  refine k_callS (b := 0) (C := "") (host := "") fx hK hA hw (c_X7_within l D k _ p1 0 1 r_1 hf) (va_cwS 3 hts gX7_forgive_X7_within rfl rfl rfl (by decide +kernel) ⟨by decide, by decide⟩) (As := [.int p1, .int 0, .int 1]) (wr := [(xh, .inr (7, [.ref xaL, .ref xaT, .ref xaO, .ref xaF, .ref xaS, .ref xaI, .ref xaH, .ref xaR, .ref xaU, .int xTf, .int xTb])), (xaL, .inr (1, [.int lPe, .int lDa, .int lDr, .ref lrNa, .ref lrMo, .ref lrWa, .ref lrDe])), (lrNa, .inl (k 0, 5, .inl lNa)), (lrMo, .inl (k 0, 5, .inl lMo)), (lrWa, .inl (k 0, 5, .inl lWa)), (lrDe, .inl (k 0, 25, .inl lDe)), (xaT, .inr (1, [.int tPe, .int tDa, .int tDr, .ref trNa, .ref trMo, .ref trWa, .ref trDe])), (trNa, .inl (k 0, 5, .inl tNa)), (trMo, .inl (k 0, 5, .inl tMo)), (trWa, .inl (k 0, 5, .inl tWa)), (trDe, .inl (k 0, 25, .inl tDe))]) (ws' := wX7 k xh xaL xaT xaO xaF xaS xaI xaH xaR xaU xTf xTb ++ (wX1 k xaL lrNa lrMo lrWa lrDe lPe lDa lDr lNa lMo lWa lDe ++ (wX1 k xaT trNa trMo trWa trDe tPe tDa tDr tNa tMo tWa tDe))) [] [0, 1, 2, 3, 4, 5, 6, 7, 8, 9, 10] [0, 1, 2, 3, 4, 5, 6, 7, 8, 9, 10] rfl rfl (by decide) (by decide) (by decide) rfl (by decide) [] rfl hl.1 rfl (Nat.le_of_ble_eq_true rfl) dX7_forgive_3 ⟨by decide, by decide⟩ (fun H locs (hw : Wd D A s.heap H locs (wX7 k xh xaL xaT xaO xaF xaS xaI xaH xaR xaU xTf xTb ++ (wX1 k xaL lrNa lrMo lrWa lrDe lPe lDa lDr lNa lMo lWa lDe ++ (wX1 k xaT trNa trMo trWa trDe tPe tDa tDr tNa tMo tWa tDe)))) => ?_)
  refine W.eq (g2 := F0 m 6 ls ([.int r_1])) rfl ?_
  refine kb_if_ne (tgt := 11) hx hb dX7_forgive_6 (by decide) h (fun c_6 h => ?_) (fun c_6 h => ?_)
  · refine lv_iconst (v := (-1)) hx hb dX7_forgive_9 (by decide) ?_
    cases h
    exact k_iret hx hb hr hlocks hw rfl dX7_forgive_10 hQ
  · refine lv_bipush (v := (-4)) hx hb dX7_forgive_11 (by decide) ?_
    refine lv_istore_n (lv' := [(2, .int (-4)), (0, .ref xh), (1, .int p1)]) hx hb dX7_forgive_13 rfl hl (by decide) rfl (fun ls hl => ?_)
    refine lv_aload_n hx hb dX7_forgive_14 rfl (lv_at hl 1 rfl) ?_
    refine va_get (ci := 7) (v := .ref xaT) (C := RX7) (T := TX7) (N := 11) hx hb hts hinX7 hown hK.1 hw.1 0 rfl rfl 1 (by decide) q_1 (fun _ h9 => h9) rfl dX7_forgive_15 ?_
    refine lv_aload_n hx hb dX7_forgive_18 rfl (lv_at hl 1 rfl) ?_
    refine va_get (ci := 7) (v := .ref xaL) (C := RX7) (T := TX7) (N := 11) hx hb hts hinX7 hown hK.1 hw.1 0 rfl rfl 0 (by decide) q_2 (fun _ h9 => h9) rfl dX7_forgive_19 ?_
    obtain ⟨tPe_2, tDa_3, tDr_4, tNa_5, tMo_6, tWa_7, tDe_8, hf, h⟩ := b7_inv h
    refine k_callV (host := "") fx hK hA hw (c_X1_become l D k xaT trNa trMo trWa trDe xaL lrNa lrMo lrWa lrDe _ tPe tDa tDr tNa tMo tWa tDe lPe lDa lDr lNa lMo lWa lDe tPe_2 tDa_3 tDr_4 tNa_5 tMo_6 tWa_7 tDe_8 hf) (cwV 1 hts gX7_forgive_X1_become rfl rfl rfl (by decide +kernel) ⟨by decide, by decide⟩) (As := [.ref xaL]) (wr := [(xh, .inr (7, [.ref xaL, .ref xaT, .ref xaO, .ref xaF, .ref xaS, .ref xaI, .ref xaH, .ref xaR, .ref xaU, .int xTf, .int xTb]))]) (ws' := wX7 k xh xaL xaT xaO xaF xaS xaI xaH xaR xaU xTf xTb ++ (wX1 k xaL lrNa lrMo lrWa lrDe lPe lDa lDr lNa lMo lWa lDe ++ (wX1 k xaT trNa trMo trWa trDe tPe_2 tDa_3 tDr_4 tNa_5 tMo_6 tWa_7 tDe_8))) [6, 7, 8, 9, 10, 1, 2, 3, 4, 5] [0] [0, 6, 7, 8, 9, 10, 1, 2, 3, 4, 5] rfl rfl (by decide) (by decide) (by decide) rfl (by decide) 1 rfl rfl [] rfl hl.1 rfl (Nat.le_of_ble_eq_true rfl) dX7_forgive_22 ⟨by decide, by decide⟩ (fun H locs (hw : Wd D A s.heap H locs (wX7 k xh xaL xaT xaO xaF xaS xaI xaH xaR xaU xTf xTb ++ (wX1 k xaL lrNa lrMo lrWa lrDe lPe lDa lDr lNa lMo lWa lDe ++ (wX1 k xaT trNa trMo trWa trDe tPe_2 tDa_3 tDr_4 tNa_5 tMo_6 tWa_7 tDe_8)))) => ?_)
    refine W.eq (g2 := F0 m 25 ls ([])) rfl ?_
    refine lv_aload_n hx hb dX7_forgive_25 rfl (lv_at hl 1 rfl) ?_
    refine va_get (ci := 7) (v := .ref xaT) (C := RX7) (T := TX7) (N := 11) hx hb hts hinX7 hown hK.1 hw.1 0 rfl rfl 1 (by decide) q_1 (fun _ h9 => h9) rfl dX7_forgive_26 ?_
    obtain ⟨r_9, tDa_10, tMo_11, tDe_12, hf, h⟩ := b4_inv h
    refine k_callV (host := "") fx hK hA hw (c_X1_ridersInTheEnd l D k xaT trNa trMo trWa trDe _ tPe_2 tDa_3 tDr_4 tNa_5 tMo_6 tWa_7 tDe_8 r_9 tDa_10 tMo_11 tDe_12 hf) (cwV 0 hts gX7_forgive_X1_ridersInTheEnd rfl rfl rfl (by decide +kernel) ⟨by decide, by decide⟩) (As := []) (wr := [(xh, .inr (7, [.ref xaL, .ref xaT, .ref xaO, .ref xaF, .ref xaS, .ref xaI, .ref xaH, .ref xaR, .ref xaU, .int xTf, .int xTb])), (xaL, .inr (1, [.int lPe, .int lDa, .int lDr, .ref lrNa, .ref lrMo, .ref lrWa, .ref lrDe])), (lrNa, .inl (k 0, 5, .inl lNa)), (lrMo, .inl (k 0, 5, .inl lMo)), (lrWa, .inl (k 0, 5, .inl lWa)), (lrDe, .inl (k 0, 25, .inl lDe))]) (ws' := wX7 k xh xaL xaT xaO xaF xaS xaI xaH xaR xaU xTf xTb ++ (wX1 k xaL lrNa lrMo lrWa lrDe lPe lDa lDr lNa lMo lWa lDe ++ (wX1 k xaT trNa trMo trWa trDe tPe_2 tDa_10 tDr_4 tNa_5 tMo_11 tWa_7 tDe_12))) [6, 7, 8, 9, 10] [0, 1, 2, 3, 4, 5] [0, 1, 2, 3, 4, 5, 6, 7, 8, 9, 10] rfl rfl (by decide) (by decide) (by decide) rfl (by decide) 1 rfl rfl [] rfl hl.1 rfl (Nat.le_of_ble_eq_true rfl) dX7_forgive_29 ⟨by decide, by decide⟩ (fun H locs (hw : Wd D A s.heap H locs (wX7 k xh xaL xaT xaO xaF xaS xaI xaH xaR xaU xTf xTb ++ (wX1 k xaL lrNa lrMo lrWa lrDe lPe lDa lDr lNa lMo lWa lDe ++ (wX1 k xaT trNa trMo trWa trDe tPe_2 tDa_10 tDr_4 tNa_5 tMo_11 tWa_7 tDe_12)))) => ?_)
    refine W.eq (g2 := F0 m 32 ls ([.int r_9])) rfl ?_
    refine lv_istore_n (lv' := [(3, .int r_9), (2, .int (-4)), (0, .ref xh), (1, .int p1)]) hx hb dX7_forgive_32 rfl hl (by decide) rfl (fun ls hl => ?_)
    refine lv_iconst (v := 0) hx hb dX7_forgive_33 (by decide) ?_
    refine lv_istore (lv' := [(4, .int 0), (3, .int r_9), (2, .int (-4)), (0, .ref xh), (1, .int p1)]) hx hb dX7_forgive_34 hl (by decide) rfl (fun ls hl => ?_)
    obtain ⟨v2_23, v3_24, tPe_25, tDa_26, tDr_27, tNa_28, tMo_29, tWa_30, tDe_31, hL_36, h⟩ := b9_inv h
    have X_36 : ∀ (H : Heap) (locs : List Loc) (ls : Array Slot), Wd D A s.heap H locs (wX7 k xh xaL xaT xaO xaF xaS xaI xaH xaR xaU xTf xTb ++ (wX1 k xaL lrNa lrMo lrWa lrDe lPe lDa lDr lNa lMo lWa lDe ++ (wX1 k xaT trNa trMo trWa trDe tPe_25 tDa_26 tDr_27 tNa_28 tMo_29 tWa_30 tDe_31))) → lv_has ls 7 [(1, .int p1), (2, .int v2_23), (3, .int v3_24)] → W p l e rmX7_forgive s m args below meth c H locs 0 0 Q (F0 m 121 ls []) := by
      intro H locs ls hw hl
      refine lv_iload_n hx hb dX7_forgive_121 rfl (lv_at hl 1 rfl) ?_
      refine lv_bipush (v := (-4)) hx hb dX7_forgive_122 (by decide) ?_
      refine kb_icmp_ne (tgt := 130) hx hb dX7_forgive_124 (by decide) h (fun c_124 h => ?_) (fun c_124 h => ?_)
      · refine lv_bipush (v := (-4)) hx hb dX7_forgive_127 (by decide) ?_
        cases h
        exact k_iret hx hb hr hlocks hw rfl dX7_forgive_129 hQ
      · refine lv_iload_n hx hb dX7_forgive_130 rfl (lv_at hl 0 rfl) ?_
        refine kb_if_ne (tgt := 138) hx hb dX7_forgive_131 (by decide) h (fun c_131 h => ?_) (fun c_131 h => ?_)
        · refine lv_iload_n hx hb dX7_forgive_134 rfl (lv_at hl 1 rfl) ?_
          refine lv_goto (tgt := 139) hx hb dX7_forgive_135 (by decide) ?_
          cases h
          exact k_iret hx hb hr hlocks hw rfl dX7_forgive_139 hQ
        · refine lv_iload_n hx hb dX7_forgive_138 rfl (lv_at hl 2 rfl) ?_
          cases h
          exact k_iret hx hb hr hlocks hw rfl dX7_forgive_139 hQ
    clear h
    have LP_36 : ∀ (n : Nat) (v2_13 : Int32) (v3_14 : Int32) (v4_15 : Int32) (tPe_16 : Int32) (tDa_17 : Int32) (tDr_18 : Int32) (tNa_19 : (Nat → Int32)) (tMo_20 : (Nat → Int32)) (tWa_21 : (Nat → Int32)) (tDe_22 : (Nat → Int32)), f_X7_forgive_L36 lPe lDa lDr lNa lMo lWa lDe n v2_13 v3_14 v4_15 tPe_16 tDa_17 tDr_18 tNa_19 tMo_20 tWa_21 tDe_22 = some (v2_23, v3_24, tPe_25, tDa_26, tDr_27, tNa_28, tMo_29, tWa_30, tDe_31) → ∀ (H : Heap) (locs : List Loc) (ls : Array Slot), Wd D A s.heap H locs (wX7 k xh xaL xaT xaO xaF xaS xaI xaH xaR xaU xTf xTb ++ (wX1 k xaL lrNa lrMo lrWa lrDe lPe lDa lDr lNa lMo lWa lDe ++ (wX1 k xaT trNa trMo trWa trDe tPe_16 tDa_17 tDr_18 tNa_19 tMo_20 tWa_21 tDe_22))) → lv_has ls 7 [(0, .ref xh), (1, .int p1), (2, .int v2_13), (3, .int v3_14), (4, .int v4_15)] → W p l e rmX7_forgive s m args below meth c H locs 0 0 Q (F0 m 36 ls []) := by
      clear hL_36 hw hl
      intro n
      induction n with
      | zero => intro v2_13 v3_14 v4_15 tPe_16 tDa_17 tDr_18 tNa_19 tMo_20 tWa_21 tDe_22 h; rw [f_X7_forgive_L36] at h; cases h
      | succ n ih =>
        intro v2_13 v3_14 v4_15 tPe_16 tDa_17 tDr_18 tNa_19 tMo_20 tWa_21 tDe_22 h H locs ls hw hl
        rw [f_X7_forgive_L36] at h
        refine lv_iload hx hb dX7_forgive_36 (lv_at hl 4 rfl) ?_
        refine lv_aload_n hx hb dX7_forgive_38 rfl (lv_at hl 0 rfl) ?_
        refine va_get (ci := 7) (v := .ref xaL) (C := RX7) (T := TX7) (N := 11) hx hb hts hinX7 hown hK.1 hw.1 0 rfl rfl 0 (by decide) q_2 (fun _ h9 => h9) rfl dX7_forgive_39 ?_
        refine va_get (ci := 1) (v := .int lPe) (C := RX1) (T := TX1) (N := 7) hx hb hts hinX1 hown hK.1 hw.1 1 rfl rfl 0 (by decide) q_3 (fun _ h9 => h9) rfl dX7_forgive_42 ?_
        refine kb_icmp_ge (tgt := 121) hx hb dX7_forgive_45 (by decide) h (fun c_45 h => ?_) (fun c_45 h => ?_)
        · cases h
          exact X_36 _ _ _ hw (lv_sub hl [1, 2, 3] rfl)
        · refine lv_iconst (v := 0) hx hb dX7_forgive_48 (by decide) ?_
          refine lv_istore (lv' := [(5, .int 0), (0, .ref xh), (1, .int p1), (2, .int v2_13), (3, .int v3_14), (4, .int v4_15)]) hx hb dX7_forgive_49 hl (by decide) rfl (fun ls hl => ?_)
          obtain ⟨v2_42, v3_43, tPe_44, tDa_45, tDr_46, tNa_47, tMo_48, tWa_49, tDe_50, hL_51, h⟩ := b9_inv h
          have X_51 : ∀ (H : Heap) (locs : List Loc) (ls : Array Slot), Wd D A s.heap H locs (wX7 k xh xaL xaT xaO xaF xaS xaI xaH xaR xaU xTf xTb ++ (wX1 k xaL lrNa lrMo lrWa lrDe lPe lDa lDr lNa lMo lWa lDe ++ (wX1 k xaT trNa trMo trWa trDe tPe_44 tDa_45 tDr_46 tNa_47 tMo_48 tWa_49 tDe_50))) → lv_has ls 7 [(0, .ref xh), (1, .int p1), (2, .int v2_42), (3, .int v3_43), (4, .int v4_15)] → W p l e rmX7_forgive s m args below meth c H locs 0 0 Q (F0 m 115 ls []) := by
            intro H locs ls hw hl
            refine lv_iinc (v := v4_15 + 1) (lv' := [(4, .int (v4_15 + 1)), (0, .ref xh), (1, .int p1), (2, .int v2_42), (3, .int v3_43)]) hx hb dX7_forgive_115 hl (k := 4) rfl rfl (by decide) rfl (fun ls hl => ?_)
            refine lv_goto (tgt := 36) hx hb dX7_forgive_118 (by decide) ?_
            exact ih _ _ _ _ _ _ _ _ _ _ h _ _ _ hw (lv_sub hl [1, 2, 3, 4, 0] rfl)
          clear h
          have LP_51 : ∀ (n : Nat) (v2_32 : Int32) (v3_33 : Int32) (v5_34 : Int32) (tPe_35 : Int32) (tDa_36 : Int32) (tDr_37 : Int32) (tNa_38 : (Nat → Int32)) (tMo_39 : (Nat → Int32)) (tWa_40 : (Nat → Int32)) (tDe_41 : (Nat → Int32)), f_X7_forgive_L51 lPe lDa lDr lNa lMo lWa lDe v4_15 n v2_32 v3_33 v5_34 tPe_35 tDa_36 tDr_37 tNa_38 tMo_39 tWa_40 tDe_41 = some (v2_42, v3_43, tPe_44, tDa_45, tDr_46, tNa_47, tMo_48, tWa_49, tDe_50) → ∀ (H : Heap) (locs : List Loc) (ls : Array Slot), Wd D A s.heap H locs (wX7 k xh xaL xaT xaO xaF xaS xaI xaH xaR xaU xTf xTb ++ (wX1 k xaL lrNa lrMo lrWa lrDe lPe lDa lDr lNa lMo lWa lDe ++ (wX1 k xaT trNa trMo trWa trDe tPe_35 tDa_36 tDr_37 tNa_38 tMo_39 tWa_40 tDe_41))) → lv_has ls 7 [(0, .ref xh), (1, .int p1), (2, .int v2_32), (3, .int v3_33), (4, .int v4_15), (5, .int v5_34)] → W p l e rmX7_forgive s m args below meth c H locs 0 0 Q (F0 m 51 ls []) := by
            clear hL_51 hw hl
            intro n
            induction n with
            | zero => intro v2_32 v3_33 v5_34 tPe_35 tDa_36 tDr_37 tNa_38 tMo_39 tWa_40 tDe_41 h; rw [f_X7_forgive_L51] at h; cases h
            | succ n ih =>
              intro v2_32 v3_33 v5_34 tPe_35 tDa_36 tDr_37 tNa_38 tMo_39 tWa_40 tDe_41 h H locs ls hw hl
              rw [f_X7_forgive_L51] at h
              refine lv_iload hx hb dX7_forgive_51 (lv_at hl 5 rfl) ?_
              refine lv_aload_n hx hb dX7_forgive_53 rfl (lv_at hl 0 rfl) ?_
              refine va_get (ci := 7) (v := .ref xaL) (C := RX7) (T := TX7) (N := 11) hx hb hts hinX7 hown hK.1 hw.1 0 rfl rfl 0 (by decide) q_2 (fun _ h9 => h9) rfl dX7_forgive_54 ?_
              refine va_get (ci := 1) (v := .int lPe) (C := RX1) (T := TX1) (N := 7) hx hb hts hinX1 hown hK.1 hw.1 1 rfl rfl 0 (by decide) q_3 (fun _ h9 => h9) rfl dX7_forgive_57 ?_
              refine kb_icmp_ge (tgt := 115) hx hb dX7_forgive_60 (by decide) h (fun c_60 h => ?_) (fun c_60 h => ?_)
              · cases h
                exact X_51 _ _ _ hw (lv_sub hl [0, 1, 2, 3, 4] rfl)
              · refine lv_aload_n hx hb dX7_forgive_63 rfl (lv_at hl 0 rfl) ?_
                refine va_get (ci := 7) (v := .ref xaL) (C := RX7) (T := TX7) (N := 11) hx hb hts hinX7 hown hK.1 hw.1 0 rfl rfl 0 (by decide) q_2 (fun _ h9 => h9) rfl dX7_forgive_64 ?_
                refine lv_iload hx hb dX7_forgive_67 (lv_at hl 4 rfl) ?_
                refine lv_iload hx hb dX7_forgive_69 (lv_at hl 5 rfl) ?_
                obtain ⟨r_51, hf, h⟩ := b1_inv h
                refine k_callV (host := "") fx hK hA hw (c_X1_debt l D k xaL lrNa lrMo lrWa lrDe _ lPe lDa lDr lNa lMo lWa lDe v4_15 v5_34 r_51 hf) (cwV 2 hts gX7_forgive_X1_debt rfl rfl rfl (by decide +kernel) ⟨by decide, by decide⟩) (As := [.int v4_15, .int v5_34]) (wr := [(xh, .inr (7, [.ref xaL, .ref xaT, .ref xaO, .ref xaF, .ref xaS, .ref xaI, .ref xaH, .ref xaR, .ref xaU, .int xTf, .int xTb])), (xaT, .inr (1, [.int tPe_35, .int tDa_36, .int tDr_37, .ref trNa, .ref trMo, .ref trWa, .ref trDe])), (trNa, .inl (k 0, 5, .inl tNa_38)), (trMo, .inl (k 0, 5, .inl tMo_39)), (trWa, .inl (k 0, 5, .inl tWa_40)), (trDe, .inl (k 0, 25, .inl tDe_41))]) (ws' := wX7 k xh xaL xaT xaO xaF xaS xaI xaH xaR xaU xTf xTb ++ (wX1 k xaL lrNa lrMo lrWa lrDe lPe lDa lDr lNa lMo lWa lDe ++ (wX1 k xaT trNa trMo trWa trDe tPe_35 tDa_36 tDr_37 tNa_38 tMo_39 tWa_40 tDe_41))) [1, 2, 3, 4, 5] [0, 6, 7, 8, 9, 10] [0, 6, 7, 8, 9, 10, 1, 2, 3, 4, 5] rfl rfl (by decide) (by decide) (by decide) rfl (by decide) 1 rfl rfl [] rfl hl.1 rfl (Nat.le_of_ble_eq_true rfl) dX7_forgive_71 ⟨by decide, by decide⟩ (fun H locs (hw : Wd D A s.heap H locs (wX7 k xh xaL xaT xaO xaF xaS xaI xaH xaR xaU xTf xTb ++ (wX1 k xaL lrNa lrMo lrWa lrDe lPe lDa lDr lNa lMo lWa lDe ++ (wX1 k xaT trNa trMo trWa trDe tPe_35 tDa_36 tDr_37 tNa_38 tMo_39 tWa_40 tDe_41)))) => ?_)
                refine W.eq (g2 := F0 m 74 ls ([.int r_51])) rfl ?_
                obtain ⟨t_52, tPe_53, tDa_54, tDr_55, tNa_56, tMo_57, tWa_58, tDe_59, hj_74, h⟩ := b8_inv h
                have J_74 : ∀ (H : Heap) (locs : List Loc) (ls : Array Slot), Wd D A s.heap H locs (wX7 k xh xaL xaT xaO xaF xaS xaI xaH xaR xaU xTf xTb ++ (wX1 k xaL lrNa lrMo lrWa lrDe lPe lDa lDr lNa lMo lWa lDe ++ (wX1 k xaT trNa trMo trWa trDe tPe_53 tDa_54 tDr_55 tNa_56 tMo_57 tWa_58 tDe_59))) → lv_has ls 7 [(0, .ref xh), (1, .int p1), (2, .int v2_32), (3, .int v3_33), (4, .int v4_15), (5, .int v5_34)] → W p l e rmX7_forgive s m args below meth c H locs 0 0 Q (F0 m 89 ls [.int t_52]) := by
                  intro H locs ls hw hl
                  refine lv_istore (lv' := [(6, .int t_52), (0, .ref xh), (1, .int p1), (2, .int v2_32), (3, .int v3_33), (4, .int v4_15), (5, .int v5_34)]) hx hb dX7_forgive_89 hl (by decide) rfl (fun ls hl => ?_)
                  refine lv_iload hx hb dX7_forgive_91 (lv_at hl 0 rfl) ?_
                  refine lv_iload_n hx hb dX7_forgive_93 rfl (lv_at hl 4 rfl) ?_
                  refine kb_icmp_le (tgt := 109) hx hb dX7_forgive_94 (by decide) h (fun c_94 h => ?_) (fun c_94 h => ?_)
                  · refine lv_iinc (v := v5_34 + 1) (lv' := [(5, .int (v5_34 + 1)), (6, .int t_52), (0, .ref xh), (1, .int p1), (2, .int v2_32), (3, .int v3_33), (4, .int v4_15)]) hx hb dX7_forgive_109 hl (k := 6) rfl rfl (by decide) rfl (fun ls hl => ?_)
                    refine lv_goto (tgt := 51) hx hb dX7_forgive_112 (by decide) ?_
                    exact ih _ _ _ _ _ _ _ _ _ _ h _ _ _ hw (lv_sub hl [2, 3, 4, 5, 6, 0] rfl)
                  · refine lv_iload hx hb dX7_forgive_97 (lv_at hl 0 rfl) ?_
                    refine lv_istore_n (lv' := [(3, .int t_52), (6, .int t_52), (0, .ref xh), (1, .int p1), (2, .int v2_32), (4, .int v4_15), (5, .int v5_34)]) hx hb dX7_forgive_99 rfl hl (by decide) rfl (fun ls hl => ?_)
                    refine lv_bipush (v := 10) hx hb dX7_forgive_100 (by decide) ?_
                    refine lv_iload hx hb dX7_forgive_102 (lv_at hl 5 rfl) ?_
                    refine lv_imul hx hb dX7_forgive_104 ?_
                    refine lv_iload hx hb dX7_forgive_105 (lv_at hl 6 rfl) ?_
                    refine lv_iadd hx hb dX7_forgive_107 ?_
                    refine lv_istore_n (lv' := [(2, .int ((10 * v4_15) + v5_34)), (3, .int t_52), (6, .int t_52), (0, .ref xh), (1, .int p1), (4, .int v4_15), (5, .int v5_34)]) hx hb dX7_forgive_108 rfl hl (by decide) rfl (fun ls hl => ?_)
                    refine lv_iinc (v := v5_34 + 1) (lv' := [(5, .int (v5_34 + 1)), (2, .int ((10 * v4_15) + v5_34)), (3, .int t_52), (6, .int t_52), (0, .ref xh), (1, .int p1), (4, .int v4_15)]) hx hb dX7_forgive_109 hl (k := 6) rfl rfl (by decide) rfl (fun ls hl => ?_)
                    refine lv_goto (tgt := 51) hx hb dX7_forgive_112 (by decide) ?_
                    exact ih _ _ _ _ _ _ _ _ _ _ h _ _ _ hw (lv_sub hl [4, 5, 1, 2, 6, 0] rfl)
                clear h
                have h := hj_74
                refine kb_if_le (tgt := 88) hx hb dX7_forgive_74 (by decide) h (fun c_74 h => ?_) (fun c_74 h => ?_)
                · refine lv_iconst (v := 0) hx hb dX7_forgive_88 (by decide) ?_
                  cases h
                  exact J_74 _ _ _ hw (lv_sub hl [0, 1, 2, 3, 4, 5] rfl)
                · refine lv_aload_n hx hb dX7_forgive_77 rfl (lv_at hl 0 rfl) ?_
                  refine lv_iload hx hb dX7_forgive_78 (lv_at hl 4 rfl) ?_
                  refine lv_iload hx hb dX7_forgive_80 (lv_at hl 5 rfl) ?_
                  obtain ⟨r_60, tPe_61, tDa_62, tDr_63, tNa_64, tMo_65, tWa_66, tDe_67, hf, h⟩ := b8_inv h
                  refine k_callV (host := "") fx hK hA hw (c_X7_ridersIfForgiven l D k xh xaL xaT xaO xaF xaS xaI xaH xaR xaU lrNa lrMo lrWa lrDe trNa trMo trWa trDe _ xTf xTb lPe lDa lDr lNa lMo lWa lDe tPe_35 tDa_36 tDr_37 tNa_38 tMo_39 tWa_40 tDe_41 v4_15 v5_34 r_60 tPe_61 tDa_62 tDr_63 tNa_64 tMo_65 tWa_66 tDe_67 hf) (cwV 2 hts gX7_forgive_X7_ridersIfForgiven rfl rfl rfl (by decide +kernel) ⟨by decide, by decide⟩) (As := [.int v4_15, .int v5_34]) (wr := []) (ws' := wX7 k xh xaL xaT xaO xaF xaS xaI xaH xaR xaU xTf xTb ++ (wX1 k xaL lrNa lrMo lrWa lrDe lPe lDa lDr lNa lMo lWa lDe ++ (wX1 k xaT trNa trMo trWa trDe tPe_61 tDa_62 tDr_63 tNa_64 tMo_65 tWa_66 tDe_67))) [0, 1, 2, 3, 4, 5, 6, 7, 8, 9, 10] [] [0, 1, 2, 3, 4, 5, 6, 7, 8, 9, 10] rfl rfl (by decide) (by decide) (by decide) rfl (by decide) 7 rfl rfl [] rfl hl.1 rfl (Nat.le_of_ble_eq_true rfl) dX7_forgive_82 ⟨by decide, by decide⟩ (fun H locs (hw : Wd D A s.heap H locs (wX7 k xh xaL xaT xaO xaF xaS xaI xaH xaR xaU xTf xTb ++ (wX1 k xaL lrNa lrMo lrWa lrDe lPe lDa lDr lNa lMo lWa lDe ++ (wX1 k xaT trNa trMo trWa trDe tPe_61 tDa_62 tDr_63 tNa_64 tMo_65 tWa_66 tDe_67)))) => ?_)
                  refine W.eq (g2 := F0 m 85 ls ([.int r_60])) rfl ?_
                  refine lv_goto (tgt := 89) hx hb dX7_forgive_85 (by decide) ?_
                  cases h
                  exact J_74 _ _ _ hw (lv_sub hl [0, 1, 2, 3, 4, 5] rfl)
          exact LP_51 400 v2_13 v3_14 0 tPe_16 tDa_17 tDr_18 tNa_19 tMo_20 tWa_21 tDe_22 hL_51 _ _ _ hw (lv_sub hl [1, 2, 3, 4, 5, 0] rfl)
    exact LP_36 400 (-4) r_9 0 tPe_2 tDa_10 tDr_4 tNa_5 tMo_11 tWa_7 tDe_12 hL_36 _ _ _ hw (lv_sub hl [3, 4, 2, 1, 0] rfl)
abbrev rmX7_give : Room := { frames := 5, cells := 0, slots := 0, locals := 115 }
set_option maxHeartbeats 4000000 in
set_option maxRecDepth 100000 in
theorem c_X7_give (l : Launch) (D : va_G) (k : Nat → ClassId) (xh xaL xaT xaO xaF xaS xaI xaH xaR xaU lrNa lrMo lrWa lrDe trNa trMo trWa trDe : Nat) (sz : Nat) (xTf : Int32) (xTb : Int32) (lPe : Int32) (lDa : Int32) (lDr : Int32) (lNa : (Nat → Int32)) (lMo : (Nat → Int32)) (lWa : (Nat → Int32)) (lDe : (Nat → Int32)) (tPe : Int32) (tDa : Int32) (tDr : Int32) (tNa : (Nat → Int32)) (tMo : (Nat → Int32)) (tWa : (Nat → Int32)) (tDe : (Nat → Int32)) (p1 : Int32) (p2 : Int32) (r_ : Int32) (n_tPe : Int32) (n_tDa : Int32) (n_tDr : Int32) (n_tNa : (Nat → Int32)) (n_tMo : (Nat → Int32)) (n_tWa : (Nat → Int32)) (n_tDe : (Nat → Int32)) (hf : f_X7_give lPe lDa lDr lNa lMo lWa lDe tPe tDa tDr tNa tMo tWa tDe p1 p2 = some (r_, n_tPe, n_tDa, n_tDr, n_tNa, n_tMo, n_tWa, n_tDe)) : mR l yX7_give wsX7_give rmX7_give D k sz [.ref xh, .int p1, .int p2] (wX7 k xh xaL xaT xaO xaF xaS xaI xaH xaR xaU xTf xTb ++ (wX1 k xaL lrNa lrMo lrWa lrDe lPe lDa lDr lNa lMo lWa lDe ++ (wX1 k xaT trNa trMo trWa trDe tPe tDa tDr tNa tMo tWa tDe))) (wX7 k xh xaL xaT xaO xaF xaS xaI xaH xaR xaU xTf xTb ++ (wX1 k xaL lrNa lrMo lrWa lrDe lPe lDa lDr lNa lMo lWa lDe ++ (wX1 k xaT trNa trMo trWa trDe n_tPe n_tDa n_tDr n_tNa n_tMo n_tWa n_tDe))) (some (.int r_)) := by
  refine mR_of (cc := cX7_give) (maxL := 7) (ret := some .int) (by decide) rfl (Nat.le_of_ble_eq_true rfl) [(0, .ref xh), (1, .int p1), (2, .int p2)] rfl ?_
  intro p e s m below meth c A ls args Q cx hK hA hw hl hQ
  have fx := cx.1
  obtain ⟨⟨hx, hb, hml, hown, hts⟩, hr, hlocks⟩ := cx
  have hinX7 : ∀ w ∈ wsX70, w ∈ wsX7_give := fun w h => List.mem_cons_of_mem _ (List.mem_append_left _ (List.mem_append_right _ h))
  have hinX1 : ∀ w ∈ wsX10, w ∈ wsX7_give := fun w h => List.mem_cons_of_mem _ (List.mem_append_right _ h)
  have q_1 := hts (.fieldLink RX7 16 "DebtRides" "trial" "LDebtRides$Land;") (List.mem_of_getElem? (i := 1) rfl)
  have q_2 := hts (.fieldLink RX7 10 "DebtRides" "land" "LDebtRides$Land;") (List.mem_of_getElem? (i := 2) rfl)
  have q_3 := hts (.fieldLink RX7 106 "DebtRides$Land" "people" "I") (List.mem_of_getElem? (i := 3) rfl)
  have h := hf
  unfold f_X7_give at h
  clear hf
  refine lv_iload_n hx hb dX7_give_0 rfl (lv_at hl 1 rfl) ?_
  refine lv_iconst (v := 1) hx hb dX7_give_1 (by decide) ?_
  refine lv_bipush (v := 99) hx hb dX7_give_2 (by decide) ?_
  obtain ⟨r_1, hf, h⟩ := b1_inv h
  refine k_callS (b := 0) (C := "") (host := "") fx hK hA hw (c_X7_within l D k _ p1 1 99 r_1 hf) (va_cwS 3 hts gX7_give_X7_within rfl rfl rfl (by decide +kernel) ⟨by decide, by decide⟩) (As := [.int p1, .int 1, .int 99]) (wr := [(xh, .inr (7, [.ref xaL, .ref xaT, .ref xaO, .ref xaF, .ref xaS, .ref xaI, .ref xaH, .ref xaR, .ref xaU, .int xTf, .int xTb])), (xaL, .inr (1, [.int lPe, .int lDa, .int lDr, .ref lrNa, .ref lrMo, .ref lrWa, .ref lrDe])), (lrNa, .inl (k 0, 5, .inl lNa)), (lrMo, .inl (k 0, 5, .inl lMo)), (lrWa, .inl (k 0, 5, .inl lWa)), (lrDe, .inl (k 0, 25, .inl lDe)), (xaT, .inr (1, [.int tPe, .int tDa, .int tDr, .ref trNa, .ref trMo, .ref trWa, .ref trDe])), (trNa, .inl (k 0, 5, .inl tNa)), (trMo, .inl (k 0, 5, .inl tMo)), (trWa, .inl (k 0, 5, .inl tWa)), (trDe, .inl (k 0, 25, .inl tDe))]) (ws' := wX7 k xh xaL xaT xaO xaF xaS xaI xaH xaR xaU xTf xTb ++ (wX1 k xaL lrNa lrMo lrWa lrDe lPe lDa lDr lNa lMo lWa lDe ++ (wX1 k xaT trNa trMo trWa trDe tPe tDa tDr tNa tMo tWa tDe))) [] [0, 1, 2, 3, 4, 5, 6, 7, 8, 9, 10] [0, 1, 2, 3, 4, 5, 6, 7, 8, 9, 10] rfl rfl (by decide) (by decide) (by decide) rfl (by decide) [] rfl hl.1 rfl (Nat.le_of_ble_eq_true rfl) dX7_give_4 ⟨by decide, by decide⟩ (fun H locs (hw : Wd D A s.heap H locs (wX7 k xh xaL xaT xaO xaF xaS xaI xaH xaR xaU xTf xTb ++ (wX1 k xaL lrNa lrMo lrWa lrDe lPe lDa lDr lNa lMo lWa lDe ++ (wX1 k xaT trNa trMo trWa trDe tPe tDa tDr tNa tMo tWa tDe)))) => ?_)
  refine W.eq (g2 := F0 m 7 ls ([.int r_1])) rfl ?_
  refine kb_if_eq (tgt := 19) hx hb dX7_give_7 (by decide) h (fun c_7 h => ?_) (fun c_7 h => ?_)
  · refine lv_iconst (v := (-1)) hx hb dX7_give_19 (by decide) ?_
    cases h
    exact k_iret hx hb hr hlocks hw rfl dX7_give_20 hQ
  · refine lv_iload_n hx hb dX7_give_10 rfl (lv_at hl 2 rfl) ?_
    refine lv_iconst (v := 0) hx hb dX7_give_11 (by decide) ?_
    refine lv_iconst (v := 1) hx hb dX7_give_12 (by decide) ?_
    obtain ⟨r_2, hf, h⟩ := b1_inv h
    refine k_callS (b := 0) (C := "") (host := "") fx hK hA hw (c_X7_within l D k _ p2 0 1 r_2 hf) (va_cwS 3 hts gX7_give_X7_within rfl rfl rfl (by decide +kernel) ⟨by decide, by decide⟩) (As := [.int p2, .int 0, .int 1]) (wr := [(xh, .inr (7, [.ref xaL, .ref xaT, .ref xaO, .ref xaF, .ref xaS, .ref xaI, .ref xaH, .ref xaR, .ref xaU, .int xTf, .int xTb])), (xaL, .inr (1, [.int lPe, .int lDa, .int lDr, .ref lrNa, .ref lrMo, .ref lrWa, .ref lrDe])), (lrNa, .inl (k 0, 5, .inl lNa)), (lrMo, .inl (k 0, 5, .inl lMo)), (lrWa, .inl (k 0, 5, .inl lWa)), (lrDe, .inl (k 0, 25, .inl lDe)), (xaT, .inr (1, [.int tPe, .int tDa, .int tDr, .ref trNa, .ref trMo, .ref trWa, .ref trDe])), (trNa, .inl (k 0, 5, .inl tNa)), (trMo, .inl (k 0, 5, .inl tMo)), (trWa, .inl (k 0, 5, .inl tWa)), (trDe, .inl (k 0, 25, .inl tDe))]) (ws' := wX7 k xh xaL xaT xaO xaF xaS xaI xaH xaR xaU xTf xTb ++ (wX1 k xaL lrNa lrMo lrWa lrDe lPe lDa lDr lNa lMo lWa lDe ++ (wX1 k xaT trNa trMo trWa trDe tPe tDa tDr tNa tMo tWa tDe))) [] [0, 1, 2, 3, 4, 5, 6, 7, 8, 9, 10] [0, 1, 2, 3, 4, 5, 6, 7, 8, 9, 10] rfl rfl (by decide) (by decide) (by decide) rfl (by decide) [] rfl hl.1 rfl (Nat.le_of_ble_eq_true rfl) dX7_give_13 ⟨by decide, by decide⟩ (fun H locs (hw : Wd D A s.heap H locs (wX7 k xh xaL xaT xaO xaF xaS xaI xaH xaR xaU xTf xTb ++ (wX1 k xaL lrNa lrMo lrWa lrDe lPe lDa lDr lNa lMo lWa lDe ++ (wX1 k xaT trNa trMo trWa trDe tPe tDa tDr tNa tMo tWa tDe)))) => ?_)
    refine W.eq (g2 := F0 m 16 ls ([.int r_2])) rfl ?_
    refine kb_if_ne (tgt := 21) hx hb dX7_give_16 (by decide) h (fun c_16 h => ?_) (fun c_16 h => ?_)
    · refine lv_iconst (v := (-1)) hx hb dX7_give_19 (by decide) ?_
      cases h
      exact k_iret hx hb hr hlocks hw rfl dX7_give_20 hQ
    · refine lv_bipush (v := (-4)) hx hb dX7_give_21 (by decide) ?_
      refine lv_istore_n (lv' := [(3, .int (-4)), (0, .ref xh), (1, .int p1), (2, .int p2)]) hx hb dX7_give_23 rfl hl (by decide) rfl (fun ls hl => ?_)
      refine lv_aload_n hx hb dX7_give_24 rfl (lv_at hl 1 rfl) ?_
      refine va_get (ci := 7) (v := .ref xaT) (C := RX7) (T := TX7) (N := 11) hx hb hts hinX7 hown hK.1 hw.1 0 rfl rfl 1 (by decide) q_1 (fun _ h9 => h9) rfl dX7_give_25 ?_
      refine lv_aload_n hx hb dX7_give_28 rfl (lv_at hl 1 rfl) ?_
      refine va_get (ci := 7) (v := .ref xaL) (C := RX7) (T := TX7) (N := 11) hx hb hts hinX7 hown hK.1 hw.1 0 rfl rfl 0 (by decide) q_2 (fun _ h9 => h9) rfl dX7_give_29 ?_
      obtain ⟨tPe_3, tDa_4, tDr_5, tNa_6, tMo_7, tWa_8, tDe_9, hf, h⟩ := b7_inv h
      refine k_callV (host := "") fx hK hA hw (c_X1_become l D k xaT trNa trMo trWa trDe xaL lrNa lrMo lrWa lrDe _ tPe tDa tDr tNa tMo tWa tDe lPe lDa lDr lNa lMo lWa lDe tPe_3 tDa_4 tDr_5 tNa_6 tMo_7 tWa_8 tDe_9 hf) (cwV 1 hts gX7_give_X1_become rfl rfl rfl (by decide +kernel) ⟨by decide, by decide⟩) (As := [.ref xaL]) (wr := [(xh, .inr (7, [.ref xaL, .ref xaT, .ref xaO, .ref xaF, .ref xaS, .ref xaI, .ref xaH, .ref xaR, .ref xaU, .int xTf, .int xTb]))]) (ws' := wX7 k xh xaL xaT xaO xaF xaS xaI xaH xaR xaU xTf xTb ++ (wX1 k xaL lrNa lrMo lrWa lrDe lPe lDa lDr lNa lMo lWa lDe ++ (wX1 k xaT trNa trMo trWa trDe tPe_3 tDa_4 tDr_5 tNa_6 tMo_7 tWa_8 tDe_9))) [6, 7, 8, 9, 10, 1, 2, 3, 4, 5] [0] [0, 6, 7, 8, 9, 10, 1, 2, 3, 4, 5] rfl rfl (by decide) (by decide) (by decide) rfl (by decide) 1 rfl rfl [] rfl hl.1 rfl (Nat.le_of_ble_eq_true rfl) dX7_give_32 ⟨by decide, by decide⟩ (fun H locs (hw : Wd D A s.heap H locs (wX7 k xh xaL xaT xaO xaF xaS xaI xaH xaR xaU xTf xTb ++ (wX1 k xaL lrNa lrMo lrWa lrDe lPe lDa lDr lNa lMo lWa lDe ++ (wX1 k xaT trNa trMo trWa trDe tPe_3 tDa_4 tDr_5 tNa_6 tMo_7 tWa_8 tDe_9)))) => ?_)
      refine W.eq (g2 := F0 m 35 ls ([])) rfl ?_
      refine lv_aload_n hx hb dX7_give_35 rfl (lv_at hl 1 rfl) ?_
      refine va_get (ci := 7) (v := .ref xaT) (C := RX7) (T := TX7) (N := 11) hx hb hts hinX7 hown hK.1 hw.1 0 rfl rfl 1 (by decide) q_1 (fun _ h9 => h9) rfl dX7_give_36 ?_
      obtain ⟨r_10, tDa_11, tMo_12, tDe_13, hf, h⟩ := b4_inv h
      refine k_callV (host := "") fx hK hA hw (c_X1_ridersInTheEnd l D k xaT trNa trMo trWa trDe _ tPe_3 tDa_4 tDr_5 tNa_6 tMo_7 tWa_8 tDe_9 r_10 tDa_11 tMo_12 tDe_13 hf) (cwV 0 hts gX7_give_X1_ridersInTheEnd rfl rfl rfl (by decide +kernel) ⟨by decide, by decide⟩) (As := []) (wr := [(xh, .inr (7, [.ref xaL, .ref xaT, .ref xaO, .ref xaF, .ref xaS, .ref xaI, .ref xaH, .ref xaR, .ref xaU, .int xTf, .int xTb])), (xaL, .inr (1, [.int lPe, .int lDa, .int lDr, .ref lrNa, .ref lrMo, .ref lrWa, .ref lrDe])), (lrNa, .inl (k 0, 5, .inl lNa)), (lrMo, .inl (k 0, 5, .inl lMo)), (lrWa, .inl (k 0, 5, .inl lWa)), (lrDe, .inl (k 0, 25, .inl lDe))]) (ws' := wX7 k xh xaL xaT xaO xaF xaS xaI xaH xaR xaU xTf xTb ++ (wX1 k xaL lrNa lrMo lrWa lrDe lPe lDa lDr lNa lMo lWa lDe ++ (wX1 k xaT trNa trMo trWa trDe tPe_3 tDa_11 tDr_5 tNa_6 tMo_12 tWa_8 tDe_13))) [6, 7, 8, 9, 10] [0, 1, 2, 3, 4, 5] [0, 1, 2, 3, 4, 5, 6, 7, 8, 9, 10] rfl rfl (by decide) (by decide) (by decide) rfl (by decide) 1 rfl rfl [] rfl hl.1 rfl (Nat.le_of_ble_eq_true rfl) dX7_give_39 ⟨by decide, by decide⟩ (fun H locs (hw : Wd D A s.heap H locs (wX7 k xh xaL xaT xaO xaF xaS xaI xaH xaR xaU xTf xTb ++ (wX1 k xaL lrNa lrMo lrWa lrDe lPe lDa lDr lNa lMo lWa lDe ++ (wX1 k xaT trNa trMo trWa trDe tPe_3 tDa_11 tDr_5 tNa_6 tMo_12 tWa_8 tDe_13)))) => ?_)
      refine W.eq (g2 := F0 m 42 ls ([.int r_10])) rfl ?_
      refine lv_istore (lv' := [(4, .int r_10), (3, .int (-4)), (0, .ref xh), (1, .int p1), (2, .int p2)]) hx hb dX7_give_42 hl (by decide) rfl (fun ls hl => ?_)
      refine lv_iconst (v := 0) hx hb dX7_give_44 (by decide) ?_
      refine lv_istore (lv' := [(5, .int 0), (4, .int r_10), (3, .int (-4)), (0, .ref xh), (1, .int p1), (2, .int p2)]) hx hb dX7_give_45 hl (by decide) rfl (fun ls hl => ?_)
      obtain ⟨v3_24, v4_25, tPe_26, tDa_27, tDr_28, tNa_29, tMo_30, tWa_31, tDe_32, hL_47, h⟩ := b9_inv h
      have X_47 : ∀ (H : Heap) (locs : List Loc) (ls : Array Slot), Wd D A s.heap H locs (wX7 k xh xaL xaT xaO xaF xaS xaI xaH xaR xaU xTf xTb ++ (wX1 k xaL lrNa lrMo lrWa lrDe lPe lDa lDr lNa lMo lWa lDe ++ (wX1 k xaT trNa trMo trWa trDe tPe_26 tDa_27 tDr_28 tNa_29 tMo_30 tWa_31 tDe_32))) → lv_has ls 7 [(2, .int p2), (3, .int v3_24), (4, .int v4_25)] → W p l e rmX7_give s m args below meth c H locs 0 0 Q (F0 m 109 ls []) := by
        intro H locs ls hw hl
        refine lv_iload_n hx hb dX7_give_109 rfl (lv_at hl 1 rfl) ?_
        refine lv_bipush (v := (-4)) hx hb dX7_give_110 (by decide) ?_
        refine kb_icmp_ne (tgt := 118) hx hb dX7_give_112 (by decide) h (fun c_112 h => ?_) (fun c_112 h => ?_)
        · refine lv_bipush (v := (-4)) hx hb dX7_give_115 (by decide) ?_
          cases h
          exact k_iret hx hb hr hlocks hw rfl dX7_give_117 hQ
        · refine lv_iload_n hx hb dX7_give_118 rfl (lv_at hl 0 rfl) ?_
          refine kb_if_ne (tgt := 126) hx hb dX7_give_119 (by decide) h (fun c_119 h => ?_) (fun c_119 h => ?_)
          · refine lv_iload_n hx hb dX7_give_122 rfl (lv_at hl 1 rfl) ?_
            refine lv_goto (tgt := 128) hx hb dX7_give_123 (by decide) ?_
            cases h
            exact k_iret hx hb hr hlocks hw rfl dX7_give_128 hQ
          · refine lv_iload hx hb dX7_give_126 (lv_at hl 2 rfl) ?_
            cases h
            exact k_iret hx hb hr hlocks hw rfl dX7_give_128 hQ
      clear h
      have LP_47 : ∀ (n : Nat) (v3_14 : Int32) (v4_15 : Int32) (v5_16 : Int32) (tPe_17 : Int32) (tDa_18 : Int32) (tDr_19 : Int32) (tNa_20 : (Nat → Int32)) (tMo_21 : (Nat → Int32)) (tWa_22 : (Nat → Int32)) (tDe_23 : (Nat → Int32)), f_X7_give_L47 lPe lDa lDr lNa lMo lWa lDe p1 n v3_14 v4_15 v5_16 tPe_17 tDa_18 tDr_19 tNa_20 tMo_21 tWa_22 tDe_23 = some (v3_24, v4_25, tPe_26, tDa_27, tDr_28, tNa_29, tMo_30, tWa_31, tDe_32) → ∀ (H : Heap) (locs : List Loc) (ls : Array Slot), Wd D A s.heap H locs (wX7 k xh xaL xaT xaO xaF xaS xaI xaH xaR xaU xTf xTb ++ (wX1 k xaL lrNa lrMo lrWa lrDe lPe lDa lDr lNa lMo lWa lDe ++ (wX1 k xaT trNa trMo trWa trDe tPe_17 tDa_18 tDr_19 tNa_20 tMo_21 tWa_22 tDe_23))) → lv_has ls 7 [(0, .ref xh), (1, .int p1), (2, .int p2), (3, .int v3_14), (4, .int v4_15), (5, .int v5_16)] → W p l e rmX7_give s m args below meth c H locs 0 0 Q (F0 m 47 ls []) := by
        clear hL_47 hw hl
        intro n
        induction n with
        | zero => intro v3_14 v4_15 v5_16 tPe_17 tDa_18 tDr_19 tNa_20 tMo_21 tWa_22 tDe_23 h; rw [f_X7_give_L47] at h; cases h
        | succ n ih =>
          intro v3_14 v4_15 v5_16 tPe_17 tDa_18 tDr_19 tNa_20 tMo_21 tWa_22 tDe_23 h H locs ls hw hl
          rw [f_X7_give_L47] at h
          refine lv_iload hx hb dX7_give_47 (lv_at hl 5 rfl) ?_
          refine lv_aload_n hx hb dX7_give_49 rfl (lv_at hl 0 rfl) ?_
          refine va_get (ci := 7) (v := .ref xaL) (C := RX7) (T := TX7) (N := 11) hx hb hts hinX7 hown hK.1 hw.1 0 rfl rfl 0 (by decide) q_2 (fun _ h9 => h9) rfl dX7_give_50 ?_
          refine va_get (ci := 1) (v := .int lPe) (C := RX1) (T := TX1) (N := 7) hx hb hts hinX1 hown hK.1 hw.1 1 rfl rfl 0 (by decide) q_3 (fun _ h9 => h9) rfl dX7_give_53 ?_
          refine kb_icmp_ge (tgt := 109) hx hb dX7_give_56 (by decide) h (fun c_56 h => ?_) (fun c_56 h => ?_)
          · cases h
            exact X_47 _ _ _ hw (lv_sub hl [2, 3, 4] rfl)
          · refine lv_aload_n hx hb dX7_give_59 rfl (lv_at hl 0 rfl) ?_
            refine va_get (ci := 7) (v := .ref xaT) (C := RX7) (T := TX7) (N := 11) hx hb hts hinX7 hown hK.1 hw.1 0 rfl rfl 1 (by decide) q_1 (fun _ h9 => h9) rfl dX7_give_60 ?_
            refine lv_aload_n hx hb dX7_give_63 rfl (lv_at hl 0 rfl) ?_
            refine va_get (ci := 7) (v := .ref xaL) (C := RX7) (T := TX7) (N := 11) hx hb hts hinX7 hown hK.1 hw.1 0 rfl rfl 0 (by decide) q_2 (fun _ h9 => h9) rfl dX7_give_64 ?_
            obtain ⟨tPe_33, tDa_34, tDr_35, tNa_36, tMo_37, tWa_38, tDe_39, hf, h⟩ := b7_inv h
            refine k_callV (host := "") fx hK hA hw (c_X1_become l D k xaT trNa trMo trWa trDe xaL lrNa lrMo lrWa lrDe _ tPe_17 tDa_18 tDr_19 tNa_20 tMo_21 tWa_22 tDe_23 lPe lDa lDr lNa lMo lWa lDe tPe_33 tDa_34 tDr_35 tNa_36 tMo_37 tWa_38 tDe_39 hf) (cwV 1 hts gX7_give_X1_become rfl rfl rfl (by decide +kernel) ⟨by decide, by decide⟩) (As := [.ref xaL]) (wr := [(xh, .inr (7, [.ref xaL, .ref xaT, .ref xaO, .ref xaF, .ref xaS, .ref xaI, .ref xaH, .ref xaR, .ref xaU, .int xTf, .int xTb]))]) (ws' := wX7 k xh xaL xaT xaO xaF xaS xaI xaH xaR xaU xTf xTb ++ (wX1 k xaL lrNa lrMo lrWa lrDe lPe lDa lDr lNa lMo lWa lDe ++ (wX1 k xaT trNa trMo trWa trDe tPe_33 tDa_34 tDr_35 tNa_36 tMo_37 tWa_38 tDe_39))) [6, 7, 8, 9, 10, 1, 2, 3, 4, 5] [0] [0, 6, 7, 8, 9, 10, 1, 2, 3, 4, 5] rfl rfl (by decide) (by decide) (by decide) rfl (by decide) 1 rfl rfl [] rfl hl.1 rfl (Nat.le_of_ble_eq_true rfl) dX7_give_67 ⟨by decide, by decide⟩ (fun H locs (hw : Wd D A s.heap H locs (wX7 k xh xaL xaT xaO xaF xaS xaI xaH xaR xaU xTf xTb ++ (wX1 k xaL lrNa lrMo lrWa lrDe lPe lDa lDr lNa lMo lWa lDe ++ (wX1 k xaT trNa trMo trWa trDe tPe_33 tDa_34 tDr_35 tNa_36 tMo_37 tWa_38 tDe_39)))) => ?_)
            refine W.eq (g2 := F0 m 70 ls ([])) rfl ?_
            refine lv_aload_n hx hb dX7_give_70 rfl (lv_at hl 0 rfl) ?_
            refine va_get (ci := 7) (v := .ref xaT) (C := RX7) (T := TX7) (N := 11) hx hb hts hinX7 hown hK.1 hw.1 0 rfl rfl 1 (by decide) q_1 (fun _ h9 => h9) rfl dX7_give_71 ?_
            refine lv_iload hx hb dX7_give_74 (lv_at hl 5 rfl) ?_
            refine lv_iload_n hx hb dX7_give_76 rfl (lv_at hl 1 rfl) ?_
            obtain ⟨tMo_40, hf, h⟩ := b1_inv h
            refine k_callV (host := "") fx hK hA hw (c_X1_gain l D k xaT trNa trMo trWa trDe _ tPe_33 tDa_34 tDr_35 tNa_36 tMo_37 tWa_38 tDe_39 v5_16 p1 tMo_40 hf) (cwV 2 hts gX7_give_X1_gain rfl rfl rfl (by decide +kernel) ⟨by decide, by decide⟩) (As := [.int v5_16, .int p1]) (wr := [(xh, .inr (7, [.ref xaL, .ref xaT, .ref xaO, .ref xaF, .ref xaS, .ref xaI, .ref xaH, .ref xaR, .ref xaU, .int xTf, .int xTb])), (xaL, .inr (1, [.int lPe, .int lDa, .int lDr, .ref lrNa, .ref lrMo, .ref lrWa, .ref lrDe])), (lrNa, .inl (k 0, 5, .inl lNa)), (lrMo, .inl (k 0, 5, .inl lMo)), (lrWa, .inl (k 0, 5, .inl lWa)), (lrDe, .inl (k 0, 25, .inl lDe))]) (ws' := wX7 k xh xaL xaT xaO xaF xaS xaI xaH xaR xaU xTf xTb ++ (wX1 k xaL lrNa lrMo lrWa lrDe lPe lDa lDr lNa lMo lWa lDe ++ (wX1 k xaT trNa trMo trWa trDe tPe_33 tDa_34 tDr_35 tNa_36 tMo_40 tWa_38 tDe_39))) [6, 7, 8, 9, 10] [0, 1, 2, 3, 4, 5] [0, 1, 2, 3, 4, 5, 6, 7, 8, 9, 10] rfl rfl (by decide) (by decide) (by decide) rfl (by decide) 1 rfl rfl [] rfl hl.1 rfl (Nat.le_of_ble_eq_true rfl) dX7_give_77 ⟨by decide, by decide⟩ (fun H locs (hw : Wd D A s.heap H locs (wX7 k xh xaL xaT xaO xaF xaS xaI xaH xaR xaU xTf xTb ++ (wX1 k xaL lrNa lrMo lrWa lrDe lPe lDa lDr lNa lMo lWa lDe ++ (wX1 k xaT trNa trMo trWa trDe tPe_33 tDa_34 tDr_35 tNa_36 tMo_40 tWa_38 tDe_39)))) => ?_)
            refine W.eq (g2 := F0 m 80 ls ([])) rfl ?_
            refine lv_aload_n hx hb dX7_give_80 rfl (lv_at hl 0 rfl) ?_
            refine va_get (ci := 7) (v := .ref xaT) (C := RX7) (T := TX7) (N := 11) hx hb hts hinX7 hown hK.1 hw.1 0 rfl rfl 1 (by decide) q_1 (fun _ h9 => h9) rfl dX7_give_81 ?_
            obtain ⟨r_41, tDa_42, tMo_43, tDe_44, hf, h⟩ := b4_inv h
            refine k_callV (host := "") fx hK hA hw (c_X1_ridersInTheEnd l D k xaT trNa trMo trWa trDe _ tPe_33 tDa_34 tDr_35 tNa_36 tMo_40 tWa_38 tDe_39 r_41 tDa_42 tMo_43 tDe_44 hf) (cwV 0 hts gX7_give_X1_ridersInTheEnd rfl rfl rfl (by decide +kernel) ⟨by decide, by decide⟩) (As := []) (wr := [(xh, .inr (7, [.ref xaL, .ref xaT, .ref xaO, .ref xaF, .ref xaS, .ref xaI, .ref xaH, .ref xaR, .ref xaU, .int xTf, .int xTb])), (xaL, .inr (1, [.int lPe, .int lDa, .int lDr, .ref lrNa, .ref lrMo, .ref lrWa, .ref lrDe])), (lrNa, .inl (k 0, 5, .inl lNa)), (lrMo, .inl (k 0, 5, .inl lMo)), (lrWa, .inl (k 0, 5, .inl lWa)), (lrDe, .inl (k 0, 25, .inl lDe))]) (ws' := wX7 k xh xaL xaT xaO xaF xaS xaI xaH xaR xaU xTf xTb ++ (wX1 k xaL lrNa lrMo lrWa lrDe lPe lDa lDr lNa lMo lWa lDe ++ (wX1 k xaT trNa trMo trWa trDe tPe_33 tDa_42 tDr_35 tNa_36 tMo_43 tWa_38 tDe_44))) [6, 7, 8, 9, 10] [0, 1, 2, 3, 4, 5] [0, 1, 2, 3, 4, 5, 6, 7, 8, 9, 10] rfl rfl (by decide) (by decide) (by decide) rfl (by decide) 1 rfl rfl [] rfl hl.1 rfl (Nat.le_of_ble_eq_true rfl) dX7_give_84 ⟨by decide, by decide⟩ (fun H locs (hw : Wd D A s.heap H locs (wX7 k xh xaL xaT xaO xaF xaS xaI xaH xaR xaU xTf xTb ++ (wX1 k xaL lrNa lrMo lrWa lrDe lPe lDa lDr lNa lMo lWa lDe ++ (wX1 k xaT trNa trMo trWa trDe tPe_33 tDa_42 tDr_35 tNa_36 tMo_43 tWa_38 tDe_44)))) => ?_)
            refine W.eq (g2 := F0 m 87 ls ([.int r_41])) rfl ?_
            refine lv_istore (lv' := [(6, .int r_41), (0, .ref xh), (1, .int p1), (2, .int p2), (3, .int v3_14), (4, .int v4_15), (5, .int v5_16)]) hx hb dX7_give_87 hl (by decide) rfl (fun ls hl => ?_)
            refine lv_iload hx hb dX7_give_89 (lv_at hl 0 rfl) ?_
            refine lv_iload hx hb dX7_give_91 (lv_at hl 5 rfl) ?_
            refine kb_icmp_le (tgt := 103) hx hb dX7_give_93 (by decide) h (fun c_93 h => ?_) (fun c_93 h => ?_)
            · refine lv_iinc (v := v5_16 + 1) (lv' := [(5, .int (v5_16 + 1)), (6, .int r_41), (0, .ref xh), (1, .int p1), (2, .int p2), (3, .int v3_14), (4, .int v4_15)]) hx hb dX7_give_103 hl (k := 6) rfl rfl (by decide) rfl (fun ls hl => ?_)
              refine lv_goto (tgt := 47) hx hb dX7_give_106 (by decide) ?_
              exact ih _ _ _ _ _ _ _ _ _ _ h _ _ _ hw (lv_sub hl [2, 3, 4, 5, 6, 0] rfl)
            · refine lv_iload hx hb dX7_give_96 (lv_at hl 0 rfl) ?_
              refine lv_istore (lv' := [(4, .int r_41), (6, .int r_41), (0, .ref xh), (1, .int p1), (2, .int p2), (3, .int v3_14), (5, .int v5_16)]) hx hb dX7_give_98 hl (by decide) rfl (fun ls hl => ?_)
              refine lv_iload hx hb dX7_give_100 (lv_at hl 6 rfl) ?_
              refine lv_istore_n (lv' := [(3, .int v5_16), (4, .int r_41), (6, .int r_41), (0, .ref xh), (1, .int p1), (2, .int p2), (5, .int v5_16)]) hx hb dX7_give_102 rfl hl (by decide) rfl (fun ls hl => ?_)
              refine lv_iinc (v := v5_16 + 1) (lv' := [(5, .int (v5_16 + 1)), (3, .int v5_16), (4, .int r_41), (6, .int r_41), (0, .ref xh), (1, .int p1), (2, .int p2)]) hx hb dX7_give_103 hl (k := 6) rfl rfl (by decide) rfl (fun ls hl => ?_)
              refine lv_goto (tgt := 47) hx hb dX7_give_106 (by decide) ?_
              exact ih _ _ _ _ _ _ _ _ _ _ h _ _ _ hw (lv_sub hl [4, 5, 6, 1, 2, 0] rfl)
      exact LP_47 400 (-4) r_10 0 tPe_3 tDa_11 tDr_5 tNa_6 tMo_12 tWa_8 tDe_13 hL_47 _ _ _ hw (lv_sub hl [3, 4, 5, 2, 1, 0] rfl)
abbrev rmX7_isSheet : Room := { frames := 1, cells := 0, slots := 0, locals := 22 }
set_option maxHeartbeats 4000000 in
set_option maxRecDepth 100000 in
theorem c_X7_isSheet (l : Launch) (D : va_G) (k : Nat → ClassId) (sz : Nat) (p1 : Int32) (r_ : Int32) (hf : f_X7_isSheet p1 = some r_) : mR l yX7_isSheet wsX7_isSheet rmX7_isSheet D k sz [.int p1] ([]) ([]) (some (.int r_)) := by
  refine mR_of (cc := cX7_isSheet) (maxL := 1) (ret := some .boolean) (by decide) rfl (Nat.le_of_ble_eq_true rfl) [(0, .int p1)] rfl ?_
  intro p e s m below meth c A ls args Q cx hK hA hw hl hQ
  have fx := cx.1
  obtain ⟨⟨hx, hb, hml, hown, hts⟩, hr, hlocks⟩ := cx
  have h := hf
  unfold f_X7_isSheet at h
  clear hf
  refine lv_iload_n hx hb dX7_isSheet_0 rfl (lv_at hl 0 rfl) ?_
  refine lv_iconst (v := 0) hx hb dX7_isSheet_1 (by decide) ?_
  refine lv_iconst (v := 3) hx hb dX7_isSheet_2 (by decide) ?_
  obtain ⟨r_1, hf, h⟩ := b1_inv h
  refine k_callS (b := 0) (C := "") (host := "") fx hK hA hw (c_X7_within l D k _ p1 0 3 r_1 hf) (va_cwS 3 hts gX7_isSheet_X7_within rfl rfl rfl (by decide +kernel) ⟨by decide, by decide⟩) (As := [.int p1, .int 0, .int 3]) (wr := []) (ws' := []) [] [] [] rfl rfl (by decide) (by decide) (by decide) rfl (by decide) [] rfl hl.1 rfl (Nat.le_of_ble_eq_true rfl) dX7_isSheet_3 ⟨by decide, by decide⟩ (fun H locs (hw : Wd D A s.heap H locs ([])) => ?_)
  refine W.eq (g2 := F0 m 6 ls ([.int r_1])) rfl ?_
  obtain ⟨z_2, hz, h⟩ := b1_inv h
  obtain ⟨hz1, hz2⟩ := bz_inv hz
  refine k_lit hz1.symm ?_
  rw [← hz1] at hz2
  cases h
  exact k_zret hx hb hr hlocks hw hz2 rfl dX7_isSheet_6 hQ
abbrev rmX7_keep : Room := { frames := 2, cells := 0, slots := 0, locals := 81 }
set_option maxHeartbeats 4000000 in
set_option maxRecDepth 100000 in
theorem c_X7_keep (l : Launch) (D : va_G) (k : Nat → ClassId) (xh xaL xaT xaO xaF xaS xaI xaH xaR xaU lrNa lrMo lrWa lrDe srDy srWo srRi i0 i1 i0aL i0aS i1aL i1aS j0rNa j0rMo j0rWa j0rDe j1rNa j1rMo j1rWa j1rDe k0rDy k0rWo k0rRi k1rDy k1rWo k1rRi : Nat) (sz : Nat) (xTf : Int32) (xTb : Int32) (lPe : Int32) (lDa : Int32) (lDr : Int32) (lNa : (Nat → Int32)) (lMo : (Nat → Int32)) (lWa : (Nat → Int32)) (lDe : (Nat → Int32)) (sDy : (Nat → Int32)) (sWo : (Nat → Int32)) (sRi : (Nat → Int32)) (sSz : Int32) (i0Ke : Int32) (i1Ke : Int32) (j0Pe : Int32) (j0Da : Int32) (j0Dr : Int32) (j0Na : (Nat → Int32)) (j0Mo : (Nat → Int32)) (j0Wa : (Nat → Int32)) (j0De : (Nat → Int32)) (j1Pe : Int32) (j1Da : Int32) (j1Dr : Int32) (j1Na : (Nat → Int32)) (j1Mo : (Nat → Int32)) (j1Wa : (Nat → Int32)) (j1De : (Nat → Int32)) (k0Dy : (Nat → Int32)) (k0Wo : (Nat → Int32)) (k0Ri : (Nat → Int32)) (k0Sz : Int32) (k1Dy : (Nat → Int32)) (k1Wo : (Nat → Int32)) (k1Ri : (Nat → Int32)) (k1Sz : Int32) (p1 : Int32) (r_ : Int32) (n_i0Ke : Int32) (n_i1Ke : Int32) (n_j0Pe : Int32) (n_j0Da : Int32) (n_j0Dr : Int32) (n_j0Na : (Nat → Int32)) (n_j0Mo : (Nat → Int32)) (n_j0Wa : (Nat → Int32)) (n_j0De : (Nat → Int32)) (n_j1Pe : Int32) (n_j1Da : Int32) (n_j1Dr : Int32) (n_j1Na : (Nat → Int32)) (n_j1Mo : (Nat → Int32)) (n_j1Wa : (Nat → Int32)) (n_j1De : (Nat → Int32)) (n_k0Dy : (Nat → Int32)) (n_k0Wo : (Nat → Int32)) (n_k0Ri : (Nat → Int32)) (n_k0Sz : Int32) (n_k1Dy : (Nat → Int32)) (n_k1Wo : (Nat → Int32)) (n_k1Ri : (Nat → Int32)) (n_k1Sz : Int32) (hf : f_X7_keep lPe lDa lDr lNa lMo lWa lDe sDy sWo sRi sSz i0Ke i1Ke j0Pe j0Da j0Dr j0Na j0Mo j0Wa j0De j1Pe j1Da j1Dr j1Na j1Mo j1Wa j1De k0Dy k0Wo k0Ri k0Sz k1Dy k1Wo k1Ri k1Sz p1 = some (r_, n_i0Ke, n_i1Ke, n_j0Pe, n_j0Da, n_j0Dr, n_j0Na, n_j0Mo, n_j0Wa, n_j0De, n_j1Pe, n_j1Da, n_j1Dr, n_j1Na, n_j1Mo, n_j1Wa, n_j1De, n_k0Dy, n_k0Wo, n_k0Ri, n_k0Sz, n_k1Dy, n_k1Wo, n_k1Ri, n_k1Sz)) : mR l yX7_keep wsX7_keep rmX7_keep D k sz [.ref xh, .int p1] (wX7 k xh xaL xaT xaO xaF xaS xaI xaH xaR xaU xTf xTb ++ (wX1 k xaL lrNa lrMo lrWa lrDe lPe lDa lDr lNa lMo lWa lDe ++ (wX5 k xaS srDy srWo srRi sDy sWo sRi sSz ++ (wIA k xaI i0 i1 ++ (wX0 k i0 i0aL i0aS i0Ke ++ (wX0 k i1 i1aL i1aS i1Ke ++ (wX1 k i0aL j0rNa j0rMo j0rWa j0rDe j0Pe j0Da j0Dr j0Na j0Mo j0Wa j0De ++ (wX1 k i1aL j1rNa j1rMo j1rWa j1rDe j1Pe j1Da j1Dr j1Na j1Mo j1Wa j1De ++ (wX5 k i0aS k0rDy k0rWo k0rRi k0Dy k0Wo k0Ri k0Sz ++ (wX5 k i1aS k1rDy k1rWo k1rRi k1Dy k1Wo k1Ri k1Sz)))))))))) (wX7 k xh xaL xaT xaO xaF xaS xaI xaH xaR xaU xTf xTb ++ (wX1 k xaL lrNa lrMo lrWa lrDe lPe lDa lDr lNa lMo lWa lDe ++ (wX5 k xaS srDy srWo srRi sDy sWo sRi sSz ++ (wIA k xaI i0 i1 ++ (wX0 k i0 i0aL i0aS n_i0Ke ++ (wX0 k i1 i1aL i1aS n_i1Ke ++ (wX1 k i0aL j0rNa j0rMo j0rWa j0rDe n_j0Pe n_j0Da n_j0Dr n_j0Na n_j0Mo n_j0Wa n_j0De ++ (wX1 k i1aL j1rNa j1rMo j1rWa j1rDe n_j1Pe n_j1Da n_j1Dr n_j1Na n_j1Mo n_j1Wa n_j1De ++ (wX5 k i0aS k0rDy k0rWo k0rRi n_k0Dy n_k0Wo n_k0Ri n_k0Sz ++ (wX5 k i1aS k1rDy k1rWo k1rRi n_k1Dy n_k1Wo n_k1Ri n_k1Sz)))))))))) (some (.int r_)) := by
  refine mR_of (cc := cX7_keep) (maxL := 4) (ret := some .int) (by decide) rfl (Nat.le_of_ble_eq_true rfl) [(0, .ref xh), (1, .int p1)] rfl ?_
  intro p e s m below meth c A ls args Q cx hK hA hw hl hQ
  have fx := cx.1
  obtain ⟨⟨hx, hb, hml, hown, hts⟩, hr, hlocks⟩ := cx
  have hinX7 : ∀ w ∈ wsX70, w ∈ wsX7_keep := fun w h => List.mem_cons_of_mem _ (List.mem_append_left _ (List.mem_append_left _ (List.mem_append_left _ (List.mem_append_right _ h))))
  have hinX0 : ∀ w ∈ wsX00, w ∈ wsX7_keep := fun w h => List.mem_cons_of_mem _ (List.mem_append_left _ (List.mem_append_left _ (List.mem_append_right _ h)))
  have q_1 := hts (.fieldLink RX7 42 "DebtRides" "images" "[LDebtRides$Image;") (List.mem_of_getElem? (i := 1) rfl)
  have q_2 := hts (.fieldLink RX7 99 "DebtRides$Image" "kept" "Z") (List.mem_of_getElem? (i := 2) rfl)
  have q_3 := hts (.fieldLink RX7 251 "DebtRides$Image" "keptLand" "LDebtRides$Land;") (List.mem_of_getElem? (i := 3) rfl)
  have q_4 := hts (.fieldLink RX7 10 "DebtRides" "land" "LDebtRides$Land;") (List.mem_of_getElem? (i := 4) rfl)
  have q_5 := hts (.fieldLink RX7 254 "DebtRides$Image" "keptSeen" "LDebtRides$Seen;") (List.mem_of_getElem? (i := 5) rfl)
  have q_6 := hts (.fieldLink RX7 36 "DebtRides" "seen" "LDebtRides$Seen;") (List.mem_of_getElem? (i := 6) rfl)
  have h := hf
  unfold f_X7_keep at h
  clear hf
  refine lv_iload_n hx hb dX7_keep_0 rfl (lv_at hl 1 rfl) ?_
  refine lv_iconst (v := 0) hx hb dX7_keep_1 (by decide) ?_
  refine lv_iconst (v := 1) hx hb dX7_keep_2 (by decide) ?_
  obtain ⟨r_1, hf, h⟩ := b1_inv h
  refine k_callS (b := 0) (C := "") (host := "") fx hK hA hw (c_X7_within l D k _ p1 0 1 r_1 hf) (va_cwS 3 hts gX7_keep_X7_within rfl rfl rfl (by decide +kernel) ⟨by decide, by decide⟩) (As := [.int p1, .int 0, .int 1]) (wr := [(xh, .inr (7, [.ref xaL, .ref xaT, .ref xaO, .ref xaF, .ref xaS, .ref xaI, .ref xaH, .ref xaR, .ref xaU, .int xTf, .int xTb])), (xaL, .inr (1, [.int lPe, .int lDa, .int lDr, .ref lrNa, .ref lrMo, .ref lrWa, .ref lrDe])), (lrNa, .inl (k 0, 5, .inl lNa)), (lrMo, .inl (k 0, 5, .inl lMo)), (lrWa, .inl (k 0, 5, .inl lWa)), (lrDe, .inl (k 0, 25, .inl lDe)), (xaS, .inr (5, [.ref srDy, .ref srWo, .ref srRi, .int sSz])), (srDy, .inl (k 0, 6, .inl sDy)), (srWo, .inl (k 0, 6, .inl sWo)), (srRi, .inl (k 0, 6, .inl sRi)), (xaI, .inl (k 2, 2, .inr (.inr (.inr (.inr (rl [i0, i1])))))), (i0, .inr (0, [.int i0Ke, .ref i0aL, .ref i0aS])), (i1, .inr (0, [.int i1Ke, .ref i1aL, .ref i1aS])), (i0aL, .inr (1, [.int j0Pe, .int j0Da, .int j0Dr, .ref j0rNa, .ref j0rMo, .ref j0rWa, .ref j0rDe])), (j0rNa, .inl (k 0, 5, .inl j0Na)), (j0rMo, .inl (k 0, 5, .inl j0Mo)), (j0rWa, .inl (k 0, 5, .inl j0Wa)), (j0rDe, .inl (k 0, 25, .inl j0De)), (i1aL, .inr (1, [.int j1Pe, .int j1Da, .int j1Dr, .ref j1rNa, .ref j1rMo, .ref j1rWa, .ref j1rDe])), (j1rNa, .inl (k 0, 5, .inl j1Na)), (j1rMo, .inl (k 0, 5, .inl j1Mo)), (j1rWa, .inl (k 0, 5, .inl j1Wa)), (j1rDe, .inl (k 0, 25, .inl j1De)), (i0aS, .inr (5, [.ref k0rDy, .ref k0rWo, .ref k0rRi, .int k0Sz])), (k0rDy, .inl (k 0, 6, .inl k0Dy)), (k0rWo, .inl (k 0, 6, .inl k0Wo)), (k0rRi, .inl (k 0, 6, .inl k0Ri)), (i1aS, .inr (5, [.ref k1rDy, .ref k1rWo, .ref k1rRi, .int k1Sz])), (k1rDy, .inl (k 0, 6, .inl k1Dy)), (k1rWo, .inl (k 0, 6, .inl k1Wo)), (k1rRi, .inl (k 0, 6, .inl k1Ri))]) (ws' := wX7 k xh xaL xaT xaO xaF xaS xaI xaH xaR xaU xTf xTb ++ (wX1 k xaL lrNa lrMo lrWa lrDe lPe lDa lDr lNa lMo lWa lDe ++ (wX5 k xaS srDy srWo srRi sDy sWo sRi sSz ++ (wIA k xaI i0 i1 ++ (wX0 k i0 i0aL i0aS i0Ke ++ (wX0 k i1 i1aL i1aS i1Ke ++ (wX1 k i0aL j0rNa j0rMo j0rWa j0rDe j0Pe j0Da j0Dr j0Na j0Mo j0Wa j0De ++ (wX1 k i1aL j1rNa j1rMo j1rWa j1rDe j1Pe j1Da j1Dr j1Na j1Mo j1Wa j1De ++ (wX5 k i0aS k0rDy k0rWo k0rRi k0Dy k0Wo k0Ri k0Sz ++ (wX5 k i1aS k1rDy k1rWo k1rRi k1Dy k1Wo k1Ri k1Sz)))))))))) [] [0, 1, 2, 3, 4, 5, 6, 7, 8, 9, 10, 11, 12, 13, 14, 15, 16, 17, 18, 19, 20, 21, 22, 23, 24, 25, 26, 27, 28, 29, 30] [0, 1, 2, 3, 4, 5, 6, 7, 8, 9, 10, 11, 12, 13, 14, 15, 16, 17, 18, 19, 20, 21, 22, 23, 24, 25, 26, 27, 28, 29, 30] rfl rfl (by decide) (by decide) (by decide) rfl (by decide) [] rfl hl.1 rfl (Nat.le_of_ble_eq_true rfl) dX7_keep_3 ⟨by decide, by decide⟩ (fun H locs (hw : Wd D A s.heap H locs (wX7 k xh xaL xaT xaO xaF xaS xaI xaH xaR xaU xTf xTb ++ (wX1 k xaL lrNa lrMo lrWa lrDe lPe lDa lDr lNa lMo lWa lDe ++ (wX5 k xaS srDy srWo srRi sDy sWo sRi sSz ++ (wIA k xaI i0 i1 ++ (wX0 k i0 i0aL i0aS i0Ke ++ (wX0 k i1 i1aL i1aS i1Ke ++ (wX1 k i0aL j0rNa j0rMo j0rWa j0rDe j0Pe j0Da j0Dr j0Na j0Mo j0Wa j0De ++ (wX1 k i1aL j1rNa j1rMo j1rWa j1rDe j1Pe j1Da j1Dr j1Na j1Mo j1Wa j1De ++ (wX5 k i0aS k0rDy k0rWo k0rRi k0Dy k0Wo k0Ri k0Sz ++ (wX5 k i1aS k1rDy k1rWo k1rRi k1Dy k1Wo k1Ri k1Sz))))))))))) => ?_)
  refine W.eq (g2 := F0 m 6 ls ([.int r_1])) rfl ?_
  refine kb_if_ne (tgt := 11) hx hb dX7_keep_6 (by decide) h (fun c_6 h => ?_) (fun c_6 h => ?_)
  · refine lv_iconst (v := (-1)) hx hb dX7_keep_9 (by decide) ?_
    cases h
    exact k_iret hx hb hr hlocks hw rfl dX7_keep_10 hQ
  · refine lv_aload_n hx hb dX7_keep_11 rfl (lv_at hl 0 rfl) ?_
    refine va_get (ci := 7) (v := .ref xaI) (C := RX7) (T := TX7) (N := 11) hx hb hts hinX7 hown hK.1 hw.1 0 rfl rfl 5 (by decide) q_1 (fun _ h9 => h9) rfl dX7_keep_12 ?_
    refine lv_iload_n hx hb dX7_keep_15 rfl (lv_at hl 1 rfl) ?_
    by_cases c_16 : p1 = 0
    · rw [if_pos c_16] at h
      refine k_aald hx hb hK hw 10 2 (j := 0) (a' := i0) rfl rfl c_16 (by unfold vp_in; decide) rfl dX7_keep_16 ?_
      refine lv_astore_n (lv' := [(2, .ref i0), (0, .ref xh), (1, .int p1)]) hx hb dX7_keep_17 rfl hl (by decide) rfl (fun ls hl => ?_)
      refine lv_aload_n hx hb dX7_keep_18 rfl (lv_at hl 0 rfl) ?_
      refine va_get (ci := 0) (v := .int i0Ke) (C := RX0) (T := TX0) (N := 3) hx hb hts hinX0 hown hK.1 hw.1 11 rfl rfl 0 (by decide) q_2 (fun _ h9 => h9) rfl dX7_keep_19 ?_
      obtain ⟨t_2, hj_22, h⟩ := b1_inv h
      have J_22 : ∀ (H : Heap) (locs : List Loc) (ls : Array Slot), Wd D A s.heap H locs (wX7 k xh xaL xaT xaO xaF xaS xaI xaH xaR xaU xTf xTb ++ (wX1 k xaL lrNa lrMo lrWa lrDe lPe lDa lDr lNa lMo lWa lDe ++ (wX5 k xaS srDy srWo srRi sDy sWo sRi sSz ++ (wIA k xaI i0 i1 ++ (wX0 k i0 i0aL i0aS i0Ke ++ (wX0 k i1 i1aL i1aS i1Ke ++ (wX1 k i0aL j0rNa j0rMo j0rWa j0rDe j0Pe j0Da j0Dr j0Na j0Mo j0Wa j0De ++ (wX1 k i1aL j1rNa j1rMo j1rWa j1rDe j1Pe j1Da j1Dr j1Na j1Mo j1Wa j1De ++ (wX5 k i0aS k0rDy k0rWo k0rRi k0Dy k0Wo k0Ri k0Sz ++ (wX5 k i1aS k1rDy k1rWo k1rRi k1Dy k1Wo k1Ri k1Sz)))))))))) → lv_has ls 4 [(0, .ref xh), (2, .ref i0)] → W p l e rmX7_keep s m args below meth c H locs 0 0 Q (F0 m 30 ls [.int t_2]) := by
        intro H locs ls hw hl
        refine lv_istore_n (lv' := [(3, .int t_2), (0, .ref xh), (2, .ref i0)]) hx hb dX7_keep_30 rfl hl (by decide) rfl (fun ls hl => ?_)
        refine lv_aload_n hx hb dX7_keep_31 rfl (lv_at hl 2 rfl) ?_
        refine lv_iconst (v := 1) hx hb dX7_keep_32 (by decide) ?_
        refine va_put (ci := 0) (v := .int 1) (ty := tyX0 0) (C := RX0) (T := TX0) (N := 3) hx hb hts hinX0 tyX0 tyX0_ok nmX0 hown hK.1 hw.1 hw.2.1 hw.2.2 11 rfl rfl 0 (by decide) q_2 (fun _ h9 => h9) rfl (tyX0_ok 0 (by decide)) rfl rfl (Nat.le_of_ble_eq_true rfl) dX7_keep_33 (fun H locs hP hD hS => ?_)
        have hw : Wd D A s.heap H locs (wX7 k xh xaL xaT xaO xaF xaS xaI xaH xaR xaU xTf xTb ++ (wX1 k xaL lrNa lrMo lrWa lrDe lPe lDa lDr lNa lMo lWa lDe ++ (wX5 k xaS srDy srWo srRi sDy sWo sRi sSz ++ (wIA k xaI i0 i1 ++ (wX0 k i0 i0aL i0aS 1 ++ (wX0 k i1 i1aL i1aS i1Ke ++ (wX1 k i0aL j0rNa j0rMo j0rWa j0rDe j0Pe j0Da j0Dr j0Na j0Mo j0Wa j0De ++ (wX1 k i1aL j1rNa j1rMo j1rWa j1rDe j1Pe j1Da j1Dr j1Na j1Mo j1Wa j1De ++ (wX5 k i0aS k0rDy k0rWo k0rRi k0Dy k0Wo k0Ri k0Sz ++ (wX5 k i1aS k1rDy k1rWo k1rRi k1Dy k1Wo k1Ri k1Sz)))))))))) := ⟨hP, hD, hS⟩
        refine lv_aload_n hx hb dX7_keep_36 rfl (lv_at hl 2 rfl) ?_
        refine va_get (ci := 0) (v := .ref i0aL) (C := RX0) (T := TX0) (N := 3) hx hb hts hinX0 hown hK.1 hw.1 11 rfl rfl 1 (by decide) q_3 (fun _ h9 => h9) rfl dX7_keep_37 ?_
        refine lv_aload_n hx hb dX7_keep_40 rfl (lv_at hl 1 rfl) ?_
        refine va_get (ci := 7) (v := .ref xaL) (C := RX7) (T := TX7) (N := 11) hx hb hts hinX7 hown hK.1 hw.1 0 rfl rfl 0 (by decide) q_4 (fun _ h9 => h9) rfl dX7_keep_41 ?_
        obtain ⟨j0Pe_3, j0Da_4, j0Dr_5, j0Na_6, j0Mo_7, j0Wa_8, j0De_9, hf, h⟩ := b7_inv h
        refine k_callV (host := "") fx hK hA hw (c_X1_become l D k i0aL j0rNa j0rMo j0rWa j0rDe xaL lrNa lrMo lrWa lrDe _ j0Pe j0Da j0Dr j0Na j0Mo j0Wa j0De lPe lDa lDr lNa lMo lWa lDe j0Pe_3 j0Da_4 j0Dr_5 j0Na_6 j0Mo_7 j0Wa_8 j0De_9 hf) (cwV 1 hts gX7_keep_X1_become rfl rfl rfl (by decide +kernel) ⟨by decide, by decide⟩) (As := [.ref xaL]) (wr := [(xh, .inr (7, [.ref xaL, .ref xaT, .ref xaO, .ref xaF, .ref xaS, .ref xaI, .ref xaH, .ref xaR, .ref xaU, .int xTf, .int xTb])), (xaS, .inr (5, [.ref srDy, .ref srWo, .ref srRi, .int sSz])), (srDy, .inl (k 0, 6, .inl sDy)), (srWo, .inl (k 0, 6, .inl sWo)), (srRi, .inl (k 0, 6, .inl sRi)), (xaI, .inl (k 2, 2, .inr (.inr (.inr (.inr (rl [i0, i1])))))), (i0, .inr (0, [.int 1, .ref i0aL, .ref i0aS])), (i1, .inr (0, [.int i1Ke, .ref i1aL, .ref i1aS])), (i1aL, .inr (1, [.int j1Pe, .int j1Da, .int j1Dr, .ref j1rNa, .ref j1rMo, .ref j1rWa, .ref j1rDe])), (j1rNa, .inl (k 0, 5, .inl j1Na)), (j1rMo, .inl (k 0, 5, .inl j1Mo)), (j1rWa, .inl (k 0, 5, .inl j1Wa)), (j1rDe, .inl (k 0, 25, .inl j1De)), (i0aS, .inr (5, [.ref k0rDy, .ref k0rWo, .ref k0rRi, .int k0Sz])), (k0rDy, .inl (k 0, 6, .inl k0Dy)), (k0rWo, .inl (k 0, 6, .inl k0Wo)), (k0rRi, .inl (k 0, 6, .inl k0Ri)), (i1aS, .inr (5, [.ref k1rDy, .ref k1rWo, .ref k1rRi, .int k1Sz])), (k1rDy, .inl (k 0, 6, .inl k1Dy)), (k1rWo, .inl (k 0, 6, .inl k1Wo)), (k1rRi, .inl (k 0, 6, .inl k1Ri))]) (ws' := wX7 k xh xaL xaT xaO xaF xaS xaI xaH xaR xaU xTf xTb ++ (wX1 k xaL lrNa lrMo lrWa lrDe lPe lDa lDr lNa lMo lWa lDe ++ (wX5 k xaS srDy srWo srRi sDy sWo sRi sSz ++ (wIA k xaI i0 i1 ++ (wX0 k i0 i0aL i0aS 1 ++ (wX0 k i1 i1aL i1aS i1Ke ++ (wX1 k i0aL j0rNa j0rMo j0rWa j0rDe j0Pe_3 j0Da_4 j0Dr_5 j0Na_6 j0Mo_7 j0Wa_8 j0De_9 ++ (wX1 k i1aL j1rNa j1rMo j1rWa j1rDe j1Pe j1Da j1Dr j1Na j1Mo j1Wa j1De ++ (wX5 k i0aS k0rDy k0rWo k0rRi k0Dy k0Wo k0Ri k0Sz ++ (wX5 k i1aS k1rDy k1rWo k1rRi k1Dy k1Wo k1Ri k1Sz)))))))))) [13, 14, 15, 16, 17, 1, 2, 3, 4, 5] [0, 6, 7, 8, 9, 10, 11, 12, 18, 19, 20, 21, 22, 23, 24, 25, 26, 27, 28, 29, 30] [0, 26, 27, 28, 29, 30, 1, 2, 3, 4, 5, 6, 7, 21, 22, 23, 24, 25, 8, 9, 10, 11, 12, 13, 14, 15, 16, 17, 18, 19, 20] rfl rfl (by decide) (by decide) (by decide) rfl (by decide) 1 rfl rfl [] rfl hl.1 rfl (Nat.le_of_ble_eq_true rfl) dX7_keep_44 ⟨by decide, by decide⟩ (fun H locs (hw : Wd D A s.heap H locs (wX7 k xh xaL xaT xaO xaF xaS xaI xaH xaR xaU xTf xTb ++ (wX1 k xaL lrNa lrMo lrWa lrDe lPe lDa lDr lNa lMo lWa lDe ++ (wX5 k xaS srDy srWo srRi sDy sWo sRi sSz ++ (wIA k xaI i0 i1 ++ (wX0 k i0 i0aL i0aS 1 ++ (wX0 k i1 i1aL i1aS i1Ke ++ (wX1 k i0aL j0rNa j0rMo j0rWa j0rDe j0Pe_3 j0Da_4 j0Dr_5 j0Na_6 j0Mo_7 j0Wa_8 j0De_9 ++ (wX1 k i1aL j1rNa j1rMo j1rWa j1rDe j1Pe j1Da j1Dr j1Na j1Mo j1Wa j1De ++ (wX5 k i0aS k0rDy k0rWo k0rRi k0Dy k0Wo k0Ri k0Sz ++ (wX5 k i1aS k1rDy k1rWo k1rRi k1Dy k1Wo k1Ri k1Sz))))))))))) => ?_)
        refine W.eq (g2 := F0 m 47 ls ([])) rfl ?_
        refine lv_aload_n hx hb dX7_keep_47 rfl (lv_at hl 2 rfl) ?_
        refine va_get (ci := 0) (v := .ref i0aS) (C := RX0) (T := TX0) (N := 3) hx hb hts hinX0 hown hK.1 hw.1 11 rfl rfl 2 (by decide) q_5 (fun _ h9 => h9) rfl dX7_keep_48 ?_
        refine lv_aload_n hx hb dX7_keep_51 rfl (lv_at hl 1 rfl) ?_
        refine va_get (ci := 7) (v := .ref xaS) (C := RX7) (T := TX7) (N := 11) hx hb hts hinX7 hown hK.1 hw.1 0 rfl rfl 4 (by decide) q_6 (fun _ h9 => h9) rfl dX7_keep_52 ?_
        obtain ⟨k0Dy_10, k0Wo_11, k0Ri_12, k0Sz_13, hf, h⟩ := b4_inv h
        refine k_callV (host := "") fx hK hA hw (c_X5_become l D k i0aS k0rDy k0rWo k0rRi xaS srDy srWo srRi _ k0Dy k0Wo k0Ri k0Sz sDy sWo sRi sSz k0Dy_10 k0Wo_11 k0Ri_12 k0Sz_13 hf) (cwV 1 hts gX7_keep_X5_become rfl rfl rfl (by decide +kernel) ⟨by decide, by decide⟩) (As := [.ref xaS]) (wr := [(xh, .inr (7, [.ref xaL, .ref xaT, .ref xaO, .ref xaF, .ref xaS, .ref xaI, .ref xaH, .ref xaR, .ref xaU, .int xTf, .int xTb])), (xaL, .inr (1, [.int lPe, .int lDa, .int lDr, .ref lrNa, .ref lrMo, .ref lrWa, .ref lrDe])), (lrNa, .inl (k 0, 5, .inl lNa)), (lrMo, .inl (k 0, 5, .inl lMo)), (lrWa, .inl (k 0, 5, .inl lWa)), (lrDe, .inl (k 0, 25, .inl lDe)), (xaI, .inl (k 2, 2, .inr (.inr (.inr (.inr (rl [i0, i1])))))), (i0, .inr (0, [.int 1, .ref i0aL, .ref i0aS])), (i1, .inr (0, [.int i1Ke, .ref i1aL, .ref i1aS])), (i0aL, .inr (1, [.int j0Pe_3, .int j0Da_4, .int j0Dr_5, .ref j0rNa, .ref j0rMo, .ref j0rWa, .ref j0rDe])), (j0rNa, .inl (k 0, 5, .inl j0Na_6)), (j0rMo, .inl (k 0, 5, .inl j0Mo_7)), (j0rWa, .inl (k 0, 5, .inl j0Wa_8)), (j0rDe, .inl (k 0, 25, .inl j0De_9)), (i1aL, .inr (1, [.int j1Pe, .int j1Da, .int j1Dr, .ref j1rNa, .ref j1rMo, .ref j1rWa, .ref j1rDe])), (j1rNa, .inl (k 0, 5, .inl j1Na)), (j1rMo, .inl (k 0, 5, .inl j1Mo)), (j1rWa, .inl (k 0, 5, .inl j1Wa)), (j1rDe, .inl (k 0, 25, .inl j1De)), (i1aS, .inr (5, [.ref k1rDy, .ref k1rWo, .ref k1rRi, .int k1Sz])), (k1rDy, .inl (k 0, 6, .inl k1Dy)), (k1rWo, .inl (k 0, 6, .inl k1Wo)), (k1rRi, .inl (k 0, 6, .inl k1Ri))]) (ws' := wX7 k xh xaL xaT xaO xaF xaS xaI xaH xaR xaU xTf xTb ++ (wX1 k xaL lrNa lrMo lrWa lrDe lPe lDa lDr lNa lMo lWa lDe ++ (wX5 k xaS srDy srWo srRi sDy sWo sRi sSz ++ (wIA k xaI i0 i1 ++ (wX0 k i0 i0aL i0aS 1 ++ (wX0 k i1 i1aL i1aS i1Ke ++ (wX1 k i0aL j0rNa j0rMo j0rWa j0rDe j0Pe_3 j0Da_4 j0Dr_5 j0Na_6 j0Mo_7 j0Wa_8 j0De_9 ++ (wX1 k i1aL j1rNa j1rMo j1rWa j1rDe j1Pe j1Da j1Dr j1Na j1Mo j1Wa j1De ++ (wX5 k i0aS k0rDy k0rWo k0rRi k0Dy_10 k0Wo_11 k0Ri_12 k0Sz_13 ++ (wX5 k i1aS k1rDy k1rWo k1rRi k1Dy k1Wo k1Ri k1Sz)))))))))) [23, 24, 25, 26, 6, 7, 8, 9] [0, 1, 2, 3, 4, 5, 10, 11, 12, 13, 14, 15, 16, 17, 18, 19, 20, 21, 22, 27, 28, 29, 30] [0, 1, 2, 3, 4, 5, 27, 28, 29, 30, 6, 7, 8, 9, 10, 11, 12, 13, 14, 15, 16, 17, 18, 23, 24, 25, 26, 19, 20, 21, 22] rfl rfl (by decide) (by decide) (by decide) rfl (by decide) 5 rfl rfl [] rfl hl.1 rfl (Nat.le_of_ble_eq_true rfl) dX7_keep_55 ⟨by decide, by decide⟩ (fun H locs (hw : Wd D A s.heap H locs (wX7 k xh xaL xaT xaO xaF xaS xaI xaH xaR xaU xTf xTb ++ (wX1 k xaL lrNa lrMo lrWa lrDe lPe lDa lDr lNa lMo lWa lDe ++ (wX5 k xaS srDy srWo srRi sDy sWo sRi sSz ++ (wIA k xaI i0 i1 ++ (wX0 k i0 i0aL i0aS 1 ++ (wX0 k i1 i1aL i1aS i1Ke ++ (wX1 k i0aL j0rNa j0rMo j0rWa j0rDe j0Pe_3 j0Da_4 j0Dr_5 j0Na_6 j0Mo_7 j0Wa_8 j0De_9 ++ (wX1 k i1aL j1rNa j1rMo j1rWa j1rDe j1Pe j1Da j1Dr j1Na j1Mo j1Wa j1De ++ (wX5 k i0aS k0rDy k0rWo k0rRi k0Dy_10 k0Wo_11 k0Ri_12 k0Sz_13 ++ (wX5 k i1aS k1rDy k1rWo k1rRi k1Dy k1Wo k1Ri k1Sz))))))))))) => ?_)
        refine W.eq (g2 := F0 m 58 ls ([])) rfl ?_
        refine lv_iload_n hx hb dX7_keep_58 rfl (lv_at hl 0 rfl) ?_
        cases h
        exact k_iret hx hb hr hlocks hw rfl dX7_keep_59 hQ
      clear h
      have h := hj_22
      refine kb_if_eq (tgt := 29) hx hb dX7_keep_22 (by decide) h (fun c_22 h => ?_) (fun c_22 h => ?_)
      · refine lv_iconst (v := 0) hx hb dX7_keep_29 (by decide) ?_
        cases h
        exact J_22 _ _ _ hw (lv_sub hl [1, 0] rfl)
      · refine lv_iconst (v := 1) hx hb dX7_keep_25 (by decide) ?_
        refine lv_goto (tgt := 30) hx hb dX7_keep_26 (by decide) ?_
        cases h
        exact J_22 _ _ _ hw (lv_sub hl [1, 0] rfl)
    · rw [if_neg c_16] at h
      by_cases c_16 : p1 = 1
      · rw [if_pos c_16] at h
        refine k_aald hx hb hK hw 10 2 (j := 1) (a' := i1) rfl rfl c_16 (by unfold vp_in; decide) rfl dX7_keep_16 ?_
        refine lv_astore_n (lv' := [(2, .ref i1), (0, .ref xh), (1, .int p1)]) hx hb dX7_keep_17 rfl hl (by decide) rfl (fun ls hl => ?_)
        refine lv_aload_n hx hb dX7_keep_18 rfl (lv_at hl 0 rfl) ?_
        refine va_get (ci := 0) (v := .int i1Ke) (C := RX0) (T := TX0) (N := 3) hx hb hts hinX0 hown hK.1 hw.1 12 rfl rfl 0 (by decide) q_2 (fun _ h9 => h9) rfl dX7_keep_19 ?_
        obtain ⟨t_14, hj_22, h⟩ := b1_inv h
        have J_22 : ∀ (H : Heap) (locs : List Loc) (ls : Array Slot), Wd D A s.heap H locs (wX7 k xh xaL xaT xaO xaF xaS xaI xaH xaR xaU xTf xTb ++ (wX1 k xaL lrNa lrMo lrWa lrDe lPe lDa lDr lNa lMo lWa lDe ++ (wX5 k xaS srDy srWo srRi sDy sWo sRi sSz ++ (wIA k xaI i0 i1 ++ (wX0 k i0 i0aL i0aS i0Ke ++ (wX0 k i1 i1aL i1aS i1Ke ++ (wX1 k i0aL j0rNa j0rMo j0rWa j0rDe j0Pe j0Da j0Dr j0Na j0Mo j0Wa j0De ++ (wX1 k i1aL j1rNa j1rMo j1rWa j1rDe j1Pe j1Da j1Dr j1Na j1Mo j1Wa j1De ++ (wX5 k i0aS k0rDy k0rWo k0rRi k0Dy k0Wo k0Ri k0Sz ++ (wX5 k i1aS k1rDy k1rWo k1rRi k1Dy k1Wo k1Ri k1Sz)))))))))) → lv_has ls 4 [(0, .ref xh), (2, .ref i1)] → W p l e rmX7_keep s m args below meth c H locs 0 0 Q (F0 m 30 ls [.int t_14]) := by
          intro H locs ls hw hl
          refine lv_istore_n (lv' := [(3, .int t_14), (0, .ref xh), (2, .ref i1)]) hx hb dX7_keep_30 rfl hl (by decide) rfl (fun ls hl => ?_)
          refine lv_aload_n hx hb dX7_keep_31 rfl (lv_at hl 2 rfl) ?_
          refine lv_iconst (v := 1) hx hb dX7_keep_32 (by decide) ?_
          refine va_put (ci := 0) (v := .int 1) (ty := tyX0 0) (C := RX0) (T := TX0) (N := 3) hx hb hts hinX0 tyX0 tyX0_ok nmX0 hown hK.1 hw.1 hw.2.1 hw.2.2 12 rfl rfl 0 (by decide) q_2 (fun _ h9 => h9) rfl (tyX0_ok 0 (by decide)) rfl rfl (Nat.le_of_ble_eq_true rfl) dX7_keep_33 (fun H locs hP hD hS => ?_)
          have hw : Wd D A s.heap H locs (wX7 k xh xaL xaT xaO xaF xaS xaI xaH xaR xaU xTf xTb ++ (wX1 k xaL lrNa lrMo lrWa lrDe lPe lDa lDr lNa lMo lWa lDe ++ (wX5 k xaS srDy srWo srRi sDy sWo sRi sSz ++ (wIA k xaI i0 i1 ++ (wX0 k i0 i0aL i0aS i0Ke ++ (wX0 k i1 i1aL i1aS 1 ++ (wX1 k i0aL j0rNa j0rMo j0rWa j0rDe j0Pe j0Da j0Dr j0Na j0Mo j0Wa j0De ++ (wX1 k i1aL j1rNa j1rMo j1rWa j1rDe j1Pe j1Da j1Dr j1Na j1Mo j1Wa j1De ++ (wX5 k i0aS k0rDy k0rWo k0rRi k0Dy k0Wo k0Ri k0Sz ++ (wX5 k i1aS k1rDy k1rWo k1rRi k1Dy k1Wo k1Ri k1Sz)))))))))) := ⟨hP, hD, hS⟩
          refine lv_aload_n hx hb dX7_keep_36 rfl (lv_at hl 2 rfl) ?_
          refine va_get (ci := 0) (v := .ref i1aL) (C := RX0) (T := TX0) (N := 3) hx hb hts hinX0 hown hK.1 hw.1 12 rfl rfl 1 (by decide) q_3 (fun _ h9 => h9) rfl dX7_keep_37 ?_
          refine lv_aload_n hx hb dX7_keep_40 rfl (lv_at hl 1 rfl) ?_
          refine va_get (ci := 7) (v := .ref xaL) (C := RX7) (T := TX7) (N := 11) hx hb hts hinX7 hown hK.1 hw.1 0 rfl rfl 0 (by decide) q_4 (fun _ h9 => h9) rfl dX7_keep_41 ?_
          obtain ⟨j1Pe_15, j1Da_16, j1Dr_17, j1Na_18, j1Mo_19, j1Wa_20, j1De_21, hf, h⟩ := b7_inv h
          refine k_callV (host := "") fx hK hA hw (c_X1_become l D k i1aL j1rNa j1rMo j1rWa j1rDe xaL lrNa lrMo lrWa lrDe _ j1Pe j1Da j1Dr j1Na j1Mo j1Wa j1De lPe lDa lDr lNa lMo lWa lDe j1Pe_15 j1Da_16 j1Dr_17 j1Na_18 j1Mo_19 j1Wa_20 j1De_21 hf) (cwV 1 hts gX7_keep_X1_become rfl rfl rfl (by decide +kernel) ⟨by decide, by decide⟩) (As := [.ref xaL]) (wr := [(xh, .inr (7, [.ref xaL, .ref xaT, .ref xaO, .ref xaF, .ref xaS, .ref xaI, .ref xaH, .ref xaR, .ref xaU, .int xTf, .int xTb])), (xaS, .inr (5, [.ref srDy, .ref srWo, .ref srRi, .int sSz])), (srDy, .inl (k 0, 6, .inl sDy)), (srWo, .inl (k 0, 6, .inl sWo)), (srRi, .inl (k 0, 6, .inl sRi)), (xaI, .inl (k 2, 2, .inr (.inr (.inr (.inr (rl [i0, i1])))))), (i0, .inr (0, [.int i0Ke, .ref i0aL, .ref i0aS])), (i1, .inr (0, [.int 1, .ref i1aL, .ref i1aS])), (i0aL, .inr (1, [.int j0Pe, .int j0Da, .int j0Dr, .ref j0rNa, .ref j0rMo, .ref j0rWa, .ref j0rDe])), (j0rNa, .inl (k 0, 5, .inl j0Na)), (j0rMo, .inl (k 0, 5, .inl j0Mo)), (j0rWa, .inl (k 0, 5, .inl j0Wa)), (j0rDe, .inl (k 0, 25, .inl j0De)), (i0aS, .inr (5, [.ref k0rDy, .ref k0rWo, .ref k0rRi, .int k0Sz])), (k0rDy, .inl (k 0, 6, .inl k0Dy)), (k0rWo, .inl (k 0, 6, .inl k0Wo)), (k0rRi, .inl (k 0, 6, .inl k0Ri)), (i1aS, .inr (5, [.ref k1rDy, .ref k1rWo, .ref k1rRi, .int k1Sz])), (k1rDy, .inl (k 0, 6, .inl k1Dy)), (k1rWo, .inl (k 0, 6, .inl k1Wo)), (k1rRi, .inl (k 0, 6, .inl k1Ri))]) (ws' := wX7 k xh xaL xaT xaO xaF xaS xaI xaH xaR xaU xTf xTb ++ (wX1 k xaL lrNa lrMo lrWa lrDe lPe lDa lDr lNa lMo lWa lDe ++ (wX5 k xaS srDy srWo srRi sDy sWo sRi sSz ++ (wIA k xaI i0 i1 ++ (wX0 k i0 i0aL i0aS i0Ke ++ (wX0 k i1 i1aL i1aS 1 ++ (wX1 k i0aL j0rNa j0rMo j0rWa j0rDe j0Pe j0Da j0Dr j0Na j0Mo j0Wa j0De ++ (wX1 k i1aL j1rNa j1rMo j1rWa j1rDe j1Pe_15 j1Da_16 j1Dr_17 j1Na_18 j1Mo_19 j1Wa_20 j1De_21 ++ (wX5 k i0aS k0rDy k0rWo k0rRi k0Dy k0Wo k0Ri k0Sz ++ (wX5 k i1aS k1rDy k1rWo k1rRi k1Dy k1Wo k1Ri k1Sz)))))))))) [18, 19, 20, 21, 22, 1, 2, 3, 4, 5] [0, 6, 7, 8, 9, 10, 11, 12, 13, 14, 15, 16, 17, 23, 24, 25, 26, 27, 28, 29, 30] [0, 26, 27, 28, 29, 30, 1, 2, 3, 4, 5, 6, 7, 8, 9, 10, 11, 12, 21, 22, 23, 24, 25, 13, 14, 15, 16, 17, 18, 19, 20] rfl rfl (by decide) (by decide) (by decide) rfl (by decide) 1 rfl rfl [] rfl hl.1 rfl (Nat.le_of_ble_eq_true rfl) dX7_keep_44 ⟨by decide, by decide⟩ (fun H locs (hw : Wd D A s.heap H locs (wX7 k xh xaL xaT xaO xaF xaS xaI xaH xaR xaU xTf xTb ++ (wX1 k xaL lrNa lrMo lrWa lrDe lPe lDa lDr lNa lMo lWa lDe ++ (wX5 k xaS srDy srWo srRi sDy sWo sRi sSz ++ (wIA k xaI i0 i1 ++ (wX0 k i0 i0aL i0aS i0Ke ++ (wX0 k i1 i1aL i1aS 1 ++ (wX1 k i0aL j0rNa j0rMo j0rWa j0rDe j0Pe j0Da j0Dr j0Na j0Mo j0Wa j0De ++ (wX1 k i1aL j1rNa j1rMo j1rWa j1rDe j1Pe_15 j1Da_16 j1Dr_17 j1Na_18 j1Mo_19 j1Wa_20 j1De_21 ++ (wX5 k i0aS k0rDy k0rWo k0rRi k0Dy k0Wo k0Ri k0Sz ++ (wX5 k i1aS k1rDy k1rWo k1rRi k1Dy k1Wo k1Ri k1Sz))))))))))) => ?_)
          refine W.eq (g2 := F0 m 47 ls ([])) rfl ?_
          refine lv_aload_n hx hb dX7_keep_47 rfl (lv_at hl 2 rfl) ?_
          refine va_get (ci := 0) (v := .ref i1aS) (C := RX0) (T := TX0) (N := 3) hx hb hts hinX0 hown hK.1 hw.1 12 rfl rfl 2 (by decide) q_5 (fun _ h9 => h9) rfl dX7_keep_48 ?_
          refine lv_aload_n hx hb dX7_keep_51 rfl (lv_at hl 1 rfl) ?_
          refine va_get (ci := 7) (v := .ref xaS) (C := RX7) (T := TX7) (N := 11) hx hb hts hinX7 hown hK.1 hw.1 0 rfl rfl 4 (by decide) q_6 (fun _ h9 => h9) rfl dX7_keep_52 ?_
          obtain ⟨k1Dy_22, k1Wo_23, k1Ri_24, k1Sz_25, hf, h⟩ := b4_inv h
          refine k_callV (host := "") fx hK hA hw (c_X5_become l D k i1aS k1rDy k1rWo k1rRi xaS srDy srWo srRi _ k1Dy k1Wo k1Ri k1Sz sDy sWo sRi sSz k1Dy_22 k1Wo_23 k1Ri_24 k1Sz_25 hf) (cwV 1 hts gX7_keep_X5_become rfl rfl rfl (by decide +kernel) ⟨by decide, by decide⟩) (As := [.ref xaS]) (wr := [(xh, .inr (7, [.ref xaL, .ref xaT, .ref xaO, .ref xaF, .ref xaS, .ref xaI, .ref xaH, .ref xaR, .ref xaU, .int xTf, .int xTb])), (xaL, .inr (1, [.int lPe, .int lDa, .int lDr, .ref lrNa, .ref lrMo, .ref lrWa, .ref lrDe])), (lrNa, .inl (k 0, 5, .inl lNa)), (lrMo, .inl (k 0, 5, .inl lMo)), (lrWa, .inl (k 0, 5, .inl lWa)), (lrDe, .inl (k 0, 25, .inl lDe)), (xaI, .inl (k 2, 2, .inr (.inr (.inr (.inr (rl [i0, i1])))))), (i0, .inr (0, [.int i0Ke, .ref i0aL, .ref i0aS])), (i1, .inr (0, [.int 1, .ref i1aL, .ref i1aS])), (i0aL, .inr (1, [.int j0Pe, .int j0Da, .int j0Dr, .ref j0rNa, .ref j0rMo, .ref j0rWa, .ref j0rDe])), (j0rNa, .inl (k 0, 5, .inl j0Na)), (j0rMo, .inl (k 0, 5, .inl j0Mo)), (j0rWa, .inl (k 0, 5, .inl j0Wa)), (j0rDe, .inl (k 0, 25, .inl j0De)), (i1aL, .inr (1, [.int j1Pe_15, .int j1Da_16, .int j1Dr_17, .ref j1rNa, .ref j1rMo, .ref j1rWa, .ref j1rDe])), (j1rNa, .inl (k 0, 5, .inl j1Na_18)), (j1rMo, .inl (k 0, 5, .inl j1Mo_19)), (j1rWa, .inl (k 0, 5, .inl j1Wa_20)), (j1rDe, .inl (k 0, 25, .inl j1De_21)), (i0aS, .inr (5, [.ref k0rDy, .ref k0rWo, .ref k0rRi, .int k0Sz])), (k0rDy, .inl (k 0, 6, .inl k0Dy)), (k0rWo, .inl (k 0, 6, .inl k0Wo)), (k0rRi, .inl (k 0, 6, .inl k0Ri))]) (ws' := wX7 k xh xaL xaT xaO xaF xaS xaI xaH xaR xaU xTf xTb ++ (wX1 k xaL lrNa lrMo lrWa lrDe lPe lDa lDr lNa lMo lWa lDe ++ (wX5 k xaS srDy srWo srRi sDy sWo sRi sSz ++ (wIA k xaI i0 i1 ++ (wX0 k i0 i0aL i0aS i0Ke ++ (wX0 k i1 i1aL i1aS 1 ++ (wX1 k i0aL j0rNa j0rMo j0rWa j0rDe j0Pe j0Da j0Dr j0Na j0Mo j0Wa j0De ++ (wX1 k i1aL j1rNa j1rMo j1rWa j1rDe j1Pe_15 j1Da_16 j1Dr_17 j1Na_18 j1Mo_19 j1Wa_20 j1De_21 ++ (wX5 k i0aS k0rDy k0rWo k0rRi k0Dy k0Wo k0Ri k0Sz ++ (wX5 k i1aS k1rDy k1rWo k1rRi k1Dy_22 k1Wo_23 k1Ri_24 k1Sz_25)))))))))) [27, 28, 29, 30, 6, 7, 8, 9] [0, 1, 2, 3, 4, 5, 10, 11, 12, 13, 14, 15, 16, 17, 18, 19, 20, 21, 22, 23, 24, 25, 26] [0, 1, 2, 3, 4, 5, 27, 28, 29, 30, 6, 7, 8, 9, 10, 11, 12, 13, 14, 15, 16, 17, 18, 19, 20, 21, 22, 23, 24, 25, 26] rfl rfl (by decide) (by decide) (by decide) rfl (by decide) 5 rfl rfl [] rfl hl.1 rfl (Nat.le_of_ble_eq_true rfl) dX7_keep_55 ⟨by decide, by decide⟩ (fun H locs (hw : Wd D A s.heap H locs (wX7 k xh xaL xaT xaO xaF xaS xaI xaH xaR xaU xTf xTb ++ (wX1 k xaL lrNa lrMo lrWa lrDe lPe lDa lDr lNa lMo lWa lDe ++ (wX5 k xaS srDy srWo srRi sDy sWo sRi sSz ++ (wIA k xaI i0 i1 ++ (wX0 k i0 i0aL i0aS i0Ke ++ (wX0 k i1 i1aL i1aS 1 ++ (wX1 k i0aL j0rNa j0rMo j0rWa j0rDe j0Pe j0Da j0Dr j0Na j0Mo j0Wa j0De ++ (wX1 k i1aL j1rNa j1rMo j1rWa j1rDe j1Pe_15 j1Da_16 j1Dr_17 j1Na_18 j1Mo_19 j1Wa_20 j1De_21 ++ (wX5 k i0aS k0rDy k0rWo k0rRi k0Dy k0Wo k0Ri k0Sz ++ (wX5 k i1aS k1rDy k1rWo k1rRi k1Dy_22 k1Wo_23 k1Ri_24 k1Sz_25))))))))))) => ?_)
          refine W.eq (g2 := F0 m 58 ls ([])) rfl ?_
          refine lv_iload_n hx hb dX7_keep_58 rfl (lv_at hl 0 rfl) ?_
          cases h
          exact k_iret hx hb hr hlocks hw rfl dX7_keep_59 hQ
        clear h
        have h := hj_22
        refine kb_if_eq (tgt := 29) hx hb dX7_keep_22 (by decide) h (fun c_22 h => ?_) (fun c_22 h => ?_)
        · refine lv_iconst (v := 0) hx hb dX7_keep_29 (by decide) ?_
          cases h
          exact J_22 _ _ _ hw (lv_sub hl [1, 0] rfl)
        · refine lv_iconst (v := 1) hx hb dX7_keep_25 (by decide) ?_
          refine lv_goto (tgt := 30) hx hb dX7_keep_26 (by decide) ?_
          cases h
          exact J_22 _ _ _ hw (lv_sub hl [1, 0] rfl)
      · rw [if_neg c_16] at h
        cases h
abbrev rmX7_kind : Room := { frames := 5, cells := 0, slots := 0, locals := 116 }
set_option maxHeartbeats 4000000 in
set_option maxRecDepth 100000 in
theorem c_X7_kind (l : Launch) (D : va_G) (k : Nat → ClassId) (xh xaL xaT xaO xaF xaS xaI xaH xaR xaU lrNa lrMo lrWa lrDe trNa trMo trWa trDe : Nat) (sz : Nat) (xTf : Int32) (xTb : Int32) (lPe : Int32) (lDa : Int32) (lDr : Int32) (lNa : (Nat → Int32)) (lMo : (Nat → Int32)) (lWa : (Nat → Int32)) (lDe : (Nat → Int32)) (tPe : Int32) (tDa : Int32) (tDr : Int32) (tNa : (Nat → Int32)) (tMo : (Nat → Int32)) (tWa : (Nat → Int32)) (tDe : (Nat → Int32)) (p1 : Int32) (p2 : Int32) (r_ : Int32) (n_tPe : Int32) (n_tDa : Int32) (n_tDr : Int32) (n_tNa : (Nat → Int32)) (n_tMo : (Nat → Int32)) (n_tWa : (Nat → Int32)) (n_tDe : (Nat → Int32)) (hf : f_X7_kind lPe lDa lDr lNa lMo lWa lDe tPe tDa tDr tNa tMo tWa tDe p1 p2 = some (r_, n_tPe, n_tDa, n_tDr, n_tNa, n_tMo, n_tWa, n_tDe)) : mR l yX7_kind wsX7_kind rmX7_kind D k sz [.ref xh, .int p1, .int p2] (wX7 k xh xaL xaT xaO xaF xaS xaI xaH xaR xaU xTf xTb ++ (wX1 k xaL lrNa lrMo lrWa lrDe lPe lDa lDr lNa lMo lWa lDe ++ (wX1 k xaT trNa trMo trWa trDe tPe tDa tDr tNa tMo tWa tDe))) (wX7 k xh xaL xaT xaO xaF xaS xaI xaH xaR xaU xTf xTb ++ (wX1 k xaL lrNa lrMo lrWa lrDe lPe lDa lDr lNa lMo lWa lDe ++ (wX1 k xaT trNa trMo trWa trDe n_tPe n_tDa n_tDr n_tNa n_tMo n_tWa n_tDe))) (some (.int r_)) := by
  refine mR_of (cc := cX7_kind) (maxL := 7) (ret := some .int) (by decide) rfl (Nat.le_of_ble_eq_true rfl) [(0, .ref xh), (1, .int p1), (2, .int p2)] rfl ?_
  intro p e s m below meth c A ls args Q cx hK hA hw hl hQ
  have fx := cx.1
  obtain ⟨⟨hx, hb, hml, hown, hts⟩, hr, hlocks⟩ := cx
  have hinX7 : ∀ w ∈ wsX70, w ∈ wsX7_kind := fun w h => List.mem_cons_of_mem _ (List.mem_append_left _ (List.mem_append_right _ h))
  have hinX1 : ∀ w ∈ wsX10, w ∈ wsX7_kind := fun w h => List.mem_cons_of_mem _ (List.mem_append_right _ h)
  have q_1 := hts (.fieldLink RX7 10 "DebtRides" "land" "LDebtRides$Land;") (List.mem_of_getElem? (i := 1) rfl)
  have q_2 := hts (.fieldLink RX7 16 "DebtRides" "trial" "LDebtRides$Land;") (List.mem_of_getElem? (i := 2) rfl)
  have q_3 := hts (.fieldLink RX7 129 "DebtRides$Land" "nature" "[I") (List.mem_of_getElem? (i := 3) rfl)
  have h := hf
  unfold f_X7_kind at h
  clear hf
  refine lv_aload_n hx hb dX7_kind_0 rfl (lv_at hl 0 rfl) ?_
  refine va_get (ci := 7) (v := .ref xaL) (C := RX7) (T := TX7) (N := 11) hx hb hts hinX7 hown hK.1 hw.1 0 rfl rfl 0 (by decide) q_1 (fun _ h9 => h9) rfl dX7_kind_1 ?_
  refine lv_iload_n hx hb dX7_kind_4 rfl (lv_at hl 1 rfl) ?_
  obtain ⟨r_1, hf, h⟩ := b1_inv h
  refine k_callV (host := "") fx hK hA hw (c_X1_has l D k xaL lrNa lrMo lrWa lrDe _ lPe lDa lDr lNa lMo lWa lDe p1 r_1 hf) (cwV 1 hts gX7_kind_X1_has rfl rfl rfl (by decide +kernel) ⟨by decide, by decide⟩) (As := [.int p1]) (wr := [(xh, .inr (7, [.ref xaL, .ref xaT, .ref xaO, .ref xaF, .ref xaS, .ref xaI, .ref xaH, .ref xaR, .ref xaU, .int xTf, .int xTb])), (xaT, .inr (1, [.int tPe, .int tDa, .int tDr, .ref trNa, .ref trMo, .ref trWa, .ref trDe])), (trNa, .inl (k 0, 5, .inl tNa)), (trMo, .inl (k 0, 5, .inl tMo)), (trWa, .inl (k 0, 5, .inl tWa)), (trDe, .inl (k 0, 25, .inl tDe))]) (ws' := wX7 k xh xaL xaT xaO xaF xaS xaI xaH xaR xaU xTf xTb ++ (wX1 k xaL lrNa lrMo lrWa lrDe lPe lDa lDr lNa lMo lWa lDe ++ (wX1 k xaT trNa trMo trWa trDe tPe tDa tDr tNa tMo tWa tDe))) [1, 2, 3, 4, 5] [0, 6, 7, 8, 9, 10] [0, 6, 7, 8, 9, 10, 1, 2, 3, 4, 5] rfl rfl (by decide) (by decide) (by decide) rfl (by decide) 1 rfl rfl [] rfl hl.1 rfl (Nat.le_of_ble_eq_true rfl) dX7_kind_5 ⟨by decide, by decide⟩ (fun H locs (hw : Wd D A s.heap H locs (wX7 k xh xaL xaT xaO xaF xaS xaI xaH xaR xaU xTf xTb ++ (wX1 k xaL lrNa lrMo lrWa lrDe lPe lDa lDr lNa lMo lWa lDe ++ (wX1 k xaT trNa trMo trWa trDe tPe tDa tDr tNa tMo tWa tDe)))) => ?_)
  refine W.eq (g2 := F0 m 8 ls ([.int r_1])) rfl ?_
  refine kb_if_eq (tgt := 20) hx hb dX7_kind_8 (by decide) h (fun c_8 h => ?_) (fun c_8 h => ?_)
  · refine lv_iconst (v := (-1)) hx hb dX7_kind_20 (by decide) ?_
    cases h
    exact k_iret hx hb hr hlocks hw rfl dX7_kind_21 hQ
  · refine lv_iload_n hx hb dX7_kind_11 rfl (lv_at hl 2 rfl) ?_
    refine lv_iconst (v := 0) hx hb dX7_kind_12 (by decide) ?_
    refine lv_iconst (v := 1) hx hb dX7_kind_13 (by decide) ?_
    obtain ⟨r_2, hf, h⟩ := b1_inv h
    refine k_callS (b := 0) (C := "") (host := "") fx hK hA hw (c_X7_within l D k _ p2 0 1 r_2 hf) (va_cwS 3 hts gX7_kind_X7_within rfl rfl rfl (by decide +kernel) ⟨by decide, by decide⟩) (As := [.int p2, .int 0, .int 1]) (wr := [(xh, .inr (7, [.ref xaL, .ref xaT, .ref xaO, .ref xaF, .ref xaS, .ref xaI, .ref xaH, .ref xaR, .ref xaU, .int xTf, .int xTb])), (xaL, .inr (1, [.int lPe, .int lDa, .int lDr, .ref lrNa, .ref lrMo, .ref lrWa, .ref lrDe])), (lrNa, .inl (k 0, 5, .inl lNa)), (lrMo, .inl (k 0, 5, .inl lMo)), (lrWa, .inl (k 0, 5, .inl lWa)), (lrDe, .inl (k 0, 25, .inl lDe)), (xaT, .inr (1, [.int tPe, .int tDa, .int tDr, .ref trNa, .ref trMo, .ref trWa, .ref trDe])), (trNa, .inl (k 0, 5, .inl tNa)), (trMo, .inl (k 0, 5, .inl tMo)), (trWa, .inl (k 0, 5, .inl tWa)), (trDe, .inl (k 0, 25, .inl tDe))]) (ws' := wX7 k xh xaL xaT xaO xaF xaS xaI xaH xaR xaU xTf xTb ++ (wX1 k xaL lrNa lrMo lrWa lrDe lPe lDa lDr lNa lMo lWa lDe ++ (wX1 k xaT trNa trMo trWa trDe tPe tDa tDr tNa tMo tWa tDe))) [] [0, 1, 2, 3, 4, 5, 6, 7, 8, 9, 10] [0, 1, 2, 3, 4, 5, 6, 7, 8, 9, 10] rfl rfl (by decide) (by decide) (by decide) rfl (by decide) [] rfl hl.1 rfl (Nat.le_of_ble_eq_true rfl) dX7_kind_14 ⟨by decide, by decide⟩ (fun H locs (hw : Wd D A s.heap H locs (wX7 k xh xaL xaT xaO xaF xaS xaI xaH xaR xaU xTf xTb ++ (wX1 k xaL lrNa lrMo lrWa lrDe lPe lDa lDr lNa lMo lWa lDe ++ (wX1 k xaT trNa trMo trWa trDe tPe tDa tDr tNa tMo tWa tDe)))) => ?_)
    refine W.eq (g2 := F0 m 17 ls ([.int r_2])) rfl ?_
    refine kb_if_ne (tgt := 22) hx hb dX7_kind_17 (by decide) h (fun c_17 h => ?_) (fun c_17 h => ?_)
    · refine lv_iconst (v := (-1)) hx hb dX7_kind_20 (by decide) ?_
      cases h
      exact k_iret hx hb hr hlocks hw rfl dX7_kind_21 hQ
    · refine lv_bipush (v := (-4)) hx hb dX7_kind_22 (by decide) ?_
      refine lv_istore_n (lv' := [(3, .int (-4)), (0, .ref xh), (1, .int p1), (2, .int p2)]) hx hb dX7_kind_24 rfl hl (by decide) rfl (fun ls hl => ?_)
      refine lv_bipush (v := 61) hx hb dX7_kind_25 (by decide) ?_
      refine lv_istore (lv' := [(4, .int 61), (3, .int (-4)), (0, .ref xh), (1, .int p1), (2, .int p2)]) hx hb dX7_kind_27 hl (by decide) rfl (fun ls hl => ?_)
      refine lv_iconst (v := 0) hx hb dX7_kind_29 (by decide) ?_
      refine lv_istore (lv' := [(5, .int 0), (4, .int 61), (3, .int (-4)), (0, .ref xh), (1, .int p1), (2, .int p2)]) hx hb dX7_kind_30 hl (by decide) rfl (fun ls hl => ?_)
      obtain ⟨v3_13, v4_14, tPe_15, tDa_16, tDr_17, tNa_18, tMo_19, tWa_20, tDe_21, hL_32, h⟩ := b9_inv h
      have X_32 : ∀ (H : Heap) (locs : List Loc) (ls : Array Slot), Wd D A s.heap H locs (wX7 k xh xaL xaT xaO xaF xaS xaI xaH xaR xaU xTf xTb ++ (wX1 k xaL lrNa lrMo lrWa lrDe lPe lDa lDr lNa lMo lWa lDe ++ (wX1 k xaT trNa trMo trWa trDe tPe_15 tDa_16 tDr_17 tNa_18 tMo_19 tWa_20 tDe_21))) → lv_has ls 7 [(2, .int p2), (3, .int v3_13), (4, .int v4_14)] → W p l e rmX7_kind s m args below meth c H locs 0 0 Q (F0 m 97 ls []) := by
        intro H locs ls hw hl
        refine lv_iload_n hx hb dX7_kind_97 rfl (lv_at hl 1 rfl) ?_
        refine lv_bipush (v := (-4)) hx hb dX7_kind_98 (by decide) ?_
        refine kb_icmp_ne (tgt := 106) hx hb dX7_kind_100 (by decide) h (fun c_100 h => ?_) (fun c_100 h => ?_)
        · refine lv_bipush (v := (-4)) hx hb dX7_kind_103 (by decide) ?_
          cases h
          exact k_iret hx hb hr hlocks hw rfl dX7_kind_105 hQ
        · refine lv_iload_n hx hb dX7_kind_106 rfl (lv_at hl 0 rfl) ?_
          refine kb_if_ne (tgt := 114) hx hb dX7_kind_107 (by decide) h (fun c_107 h => ?_) (fun c_107 h => ?_)
          · refine lv_iload_n hx hb dX7_kind_110 rfl (lv_at hl 1 rfl) ?_
            refine lv_goto (tgt := 116) hx hb dX7_kind_111 (by decide) ?_
            cases h
            exact k_iret hx hb hr hlocks hw rfl dX7_kind_116 hQ
          · refine lv_iload hx hb dX7_kind_114 (lv_at hl 2 rfl) ?_
            cases h
            exact k_iret hx hb hr hlocks hw rfl dX7_kind_116 hQ
      clear h
      have LP_32 : ∀ (n : Nat) (v3_3 : Int32) (v4_4 : Int32) (v5_5 : Int32) (tPe_6 : Int32) (tDa_7 : Int32) (tDr_8 : Int32) (tNa_9 : (Nat → Int32)) (tMo_10 : (Nat → Int32)) (tWa_11 : (Nat → Int32)) (tDe_12 : (Nat → Int32)), f_X7_kind_L32 lPe lDa lDr lNa lMo lWa lDe p1 n v3_3 v4_4 v5_5 tPe_6 tDa_7 tDr_8 tNa_9 tMo_10 tWa_11 tDe_12 = some (v3_13, v4_14, tPe_15, tDa_16, tDr_17, tNa_18, tMo_19, tWa_20, tDe_21) → ∀ (H : Heap) (locs : List Loc) (ls : Array Slot), Wd D A s.heap H locs (wX7 k xh xaL xaT xaO xaF xaS xaI xaH xaR xaU xTf xTb ++ (wX1 k xaL lrNa lrMo lrWa lrDe lPe lDa lDr lNa lMo lWa lDe ++ (wX1 k xaT trNa trMo trWa trDe tPe_6 tDa_7 tDr_8 tNa_9 tMo_10 tWa_11 tDe_12))) → lv_has ls 7 [(0, .ref xh), (1, .int p1), (2, .int p2), (3, .int v3_3), (4, .int v4_4), (5, .int v5_5)] → W p l e rmX7_kind s m args below meth c H locs 0 0 Q (F0 m 32 ls []) := by
        clear hL_32 hw hl
        intro n
        induction n with
        | zero => intro v3_3 v4_4 v5_5 tPe_6 tDa_7 tDr_8 tNa_9 tMo_10 tWa_11 tDe_12 h; rw [f_X7_kind_L32] at h; cases h
        | succ n ih =>
          intro v3_3 v4_4 v5_5 tPe_6 tDa_7 tDr_8 tNa_9 tMo_10 tWa_11 tDe_12 h H locs ls hw hl
          rw [f_X7_kind_L32] at h
          refine lv_iload hx hb dX7_kind_32 (lv_at hl 5 rfl) ?_
          refine lv_iconst (v := 4) hx hb dX7_kind_34 (by decide) ?_
          refine kb_icmp_ge (tgt := 97) hx hb dX7_kind_35 (by decide) h (fun c_35 h => ?_) (fun c_35 h => ?_)
          · cases h
            exact X_32 _ _ _ hw (lv_sub hl [2, 3, 4] rfl)
          · refine lv_aload_n hx hb dX7_kind_38 rfl (lv_at hl 0 rfl) ?_
            refine va_get (ci := 7) (v := .ref xaT) (C := RX7) (T := TX7) (N := 11) hx hb hts hinX7 hown hK.1 hw.1 0 rfl rfl 1 (by decide) q_2 (fun _ h9 => h9) rfl dX7_kind_39 ?_
            refine lv_aload_n hx hb dX7_kind_42 rfl (lv_at hl 0 rfl) ?_
            refine va_get (ci := 7) (v := .ref xaL) (C := RX7) (T := TX7) (N := 11) hx hb hts hinX7 hown hK.1 hw.1 0 rfl rfl 0 (by decide) q_1 (fun _ h9 => h9) rfl dX7_kind_43 ?_
            obtain ⟨tPe_22, tDa_23, tDr_24, tNa_25, tMo_26, tWa_27, tDe_28, hf, h⟩ := b7_inv h
            refine k_callV (host := "") fx hK hA hw (c_X1_become l D k xaT trNa trMo trWa trDe xaL lrNa lrMo lrWa lrDe _ tPe_6 tDa_7 tDr_8 tNa_9 tMo_10 tWa_11 tDe_12 lPe lDa lDr lNa lMo lWa lDe tPe_22 tDa_23 tDr_24 tNa_25 tMo_26 tWa_27 tDe_28 hf) (cwV 1 hts gX7_kind_X1_become rfl rfl rfl (by decide +kernel) ⟨by decide, by decide⟩) (As := [.ref xaL]) (wr := [(xh, .inr (7, [.ref xaL, .ref xaT, .ref xaO, .ref xaF, .ref xaS, .ref xaI, .ref xaH, .ref xaR, .ref xaU, .int xTf, .int xTb]))]) (ws' := wX7 k xh xaL xaT xaO xaF xaS xaI xaH xaR xaU xTf xTb ++ (wX1 k xaL lrNa lrMo lrWa lrDe lPe lDa lDr lNa lMo lWa lDe ++ (wX1 k xaT trNa trMo trWa trDe tPe_22 tDa_23 tDr_24 tNa_25 tMo_26 tWa_27 tDe_28))) [6, 7, 8, 9, 10, 1, 2, 3, 4, 5] [0] [0, 6, 7, 8, 9, 10, 1, 2, 3, 4, 5] rfl rfl (by decide) (by decide) (by decide) rfl (by decide) 1 rfl rfl [] rfl hl.1 rfl (Nat.le_of_ble_eq_true rfl) dX7_kind_46 ⟨by decide, by decide⟩ (fun H locs (hw : Wd D A s.heap H locs (wX7 k xh xaL xaT xaO xaF xaS xaI xaH xaR xaU xTf xTb ++ (wX1 k xaL lrNa lrMo lrWa lrDe lPe lDa lDr lNa lMo lWa lDe ++ (wX1 k xaT trNa trMo trWa trDe tPe_22 tDa_23 tDr_24 tNa_25 tMo_26 tWa_27 tDe_28)))) => ?_)
            refine W.eq (g2 := F0 m 49 ls ([])) rfl ?_
            refine lv_aload_n hx hb dX7_kind_49 rfl (lv_at hl 0 rfl) ?_
            refine va_get (ci := 7) (v := .ref xaT) (C := RX7) (T := TX7) (N := 11) hx hb hts hinX7 hown hK.1 hw.1 0 rfl rfl 1 (by decide) q_2 (fun _ h9 => h9) rfl dX7_kind_50 ?_
            refine va_get (ci := 1) (v := .ref trNa) (C := RX1) (T := TX1) (N := 7) hx hb hts hinX1 hown hK.1 hw.1 6 rfl rfl 3 (by decide) q_3 (fun _ h9 => h9) rfl dX7_kind_53 ?_
            refine lv_iload_n hx hb dX7_kind_56 rfl (lv_at hl 1 rfl) ?_
            refine lv_iload hx hb dX7_kind_57 (lv_at hl 5 rfl) ?_
            refine k_iast hx hb hK hw 7 rfl dX7_kind_59 h (fun tNa_29 h H locs (hw : Wd D A s.heap H locs (wX7 k xh xaL xaT xaO xaF xaS xaI xaH xaR xaU xTf xTb ++ (wX1 k xaL lrNa lrMo lrWa lrDe lPe lDa lDr lNa lMo lWa lDe ++ (wX1 k xaT trNa trMo trWa trDe tPe_22 tDa_23 tDr_24 tNa_29 tMo_26 tWa_27 tDe_28)))) => ?_)
            refine lv_aload_n hx hb dX7_kind_60 rfl (lv_at hl 0 rfl) ?_
            refine va_get (ci := 7) (v := .ref xaT) (C := RX7) (T := TX7) (N := 11) hx hb hts hinX7 hown hK.1 hw.1 0 rfl rfl 1 (by decide) q_2 (fun _ h9 => h9) rfl dX7_kind_61 ?_
            refine lv_iload_n hx hb dX7_kind_64 rfl (lv_at hl 1 rfl) ?_
            obtain ⟨r_30, tDa_31, tMo_32, tDe_33, hf, h⟩ := b4_inv h
            refine k_callV (host := "") fx hK hA hw (c_X1_daysTillRiding l D k xaT trNa trMo trWa trDe _ tPe_22 tDa_23 tDr_24 tNa_29 tMo_26 tWa_27 tDe_28 p1 r_30 tDa_31 tMo_32 tDe_33 hf) (cwV 1 hts gX7_kind_X1_daysTillRiding rfl rfl rfl (by decide +kernel) ⟨by decide, by decide⟩) (As := [.int p1]) (wr := [(xh, .inr (7, [.ref xaL, .ref xaT, .ref xaO, .ref xaF, .ref xaS, .ref xaI, .ref xaH, .ref xaR, .ref xaU, .int xTf, .int xTb])), (xaL, .inr (1, [.int lPe, .int lDa, .int lDr, .ref lrNa, .ref lrMo, .ref lrWa, .ref lrDe])), (lrNa, .inl (k 0, 5, .inl lNa)), (lrMo, .inl (k 0, 5, .inl lMo)), (lrWa, .inl (k 0, 5, .inl lWa)), (lrDe, .inl (k 0, 25, .inl lDe))]) (ws' := wX7 k xh xaL xaT xaO xaF xaS xaI xaH xaR xaU xTf xTb ++ (wX1 k xaL lrNa lrMo lrWa lrDe lPe lDa lDr lNa lMo lWa lDe ++ (wX1 k xaT trNa trMo trWa trDe tPe_22 tDa_31 tDr_24 tNa_29 tMo_32 tWa_27 tDe_33))) [6, 7, 8, 9, 10] [0, 1, 2, 3, 4, 5] [0, 1, 2, 3, 4, 5, 6, 7, 8, 9, 10] rfl rfl (by decide) (by decide) (by decide) rfl (by decide) 1 rfl rfl [] rfl hl.1 rfl (Nat.le_of_ble_eq_true rfl) dX7_kind_65 ⟨by decide, by decide⟩ (fun H locs (hw : Wd D A s.heap H locs (wX7 k xh xaL xaT xaO xaF xaS xaI xaH xaR xaU xTf xTb ++ (wX1 k xaL lrNa lrMo lrWa lrDe lPe lDa lDr lNa lMo lWa lDe ++ (wX1 k xaT trNa trMo trWa trDe tPe_22 tDa_31 tDr_24 tNa_29 tMo_32 tWa_27 tDe_33)))) => ?_)
            refine W.eq (g2 := F0 m 68 ls ([.int r_30])) rfl ?_
            refine lv_istore (lv' := [(6, .int r_30), (0, .ref xh), (1, .int p1), (2, .int p2), (3, .int v3_3), (4, .int v4_4), (5, .int v5_5)]) hx hb dX7_kind_68 hl (by decide) rfl (fun ls hl => ?_)
            refine lv_iload hx hb dX7_kind_70 (lv_at hl 0 rfl) ?_
            refine lv_bipush (v := (-4)) hx hb dX7_kind_72 (by decide) ?_
            refine kb_icmp_eq (tgt := 91) hx hb dX7_kind_74 (by decide) h (fun c_74 h => ?_) (fun c_74 h => ?_)
            · refine lv_iinc (v := v5_5 + 1) (lv' := [(5, .int (v5_5 + 1)), (6, .int r_30), (0, .ref xh), (1, .int p1), (2, .int p2), (3, .int v3_3), (4, .int v4_4)]) hx hb dX7_kind_91 hl (k := 6) rfl rfl (by decide) rfl (fun ls hl => ?_)
              refine lv_goto (tgt := 32) hx hb dX7_kind_94 (by decide) ?_
              exact ih _ _ _ _ _ _ _ _ _ _ h _ _ _ hw (lv_sub hl [2, 3, 4, 5, 6, 0] rfl)
            · refine lv_iload hx hb dX7_kind_77 (lv_at hl 0 rfl) ?_
              refine lv_iload hx hb dX7_kind_79 (lv_at hl 5 rfl) ?_
              refine kb_icmp_ge (tgt := 91) hx hb dX7_kind_81 (by decide) h (fun c_81 h => ?_) (fun c_81 h => ?_)
              · refine lv_iinc (v := v5_5 + 1) (lv' := [(5, .int (v5_5 + 1)), (6, .int r_30), (0, .ref xh), (1, .int p1), (2, .int p2), (3, .int v3_3), (4, .int v4_4)]) hx hb dX7_kind_91 hl (k := 6) rfl rfl (by decide) rfl (fun ls hl => ?_)
                refine lv_goto (tgt := 32) hx hb dX7_kind_94 (by decide) ?_
                exact ih _ _ _ _ _ _ _ _ _ _ h _ _ _ hw (lv_sub hl [2, 3, 4, 5, 6, 0] rfl)
              · refine lv_iload hx hb dX7_kind_84 (lv_at hl 0 rfl) ?_
                refine lv_istore (lv' := [(4, .int r_30), (6, .int r_30), (0, .ref xh), (1, .int p1), (2, .int p2), (3, .int v3_3), (5, .int v5_5)]) hx hb dX7_kind_86 hl (by decide) rfl (fun ls hl => ?_)
                refine lv_iload hx hb dX7_kind_88 (lv_at hl 6 rfl) ?_
                refine lv_istore_n (lv' := [(3, .int v5_5), (4, .int r_30), (6, .int r_30), (0, .ref xh), (1, .int p1), (2, .int p2), (5, .int v5_5)]) hx hb dX7_kind_90 rfl hl (by decide) rfl (fun ls hl => ?_)
                refine lv_iinc (v := v5_5 + 1) (lv' := [(5, .int (v5_5 + 1)), (3, .int v5_5), (4, .int r_30), (6, .int r_30), (0, .ref xh), (1, .int p1), (2, .int p2)]) hx hb dX7_kind_91 hl (k := 6) rfl rfl (by decide) rfl (fun ls hl => ?_)
                refine lv_goto (tgt := 32) hx hb dX7_kind_94 (by decide) ?_
                exact ih _ _ _ _ _ _ _ _ _ _ h _ _ _ hw (lv_sub hl [4, 5, 6, 1, 2, 0] rfl)
      exact LP_32 400 (-4) 61 0 tPe tDa tDr tNa tMo tWa tDe hL_32 _ _ _ hw (lv_sub hl [3, 4, 5, 2, 1, 0] rfl)
