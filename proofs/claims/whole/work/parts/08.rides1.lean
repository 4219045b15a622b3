abbrev rmX7_kinds : Room := { frames := 5, cells := 0, slots := 0, locals := 117 }
set_option maxHeartbeats 4000000 in
set_option maxRecDepth 100000 in
theorem c_X7_kinds (l : Launch) (D : va_G) (k : Nat → ClassId) (xh xaL xaT xaO xaF xaS xaI xaH xaR xaU lrNa lrMo lrWa lrDe trNa trMo trWa trDe srDy srWo srRi : Nat) (sz : Nat) (xTf : Int32) (xTb : Int32) (lPe : Int32) (lDa : Int32) (lDr : Int32) (lNa : (Nat → Int32)) (lMo : (Nat → Int32)) (lWa : (Nat → Int32)) (lDe : (Nat → Int32)) (tPe : Int32) (tDa : Int32) (tDr : Int32) (tNa : (Nat → Int32)) (tMo : (Nat → Int32)) (tWa : (Nat → Int32)) (tDe : (Nat → Int32)) (sDy : (Nat → Int32)) (sWo : (Nat → Int32)) (sRi : (Nat → Int32)) (sSz : Int32) (p1 : Int32) (r_ : Int32) (n_tPe : Int32) (n_tDa : Int32) (n_tDr : Int32) (n_tNa : (Nat → Int32)) (n_tMo : (Nat → Int32)) (n_tWa : (Nat → Int32)) (n_tDe : (Nat → Int32)) (hf : f_X7_kinds lPe lDa lDr lNa lMo lWa lDe tPe tDa tDr tNa tMo tWa tDe sDy sWo sRi sSz p1 = some (r_, n_tPe, n_tDa, n_tDr, n_tNa, n_tMo, n_tWa, n_tDe)) : mR l yX7_kinds wsX7_kinds rmX7_kinds D k sz [.ref xh, .int p1] (wX7 k xh xaL xaT xaO xaF xaS xaI xaH xaR xaU xTf xTb ++ (wX1 k xaL lrNa lrMo lrWa lrDe lPe lDa lDr lNa lMo lWa lDe ++ (wX1 k xaT trNa trMo trWa trDe tPe tDa tDr tNa tMo tWa tDe ++ (wX5 k xaS srDy srWo srRi sDy sWo sRi sSz)))) (wX7 k xh xaL xaT xaO xaF xaS xaI xaH xaR xaU xTf xTb ++ (wX1 k xaL lrNa lrMo lrWa lrDe lPe lDa lDr lNa lMo lWa lDe ++ (wX1 k xaT trNa trMo trWa trDe n_tPe n_tDa n_tDr n_tNa n_tMo n_tWa n_tDe ++ (wX5 k xaS srDy srWo srRi sDy sWo sRi sSz)))) (some (.int r_)) := by
  refine mR_of (cc := cX7_kinds) (maxL := 4) (ret := some .int) (by decide) rfl (Nat.le_of_ble_eq_true rfl) [(0, .ref xh), (1, .int p1)] rfl ?_
  intro p e s m below meth c A ls args Q cx hK hA hw hl hQ
  have fx := cx.1
  obtain ⟨⟨hx, hb, hml, hown, hts⟩, hr, hlocks⟩ := cx
  have hinX7 : ∀ w ∈ wsX70, w ∈ wsX7_kinds := fun w h => List.mem_cons_of_mem _ (List.mem_append_left _ (List.mem_append_left _ (List.mem_append_right _ h)))
  have hinX1 : ∀ w ∈ wsX10, w ∈ wsX7_kinds := fun w h => List.mem_cons_of_mem _ (List.mem_append_left _ (List.mem_append_right _ h))
  have q_1 := hts (.fieldLink RX7 10 "DebtRides" "land" "LDebtRides$Land;") (List.mem_of_getElem? (i := 1) rfl)
  have q_2 := hts (.fieldLink RX7 16 "DebtRides" "trial" "LDebtRides$Land;") (List.mem_of_getElem? (i := 2) rfl)
  have q_3 := hts (.fieldLink RX7 129 "DebtRides$Land" "nature" "[I") (List.mem_of_getElem? (i := 3) rfl)
  have q_4 := hts (.fieldLink RX7 36 "DebtRides" "seen" "LDebtRides$Seen;") (List.mem_of_getElem? (i := 4) rfl)
  have h := hf
  unfold f_X7_kinds at h
  clear hf
  refine lv_aload_n hx hb dX7_kinds_0 rfl (lv_at hl 0 rfl) ?_
  refine va_get (ci := 7) (v := .ref xaL) (C := RX7) (T := TX7) (N := 11) hx hb hts hinX7 hown hK.1 hw.1 0 rfl rfl 0 (by decide) q_1 (fun _ h9 => h9) rfl dX7_kinds_1 ?_
  refine lv_iload_n hx hb dX7_kinds_4 rfl (lv_at hl 1 rfl) ?_
  obtain ⟨r_1, hf, h⟩ := b1_inv h
  refine k_callV (host := "") fx hK hA hw (c_X1_has l D k xaL lrNa lrMo lrWa lrDe _ lPe lDa lDr lNa lMo lWa lDe p1 r_1 hf) (cwV 1 hts gX7_kinds_X1_has rfl rfl rfl (by decide +kernel) ⟨by decide, by decide⟩) (As := [.int p1]) (wr := [(xh, .inr (7, [.ref xaL, .ref xaT, .ref xaO, .ref xaF, .ref xaS, .ref xaI, .ref xaH, .ref xaR, .ref xaU, .int xTf, .int xTb])), (xaT, .inr (1, [.int tPe, .int tDa, .int tDr, .ref trNa, .ref trMo, .ref trWa, .ref trDe])), (trNa, .inl (k 0, 5, .inl tNa)), (trMo, .inl (k 0, 5, .inl tMo)), (trWa, .inl (k 0, 5, .inl tWa)), (trDe, .inl (k 0, 25, .inl tDe)), (xaS, .inr (5, [.ref srDy, .ref srWo, .ref srRi, .int sSz])), (srDy, .inl (k 0, 6, .inl sDy)), (srWo, .inl (k 0, 6, .inl sWo)), (srRi, .inl (k 0, 6, .inl sRi))]) (ws' := wX7 k xh xaL xaT xaO xaF xaS xaI xaH xaR xaU xTf xTb ++ (wX1 k xaL lrNa lrMo lrWa lrDe lPe lDa lDr lNa lMo lWa lDe ++ (wX1 k xaT trNa trMo trWa trDe tPe tDa tDr tNa tMo tWa tDe ++ (wX5 k xaS srDy srWo srRi sDy sWo sRi sSz)))) [1, 2, 3, 4, 5] [0, 6, 7, 8, 9, 10, 11, 12, 13, 14] [0, 10, 11, 12, 13, 14, 1, 2, 3, 4, 5, 6, 7, 8, 9] rfl rfl (by decide) (by decide) (by decide) rfl (by decide) 1 rfl rfl [] rfl hl.1 rfl (Nat.le_of_ble_eq_true rfl) dX7_kinds_5 ⟨by decide, by decide⟩ (fun H locs (hw : Wd D A s.heap H locs (wX7 k xh xaL xaT xaO xaF xaS xaI xaH xaR xaU xTf xTb ++ (wX1 k xaL lrNa lrMo lrWa lrDe lPe lDa lDr lNa lMo lWa lDe ++ (wX1 k xaT trNa trMo trWa trDe tPe tDa tDr tNa tMo tWa tDe ++ (wX5 k xaS srDy srWo srRi sDy sWo sRi sSz))))) => ?_)
  refine W.eq (g2 := F0 m 8 ls ([.int r_1])) rfl ?_
  refine kb_if_ne (tgt := 13) hx hb dX7_kinds_8 (by decide) h (fun c_8 h => ?_) (fun c_8 h => ?_)
  · refine lv_iconst (v := (-1)) hx hb dX7_kinds_11 (by decide) ?_
    cases h
    exact k_iret hx hb hr hlocks hw rfl dX7_kinds_12 hQ
  · refine lv_iconst (v := 0) hx hb dX7_kinds_13 (by decide) ?_
    refine lv_istore_n (lv' := [(2, .int 0), (0, .ref xh), (1, .int p1)]) hx hb dX7_kinds_14 rfl hl (by decide) rfl (fun ls hl => ?_)
    refine lv_iconst (v := 0) hx hb dX7_kinds_15 (by decide) ?_
    refine lv_istore_n (lv' := [(3, .int 0), (2, .int 0), (0, .ref xh), (1, .int p1)]) hx hb dX7_kinds_16 rfl hl (by decide) rfl (fun ls hl => ?_)
    obtain ⟨v2_11, tPe_12, tDa_13, tDr_14, tNa_15, tMo_16, tWa_17, tDe_18, hL_17, h⟩ := b8_inv h
    have X_17 : ∀ (H : Heap) (locs : List Loc) (ls : Array Slot), Wd D A s.heap H locs (wX7 k xh xaL xaT xaO xaF xaS xaI xaH xaR xaU xTf xTb ++ (wX1 k xaL lrNa lrMo lrWa lrDe lPe lDa lDr lNa lMo lWa lDe ++ (wX1 k xaT trNa trMo trWa trDe tPe_12 tDa_13 tDr_14 tNa_15 tMo_16 tWa_17 tDe_18 ++ (wX5 k xaS srDy srWo srRi sDy sWo sRi sSz)))) → lv_has ls 4 [(2, .int v2_11)] → W p l e rmX7_kinds s m args below meth c H locs 0 0 Q (F0 m 69 ls []) := by
      intro H locs ls hw hl
      refine lv_iload_n hx hb dX7_kinds_69 rfl (lv_at hl 0 rfl) ?_
      cases h
      exact k_iret hx hb hr hlocks hw rfl dX7_kinds_70 hQ
    clear h
    have LP_17 : ∀ (n : Nat) (v2_2 : Int32) (v3_3 : Int32) (tPe_4 : Int32) (tDa_5 : Int32) (tDr_6 : Int32) (tNa_7 : (Nat → Int32)) (tMo_8 : (Nat → Int32)) (tWa_9 : (Nat → Int32)) (tDe_10 : (Nat → Int32)), f_X7_kinds_L17 lPe lDa lDr lNa lMo lWa lDe sDy sWo sRi sSz p1 n v2_2 v3_3 tPe_4 tDa_5 tDr_6 tNa_7 tMo_8 tWa_9 tDe_10 = some (v2_11, tPe_12, tDa_13, tDr_14, tNa_15, tMo_16, tWa_17, tDe_18) → ∀ (H : Heap) (locs : List Loc) (ls : Array Slot), Wd D A s.heap H locs (wX7 k xh xaL xaT xaO xaF xaS xaI xaH xaR xaU xTf xTb ++ (wX1 k xaL lrNa lrMo lrWa lrDe lPe lDa lDr lNa lMo lWa lDe ++ (wX1 k xaT trNa trMo trWa trDe tPe_4 tDa_5 tDr_6 tNa_7 tMo_8 tWa_9 tDe_10 ++ (wX5 k xaS srDy srWo srRi sDy sWo sRi sSz)))) → lv_has ls 4 [(0, .ref xh), (1, .int p1), (2, .int v2_2), (3, .int v3_3)] → W p l e rmX7_kinds s m args below meth c H locs 0 0 Q (F0 m 17 ls []) := by
      clear hL_17 hw hl
      intro n
      induction n with
      | zero => intro v2_2 v3_3 tPe_4 tDa_5 tDr_6 tNa_7 tMo_8 tWa_9 tDe_10 h; rw [f_X7_kinds_L17] at h; cases h
      | succ n ih =>
        intro v2_2 v3_3 tPe_4 tDa_5 tDr_6 tNa_7 tMo_8 tWa_9 tDe_10 h H locs ls hw hl
        rw [f_X7_kinds_L17] at h
        refine lv_iload_n hx hb dX7_kinds_17 rfl (lv_at hl 3 rfl) ?_
        refine lv_iconst (v := 4) hx hb dX7_kinds_18 (by decide) ?_
        refine kb_icmp_ge (tgt := 69) hx hb dX7_kinds_19 (by decide) h (fun c_19 h => ?_) (fun c_19 h => ?_)
        · cases h
          exact X_17 _ _ _ hw (lv_sub hl [2] rfl)
        · refine lv_aload_n hx hb dX7_kinds_22 rfl (lv_at hl 0 rfl) ?_
          refine va_get (ci := 7) (v := .ref xaT) (C := RX7) (T := TX7) (N := 11) hx hb hts hinX7 hown hK.1 hw.1 0 rfl rfl 1 (by decide) q_2 (fun _ h9 => h9) rfl dX7_kinds_23 ?_
          refine lv_aload_n hx hb dX7_kinds_26 rfl (lv_at hl 0 rfl) ?_
          refine va_get (ci := 7) (v := .ref xaL) (C := RX7) (T := TX7) (N := 11) hx hb hts hinX7 hown hK.1 hw.1 0 rfl rfl 0 (by decide) q_1 (fun _ h9 => h9) rfl dX7_kinds_27 ?_
          obtain ⟨tPe_19, tDa_20, tDr_21, tNa_22, tMo_23, tWa_24, tDe_25, hf, h⟩ := b7_inv h
          refine k_callV (host := "") fx hK hA hw (c_X1_become l D k xaT trNa trMo trWa trDe xaL lrNa lrMo lrWa lrDe _ tPe_4 tDa_5 tDr_6 tNa_7 tMo_8 tWa_9 tDe_10 lPe lDa lDr lNa lMo lWa lDe tPe_19 tDa_20 tDr_21 tNa_22 tMo_23 tWa_24 tDe_25 hf) (cwV 1 hts gX7_kinds_X1_become rfl rfl rfl (by decide +kernel) ⟨by decide, by decide⟩) (As := [.ref xaL]) (wr := [(xh, .inr (7, [.ref xaL, .ref xaT, .ref xaO, .ref xaF, .ref xaS, .ref xaI, .ref xaH, .ref xaR, .ref xaU, .int xTf, .int xTb])), (xaS, .inr (5, [.ref srDy, .ref srWo, .ref srRi, .int sSz])), (srDy, .inl (k 0, 6, .inl sDy)), (srWo, .inl (k 0, 6, .inl sWo)), (srRi, .inl (k 0, 6, .inl sRi))]) (ws' := wX7 k xh xaL xaT xaO xaF xaS xaI xaH xaR xaU xTf xTb ++ (wX1 k xaL lrNa lrMo lrWa lrDe lPe lDa lDr lNa lMo lWa lDe ++ (wX1 k xaT trNa trMo trWa trDe tPe_19 tDa_20 tDr_21 tNa_22 tMo_23 tWa_24 tDe_25 ++ (wX5 k xaS srDy srWo srRi sDy sWo sRi sSz)))) [6, 7, 8, 9, 10, 1, 2, 3, 4, 5] [0, 11, 12, 13, 14] [0, 10, 11, 12, 13, 14, 5, 6, 7, 8, 9, 1, 2, 3, 4] rfl rfl (by decide) (by decide) (by decide) rfl (by decide) 1 rfl rfl [] rfl hl.1 rfl (Nat.le_of_ble_eq_true rfl) dX7_kinds_30 ⟨by decide, by decide⟩ (fun H locs (hw : Wd D A s.heap H locs (wX7 k xh xaL xaT xaO xaF xaS xaI xaH xaR xaU xTf xTb ++ (wX1 k xaL lrNa lrMo lrWa lrDe lPe lDa lDr lNa lMo lWa lDe ++ (wX1 k xaT trNa trMo trWa trDe tPe_19 tDa_20 tDr_21 tNa_22 tMo_23 tWa_24 tDe_25 ++ (wX5 k xaS srDy srWo srRi sDy sWo sRi sSz))))) => ?_)
          refine W.eq (g2 := F0 m 33 ls ([])) rfl ?_
          refine lv_aload_n hx hb dX7_kinds_33 rfl (lv_at hl 0 rfl) ?_
          refine va_get (ci := 7) (v := .ref xaT) (C := RX7) (T := TX7) (N := 11) hx hb hts hinX7 hown hK.1 hw.1 0 rfl rfl 1 (by decide) q_2 (fun _ h9 => h9) rfl dX7_kinds_34 ?_
          refine va_get (ci := 1) (v := .ref trNa) (C := RX1) (T := TX1) (N := 7) hx hb hts hinX1 hown hK.1 hw.1 6 rfl rfl 3 (by decide) q_3 (fun _ h9 => h9) rfl dX7_kinds_37 ?_
          refine lv_iload_n hx hb dX7_kinds_40 rfl (lv_at hl 1 rfl) ?_
          refine lv_iload_n hx hb dX7_kinds_41 rfl (lv_at hl 3 rfl) ?_
          refine k_iast hx hb hK hw 7 rfl dX7_kinds_42 h (fun tNa_26 h H locs (hw : Wd D A s.heap H locs (wX7 k xh xaL xaT xaO xaF xaS xaI xaH xaR xaU xTf xTb ++ (wX1 k xaL lrNa lrMo lrWa lrDe lPe lDa lDr lNa lMo lWa lDe ++ (wX1 k xaT trNa trMo trWa trDe tPe_19 tDa_20 tDr_21 tNa_26 tMo_23 tWa_24 tDe_25 ++ (wX5 k xaS srDy srWo srRi sDy sWo sRi sSz))))) => ?_)
          refine lv_aload_n hx hb dX7_kinds_43 rfl (lv_at hl 0 rfl) ?_
          refine va_get (ci := 7) (v := .ref xaS) (C := RX7) (T := TX7) (N := 11) hx hb hts hinX7 hown hK.1 hw.1 0 rfl rfl 4 (by decide) q_4 (fun _ h9 => h9) rfl dX7_kinds_44 ?_
          refine lv_aload_n hx hb dX7_kinds_47 rfl (lv_at hl 0 rfl) ?_
          refine va_get (ci := 7) (v := .ref xaT) (C := RX7) (T := TX7) (N := 11) hx hb hts hinX7 hown hK.1 hw.1 0 rfl rfl 1 (by decide) q_2 (fun _ h9 => h9) rfl dX7_kinds_48 ?_
          obtain ⟨r_27, tDa_28, tMo_29, tDe_30, hf, h⟩ := b4_inv h
          refine k_callV (host := "") fx hK hA hw (c_X5_fits l D k xaS srDy srWo srRi xaT trNa trMo trWa trDe _ sDy sWo sRi sSz tPe_19 tDa_20 tDr_21 tNa_26 tMo_23 tWa_24 tDe_25 r_27 tDa_28 tMo_29 tDe_30 hf) (cwV 1 hts gX7_kinds_X5_fits rfl rfl rfl (by decide +kernel) ⟨by decide, by decide⟩) (As := [.ref xaT]) (wr := [(xh, .inr (7, [.ref xaL, .ref xaT, .ref xaO, .ref xaF, .ref xaS, .ref xaI, .ref xaH, .ref xaR, .ref xaU, .int xTf, .int xTb])), (xaL, .inr (1, [.int lPe, .int lDa, .int lDr, .ref lrNa, .ref lrMo, .ref lrWa, .ref lrDe])), (lrNa, .inl (k 0, 5, .inl lNa)), (lrMo, .inl (k 0, 5, .inl lMo)), (lrWa, .inl (k 0, 5, .inl lWa)), (lrDe, .inl (k 0, 25, .inl lDe))]) (ws' := wX7 k xh xaL xaT xaO xaF xaS xaI xaH xaR xaU xTf xTb ++ (wX1 k xaL lrNa lrMo lrWa lrDe lPe lDa lDr lNa lMo lWa lDe ++ (wX1 k xaT trNa trMo trWa trDe tPe_19 tDa_28 tDr_21 tNa_26 tMo_29 tWa_24 tDe_30 ++ (wX5 k xaS srDy srWo srRi sDy sWo sRi sSz)))) [11, 12, 13, 14, 6, 7, 8, 9, 10] [0, 1, 2, 3, 4, 5] [0, 1, 2, 3, 4, 5, 10, 11, 12, 13, 14, 6, 7, 8, 9] rfl rfl (by decide) (by decide) (by decide) rfl (by decide) 5 rfl rfl [] rfl hl.1 rfl (Nat.le_of_ble_eq_true rfl) dX7_kinds_51 ⟨by decide, by decide⟩ (fun H locs (hw : Wd D A s.heap H locs (wX7 k xh xaL xaT xaO xaF xaS xaI xaH xaR xaU xTf xTb ++ (wX1 k xaL lrNa lrMo lrWa lrDe lPe lDa lDr lNa lMo lWa lDe ++ (wX1 k xaT trNa trMo trWa trDe tPe_19 tDa_28 tDr_21 tNa_26 tMo_29 tWa_24 tDe_30 ++ (wX5 k xaS srDy srWo srRi sDy sWo sRi sSz))))) => ?_)
          refine W.eq (g2 := F0 m 54 ls ([.int r_27])) rfl ?_
          refine kb_if_eq (tgt := 63) hx hb dX7_kinds_54 (by decide) h (fun c_54 h => ?_) (fun c_54 h => ?_)
          · refine lv_iinc (v := v3_3 + 1) (lv' := [(3, .int (v3_3 + 1)), (0, .ref xh), (1, .int p1), (2, .int v2_2)]) hx hb dX7_kinds_63 hl (k := 3) rfl rfl (by decide) rfl (fun ls hl => ?_)
            refine lv_goto (tgt := 17) hx hb dX7_kinds_66 (by decide) ?_
            exact ih _ _ _ _ _ _ _ _ _ h _ _ _ hw (lv_sub hl [1, 2, 3, 0] rfl)
          · refine lv_iload_n hx hb dX7_kinds_57 rfl (lv_at hl 2 rfl) ?_
            refine lv_iconst (v := 1) hx hb dX7_kinds_58 (by decide) ?_
            refine lv_iload_n hx hb dX7_kinds_59 rfl (lv_at hl 3 rfl) ?_
            refine lv_ishl hx hb dX7_kinds_60 ?_
            refine lv_ior hx hb dX7_kinds_61 ?_
            refine lv_istore_n (lv' := [(2, .int (v2_2 ||| ((1 : Int32) <<< (v3_3 &&& 31)))), (0, .ref xh), (1, .int p1), (3, .int v3_3)]) hx hb dX7_kinds_62 rfl hl (by decide) rfl (fun ls hl => ?_)
            refine lv_iinc (v := v3_3 + 1) (lv' := [(3, .int (v3_3 + 1)), (2, .int (v2_2 ||| ((1 : Int32) <<< (v3_3 &&& 31)))), (0, .ref xh), (1, .int p1)]) hx hb dX7_kinds_63 hl (k := 3) rfl rfl (by decide) rfl (fun ls hl => ?_)
            refine lv_goto (tgt := 17) hx hb dX7_kinds_66 (by decide) ?_
            exact ih _ _ _ _ _ _ _ _ _ h _ _ _ hw (lv_sub hl [2, 3, 1, 0] rfl)
    exact LP_17 400 0 0 tPe tDa tDr tNa tMo tWa tDe hL_17 _ _ _ hw (lv_sub hl [2, 3, 1, 0] rfl)
abbrev rmX7_late : Room := { frames := 6, cells := 0, slots := 0, locals := 138 }
set_option maxHeartbeats 4000000 in
set_option maxRecDepth 100000 in
theorem c_X7_late (l : Launch) (D : va_G) (k : Nat → ClassId) (xh xaL xaT xaO xaF xaS xaI xaH xaR xaU lrNa lrMo lrWa lrDe trNa trMo trWa trDe : Nat) (sz : Nat) (xTf : Int32) (xTb : Int32) (lPe : Int32) (lDa : Int32) (lDr : Int32) (lNa : (Nat → Int32)) (lMo : (Nat → Int32)) (lWa : (Nat → Int32)) (lDe : (Nat → Int32)) (tPe : Int32) (tDa : Int32) (tDr : Int32) (tNa : (Nat → Int32)) (tMo : (Nat → Int32)) (tWa : (Nat → Int32)) (tDe : (Nat → Int32)) (p1 : Int32) (p2 : Int32) (r_ : Int32) (n_tPe : Int32) (n_tDa : Int32) (n_tDr : Int32) (n_tNa : (Nat → Int32)) (n_tMo : (Nat → Int32)) (n_tWa : (Nat → Int32)) (n_tDe : (Nat → Int32)) (hf : f_X7_late lPe lDa lDr lNa lMo lWa lDe tPe tDa tDr tNa tMo tWa tDe p1 p2 = some (r_, n_tPe, n_tDa, n_tDr, n_tNa, n_tMo, n_tWa, n_tDe)) : mR l yX7_late wsX7_late rmX7_late D k sz [.ref xh, .int p1, .int p2] (wX7 k xh xaL xaT xaO xaF xaS xaI xaH xaR xaU xTf xTb ++ (wX1 k xaL lrNa lrMo lrWa lrDe lPe lDa lDr lNa lMo lWa lDe ++ (wX1 k xaT trNa trMo trWa trDe tPe tDa tDr tNa tMo tWa tDe))) (wX7 k xh xaL xaT xaO xaF xaS xaI xaH xaR xaU xTf xTb ++ (wX1 k xaL lrNa lrMo lrWa lrDe lPe lDa lDr lNa lMo lWa lDe ++ (wX1 k xaT trNa trMo trWa trDe n_tPe n_tDa n_tDr n_tNa n_tMo n_tWa n_tDe))) (some (.int r_)) := by
  refine mR_of (cc := cX7_late) (maxL := 5) (ret := some .int) (by decide) rfl (Nat.le_of_ble_eq_true rfl) [(0, .ref xh), (1, .int p1), (2, .int p2)] rfl ?_
  intro p e s m below meth c A ls args Q cx hK hA hw hl hQ
  have fx := cx.1
  obtain ⟨⟨hx, hb, hml, hown, hts⟩, hr, hlocks⟩ := cx
  have hinX7 : ∀ w ∈ wsX70, w ∈ wsX7_late := fun w h => List.mem_cons_of_mem _ (List.mem_append_left _ (List.mem_append_right _ h))
  have q_1 := hts (.fieldLink RX7 10 "DebtRides" "land" "LDebtRides$Land;") (List.mem_of_getElem? (i := 1) rfl)
  have h := hf
  unfold f_X7_late at h
  clear hf
  refine lv_aload_n hx hb dX7_late_0 rfl (lv_at hl 0 rfl) ?_
  refine va_get (ci := 7) (v := .ref xaL) (C := RX7) (T := TX7) (N := 11) hx hb hts hinX7 hown hK.1 hw.1 0 rfl rfl 0 (by decide) q_1 (fun _ h9 => h9) rfl dX7_late_1 ?_
  refine lv_iload_n hx hb dX7_late_4 rfl (lv_at hl 1 rfl) ?_
  obtain ⟨r_1, hf, h⟩ := b1_inv h
  refine k_callV (host := "") fx hK hA hw (c_X1_has l D k xaL lrNa lrMo lrWa lrDe _ lPe lDa lDr lNa lMo lWa lDe p1 r_1 hf) (cwV 1 hts gX7_late_X1_has rfl rfl rfl (by decide +kernel) ⟨by decide, by decide⟩) (As := [.int p1]) (wr := [(xh, .inr (7, [.ref xaL, .ref xaT, .ref xaO, .ref xaF, .ref xaS, .ref xaI, .ref xaH, .ref xaR, .ref xaU, .int xTf, .int xTb])), (xaT, .inr (1, [.int tPe, .int tDa, .int tDr, .ref trNa, .ref trMo, .ref trWa, .ref trDe])), (trNa, .inl (k 0, 5, .inl tNa)), (trMo, .inl (k 0, 5, .inl tMo)), (trWa, .inl (k 0, 5, .inl tWa)), (trDe, .inl (k 0, 25, .inl tDe))]) (ws' := wX7 k xh xaL xaT xaO xaF xaS xaI xaH xaR xaU xTf xTb ++ (wX1 k xaL lrNa lrMo lrWa lrDe lPe lDa lDr lNa lMo lWa lDe ++ (wX1 k xaT trNa trMo trWa trDe tPe tDa tDr tNa tMo tWa tDe))) [1, 2, 3, 4, 5] [0, 6, 7, 8, 9, 10] [0, 6, 7, 8, 9, 10, 1, 2, 3, 4, 5] rfl rfl (by decide) (by decide) (by decide) rfl (by decide) 1 rfl rfl [] rfl hl.1 rfl (Nat.le_of_ble_eq_true rfl) dX7_late_5 ⟨by decide, by decide⟩ (fun H locs (hw : Wd D A s.heap H locs (wX7 k xh xaL xaT xaO xaF xaS xaI xaH xaR xaU xTf xTb ++ (wX1 k xaL lrNa lrMo lrWa lrDe lPe lDa lDr lNa lMo lWa lDe ++ (wX1 k xaT trNa trMo trWa trDe tPe tDa tDr tNa tMo tWa tDe)))) => ?_)
  refine W.eq (g2 := F0 m 8 ls ([.int r_1])) rfl ?_
  refine kb_if_eq (tgt := 21) hx hb dX7_late_8 (by decide) h (fun c_8 h => ?_) (fun c_8 h => ?_)
  · refine lv_iconst (v := (-1)) hx hb dX7_late_21 (by decide) ?_
    cases h
    exact k_iret hx hb hr hlocks hw rfl dX7_late_22 hQ
  · refine lv_iload_n hx hb dX7_late_11 rfl (lv_at hl 2 rfl) ?_
    refine lv_iconst (v := 0) hx hb dX7_late_12 (by decide) ?_
    refine lv_bipush (v := 9) hx hb dX7_late_13 (by decide) ?_
    obtain ⟨r_2, hf, h⟩ := b1_inv h
    refine k_callS (b := 0) (C := "") (host := "") fx hK hA hw (c_X7_within l D k _ p2 0 9 r_2 hf) (va_cwS 3 hts gX7_late_X7_within rfl rfl rfl (by decide +kernel) ⟨by decide, by decide⟩) (As := [.int p2, .int 0, .int 9]) (wr := [(xh, .inr (7, [.ref xaL, .ref xaT, .ref xaO, .ref xaF, .ref xaS, .ref xaI, .ref xaH, .ref xaR, .ref xaU, .int xTf, .int xTb])), (xaL, .inr (1, [.int lPe, .int lDa, .int lDr, .ref lrNa, .ref lrMo, .ref lrWa, .ref lrDe])), (lrNa, .inl (k 0, 5, .inl lNa)), (lrMo, .inl (k 0, 5, .inl lMo)), (lrWa, .inl (k 0, 5, .inl lWa)), (lrDe, .inl (k 0, 25, .inl lDe)), (xaT, .inr (1, [.int tPe, .int tDa, .int tDr, .ref trNa, .ref trMo, .ref trWa, .ref trDe])), (trNa, .inl (k 0, 5, .inl tNa)), (trMo, .inl (k 0, 5, .inl tMo)), (trWa, .inl (k 0, 5, .inl tWa)), (trDe, .inl (k 0, 25, .inl tDe))]) (ws' := wX7 k xh xaL xaT xaO xaF xaS xaI xaH xaR xaU xTf xTb ++ (wX1 k xaL lrNa lrMo lrWa lrDe lPe lDa lDr lNa lMo lWa lDe ++ (wX1 k xaT trNa trMo trWa trDe tPe tDa tDr tNa tMo tWa tDe))) [] [0, 1, 2, 3, 4, 5, 6, 7, 8, 9, 10] [0, 1, 2, 3, 4, 5, 6, 7, 8, 9, 10] rfl rfl (by decide) (by decide) (by decide) rfl (by decide) [] rfl hl.1 rfl (Nat.le_of_ble_eq_true rfl) dX7_late_15 ⟨by decide, by decide⟩ (fun H locs (hw : Wd D A s.heap H locs (wX7 k xh xaL xaT xaO xaF xaS xaI xaH xaR xaU xTf xTb ++ (wX1 k xaL lrNa lrMo lrWa lrDe lPe lDa lDr lNa lMo lWa lDe ++ (wX1 k xaT trNa trMo trWa trDe tPe tDa tDr tNa tMo tWa tDe)))) => ?_)
    refine W.eq (g2 := F0 m 18 ls ([.int r_2])) rfl ?_
    refine kb_if_ne (tgt := 23) hx hb dX7_late_18 (by decide) h (fun c_18 h => ?_) (fun c_18 h => ?_)
    · refine lv_iconst (v := (-1)) hx hb dX7_late_21 (by decide) ?_
      cases h
      exact k_iret hx hb hr hlocks hw rfl dX7_late_22 hQ
    · refine lv_aload_n hx hb dX7_late_23 rfl (lv_at hl 0 rfl) ?_
      refine lv_iload_n hx hb dX7_late_24 rfl (lv_at hl 1 rfl) ?_
      refine lv_iconst (v := 0) hx hb dX7_late_25 (by decide) ?_
      obtain ⟨r_3, tPe_4, tDa_5, tDr_6, tNa_7, tMo_8, tWa_9, tDe_10, hf, h⟩ := b8_inv h
      refine k_callV (host := "") fx hK hA hw (c_X7_daysByDryness l D k xh xaL xaT xaO xaF xaS xaI xaH xaR xaU lrNa lrMo lrWa lrDe trNa trMo trWa trDe _ xTf xTb lPe lDa lDr lNa lMo lWa lDe tPe tDa tDr tNa tMo tWa tDe p1 0 r_3 tPe_4 tDa_5 tDr_6 tNa_7 tMo_8 tWa_9 tDe_10 hf) (cwV 2 hts gX7_late_X7_daysByDryness rfl rfl rfl (by decide +kernel) ⟨by decide, by decide⟩) (As := [.int p1, .int 0]) (wr := []) (ws' := wX7 k xh xaL xaT xaO xaF xaS xaI xaH xaR xaU xTf xTb ++ (wX1 k xaL lrNa lrMo lrWa lrDe lPe lDa lDr lNa lMo lWa lDe ++ (wX1 k xaT trNa trMo trWa trDe tPe_4 tDa_5 tDr_6 tNa_7 tMo_8 tWa_9 tDe_10))) [0, 1, 2, 3, 4, 5, 6, 7, 8, 9, 10] [] [0, 1, 2, 3, 4, 5, 6, 7, 8, 9, 10] rfl rfl (by decide) (by decide) (by decide) rfl (by decide) 7 rfl rfl [] rfl hl.1 rfl (Nat.le_of_ble_eq_true rfl) dX7_late_26 ⟨by decide, by decide⟩ (fun H locs (hw : Wd D A s.heap H locs (wX7 k xh xaL xaT xaO xaF xaS xaI xaH xaR xaU xTf xTb ++ (wX1 k xaL lrNa lrMo lrWa lrDe lPe lDa lDr lNa lMo lWa lDe ++ (wX1 k xaT trNa trMo trWa trDe tPe_4 tDa_5 tDr_6 tNa_7 tMo_8 tWa_9 tDe_10)))) => ?_)
      refine W.eq (g2 := F0 m 29 ls ([.int r_3])) rfl ?_
      refine lv_istore_n (lv' := [(3, .int r_3), (0, .ref xh), (1, .int p1), (2, .int p2)]) hx hb dX7_late_29 rfl hl (by decide) rfl (fun ls hl => ?_)
      refine lv_aload_n hx hb dX7_late_30 rfl (lv_at hl 1 rfl) ?_
      refine lv_iload_n hx hb dX7_late_31 rfl (lv_at hl 2 rfl) ?_
      refine lv_iload_n hx hb dX7_late_32 rfl (lv_at hl 3 rfl) ?_
      obtain ⟨r_11, tPe_12, tDa_13, tDr_14, tNa_15, tMo_16, tWa_17, tDe_18, hf, h⟩ := b8_inv h
      refine k_callV (host := "") fx hK hA hw (c_X7_daysByDryness l D k xh xaL xaT xaO xaF xaS xaI xaH xaR xaU lrNa lrMo lrWa lrDe trNa trMo trWa trDe _ xTf xTb lPe lDa lDr lNa lMo lWa lDe tPe_4 tDa_5 tDr_6 tNa_7 tMo_8 tWa_9 tDe_10 p1 p2 r_11 tPe_12 tDa_13 tDr_14 tNa_15 tMo_16 tWa_17 tDe_18 hf) (cwV 2 hts gX7_late_X7_daysByDryness rfl rfl rfl (by decide +kernel) ⟨by decide, by decide⟩) (As := [.int p1, .int p2]) (wr := []) (ws' := wX7 k xh xaL xaT xaO xaF xaS xaI xaH xaR xaU xTf xTb ++ (wX1 k xaL lrNa lrMo lrWa lrDe lPe lDa lDr lNa lMo lWa lDe ++ (wX1 k xaT trNa trMo trWa trDe tPe_12 tDa_13 tDr_14 tNa_15 tMo_16 tWa_17 tDe_18))) [0, 1, 2, 3, 4, 5, 6, 7, 8, 9, 10] [] [0, 1, 2, 3, 4, 5, 6, 7, 8, 9, 10] rfl rfl (by decide) (by decide) (by decide) rfl (by decide) 7 rfl rfl [] rfl hl.1 rfl (Nat.le_of_ble_eq_true rfl) dX7_late_33 ⟨by decide, by decide⟩ (fun H locs (hw : Wd D A s.heap H locs (wX7 k xh xaL xaT xaO xaF xaS xaI xaH xaR xaU xTf xTb ++ (wX1 k xaL lrNa lrMo lrWa lrDe lPe lDa lDr lNa lMo lWa lDe ++ (wX1 k xaT trNa trMo trWa trDe tPe_12 tDa_13 tDr_14 tNa_15 tMo_16 tWa_17 tDe_18)))) => ?_)
      refine W.eq (g2 := F0 m 36 ls ([.int r_11])) rfl ?_
      refine lv_istore (lv' := [(4, .int r_11), (3, .int r_3), (0, .ref xh), (1, .int p1), (2, .int p2)]) hx hb dX7_late_36 hl (by decide) rfl (fun ls hl => ?_)
      refine lv_iload_n hx hb dX7_late_38 rfl (lv_at hl 1 rfl) ?_
      refine lv_bipush (v := (-4)) hx hb dX7_late_39 (by decide) ?_
      refine kb_icmp_eq (tgt := 51) hx hb dX7_late_41 (by decide) h (fun c_41 h => ?_) (fun c_41 h => ?_)
      · refine lv_bipush (v := (-4)) hx hb dX7_late_51 (by decide) ?_
        cases h
        exact k_iret hx hb hr hlocks hw rfl dX7_late_53 hQ
      · refine lv_iload hx hb dX7_late_44 (lv_at hl 0 rfl) ?_
        refine lv_bipush (v := (-4)) hx hb dX7_late_46 (by decide) ?_
        refine kb_icmp_ne (tgt := 54) hx hb dX7_late_48 (by decide) h (fun c_48 h => ?_) (fun c_48 h => ?_)
        · refine lv_bipush (v := (-4)) hx hb dX7_late_51 (by decide) ?_
          cases h
          exact k_iret hx hb hr hlocks hw rfl dX7_late_53 hQ
        · refine lv_iload hx hb dX7_late_54 (lv_at hl 0 rfl) ?_
          refine lv_iload_n hx hb dX7_late_56 rfl (lv_at hl 1 rfl) ?_
          refine lv_isub hx hb dX7_late_57 ?_
          have g0 := Option.some.inj h
          clear h
          obtain ⟨e0, g1⟩ := Prod.mk.inj g0
          obtain ⟨e1, g2⟩ := Prod.mk.inj g1
          obtain ⟨e2, g3⟩ := Prod.mk.inj g2
          obtain ⟨e3, g4⟩ := Prod.mk.inj g3
          obtain ⟨e4, g5⟩ := Prod.mk.inj g4
          obtain ⟨e5, g6⟩ := Prod.mk.inj g5
          obtain ⟨e6, g7⟩ := Prod.mk.inj g6
          subst e0; subst e1; subst e2; subst e3; subst e4; subst e5; subst e6; subst g7
          exact k_iret hx hb hr hlocks hw rfl dX7_late_58 hQ
abbrev rmX7_lay : Room := { frames := 2, cells := 0, slots := 0, locals := 42 }
set_option maxHeartbeats 4000000 in
set_option maxRecDepth 100000 in
theorem c_X7_lay (l : Launch) (D : va_G) (k : Nat → ClassId) (xh xaL xaT xaO xaF xaS xaI xaH xaR xaU y0 y1 y2 y3 y0rCe y1rCe y2rCe y3rCe : Nat) (sz : Nat) (xTf : Int32) (xTb : Int32) (y0Th : Int32) (y0La : Int32) (y0Sz : Int32) (y0Ce : (Nat → Int32)) (y1Th : Int32) (y1La : Int32) (y1Sz : Int32) (y1Ce : (Nat → Int32)) (y2Th : Int32) (y2La : Int32) (y2Sz : Int32) (y2Ce : (Nat → Int32)) (y3Th : Int32) (y3La : Int32) (y3Sz : Int32) (y3Ce : (Nat → Int32)) (p1 : Int32) (p2 : Int32) (p3 : Int32) (r_ : Int32) (n_y0Ce : (Nat → Int32)) (n_y1Ce : (Nat → Int32)) (n_y2Ce : (Nat → Int32)) (n_y3Ce : (Nat → Int32)) (hf : f_X7_lay y0Th y0La y0Sz y0Ce y1Th y1La y1Sz y1Ce y2Th y2La y2Sz y2Ce y3Th y3La y3Sz y3Ce p1 p2 p3 = some (r_, n_y0Ce, n_y1Ce, n_y2Ce, n_y3Ce)) : mR l yX7_lay wsX7_lay rmX7_lay D k sz [.ref xh, .int p1, .int p2, .int p3] (wX7 k xh xaL xaT xaO xaF xaS xaI xaH xaR xaU xTf xTb ++ (wHA k xaH y0 y1 y2 y3 ++ (wX6 k y0 y0rCe y0Th y0La y0Sz y0Ce ++ (wX6 k y1 y1rCe y1Th y1La y1Sz y1Ce ++ (wX6 k y2 y2rCe y2Th y2La y2Sz y2Ce ++ (wX6 k y3 y3rCe y3Th y3La y3Sz y3Ce)))))) (wX7 k xh xaL xaT xaO xaF xaS xaI xaH xaR xaU xTf xTb ++ (wHA k xaH y0 y1 y2 y3 ++ (wX6 k y0 y0rCe y0Th y0La y0Sz n_y0Ce ++ (wX6 k y1 y1rCe y1Th y1La y1Sz n_y1Ce ++ (wX6 k y2 y2rCe y2Th y2La y2Sz n_y2Ce ++ (wX6 k y3 y3rCe y3Th y3La y3Sz n_y3Ce)))))) (some (.int r_)) := by
  refine mR_of (cc := cX7_lay) (maxL := 5) (ret := some .int) (by decide) rfl (Nat.le_of_ble_eq_true rfl) [(0, .ref xh), (1, .int p1), (2, .int p2), (3, .int p3)] rfl ?_
  intro p e s m below meth c A ls args Q cx hK hA hw hl hQ
  have fx := cx.1
  obtain ⟨⟨hx, hb, hml, hown, hts⟩, hr, hlocks⟩ := cx
  have hinX7 : ∀ w ∈ wsX70, w ∈ wsX7_lay := fun w h => List.mem_cons_of_mem _ (List.mem_append_left _ (List.mem_append_right _ h))
  have q_1 := hts (.fieldLink RX7 49 "DebtRides" "sheets" "[LDebtRides$Sheet;") (List.mem_of_getElem? (i := 1) rfl)
  have h := hf
  unfold f_X7_lay at h
  clear hf
  refine lv_iload_n hx hb dX7_lay_0 rfl (lv_at hl 1 rfl) ?_
  obtain ⟨r_1, hf, h⟩ := b1_inv h
  refine k_callS (b := 0) (C := "") (host := "") fx hK hA hw (c_X7_isSheet l D k _ p1 r_1 hf) (va_cwS 1 hts gX7_lay_X7_isSheet rfl rfl rfl (by decide +kernel) ⟨by decide, by decide⟩) (As := [.int p1]) (wr := [(xh, .inr (7, [.ref xaL, .ref xaT, .ref xaO, .ref xaF, .ref xaS, .ref xaI, .ref xaH, .ref xaR, .ref xaU, .int xTf, .int xTb])), (xaH, .inl (k 4, 4, .inr (.inr (.inr (.inr (rl [y0, y1, y2, y3])))))), (y0, .inr (6, [.int y0Th, .int y0La, .int y0Sz, .ref y0rCe])), (y0rCe, .inl (k 0, 40, .inl y0Ce)), (y1, .inr (6, [.int y1Th, .int y1La, .int y1Sz, .ref y1rCe])), (y1rCe, .inl (k 0, 40, .inl y1Ce)), (y2, .inr (6, [.int y2Th, .int y2La, .int y2Sz, .ref y2rCe])), (y2rCe, .inl (k 0, 40, .inl y2Ce)), (y3, .inr (6, [.int y3Th, .int y3La, .int y3Sz, .ref y3rCe])), (y3rCe, .inl (k 0, 40, .inl y3Ce))]) (ws' := wX7 k xh xaL xaT xaO xaF xaS xaI xaH xaR xaU xTf xTb ++ (wHA k xaH y0 y1 y2 y3 ++ (wX6 k y0 y0rCe y0Th y0La y0Sz y0Ce ++ (wX6 k y1 y1rCe y1Th y1La y1Sz y1Ce ++ (wX6 k y2 y2rCe y2Th y2La y2Sz y2Ce ++ (wX6 k y3 y3rCe y3Th y3La y3Sz y3Ce)))))) [] [0, 1, 2, 3, 4, 5, 6, 7, 8, 9] [0, 1, 2, 3, 4, 5, 6, 7, 8, 9] rfl rfl (by decide) (by decide) (by decide) rfl (by decide) [] rfl hl.1 rfl (Nat.le_of_ble_eq_true rfl) dX7_lay_1 ⟨by decide, by decide⟩ (fun H locs (hw : Wd D A s.heap H locs (wX7 k xh xaL xaT xaO xaF xaS xaI xaH xaR xaU xTf xTb ++ (wHA k xaH y0 y1 y2 y3 ++ (wX6 k y0 y0rCe y0Th y0La y0Sz y0Ce ++ (wX6 k y1 y1rCe y1Th y1La y1Sz y1Ce ++ (wX6 k y2 y2rCe y2Th y2La y2Sz y2Ce ++ (wX6 k y3 y3rCe y3Th y3La y3Sz y3Ce))))))) => ?_)
  refine W.eq (g2 := F0 m 4 ls ([.int r_1])) rfl ?_
  refine kb_if_ne (tgt := 9) hx hb dX7_lay_4 (by decide) h (fun c_4 h => ?_) (fun c_4 h => ?_)
  · refine lv_iconst (v := (-1)) hx hb dX7_lay_7 (by decide) ?_
    cases h
    exact k_iret hx hb hr hlocks hw rfl dX7_lay_8 hQ
  · refine lv_aload_n hx hb dX7_lay_9 rfl (lv_at hl 0 rfl) ?_
    refine va_get (ci := 7) (v := .ref xaH) (C := RX7) (T := TX7) (N := 11) hx hb hts hinX7 hown hK.1 hw.1 0 rfl rfl 6 (by decide) q_1 (fun _ h9 => h9) rfl dX7_lay_10 ?_
    refine lv_iload_n hx hb dX7_lay_13 rfl (lv_at hl 1 rfl) ?_
    by_cases c_14 : p1 = 0
    · rw [if_pos c_14] at h
      refine k_aald hx hb hK hw 1 4 (j := 0) (a' := y0) rfl rfl c_14 (by unfold vp_in; decide) rfl dX7_lay_14 ?_
      refine lv_iload_n hx hb dX7_lay_15 rfl (lv_at hl 2 rfl) ?_
      obtain ⟨r_2, hf, h⟩ := b1_inv h
      refine k_callV (host := "") fx hK hA hw (c_X6_faultOfLaying l D k y0 y0rCe _ y0Th y0La y0Sz y0Ce p2 r_2 hf) (cwV 1 hts gX7_lay_X6_faultOfLaying rfl rfl rfl (by decide +kernel) ⟨by decide, by decide⟩) (As := [.int p2]) (wr := [(xh, .inr (7, [.ref xaL, .ref xaT, .ref xaO, .ref xaF, .ref xaS, .ref xaI, .ref xaH, .ref xaR, .ref xaU, .int xTf, .int xTb])), (xaH, .inl (k 4, 4, .inr (.inr (.inr (.inr (rl [y0, y1, y2, y3])))))), (y1, .inr (6, [.int y1Th, .int y1La, .int y1Sz, .ref y1rCe])), (y1rCe, .inl (k 0, 40, .inl y1Ce)), (y2, .inr (6, [.int y2Th, .int y2La, .int y2Sz, .ref y2rCe])), (y2rCe, .inl (k 0, 40, .inl y2Ce)), (y3, .inr (6, [.int y3Th, .int y3La, .int y3Sz, .ref y3rCe])), (y3rCe, .inl (k 0, 40, .inl y3Ce))]) (ws' := wX7 k xh xaL xaT xaO xaF xaS xaI xaH xaR xaU xTf xTb ++ (wHA k xaH y0 y1 y2 y3 ++ (wX6 k y0 y0rCe y0Th y0La y0Sz y0Ce ++ (wX6 k y1 y1rCe y1Th y1La y1Sz y1Ce ++ (wX6 k y2 y2rCe y2Th y2La y2Sz y2Ce ++ (wX6 k y3 y3rCe y3Th y3La y3Sz y3Ce)))))) [2, 3] [0, 1, 4, 5, 6, 7, 8, 9] [0, 1, 8, 9, 2, 3, 4, 5, 6, 7] rfl rfl (by decide) (by decide) (by decide) rfl (by decide) 6 rfl rfl [] rfl hl.1 rfl (Nat.le_of_ble_eq_true rfl) dX7_lay_16 ⟨by decide, by decide⟩ (fun H locs (hw : Wd D A s.heap H locs (wX7 k xh xaL xaT xaO xaF xaS xaI xaH xaR xaU xTf xTb ++ (wHA k xaH y0 y1 y2 y3 ++ (wX6 k y0 y0rCe y0Th y0La y0Sz y0Ce ++ (wX6 k y1 y1rCe y1Th y1La y1Sz y1Ce ++ (wX6 k y2 y2rCe y2Th y2La y2Sz y2Ce ++ (wX6 k y3 y3rCe y3Th y3La y3Sz y3Ce))))))) => ?_)
      refine W.eq (g2 := F0 m 19 ls ([.int r_2])) rfl ?_
      refine lv_istore (lv' := [(4, .int r_2), (0, .ref xh), (1, .int p1), (2, .int p2), (3, .int p3)]) hx hb dX7_lay_19 hl (by decide) rfl (fun ls hl => ?_)
      refine lv_iload hx hb dX7_lay_21 (lv_at hl 0 rfl) ?_
      refine kb_if_eq (tgt := 32) hx hb dX7_lay_23 (by decide) h (fun c_23 h => ?_) (fun c_23 h => ?_)
      · refine lv_aload_n hx hb dX7_lay_32 rfl (lv_at hl 1 rfl) ?_
        refine va_get (ci := 7) (v := .ref xaH) (C := RX7) (T := TX7) (N := 11) hx hb hts hinX7 hown hK.1 hw.1 0 rfl rfl 6 (by decide) q_1 (fun _ h9 => h9) rfl dX7_lay_33 ?_
        refine lv_iload_n hx hb dX7_lay_36 rfl (lv_at hl 2 rfl) ?_
        by_cases c_37 : p1 = 0
        · rw [if_pos c_37] at h
          refine k_aald hx hb hK hw 1 4 (j := 0) (a' := y0) rfl rfl c_37 (by unfold vp_in; decide) rfl dX7_lay_37 ?_
          refine lv_iload_n hx hb dX7_lay_38 rfl (lv_at hl 3 rfl) ?_
          refine lv_iload_n hx hb dX7_lay_39 rfl (lv_at hl 4 rfl) ?_
          obtain ⟨y0Ce_3, hf, h⟩ := b1_inv h
          refine k_callV (host := "") fx hK hA hw (c_X6_put l D k y0 y0rCe _ y0Th y0La y0Sz y0Ce p2 p3 y0Ce_3 hf) (cwV 2 hts gX7_lay_X6_put rfl rfl rfl (by decide +kernel) ⟨by decide, by decide⟩) (As := [.int p2, .int p3]) (wr := [(xh, .inr (7, [.ref xaL, .ref xaT, .ref xaO, .ref xaF, .ref xaS, .ref xaI, .ref xaH, .ref xaR, .ref xaU, .int xTf, .int xTb])), (xaH, .inl (k 4, 4, .inr (.inr (.inr (.inr (rl [y0, y1, y2, y3])))))), (y1, .inr (6, [.int y1Th, .int y1La, .int y1Sz, .ref y1rCe])), (y1rCe, .inl (k 0, 40, .inl y1Ce)), (y2, .inr (6, [.int y2Th, .int y2La, .int y2Sz, .ref y2rCe])), (y2rCe, .inl (k 0, 40, .inl y2Ce)), (y3, .inr (6, [.int y3Th, .int y3La, .int y3Sz, .ref y3rCe])), (y3rCe, .inl (k 0, 40, .inl y3Ce))]) (ws' := wX7 k xh xaL xaT xaO xaF xaS xaI xaH xaR xaU xTf xTb ++ (wHA k xaH y0 y1 y2 y3 ++ (wX6 k y0 y0rCe y0Th y0La y0Sz y0Ce_3 ++ (wX6 k y1 y1rCe y1Th y1La y1Sz y1Ce ++ (wX6 k y2 y2rCe y2Th y2La y2Sz y2Ce ++ (wX6 k y3 y3rCe y3Th y3La y3Sz y3Ce)))))) [2, 3] [0, 1, 4, 5, 6, 7, 8, 9] [0, 1, 8, 9, 2, 3, 4, 5, 6, 7] rfl rfl (by decide) (by decide) (by decide) rfl (by decide) 6 rfl rfl [] rfl hl.1 rfl (Nat.le_of_ble_eq_true rfl) dX7_lay_40 ⟨by decide, by decide⟩ (fun H locs (hw : Wd D A s.heap H locs (wX7 k xh xaL xaT xaO xaF xaS xaI xaH xaR xaU xTf xTb ++ (wHA k xaH y0 y1 y2 y3 ++ (wX6 k y0 y0rCe y0Th y0La y0Sz y0Ce_3 ++ (wX6 k y1 y1rCe y1Th y1La y1Sz y1Ce ++ (wX6 k y2 y2rCe y2Th y2La y2Sz y2Ce ++ (wX6 k y3 y3rCe y3Th y3La y3Sz y3Ce))))))) => ?_)
          refine W.eq (g2 := F0 m 43 ls ([])) rfl ?_
          refine lv_iconst (v := 1) hx hb dX7_lay_43 (by decide) ?_
          cases h
          exact k_iret hx hb hr hlocks hw rfl dX7_lay_44 hQ
        · rw [if_neg c_37] at h
          by_cases c_37 : p1 = 1
          · rw [if_pos c_37] at h
            refine k_aald hx hb hK hw 1 4 (j := 1) (a' := y1) rfl rfl c_37 (by unfold vp_in; decide) rfl dX7_lay_37 ?_
            refine lv_iload_n hx hb dX7_lay_38 rfl (lv_at hl 3 rfl) ?_
            refine lv_iload_n hx hb dX7_lay_39 rfl (lv_at hl 4 rfl) ?_
            obtain ⟨y1Ce_4, hf, h⟩ := b1_inv h
            refine k_callV (host := "") fx hK hA hw (c_X6_put l D k y1 y1rCe _ y1Th y1La y1Sz y1Ce p2 p3 y1Ce_4 hf) (cwV 2 hts gX7_lay_X6_put rfl rfl rfl (by decide +kernel) ⟨by decide, by decide⟩) (As := [.int p2, .int p3]) (wr := [(xh, .inr (7, [.ref xaL, .ref xaT, .ref xaO, .ref xaF, .ref xaS, .ref xaI, .ref xaH, .ref xaR, .ref xaU, .int xTf, .int xTb])), (xaH, .inl (k 4, 4, .inr (.inr (.inr (.inr (rl [y0, y1, y2, y3])))))), (y0, .inr (6, [.int y0Th, .int y0La, .int y0Sz, .ref y0rCe])), (y0rCe, .inl (k 0, 40, .inl y0Ce)), (y2, .inr (6, [.int y2Th, .int y2La, .int y2Sz, .ref y2rCe])), (y2rCe, .inl (k 0, 40, .inl y2Ce)), (y3, .inr (6, [.int y3Th, .int y3La, .int y3Sz, .ref y3rCe])), (y3rCe, .inl (k 0, 40, .inl y3Ce))]) (ws' := wX7 k xh xaL xaT xaO xaF xaS xaI xaH xaR xaU xTf xTb ++ (wHA k xaH y0 y1 y2 y3 ++ (wX6 k y0 y0rCe y0Th y0La y0Sz y0Ce ++ (wX6 k y1 y1rCe y1Th y1La y1Sz y1Ce_4 ++ (wX6 k y2 y2rCe y2Th y2La y2Sz y2Ce ++ (wX6 k y3 y3rCe y3Th y3La y3Sz y3Ce)))))) [4, 5] [0, 1, 2, 3, 6, 7, 8, 9] [0, 1, 2, 3, 8, 9, 4, 5, 6, 7] rfl rfl (by decide) (by decide) (by decide) rfl (by decide) 6 rfl rfl [] rfl hl.1 rfl (Nat.le_of_ble_eq_true rfl) dX7_lay_40 ⟨by decide, by decide⟩ (fun H locs (hw : Wd D A s.heap H locs (wX7 k xh xaL xaT xaO xaF xaS xaI xaH xaR xaU xTf xTb ++ (wHA k xaH y0 y1 y2 y3 ++ (wX6 k y0 y0rCe y0Th y0La y0Sz y0Ce ++ (wX6 k y1 y1rCe y1Th y1La y1Sz y1Ce_4 ++ (wX6 k y2 y2rCe y2Th y2La y2Sz y2Ce ++ (wX6 k y3 y3rCe y3Th y3La y3Sz y3Ce))))))) => ?_)
            refine W.eq (g2 := F0 m 43 ls ([])) rfl ?_
            refine lv_iconst (v := 1) hx hb dX7_lay_43 (by decide) ?_
            cases h
            exact k_iret hx hb hr hlocks hw rfl dX7_lay_44 hQ
          · rw [if_neg c_37] at h
            by_cases c_37 : p1 = 2
            · rw [if_pos c_37] at h
              refine k_aald hx hb hK hw 1 4 (j := 2) (a' := y2) rfl rfl c_37 (by unfold vp_in; decide) rfl dX7_lay_37 ?_
              refine lv_iload_n hx hb dX7_lay_38 rfl (lv_at hl 3 rfl) ?_
              refine lv_iload_n hx hb dX7_lay_39 rfl (lv_at hl 4 rfl) ?_
              obtain ⟨y2Ce_5, hf, h⟩ := b1_inv h
              refine k_callV (host := "") fx hK hA hw (c_X6_put l D k y2 y2rCe _ y2Th y2La y2Sz y2Ce p2 p3 y2Ce_5 hf) (cwV 2 hts gX7_lay_X6_put rfl rfl rfl (by decide +kernel) ⟨by decide, by decide⟩) (As := [.int p2, .int p3]) (wr := [(xh, .inr (7, [.ref xaL, .ref xaT, .ref xaO, .ref xaF, .ref xaS, .ref xaI, .ref xaH, .ref xaR, .ref xaU, .int xTf, .int xTb])), (xaH, .inl (k 4, 4, .inr (.inr (.inr (.inr (rl [y0, y1, y2, y3])))))), (y0, .inr (6, [.int y0Th, .int y0La, .int y0Sz, .ref y0rCe])), (y0rCe, .inl (k 0, 40, .inl y0Ce)), (y1, .inr (6, [.int y1Th, .int y1La, .int y1Sz, .ref y1rCe])), (y1rCe, .inl (k 0, 40, .inl y1Ce)), (y3, .inr (6, [.int y3Th, .int y3La, .int y3Sz, .ref y3rCe])), (y3rCe, .inl (k 0, 40, .inl y3Ce))]) (ws' := wX7 k xh xaL xaT xaO xaF xaS xaI xaH xaR xaU xTf xTb ++ (wHA k xaH y0 y1 y2 y3 ++ (wX6 k y0 y0rCe y0Th y0La y0Sz y0Ce ++ (wX6 k y1 y1rCe y1Th y1La y1Sz y1Ce ++ (wX6 k y2 y2rCe y2Th y2La y2Sz y2Ce_5 ++ (wX6 k y3 y3rCe y3Th y3La y3Sz y3Ce)))))) [6, 7] [0, 1, 2, 3, 4, 5, 8, 9] [0, 1, 2, 3, 4, 5, 8, 9, 6, 7] rfl rfl (by decide) (by decide) (by decide) rfl (by decide) 6 rfl rfl [] rfl hl.1 rfl (Nat.le_of_ble_eq_true rfl) dX7_lay_40 ⟨by decide, by decide⟩ (fun H locs (hw : Wd D A s.heap H locs (wX7 k xh xaL xaT xaO xaF xaS xaI xaH xaR xaU xTf xTb ++ (wHA k xaH y0 y1 y2 y3 ++ (wX6 k y0 y0rCe y0Th y0La y0Sz y0Ce ++ (wX6 k y1 y1rCe y1Th y1La y1Sz y1Ce ++ (wX6 k y2 y2rCe y2Th y2La y2Sz y2Ce_5 ++ (wX6 k y3 y3rCe y3Th y3La y3Sz y3Ce))))))) => ?_)
              refine W.eq (g2 := F0 m 43 ls ([])) rfl ?_
              refine lv_iconst (v := 1) hx hb dX7_lay_43 (by decide) ?_
              cases h
              exact k_iret hx hb hr hlocks hw rfl dX7_lay_44 hQ
            · rw [if_neg c_37] at h
              by_cases c_37 : p1 = 3
              · rw [if_pos c_37] at h
                refine k_aald hx hb hK hw 1 4 (j := 3) (a' := y3) rfl rfl c_37 (by unfold vp_in; decide) rfl dX7_lay_37 ?_
                refine lv_iload_n hx hb dX7_lay_38 rfl (lv_at hl 3 rfl) ?_
                refine lv_iload_n hx hb dX7_lay_39 rfl (lv_at hl 4 rfl) ?_
                obtain ⟨y3Ce_6, hf, h⟩ := b1_inv h
                refine k_callV (host := "") fx hK hA hw (c_X6_put l D k y3 y3rCe _ y3Th y3La y3Sz y3Ce p2 p3 y3Ce_6 hf) (cwV 2 hts gX7_lay_X6_put rfl rfl rfl (by decide +kernel) ⟨by decide, by decide⟩) (As := [.int p2, .int p3]) (wr := [(xh, .inr (7, [.ref xaL, .ref xaT, .ref xaO, .ref xaF, .ref xaS, .ref xaI, .ref xaH, .ref xaR, .ref xaU, .int xTf, .int xTb])), (xaH, .inl (k 4, 4, .inr (.inr (.inr (.inr (rl [y0, y1, y2, y3])))))), (y0, .inr (6, [.int y0Th, .int y0La, .int y0Sz, .ref y0rCe])), (y0rCe, .inl (k 0, 40, .inl y0Ce)), (y1, .inr (6, [.int y1Th, .int y1La, .int y1Sz, .ref y1rCe])), (y1rCe, .inl (k 0, 40, .inl y1Ce)), (y2, .inr (6, [.int y2Th, .int y2La, .int y2Sz, .ref y2rCe])), (y2rCe, .inl (k 0, 40, .inl y2Ce))]) (ws' := wX7 k xh xaL xaT xaO xaF xaS xaI xaH xaR xaU xTf xTb ++ (wHA k xaH y0 y1 y2 y3 ++ (wX6 k y0 y0rCe y0Th y0La y0Sz y0Ce ++ (wX6 k y1 y1rCe y1Th y1La y1Sz y1Ce ++ (wX6 k y2 y2rCe y2Th y2La y2Sz y2Ce ++ (wX6 k y3 y3rCe y3Th y3La y3Sz y3Ce_6)))))) [8, 9] [0, 1, 2, 3, 4, 5, 6, 7] [0, 1, 2, 3, 4, 5, 6, 7, 8, 9] rfl rfl (by decide) (by decide) (by decide) rfl (by decide) 6 rfl rfl [] rfl hl.1 rfl (Nat.le_of_ble_eq_true rfl) dX7_lay_40 ⟨by decide, by decide⟩ (fun H locs (hw : Wd D A s.heap H locs (wX7 k xh xaL xaT xaO xaF xaS xaI xaH xaR xaU xTf xTb ++ (wHA k xaH y0 y1 y2 y3 ++ (wX6 k y0 y0rCe y0Th y0La y0Sz y0Ce ++ (wX6 k y1 y1rCe y1Th y1La y1Sz y1Ce ++ (wX6 k y2 y2rCe y2Th y2La y2Sz y2Ce ++ (wX6 k y3 y3rCe y3Th y3La y3Sz y3Ce_6))))))) => ?_)
                refine W.eq (g2 := F0 m 43 ls ([])) rfl ?_
                refine lv_iconst (v := 1) hx hb dX7_lay_43 (by decide) ?_
                cases h
                exact k_iret hx hb hr hlocks hw rfl dX7_lay_44 hQ
              · rw [if_neg c_37] at h
                cases h
      · refine lv_bipush (v := (-10)) hx hb dX7_lay_26 (by decide) ?_
        refine lv_iload hx hb dX7_lay_28 (lv_at hl 0 rfl) ?_
        refine lv_isub hx hb dX7_lay_30 ?_
        have g0 := Option.some.inj h
        clear h
        obtain ⟨e0, g1⟩ := Prod.mk.inj g0
        obtain ⟨e1, g2⟩ := Prod.mk.inj g1
        obtain ⟨e2, g3⟩ := Prod.mk.inj g2
        obtain ⟨e3, g4⟩ := Prod.mk.inj g3
        subst e0; subst e1; subst e2; subst e3; subst g4
        exact k_iret hx hb hr hlocks hw rfl dX7_lay_31 hQ
    · rw [if_neg c_14] at h
      by_cases c_14 : p1 = 1
      · rw [if_pos c_14] at h
        refine k_aald hx hb hK hw 1 4 (j := 1) (a' := y1) rfl rfl c_14 (by unfold vp_in; decide) rfl dX7_lay_14 ?_
        refine lv_iload_n hx hb dX7_lay_15 rfl (lv_at hl 2 rfl) ?_
        obtain ⟨r_7, hf, h⟩ := b1_inv h
        refine k_callV (host := "") fx hK hA hw (c_X6_faultOfLaying l D k y1 y1rCe _ y1Th y1La y1Sz y1Ce p2 r_7 hf) (cwV 1 hts gX7_lay_X6_faultOfLaying rfl rfl rfl (by decide +kernel) ⟨by decide, by decide⟩) (As := [.int p2]) (wr := [(xh, .inr (7, [.ref xaL, .ref xaT, .ref xaO, .ref xaF, .ref xaS, .ref xaI, .ref xaH, .ref xaR, .ref xaU, .int xTf, .int xTb])), (xaH, .inl (k 4, 4, .inr (.inr (.inr (.inr (rl [y0, y1, y2, y3])))))), (y0, .inr (6, [.int y0Th, .int y0La, .int y0Sz, .ref y0rCe])), (y0rCe, .inl (k 0, 40, .inl y0Ce)), (y2, .inr (6, [.int y2Th, .int y2La, .int y2Sz, .ref y2rCe])), (y2rCe, .inl (k 0, 40, .inl y2Ce)), (y3, .inr (6, [.int y3Th, .int y3La, .int y3Sz, .ref y3rCe])), (y3rCe, .inl (k 0, 40, .inl y3Ce))]) (ws' := wX7 k xh xaL xaT xaO xaF xaS xaI xaH xaR xaU xTf xTb ++ (wHA k xaH y0 y1 y2 y3 ++ (wX6 k y0 y0rCe y0Th y0La y0Sz y0Ce ++ (wX6 k y1 y1rCe y1Th y1La y1Sz y1Ce ++ (wX6 k y2 y2rCe y2Th y2La y2Sz y2Ce ++ (wX6 k y3 y3rCe y3Th y3La y3Sz y3Ce)))))) [4, 5] [0, 1, 2, 3, 6, 7, 8, 9] [0, 1, 2, 3, 8, 9, 4, 5, 6, 7] rfl rfl (by decide) (by decide) (by decide) rfl (by decide) 6 rfl rfl [] rfl hl.1 rfl (Nat.le_of_ble_eq_true rfl) dX7_lay_16 ⟨by decide, by decide⟩ (fun H locs (hw : Wd D A s.heap H locs (wX7 k xh xaL xaT xaO xaF xaS xaI xaH xaR xaU xTf xTb ++ (wHA k xaH y0 y1 y2 y3 ++ (wX6 k y0 y0rCe y0Th y0La y0Sz y0Ce ++ (wX6 k y1 y1rCe y1Th y1La y1Sz y1Ce ++ (wX6 k y2 y2rCe y2Th y2La y2Sz y2Ce ++ (wX6 k y3 y3rCe y3Th y3La y3Sz y3Ce))))))) => ?_)
        refine W.eq (g2 := F0 m 19 ls ([.int r_7])) rfl ?_
        refine lv_istore (lv' := [(4, .int r_7), (0, .ref xh), (1, .int p1), (2, .int p2), (3, .int p3)]) hx hb dX7_lay_19 hl (by decide) rfl (fun ls hl => ?_)
        refine lv_iload hx hb dX7_lay_21 (lv_at hl 0 rfl) ?_
        refine kb_if_eq (tgt := 32) hx hb dX7_lay_23 (by decide) h (fun c_23 h => ?_) (fun c_23 h => ?_)
        · refine lv_aload_n hx hb dX7_lay_32 rfl (lv_at hl 1 rfl) ?_
          refine va_get (ci := 7) (v := .ref xaH) (C := RX7) (T := TX7) (N := 11) hx hb hts hinX7 hown hK.1 hw.1 0 rfl rfl 6 (by decide) q_1 (fun _ h9 => h9) rfl dX7_lay_33 ?_
          refine lv_iload_n hx hb dX7_lay_36 rfl (lv_at hl 2 rfl) ?_
          by_cases c_37 : p1 = 0
          · rw [if_pos c_37] at h
            refine k_aald hx hb hK hw 1 4 (j := 0) (a' := y0) rfl rfl c_37 (by unfold vp_in; decide) rfl dX7_lay_37 ?_
            refine lv_iload_n hx hb dX7_lay_38 rfl (lv_at hl 3 rfl) ?_
            refine lv_iload_n hx hb dX7_lay_39 rfl (lv_at hl 4 rfl) ?_
            obtain ⟨y0Ce_8, hf, h⟩ := b1_inv h
            refine k_callV (host := "") fx hK hA hw (c_X6_put l D k y0 y0rCe _ y0Th y0La y0Sz y0Ce p2 p3 y0Ce_8 hf) (cwV 2 hts gX7_lay_X6_put rfl rfl rfl (by decide +kernel) ⟨by decide, by decide⟩) (As := [.int p2, .int p3]) (wr := [(xh, .inr (7, [.ref xaL, .ref xaT, .ref xaO, .ref xaF, .ref xaS, .ref xaI, .ref xaH, .ref xaR, .ref xaU, .int xTf, .int xTb])), (xaH, .inl (k 4, 4, .inr (.inr (.inr (.inr (rl [y0, y1, y2, y3])))))), (y1, .inr (6, [.int y1Th, .int y1La, .int y1Sz, .ref y1rCe])), (y1rCe, .inl (k 0, 40, .inl y1Ce)), (y2, .inr (6, [.int y2Th, .int y2La, .int y2Sz, .ref y2rCe])), (y2rCe, .inl (k 0, 40, .inl y2Ce)), (y3, .inr (6, [.int y3Th, .int y3La, .int y3Sz, .ref y3rCe])), (y3rCe, .inl (k 0, 40, .inl y3Ce))]) (ws' := wX7 k xh xaL xaT xaO xaF xaS xaI xaH xaR xaU xTf xTb ++ (wHA k xaH y0 y1 y2 y3 ++ (wX6 k y0 y0rCe y0Th y0La y0Sz y0Ce_8 ++ (wX6 k y1 y1rCe y1Th y1La y1Sz y1Ce ++ (wX6 k y2 y2rCe y2Th y2La y2Sz y2Ce ++ (wX6 k y3 y3rCe y3Th y3La y3Sz y3Ce)))))) [2, 3] [0, 1, 4, 5, 6, 7, 8, 9] [0, 1, 8, 9, 2, 3, 4, 5, 6, 7] rfl rfl (by decide) (by decide) (by decide) rfl (by decide) 6 rfl rfl [] rfl hl.1 rfl (Nat.le_of_ble_eq_true rfl) dX7_lay_40 ⟨by decide, by decide⟩ (fun H locs (hw : Wd D A s.heap H locs (wX7 k xh xaL xaT xaO xaF xaS xaI xaH xaR xaU xTf xTb ++ (wHA k xaH y0 y1 y2 y3 ++ (wX6 k y0 y0rCe y0Th y0La y0Sz y0Ce_8 ++ (wX6 k y1 y1rCe y1Th y1La y1Sz y1Ce ++ (wX6 k y2 y2rCe y2Th y2La y2Sz y2Ce ++ (wX6 k y3 y3rCe y3Th y3La y3Sz y3Ce))))))) => ?_)
            refine W.eq (g2 := F0 m 43 ls ([])) rfl ?_
            refine lv_iconst (v := 1) hx hb dX7_lay_43 (by decide) ?_
            cases h
            exact k_iret hx hb hr hlocks hw rfl dX7_lay_44 hQ
          · rw [if_neg c_37] at h
            by_cases c_37 : p1 = 1
            · rw [if_pos c_37] at h
              refine k_aald hx hb hK hw 1 4 (j := 1) (a' := y1) rfl rfl c_37 (by unfold vp_in; decide) rfl dX7_lay_37 ?_
              refine lv_iload_n hx hb dX7_lay_38 rfl (lv_at hl 3 rfl) ?_
              refine lv_iload_n hx hb dX7_lay_39 rfl (lv_at hl 4 rfl) ?_
              obtain ⟨y1Ce_9, hf, h⟩ := b1_inv h
              refine k_callV (host := "") fx hK hA hw (c_X6_put l D k y1 y1rCe _ y1Th y1La y1Sz y1Ce p2 p3 y1Ce_9 hf) (cwV 2 hts gX7_lay_X6_put rfl rfl rfl (by decide +kernel) ⟨by decide, by decide⟩) (As := [.int p2, .int p3]) (wr := [(xh, .inr (7, [.ref xaL, .ref xaT, .ref xaO, .ref xaF, .ref xaS, .ref xaI, .ref xaH, .ref xaR, .ref xaU, .int xTf, .int xTb])), (xaH, .inl (k 4, 4, .inr (.inr (.inr (.inr (rl [y0, y1, y2, y3])))))), (y0, .inr (6, [.int y0Th, .int y0La, .int y0Sz, .ref y0rCe])), (y0rCe, .inl (k 0, 40, .inl y0Ce)), (y2, .inr (6, [.int y2Th, .int y2La, .int y2Sz, .ref y2rCe])), (y2rCe, .inl (k 0, 40, .inl y2Ce)), (y3, .inr (6, [.int y3Th, .int y3La, .int y3Sz, .ref y3rCe])), (y3rCe, .inl (k 0, 40, .inl y3Ce))]) (ws' := wX7 k xh xaL xaT xaO xaF xaS xaI xaH xaR xaU xTf xTb ++ (wHA k xaH y0 y1 y2 y3 ++ (wX6 k y0 y0rCe y0Th y0La y0Sz y0Ce ++ (wX6 k y1 y1rCe y1Th y1La y1Sz y1Ce_9 ++ (wX6 k y2 y2rCe y2Th y2La y2Sz y2Ce ++ (wX6 k y3 y3rCe y3Th y3La y3Sz y3Ce)))))) [4, 5] [0, 1, 2, 3, 6, 7, 8, 9] [0, 1, 2, 3, 8, 9, 4, 5, 6, 7] rfl rfl (by decide) (by decide) (by decide) rfl (by decide) 6 rfl rfl [] rfl hl.1 rfl (Nat.le_of_ble_eq_true rfl) dX7_lay_40 ⟨by decide, by decide⟩ (fun H locs (hw : Wd D A s.heap H locs (wX7 k xh xaL xaT xaO xaF xaS xaI xaH xaR xaU xTf xTb ++ (wHA k xaH y0 y1 y2 y3 ++ (wX6 k y0 y0rCe y0Th y0La y0Sz y0Ce ++ (wX6 k y1 y1rCe y1Th y1La y1Sz y1Ce_9 ++ (wX6 k y2 y2rCe y2Th y2La y2Sz y2Ce ++ (wX6 k y3 y3rCe y3Th y3La y3Sz y3Ce))))))) => ?_)
              refine W.eq (g2 := F0 m 43 ls ([])) rfl ?_
              refine lv_iconst (v := 1) hx hb dX7_lay_43 (by decide) ?_
              cases h
              exact k_iret hx hb hr hlocks hw rfl dX7_lay_44 hQ
            · rw [if_neg c_37] at h
              by_cases c_37 : p1 = 2
              · rw [if_pos c_37] at h
                refine k_aald hx hb hK hw 1 4 (j := 2) (a' := y2) rfl rfl c_37 (by unfold vp_in; decide) rfl dX7_lay_37 ?_
                refine lv_iload_n hx hb dX7_lay_38 rfl (lv_at hl 3 rfl) ?_
                refine lv_iload_n hx hb dX7_lay_39 rfl (lv_at hl 4 rfl) ?_
                obtain ⟨y2Ce_10, hf, h⟩ := b1_inv h
                refine k_callV (host := "") fx hK hA hw (c_X6_put l D k y2 y2rCe _ y2Th y2La y2Sz y2Ce p2 p3 y2Ce_10 hf) (cwV 2 hts gX7_lay_X6_put rfl rfl rfl (by decide +kernel) ⟨by decide, by decide⟩) (As := [.int p2, .int p3]) (wr := [(xh, .inr (7, [.ref xaL, .ref xaT, .ref xaO, .ref xaF, .ref xaS, .ref xaI, .ref xaH, .ref xaR, .ref xaU, .int xTf, .int xTb])), (xaH, .inl (k 4, 4, .inr (.inr (.inr (.inr (rl [y0, y1, y2, y3])))))), (y0, .inr (6, [.int y0Th, .int y0La, .int y0Sz, .ref y0rCe])), (y0rCe, .inl (k 0, 40, .inl y0Ce)), (y1, .inr (6, [.int y1Th, .int y1La, .int y1Sz, .ref y1rCe])), (y1rCe, .inl (k 0, 40, .inl y1Ce)), (y3, .inr (6, [.int y3Th, .int y3La, .int y3Sz, .ref y3rCe])), (y3rCe, .inl (k 0, 40, .inl y3Ce))]) (ws' := wX7 k xh xaL xaT xaO xaF xaS xaI xaH xaR xaU xTf xTb ++ (wHA k xaH y0 y1 y2 y3 ++ (wX6 k y0 y0rCe y0Th y0La y0Sz y0Ce ++ (wX6 k y1 y1rCe y1Th y1La y1Sz y1Ce ++ (wX6 k y2 y2rCe y2Th y2La y2Sz y2Ce_10 ++ (wX6 k y3 y3rCe y3Th y3La y3Sz y3Ce)))))) [6, 7] [0, 1, 2, 3, 4, 5, 8, 9] [0, 1, 2, 3, 4, 5, 8, 9, 6, 7] rfl rfl (by decide) (by decide) (by decide) rfl (by decide) 6 rfl rfl [] rfl hl.1 rfl (Nat.le_of_ble_eq_true rfl) dX7_lay_40 ⟨by decide, by decide⟩ (fun H locs (hw : Wd D A s.heap H locs (wX7 k xh xaL xaT xaO xaF xaS xaI xaH xaR xaU xTf xTb ++ (wHA k xaH y0 y1 y2 y3 ++ (wX6 k y0 y0rCe y0Th y0La y0Sz y0Ce ++ (wX6 k y1 y1rCe y1Th y1La y1Sz y1Ce ++ (wX6 k y2 y2rCe y2Th y2La y2Sz y2Ce_10 ++ (wX6 k y3 y3rCe y3Th y3La y3Sz y3Ce))))))) => ?_)
                refine W.eq (g2 := F0 m 43 ls ([])) rfl ?_
                refine lv_iconst (v := 1) hx hb dX7_lay_43 (by decide) ?_
                cases h
                exact k_iret hx hb hr hlocks hw rfl dX7_lay_44 hQ
              · rw [if_neg c_37] at h
                by_cases c_37 : p1 = 3
                · rw [if_pos c_37] at h
                  refine k_aald hx hb hK hw 1 4 (j := 3) (a' := y3) rfl rfl c_37 (by unfold vp_in; decide) rfl dX7_lay_37 ?_
                  refine lv_iload_n hx hb dX7_lay_38 rfl (lv_at hl 3 rfl) ?_
                  refine lv_iload_n hx hb dX7_lay_39 rfl (lv_at hl 4 rfl) ?_
                  obtain ⟨y3Ce_11, hf, h⟩ := b1_inv h
                  refine k_callV (host := "") fx hK hA hw (c_X6_put l D k y3 y3rCe _ y3Th y3La y3Sz y3Ce p2 p3 y3Ce_11 hf) (cwV 2 hts gX7_lay_X6_put rfl rfl rfl (by decide +kernel) ⟨by decide, by decide⟩) (As := [.int p2, .int p3]) (wr := [(xh, .inr (7, [.ref xaL, .ref xaT, .ref xaO, .ref xaF, .ref xaS, .ref xaI, .ref xaH, .ref xaR, .ref xaU, .int xTf, .int xTb])), (xaH, .inl (k 4, 4, .inr (.inr (.inr (.inr (rl [y0, y1, y2, y3])))))), (y0, .inr (6, [.int y0Th, .int y0La, .int y0Sz, .ref y0rCe])), (y0rCe, .inl (k 0, 40, .inl y0Ce)), (y1, .inr (6, [.int y1Th, .int y1La, .int y1Sz, .ref y1rCe])), (y1rCe, .inl (k 0, 40, .inl y1Ce)), (y2, .inr (6, [.int y2Th, .int y2La, .int y2Sz, .ref y2rCe])), (y2rCe, .inl (k 0, 40, .inl y2Ce))]) (ws' := wX7 k xh xaL xaT xaO xaF xaS xaI xaH xaR xaU xTf xTb ++ (wHA k xaH y0 y1 y2 y3 ++ (wX6 k y0 y0rCe y0Th y0La y0Sz y0Ce ++ (wX6 k y1 y1rCe y1Th y1La y1Sz y1Ce ++ (wX6 k y2 y2rCe y2Th y2La y2Sz y2Ce ++ (wX6 k y3 y3rCe y3Th y3La y3Sz y3Ce_11)))))) [8, 9] [0, 1, 2, 3, 4, 5, 6, 7] [0, 1, 2, 3, 4, 5, 6, 7, 8, 9] rfl rfl (by decide) (by decide) (by decide) rfl (by decide) 6 rfl rfl [] rfl hl.1 rfl (Nat.le_of_ble_eq_true rfl) dX7_lay_40 ⟨by decide, by decide⟩ (fun H locs (hw : Wd D A s.heap H locs (wX7 k xh xaL xaT xaO xaF xaS xaI xaH xaR xaU xTf xTb ++ (wHA k xaH y0 y1 y2 y3 ++ (wX6 k y0 y0rCe y0Th y0La y0Sz y0Ce ++ (wX6 k y1 y1rCe y1Th y1La y1Sz y1Ce ++ (wX6 k y2 y2rCe y2Th y2La y2Sz y2Ce ++ (wX6 k y3 y3rCe y3Th y3La y3Sz y3Ce_11))))))) => ?_)
                  refine W.eq (g2 := F0 m 43 ls ([])) rfl ?_
                  refine lv_iconst (v := 1) hx hb dX7_lay_43 (by decide) ?_
                  cases h
                  exact k_iret hx hb hr hlocks hw rfl dX7_lay_44 hQ
                · rw [if_neg c_37] at h
                  cases h
        · refine lv_bipush (v := (-10)) hx hb dX7_lay_26 (by decide) ?_
          refine lv_iload hx hb dX7_lay_28 (lv_at hl 0 rfl) ?_
          refine lv_isub hx hb dX7_lay_30 ?_
          have g0 := Option.some.inj h
          clear h
          obtain ⟨e0, g1⟩ := Prod.mk.inj g0
          obtain ⟨e1, g2⟩ := Prod.mk.inj g1
          obtain ⟨e2, g3⟩ := Prod.mk.inj g2
          obtain ⟨e3, g4⟩ := Prod.mk.inj g3
          subst e0; subst e1; subst e2; subst e3; subst g4
          exact k_iret hx hb hr hlocks hw rfl dX7_lay_31 hQ
      · rw [if_neg c_14] at h
        by_cases c_14 : p1 = 2
        · rw [if_pos c_14] at h
          refine k_aald hx hb hK hw 1 4 (j := 2) (a' := y2) rfl rfl c_14 (by unfold vp_in; decide) rfl dX7_lay_14 ?_
          refine lv_iload_n hx hb dX7_lay_15 rfl (lv_at hl 2 rfl) ?_
          obtain ⟨r_12, hf, h⟩ := b1_inv h
          refine k_callV (host := "") fx hK hA hw (c_X6_faultOfLaying l D k y2 y2rCe _ y2Th y2La y2Sz y2Ce p2 r_12 hf) (cwV 1 hts gX7_lay_X6_faultOfLaying rfl rfl rfl (by decide +kernel) ⟨by decide, by decide⟩) (As := [.int p2]) (wr := [(xh, .inr (7, [.ref xaL, .ref xaT, .ref xaO, .ref xaF, .ref xaS, .ref xaI, .ref xaH, .ref xaR, .ref xaU, .int xTf, .int xTb])), (xaH, .inl (k 4, 4, .inr (.inr (.inr (.inr (rl [y0, y1, y2, y3])))))), (y0, .inr (6, [.int y0Th, .int y0La, .int y0Sz, .ref y0rCe])), (y0rCe, .inl (k 0, 40, .inl y0Ce)), (y1, .inr (6, [.int y1Th, .int y1La, .int y1Sz, .ref y1rCe])), (y1rCe, .inl (k 0, 40, .inl y1Ce)), (y3, .inr (6, [.int y3Th, .int y3La, .int y3Sz, .ref y3rCe])), (y3rCe, .inl (k 0, 40, .inl y3Ce))]) (ws' := wX7 k xh xaL xaT xaO xaF xaS xaI xaH xaR xaU xTf xTb ++ (wHA k xaH y0 y1 y2 y3 ++ (wX6 k y0 y0rCe y0Th y0La y0Sz y0Ce ++ (wX6 k y1 y1rCe y1Th y1La y1Sz y1Ce ++ (wX6 k y2 y2rCe y2Th y2La y2Sz y2Ce ++ (wX6 k y3 y3rCe y3Th y3La y3Sz y3Ce)))))) [6, 7] [0, 1, 2, 3, 4, 5, 8, 9] [0, 1, 2, 3, 4, 5, 8, 9, 6, 7] rfl rfl (by decide) (by decide) (by decide) rfl (by decide) 6 rfl rfl [] rfl hl.1 rfl (Nat.le_of_ble_eq_true rfl) dX7_lay_16 ⟨by decide, by decide⟩ (fun H locs (hw : Wd D A s.heap H locs (wX7 k xh xaL xaT xaO xaF xaS xaI xaH xaR xaU xTf xTb ++ (wHA k xaH y0 y1 y2 y3 ++ (wX6 k y0 y0rCe y0Th y0La y0Sz y0Ce ++ (wX6 k y1 y1rCe y1Th y1La y1Sz y1Ce ++ (wX6 k y2 y2rCe y2Th y2La y2Sz y2Ce ++ (wX6 k y3 y3rCe y3Th y3La y3Sz y3Ce))))))) => ?_)
          refine W.eq (g2 := F0 m 19 ls ([.int r_12])) rfl ?_
          refine lv_istore (lv' := [(4, .int r_12), (0, .ref xh), (1, .int p1), (2, .int p2), (3, .int p3)]) hx hb dX7_lay_19 hl (by decide) rfl (fun ls hl => ?_)
          refine lv_iload hx hb dX7_lay_21 (lv_at hl 0 rfl) ?_
          refine kb_if_eq (tgt := 32) hx hb dX7_lay_23 (by decide) h (fun c_23 h => ?_) (fun c_23 h => ?_)
          · refine lv_aload_n hx hb dX7_lay_32 rfl (lv_at hl 1 rfl) ?_
            refine va_get (ci := 7) (v := .ref xaH) (C := RX7) (T := TX7) (N := 11) hx hb hts hinX7 hown hK.1 hw.1 0 rfl rfl 6 (by decide) q_1 (fun _ h9 => h9) rfl dX7_lay_33 ?_
            refine lv_iload_n hx hb dX7_lay_36 rfl (lv_at hl 2 rfl) ?_
            by_cases c_37 : p1 = 0
            · rw [if_pos c_37] at h
              refine k_aald hx hb hK hw 1 4 (j := 0) (a' := y0) rfl rfl c_37 (by unfold vp_in; decide) rfl dX7_lay_37 ?_
              refine lv_iload_n hx hb dX7_lay_38 rfl (lv_at hl 3 rfl) ?_
              refine lv_iload_n hx hb dX7_lay_39 rfl (lv_at hl 4 rfl) ?_
              obtain ⟨y0Ce_13, hf, h⟩ := b1_inv h
              refine k_callV (host := "") fx hK hA hw (c_X6_put l D k y0 y0rCe _ y0Th y0La y0Sz y0Ce p2 p3 y0Ce_13 hf) (cwV 2 hts gX7_lay_X6_put rfl rfl rfl (by decide +kernel) ⟨by decide, by decide⟩) (As := [.int p2, .int p3]) (wr := [(xh, .inr (7, [.ref xaL, .ref xaT, .ref xaO, .ref xaF, .ref xaS, .ref xaI, .ref xaH, .ref xaR, .ref xaU, .int xTf, .int xTb])), (xaH, .inl (k 4, 4, .inr (.inr (.inr (.inr (rl [y0, y1, y2, y3])))))), (y1, .inr (6, [.int y1Th, .int y1La, .int y1Sz, .ref y1rCe])), (y1rCe, .inl (k 0, 40, .inl y1Ce)), (y2, .inr (6, [.int y2Th, .int y2La, .int y2Sz, .ref y2rCe])), (y2rCe, .inl (k 0, 40, .inl y2Ce)), (y3, .inr (6, [.int y3Th, .int y3La, .int y3Sz, .ref y3rCe])), (y3rCe, .inl (k 0, 40, .inl y3Ce))]) (ws' := wX7 k xh xaL xaT xaO xaF xaS xaI xaH xaR xaU xTf xTb ++ (wHA k xaH y0 y1 y2 y3 ++ (wX6 k y0 y0rCe y0Th y0La y0Sz y0Ce_13 ++ (wX6 k y1 y1rCe y1Th y1La y1Sz y1Ce ++ (wX6 k y2 y2rCe y2Th y2La y2Sz y2Ce ++ (wX6 k y3 y3rCe y3Th y3La y3Sz y3Ce)))))) [2, 3] [0, 1, 4, 5, 6, 7, 8, 9] [0, 1, 8, 9, 2, 3, 4, 5, 6, 7] rfl rfl (by decide) (by decide) (by decide) rfl (by decide) 6 rfl rfl [] rfl hl.1 rfl (Nat.le_of_ble_eq_true rfl) dX7_lay_40 ⟨by decide, by decide⟩ (fun H locs (hw : Wd D A s.heap H locs (wX7 k xh xaL xaT xaO xaF xaS xaI xaH xaR xaU xTf xTb ++ (wHA k xaH y0 y1 y2 y3 ++ (wX6 k y0 y0rCe y0Th y0La y0Sz y0Ce_13 ++ (wX6 k y1 y1rCe y1Th y1La y1Sz y1Ce ++ (wX6 k y2 y2rCe y2Th y2La y2Sz y2Ce ++ (wX6 k y3 y3rCe y3Th y3La y3Sz y3Ce))))))) => ?_)
              refine W.eq (g2 := F0 m 43 ls ([])) rfl ?_
              refine lv_iconst (v := 1) hx hb dX7_lay_43 (by decide) ?_
              cases h
              exact k_iret hx hb hr hlocks hw rfl dX7_lay_44 hQ
            · rw [if_neg c_37] at h
              by_cases c_37 : p1 = 1
              · rw [if_pos c_37] at h
                refine k_aald hx hb hK hw 1 4 (j := 1) (a' := y1) rfl rfl c_37 (by unfold vp_in; decide) rfl dX7_lay_37 ?_
                refine lv_iload_n hx hb dX7_lay_38 rfl (lv_at hl 3 rfl) ?_
                refine lv_iload_n hx hb dX7_lay_39 rfl (lv_at hl 4 rfl) ?_
                obtain ⟨y1Ce_14, hf, h⟩ := b1_inv h
                refine k_callV (host := "") fx hK hA hw (c_X6_put l D k y1 y1rCe _ y1Th y1La y1Sz y1Ce p2 p3 y1Ce_14 hf) (cwV 2 hts gX7_lay_X6_put rfl rfl rfl (by decide +kernel) ⟨by decide, by decide⟩) (As := [.int p2, .int p3]) (wr := [(xh, .inr (7, [.ref xaL, .ref xaT, .ref xaO, .ref xaF, .ref xaS, .ref xaI, .ref xaH, .ref xaR, .ref xaU, .int xTf, .int xTb])), (xaH, .inl (k 4, 4, .inr (.inr (.inr (.inr (rl [y0, y1, y2, y3])))))), (y0, .inr (6, [.int y0Th, .int y0La, .int y0Sz, .ref y0rCe])), (y0rCe, .inl (k 0, 40, .inl y0Ce)), (y2, .inr (6, [.int y2Th, .int y2La, .int y2Sz, .ref y2rCe])), (y2rCe, .inl (k 0, 40, .inl y2Ce)), (y3, .inr (6, [.int y3Th, .int y3La, .int y3Sz, .ref y3rCe])), (y3rCe, .inl (k 0, 40, .inl y3Ce))]) (ws' := wX7 k xh xaL xaT xaO xaF xaS xaI xaH xaR xaU xTf xTb ++ (wHA k xaH y0 y1 y2 y3 ++ (wX6 k y0 y0rCe y0Th y0La y0Sz y0Ce ++ (wX6 k y1 y1rCe y1Th y1La y1Sz y1Ce_14 ++ (wX6 k y2 y2rCe y2Th y2La y2Sz y2Ce ++ (wX6 k y3 y3rCe y3Th y3La y3Sz y3Ce)))))) [4, 5] [0, 1, 2, 3, 6, 7, 8, 9] [0, 1, 2, 3, 8, 9, 4, 5, 6, 7] rfl rfl (by decide) (by decide) (by decide) rfl (by decide) 6 rfl rfl [] rfl hl.1 rfl (Nat.le_of_ble_eq_true rfl) dX7_lay_40 ⟨by decide, by decide⟩ (fun H locs (hw : Wd D A s.heap H locs (wX7 k xh xaL xaT xaO xaF xaS xaI xaH xaR xaU xTf xTb ++ (wHA k xaH y0 y1 y2 y3 ++ (wX6 k y0 y0rCe y0Th y0La y0Sz y0Ce ++ (wX6 k y1 y1rCe y1Th y1La y1Sz y1Ce_14 ++ (wX6 k y2 y2rCe y2Th y2La y2Sz y2Ce ++ (wX6 k y3 y3rCe y3Th y3La y3Sz y3Ce))))))) => ?_)
                refine W.eq (g2 := F0 m 43 ls ([])) rfl ?_
                refine lv_iconst (v := 1) hx hb dX7_lay_43 (by decide) ?_
                cases h
                exact k_iret hx hb hr hlocks hw rfl dX7_lay_44 hQ
              · rw [if_neg c_37] at h
                by_cases c_37 : p1 = 2
                · rw [if_pos c_37] at h
                  refine k_aald hx hb hK hw 1 4 (j := 2) (a' := y2) rfl rfl c_37 (by unfold vp_in; decide) rfl dX7_lay_37 ?_
                  refine lv_iload_n hx hb dX7_lay_38 rfl (lv_at hl 3 rfl) ?_
                  refine lv_iload_n hx hb dX7_lay_39 rfl (lv_at hl 4 rfl) ?_
                  obtain ⟨y2Ce_15, hf, h⟩ := b1_inv h
                  refine k_callV (host := "") fx hK hA hw (c_X6_put l D k y2 y2rCe _ y2Th y2La y2Sz y2Ce p2 p3 y2Ce_15 hf) (cwV 2 hts gX7_lay_X6_put rfl rfl rfl (by decide +kernel) ⟨by decide, by decide⟩) (As := [.int p2, .int p3]) (wr := [(xh, .inr (7, [.ref xaL, .ref xaT, .ref xaO, .ref xaF, .ref xaS, .ref xaI, .ref xaH, .ref xaR, .ref xaU, .int xTf, .int xTb])), (xaH, .inl (k 4, 4, .inr (.inr (.inr (.inr (rl [y0, y1, y2, y3])))))), (y0, .inr (6, [.int y0Th, .int y0La, .int y0Sz, .ref y0rCe])), (y0rCe, .inl (k 0, 40, .inl y0Ce)), (y1, .inr (6, [.int y1Th, .int y1La, .int y1Sz, .ref y1rCe])), (y1rCe, .inl (k 0, 40, .inl y1Ce)), (y3, .inr (6, [.int y3Th, .int y3La, .int y3Sz, .ref y3rCe])), (y3rCe, .inl (k 0, 40, .inl y3Ce))]) (ws' := wX7 k xh xaL xaT xaO xaF xaS xaI xaH xaR xaU xTf xTb ++ (wHA k xaH y0 y1 y2 y3 ++ (wX6 k y0 y0rCe y0Th y0La y0Sz y0Ce ++ (wX6 k y1 y1rCe y1Th y1La y1Sz y1Ce ++ (wX6 k y2 y2rCe y2Th y2La y2Sz y2Ce_15 ++ (wX6 k y3 y3rCe y3Th y3La y3Sz y3Ce)))))) [6, 7] [0, 1, 2, 3, 4, 5, 8, 9] [0, 1, 2, 3, 4, 5, 8, 9, 6, 7] rfl rfl (by decide) (by decide) (by decide) rfl (by decide) 6 rfl rfl [] rfl hl.1 rfl (Nat.le_of_ble_eq_true rfl) dX7_lay_40 ⟨by decide, by decide⟩ (fun H locs (hw : Wd D A s.heap H locs (wX7 k xh xaL xaT xaO xaF xaS xaI xaH xaR xaU xTf xTb ++ (wHA k xaH y0 y1 y2 y3 ++ (wX6 k y0 y0rCe y0Th y0La y0Sz y0Ce ++ (wX6 k y1 y1rCe y1Th y1La y1Sz y1Ce ++ (wX6 k y2 y2rCe y2Th y2La y2Sz y2Ce_15 ++ (wX6 k y3 y3rCe y3Th y3La y3Sz y3Ce))))))) => ?_)
                  refine W.eq (g2 := F0 m 43 ls ([])) rfl ?_
                  refine lv_iconst (v := 1) hx hb dX7_lay_43 (by decide) ?_
                  cases h
                  exact k_iret hx hb hr hlocks hw rfl dX7_lay_44 hQ
                · rw [if_neg c_37] at h
                  by_cases c_37 : p1 = 3
                  · rw [if_pos c_37] at h
                    refine k_aald hx hb hK hw 1 4 (j := 3) (a' := y3) rfl rfl c_37 (by unfold vp_in; decide) rfl dX7_lay_37 ?_
                    refine lv_iload_n hx hb dX7_lay_38 rfl (lv_at hl 3 rfl) ?_
                    refine lv_iload_n hx hb dX7_lay_39 rfl (lv_at hl 4 rfl) ?_
                    obtain ⟨y3Ce_16, hf, h⟩ := b1_inv h
                    refine k_callV (host := "") fx hK hA hw (c_X6_put l D k y3 y3rCe _ y3Th y3La y3Sz y3Ce p2 p3 y3Ce_16 hf) (cwV 2 hts gX7_lay_X6_put rfl rfl rfl (by decide +kernel) ⟨by decide, by decide⟩) (As := [.int p2, .int p3]) (wr := [(xh, .inr (7, [.ref xaL, .ref xaT, .ref xaO, .ref xaF, .ref xaS, .ref xaI, .ref xaH, .ref xaR, .ref xaU, .int xTf, .int xTb])), (xaH, .inl (k 4, 4, .inr (.inr (.inr (.inr (rl [y0, y1, y2, y3])))))), (y0, .inr (6, [.int y0Th, .int y0La, .int y0Sz, .ref y0rCe])), (y0rCe, .inl (k 0, 40, .inl y0Ce)), (y1, .inr (6, [.int y1Th, .int y1La, .int y1Sz, .ref y1rCe])), (y1rCe, .inl (k 0, 40, .inl y1Ce)), (y2, .inr (6, [.int y2Th, .int y2La, .int y2Sz, .ref y2rCe])), (y2rCe, .inl (k 0, 40, .inl y2Ce))]) (ws' := wX7 k xh xaL xaT xaO xaF xaS xaI xaH xaR xaU xTf xTb ++ (wHA k xaH y0 y1 y2 y3 ++ (wX6 k y0 y0rCe y0Th y0La y0Sz y0Ce ++ (wX6 k y1 y1rCe y1Th y1La y1Sz y1Ce ++ (wX6 k y2 y2rCe y2Th y2La y2Sz y2Ce ++ (wX6 k y3 y3rCe y3Th y3La y3Sz y3Ce_16)))))) [8, 9] [0, 1, 2, 3, 4, 5, 6, 7] [0, 1, 2, 3, 4, 5, 6, 7, 8, 9] rfl rfl (by decide) (by decide) (by decide) rfl (by decide) 6 rfl rfl [] rfl hl.1 rfl (Nat.le_of_ble_eq_true rfl) dX7_lay_40 ⟨by decide, by decide⟩ (fun H locs (hw : Wd D A s.heap H locs (wX7 k xh xaL xaT xaO xaF xaS xaI xaH xaR xaU xTf xTb ++ (wHA k xaH y0 y1 y2 y3 ++ (wX6 k y0 y0rCe y0Th y0La y0Sz y0Ce ++ (wX6 k y1 y1rCe y1Th y1La y1Sz y1Ce ++ (wX6 k y2 y2rCe y2Th y2La y2Sz y2Ce ++ (wX6 k y3 y3rCe y3Th y3La y3Sz y3Ce_16))))))) => ?_)
                    refine W.eq (g2 := F0 m 43 ls ([])) rfl ?_
                    refine lv_iconst (v := 1) hx hb dX7_lay_43 (by decide) ?_
                    cases h
                    exact k_iret hx hb hr hlocks hw rfl dX7_lay_44 hQ
                  · rw [if_neg c_37] at h
                    cases h
          · refine lv_bipush (v := (-10)) hx hb dX7_lay_26 (by decide) ?_
            refine lv_iload hx hb dX7_lay_28 (lv_at hl 0 rfl) ?_
            refine lv_isub hx hb dX7_lay_30 ?_
            have g0 := Option.some.inj h
            clear h
            obtain ⟨e0, g1⟩ := Prod.mk.inj g0
            obtain ⟨e1, g2⟩ := Prod.mk.inj g1
            obtain ⟨e2, g3⟩ := Prod.mk.inj g2
            obtain ⟨e3, g4⟩ := Prod.mk.inj g3
            subst e0; subst e1; subst e2; subst e3; subst g4
            exact k_iret hx hb hr hlocks hw rfl dX7_lay_31 hQ
        · rw [if_neg c_14] at h
          by_cases c_14 : p1 = 3
          · rw [if_pos c_14] at h
            refine k_aald hx hb hK hw 1 4 (j := 3) (a' := y3) rfl rfl c_14 (by unfold vp_in; decide) rfl dX7_lay_14 ?_
            refine lv_iload_n hx hb dX7_lay_15 rfl (lv_at hl 2 rfl) ?_
            obtain ⟨r_17, hf, h⟩ := b1_inv h
            refine k_callV (host := "") fx hK hA hw (c_X6_faultOfLaying l D k y3 y3rCe _ y3Th y3La y3Sz y3Ce p2 r_17 hf) (cwV 1 hts gX7_lay_X6_faultOfLaying rfl rfl rfl (by decide +kernel) ⟨by decide, by decide⟩) (As := [.int p2]) (wr := [(xh, .inr (7, [.ref xaL, .ref xaT, .ref xaO, .ref xaF, .ref xaS, .ref xaI, .ref xaH, .ref xaR, .ref xaU, .int xTf, .int xTb])), (xaH, .inl (k 4, 4, .inr (.inr (.inr (.inr (rl [y0, y1, y2, y3])))))), (y0, .inr (6, [.int y0Th, .int y0La, .int y0Sz, .ref y0rCe])), (y0rCe, .inl (k 0, 40, .inl y0Ce)), (y1, .inr (6, [.int y1Th, .int y1La, .int y1Sz, .ref y1rCe])), (y1rCe, .inl (k 0, 40, .inl y1Ce)), (y2, .inr (6, [.int y2Th, .int y2La, .int y2Sz, .ref y2rCe])), (y2rCe, .inl (k 0, 40, .inl y2Ce))]) (ws' := wX7 k xh xaL xaT xaO xaF xaS xaI xaH xaR xaU xTf xTb ++ (wHA k xaH y0 y1 y2 y3 ++ (wX6 k y0 y0rCe y0Th y0La y0Sz y0Ce ++ (wX6 k y1 y1rCe y1Th y1La y1Sz y1Ce ++ (wX6 k y2 y2rCe y2Th y2La y2Sz y2Ce ++ (wX6 k y3 y3rCe y3Th y3La y3Sz y3Ce)))))) [8, 9] [0, 1, 2, 3, 4, 5, 6, 7] [0, 1, 2, 3, 4, 5, 6, 7, 8, 9] rfl rfl (by decide) (by decide) (by decide) rfl (by decide) 6 rfl rfl [] rfl hl.1 rfl (Nat.le_of_ble_eq_true rfl) dX7_lay_16 ⟨by decide, by decide⟩ (fun H locs (hw : Wd D A s.heap H locs (wX7 k xh xaL xaT xaO xaF xaS xaI xaH xaR xaU xTf xTb ++ (wHA k xaH y0 y1 y2 y3 ++ (wX6 k y0 y0rCe y0Th y0La y0Sz y0Ce ++ (wX6 k y1 y1rCe y1Th y1La y1Sz y1Ce ++ (wX6 k y2 y2rCe y2Th y2La y2Sz y2Ce ++ (wX6 k y3 y3rCe y3Th y3La y3Sz y3Ce))))))) => ?_)
            refine W.eq (g2 := F0 m 19 ls ([.int r_17])) rfl ?_
            refine lv_istore (lv' := [(4, .int r_17), (0, .ref xh), (1, .int p1), (2, .int p2), (3, .int p3)]) hx hb dX7_lay_19 hl (by decide) rfl (fun ls hl => ?_)
            refine lv_iload hx hb dX7_lay_21 (lv_at hl 0 rfl) ?_
            refine kb_if_eq (tgt := 32) hx hb dX7_lay_23 (by decide) h (fun c_23 h => ?_) (fun c_23 h => ?_)
            · refine lv_aload_n hx hb dX7_lay_32 rfl (lv_at hl 1 rfl) ?_
              refine va_get (ci := 7) (v := .ref xaH) (C := RX7) (T := TX7) (N := 11) hx hb hts hinX7 hown hK.1 hw.1 0 rfl rfl 6 (by decide) q_1 (fun _ h9 => h9) rfl dX7_lay_33 ?_
              refine lv_iload_n hx hb dX7_lay_36 rfl (lv_at hl 2 rfl) ?_
              by_cases c_37 : p1 = 0
              · rw [if_pos c_37] at h
                refine k_aald hx hb hK hw 1 4 (j := 0) (a' := y0) rfl rfl c_37 (by unfold vp_in; decide) rfl dX7_lay_37 ?_
                refine lv_iload_n hx hb dX7_lay_38 rfl (lv_at hl 3 rfl) ?_
                refine lv_iload_n hx hb dX7_lay_39 rfl (lv_at hl 4 rfl) ?_
                obtain ⟨y0Ce_18, hf, h⟩ := b1_inv h
                refine k_callV (host := "") fx hK hA hw (c_X6_put l D k y0 y0rCe _ y0Th y0La y0Sz y0Ce p2 p3 y0Ce_18 hf) (cwV 2 hts gX7_lay_X6_put rfl rfl rfl (by decide +kernel) ⟨by decide, by decide⟩) (As := [.int p2, .int p3]) (wr := [(xh, .inr (7, [.ref xaL, .ref xaT, .ref xaO, .ref xaF, .ref xaS, .ref xaI, .ref xaH, .ref xaR, .ref xaU, .int xTf, .int xTb])), (xaH, .inl (k 4, 4, .inr (.inr (.inr (.inr (rl [y0, y1, y2, y3])))))), (y1, .inr (6, [.int y1Th, .int y1La, .int y1Sz, .ref y1rCe])), (y1rCe, .inl (k 0, 40, .inl y1Ce)), (y2, .inr (6, [.int y2Th, .int y2La, .int y2Sz, .ref y2rCe])), (y2rCe, .inl (k 0, 40, .inl y2Ce)), (y3, .inr (6, [.int y3Th, .int y3La, .int y3Sz, .ref y3rCe])), (y3rCe, .inl (k 0, 40, .inl y3Ce))]) (ws' := wX7 k xh xaL xaT xaO xaF xaS xaI xaH xaR xaU xTf xTb ++ (wHA k xaH y0 y1 y2 y3 ++ (wX6 k y0 y0rCe y0Th y0La y0Sz y0Ce_18 ++ (wX6 k y1 y1rCe y1Th y1La y1Sz y1Ce ++ (wX6 k y2 y2rCe y2Th y2La y2Sz y2Ce ++ (wX6 k y3 y3rCe y3Th y3La y3Sz y3Ce)))))) [2, 3] [0, 1, 4, 5, 6, 7, 8, 9] [0, 1, 8, 9, 2, 3, 4, 5, 6, 7] rfl rfl (by decide) (by decide) (by decide) rfl (by decide) 6 rfl rfl [] rfl hl.1 rfl (Nat.le_of_ble_eq_true rfl) dX7_lay_40 ⟨by decide, by decide⟩ (fun H locs (hw : Wd D A s.heap H locs (wX7 k xh xaL xaT xaO xaF xaS xaI xaH xaR xaU xTf xTb ++ (wHA k xaH y0 y1 y2 y3 ++ (wX6 k y0 y0rCe y0Th y0La y0Sz y0Ce_18 ++ (wX6 k y1 y1rCe y1Th y1La y1Sz y1Ce ++ (wX6 k y2 y2rCe y2Th y2La y2Sz y2Ce ++ (wX6 k y3 y3rCe y3Th y3La y3Sz y3Ce))))))) => ?_)
                refine W.eq (g2 := F0 m 43 ls ([])) rfl ?_
                refine lv_iconst (v := 1) hx hb dX7_lay_43 (by decide) ?_
                cases h
                exact k_iret hx hb hr hlocks hw rfl dX7_lay_44 hQ
              · rw [if_neg c_37] at h
                by_cases c_37 : p1 = 1
                · rw [if_pos c_37] at h
                  refine k_aald hx hb hK hw 1 4 (j := 1) (a' := y1) rfl rfl c_37 (by unfold vp_in; decide) rfl dX7_lay_37 ?_
                  refine lv_iload_n hx hb dX7_lay_38 rfl (lv_at hl 3 rfl) ?_
                  refine lv_iload_n hx hb dX7_lay_39 rfl (lv_at hl 4 rfl) ?_
                  obtain ⟨y1Ce_19, hf, h⟩ := b1_inv h
                  refine k_callV (host := "") fx hK hA hw (c_X6_put l D k y1 y1rCe _ y1Th y1La y1Sz y1Ce p2 p3 y1Ce_19 hf) (cwV 2 hts gX7_lay_X6_put rfl rfl rfl (by decide +kernel) ⟨by decide, by decide⟩) (As := [.int p2, .int p3]) (wr := [(xh, .inr (7, [.ref xaL, .ref xaT, .ref xaO, .ref xaF, .ref xaS, .ref xaI, .ref xaH, .ref xaR, .ref xaU, .int xTf, .int xTb])), (xaH, .inl (k 4, 4, .inr (.inr (.inr (.inr (rl [y0, y1, y2, y3])))))), (y0, .inr (6, [.int y0Th, .int y0La, .int y0Sz, .ref y0rCe])), (y0rCe, .inl (k 0, 40, .inl y0Ce)), (y2, .inr (6, [.int y2Th, .int y2La, .int y2Sz, .ref y2rCe])), (y2rCe, .inl (k 0, 40, .inl y2Ce)), (y3, .inr (6, [.int y3Th, .int y3La, .int y3Sz, .ref y3rCe])), (y3rCe, .inl (k 0, 40, .inl y3Ce))]) (ws' := wX7 k xh xaL xaT xaO xaF xaS xaI xaH xaR xaU xTf xTb ++ (wHA k xaH y0 y1 y2 y3 ++ (wX6 k y0 y0rCe y0Th y0La y0Sz y0Ce ++ (wX6 k y1 y1rCe y1Th y1La y1Sz y1Ce_19 ++ (wX6 k y2 y2rCe y2Th y2La y2Sz y2Ce ++ (wX6 k y3 y3rCe y3Th y3La y3Sz y3Ce)))))) [4, 5] [0, 1, 2, 3, 6, 7, 8, 9] [0, 1, 2, 3, 8, 9, 4, 5, 6, 7] rfl rfl (by decide) (by decide) (by decide) rfl (by decide) 6 rfl rfl [] rfl hl.1 rfl (Nat.le_of_ble_eq_true rfl) dX7_lay_40 ⟨by decide, by decide⟩ (fun H locs (hw : Wd D A s.heap H locs (wX7 k xh xaL xaT xaO xaF xaS xaI xaH xaR xaU xTf xTb ++ (wHA k xaH y0 y1 y2 y3 ++ (wX6 k y0 y0rCe y0Th y0La y0Sz y0Ce ++ (wX6 k y1 y1rCe y1Th y1La y1Sz y1Ce_19 ++ (wX6 k y2 y2rCe y2Th y2La y2Sz y2Ce ++ (wX6 k y3 y3rCe y3Th y3La y3Sz y3Ce))))))) => ?_)
                  refine W.eq (g2 := F0 m 43 ls ([])) rfl ?_
                  refine lv_iconst (v := 1) hx hb dX7_lay_43 (by decide) ?_
                  cases h
                  exact k_iret hx hb hr hlocks hw rfl dX7_lay_44 hQ
                · rw [if_neg c_37] at h
                  by_cases c_37 : p1 = 2
                  · rw [if_pos c_37] at h
                    refine k_aald hx hb hK hw 1 4 (j := 2) (a' := y2) rfl rfl c_37 (by unfold vp_in; decide) rfl dX7_lay_37 ?_
                    refine lv_iload_n hx hb dX7_lay_38 rfl (lv_at hl 3 rfl) ?_
                    refine lv_iload_n hx hb dX7_lay_39 rfl (lv_at hl 4 rfl) ?_
                    obtain ⟨y2Ce_20, hf, h⟩ := b1_inv h
                    refine k_callV (host := "") fx hK hA hw (c_X6_put l D k y2 y2rCe _ y2Th y2La y2Sz y2Ce p2 p3 y2Ce_20 hf) (cwV 2 hts gX7_lay_X6_put rfl rfl rfl (by decide +kernel) ⟨by decide, by decide⟩) (As := [.int p2, .int p3]) (wr := [(xh, .inr (7, [.ref xaL, .ref xaT, .ref xaO, .ref xaF, .ref xaS, .ref xaI, .ref xaH, .ref xaR, .ref xaU, .int xTf, .int xTb])), (xaH, .inl (k 4, 4, .inr (.inr (.inr (.inr (rl [y0, y1, y2, y3])))))), (y0, .inr (6, [.int y0Th, .int y0La, .int y0Sz, .ref y0rCe])), (y0rCe, .inl (k 0, 40, .inl y0Ce)), (y1, .inr (6, [.int y1Th, .int y1La, .int y1Sz, .ref y1rCe])), (y1rCe, .inl (k 0, 40, .inl y1Ce)), (y3, .inr (6, [.int y3Th, .int y3La, .int y3Sz, .ref y3rCe])), (y3rCe, .inl (k 0, 40, .inl y3Ce))]) (ws' := wX7 k xh xaL xaT xaO xaF xaS xaI xaH xaR xaU xTf xTb ++ (wHA k xaH y0 y1 y2 y3 ++ (wX6 k y0 y0rCe y0Th y0La y0Sz y0Ce ++ (wX6 k y1 y1rCe y1Th y1La y1Sz y1Ce ++ (wX6 k y2 y2rCe y2Th y2La y2Sz y2Ce_20 ++ (wX6 k y3 y3rCe y3Th y3La y3Sz y3Ce)))))) [6, 7] [0, 1, 2, 3, 4, 5, 8, 9] [0, 1, 2, 3, 4, 5, 8, 9, 6, 7] rfl rfl (by decide) (by decide) (by decide) rfl (by decide) 6 rfl rfl [] rfl hl.1 rfl (Nat.le_of_ble_eq_true rfl) dX7_lay_40 ⟨by decide, by decide⟩ (fun H locs (hw : Wd D A s.heap H locs (wX7 k xh xaL xaT xaO xaF xaS xaI xaH xaR xaU xTf xTb ++ (wHA k xaH y0 y1 y2 y3 ++ (wX6 k y0 y0rCe y0Th y0La y0Sz y0Ce ++ (wX6 k y1 y1rCe y1Th y1La y1Sz y1Ce ++ (wX6 k y2 y2rCe y2Th y2La y2Sz y2Ce_20 ++ (wX6 k y3 y3rCe y3Th y3La y3Sz y3Ce))))))) => ?_)
                    refine W.eq (g2 := F0 m 43 ls ([])) rfl ?_
                    refine lv_iconst (v := 1) hx hb dX7_lay_43 (by decide) ?_
                    cases h
                    exact k_iret hx hb hr hlocks hw rfl dX7_lay_44 hQ
                  · rw [if_neg c_37] at h
                    by_cases c_37 : p1 = 3
                    · rw [if_pos c_37] at h
                      refine k_aald hx hb hK hw 1 4 (j := 3) (a' := y3) rfl rfl c_37 (by unfold vp_in; decide) rfl dX7_lay_37 ?_
                      refine lv_iload_n hx hb dX7_lay_38 rfl (lv_at hl 3 rfl) ?_
                      refine lv_iload_n hx hb dX7_lay_39 rfl (lv_at hl 4 rfl) ?_
                      obtain ⟨y3Ce_21, hf, h⟩ := b1_inv h
                      refine k_callV (host := "") fx hK hA hw (c_X6_put l D k y3 y3rCe _ y3Th y3La y3Sz y3Ce p2 p3 y3Ce_21 hf) (cwV 2 hts gX7_lay_X6_put rfl rfl rfl (by decide +kernel) ⟨by decide, by decide⟩) (As := [.int p2, .int p3]) (wr := [(xh, .inr (7, [.ref xaL, .ref xaT, .ref xaO, .ref xaF, .ref xaS, .ref xaI, .ref xaH, .ref xaR, .ref xaU, .int xTf, .int xTb])), (xaH, .inl (k 4, 4, .inr (.inr (.inr (.inr (rl [y0, y1, y2, y3])))))), (y0, .inr (6, [.int y0Th, .int y0La, .int y0Sz, .ref y0rCe])), (y0rCe, .inl (k 0, 40, .inl y0Ce)), (y1, .inr (6, [.int y1Th, .int y1La, .int y1Sz, .ref y1rCe])), (y1rCe, .inl (k 0, 40, .inl y1Ce)), (y2, .inr (6, [.int y2Th, .int y2La, .int y2Sz, .ref y2rCe])), (y2rCe, .inl (k 0, 40, .inl y2Ce))]) (ws' := wX7 k xh xaL xaT xaO xaF xaS xaI xaH xaR xaU xTf xTb ++ (wHA k xaH y0 y1 y2 y3 ++ (wX6 k y0 y0rCe y0Th y0La y0Sz y0Ce ++ (wX6 k y1 y1rCe y1Th y1La y1Sz y1Ce ++ (wX6 k y2 y2rCe y2Th y2La y2Sz y2Ce ++ (wX6 k y3 y3rCe y3Th y3La y3Sz y3Ce_21)))))) [8, 9] [0, 1, 2, 3, 4, 5, 6, 7] [0, 1, 2, 3, 4, 5, 6, 7, 8, 9] rfl rfl (by decide) (by decide) (by decide) rfl (by decide) 6 rfl rfl [] rfl hl.1 rfl (Nat.le_of_ble_eq_true rfl) dX7_lay_40 ⟨by decide, by decide⟩ (fun H locs (hw : Wd D A s.heap H locs (wX7 k xh xaL xaT xaO xaF xaS xaI xaH xaR xaU xTf xTb ++ (wHA k xaH y0 y1 y2 y3 ++ (wX6 k y0 y0rCe y0Th y0La y0Sz y0Ce ++ (wX6 k y1 y1rCe y1Th y1La y1Sz y1Ce ++ (wX6 k y2 y2rCe y2Th y2La y2Sz y2Ce ++ (wX6 k y3 y3rCe y3Th y3La y3Sz y3Ce_21))))))) => ?_)
                      refine W.eq (g2 := F0 m 43 ls ([])) rfl ?_
                      refine lv_iconst (v := 1) hx hb dX7_lay_43 (by decide) ?_
                      cases h
                      exact k_iret hx hb hr hlocks hw rfl dX7_lay_44 hQ
                    · rw [if_neg c_37] at h
                      cases h
            · refine lv_bipush (v := (-10)) hx hb dX7_lay_26 (by decide) ?_
              refine lv_iload hx hb dX7_lay_28 (lv_at hl 0 rfl) ?_
              refine lv_isub hx hb dX7_lay_30 ?_
              have g0 := Option.some.inj h
              clear h
              obtain ⟨e0, g1⟩ := Prod.mk.inj g0
              obtain ⟨e1, g2⟩ := Prod.mk.inj g1
              obtain ⟨e2, g3⟩ := Prod.mk.inj g2
              obtain ⟨e3, g4⟩ := Prod.mk.inj g3
              subst e0; subst e1; subst e2; subst e3; subst g4
              exact k_iret hx hb hr hlocks hw rfl dX7_lay_31 hQ
          · rw [if_neg c_14] at h
            cases h
abbrev rmX7_least : Room := { frames := 2, cells := 0, slots := 0, locals := 44 }
set_option maxHeartbeats 4000000 in
set_option maxRecDepth 100000 in
theorem c_X7_least (l : Launch) (D : va_G) (k : Nat → ClassId) (xh xaL xaT xaO xaF xaS xaI xaH xaR xaU lrNa lrMo lrWa lrDe : Nat) (sz : Nat) (xTf : Int32) (xTb : Int32) (lPe : Int32) (lDa : Int32) (lDr : Int32) (lNa : (Nat → Int32)) (lMo : (Nat → Int32)) (lWa : (Nat → Int32)) (lDe : (Nat → Int32)) (r_ : Int32) (hf : f_X7_least lPe lDe = some r_) : mR l yX7_least wsX7_least rmX7_least D k sz [.ref xh] (wX7 k xh xaL xaT xaO xaF xaS xaI xaH xaR xaU xTf xTb ++ (wX1 k xaL lrNa lrMo lrWa lrDe lPe lDa lDr lNa lMo lWa lDe)) (wX7 k xh xaL xaT xaO xaF xaS xaI xaH xaR xaU xTf xTb ++ (wX1 k xaL lrNa lrMo lrWa lrDe lPe lDa lDr lNa lMo lWa lDe)) (some (.int r_)) := by
  refine mR_of (cc := cX7_least) (maxL := 3) (ret := some .int) (by decide) rfl (Nat.le_of_ble_eq_true rfl) [(0, .ref xh)] rfl ?_
  intro p e s m below meth c A ls args Q cx hK hA hw hl hQ
  have fx := cx.1
  obtain ⟨⟨hx, hb, hml, hown, hts⟩, hr, hlocks⟩ := cx
  have hinX7 : ∀ w ∈ wsX70, w ∈ wsX7_least := fun w h => List.mem_cons_of_mem _ (List.mem_append_left _ (List.mem_append_right _ h))
  have hinX1 : ∀ w ∈ wsX10, w ∈ wsX7_least := fun w h => List.mem_cons_of_mem _ (List.mem_append_right _ h)
  have q_1 := hts (.fieldLink RX7 10 "DebtRides" "land" "LDebtRides$Land;") (List.mem_of_getElem? (i := 1) rfl)
  have q_2 := hts (.fieldLink RX7 106 "DebtRides$Land" "people" "I") (List.mem_of_getElem? (i := 2) rfl)
  have q_3 := hts (.methodLink RX7 186 Lib.Math.max.name) (List.mem_of_getElem? (i := 3) rfl)
  have q_4 := hts (.static Lib.Math.max.name) (List.mem_of_getElem? (i := 4) rfl)
  have q_5 := hts (.initialized "java/lang/Math") (List.mem_of_getElem? (i := 5) rfl)
  have q_6 := hts (.code Lib.Math.max.name Lib.Math.max.code 2 (some .int)) (List.mem_of_getElem? (i := 6) rfl)
  have h := hf
  unfold f_X7_least at h
  clear hf
  refine lv_iconst (v := 0) hx hb dX7_least_0 (by decide) ?_
  refine lv_istore_n (lv' := [(1, .int 0), (0, .ref xh)]) hx hb dX7_least_1 rfl hl (by decide) rfl (fun ls hl => ?_)
  refine lv_iconst (v := 0) hx hb dX7_least_2 (by decide) ?_
  refine lv_istore_n (lv' := [(2, .int 0), (1, .int 0), (0, .ref xh)]) hx hb dX7_least_3 rfl hl (by decide) rfl (fun ls hl => ?_)
  obtain ⟨v1_3, hL_4, h⟩ := b1_inv h
  have X_4 : ∀ (H : Heap) (locs : List Loc) (ls : Array Slot), Wd D A s.heap H locs (wX7 k xh xaL xaT xaO xaF xaS xaI xaH xaR xaU xTf xTb ++ (wX1 k xaL lrNa lrMo lrWa lrDe lPe lDa lDr lNa lMo lWa lDe)) → lv_has ls 3 [(1, .int v1_3)] → W p l e rmX7_least s m args below meth c H locs 0 0 Q (F0 m 36 ls []) := by
    intro H locs ls hw hl
    refine lv_iload_n hx hb dX7_least_36 rfl (lv_at hl 0 rfl) ?_
    cases h
    exact k_iret hx hb hr hlocks hw rfl dX7_least_37 hQ
  clear h
  have LP_4 : ∀ (n : Nat) (v1_1 : Int32) (v2_2 : Int32), f_X7_least_L4 lPe lDe n v1_1 v2_2 = some v1_3 → ∀ (H : Heap) (locs : List Loc) (ls : Array Slot), Wd D A s.heap H locs (wX7 k xh xaL xaT xaO xaF xaS xaI xaH xaR xaU xTf xTb ++ (wX1 k xaL lrNa lrMo lrWa lrDe lPe lDa lDr lNa lMo lWa lDe)) → lv_has ls 3 [(0, .ref xh), (1, .int v1_1), (2, .int v2_2)] → W p l e rmX7_least s m args below meth c H locs 0 0 Q (F0 m 4 ls []) := by
    clear hL_4 hw hl
    intro n
    induction n with
    | zero => intro v1_1 v2_2 h; rw [f_X7_least_L4] at h; cases h
    | succ n ih =>
      intro v1_1 v2_2 h H locs ls hw hl
      rw [f_X7_least_L4] at h
      refine lv_iload_n hx hb dX7_least_4 rfl (lv_at hl 2 rfl) ?_
      refine lv_aload_n hx hb dX7_least_5 rfl (lv_at hl 0 rfl) ?_
      refine va_get (ci := 7) (v := .ref xaL) (C := RX7) (T := TX7) (N := 11) hx hb hts hinX7 hown hK.1 hw.1 0 rfl rfl 0 (by decide) q_1 (fun _ h9 => h9) rfl dX7_least_6 ?_
      refine va_get (ci := 1) (v := .int lPe) (C := RX1) (T := TX1) (N := 7) hx hb hts hinX1 hown hK.1 hw.1 1 rfl rfl 0 (by decide) q_2 (fun _ h9 => h9) rfl dX7_least_9 ?_
      refine kb_icmp_ge (tgt := 36) hx hb dX7_least_12 (by decide) h (fun c_12 h => ?_) (fun c_12 h => ?_)
      · cases h
        exact X_4 _ _ _ hw (lv_sub hl [1] rfl)
      · refine lv_iload_n hx hb dX7_least_15 rfl (lv_at hl 1 rfl) ?_
        refine lv_iconst (v := 0) hx hb dX7_least_16 (by decide) ?_
        refine lv_aload_n hx hb dX7_least_17 rfl (lv_at hl 0 rfl) ?_
        refine va_get (ci := 7) (v := .ref xaL) (C := RX7) (T := TX7) (N := 11) hx hb hts hinX7 hown hK.1 hw.1 0 rfl rfl 0 (by decide) q_1 (fun _ h9 => h9) rfl dX7_least_18 ?_
        refine lv_iload_n hx hb dX7_least_21 rfl (lv_at hl 2 rfl) ?_
        obtain ⟨r_4, hf, h⟩ := b1_inv h
        refine k_callV (host := "") fx hK hA hw (c_X1_netOf l D k xaL lrNa lrMo lrWa lrDe _ lPe lDa lDr lNa lMo lWa lDe v2_2 r_4 hf) (cwV 1 hts gX7_least_X1_netOf rfl rfl rfl (by decide +kernel) ⟨by decide, by decide⟩) (As := [.int v2_2]) (wr := [(xh, .inr (7, [.ref xaL, .ref xaT, .ref xaO, .ref xaF, .ref xaS, .ref xaI, .ref xaH, .ref xaR, .ref xaU, .int xTf, .int xTb]))]) (ws' := wX7 k xh xaL xaT xaO xaF xaS xaI xaH xaR xaU xTf xTb ++ (wX1 k xaL lrNa lrMo lrWa lrDe lPe lDa lDr lNa lMo lWa lDe)) [1, 2, 3, 4, 5] [0] [0, 1, 2, 3, 4, 5] rfl rfl (by decide) (by decide) (by decide) rfl (by decide) 1 rfl rfl [.int 0, .int v1_1] rfl hl.1 rfl (Nat.le_of_ble_eq_true rfl) dX7_least_22 ⟨by decide, by decide⟩ (fun H locs (hw : Wd D A s.heap H locs (wX7 k xh xaL xaT xaO xaF xaS xaI xaH xaR xaU xTf xTb ++ (wX1 k xaL lrNa lrMo lrWa lrDe lPe lDa lDr lNa lMo lWa lDe))) => ?_)
        refine W.eq (g2 := F0 m 25 ls ([.int r_4, .int 0, .int v1_1])) rfl ?_
        refine k_max fx hl.1 q_3 q_4 q_5 q_6 (by decide) (Nat.le_of_ble_eq_true rfl) ⟨by decide, by decide⟩ dX7_least_25 h (fun z_5 h => ?_)
        refine lv_iadd hx hb dX7_least_28 ?_
        refine lv_istore_n (lv' := [(1, .int (v1_1 + z_5)), (0, .ref xh), (2, .int v2_2)]) hx hb dX7_least_29 rfl hl (by decide) rfl (fun ls hl => ?_)
        refine lv_iinc (v := v2_2 + 1) (lv' := [(2, .int (v2_2 + 1)), (1, .int (v1_1 + z_5)), (0, .ref xh)]) hx hb dX7_least_30 hl (k := 2) rfl rfl (by decide) rfl (fun ls hl => ?_)
        refine lv_goto (tgt := 4) hx hb dX7_least_33 (by decide) ?_
        exact ih _ _ h _ _ _ hw (lv_sub hl [2, 1, 0] rfl)
  exact LP_4 400 0 0 hL_4 _ _ _ hw (lv_sub hl [2, 1, 0] rfl)
abbrev rmX7_lend : Room := { frames := 3, cells := 0, slots := 0, locals := 67 }
set_option maxHeartbeats 4000000 in
set_option maxRecDepth 100000 in
theorem c_X7_lend (l : Launch) (D : va_G) (k : Nat → ClassId) (xh xaL xaT xaO xaF xaS xaI xaH xaR xaU lrNa lrMo lrWa lrDe : Nat) (sz : Nat) (xTf : Int32) (xTb : Int32) (lPe : Int32) (lDa : Int32) (lDr : Int32) (lNa : (Nat → Int32)) (lMo : (Nat → Int32)) (lWa : (Nat → Int32)) (lDe : (Nat → Int32)) (p1 : Int32) (p2 : Int32) (p3 : Int32) (r_ : Int32) (n_lMo : (Nat → Int32)) (n_lDe : (Nat → Int32)) (hf : f_X7_lend lPe lMo lDe p1 p2 p3 = some (r_, n_lMo, n_lDe)) : mR l yX7_lend wsX7_lend rmX7_lend D k sz [.ref xh, .int p1, .int p2, .int p3] (wX7 k xh xaL xaT xaO xaF xaS xaI xaH xaR xaU xTf xTb ++ (wX1 k xaL lrNa lrMo lrWa lrDe lPe lDa lDr lNa lMo lWa lDe)) (wX7 k xh xaL xaT xaO xaF xaS xaI xaH xaR xaU xTf xTb ++ (wX1 k xaL lrNa lrMo lrWa lrDe lPe lDa lDr lNa n_lMo lWa n_lDe)) (some (.int r_)) := by
  refine mR_of (cc := cX7_lend) (maxL := 4) (ret := some .int) (by decide) rfl (Nat.le_of_ble_eq_true rfl) [(0, .ref xh), (1, .int p1), (2, .int p2), (3, .int p3)] rfl ?_
  intro p e s m below meth c A ls args Q cx hK hA hw hl hQ
  have fx := cx.1
  obtain ⟨⟨hx, hb, hml, hown, hts⟩, hr, hlocks⟩ := cx
  have hinX7 : ∀ w ∈ wsX70, w ∈ wsX7_lend := fun w h => List.mem_cons_of_mem _ (List.mem_append_left _ (List.mem_append_right _ h))
  have q_1 := hts (.fieldLink RX7 10 "DebtRides" "land" "LDebtRides$Land;") (List.mem_of_getElem? (i := 1) rfl)
  have h := hf
  unfold f_X7_lend at h
  clear hf
  refine lv_aload_n hx hb dX7_lend_0 rfl (lv_at hl 0 rfl) ?_
  refine va_get (ci := 7) (v := .ref xaL) (C := RX7) (T := TX7) (N := 11) hx hb hts hinX7 hown hK.1 hw.1 0 rfl rfl 0 (by decide) q_1 (fun _ h9 => h9) rfl dX7_lend_1 ?_
  refine lv_iload_n hx hb dX7_lend_4 rfl (lv_at hl 1 rfl) ?_
  refine lv_iload_n hx hb dX7_lend_5 rfl (lv_at hl 2 rfl) ?_
  refine lv_iload_n hx hb dX7_lend_6 rfl (lv_at hl 3 rfl) ?_
  obtain ⟨r_1, lMo_2, lDe_3, hf, h⟩ := b3_inv h
  refine k_callV (host := "") fx hK hA hw (c_X1_lendTo l D k xaL lrNa lrMo lrWa lrDe _ lPe lDa lDr lNa lMo lWa lDe p1 p2 p3 r_1 lMo_2 lDe_3 hf) (cwV 3 hts gX7_lend_X1_lendTo rfl rfl rfl (by decide +kernel) ⟨by decide, by decide⟩) (As := [.int p1, .int p2, .int p3]) (wr := [(xh, .inr (7, [.ref xaL, .ref xaT, .ref xaO, .ref xaF, .ref xaS, .ref xaI, .ref xaH, .ref xaR, .ref xaU, .int xTf, .int xTb]))]) (ws' := wX7 k xh xaL xaT xaO xaF xaS xaI xaH xaR xaU xTf xTb ++ (wX1 k xaL lrNa lrMo lrWa lrDe lPe lDa lDr lNa lMo_2 lWa lDe_3)) [1, 2, 3, 4, 5] [0] [0, 1, 2, 3, 4, 5] rfl rfl (by decide) (by decide) (by decide) rfl (by decide) 1 rfl rfl [] rfl hl.1 rfl (Nat.le_of_ble_eq_true rfl) dX7_lend_7 ⟨by decide, by decide⟩ (fun H locs (hw : Wd D A s.heap H locs (wX7 k xh xaL xaT xaO xaF xaS xaI xaH xaR xaU xTf xTb ++ (wX1 k xaL lrNa lrMo lrWa lrDe lPe lDa lDr lNa lMo_2 lWa lDe_3))) => ?_)
  refine W.eq (g2 := F0 m 10 ls ([.int r_1])) rfl ?_
  cases h
  exact k_iret hx hb hr hlocks hw rfl dX7_lend_10 hQ
abbrev rmX7_luck : Room := { frames := 13, cells := 0, slots := 0, locals := 358 }
set_option maxHeartbeats 4000000 in
set_option maxRecDepth 100000 in
theorem c_X7_luck (l : Launch) (D : va_G) (k : Nat → ClassId) (xh xaL xaT xaO xaF xaS xaI xaH xaR xaU lrNa lrMo lrWa lrDe oaA q0 q1 q2 q3 q4 q5 q6 q7 q8 u0rNa u0rMo u0rWa u0rDe u1rNa u1rMo u1rWa u1rDe u2rNa u2rMo u2rWa u2rDe u3rNa u3rMo u3rWa u3rDe u4rNa u4rMo u4rWa u4rDe u5rNa u5rMo u5rWa u5rDe u6rNa u6rMo u6rWa u6rDe u7rNa u7rMo u7rWa u7rDe u8rNa u8rMo u8rWa u8rDe : Nat) (sz : Nat) (xTf : Int32) (xTb : Int32) (lPe : Int32) (lDa : Int32) (lDr : Int32) (lNa : (Nat → Int32)) (lMo : (Nat → Int32)) (lWa : (Nat → Int32)) (lDe : (Nat → Int32)) (u0Pe : Int32) (u0Da : Int32) (u0Dr : Int32) (u0Na : (Nat → Int32)) (u0Mo : (Nat → Int32)) (u0Wa : (Nat → Int32)) (u0De : (Nat → Int32)) (u1Pe : Int32) (u1Da : Int32) (u1Dr : Int32) (u1Na : (Nat → Int32)) (u1Mo : (Nat → Int32)) (u1Wa : (Nat → Int32)) (u1De : (Nat → Int32)) (u2Pe : Int32) (u2Da : Int32) (u2Dr : Int32) (u2Na : (Nat → Int32)) (u2Mo : (Nat → Int32)) (u2Wa : (Nat → Int32)) (u2De : (Nat → Int32)) (u3Pe : Int32) (u3Da : Int32) (u3Dr : Int32) (u3Na : (Nat → Int32)) (u3Mo : (Nat → Int32)) (u3Wa : (Nat → Int32)) (u3De : (Nat → Int32)) (u4Pe : Int32) (u4Da : Int32) (u4Dr : Int32) (u4Na : (Nat → Int32)) (u4Mo : (Nat → Int32)) (u4Wa : (Nat → Int32)) (u4De : (Nat → Int32)) (u5Pe : Int32) (u5Da : Int32) (u5Dr : Int32) (u5Na : (Nat → Int32)) (u5Mo : (Nat → Int32)) (u5Wa : (Nat → Int32)) (u5De : (Nat → Int32)) (u6Pe : Int32) (u6Da : Int32) (u6Dr : Int32) (u6Na : (Nat → Int32)) (u6Mo : (Nat → Int32)) (u6Wa : (Nat → Int32)) (u6De : (Nat → Int32)) (u7Pe : Int32) (u7Da : Int32) (u7Dr : Int32) (u7Na : (Nat → Int32)) (u7Mo : (Nat → Int32)) (u7Wa : (Nat → Int32)) (u7De : (Nat → Int32)) (u8Pe : Int32) (u8Da : Int32) (u8Dr : Int32) (u8Na : (Nat → Int32)) (u8Mo : (Nat → Int32)) (u8Wa : (Nat → Int32)) (u8De : (Nat → Int32)) (p1 : Int32) (p2 : Int32) (p3 : Int32) (p4 : Int32) (r_ : Int64) (hf : f_X7_luck lPe lDa lDr lNa lMo lWa lDe p1 p2 p3 p4 = some r_) : mJ l yX7_luck wsX7_luck rmX7_luck D k sz [.ref xh, .int p1, .int p2, .int p3, .int p4] (wX7 k xh xaL xaT xaO xaF xaS xaI xaH xaR xaU xTf xTb ++ (wX1 k xaL lrNa lrMo lrWa lrDe lPe lDa lDr lNa lMo lWa lDe ++ (wX2 k xaO oaA ++ (wOA k oaA q0 q1 q2 q3 q4 q5 q6 q7 q8 ++ (wX1 k q0 u0rNa u0rMo u0rWa u0rDe u0Pe u0Da u0Dr u0Na u0Mo u0Wa u0De ++ (wX1 k q1 u1rNa u1rMo u1rWa u1rDe u1Pe u1Da u1Dr u1Na u1Mo u1Wa u1De ++ (wX1 k q2 u2rNa u2rMo u2rWa u2rDe u2Pe u2Da u2Dr u2Na u2Mo u2Wa u2De ++ (wX1 k q3 u3rNa u3rMo u3rWa u3rDe u3Pe u3Da u3Dr u3Na u3Mo u3Wa u3De ++ (wX1 k q4 u4rNa u4rMo u4rWa u4rDe u4Pe u4Da u4Dr u4Na u4Mo u4Wa u4De ++ (wX1 k q5 u5rNa u5rMo u5rWa u5rDe u5Pe u5Da u5Dr u5Na u5Mo u5Wa u5De ++ (wX1 k q6 u6rNa u6rMo u6rWa u6rDe u6Pe u6Da u6Dr u6Na u6Mo u6Wa u6De ++ (wX1 k q7 u7rNa u7rMo u7rWa u7rDe u7Pe u7Da u7Dr u7Na u7Mo u7Wa u7De ++ (wX1 k q8 u8rNa u8rMo u8rWa u8rDe u8Pe u8Da u8Dr u8Na u8Mo u8Wa u8De))))))))))))) (fun j => wX7 k xh xaL xaT xaO xaF xaS xaI xaH xaR xaU xTf xTb ++ (wX1 k xaL lrNa lrMo lrWa lrDe lPe lDa lDr lNa lMo lWa lDe ++ (wX2 k xaO oaA ++ (wOA k oaA q0 q1 q2 q3 q4 q5 q6 q7 q8 ++ (wX1 k q0 u0rNa u0rMo u0rWa u0rDe (j.1 0) (j.1 1) (j.1 2) (j.2 0) (j.2 1) (j.2 2) (j.2 3) ++ (wX1 k q1 u1rNa u1rMo u1rWa u1rDe (j.1 3) (j.1 4) (j.1 5) (j.2 4) (j.2 5) (j.2 6) (j.2 7) ++ (wX1 k q2 u2rNa u2rMo u2rWa u2rDe (j.1 6) (j.1 7) (j.1 8) (j.2 8) (j.2 9) (j.2 10) (j.2 11) ++ (wX1 k q3 u3rNa u3rMo u3rWa u3rDe (j.1 9) (j.1 10) (j.1 11) (j.2 12) (j.2 13) (j.2 14) (j.2 15) ++ (wX1 k q4 u4rNa u4rMo u4rWa u4rDe (j.1 12) (j.1 13) (j.1 14) (j.2 16) (j.2 17) (j.2 18) (j.2 19) ++ (wX1 k q5 u5rNa u5rMo u5rWa u5rDe (j.1 15) (j.1 16) (j.1 17) (j.2 20) (j.2 21) (j.2 22) (j.2 23) ++ (wX1 k q6 u6rNa u6rMo u6rWa u6rDe (j.1 18) (j.1 19) (j.1 20) (j.2 24) (j.2 25) (j.2 26) (j.2 27) ++ (wX1 k q7 u7rNa u7rMo u7rWa u7rDe (j.1 21) (j.1 22) (j.1 23) (j.2 28) (j.2 29) (j.2 30) (j.2 31) ++ (wX1 k q8 u8rNa u8rMo u8rWa u8rDe (j.1 24) (j.1 25) (j.1 26) (j.2 32) (j.2 33) (j.2 34) (j.2 35)))))))))))))) (some (.long r_)) := by
  refine mJ_of (cc := cX7_luck) (maxL := 5) (ret := some .long) (by decide) rfl (Nat.le_of_ble_eq_true rfl) [(0, .ref xh), (1, .int p1), (2, .int p2), (3, .int p3), (4, .int p4)] rfl ?_
  intro p e s m below meth c A ls args Q cx hK hA hw hl hQ
  have fx := cx.1
  obtain ⟨⟨hx, hb, hml, hown, hts⟩, hr, hlocks⟩ := cx
  have hinX7 : ∀ w ∈ wsX70, w ∈ wsX7_luck := fun w h => List.mem_cons_of_mem _ (List.mem_append_left _ (List.mem_append_left _ (List.mem_append_right _ h)))
  have q_1 := hts (.fieldLink RX7 10 "DebtRides" "land" "LDebtRides$Land;") (List.mem_of_getElem? (i := 1) rfl)
  have q_2 := hts (.constantLong RX7 223 (-1)) (List.mem_of_getElem? (i := 2) rfl)
  have q_3 := hts (.fieldLink RX7 22 "DebtRides" "odds" "LDebtRides$Odds;") (List.mem_of_getElem? (i := 3) rfl)
  have h := hf
  unfold f_X7_luck at h
  clear hf
  refine lv_aload_n hx hb dX7_luck_0 rfl (lv_at hl 0 rfl) ?_
  refine va_get (ci := 7) (v := .ref xaL) (C := RX7) (T := TX7) (N := 11) hx hb hts hinX7 hown hK.1 hw.1 0 rfl rfl 0 (by decide) q_1 (fun _ h9 => h9) rfl dX7_luck_1 ?_
  refine lv_iload_n hx hb dX7_luck_4 rfl (lv_at hl 2 rfl) ?_
  obtain ⟨r_1, hf, h⟩ := b1_inv h
  refine k_callV (host := "") fx hK hA hw (c_X1_has l D k xaL lrNa lrMo lrWa lrDe _ lPe lDa lDr lNa lMo lWa lDe p2 r_1 hf) (cwV 1 hts gX7_luck_X1_has rfl rfl rfl (by decide +kernel) ⟨by decide, by decide⟩) (As := [.int p2]) (wr := [(xh, .inr (7, [.ref xaL, .ref xaT, .ref xaO, .ref xaF, .ref xaS, .ref xaI, .ref xaH, .ref xaR, .ref xaU, .int xTf, .int xTb])), (xaO, .inr (2, [.ref oaA])), (oaA, .inl (k 3, 9, .inr (.inr (.inr (.inr (rl [q0, q1, q2, q3, q4, q5, q6, q7, q8])))))), (q0, .inr (1, [.int u0Pe, .int u0Da, .int u0Dr, .ref u0rNa, .ref u0rMo, .ref u0rWa, .ref u0rDe])), (u0rNa, .inl (k 0, 5, .inl u0Na)), (u0rMo, .inl (k 0, 5, .inl u0Mo)), (u0rWa, .inl (k 0, 5, .inl u0Wa)), (u0rDe, .inl (k 0, 25, .inl u0De)), (q1, .inr (1, [.int u1Pe, .int u1Da, .int u1Dr, .ref u1rNa, .ref u1rMo, .ref u1rWa, .ref u1rDe])), (u1rNa, .inl (k 0, 5, .inl u1Na)), (u1rMo, .inl (k 0, 5, .inl u1Mo)), (u1rWa, .inl (k 0, 5, .inl u1Wa)), (u1rDe, .inl (k 0, 25, .inl u1De)), (q2, .inr (1, [.int u2Pe, .int u2Da, .int u2Dr, .ref u2rNa, .ref u2rMo, .ref u2rWa, .ref u2rDe])), (u2rNa, .inl (k 0, 5, .inl u2Na)), (u2rMo, .inl (k 0, 5, .inl u2Mo)), (u2rWa, .inl (k 0, 5, .inl u2Wa)), (u2rDe, .inl (k 0, 25, .inl u2De)), (q3, .inr (1, [.int u3Pe, .int u3Da, .int u3Dr, .ref u3rNa, .ref u3rMo, .ref u3rWa, .ref u3rDe])), (u3rNa, .inl (k 0, 5, .inl u3Na)), (u3rMo, .inl (k 0, 5, .inl u3Mo)), (u3rWa, .inl (k 0, 5, .inl u3Wa)), (u3rDe, .inl (k 0, 25, .inl u3De)), (q4, .inr (1, [.int u4Pe, .int u4Da, .int u4Dr, .ref u4rNa, .ref u4rMo, .ref u4rWa, .ref u4rDe])), (u4rNa, .inl (k 0, 5, .inl u4Na)), (u4rMo, .inl (k 0, 5, .inl u4Mo)), (u4rWa, .inl (k 0, 5, .inl u4Wa)), (u4rDe, .inl (k 0, 25, .inl u4De)), (q5, .inr (1, [.int u5Pe, .int u5Da, .int u5Dr, .ref u5rNa, .ref u5rMo, .ref u5rWa, .ref u5rDe])), (u5rNa, .inl (k 0, 5, .inl u5Na)), (u5rMo, .inl (k 0, 5, .inl u5Mo)), (u5rWa, .inl (k 0, 5, .inl u5Wa)), (u5rDe, .inl (k 0, 25, .inl u5De)), (q6, .inr (1, [.int u6Pe, .int u6Da, .int u6Dr, .ref u6rNa, .ref u6rMo, .ref u6rWa, .ref u6rDe])), (u6rNa, .inl (k 0, 5, .inl u6Na)), (u6rMo, .inl (k 0, 5, .inl u6Mo)), (u6rWa, .inl (k 0, 5, .inl u6Wa)), (u6rDe, .inl (k 0, 25, .inl u6De)), (q7, .inr (1, [.int u7Pe, .int u7Da, .int u7Dr, .ref u7rNa, .ref u7rMo, .ref u7rWa, .ref u7rDe])), (u7rNa, .inl (k 0, 5, .inl u7Na)), (u7rMo, .inl (k 0, 5, .inl u7Mo)), (u7rWa, .inl (k 0, 5, .inl u7Wa)), (u7rDe, .inl (k 0, 25, .inl u7De)), (q8, .inr (1, [.int u8Pe, .int u8Da, .int u8Dr, .ref u8rNa, .ref u8rMo, .ref u8rWa, .ref u8rDe])), (u8rNa, .inl (k 0, 5, .inl u8Na)), (u8rMo, .inl (k 0, 5, .inl u8Mo)), (u8rWa, .inl (k 0, 5, .inl u8Wa)), (u8rDe, .inl (k 0, 25, .inl u8De))]) (ws' := wX7 k xh xaL xaT xaO xaF xaS xaI xaH xaR xaU xTf xTb ++ (wX1 k xaL lrNa lrMo lrWa lrDe lPe lDa lDr lNa lMo lWa lDe ++ (wX2 k xaO oaA ++ (wOA k oaA q0 q1 q2 q3 q4 q5 q6 q7 q8 ++ (wX1 k q0 u0rNa u0rMo u0rWa u0rDe u0Pe u0Da u0Dr u0Na u0Mo u0Wa u0De ++ (wX1 k q1 u1rNa u1rMo u1rWa u1rDe u1Pe u1Da u1Dr u1Na u1Mo u1Wa u1De ++ (wX1 k q2 u2rNa u2rMo u2rWa u2rDe u2Pe u2Da u2Dr u2Na u2Mo u2Wa u2De ++ (wX1 k q3 u3rNa u3rMo u3rWa u3rDe u3Pe u3Da u3Dr u3Na u3Mo u3Wa u3De ++ (wX1 k q4 u4rNa u4rMo u4rWa u4rDe u4Pe u4Da u4Dr u4Na u4Mo u4Wa u4De ++ (wX1 k q5 u5rNa u5rMo u5rWa u5rDe u5Pe u5Da u5Dr u5Na u5Mo u5Wa u5De ++ (wX1 k q6 u6rNa u6rMo u6rWa u6rDe u6Pe u6Da u6Dr u6Na u6Mo u6Wa u6De ++ (wX1 k q7 u7rNa u7rMo u7rWa u7rDe u7Pe u7Da u7Dr u7Na u7Mo u7Wa u7De ++ (wX1 k q8 u8rNa u8rMo u8rWa u8rDe u8Pe u8Da u8Dr u8Na u8Mo u8Wa u8De))))))))))))) [1, 2, 3, 4, 5] [0, 6, 7, 8, 9, 10, 11, 12, 13, 14, 15, 16, 17, 18, 19, 20, 21, 22, 23, 24, 25, 26, 27, 28, 29, 30, 31, 32, 33, 34, 35, 36, 37, 38, 39, 40, 41, 42, 43, 44, 45, 46, 47, 48, 49, 50, 51, 52] [0, 48, 49, 50, 51, 52, 1, 2, 3, 4, 5, 6, 7, 8, 9, 10, 11, 12, 13, 14, 15, 16, 17, 18, 19, 20, 21, 22, 23, 24, 25, 26, 27, 28, 29, 30, 31, 32, 33, 34, 35, 36, 37, 38, 39, 40, 41, 42, 43, 44, 45, 46, 47] rfl rfl (by decide) (by decide) (by decide) rfl (by decide) 1 rfl rfl [] rfl hl.1 rfl (Nat.le_of_ble_eq_true rfl) dX7_luck_5 ⟨by decide, by decide⟩ (fun H locs (hw : Wd D A s.heap H locs (wX7 k xh xaL xaT xaO xaF xaS xaI xaH xaR xaU xTf xTb ++ (wX1 k xaL lrNa lrMo lrWa lrDe lPe lDa lDr lNa lMo lWa lDe ++ (wX2 k xaO oaA ++ (wOA k oaA q0 q1 q2 q3 q4 q5 q6 q7 q8 ++ (wX1 k q0 u0rNa u0rMo u0rWa u0rDe u0Pe u0Da u0Dr u0Na u0Mo u0Wa u0De ++ (wX1 k q1 u1rNa u1rMo u1rWa u1rDe u1Pe u1Da u1Dr u1Na u1Mo u1Wa u1De ++ (wX1 k q2 u2rNa u2rMo u2rWa u2rDe u2Pe u2Da u2Dr u2Na u2Mo u2Wa u2De ++ (wX1 k q3 u3rNa u3rMo u3rWa u3rDe u3Pe u3Da u3Dr u3Na u3Mo u3Wa u3De ++ (wX1 k q4 u4rNa u4rMo u4rWa u4rDe u4Pe u4Da u4Dr u4Na u4Mo u4Wa u4De ++ (wX1 k q5 u5rNa u5rMo u5rWa u5rDe u5Pe u5Da u5Dr u5Na u5Mo u5Wa u5De ++ (wX1 k q6 u6rNa u6rMo u6rWa u6rDe u6Pe u6Da u6Dr u6Na u6Mo u6Wa u6De ++ (wX1 k q7 u7rNa u7rMo u7rWa u7rDe u7Pe u7Da u7Dr u7Na u7Mo u7Wa u7De ++ (wX1 k q8 u8rNa u8rMo u8rWa u8rDe u8Pe u8Da u8Dr u8Na u8Mo u8Wa u8De)))))))))))))) => ?_)
  refine W.eq (g2 := F0 m 8 ls ([.int r_1])) rfl ?_
  refine kb_if_eq (tgt := 21) hx hb dX7_luck_8 (by decide) h (fun c_8 h => ?_) (fun c_8 h => ?_)
  · refine lv_ldc2 (v := -1) hx hb hown q_2 dX7_luck_21 ?_
    cases h
    exact k_jlret (j := (fun i => List.getD [u0Pe, u0Da, u0Dr, u1Pe, u1Da, u1Dr, u2Pe, u2Da, u2Dr, u3Pe, u3Da, u3Dr, u4Pe, u4Da, u4Dr, u5Pe, u5Da, u5Dr, u6Pe, u6Da, u6Dr, u7Pe, u7Da, u7Dr, u8Pe, u8Da, u8Dr] i 0, fun i => List.getD [u0Na, u0Mo, u0Wa, u0De, u1Na, u1Mo, u1Wa, u1De, u2Na, u2Mo, u2Wa, u2De, u3Na, u3Mo, u3Wa, u3De, u4Na, u4Mo, u4Wa, u4De, u5Na, u5Mo, u5Wa, u5De, u6Na, u6Mo, u6Wa, u6De, u7Na, u7Mo, u7Wa, u7De, u8Na, u8Mo, u8Wa, u8De] i (fun _ => 0))) hx hb hr hlocks hw rfl dX7_luck_24 hQ
  · refine lv_iload_n hx hb dX7_luck_11 rfl (lv_at hl 1 rfl) ?_
    refine lv_iload_n hx hb dX7_luck_12 rfl (lv_at hl 3 rfl) ?_
    refine lv_iload hx hb dX7_luck_13 (lv_at hl 4 rfl) ?_
    obtain ⟨r_2, hf, h⟩ := b1_inv h
    refine k_callS (b := 0) (C := "") (host := "") fx hK hA hw (c_X7_areOdds l D k _ p1 p3 p4 r_2 hf) (va_cwS 3 hts gX7_luck_X7_areOdds rfl rfl rfl (by decide +kernel) ⟨by decide, by decide⟩) (As := [.int p1, .int p3, .int p4]) (wr := [(xh, .inr (7, [.ref xaL, .ref xaT, .ref xaO, .ref xaF, .ref xaS, .ref xaI, .ref xaH, .ref xaR, .ref xaU, .int xTf, .int xTb])), (xaL, .inr (1, [.int lPe, .int lDa, .int lDr, .ref lrNa, .ref lrMo, .ref lrWa, .ref lrDe])), (lrNa, .inl (k 0, 5, .inl lNa)), (lrMo, .inl (k 0, 5, .inl lMo)), (lrWa, .inl (k 0, 5, .inl lWa)), (lrDe, .inl (k 0, 25, .inl lDe)), (xaO, .inr (2, [.ref oaA])), (oaA, .inl (k 3, 9, .inr (.inr (.inr (.inr (rl [q0, q1, q2, q3, q4, q5, q6, q7, q8])))))), (q0, .inr (1, [.int u0Pe, .int u0Da, .int u0Dr, .ref u0rNa, .ref u0rMo, .ref u0rWa, .ref u0rDe])), (u0rNa, .inl (k 0, 5, .inl u0Na)), (u0rMo, .inl (k 0, 5, .inl u0Mo)), (u0rWa, .inl (k 0, 5, .inl u0Wa)), (u0rDe, .inl (k 0, 25, .inl u0De)), (q1, .inr (1, [.int u1Pe, .int u1Da, .int u1Dr, .ref u1rNa, .ref u1rMo, .ref u1rWa, .ref u1rDe])), (u1rNa, .inl (k 0, 5, .inl u1Na)), (u1rMo, .inl (k 0, 5, .inl u1Mo)), (u1rWa, .inl (k 0, 5, .inl u1Wa)), (u1rDe, .inl (k 0, 25, .inl u1De)), (q2, .inr (1, [.int u2Pe, .int u2Da, .int u2Dr, .ref u2rNa, .ref u2rMo, .ref u2rWa, .ref u2rDe])), (u2rNa, .inl (k 0, 5, .inl u2Na)), (u2rMo, .inl (k 0, 5, .inl u2Mo)), (u2rWa, .inl (k 0, 5, .inl u2Wa)), (u2rDe, .inl (k 0, 25, .inl u2De)), (q3, .inr (1, [.int u3Pe, .int u3Da, .int u3Dr, .ref u3rNa, .ref u3rMo, .ref u3rWa, .ref u3rDe])), (u3rNa, .inl (k 0, 5, .inl u3Na)), (u3rMo, .inl (k 0, 5, .inl u3Mo)), (u3rWa, .inl (k 0, 5, .inl u3Wa)), (u3rDe, .inl (k 0, 25, .inl u3De)), (q4, .inr (1, [.int u4Pe, .int u4Da, .int u4Dr, .ref u4rNa, .ref u4rMo, .ref u4rWa, .ref u4rDe])), (u4rNa, .inl (k 0, 5, .inl u4Na)), (u4rMo, .inl (k 0, 5, .inl u4Mo)), (u4rWa, .inl (k 0, 5, .inl u4Wa)), (u4rDe, .inl (k 0, 25, .inl u4De)), (q5, .inr (1, [.int u5Pe, .int u5Da, .int u5Dr, .ref u5rNa, .ref u5rMo, .ref u5rWa, .ref u5rDe])), (u5rNa, .inl (k 0, 5, .inl u5Na)), (u5rMo, .inl (k 0, 5, .inl u5Mo)), (u5rWa, .inl (k 0, 5, .inl u5Wa)), (u5rDe, .inl (k 0, 25, .inl u5De)), (q6, .inr (1, [.int u6Pe, .int u6Da, .int u6Dr, .ref u6rNa, .ref u6rMo, .ref u6rWa, .ref u6rDe])), (u6rNa, .inl (k 0, 5, .inl u6Na)), (u6rMo, .inl (k 0, 5, .inl u6Mo)), (u6rWa, .inl (k 0, 5, .inl u6Wa)), (u6rDe, .inl (k 0, 25, .inl u6De)), (q7, .inr (1, [.int u7Pe, .int u7Da, .int u7Dr, .ref u7rNa, .ref u7rMo, .ref u7rWa, .ref u7rDe])), (u7rNa, .inl (k 0, 5, .inl u7Na)), (u7rMo, .inl (k 0, 5, .inl u7Mo)), (u7rWa, .inl (k 0, 5, .inl u7Wa)), (u7rDe, .inl (k 0, 25, .inl u7De)), (q8, .inr (1, [.int u8Pe, .int u8Da, .int u8Dr, .ref u8rNa, .ref u8rMo, .ref u8rWa, .ref u8rDe])), (u8rNa, .inl (k 0, 5, .inl u8Na)), (u8rMo, .inl (k 0, 5, .inl u8Mo)), (u8rWa, .inl (k 0, 5, .inl u8Wa)), (u8rDe, .inl (k 0, 25, .inl u8De))]) (ws' := wX7 k xh xaL xaT xaO xaF xaS xaI xaH xaR xaU xTf xTb ++ (wX1 k xaL lrNa lrMo lrWa lrDe lPe lDa lDr lNa lMo lWa lDe ++ (wX2 k xaO oaA ++ (wOA k oaA q0 q1 q2 q3 q4 q5 q6 q7 q8 ++ (wX1 k q0 u0rNa u0rMo u0rWa u0rDe u0Pe u0Da u0Dr u0Na u0Mo u0Wa u0De ++ (wX1 k q1 u1rNa u1rMo u1rWa u1rDe u1Pe u1Da u1Dr u1Na u1Mo u1Wa u1De ++ (wX1 k q2 u2rNa u2rMo u2rWa u2rDe u2Pe u2Da u2Dr u2Na u2Mo u2Wa u2De ++ (wX1 k q3 u3rNa u3rMo u3rWa u3rDe u3Pe u3Da u3Dr u3Na u3Mo u3Wa u3De ++ (wX1 k q4 u4rNa u4rMo u4rWa u4rDe u4Pe u4Da u4Dr u4Na u4Mo u4Wa u4De ++ (wX1 k q5 u5rNa u5rMo u5rWa u5rDe u5Pe u5Da u5Dr u5Na u5Mo u5Wa u5De ++ (wX1 k q6 u6rNa u6rMo u6rWa u6rDe u6Pe u6Da u6Dr u6Na u6Mo u6Wa u6De ++ (wX1 k q7 u7rNa u7rMo u7rWa u7rDe u7Pe u7Da u7Dr u7Na u7Mo u7Wa u7De ++ (wX1 k q8 u8rNa u8rMo u8rWa u8rDe u8Pe u8Da u8Dr u8Na u8Mo u8Wa u8De))))))))))))) [] [0, 1, 2, 3, 4, 5, 6, 7, 8, 9, 10, 11, 12, 13, 14, 15, 16, 17, 18, 19, 20, 21, 22, 23, 24, 25, 26, 27, 28, 29, 30, 31, 32, 33, 34, 35, 36, 37, 38, 39, 40, 41, 42, 43, 44, 45, 46, 47, 48, 49, 50, 51, 52] [0, 1, 2, 3, 4, 5, 6, 7, 8, 9, 10, 11, 12, 13, 14, 15, 16, 17, 18, 19, 20, 21, 22, 23, 24, 25, 26, 27, 28, 29, 30, 31, 32, 33, 34, 35, 36, 37, 38, 39, 40, 41, 42, 43, 44, 45, 46, 47, 48, 49, 50, 51, 52] rfl rfl (by decide) (by decide) (by decide) rfl (by decide) [] rfl hl.1 rfl (Nat.le_of_ble_eq_true rfl) dX7_luck_15 ⟨by decide, by decide⟩ (fun H locs (hw : Wd D A s.heap H locs (wX7 k xh xaL xaT xaO xaF xaS xaI xaH xaR xaU xTf xTb ++ (wX1 k xaL lrNa lrMo lrWa lrDe lPe lDa lDr lNa lMo lWa lDe ++ (wX2 k xaO oaA ++ (wOA k oaA q0 q1 q2 q3 q4 q5 q6 q7 q8 ++ (wX1 k q0 u0rNa u0rMo u0rWa u0rDe u0Pe u0Da u0Dr u0Na u0Mo u0Wa u0De ++ (wX1 k q1 u1rNa u1rMo u1rWa u1rDe u1Pe u1Da u1Dr u1Na u1Mo u1Wa u1De ++ (wX1 k q2 u2rNa u2rMo u2rWa u2rDe u2Pe u2Da u2Dr u2Na u2Mo u2Wa u2De ++ (wX1 k q3 u3rNa u3rMo u3rWa u3rDe u3Pe u3Da u3Dr u3Na u3Mo u3Wa u3De ++ (wX1 k q4 u4rNa u4rMo u4rWa u4rDe u4Pe u4Da u4Dr u4Na u4Mo u4Wa u4De ++ (wX1 k q5 u5rNa u5rMo u5rWa u5rDe u5Pe u5Da u5Dr u5Na u5Mo u5Wa u5De ++ (wX1 k q6 u6rNa u6rMo u6rWa u6rDe u6Pe u6Da u6Dr u6Na u6Mo u6Wa u6De ++ (wX1 k q7 u7rNa u7rMo u7rWa u7rDe u7Pe u7Da u7Dr u7Na u7Mo u7Wa u7De ++ (wX1 k q8 u8rNa u8rMo u8rWa u8rDe u8Pe u8Da u8Dr u8Na u8Mo u8Wa u8De)))))))))))))) => ?_)
    refine W.eq (g2 := F0 m 18 ls ([.int r_2])) rfl ?_
    refine kb_if_ne (tgt := 25) hx hb dX7_luck_18 (by decide) h (fun c_18 h => ?_) (fun c_18 h => ?_)
    · refine lv_ldc2 (v := -1) hx hb hown q_2 dX7_luck_21 ?_
      cases h
      exact k_jlret (j := (fun i => List.getD [u0Pe, u0Da, u0Dr, u1Pe, u1Da, u1Dr, u2Pe, u2Da, u2Dr, u3Pe, u3Da, u3Dr, u4Pe, u4Da, u4Dr, u5Pe, u5Da, u5Dr, u6Pe, u6Da, u6Dr, u7Pe, u7Da, u7Dr, u8Pe, u8Da, u8Dr] i 0, fun i => List.getD [u0Na, u0Mo, u0Wa, u0De, u1Na, u1Mo, u1Wa, u1De, u2Na, u2Mo, u2Wa, u2De, u3Na, u3Mo, u3Wa, u3De, u4Na, u4Mo, u4Wa, u4De, u5Na, u5Mo, u5Wa, u5De, u6Na, u6Mo, u6Wa, u6De, u7Na, u7Mo, u7Wa, u7De, u8Na, u8Mo, u8Wa, u8De] i (fun _ => 0))) hx hb hr hlocks hw rfl dX7_luck_24 hQ
    · refine lv_aload_n hx hb dX7_luck_25 rfl (lv_at hl 0 rfl) ?_
      refine va_get (ci := 7) (v := .ref xaO) (C := RX7) (T := TX7) (N := 11) hx hb hts hinX7 hown hK.1 hw.1 0 rfl rfl 2 (by decide) q_3 (fun _ h9 => h9) rfl dX7_luck_26 ?_
      refine lv_aload_n hx hb dX7_luck_29 rfl (lv_at hl 0 rfl) ?_
      refine va_get (ci := 7) (v := .ref xaL) (C := RX7) (T := TX7) (N := 11) hx hb hts hinX7 hown hK.1 hw.1 0 rfl rfl 0 (by decide) q_1 (fun _ h9 => h9) rfl dX7_luck_30 ?_
      refine lv_iload_n hx hb dX7_luck_33 rfl (lv_at hl 1 rfl) ?_
      refine lv_iload_n hx hb dX7_luck_34 rfl (lv_at hl 2 rfl) ?_
      refine lv_iload_n hx hb dX7_luck_35 rfl (lv_at hl 3 rfl) ?_
      refine lv_iload hx hb dX7_luck_36 (lv_at hl 4 rfl) ?_
      obtain ⟨r_3, hf, h⟩ := b1_inv h
      refine k_callVJ fx hK hA hw (c_X2_fractionOf l D k xaO oaA q0 q1 q2 q3 q4 q5 q6 q7 q8 u0rNa u0rMo u0rWa u0rDe u1rNa u1rMo u1rWa u1rDe u2rNa u2rMo u2rWa u2rDe u3rNa u3rMo u3rWa u3rDe u4rNa u4rMo u4rWa u4rDe u5rNa u5rMo u5rWa u5rDe u6rNa u6rMo u6rWa u6rDe u7rNa u7rMo u7rWa u7rDe u8rNa u8rMo u8rWa u8rDe xaL lrNa lrMo lrWa lrDe _ u0Pe u0Da u0Dr u0Na u0Mo u0Wa u0De u1Pe u1Da u1Dr u1Na u1Mo u1Wa u1De u2Pe u2Da u2Dr u2Na u2Mo u2Wa u2De u3Pe u3Da u3Dr u3Na u3Mo u3Wa u3De u4Pe u4Da u4Dr u4Na u4Mo u4Wa u4De u5Pe u5Da u5Dr u5Na u5Mo u5Wa u5De u6Pe u6Da u6Dr u6Na u6Mo u6Wa u6De u7Pe u7Da u7Dr u7Na u7Mo u7Wa u7De u8Pe u8Da u8Dr u8Na u8Mo u8Wa u8De lPe lDa lDr lNa lMo lWa lDe p1 p2 p3 p4 r_3 hf) (cwV 5 hts gX7_luck_X2_fractionOf rfl rfl rfl (by decide +kernel) ⟨by decide, by decide⟩) (As := [.ref xaL, .int p1, .int p2, .int p3, .int p4]) (wr := [(xh, .inr (7, [.ref xaL, .ref xaT, .ref xaO, .ref xaF, .ref xaS, .ref xaI, .ref xaH, .ref xaR, .ref xaU, .int xTf, .int xTb]))]) (ws' := fun j_4 => wX7 k xh xaL xaT xaO xaF xaS xaI xaH xaR xaU xTf xTb ++ (wX1 k xaL lrNa lrMo lrWa lrDe lPe lDa lDr lNa lMo lWa lDe ++ (wX2 k xaO oaA ++ (wOA k oaA q0 q1 q2 q3 q4 q5 q6 q7 q8 ++ (wX1 k q0 u0rNa u0rMo u0rWa u0rDe (j_4.1 0) (j_4.1 1) (j_4.1 2) (j_4.2 0) (j_4.2 1) (j_4.2 2) (j_4.2 3) ++ (wX1 k q1 u1rNa u1rMo u1rWa u1rDe (j_4.1 3) (j_4.1 4) (j_4.1 5) (j_4.2 4) (j_4.2 5) (j_4.2 6) (j_4.2 7) ++ (wX1 k q2 u2rNa u2rMo u2rWa u2rDe (j_4.1 6) (j_4.1 7) (j_4.1 8) (j_4.2 8) (j_4.2 9) (j_4.2 10) (j_4.2 11) ++ (wX1 k q3 u3rNa u3rMo u3rWa u3rDe (j_4.1 9) (j_4.1 10) (j_4.1 11) (j_4.2 12) (j_4.2 13) (j_4.2 14) (j_4.2 15) ++ (wX1 k q4 u4rNa u4rMo u4rWa u4rDe (j_4.1 12) (j_4.1 13) (j_4.1 14) (j_4.2 16) (j_4.2 17) (j_4.2 18) (j_4.2 19) ++ (wX1 k q5 u5rNa u5rMo u5rWa u5rDe (j_4.1 15) (j_4.1 16) (j_4.1 17) (j_4.2 20) (j_4.2 21) (j_4.2 22) (j_4.2 23) ++ (wX1 k q6 u6rNa u6rMo u6rWa u6rDe (j_4.1 18) (j_4.1 19) (j_4.1 20) (j_4.2 24) (j_4.2 25) (j_4.2 26) (j_4.2 27) ++ (wX1 k q7 u7rNa u7rMo u7rWa u7rDe (j_4.1 21) (j_4.1 22) (j_4.1 23) (j_4.2 28) (j_4.2 29) (j_4.2 30) (j_4.2 31) ++ (wX1 k q8 u8rNa u8rMo u8rWa u8rDe (j_4.1 24) (j_4.1 25) (j_4.1 26) (j_4.2 32) (j_4.2 33) (j_4.2 34) (j_4.2 35)))))))))))))) [6, 7, 8, 9, 10, 11, 12, 13, 14, 15, 16, 17, 18, 19, 20, 21, 22, 23, 24, 25, 26, 27, 28, 29, 30, 31, 32, 33, 34, 35, 36, 37, 38, 39, 40, 41, 42, 43, 44, 45, 46, 47, 48, 49, 50, 51, 52, 1, 2, 3, 4, 5] [0] [0, 48, 49, 50, 51, 52, 1, 2, 3, 4, 5, 6, 7, 8, 9, 10, 11, 12, 13, 14, 15, 16, 17, 18, 19, 20, 21, 22, 23, 24, 25, 26, 27, 28, 29, 30, 31, 32, 33, 34, 35, 36, 37, 38, 39, 40, 41, 42, 43, 44, 45, 46, 47] rfl rfl (by decide) (by decide) (by decide) (fun _ => rfl) (by decide) 2 rfl rfl [] rfl hl.1 rfl (Nat.le_of_ble_eq_true rfl) dX7_luck_38 ⟨by decide, by decide⟩ (fun j_4 H locs (hw : Wd D A s.heap H locs (wX7 k xh xaL xaT xaO xaF xaS xaI xaH xaR xaU xTf xTb ++ (wX1 k xaL lrNa lrMo lrWa lrDe lPe lDa lDr lNa lMo lWa lDe ++ (wX2 k xaO oaA ++ (wOA k oaA q0 q1 q2 q3 q4 q5 q6 q7 q8 ++ (wX1 k q0 u0rNa u0rMo u0rWa u0rDe (j_4.1 0) (j_4.1 1) (j_4.1 2) (j_4.2 0) (j_4.2 1) (j_4.2 2) (j_4.2 3) ++ (wX1 k q1 u1rNa u1rMo u1rWa u1rDe (j_4.1 3) (j_4.1 4) (j_4.1 5) (j_4.2 4) (j_4.2 5) (j_4.2 6) (j_4.2 7) ++ (wX1 k q2 u2rNa u2rMo u2rWa u2rDe (j_4.1 6) (j_4.1 7) (j_4.1 8) (j_4.2 8) (j_4.2 9) (j_4.2 10) (j_4.2 11) ++ (wX1 k q3 u3rNa u3rMo u3rWa u3rDe (j_4.1 9) (j_4.1 10) (j_4.1 11) (j_4.2 12) (j_4.2 13) (j_4.2 14) (j_4.2 15) ++ (wX1 k q4 u4rNa u4rMo u4rWa u4rDe (j_4.1 12) (j_4.1 13) (j_4.1 14) (j_4.2 16) (j_4.2 17) (j_4.2 18) (j_4.2 19) ++ (wX1 k q5 u5rNa u5rMo u5rWa u5rDe (j_4.1 15) (j_4.1 16) (j_4.1 17) (j_4.2 20) (j_4.2 21) (j_4.2 22) (j_4.2 23) ++ (wX1 k q6 u6rNa u6rMo u6rWa u6rDe (j_4.1 18) (j_4.1 19) (j_4.1 20) (j_4.2 24) (j_4.2 25) (j_4.2 26) (j_4.2 27) ++ (wX1 k q7 u7rNa u7rMo u7rWa u7rDe (j_4.1 21) (j_4.1 22) (j_4.1 23) (j_4.2 28) (j_4.2 29) (j_4.2 30) (j_4.2 31) ++ (wX1 k q8 u8rNa u8rMo u8rWa u8rDe (j_4.1 24) (j_4.1 25) (j_4.1 26) (j_4.2 32) (j_4.2 33) (j_4.2 34) (j_4.2 35))))))))))))))) => ?_)
      refine W.eq (g2 := F0 m 41 ls ([.long r_3])) rfl ?_
      cases h
      exact k_jlret (j := (fun i => List.getD [j_4.1 0, j_4.1 1, j_4.1 2, j_4.1 3, j_4.1 4, j_4.1 5, j_4.1 6, j_4.1 7, j_4.1 8, j_4.1 9, j_4.1 10, j_4.1 11, j_4.1 12, j_4.1 13, j_4.1 14, j_4.1 15, j_4.1 16, j_4.1 17, j_4.1 18, j_4.1 19, j_4.1 20, j_4.1 21, j_4.1 22, j_4.1 23, j_4.1 24, j_4.1 25, j_4.1 26] i 0, fun i => List.getD [j_4.2 0, j_4.2 1, j_4.2 2, j_4.2 3, j_4.2 4, j_4.2 5, j_4.2 6, j_4.2 7, j_4.2 8, j_4.2 9, j_4.2 10, j_4.2 11, j_4.2 12, j_4.2 13, j_4.2 14, j_4.2 15, j_4.2 16, j_4.2 17, j_4.2 18, j_4.2 19, j_4.2 20, j_4.2 21, j_4.2 22, j_4.2 23, j_4.2 24, j_4.2 25, j_4.2 26, j_4.2 27, j_4.2 28, j_4.2 29, j_4.2 30, j_4.2 31, j_4.2 32, j_4.2 33, j_4.2 34, j_4.2 35] i (fun _ => 0))) hx hb hr hlocks hw rfl dX7_luck_41 hQ
abbrev rmX7_mean : Room := { frames := 13, cells := 0, slots := 0, locals := 358 }
set_option maxHeartbeats 4000000 in
set_option maxRecDepth 100000 in
theorem c_X7_mean (l : Launch) (D : va_G) (k : Nat → ClassId) (xh xaL xaT xaO xaF xaS xaI xaH xaR xaU lrNa lrMo lrWa lrDe oaA q0 q1 q2 q3 q4 q5 q6 q7 q8 u0rNa u0rMo u0rWa u0rDe u1rNa u1rMo u1rWa u1rDe u2rNa u2rMo u2rWa u2rDe u3rNa u3rMo u3rWa u3rDe u4rNa u4rMo u4rWa u4rDe u5rNa u5rMo u5rWa u5rDe u6rNa u6rMo u6rWa u6rDe u7rNa u7rMo u7rWa u7rDe u8rNa u8rMo u8rWa u8rDe : Nat) (sz : Nat) (xTf : Int32) (xTb : Int32) (lPe : Int32) (lDa : Int32) (lDr : Int32) (lNa : (Nat → Int32)) (lMo : (Nat → Int32)) (lWa : (Nat → Int32)) (lDe : (Nat → Int32)) (u0Pe : Int32) (u0Da : Int32) (u0Dr : Int32) (u0Na : (Nat → Int32)) (u0Mo : (Nat → Int32)) (u0Wa : (Nat → Int32)) (u0De : (Nat → Int32)) (u1Pe : Int32) (u1Da : Int32) (u1Dr : Int32) (u1Na : (Nat → Int32)) (u1Mo : (Nat → Int32)) (u1Wa : (Nat → Int32)) (u1De : (Nat → Int32)) (u2Pe : Int32) (u2Da : Int32) (u2Dr : Int32) (u2Na : (Nat → Int32)) (u2Mo : (Nat → Int32)) (u2Wa : (Nat → Int32)) (u2De : (Nat → Int32)) (u3Pe : Int32) (u3Da : Int32) (u3Dr : Int32) (u3Na : (Nat → Int32)) (u3Mo : (Nat → Int32)) (u3Wa : (Nat → Int32)) (u3De : (Nat → Int32)) (u4Pe : Int32) (u4Da : Int32) (u4Dr : Int32) (u4Na : (Nat → Int32)) (u4Mo : (Nat → Int32)) (u4Wa : (Nat → Int32)) (u4De : (Nat → Int32)) (u5Pe : Int32) (u5Da : Int32) (u5Dr : Int32) (u5Na : (Nat → Int32)) (u5Mo : (Nat → Int32)) (u5Wa : (Nat → Int32)) (u5De : (Nat → Int32)) (u6Pe : Int32) (u6Da : Int32) (u6Dr : Int32) (u6Na : (Nat → Int32)) (u6Mo : (Nat → Int32)) (u6Wa : (Nat → Int32)) (u6De : (Nat → Int32)) (u7Pe : Int32) (u7Da : Int32) (u7Dr : Int32) (u7Na : (Nat → Int32)) (u7Mo : (Nat → Int32)) (u7Wa : (Nat → Int32)) (u7De : (Nat → Int32)) (u8Pe : Int32) (u8Da : Int32) (u8Dr : Int32) (u8Na : (Nat → Int32)) (u8Mo : (Nat → Int32)) (u8Wa : (Nat → Int32)) (u8De : (Nat → Int32)) (p1 : Int32) (p2 : Int32) (p3 : Int32) (r_ : Int64) (hf : f_X7_mean lPe lDa lDr lNa lMo lWa lDe p1 p2 p3 = some r_) : mJ l yX7_mean wsX7_mean rmX7_mean D k sz [.ref xh, .int p1, .int p2, .int p3] (wX7 k xh xaL xaT xaO xaF xaS xaI xaH xaR xaU xTf xTb ++ (wX1 k xaL lrNa lrMo lrWa lrDe lPe lDa lDr lNa lMo lWa lDe ++ (wX2 k xaO oaA ++ (wOA k oaA q0 q1 q2 q3 q4 q5 q6 q7 q8 ++ (wX1 k q0 u0rNa u0rMo u0rWa u0rDe u0Pe u0Da u0Dr u0Na u0Mo u0Wa u0De ++ (wX1 k q1 u1rNa u1rMo u1rWa u1rDe u1Pe u1Da u1Dr u1Na u1Mo u1Wa u1De ++ (wX1 k q2 u2rNa u2rMo u2rWa u2rDe u2Pe u2Da u2Dr u2Na u2Mo u2Wa u2De ++ (wX1 k q3 u3rNa u3rMo u3rWa u3rDe u3Pe u3Da u3Dr u3Na u3Mo u3Wa u3De ++ (wX1 k q4 u4rNa u4rMo u4rWa u4rDe u4Pe u4Da u4Dr u4Na u4Mo u4Wa u4De ++ (wX1 k q5 u5rNa u5rMo u5rWa u5rDe u5Pe u5Da u5Dr u5Na u5Mo u5Wa u5De ++ (wX1 k q6 u6rNa u6rMo u6rWa u6rDe u6Pe u6Da u6Dr u6Na u6Mo u6Wa u6De ++ (wX1 k q7 u7rNa u7rMo u7rWa u7rDe u7Pe u7Da u7Dr u7Na u7Mo u7Wa u7De ++ (wX1 k q8 u8rNa u8rMo u8rWa u8rDe u8Pe u8Da u8Dr u8Na u8Mo u8Wa u8De))))))))))))) (fun j => wX7 k xh xaL xaT xaO xaF xaS xaI xaH xaR xaU xTf xTb ++ (wX1 k xaL lrNa lrMo lrWa lrDe lPe lDa lDr lNa lMo lWa lDe ++ (wX2 k xaO oaA ++ (wOA k oaA q0 q1 q2 q3 q4 q5 q6 q7 q8 ++ (wX1 k q0 u0rNa u0rMo u0rWa u0rDe (j.1 0) (j.1 1) (j.1 2) (j.2 0) (j.2 1) (j.2 2) (j.2 3) ++ (wX1 k q1 u1rNa u1rMo u1rWa u1rDe (j.1 3) (j.1 4) (j.1 5) (j.2 4) (j.2 5) (j.2 6) (j.2 7) ++ (wX1 k q2 u2rNa u2rMo u2rWa u2rDe (j.1 6) (j.1 7) (j.1 8) (j.2 8) (j.2 9) (j.2 10) (j.2 11) ++ (wX1 k q3 u3rNa u3rMo u3rWa u3rDe (j.1 9) (j.1 10) (j.1 11) (j.2 12) (j.2 13) (j.2 14) (j.2 15) ++ (wX1 k q4 u4rNa u4rMo u4rWa u4rDe (j.1 12) (j.1 13) (j.1 14) (j.2 16) (j.2 17) (j.2 18) (j.2 19) ++ (wX1 k q5 u5rNa u5rMo u5rWa u5rDe (j.1 15) (j.1 16) (j.1 17) (j.2 20) (j.2 21) (j.2 22) (j.2 23) ++ (wX1 k q6 u6rNa u6rMo u6rWa u6rDe (j.1 18) (j.1 19) (j.1 20) (j.2 24) (j.2 25) (j.2 26) (j.2 27) ++ (wX1 k q7 u7rNa u7rMo u7rWa u7rDe (j.1 21) (j.1 22) (j.1 23) (j.2 28) (j.2 29) (j.2 30) (j.2 31) ++ (wX1 k q8 u8rNa u8rMo u8rWa u8rDe (j.1 24) (j.1 25) (j.1 26) (j.2 32) (j.2 33) (j.2 34) (j.2 35)))))))))))))) (some (.long r_)) := by
  refine mJ_of (cc := cX7_mean) (maxL := 4) (ret := some .long) (by decide) rfl (Nat.le_of_ble_eq_true rfl) [(0, .ref xh), (1, .int p1), (2, .int p2), (3, .int p3)] rfl ?_
  intro p e s m below meth c A ls args Q cx hK hA hw hl hQ
  have fx := cx.1
  obtain ⟨⟨hx, hb, hml, hown, hts⟩, hr, hlocks⟩ := cx
  have hinX7 : ∀ w ∈ wsX70, w ∈ wsX7_mean := fun w h => List.mem_cons_of_mem _ (List.mem_append_left _ (List.mem_append_left _ (List.mem_append_right _ h)))
  have q_2 := hts (.fieldLink RX7 22 "DebtRides" "odds" "LDebtRides$Odds;") (List.mem_of_getElem? (i := 2) rfl)
  have q_3 := hts (.fieldLink RX7 10 "DebtRides" "land" "LDebtRides$Land;") (List.mem_of_getElem? (i := 3) rfl)
  have q_1 := hts (.constantLong RX7 223 (-1)) (List.mem_of_getElem? (i := 1) rfl)
  have h := hf
  unfold f_X7_mean at h
  clear hf
  refine lv_iload_n hx hb dX7_mean_0 rfl (lv_at hl 1 rfl) ?_
  refine lv_iload_n hx hb dX7_mean_1 rfl (lv_at hl 2 rfl) ?_
  refine lv_iload_n hx hb dX7_mean_2 rfl (lv_at hl 3 rfl) ?_
  obtain ⟨r_1, hf, h⟩ := b1_inv h
  refine k_callS (b := 0) (C := "") (host := "") fx hK hA hw (c_X7_areOdds l D k _ p1 p2 p3 r_1 hf) (va_cwS 3 hts gX7_mean_X7_areOdds rfl rfl rfl (by decide +kernel) ⟨by decide, by decide⟩) (As := [.int p1, .int p2, .int p3]) (wr := [(xh, .inr (7, [.ref xaL, .ref xaT, .ref xaO, .ref xaF, .ref xaS, .ref xaI, .ref xaH, .ref xaR, .ref xaU, .int xTf, .int xTb])), (xaL, .inr (1, [.int lPe, .int lDa, .int lDr, .ref lrNa, .ref lrMo, .ref lrWa, .ref lrDe])), (lrNa, .inl (k 0, 5, .inl lNa)), (lrMo, .inl (k 0, 5, .inl lMo)), (lrWa, .inl (k 0, 5, .inl lWa)), (lrDe, .inl (k 0, 25, .inl lDe)), (xaO, .inr (2, [.ref oaA])), (oaA, .inl (k 3, 9, .inr (.inr (.inr (.inr (rl [q0, q1, q2, q3, q4, q5, q6, q7, q8])))))), (q0, .inr (1, [.int u0Pe, .int u0Da, .int u0Dr, .ref u0rNa, .ref u0rMo, .ref u0rWa, .ref u0rDe])), (u0rNa, .inl (k 0, 5, .inl u0Na)), (u0rMo, .inl (k 0, 5, .inl u0Mo)), (u0rWa, .inl (k 0, 5, .inl u0Wa)), (u0rDe, .inl (k 0, 25, .inl u0De)), (q1, .inr (1, [.int u1Pe, .int u1Da, .int u1Dr, .ref u1rNa, .ref u1rMo, .ref u1rWa, .ref u1rDe])), (u1rNa, .inl (k 0, 5, .inl u1Na)), (u1rMo, .inl (k 0, 5, .inl u1Mo)), (u1rWa, .inl (k 0, 5, .inl u1Wa)), (u1rDe, .inl (k 0, 25, .inl u1De)), (q2, .inr (1, [.int u2Pe, .int u2Da, .int u2Dr, .ref u2rNa, .ref u2rMo, .ref u2rWa, .ref u2rDe])), (u2rNa, .inl (k 0, 5, .inl u2Na)), (u2rMo, .inl (k 0, 5, .inl u2Mo)), (u2rWa, .inl (k 0, 5, .inl u2Wa)), (u2rDe, .inl (k 0, 25, .inl u2De)), (q3, .inr (1, [.int u3Pe, .int u3Da, .int u3Dr, .ref u3rNa, .ref u3rMo, .ref u3rWa, .ref u3rDe])), (u3rNa, .inl (k 0, 5, .inl u3Na)), (u3rMo, .inl (k 0, 5, .inl u3Mo)), (u3rWa, .inl (k 0, 5, .inl u3Wa)), (u3rDe, .inl (k 0, 25, .inl u3De)), (q4, .inr (1, [.int u4Pe, .int u4Da, .int u4Dr, .ref u4rNa, .ref u4rMo, .ref u4rWa, .ref u4rDe])), (u4rNa, .inl (k 0, 5, .inl u4Na)), (u4rMo, .inl (k 0, 5, .inl u4Mo)), (u4rWa, .inl (k 0, 5, .inl u4Wa)), (u4rDe, .inl (k 0, 25, .inl u4De)), (q5, .inr (1, [.int u5Pe, .int u5Da, .int u5Dr, .ref u5rNa, .ref u5rMo, .ref u5rWa, .ref u5rDe])), (u5rNa, .inl (k 0, 5, .inl u5Na)), (u5rMo, .inl (k 0, 5, .inl u5Mo)), (u5rWa, .inl (k 0, 5, .inl u5Wa)), (u5rDe, .inl (k 0, 25, .inl u5De)), (q6, .inr (1, [.int u6Pe, .int u6Da, .int u6Dr, .ref u6rNa, .ref u6rMo, .ref u6rWa, .ref u6rDe])), (u6rNa, .inl (k 0, 5, .inl u6Na)), (u6rMo, .inl (k 0, 5, .inl u6Mo)), (u6rWa, .inl (k 0, 5, .inl u6Wa)), (u6rDe, .inl (k 0, 25, .inl u6De)), (q7, .inr (1, [.int u7Pe, .int u7Da, .int u7Dr, .ref u7rNa, .ref u7rMo, .ref u7rWa, .ref u7rDe])), (u7rNa, .inl (k 0, 5, .inl u7Na)), (u7rMo, .inl (k 0, 5, .inl u7Mo)), (u7rWa, .inl (k 0, 5, .inl u7Wa)), (u7rDe, .inl (k 0, 25, .inl u7De)), (q8, .inr (1, [.int u8Pe, .int u8Da, .int u8Dr, .ref u8rNa, .ref u8rMo, .ref u8rWa, .ref u8rDe])), (u8rNa, .inl (k 0, 5, .inl u8Na)), (u8rMo, .inl (k 0, 5, .inl u8Mo)), (u8rWa, .inl (k 0, 5, .inl u8Wa)), (u8rDe, .inl (k 0, 25, .inl u8De))]) (ws' := wX7 k xh xaL xaT xaO xaF xaS xaI xaH xaR xaU xTf xTb ++ (wX1 k xaL lrNa lrMo lrWa lrDe lPe lDa lDr lNa lMo lWa lDe ++ (wX2 k xaO oaA ++ (wOA k oaA q0 q1 q2 q3 q4 q5 q6 q7 q8 ++ (wX1 k q0 u0rNa u0rMo u0rWa u0rDe u0Pe u0Da u0Dr u0Na u0Mo u0Wa u0De ++ (wX1 k q1 u1rNa u1rMo u1rWa u1rDe u1Pe u1Da u1Dr u1Na u1Mo u1Wa u1De ++ (wX1 k q2 u2rNa u2rMo u2rWa u2rDe u2Pe u2Da u2Dr u2Na u2Mo u2Wa u2De ++ (wX1 k q3 u3rNa u3rMo u3rWa u3rDe u3Pe u3Da u3Dr u3Na u3Mo u3Wa u3De ++ (wX1 k q4 u4rNa u4rMo u4rWa u4rDe u4Pe u4Da u4Dr u4Na u4Mo u4Wa u4De ++ (wX1 k q5 u5rNa u5rMo u5rWa u5rDe u5Pe u5Da u5Dr u5Na u5Mo u5Wa u5De ++ (wX1 k q6 u6rNa u6rMo u6rWa u6rDe u6Pe u6Da u6Dr u6Na u6Mo u6Wa u6De ++ (wX1 k q7 u7rNa u7rMo u7rWa u7rDe u7Pe u7Da u7Dr u7Na u7Mo u7Wa u7De ++ (wX1 k q8 u8rNa u8rMo u8rWa u8rDe u8Pe u8Da u8Dr u8Na u8Mo u8Wa u8De))))))))))))) [] [0, 1, 2, 3, 4, 5, 6, 7, 8, 9, 10, 11, 12, 13, 14, 15, 16, 17, 18, 19, 20, 21, 22, 23, 24, 25, 26, 27, 28, 29, 30, 31, 32, 33, 34, 35, 36, 37, 38, 39, 40, 41, 42, 43, 44, 45, 46, 47, 48, 49, 50, 51, 52] [0, 1, 2, 3, 4, 5, 6, 7, 8, 9, 10, 11, 12, 13, 14, 15, 16, 17, 18, 19, 20, 21, 22, 23, 24, 25, 26, 27, 28, 29, 30, 31, 32, 33, 34, 35, 36, 37, 38, 39, 40, 41, 42, 43, 44, 45, 46, 47, 48, 49, 50, 51, 52] rfl rfl (by decide) (by decide) (by decide) rfl (by decide) [] rfl hl.1 rfl (Nat.le_of_ble_eq_true rfl) dX7_mean_3 ⟨by decide, by decide⟩ (fun H locs (hw : Wd D A s.heap H locs (wX7 k xh xaL xaT xaO xaF xaS xaI xaH xaR xaU xTf xTb ++ (wX1 k xaL lrNa lrMo lrWa lrDe lPe lDa lDr lNa lMo lWa lDe ++ (wX2 k xaO oaA ++ (wOA k oaA q0 q1 q2 q3 q4 q5 q6 q7 q8 ++ (wX1 k q0 u0rNa u0rMo u0rWa u0rDe u0Pe u0Da u0Dr u0Na u0Mo u0Wa u0De ++ (wX1 k q1 u1rNa u1rMo u1rWa u1rDe u1Pe u1Da u1Dr u1Na u1Mo u1Wa u1De ++ (wX1 k q2 u2rNa u2rMo u2rWa u2rDe u2Pe u2Da u2Dr u2Na u2Mo u2Wa u2De ++ (wX1 k q3 u3rNa u3rMo u3rWa u3rDe u3Pe u3Da u3Dr u3Na u3Mo u3Wa u3De ++ (wX1 k q4 u4rNa u4rMo u4rWa u4rDe u4Pe u4Da u4Dr u4Na u4Mo u4Wa u4De ++ (wX1 k q5 u5rNa u5rMo u5rWa u5rDe u5Pe u5Da u5Dr u5Na u5Mo u5Wa u5De ++ (wX1 k q6 u6rNa u6rMo u6rWa u6rDe u6Pe u6Da u6Dr u6Na u6Mo u6Wa u6De ++ (wX1 k q7 u7rNa u7rMo u7rWa u7rDe u7Pe u7Da u7Dr u7Na u7Mo u7Wa u7De ++ (wX1 k q8 u8rNa u8rMo u8rWa u8rDe u8Pe u8Da u8Dr u8Na u8Mo u8Wa u8De)))))))))))))) => ?_)
  refine W.eq (g2 := F0 m 6 ls ([.int r_1])) rfl ?_
  refine kb_if_ne (tgt := 13) hx hb dX7_mean_6 (by decide) h (fun c_6 h => ?_) (fun c_6 h => ?_)
  · refine lv_ldc2 (v := -1) hx hb hown q_1 dX7_mean_9 ?_
    cases h
    exact k_jlret (j := (fun i => List.getD [u0Pe, u0Da, u0Dr, u1Pe, u1Da, u1Dr, u2Pe, u2Da, u2Dr, u3Pe, u3Da, u3Dr, u4Pe, u4Da, u4Dr, u5Pe, u5Da, u5Dr, u6Pe, u6Da, u6Dr, u7Pe, u7Da, u7Dr, u8Pe, u8Da, u8Dr] i 0, fun i => List.getD [u0Na, u0Mo, u0Wa, u0De, u1Na, u1Mo, u1Wa, u1De, u2Na, u2Mo, u2Wa, u2De, u3Na, u3Mo, u3Wa, u3De, u4Na, u4Mo, u4Wa, u4De, u5Na, u5Mo, u5Wa, u5De, u6Na, u6Mo, u6Wa, u6De, u7Na, u7Mo, u7Wa, u7De, u8Na, u8Mo, u8Wa, u8De] i (fun _ => 0))) hx hb hr hlocks hw rfl dX7_mean_12 hQ
  · refine lv_aload_n hx hb dX7_mean_13 rfl (lv_at hl 0 rfl) ?_
    refine va_get (ci := 7) (v := .ref xaO) (C := RX7) (T := TX7) (N := 11) hx hb hts hinX7 hown hK.1 hw.1 0 rfl rfl 2 (by decide) q_2 (fun _ h9 => h9) rfl dX7_mean_14 ?_
    refine lv_aload_n hx hb dX7_mean_17 rfl (lv_at hl 0 rfl) ?_
    refine va_get (ci := 7) (v := .ref xaL) (C := RX7) (T := TX7) (N := 11) hx hb hts hinX7 hown hK.1 hw.1 0 rfl rfl 0 (by decide) q_3 (fun _ h9 => h9) rfl dX7_mean_18 ?_
    refine lv_iload_n hx hb dX7_mean_21 rfl (lv_at hl 1 rfl) ?_
    refine lv_iconst (v := (-1)) hx hb dX7_mean_22 (by decide) ?_
    refine lv_iload_n hx hb dX7_mean_23 rfl (lv_at hl 2 rfl) ?_
    refine lv_iload_n hx hb dX7_mean_24 rfl (lv_at hl 3 rfl) ?_
    obtain ⟨r_2, hf, h⟩ := b1_inv h
    refine k_callVJ fx hK hA hw (c_X2_fractionOf l D k xaO oaA q0 q1 q2 q3 q4 q5 q6 q7 q8 u0rNa u0rMo u0rWa u0rDe u1rNa u1rMo u1rWa u1rDe u2rNa u2rMo u2rWa u2rDe u3rNa u3rMo u3rWa u3rDe u4rNa u4rMo u4rWa u4rDe u5rNa u5rMo u5rWa u5rDe u6rNa u6rMo u6rWa u6rDe u7rNa u7rMo u7rWa u7rDe u8rNa u8rMo u8rWa u8rDe xaL lrNa lrMo lrWa lrDe _ u0Pe u0Da u0Dr u0Na u0Mo u0Wa u0De u1Pe u1Da u1Dr u1Na u1Mo u1Wa u1De u2Pe u2Da u2Dr u2Na u2Mo u2Wa u2De u3Pe u3Da u3Dr u3Na u3Mo u3Wa u3De u4Pe u4Da u4Dr u4Na u4Mo u4Wa u4De u5Pe u5Da u5Dr u5Na u5Mo u5Wa u5De u6Pe u6Da u6Dr u6Na u6Mo u6Wa u6De u7Pe u7Da u7Dr u7Na u7Mo u7Wa u7De u8Pe u8Da u8Dr u8Na u8Mo u8Wa u8De lPe lDa lDr lNa lMo lWa lDe p1 (-1) p2 p3 r_2 hf) (cwV 5 hts gX7_mean_X2_fractionOf rfl rfl rfl (by decide +kernel) ⟨by decide, by decide⟩) (As := [.ref xaL, .int p1, .int (-1), .int p2, .int p3]) (wr := [(xh, .inr (7, [.ref xaL, .ref xaT, .ref xaO, .ref xaF, .ref xaS, .ref xaI, .ref xaH, .ref xaR, .ref xaU, .int xTf, .int xTb]))]) (ws' := fun j_3 => wX7 k xh xaL xaT xaO xaF xaS xaI xaH xaR xaU xTf xTb ++ (wX1 k xaL lrNa lrMo lrWa lrDe lPe lDa lDr lNa lMo lWa lDe ++ (wX2 k xaO oaA ++ (wOA k oaA q0 q1 q2 q3 q4 q5 q6 q7 q8 ++ (wX1 k q0 u0rNa u0rMo u0rWa u0rDe (j_3.1 0) (j_3.1 1) (j_3.1 2) (j_3.2 0) (j_3.2 1) (j_3.2 2) (j_3.2 3) ++ (wX1 k q1 u1rNa u1rMo u1rWa u1rDe (j_3.1 3) (j_3.1 4) (j_3.1 5) (j_3.2 4) (j_3.2 5) (j_3.2 6) (j_3.2 7) ++ (wX1 k q2 u2rNa u2rMo u2rWa u2rDe (j_3.1 6) (j_3.1 7) (j_3.1 8) (j_3.2 8) (j_3.2 9) (j_3.2 10) (j_3.2 11) ++ (wX1 k q3 u3rNa u3rMo u3rWa u3rDe (j_3.1 9) (j_3.1 10) (j_3.1 11) (j_3.2 12) (j_3.2 13) (j_3.2 14) (j_3.2 15) ++ (wX1 k q4 u4rNa u4rMo u4rWa u4rDe (j_3.1 12) (j_3.1 13) (j_3.1 14) (j_3.2 16) (j_3.2 17) (j_3.2 18) (j_3.2 19) ++ (wX1 k q5 u5rNa u5rMo u5rWa u5rDe (j_3.1 15) (j_3.1 16) (j_3.1 17) (j_3.2 20) (j_3.2 21) (j_3.2 22) (j_3.2 23) ++ (wX1 k q6 u6rNa u6rMo u6rWa u6rDe (j_3.1 18) (j_3.1 19) (j_3.1 20) (j_3.2 24) (j_3.2 25) (j_3.2 26) (j_3.2 27) ++ (wX1 k q7 u7rNa u7rMo u7rWa u7rDe (j_3.1 21) (j_3.1 22) (j_3.1 23) (j_3.2 28) (j_3.2 29) (j_3.2 30) (j_3.2 31) ++ (wX1 k q8 u8rNa u8rMo u8rWa u8rDe (j_3.1 24) (j_3.1 25) (j_3.1 26) (j_3.2 32) (j_3.2 33) (j_3.2 34) (j_3.2 35)))))))))))))) [6, 7, 8, 9, 10, 11, 12, 13, 14, 15, 16, 17, 18, 19, 20, 21, 22, 23, 24, 25, 26, 27, 28, 29, 30, 31, 32, 33, 34, 35, 36, 37, 38, 39, 40, 41, 42, 43, 44, 45, 46, 47, 48, 49, 50, 51, 52, 1, 2, 3, 4, 5] [0] [0, 48, 49, 50, 51, 52, 1, 2, 3, 4, 5, 6, 7, 8, 9, 10, 11, 12, 13, 14, 15, 16, 17, 18, 19, 20, 21, 22, 23, 24, 25, 26, 27, 28, 29, 30, 31, 32, 33, 34, 35, 36, 37, 38, 39, 40, 41, 42, 43, 44, 45, 46, 47] rfl rfl (by decide) (by decide) (by decide) (fun _ => rfl) (by decide) 2 rfl rfl [] rfl hl.1 rfl (Nat.le_of_ble_eq_true rfl) dX7_mean_25 ⟨by decide, by decide⟩ (fun j_3 H locs (hw : Wd D A s.heap H locs (wX7 k xh xaL xaT xaO xaF xaS xaI xaH xaR xaU xTf xTb ++ (wX1 k xaL lrNa lrMo lrWa lrDe lPe lDa lDr lNa lMo lWa lDe ++ (wX2 k xaO oaA ++ (wOA k oaA q0 q1 q2 q3 q4 q5 q6 q7 q8 ++ (wX1 k q0 u0rNa u0rMo u0rWa u0rDe (j_3.1 0) (j_3.1 1) (j_3.1 2) (j_3.2 0) (j_3.2 1) (j_3.2 2) (j_3.2 3) ++ (wX1 k q1 u1rNa u1rMo u1rWa u1rDe (j_3.1 3) (j_3.1 4) (j_3.1 5) (j_3.2 4) (j_3.2 5) (j_3.2 6) (j_3.2 7) ++ (wX1 k q2 u2rNa u2rMo u2rWa u2rDe (j_3.1 6) (j_3.1 7) (j_3.1 8) (j_3.2 8) (j_3.2 9) (j_3.2 10) (j_3.2 11) ++ (wX1 k q3 u3rNa u3rMo u3rWa u3rDe (j_3.1 9) (j_3.1 10) (j_3.1 11) (j_3.2 12) (j_3.2 13) (j_3.2 14) (j_3.2 15) ++ (wX1 k q4 u4rNa u4rMo u4rWa u4rDe (j_3.1 12) (j_3.1 13) (j_3.1 14) (j_3.2 16) (j_3.2 17) (j_3.2 18) (j_3.2 19) ++ (wX1 k q5 u5rNa u5rMo u5rWa u5rDe (j_3.1 15) (j_3.1 16) (j_3.1 17) (j_3.2 20) (j_3.2 21) (j_3.2 22) (j_3.2 23) ++ (wX1 k q6 u6rNa u6rMo u6rWa u6rDe (j_3.1 18) (j_3.1 19) (j_3.1 20) (j_3.2 24) (j_3.2 25) (j_3.2 26) (j_3.2 27) ++ (wX1 k q7 u7rNa u7rMo u7rWa u7rDe (j_3.1 21) (j_3.1 22) (j_3.1 23) (j_3.2 28) (j_3.2 29) (j_3.2 30) (j_3.2 31) ++ (wX1 k q8 u8rNa u8rMo u8rWa u8rDe (j_3.1 24) (j_3.1 25) (j_3.1 26) (j_3.2 32) (j_3.2 33) (j_3.2 34) (j_3.2 35))))))))))))))) => ?_)
    refine W.eq (g2 := F0 m 28 ls ([.long r_2])) rfl ?_
    cases h
    exact k_jlret (j := (fun i => List.getD [j_3.1 0, j_3.1 1, j_3.1 2, j_3.1 3, j_3.1 4, j_3.1 5, j_3.1 6, j_3.1 7, j_3.1 8, j_3.1 9, j_3.1 10, j_3.1 11, j_3.1 12, j_3.1 13, j_3.1 14, j_3.1 15, j_3.1 16, j_3.1 17, j_3.1 18, j_3.1 19, j_3.1 20, j_3.1 21, j_3.1 22, j_3.1 23, j_3.1 24, j_3.1 25, j_3.1 26] i 0, fun i => List.getD [j_3.2 0, j_3.2 1, j_3.2 2, j_3.2 3, j_3.2 4, j_3.2 5, j_3.2 6, j_3.2 7, j_3.2 8, j_3.2 9, j_3.2 10, j_3.2 11, j_3.2 12, j_3.2 13, j_3.2 14, j_3.2 15, j_3.2 16, j_3.2 17, j_3.2 18, j_3.2 19, j_3.2 20, j_3.2 21, j_3.2 22, j_3.2 23, j_3.2 24, j_3.2 25, j_3.2 26, j_3.2 27, j_3.2 28, j_3.2 29, j_3.2 30, j_3.2 31, j_3.2 32, j_3.2 33, j_3.2 34, j_3.2 35] i (fun _ => 0))) hx hb hr hlocks hw rfl dX7_mean_28 hQ
abbrev rmX7_meet : Room := { frames := 3, cells := 0, slots := 0, locals := 67 }
set_option maxHeartbeats 4000000 in
set_option maxRecDepth 100000 in
theorem c_X7_meet (l : Launch) (D : va_G) (k : Nat → ClassId) (xh xaL xaT xaO xaF xaS xaI xaH xaR xaU lrNa lrMo lrWa lrDe : Nat) (sz : Nat) (xTf : Int32) (xTb : Int32) (lPe : Int32) (lDa : Int32) (lDr : Int32) (lNa : (Nat → Int32)) (lMo : (Nat → Int32)) (lWa : (Nat → Int32)) (lDe : (Nat → Int32)) (p1 : Int32) (p2 : Int32) (r_ : Int32) (hf : f_X7_meet lPe lNa lDe p1 p2 = some r_) : mR l yX7_meet wsX7_meet rmX7_meet D k sz [.ref xh, .int p1, .int p2] (wX7 k xh xaL xaT xaO xaF xaS xaI xaH xaR xaU xTf xTb ++ (wX1 k xaL lrNa lrMo lrWa lrDe lPe lDa lDr lNa lMo lWa lDe)) (wX7 k xh xaL xaT xaO xaF xaS xaI xaH xaR xaU xTf xTb ++ (wX1 k xaL lrNa lrMo lrWa lrDe lPe lDa lDr lNa lMo lWa lDe)) (some (.int r_)) := by
  refine mR_of (cc := cX7_meet) (maxL := 5) (ret := some .int) (by decide) rfl (Nat.le_of_ble_eq_true rfl) [(0, .ref xh), (1, .int p1), (2, .int p2)] rfl ?_
  intro p e s m below meth c A ls args Q cx hK hA hw hl hQ
  have fx := cx.1
  obtain ⟨⟨hx, hb, hml, hown, hts⟩, hr, hlocks⟩ := cx
  have hinX7 : ∀ w ∈ wsX70, w ∈ wsX7_meet := fun w h => List.mem_cons_of_mem _ (List.mem_append_left _ (List.mem_append_right _ h))
  have q_1 := hts (.fieldLink RX7 10 "DebtRides" "land" "LDebtRides$Land;") (List.mem_of_getElem? (i := 1) rfl)
  have h := hf
  unfold f_X7_meet at h
  clear hf
  refine lv_aload_n hx hb dX7_meet_0 rfl (lv_at hl 0 rfl) ?_
  refine va_get (ci := 7) (v := .ref xaL) (C := RX7) (T := TX7) (N := 11) hx hb hts hinX7 hown hK.1 hw.1 0 rfl rfl 0 (by decide) q_1 (fun _ h9 => h9) rfl dX7_meet_1 ?_
  refine lv_iload_n hx hb dX7_meet_4 rfl (lv_at hl 1 rfl) ?_
  refine lv_iload_n hx hb dX7_meet_5 rfl (lv_at hl 2 rfl) ?_
  obtain ⟨r_1, hf, h⟩ := b1_inv h
  refine k_callV (host := "") fx hK hA hw (c_X1_hasPair l D k xaL lrNa lrMo lrWa lrDe _ lPe lDa lDr lNa lMo lWa lDe p1 p2 r_1 hf) (cwV 2 hts gX7_meet_X1_hasPair rfl rfl rfl (by decide +kernel) ⟨by decide, by decide⟩) (As := [.int p1, .int p2]) (wr := [(xh, .inr (7, [.ref xaL, .ref xaT, .ref xaO, .ref xaF, .ref xaS, .ref xaI, .ref xaH, .ref xaR, .ref xaU, .int xTf, .int xTb]))]) (ws' := wX7 k xh xaL xaT xaO xaF xaS xaI xaH xaR xaU xTf xTb ++ (wX1 k xaL lrNa lrMo lrWa lrDe lPe lDa lDr lNa lMo lWa lDe)) [1, 2, 3, 4, 5] [0] [0, 1, 2, 3, 4, 5] rfl rfl (by decide) (by decide) (by decide) rfl (by decide) 1 rfl rfl [] rfl hl.1 rfl (Nat.le_of_ble_eq_true rfl) dX7_meet_6 ⟨by decide, by decide⟩ (fun H locs (hw : Wd D A s.heap H locs (wX7 k xh xaL xaT xaO xaF xaS xaI xaH xaR xaU xTf xTb ++ (wX1 k xaL lrNa lrMo lrWa lrDe lPe lDa lDr lNa lMo lWa lDe))) => ?_)
  refine W.eq (g2 := F0 m 9 ls ([.int r_1])) rfl ?_
  refine kb_if_ne (tgt := 14) hx hb dX7_meet_9 (by decide) h (fun c_9 h => ?_) (fun c_9 h => ?_)
  · refine lv_iconst (v := (-1)) hx hb dX7_meet_12 (by decide) ?_
    cases h
    exact k_iret hx hb hr hlocks hw rfl dX7_meet_13 hQ
  · refine lv_aload_n hx hb dX7_meet_14 rfl (lv_at hl 0 rfl) ?_
    refine va_get (ci := 7) (v := .ref xaL) (C := RX7) (T := TX7) (N := 11) hx hb hts hinX7 hown hK.1 hw.1 0 rfl rfl 0 (by decide) q_1 (fun _ h9 => h9) rfl dX7_meet_15 ?_
    refine lv_iload_n hx hb dX7_meet_18 rfl (lv_at hl 1 rfl) ?_
    obtain ⟨r_2, hf, h⟩ := b1_inv h
    refine k_callV (host := "") fx hK hA hw (c_X1_heightOf l D k xaL lrNa lrMo lrWa lrDe _ lPe lDa lDr lNa lMo lWa lDe p1 r_2 hf) (cwV 1 hts gX7_meet_X1_heightOf rfl rfl rfl (by decide +kernel) ⟨by decide, by decide⟩) (As := [.int p1]) (wr := [(xh, .inr (7, [.ref xaL, .ref xaT, .ref xaO, .ref xaF, .ref xaS, .ref xaI, .ref xaH, .ref xaR, .ref xaU, .int xTf, .int xTb]))]) (ws' := wX7 k xh xaL xaT xaO xaF xaS xaI xaH xaR xaU xTf xTb ++ (wX1 k xaL lrNa lrMo lrWa lrDe lPe lDa lDr lNa lMo lWa lDe)) [1, 2, 3, 4, 5] [0] [0, 1, 2, 3, 4, 5] rfl rfl (by decide) (by decide) (by decide) rfl (by decide) 1 rfl rfl [] rfl hl.1 rfl (Nat.le_of_ble_eq_true rfl) dX7_meet_19 ⟨by decide, by decide⟩ (fun H locs (hw : Wd D A s.heap H locs (wX7 k xh xaL xaT xaO xaF xaS xaI xaH xaR xaU xTf xTb ++ (wX1 k xaL lrNa lrMo lrWa lrDe lPe lDa lDr lNa lMo lWa lDe))) => ?_)
    refine W.eq (g2 := F0 m 22 ls ([.int r_2])) rfl ?_
    refine lv_istore_n (lv' := [(3, .int r_2), (0, .ref xh), (1, .int p1), (2, .int p2)]) hx hb dX7_meet_22 rfl hl (by decide) rfl (fun ls hl => ?_)
    refine lv_aload_n hx hb dX7_meet_23 rfl (lv_at hl 1 rfl) ?_
    refine va_get (ci := 7) (v := .ref xaL) (C := RX7) (T := TX7) (N := 11) hx hb hts hinX7 hown hK.1 hw.1 0 rfl rfl 0 (by decide) q_1 (fun _ h9 => h9) rfl dX7_meet_24 ?_
    refine lv_iload_n hx hb dX7_meet_27 rfl (lv_at hl 3 rfl) ?_
    obtain ⟨r_3, hf, h⟩ := b1_inv h
    refine k_callV (host := "") fx hK hA hw (c_X1_heightOf l D k xaL lrNa lrMo lrWa lrDe _ lPe lDa lDr lNa lMo lWa lDe p2 r_3 hf) (cwV 1 hts gX7_meet_X1_heightOf rfl rfl rfl (by decide +kernel) ⟨by decide, by decide⟩) (As := [.int p2]) (wr := [(xh, .inr (7, [.ref xaL, .ref xaT, .ref xaO, .ref xaF, .ref xaS, .ref xaI, .ref xaH, .ref xaR, .ref xaU, .int xTf, .int xTb]))]) (ws' := wX7 k xh xaL xaT xaO xaF xaS xaI xaH xaR xaU xTf xTb ++ (wX1 k xaL lrNa lrMo lrWa lrDe lPe lDa lDr lNa lMo lWa lDe)) [1, 2, 3, 4, 5] [0] [0, 1, 2, 3, 4, 5] rfl rfl (by decide) (by decide) (by decide) rfl (by decide) 1 rfl rfl [] rfl hl.1 rfl (Nat.le_of_ble_eq_true rfl) dX7_meet_28 ⟨by decide, by decide⟩ (fun H locs (hw : Wd D A s.heap H locs (wX7 k xh xaL xaT xaO xaF xaS xaI xaH xaR xaU xTf xTb ++ (wX1 k xaL lrNa lrMo lrWa lrDe lPe lDa lDr lNa lMo lWa lDe))) => ?_)
    refine W.eq (g2 := F0 m 31 ls ([.int r_3])) rfl ?_
    refine lv_istore (lv' := [(4, .int r_3), (3, .int r_2), (0, .ref xh), (1, .int p1), (2, .int p2)]) hx hb dX7_meet_31 hl (by decide) rfl (fun ls hl => ?_)
    refine lv_iload_n hx hb dX7_meet_33 rfl (lv_at hl 1 rfl) ?_
    refine lv_iload hx hb dX7_meet_34 (lv_at hl 0 rfl) ?_
    refine kb_icmp_ne (tgt := 42) hx hb dX7_meet_36 (by decide) h (fun c_36 h => ?_) (fun c_36 h => ?_)
    · refine lv_bipush (v := (-4)) hx hb dX7_meet_39 (by decide) ?_
      cases h
      exact k_iret hx hb hr hlocks hw rfl dX7_meet_41 hQ
    · refine lv_iload_n hx hb dX7_meet_42 rfl (lv_at hl 1 rfl) ?_
      refine lv_iload hx hb dX7_meet_43 (lv_at hl 0 rfl) ?_
      refine kb_icmp_ge (tgt := 52) hx hb dX7_meet_45 (by decide) h (fun c_45 h => ?_) (fun c_45 h => ?_)
      · refine lv_iload_n hx hb dX7_meet_52 rfl (lv_at hl 4 rfl) ?_
        cases h
        exact k_iret hx hb hr hlocks hw rfl dX7_meet_53 hQ
      · refine lv_iload_n hx hb dX7_meet_48 rfl (lv_at hl 3 rfl) ?_
        refine lv_goto (tgt := 53) hx hb dX7_meet_49 (by decide) ?_
        cases h
        exact k_iret hx hb hr hlocks hw rfl dX7_meet_53 hQ
abbrev rmX7_net : Room := { frames := 2, cells := 0, slots := 0, locals := 44 }
set_option maxHeartbeats 4000000 in
set_option maxRecDepth 100000 in
theorem c_X7_net (l : Launch) (D : va_G) (k : Nat → ClassId) (xh xaL xaT xaO xaF xaS xaI xaH xaR xaU lrNa lrMo lrWa lrDe : Nat) (sz : Nat) (xTf : Int32) (xTb : Int32) (lPe : Int32) (lDa : Int32) (lDr : Int32) (lNa : (Nat → Int32)) (lMo : (Nat → Int32)) (lWa : (Nat → Int32)) (lDe : (Nat → Int32)) (p1 : Int32) (r_ : Int32) (hf : f_X7_net lPe lDe p1 = some r_) : mR l yX7_net wsX7_net rmX7_net D k sz [.ref xh, .int p1] (wX7 k xh xaL xaT xaO xaF xaS xaI xaH xaR xaU xTf xTb ++ (wX1 k xaL lrNa lrMo lrWa lrDe lPe lDa lDr lNa lMo lWa lDe)) (wX7 k xh xaL xaT xaO xaF xaS xaI xaH xaR xaU xTf xTb ++ (wX1 k xaL lrNa lrMo lrWa lrDe lPe lDa lDr lNa lMo lWa lDe)) (some (.int r_)) := by
  refine mR_of (cc := cX7_net) (maxL := 2) (ret := some .int) (by decide) rfl (Nat.le_of_ble_eq_true rfl) [(0, .ref xh), (1, .int p1)] rfl ?_
  intro p e s m below meth c A ls args Q cx hK hA hw hl hQ
  have fx := cx.1
  obtain ⟨⟨hx, hb, hml, hown, hts⟩, hr, hlocks⟩ := cx
  have hinX7 : ∀ w ∈ wsX70, w ∈ wsX7_net := fun w h => List.mem_cons_of_mem _ (List.mem_append_left _ (List.mem_append_right _ h))
  have q_1 := hts (.fieldLink RX7 10 "DebtRides" "land" "LDebtRides$Land;") (List.mem_of_getElem? (i := 1) rfl)
  have h := hf
  unfold f_X7_net at h
  clear hf
  refine lv_aload_n hx hb dX7_net_0 rfl (lv_at hl 0 rfl) ?_
  refine va_get (ci := 7) (v := .ref xaL) (C := RX7) (T := TX7) (N := 11) hx hb hts hinX7 hown hK.1 hw.1 0 rfl rfl 0 (by decide) q_1 (fun _ h9 => h9) rfl dX7_net_1 ?_
  refine lv_iload_n hx hb dX7_net_4 rfl (lv_at hl 1 rfl) ?_
  obtain ⟨r_1, hf, h⟩ := b1_inv h
  refine k_callV (host := "") fx hK hA hw (c_X1_has l D k xaL lrNa lrMo lrWa lrDe _ lPe lDa lDr lNa lMo lWa lDe p1 r_1 hf) (cwV 1 hts gX7_net_X1_has rfl rfl rfl (by decide +kernel) ⟨by decide, by decide⟩) (As := [.int p1]) (wr := [(xh, .inr (7, [.ref xaL, .ref xaT, .ref xaO, .ref xaF, .ref xaS, .ref xaI, .ref xaH, .ref xaR, .ref xaU, .int xTf, .int xTb]))]) (ws' := wX7 k xh xaL xaT xaO xaF xaS xaI xaH xaR xaU xTf xTb ++ (wX1 k xaL lrNa lrMo lrWa lrDe lPe lDa lDr lNa lMo lWa lDe)) [1, 2, 3, 4, 5] [0] [0, 1, 2, 3, 4, 5] rfl rfl (by decide) (by decide) (by decide) rfl (by decide) 1 rfl rfl [] rfl hl.1 rfl (Nat.le_of_ble_eq_true rfl) dX7_net_5 ⟨by decide, by decide⟩ (fun H locs (hw : Wd D A s.heap H locs (wX7 k xh xaL xaT xaO xaF xaS xaI xaH xaR xaU xTf xTb ++ (wX1 k xaL lrNa lrMo lrWa lrDe lPe lDa lDr lNa lMo lWa lDe))) => ?_)
  refine W.eq (g2 := F0 m 8 ls ([.int r_1])) rfl ?_
  refine kb_if_ne (tgt := 13) hx hb dX7_net_8 (by decide) h (fun c_8 h => ?_) (fun c_8 h => ?_)
  · refine lv_iconst (v := (-1)) hx hb dX7_net_11 (by decide) ?_
    cases h
    exact k_iret hx hb hr hlocks hw rfl dX7_net_12 hQ
  · refine lv_aload_n hx hb dX7_net_13 rfl (lv_at hl 0 rfl) ?_
    refine va_get (ci := 7) (v := .ref xaL) (C := RX7) (T := TX7) (N := 11) hx hb hts hinX7 hown hK.1 hw.1 0 rfl rfl 0 (by decide) q_1 (fun _ h9 => h9) rfl dX7_net_14 ?_
    refine lv_iload_n hx hb dX7_net_17 rfl (lv_at hl 1 rfl) ?_
    obtain ⟨r_2, hf, h⟩ := b1_inv h
    refine k_callV (host := "") fx hK hA hw (c_X1_netOf l D k xaL lrNa lrMo lrWa lrDe _ lPe lDa lDr lNa lMo lWa lDe p1 r_2 hf) (cwV 1 hts gX7_net_X1_netOf rfl rfl rfl (by decide +kernel) ⟨by decide, by decide⟩) (As := [.int p1]) (wr := [(xh, .inr (7, [.ref xaL, .ref xaT, .ref xaO, .ref xaF, .ref xaS, .ref xaI, .ref xaH, .ref xaR, .ref xaU, .int xTf, .int xTb]))]) (ws' := wX7 k xh xaL xaT xaO xaF xaS xaI xaH xaR xaU xTf xTb ++ (wX1 k xaL lrNa lrMo lrWa lrDe lPe lDa lDr lNa lMo lWa lDe)) [1, 2, 3, 4, 5] [0] [0, 1, 2, 3, 4, 5] rfl rfl (by decide) (by decide) (by decide) rfl (by decide) 1 rfl rfl [] rfl hl.1 rfl (Nat.le_of_ble_eq_true rfl) dX7_net_18 ⟨by decide, by decide⟩ (fun H locs (hw : Wd D A s.heap H locs (wX7 k xh xaL xaT xaO xaF xaS xaI xaH xaR xaU xTf xTb ++ (wX1 k xaL lrNa lrMo lrWa lrDe lPe lDa lDr lNa lMo lWa lDe))) => ?_)
    refine W.eq (g2 := F0 m 21 ls ([.int r_2])) rfl ?_
    refine lv_sipush (v := 1000) hx hb dX7_net_21 (by decide) ?_
    refine lv_iadd hx hb dX7_net_24 ?_
    cases h
    exact k_iret hx hb hr hlocks hw rfl dX7_net_25 hQ
abbrev rmX7_one : Room := { frames := 3, cells := 0, slots := 0, locals := 67 }
set_option maxHeartbeats 4000000 in
set_option maxRecDepth 100000 in
theorem c_X7_one (l : Launch) (D : va_G) (k : Nat → ClassId) (xh xaL xaT xaO xaF xaS xaI xaH xaR xaU lrNa lrMo lrWa lrDe : Nat) (sz : Nat) (xTf : Int32) (xTb : Int32) (lPe : Int32) (lDa : Int32) (lDr : Int32) (lNa : (Nat → Int32)) (lMo : (Nat → Int32)) (lWa : (Nat → Int32)) (lDe : (Nat → Int32)) (p1 : Int32) (p2 : Int32) (r_ : Int32) (hf : f_X7_one lPe lNa lMo lWa lDe p1 p2 = some r_) : mR l yX7_one wsX7_one rmX7_one D k sz [.ref xh, .int p1, .int p2] (wX7 k xh xaL xaT xaO xaF xaS xaI xaH xaR xaU xTf xTb ++ (wX1 k xaL lrNa lrMo lrWa lrDe lPe lDa lDr lNa lMo lWa lDe)) (wX7 k xh xaL xaT xaO xaF xaS xaI xaH xaR xaU xTf xTb ++ (wX1 k xaL lrNa lrMo lrWa lrDe lPe lDa lDr lNa lMo lWa lDe)) (some (.int r_)) := by
  refine mR_of (cc := cX7_one) (maxL := 3) (ret := some .int) (by decide) rfl (Nat.le_of_ble_eq_true rfl) [(0, .ref xh), (1, .int p1), (2, .int p2)] rfl ?_
  intro p e s m below meth c A ls args Q cx hK hA hw hl hQ
  have fx := cx.1
  obtain ⟨⟨hx, hb, hml, hown, hts⟩, hr, hlocks⟩ := cx
  have hinX7 : ∀ w ∈ wsX70, w ∈ wsX7_one := fun w h => List.mem_cons_of_mem _ (List.mem_append_left _ (List.mem_append_right _ h))
  have hinX1 : ∀ w ∈ wsX10, w ∈ wsX7_one := fun w h => List.mem_cons_of_mem _ (List.mem_append_right _ h)
  have q_1 := hts (.fieldLink RX7 10 "DebtRides" "land" "LDebtRides$Land;") (List.mem_of_getElem? (i := 1) rfl)
  have q_2 := hts (.fieldLink RX7 129 "DebtRides$Land" "nature" "[I") (List.mem_of_getElem? (i := 2) rfl)
  have q_3 := hts (.fieldLink RX7 132 "DebtRides$Land" "money" "[I") (List.mem_of_getElem? (i := 3) rfl)
  have q_4 := hts (.fieldLink RX7 135 "DebtRides$Land" "wage" "[I") (List.mem_of_getElem? (i := 4) rfl)
  have h := hf
  unfold f_X7_one at h
  clear hf
  refine lv_aload_n hx hb dX7_one_0 rfl (lv_at hl 0 rfl) ?_
  refine va_get (ci := 7) (v := .ref xaL) (C := RX7) (T := TX7) (N := 11) hx hb hts hinX7 hown hK.1 hw.1 0 rfl rfl 0 (by decide) q_1 (fun _ h9 => h9) rfl dX7_one_1 ?_
  refine lv_iload_n hx hb dX7_one_4 rfl (lv_at hl 1 rfl) ?_
  obtain ⟨r_1, hf, h⟩ := b1_inv h
  refine k_callV (host := "") fx hK hA hw (c_X1_has l D k xaL lrNa lrMo lrWa lrDe _ lPe lDa lDr lNa lMo lWa lDe p1 r_1 hf) (cwV 1 hts gX7_one_X1_has rfl rfl rfl (by decide +kernel) ⟨by decide, by decide⟩) (As := [.int p1]) (wr := [(xh, .inr (7, [.ref xaL, .ref xaT, .ref xaO, .ref xaF, .ref xaS, .ref xaI, .ref xaH, .ref xaR, .ref xaU, .int xTf, .int xTb]))]) (ws' := wX7 k xh xaL xaT xaO xaF xaS xaI xaH xaR xaU xTf xTb ++ (wX1 k xaL lrNa lrMo lrWa lrDe lPe lDa lDr lNa lMo lWa lDe)) [1, 2, 3, 4, 5] [0] [0, 1, 2, 3, 4, 5] rfl rfl (by decide) (by decide) (by decide) rfl (by decide) 1 rfl rfl [] rfl hl.1 rfl (Nat.le_of_ble_eq_true rfl) dX7_one_5 ⟨by decide, by decide⟩ (fun H locs (hw : Wd D A s.heap H locs (wX7 k xh xaL xaT xaO xaF xaS xaI xaH xaR xaU xTf xTb ++ (wX1 k xaL lrNa lrMo lrWa lrDe lPe lDa lDr lNa lMo lWa lDe))) => ?_)
  refine W.eq (g2 := F0 m 8 ls ([.int r_1])) rfl ?_
  refine kb_if_ne (tgt := 13) hx hb dX7_one_8 (by decide) h (fun c_8 h => ?_) (fun c_8 h => ?_)
  · refine lv_iconst (v := (-1)) hx hb dX7_one_11 (by decide) ?_
    cases h
    exact k_iret hx hb hr hlocks hw rfl dX7_one_12 hQ
  · refine lv_iload_n hx hb dX7_one_13 rfl (lv_at hl 2 rfl) ?_
    by_cases c14_0 : p2 = 0
    · rw [if_pos c14_0] at h
      refine lv_tableIn (off := 42) (tgt := 56) hx hb dX7_one_14 (by rw [c14_0]; decide) (by rw [c14_0]; decide) (by rw [c14_0]; rfl) (by decide) ?_
      refine lv_aload_n hx hb dX7_one_56 rfl (lv_at hl 0 rfl) ?_
      refine va_get (ci := 7) (v := .ref xaL) (C := RX7) (T := TX7) (N := 11) hx hb hts hinX7 hown hK.1 hw.1 0 rfl rfl 0 (by decide) q_1 (fun _ h9 => h9) rfl dX7_one_57 ?_
      refine va_get (ci := 1) (v := .ref lrNa) (C := RX1) (T := TX1) (N := 7) hx hb hts hinX1 hown hK.1 hw.1 1 rfl rfl 3 (by decide) q_2 (fun _ h9 => h9) rfl dX7_one_60 ?_
      refine lv_iload_n hx hb dX7_one_63 rfl (lv_at hl 1 rfl) ?_
      refine k_iald hx hb hK hw 2 rfl dX7_one_64 h (fun a_2 h => ?_)
      cases h
      exact k_iret hx hb hr hlocks hw rfl dX7_one_65 hQ
    · rw [if_neg c14_0] at h
      by_cases c14_1 : p2 = 1
      · rw [if_pos c14_1] at h
        refine lv_tableIn (off := 52) (tgt := 66) hx hb dX7_one_14 (by rw [c14_1]; decide) (by rw [c14_1]; decide) (by rw [c14_1]; rfl) (by decide) ?_
        refine lv_aload_n hx hb dX7_one_66 rfl (lv_at hl 0 rfl) ?_
        refine va_get (ci := 7) (v := .ref xaL) (C := RX7) (T := TX7) (N := 11) hx hb hts hinX7 hown hK.1 hw.1 0 rfl rfl 0 (by decide) q_1 (fun _ h9 => h9) rfl dX7_one_67 ?_
        refine va_get (ci := 1) (v := .ref lrMo) (C := RX1) (T := TX1) (N := 7) hx hb hts hinX1 hown hK.1 hw.1 1 rfl rfl 4 (by decide) q_3 (fun _ h9 => h9) rfl dX7_one_70 ?_
        refine lv_iload_n hx hb dX7_one_73 rfl (lv_at hl 1 rfl) ?_
        refine k_iald hx hb hK hw 3 rfl dX7_one_74 h (fun a_3 h => ?_)
        cases h
        exact k_iret hx hb hr hlocks hw rfl dX7_one_75 hQ
      · rw [if_neg c14_1] at h
        by_cases c14_2 : p2 = 2
        · rw [if_pos c14_2] at h
          refine lv_tableIn (off := 62) (tgt := 76) hx hb dX7_one_14 (by rw [c14_2]; decide) (by rw [c14_2]; decide) (by rw [c14_2]; rfl) (by decide) ?_
          refine lv_aload_n hx hb dX7_one_76 rfl (lv_at hl 0 rfl) ?_
          refine va_get (ci := 7) (v := .ref xaL) (C := RX7) (T := TX7) (N := 11) hx hb hts hinX7 hown hK.1 hw.1 0 rfl rfl 0 (by decide) q_1 (fun _ h9 => h9) rfl dX7_one_77 ?_
          refine va_get (ci := 1) (v := .ref lrWa) (C := RX1) (T := TX1) (N := 7) hx hb hts hinX1 hown hK.1 hw.1 1 rfl rfl 5 (by decide) q_4 (fun _ h9 => h9) rfl dX7_one_80 ?_
          refine lv_iload_n hx hb dX7_one_83 rfl (lv_at hl 1 rfl) ?_
          refine k_iald hx hb hK hw 4 rfl dX7_one_84 h (fun a_4 h => ?_)
          cases h
          exact k_iret hx hb hr hlocks hw rfl dX7_one_85 hQ
        · rw [if_neg c14_2] at h
          by_cases c14_3 : p2 = 3
          · rw [if_pos c14_3] at h
            refine lv_tableIn (off := 72) (tgt := 86) hx hb dX7_one_14 (by rw [c14_3]; decide) (by rw [c14_3]; decide) (by rw [c14_3]; rfl) (by decide) ?_
            refine lv_aload_n hx hb dX7_one_86 rfl (lv_at hl 0 rfl) ?_
            refine va_get (ci := 7) (v := .ref xaL) (C := RX7) (T := TX7) (N := 11) hx hb hts hinX7 hown hK.1 hw.1 0 rfl rfl 0 (by decide) q_1 (fun _ h9 => h9) rfl dX7_one_87 ?_
            refine lv_iload_n hx hb dX7_one_90 rfl (lv_at hl 1 rfl) ?_
            obtain ⟨r_5, hf, h⟩ := b1_inv h
            refine k_callV (host := "") fx hK hA hw (c_X1_owedBy l D k xaL lrNa lrMo lrWa lrDe _ lPe lDa lDr lNa lMo lWa lDe p1 r_5 hf) (cwV 1 hts gX7_one_X1_owedBy rfl rfl rfl (by decide +kernel) ⟨by decide, by decide⟩) (As := [.int p1]) (wr := [(xh, .inr (7, [.ref xaL, .ref xaT, .ref xaO, .ref xaF, .ref xaS, .ref xaI, .ref xaH, .ref xaR, .ref xaU, .int xTf, .int xTb]))]) (ws' := wX7 k xh xaL xaT xaO xaF xaS xaI xaH xaR xaU xTf xTb ++ (wX1 k xaL lrNa lrMo lrWa lrDe lPe lDa lDr lNa lMo lWa lDe)) [1, 2, 3, 4, 5] [0] [0, 1, 2, 3, 4, 5] rfl rfl (by decide) (by decide) (by decide) rfl (by decide) 1 rfl rfl [] rfl hl.1 rfl (Nat.le_of_ble_eq_true rfl) dX7_one_91 ⟨by decide, by decide⟩ (fun H locs (hw : Wd D A s.heap H locs (wX7 k xh xaL xaT xaO xaF xaS xaI xaH xaR xaU xTf xTb ++ (wX1 k xaL lrNa lrMo lrWa lrDe lPe lDa lDr lNa lMo lWa lDe))) => ?_)
            refine W.eq (g2 := F0 m 94 ls ([.int r_5])) rfl ?_
            cases h
            exact k_iret hx hb hr hlocks hw rfl dX7_one_94 hQ
          · rw [if_neg c14_3] at h
            by_cases c14_4 : p2 = 4
            · rw [if_pos c14_4] at h
              refine lv_tableIn (off := 81) (tgt := 95) hx hb dX7_one_14 (by rw [c14_4]; decide) (by rw [c14_4]; decide) (by rw [c14_4]; rfl) (by decide) ?_
              refine lv_aload_n hx hb dX7_one_95 rfl (lv_at hl 0 rfl) ?_
              refine va_get (ci := 7) (v := .ref xaL) (C := RX7) (T := TX7) (N := 11) hx hb hts hinX7 hown hK.1 hw.1 0 rfl rfl 0 (by decide) q_1 (fun _ h9 => h9) rfl dX7_one_96 ?_
              refine lv_iload_n hx hb dX7_one_99 rfl (lv_at hl 1 rfl) ?_
              obtain ⟨r_6, hf, h⟩ := b1_inv h
              refine k_callV (host := "") fx hK hA hw (c_X1_owedTo l D k xaL lrNa lrMo lrWa lrDe _ lPe lDa lDr lNa lMo lWa lDe p1 r_6 hf) (cwV 1 hts gX7_one_X1_owedTo rfl rfl rfl (by decide +kernel) ⟨by decide, by decide⟩) (As := [.int p1]) (wr := [(xh, .inr (7, [.ref xaL, .ref xaT, .ref xaO, .ref xaF, .ref xaS, .ref xaI, .ref xaH, .ref xaR, .ref xaU, .int xTf, .int xTb]))]) (ws' := wX7 k xh xaL xaT xaO xaF xaS xaI xaH xaR xaU xTf xTb ++ (wX1 k xaL lrNa lrMo lrWa lrDe lPe lDa lDr lNa lMo lWa lDe)) [1, 2, 3, 4, 5] [0] [0, 1, 2, 3, 4, 5] rfl rfl (by decide) (by decide) (by decide) rfl (by decide) 1 rfl rfl [] rfl hl.1 rfl (Nat.le_of_ble_eq_true rfl) dX7_one_100 ⟨by decide, by decide⟩ (fun H locs (hw : Wd D A s.heap H locs (wX7 k xh xaL xaT xaO xaF xaS xaI xaH xaR xaU xTf xTb ++ (wX1 k xaL lrNa lrMo lrWa lrDe lPe lDa lDr lNa lMo lWa lDe))) => ?_)
              refine W.eq (g2 := F0 m 103 ls ([.int r_6])) rfl ?_
              cases h
              exact k_iret hx hb hr hlocks hw rfl dX7_one_103 hQ
            · rw [if_neg c14_4] at h
              by_cases c14_5 : p2 = 5
              · rw [if_pos c14_5] at h
                refine lv_tableIn (off := 90) (tgt := 104) hx hb dX7_one_14 (by rw [c14_5]; decide) (by rw [c14_5]; decide) (by rw [c14_5]; rfl) (by decide) ?_
                refine lv_aload_n hx hb dX7_one_104 rfl (lv_at hl 0 rfl) ?_
                refine va_get (ci := 7) (v := .ref xaL) (C := RX7) (T := TX7) (N := 11) hx hb hts hinX7 hown hK.1 hw.1 0 rfl rfl 0 (by decide) q_1 (fun _ h9 => h9) rfl dX7_one_105 ?_
                refine lv_iload_n hx hb dX7_one_108 rfl (lv_at hl 1 rfl) ?_
                obtain ⟨r_7, hf, h⟩ := b1_inv h
                refine k_callV (host := "") fx hK hA hw (c_X1_heightOf l D k xaL lrNa lrMo lrWa lrDe _ lPe lDa lDr lNa lMo lWa lDe p1 r_7 hf) (cwV 1 hts gX7_one_X1_heightOf rfl rfl rfl (by decide +kernel) ⟨by decide, by decide⟩) (As := [.int p1]) (wr := [(xh, .inr (7, [.ref xaL, .ref xaT, .ref xaO, .ref xaF, .ref xaS, .ref xaI, .ref xaH, .ref xaR, .ref xaU, .int xTf, .int xTb]))]) (ws' := wX7 k xh xaL xaT xaO xaF xaS xaI xaH xaR xaU xTf xTb ++ (wX1 k xaL lrNa lrMo lrWa lrDe lPe lDa lDr lNa lMo lWa lDe)) [1, 2, 3, 4, 5] [0] [0, 1, 2, 3, 4, 5] rfl rfl (by decide) (by decide) (by decide) rfl (by decide) 1 rfl rfl [] rfl hl.1 rfl (Nat.le_of_ble_eq_true rfl) dX7_one_109 ⟨by decide, by decide⟩ (fun H locs (hw : Wd D A s.heap H locs (wX7 k xh xaL xaT xaO xaF xaS xaI xaH xaR xaU xTf xTb ++ (wX1 k xaL lrNa lrMo lrWa lrDe lPe lDa lDr lNa lMo lWa lDe))) => ?_)
                refine W.eq (g2 := F0 m 112 ls ([.int r_7])) rfl ?_
                cases h
                exact k_iret hx hb hr hlocks hw rfl dX7_one_112 hQ
              · rw [if_neg c14_5] at h
                by_cases c14_6 : p2 = 6
                · rw [if_pos c14_6] at h
                  refine lv_tableIn (off := 99) (tgt := 113) hx hb dX7_one_14 (by rw [c14_6]; decide) (by rw [c14_6]; decide) (by rw [c14_6]; rfl) (by decide) ?_
                  refine lv_aload_n hx hb dX7_one_113 rfl (lv_at hl 0 rfl) ?_
                  refine va_get (ci := 7) (v := .ref xaL) (C := RX7) (T := TX7) (N := 11) hx hb hts hinX7 hown hK.1 hw.1 0 rfl rfl 0 (by decide) q_1 (fun _ h9 => h9) rfl dX7_one_114 ?_
                  refine lv_iload_n hx hb dX7_one_117 rfl (lv_at hl 1 rfl) ?_
                  obtain ⟨r_8, hf, h⟩ := b1_inv h
                  refine k_callV (host := "") fx hK hA hw (c_X1_willOf l D k xaL lrNa lrMo lrWa lrDe _ lPe lDa lDr lNa lMo lWa lDe p1 r_8 hf) (cwV 1 hts gX7_one_X1_willOf rfl rfl rfl (by decide +kernel) ⟨by decide, by decide⟩) (As := [.int p1]) (wr := [(xh, .inr (7, [.ref xaL, .ref xaT, .ref xaO, .ref xaF, .ref xaS, .ref xaI, .ref xaH, .ref xaR, .ref xaU, .int xTf, .int xTb]))]) (ws' := wX7 k xh xaL xaT xaO xaF xaS xaI xaH xaR xaU xTf xTb ++ (wX1 k xaL lrNa lrMo lrWa lrDe lPe lDa lDr lNa lMo lWa lDe)) [1, 2, 3, 4, 5] [0] [0, 1, 2, 3, 4, 5] rfl rfl (by decide) (by decide) (by decide) rfl (by decide) 1 rfl rfl [] rfl hl.1 rfl (Nat.le_of_ble_eq_true rfl) dX7_one_118 ⟨by decide, by decide⟩ (fun H locs (hw : Wd D A s.heap H locs (wX7 k xh xaL xaT xaO xaF xaS xaI xaH xaR xaU xTf xTb ++ (wX1 k xaL lrNa lrMo lrWa lrDe lPe lDa lDr lNa lMo lWa lDe))) => ?_)
                  refine W.eq (g2 := F0 m 121 ls ([.int r_8])) rfl ?_
                  cases h
                  exact k_iret hx hb hr hlocks hw rfl dX7_one_121 hQ
                · rw [if_neg c14_6] at h
                  refine lv_tableOut (tgt := 122) hx hb dX7_one_14 (by have q0 : p2.toInt ≠ 0 := sw_ne c14_0; have q1 : p2.toInt ≠ 1 := sw_ne c14_1; have q2 : p2.toInt ≠ 2 := sw_ne c14_2; have q3 : p2.toInt ≠ 3 := sw_ne c14_3; have q4 : p2.toInt ≠ 4 := sw_ne c14_4; have q5 : p2.toInt ≠ 5 := sw_ne c14_5; have q6 : p2.toInt ≠ 6 := sw_ne c14_6; omega) (by decide) ?_
                  refine lv_iconst (v := (-1)) hx hb dX7_one_122 (by decide) ?_
                  cases h
                  exact k_iret hx hb hr hlocks hw rfl dX7_one_123 hQ
abbrev rmX7_owes : Room := { frames := 2, cells := 0, slots := 0, locals := 43 }
set_option maxHeartbeats 4000000 in
set_option maxRecDepth 100000 in
theorem c_X7_owes (l : Launch) (D : va_G) (k : Nat → ClassId) (xh xaL xaT xaO xaF xaS xaI xaH xaR xaU lrNa lrMo lrWa lrDe : Nat) (sz : Nat) (xTf : Int32) (xTb : Int32) (lPe : Int32) (lDa : Int32) (lDr : Int32) (lNa : (Nat → Int32)) (lMo : (Nat → Int32)) (lWa : (Nat → Int32)) (lDe : (Nat → Int32)) (p1 : Int32) (p2 : Int32) (r_ : Int32) (hf : f_X7_owes lPe lDe p1 p2 = some r_) : mR l yX7_owes wsX7_owes rmX7_owes D k sz [.ref xh, .int p1, .int p2] (wX7 k xh xaL xaT xaO xaF xaS xaI xaH xaR xaU xTf xTb ++ (wX1 k xaL lrNa lrMo lrWa lrDe lPe lDa lDr lNa lMo lWa lDe)) (wX7 k xh xaL xaT xaO xaF xaS xaI xaH xaR xaU xTf xTb ++ (wX1 k xaL lrNa lrMo lrWa lrDe lPe lDa lDr lNa lMo lWa lDe)) (some (.int r_)) := by
  refine mR_of (cc := cX7_owes) (maxL := 3) (ret := some .int) (by decide) rfl (Nat.le_of_ble_eq_true rfl) [(0, .ref xh), (1, .int p1), (2, .int p2)] rfl ?_
  intro p e s m below meth c A ls args Q cx hK hA hw hl hQ
  have fx := cx.1
  obtain ⟨⟨hx, hb, hml, hown, hts⟩, hr, hlocks⟩ := cx
  have hinX7 : ∀ w ∈ wsX70, w ∈ wsX7_owes := fun w h => List.mem_cons_of_mem _ (List.mem_append_left _ (List.mem_append_right _ h))
  have q_1 := hts (.fieldLink RX7 10 "DebtRides" "land" "LDebtRides$Land;") (List.mem_of_getElem? (i := 1) rfl)
  have h := hf
  unfold f_X7_owes at h
  clear hf
  refine lv_aload_n hx hb dX7_owes_0 rfl (lv_at hl 0 rfl) ?_
  refine va_get (ci := 7) (v := .ref xaL) (C := RX7) (T := TX7) (N := 11) hx hb hts hinX7 hown hK.1 hw.1 0 rfl rfl 0 (by decide) q_1 (fun _ h9 => h9) rfl dX7_owes_1 ?_
  refine lv_iload_n hx hb dX7_owes_4 rfl (lv_at hl 1 rfl) ?_
  refine lv_iload_n hx hb dX7_owes_5 rfl (lv_at hl 2 rfl) ?_
  obtain ⟨r_1, hf, h⟩ := b1_inv h
  refine k_callV (host := "") fx hK hA hw (c_X1_hasPair l D k xaL lrNa lrMo lrWa lrDe _ lPe lDa lDr lNa lMo lWa lDe p1 p2 r_1 hf) (cwV 2 hts gX7_owes_X1_hasPair rfl rfl rfl (by decide +kernel) ⟨by decide, by decide⟩) (As := [.int p1, .int p2]) (wr := [(xh, .inr (7, [.ref xaL, .ref xaT, .ref xaO, .ref xaF, .ref xaS, .ref xaI, .ref xaH, .ref xaR, .ref xaU, .int xTf, .int xTb]))]) (ws' := wX7 k xh xaL xaT xaO xaF xaS xaI xaH xaR xaU xTf xTb ++ (wX1 k xaL lrNa lrMo lrWa lrDe lPe lDa lDr lNa lMo lWa lDe)) [1, 2, 3, 4, 5] [0] [0, 1, 2, 3, 4, 5] rfl rfl (by decide) (by decide) (by decide) rfl (by decide) 1 rfl rfl [] rfl hl.1 rfl (Nat.le_of_ble_eq_true rfl) dX7_owes_6 ⟨by decide, by decide⟩ (fun H locs (hw : Wd D A s.heap H locs (wX7 k xh xaL xaT xaO xaF xaS xaI xaH xaR xaU xTf xTb ++ (wX1 k xaL lrNa lrMo lrWa lrDe lPe lDa lDr lNa lMo lWa lDe))) => ?_)
  refine W.eq (g2 := F0 m 9 ls ([.int r_1])) rfl ?_
  refine kb_if_ne (tgt := 14) hx hb dX7_owes_9 (by decide) h (fun c_9 h => ?_) (fun c_9 h => ?_)
  · refine lv_iconst (v := (-1)) hx hb dX7_owes_12 (by decide) ?_
    cases h
    exact k_iret hx hb hr hlocks hw rfl dX7_owes_13 hQ
  · refine lv_aload_n hx hb dX7_owes_14 rfl (lv_at hl 0 rfl) ?_
    refine va_get (ci := 7) (v := .ref xaL) (C := RX7) (T := TX7) (N := 11) hx hb hts hinX7 hown hK.1 hw.1 0 rfl rfl 0 (by decide) q_1 (fun _ h9 => h9) rfl dX7_owes_15 ?_
    refine lv_iload_n hx hb dX7_owes_18 rfl (lv_at hl 1 rfl) ?_
    refine lv_iload_n hx hb dX7_owes_19 rfl (lv_at hl 2 rfl) ?_
    obtain ⟨r_2, hf, h⟩ := b1_inv h
    refine k_callV (host := "") fx hK hA hw (c_X1_debt l D k xaL lrNa lrMo lrWa lrDe _ lPe lDa lDr lNa lMo lWa lDe p1 p2 r_2 hf) (cwV 2 hts gX7_owes_X1_debt rfl rfl rfl (by decide +kernel) ⟨by decide, by decide⟩) (As := [.int p1, .int p2]) (wr := [(xh, .inr (7, [.ref xaL, .ref xaT, .ref xaO, .ref xaF, .ref xaS, .ref xaI, .ref xaH, .ref xaR, .ref xaU, .int xTf, .int xTb]))]) (ws' := wX7 k xh xaL xaT xaO xaF xaS xaI xaH xaR xaU xTf xTb ++ (wX1 k xaL lrNa lrMo lrWa lrDe lPe lDa lDr lNa lMo lWa lDe)) [1, 2, 3, 4, 5] [0] [0, 1, 2, 3, 4, 5] rfl rfl (by decide) (by decide) (by decide) rfl (by decide) 1 rfl rfl [] rfl hl.1 rfl (Nat.le_of_ble_eq_true rfl) dX7_owes_20 ⟨by decide, by decide⟩ (fun H locs (hw : Wd D A s.heap H locs (wX7 k xh xaL xaT xaO xaF xaS xaI xaH xaR xaU xTf xTb ++ (wX1 k xaL lrNa lrMo lrWa lrDe lPe lDa lDr lNa lMo lWa lDe))) => ?_)
    refine W.eq (g2 := F0 m 23 ls ([.int r_2])) rfl ?_
    cases h
    exact k_iret hx hb hr hlocks hw rfl dX7_owes_23 hQ
abbrev rmX7_pay : Room := { frames := 3, cells := 0, slots := 0, locals := 69 }
set_option maxHeartbeats 4000000 in
set_option maxRecDepth 100000 in
theorem c_X7_pay (l : Launch) (D : va_G) (k : Nat → ClassId) (xh xaL xaT xaO xaF xaS xaI xaH xaR xaU lrNa lrMo lrWa lrDe : Nat) (sz : Nat) (xTf : Int32) (xTb : Int32) (lPe : Int32) (lDa : Int32) (lDr : Int32) (lNa : (Nat → Int32)) (lMo : (Nat → Int32)) (lWa : (Nat → Int32)) (lDe : (Nat → Int32)) (p1 : Int32) (p2 : Int32) (p3 : Int32) (r_ : Int32) (n_lMo : (Nat → Int32)) (n_lDe : (Nat → Int32)) (hf : f_X7_pay lPe lMo lDe p1 p2 p3 = some (r_, n_lMo, n_lDe)) : mR l yX7_pay wsX7_pay rmX7_pay D k sz [.ref xh, .int p1, .int p2, .int p3] (wX7 k xh xaL xaT xaO xaF xaS xaI xaH xaR xaU xTf xTb ++ (wX1 k xaL lrNa lrMo lrWa lrDe lPe lDa lDr lNa lMo lWa lDe)) (wX7 k xh xaL xaT xaO xaF xaS xaI xaH xaR xaU xTf xTb ++ (wX1 k xaL lrNa lrMo lrWa lrDe lPe lDa lDr lNa n_lMo lWa n_lDe)) (some (.int r_)) := by
  refine mR_of (cc := cX7_pay) (maxL := 4) (ret := some .int) (by decide) rfl (Nat.le_of_ble_eq_true rfl) [(0, .ref xh), (1, .int p1), (2, .int p2), (3, .int p3)] rfl ?_
  intro p e s m below meth c A ls args Q cx hK hA hw hl hQ
  have fx := cx.1
  obtain ⟨⟨hx, hb, hml, hown, hts⟩, hr, hlocks⟩ := cx
  have hinX7 : ∀ w ∈ wsX70, w ∈ wsX7_pay := fun w h => List.mem_cons_of_mem _ (List.mem_append_left _ (List.mem_append_right _ h))
  have q_1 := hts (.fieldLink RX7 10 "DebtRides" "land" "LDebtRides$Land;") (List.mem_of_getElem? (i := 1) rfl)
  have h := hf
  unfold f_X7_pay at h
  clear hf
  refine lv_aload_n hx hb dX7_pay_0 rfl (lv_at hl 0 rfl) ?_
  refine va_get (ci := 7) (v := .ref xaL) (C := RX7) (T := TX7) (N := 11) hx hb hts hinX7 hown hK.1 hw.1 0 rfl rfl 0 (by decide) q_1 (fun _ h9 => h9) rfl dX7_pay_1 ?_
  refine lv_iload_n hx hb dX7_pay_4 rfl (lv_at hl 1 rfl) ?_
  refine lv_iload_n hx hb dX7_pay_5 rfl (lv_at hl 2 rfl) ?_
  refine lv_iload_n hx hb dX7_pay_6 rfl (lv_at hl 3 rfl) ?_
  obtain ⟨r_1, lMo_2, lDe_3, hf, h⟩ := b3_inv h
  refine k_callV (host := "") fx hK hA hw (c_X1_payTo l D k xaL lrNa lrMo lrWa lrDe _ lPe lDa lDr lNa lMo lWa lDe p1 p2 p3 r_1 lMo_2 lDe_3 hf) (cwV 3 hts gX7_pay_X1_payTo rfl rfl rfl (by decide +kernel) ⟨by decide, by decide⟩) (As := [.int p1, .int p2, .int p3]) (wr := [(xh, .inr (7, [.ref xaL, .ref xaT, .ref xaO, .ref xaF, .ref xaS, .ref xaI, .ref xaH, .ref xaR, .ref xaU, .int xTf, .int xTb]))]) (ws' := wX7 k xh xaL xaT xaO xaF xaS xaI xaH xaR xaU xTf xTb ++ (wX1 k xaL lrNa lrMo lrWa lrDe lPe lDa lDr lNa lMo_2 lWa lDe_3)) [1, 2, 3, 4, 5] [0] [0, 1, 2, 3, 4, 5] rfl rfl (by decide) (by decide) (by decide) rfl (by decide) 1 rfl rfl [] rfl hl.1 rfl (Nat.le_of_ble_eq_true rfl) dX7_pay_7 ⟨by decide, by decide⟩ (fun H locs (hw : Wd D A s.heap H locs (wX7 k xh xaL xaT xaO xaF xaS xaI xaH xaR xaU xTf xTb ++ (wX1 k xaL lrNa lrMo lrWa lrDe lPe lDa lDr lNa lMo_2 lWa lDe_3))) => ?_)
  refine W.eq (g2 := F0 m 10 ls ([.int r_1])) rfl ?_
  cases h
  exact k_iret hx hb hr hlocks hw rfl dX7_pay_10 hQ
abbrev rmX7_read : Room := { frames := 3, cells := 0, slots := 0, locals := 81 }
set_option maxHeartbeats 4000000 in
set_option maxRecDepth 100000 in
theorem c_X7_read (l : Launch) (D : va_G) (k : Nat → ClassId) (xh xaL xaT xaO xaF xaS xaI xaH xaR xaU lrNa lrMo lrWa lrDe trNa trMo trWa trDe y0 y1 y2 y3 y0rCe y1rCe y2rCe y3rCe : Nat) (sz : Nat) (xTf : Int32) (xTb : Int32) (lPe : Int32) (lDa : Int32) (lDr : Int32) (lNa : (Nat → Int32)) (lMo : (Nat → Int32)) (lWa : (Nat → Int32)) (lDe : (Nat → Int32)) (tPe : Int32) (tDa : Int32) (tDr : Int32) (tNa : (Nat → Int32)) (tMo : (Nat → Int32)) (tWa : (Nat → Int32)) (tDe : (Nat → Int32)) (y0Th : Int32) (y0La : Int32) (y0Sz : Int32) (y0Ce : (Nat → Int32)) (y1Th : Int32) (y1La : Int32) (y1Sz : Int32) (y1Ce : (Nat → Int32)) (y2Th : Int32) (y2La : Int32) (y2Sz : Int32) (y2Ce : (Nat → Int32)) (y3Th : Int32) (y3La : Int32) (y3Sz : Int32) (y3Ce : (Nat → Int32)) (p1 : Int32) (p2 : Int32) (p3 : Int32) (p4 : Int32) (r_ : Int32) (n_xTb : Int32) (n_lPe : Int32) (n_lDa : Int32) (n_lDr : Int32) (n_lNa : (Nat → Int32)) (n_lMo : (Nat → Int32)) (n_lWa : (Nat → Int32)) (n_lDe : (Nat → Int32)) (n_tPe : Int32) (n_tDa : Int32) (n_tDr : Int32) (n_tNa : (Nat → Int32)) (n_tMo : (Nat → Int32)) (n_tWa : (Nat → Int32)) (n_tDe : (Nat → Int32)) (hf : f_X7_read xTb lPe lDa lDr lNa lMo lWa lDe tPe tDa tDr tNa tMo tWa tDe y0Th y0La y0Sz y0Ce y1Th y1La y1Sz y1Ce y2Th y2La y2Sz y2Ce y3Th y3La y3Sz y3Ce p1 p2 p3 p4 = some (r_, n_xTb, n_lPe, n_lDa, n_lDr, n_lNa, n_lMo, n_lWa, n_lDe, n_tPe, n_tDa, n_tDr, n_tNa, n_tMo, n_tWa, n_tDe)) : mR l yX7_read wsX7_read rmX7_read D k sz [.ref xh, .int p1, .int p2, .int p3, .int p4] (wX7 k xh xaL xaT xaO xaF xaS xaI xaH xaR xaU xTf xTb ++ (wX1 k xaL lrNa lrMo lrWa lrDe lPe lDa lDr lNa lMo lWa lDe ++ (wX1 k xaT trNa trMo trWa trDe tPe tDa tDr tNa tMo tWa tDe ++ (wHA k xaH y0 y1 y2 y3 ++ (wX6 k y0 y0rCe y0Th y0La y0Sz y0Ce ++ (wX6 k y1 y1rCe y1Th y1La y1Sz y1Ce ++ (wX6 k y2 y2rCe y2Th y2La y2Sz y2Ce ++ (wX6 k y3 y3rCe y3Th y3La y3Sz y3Ce)))))))) (wX7 k xh xaL xaT xaO xaF xaS xaI xaH xaR xaU xTf n_xTb ++ (wX1 k xaL lrNa lrMo lrWa lrDe n_lPe n_lDa n_lDr n_lNa n_lMo n_lWa n_lDe ++ (wX1 k xaT trNa trMo trWa trDe n_tPe n_tDa n_tDr n_tNa n_tMo n_tWa n_tDe ++ (wHA k xaH y0 y1 y2 y3 ++ (wX6 k y0 y0rCe y0Th y0La y0Sz y0Ce ++ (wX6 k y1 y1rCe y1Th y1La y1Sz y1Ce ++ (wX6 k y2 y2rCe y2Th y2La y2Sz y2Ce ++ (wX6 k y3 y3rCe y3Th y3La y3Sz y3Ce)))))))) (some (.int r_)) := by
  refine mR_of (cc := cX7_read) (maxL := 10) (ret := some .int) (by decide) rfl (Nat.le_of_ble_eq_true rfl) [(0, .ref xh), (1, .int p1), (2, .int p2), (3, .int p3), (4, .int p4)] rfl ?_
  intro p e s m below meth c A ls args Q cx hK hA hw hl hQ
  have fx := cx.1
  obtain ⟨⟨hx, hb, hml, hown, hts⟩, hr, hlocks⟩ := cx
  have hinX7 : ∀ w ∈ wsX70, w ∈ wsX7_read := fun w h => List.mem_cons_of_mem _ (List.mem_append_left _ (List.mem_append_left _ (List.mem_append_right _ h)))
  have hinX6 : ∀ w ∈ wsX60, w ∈ wsX7_read := fun w h => List.mem_cons_of_mem _ (List.mem_append_left _ (List.mem_append_right _ h))
  have q_1 := hts (.fieldLink RX7 49 "DebtRides" "sheets" "[LDebtRides$Sheet;") (List.mem_of_getElem? (i := 1) rfl)
  have q_2 := hts (.fieldLink RX7 16 "DebtRides" "trial" "LDebtRides$Land;") (List.mem_of_getElem? (i := 2) rfl)
  have q_3 := hts (.fieldLink RX7 10 "DebtRides" "land" "LDebtRides$Land;") (List.mem_of_getElem? (i := 3) rfl)
  have q_4 := hts (.fieldLink RX7 275 "DebtRides$Sheet" "cells" "[I") (List.mem_of_getElem? (i := 4) rfl)
  have q_5 := hts (.fieldLink RX7 278 "DebtRides" "tornBy" "I") (List.mem_of_getElem? (i := 5) rfl)
  have h := hf
  unfold f_X7_read at h
  clear hf
  refine lv_iload_n hx hb dX7_read_0 rfl (lv_at hl 1 rfl) ?_
  obtain ⟨r_1, hf, h⟩ := b1_inv h
  refine k_callS (b := 0) (C := "") (host := "") fx hK hA hw (c_X7_isSheet l D k _ p1 r_1 hf) (va_cwS 1 hts gX7_read_X7_isSheet rfl rfl rfl (by decide +kernel) ⟨by decide, by decide⟩) (As := [.int p1]) (wr := [(xh, .inr (7, [.ref xaL, .ref xaT, .ref xaO, .ref xaF, .ref xaS, .ref xaI, .ref xaH, .ref xaR, .ref xaU, .int xTf, .int xTb])), (xaL, .inr (1, [.int lPe, .int lDa, .int lDr, .ref lrNa, .ref lrMo, .ref lrWa, .ref lrDe])), (lrNa, .inl (k 0, 5, .inl lNa)), (lrMo, .inl (k 0, 5, .inl lMo)), (lrWa, .inl (k 0, 5, .inl lWa)), (lrDe, .inl (k 0, 25, .inl lDe)), (xaT, .inr (1, [.int tPe, .int tDa, .int tDr, .ref trNa, .ref trMo, .ref trWa, .ref trDe])), (trNa, .inl (k 0, 5, .inl tNa)), (trMo, .inl (k 0, 5, .inl tMo)), (trWa, .inl (k 0, 5, .inl tWa)), (trDe, .inl (k 0, 25, .inl tDe)), (xaH, .inl (k 4, 4, .inr (.inr (.inr (.inr (rl [y0, y1, y2, y3])))))), (y0, .inr (6, [.int y0Th, .int y0La, .int y0Sz, .ref y0rCe])), (y0rCe, .inl (k 0, 40, .inl y0Ce)), (y1, .inr (6, [.int y1Th, .int y1La, .int y1Sz, .ref y1rCe])), (y1rCe, .inl (k 0, 40, .inl y1Ce)), (y2, .inr (6, [.int y2Th, .int y2La, .int y2Sz, .ref y2rCe])), (y2rCe, .inl (k 0, 40, .inl y2Ce)), (y3, .inr (6, [.int y3Th, .int y3La, .int y3Sz, .ref y3rCe])), (y3rCe, .inl (k 0, 40, .inl y3Ce))]) (ws' := wX7 k xh xaL xaT xaO xaF xaS xaI xaH xaR xaU xTf xTb ++ (wX1 k xaL lrNa lrMo lrWa lrDe lPe lDa lDr lNa lMo lWa lDe ++ (wX1 k xaT trNa trMo trWa trDe tPe tDa tDr tNa tMo tWa tDe ++ (wHA k xaH y0 y1 y2 y3 ++ (wX6 k y0 y0rCe y0Th y0La y0Sz y0Ce ++ (wX6 k y1 y1rCe y1Th y1La y1Sz y1Ce ++ (wX6 k y2 y2rCe y2Th y2La y2Sz y2Ce ++ (wX6 k y3 y3rCe y3Th y3La y3Sz y3Ce)))))))) [] [0, 1, 2, 3, 4, 5, 6, 7, 8, 9, 10, 11, 12, 13, 14, 15, 16, 17, 18, 19] [0, 1, 2, 3, 4, 5, 6, 7, 8, 9, 10, 11, 12, 13, 14, 15, 16, 17, 18, 19] rfl rfl (by decide) (by decide) (by decide) rfl (by decide) [] rfl hl.1 rfl (Nat.le_of_ble_eq_true rfl) dX7_read_1 ⟨by decide, by decide⟩ (fun H locs (hw : Wd D A s.heap H locs (wX7 k xh xaL xaT xaO xaF xaS xaI xaH xaR xaU xTf xTb ++ (wX1 k xaL lrNa lrMo lrWa lrDe lPe lDa lDr lNa lMo lWa lDe ++ (wX1 k xaT trNa trMo trWa trDe tPe tDa tDr tNa tMo tWa tDe ++ (wHA k xaH y0 y1 y2 y3 ++ (wX6 k y0 y0rCe y0Th y0La y0Sz y0Ce ++ (wX6 k y1 y1rCe y1Th y1La y1Sz y1Ce ++ (wX6 k y2 y2rCe y2Th y2La y2Sz y2Ce ++ (wX6 k y3 y3rCe y3Th y3La y3Sz y3Ce))))))))) => ?_)
  refine W.eq (g2 := F0 m 4 ls ([.int r_1])) rfl ?_
  refine kb_if_eq (tgt := 27) hx hb dX7_read_4 (by decide) h (fun c_4 h => ?_) (fun c_4 h => ?_)
  · refine lv_iconst (v := (-1)) hx hb dX7_read_27 (by decide) ?_
    cases h
    exact k_iret hx hb hr hlocks hw rfl dX7_read_28 hQ
  · refine lv_iload_n hx hb dX7_read_7 rfl (lv_at hl 2 rfl) ?_
    refine lv_iconst (v := 0) hx hb dX7_read_8 (by decide) ?_
    refine lv_iconst (v := 2) hx hb dX7_read_9 (by decide) ?_
    obtain ⟨r_2, hf, h⟩ := b1_inv h
    refine k_callS (b := 0) (C := "") (host := "") fx hK hA hw (c_X7_within l D k _ p2 0 2 r_2 hf) (va_cwS 3 hts gX7_read_X7_within rfl rfl rfl (by decide +kernel) ⟨by decide, by decide⟩) (As := [.int p2, .int 0, .int 2]) (wr := [(xh, .inr (7, [.ref xaL, .ref xaT, .ref xaO, .ref xaF, .ref xaS, .ref xaI, .ref xaH, .ref xaR, .ref xaU, .int xTf, .int xTb])), (xaL, .inr (1, [.int lPe, .int lDa, .int lDr, .ref lrNa, .ref lrMo, .ref lrWa, .ref lrDe])), (lrNa, .inl (k 0, 5, .inl lNa)), (lrMo, .inl (k 0, 5, .inl lMo)), (lrWa, .inl (k 0, 5, .inl lWa)), (lrDe, .inl (k 0, 25, .inl lDe)), (xaT, .inr (1, [.int tPe, .int tDa, .int tDr, .ref trNa, .ref trMo, .ref trWa, .ref trDe])), (trNa, .inl (k 0, 5, .inl tNa)), (trMo, .inl (k 0, 5, .inl tMo)), (trWa, .inl (k 0, 5, .inl tWa)), (trDe, .inl (k 0, 25, .inl tDe)), (xaH, .inl (k 4, 4, .inr (.inr (.inr (.inr (rl [y0, y1, y2, y3])))))), (y0, .inr (6, [.int y0Th, .int y0La, .int y0Sz, .ref y0rCe])), (y0rCe, .inl (k 0, 40, .inl y0Ce)), (y1, .inr (6, [.int y1Th, .int y1La, .int y1Sz, .ref y1rCe])), (y1rCe, .inl (k 0, 40, .inl y1Ce)), (y2, .inr (6, [.int y2Th, .int y2La, .int y2Sz, .ref y2rCe])), (y2rCe, .inl (k 0, 40, .inl y2Ce)), (y3, .inr (6, [.int y3Th, .int y3La, .int y3Sz, .ref y3rCe])), (y3rCe, .inl (k 0, 40, .inl y3Ce))]) (ws' := wX7 k xh xaL xaT xaO xaF xaS xaI xaH xaR xaU xTf xTb ++ (wX1 k xaL lrNa lrMo lrWa lrDe lPe lDa lDr lNa lMo lWa lDe ++ (wX1 k xaT trNa trMo trWa trDe tPe tDa tDr tNa tMo tWa tDe ++ (wHA k xaH y0 y1 y2 y3 ++ (wX6 k y0 y0rCe y0Th y0La y0Sz y0Ce ++ (wX6 k y1 y1rCe y1Th y1La y1Sz y1Ce ++ (wX6 k y2 y2rCe y2Th y2La y2Sz y2Ce ++ (wX6 k y3 y3rCe y3Th y3La y3Sz y3Ce)))))))) [] [0, 1, 2, 3, 4, 5, 6, 7, 8, 9, 10, 11, 12, 13, 14, 15, 16, 17, 18, 19] [0, 1, 2, 3, 4, 5, 6, 7, 8, 9, 10, 11, 12, 13, 14, 15, 16, 17, 18, 19] rfl rfl (by decide) (by decide) (by decide) rfl (by decide) [] rfl hl.1 rfl (Nat.le_of_ble_eq_true rfl) dX7_read_10 ⟨by decide, by decide⟩ (fun H locs (hw : Wd D A s.heap H locs (wX7 k xh xaL xaT xaO xaF xaS xaI xaH xaR xaU xTf xTb ++ (wX1 k xaL lrNa lrMo lrWa lrDe lPe lDa lDr lNa lMo lWa lDe ++ (wX1 k xaT trNa trMo trWa trDe tPe tDa tDr tNa tMo tWa tDe ++ (wHA k xaH y0 y1 y2 y3 ++ (wX6 k y0 y0rCe y0Th y0La y0Sz y0Ce ++ (wX6 k y1 y1rCe y1Th y1La y1Sz y1Ce ++ (wX6 k y2 y2rCe y2Th y2La y2Sz y2Ce ++ (wX6 k y3 y3rCe y3Th y3La y3Sz y3Ce))))))))) => ?_)
    refine W.eq (g2 := F0 m 13 ls ([.int r_2])) rfl ?_
    refine kb_if_eq (tgt := 27) hx hb dX7_read_13 (by decide) h (fun c_13 h => ?_) (fun c_13 h => ?_)
    · refine lv_iconst (v := (-1)) hx hb dX7_read_27 (by decide) ?_
      cases h
      exact k_iret hx hb hr hlocks hw rfl dX7_read_28 hQ
    · refine lv_iload hx hb dX7_read_16 (lv_at hl 4 rfl) ?_
      refine lv_iconst (v := 0) hx hb dX7_read_18 (by decide) ?_
      refine lv_bipush (v := 13) hx hb dX7_read_19 (by decide) ?_
      obtain ⟨r_3, hf, h⟩ := b1_inv h
      refine k_callS (b := 0) (C := "") (host := "") fx hK hA hw (c_X7_within l D k _ p4 0 13 r_3 hf) (va_cwS 3 hts gX7_read_X7_within rfl rfl rfl (by decide +kernel) ⟨by decide, by decide⟩) (As := [.int p4, .int 0, .int 13]) (wr := [(xh, .inr (7, [.ref xaL, .ref xaT, .ref xaO, .ref xaF, .ref xaS, .ref xaI, .ref xaH, .ref xaR, .ref xaU, .int xTf, .int xTb])), (xaL, .inr (1, [.int lPe, .int lDa, .int lDr, .ref lrNa, .ref lrMo, .ref lrWa, .ref lrDe])), (lrNa, .inl (k 0, 5, .inl lNa)), (lrMo, .inl (k 0, 5, .inl lMo)), (lrWa, .inl (k 0, 5, .inl lWa)), (lrDe, .inl (k 0, 25, .inl lDe)), (xaT, .inr (1, [.int tPe, .int tDa, .int tDr, .ref trNa, .ref trMo, .ref trWa, .ref trDe])), (trNa, .inl (k 0, 5, .inl tNa)), (trMo, .inl (k 0, 5, .inl tMo)), (trWa, .inl (k 0, 5, .inl tWa)), (trDe, .inl (k 0, 25, .inl tDe)), (xaH, .inl (k 4, 4, .inr (.inr (.inr (.inr (rl [y0, y1, y2, y3])))))), (y0, .inr (6, [.int y0Th, .int y0La, .int y0Sz, .ref y0rCe])), (y0rCe, .inl (k 0, 40, .inl y0Ce)), (y1, .inr (6, [.int y1Th, .int y1La, .int y1Sz, .ref y1rCe])), (y1rCe, .inl (k 0, 40, .inl y1Ce)), (y2, .inr (6, [.int y2Th, .int y2La, .int y2Sz, .ref y2rCe])), (y2rCe, .inl (k 0, 40, .inl y2Ce)), (y3, .inr (6, [.int y3Th, .int y3La, .int y3Sz, .ref y3rCe])), (y3rCe, .inl (k 0, 40, .inl y3Ce))]) (ws' := wX7 k xh xaL xaT xaO xaF xaS xaI xaH xaR xaU xTf xTb ++ (wX1 k xaL lrNa lrMo lrWa lrDe lPe lDa lDr lNa lMo lWa lDe ++ (wX1 k xaT trNa trMo trWa trDe tPe tDa tDr tNa tMo tWa tDe ++ (wHA k xaH y0 y1 y2 y3 ++ (wX6 k y0 y0rCe y0Th y0La y0Sz y0Ce ++ (wX6 k y1 y1rCe y1Th y1La y1Sz y1Ce ++ (wX6 k y2 y2rCe y2Th y2La y2Sz y2Ce ++ (wX6 k y3 y3rCe y3Th y3La y3Sz y3Ce)))))))) [] [0, 1, 2, 3, 4, 5, 6, 7, 8, 9, 10, 11, 12, 13, 14, 15, 16, 17, 18, 19] [0, 1, 2, 3, 4, 5, 6, 7, 8, 9, 10, 11, 12, 13, 14, 15, 16, 17, 18, 19] rfl rfl (by decide) (by decide) (by decide) rfl (by decide) [] rfl hl.1 rfl (Nat.le_of_ble_eq_true rfl) dX7_read_21 ⟨by decide, by decide⟩ (fun H locs (hw : Wd D A s.heap H locs (wX7 k xh xaL xaT xaO xaF xaS xaI xaH xaR xaU xTf xTb ++ (wX1 k xaL lrNa lrMo lrWa lrDe lPe lDa lDr lNa lMo lWa lDe ++ (wX1 k xaT trNa trMo trWa trDe tPe tDa tDr tNa tMo tWa tDe ++ (wHA k xaH y0 y1 y2 y3 ++ (wX6 k y0 y0rCe y0Th y0La y0Sz y0Ce ++ (wX6 k y1 y1rCe y1Th y1La y1Sz y1Ce ++ (wX6 k y2 y2rCe y2Th y2La y2Sz y2Ce ++ (wX6 k y3 y3rCe y3Th y3La y3Sz y3Ce))))))))) => ?_)
      refine W.eq (g2 := F0 m 24 ls ([.int r_3])) rfl ?_
      refine kb_if_ne (tgt := 29) hx hb dX7_read_24 (by decide) h (fun c_24 h => ?_) (fun c_24 h => ?_)
      · refine lv_iconst (v := (-1)) hx hb dX7_read_27 (by decide) ?_
        cases h
        exact k_iret hx hb hr hlocks hw rfl dX7_read_28 hQ
      · refine lv_aload_n hx hb dX7_read_29 rfl (lv_at hl 0 rfl) ?_
        refine va_get (ci := 7) (v := .ref xaH) (C := RX7) (T := TX7) (N := 11) hx hb hts hinX7 hown hK.1 hw.1 0 rfl rfl 6 (by decide) q_1 (fun _ h9 => h9) rfl dX7_read_30 ?_
        refine lv_iload_n hx hb dX7_read_33 rfl (lv_at hl 1 rfl) ?_
        by_cases c_34 : p1 = 0
        · rw [if_pos c_34] at h
          refine k_aald hx hb hK hw 11 4 (j := 0) (a' := y0) rfl rfl c_34 (by unfold vp_in; decide) rfl dX7_read_34 ?_
          refine lv_astore (lv' := [(5, .ref y0), (0, .ref xh), (1, .int p1), (2, .int p2), (3, .int p3), (4, .int p4)]) hx hb dX7_read_35 hl (by decide) rfl (fun ls hl => ?_)
          refine lv_aload_n hx hb dX7_read_37 rfl (lv_at hl 1 rfl) ?_
          refine va_get (ci := 7) (v := .ref xaT) (C := RX7) (T := TX7) (N := 11) hx hb hts hinX7 hown hK.1 hw.1 0 rfl rfl 1 (by decide) q_2 (fun _ h9 => h9) rfl dX7_read_38 ?_
          refine lv_aload_n hx hb dX7_read_41 rfl (lv_at hl 1 rfl) ?_
          refine va_get (ci := 7) (v := .ref xaL) (C := RX7) (T := TX7) (N := 11) hx hb hts hinX7 hown hK.1 hw.1 0 rfl rfl 0 (by decide) q_3 (fun _ h9 => h9) rfl dX7_read_42 ?_
          obtain ⟨tPe_4, tDa_5, tDr_6, tNa_7, tMo_8, tWa_9, tDe_10, hf, h⟩ := b7_inv h
          refine k_callV (host := "") fx hK hA hw (c_X1_become l D k xaT trNa trMo trWa trDe xaL lrNa lrMo lrWa lrDe _ tPe tDa tDr tNa tMo tWa tDe lPe lDa lDr lNa lMo lWa lDe tPe_4 tDa_5 tDr_6 tNa_7 tMo_8 tWa_9 tDe_10 hf) (cwV 1 hts gX7_read_X1_become rfl rfl rfl (by decide +kernel) ⟨by decide, by decide⟩) (As := [.ref xaL]) (wr := [(xh, .inr (7, [.ref xaL, .ref xaT, .ref xaO, .ref xaF, .ref xaS, .ref xaI, .ref xaH, .ref xaR, .ref xaU, .int xTf, .int xTb])), (xaH, .inl (k 4, 4, .inr (.inr (.inr (.inr (rl [y0, y1, y2, y3])))))), (y0, .inr (6, [.int y0Th, .int y0La, .int y0Sz, .ref y0rCe])), (y0rCe, .inl (k 0, 40, .inl y0Ce)), (y1, .inr (6, [.int y1Th, .int y1La, .int y1Sz, .ref y1rCe])), (y1rCe, .inl (k 0, 40, .inl y1Ce)), (y2, .inr (6, [.int y2Th, .int y2La, .int y2Sz, .ref y2rCe])), (y2rCe, .inl (k 0, 40, .inl y2Ce)), (y3, .inr (6, [.int y3Th, .int y3La, .int y3Sz, .ref y3rCe])), (y3rCe, .inl (k 0, 40, .inl y3Ce))]) (ws' := wX7 k xh xaL xaT xaO xaF xaS xaI xaH xaR xaU xTf xTb ++ (wX1 k xaL lrNa lrMo lrWa lrDe lPe lDa lDr lNa lMo lWa lDe ++ (wX1 k xaT trNa trMo trWa trDe tPe_4 tDa_5 tDr_6 tNa_7 tMo_8 tWa_9 tDe_10 ++ (wHA k xaH y0 y1 y2 y3 ++ (wX6 k y0 y0rCe y0Th y0La y0Sz y0Ce ++ (wX6 k y1 y1rCe y1Th y1La y1Sz y1Ce ++ (wX6 k y2 y2rCe y2Th y2La y2Sz y2Ce ++ (wX6 k y3 y3rCe y3Th y3La y3Sz y3Ce)))))))) [6, 7, 8, 9, 10, 1, 2, 3, 4, 5] [0, 11, 12, 13, 14, 15, 16, 17, 18, 19] [0, 15, 16, 17, 18, 19, 10, 11, 12, 13, 14, 1, 2, 3, 4, 5, 6, 7, 8, 9] rfl rfl (by decide) (by decide) (by decide) rfl (by decide) 1 rfl rfl [] rfl hl.1 rfl (Nat.le_of_ble_eq_true rfl) dX7_read_45 ⟨by decide, by decide⟩ (fun H locs (hw : Wd D A s.heap H locs (wX7 k xh xaL xaT xaO xaF xaS xaI xaH xaR xaU xTf xTb ++ (wX1 k xaL lrNa lrMo lrWa lrDe lPe lDa lDr lNa lMo lWa lDe ++ (wX1 k xaT trNa trMo trWa trDe tPe_4 tDa_5 tDr_6 tNa_7 tMo_8 tWa_9 tDe_10 ++ (wHA k xaH y0 y1 y2 y3 ++ (wX6 k y0 y0rCe y0Th y0La y0Sz y0Ce ++ (wX6 k y1 y1rCe y1Th y1La y1Sz y1Ce ++ (wX6 k y2 y2rCe y2Th y2La y2Sz y2Ce ++ (wX6 k y3 y3rCe y3Th y3La y3Sz y3Ce))))))))) => ?_)
          refine W.eq (g2 := F0 m 48 ls ([])) rfl ?_
          refine lv_iconst (v := 0) hx hb dX7_read_48 (by decide) ?_
          refine lv_istore (lv' := [(6, .int 0), (5, .ref y0), (0, .ref xh), (1, .int p1), (2, .int p2), (3, .int p3), (4, .int p4)]) hx hb dX7_read_49 hl (by decide) rfl (fun ls hl => ?_)
          refine lv_iconst (v := 0) hx hb dX7_read_51 (by decide) ?_
          refine lv_istore (lv' := [(7, .int 0), (6, .int 0), (5, .ref y0), (0, .ref xh), (1, .int p1), (2, .int p2), (3, .int p3), (4, .int p4)]) hx hb dX7_read_52 hl (by decide) rfl (fun ls hl => ?_)
          refine lv_iconst (v := 0) hx hb dX7_read_54 (by decide) ?_
          refine lv_istore (lv' := [(8, .int 0), (7, .int 0), (6, .int 0), (5, .ref y0), (0, .ref xh), (1, .int p1), (2, .int p2), (3, .int p3), (4, .int p4)]) hx hb dX7_read_55 hl (by decide) rfl (fun ls hl => ?_)
          obtain ⟨ex_57, hL_57, hX_57⟩ := bs4_inv h
          clear h
          have X_57 : ∀ (v6_16 : Int32) (v7_17 : Int32) (tMo_18 : (Nat → Int32)) (tDe_19 : (Nat → Int32)), ex_57 = Sum.inr (v6_16, v7_17, tMo_18, tDe_19) → ∀ (H : Heap) (locs : List Loc) (ls : Array Slot), Wd D A s.heap H locs (wX7 k xh xaL xaT xaO xaF xaS xaI xaH xaR xaU xTf xTb ++ (wX1 k xaL lrNa lrMo lrWa lrDe lPe lDa lDr lNa lMo lWa lDe ++ (wX1 k xaT trNa trMo trWa trDe tPe_4 tDa_5 tDr_6 tNa_7 tMo_18 tWa_9 tDe_19 ++ (wHA k xaH y0 y1 y2 y3 ++ (wX6 k y0 y0rCe y0Th y0La y0Sz y0Ce ++ (wX6 k y1 y1rCe y1Th y1La y1Sz y1Ce ++ (wX6 k y2 y2rCe y2Th y2La y2Sz y2Ce ++ (wX6 k y3 y3rCe y3Th y3La y3Sz y3Ce)))))))) → lv_has ls 10 [(0, .ref xh), (6, .int v6_16), (7, .int v7_17)] → W p l e rmX7_read s m args below meth c H locs 0 0 Q (F0 m 145 ls []) := by
            intro v6_16 v7_17 tMo_18 tDe_19 hex H locs ls hw hl
            subst hex
            have h := bs4_r hX_57
            refine lv_aload_n hx hb dX7_read_145 rfl (lv_at hl 0 rfl) ?_
            refine va_get (ci := 7) (v := .ref xaL) (C := RX7) (T := TX7) (N := 11) hx hb hts hinX7 hown hK.1 hw.1 0 rfl rfl 0 (by decide) q_3 (fun _ h9 => h9) rfl dX7_read_146 ?_
            refine lv_aload_n hx hb dX7_read_149 rfl (lv_at hl 0 rfl) ?_
            refine va_get (ci := 7) (v := .ref xaT) (C := RX7) (T := TX7) (N := 11) hx hb hts hinX7 hown hK.1 hw.1 0 rfl rfl 1 (by decide) q_2 (fun _ h9 => h9) rfl dX7_read_150 ?_
            obtain ⟨lPe_27, lDa_28, lDr_29, lNa_30, lMo_31, lWa_32, lDe_33, hf, h⟩ := b7_inv h
            refine k_callV (host := "") fx hK hA hw (c_X1_become l D k xaL lrNa lrMo lrWa lrDe xaT trNa trMo trWa trDe _ lPe lDa lDr lNa lMo lWa lDe tPe_4 tDa_5 tDr_6 tNa_7 tMo_18 tWa_9 tDe_19 lPe_27 lDa_28 lDr_29 lNa_30 lMo_31 lWa_32 lDe_33 hf) (cwV 1 hts gX7_read_X1_become rfl rfl rfl (by decide +kernel) ⟨by decide, by decide⟩) (As := [.ref xaT]) (wr := [(xh, .inr (7, [.ref xaL, .ref xaT, .ref xaO, .ref xaF, .ref xaS, .ref xaI, .ref xaH, .ref xaR, .ref xaU, .int xTf, .int xTb])), (xaH, .inl (k 4, 4, .inr (.inr (.inr (.inr (rl [y0, y1, y2, y3])))))), (y0, .inr (6, [.int y0Th, .int y0La, .int y0Sz, .ref y0rCe])), (y0rCe, .inl (k 0, 40, .inl y0Ce)), (y1, .inr (6, [.int y1Th, .int y1La, .int y1Sz, .ref y1rCe])), (y1rCe, .inl (k 0, 40, .inl y1Ce)), (y2, .inr (6, [.int y2Th, .int y2La, .int y2Sz, .ref y2rCe])), (y2rCe, .inl (k 0, 40, .inl y2Ce)), (y3, .inr (6, [.int y3Th, .int y3La, .int y3Sz, .ref y3rCe])), (y3rCe, .inl (k 0, 40, .inl y3Ce))]) (ws' := wX7 k xh xaL xaT xaO xaF xaS xaI xaH xaR xaU xTf xTb ++ (wX1 k xaL lrNa lrMo lrWa lrDe lPe_27 lDa_28 lDr_29 lNa_30 lMo_31 lWa_32 lDe_33 ++ (wX1 k xaT trNa trMo trWa trDe tPe_4 tDa_5 tDr_6 tNa_7 tMo_18 tWa_9 tDe_19 ++ (wHA k xaH y0 y1 y2 y3 ++ (wX6 k y0 y0rCe y0Th y0La y0Sz y0Ce ++ (wX6 k y1 y1rCe y1Th y1La y1Sz y1Ce ++ (wX6 k y2 y2rCe y2Th y2La y2Sz y2Ce ++ (wX6 k y3 y3rCe y3Th y3La y3Sz y3Ce)))))))) [1, 2, 3, 4, 5, 6, 7, 8, 9, 10] [0, 11, 12, 13, 14, 15, 16, 17, 18, 19] [0, 10, 11, 12, 13, 14, 15, 16, 17, 18, 19, 1, 2, 3, 4, 5, 6, 7, 8, 9] rfl rfl (by decide) (by decide) (by decide) rfl (by decide) 1 rfl rfl [] rfl hl.1 rfl (Nat.le_of_ble_eq_true rfl) dX7_read_153 ⟨by decide, by decide⟩ (fun H locs (hw : Wd D A s.heap H locs (wX7 k xh xaL xaT xaO xaF xaS xaI xaH xaR xaU xTf xTb ++ (wX1 k xaL lrNa lrMo lrWa lrDe lPe_27 lDa_28 lDr_29 lNa_30 lMo_31 lWa_32 lDe_33 ++ (wX1 k xaT trNa trMo trWa trDe tPe_4 tDa_5 tDr_6 tNa_7 tMo_18 tWa_9 tDe_19 ++ (wHA k xaH y0 y1 y2 y3 ++ (wX6 k y0 y0rCe y0Th y0La y0Sz y0Ce ++ (wX6 k y1 y1rCe y1Th y1La y1Sz y1Ce ++ (wX6 k y2 y2rCe y2Th y2La y2Sz y2Ce ++ (wX6 k y3 y3rCe y3Th y3La y3Sz y3Ce))))))))) => ?_)
            refine W.eq (g2 := F0 m 156 ls ([])) rfl ?_
            refine lv_aload_n hx hb dX7_read_156 rfl (lv_at hl 0 rfl) ?_
            refine lv_iload hx hb dX7_read_157 (lv_at hl 1 rfl) ?_
            refine va_put (ci := 7) (v := .int v6_16) (ty := tyX7 10) (C := RX7) (T := TX7) (N := 11) hx hb hts hinX7 tyX7 tyX7_ok nmX7 hown hK.1 hw.1 hw.2.1 hw.2.2 0 rfl rfl 10 (by decide) q_5 (fun _ h9 => h9) rfl (tyX7_ok 10 (by decide)) rfl rfl (Nat.le_of_ble_eq_true rfl) dX7_read_159 (fun H locs hP hD hS => ?_)
            have hw : Wd D A s.heap H locs (wX7 k xh xaL xaT xaO xaF xaS xaI xaH xaR xaU xTf v6_16 ++ (wX1 k xaL lrNa lrMo lrWa lrDe lPe_27 lDa_28 lDr_29 lNa_30 lMo_31 lWa_32 lDe_33 ++ (wX1 k xaT trNa trMo trWa trDe tPe_4 tDa_5 tDr_6 tNa_7 tMo_18 tWa_9 tDe_19 ++ (wHA k xaH y0 y1 y2 y3 ++ (wX6 k y0 y0rCe y0Th y0La y0Sz y0Ce ++ (wX6 k y1 y1rCe y1Th y1La y1Sz y1Ce ++ (wX6 k y2 y2rCe y2Th y2La y2Sz y2Ce ++ (wX6 k y3 y3rCe y3Th y3La y3Sz y3Ce)))))))) := ⟨hP, hD, hS⟩
            refine lv_iload hx hb dX7_read_162 (lv_at hl 2 rfl) ?_
            cases h
            exact k_iret hx hb hr hlocks hw rfl dX7_read_164 hQ
          have LP_57 : ∀ (n : Nat) (v6_11 : Int32) (v7_12 : Int32) (v8_13 : Int32) (tMo_14 : (Nat → Int32)) (tDe_15 : (Nat → Int32)), f_X7_read_L57 xTb lPe lDa lDr lNa lMo lWa lDe y0Th y0La y0Sz y0Ce p2 p3 p4 tPe_4 tDa_5 tDr_6 tNa_7 tWa_9 n v6_11 v7_12 v8_13 tMo_14 tDe_15 = some ex_57 → ∀ (H : Heap) (locs : List Loc) (ls : Array Slot), Wd D A s.heap H locs (wX7 k xh xaL xaT xaO xaF xaS xaI xaH xaR xaU xTf xTb ++ (wX1 k xaL lrNa lrMo lrWa lrDe lPe lDa lDr lNa lMo lWa lDe ++ (wX1 k xaT trNa trMo trWa trDe tPe_4 tDa_5 tDr_6 tNa_7 tMo_14 tWa_9 tDe_15 ++ (wHA k xaH y0 y1 y2 y3 ++ (wX6 k y0 y0rCe y0Th y0La y0Sz y0Ce ++ (wX6 k y1 y1rCe y1Th y1La y1Sz y1Ce ++ (wX6 k y2 y2rCe y2Th y2La y2Sz y2Ce ++ (wX6 k y3 y3rCe y3Th y3La y3Sz y3Ce)))))))) → lv_has ls 10 [(0, .ref xh), (2, .int p2), (3, .int p3), (4, .int p4), (5, .ref y0), (6, .int v6_11), (7, .int v7_12), (8, .int v8_13)] → W p l e rmX7_read s m args below meth c H locs 0 0 Q (F0 m 57 ls []) := by
            clear hL_57 hw hl
            intro n
            induction n with
            | zero => intro v6_11 v7_12 v8_13 tMo_14 tDe_15 h; rw [f_X7_read_L57] at h; cases h
            | succ n ih =>
              intro v6_11 v7_12 v8_13 tMo_14 tDe_15 h H locs ls hw hl
              rw [f_X7_read_L57] at h
              refine lv_iload hx hb dX7_read_57 (lv_at hl 7 rfl) ?_
              refine lv_iload hx hb dX7_read_59 (lv_at hl 3 rfl) ?_
              refine kb_icmp_ge (tgt := 145) hx hb dX7_read_61 (by decide) h (fun c_61 h => ?_) (fun c_61 h => ?_)
              · cases h
                exact X_57 _ _ _ _ rfl _ _ _ hw (lv_sub hl [0, 5, 6] rfl)
              · refine lv_iload hx hb dX7_read_64 (lv_at hl 5 rfl) ?_
                refine kb_if_ne (tgt := 145) hx hb dX7_read_66 (by decide) h (fun c_66 h => ?_) (fun c_66 h => ?_)
                · refine lv_iload_n hx hb dX7_read_69 rfl (lv_at hl 2 rfl) ?_
                  refine lv_iconst (v := 3) hx hb dX7_read_70 (by decide) ?_
                  refine lv_iload hx hb dX7_read_71 (lv_at hl 7 rfl) ?_
                  refine lv_imul hx hb dX7_read_73 ?_
                  refine lv_iadd hx hb dX7_read_74 ?_
                  refine lv_istore (lv' := [(9, .int (p3 + (3 * v8_13))), (0, .ref xh), (2, .int p2), (3, .int p3), (4, .int p4), (5, .ref y0), (6, .int v6_11), (7, .int v7_12), (8, .int v8_13)]) hx hb dX7_read_75 hl (by decide) rfl (fun ls hl => ?_)
                  refine lv_aload hx hb dX7_read_77 (lv_at hl 5 rfl) ?_
                  refine lv_iload_n hx hb dX7_read_79 rfl (lv_at hl 2 rfl) ?_
                  refine lv_iload hx hb dX7_read_80 (lv_at hl 0 rfl) ?_
                  obtain ⟨r_20, hf, h⟩ := b1_inv h
                  refine k_callV (host := "") fx hK hA hw (c_X6_faultOfReading l D k y0 y0rCe _ y0Th y0La y0Sz y0Ce p2 (p3 + (3 * v8_13)) r_20 hf) (cwV 2 hts gX7_read_X6_faultOfReading rfl rfl rfl (by decide +kernel) ⟨by decide, by decide⟩) (As := [.int p2, .int (p3 + (3 * v8_13))]) (wr := [(xh, .inr (7, [.ref xaL, .ref xaT, .ref xaO, .ref xaF, .ref xaS, .ref xaI, .ref xaH, .ref xaR, .ref xaU, .int xTf, .int xTb])), (xaL, .inr (1, [.int lPe, .int lDa, .int lDr, .ref lrNa, .ref lrMo, .ref lrWa, .ref lrDe])), (lrNa, .inl (k 0, 5, .inl lNa)), (lrMo, .inl (k 0, 5, .inl lMo)), (lrWa, .inl (k 0, 5, .inl lWa)), (lrDe, .inl (k 0, 25, .inl lDe)), (xaT, .inr (1, [.int tPe_4, .int tDa_5, .int tDr_6, .ref trNa, .ref trMo, .ref trWa, .ref trDe])), (trNa, .inl (k 0, 5, .inl tNa_7)), (trMo, .inl (k 0, 5, .inl tMo_14)), (trWa, .inl (k 0, 5, .inl tWa_9)), (trDe, .inl (k 0, 25, .inl tDe_15)), (xaH, .inl (k 4, 4, .inr (.inr (.inr (.inr (rl [y0, y1, y2, y3])))))), (y1, .inr (6, [.int y1Th, .int y1La, .int y1Sz, .ref y1rCe])), (y1rCe, .inl (k 0, 40, .inl y1Ce)), (y2, .inr (6, [.int y2Th, .int y2La, .int y2Sz, .ref y2rCe])), (y2rCe, .inl (k 0, 40, .inl y2Ce)), (y3, .inr (6, [.int y3Th, .int y3La, .int y3Sz, .ref y3rCe])), (y3rCe, .inl (k 0, 40, .inl y3Ce))]) (ws' := wX7 k xh xaL xaT xaO xaF xaS xaI xaH xaR xaU xTf xTb ++ (wX1 k xaL lrNa lrMo lrWa lrDe lPe lDa lDr lNa lMo lWa lDe ++ (wX1 k xaT trNa trMo trWa trDe tPe_4 tDa_5 tDr_6 tNa_7 tMo_14 tWa_9 tDe_15 ++ (wHA k xaH y0 y1 y2 y3 ++ (wX6 k y0 y0rCe y0Th y0La y0Sz y0Ce ++ (wX6 k y1 y1rCe y1Th y1La y1Sz y1Ce ++ (wX6 k y2 y2rCe y2Th y2La y2Sz y2Ce ++ (wX6 k y3 y3rCe y3Th y3La y3Sz y3Ce)))))))) [12, 13] [0, 1, 2, 3, 4, 5, 6, 7, 8, 9, 10, 11, 14, 15, 16, 17, 18, 19] [0, 1, 2, 3, 4, 5, 6, 7, 8, 9, 10, 11, 18, 19, 12, 13, 14, 15, 16, 17] rfl rfl (by decide) (by decide) (by decide) rfl (by decide) 6 rfl rfl [] rfl hl.1 rfl (Nat.le_of_ble_eq_true rfl) dX7_read_82 ⟨by decide, by decide⟩ (fun H locs (hw : Wd D A s.heap H locs (wX7 k xh xaL xaT xaO xaF xaS xaI xaH xaR xaU xTf xTb ++ (wX1 k xaL lrNa lrMo lrWa lrDe lPe lDa lDr lNa lMo lWa lDe ++ (wX1 k xaT trNa trMo trWa trDe tPe_4 tDa_5 tDr_6 tNa_7 tMo_14 tWa_9 tDe_15 ++ (wHA k xaH y0 y1 y2 y3 ++ (wX6 k y0 y0rCe y0Th y0La y0Sz y0Ce ++ (wX6 k y1 y1rCe y1Th y1La y1Sz y1Ce ++ (wX6 k y2 y2rCe y2Th y2La y2Sz y2Ce ++ (wX6 k y3 y3rCe y3Th y3La y3Sz y3Ce))))))))) => ?_)
                  refine W.eq (g2 := F0 m 85 ls ([.int r_20])) rfl ?_
                  refine lv_istore (lv' := [(6, .int r_20), (9, .int (p3 + (3 * v8_13))), (0, .ref xh), (2, .int p2), (3, .int p3), (4, .int p4), (5, .ref y0), (7, .int v7_12), (8, .int v8_13)]) hx hb dX7_read_85 hl (by decide) rfl (fun ls hl => ?_)
                  refine lv_iload hx hb dX7_read_87 (lv_at hl 0 rfl) ?_
                  refine kb_if_ne (tgt := 139) hx hb dX7_read_89 (by decide) h (fun c_89 h => ?_) (fun c_89 h => ?_)
                  · refine lv_aload_n hx hb dX7_read_92 rfl (lv_at hl 2 rfl) ?_
                    refine va_get (ci := 7) (v := .ref xaT) (C := RX7) (T := TX7) (N := 11) hx hb hts hinX7 hown hK.1 hw.1 0 rfl rfl 1 (by decide) q_2 (fun _ h9 => h9) rfl dX7_read_93 ?_
                    refine lv_aload hx hb dX7_read_96 (lv_at hl 6 rfl) ?_
                    refine va_get (ci := 6) (v := .ref y0rCe) (C := RX6) (T := TX6) (N := 4) hx hb hts hinX6 hown hK.1 hw.1 12 rfl rfl 3 (by decide) q_4 (fun _ h9 => h9) rfl dX7_read_98 ?_
                    refine lv_iload hx hb dX7_read_101 (lv_at hl 1 rfl) ?_
                    refine k_iald hx hb hK hw 13 rfl dX7_read_103 h (fun a_21 h => ?_)
                    refine lv_aload hx hb dX7_read_104 (lv_at hl 6 rfl) ?_
                    refine va_get (ci := 6) (v := .ref y0rCe) (C := RX6) (T := TX6) (N := 4) hx hb hts hinX6 hown hK.1 hw.1 12 rfl rfl 3 (by decide) q_4 (fun _ h9 => h9) rfl dX7_read_106 ?_
                    refine lv_iload hx hb dX7_read_109 (lv_at hl 1 rfl) ?_
                    refine lv_iconst (v := 1) hx hb dX7_read_111 (by decide) ?_
                    refine lv_iadd hx hb dX7_read_112 ?_
                    refine k_iald hx hb hK hw 13 rfl dX7_read_113 h (fun a_22 h => ?_)
                    refine lv_aload hx hb dX7_read_114 (lv_at hl 6 rfl) ?_
                    refine va_get (ci := 6) (v := .ref y0rCe) (C := RX6) (T := TX6) (N := 4) hx hb hts hinX6 hown hK.1 hw.1 12 rfl rfl 3 (by decide) q_4 (fun _ h9 => h9) rfl dX7_read_116 ?_
                    refine lv_iload hx hb dX7_read_119 (lv_at hl 1 rfl) ?_
                    refine lv_iconst (v := 2) hx hb dX7_read_121 (by decide) ?_
                    refine lv_iadd hx hb dX7_read_122 ?_
                    refine k_iald hx hb hK hw 13 rfl dX7_read_123 h (fun a_23 h => ?_)
                    obtain ⟨r_24, tMo_25, tDe_26, hf, h⟩ := b3_inv h
                    refine k_callV (host := "") fx hK hA hw (c_X1_payTo l D k xaT trNa trMo trWa trDe _ tPe_4 tDa_5 tDr_6 tNa_7 tMo_14 tWa_9 tDe_15 a_21 a_22 a_23 r_24 tMo_25 tDe_26 hf) (cwV 3 hts gX7_read_X1_payTo rfl rfl rfl (by decide +kernel) ⟨by decide, by decide⟩) (As := [.int a_21, .int a_22, .int a_23]) (wr := [(xh, .inr (7, [.ref xaL, .ref xaT, .ref xaO, .ref xaF, .ref xaS, .ref xaI, .ref xaH, .ref xaR, .ref xaU, .int xTf, .int xTb])), (xaL, .inr (1, [.int lPe, .int lDa, .int lDr, .ref lrNa, .ref lrMo, .ref lrWa, .ref lrDe])), (lrNa, .inl (k 0, 5, .inl lNa)), (lrMo, .inl (k 0, 5, .inl lMo)), (lrWa, .inl (k 0, 5, .inl lWa)), (lrDe, .inl (k 0, 25, .inl lDe)), (xaH, .inl (k 4, 4, .inr (.inr (.inr (.inr (rl [y0, y1, y2, y3])))))), (y0, .inr (6, [.int y0Th, .int y0La, .int y0Sz, .ref y0rCe])), (y0rCe, .inl (k 0, 40, .inl y0Ce)), (y1, .inr (6, [.int y1Th, .int y1La, .int y1Sz, .ref y1rCe])), (y1rCe, .inl (k 0, 40, .inl y1Ce)), (y2, .inr (6, [.int y2Th, .int y2La, .int y2Sz, .ref y2rCe])), (y2rCe, .inl (k 0, 40, .inl y2Ce)), (y3, .inr (6, [.int y3Th, .int y3La, .int y3Sz, .ref y3rCe])), (y3rCe, .inl (k 0, 40, .inl y3Ce))]) (ws' := wX7 k xh xaL xaT xaO xaF xaS xaI xaH xaR xaU xTf xTb ++ (wX1 k xaL lrNa lrMo lrWa lrDe lPe lDa lDr lNa lMo lWa lDe ++ (wX1 k xaT trNa trMo trWa trDe tPe_4 tDa_5 tDr_6 tNa_7 tMo_25 tWa_9 tDe_26 ++ (wHA k xaH y0 y1 y2 y3 ++ (wX6 k y0 y0rCe y0Th y0La y0Sz y0Ce ++ (wX6 k y1 y1rCe y1Th y1La y1Sz y1Ce ++ (wX6 k y2 y2rCe y2Th y2La y2Sz y2Ce ++ (wX6 k y3 y3rCe y3Th y3La y3Sz y3Ce)))))))) [6, 7, 8, 9, 10] [0, 1, 2, 3, 4, 5, 11, 12, 13, 14, 15, 16, 17, 18, 19] [0, 1, 2, 3, 4, 5, 15, 16, 17, 18, 19, 6, 7, 8, 9, 10, 11, 12, 13, 14] rfl rfl (by decide) (by decide) (by decide) rfl (by decide) 1 rfl rfl [] rfl hl.1 rfl (Nat.le_of_ble_eq_true rfl) dX7_read_124 ⟨by decide, by decide⟩ (fun H locs (hw : Wd D A s.heap H locs (wX7 k xh xaL xaT xaO xaF xaS xaI xaH xaR xaU xTf xTb ++ (wX1 k xaL lrNa lrMo lrWa lrDe lPe lDa lDr lNa lMo lWa lDe ++ (wX1 k xaT trNa trMo trWa trDe tPe_4 tDa_5 tDr_6 tNa_7 tMo_25 tWa_9 tDe_26 ++ (wHA k xaH y0 y1 y2 y3 ++ (wX6 k y0 y0rCe y0Th y0La y0Sz y0Ce ++ (wX6 k y1 y1rCe y1Th y1La y1Sz y1Ce ++ (wX6 k y2 y2rCe y2Th y2La y2Sz y2Ce ++ (wX6 k y3 y3rCe y3Th y3La y3Sz y3Ce))))))))) => ?_)
                    refine W.eq (g2 := F0 m 127 ls ([.int r_24])) rfl ?_
                    refine kb_if_ge (tgt := 136) hx hb dX7_read_127 (by decide) h (fun c_127 h => ?_) (fun c_127 h => ?_)
                    · refine lv_iinc (v := v7_12 + 1) (lv' := [(7, .int (v7_12 + 1)), (6, .int r_20), (9, .int (p3 + (3 * v8_13))), (0, .ref xh), (2, .int p2), (3, .int p3), (4, .int p4), (5, .ref y0), (8, .int v8_13)]) hx hb dX7_read_136 hl (k := 7) rfl rfl (by decide) rfl (fun ls hl => ?_)
                      refine lv_iinc (v := v8_13 + 1) (lv' := [(8, .int (v8_13 + 1)), (7, .int (v7_12 + 1)), (6, .int r_20), (9, .int (p3 + (3 * v8_13))), (0, .ref xh), (2, .int p2), (3, .int p3), (4, .int p4), (5, .ref y0)]) hx hb dX7_read_139 hl (k := 8) rfl rfl (by decide) rfl (fun ls hl => ?_)
                      refine lv_goto (tgt := 57) hx hb dX7_read_142 (by decide) ?_
                      exact ih _ _ _ _ _ h _ _ _ hw (lv_sub hl [4, 5, 6, 7, 8, 2, 1, 0] rfl)
                    · refine lv_bipush (v := (-20)) hx hb dX7_read_130 (by decide) ?_
                      refine lv_iload hx hb dX7_read_132 (lv_at hl 8 rfl) ?_
                      refine lv_isub hx hb dX7_read_134 ?_
                      cases h
                      have h := bs4_l hX_57
                      have g0 := Option.some.inj h
                      clear h
                      obtain ⟨e0, g1⟩ := Prod.mk.inj g0
                      obtain ⟨e1, g2⟩ := Prod.mk.inj g1
                      obtain ⟨e2, g3⟩ := Prod.mk.inj g2
                      obtain ⟨e3, g4⟩ := Prod.mk.inj g3
                      obtain ⟨e4, g5⟩ := Prod.mk.inj g4
                      obtain ⟨e5, g6⟩ := Prod.mk.inj g5
                      obtain ⟨e6, g7⟩ := Prod.mk.inj g6
                      obtain ⟨e7, g8⟩ := Prod.mk.inj g7
                      obtain ⟨e8, g9⟩ := Prod.mk.inj g8
                      obtain ⟨e9, g10⟩ := Prod.mk.inj g9
                      obtain ⟨e10, g11⟩ := Prod.mk.inj g10
                      obtain ⟨e11, g12⟩ := Prod.mk.inj g11
                      obtain ⟨e12, g13⟩ := Prod.mk.inj g12
                      obtain ⟨e13, g14⟩ := Prod.mk.inj g13
                      obtain ⟨e14, g15⟩ := Prod.mk.inj g14
                      subst e0; subst e1; subst e2; subst e3; subst e4; subst e5; subst e6; subst e7; subst e8; subst e9; subst e10; subst e11; subst e12; subst e13; subst e14; subst g15
                      exact k_iret hx hb hr hlocks hw rfl dX7_read_135 hQ
                  · refine lv_iinc (v := v8_13 + 1) (lv' := [(8, .int (v8_13 + 1)), (6, .int r_20), (9, .int (p3 + (3 * v8_13))), (0, .ref xh), (2, .int p2), (3, .int p3), (4, .int p4), (5, .ref y0), (7, .int v7_12)]) hx hb dX7_read_139 hl (k := 8) rfl rfl (by decide) rfl (fun ls hl => ?_)
                    refine lv_goto (tgt := 57) hx hb dX7_read_142 (by decide) ?_
                    exact ih _ _ _ _ _ h _ _ _ hw (lv_sub hl [3, 4, 5, 6, 7, 1, 8, 0] rfl)
                · cases h
                  exact X_57 _ _ _ _ rfl _ _ _ hw (lv_sub hl [0, 5, 6] rfl)
          exact LP_57 400 0 0 0 tMo_8 tDe_10 hL_57 _ _ _ hw (lv_sub hl [4, 6, 7, 8, 3, 2, 1, 0] rfl)
        · rw [if_neg c_34] at h
          by_cases c_34 : p1 = 1
          · rw [if_pos c_34] at h
            refine k_aald hx hb hK hw 11 4 (j := 1) (a' := y1) rfl rfl c_34 (by unfold vp_in; decide) rfl dX7_read_34 ?_
            refine lv_astore (lv' := [(5, .ref y1), (0, .ref xh), (1, .int p1), (2, .int p2), (3, .int p3), (4, .int p4)]) hx hb dX7_read_35 hl (by decide) rfl (fun ls hl => ?_)
            refine lv_aload_n hx hb dX7_read_37 rfl (lv_at hl 1 rfl) ?_
            refine va_get (ci := 7) (v := .ref xaT) (C := RX7) (T := TX7) (N := 11) hx hb hts hinX7 hown hK.1 hw.1 0 rfl rfl 1 (by decide) q_2 (fun _ h9 => h9) rfl dX7_read_38 ?_
            refine lv_aload_n hx hb dX7_read_41 rfl (lv_at hl 1 rfl) ?_
            refine va_get (ci := 7) (v := .ref xaL) (C := RX7) (T := TX7) (N := 11) hx hb hts hinX7 hown hK.1 hw.1 0 rfl rfl 0 (by decide) q_3 (fun _ h9 => h9) rfl dX7_read_42 ?_
            obtain ⟨tPe_34, tDa_35, tDr_36, tNa_37, tMo_38, tWa_39, tDe_40, hf, h⟩ := b7_inv h
            refine k_callV (host := "") fx hK hA hw (c_X1_become l D k xaT trNa trMo trWa trDe xaL lrNa lrMo lrWa lrDe _ tPe tDa tDr tNa tMo tWa tDe lPe lDa lDr lNa lMo lWa lDe tPe_34 tDa_35 tDr_36 tNa_37 tMo_38 tWa_39 tDe_40 hf) (cwV 1 hts gX7_read_X1_become rfl rfl rfl (by decide +kernel) ⟨by decide, by decide⟩) (As := [.ref xaL]) (wr := [(xh, .inr (7, [.ref xaL, .ref xaT, .ref xaO, .ref xaF, .ref xaS, .ref xaI, .ref xaH, .ref xaR, .ref xaU, .int xTf, .int xTb])), (xaH, .inl (k 4, 4, .inr (.inr (.inr (.inr (rl [y0, y1, y2, y3])))))), (y0, .inr (6, [.int y0Th, .int y0La, .int y0Sz, .ref y0rCe])), (y0rCe, .inl (k 0, 40, .inl y0Ce)), (y1, .inr (6, [.int y1Th, .int y1La, .int y1Sz, .ref y1rCe])), (y1rCe, .inl (k 0, 40, .inl y1Ce)), (y2, .inr (6, [.int y2Th, .int y2La, .int y2Sz, .ref y2rCe])), (y2rCe, .inl (k 0, 40, .inl y2Ce)), (y3, .inr (6, [.int y3Th, .int y3La, .int y3Sz, .ref y3rCe])), (y3rCe, .inl (k 0, 40, .inl y3Ce))]) (ws' := wX7 k xh xaL xaT xaO xaF xaS xaI xaH xaR xaU xTf xTb ++ (wX1 k xaL lrNa lrMo lrWa lrDe lPe lDa lDr lNa lMo lWa lDe ++ (wX1 k xaT trNa trMo trWa trDe tPe_34 tDa_35 tDr_36 tNa_37 tMo_38 tWa_39 tDe_40 ++ (wHA k xaH y0 y1 y2 y3 ++ (wX6 k y0 y0rCe y0Th y0La y0Sz y0Ce ++ (wX6 k y1 y1rCe y1Th y1La y1Sz y1Ce ++ (wX6 k y2 y2rCe y2Th y2La y2Sz y2Ce ++ (wX6 k y3 y3rCe y3Th y3La y3Sz y3Ce)))))))) [6, 7, 8, 9, 10, 1, 2, 3, 4, 5] [0, 11, 12, 13, 14, 15, 16, 17, 18, 19] [0, 15, 16, 17, 18, 19, 10, 11, 12, 13, 14, 1, 2, 3, 4, 5, 6, 7, 8, 9] rfl rfl (by decide) (by decide) (by decide) rfl (by decide) 1 rfl rfl [] rfl hl.1 rfl (Nat.le_of_ble_eq_true rfl) dX7_read_45 ⟨by decide, by decide⟩ (fun H locs (hw : Wd D A s.heap H locs (wX7 k xh xaL xaT xaO xaF xaS xaI xaH xaR xaU xTf xTb ++ (wX1 k xaL lrNa lrMo lrWa lrDe lPe lDa lDr lNa lMo lWa lDe ++ (wX1 k xaT trNa trMo trWa trDe tPe_34 tDa_35 tDr_36 tNa_37 tMo_38 tWa_39 tDe_40 ++ (wHA k xaH y0 y1 y2 y3 ++ (wX6 k y0 y0rCe y0Th y0La y0Sz y0Ce ++ (wX6 k y1 y1rCe y1Th y1La y1Sz y1Ce ++ (wX6 k y2 y2rCe y2Th y2La y2Sz y2Ce ++ (wX6 k y3 y3rCe y3Th y3La y3Sz y3Ce))))))))) => ?_)
            refine W.eq (g2 := F0 m 48 ls ([])) rfl ?_
            refine lv_iconst (v := 0) hx hb dX7_read_48 (by decide) ?_
            refine lv_istore (lv' := [(6, .int 0), (5, .ref y1), (0, .ref xh), (1, .int p1), (2, .int p2), (3, .int p3), (4, .int p4)]) hx hb dX7_read_49 hl (by decide) rfl (fun ls hl => ?_)
            refine lv_iconst (v := 0) hx hb dX7_read_51 (by decide) ?_
            refine lv_istore (lv' := [(7, .int 0), (6, .int 0), (5, .ref y1), (0, .ref xh), (1, .int p1), (2, .int p2), (3, .int p3), (4, .int p4)]) hx hb dX7_read_52 hl (by decide) rfl (fun ls hl => ?_)
            refine lv_iconst (v := 0) hx hb dX7_read_54 (by decide) ?_
            refine lv_istore (lv' := [(8, .int 0), (7, .int 0), (6, .int 0), (5, .ref y1), (0, .ref xh), (1, .int p1), (2, .int p2), (3, .int p3), (4, .int p4)]) hx hb dX7_read_55 hl (by decide) rfl (fun ls hl => ?_)
            obtain ⟨ex_57, hL_57, hX_57⟩ := bs4_inv h
            clear h
            have X_57 : ∀ (v6_46 : Int32) (v7_47 : Int32) (tMo_48 : (Nat → Int32)) (tDe_49 : (Nat → Int32)), ex_57 = Sum.inr (v6_46, v7_47, tMo_48, tDe_49) → ∀ (H : Heap) (locs : List Loc) (ls : Array Slot), Wd D A s.heap H locs (wX7 k xh xaL xaT xaO xaF xaS xaI xaH xaR xaU xTf xTb ++ (wX1 k xaL lrNa lrMo lrWa lrDe lPe lDa lDr lNa lMo lWa lDe ++ (wX1 k xaT trNa trMo trWa trDe tPe_34 tDa_35 tDr_36 tNa_37 tMo_48 tWa_39 tDe_49 ++ (wHA k xaH y0 y1 y2 y3 ++ (wX6 k y0 y0rCe y0Th y0La y0Sz y0Ce ++ (wX6 k y1 y1rCe y1Th y1La y1Sz y1Ce ++ (wX6 k y2 y2rCe y2Th y2La y2Sz y2Ce ++ (wX6 k y3 y3rCe y3Th y3La y3Sz y3Ce)))))))) → lv_has ls 10 [(0, .ref xh), (6, .int v6_46), (7, .int v7_47)] → W p l e rmX7_read s m args below meth c H locs 0 0 Q (F0 m 145 ls []) := by
              intro v6_46 v7_47 tMo_48 tDe_49 hex H locs ls hw hl
              subst hex
              have h := bs4_r hX_57
              refine lv_aload_n hx hb dX7_read_145 rfl (lv_at hl 0 rfl) ?_
              refine va_get (ci := 7) (v := .ref xaL) (C := RX7) (T := TX7) (N := 11) hx hb hts hinX7 hown hK.1 hw.1 0 rfl rfl 0 (by decide) q_3 (fun _ h9 => h9) rfl dX7_read_146 ?_
              refine lv_aload_n hx hb dX7_read_149 rfl (lv_at hl 0 rfl) ?_
              refine va_get (ci := 7) (v := .ref xaT) (C := RX7) (T := TX7) (N := 11) hx hb hts hinX7 hown hK.1 hw.1 0 rfl rfl 1 (by decide) q_2 (fun _ h9 => h9) rfl dX7_read_150 ?_
              obtain ⟨lPe_57, lDa_58, lDr_59, lNa_60, lMo_61, lWa_62, lDe_63, hf, h⟩ := b7_inv h
              refine k_callV (host := "") fx hK hA hw (c_X1_become l D k xaL lrNa lrMo lrWa lrDe xaT trNa trMo trWa trDe _ lPe lDa lDr lNa lMo lWa lDe tPe_34 tDa_35 tDr_36 tNa_37 tMo_48 tWa_39 tDe_49 lPe_57 lDa_58 lDr_59 lNa_60 lMo_61 lWa_62 lDe_63 hf) (cwV 1 hts gX7_read_X1_become rfl rfl rfl (by decide +kernel) ⟨by decide, by decide⟩) (As := [.ref xaT]) (wr := [(xh, .inr (7, [.ref xaL, .ref xaT, .ref xaO, .ref xaF, .ref xaS, .ref xaI, .ref xaH, .ref xaR, .ref xaU, .int xTf, .int xTb])), (xaH, .inl (k 4, 4, .inr (.inr (.inr (.inr (rl [y0, y1, y2, y3])))))), (y0, .inr (6, [.int y0Th, .int y0La, .int y0Sz, .ref y0rCe])), (y0rCe, .inl (k 0, 40, .inl y0Ce)), (y1, .inr (6, [.int y1Th, .int y1La, .int y1Sz, .ref y1rCe])), (y1rCe, .inl (k 0, 40, .inl y1Ce)), (y2, .inr (6, [.int y2Th, .int y2La, .int y2Sz, .ref y2rCe])), (y2rCe, .inl (k 0, 40, .inl y2Ce)), (y3, .inr (6, [.int y3Th, .int y3La, .int y3Sz, .ref y3rCe])), (y3rCe, .inl (k 0, 40, .inl y3Ce))]) (ws' := wX7 k xh xaL xaT xaO xaF xaS xaI xaH xaR xaU xTf xTb ++ (wX1 k xaL lrNa lrMo lrWa lrDe lPe_57 lDa_58 lDr_59 lNa_60 lMo_61 lWa_62 lDe_63 ++ (wX1 k xaT trNa trMo trWa trDe tPe_34 tDa_35 tDr_36 tNa_37 tMo_48 tWa_39 tDe_49 ++ (wHA k xaH y0 y1 y2 y3 ++ (wX6 k y0 y0rCe y0Th y0La y0Sz y0Ce ++ (wX6 k y1 y1rCe y1Th y1La y1Sz y1Ce ++ (wX6 k y2 y2rCe y2Th y2La y2Sz y2Ce ++ (wX6 k y3 y3rCe y3Th y3La y3Sz y3Ce)))))))) [1, 2, 3, 4, 5, 6, 7, 8, 9, 10] [0, 11, 12, 13, 14, 15, 16, 17, 18, 19] [0, 10, 11, 12, 13, 14, 15, 16, 17, 18, 19, 1, 2, 3, 4, 5, 6, 7, 8, 9] rfl rfl (by decide) (by decide) (by decide) rfl (by decide) 1 rfl rfl [] rfl hl.1 rfl (Nat.le_of_ble_eq_true rfl) dX7_read_153 ⟨by decide, by decide⟩ (fun H locs (hw : Wd D A s.heap H locs (wX7 k xh xaL xaT xaO xaF xaS xaI xaH xaR xaU xTf xTb ++ (wX1 k xaL lrNa lrMo lrWa lrDe lPe_57 lDa_58 lDr_59 lNa_60 lMo_61 lWa_62 lDe_63 ++ (wX1 k xaT trNa trMo trWa trDe tPe_34 tDa_35 tDr_36 tNa_37 tMo_48 tWa_39 tDe_49 ++ (wHA k xaH y0 y1 y2 y3 ++ (wX6 k y0 y0rCe y0Th y0La y0Sz y0Ce ++ (wX6 k y1 y1rCe y1Th y1La y1Sz y1Ce ++ (wX6 k y2 y2rCe y2Th y2La y2Sz y2Ce ++ (wX6 k y3 y3rCe y3Th y3La y3Sz y3Ce))))))))) => ?_)
              refine W.eq (g2 := F0 m 156 ls ([])) rfl ?_
              refine lv_aload_n hx hb dX7_read_156 rfl (lv_at hl 0 rfl) ?_
              refine lv_iload hx hb dX7_read_157 (lv_at hl 1 rfl) ?_
              refine va_put (ci := 7) (v := .int v6_46) (ty := tyX7 10) (C := RX7) (T := TX7) (N := 11) hx hb hts hinX7 tyX7 tyX7_ok nmX7 hown hK.1 hw.1 hw.2.1 hw.2.2 0 rfl rfl 10 (by decide) q_5 (fun _ h9 => h9) rfl (tyX7_ok 10 (by decide)) rfl rfl (Nat.le_of_ble_eq_true rfl) dX7_read_159 (fun H locs hP hD hS => ?_)
              have hw : Wd D A s.heap H locs (wX7 k xh xaL xaT xaO xaF xaS xaI xaH xaR xaU xTf v6_46 ++ (wX1 k xaL lrNa lrMo lrWa lrDe lPe_57 lDa_58 lDr_59 lNa_60 lMo_61 lWa_62 lDe_63 ++ (wX1 k xaT trNa trMo trWa trDe tPe_34 tDa_35 tDr_36 tNa_37 tMo_48 tWa_39 tDe_49 ++ (wHA k xaH y0 y1 y2 y3 ++ (wX6 k y0 y0rCe y0Th y0La y0Sz y0Ce ++ (wX6 k y1 y1rCe y1Th y1La y1Sz y1Ce ++ (wX6 k y2 y2rCe y2Th y2La y2Sz y2Ce ++ (wX6 k y3 y3rCe y3Th y3La y3Sz y3Ce)))))))) := ⟨hP, hD, hS⟩
              refine lv_iload hx hb dX7_read_162 (lv_at hl 2 rfl) ?_
              cases h
              exact k_iret hx hb hr hlocks hw rfl dX7_read_164 hQ
            have LP_57 : ∀ (n : Nat) (v6_41 : Int32) (v7_42 : Int32) (v8_43 : Int32) (tMo_44 : (Nat → Int32)) (tDe_45 : (Nat → Int32)), f_X7_read_L57 xTb lPe lDa lDr lNa lMo lWa lDe y1Th y1La y1Sz y1Ce p2 p3 p4 tPe_34 tDa_35 tDr_36 tNa_37 tWa_39 n v6_41 v7_42 v8_43 tMo_44 tDe_45 = some ex_57 → ∀ (H : Heap) (locs : List Loc) (ls : Array Slot), Wd D A s.heap H locs (wX7 k xh xaL xaT xaO xaF xaS xaI xaH xaR xaU xTf xTb ++ (wX1 k xaL lrNa lrMo lrWa lrDe lPe lDa lDr lNa lMo lWa lDe ++ (wX1 k xaT trNa trMo trWa trDe tPe_34 tDa_35 tDr_36 tNa_37 tMo_44 tWa_39 tDe_45 ++ (wHA k xaH y0 y1 y2 y3 ++ (wX6 k y0 y0rCe y0Th y0La y0Sz y0Ce ++ (wX6 k y1 y1rCe y1Th y1La y1Sz y1Ce ++ (wX6 k y2 y2rCe y2Th y2La y2Sz y2Ce ++ (wX6 k y3 y3rCe y3Th y3La y3Sz y3Ce)))))))) → lv_has ls 10 [(0, .ref xh), (2, .int p2), (3, .int p3), (4, .int p4), (5, .ref y1), (6, .int v6_41), (7, .int v7_42), (8, .int v8_43)] → W p l e rmX7_read s m args below meth c H locs 0 0 Q (F0 m 57 ls []) := by
              clear hL_57 hw hl
              intro n
              induction n with
              | zero => intro v6_41 v7_42 v8_43 tMo_44 tDe_45 h; rw [f_X7_read_L57] at h; cases h
              | succ n ih =>
                intro v6_41 v7_42 v8_43 tMo_44 tDe_45 h H locs ls hw hl
                rw [f_X7_read_L57] at h
                refine lv_iload hx hb dX7_read_57 (lv_at hl 7 rfl) ?_
                refine lv_iload hx hb dX7_read_59 (lv_at hl 3 rfl) ?_
                refine kb_icmp_ge (tgt := 145) hx hb dX7_read_61 (by decide) h (fun c_61 h => ?_) (fun c_61 h => ?_)
                · cases h
                  exact X_57 _ _ _ _ rfl _ _ _ hw (lv_sub hl [0, 5, 6] rfl)
                · refine lv_iload hx hb dX7_read_64 (lv_at hl 5 rfl) ?_
                  refine kb_if_ne (tgt := 145) hx hb dX7_read_66 (by decide) h (fun c_66 h => ?_) (fun c_66 h => ?_)
                  · refine lv_iload_n hx hb dX7_read_69 rfl (lv_at hl 2 rfl) ?_
                    refine lv_iconst (v := 3) hx hb dX7_read_70 (by decide) ?_
                    refine lv_iload hx hb dX7_read_71 (lv_at hl 7 rfl) ?_
                    refine lv_imul hx hb dX7_read_73 ?_
                    refine lv_iadd hx hb dX7_read_74 ?_
                    refine lv_istore (lv' := [(9, .int (p3 + (3 * v8_43))), (0, .ref xh), (2, .int p2), (3, .int p3), (4, .int p4), (5, .ref y1), (6, .int v6_41), (7, .int v7_42), (8, .int v8_43)]) hx hb dX7_read_75 hl (by decide) rfl (fun ls hl => ?_)
                    refine lv_aload hx hb dX7_read_77 (lv_at hl 5 rfl) ?_
                    refine lv_iload_n hx hb dX7_read_79 rfl (lv_at hl 2 rfl) ?_
                    refine lv_iload hx hb dX7_read_80 (lv_at hl 0 rfl) ?_
                    obtain ⟨r_50, hf, h⟩ := b1_inv h
                    refine k_callV (host := "") fx hK hA hw (c_X6_faultOfReading l D k y1 y1rCe _ y1Th y1La y1Sz y1Ce p2 (p3 + (3 * v8_43)) r_50 hf) (cwV 2 hts gX7_read_X6_faultOfReading rfl rfl rfl (by decide +kernel) ⟨by decide, by decide⟩) (As := [.int p2, .int (p3 + (3 * v8_43))]) (wr := [(xh, .inr (7, [.ref xaL, .ref xaT, .ref xaO, .ref xaF, .ref xaS, .ref xaI, .ref xaH, .ref xaR, .ref xaU, .int xTf, .int xTb])), (xaL, .inr (1, [.int lPe, .int lDa, .int lDr, .ref lrNa, .ref lrMo, .ref lrWa, .ref lrDe])), (lrNa, .inl (k 0, 5, .inl lNa)), (lrMo, .inl (k 0, 5, .inl lMo)), (lrWa, .inl (k 0, 5, .inl lWa)), (lrDe, .inl (k 0, 25, .inl lDe)), (xaT, .inr (1, [.int tPe_34, .int tDa_35, .int tDr_36, .ref trNa, .ref trMo, .ref trWa, .ref trDe])), (trNa, .inl (k 0, 5, .inl tNa_37)), (trMo, .inl (k 0, 5, .inl tMo_44)), (trWa, .inl (k 0, 5, .inl tWa_39)), (trDe, .inl (k 0, 25, .inl tDe_45)), (xaH, .inl (k 4, 4, .inr (.inr (.inr (.inr (rl [y0, y1, y2, y3])))))), (y0, .inr (6, [.int y0Th, .int y0La, .int y0Sz, .ref y0rCe])), (y0rCe, .inl (k 0, 40, .inl y0Ce)), (y2, .inr (6, [.int y2Th, .int y2La, .int y2Sz, .ref y2rCe])), (y2rCe, .inl (k 0, 40, .inl y2Ce)), (y3, .inr (6, [.int y3Th, .int y3La, .int y3Sz, .ref y3rCe])), (y3rCe, .inl (k 0, 40, .inl y3Ce))]) (ws' := wX7 k xh xaL xaT xaO xaF xaS xaI xaH xaR xaU xTf xTb ++ (wX1 k xaL lrNa lrMo lrWa lrDe lPe lDa lDr lNa lMo lWa lDe ++ (wX1 k xaT trNa trMo trWa trDe tPe_34 tDa_35 tDr_36 tNa_37 tMo_44 tWa_39 tDe_45 ++ (wHA k xaH y0 y1 y2 y3 ++ (wX6 k y0 y0rCe y0Th y0La y0Sz y0Ce ++ (wX6 k y1 y1rCe y1Th y1La y1Sz y1Ce ++ (wX6 k y2 y2rCe y2Th y2La y2Sz y2Ce ++ (wX6 k y3 y3rCe y3Th y3La y3Sz y3Ce)))))))) [14, 15] [0, 1, 2, 3, 4, 5, 6, 7, 8, 9, 10, 11, 12, 13, 16, 17, 18, 19] [0, 1, 2, 3, 4, 5, 6, 7, 8, 9, 10, 11, 12, 13, 18, 19, 14, 15, 16, 17] rfl rfl (by decide) (by decide) (by decide) rfl (by decide) 6 rfl rfl [] rfl hl.1 rfl (Nat.le_of_ble_eq_true rfl) dX7_read_82 ⟨by decide, by decide⟩ (fun H locs (hw : Wd D A s.heap H locs (wX7 k xh xaL xaT xaO xaF xaS xaI xaH xaR xaU xTf xTb ++ (wX1 k xaL lrNa lrMo lrWa lrDe lPe lDa lDr lNa lMo lWa lDe ++ (wX1 k xaT trNa trMo trWa trDe tPe_34 tDa_35 tDr_36 tNa_37 tMo_44 tWa_39 tDe_45 ++ (wHA k xaH y0 y1 y2 y3 ++ (wX6 k y0 y0rCe y0Th y0La y0Sz y0Ce ++ (wX6 k y1 y1rCe y1Th y1La y1Sz y1Ce ++ (wX6 k y2 y2rCe y2Th y2La y2Sz y2Ce ++ (wX6 k y3 y3rCe y3Th y3La y3Sz y3Ce))))))))) => ?_)
                    refine W.eq (g2 := F0 m 85 ls ([.int r_50])) rfl ?_
                    refine lv_istore (lv' := [(6, .int r_50), (9, .int (p3 + (3 * v8_43))), (0, .ref xh), (2, .int p2), (3, .int p3), (4, .int p4), (5, .ref y1), (7, .int v7_42), (8, .int v8_43)]) hx hb dX7_read_85 hl (by decide) rfl (fun ls hl => ?_)
                    refine lv_iload hx hb dX7_read_87 (lv_at hl 0 rfl) ?_
                    refine kb_if_ne (tgt := 139) hx hb dX7_read_89 (by decide) h (fun c_89 h => ?_) (fun c_89 h => ?_)
                    · refine lv_aload_n hx hb dX7_read_92 rfl (lv_at hl 2 rfl) ?_
                      refine va_get (ci := 7) (v := .ref xaT) (C := RX7) (T := TX7) (N := 11) hx hb hts hinX7 hown hK.1 hw.1 0 rfl rfl 1 (by decide) q_2 (fun _ h9 => h9) rfl dX7_read_93 ?_
                      refine lv_aload hx hb dX7_read_96 (lv_at hl 6 rfl) ?_
                      refine va_get (ci := 6) (v := .ref y1rCe) (C := RX6) (T := TX6) (N := 4) hx hb hts hinX6 hown hK.1 hw.1 14 rfl rfl 3 (by decide) q_4 (fun _ h9 => h9) rfl dX7_read_98 ?_
                      refine lv_iload hx hb dX7_read_101 (lv_at hl 1 rfl) ?_
                      refine k_iald hx hb hK hw 15 rfl dX7_read_103 h (fun a_51 h => ?_)
                      refine lv_aload hx hb dX7_read_104 (lv_at hl 6 rfl) ?_
                      refine va_get (ci := 6) (v := .ref y1rCe) (C := RX6) (T := TX6) (N := 4) hx hb hts hinX6 hown hK.1 hw.1 14 rfl rfl 3 (by decide) q_4 (fun _ h9 => h9) rfl dX7_read_106 ?_
                      refine lv_iload hx hb dX7_read_109 (lv_at hl 1 rfl) ?_
                      refine lv_iconst (v := 1) hx hb dX7_read_111 (by decide) ?_
                      refine lv_iadd hx hb dX7_read_112 ?_
                      refine k_iald hx hb hK hw 15 rfl dX7_read_113 h (fun a_52 h => ?_)
                      refine lv_aload hx hb dX7_read_114 (lv_at hl 6 rfl) ?_
                      refine va_get (ci := 6) (v := .ref y1rCe) (C := RX6) (T := TX6) (N := 4) hx hb hts hinX6 hown hK.1 hw.1 14 rfl rfl 3 (by decide) q_4 (fun _ h9 => h9) rfl dX7_read_116 ?_
                      refine lv_iload hx hb dX7_read_119 (lv_at hl 1 rfl) ?_
                      refine lv_iconst (v := 2) hx hb dX7_read_121 (by decide) ?_
                      refine lv_iadd hx hb dX7_read_122 ?_
                      refine k_iald hx hb hK hw 15 rfl dX7_read_123 h (fun a_53 h => ?_)
                      obtain ⟨r_54, tMo_55, tDe_56, hf, h⟩ := b3_inv h
                      refine k_callV (host := "") fx hK hA hw (c_X1_payTo l D k xaT trNa trMo trWa trDe _ tPe_34 tDa_35 tDr_36 tNa_37 tMo_44 tWa_39 tDe_45 a_51 a_52 a_53 r_54 tMo_55 tDe_56 hf) (cwV 3 hts gX7_read_X1_payTo rfl rfl rfl (by decide +kernel) ⟨by decide, by decide⟩) (As := [.int a_51, .int a_52, .int a_53]) (wr := [(xh, .inr (7, [.ref xaL, .ref xaT, .ref xaO, .ref xaF, .ref xaS, .ref xaI, .ref xaH, .ref xaR, .ref xaU, .int xTf, .int xTb])), (xaL, .inr (1, [.int lPe, .int lDa, .int lDr, .ref lrNa, .ref lrMo, .ref lrWa, .ref lrDe])), (lrNa, .inl (k 0, 5, .inl lNa)), (lrMo, .inl (k 0, 5, .inl lMo)), (lrWa, .inl (k 0, 5, .inl lWa)), (lrDe, .inl (k 0, 25, .inl lDe)), (xaH, .inl (k 4, 4, .inr (.inr (.inr (.inr (rl [y0, y1, y2, y3])))))), (y0, .inr (6, [.int y0Th, .int y0La, .int y0Sz, .ref y0rCe])), (y0rCe, .inl (k 0, 40, .inl y0Ce)), (y1, .inr (6, [.int y1Th, .int y1La, .int y1Sz, .ref y1rCe])), (y1rCe, .inl (k 0, 40, .inl y1Ce)), (y2, .inr (6, [.int y2Th, .int y2La, .int y2Sz, .ref y2rCe])), (y2rCe, .inl (k 0, 40, .inl y2Ce)), (y3, .inr (6, [.int y3Th, .int y3La, .int y3Sz, .ref y3rCe])), (y3rCe, .inl (k 0, 40, .inl y3Ce))]) (ws' := wX7 k xh xaL xaT xaO xaF xaS xaI xaH xaR xaU xTf xTb ++ (wX1 k xaL lrNa lrMo lrWa lrDe lPe lDa lDr lNa lMo lWa lDe ++ (wX1 k xaT trNa trMo trWa trDe tPe_34 tDa_35 tDr_36 tNa_37 tMo_55 tWa_39 tDe_56 ++ (wHA k xaH y0 y1 y2 y3 ++ (wX6 k y0 y0rCe y0Th y0La y0Sz y0Ce ++ (wX6 k y1 y1rCe y1Th y1La y1Sz y1Ce ++ (wX6 k y2 y2rCe y2Th y2La y2Sz y2Ce ++ (wX6 k y3 y3rCe y3Th y3La y3Sz y3Ce)))))))) [6, 7, 8, 9, 10] [0, 1, 2, 3, 4, 5, 11, 12, 13, 14, 15, 16, 17, 18, 19] [0, 1, 2, 3, 4, 5, 15, 16, 17, 18, 19, 6, 7, 8, 9, 10, 11, 12, 13, 14] rfl rfl (by decide) (by decide) (by decide) rfl (by decide) 1 rfl rfl [] rfl hl.1 rfl (Nat.le_of_ble_eq_true rfl) dX7_read_124 ⟨by decide, by decide⟩ (fun H locs (hw : Wd D A s.heap H locs (wX7 k xh xaL xaT xaO xaF xaS xaI xaH xaR xaU xTf xTb ++ (wX1 k xaL lrNa lrMo lrWa lrDe lPe lDa lDr lNa lMo lWa lDe ++ (wX1 k xaT trNa trMo trWa trDe tPe_34 tDa_35 tDr_36 tNa_37 tMo_55 tWa_39 tDe_56 ++ (wHA k xaH y0 y1 y2 y3 ++ (wX6 k y0 y0rCe y0Th y0La y0Sz y0Ce ++ (wX6 k y1 y1rCe y1Th y1La y1Sz y1Ce ++ (wX6 k y2 y2rCe y2Th y2La y2Sz y2Ce ++ (wX6 k y3 y3rCe y3Th y3La y3Sz y3Ce))))))))) => ?_)
                      refine W.eq (g2 := F0 m 127 ls ([.int r_54])) rfl ?_
                      refine kb_if_ge (tgt := 136) hx hb dX7_read_127 (by decide) h (fun c_127 h => ?_) (fun c_127 h => ?_)
                      · refine lv_iinc (v := v7_42 + 1) (lv' := [(7, .int (v7_42 + 1)), (6, .int r_50), (9, .int (p3 + (3 * v8_43))), (0, .ref xh), (2, .int p2), (3, .int p3), (4, .int p4), (5, .ref y1), (8, .int v8_43)]) hx hb dX7_read_136 hl (k := 7) rfl rfl (by decide) rfl (fun ls hl => ?_)
                        refine lv_iinc (v := v8_43 + 1) (lv' := [(8, .int (v8_43 + 1)), (7, .int (v7_42 + 1)), (6, .int r_50), (9, .int (p3 + (3 * v8_43))), (0, .ref xh), (2, .int p2), (3, .int p3), (4, .int p4), (5, .ref y1)]) hx hb dX7_read_139 hl (k := 8) rfl rfl (by decide) rfl (fun ls hl => ?_)
                        refine lv_goto (tgt := 57) hx hb dX7_read_142 (by decide) ?_
                        exact ih _ _ _ _ _ h _ _ _ hw (lv_sub hl [4, 5, 6, 7, 8, 2, 1, 0] rfl)
                      · refine lv_bipush (v := (-20)) hx hb dX7_read_130 (by decide) ?_
                        refine lv_iload hx hb dX7_read_132 (lv_at hl 8 rfl) ?_
                        refine lv_isub hx hb dX7_read_134 ?_
                        cases h
                        have h := bs4_l hX_57
                        have g0 := Option.some.inj h
                        clear h
                        obtain ⟨e0, g1⟩ := Prod.mk.inj g0
                        obtain ⟨e1, g2⟩ := Prod.mk.inj g1
                        obtain ⟨e2, g3⟩ := Prod.mk.inj g2
                        obtain ⟨e3, g4⟩ := Prod.mk.inj g3
                        obtain ⟨e4, g5⟩ := Prod.mk.inj g4
                        obtain ⟨e5, g6⟩ := Prod.mk.inj g5
                        obtain ⟨e6, g7⟩ := Prod.mk.inj g6
                        obtain ⟨e7, g8⟩ := Prod.mk.inj g7
                        obtain ⟨e8, g9⟩ := Prod.mk.inj g8
                        obtain ⟨e9, g10⟩ := Prod.mk.inj g9
                        obtain ⟨e10, g11⟩ := Prod.mk.inj g10
                        obtain ⟨e11, g12⟩ := Prod.mk.inj g11
                        obtain ⟨e12, g13⟩ := Prod.mk.inj g12
                        obtain ⟨e13, g14⟩ := Prod.mk.inj g13
                        obtain ⟨e14, g15⟩ := Prod.mk.inj g14
                        subst e0; subst e1; subst e2; subst e3; subst e4; subst e5; subst e6; subst e7; subst e8; subst e9; subst e10; subst e11; subst e12; subst e13; subst e14; subst g15
                        exact k_iret hx hb hr hlocks hw rfl dX7_read_135 hQ
                    · refine lv_iinc (v := v8_43 + 1) (lv' := [(8, .int (v8_43 + 1)), (6, .int r_50), (9, .int (p3 + (3 * v8_43))), (0, .ref xh), (2, .int p2), (3, .int p3), (4, .int p4), (5, .ref y1), (7, .int v7_42)]) hx hb dX7_read_139 hl (k := 8) rfl rfl (by decide) rfl (fun ls hl => ?_)
                      refine lv_goto (tgt := 57) hx hb dX7_read_142 (by decide) ?_
                      exact ih _ _ _ _ _ h _ _ _ hw (lv_sub hl [3, 4, 5, 6, 7, 1, 8, 0] rfl)
                  · cases h
                    exact X_57 _ _ _ _ rfl _ _ _ hw (lv_sub hl [0, 5, 6] rfl)
            exact LP_57 400 0 0 0 tMo_38 tDe_40 hL_57 _ _ _ hw (lv_sub hl [4, 6, 7, 8, 3, 2, 1, 0] rfl)
          · rw [if_neg c_34] at h
            by_cases c_34 : p1 = 2
            · rw [if_pos c_34] at h
              refine k_aald hx hb hK hw 11 4 (j := 2) (a' := y2) rfl rfl c_34 (by unfold vp_in; decide) rfl dX7_read_34 ?_
              refine lv_astore (lv' := [(5, .ref y2), (0, .ref xh), (1, .int p1), (2, .int p2), (3, .int p3), (4, .int p4)]) hx hb dX7_read_35 hl (by decide) rfl (fun ls hl => ?_)
              refine lv_aload_n hx hb dX7_read_37 rfl (lv_at hl 1 rfl) ?_
              refine va_get (ci := 7) (v := .ref xaT) (C := RX7) (T := TX7) (N := 11) hx hb hts hinX7 hown hK.1 hw.1 0 rfl rfl 1 (by decide) q_2 (fun _ h9 => h9) rfl dX7_read_38 ?_
              refine lv_aload_n hx hb dX7_read_41 rfl (lv_at hl 1 rfl) ?_
              refine va_get (ci := 7) (v := .ref xaL) (C := RX7) (T := TX7) (N := 11) hx hb hts hinX7 hown hK.1 hw.1 0 rfl rfl 0 (by decide) q_3 (fun _ h9 => h9) rfl dX7_read_42 ?_
              obtain ⟨tPe_64, tDa_65, tDr_66, tNa_67, tMo_68, tWa_69, tDe_70, hf, h⟩ := b7_inv h
              refine k_callV (host := "") fx hK hA hw (c_X1_become l D k xaT trNa trMo trWa trDe xaL lrNa lrMo lrWa lrDe _ tPe tDa tDr tNa tMo tWa tDe lPe lDa lDr lNa lMo lWa lDe tPe_64 tDa_65 tDr_66 tNa_67 tMo_68 tWa_69 tDe_70 hf) (cwV 1 hts gX7_read_X1_become rfl rfl rfl (by decide +kernel) ⟨by decide, by decide⟩) (As := [.ref xaL]) (wr := [(xh, .inr (7, [.ref xaL, .ref xaT, .ref xaO, .ref xaF, .ref xaS, .ref xaI, .ref xaH, .ref xaR, .ref xaU, .int xTf, .int xTb])), (xaH, .inl (k 4, 4, .inr (.inr (.inr (.inr (rl [y0, y1, y2, y3])))))), (y0, .inr (6, [.int y0Th, .int y0La, .int y0Sz, .ref y0rCe])), (y0rCe, .inl (k 0, 40, .inl y0Ce)), (y1, .inr (6, [.int y1Th, .int y1La, .int y1Sz, .ref y1rCe])), (y1rCe, .inl (k 0, 40, .inl y1Ce)), (y2, .inr (6, [.int y2Th, .int y2La, .int y2Sz, .ref y2rCe])), (y2rCe, .inl (k 0, 40, .inl y2Ce)), (y3, .inr (6, [.int y3Th, .int y3La, .int y3Sz, .ref y3rCe])), (y3rCe, .inl (k 0, 40, .inl y3Ce))]) (ws' := wX7 k xh xaL xaT xaO xaF xaS xaI xaH xaR xaU xTf xTb ++ (wX1 k xaL lrNa lrMo lrWa lrDe lPe lDa lDr lNa lMo lWa lDe ++ (wX1 k xaT trNa trMo trWa trDe tPe_64 tDa_65 tDr_66 tNa_67 tMo_68 tWa_69 tDe_70 ++ (wHA k xaH y0 y1 y2 y3 ++ (wX6 k y0 y0rCe y0Th y0La y0Sz y0Ce ++ (wX6 k y1 y1rCe y1Th y1La y1Sz y1Ce ++ (wX6 k y2 y2rCe y2Th y2La y2Sz y2Ce ++ (wX6 k y3 y3rCe y3Th y3La y3Sz y3Ce)))))))) [6, 7, 8, 9, 10, 1, 2, 3, 4, 5] [0, 11, 12, 13, 14, 15, 16, 17, 18, 19] [0, 15, 16, 17, 18, 19, 10, 11, 12, 13, 14, 1, 2, 3, 4, 5, 6, 7, 8, 9] rfl rfl (by decide) (by decide) (by decide) rfl (by decide) 1 rfl rfl [] rfl hl.1 rfl (Nat.le_of_ble_eq_true rfl) dX7_read_45 ⟨by decide, by decide⟩ (fun H locs (hw : Wd D A s.heap H locs (wX7 k xh xaL xaT xaO xaF xaS xaI xaH xaR xaU xTf xTb ++ (wX1 k xaL lrNa lrMo lrWa lrDe lPe lDa lDr lNa lMo lWa lDe ++ (wX1 k xaT trNa trMo trWa trDe tPe_64 tDa_65 tDr_66 tNa_67 tMo_68 tWa_69 tDe_70 ++ (wHA k xaH y0 y1 y2 y3 ++ (wX6 k y0 y0rCe y0Th y0La y0Sz y0Ce ++ (wX6 k y1 y1rCe y1Th y1La y1Sz y1Ce ++ (wX6 k y2 y2rCe y2Th y2La y2Sz y2Ce ++ (wX6 k y3 y3rCe y3Th y3La y3Sz y3Ce))))))))) => ?_)
              refine W.eq (g2 := F0 m 48 ls ([])) rfl ?_
              refine lv_iconst (v := 0) hx hb dX7_read_48 (by decide) ?_
              refine lv_istore (lv' := [(6, .int 0), (5, .ref y2), (0, .ref xh), (1, .int p1), (2, .int p2), (3, .int p3), (4, .int p4)]) hx hb dX7_read_49 hl (by decide) rfl (fun ls hl => ?_)
              refine lv_iconst (v := 0) hx hb dX7_read_51 (by decide) ?_
              refine lv_istore (lv' := [(7, .int 0), (6, .int 0), (5, .ref y2), (0, .ref xh), (1, .int p1), (2, .int p2), (3, .int p3), (4, .int p4)]) hx hb dX7_read_52 hl (by decide) rfl (fun ls hl => ?_)
              refine lv_iconst (v := 0) hx hb dX7_read_54 (by decide) ?_
              refine lv_istore (lv' := [(8, .int 0), (7, .int 0), (6, .int 0), (5, .ref y2), (0, .ref xh), (1, .int p1), (2, .int p2), (3, .int p3), (4, .int p4)]) hx hb dX7_read_55 hl (by decide) rfl (fun ls hl => ?_)
              obtain ⟨ex_57, hL_57, hX_57⟩ := bs4_inv h
              clear h
              have X_57 : ∀ (v6_76 : Int32) (v7_77 : Int32) (tMo_78 : (Nat → Int32)) (tDe_79 : (Nat → Int32)), ex_57 = Sum.inr (v6_76, v7_77, tMo_78, tDe_79) → ∀ (H : Heap) (locs : List Loc) (ls : Array Slot), Wd D A s.heap H locs (wX7 k xh xaL xaT xaO xaF xaS xaI xaH xaR xaU xTf xTb ++ (wX1 k xaL lrNa lrMo lrWa lrDe lPe lDa lDr lNa lMo lWa lDe ++ (wX1 k xaT trNa trMo trWa trDe tPe_64 tDa_65 tDr_66 tNa_67 tMo_78 tWa_69 tDe_79 ++ (wHA k xaH y0 y1 y2 y3 ++ (wX6 k y0 y0rCe y0Th y0La y0Sz y0Ce ++ (wX6 k y1 y1rCe y1Th y1La y1Sz y1Ce ++ (wX6 k y2 y2rCe y2Th y2La y2Sz y2Ce ++ (wX6 k y3 y3rCe y3Th y3La y3Sz y3Ce)))))))) → lv_has ls 10 [(0, .ref xh), (6, .int v6_76), (7, .int v7_77)] → W p l e rmX7_read s m args below meth c H locs 0 0 Q (F0 m 145 ls []) := by
                intro v6_76 v7_77 tMo_78 tDe_79 hex H locs ls hw hl
                subst hex
                have h := bs4_r hX_57
                refine lv_aload_n hx hb dX7_read_145 rfl (lv_at hl 0 rfl) ?_
                refine va_get (ci := 7) (v := .ref xaL) (C := RX7) (T := TX7) (N := 11) hx hb hts hinX7 hown hK.1 hw.1 0 rfl rfl 0 (by decide) q_3 (fun _ h9 => h9) rfl dX7_read_146 ?_
                refine lv_aload_n hx hb dX7_read_149 rfl (lv_at hl 0 rfl) ?_
                refine va_get (ci := 7) (v := .ref xaT) (C := RX7) (T := TX7) (N := 11) hx hb hts hinX7 hown hK.1 hw.1 0 rfl rfl 1 (by decide) q_2 (fun _ h9 => h9) rfl dX7_read_150 ?_
                obtain ⟨lPe_87, lDa_88, lDr_89, lNa_90, lMo_91, lWa_92, lDe_93, hf, h⟩ := b7_inv h
                refine k_callV (host := "") fx hK hA hw (c_X1_become l D k xaL lrNa lrMo lrWa lrDe xaT trNa trMo trWa trDe _ lPe lDa lDr lNa lMo lWa lDe tPe_64 tDa_65 tDr_66 tNa_67 tMo_78 tWa_69 tDe_79 lPe_87 lDa_88 lDr_89 lNa_90 lMo_91 lWa_92 lDe_93 hf) (cwV 1 hts gX7_read_X1_become rfl rfl rfl (by decide +kernel) ⟨by decide, by decide⟩) (As := [.ref xaT]) (wr := [(xh, .inr (7, [.ref xaL, .ref xaT, .ref xaO, .ref xaF, .ref xaS, .ref xaI, .ref xaH, .ref xaR, .ref xaU, .int xTf, .int xTb])), (xaH, .inl (k 4, 4, .inr (.inr (.inr (.inr (rl [y0, y1, y2, y3])))))), (y0, .inr (6, [.int y0Th, .int y0La, .int y0Sz, .ref y0rCe])), (y0rCe, .inl (k 0, 40, .inl y0Ce)), (y1, .inr (6, [.int y1Th, .int y1La, .int y1Sz, .ref y1rCe])), (y1rCe, .inl (k 0, 40, .inl y1Ce)), (y2, .inr (6, [.int y2Th, .int y2La, .int y2Sz, .ref y2rCe])), (y2rCe, .inl (k 0, 40, .inl y2Ce)), (y3, .inr (6, [.int y3Th, .int y3La, .int y3Sz, .ref y3rCe])), (y3rCe, .inl (k 0, 40, .inl y3Ce))]) (ws' := wX7 k xh xaL xaT xaO xaF xaS xaI xaH xaR xaU xTf xTb ++ (wX1 k xaL lrNa lrMo lrWa lrDe lPe_87 lDa_88 lDr_89 lNa_90 lMo_91 lWa_92 lDe_93 ++ (wX1 k xaT trNa trMo trWa trDe tPe_64 tDa_65 tDr_66 tNa_67 tMo_78 tWa_69 tDe_79 ++ (wHA k xaH y0 y1 y2 y3 ++ (wX6 k y0 y0rCe y0Th y0La y0Sz y0Ce ++ (wX6 k y1 y1rCe y1Th y1La y1Sz y1Ce ++ (wX6 k y2 y2rCe y2Th y2La y2Sz y2Ce ++ (wX6 k y3 y3rCe y3Th y3La y3Sz y3Ce)))))))) [1, 2, 3, 4, 5, 6, 7, 8, 9, 10] [0, 11, 12, 13, 14, 15, 16, 17, 18, 19] [0, 10, 11, 12, 13, 14, 15, 16, 17, 18, 19, 1, 2, 3, 4, 5, 6, 7, 8, 9] rfl rfl (by decide) (by decide) (by decide) rfl (by decide) 1 rfl rfl [] rfl hl.1 rfl (Nat.le_of_ble_eq_true rfl) dX7_read_153 ⟨by decide, by decide⟩ (fun H locs (hw : Wd D A s.heap H locs (wX7 k xh xaL xaT xaO xaF xaS xaI xaH xaR xaU xTf xTb ++ (wX1 k xaL lrNa lrMo lrWa lrDe lPe_87 lDa_88 lDr_89 lNa_90 lMo_91 lWa_92 lDe_93 ++ (wX1 k xaT trNa trMo trWa trDe tPe_64 tDa_65 tDr_66 tNa_67 tMo_78 tWa_69 tDe_79 ++ (wHA k xaH y0 y1 y2 y3 ++ (wX6 k y0 y0rCe y0Th y0La y0Sz y0Ce ++ (wX6 k y1 y1rCe y1Th y1La y1Sz y1Ce ++ (wX6 k y2 y2rCe y2Th y2La y2Sz y2Ce ++ (wX6 k y3 y3rCe y3Th y3La y3Sz y3Ce))))))))) => ?_)
                refine W.eq (g2 := F0 m 156 ls ([])) rfl ?_
                refine lv_aload_n hx hb dX7_read_156 rfl (lv_at hl 0 rfl) ?_
                refine lv_iload hx hb dX7_read_157 (lv_at hl 1 rfl) ?_
                refine va_put (ci := 7) (v := .int v6_76) (ty := tyX7 10) (C := RX7) (T := TX7) (N := 11) hx hb hts hinX7 tyX7 tyX7_ok nmX7 hown hK.1 hw.1 hw.2.1 hw.2.2 0 rfl rfl 10 (by decide) q_5 (fun _ h9 => h9) rfl (tyX7_ok 10 (by decide)) rfl rfl (Nat.le_of_ble_eq_true rfl) dX7_read_159 (fun H locs hP hD hS => ?_)
                have hw : Wd D A s.heap H locs (wX7 k xh xaL xaT xaO xaF xaS xaI xaH xaR xaU xTf v6_76 ++ (wX1 k xaL lrNa lrMo lrWa lrDe lPe_87 lDa_88 lDr_89 lNa_90 lMo_91 lWa_92 lDe_93 ++ (wX1 k xaT trNa trMo trWa trDe tPe_64 tDa_65 tDr_66 tNa_67 tMo_78 tWa_69 tDe_79 ++ (wHA k xaH y0 y1 y2 y3 ++ (wX6 k y0 y0rCe y0Th y0La y0Sz y0Ce ++ (wX6 k y1 y1rCe y1Th y1La y1Sz y1Ce ++ (wX6 k y2 y2rCe y2Th y2La y2Sz y2Ce ++ (wX6 k y3 y3rCe y3Th y3La y3Sz y3Ce)))))))) := ⟨hP, hD, hS⟩
                refine lv_iload hx hb dX7_read_162 (lv_at hl 2 rfl) ?_
                cases h
                exact k_iret hx hb hr hlocks hw rfl dX7_read_164 hQ
              have LP_57 : ∀ (n : Nat) (v6_71 : Int32) (v7_72 : Int32) (v8_73 : Int32) (tMo_74 : (Nat → Int32)) (tDe_75 : (Nat → Int32)), f_X7_read_L57 xTb lPe lDa lDr lNa lMo lWa lDe y2Th y2La y2Sz y2Ce p2 p3 p4 tPe_64 tDa_65 tDr_66 tNa_67 tWa_69 n v6_71 v7_72 v8_73 tMo_74 tDe_75 = some ex_57 → ∀ (H : Heap) (locs : List Loc) (ls : Array Slot), Wd D A s.heap H locs (wX7 k xh xaL xaT xaO xaF xaS xaI xaH xaR xaU xTf xTb ++ (wX1 k xaL lrNa lrMo lrWa lrDe lPe lDa lDr lNa lMo lWa lDe ++ (wX1 k xaT trNa trMo trWa trDe tPe_64 tDa_65 tDr_66 tNa_67 tMo_74 tWa_69 tDe_75 ++ (wHA k xaH y0 y1 y2 y3 ++ (wX6 k y0 y0rCe y0Th y0La y0Sz y0Ce ++ (wX6 k y1 y1rCe y1Th y1La y1Sz y1Ce ++ (wX6 k y2 y2rCe y2Th y2La y2Sz y2Ce ++ (wX6 k y3 y3rCe y3Th y3La y3Sz y3Ce)))))))) → lv_has ls 10 [(0, .ref xh), (2, .int p2), (3, .int p3), (4, .int p4), (5, .ref y2), (6, .int v6_71), (7, .int v7_72), (8, .int v8_73)] → W p l e rmX7_read s m args below meth c H locs 0 0 Q (F0 m 57 ls []) := by
                clear hL_57 hw hl
                intro n
                induction n with
                | zero => intro v6_71 v7_72 v8_73 tMo_74 tDe_75 h; rw [f_X7_read_L57] at h; cases h
                | succ n ih =>
                  intro v6_71 v7_72 v8_73 tMo_74 tDe_75 h H locs ls hw hl
                  rw [f_X7_read_L57] at h
                  refine lv_iload hx hb dX7_read_57 (lv_at hl 7 rfl) ?_
                  refine lv_iload hx hb dX7_read_59 (lv_at hl 3 rfl) ?_
                  refine kb_icmp_ge (tgt := 145) hx hb dX7_read_61 (by decide) h (fun c_61 h => ?_) (fun c_61 h => ?_)
                  · cases h
                    exact X_57 _ _ _ _ rfl _ _ _ hw (lv_sub hl [0, 5, 6] rfl)
                  · refine lv_iload hx hb dX7_read_64 (lv_at hl 5 rfl) ?_
                    refine kb_if_ne (tgt := 145) hx hb dX7_read_66 (by decide) h (fun c_66 h => ?_) (fun c_66 h => ?_)
                    · refine lv_iload_n hx hb dX7_read_69 rfl (lv_at hl 2 rfl) ?_
                      refine lv_iconst (v := 3) hx hb dX7_read_70 (by decide) ?_
                      refine lv_iload hx hb dX7_read_71 (lv_at hl 7 rfl) ?_
                      refine lv_imul hx hb dX7_read_73 ?_
                      refine lv_iadd hx hb dX7_read_74 ?_
                      refine lv_istore (lv' := [(9, .int (p3 + (3 * v8_73))), (0, .ref xh), (2, .int p2), (3, .int p3), (4, .int p4), (5, .ref y2), (6, .int v6_71), (7, .int v7_72), (8, .int v8_73)]) hx hb dX7_read_75 hl (by decide) rfl (fun ls hl => ?_)
                      refine lv_aload hx hb dX7_read_77 (lv_at hl 5 rfl) ?_
                      refine lv_iload_n hx hb dX7_read_79 rfl (lv_at hl 2 rfl) ?_
                      refine lv_iload hx hb dX7_read_80 (lv_at hl 0 rfl) ?_
                      obtain ⟨r_80, hf, h⟩ := b1_inv h
                      refine k_callV (host := "") fx hK hA hw (c_X6_faultOfReading l D k y2 y2rCe _ y2Th y2La y2Sz y2Ce p2 (p3 + (3 * v8_73)) r_80 hf) (cwV 2 hts gX7_read_X6_faultOfReading rfl rfl rfl (by decide +kernel) ⟨by decide, by decide⟩) (As := [.int p2, .int (p3 + (3 * v8_73))]) (wr := [(xh, .inr (7, [.ref xaL, .ref xaT, .ref xaO, .ref xaF, .ref xaS, .ref xaI, .ref xaH, .ref xaR, .ref xaU, .int xTf, .int xTb])), (xaL, .inr (1, [.int lPe, .int lDa, .int lDr, .ref lrNa, .ref lrMo, .ref lrWa, .ref lrDe])), (lrNa, .inl (k 0, 5, .inl lNa)), (lrMo, .inl (k 0, 5, .inl lMo)), (lrWa, .inl (k 0, 5, .inl lWa)), (lrDe, .inl (k 0, 25, .inl lDe)), (xaT, .inr (1, [.int tPe_64, .int tDa_65, .int tDr_66, .ref trNa, .ref trMo, .ref trWa, .ref trDe])), (trNa, .inl (k 0, 5, .inl tNa_67)), (trMo, .inl (k 0, 5, .inl tMo_74)), (trWa, .inl (k 0, 5, .inl tWa_69)), (trDe, .inl (k 0, 25, .inl tDe_75)), (xaH, .inl (k 4, 4, .inr (.inr (.inr (.inr (rl [y0, y1, y2, y3])))))), (y0, .inr (6, [.int y0Th, .int y0La, .int y0Sz, .ref y0rCe])), (y0rCe, .inl (k 0, 40, .inl y0Ce)), (y1, .inr (6, [.int y1Th, .int y1La, .int y1Sz, .ref y1rCe])), (y1rCe, .inl (k 0, 40, .inl y1Ce)), (y3, .inr (6, [.int y3Th, .int y3La, .int y3Sz, .ref y3rCe])), (y3rCe, .inl (k 0, 40, .inl y3Ce))]) (ws' := wX7 k xh xaL xaT xaO xaF xaS xaI xaH xaR xaU xTf xTb ++ (wX1 k xaL lrNa lrMo lrWa lrDe lPe lDa lDr lNa lMo lWa lDe ++ (wX1 k xaT trNa trMo trWa trDe tPe_64 tDa_65 tDr_66 tNa_67 tMo_74 tWa_69 tDe_75 ++ (wHA k xaH y0 y1 y2 y3 ++ (wX6 k y0 y0rCe y0Th y0La y0Sz y0Ce ++ (wX6 k y1 y1rCe y1Th y1La y1Sz y1Ce ++ (wX6 k y2 y2rCe y2Th y2La y2Sz y2Ce ++ (wX6 k y3 y3rCe y3Th y3La y3Sz y3Ce)))))))) [16, 17] [0, 1, 2, 3, 4, 5, 6, 7, 8, 9, 10, 11, 12, 13, 14, 15, 18, 19] [0, 1, 2, 3, 4, 5, 6, 7, 8, 9, 10, 11, 12, 13, 14, 15, 18, 19, 16, 17] rfl rfl (by decide) (by decide) (by decide) rfl (by decide) 6 rfl rfl [] rfl hl.1 rfl (Nat.le_of_ble_eq_true rfl) dX7_read_82 ⟨by decide, by decide⟩ (fun H locs (hw : Wd D A s.heap H locs (wX7 k xh xaL xaT xaO xaF xaS xaI xaH xaR xaU xTf xTb ++ (wX1 k xaL lrNa lrMo lrWa lrDe lPe lDa lDr lNa lMo lWa lDe ++ (wX1 k xaT trNa trMo trWa trDe tPe_64 tDa_65 tDr_66 tNa_67 tMo_74 tWa_69 tDe_75 ++ (wHA k xaH y0 y1 y2 y3 ++ (wX6 k y0 y0rCe y0Th y0La y0Sz y0Ce ++ (wX6 k y1 y1rCe y1Th y1La y1Sz y1Ce ++ (wX6 k y2 y2rCe y2Th y2La y2Sz y2Ce ++ (wX6 k y3 y3rCe y3Th y3La y3Sz y3Ce))))))))) => ?_)
                      refine W.eq (g2 := F0 m 85 ls ([.int r_80])) rfl ?_
                      refine lv_istore (lv' := [(6, .int r_80), (9, .int (p3 + (3 * v8_73))), (0, .ref xh), (2, .int p2), (3, .int p3), (4, .int p4), (5, .ref y2), (7, .int v7_72), (8, .int v8_73)]) hx hb dX7_read_85 hl (by decide) rfl (fun ls hl => ?_)
                      refine lv_iload hx hb dX7_read_87 (lv_at hl 0 rfl) ?_
                      refine kb_if_ne (tgt := 139) hx hb dX7_read_89 (by decide) h (fun c_89 h => ?_) (fun c_89 h => ?_)
                      · refine lv_aload_n hx hb dX7_read_92 rfl (lv_at hl 2 rfl) ?_
                        refine va_get (ci := 7) (v := .ref xaT) (C := RX7) (T := TX7) (N := 11) hx hb hts hinX7 hown hK.1 hw.1 0 rfl rfl 1 (by decide) q_2 (fun _ h9 => h9) rfl dX7_read_93 ?_
                        refine lv_aload hx hb dX7_read_96 (lv_at hl 6 rfl) ?_
                        refine va_get (ci := 6) (v := .ref y2rCe) (C := RX6) (T := TX6) (N := 4) hx hb hts hinX6 hown hK.1 hw.1 16 rfl rfl 3 (by decide) q_4 (fun _ h9 => h9) rfl dX7_read_98 ?_
                        refine lv_iload hx hb dX7_read_101 (lv_at hl 1 rfl) ?_
                        refine k_iald hx hb hK hw 17 rfl dX7_read_103 h (fun a_81 h => ?_)
                        refine lv_aload hx hb dX7_read_104 (lv_at hl 6 rfl) ?_
                        refine va_get (ci := 6) (v := .ref y2rCe) (C := RX6) (T := TX6) (N := 4) hx hb hts hinX6 hown hK.1 hw.1 16 rfl rfl 3 (by decide) q_4 (fun _ h9 => h9) rfl dX7_read_106 ?_
                        refine lv_iload hx hb dX7_read_109 (lv_at hl 1 rfl) ?_
                        refine lv_iconst (v := 1) hx hb dX7_read_111 (by decide) ?_
                        refine lv_iadd hx hb dX7_read_112 ?_
                        refine k_iald hx hb hK hw 17 rfl dX7_read_113 h (fun a_82 h => ?_)
                        refine lv_aload hx hb dX7_read_114 (lv_at hl 6 rfl) ?_
                        refine va_get (ci := 6) (v := .ref y2rCe) (C := RX6) (T := TX6) (N := 4) hx hb hts hinX6 hown hK.1 hw.1 16 rfl rfl 3 (by decide) q_4 (fun _ h9 => h9) rfl dX7_read_116 ?_
                        refine lv_iload hx hb dX7_read_119 (lv_at hl 1 rfl) ?_
                        refine lv_iconst (v := 2) hx hb dX7_read_121 (by decide) ?_
                        refine lv_iadd hx hb dX7_read_122 ?_
                        refine k_iald hx hb hK hw 17 rfl dX7_read_123 h (fun a_83 h => ?_)
                        obtain ⟨r_84, tMo_85, tDe_86, hf, h⟩ := b3_inv h
                        refine k_callV (host := "") fx hK hA hw (c_X1_payTo l D k xaT trNa trMo trWa trDe _ tPe_64 tDa_65 tDr_66 tNa_67 tMo_74 tWa_69 tDe_75 a_81 a_82 a_83 r_84 tMo_85 tDe_86 hf) (cwV 3 hts gX7_read_X1_payTo rfl rfl rfl (by decide +kernel) ⟨by decide, by decide⟩) (As := [.int a_81, .int a_82, .int a_83]) (wr := [(xh, .inr (7, [.ref xaL, .ref xaT, .ref xaO, .ref xaF, .ref xaS, .ref xaI, .ref xaH, .ref xaR, .ref xaU, .int xTf, .int xTb])), (xaL, .inr (1, [.int lPe, .int lDa, .int lDr, .ref lrNa, .ref lrMo, .ref lrWa, .ref lrDe])), (lrNa, .inl (k 0, 5, .inl lNa)), (lrMo, .inl (k 0, 5, .inl lMo)), (lrWa, .inl (k 0, 5, .inl lWa)), (lrDe, .inl (k 0, 25, .inl lDe)), (xaH, .inl (k 4, 4, .inr (.inr (.inr (.inr (rl [y0, y1, y2, y3])))))), (y0, .inr (6, [.int y0Th, .int y0La, .int y0Sz, .ref y0rCe])), (y0rCe, .inl (k 0, 40, .inl y0Ce)), (y1, .inr (6, [.int y1Th, .int y1La, .int y1Sz, .ref y1rCe])), (y1rCe, .inl (k 0, 40, .inl y1Ce)), (y2, .inr (6, [.int y2Th, .int y2La, .int y2Sz, .ref y2rCe])), (y2rCe, .inl (k 0, 40, .inl y2Ce)), (y3, .inr (6, [.int y3Th, .int y3La, .int y3Sz, .ref y3rCe])), (y3rCe, .inl (k 0, 40, .inl y3Ce))]) (ws' := wX7 k xh xaL xaT xaO xaF xaS xaI xaH xaR xaU xTf xTb ++ (wX1 k xaL lrNa lrMo lrWa lrDe lPe lDa lDr lNa lMo lWa lDe ++ (wX1 k xaT trNa trMo trWa trDe tPe_64 tDa_65 tDr_66 tNa_67 tMo_85 tWa_69 tDe_86 ++ (wHA k xaH y0 y1 y2 y3 ++ (wX6 k y0 y0rCe y0Th y0La y0Sz y0Ce ++ (wX6 k y1 y1rCe y1Th y1La y1Sz y1Ce ++ (wX6 k y2 y2rCe y2Th y2La y2Sz y2Ce ++ (wX6 k y3 y3rCe y3Th y3La y3Sz y3Ce)))))))) [6, 7, 8, 9, 10] [0, 1, 2, 3, 4, 5, 11, 12, 13, 14, 15, 16, 17, 18, 19] [0, 1, 2, 3, 4, 5, 15, 16, 17, 18, 19, 6, 7, 8, 9, 10, 11, 12, 13, 14] rfl rfl (by decide) (by decide) (by decide) rfl (by decide) 1 rfl rfl [] rfl hl.1 rfl (Nat.le_of_ble_eq_true rfl) dX7_read_124 ⟨by decide, by decide⟩ (fun H locs (hw : Wd D A s.heap H locs (wX7 k xh xaL xaT xaO xaF xaS xaI xaH xaR xaU xTf xTb ++ (wX1 k xaL lrNa lrMo lrWa lrDe lPe lDa lDr lNa lMo lWa lDe ++ (wX1 k xaT trNa trMo trWa trDe tPe_64 tDa_65 tDr_66 tNa_67 tMo_85 tWa_69 tDe_86 ++ (wHA k xaH y0 y1 y2 y3 ++ (wX6 k y0 y0rCe y0Th y0La y0Sz y0Ce ++ (wX6 k y1 y1rCe y1Th y1La y1Sz y1Ce ++ (wX6 k y2 y2rCe y2Th y2La y2Sz y2Ce ++ (wX6 k y3 y3rCe y3Th y3La y3Sz y3Ce))))))))) => ?_)
                        refine W.eq (g2 := F0 m 127 ls ([.int r_84])) rfl ?_
                        refine kb_if_ge (tgt := 136) hx hb dX7_read_127 (by decide) h (fun c_127 h => ?_) (fun c_127 h => ?_)
                        · refine lv_iinc (v := v7_72 + 1) (lv' := [(7, .int (v7_72 + 1)), (6, .int r_80), (9, .int (p3 + (3 * v8_73))), (0, .ref xh), (2, .int p2), (3, .int p3), (4, .int p4), (5, .ref y2), (8, .int v8_73)]) hx hb dX7_read_136 hl (k := 7) rfl rfl (by decide) rfl (fun ls hl => ?_)
                          refine lv_iinc (v := v8_73 + 1) (lv' := [(8, .int (v8_73 + 1)), (7, .int (v7_72 + 1)), (6, .int r_80), (9, .int (p3 + (3 * v8_73))), (0, .ref xh), (2, .int p2), (3, .int p3), (4, .int p4), (5, .ref y2)]) hx hb dX7_read_139 hl (k := 8) rfl rfl (by decide) rfl (fun ls hl => ?_)
                          refine lv_goto (tgt := 57) hx hb dX7_read_142 (by decide) ?_
                          exact ih _ _ _ _ _ h _ _ _ hw (lv_sub hl [4, 5, 6, 7, 8, 2, 1, 0] rfl)
                        · refine lv_bipush (v := (-20)) hx hb dX7_read_130 (by decide) ?_
                          refine lv_iload hx hb dX7_read_132 (lv_at hl 8 rfl) ?_
                          refine lv_isub hx hb dX7_read_134 ?_
                          cases h
                          have h := bs4_l hX_57
                          have g0 := Option.some.inj h
                          clear h
                          obtain ⟨e0, g1⟩ := Prod.mk.inj g0
                          obtain ⟨e1, g2⟩ := Prod.mk.inj g1
                          obtain ⟨e2, g3⟩ := Prod.mk.inj g2
                          obtain ⟨e3, g4⟩ := Prod.mk.inj g3
                          obtain ⟨e4, g5⟩ := Prod.mk.inj g4
                          obtain ⟨e5, g6⟩ := Prod.mk.inj g5
                          obtain ⟨e6, g7⟩ := Prod.mk.inj g6
                          obtain ⟨e7, g8⟩ := Prod.mk.inj g7
                          obtain ⟨e8, g9⟩ := Prod.mk.inj g8
                          obtain ⟨e9, g10⟩ := Prod.mk.inj g9
                          obtain ⟨e10, g11⟩ := Prod.mk.inj g10
                          obtain ⟨e11, g12⟩ := Prod.mk.inj g11
                          obtain ⟨e12, g13⟩ := Prod.mk.inj g12
                          obtain ⟨e13, g14⟩ := Prod.mk.inj g13
                          obtain ⟨e14, g15⟩ := Prod.mk.inj g14
                          subst e0; subst e1; subst e2; subst e3; subst e4; subst e5; subst e6; subst e7; subst e8; subst e9; subst e10; subst e11; subst e12; subst e13; subst e14; subst g15
                          exact k_iret hx hb hr hlocks hw rfl dX7_read_135 hQ
                      · refine lv_iinc (v := v8_73 + 1) (lv' := [(8, .int (v8_73 + 1)), (6, .int r_80), (9, .int (p3 + (3 * v8_73))), (0, .ref xh), (2, .int p2), (3, .int p3), (4, .int p4), (5, .ref y2), (7, .int v7_72)]) hx hb dX7_read_139 hl (k := 8) rfl rfl (by decide) rfl (fun ls hl => ?_)
                        refine lv_goto (tgt := 57) hx hb dX7_read_142 (by decide) ?_
                        exact ih _ _ _ _ _ h _ _ _ hw (lv_sub hl [3, 4, 5, 6, 7, 1, 8, 0] rfl)
                    · cases h
                      exact X_57 _ _ _ _ rfl _ _ _ hw (lv_sub hl [0, 5, 6] rfl)
              exact LP_57 400 0 0 0 tMo_68 tDe_70 hL_57 _ _ _ hw (lv_sub hl [4, 6, 7, 8, 3, 2, 1, 0] rfl)
            · rw [if_neg c_34] at h
              by_cases c_34 : p1 = 3
              · rw [if_pos c_34] at h
                refine k_aald hx hb hK hw 11 4 (j := 3) (a' := y3) rfl rfl c_34 (by unfold vp_in; decide) rfl dX7_read_34 ?_
                refine lv_astore (lv' := [(5, .ref y3), (0, .ref xh), (1, .int p1), (2, .int p2), (3, .int p3), (4, .int p4)]) hx hb dX7_read_35 hl (by decide) rfl (fun ls hl => ?_)
                refine lv_aload_n hx hb dX7_read_37 rfl (lv_at hl 1 rfl) ?_
                refine va_get (ci := 7) (v := .ref xaT) (C := RX7) (T := TX7) (N := 11) hx hb hts hinX7 hown hK.1 hw.1 0 rfl rfl 1 (by decide) q_2 (fun _ h9 => h9) rfl dX7_read_38 ?_
                refine lv_aload_n hx hb dX7_read_41 rfl (lv_at hl 1 rfl) ?_
                refine va_get (ci := 7) (v := .ref xaL) (C := RX7) (T := TX7) (N := 11) hx hb hts hinX7 hown hK.1 hw.1 0 rfl rfl 0 (by decide) q_3 (fun _ h9 => h9) rfl dX7_read_42 ?_
                obtain ⟨tPe_94, tDa_95, tDr_96, tNa_97, tMo_98, tWa_99, tDe_100, hf, h⟩ := b7_inv h
                refine k_callV (host := "") fx hK hA hw (c_X1_become l D k xaT trNa trMo trWa trDe xaL lrNa lrMo lrWa lrDe _ tPe tDa tDr tNa tMo tWa tDe lPe lDa lDr lNa lMo lWa lDe tPe_94 tDa_95 tDr_96 tNa_97 tMo_98 tWa_99 tDe_100 hf) (cwV 1 hts gX7_read_X1_become rfl rfl rfl (by decide +kernel) ⟨by decide, by decide⟩) (As := [.ref xaL]) (wr := [(xh, .inr (7, [.ref xaL, .ref xaT, .ref xaO, .ref xaF, .ref xaS, .ref xaI, .ref xaH, .ref xaR, .ref xaU, .int xTf, .int xTb])), (xaH, .inl (k 4, 4, .inr (.inr (.inr (.inr (rl [y0, y1, y2, y3])))))), (y0, .inr (6, [.int y0Th, .int y0La, .int y0Sz, .ref y0rCe])), (y0rCe, .inl (k 0, 40, .inl y0Ce)), (y1, .inr (6, [.int y1Th, .int y1La, .int y1Sz, .ref y1rCe])), (y1rCe, .inl (k 0, 40, .inl y1Ce)), (y2, .inr (6, [.int y2Th, .int y2La, .int y2Sz, .ref y2rCe])), (y2rCe, .inl (k 0, 40, .inl y2Ce)), (y3, .inr (6, [.int y3Th, .int y3La, .int y3Sz, .ref y3rCe])), (y3rCe, .inl (k 0, 40, .inl y3Ce))]) (ws' := wX7 k xh xaL xaT xaO xaF xaS xaI xaH xaR xaU xTf xTb ++ (wX1 k xaL lrNa lrMo lrWa lrDe lPe lDa lDr lNa lMo lWa lDe ++ (wX1 k xaT trNa trMo trWa trDe tPe_94 tDa_95 tDr_96 tNa_97 tMo_98 tWa_99 tDe_100 ++ (wHA k xaH y0 y1 y2 y3 ++ (wX6 k y0 y0rCe y0Th y0La y0Sz y0Ce ++ (wX6 k y1 y1rCe y1Th y1La y1Sz y1Ce ++ (wX6 k y2 y2rCe y2Th y2La y2Sz y2Ce ++ (wX6 k y3 y3rCe y3Th y3La y3Sz y3Ce)))))))) [6, 7, 8, 9, 10, 1, 2, 3, 4, 5] [0, 11, 12, 13, 14, 15, 16, 17, 18, 19] [0, 15, 16, 17, 18, 19, 10, 11, 12, 13, 14, 1, 2, 3, 4, 5, 6, 7, 8, 9] rfl rfl (by decide) (by decide) (by decide) rfl (by decide) 1 rfl rfl [] rfl hl.1 rfl (Nat.le_of_ble_eq_true rfl) dX7_read_45 ⟨by decide, by decide⟩ (fun H locs (hw : Wd D A s.heap H locs (wX7 k xh xaL xaT xaO xaF xaS xaI xaH xaR xaU xTf xTb ++ (wX1 k xaL lrNa lrMo lrWa lrDe lPe lDa lDr lNa lMo lWa lDe ++ (wX1 k xaT trNa trMo trWa trDe tPe_94 tDa_95 tDr_96 tNa_97 tMo_98 tWa_99 tDe_100 ++ (wHA k xaH y0 y1 y2 y3 ++ (wX6 k y0 y0rCe y0Th y0La y0Sz y0Ce ++ (wX6 k y1 y1rCe y1Th y1La y1Sz y1Ce ++ (wX6 k y2 y2rCe y2Th y2La y2Sz y2Ce ++ (wX6 k y3 y3rCe y3Th y3La y3Sz y3Ce))))))))) => ?_)
                refine W.eq (g2 := F0 m 48 ls ([])) rfl ?_
                refine lv_iconst (v := 0) hx hb dX7_read_48 (by decide) ?_
                refine lv_istore (lv' := [(6, .int 0), (5, .ref y3), (0, .ref xh), (1, .int p1), (2, .int p2), (3, .int p3), (4, .int p4)]) hx hb dX7_read_49 hl (by decide) rfl (fun ls hl => ?_)
                refine lv_iconst (v := 0) hx hb dX7_read_51 (by decide) ?_
                refine lv_istore (lv' := [(7, .int 0), (6, .int 0), (5, .ref y3), (0, .ref xh), (1, .int p1), (2, .int p2), (3, .int p3), (4, .int p4)]) hx hb dX7_read_52 hl (by decide) rfl (fun ls hl => ?_)
                refine lv_iconst (v := 0) hx hb dX7_read_54 (by decide) ?_
                refine lv_istore (lv' := [(8, .int 0), (7, .int 0), (6, .int 0), (5, .ref y3), (0, .ref xh), (1, .int p1), (2, .int p2), (3, .int p3), (4, .int p4)]) hx hb dX7_read_55 hl (by decide) rfl (fun ls hl => ?_)
                obtain ⟨ex_57, hL_57, hX_57⟩ := bs4_inv h
                clear h
                have X_57 : ∀ (v6_106 : Int32) (v7_107 : Int32) (tMo_108 : (Nat → Int32)) (tDe_109 : (Nat → Int32)), ex_57 = Sum.inr (v6_106, v7_107, tMo_108, tDe_109) → ∀ (H : Heap) (locs : List Loc) (ls : Array Slot), Wd D A s.heap H locs (wX7 k xh xaL xaT xaO xaF xaS xaI xaH xaR xaU xTf xTb ++ (wX1 k xaL lrNa lrMo lrWa lrDe lPe lDa lDr lNa lMo lWa lDe ++ (wX1 k xaT trNa trMo trWa trDe tPe_94 tDa_95 tDr_96 tNa_97 tMo_108 tWa_99 tDe_109 ++ (wHA k xaH y0 y1 y2 y3 ++ (wX6 k y0 y0rCe y0Th y0La y0Sz y0Ce ++ (wX6 k y1 y1rCe y1Th y1La y1Sz y1Ce ++ (wX6 k y2 y2rCe y2Th y2La y2Sz y2Ce ++ (wX6 k y3 y3rCe y3Th y3La y3Sz y3Ce)))))))) → lv_has ls 10 [(0, .ref xh), (6, .int v6_106), (7, .int v7_107)] → W p l e rmX7_read s m args below meth c H locs 0 0 Q (F0 m 145 ls []) := by
                  intro v6_106 v7_107 tMo_108 tDe_109 hex H locs ls hw hl
                  subst hex
                  have h := bs4_r hX_57
                  refine lv_aload_n hx hb dX7_read_145 rfl (lv_at hl 0 rfl) ?_
                  refine va_get (ci := 7) (v := .ref xaL) (C := RX7) (T := TX7) (N := 11) hx hb hts hinX7 hown hK.1 hw.1 0 rfl rfl 0 (by decide) q_3 (fun _ h9 => h9) rfl dX7_read_146 ?_
                  refine lv_aload_n hx hb dX7_read_149 rfl (lv_at hl 0 rfl) ?_
                  refine va_get (ci := 7) (v := .ref xaT) (C := RX7) (T := TX7) (N := 11) hx hb hts hinX7 hown hK.1 hw.1 0 rfl rfl 1 (by decide) q_2 (fun _ h9 => h9) rfl dX7_read_150 ?_
                  obtain ⟨lPe_117, lDa_118, lDr_119, lNa_120, lMo_121, lWa_122, lDe_123, hf, h⟩ := b7_inv h
                  refine k_callV (host := "") fx hK hA hw (c_X1_become l D k xaL lrNa lrMo lrWa lrDe xaT trNa trMo trWa trDe _ lPe lDa lDr lNa lMo lWa lDe tPe_94 tDa_95 tDr_96 tNa_97 tMo_108 tWa_99 tDe_109 lPe_117 lDa_118 lDr_119 lNa_120 lMo_121 lWa_122 lDe_123 hf) (cwV 1 hts gX7_read_X1_become rfl rfl rfl (by decide +kernel) ⟨by decide, by decide⟩) (As := [.ref xaT]) (wr := [(xh, .inr (7, [.ref xaL, .ref xaT, .ref xaO, .ref xaF, .ref xaS, .ref xaI, .ref xaH, .ref xaR, .ref xaU, .int xTf, .int xTb])), (xaH, .inl (k 4, 4, .inr (.inr (.inr (.inr (rl [y0, y1, y2, y3])))))), (y0, .inr (6, [.int y0Th, .int y0La, .int y0Sz, .ref y0rCe])), (y0rCe, .inl (k 0, 40, .inl y0Ce)), (y1, .inr (6, [.int y1Th, .int y1La, .int y1Sz, .ref y1rCe])), (y1rCe, .inl (k 0, 40, .inl y1Ce)), (y2, .inr (6, [.int y2Th, .int y2La, .int y2Sz, .ref y2rCe])), (y2rCe, .inl (k 0, 40, .inl y2Ce)), (y3, .inr (6, [.int y3Th, .int y3La, .int y3Sz, .ref y3rCe])), (y3rCe, .inl (k 0, 40, .inl y3Ce))]) (ws' := wX7 k xh xaL xaT xaO xaF xaS xaI xaH xaR xaU xTf xTb ++ (wX1 k xaL lrNa lrMo lrWa lrDe lPe_117 lDa_118 lDr_119 lNa_120 lMo_121 lWa_122 lDe_123 ++ (wX1 k xaT trNa trMo trWa trDe tPe_94 tDa_95 tDr_96 tNa_97 tMo_108 tWa_99 tDe_109 ++ (wHA k xaH y0 y1 y2 y3 ++ (wX6 k y0 y0rCe y0Th y0La y0Sz y0Ce ++ (wX6 k y1 y1rCe y1Th y1La y1Sz y1Ce ++ (wX6 k y2 y2rCe y2Th y2La y2Sz y2Ce ++ (wX6 k y3 y3rCe y3Th y3La y3Sz y3Ce)))))))) [1, 2, 3, 4, 5, 6, 7, 8, 9, 10] [0, 11, 12, 13, 14, 15, 16, 17, 18, 19] [0, 10, 11, 12, 13, 14, 15, 16, 17, 18, 19, 1, 2, 3, 4, 5, 6, 7, 8, 9] rfl rfl (by decide) (by decide) (by decide) rfl (by decide) 1 rfl rfl [] rfl hl.1 rfl (Nat.le_of_ble_eq_true rfl) dX7_read_153 ⟨by decide, by decide⟩ (fun H locs (hw : Wd D A s.heap H locs (wX7 k xh xaL xaT xaO xaF xaS xaI xaH xaR xaU xTf xTb ++ (wX1 k xaL lrNa lrMo lrWa lrDe lPe_117 lDa_118 lDr_119 lNa_120 lMo_121 lWa_122 lDe_123 ++ (wX1 k xaT trNa trMo trWa trDe tPe_94 tDa_95 tDr_96 tNa_97 tMo_108 tWa_99 tDe_109 ++ (wHA k xaH y0 y1 y2 y3 ++ (wX6 k y0 y0rCe y0Th y0La y0Sz y0Ce ++ (wX6 k y1 y1rCe y1Th y1La y1Sz y1Ce ++ (wX6 k y2 y2rCe y2Th y2La y2Sz y2Ce ++ (wX6 k y3 y3rCe y3Th y3La y3Sz y3Ce))))))))) => ?_)
                  refine W.eq (g2 := F0 m 156 ls ([])) rfl ?_
                  refine lv_aload_n hx hb dX7_read_156 rfl (lv_at hl 0 rfl) ?_
                  refine lv_iload hx hb dX7_read_157 (lv_at hl 1 rfl) ?_
                  refine va_put (ci := 7) (v := .int v6_106) (ty := tyX7 10) (C := RX7) (T := TX7) (N := 11) hx hb hts hinX7 tyX7 tyX7_ok nmX7 hown hK.1 hw.1 hw.2.1 hw.2.2 0 rfl rfl 10 (by decide) q_5 (fun _ h9 => h9) rfl (tyX7_ok 10 (by decide)) rfl rfl (Nat.le_of_ble_eq_true rfl) dX7_read_159 (fun H locs hP hD hS => ?_)
                  have hw : Wd D A s.heap H locs (wX7 k xh xaL xaT xaO xaF xaS xaI xaH xaR xaU xTf v6_106 ++ (wX1 k xaL lrNa lrMo lrWa lrDe lPe_117 lDa_118 lDr_119 lNa_120 lMo_121 lWa_122 lDe_123 ++ (wX1 k xaT trNa trMo trWa trDe tPe_94 tDa_95 tDr_96 tNa_97 tMo_108 tWa_99 tDe_109 ++ (wHA k xaH y0 y1 y2 y3 ++ (wX6 k y0 y0rCe y0Th y0La y0Sz y0Ce ++ (wX6 k y1 y1rCe y1Th y1La y1Sz y1Ce ++ (wX6 k y2 y2rCe y2Th y2La y2Sz y2Ce ++ (wX6 k y3 y3rCe y3Th y3La y3Sz y3Ce)))))))) := ⟨hP, hD, hS⟩
                  refine lv_iload hx hb dX7_read_162 (lv_at hl 2 rfl) ?_
                  cases h
                  exact k_iret hx hb hr hlocks hw rfl dX7_read_164 hQ
                have LP_57 : ∀ (n : Nat) (v6_101 : Int32) (v7_102 : Int32) (v8_103 : Int32) (tMo_104 : (Nat → Int32)) (tDe_105 : (Nat → Int32)), f_X7_read_L57 xTb lPe lDa lDr lNa lMo lWa lDe y3Th y3La y3Sz y3Ce p2 p3 p4 tPe_94 tDa_95 tDr_96 tNa_97 tWa_99 n v6_101 v7_102 v8_103 tMo_104 tDe_105 = some ex_57 → ∀ (H : Heap) (locs : List Loc) (ls : Array Slot), Wd D A s.heap H locs (wX7 k xh xaL xaT xaO xaF xaS xaI xaH xaR xaU xTf xTb ++ (wX1 k xaL lrNa lrMo lrWa lrDe lPe lDa lDr lNa lMo lWa lDe ++ (wX1 k xaT trNa trMo trWa trDe tPe_94 tDa_95 tDr_96 tNa_97 tMo_104 tWa_99 tDe_105 ++ (wHA k xaH y0 y1 y2 y3 ++ (wX6 k y0 y0rCe y0Th y0La y0Sz y0Ce ++ (wX6 k y1 y1rCe y1Th y1La y1Sz y1Ce ++ (wX6 k y2 y2rCe y2Th y2La y2Sz y2Ce ++ (wX6 k y3 y3rCe y3Th y3La y3Sz y3Ce)))))))) → lv_has ls 10 [(0, .ref xh), (2, .int p2), (3, .int p3), (4, .int p4), (5, .ref y3), (6, .int v6_101), (7, .int v7_102), (8, .int v8_103)] → W p l e rmX7_read s m args below meth c H locs 0 0 Q (F0 m 57 ls []) := by
                  clear hL_57 hw hl
                  intro n
                  induction n with
                  | zero => intro v6_101 v7_102 v8_103 tMo_104 tDe_105 h; rw [f_X7_read_L57] at h; cases h
                  | succ n ih =>
                    intro v6_101 v7_102 v8_103 tMo_104 tDe_105 h H locs ls hw hl
                    rw [f_X7_read_L57] at h
                    refine lv_iload hx hb dX7_read_57 (lv_at hl 7 rfl) ?_
                    refine lv_iload hx hb dX7_read_59 (lv_at hl 3 rfl) ?_
                    refine kb_icmp_ge (tgt := 145) hx hb dX7_read_61 (by decide) h (fun c_61 h => ?_) (fun c_61 h => ?_)
                    · cases h
                      exact X_57 _ _ _ _ rfl _ _ _ hw (lv_sub hl [0, 5, 6] rfl)
                    · refine lv_iload hx hb dX7_read_64 (lv_at hl 5 rfl) ?_
                      refine kb_if_ne (tgt := 145) hx hb dX7_read_66 (by decide) h (fun c_66 h => ?_) (fun c_66 h => ?_)
                      · refine lv_iload_n hx hb dX7_read_69 rfl (lv_at hl 2 rfl) ?_
                        refine lv_iconst (v := 3) hx hb dX7_read_70 (by decide) ?_
                        refine lv_iload hx hb dX7_read_71 (lv_at hl 7 rfl) ?_
                        refine lv_imul hx hb dX7_read_73 ?_
                        refine lv_iadd hx hb dX7_read_74 ?_
                        refine lv_istore (lv' := [(9, .int (p3 + (3 * v8_103))), (0, .ref xh), (2, .int p2), (3, .int p3), (4, .int p4), (5, .ref y3), (6, .int v6_101), (7, .int v7_102), (8, .int v8_103)]) hx hb dX7_read_75 hl (by decide) rfl (fun ls hl => ?_)
                        refine lv_aload hx hb dX7_read_77 (lv_at hl 5 rfl) ?_
                        refine lv_iload_n hx hb dX7_read_79 rfl (lv_at hl 2 rfl) ?_
                        refine lv_iload hx hb dX7_read_80 (lv_at hl 0 rfl) ?_
                        obtain ⟨r_110, hf, h⟩ := b1_inv h
                        refine k_callV (host := "") fx hK hA hw (c_X6_faultOfReading l D k y3 y3rCe _ y3Th y3La y3Sz y3Ce p2 (p3 + (3 * v8_103)) r_110 hf) (cwV 2 hts gX7_read_X6_faultOfReading rfl rfl rfl (by decide +kernel) ⟨by decide, by decide⟩) (As := [.int p2, .int (p3 + (3 * v8_103))]) (wr := [(xh, .inr (7, [.ref xaL, .ref xaT, .ref xaO, .ref xaF, .ref xaS, .ref xaI, .ref xaH, .ref xaR, .ref xaU, .int xTf, .int xTb])), (xaL, .inr (1, [.int lPe, .int lDa, .int lDr, .ref lrNa, .ref lrMo, .ref lrWa, .ref lrDe])), (lrNa, .inl (k 0, 5, .inl lNa)), (lrMo, .inl (k 0, 5, .inl lMo)), (lrWa, .inl (k 0, 5, .inl lWa)), (lrDe, .inl (k 0, 25, .inl lDe)), (xaT, .inr (1, [.int tPe_94, .int tDa_95, .int tDr_96, .ref trNa, .ref trMo, .ref trWa, .ref trDe])), (trNa, .inl (k 0, 5, .inl tNa_97)), (trMo, .inl (k 0, 5, .inl tMo_104)), (trWa, .inl (k 0, 5, .inl tWa_99)), (trDe, .inl (k 0, 25, .inl tDe_105)), (xaH, .inl (k 4, 4, .inr (.inr (.inr (.inr (rl [y0, y1, y2, y3])))))), (y0, .inr (6, [.int y0Th, .int y0La, .int y0Sz, .ref y0rCe])), (y0rCe, .inl (k 0, 40, .inl y0Ce)), (y1, .inr (6, [.int y1Th, .int y1La, .int y1Sz, .ref y1rCe])), (y1rCe, .inl (k 0, 40, .inl y1Ce)), (y2, .inr (6, [.int y2Th, .int y2La, .int y2Sz, .ref y2rCe])), (y2rCe, .inl (k 0, 40, .inl y2Ce))]) (ws' := wX7 k xh xaL xaT xaO xaF xaS xaI xaH xaR xaU xTf xTb ++ (wX1 k xaL lrNa lrMo lrWa lrDe lPe lDa lDr lNa lMo lWa lDe ++ (wX1 k xaT trNa trMo trWa trDe tPe_94 tDa_95 tDr_96 tNa_97 tMo_104 tWa_99 tDe_105 ++ (wHA k xaH y0 y1 y2 y3 ++ (wX6 k y0 y0rCe y0Th y0La y0Sz y0Ce ++ (wX6 k y1 y1rCe y1Th y1La y1Sz y1Ce ++ (wX6 k y2 y2rCe y2Th y2La y2Sz y2Ce ++ (wX6 k y3 y3rCe y3Th y3La y3Sz y3Ce)))))))) [18, 19] [0, 1, 2, 3, 4, 5, 6, 7, 8, 9, 10, 11, 12, 13, 14, 15, 16, 17] [0, 1, 2, 3, 4, 5, 6, 7, 8, 9, 10, 11, 12, 13, 14, 15, 16, 17, 18, 19] rfl rfl (by decide) (by decide) (by decide) rfl (by decide) 6 rfl rfl [] rfl hl.1 rfl (Nat.le_of_ble_eq_true rfl) dX7_read_82 ⟨by decide, by decide⟩ (fun H locs (hw : Wd D A s.heap H locs (wX7 k xh xaL xaT xaO xaF xaS xaI xaH xaR xaU xTf xTb ++ (wX1 k xaL lrNa lrMo lrWa lrDe lPe lDa lDr lNa lMo lWa lDe ++ (wX1 k xaT trNa trMo trWa trDe tPe_94 tDa_95 tDr_96 tNa_97 tMo_104 tWa_99 tDe_105 ++ (wHA k xaH y0 y1 y2 y3 ++ (wX6 k y0 y0rCe y0Th y0La y0Sz y0Ce ++ (wX6 k y1 y1rCe y1Th y1La y1Sz y1Ce ++ (wX6 k y2 y2rCe y2Th y2La y2Sz y2Ce ++ (wX6 k y3 y3rCe y3Th y3La y3Sz y3Ce))))))))) => ?_)
                        refine W.eq (g2 := F0 m 85 ls ([.int r_110])) rfl ?_
                        refine lv_istore (lv' := [(6, .int r_110), (9, .int (p3 + (3 * v8_103))), (0, .ref xh), (2, .int p2), (3, .int p3), (4, .int p4), (5, .ref y3), (7, .int v7_102), (8, .int v8_103)]) hx hb dX7_read_85 hl (by decide) rfl (fun ls hl => ?_)
                        refine lv_iload hx hb dX7_read_87 (lv_at hl 0 rfl) ?_
                        refine kb_if_ne (tgt := 139) hx hb dX7_read_89 (by decide) h (fun c_89 h => ?_) (fun c_89 h => ?_)
                        · refine lv_aload_n hx hb dX7_read_92 rfl (lv_at hl 2 rfl) ?_
                          refine va_get (ci := 7) (v := .ref xaT) (C := RX7) (T := TX7) (N := 11) hx hb hts hinX7 hown hK.1 hw.1 0 rfl rfl 1 (by decide) q_2 (fun _ h9 => h9) rfl dX7_read_93 ?_
                          refine lv_aload hx hb dX7_read_96 (lv_at hl 6 rfl) ?_
                          refine va_get (ci := 6) (v := .ref y3rCe) (C := RX6) (T := TX6) (N := 4) hx hb hts hinX6 hown hK.1 hw.1 18 rfl rfl 3 (by decide) q_4 (fun _ h9 => h9) rfl dX7_read_98 ?_
                          refine lv_iload hx hb dX7_read_101 (lv_at hl 1 rfl) ?_
                          refine k_iald hx hb hK hw 19 rfl dX7_read_103 h (fun a_111 h => ?_)
                          refine lv_aload hx hb dX7_read_104 (lv_at hl 6 rfl) ?_
                          refine va_get (ci := 6) (v := .ref y3rCe) (C := RX6) (T := TX6) (N := 4) hx hb hts hinX6 hown hK.1 hw.1 18 rfl rfl 3 (by decide) q_4 (fun _ h9 => h9) rfl dX7_read_106 ?_
                          refine lv_iload hx hb dX7_read_109 (lv_at hl 1 rfl) ?_
                          refine lv_iconst (v := 1) hx hb dX7_read_111 (by decide) ?_
                          refine lv_iadd hx hb dX7_read_112 ?_
                          refine k_iald hx hb hK hw 19 rfl dX7_read_113 h (fun a_112 h => ?_)
                          refine lv_aload hx hb dX7_read_114 (lv_at hl 6 rfl) ?_
                          refine va_get (ci := 6) (v := .ref y3rCe) (C := RX6) (T := TX6) (N := 4) hx hb hts hinX6 hown hK.1 hw.1 18 rfl rfl 3 (by decide) q_4 (fun _ h9 => h9) rfl dX7_read_116 ?_
                          refine lv_iload hx hb dX7_read_119 (lv_at hl 1 rfl) ?_
                          refine lv_iconst (v := 2) hx hb dX7_read_121 (by decide) ?_
                          refine lv_iadd hx hb dX7_read_122 ?_
                          refine k_iald hx hb hK hw 19 rfl dX7_read_123 h (fun a_113 h => ?_)
                          obtain ⟨r_114, tMo_115, tDe_116, hf, h⟩ := b3_inv h
                          refine k_callV (host := "") fx hK hA hw (c_X1_payTo l D k xaT trNa trMo trWa trDe _ tPe_94 tDa_95 tDr_96 tNa_97 tMo_104 tWa_99 tDe_105 a_111 a_112 a_113 r_114 tMo_115 tDe_116 hf) (cwV 3 hts gX7_read_X1_payTo rfl rfl rfl (by decide +kernel) ⟨by decide, by decide⟩) (As := [.int a_111, .int a_112, .int a_113]) (wr := [(xh, .inr (7, [.ref xaL, .ref xaT, .ref xaO, .ref xaF, .ref xaS, .ref xaI, .ref xaH, .ref xaR, .ref xaU, .int xTf, .int xTb])), (xaL, .inr (1, [.int lPe, .int lDa, .int lDr, .ref lrNa, .ref lrMo, .ref lrWa, .ref lrDe])), (lrNa, .inl (k 0, 5, .inl lNa)), (lrMo, .inl (k 0, 5, .inl lMo)), (lrWa, .inl (k 0, 5, .inl lWa)), (lrDe, .inl (k 0, 25, .inl lDe)), (xaH, .inl (k 4, 4, .inr (.inr (.inr (.inr (rl [y0, y1, y2, y3])))))), (y0, .inr (6, [.int y0Th, .int y0La, .int y0Sz, .ref y0rCe])), (y0rCe, .inl (k 0, 40, .inl y0Ce)), (y1, .inr (6, [.int y1Th, .int y1La, .int y1Sz, .ref y1rCe])), (y1rCe, .inl (k 0, 40, .inl y1Ce)), (y2, .inr (6, [.int y2Th, .int y2La, .int y2Sz, .ref y2rCe])), (y2rCe, .inl (k 0, 40, .inl y2Ce)), (y3, .inr (6, [.int y3Th, .int y3La, .int y3Sz, .ref y3rCe])), (y3rCe, .inl (k 0, 40, .inl y3Ce))]) (ws' := wX7 k xh xaL xaT xaO xaF xaS xaI xaH xaR xaU xTf xTb ++ (wX1 k xaL lrNa lrMo lrWa lrDe lPe lDa lDr lNa lMo lWa lDe ++ (wX1 k xaT trNa trMo trWa trDe tPe_94 tDa_95 tDr_96 tNa_97 tMo_115 tWa_99 tDe_116 ++ (wHA k xaH y0 y1 y2 y3 ++ (wX6 k y0 y0rCe y0Th y0La y0Sz y0Ce ++ (wX6 k y1 y1rCe y1Th y1La y1Sz y1Ce ++ (wX6 k y2 y2rCe y2Th y2La y2Sz y2Ce ++ (wX6 k y3 y3rCe y3Th y3La y3Sz y3Ce)))))))) [6, 7, 8, 9, 10] [0, 1, 2, 3, 4, 5, 11, 12, 13, 14, 15, 16, 17, 18, 19] [0, 1, 2, 3, 4, 5, 15, 16, 17, 18, 19, 6, 7, 8, 9, 10, 11, 12, 13, 14] rfl rfl (by decide) (by decide) (by decide) rfl (by decide) 1 rfl rfl [] rfl hl.1 rfl (Nat.le_of_ble_eq_true rfl) dX7_read_124 ⟨by decide, by decide⟩ (fun H locs (hw : Wd D A s.heap H locs (wX7 k xh xaL xaT xaO xaF xaS xaI xaH xaR xaU xTf xTb ++ (wX1 k xaL lrNa lrMo lrWa lrDe lPe lDa lDr lNa lMo lWa lDe ++ (wX1 k xaT trNa trMo trWa trDe tPe_94 tDa_95 tDr_96 tNa_97 tMo_115 tWa_99 tDe_116 ++ (wHA k xaH y0 y1 y2 y3 ++ (wX6 k y0 y0rCe y0Th y0La y0Sz y0Ce ++ (wX6 k y1 y1rCe y1Th y1La y1Sz y1Ce ++ (wX6 k y2 y2rCe y2Th y2La y2Sz y2Ce ++ (wX6 k y3 y3rCe y3Th y3La y3Sz y3Ce))))))))) => ?_)
                          refine W.eq (g2 := F0 m 127 ls ([.int r_114])) rfl ?_
                          refine kb_if_ge (tgt := 136) hx hb dX7_read_127 (by decide) h (fun c_127 h => ?_) (fun c_127 h => ?_)
                          · refine lv_iinc (v := v7_102 + 1) (lv' := [(7, .int (v7_102 + 1)), (6, .int r_110), (9, .int (p3 + (3 * v8_103))), (0, .ref xh), (2, .int p2), (3, .int p3), (4, .int p4), (5, .ref y3), (8, .int v8_103)]) hx hb dX7_read_136 hl (k := 7) rfl rfl (by decide) rfl (fun ls hl => ?_)
                            refine lv_iinc (v := v8_103 + 1) (lv' := [(8, .int (v8_103 + 1)), (7, .int (v7_102 + 1)), (6, .int r_110), (9, .int (p3 + (3 * v8_103))), (0, .ref xh), (2, .int p2), (3, .int p3), (4, .int p4), (5, .ref y3)]) hx hb dX7_read_139 hl (k := 8) rfl rfl (by decide) rfl (fun ls hl => ?_)
                            refine lv_goto (tgt := 57) hx hb dX7_read_142 (by decide) ?_
                            exact ih _ _ _ _ _ h _ _ _ hw (lv_sub hl [4, 5, 6, 7, 8, 2, 1, 0] rfl)
                          · refine lv_bipush (v := (-20)) hx hb dX7_read_130 (by decide) ?_
                            refine lv_iload hx hb dX7_read_132 (lv_at hl 8 rfl) ?_
                            refine lv_isub hx hb dX7_read_134 ?_
                            cases h
                            have h := bs4_l hX_57
                            have g0 := Option.some.inj h
                            clear h
                            obtain ⟨e0, g1⟩ := Prod.mk.inj g0
                            obtain ⟨e1, g2⟩ := Prod.mk.inj g1
                            obtain ⟨e2, g3⟩ := Prod.mk.inj g2
                            obtain ⟨e3, g4⟩ := Prod.mk.inj g3
                            obtain ⟨e4, g5⟩ := Prod.mk.inj g4
                            obtain ⟨e5, g6⟩ := Prod.mk.inj g5
                            obtain ⟨e6, g7⟩ := Prod.mk.inj g6
                            obtain ⟨e7, g8⟩ := Prod.mk.inj g7
                            obtain ⟨e8, g9⟩ := Prod.mk.inj g8
                            obtain ⟨e9, g10⟩ := Prod.mk.inj g9
                            obtain ⟨e10, g11⟩ := Prod.mk.inj g10
                            obtain ⟨e11, g12⟩ := Prod.mk.inj g11
                            obtain ⟨e12, g13⟩ := Prod.mk.inj g12
                            obtain ⟨e13, g14⟩ := Prod.mk.inj g13
                            obtain ⟨e14, g15⟩ := Prod.mk.inj g14
                            subst e0; subst e1; subst e2; subst e3; subst e4; subst e5; subst e6; subst e7; subst e8; subst e9; subst e10; subst e11; subst e12; subst e13; subst e14; subst g15
                            exact k_iret hx hb hr hlocks hw rfl dX7_read_135 hQ
                        · refine lv_iinc (v := v8_103 + 1) (lv' := [(8, .int (v8_103 + 1)), (6, .int r_110), (9, .int (p3 + (3 * v8_103))), (0, .ref xh), (2, .int p2), (3, .int p3), (4, .int p4), (5, .ref y3), (7, .int v7_102)]) hx hb dX7_read_139 hl (k := 8) rfl rfl (by decide) rfl (fun ls hl => ?_)
                          refine lv_goto (tgt := 57) hx hb dX7_read_142 (by decide) ?_
                          exact ih _ _ _ _ _ h _ _ _ hw (lv_sub hl [3, 4, 5, 6, 7, 1, 8, 0] rfl)
                      · cases h
                        exact X_57 _ _ _ _ rfl _ _ _ hw (lv_sub hl [0, 5, 6] rfl)
                exact LP_57 400 0 0 0 tMo_98 tDe_100 hL_57 _ _ _ hw (lv_sub hl [4, 6, 7, 8, 3, 2, 1, 0] rfl)
              · rw [if_neg c_34] at h
                cases h
abbrev rmX7_rides : Room := { frames := 5, cells := 0, slots := 0, locals := 116 }
set_option maxHeartbeats 4000000 in
set_option maxRecDepth 100000 in
theorem c_X7_rides (l : Launch) (D : va_G) (k : Nat → ClassId) (xh xaL xaT xaO xaF xaS xaI xaH xaR xaU lrNa lrMo lrWa lrDe trNa trMo trWa trDe : Nat) (sz : Nat) (xTf : Int32) (xTb : Int32) (lPe : Int32) (lDa : Int32) (lDr : Int32) (lNa : (Nat → Int32)) (lMo : (Nat → Int32)) (lWa : (Nat → Int32)) (lDe : (Nat → Int32)) (tPe : Int32) (tDa : Int32) (tDr : Int32) (tNa : (Nat → Int32)) (tMo : (Nat → Int32)) (tWa : (Nat → Int32)) (tDe : (Nat → Int32)) (p1 : Int32) (r_ : Int32) (n_tPe : Int32) (n_tDa : Int32) (n_tDr : Int32) (n_tNa : (Nat → Int32)) (n_tMo : (Nat → Int32)) (n_tWa : (Nat → Int32)) (n_tDe : (Nat → Int32)) (hf : f_X7_rides lPe lDa lDr lNa lMo lWa lDe tPe tDa tDr tNa tMo tWa tDe p1 = some (r_, n_tPe, n_tDa, n_tDr, n_tNa, n_tMo, n_tWa, n_tDe)) : mR l yX7_rides wsX7_rides rmX7_rides D k sz [.ref xh, .int p1] (wX7 k xh xaL xaT xaO xaF xaS xaI xaH xaR xaU xTf xTb ++ (wX1 k xaL lrNa lrMo lrWa lrDe lPe lDa lDr lNa lMo lWa lDe ++ (wX1 k xaT trNa trMo trWa trDe tPe tDa tDr tNa tMo tWa tDe))) (wX7 k xh xaL xaT xaO xaF xaS xaI xaH xaR xaU xTf xTb ++ (wX1 k xaL lrNa lrMo lrWa lrDe lPe lDa lDr lNa lMo lWa lDe ++ (wX1 k xaT trNa trMo trWa trDe n_tPe n_tDa n_tDr n_tNa n_tMo n_tWa n_tDe))) (some (.int r_)) := by
  refine mR_of (cc := cX7_rides) (maxL := 2) (ret := some .int) (by decide) rfl (Nat.le_of_ble_eq_true rfl) [(0, .ref xh), (1, .int p1)] rfl ?_
  intro p e s m below meth c A ls args Q cx hK hA hw hl hQ
  have fx := cx.1
  obtain ⟨⟨hx, hb, hml, hown, hts⟩, hr, hlocks⟩ := cx
  have hinX7 : ∀ w ∈ wsX70, w ∈ wsX7_rides := fun w h => List.mem_cons_of_mem _ (List.mem_append_left _ (List.mem_append_right _ h))
  have q_1 := hts (.fieldLink RX7 10 "DebtRides" "land" "LDebtRides$Land;") (List.mem_of_getElem? (i := 1) rfl)
  have q_2 := hts (.fieldLink RX7 16 "DebtRides" "trial" "LDebtRides$Land;") (List.mem_of_getElem? (i := 2) rfl)
  have h := hf
  unfold f_X7_rides at h
  clear hf
  refine lv_aload_n hx hb dX7_rides_0 rfl (lv_at hl 0 rfl) ?_
  refine va_get (ci := 7) (v := .ref xaL) (C := RX7) (T := TX7) (N := 11) hx hb hts hinX7 hown hK.1 hw.1 0 rfl rfl 0 (by decide) q_1 (fun _ h9 => h9) rfl dX7_rides_1 ?_
  refine lv_iload_n hx hb dX7_rides_4 rfl (lv_at hl 1 rfl) ?_
  obtain ⟨r_1, hf, h⟩ := b1_inv h
  refine k_callV (host := "") fx hK hA hw (c_X1_has l D k xaL lrNa lrMo lrWa lrDe _ lPe lDa lDr lNa lMo lWa lDe p1 r_1 hf) (cwV 1 hts gX7_rides_X1_has rfl rfl rfl (by decide +kernel) ⟨by decide, by decide⟩) (As := [.int p1]) (wr := [(xh, .inr (7, [.ref xaL, .ref xaT, .ref xaO, .ref xaF, .ref xaS, .ref xaI, .ref xaH, .ref xaR, .ref xaU, .int xTf, .int xTb])), (xaT, .inr (1, [.int tPe, .int tDa, .int tDr, .ref trNa, .ref trMo, .ref trWa, .ref trDe])), (trNa, .inl (k 0, 5, .inl tNa)), (trMo, .inl (k 0, 5, .inl tMo)), (trWa, .inl (k 0, 5, .inl tWa)), (trDe, .inl (k 0, 25, .inl tDe))]) (ws' := wX7 k xh xaL xaT xaO xaF xaS xaI xaH xaR xaU xTf xTb ++ (wX1 k xaL lrNa lrMo lrWa lrDe lPe lDa lDr lNa lMo lWa lDe ++ (wX1 k xaT trNa trMo trWa trDe tPe tDa tDr tNa tMo tWa tDe))) [1, 2, 3, 4, 5] [0, 6, 7, 8, 9, 10] [0, 6, 7, 8, 9, 10, 1, 2, 3, 4, 5] rfl rfl (by decide) (by decide) (by decide) rfl (by decide) 1 rfl rfl [] rfl hl.1 rfl (Nat.le_of_ble_eq_true rfl) dX7_rides_5 ⟨by decide, by decide⟩ (fun H locs (hw : Wd D A s.heap H locs (wX7 k xh xaL xaT xaO xaF xaS xaI xaH xaR xaU xTf xTb ++ (wX1 k xaL lrNa lrMo lrWa lrDe lPe lDa lDr lNa lMo lWa lDe ++ (wX1 k xaT trNa trMo trWa trDe tPe tDa tDr tNa tMo tWa tDe)))) => ?_)
  refine W.eq (g2 := F0 m 8 ls ([.int r_1])) rfl ?_
  refine kb_if_ne (tgt := 13) hx hb dX7_rides_8 (by decide) h (fun c_8 h => ?_) (fun c_8 h => ?_)
  · refine lv_iconst (v := (-1)) hx hb dX7_rides_11 (by decide) ?_
    cases h
    exact k_iret hx hb hr hlocks hw rfl dX7_rides_12 hQ
  · refine lv_aload_n hx hb dX7_rides_13 rfl (lv_at hl 0 rfl) ?_
    refine va_get (ci := 7) (v := .ref xaT) (C := RX7) (T := TX7) (N := 11) hx hb hts hinX7 hown hK.1 hw.1 0 rfl rfl 1 (by decide) q_2 (fun _ h9 => h9) rfl dX7_rides_14 ?_
    refine lv_aload_n hx hb dX7_rides_17 rfl (lv_at hl 0 rfl) ?_
    refine va_get (ci := 7) (v := .ref xaL) (C := RX7) (T := TX7) (N := 11) hx hb hts hinX7 hown hK.1 hw.1 0 rfl rfl 0 (by decide) q_1 (fun _ h9 => h9) rfl dX7_rides_18 ?_
    obtain ⟨tPe_2, tDa_3, tDr_4, tNa_5, tMo_6, tWa_7, tDe_8, hf, h⟩ := b7_inv h
    refine k_callV (host := "") fx hK hA hw (c_X1_become l D k xaT trNa trMo trWa trDe xaL lrNa lrMo lrWa lrDe _ tPe tDa tDr tNa tMo tWa tDe lPe lDa lDr lNa lMo lWa lDe tPe_2 tDa_3 tDr_4 tNa_5 tMo_6 tWa_7 tDe_8 hf) (cwV 1 hts gX7_rides_X1_become rfl rfl rfl (by decide +kernel) ⟨by decide, by decide⟩) (As := [.ref xaL]) (wr := [(xh, .inr (7, [.ref xaL, .ref xaT, .ref xaO, .ref xaF, .ref xaS, .ref xaI, .ref xaH, .ref xaR, .ref xaU, .int xTf, .int xTb]))]) (ws' := wX7 k xh xaL xaT xaO xaF xaS xaI xaH xaR xaU xTf xTb ++ (wX1 k xaL lrNa lrMo lrWa lrDe lPe lDa lDr lNa lMo lWa lDe ++ (wX1 k xaT trNa trMo trWa trDe tPe_2 tDa_3 tDr_4 tNa_5 tMo_6 tWa_7 tDe_8))) [6, 7, 8, 9, 10, 1, 2, 3, 4, 5] [0] [0, 6, 7, 8, 9, 10, 1, 2, 3, 4, 5] rfl rfl (by decide) (by decide) (by decide) rfl (by decide) 1 rfl rfl [] rfl hl.1 rfl (Nat.le_of_ble_eq_true rfl) dX7_rides_21 ⟨by decide, by decide⟩ (fun H locs (hw : Wd D A s.heap H locs (wX7 k xh xaL xaT xaO xaF xaS xaI xaH xaR xaU xTf xTb ++ (wX1 k xaL lrNa lrMo lrWa lrDe lPe lDa lDr lNa lMo lWa lDe ++ (wX1 k xaT trNa trMo trWa trDe tPe_2 tDa_3 tDr_4 tNa_5 tMo_6 tWa_7 tDe_8)))) => ?_)
    refine W.eq (g2 := F0 m 24 ls ([])) rfl ?_
    refine lv_aload_n hx hb dX7_rides_24 rfl (lv_at hl 0 rfl) ?_
    refine va_get (ci := 7) (v := .ref xaT) (C := RX7) (T := TX7) (N := 11) hx hb hts hinX7 hown hK.1 hw.1 0 rfl rfl 1 (by decide) q_2 (fun _ h9 => h9) rfl dX7_rides_25 ?_
    refine lv_iload_n hx hb dX7_rides_28 rfl (lv_at hl 1 rfl) ?_
    obtain ⟨r_9, tDa_10, tMo_11, tDe_12, hf, h⟩ := b4_inv h
    refine k_callV (host := "") fx hK hA hw (c_X1_daysTillRiding l D k xaT trNa trMo trWa trDe _ tPe_2 tDa_3 tDr_4 tNa_5 tMo_6 tWa_7 tDe_8 p1 r_9 tDa_10 tMo_11 tDe_12 hf) (cwV 1 hts gX7_rides_X1_daysTillRiding rfl rfl rfl (by decide +kernel) ⟨by decide, by decide⟩) (As := [.int p1]) (wr := [(xh, .inr (7, [.ref xaL, .ref xaT, .ref xaO, .ref xaF, .ref xaS, .ref xaI, .ref xaH, .ref xaR, .ref xaU, .int xTf, .int xTb])), (xaL, .inr (1, [.int lPe, .int lDa, .int lDr, .ref lrNa, .ref lrMo, .ref lrWa, .ref lrDe])), (lrNa, .inl (k 0, 5, .inl lNa)), (lrMo, .inl (k 0, 5, .inl lMo)), (lrWa, .inl (k 0, 5, .inl lWa)), (lrDe, .inl (k 0, 25, .inl lDe))]) (ws' := wX7 k xh xaL xaT xaO xaF xaS xaI xaH xaR xaU xTf xTb ++ (wX1 k xaL lrNa lrMo lrWa lrDe lPe lDa lDr lNa lMo lWa lDe ++ (wX1 k xaT trNa trMo trWa trDe tPe_2 tDa_10 tDr_4 tNa_5 tMo_11 tWa_7 tDe_12))) [6, 7, 8, 9, 10] [0, 1, 2, 3, 4, 5] [0, 1, 2, 3, 4, 5, 6, 7, 8, 9, 10] rfl rfl (by decide) (by decide) (by decide) rfl (by decide) 1 rfl rfl [] rfl hl.1 rfl (Nat.le_of_ble_eq_true rfl) dX7_rides_29 ⟨by decide, by decide⟩ (fun H locs (hw : Wd D A s.heap H locs (wX7 k xh xaL xaT xaO xaF xaS xaI xaH xaR xaU xTf xTb ++ (wX1 k xaL lrNa lrMo lrWa lrDe lPe lDa lDr lNa lMo lWa lDe ++ (wX1 k xaT trNa trMo trWa trDe tPe_2 tDa_10 tDr_4 tNa_5 tMo_11 tWa_7 tDe_12)))) => ?_)
    refine W.eq (g2 := F0 m 32 ls ([.int r_9])) rfl ?_
    cases h
    exact k_iret hx hb hr hlocks hw rfl dX7_rides_32 hQ
abbrev rmX7_ring : Room := { frames := 7, cells := 0, slots := 0, locals := 166 }
set_option maxHeartbeats 4000000 in
set_option maxRecDepth 100000 in
theorem c_X7_ring (l : Launch) (D : va_G) (k : Nat → ClassId) (xh xaL xaT xaO xaF xaS xaI xaH xaR xaU lrNa lrMo lrWa lrDe frRo : Nat) (sz : Nat) (xTf : Int32) (xTb : Int32) (lPe : Int32) (lDa : Int32) (lDr : Int32) (lNa : (Nat → Int32)) (lMo : (Nat → Int32)) (lWa : (Nat → Int32)) (lDe : (Nat → Int32)) (fRo : (Nat → Int32)) (fSz : Int32) (p1 : Int32) (r_ : Int32) (n_fRo : (Nat → Int32)) (n_fSz : Int32) (hf : f_X7_ring lPe lDe fRo fSz p1 = some (r_, n_fRo, n_fSz)) : mR l yX7_ring wsX7_ring rmX7_ring D k sz [.ref xh, .int p1] (wX7 k xh xaL xaT xaO xaF xaS xaI xaH xaR xaU xTf xTb ++ (wX1 k xaL lrNa lrMo lrWa lrDe lPe lDa lDr lNa lMo lWa lDe ++ (wX4 k xaF frRo fRo fSz))) (wX7 k xh xaL xaT xaO xaF xaS xaI xaH xaR xaU xTf xTb ++ (wX1 k xaL lrNa lrMo lrWa lrDe lPe lDa lDr lNa lMo lWa lDe ++ (wX4 k xaF frRo n_fRo n_fSz))) (some (.int r_)) := by
  refine mR_of (cc := cX7_ring) (maxL := 3) (ret := some .int) (by decide) rfl (Nat.le_of_ble_eq_true rfl) [(0, .ref xh), (1, .int p1)] rfl ?_
  intro p e s m below meth c A ls args Q cx hK hA hw hl hQ
  have fx := cx.1
  obtain ⟨⟨hx, hb, hml, hown, hts⟩, hr, hlocks⟩ := cx
  have hinX7 : ∀ w ∈ wsX70, w ∈ wsX7_ring := fun w h => List.mem_cons_of_mem _ (List.mem_append_left _ (List.mem_append_left _ (List.mem_append_right _ h)))
  have hinX4 : ∀ w ∈ wsX40, w ∈ wsX7_ring := fun w h => List.mem_cons_of_mem _ (List.mem_append_left _ (List.mem_append_right _ h))
  have q_1 := hts (.fieldLink RX7 29 "DebtRides" "finder" "LDebtRides$RingFinder;") (List.mem_of_getElem? (i := 1) rfl)
  have q_2 := hts (.fieldLink RX7 10 "DebtRides" "land" "LDebtRides$Land;") (List.mem_of_getElem? (i := 2) rfl)
  have q_3 := hts (.fieldLink RX7 195 "DebtRides$RingFinder" "size" "I") (List.mem_of_getElem? (i := 3) rfl)
  have q_4 := hts (.fieldLink RX7 200 "DebtRides$RingFinder" "row" "[I") (List.mem_of_getElem? (i := 4) rfl)
  have h := hf
  unfold f_X7_ring at h
  clear hf
  refine lv_iload_n hx hb dX7_ring_0 rfl (lv_at hl 1 rfl) ?_
  refine lv_bipush (v := 10) hx hb dX7_ring_1 (by decide) ?_
  refine lv_bipush (v := 14) hx hb dX7_ring_3 (by decide) ?_
  obtain ⟨r_1, hf, h⟩ := b1_inv h
  refine k_callS (b := 0) (C := "") (host := "") fx hK hA hw (c_X7_within l D k _ p1 10 14 r_1 hf) (va_cwS 3 hts gX7_ring_X7_within rfl rfl rfl (by decide +kernel) ⟨by decide, by decide⟩) (As := [.int p1, .int 10, .int 14]) (wr := [(xh, .inr (7, [.ref xaL, .ref xaT, .ref xaO, .ref xaF, .ref xaS, .ref xaI, .ref xaH, .ref xaR, .ref xaU, .int xTf, .int xTb])), (xaL, .inr (1, [.int lPe, .int lDa, .int lDr, .ref lrNa, .ref lrMo, .ref lrWa, .ref lrDe])), (lrNa, .inl (k 0, 5, .inl lNa)), (lrMo, .inl (k 0, 5, .inl lMo)), (lrWa, .inl (k 0, 5, .inl lWa)), (lrDe, .inl (k 0, 25, .inl lDe)), (xaF, .inr (4, [.ref frRo, .int fSz])), (frRo, .inl (k 0, 5, .inl fRo))]) (ws' := wX7 k xh xaL xaT xaO xaF xaS xaI xaH xaR xaU xTf xTb ++ (wX1 k xaL lrNa lrMo lrWa lrDe lPe lDa lDr lNa lMo lWa lDe ++ (wX4 k xaF frRo fRo fSz))) [] [0, 1, 2, 3, 4, 5, 6, 7] [0, 1, 2, 3, 4, 5, 6, 7] rfl rfl (by decide) (by decide) (by decide) rfl (by decide) [] rfl hl.1 rfl (Nat.le_of_ble_eq_true rfl) dX7_ring_5 ⟨by decide, by decide⟩ (fun H locs (hw : Wd D A s.heap H locs (wX7 k xh xaL xaT xaO xaF xaS xaI xaH xaR xaU xTf xTb ++ (wX1 k xaL lrNa lrMo lrWa lrDe lPe lDa lDr lNa lMo lWa lDe ++ (wX4 k xaF frRo fRo fSz)))) => ?_)
  refine W.eq (g2 := F0 m 8 ls ([.int r_1])) rfl ?_
  refine lv_istore_n (lv' := [(2, .int r_1), (0, .ref xh), (1, .int p1)]) hx hb dX7_ring_8 rfl hl (by decide) rfl (fun ls hl => ?_)
  refine lv_iload_n hx hb dX7_ring_9 rfl (lv_at hl 2 rfl) ?_
  refine lv_iconst (v := 0) hx hb dX7_ring_10 (by decide) ?_
  refine lv_iconst (v := 1) hx hb dX7_ring_11 (by decide) ?_
  obtain ⟨r_2, hf, h⟩ := b1_inv h
  refine k_callS (b := 0) (C := "") (host := "") fx hK hA hw (c_X7_within l D k _ p1 0 1 r_2 hf) (va_cwS 3 hts gX7_ring_X7_within rfl rfl rfl (by decide +kernel) ⟨by decide, by decide⟩) (As := [.int p1, .int 0, .int 1]) (wr := [(xh, .inr (7, [.ref xaL, .ref xaT, .ref xaO, .ref xaF, .ref xaS, .ref xaI, .ref xaH, .ref xaR, .ref xaU, .int xTf, .int xTb])), (xaL, .inr (1, [.int lPe, .int lDa, .int lDr, .ref lrNa, .ref lrMo, .ref lrWa, .ref lrDe])), (lrNa, .inl (k 0, 5, .inl lNa)), (lrMo, .inl (k 0, 5, .inl lMo)), (lrWa, .inl (k 0, 5, .inl lWa)), (lrDe, .inl (k 0, 25, .inl lDe)), (xaF, .inr (4, [.ref frRo, .int fSz])), (frRo, .inl (k 0, 5, .inl fRo))]) (ws' := wX7 k xh xaL xaT xaO xaF xaS xaI xaH xaR xaU xTf xTb ++ (wX1 k xaL lrNa lrMo lrWa lrDe lPe lDa lDr lNa lMo lWa lDe ++ (wX4 k xaF frRo fRo fSz))) [] [0, 1, 2, 3, 4, 5, 6, 7] [0, 1, 2, 3, 4, 5, 6, 7] rfl rfl (by decide) (by decide) (by decide) rfl (by decide) [] rfl hl.1 rfl (Nat.le_of_ble_eq_true rfl) dX7_ring_12 ⟨by decide, by decide⟩ (fun H locs (hw : Wd D A s.heap H locs (wX7 k xh xaL xaT xaO xaF xaS xaI xaH xaR xaU xTf xTb ++ (wX1 k xaL lrNa lrMo lrWa lrDe lPe lDa lDr lNa lMo lWa lDe ++ (wX4 k xaF frRo fRo fSz)))) => ?_)
  refine W.eq (g2 := F0 m 15 ls ([.int r_2])) rfl ?_
  have T_24 : f_X7_ring_B24 lPe lDe fRo fSz p1 = some (r_, n_fRo, n_fSz) → ∀ (H : Heap) (locs : List Loc) (ls : Array Slot), Wd D A s.heap H locs (wX7 k xh xaL xaT xaO xaF xaS xaI xaH xaR xaU xTf xTb ++ (wX1 k xaL lrNa lrMo lrWa lrDe lPe lDa lDr lNa lMo lWa lDe ++ (wX4 k xaF frRo fRo fSz))) → lv_has ls 3 [(0, .ref xh), (1, .int p1)] → W p l e rmX7_ring s m args below meth c H locs 0 0 Q (F0 m 24 ls []) := by
    clear h
    intro h H locs ls hw hl
    unfold f_X7_ring_B24 at h
    refine lv_aload_n hx hb dX7_ring_24 rfl (lv_at hl 0 rfl) ?_
    refine va_get (ci := 7) (v := .ref xaF) (C := RX7) (T := TX7) (N := 11) hx hb hts hinX7 hown hK.1 hw.1 0 rfl rfl 3 (by decide) q_1 (fun _ h9 => h9) rfl dX7_ring_25 ?_
    refine lv_aload_n hx hb dX7_ring_28 rfl (lv_at hl 0 rfl) ?_
    refine va_get (ci := 7) (v := .ref xaL) (C := RX7) (T := TX7) (N := 11) hx hb hts hinX7 hown hK.1 hw.1 0 rfl rfl 0 (by decide) q_2 (fun _ h9 => h9) rfl dX7_ring_29 ?_
    obtain ⟨r_3, fRo_4, fSz_5, hf, h⟩ := b3_inv h
    refine k_callV (host := "") fx hK hA hw (c_X4_find l D k xaF frRo xaL lrNa lrMo lrWa lrDe _ fRo fSz lPe lDa lDr lNa lMo lWa lDe r_3 fRo_4 fSz_5 hf) (cwV 1 hts gX7_ring_X4_find rfl rfl rfl (by decide +kernel) ⟨by decide, by decide⟩) (As := [.ref xaL]) (wr := [(xh, .inr (7, [.ref xaL, .ref xaT, .ref xaO, .ref xaF, .ref xaS, .ref xaI, .ref xaH, .ref xaR, .ref xaU, .int xTf, .int xTb]))]) (ws' := wX7 k xh xaL xaT xaO xaF xaS xaI xaH xaR xaU xTf xTb ++ (wX1 k xaL lrNa lrMo lrWa lrDe lPe lDa lDr lNa lMo lWa lDe ++ (wX4 k xaF frRo fRo_4 fSz_5))) [6, 7, 1, 2, 3, 4, 5] [0] [0, 3, 4, 5, 6, 7, 1, 2] rfl rfl (by decide) (by decide) (by decide) rfl (by decide) 4 rfl rfl [] rfl hl.1 rfl (Nat.le_of_ble_eq_true rfl) dX7_ring_32 ⟨by decide, by decide⟩ (fun H locs (hw : Wd D A s.heap H locs (wX7 k xh xaL xaT xaO xaF xaS xaI xaH xaR xaU xTf xTb ++ (wX1 k xaL lrNa lrMo lrWa lrDe lPe lDa lDr lNa lMo lWa lDe ++ (wX4 k xaF frRo fRo_4 fSz_5)))) => ?_)
    refine W.eq (g2 := F0 m 35 ls ([.int r_3])) rfl ?_
    refine kb_if_ne (tgt := 41) hx hb dX7_ring_35 (by decide) h (fun c_35 h => ?_) (fun c_35 h => ?_)
    · refine lv_bipush (v := (-4)) hx hb dX7_ring_38 (by decide) ?_
      cases h
      exact k_iret hx hb hr hlocks hw rfl dX7_ring_40 hQ
    · refine lv_iload_n hx hb dX7_ring_41 rfl (lv_at hl 1 rfl) ?_
      refine kb_if_ne (tgt := 53) hx hb dX7_ring_42 (by decide) h (fun c_42 h => ?_) (fun c_42 h => ?_)
      · refine lv_aload_n hx hb dX7_ring_45 rfl (lv_at hl 0 rfl) ?_
        refine va_get (ci := 7) (v := .ref xaF) (C := RX7) (T := TX7) (N := 11) hx hb hts hinX7 hown hK.1 hw.1 0 rfl rfl 3 (by decide) q_1 (fun _ h9 => h9) rfl dX7_ring_46 ?_
        refine va_get (ci := 4) (v := .int fSz_5) (C := RX4) (T := TX4) (N := 2) hx hb hts hinX4 hown hK.1 hw.1 6 rfl rfl 1 (by decide) q_3 (fun _ h9 => h9) rfl dX7_ring_49 ?_
        cases h
        exact k_iret hx hb hr hlocks hw rfl dX7_ring_52 hQ
      · refine lv_iload_n hx hb dX7_ring_53 rfl (lv_at hl 1 rfl) ?_
        refine lv_iconst (v := 1) hx hb dX7_ring_54 (by decide) ?_
        refine kb_icmp_ne (tgt := 70) hx hb dX7_ring_55 (by decide) h (fun c_55 h => ?_) (fun c_55 h => ?_)
        · refine lv_aload_n hx hb dX7_ring_58 rfl (lv_at hl 0 rfl) ?_
          refine va_get (ci := 7) (v := .ref xaF) (C := RX7) (T := TX7) (N := 11) hx hb hts hinX7 hown hK.1 hw.1 0 rfl rfl 3 (by decide) q_1 (fun _ h9 => h9) rfl dX7_ring_59 ?_
          refine lv_aload_n hx hb dX7_ring_62 rfl (lv_at hl 0 rfl) ?_
          refine va_get (ci := 7) (v := .ref xaL) (C := RX7) (T := TX7) (N := 11) hx hb hts hinX7 hown hK.1 hw.1 0 rfl rfl 0 (by decide) q_2 (fun _ h9 => h9) rfl dX7_ring_63 ?_
          obtain ⟨r_7, hf, h⟩ := b1_inv h
          refine k_callV (host := "") fx hK hA hw (c_X4_leastDebt l D k xaF frRo xaL lrNa lrMo lrWa lrDe _ fRo_4 fSz_5 lPe lDa lDr lNa lMo lWa lDe r_7 hf) (cwV 1 hts gX7_ring_X4_leastDebt rfl rfl rfl (by decide +kernel) ⟨by decide, by decide⟩) (As := [.ref xaL]) (wr := [(xh, .inr (7, [.ref xaL, .ref xaT, .ref xaO, .ref xaF, .ref xaS, .ref xaI, .ref xaH, .ref xaR, .ref xaU, .int xTf, .int xTb]))]) (ws' := wX7 k xh xaL xaT xaO xaF xaS xaI xaH xaR xaU xTf xTb ++ (wX1 k xaL lrNa lrMo lrWa lrDe lPe lDa lDr lNa lMo lWa lDe ++ (wX4 k xaF frRo fRo_4 fSz_5))) [6, 7, 1, 2, 3, 4, 5] [0] [0, 3, 4, 5, 6, 7, 1, 2] rfl rfl (by decide) (by decide) (by decide) rfl (by decide) 4 rfl rfl [] rfl hl.1 rfl (Nat.le_of_ble_eq_true rfl) dX7_ring_66 ⟨by decide, by decide⟩ (fun H locs (hw : Wd D A s.heap H locs (wX7 k xh xaL xaT xaO xaF xaS xaI xaH xaR xaU xTf xTb ++ (wX1 k xaL lrNa lrMo lrWa lrDe lPe lDa lDr lNa lMo lWa lDe ++ (wX4 k xaF frRo fRo_4 fSz_5)))) => ?_)
          refine W.eq (g2 := F0 m 69 ls ([.int r_7])) rfl ?_
          cases h
          exact k_iret hx hb hr hlocks hw rfl dX7_ring_69 hQ
        · refine lv_iload_n hx hb dX7_ring_70 rfl (lv_at hl 1 rfl) ?_
          refine lv_bipush (v := 10) hx hb dX7_ring_71 (by decide) ?_
          refine lv_isub hx hb dX7_ring_73 ?_
          refine lv_aload_n hx hb dX7_ring_74 rfl (lv_at hl 0 rfl) ?_
          refine va_get (ci := 7) (v := .ref xaF) (C := RX7) (T := TX7) (N := 11) hx hb hts hinX7 hown hK.1 hw.1 0 rfl rfl 3 (by decide) q_1 (fun _ h9 => h9) rfl dX7_ring_75 ?_
          refine va_get (ci := 4) (v := .int fSz_5) (C := RX4) (T := TX4) (N := 2) hx hb hts hinX4 hown hK.1 hw.1 6 rfl rfl 1 (by decide) q_3 (fun _ h9 => h9) rfl dX7_ring_78 ?_
          refine kb_icmp_ge (tgt := 99) hx hb dX7_ring_81 (by decide) h (fun c_81 h => ?_) (fun c_81 h => ?_)
          · refine lv_bipush (v := (-4)) hx hb dX7_ring_99 (by decide) ?_
            cases h
            exact k_iret hx hb hr hlocks hw rfl dX7_ring_101 hQ
          · refine lv_aload_n hx hb dX7_ring_84 rfl (lv_at hl 0 rfl) ?_
            refine va_get (ci := 7) (v := .ref xaF) (C := RX7) (T := TX7) (N := 11) hx hb hts hinX7 hown hK.1 hw.1 0 rfl rfl 3 (by decide) q_1 (fun _ h9 => h9) rfl dX7_ring_85 ?_
            refine va_get (ci := 4) (v := .ref frRo) (C := RX4) (T := TX4) (N := 2) hx hb hts hinX4 hown hK.1 hw.1 6 rfl rfl 0 (by decide) q_4 (fun _ h9 => h9) rfl dX7_ring_88 ?_
            refine lv_iload_n hx hb dX7_ring_91 rfl (lv_at hl 1 rfl) ?_
            refine lv_bipush (v := 10) hx hb dX7_ring_92 (by decide) ?_
            refine lv_isub hx hb dX7_ring_94 ?_
            refine k_iald hx hb hK hw 7 rfl dX7_ring_95 h (fun a_6 h => ?_)
            refine lv_goto (tgt := 101) hx hb dX7_ring_96 (by decide) ?_
            cases h
            exact k_iret hx hb hr hlocks hw rfl dX7_ring_101 hQ
  refine kb_if_ne (tgt := 24) hx hb dX7_ring_15 (by decide) h (fun c_15 h => ?_) (fun c_15 h => ?_)
  · refine lv_iload_n hx hb dX7_ring_18 rfl (lv_at hl 0 rfl) ?_
    refine kb_if_ne (tgt := 24) hx hb dX7_ring_19 (by decide) h (fun c_19 h => ?_) (fun c_19 h => ?_)
    · refine lv_iconst (v := (-1)) hx hb dX7_ring_22 (by decide) ?_
      cases h
      exact k_iret hx hb hr hlocks hw rfl dX7_ring_23 hQ
    · exact T_24 h _ _ _ hw (lv_sub hl [1, 2] rfl)
  · exact T_24 h _ _ _ hw (lv_sub hl [1, 2] rfl)
abbrev rmX7_rule : Room := { frames := 3, cells := 0, slots := 0, locals := 66 }
set_option maxHeartbeats 4000000 in
set_option maxRecDepth 100000 in
theorem c_X7_rule (l : Launch) (D : va_G) (k : Nat → ClassId) (xh xaL xaT xaO xaF xaS xaI xaH xaR xaU lrNa lrMo lrWa lrDe : Nat) (sz : Nat) (xTf : Int32) (xTb : Int32) (lPe : Int32) (lDa : Int32) (lDr : Int32) (lNa : (Nat → Int32)) (lMo : (Nat → Int32)) (lWa : (Nat → Int32)) (lDe : (Nat → Int32)) (p1 : Int32) (r_ : Int32) (hf : f_X7_rule lPe lDa lDr lMo lDe p1 = some r_) : mR l yX7_rule wsX7_rule rmX7_rule D k sz [.ref xh, .int p1] (wX7 k xh xaL xaT xaO xaF xaS xaI xaH xaR xaU xTf xTb ++ (wX1 k xaL lrNa lrMo lrWa lrDe lPe lDa lDr lNa lMo lWa lDe)) (wX7 k xh xaL xaT xaO xaF xaS xaI xaH xaR xaU xTf xTb ++ (wX1 k xaL lrNa lrMo lrWa lrDe lPe lDa lDr lNa lMo lWa lDe)) (some (.int r_)) := by
  refine mR_of (cc := cX7_rule) (maxL := 2) (ret := some .int) (by decide) rfl (Nat.le_of_ble_eq_true rfl) [(0, .ref xh), (1, .int p1)] rfl ?_
  intro p e s m below meth c A ls args Q cx hK hA hw hl hQ
  have fx := cx.1
  obtain ⟨⟨hx, hb, hml, hown, hts⟩, hr, hlocks⟩ := cx
  have hinX7 : ∀ w ∈ wsX70, w ∈ wsX7_rule := fun w h => List.mem_cons_of_mem _ (List.mem_append_left _ (List.mem_append_right _ h))
  have hinX1 : ∀ w ∈ wsX10, w ∈ wsX7_rule := fun w h => List.mem_cons_of_mem _ (List.mem_append_right _ h)
  have q_1 := hts (.fieldLink RX7 10 "DebtRides" "land" "LDebtRides$Land;") (List.mem_of_getElem? (i := 1) rfl)
  have q_2 := hts (.fieldLink RX7 106 "DebtRides$Land" "people" "I") (List.mem_of_getElem? (i := 2) rfl)
  have q_3 := hts (.fieldLink RX7 109 "DebtRides$Land" "dayNumber" "I") (List.mem_of_getElem? (i := 3) rfl)
  have q_4 := hts (.fieldLink RX7 112 "DebtRides$Land" "dryness" "I") (List.mem_of_getElem? (i := 4) rfl)
  have h := hf
  unfold f_X7_rule at h
  clear hf
  refine lv_iload_n hx hb dX7_rule_0 rfl (lv_at hl 1 rfl) ?_
  by_cases c1_0 : p1 = 0
  · rw [if_pos c1_0] at h
    refine lv_tableIn (off := 39) (tgt := 40) hx hb dX7_rule_1 (by rw [c1_0]; decide) (by rw [c1_0]; decide) (by rw [c1_0]; rfl) (by decide) ?_
    refine lv_aload_n hx hb dX7_rule_40 rfl (lv_at hl 0 rfl) ?_
    refine va_get (ci := 7) (v := .ref xaL) (C := RX7) (T := TX7) (N := 11) hx hb hts hinX7 hown hK.1 hw.1 0 rfl rfl 0 (by decide) q_1 (fun _ h9 => h9) rfl dX7_rule_41 ?_
    refine va_get (ci := 1) (v := .int lPe) (C := RX1) (T := TX1) (N := 7) hx hb hts hinX1 hown hK.1 hw.1 1 rfl rfl 0 (by decide) q_2 (fun _ h9 => h9) rfl dX7_rule_44 ?_
    cases h
    exact k_iret hx hb hr hlocks hw rfl dX7_rule_47 hQ
  · rw [if_neg c1_0] at h
    by_cases c1_1 : p1 = 1
    · rw [if_pos c1_1] at h
      refine lv_tableIn (off := 47) (tgt := 48) hx hb dX7_rule_1 (by rw [c1_1]; decide) (by rw [c1_1]; decide) (by rw [c1_1]; rfl) (by decide) ?_
      refine lv_aload_n hx hb dX7_rule_48 rfl (lv_at hl 0 rfl) ?_
      refine va_get (ci := 7) (v := .ref xaL) (C := RX7) (T := TX7) (N := 11) hx hb hts hinX7 hown hK.1 hw.1 0 rfl rfl 0 (by decide) q_1 (fun _ h9 => h9) rfl dX7_rule_49 ?_
      refine va_get (ci := 1) (v := .int lDa) (C := RX1) (T := TX1) (N := 7) hx hb hts hinX1 hown hK.1 hw.1 1 rfl rfl 1 (by decide) q_3 (fun _ h9 => h9) rfl dX7_rule_52 ?_
      cases h
      exact k_iret hx hb hr hlocks hw rfl dX7_rule_55 hQ
    · rw [if_neg c1_1] at h
      by_cases c1_2 : p1 = 2
      · rw [if_pos c1_2] at h
        refine lv_tableIn (off := 55) (tgt := 56) hx hb dX7_rule_1 (by rw [c1_2]; decide) (by rw [c1_2]; decide) (by rw [c1_2]; rfl) (by decide) ?_
        refine lv_aload_n hx hb dX7_rule_56 rfl (lv_at hl 0 rfl) ?_
        refine va_get (ci := 7) (v := .ref xaL) (C := RX7) (T := TX7) (N := 11) hx hb hts hinX7 hown hK.1 hw.1 0 rfl rfl 0 (by decide) q_1 (fun _ h9 => h9) rfl dX7_rule_57 ?_
        refine va_get (ci := 1) (v := .int lDr) (C := RX1) (T := TX1) (N := 7) hx hb hts hinX1 hown hK.1 hw.1 1 rfl rfl 2 (by decide) q_4 (fun _ h9 => h9) rfl dX7_rule_60 ?_
        cases h
        exact k_iret hx hb hr hlocks hw rfl dX7_rule_63 hQ
      · rw [if_neg c1_2] at h
        by_cases c1_3 : p1 = 3
        · rw [if_pos c1_3] at h
          refine lv_tableIn (off := 63) (tgt := 64) hx hb dX7_rule_1 (by rw [c1_3]; decide) (by rw [c1_3]; decide) (by rw [c1_3]; rfl) (by decide) ?_
          refine lv_aload_n hx hb dX7_rule_64 rfl (lv_at hl 0 rfl) ?_
          refine va_get (ci := 7) (v := .ref xaL) (C := RX7) (T := TX7) (N := 11) hx hb hts hinX7 hown hK.1 hw.1 0 rfl rfl 0 (by decide) q_1 (fun _ h9 => h9) rfl dX7_rule_65 ?_
          obtain ⟨r_1, hf, h⟩ := b1_inv h
          refine k_callV (host := "") fx hK hA hw (c_X1_riders l D k xaL lrNa lrMo lrWa lrDe _ lPe lDa lDr lNa lMo lWa lDe r_1 hf) (cwV 0 hts gX7_rule_X1_riders rfl rfl rfl (by decide +kernel) ⟨by decide, by decide⟩) (As := []) (wr := [(xh, .inr (7, [.ref xaL, .ref xaT, .ref xaO, .ref xaF, .ref xaS, .ref xaI, .ref xaH, .ref xaR, .ref xaU, .int xTf, .int xTb]))]) (ws' := wX7 k xh xaL xaT xaO xaF xaS xaI xaH xaR xaU xTf xTb ++ (wX1 k xaL lrNa lrMo lrWa lrDe lPe lDa lDr lNa lMo lWa lDe)) [1, 2, 3, 4, 5] [0] [0, 1, 2, 3, 4, 5] rfl rfl (by decide) (by decide) (by decide) rfl (by decide) 1 rfl rfl [] rfl hl.1 rfl (Nat.le_of_ble_eq_true rfl) dX7_rule_68 ⟨by decide, by decide⟩ (fun H locs (hw : Wd D A s.heap H locs (wX7 k xh xaL xaT xaO xaF xaS xaI xaH xaR xaU xTf xTb ++ (wX1 k xaL lrNa lrMo lrWa lrDe lPe lDa lDr lNa lMo lWa lDe))) => ?_)
          refine W.eq (g2 := F0 m 71 ls ([.int r_1])) rfl ?_
          cases h
          exact k_iret hx hb hr hlocks hw rfl dX7_rule_71 hQ
        · rw [if_neg c1_3] at h
          by_cases c1_4 : p1 = 4
          · rw [if_pos c1_4] at h
            refine lv_tableIn (off := 71) (tgt := 72) hx hb dX7_rule_1 (by rw [c1_4]; decide) (by rw [c1_4]; decide) (by rw [c1_4]; rfl) (by decide) ?_
            refine lv_aload_n hx hb dX7_rule_72 rfl (lv_at hl 0 rfl) ?_
            refine va_get (ci := 7) (v := .ref xaL) (C := RX7) (T := TX7) (N := 11) hx hb hts hinX7 hown hK.1 hw.1 0 rfl rfl 0 (by decide) q_1 (fun _ h9 => h9) rfl dX7_rule_73 ?_
            obtain ⟨r_2, hf, h⟩ := b1_inv h
            refine k_callV (host := "") fx hK hA hw (c_X1_owedInAll l D k xaL lrNa lrMo lrWa lrDe _ lPe lDa lDr lNa lMo lWa lDe r_2 hf) (cwV 0 hts gX7_rule_X1_owedInAll rfl rfl rfl (by decide +kernel) ⟨by decide, by decide⟩) (As := []) (wr := [(xh, .inr (7, [.ref xaL, .ref xaT, .ref xaO, .ref xaF, .ref xaS, .ref xaI, .ref xaH, .ref xaR, .ref xaU, .int xTf, .int xTb]))]) (ws' := wX7 k xh xaL xaT xaO xaF xaS xaI xaH xaR xaU xTf xTb ++ (wX1 k xaL lrNa lrMo lrWa lrDe lPe lDa lDr lNa lMo lWa lDe)) [1, 2, 3, 4, 5] [0] [0, 1, 2, 3, 4, 5] rfl rfl (by decide) (by decide) (by decide) rfl (by decide) 1 rfl rfl [] rfl hl.1 rfl (Nat.le_of_ble_eq_true rfl) dX7_rule_76 ⟨by decide, by decide⟩ (fun H locs (hw : Wd D A s.heap H locs (wX7 k xh xaL xaT xaO xaF xaS xaI xaH xaR xaU xTf xTb ++ (wX1 k xaL lrNa lrMo lrWa lrDe lPe lDa lDr lNa lMo lWa lDe))) => ?_)
            refine W.eq (g2 := F0 m 79 ls ([.int r_2])) rfl ?_
            cases h
            exact k_iret hx hb hr hlocks hw rfl dX7_rule_79 hQ
          · rw [if_neg c1_4] at h
            by_cases c1_5 : p1 = 5
            · rw [if_pos c1_5] at h
              refine lv_tableIn (off := 79) (tgt := 80) hx hb dX7_rule_1 (by rw [c1_5]; decide) (by rw [c1_5]; decide) (by rw [c1_5]; rfl) (by decide) ?_
              refine lv_aload_n hx hb dX7_rule_80 rfl (lv_at hl 0 rfl) ?_
              refine va_get (ci := 7) (v := .ref xaL) (C := RX7) (T := TX7) (N := 11) hx hb hts hinX7 hown hK.1 hw.1 0 rfl rfl 0 (by decide) q_1 (fun _ h9 => h9) rfl dX7_rule_81 ?_
              obtain ⟨r_3, hf, h⟩ := b1_inv h
              refine k_callV (host := "") fx hK hA hw (c_X1_moneyInAll l D k xaL lrNa lrMo lrWa lrDe _ lPe lDa lDr lNa lMo lWa lDe r_3 hf) (cwV 0 hts gX7_rule_X1_moneyInAll rfl rfl rfl (by decide +kernel) ⟨by decide, by decide⟩) (As := []) (wr := [(xh, .inr (7, [.ref xaL, .ref xaT, .ref xaO, .ref xaF, .ref xaS, .ref xaI, .ref xaH, .ref xaR, .ref xaU, .int xTf, .int xTb]))]) (ws' := wX7 k xh xaL xaT xaO xaF xaS xaI xaH xaR xaU xTf xTb ++ (wX1 k xaL lrNa lrMo lrWa lrDe lPe lDa lDr lNa lMo lWa lDe)) [1, 2, 3, 4, 5] [0] [0, 1, 2, 3, 4, 5] rfl rfl (by decide) (by decide) (by decide) rfl (by decide) 1 rfl rfl [] rfl hl.1 rfl (Nat.le_of_ble_eq_true rfl) dX7_rule_84 ⟨by decide, by decide⟩ (fun H locs (hw : Wd D A s.heap H locs (wX7 k xh xaL xaT xaO xaF xaS xaI xaH xaR xaU xTf xTb ++ (wX1 k xaL lrNa lrMo lrWa lrDe lPe lDa lDr lNa lMo lWa lDe))) => ?_)
              refine W.eq (g2 := F0 m 87 ls ([.int r_3])) rfl ?_
              cases h
              exact k_iret hx hb hr hlocks hw rfl dX7_rule_87 hQ
            · rw [if_neg c1_5] at h
              refine lv_tableOut (tgt := 88) hx hb dX7_rule_1 (by have q0 : p1.toInt ≠ 0 := sw_ne c1_0; have q1 : p1.toInt ≠ 1 := sw_ne c1_1; have q2 : p1.toInt ≠ 2 := sw_ne c1_2; have q3 : p1.toInt ≠ 3 := sw_ne c1_3; have q4 : p1.toInt ≠ 4 := sw_ne c1_4; have q5 : p1.toInt ≠ 5 := sw_ne c1_5; omega) (by decide) ?_
              refine lv_iconst (v := (-1)) hx hb dX7_rule_88 (by decide) ?_
              cases h
              exact k_iret hx hb hr hlocks hw rfl dX7_rule_89 hQ
abbrev rmX7_runs : Room := { frames := 5, cells := 0, slots := 0, locals := 117 }
set_option maxHeartbeats 4000000 in
set_option maxRecDepth 100000 in
theorem c_X7_runs (l : Launch) (D : va_G) (k : Nat → ClassId) (xh xaL xaT xaO xaF xaS xaI xaH xaR xaU lrNa lrMo lrWa lrDe trNa trMo trWa trDe : Nat) (sz : Nat) (xTf : Int32) (xTb : Int32) (lPe : Int32) (lDa : Int32) (lDr : Int32) (lNa : (Nat → Int32)) (lMo : (Nat → Int32)) (lWa : (Nat → Int32)) (lDe : (Nat → Int32)) (tPe : Int32) (tDa : Int32) (tDr : Int32) (tNa : (Nat → Int32)) (tMo : (Nat → Int32)) (tWa : (Nat → Int32)) (tDe : (Nat → Int32)) (p1 : Int32) (p2 : Int32) (r_ : Int32) (n_tPe : Int32) (n_tDa : Int32) (n_tDr : Int32) (n_tNa : (Nat → Int32)) (n_tMo : (Nat → Int32)) (n_tWa : (Nat → Int32)) (n_tDe : (Nat → Int32)) (hf : f_X7_runs lPe lDa lDr lNa lMo lWa lDe tPe tDa tDr tNa tMo tWa tDe p1 p2 = some (r_, n_tPe, n_tDa, n_tDr, n_tNa, n_tMo, n_tWa, n_tDe)) : mR l yX7_runs wsX7_runs rmX7_runs D k sz [.ref xh, .int p1, .int p2] (wX7 k xh xaL xaT xaO xaF xaS xaI xaH xaR xaU xTf xTb ++ (wX1 k xaL lrNa lrMo lrWa lrDe lPe lDa lDr lNa lMo lWa lDe ++ (wX1 k xaT trNa trMo trWa trDe tPe tDa tDr tNa tMo tWa tDe))) (wX7 k xh xaL xaT xaO xaF xaS xaI xaH xaR xaU xTf xTb ++ (wX1 k xaL lrNa lrMo lrWa lrDe lPe lDa lDr lNa lMo lWa lDe ++ (wX1 k xaT trNa trMo trWa trDe n_tPe n_tDa n_tDr n_tNa n_tMo n_tWa n_tDe))) (some (.int r_)) := by
  refine mR_of (cc := cX7_runs) (maxL := 3) (ret := some .int) (by decide) rfl (Nat.le_of_ble_eq_true rfl) [(0, .ref xh), (1, .int p1), (2, .int p2)] rfl ?_
  intro p e s m below meth c A ls args Q cx hK hA hw hl hQ
  have fx := cx.1
  obtain ⟨⟨hx, hb, hml, hown, hts⟩, hr, hlocks⟩ := cx
  have hinX7 : ∀ w ∈ wsX70, w ∈ wsX7_runs := fun w h => List.mem_cons_of_mem _ (List.mem_append_left _ (List.mem_append_right _ h))
  have q_1 := hts (.fieldLink RX7 16 "DebtRides" "trial" "LDebtRides$Land;") (List.mem_of_getElem? (i := 1) rfl)
  have q_2 := hts (.fieldLink RX7 10 "DebtRides" "land" "LDebtRides$Land;") (List.mem_of_getElem? (i := 2) rfl)
  have h := hf
  unfold f_X7_runs at h
  clear hf
  refine lv_iload_n hx hb dX7_runs_0 rfl (lv_at hl 1 rfl) ?_
  refine lv_iconst (v := 0) hx hb dX7_runs_1 (by decide) ?_
  refine lv_bipush (v := 60) hx hb dX7_runs_2 (by decide) ?_
  obtain ⟨r_1, hf, h⟩ := b1_inv h
  refine k_callS (b := 0) (C := "") (host := "") fx hK hA hw (c_X7_within l D k _ p1 0 60 r_1 hf) (va_cwS 3 hts gX7_runs_X7_within rfl rfl rfl (by decide +kernel) ⟨by decide, by decide⟩) (As := [.int p1, .int 0, .int 60]) (wr := [(xh, .inr (7, [.ref xaL, .ref xaT, .ref xaO, .ref xaF, .ref xaS, .ref xaI, .ref xaH, .ref xaR, .ref xaU, .int xTf, .int xTb])), (xaL, .inr (1, [.int lPe, .int lDa, .int lDr, .ref lrNa, .ref lrMo, .ref lrWa, .ref lrDe])), (lrNa, .inl (k 0, 5, .inl lNa)), (lrMo, .inl (k 0, 5, .inl lMo)), (lrWa, .inl (k 0, 5, .inl lWa)), (lrDe, .inl (k 0, 25, .inl lDe)), (xaT, .inr (1, [.int tPe, .int tDa, .int tDr, .ref trNa, .ref trMo, .ref trWa, .ref trDe])), (trNa, .inl (k 0, 5, .inl tNa)), (trMo, .inl (k 0, 5, .inl tMo)), (trWa, .inl (k 0, 5, .inl tWa)), (trDe, .inl (k 0, 25, .inl tDe))]) (ws' := wX7 k xh xaL xaT xaO xaF xaS xaI xaH xaR xaU xTf xTb ++ (wX1 k xaL lrNa lrMo lrWa lrDe lPe lDa lDr lNa lMo lWa lDe ++ (wX1 k xaT trNa trMo trWa trDe tPe tDa tDr tNa tMo tWa tDe))) [] [0, 1, 2, 3, 4, 5, 6, 7, 8, 9, 10] [0, 1, 2, 3, 4, 5, 6, 7, 8, 9, 10] rfl rfl (by decide) (by decide) (by decide) rfl (by decide) [] rfl hl.1 rfl (Nat.le_of_ble_eq_true rfl) dX7_runs_4 ⟨by decide, by decide⟩ (fun H locs (hw : Wd D A s.heap H locs (wX7 k xh xaL xaT xaO xaF xaS xaI xaH xaR xaU xTf xTb ++ (wX1 k xaL lrNa lrMo lrWa lrDe lPe lDa lDr lNa lMo lWa lDe ++ (wX1 k xaT trNa trMo trWa trDe tPe tDa tDr tNa tMo tWa tDe)))) => ?_)
  refine W.eq (g2 := F0 m 7 ls ([.int r_1])) rfl ?_
  refine kb_if_eq (tgt := 19) hx hb dX7_runs_7 (by decide) h (fun c_7 h => ?_) (fun c_7 h => ?_)
  · refine lv_iconst (v := (-1)) hx hb dX7_runs_19 (by decide) ?_
    cases h
    exact k_iret hx hb hr hlocks hw rfl dX7_runs_20 hQ
  · refine lv_iload_n hx hb dX7_runs_10 rfl (lv_at hl 2 rfl) ?_
    refine lv_iconst (v := 0) hx hb dX7_runs_11 (by decide) ?_
    refine lv_iconst (v := 3) hx hb dX7_runs_12 (by decide) ?_
    obtain ⟨r_2, hf, h⟩ := b1_inv h
    refine k_callS (b := 0) (C := "") (host := "") fx hK hA hw (c_X7_within l D k _ p2 0 3 r_2 hf) (va_cwS 3 hts gX7_runs_X7_within rfl rfl rfl (by decide +kernel) ⟨by decide, by decide⟩) (As := [.int p2, .int 0, .int 3]) (wr := [(xh, .inr (7, [.ref xaL, .ref xaT, .ref xaO, .ref xaF, .ref xaS, .ref xaI, .ref xaH, .ref xaR, .ref xaU, .int xTf, .int xTb])), (xaL, .inr (1, [.int lPe, .int lDa, .int lDr, .ref lrNa, .ref lrMo, .ref lrWa, .ref lrDe])), (lrNa, .inl (k 0, 5, .inl lNa)), (lrMo, .inl (k 0, 5, .inl lMo)), (lrWa, .inl (k 0, 5, .inl lWa)), (lrDe, .inl (k 0, 25, .inl lDe)), (xaT, .inr (1, [.int tPe, .int tDa, .int tDr, .ref trNa, .ref trMo, .ref trWa, .ref trDe])), (trNa, .inl (k 0, 5, .inl tNa)), (trMo, .inl (k 0, 5, .inl tMo)), (trWa, .inl (k 0, 5, .inl tWa)), (trDe, .inl (k 0, 25, .inl tDe))]) (ws' := wX7 k xh xaL xaT xaO xaF xaS xaI xaH xaR xaU xTf xTb ++ (wX1 k xaL lrNa lrMo lrWa lrDe lPe lDa lDr lNa lMo lWa lDe ++ (wX1 k xaT trNa trMo trWa trDe tPe tDa tDr tNa tMo tWa tDe))) [] [0, 1, 2, 3, 4, 5, 6, 7, 8, 9, 10] [0, 1, 2, 3, 4, 5, 6, 7, 8, 9, 10] rfl rfl (by decide) (by decide) (by decide) rfl (by decide) [] rfl hl.1 rfl (Nat.le_of_ble_eq_true rfl) dX7_runs_13 ⟨by decide, by decide⟩ (fun H locs (hw : Wd D A s.heap H locs (wX7 k xh xaL xaT xaO xaF xaS xaI xaH xaR xaU xTf xTb ++ (wX1 k xaL lrNa lrMo lrWa lrDe lPe lDa lDr lNa lMo lWa lDe ++ (wX1 k xaT trNa trMo trWa trDe tPe tDa tDr tNa tMo tWa tDe)))) => ?_)
    refine W.eq (g2 := F0 m 16 ls ([.int r_2])) rfl ?_
    refine kb_if_ne (tgt := 21) hx hb dX7_runs_16 (by decide) h (fun c_16 h => ?_) (fun c_16 h => ?_)
    · refine lv_iconst (v := (-1)) hx hb dX7_runs_19 (by decide) ?_
      cases h
      exact k_iret hx hb hr hlocks hw rfl dX7_runs_20 hQ
    · refine lv_aload_n hx hb dX7_runs_21 rfl (lv_at hl 0 rfl) ?_
      refine va_get (ci := 7) (v := .ref xaT) (C := RX7) (T := TX7) (N := 11) hx hb hts hinX7 hown hK.1 hw.1 0 rfl rfl 1 (by decide) q_1 (fun _ h9 => h9) rfl dX7_runs_22 ?_
      refine lv_aload_n hx hb dX7_runs_25 rfl (lv_at hl 0 rfl) ?_
      refine va_get (ci := 7) (v := .ref xaL) (C := RX7) (T := TX7) (N := 11) hx hb hts hinX7 hown hK.1 hw.1 0 rfl rfl 0 (by decide) q_2 (fun _ h9 => h9) rfl dX7_runs_26 ?_
      obtain ⟨tPe_3, tDa_4, tDr_5, tNa_6, tMo_7, tWa_8, tDe_9, hf, h⟩ := b7_inv h
      refine k_callV (host := "") fx hK hA hw (c_X1_become l D k xaT trNa trMo trWa trDe xaL lrNa lrMo lrWa lrDe _ tPe tDa tDr tNa tMo tWa tDe lPe lDa lDr lNa lMo lWa lDe tPe_3 tDa_4 tDr_5 tNa_6 tMo_7 tWa_8 tDe_9 hf) (cwV 1 hts gX7_runs_X1_become rfl rfl rfl (by decide +kernel) ⟨by decide, by decide⟩) (As := [.ref xaL]) (wr := [(xh, .inr (7, [.ref xaL, .ref xaT, .ref xaO, .ref xaF, .ref xaS, .ref xaI, .ref xaH, .ref xaR, .ref xaU, .int xTf, .int xTb]))]) (ws' := wX7 k xh xaL xaT xaO xaF xaS xaI xaH xaR xaU xTf xTb ++ (wX1 k xaL lrNa lrMo lrWa lrDe lPe lDa lDr lNa lMo lWa lDe ++ (wX1 k xaT trNa trMo trWa trDe tPe_3 tDa_4 tDr_5 tNa_6 tMo_7 tWa_8 tDe_9))) [6, 7, 8, 9, 10, 1, 2, 3, 4, 5] [0] [0, 6, 7, 8, 9, 10, 1, 2, 3, 4, 5] rfl rfl (by decide) (by decide) (by decide) rfl (by decide) 1 rfl rfl [] rfl hl.1 rfl (Nat.le_of_ble_eq_true rfl) dX7_runs_29 ⟨by decide, by decide⟩ (fun H locs (hw : Wd D A s.heap H locs (wX7 k xh xaL xaT xaO xaF xaS xaI xaH xaR xaU xTf xTb ++ (wX1 k xaL lrNa lrMo lrWa lrDe lPe lDa lDr lNa lMo lWa lDe ++ (wX1 k xaT trNa trMo trWa trDe tPe_3 tDa_4 tDr_5 tNa_6 tMo_7 tWa_8 tDe_9)))) => ?_)
      refine W.eq (g2 := F0 m 32 ls ([])) rfl ?_
      refine lv_iload_n hx hb dX7_runs_32 rfl (lv_at hl 2 rfl) ?_
      refine lv_iconst (v := 3) hx hb dX7_runs_33 (by decide) ?_
      refine kb_icmp_ne (tgt := 46) hx hb dX7_runs_34 (by decide) h (fun c_34 h => ?_) (fun c_34 h => ?_)
      · refine lv_aload_n hx hb dX7_runs_37 rfl (lv_at hl 0 rfl) ?_
        refine va_get (ci := 7) (v := .ref xaT) (C := RX7) (T := TX7) (N := 11) hx hb hts hinX7 hown hK.1 hw.1 0 rfl rfl 1 (by decide) q_1 (fun _ h9 => h9) rfl dX7_runs_38 ?_
        refine lv_iload_n hx hb dX7_runs_41 rfl (lv_at hl 1 rfl) ?_
        obtain ⟨r_17, tDa_18, tMo_19, tDe_20, hf, h⟩ := b4_inv h
        refine k_callV (host := "") fx hK hA hw (c_X1_daysTillAllRide l D k xaT trNa trMo trWa trDe _ tPe_3 tDa_4 tDr_5 tNa_6 tMo_7 tWa_8 tDe_9 p1 r_17 tDa_18 tMo_19 tDe_20 hf) (cwV 1 hts gX7_runs_X1_daysTillAllRide rfl rfl rfl (by decide +kernel) ⟨by decide, by decide⟩) (As := [.int p1]) (wr := [(xh, .inr (7, [.ref xaL, .ref xaT, .ref xaO, .ref xaF, .ref xaS, .ref xaI, .ref xaH, .ref xaR, .ref xaU, .int xTf, .int xTb])), (xaL, .inr (1, [.int lPe, .int lDa, .int lDr, .ref lrNa, .ref lrMo, .ref lrWa, .ref lrDe])), (lrNa, .inl (k 0, 5, .inl lNa)), (lrMo, .inl (k 0, 5, .inl lMo)), (lrWa, .inl (k 0, 5, .inl lWa)), (lrDe, .inl (k 0, 25, .inl lDe))]) (ws' := wX7 k xh xaL xaT xaO xaF xaS xaI xaH xaR xaU xTf xTb ++ (wX1 k xaL lrNa lrMo lrWa lrDe lPe lDa lDr lNa lMo lWa lDe ++ (wX1 k xaT trNa trMo trWa trDe tPe_3 tDa_18 tDr_5 tNa_6 tMo_19 tWa_8 tDe_20))) [6, 7, 8, 9, 10] [0, 1, 2, 3, 4, 5] [0, 1, 2, 3, 4, 5, 6, 7, 8, 9, 10] rfl rfl (by decide) (by decide) (by decide) rfl (by decide) 1 rfl rfl [] rfl hl.1 rfl (Nat.le_of_ble_eq_true rfl) dX7_runs_42 ⟨by decide, by decide⟩ (fun H locs (hw : Wd D A s.heap H locs (wX7 k xh xaL xaT xaO xaF xaS xaI xaH xaR xaU xTf xTb ++ (wX1 k xaL lrNa lrMo lrWa lrDe lPe lDa lDr lNa lMo lWa lDe ++ (wX1 k xaT trNa trMo trWa trDe tPe_3 tDa_18 tDr_5 tNa_6 tMo_19 tWa_8 tDe_20)))) => ?_)
        refine W.eq (g2 := F0 m 45 ls ([.int r_17])) rfl ?_
        cases h
        exact k_iret hx hb hr hlocks hw rfl dX7_runs_45 hQ
      · refine lv_aload_n hx hb dX7_runs_46 rfl (lv_at hl 0 rfl) ?_
        refine va_get (ci := 7) (v := .ref xaT) (C := RX7) (T := TX7) (N := 11) hx hb hts hinX7 hown hK.1 hw.1 0 rfl rfl 1 (by decide) q_1 (fun _ h9 => h9) rfl dX7_runs_47 ?_
        refine lv_iload_n hx hb dX7_runs_50 rfl (lv_at hl 1 rfl) ?_
        obtain ⟨r_10, tDa_11, tMo_12, tDe_13, hf, h⟩ := b4_inv h
        refine k_callV (host := "") fx hK hA hw (c_X1_runDays l D k xaT trNa trMo trWa trDe _ tPe_3 tDa_4 tDr_5 tNa_6 tMo_7 tWa_8 tDe_9 p1 r_10 tDa_11 tMo_12 tDe_13 hf) (cwV 1 hts gX7_runs_X1_runDays rfl rfl rfl (by decide +kernel) ⟨by decide, by decide⟩) (As := [.int p1]) (wr := [(xh, .inr (7, [.ref xaL, .ref xaT, .ref xaO, .ref xaF, .ref xaS, .ref xaI, .ref xaH, .ref xaR, .ref xaU, .int xTf, .int xTb])), (xaL, .inr (1, [.int lPe, .int lDa, .int lDr, .ref lrNa, .ref lrMo, .ref lrWa, .ref lrDe])), (lrNa, .inl (k 0, 5, .inl lNa)), (lrMo, .inl (k 0, 5, .inl lMo)), (lrWa, .inl (k 0, 5, .inl lWa)), (lrDe, .inl (k 0, 25, .inl lDe))]) (ws' := wX7 k xh xaL xaT xaO xaF xaS xaI xaH xaR xaU xTf xTb ++ (wX1 k xaL lrNa lrMo lrWa lrDe lPe lDa lDr lNa lMo lWa lDe ++ (wX1 k xaT trNa trMo trWa trDe tPe_3 tDa_11 tDr_5 tNa_6 tMo_12 tWa_8 tDe_13))) [6, 7, 8, 9, 10] [0, 1, 2, 3, 4, 5] [0, 1, 2, 3, 4, 5, 6, 7, 8, 9, 10] rfl rfl (by decide) (by decide) (by decide) rfl (by decide) 1 rfl rfl [] rfl hl.1 rfl (Nat.le_of_ble_eq_true rfl) dX7_runs_51 ⟨by decide, by decide⟩ (fun H locs (hw : Wd D A s.heap H locs (wX7 k xh xaL xaT xaO xaF xaS xaI xaH xaR xaU xTf xTb ++ (wX1 k xaL lrNa lrMo lrWa lrDe lPe lDa lDr lNa lMo lWa lDe ++ (wX1 k xaT trNa trMo trWa trDe tPe_3 tDa_11 tDr_5 tNa_6 tMo_12 tWa_8 tDe_13)))) => ?_)
        refine W.eq (g2 := F0 m 54 ls ([.int r_10])) rfl ?_
        refine lv_pop hx hb dX7_runs_54 rfl ?_
        refine lv_iload_n hx hb dX7_runs_55 rfl (lv_at hl 2 rfl) ?_
        refine kb_if_ne (tgt := 67) hx hb dX7_runs_56 (by decide) h (fun c_56 h => ?_) (fun c_56 h => ?_)
        · refine lv_aload_n hx hb dX7_runs_59 rfl (lv_at hl 0 rfl) ?_
          refine va_get (ci := 7) (v := .ref xaT) (C := RX7) (T := TX7) (N := 11) hx hb hts hinX7 hown hK.1 hw.1 0 rfl rfl 1 (by decide) q_1 (fun _ h9 => h9) rfl dX7_runs_60 ?_
          obtain ⟨r_16, hf, h⟩ := b1_inv h
          refine k_callV (host := "") fx hK hA hw (c_X1_owedInAll l D k xaT trNa trMo trWa trDe _ tPe_3 tDa_11 tDr_5 tNa_6 tMo_12 tWa_8 tDe_13 r_16 hf) (cwV 0 hts gX7_runs_X1_owedInAll rfl rfl rfl (by decide +kernel) ⟨by decide, by decide⟩) (As := []) (wr := [(xh, .inr (7, [.ref xaL, .ref xaT, .ref xaO, .ref xaF, .ref xaS, .ref xaI, .ref xaH, .ref xaR, .ref xaU, .int xTf, .int xTb])), (xaL, .inr (1, [.int lPe, .int lDa, .int lDr, .ref lrNa, .ref lrMo, .ref lrWa, .ref lrDe])), (lrNa, .inl (k 0, 5, .inl lNa)), (lrMo, .inl (k 0, 5, .inl lMo)), (lrWa, .inl (k 0, 5, .inl lWa)), (lrDe, .inl (k 0, 25, .inl lDe))]) (ws' := wX7 k xh xaL xaT xaO xaF xaS xaI xaH xaR xaU xTf xTb ++ (wX1 k xaL lrNa lrMo lrWa lrDe lPe lDa lDr lNa lMo lWa lDe ++ (wX1 k xaT trNa trMo trWa trDe tPe_3 tDa_11 tDr_5 tNa_6 tMo_12 tWa_8 tDe_13))) [6, 7, 8, 9, 10] [0, 1, 2, 3, 4, 5] [0, 1, 2, 3, 4, 5, 6, 7, 8, 9, 10] rfl rfl (by decide) (by decide) (by decide) rfl (by decide) 1 rfl rfl [] rfl hl.1 rfl (Nat.le_of_ble_eq_true rfl) dX7_runs_63 ⟨by decide, by decide⟩ (fun H locs (hw : Wd D A s.heap H locs (wX7 k xh xaL xaT xaO xaF xaS xaI xaH xaR xaU xTf xTb ++ (wX1 k xaL lrNa lrMo lrWa lrDe lPe lDa lDr lNa lMo lWa lDe ++ (wX1 k xaT trNa trMo trWa trDe tPe_3 tDa_11 tDr_5 tNa_6 tMo_12 tWa_8 tDe_13)))) => ?_)
          refine W.eq (g2 := F0 m 66 ls ([.int r_16])) rfl ?_
          cases h
          exact k_iret hx hb hr hlocks hw rfl dX7_runs_66 hQ
        · refine lv_iload_n hx hb dX7_runs_67 rfl (lv_at hl 2 rfl) ?_
          refine lv_iconst (v := 1) hx hb dX7_runs_68 (by decide) ?_
          refine kb_icmp_ne (tgt := 82) hx hb dX7_runs_69 (by decide) h (fun c_69 h => ?_) (fun c_69 h => ?_)
          · refine lv_aload_n hx hb dX7_runs_72 rfl (lv_at hl 0 rfl) ?_
            refine va_get (ci := 7) (v := .ref xaT) (C := RX7) (T := TX7) (N := 11) hx hb hts hinX7 hown hK.1 hw.1 0 rfl rfl 1 (by decide) q_1 (fun _ h9 => h9) rfl dX7_runs_73 ?_
            obtain ⟨r_15, hf, h⟩ := b1_inv h
            refine k_callV (host := "") fx hK hA hw (c_X1_riders l D k xaT trNa trMo trWa trDe _ tPe_3 tDa_11 tDr_5 tNa_6 tMo_12 tWa_8 tDe_13 r_15 hf) (cwV 0 hts gX7_runs_X1_riders rfl rfl rfl (by decide +kernel) ⟨by decide, by decide⟩) (As := []) (wr := [(xh, .inr (7, [.ref xaL, .ref xaT, .ref xaO, .ref xaF, .ref xaS, .ref xaI, .ref xaH, .ref xaR, .ref xaU, .int xTf, .int xTb])), (xaL, .inr (1, [.int lPe, .int lDa, .int lDr, .ref lrNa, .ref lrMo, .ref lrWa, .ref lrDe])), (lrNa, .inl (k 0, 5, .inl lNa)), (lrMo, .inl (k 0, 5, .inl lMo)), (lrWa, .inl (k 0, 5, .inl lWa)), (lrDe, .inl (k 0, 25, .inl lDe))]) (ws' := wX7 k xh xaL xaT xaO xaF xaS xaI xaH xaR xaU xTf xTb ++ (wX1 k xaL lrNa lrMo lrWa lrDe lPe lDa lDr lNa lMo lWa lDe ++ (wX1 k xaT trNa trMo trWa trDe tPe_3 tDa_11 tDr_5 tNa_6 tMo_12 tWa_8 tDe_13))) [6, 7, 8, 9, 10] [0, 1, 2, 3, 4, 5] [0, 1, 2, 3, 4, 5, 6, 7, 8, 9, 10] rfl rfl (by decide) (by decide) (by decide) rfl (by decide) 1 rfl rfl [] rfl hl.1 rfl (Nat.le_of_ble_eq_true rfl) dX7_runs_76 ⟨by decide, by decide⟩ (fun H locs (hw : Wd D A s.heap H locs (wX7 k xh xaL xaT xaO xaF xaS xaI xaH xaR xaU xTf xTb ++ (wX1 k xaL lrNa lrMo lrWa lrDe lPe lDa lDr lNa lMo lWa lDe ++ (wX1 k xaT trNa trMo trWa trDe tPe_3 tDa_11 tDr_5 tNa_6 tMo_12 tWa_8 tDe_13)))) => ?_)
            refine W.eq (g2 := F0 m 79 ls ([.int r_15])) rfl ?_
            refine lv_goto (tgt := 89) hx hb dX7_runs_79 (by decide) ?_
            cases h
            exact k_iret hx hb hr hlocks hw rfl dX7_runs_89 hQ
          · refine lv_aload_n hx hb dX7_runs_82 rfl (lv_at hl 0 rfl) ?_
            refine va_get (ci := 7) (v := .ref xaT) (C := RX7) (T := TX7) (N := 11) hx hb hts hinX7 hown hK.1 hw.1 0 rfl rfl 1 (by decide) q_1 (fun _ h9 => h9) rfl dX7_runs_83 ?_
            obtain ⟨r_14, hf, h⟩ := b1_inv h
            refine k_callV (host := "") fx hK hA hw (c_X1_moneyInAll l D k xaT trNa trMo trWa trDe _ tPe_3 tDa_11 tDr_5 tNa_6 tMo_12 tWa_8 tDe_13 r_14 hf) (cwV 0 hts gX7_runs_X1_moneyInAll rfl rfl rfl (by decide +kernel) ⟨by decide, by decide⟩) (As := []) (wr := [(xh, .inr (7, [.ref xaL, .ref xaT, .ref xaO, .ref xaF, .ref xaS, .ref xaI, .ref xaH, .ref xaR, .ref xaU, .int xTf, .int xTb])), (xaL, .inr (1, [.int lPe, .int lDa, .int lDr, .ref lrNa, .ref lrMo, .ref lrWa, .ref lrDe])), (lrNa, .inl (k 0, 5, .inl lNa)), (lrMo, .inl (k 0, 5, .inl lMo)), (lrWa, .inl (k 0, 5, .inl lWa)), (lrDe, .inl (k 0, 25, .inl lDe))]) (ws' := wX7 k xh xaL xaT xaO xaF xaS xaI xaH xaR xaU xTf xTb ++ (wX1 k xaL lrNa lrMo lrWa lrDe lPe lDa lDr lNa lMo lWa lDe ++ (wX1 k xaT trNa trMo trWa trDe tPe_3 tDa_11 tDr_5 tNa_6 tMo_12 tWa_8 tDe_13))) [6, 7, 8, 9, 10] [0, 1, 2, 3, 4, 5] [0, 1, 2, 3, 4, 5, 6, 7, 8, 9, 10] rfl rfl (by decide) (by decide) (by decide) rfl (by decide) 1 rfl rfl [] rfl hl.1 rfl (Nat.le_of_ble_eq_true rfl) dX7_runs_86 ⟨by decide, by decide⟩ (fun H locs (hw : Wd D A s.heap H locs (wX7 k xh xaL xaT xaO xaF xaS xaI xaH xaR xaU xTf xTb ++ (wX1 k xaL lrNa lrMo lrWa lrDe lPe lDa lDr lNa lMo lWa lDe ++ (wX1 k xaT trNa trMo trWa trDe tPe_3 tDa_11 tDr_5 tNa_6 tMo_12 tWa_8 tDe_13)))) => ?_)
            refine W.eq (g2 := F0 m 89 ls ([.int r_14])) rfl ?_
            cases h
            exact k_iret hx hb hr hlocks hw rfl dX7_runs_89 hQ
