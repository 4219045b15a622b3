abbrev rmJ7_fill_53178 : Room := { frames := 0, cells := 0, slots := 0, locals := 0 }
set_option maxHeartbeats 4000000 in
set_option maxRecDepth 100000 in
/-- Arrays.fill of an int row -/
theorem c_J7_fill_53178 {n : Nat} (l : Launch) (D : va_G) (k : Nat → ClassId) (wh : Nat) (sz : Nat) (f : Nat → Int32) (v : Int32) (hn : n < 1000) : mR l yJ7_fill_53178 wsJ7_fill_53178 rmJ7_fill_53178 D k sz [.ref wh, .int v] [(wh, .inl (k 0, n, .inl f))] [(wh, .inl (k 0, n, .inl (fun _ => v)))] none := by
  refine mR_of (cc := cJ7_fill_53178) (maxL := 4) (ret := none) (by decide) rfl (Nat.le_of_ble_eq_true rfl) [(0, .ref wh), (1, .int v)] rfl ?_
  intro p e s m below meth c A ls args Q cx hK hA hw hl hQ
  obtain ⟨⟨hx, hb, hml, hown, hts⟩, hr, hlocks⟩ := cx
  have LP : ∀ (d i : Nat) (g : Nat → Int32), i + d = n → (∀ j, j < i → g j = v) → ∀ (H : Heap) (locs : List Loc) (ls : Array Slot), Wd D A s.heap H locs [(wh, .inl (k 0, n, .inl g))] → lv_has ls 4 [(0, .ref wh), (1, .int v), (2, .int (nI i)), (3, .int (nI n))] → W p l e rmJ7_fill_53178 s m args below meth c H locs 0 0 Q (F0 m 5 ls []) := by
    clear hw hl
    intro d
    induction d with
    | zero =>
      intro i g hi hg H locs ls hw hl
      refine lv_iload_n hx hb dJ7_fill_53178_5 rfl (lv_at hl 2 rfl) ?_
      refine lv_iload_n hx hb dJ7_fill_53178_6 rfl (lv_at hl 3 rfl) ?_
      refine lv_icmp_ge (tgt := 20) hx hb dJ7_fill_53178_7 (by decide) (fun _ => ?_) (fun q => absurd (nI_le (by omega) (by omega)) q)
      have hP2 : va_P D vwCl [(wh, .inl (k 0, n, .inl (fun _ => v)))] H := va_P.ext (ws := [(wh, .inl (k 0, n, .inl g))]) (q0 := 0) hw.1 (by simp) (fun j hj => hg j (by omega))
      have hD2 : va_D A [(wh, .inl (k 0, n, .inl (fun _ => v)))] := va_D.set (p := 0) hw.2.1 rfl
      exact k_vret hx hb hr hlocks ⟨hP2, hD2, hw.2.2⟩ dJ7_fill_53178_20 hQ
    | succ d ih =>
      intro i g hi hg H locs ls hw hl
      refine lv_iload_n hx hb dJ7_fill_53178_5 rfl (lv_at hl 2 rfl) ?_
      refine lv_iload_n hx hb dJ7_fill_53178_6 rfl (lv_at hl 3 rfl) ?_
      refine lv_icmp_ge (tgt := 20) hx hb dJ7_fill_53178_7 (by decide) (fun q => absurd q (nI_ge (by omega) (by omega))) (fun _ => ?_)
      refine lv_aload_n hx hb dJ7_fill_53178_10 rfl (lv_at hl 0 rfl) ?_
      refine lv_iload_n hx hb dJ7_fill_53178_11 rfl (lv_at hl 2 rfl) ?_
      refine lv_iload_n hx hb dJ7_fill_53178_12 rfl (lv_at hl 1 rfl) ?_
      refine va_iast hx hb hK.1 hw.1 hw.2.1 hw.2.2 0 0 rfl rfl (vp_in_nI (by omega) (by omega)) dJ7_fill_53178_13 (fun H locs hP hD hS => ?_)
      rw [nI_clamp (by omega)] at hP hD
      have hw : Wd D A s.heap H locs [(wh, .inl (k 0, n, .inl (upd g i v)))] := ⟨hP, hD, hS⟩
      refine lv_iinc (v := nI (i + 1)) (lv' := [(2, .int (nI (i + 1))), (0, .ref wh), (1, .int v), (3, .int (nI n))]) hx hb dJ7_fill_53178_14 hl (k := 2) rfl (nI_1 i) (by decide) rfl (fun ls hl => ?_)
      refine lv_goto (tgt := 5) hx hb dJ7_fill_53178_17 (by decide) ?_
      refine ih (i + 1) (upd g i v) (by omega) (fun j hj => ?_) H locs ls hw (lv_sub hl [1, 2, 0, 3] rfl)
      unfold upd
      by_cases q : j = i
      · rw [if_pos q]
      · rw [if_neg q]; exact hg j (by omega)
  refine lv_iconst (v := 0) hx hb dJ7_fill_53178_0 (by decide) ?_
  refine lv_istore_n (lv' := [(2, .int 0), (0, .ref wh), (1, .int v)]) hx hb dJ7_fill_53178_1 rfl hl (by decide) rfl (fun ls hl => ?_)
  refine lv_aload_n hx hb dJ7_fill_53178_2 rfl (lv_at hl 1 rfl) ?_
  refine va_alen (v := nI n) hx hb hK.1 hw.1 0 0 rfl rfl rfl dJ7_fill_53178_3 ?_
  refine lv_istore_n (lv' := [(3, .int (nI n)), (2, .int 0), (0, .ref wh), (1, .int v)]) hx hb dJ7_fill_53178_4 rfl hl (by decide) rfl (fun ls hl => ?_)
  exact LP n 0 f (by omega) (fun j hj => absurd hj (by omega)) _ _ ls hw (lv_sub hl [2, 3, 1, 0] rfl)
abbrev rmX7_within : Room := { frames := 0, cells := 0, slots := 0, locals := 0 }
set_option maxHeartbeats 4000000 in
set_option maxRecDepth 100000 in
theorem c_X7_within (l : Launch) (D : va_G) (k : Nat → ClassId) (sz : Nat) (p1 : Int32) (p2 : Int32) (p3 : Int32) (r_ : Int32) (hf : f_X7_within p1 p2 p3 = some r_) : mR l yX7_within wsX7_within rmX7_within D k sz [.int p1, .int p2, .int p3] ([]) ([]) (some (.int r_)) := by
  refine mR_of (cc := cX7_within) (maxL := 3) (ret := some .boolean) (by decide) rfl (Nat.le_of_ble_eq_true rfl) [(0, .int p1), (1, .int p2), (2, .int p3)] rfl ?_
  intro p e s m below meth c A ls args Q cx hK hA hw hl hQ
  have fx := cx.1
  obtain ⟨⟨hx, hb, hml, hown, hts⟩, hr, hlocks⟩ := cx
  have h := hf
  unfold f_X7_within at h
  clear hf
  refine lv_iload_n hx hb dX7_within_0 rfl (lv_at hl 0 rfl) ?_
  refine lv_iload_n hx hb dX7_within_1 rfl (lv_at hl 1 rfl) ?_
  refine kb_icmp_lt (tgt := 14) hx hb dX7_within_2 (by decide) h (fun c_2 h => ?_) (fun c_2 h => ?_)
  · refine lv_iconst (v := 0) hx hb dX7_within_14 (by decide) ?_
    cases h
    exact k_zret hx hb hr hlocks hw (by decide) rfl dX7_within_15 hQ
  · refine lv_iload_n hx hb dX7_within_5 rfl (lv_at hl 0 rfl) ?_
    refine lv_iload_n hx hb dX7_within_6 rfl (lv_at hl 2 rfl) ?_
    refine kb_icmp_gt (tgt := 14) hx hb dX7_within_7 (by decide) h (fun c_7 h => ?_) (fun c_7 h => ?_)
    · refine lv_iconst (v := 0) hx hb dX7_within_14 (by decide) ?_
      cases h
      exact k_zret hx hb hr hlocks hw (by decide) rfl dX7_within_15 hQ
    · refine lv_iconst (v := 1) hx hb dX7_within_10 (by decide) ?_
      refine lv_goto (tgt := 15) hx hb dX7_within_11 (by decide) ?_
      cases h
      exact k_zret hx hb hr hlocks hw (by decide) rfl dX7_within_15 hQ
abbrev rmJ6_bitCount_0f7a4 : Room := { frames := 0, cells := 0, slots := 0, locals := 0 }
set_option maxHeartbeats 4000000 in
set_option maxRecDepth 100000 in
theorem c_J6_bitCount_0f7a4 (l : Launch) (D : va_G) (k : Nat → ClassId) (sz : Nat) (p1 : Int32) (r_ : Int32) (hf : f_J6_bitCount_0f7a4 p1 = some r_) : mR l yJ6_bitCount_0f7a4 wsJ6_bitCount_0f7a4 rmJ6_bitCount_0f7a4 D k sz [.int p1] ([]) ([]) (some (.int r_)) := by
  refine mR_of (cc := cJ6_bitCount_0f7a4) (maxL := 1) (ret := some .int) (by decide) rfl (Nat.le_of_ble_eq_true rfl) [(0, .int p1)] rfl ?_
  intro p e s m below meth c A ls args Q cx hK hA hw hl hQ
  have fx := cx.1
  obtain ⟨⟨hx, hb, hml, hown, hts⟩, hr, hlocks⟩ := cx
  have q_1 := hts (.constant RJ6 265 (1431655765)) (List.mem_of_getElem? (i := 1) rfl)
  have q_2 := hts (.constant RJ6 266 (858993459)) (List.mem_of_getElem? (i := 2) rfl)
  have q_3 := hts (.constant RJ6 267 (252645135)) (List.mem_of_getElem? (i := 3) rfl)
  have h := hf
  unfold f_J6_bitCount_0f7a4 at h
  clear hf
  refine lv_iload_n hx hb dJ6_bitCount_0f7a4_0 rfl (lv_at hl 0 rfl) ?_
  refine lv_iload_n hx hb dJ6_bitCount_0f7a4_1 rfl (lv_at hl 0 rfl) ?_
  refine lv_iconst (v := 1) hx hb dJ6_bitCount_0f7a4_2 (by decide) ?_
  refine lv_iushr hx hb dJ6_bitCount_0f7a4_3 rfl ?_
  refine lv_ldcw (v := 1431655765) hx hb hown q_1 dJ6_bitCount_0f7a4_4 ?_
  refine lv_iand hx hb dJ6_bitCount_0f7a4_7 ?_
  refine lv_isub hx hb dJ6_bitCount_0f7a4_8 ?_
  refine lv_topi (fun z_1 ez_1 => ?_)
  have h := nm_inv ez_1 h
  refine lv_istore_n (lv' := [(0, .int z_1)]) hx hb dJ6_bitCount_0f7a4_9 rfl hl (by decide) rfl (fun ls hl => ?_)
  refine lv_iload_n hx hb dJ6_bitCount_0f7a4_10 rfl (lv_at hl 0 rfl) ?_
  refine lv_ldcw (v := 858993459) hx hb hown q_2 dJ6_bitCount_0f7a4_11 ?_
  refine lv_iand hx hb dJ6_bitCount_0f7a4_14 ?_
  refine lv_iload_n hx hb dJ6_bitCount_0f7a4_15 rfl (lv_at hl 0 rfl) ?_
  refine lv_iconst (v := 2) hx hb dJ6_bitCount_0f7a4_16 (by decide) ?_
  refine lv_iushr hx hb dJ6_bitCount_0f7a4_17 rfl ?_
  refine lv_ldcw (v := 858993459) hx hb hown q_2 dJ6_bitCount_0f7a4_18 ?_
  refine lv_iand hx hb dJ6_bitCount_0f7a4_21 ?_
  refine lv_iadd hx hb dJ6_bitCount_0f7a4_22 ?_
  refine lv_topi (fun z_2 ez_2 => ?_)
  have h := nm_inv ez_2 h
  refine lv_istore_n (lv' := [(0, .int z_2)]) hx hb dJ6_bitCount_0f7a4_23 rfl hl (by decide) rfl (fun ls hl => ?_)
  refine lv_iload_n hx hb dJ6_bitCount_0f7a4_24 rfl (lv_at hl 0 rfl) ?_
  refine lv_iload_n hx hb dJ6_bitCount_0f7a4_25 rfl (lv_at hl 0 rfl) ?_
  refine lv_iconst (v := 4) hx hb dJ6_bitCount_0f7a4_26 (by decide) ?_
  refine lv_iushr hx hb dJ6_bitCount_0f7a4_27 rfl ?_
  refine lv_iadd hx hb dJ6_bitCount_0f7a4_28 ?_
  refine lv_ldcw (v := 252645135) hx hb hown q_3 dJ6_bitCount_0f7a4_29 ?_
  refine lv_iand hx hb dJ6_bitCount_0f7a4_32 ?_
  refine lv_topi (fun z_3 ez_3 => ?_)
  have h := nm_inv ez_3 h
  refine lv_istore_n (lv' := [(0, .int z_3)]) hx hb dJ6_bitCount_0f7a4_33 rfl hl (by decide) rfl (fun ls hl => ?_)
  refine lv_iload_n hx hb dJ6_bitCount_0f7a4_34 rfl (lv_at hl 0 rfl) ?_
  refine lv_iload_n hx hb dJ6_bitCount_0f7a4_35 rfl (lv_at hl 0 rfl) ?_
  refine lv_bipush (v := 8) hx hb dJ6_bitCount_0f7a4_36 (by decide) ?_
  refine lv_iushr hx hb dJ6_bitCount_0f7a4_38 rfl ?_
  refine lv_iadd hx hb dJ6_bitCount_0f7a4_39 ?_
  refine lv_topi (fun z_4 ez_4 => ?_)
  have h := nm_inv ez_4 h
  refine lv_istore_n (lv' := [(0, .int z_4)]) hx hb dJ6_bitCount_0f7a4_40 rfl hl (by decide) rfl (fun ls hl => ?_)
  refine lv_iload_n hx hb dJ6_bitCount_0f7a4_41 rfl (lv_at hl 0 rfl) ?_
  refine lv_iload_n hx hb dJ6_bitCount_0f7a4_42 rfl (lv_at hl 0 rfl) ?_
  refine lv_bipush (v := 16) hx hb dJ6_bitCount_0f7a4_43 (by decide) ?_
  refine lv_iushr hx hb dJ6_bitCount_0f7a4_45 rfl ?_
  refine lv_iadd hx hb dJ6_bitCount_0f7a4_46 ?_
  refine lv_topi (fun z_5 ez_5 => ?_)
  have h := nm_inv ez_5 h
  refine lv_istore_n (lv' := [(0, .int z_5)]) hx hb dJ6_bitCount_0f7a4_47 rfl hl (by decide) rfl (fun ls hl => ?_)
  refine lv_iload_n hx hb dJ6_bitCount_0f7a4_48 rfl (lv_at hl 0 rfl) ?_
  refine lv_bipush (v := 63) hx hb dJ6_bitCount_0f7a4_49 (by decide) ?_
  refine lv_iand hx hb dJ6_bitCount_0f7a4_51 ?_
  cases h
  exact k_iret hx hb hr hlocks hw rfl dJ6_bitCount_0f7a4_52 hQ
abbrev rmX1_empty : Room := { frames := 1, cells := 0, slots := 0, locals := 23 }
set_option maxHeartbeats 4000000 in
set_option maxRecDepth 100000 in
theorem c_X1_empty (l : Launch) (D : va_G) (k : Nat → ClassId) (xh xrNa xrMo xrWa xrDe : Nat) (sz : Nat) (xPe : Int32) (xDa : Int32) (xDr : Int32) (xNa : (Nat → Int32)) (xMo : (Nat → Int32)) (xWa : (Nat → Int32)) (xDe : (Nat → Int32)) (n_xPe : Int32) (n_xDa : Int32) (n_xDr : Int32) (n_xDe : (Nat → Int32)) (hf : f_X1_empty = some (n_xPe, n_xDa, n_xDr, n_xDe)) : mR l yX1_empty wsX1_empty rmX1_empty D k sz [.ref xh] (wX1 k xh xrNa xrMo xrWa xrDe xPe xDa xDr xNa xMo xWa xDe) (wX1 k xh xrNa xrMo xrWa xrDe n_xPe n_xDa n_xDr xNa xMo xWa n_xDe) (none) := by
  refine mR_of (cc := cX1_empty) (maxL := 1) (ret := none) (by decide) rfl (Nat.le_of_ble_eq_true rfl) [(0, .ref xh)] rfl ?_
  intro p e s m below meth c A ls args Q cx hK hA hw hl hQ
  have fx := cx.1
  obtain ⟨⟨hx, hb, hml, hown, hts⟩, hr, hlocks⟩ := cx
  have hinX1 : ∀ w ∈ wsX10, w ∈ wsX1_empty := fun w h => List.mem_cons_of_mem _ (List.mem_append_right _ h)
  have q_1 := hts (.fieldLink RX1 24 "DebtRides$Land" "people" "I") (List.mem_of_getElem? (i := 1) rfl)
  have q_2 := hts (.fieldLink RX1 28 "DebtRides$Land" "dayNumber" "I") (List.mem_of_getElem? (i := 2) rfl)
  have q_3 := hts (.fieldLink RX1 31 "DebtRides$Land" "dryness" "I") (List.mem_of_getElem? (i := 3) rfl)
  have q_4 := hts (.fieldLink RX1 21 "DebtRides$Land" "debts" "[I") (List.mem_of_getElem? (i := 4) rfl)
  have h := hf
  unfold f_X1_empty at h
  clear hf
  refine lv_aload_n hx hb dX1_empty_0 rfl (lv_at hl 0 rfl) ?_
  refine lv_iconst (v := 0) hx hb dX1_empty_1 (by decide) ?_
  refine va_put (ci := 1) (v := .int 0) (ty := tyX1 0) (C := RX1) (T := TX1) (N := 7) hx hb hts hinX1 tyX1 tyX1_ok nmX1 hown hK.1 hw.1 hw.2.1 hw.2.2 0 rfl rfl 0 (by decide) q_1 (fun _ h9 => h9) rfl (tyX1_ok 0 (by decide)) rfl rfl (Nat.le_of_ble_eq_true rfl) dX1_empty_2 (fun H locs hP hD hS => ?_)
  have hw : Wd D A s.heap H locs (wX1 k xh xrNa xrMo xrWa xrDe 0 xDa xDr xNa xMo xWa xDe) := ⟨hP, hD, hS⟩
  refine lv_aload_n hx hb dX1_empty_5 rfl (lv_at hl 0 rfl) ?_
  refine lv_iconst (v := 0) hx hb dX1_empty_6 (by decide) ?_
  refine va_put (ci := 1) (v := .int 0) (ty := tyX1 1) (C := RX1) (T := TX1) (N := 7) hx hb hts hinX1 tyX1 tyX1_ok nmX1 hown hK.1 hw.1 hw.2.1 hw.2.2 0 rfl rfl 1 (by decide) q_2 (fun _ h9 => h9) rfl (tyX1_ok 1 (by decide)) rfl rfl (Nat.le_of_ble_eq_true rfl) dX1_empty_7 (fun H locs hP hD hS => ?_)
  have hw : Wd D A s.heap H locs (wX1 k xh xrNa xrMo xrWa xrDe 0 0 xDr xNa xMo xWa xDe) := ⟨hP, hD, hS⟩
  refine lv_aload_n hx hb dX1_empty_10 rfl (lv_at hl 0 rfl) ?_
  refine lv_iconst (v := 0) hx hb dX1_empty_11 (by decide) ?_
  refine va_put (ci := 1) (v := .int 0) (ty := tyX1 2) (C := RX1) (T := TX1) (N := 7) hx hb hts hinX1 tyX1 tyX1_ok nmX1 hown hK.1 hw.1 hw.2.1 hw.2.2 0 rfl rfl 2 (by decide) q_3 (fun _ h9 => h9) rfl (tyX1_ok 2 (by decide)) rfl rfl (Nat.le_of_ble_eq_true rfl) dX1_empty_12 (fun H locs hP hD hS => ?_)
  have hw : Wd D A s.heap H locs (wX1 k xh xrNa xrMo xrWa xrDe 0 0 0 xNa xMo xWa xDe) := ⟨hP, hD, hS⟩
  refine lv_aload_n hx hb dX1_empty_15 rfl (lv_at hl 0 rfl) ?_
  refine va_get (ci := 1) (v := .ref xrDe) (C := RX1) (T := TX1) (N := 7) hx hb hts hinX1 hown hK.1 hw.1 0 rfl rfl 6 (by decide) q_4 (fun _ h9 => h9) rfl dX1_empty_16 ?_
  refine lv_iconst (v := 0) hx hb dX1_empty_19 (by decide) ?_
  refine k_callS (b := 0) (C := "") (host := "") fx hK hA hw (c_J7_fill_53178 (n := 25) l D k xrDe _ xDe 0 (by decide)) (va_cwS 2 hts gX1_empty_J7_fill_53178 rfl rfl rfl (by decide +kernel) ⟨by decide, by decide⟩) (As := [.ref xrDe, .int 0]) (wr := [(xh, .inr (1, [.int 0, .int 0, .int 0, .ref xrNa, .ref xrMo, .ref xrWa, .ref xrDe])), (xrNa, .inl (k 0, 5, .inl xNa)), (xrMo, .inl (k 0, 5, .inl xMo)), (xrWa, .inl (k 0, 5, .inl xWa))]) (ws' := wX1 k xh xrNa xrMo xrWa xrDe 0 0 0 xNa xMo xWa (fun _ => 0)) [4] [0, 1, 2, 3] [0, 1, 2, 3, 4] rfl rfl (by decide) (by decide) (by decide) rfl (by decide) [] rfl hl.1 rfl (Nat.le_of_ble_eq_true rfl) dX1_empty_20 ⟨by decide, by decide⟩ (fun H locs (hw : Wd D A s.heap H locs (wX1 k xh xrNa xrMo xrWa xrDe 0 0 0 xNa xMo xWa (fun _ => 0))) => ?_)
  refine W.eq (g2 := F0 m 23 ls ([])) rfl ?_
  cases h
  exact k_vret hx hb hr hlocks hw dX1_empty_23 hQ
abbrev rmX1_become : Room := { frames := 1, cells := 0, slots := 0, locals := 60 }
set_option maxHeartbeats 4000000 in
set_option maxRecDepth 100000 in
theorem c_X1_become (l : Launch) (D : va_G) (k : Nat → ClassId) (xh xrNa xrMo xrWa xrDe oh orNa orMo orWa orDe : Nat) (sz : Nat) (xPe : Int32) (xDa : Int32) (xDr : Int32) (xNa : (Nat → Int32)) (xMo : (Nat → Int32)) (xWa : (Nat → Int32)) (xDe : (Nat → Int32)) (oPe : Int32) (oDa : Int32) (oDr : Int32) (oNa : (Nat → Int32)) (oMo : (Nat → Int32)) (oWa : (Nat → Int32)) (oDe : (Nat → Int32)) (n_xPe : Int32) (n_xDa : Int32) (n_xDr : Int32) (n_xNa : (Nat → Int32)) (n_xMo : (Nat → Int32)) (n_xWa : (Nat → Int32)) (n_xDe : (Nat → Int32)) (hf : f_X1_become oPe oDa oDr oNa oMo oWa oDe = some (n_xPe, n_xDa, n_xDr, n_xNa, n_xMo, n_xWa, n_xDe)) : mR l yX1_become wsX1_become rmX1_become D k sz [.ref xh, .ref oh] (wX1 k xh xrNa xrMo xrWa xrDe xPe xDa xDr xNa xMo xWa xDe ++ (wX1 k oh orNa orMo orWa orDe oPe oDa oDr oNa oMo oWa oDe)) (wX1 k xh xrNa xrMo xrWa xrDe n_xPe n_xDa n_xDr n_xNa n_xMo n_xWa n_xDe ++ (wX1 k oh orNa orMo orWa orDe oPe oDa oDr oNa oMo oWa oDe)) (none) := by
  refine mR_of (cc := cX1_become) (maxL := 2) (ret := none) (by decide) rfl (Nat.le_of_ble_eq_true rfl) [(0, .ref xh), (1, .ref oh)] rfl ?_
  intro p e s m below meth c A ls args Q cx hK hA hw hl hQ
  have fx := cx.1
  obtain ⟨⟨hx, hb, hml, hown, hts⟩, hr, hlocks⟩ := cx
  have hinX1 : ∀ w ∈ wsX10, w ∈ wsX1_become := fun w h => List.mem_cons_of_mem _ (List.mem_append_right _ h)
  have q_1 := hts (.fieldLink RX1 24 "DebtRides$Land" "people" "I") (List.mem_of_getElem? (i := 1) rfl)
  have q_2 := hts (.fieldLink RX1 28 "DebtRides$Land" "dayNumber" "I") (List.mem_of_getElem? (i := 2) rfl)
  have q_3 := hts (.fieldLink RX1 31 "DebtRides$Land" "dryness" "I") (List.mem_of_getElem? (i := 3) rfl)
  have q_4 := hts (.fieldLink RX1 9 "DebtRides$Land" "nature" "[I") (List.mem_of_getElem? (i := 4) rfl)
  have q_5 := hts (.methodLink RX1 40 arraycopyName) (List.mem_of_getElem? (i := 5) rfl)
  have q_6 := hts (.native arraycopyName) (List.mem_of_getElem? (i := 6) rfl)
  have q_7 := hts (.static arraycopyName) (List.mem_of_getElem? (i := 7) rfl)
  have q_8 := hts (.initialized "java/lang/System") (List.mem_of_getElem? (i := 8) rfl)
  have q_9 := hts (.fieldLink RX1 15 "DebtRides$Land" "money" "[I") (List.mem_of_getElem? (i := 9) rfl)
  have q_10 := hts (.fieldLink RX1 18 "DebtRides$Land" "wage" "[I") (List.mem_of_getElem? (i := 10) rfl)
  have q_11 := hts (.fieldLink RX1 21 "DebtRides$Land" "debts" "[I") (List.mem_of_getElem? (i := 11) rfl)
  have h := hf
  unfold f_X1_become at h
  clear hf
  refine lv_aload_n hx hb dX1_become_0 rfl (lv_at hl 0 rfl) ?_
  refine lv_aload_n hx hb dX1_become_1 rfl (lv_at hl 1 rfl) ?_
  refine va_get (ci := 1) (v := .int oPe) (C := RX1) (T := TX1) (N := 7) hx hb hts hinX1 hown hK.1 hw.1 5 rfl rfl 0 (by decide) q_1 (fun _ h9 => h9) rfl dX1_become_2 ?_
  refine va_put (ci := 1) (v := .int oPe) (ty := tyX1 0) (C := RX1) (T := TX1) (N := 7) hx hb hts hinX1 tyX1 tyX1_ok nmX1 hown hK.1 hw.1 hw.2.1 hw.2.2 0 rfl rfl 0 (by decide) q_1 (fun _ h9 => h9) rfl (tyX1_ok 0 (by decide)) rfl rfl (Nat.le_of_ble_eq_true rfl) dX1_become_5 (fun H locs hP hD hS => ?_)
  have hw : Wd D A s.heap H locs (wX1 k xh xrNa xrMo xrWa xrDe oPe xDa xDr xNa xMo xWa xDe ++ (wX1 k oh orNa orMo orWa orDe oPe oDa oDr oNa oMo oWa oDe)) := ⟨hP, hD, hS⟩
  refine lv_aload_n hx hb dX1_become_8 rfl (lv_at hl 0 rfl) ?_
  refine lv_aload_n hx hb dX1_become_9 rfl (lv_at hl 1 rfl) ?_
  refine va_get (ci := 1) (v := .int oDa) (C := RX1) (T := TX1) (N := 7) hx hb hts hinX1 hown hK.1 hw.1 5 rfl rfl 1 (by decide) q_2 (fun _ h9 => h9) rfl dX1_become_10 ?_
  refine va_put (ci := 1) (v := .int oDa) (ty := tyX1 1) (C := RX1) (T := TX1) (N := 7) hx hb hts hinX1 tyX1 tyX1_ok nmX1 hown hK.1 hw.1 hw.2.1 hw.2.2 0 rfl rfl 1 (by decide) q_2 (fun _ h9 => h9) rfl (tyX1_ok 1 (by decide)) rfl rfl (Nat.le_of_ble_eq_true rfl) dX1_become_13 (fun H locs hP hD hS => ?_)
  have hw : Wd D A s.heap H locs (wX1 k xh xrNa xrMo xrWa xrDe oPe oDa xDr xNa xMo xWa xDe ++ (wX1 k oh orNa orMo orWa orDe oPe oDa oDr oNa oMo oWa oDe)) := ⟨hP, hD, hS⟩
  refine lv_aload_n hx hb dX1_become_16 rfl (lv_at hl 0 rfl) ?_
  refine lv_aload_n hx hb dX1_become_17 rfl (lv_at hl 1 rfl) ?_
  refine va_get (ci := 1) (v := .int oDr) (C := RX1) (T := TX1) (N := 7) hx hb hts hinX1 hown hK.1 hw.1 5 rfl rfl 2 (by decide) q_3 (fun _ h9 => h9) rfl dX1_become_18 ?_
  refine va_put (ci := 1) (v := .int oDr) (ty := tyX1 2) (C := RX1) (T := TX1) (N := 7) hx hb hts hinX1 tyX1 tyX1_ok nmX1 hown hK.1 hw.1 hw.2.1 hw.2.2 0 rfl rfl 2 (by decide) q_3 (fun _ h9 => h9) rfl (tyX1_ok 2 (by decide)) rfl rfl (Nat.le_of_ble_eq_true rfl) dX1_become_21 (fun H locs hP hD hS => ?_)
  have hw : Wd D A s.heap H locs (wX1 k xh xrNa xrMo xrWa xrDe oPe oDa oDr xNa xMo xWa xDe ++ (wX1 k oh orNa orMo orWa orDe oPe oDa oDr oNa oMo oWa oDe)) := ⟨hP, hD, hS⟩
  refine lv_aload_n hx hb dX1_become_24 rfl (lv_at hl 1 rfl) ?_
  refine va_get (ci := 1) (v := .ref orNa) (C := RX1) (T := TX1) (N := 7) hx hb hts hinX1 hown hK.1 hw.1 5 rfl rfl 3 (by decide) q_4 (fun _ h9 => h9) rfl dX1_become_25 ?_
  refine lv_iconst (v := 0) hx hb dX1_become_28 (by decide) ?_
  refine lv_aload_n hx hb dX1_become_29 rfl (lv_at hl 0 rfl) ?_
  refine va_get (ci := 1) (v := .ref xrNa) (C := RX1) (T := TX1) (N := 7) hx hb hts hinX1 hown hK.1 hw.1 0 rfl rfl 3 (by decide) q_4 (fun _ h9 => h9) rfl dX1_become_30 ?_
  refine lv_iconst (v := 0) hx hb dX1_become_33 (by decide) ?_
  refine lv_iconst (v := 5) hx hb dX1_become_34 (by decide) ?_
  refine k_copy fx hl.1 q_5 q_6 q_7 q_8 hK hw 6 1 rfl rfl (by decide) (by decide) (by decide) (Nat.le_of_ble_eq_true rfl) dX1_become_35 (fun H locs (hw : Wd D A s.heap H locs (wX1 k xh xrNa xrMo xrWa xrDe oPe oDa oDr oNa xMo xWa xDe ++ (wX1 k oh orNa orMo orWa orDe oPe oDa oDr oNa oMo oWa oDe))) => ?_)
  refine lv_aload_n hx hb dX1_become_38 rfl (lv_at hl 1 rfl) ?_
  refine va_get (ci := 1) (v := .ref orMo) (C := RX1) (T := TX1) (N := 7) hx hb hts hinX1 hown hK.1 hw.1 5 rfl rfl 4 (by decide) q_9 (fun _ h9 => h9) rfl dX1_become_39 ?_
  refine lv_iconst (v := 0) hx hb dX1_become_42 (by decide) ?_
  refine lv_aload_n hx hb dX1_become_43 rfl (lv_at hl 0 rfl) ?_
  refine va_get (ci := 1) (v := .ref xrMo) (C := RX1) (T := TX1) (N := 7) hx hb hts hinX1 hown hK.1 hw.1 0 rfl rfl 4 (by decide) q_9 (fun _ h9 => h9) rfl dX1_become_44 ?_
  refine lv_iconst (v := 0) hx hb dX1_become_47 (by decide) ?_
  refine lv_iconst (v := 5) hx hb dX1_become_48 (by decide) ?_
  refine k_copy fx hl.1 q_5 q_6 q_7 q_8 hK hw 7 2 rfl rfl (by decide) (by decide) (by decide) (Nat.le_of_ble_eq_true rfl) dX1_become_49 (fun H locs (hw : Wd D A s.heap H locs (wX1 k xh xrNa xrMo xrWa xrDe oPe oDa oDr oNa oMo xWa xDe ++ (wX1 k oh orNa orMo orWa orDe oPe oDa oDr oNa oMo oWa oDe))) => ?_)
  refine lv_aload_n hx hb dX1_become_52 rfl (lv_at hl 1 rfl) ?_
  refine va_get (ci := 1) (v := .ref orWa) (C := RX1) (T := TX1) (N := 7) hx hb hts hinX1 hown hK.1 hw.1 5 rfl rfl 5 (by decide) q_10 (fun _ h9 => h9) rfl dX1_become_53 ?_
  refine lv_iconst (v := 0) hx hb dX1_become_56 (by decide) ?_
  refine lv_aload_n hx hb dX1_become_57 rfl (lv_at hl 0 rfl) ?_
  refine va_get (ci := 1) (v := .ref xrWa) (C := RX1) (T := TX1) (N := 7) hx hb hts hinX1 hown hK.1 hw.1 0 rfl rfl 5 (by decide) q_10 (fun _ h9 => h9) rfl dX1_become_58 ?_
  refine lv_iconst (v := 0) hx hb dX1_become_61 (by decide) ?_
  refine lv_iconst (v := 5) hx hb dX1_become_62 (by decide) ?_
  refine k_copy fx hl.1 q_5 q_6 q_7 q_8 hK hw 8 3 rfl rfl (by decide) (by decide) (by decide) (Nat.le_of_ble_eq_true rfl) dX1_become_63 (fun H locs (hw : Wd D A s.heap H locs (wX1 k xh xrNa xrMo xrWa xrDe oPe oDa oDr oNa oMo oWa xDe ++ (wX1 k oh orNa orMo orWa orDe oPe oDa oDr oNa oMo oWa oDe))) => ?_)
  refine lv_aload_n hx hb dX1_become_66 rfl (lv_at hl 1 rfl) ?_
  refine va_get (ci := 1) (v := .ref orDe) (C := RX1) (T := TX1) (N := 7) hx hb hts hinX1 hown hK.1 hw.1 5 rfl rfl 6 (by decide) q_11 (fun _ h9 => h9) rfl dX1_become_67 ?_
  refine lv_iconst (v := 0) hx hb dX1_become_70 (by decide) ?_
  refine lv_aload_n hx hb dX1_become_71 rfl (lv_at hl 0 rfl) ?_
  refine va_get (ci := 1) (v := .ref xrDe) (C := RX1) (T := TX1) (N := 7) hx hb hts hinX1 hown hK.1 hw.1 0 rfl rfl 6 (by decide) q_11 (fun _ h9 => h9) rfl dX1_become_72 ?_
  refine lv_iconst (v := 0) hx hb dX1_become_75 (by decide) ?_
  refine lv_aload_n hx hb dX1_become_76 rfl (lv_at hl 0 rfl) ?_
  refine va_get (ci := 1) (v := .ref xrDe) (C := RX1) (T := TX1) (N := 7) hx hb hts hinX1 hown hK.1 hw.1 0 rfl rfl 6 (by decide) q_11 (fun _ h9 => h9) rfl dX1_become_77 ?_
  refine va_alen (v := 25) hx hb hK.1 hw.1 4 0 rfl rfl rfl dX1_become_80 ?_
  refine k_copy fx hl.1 q_5 q_6 q_7 q_8 hK hw 9 4 rfl rfl (by decide) (by decide) (by decide) (Nat.le_of_ble_eq_true rfl) dX1_become_81 (fun H locs (hw : Wd D A s.heap H locs (wX1 k xh xrNa xrMo xrWa xrDe oPe oDa oDr oNa oMo oWa oDe ++ (wX1 k oh orNa orMo orWa orDe oPe oDa oDr oNa oMo oWa oDe))) => ?_)
  cases h
  exact k_vret hx hb hr hlocks hw dX1_become_84 hQ
abbrev rmX1_has : Room := { frames := 0, cells := 0, slots := 0, locals := 0 }
set_option maxHeartbeats 4000000 in
set_option maxRecDepth 100000 in
theorem c_X1_has (l : Launch) (D : va_G) (k : Nat → ClassId) (xh xrNa xrMo xrWa xrDe : Nat) (sz : Nat) (xPe : Int32) (xDa : Int32) (xDr : Int32) (xNa : (Nat → Int32)) (xMo : (Nat → Int32)) (xWa : (Nat → Int32)) (xDe : (Nat → Int32)) (p1 : Int32) (r_ : Int32) (hf : f_X1_has xPe p1 = some r_) : mR l yX1_has wsX1_has rmX1_has D k sz [.ref xh, .int p1] (wX1 k xh xrNa xrMo xrWa xrDe xPe xDa xDr xNa xMo xWa xDe) (wX1 k xh xrNa xrMo xrWa xrDe xPe xDa xDr xNa xMo xWa xDe) (some (.int r_)) := by
  refine mR_of (cc := cX1_has) (maxL := 2) (ret := some .boolean) (by decide) rfl (Nat.le_of_ble_eq_true rfl) [(0, .ref xh), (1, .int p1)] rfl ?_
  intro p e s m below meth c A ls args Q cx hK hA hw hl hQ
  have fx := cx.1
  obtain ⟨⟨hx, hb, hml, hown, hts⟩, hr, hlocks⟩ := cx
  have hinX1 : ∀ w ∈ wsX10, w ∈ wsX1_has := fun w h => List.mem_cons_of_mem _ (List.mem_append_right _ h)
  have q_1 := hts (.fieldLink RX1 24 "DebtRides$Land" "people" "I") (List.mem_of_getElem? (i := 1) rfl)
  have h := hf
  unfold f_X1_has at h
  clear hf
  refine lv_iload_n hx hb dX1_has_0 rfl (lv_at hl 1 rfl) ?_
  refine kb_if_lt (tgt := 16) hx hb dX1_has_1 (by decide) h (fun c_1 h => ?_) (fun c_1 h => ?_)
  · refine lv_iconst (v := 0) hx hb dX1_has_16 (by decide) ?_
    cases h
    exact k_zret hx hb hr hlocks hw (by decide) rfl dX1_has_17 hQ
  · refine lv_iload_n hx hb dX1_has_4 rfl (lv_at hl 1 rfl) ?_
    refine lv_aload_n hx hb dX1_has_5 rfl (lv_at hl 0 rfl) ?_
    refine va_get (ci := 1) (v := .int xPe) (C := RX1) (T := TX1) (N := 7) hx hb hts hinX1 hown hK.1 hw.1 0 rfl rfl 0 (by decide) q_1 (fun _ h9 => h9) rfl dX1_has_6 ?_
    refine kb_icmp_ge (tgt := 16) hx hb dX1_has_9 (by decide) h (fun c_9 h => ?_) (fun c_9 h => ?_)
    · refine lv_iconst (v := 0) hx hb dX1_has_16 (by decide) ?_
      cases h
      exact k_zret hx hb hr hlocks hw (by decide) rfl dX1_has_17 hQ
    · refine lv_iconst (v := 1) hx hb dX1_has_12 (by decide) ?_
      refine lv_goto (tgt := 17) hx hb dX1_has_13 (by decide) ?_
      cases h
      exact k_zret hx hb hr hlocks hw (by decide) rfl dX1_has_17 hQ
abbrev rmX1_hasPair : Room := { frames := 1, cells := 0, slots := 0, locals := 21 }
set_option maxHeartbeats 4000000 in
set_option maxRecDepth 100000 in
theorem c_X1_hasPair (l : Launch) (D : va_G) (k : Nat → ClassId) (xh xrNa xrMo xrWa xrDe : Nat) (sz : Nat) (xPe : Int32) (xDa : Int32) (xDr : Int32) (xNa : (Nat → Int32)) (xMo : (Nat → Int32)) (xWa : (Nat → Int32)) (xDe : (Nat → Int32)) (p1 : Int32) (p2 : Int32) (r_ : Int32) (hf : f_X1_hasPair xPe p1 p2 = some r_) : mR l yX1_hasPair wsX1_hasPair rmX1_hasPair D k sz [.ref xh, .int p1, .int p2] (wX1 k xh xrNa xrMo xrWa xrDe xPe xDa xDr xNa xMo xWa xDe) (wX1 k xh xrNa xrMo xrWa xrDe xPe xDa xDr xNa xMo xWa xDe) (some (.int r_)) := by
  refine mR_of (cc := cX1_hasPair) (maxL := 3) (ret := some .boolean) (by decide) rfl (Nat.le_of_ble_eq_true rfl) [(0, .ref xh), (1, .int p1), (2, .int p2)] rfl ?_
  intro p e s m below meth c A ls args Q cx hK hA hw hl hQ
  have fx := cx.1
  obtain ⟨⟨hx, hb, hml, hown, hts⟩, hr, hlocks⟩ := cx
  have h := hf
  unfold f_X1_hasPair at h
  clear hf
  refine lv_aload_n hx hb dX1_hasPair_0 rfl (lv_at hl 0 rfl) ?_
  refine lv_iload_n hx hb dX1_hasPair_1 rfl (lv_at hl 1 rfl) ?_
  obtain ⟨r_1, hf, h⟩ := b1_inv h
  refine k_callV (host := "") fx hK hA hw (c_X1_has l D k xh xrNa xrMo xrWa xrDe _ xPe xDa xDr xNa xMo xWa xDe p1 r_1 hf) (cwV 1 hts gX1_hasPair_X1_has rfl rfl rfl (by decide +kernel) ⟨by decide, by decide⟩) (As := [.int p1]) (wr := []) (ws' := wX1 k xh xrNa xrMo xrWa xrDe xPe xDa xDr xNa xMo xWa xDe) [0, 1, 2, 3, 4] [] [0, 1, 2, 3, 4] rfl rfl (by decide) (by decide) (by decide) rfl (by decide) 1 rfl rfl [] rfl hl.1 rfl (Nat.le_of_ble_eq_true rfl) dX1_hasPair_2 ⟨by decide, by decide⟩ (fun H locs (hw : Wd D A s.heap H locs (wX1 k xh xrNa xrMo xrWa xrDe xPe xDa xDr xNa xMo xWa xDe)) => ?_)
  refine W.eq (g2 := F0 m 5 ls ([.int r_1])) rfl ?_
  refine kb_if_eq (tgt := 25) hx hb dX1_hasPair_5 (by decide) h (fun c_5 h => ?_) (fun c_5 h => ?_)
  · refine lv_iconst (v := 0) hx hb dX1_hasPair_25 (by decide) ?_
    cases h
    exact k_zret hx hb hr hlocks hw (by decide) rfl dX1_hasPair_26 hQ
  · refine lv_aload_n hx hb dX1_hasPair_8 rfl (lv_at hl 0 rfl) ?_
    refine lv_iload_n hx hb dX1_hasPair_9 rfl (lv_at hl 2 rfl) ?_
    obtain ⟨r_2, hf, h⟩ := b1_inv h
    refine k_callV (host := "") fx hK hA hw (c_X1_has l D k xh xrNa xrMo xrWa xrDe _ xPe xDa xDr xNa xMo xWa xDe p2 r_2 hf) (cwV 1 hts gX1_hasPair_X1_has rfl rfl rfl (by decide +kernel) ⟨by decide, by decide⟩) (As := [.int p2]) (wr := []) (ws' := wX1 k xh xrNa xrMo xrWa xrDe xPe xDa xDr xNa xMo xWa xDe) [0, 1, 2, 3, 4] [] [0, 1, 2, 3, 4] rfl rfl (by decide) (by decide) (by decide) rfl (by decide) 1 rfl rfl [] rfl hl.1 rfl (Nat.le_of_ble_eq_true rfl) dX1_hasPair_10 ⟨by decide, by decide⟩ (fun H locs (hw : Wd D A s.heap H locs (wX1 k xh xrNa xrMo xrWa xrDe xPe xDa xDr xNa xMo xWa xDe)) => ?_)
    refine W.eq (g2 := F0 m 13 ls ([.int r_2])) rfl ?_
    refine kb_if_eq (tgt := 25) hx hb dX1_hasPair_13 (by decide) h (fun c_13 h => ?_) (fun c_13 h => ?_)
    · refine lv_iconst (v := 0) hx hb dX1_hasPair_25 (by decide) ?_
      cases h
      exact k_zret hx hb hr hlocks hw (by decide) rfl dX1_hasPair_26 hQ
    · refine lv_iload_n hx hb dX1_hasPair_16 rfl (lv_at hl 1 rfl) ?_
      refine lv_iload_n hx hb dX1_hasPair_17 rfl (lv_at hl 2 rfl) ?_
      refine kb_icmp_eq (tgt := 25) hx hb dX1_hasPair_18 (by decide) h (fun c_18 h => ?_) (fun c_18 h => ?_)
      · refine lv_iconst (v := 0) hx hb dX1_hasPair_25 (by decide) ?_
        cases h
        exact k_zret hx hb hr hlocks hw (by decide) rfl dX1_hasPair_26 hQ
      · refine lv_iconst (v := 1) hx hb dX1_hasPair_21 (by decide) ?_
        refine lv_goto (tgt := 26) hx hb dX1_hasPair_22 (by decide) ?_
        cases h
        exact k_zret hx hb hr hlocks hw (by decide) rfl dX1_hasPair_26 hQ
abbrev rmX1_debt : Room := { frames := 0, cells := 0, slots := 0, locals := 0 }
set_option maxHeartbeats 4000000 in
set_option maxRecDepth 100000 in
theorem c_X1_debt (l : Launch) (D : va_G) (k : Nat → ClassId) (xh xrNa xrMo xrWa xrDe : Nat) (sz : Nat) (xPe : Int32) (xDa : Int32) (xDr : Int32) (xNa : (Nat → Int32)) (xMo : (Nat → Int32)) (xWa : (Nat → Int32)) (xDe : (Nat → Int32)) (p1 : Int32) (p2 : Int32) (r_ : Int32) (hf : f_X1_debt xDe p1 p2 = some r_) : mR l yX1_debt wsX1_debt rmX1_debt D k sz [.ref xh, .int p1, .int p2] (wX1 k xh xrNa xrMo xrWa xrDe xPe xDa xDr xNa xMo xWa xDe) (wX1 k xh xrNa xrMo xrWa xrDe xPe xDa xDr xNa xMo xWa xDe) (some (.int r_)) := by
  refine mR_of (cc := cX1_debt) (maxL := 3) (ret := some .int) (by decide) rfl (Nat.le_of_ble_eq_true rfl) [(0, .ref xh), (1, .int p1), (2, .int p2)] rfl ?_
  intro p e s m below meth c A ls args Q cx hK hA hw hl hQ
  have fx := cx.1
  obtain ⟨⟨hx, hb, hml, hown, hts⟩, hr, hlocks⟩ := cx
  have hinX1 : ∀ w ∈ wsX10, w ∈ wsX1_debt := fun w h => List.mem_cons_of_mem _ (List.mem_append_right _ h)
  have q_1 := hts (.fieldLink RX1 21 "DebtRides$Land" "debts" "[I") (List.mem_of_getElem? (i := 1) rfl)
  have h := hf
  unfold f_X1_debt at h
  clear hf
  refine lv_aload_n hx hb dX1_debt_0 rfl (lv_at hl 0 rfl) ?_
  refine va_get (ci := 1) (v := .ref xrDe) (C := RX1) (T := TX1) (N := 7) hx hb hts hinX1 hown hK.1 hw.1 0 rfl rfl 6 (by decide) q_1 (fun _ h9 => h9) rfl dX1_debt_1 ?_
  refine lv_iload_n hx hb dX1_debt_4 rfl (lv_at hl 1 rfl) ?_
  refine lv_iconst (v := 5) hx hb dX1_debt_5 (by decide) ?_
  refine lv_imul hx hb dX1_debt_6 ?_
  refine lv_iload_n hx hb dX1_debt_7 rfl (lv_at hl 2 rfl) ?_
  refine lv_iadd hx hb dX1_debt_8 ?_
  refine k_iald hx hb hK hw 4 rfl dX1_debt_9 h (fun a_1 h => ?_)
  cases h
  exact k_iret hx hb hr hlocks hw rfl dX1_debt_10 hQ
abbrev rmX1_setDebt : Room := { frames := 0, cells := 0, slots := 0, locals := 0 }
set_option maxHeartbeats 4000000 in
set_option maxRecDepth 100000 in
theorem c_X1_setDebt (l : Launch) (D : va_G) (k : Nat → ClassId) (xh xrNa xrMo xrWa xrDe : Nat) (sz : Nat) (xPe : Int32) (xDa : Int32) (xDr : Int32) (xNa : (Nat → Int32)) (xMo : (Nat → Int32)) (xWa : (Nat → Int32)) (xDe : (Nat → Int32)) (p1 : Int32) (p2 : Int32) (p3 : Int32) (n_xDe : (Nat → Int32)) (hf : f_X1_setDebt xDe p1 p2 p3 = some n_xDe) : mR l yX1_setDebt wsX1_setDebt rmX1_setDebt D k sz [.ref xh, .int p1, .int p2, .int p3] (wX1 k xh xrNa xrMo xrWa xrDe xPe xDa xDr xNa xMo xWa xDe) (wX1 k xh xrNa xrMo xrWa xrDe xPe xDa xDr xNa xMo xWa n_xDe) (none) := by
  refine mR_of (cc := cX1_setDebt) (maxL := 4) (ret := none) (by decide) rfl (Nat.le_of_ble_eq_true rfl) [(0, .ref xh), (1, .int p1), (2, .int p2), (3, .int p3)] rfl ?_
  intro p e s m below meth c A ls args Q cx hK hA hw hl hQ
  have fx := cx.1
  obtain ⟨⟨hx, hb, hml, hown, hts⟩, hr, hlocks⟩ := cx
  have hinX1 : ∀ w ∈ wsX10, w ∈ wsX1_setDebt := fun w h => List.mem_cons_of_mem _ (List.mem_append_right _ h)
  have q_1 := hts (.fieldLink RX1 21 "DebtRides$Land" "debts" "[I") (List.mem_of_getElem? (i := 1) rfl)
  have h := hf
  unfold f_X1_setDebt at h
  clear hf
  refine lv_aload_n hx hb dX1_setDebt_0 rfl (lv_at hl 0 rfl) ?_
  refine va_get (ci := 1) (v := .ref xrDe) (C := RX1) (T := TX1) (N := 7) hx hb hts hinX1 hown hK.1 hw.1 0 rfl rfl 6 (by decide) q_1 (fun _ h9 => h9) rfl dX1_setDebt_1 ?_
  refine lv_iload_n hx hb dX1_setDebt_4 rfl (lv_at hl 1 rfl) ?_
  refine lv_iconst (v := 5) hx hb dX1_setDebt_5 (by decide) ?_
  refine lv_imul hx hb dX1_setDebt_6 ?_
  refine lv_iload_n hx hb dX1_setDebt_7 rfl (lv_at hl 2 rfl) ?_
  refine lv_iadd hx hb dX1_setDebt_8 ?_
  refine lv_iload_n hx hb dX1_setDebt_9 rfl (lv_at hl 3 rfl) ?_
  refine k_iast hx hb hK hw 4 rfl dX1_setDebt_10 h (fun xDe_1 h H locs (hw : Wd D A s.heap H locs (wX1 k xh xrNa xrMo xrWa xrDe xPe xDa xDr xNa xMo xWa xDe_1)) => ?_)
  cases h
  exact k_vret hx hb hr hlocks hw dX1_setDebt_11 hQ
abbrev rmX1_owedBy : Room := { frames := 0, cells := 0, slots := 0, locals := 0 }
set_option maxHeartbeats 4000000 in
set_option maxRecDepth 100000 in
theorem c_X1_owedBy (l : Launch) (D : va_G) (k : Nat → ClassId) (xh xrNa xrMo xrWa xrDe : Nat) (sz : Nat) (xPe : Int32) (xDa : Int32) (xDr : Int32) (xNa : (Nat → Int32)) (xMo : (Nat → Int32)) (xWa : (Nat → Int32)) (xDe : (Nat → Int32)) (p1 : Int32) (r_ : Int32) (hf : f_X1_owedBy xPe xDe p1 = some r_) : mR l yX1_owedBy wsX1_owedBy rmX1_owedBy D k sz [.ref xh, .int p1] (wX1 k xh xrNa xrMo xrWa xrDe xPe xDa xDr xNa xMo xWa xDe) (wX1 k xh xrNa xrMo xrWa xrDe xPe xDa xDr xNa xMo xWa xDe) (some (.int r_)) := by
  refine mR_of (cc := cX1_owedBy) (maxL := 4) (ret := some .int) (by decide) rfl (Nat.le_of_ble_eq_true rfl) [(0, .ref xh), (1, .int p1)] rfl ?_
  intro p e s m below meth c A ls args Q cx hK hA hw hl hQ
  have fx := cx.1
  obtain ⟨⟨hx, hb, hml, hown, hts⟩, hr, hlocks⟩ := cx
  have hinX1 : ∀ w ∈ wsX10, w ∈ wsX1_owedBy := fun w h => List.mem_cons_of_mem _ (List.mem_append_right _ h)
  have q_1 := hts (.fieldLink RX1 24 "DebtRides$Land" "people" "I") (List.mem_of_getElem? (i := 1) rfl)
  have q_2 := hts (.fieldLink RX1 21 "DebtRides$Land" "debts" "[I") (List.mem_of_getElem? (i := 2) rfl)
  have h := hf
  unfold f_X1_owedBy at h
  clear hf
  refine lv_iconst (v := 0) hx hb dX1_owedBy_0 (by decide) ?_
  refine lv_istore_n (lv' := [(2, .int 0), (0, .ref xh), (1, .int p1)]) hx hb dX1_owedBy_1 rfl hl (by decide) rfl (fun ls hl => ?_)
  refine lv_iconst (v := 0) hx hb dX1_owedBy_2 (by decide) ?_
  refine lv_istore_n (lv' := [(3, .int 0), (2, .int 0), (0, .ref xh), (1, .int p1)]) hx hb dX1_owedBy_3 rfl hl (by decide) rfl (fun ls hl => ?_)
  obtain ⟨v2_3, hL_4, h⟩ := b1_inv h
  have X_4 : ∀ (H : Heap) (locs : List Loc) (ls : Array Slot), Wd D A s.heap H locs (wX1 k xh xrNa xrMo xrWa xrDe xPe xDa xDr xNa xMo xWa xDe) → lv_has ls 4 [(2, .int v2_3)] → W p l e rmX1_owedBy s m args below meth c H locs 0 0 Q (F0 m 31 ls []) := by
    intro H locs ls hw hl
    refine lv_iload_n hx hb dX1_owedBy_31 rfl (lv_at hl 0 rfl) ?_
    cases h
    exact k_iret hx hb hr hlocks hw rfl dX1_owedBy_32 hQ
  clear h
  have LP_4 : ∀ (n : Nat) (v2_1 : Int32) (v3_2 : Int32), f_X1_owedBy_L4 xPe xDe p1 n v2_1 v3_2 = some v2_3 → ∀ (H : Heap) (locs : List Loc) (ls : Array Slot), Wd D A s.heap H locs (wX1 k xh xrNa xrMo xrWa xrDe xPe xDa xDr xNa xMo xWa xDe) → lv_has ls 4 [(0, .ref xh), (1, .int p1), (2, .int v2_1), (3, .int v3_2)] → W p l e rmX1_owedBy s m args below meth c H locs 0 0 Q (F0 m 4 ls []) := by
    clear hL_4 hw hl
    intro n
    induction n with
    | zero => intro v2_1 v3_2 h; rw [f_X1_owedBy_L4] at h; cases h
    | succ n ih =>
      intro v2_1 v3_2 h H locs ls hw hl
      rw [f_X1_owedBy_L4] at h
      refine lv_iload_n hx hb dX1_owedBy_4 rfl (lv_at hl 3 rfl) ?_
      refine lv_aload_n hx hb dX1_owedBy_5 rfl (lv_at hl 0 rfl) ?_
      refine va_get (ci := 1) (v := .int xPe) (C := RX1) (T := TX1) (N := 7) hx hb hts hinX1 hown hK.1 hw.1 0 rfl rfl 0 (by decide) q_1 (fun _ h9 => h9) rfl dX1_owedBy_6 ?_
      refine kb_icmp_ge (tgt := 31) hx hb dX1_owedBy_9 (by decide) h (fun c_9 h => ?_) (fun c_9 h => ?_)
      · cases h
        exact X_4 _ _ _ hw (lv_sub hl [2] rfl)
      · refine lv_iload_n hx hb dX1_owedBy_12 rfl (lv_at hl 2 rfl) ?_
        refine lv_aload_n hx hb dX1_owedBy_13 rfl (lv_at hl 0 rfl) ?_
        refine va_get (ci := 1) (v := .ref xrDe) (C := RX1) (T := TX1) (N := 7) hx hb hts hinX1 hown hK.1 hw.1 0 rfl rfl 6 (by decide) q_2 (fun _ h9 => h9) rfl dX1_owedBy_14 ?_
        refine lv_iload_n hx hb dX1_owedBy_17 rfl (lv_at hl 1 rfl) ?_
        refine lv_iconst (v := 5) hx hb dX1_owedBy_18 (by decide) ?_
        refine lv_imul hx hb dX1_owedBy_19 ?_
        refine lv_iload_n hx hb dX1_owedBy_20 rfl (lv_at hl 3 rfl) ?_
        refine lv_iadd hx hb dX1_owedBy_21 ?_
        refine k_iald hx hb hK hw 4 rfl dX1_owedBy_22 h (fun a_4 h => ?_)
        refine lv_iadd hx hb dX1_owedBy_23 ?_
        refine lv_istore_n (lv' := [(2, .int (v2_1 + a_4)), (0, .ref xh), (1, .int p1), (3, .int v3_2)]) hx hb dX1_owedBy_24 rfl hl (by decide) rfl (fun ls hl => ?_)
        refine lv_iinc (v := v3_2 + 1) (lv' := [(3, .int (v3_2 + 1)), (2, .int (v2_1 + a_4)), (0, .ref xh), (1, .int p1)]) hx hb dX1_owedBy_25 hl (k := 3) rfl rfl (by decide) rfl (fun ls hl => ?_)
        refine lv_goto (tgt := 4) hx hb dX1_owedBy_28 (by decide) ?_
        exact ih _ _ h _ _ _ hw (lv_sub hl [2, 3, 1, 0] rfl)
  exact LP_4 400 0 0 hL_4 _ _ _ hw (lv_sub hl [2, 3, 1, 0] rfl)
abbrev rmX1_owedTo : Room := { frames := 0, cells := 0, slots := 0, locals := 0 }
set_option maxHeartbeats 4000000 in
set_option maxRecDepth 100000 in
theorem c_X1_owedTo (l : Launch) (D : va_G) (k : Nat → ClassId) (xh xrNa xrMo xrWa xrDe : Nat) (sz : Nat) (xPe : Int32) (xDa : Int32) (xDr : Int32) (xNa : (Nat → Int32)) (xMo : (Nat → Int32)) (xWa : (Nat → Int32)) (xDe : (Nat → Int32)) (p1 : Int32) (r_ : Int32) (hf : f_X1_owedTo xPe xDe p1 = some r_) : mR l yX1_owedTo wsX1_owedTo rmX1_owedTo D k sz [.ref xh, .int p1] (wX1 k xh xrNa xrMo xrWa xrDe xPe xDa xDr xNa xMo xWa xDe) (wX1 k xh xrNa xrMo xrWa xrDe xPe xDa xDr xNa xMo xWa xDe) (some (.int r_)) := by
  refine mR_of (cc := cX1_owedTo) (maxL := 4) (ret := some .int) (by decide) rfl (Nat.le_of_ble_eq_true rfl) [(0, .ref xh), (1, .int p1)] rfl ?_
  intro p e s m below meth c A ls args Q cx hK hA hw hl hQ
  have fx := cx.1
  obtain ⟨⟨hx, hb, hml, hown, hts⟩, hr, hlocks⟩ := cx
  have hinX1 : ∀ w ∈ wsX10, w ∈ wsX1_owedTo := fun w h => List.mem_cons_of_mem _ (List.mem_append_right _ h)
  have q_1 := hts (.fieldLink RX1 24 "DebtRides$Land" "people" "I") (List.mem_of_getElem? (i := 1) rfl)
  have q_2 := hts (.fieldLink RX1 21 "DebtRides$Land" "debts" "[I") (List.mem_of_getElem? (i := 2) rfl)
  have h := hf
  unfold f_X1_owedTo at h
  clear hf
  refine lv_iconst (v := 0) hx hb dX1_owedTo_0 (by decide) ?_
  refine lv_istore_n (lv' := [(2, .int 0), (0, .ref xh), (1, .int p1)]) hx hb dX1_owedTo_1 rfl hl (by decide) rfl (fun ls hl => ?_)
  refine lv_iconst (v := 0) hx hb dX1_owedTo_2 (by decide) ?_
  refine lv_istore_n (lv' := [(3, .int 0), (2, .int 0), (0, .ref xh), (1, .int p1)]) hx hb dX1_owedTo_3 rfl hl (by decide) rfl (fun ls hl => ?_)
  obtain ⟨v2_3, hL_4, h⟩ := b1_inv h
  have X_4 : ∀ (H : Heap) (locs : List Loc) (ls : Array Slot), Wd D A s.heap H locs (wX1 k xh xrNa xrMo xrWa xrDe xPe xDa xDr xNa xMo xWa xDe) → lv_has ls 4 [(2, .int v2_3)] → W p l e rmX1_owedTo s m args below meth c H locs 0 0 Q (F0 m 31 ls []) := by
    intro H locs ls hw hl
    refine lv_iload_n hx hb dX1_owedTo_31 rfl (lv_at hl 0 rfl) ?_
    cases h
    exact k_iret hx hb hr hlocks hw rfl dX1_owedTo_32 hQ
  clear h
  have LP_4 : ∀ (n : Nat) (v2_1 : Int32) (v3_2 : Int32), f_X1_owedTo_L4 xPe xDe p1 n v2_1 v3_2 = some v2_3 → ∀ (H : Heap) (locs : List Loc) (ls : Array Slot), Wd D A s.heap H locs (wX1 k xh xrNa xrMo xrWa xrDe xPe xDa xDr xNa xMo xWa xDe) → lv_has ls 4 [(0, .ref xh), (1, .int p1), (2, .int v2_1), (3, .int v3_2)] → W p l e rmX1_owedTo s m args below meth c H locs 0 0 Q (F0 m 4 ls []) := by
    clear hL_4 hw hl
    intro n
    induction n with
    | zero => intro v2_1 v3_2 h; rw [f_X1_owedTo_L4] at h; cases h
    | succ n ih =>
      intro v2_1 v3_2 h H locs ls hw hl
      rw [f_X1_owedTo_L4] at h
      refine lv_iload_n hx hb dX1_owedTo_4 rfl (lv_at hl 3 rfl) ?_
      refine lv_aload_n hx hb dX1_owedTo_5 rfl (lv_at hl 0 rfl) ?_
      refine va_get (ci := 1) (v := .int xPe) (C := RX1) (T := TX1) (N := 7) hx hb hts hinX1 hown hK.1 hw.1 0 rfl rfl 0 (by decide) q_1 (fun _ h9 => h9) rfl dX1_owedTo_6 ?_
      refine kb_icmp_ge (tgt := 31) hx hb dX1_owedTo_9 (by decide) h (fun c_9 h => ?_) (fun c_9 h => ?_)
      · cases h
        exact X_4 _ _ _ hw (lv_sub hl [2] rfl)
      · refine lv_iload_n hx hb dX1_owedTo_12 rfl (lv_at hl 2 rfl) ?_
        refine lv_aload_n hx hb dX1_owedTo_13 rfl (lv_at hl 0 rfl) ?_
        refine va_get (ci := 1) (v := .ref xrDe) (C := RX1) (T := TX1) (N := 7) hx hb hts hinX1 hown hK.1 hw.1 0 rfl rfl 6 (by decide) q_2 (fun _ h9 => h9) rfl dX1_owedTo_14 ?_
        refine lv_iload_n hx hb dX1_owedTo_17 rfl (lv_at hl 3 rfl) ?_
        refine lv_iconst (v := 5) hx hb dX1_owedTo_18 (by decide) ?_
        refine lv_imul hx hb dX1_owedTo_19 ?_
        refine lv_iload_n hx hb dX1_owedTo_20 rfl (lv_at hl 1 rfl) ?_
        refine lv_iadd hx hb dX1_owedTo_21 ?_
        refine k_iald hx hb hK hw 4 rfl dX1_owedTo_22 h (fun a_4 h => ?_)
        refine lv_iadd hx hb dX1_owedTo_23 ?_
        refine lv_istore_n (lv' := [(2, .int (v2_1 + a_4)), (0, .ref xh), (1, .int p1), (3, .int v3_2)]) hx hb dX1_owedTo_24 rfl hl (by decide) rfl (fun ls hl => ?_)
        refine lv_iinc (v := v3_2 + 1) (lv' := [(3, .int (v3_2 + 1)), (2, .int (v2_1 + a_4)), (0, .ref xh), (1, .int p1)]) hx hb dX1_owedTo_25 hl (k := 3) rfl rfl (by decide) rfl (fun ls hl => ?_)
        refine lv_goto (tgt := 4) hx hb dX1_owedTo_28 (by decide) ?_
        exact ih _ _ h _ _ _ hw (lv_sub hl [2, 3, 1, 0] rfl)
  exact LP_4 400 0 0 hL_4 _ _ _ hw (lv_sub hl [2, 3, 1, 0] rfl)
abbrev rmX1_netOf : Room := { frames := 1, cells := 0, slots := 0, locals := 23 }
set_option maxHeartbeats 4000000 in
set_option maxRecDepth 100000 in
theorem c_X1_netOf (l : Launch) (D : va_G) (k : Nat → ClassId) (xh xrNa xrMo xrWa xrDe : Nat) (sz : Nat) (xPe : Int32) (xDa : Int32) (xDr : Int32) (xNa : (Nat → Int32)) (xMo : (Nat → Int32)) (xWa : (Nat → Int32)) (xDe : (Nat → Int32)) (p1 : Int32) (r_ : Int32) (hf : f_X1_netOf xPe xDe p1 = some r_) : mR l yX1_netOf wsX1_netOf rmX1_netOf D k sz [.ref xh, .int p1] (wX1 k xh xrNa xrMo xrWa xrDe xPe xDa xDr xNa xMo xWa xDe) (wX1 k xh xrNa xrMo xrWa xrDe xPe xDa xDr xNa xMo xWa xDe) (some (.int r_)) := by
  refine mR_of (cc := cX1_netOf) (maxL := 2) (ret := some .int) (by decide) rfl (Nat.le_of_ble_eq_true rfl) [(0, .ref xh), (1, .int p1)] rfl ?_
  intro p e s m below meth c A ls args Q cx hK hA hw hl hQ
  have fx := cx.1
  obtain ⟨⟨hx, hb, hml, hown, hts⟩, hr, hlocks⟩ := cx
  have h := hf
  unfold f_X1_netOf at h
  clear hf
  refine lv_aload_n hx hb dX1_netOf_0 rfl (lv_at hl 0 rfl) ?_
  refine lv_iload_n hx hb dX1_netOf_1 rfl (lv_at hl 1 rfl) ?_
  obtain ⟨r_1, hf, h⟩ := b1_inv h
  refine k_callV (host := "") fx hK hA hw (c_X1_owedBy l D k xh xrNa xrMo xrWa xrDe _ xPe xDa xDr xNa xMo xWa xDe p1 r_1 hf) (cwV 1 hts gX1_netOf_X1_owedBy rfl rfl rfl (by decide +kernel) ⟨by decide, by decide⟩) (As := [.int p1]) (wr := []) (ws' := wX1 k xh xrNa xrMo xrWa xrDe xPe xDa xDr xNa xMo xWa xDe) [0, 1, 2, 3, 4] [] [0, 1, 2, 3, 4] rfl rfl (by decide) (by decide) (by decide) rfl (by decide) 1 rfl rfl [] rfl hl.1 rfl (Nat.le_of_ble_eq_true rfl) dX1_netOf_2 ⟨by decide, by decide⟩ (fun H locs (hw : Wd D A s.heap H locs (wX1 k xh xrNa xrMo xrWa xrDe xPe xDa xDr xNa xMo xWa xDe)) => ?_)
  refine W.eq (g2 := F0 m 5 ls ([.int r_1])) rfl ?_
  refine lv_aload_n hx hb dX1_netOf_5 rfl (lv_at hl 0 rfl) ?_
  refine lv_iload_n hx hb dX1_netOf_6 rfl (lv_at hl 1 rfl) ?_
  obtain ⟨r_2, hf, h⟩ := b1_inv h
  refine k_callV (host := "") fx hK hA hw (c_X1_owedTo l D k xh xrNa xrMo xrWa xrDe _ xPe xDa xDr xNa xMo xWa xDe p1 r_2 hf) (cwV 1 hts gX1_netOf_X1_owedTo rfl rfl rfl (by decide +kernel) ⟨by decide, by decide⟩) (As := [.int p1]) (wr := []) (ws' := wX1 k xh xrNa xrMo xrWa xrDe xPe xDa xDr xNa xMo xWa xDe) [0, 1, 2, 3, 4] [] [0, 1, 2, 3, 4] rfl rfl (by decide) (by decide) (by decide) rfl (by decide) 1 rfl rfl [.int r_1] rfl hl.1 rfl (Nat.le_of_ble_eq_true rfl) dX1_netOf_7 ⟨by decide, by decide⟩ (fun H locs (hw : Wd D A s.heap H locs (wX1 k xh xrNa xrMo xrWa xrDe xPe xDa xDr xNa xMo xWa xDe)) => ?_)
  refine W.eq (g2 := F0 m 10 ls ([.int r_2, .int r_1])) rfl ?_
  refine lv_isub hx hb dX1_netOf_10 ?_
  cases h
  exact k_iret hx hb hr hlocks hw rfl dX1_netOf_11 hQ
abbrev rmX1_owedInAll : Room := { frames := 1, cells := 0, slots := 0, locals := 23 }
set_option maxHeartbeats 4000000 in
set_option maxRecDepth 100000 in
theorem c_X1_owedInAll (l : Launch) (D : va_G) (k : Nat → ClassId) (xh xrNa xrMo xrWa xrDe : Nat) (sz : Nat) (xPe : Int32) (xDa : Int32) (xDr : Int32) (xNa : (Nat → Int32)) (xMo : (Nat → Int32)) (xWa : (Nat → Int32)) (xDe : (Nat → Int32)) (r_ : Int32) (hf : f_X1_owedInAll xPe xDe = some r_) : mR l yX1_owedInAll wsX1_owedInAll rmX1_owedInAll D k sz [.ref xh] (wX1 k xh xrNa xrMo xrWa xrDe xPe xDa xDr xNa xMo xWa xDe) (wX1 k xh xrNa xrMo xrWa xrDe xPe xDa xDr xNa xMo xWa xDe) (some (.int r_)) := by
  refine mR_of (cc := cX1_owedInAll) (maxL := 3) (ret := some .int) (by decide) rfl (Nat.le_of_ble_eq_true rfl) [(0, .ref xh)] rfl ?_
  intro p e s m below meth c A ls args Q cx hK hA hw hl hQ
  have fx := cx.1
  obtain ⟨⟨hx, hb, hml, hown, hts⟩, hr, hlocks⟩ := cx
  have hinX1 : ∀ w ∈ wsX10, w ∈ wsX1_owedInAll := fun w h => List.mem_cons_of_mem _ (List.mem_append_right _ h)
  have q_1 := hts (.fieldLink RX1 24 "DebtRides$Land" "people" "I") (List.mem_of_getElem? (i := 1) rfl)
  have h := hf
  unfold f_X1_owedInAll at h
  clear hf
  refine lv_iconst (v := 0) hx hb dX1_owedInAll_0 (by decide) ?_
  refine lv_istore_n (lv' := [(1, .int 0), (0, .ref xh)]) hx hb dX1_owedInAll_1 rfl hl (by decide) rfl (fun ls hl => ?_)
  refine lv_iconst (v := 0) hx hb dX1_owedInAll_2 (by decide) ?_
  refine lv_istore_n (lv' := [(2, .int 0), (1, .int 0), (0, .ref xh)]) hx hb dX1_owedInAll_3 rfl hl (by decide) rfl (fun ls hl => ?_)
  obtain ⟨v1_3, hL_4, h⟩ := b1_inv h
  have X_4 : ∀ (H : Heap) (locs : List Loc) (ls : Array Slot), Wd D A s.heap H locs (wX1 k xh xrNa xrMo xrWa xrDe xPe xDa xDr xNa xMo xWa xDe) → lv_has ls 3 [(1, .int v1_3)] → W p l e rmX1_owedInAll s m args below meth c H locs 0 0 Q (F0 m 26 ls []) := by
    intro H locs ls hw hl
    refine lv_iload_n hx hb dX1_owedInAll_26 rfl (lv_at hl 0 rfl) ?_
    cases h
    exact k_iret hx hb hr hlocks hw rfl dX1_owedInAll_27 hQ
  clear h
  have LP_4 : ∀ (n : Nat) (v1_1 : Int32) (v2_2 : Int32), f_X1_owedInAll_L4 xPe xDe n v1_1 v2_2 = some v1_3 → ∀ (H : Heap) (locs : List Loc) (ls : Array Slot), Wd D A s.heap H locs (wX1 k xh xrNa xrMo xrWa xrDe xPe xDa xDr xNa xMo xWa xDe) → lv_has ls 3 [(0, .ref xh), (1, .int v1_1), (2, .int v2_2)] → W p l e rmX1_owedInAll s m args below meth c H locs 0 0 Q (F0 m 4 ls []) := by
    clear hL_4 hw hl
    intro n
    induction n with
    | zero => intro v1_1 v2_2 h; rw [f_X1_owedInAll_L4] at h; cases h
    | succ n ih =>
      intro v1_1 v2_2 h H locs ls hw hl
      rw [f_X1_owedInAll_L4] at h
      refine lv_iload_n hx hb dX1_owedInAll_4 rfl (lv_at hl 2 rfl) ?_
      refine lv_aload_n hx hb dX1_owedInAll_5 rfl (lv_at hl 0 rfl) ?_
      refine va_get (ci := 1) (v := .int xPe) (C := RX1) (T := TX1) (N := 7) hx hb hts hinX1 hown hK.1 hw.1 0 rfl rfl 0 (by decide) q_1 (fun _ h9 => h9) rfl dX1_owedInAll_6 ?_
      refine kb_icmp_ge (tgt := 26) hx hb dX1_owedInAll_9 (by decide) h (fun c_9 h => ?_) (fun c_9 h => ?_)
      · cases h
        exact X_4 _ _ _ hw (lv_sub hl [1] rfl)
      · refine lv_iload_n hx hb dX1_owedInAll_12 rfl (lv_at hl 1 rfl) ?_
        refine lv_aload_n hx hb dX1_owedInAll_13 rfl (lv_at hl 0 rfl) ?_
        refine lv_iload_n hx hb dX1_owedInAll_14 rfl (lv_at hl 2 rfl) ?_
        obtain ⟨r_4, hf, h⟩ := b1_inv h
        refine k_callV (host := "") fx hK hA hw (c_X1_owedBy l D k xh xrNa xrMo xrWa xrDe _ xPe xDa xDr xNa xMo xWa xDe v2_2 r_4 hf) (cwV 1 hts gX1_owedInAll_X1_owedBy rfl rfl rfl (by decide +kernel) ⟨by decide, by decide⟩) (As := [.int v2_2]) (wr := []) (ws' := wX1 k xh xrNa xrMo xrWa xrDe xPe xDa xDr xNa xMo xWa xDe) [0, 1, 2, 3, 4] [] [0, 1, 2, 3, 4] rfl rfl (by decide) (by decide) (by decide) rfl (by decide) 1 rfl rfl [.int v1_1] rfl hl.1 rfl (Nat.le_of_ble_eq_true rfl) dX1_owedInAll_15 ⟨by decide, by decide⟩ (fun H locs (hw : Wd D A s.heap H locs (wX1 k xh xrNa xrMo xrWa xrDe xPe xDa xDr xNa xMo xWa xDe)) => ?_)
        refine W.eq (g2 := F0 m 18 ls ([.int r_4, .int v1_1])) rfl ?_
        refine lv_iadd hx hb dX1_owedInAll_18 ?_
        refine lv_istore_n (lv' := [(1, .int (v1_1 + r_4)), (0, .ref xh), (2, .int v2_2)]) hx hb dX1_owedInAll_19 rfl hl (by decide) rfl (fun ls hl => ?_)
        refine lv_iinc (v := v2_2 + 1) (lv' := [(2, .int (v2_2 + 1)), (1, .int (v1_1 + r_4)), (0, .ref xh)]) hx hb dX1_owedInAll_20 hl (k := 2) rfl rfl (by decide) rfl (fun ls hl => ?_)
        refine lv_goto (tgt := 4) hx hb dX1_owedInAll_23 (by decide) ?_
        exact ih _ _ h _ _ _ hw (lv_sub hl [2, 1, 0] rfl)
  exact LP_4 400 0 0 hL_4 _ _ _ hw (lv_sub hl [2, 1, 0] rfl)
abbrev rmX1_debtsInAll : Room := { frames := 0, cells := 0, slots := 0, locals := 0 }
set_option maxHeartbeats 4000000 in
set_option maxRecDepth 100000 in
theorem c_X1_debtsInAll (l : Launch) (D : va_G) (k : Nat → ClassId) (xh xrNa xrMo xrWa xrDe : Nat) (sz : Nat) (xPe : Int32) (xDa : Int32) (xDr : Int32) (xNa : (Nat → Int32)) (xMo : (Nat → Int32)) (xWa : (Nat → Int32)) (xDe : (Nat → Int32)) (r_ : Int32) (hf : f_X1_debtsInAll xDe = some r_) : mR l yX1_debtsInAll wsX1_debtsInAll rmX1_debtsInAll D k sz [.ref xh] (wX1 k xh xrNa xrMo xrWa xrDe xPe xDa xDr xNa xMo xWa xDe) (wX1 k xh xrNa xrMo xrWa xrDe xPe xDa xDr xNa xMo xWa xDe) (some (.int r_)) := by
  refine mR_of (cc := cX1_debtsInAll) (maxL := 3) (ret := some .int) (by decide) rfl (Nat.le_of_ble_eq_true rfl) [(0, .ref xh)] rfl ?_
  intro p e s m below meth c A ls args Q cx hK hA hw hl hQ
  have fx := cx.1
  obtain ⟨⟨hx, hb, hml, hown, hts⟩, hr, hlocks⟩ := cx
  have hinX1 : ∀ w ∈ wsX10, w ∈ wsX1_debtsInAll := fun w h => List.mem_cons_of_mem _ (List.mem_append_right _ h)
  have q_1 := hts (.fieldLink RX1 21 "DebtRides$Land" "debts" "[I") (List.mem_of_getElem? (i := 1) rfl)
  have h := hf
  unfold f_X1_debtsInAll at h
  clear hf
  refine lv_iconst (v := 0) hx hb dX1_debtsInAll_0 (by decide) ?_
  refine lv_istore_n (lv' := [(1, .int 0), (0, .ref xh)]) hx hb dX1_debtsInAll_1 rfl hl (by decide) rfl (fun ls hl => ?_)
  refine lv_iconst (v := 0) hx hb dX1_debtsInAll_2 (by decide) ?_
  refine lv_istore_n (lv' := [(2, .int 0), (1, .int 0), (0, .ref xh)]) hx hb dX1_debtsInAll_3 rfl hl (by decide) rfl (fun ls hl => ?_)
  obtain ⟨v1_3, hL_4, h⟩ := b1_inv h
  have X_4 : ∀ (H : Heap) (locs : List Loc) (ls : Array Slot), Wd D A s.heap H locs (wX1 k xh xrNa xrMo xrWa xrDe xPe xDa xDr xNa xMo xWa xDe) → lv_has ls 3 [(1, .int v1_3)] → W p l e rmX1_debtsInAll s m args below meth c H locs 0 0 Q (F0 m 31 ls []) := by
    intro H locs ls hw hl
    refine lv_iload_n hx hb dX1_debtsInAll_31 rfl (lv_at hl 0 rfl) ?_
    cases h
    exact k_iret hx hb hr hlocks hw rfl dX1_debtsInAll_32 hQ
  clear h
  have LP_4 : ∀ (n : Nat) (v1_1 : Int32) (v2_2 : Int32), f_X1_debtsInAll_L4 xDe n v1_1 v2_2 = some v1_3 → ∀ (H : Heap) (locs : List Loc) (ls : Array Slot), Wd D A s.heap H locs (wX1 k xh xrNa xrMo xrWa xrDe xPe xDa xDr xNa xMo xWa xDe) → lv_has ls 3 [(0, .ref xh), (1, .int v1_1), (2, .int v2_2)] → W p l e rmX1_debtsInAll s m args below meth c H locs 0 0 Q (F0 m 4 ls []) := by
    clear hL_4 hw hl
    intro n
    induction n with
    | zero => intro v1_1 v2_2 h; rw [f_X1_debtsInAll_L4] at h; cases h
    | succ n ih =>
      intro v1_1 v2_2 h H locs ls hw hl
      rw [f_X1_debtsInAll_L4] at h
      refine lv_iload_n hx hb dX1_debtsInAll_4 rfl (lv_at hl 2 rfl) ?_
      refine lv_aload_n hx hb dX1_debtsInAll_5 rfl (lv_at hl 0 rfl) ?_
      refine va_get (ci := 1) (v := .ref xrDe) (C := RX1) (T := TX1) (N := 7) hx hb hts hinX1 hown hK.1 hw.1 0 rfl rfl 6 (by decide) q_1 (fun _ h9 => h9) rfl dX1_debtsInAll_6 ?_
      refine va_alen (v := 25) hx hb hK.1 hw.1 4 0 rfl rfl rfl dX1_debtsInAll_9 ?_
      refine kb_icmp_ge (tgt := 31) hx hb dX1_debtsInAll_10 (by decide) h (fun c_10 h => ?_) (fun c_10 h => ?_)
      · cases h
        exact X_4 _ _ _ hw (lv_sub hl [1] rfl)
      · refine lv_aload_n hx hb dX1_debtsInAll_13 rfl (lv_at hl 0 rfl) ?_
        refine va_get (ci := 1) (v := .ref xrDe) (C := RX1) (T := TX1) (N := 7) hx hb hts hinX1 hown hK.1 hw.1 0 rfl rfl 6 (by decide) q_1 (fun _ h9 => h9) rfl dX1_debtsInAll_14 ?_
        refine lv_iload_n hx hb dX1_debtsInAll_17 rfl (lv_at hl 2 rfl) ?_
        refine k_iald hx hb hK hw 4 rfl dX1_debtsInAll_18 h (fun a_4 h => ?_)
        refine kb_if_le (tgt := 25) hx hb dX1_debtsInAll_19 (by decide) h (fun c_19 h => ?_) (fun c_19 h => ?_)
        · refine lv_iinc (v := v2_2 + 1) (lv' := [(2, .int (v2_2 + 1)), (0, .ref xh), (1, .int v1_1)]) hx hb dX1_debtsInAll_25 hl (k := 2) rfl rfl (by decide) rfl (fun ls hl => ?_)
          refine lv_goto (tgt := 4) hx hb dX1_debtsInAll_28 (by decide) ?_
          exact ih _ _ h _ _ _ hw (lv_sub hl [1, 2, 0] rfl)
        · refine lv_iinc (v := v1_1 + 1) (lv' := [(1, .int (v1_1 + 1)), (0, .ref xh), (2, .int v2_2)]) hx hb dX1_debtsInAll_22 hl (k := 1) rfl rfl (by decide) rfl (fun ls hl => ?_)
          refine lv_iinc (v := v2_2 + 1) (lv' := [(2, .int (v2_2 + 1)), (1, .int (v1_1 + 1)), (0, .ref xh)]) hx hb dX1_debtsInAll_25 hl (k := 2) rfl rfl (by decide) rfl (fun ls hl => ?_)
          refine lv_goto (tgt := 4) hx hb dX1_debtsInAll_28 (by decide) ?_
          exact ih _ _ h _ _ _ hw (lv_sub hl [2, 1, 0] rfl)
  exact LP_4 400 0 0 hL_4 _ _ _ hw (lv_sub hl [2, 1, 0] rfl)
abbrev rmX1_moneyInAll : Room := { frames := 0, cells := 0, slots := 0, locals := 0 }
set_option maxHeartbeats 4000000 in
set_option maxRecDepth 100000 in
theorem c_X1_moneyInAll (l : Launch) (D : va_G) (k : Nat → ClassId) (xh xrNa xrMo xrWa xrDe : Nat) (sz : Nat) (xPe : Int32) (xDa : Int32) (xDr : Int32) (xNa : (Nat → Int32)) (xMo : (Nat → Int32)) (xWa : (Nat → Int32)) (xDe : (Nat → Int32)) (r_ : Int32) (hf : f_X1_moneyInAll xPe xMo = some r_) : mR l yX1_moneyInAll wsX1_moneyInAll rmX1_moneyInAll D k sz [.ref xh] (wX1 k xh xrNa xrMo xrWa xrDe xPe xDa xDr xNa xMo xWa xDe) (wX1 k xh xrNa xrMo xrWa xrDe xPe xDa xDr xNa xMo xWa xDe) (some (.int r_)) := by
  refine mR_of (cc := cX1_moneyInAll) (maxL := 3) (ret := some .int) (by decide) rfl (Nat.le_of_ble_eq_true rfl) [(0, .ref xh)] rfl ?_
  intro p e s m below meth c A ls args Q cx hK hA hw hl hQ
  have fx := cx.1
  obtain ⟨⟨hx, hb, hml, hown, hts⟩, hr, hlocks⟩ := cx
  have hinX1 : ∀ w ∈ wsX10, w ∈ wsX1_moneyInAll := fun w h => List.mem_cons_of_mem _ (List.mem_append_right _ h)
  have q_1 := hts (.fieldLink RX1 24 "DebtRides$Land" "people" "I") (List.mem_of_getElem? (i := 1) rfl)
  have q_2 := hts (.fieldLink RX1 15 "DebtRides$Land" "money" "[I") (List.mem_of_getElem? (i := 2) rfl)
  have h := hf
  unfold f_X1_moneyInAll at h
  clear hf
  refine lv_iconst (v := 0) hx hb dX1_moneyInAll_0 (by decide) ?_
  refine lv_istore_n (lv' := [(1, .int 0), (0, .ref xh)]) hx hb dX1_moneyInAll_1 rfl hl (by decide) rfl (fun ls hl => ?_)
  refine lv_iconst (v := 0) hx hb dX1_moneyInAll_2 (by decide) ?_
  refine lv_istore_n (lv' := [(2, .int 0), (1, .int 0), (0, .ref xh)]) hx hb dX1_moneyInAll_3 rfl hl (by decide) rfl (fun ls hl => ?_)
  obtain ⟨v1_3, hL_4, h⟩ := b1_inv h
  have X_4 : ∀ (H : Heap) (locs : List Loc) (ls : Array Slot), Wd D A s.heap H locs (wX1 k xh xrNa xrMo xrWa xrDe xPe xDa xDr xNa xMo xWa xDe) → lv_has ls 3 [(1, .int v1_3)] → W p l e rmX1_moneyInAll s m args below meth c H locs 0 0 Q (F0 m 27 ls []) := by
    intro H locs ls hw hl
    refine lv_iload_n hx hb dX1_moneyInAll_27 rfl (lv_at hl 0 rfl) ?_
    cases h
    exact k_iret hx hb hr hlocks hw rfl dX1_moneyInAll_28 hQ
  clear h
  have LP_4 : ∀ (n : Nat) (v1_1 : Int32) (v2_2 : Int32), f_X1_moneyInAll_L4 xPe xMo n v1_1 v2_2 = some v1_3 → ∀ (H : Heap) (locs : List Loc) (ls : Array Slot), Wd D A s.heap H locs (wX1 k xh xrNa xrMo xrWa xrDe xPe xDa xDr xNa xMo xWa xDe) → lv_has ls 3 [(0, .ref xh), (1, .int v1_1), (2, .int v2_2)] → W p l e rmX1_moneyInAll s m args below meth c H locs 0 0 Q (F0 m 4 ls []) := by
    clear hL_4 hw hl
    intro n
    induction n with
    | zero => intro v1_1 v2_2 h; rw [f_X1_moneyInAll_L4] at h; cases h
    | succ n ih =>
      intro v1_1 v2_2 h H locs ls hw hl
      rw [f_X1_moneyInAll_L4] at h
      refine lv_iload_n hx hb dX1_moneyInAll_4 rfl (lv_at hl 2 rfl) ?_
      refine lv_aload_n hx hb dX1_moneyInAll_5 rfl (lv_at hl 0 rfl) ?_
      refine va_get (ci := 1) (v := .int xPe) (C := RX1) (T := TX1) (N := 7) hx hb hts hinX1 hown hK.1 hw.1 0 rfl rfl 0 (by decide) q_1 (fun _ h9 => h9) rfl dX1_moneyInAll_6 ?_
      refine kb_icmp_ge (tgt := 27) hx hb dX1_moneyInAll_9 (by decide) h (fun c_9 h => ?_) (fun c_9 h => ?_)
      · cases h
        exact X_4 _ _ _ hw (lv_sub hl [1] rfl)
      · refine lv_iload_n hx hb dX1_moneyInAll_12 rfl (lv_at hl 1 rfl) ?_
        refine lv_aload_n hx hb dX1_moneyInAll_13 rfl (lv_at hl 0 rfl) ?_
        refine va_get (ci := 1) (v := .ref xrMo) (C := RX1) (T := TX1) (N := 7) hx hb hts hinX1 hown hK.1 hw.1 0 rfl rfl 4 (by decide) q_2 (fun _ h9 => h9) rfl dX1_moneyInAll_14 ?_
        refine lv_iload_n hx hb dX1_moneyInAll_17 rfl (lv_at hl 2 rfl) ?_
        refine k_iald hx hb hK hw 2 rfl dX1_moneyInAll_18 h (fun a_4 h => ?_)
        refine lv_iadd hx hb dX1_moneyInAll_19 ?_
        refine lv_istore_n (lv' := [(1, .int (v1_1 + a_4)), (0, .ref xh), (2, .int v2_2)]) hx hb dX1_moneyInAll_20 rfl hl (by decide) rfl (fun ls hl => ?_)
        refine lv_iinc (v := v2_2 + 1) (lv' := [(2, .int (v2_2 + 1)), (1, .int (v1_1 + a_4)), (0, .ref xh)]) hx hb dX1_moneyInAll_21 hl (k := 2) rfl rfl (by decide) rfl (fun ls hl => ?_)
        refine lv_goto (tgt := 4) hx hb dX1_moneyInAll_24 (by decide) ?_
        exact ih _ _ h _ _ _ hw (lv_sub hl [2, 1, 0] rfl)
  exact LP_4 400 0 0 hL_4 _ _ _ hw (lv_sub hl [2, 1, 0] rfl)
abbrev rmX1_isRiding : Room := { frames := 1, cells := 0, slots := 0, locals := 23 }
set_option maxHeartbeats 4000000 in
set_option maxRecDepth 100000 in
theorem c_X1_isRiding (l : Launch) (D : va_G) (k : Nat → ClassId) (xh xrNa xrMo xrWa xrDe : Nat) (sz : Nat) (xPe : Int32) (xDa : Int32) (xDr : Int32) (xNa : (Nat → Int32)) (xMo : (Nat → Int32)) (xWa : (Nat → Int32)) (xDe : (Nat → Int32)) (p1 : Int32) (r_ : Int32) (hf : f_X1_isRiding xPe xDe p1 = some r_) : mR l yX1_isRiding wsX1_isRiding rmX1_isRiding D k sz [.ref xh, .int p1] (wX1 k xh xrNa xrMo xrWa xrDe xPe xDa xDr xNa xMo xWa xDe) (wX1 k xh xrNa xrMo xrWa xrDe xPe xDa xDr xNa xMo xWa xDe) (some (.int r_)) := by
  refine mR_of (cc := cX1_isRiding) (maxL := 2) (ret := some .boolean) (by decide) rfl (Nat.le_of_ble_eq_true rfl) [(0, .ref xh), (1, .int p1)] rfl ?_
  intro p e s m below meth c A ls args Q cx hK hA hw hl hQ
  have fx := cx.1
  obtain ⟨⟨hx, hb, hml, hown, hts⟩, hr, hlocks⟩ := cx
  have h := hf
  unfold f_X1_isRiding at h
  clear hf
  refine lv_aload_n hx hb dX1_isRiding_0 rfl (lv_at hl 0 rfl) ?_
  refine lv_iload_n hx hb dX1_isRiding_1 rfl (lv_at hl 1 rfl) ?_
  obtain ⟨r_1, hf, h⟩ := b1_inv h
  refine k_callV (host := "") fx hK hA hw (c_X1_owedBy l D k xh xrNa xrMo xrWa xrDe _ xPe xDa xDr xNa xMo xWa xDe p1 r_1 hf) (cwV 1 hts gX1_isRiding_X1_owedBy rfl rfl rfl (by decide +kernel) ⟨by decide, by decide⟩) (As := [.int p1]) (wr := []) (ws' := wX1 k xh xrNa xrMo xrWa xrDe xPe xDa xDr xNa xMo xWa xDe) [0, 1, 2, 3, 4] [] [0, 1, 2, 3, 4] rfl rfl (by decide) (by decide) (by decide) rfl (by decide) 1 rfl rfl [] rfl hl.1 rfl (Nat.le_of_ble_eq_true rfl) dX1_isRiding_2 ⟨by decide, by decide⟩ (fun H locs (hw : Wd D A s.heap H locs (wX1 k xh xrNa xrMo xrWa xrDe xPe xDa xDr xNa xMo xWa xDe)) => ?_)
  refine W.eq (g2 := F0 m 5 ls ([.int r_1])) rfl ?_
  refine kb_if_ne (tgt := 12) hx hb dX1_isRiding_5 (by decide) h (fun c_5 h => ?_) (fun c_5 h => ?_)
  · refine lv_iconst (v := 1) hx hb dX1_isRiding_8 (by decide) ?_
    refine lv_goto (tgt := 13) hx hb dX1_isRiding_9 (by decide) ?_
    cases h
    exact k_zret hx hb hr hlocks hw (by decide) rfl dX1_isRiding_13 hQ
  · refine lv_iconst (v := 0) hx hb dX1_isRiding_12 (by decide) ?_
    cases h
    exact k_zret hx hb hr hlocks hw (by decide) rfl dX1_isRiding_13 hQ
abbrev rmX1_riders : Room := { frames := 2, cells := 0, slots := 0, locals := 44 }
set_option maxHeartbeats 4000000 in
set_option maxRecDepth 100000 in
theorem c_X1_riders (l : Launch) (D : va_G) (k : Nat → ClassId) (xh xrNa xrMo xrWa xrDe : Nat) (sz : Nat) (xPe : Int32) (xDa : Int32) (xDr : Int32) (xNa : (Nat → Int32)) (xMo : (Nat → Int32)) (xWa : (Nat → Int32)) (xDe : (Nat → Int32)) (r_ : Int32) (hf : f_X1_riders xPe xDe = some r_) : mR l yX1_riders wsX1_riders rmX1_riders D k sz [.ref xh] (wX1 k xh xrNa xrMo xrWa xrDe xPe xDa xDr xNa xMo xWa xDe) (wX1 k xh xrNa xrMo xrWa xrDe xPe xDa xDr xNa xMo xWa xDe) (some (.int r_)) := by
  refine mR_of (cc := cX1_riders) (maxL := 3) (ret := some .int) (by decide) rfl (Nat.le_of_ble_eq_true rfl) [(0, .ref xh)] rfl ?_
  intro p e s m below meth c A ls args Q cx hK hA hw hl hQ
  have fx := cx.1
  obtain ⟨⟨hx, hb, hml, hown, hts⟩, hr, hlocks⟩ := cx
  have hinX1 : ∀ w ∈ wsX10, w ∈ wsX1_riders := fun w h => List.mem_cons_of_mem _ (List.mem_append_right _ h)
  have q_1 := hts (.fieldLink RX1 24 "DebtRides$Land" "people" "I") (List.mem_of_getElem? (i := 1) rfl)
  have h := hf
  unfold f_X1_riders at h
  clear hf
  refine lv_iconst (v := 0) hx hb dX1_riders_0 (by decide) ?_
  refine lv_istore_n (lv' := [(1, .int 0), (0, .ref xh)]) hx hb dX1_riders_1 rfl hl (by decide) rfl (fun ls hl => ?_)
  refine lv_iconst (v := 0) hx hb dX1_riders_2 (by decide) ?_
  refine lv_istore_n (lv' := [(2, .int 0), (1, .int 0), (0, .ref xh)]) hx hb dX1_riders_3 rfl hl (by decide) rfl (fun ls hl => ?_)
  obtain ⟨v1_3, hL_4, h⟩ := b1_inv h
  have X_4 : ∀ (H : Heap) (locs : List Loc) (ls : Array Slot), Wd D A s.heap H locs (wX1 k xh xrNa xrMo xrWa xrDe xPe xDa xDr xNa xMo xWa xDe) → lv_has ls 3 [(1, .int v1_3)] → W p l e rmX1_riders s m args below meth c H locs 0 0 Q (F0 m 32 ls []) := by
    intro H locs ls hw hl
    refine lv_iload_n hx hb dX1_riders_32 rfl (lv_at hl 0 rfl) ?_
    cases h
    exact k_iret hx hb hr hlocks hw rfl dX1_riders_33 hQ
  clear h
  have LP_4 : ∀ (n : Nat) (v1_1 : Int32) (v2_2 : Int32), f_X1_riders_L4 xPe xDe n v1_1 v2_2 = some v1_3 → ∀ (H : Heap) (locs : List Loc) (ls : Array Slot), Wd D A s.heap H locs (wX1 k xh xrNa xrMo xrWa xrDe xPe xDa xDr xNa xMo xWa xDe) → lv_has ls 3 [(0, .ref xh), (1, .int v1_1), (2, .int v2_2)] → W p l e rmX1_riders s m args below meth c H locs 0 0 Q (F0 m 4 ls []) := by
    clear hL_4 hw hl
    intro n
    induction n with
    | zero => intro v1_1 v2_2 h; rw [f_X1_riders_L4] at h; cases h
    | succ n ih =>
      intro v1_1 v2_2 h H locs ls hw hl
      rw [f_X1_riders_L4] at h
      refine lv_iload_n hx hb dX1_riders_4 rfl (lv_at hl 2 rfl) ?_
      refine lv_aload_n hx hb dX1_riders_5 rfl (lv_at hl 0 rfl) ?_
      refine va_get (ci := 1) (v := .int xPe) (C := RX1) (T := TX1) (N := 7) hx hb hts hinX1 hown hK.1 hw.1 0 rfl rfl 0 (by decide) q_1 (fun _ h9 => h9) rfl dX1_riders_6 ?_
      refine kb_icmp_ge (tgt := 32) hx hb dX1_riders_9 (by decide) h (fun c_9 h => ?_) (fun c_9 h => ?_)
      · cases h
        exact X_4 _ _ _ hw (lv_sub hl [1] rfl)
      · refine lv_aload_n hx hb dX1_riders_12 rfl (lv_at hl 0 rfl) ?_
        refine lv_iload_n hx hb dX1_riders_13 rfl (lv_at hl 2 rfl) ?_
        obtain ⟨r_4, hf, h⟩ := b1_inv h
        refine k_callV (host := "") fx hK hA hw (c_X1_isRiding l D k xh xrNa xrMo xrWa xrDe _ xPe xDa xDr xNa xMo xWa xDe v2_2 r_4 hf) (cwV 1 hts gX1_riders_X1_isRiding rfl rfl rfl (by decide +kernel) ⟨by decide, by decide⟩) (As := [.int v2_2]) (wr := []) (ws' := wX1 k xh xrNa xrMo xrWa xrDe xPe xDa xDr xNa xMo xWa xDe) [0, 1, 2, 3, 4] [] [0, 1, 2, 3, 4] rfl rfl (by decide) (by decide) (by decide) rfl (by decide) 1 rfl rfl [] rfl hl.1 rfl (Nat.le_of_ble_eq_true rfl) dX1_riders_14 ⟨by decide, by decide⟩ (fun H locs (hw : Wd D A s.heap H locs (wX1 k xh xrNa xrMo xrWa xrDe xPe xDa xDr xNa xMo xWa xDe)) => ?_)
        refine W.eq (g2 := F0 m 17 ls ([.int r_4])) rfl ?_
        refine kb_if_eq (tgt := 26) hx hb dX1_riders_17 (by decide) h (fun c_17 h => ?_) (fun c_17 h => ?_)
        · refine lv_iinc (v := v2_2 + 1) (lv' := [(2, .int (v2_2 + 1)), (0, .ref xh), (1, .int v1_1)]) hx hb dX1_riders_26 hl (k := 2) rfl rfl (by decide) rfl (fun ls hl => ?_)
          refine lv_goto (tgt := 4) hx hb dX1_riders_29 (by decide) ?_
          exact ih _ _ h _ _ _ hw (lv_sub hl [1, 2, 0] rfl)
        · refine lv_iload_n hx hb dX1_riders_20 rfl (lv_at hl 1 rfl) ?_
          refine lv_iconst (v := 1) hx hb dX1_riders_21 (by decide) ?_
          refine lv_iload_n hx hb dX1_riders_22 rfl (lv_at hl 2 rfl) ?_
          refine lv_ishl hx hb dX1_riders_23 ?_
          refine lv_ior hx hb dX1_riders_24 ?_
          refine lv_istore_n (lv' := [(1, .int (v1_1 ||| ((1 : Int32) <<< (v2_2 &&& 31)))), (0, .ref xh), (2, .int v2_2)]) hx hb dX1_riders_25 rfl hl (by decide) rfl (fun ls hl => ?_)
          refine lv_iinc (v := v2_2 + 1) (lv' := [(2, .int (v2_2 + 1)), (1, .int (v1_1 ||| ((1 : Int32) <<< (v2_2 &&& 31)))), (0, .ref xh)]) hx hb dX1_riders_26 hl (k := 2) rfl rfl (by decide) rfl (fun ls hl => ?_)
          refine lv_goto (tgt := 4) hx hb dX1_riders_29 (by decide) ?_
          exact ih _ _ h _ _ _ hw (lv_sub hl [2, 1, 0] rfl)
  exact LP_4 400 0 0 hL_4 _ _ _ hw (lv_sub hl [2, 1, 0] rfl)
abbrev rmX1_heightOf : Room := { frames := 2, cells := 0, slots := 0, locals := 44 }
set_option maxHeartbeats 4000000 in
set_option maxRecDepth 100000 in
theorem c_X1_heightOf (l : Launch) (D : va_G) (k : Nat → ClassId) (xh xrNa xrMo xrWa xrDe : Nat) (sz : Nat) (xPe : Int32) (xDa : Int32) (xDr : Int32) (xNa : (Nat → Int32)) (xMo : (Nat → Int32)) (xWa : (Nat → Int32)) (xDe : (Nat → Int32)) (p1 : Int32) (r_ : Int32) (hf : f_X1_heightOf xPe xNa xDe p1 = some r_) : mR l yX1_heightOf wsX1_heightOf rmX1_heightOf D k sz [.ref xh, .int p1] (wX1 k xh xrNa xrMo xrWa xrDe xPe xDa xDr xNa xMo xWa xDe) (wX1 k xh xrNa xrMo xrWa xrDe xPe xDa xDr xNa xMo xWa xDe) (some (.int r_)) := by
  refine mR_of (cc := cX1_heightOf) (maxL := 4) (ret := some .int) (by decide) rfl (Nat.le_of_ble_eq_true rfl) [(0, .ref xh), (1, .int p1)] rfl ?_
  intro p e s m below meth c A ls args Q cx hK hA hw hl hQ
  have fx := cx.1
  obtain ⟨⟨hx, hb, hml, hown, hts⟩, hr, hlocks⟩ := cx
  have hinX1 : ∀ w ∈ wsX10, w ∈ wsX1_heightOf := fun w h => List.mem_cons_of_mem _ (List.mem_append_right _ h)
  have q_1 := hts (.fieldLink RX1 9 "DebtRides$Land" "nature" "[I") (List.mem_of_getElem? (i := 1) rfl)
  have q_2 := hts (.methodLink RX1 60 Lib.Math.max.name) (List.mem_of_getElem? (i := 2) rfl)
  have q_3 := hts (.static Lib.Math.max.name) (List.mem_of_getElem? (i := 3) rfl)
  have q_4 := hts (.initialized "java/lang/Math") (List.mem_of_getElem? (i := 4) rfl)
  have q_5 := hts (.code Lib.Math.max.name Lib.Math.max.code 2 (some .int)) (List.mem_of_getElem? (i := 5) rfl)
  have h := hf
  unfold f_X1_heightOf at h
  clear hf
  refine lv_aload_n hx hb dX1_heightOf_0 rfl (lv_at hl 0 rfl) ?_
  refine lv_iload_n hx hb dX1_heightOf_1 rfl (lv_at hl 1 rfl) ?_
  obtain ⟨r_1, hf, h⟩ := b1_inv h
  refine k_callV (host := "") fx hK hA hw (c_X1_isRiding l D k xh xrNa xrMo xrWa xrDe _ xPe xDa xDr xNa xMo xWa xDe p1 r_1 hf) (cwV 1 hts gX1_heightOf_X1_isRiding rfl rfl rfl (by decide +kernel) ⟨by decide, by decide⟩) (As := [.int p1]) (wr := []) (ws' := wX1 k xh xrNa xrMo xrWa xrDe xPe xDa xDr xNa xMo xWa xDe) [0, 1, 2, 3, 4] [] [0, 1, 2, 3, 4] rfl rfl (by decide) (by decide) (by decide) rfl (by decide) 1 rfl rfl [] rfl hl.1 rfl (Nat.le_of_ble_eq_true rfl) dX1_heightOf_2 ⟨by decide, by decide⟩ (fun H locs (hw : Wd D A s.heap H locs (wX1 k xh xrNa xrMo xrWa xrDe xPe xDa xDr xNa xMo xWa xDe)) => ?_)
  refine W.eq (g2 := F0 m 5 ls ([.int r_1])) rfl ?_
  refine kb_if_ne (tgt := 10) hx hb dX1_heightOf_5 (by decide) h (fun c_5 h => ?_) (fun c_5 h => ?_)
  · refine lv_iconst (v := 0) hx hb dX1_heightOf_8 (by decide) ?_
    cases h
    exact k_iret hx hb hr hlocks hw rfl dX1_heightOf_9 hQ
  · refine lv_aload_n hx hb dX1_heightOf_10 rfl (lv_at hl 0 rfl) ?_
    refine lv_iload_n hx hb dX1_heightOf_11 rfl (lv_at hl 1 rfl) ?_
    obtain ⟨r_2, hf, h⟩ := b1_inv h
    refine k_callV (host := "") fx hK hA hw (c_X1_owedTo l D k xh xrNa xrMo xrWa xrDe _ xPe xDa xDr xNa xMo xWa xDe p1 r_2 hf) (cwV 1 hts gX1_heightOf_X1_owedTo rfl rfl rfl (by decide +kernel) ⟨by decide, by decide⟩) (As := [.int p1]) (wr := []) (ws' := wX1 k xh xrNa xrMo xrWa xrDe xPe xDa xDr xNa xMo xWa xDe) [0, 1, 2, 3, 4] [] [0, 1, 2, 3, 4] rfl rfl (by decide) (by decide) (by decide) rfl (by decide) 1 rfl rfl [] rfl hl.1 rfl (Nat.le_of_ble_eq_true rfl) dX1_heightOf_12 ⟨by decide, by decide⟩ (fun H locs (hw : Wd D A s.heap H locs (wX1 k xh xrNa xrMo xrWa xrDe xPe xDa xDr xNa xMo xWa xDe)) => ?_)
    refine W.eq (g2 := F0 m 15 ls ([.int r_2])) rfl ?_
    refine lv_istore_n (lv' := [(2, .int r_2), (0, .ref xh), (1, .int p1)]) hx hb dX1_heightOf_15 rfl hl (by decide) rfl (fun ls hl => ?_)
    refine lv_iload_n hx hb dX1_heightOf_16 rfl (lv_at hl 0 rfl) ?_
    refine lv_iconst (v := 1) hx hb dX1_heightOf_17 (by decide) ?_
    refine lv_iadd hx hb dX1_heightOf_18 ?_
    refine lv_iconst (v := 2) hx hb dX1_heightOf_19 (by decide) ?_
    refine lv_idiv hx hb dX1_heightOf_20 (by decide) ?_
    refine lv_istore_n (lv' := [(3, .int ((r_2 + 1) / 2)), (2, .int r_2), (0, .ref xh), (1, .int p1)]) hx hb dX1_heightOf_21 rfl hl (by decide) rfl (fun ls hl => ?_)
    refine lv_aload_n hx hb dX1_heightOf_22 rfl (lv_at hl 2 rfl) ?_
    refine va_get (ci := 1) (v := .ref xrNa) (C := RX1) (T := TX1) (N := 7) hx hb hts hinX1 hown hK.1 hw.1 0 rfl rfl 3 (by decide) q_1 (fun _ h9 => h9) rfl dX1_heightOf_23 ?_
    refine lv_iload_n hx hb dX1_heightOf_26 rfl (lv_at hl 3 rfl) ?_
    refine k_iald hx hb hK hw 1 rfl dX1_heightOf_27 h (fun a_3 h => ?_)
    by_cases c28_0 : a_3 = 0
    · rw [if_pos c28_0] at h
      refine lv_tableIn (off := 28) (tgt := 56) hx hb dX1_heightOf_28 (by rw [c28_0]; decide) (by rw [c28_0]; decide) (by rw [c28_0]; rfl) (by decide) ?_
      refine lv_iload_n hx hb dX1_heightOf_56 rfl (lv_at hl 1 rfl) ?_
      cases h
      exact k_iret hx hb hr hlocks hw rfl dX1_heightOf_57 hQ
    · rw [if_neg c28_0] at h
      by_cases c28_1 : a_3 = 1
      · rw [if_pos c28_1] at h
        refine lv_tableIn (off := 30) (tgt := 58) hx hb dX1_heightOf_28 (by rw [c28_1]; decide) (by rw [c28_1]; decide) (by rw [c28_1]; rfl) (by decide) ?_
        refine lv_iload_n hx hb dX1_heightOf_58 rfl (lv_at hl 0 rfl) ?_
        cases h
        exact k_iret hx hb hr hlocks hw rfl dX1_heightOf_59 hQ
      · rw [if_neg c28_1] at h
        by_cases c28_2 : a_3 = 2
        · rw [if_pos c28_2] at h
          refine lv_tableIn (off := 32) (tgt := 60) hx hb dX1_heightOf_28 (by rw [c28_2]; decide) (by rw [c28_2]; decide) (by rw [c28_2]; rfl) (by decide) ?_
          refine lv_iconst (v := 2) hx hb dX1_heightOf_60 (by decide) ?_
          refine lv_iload_n hx hb dX1_heightOf_61 rfl (lv_at hl 1 rfl) ?_
          refine lv_imul hx hb dX1_heightOf_62 ?_
          refine lv_iconst (v := 1) hx hb dX1_heightOf_63 (by decide) ?_
          refine lv_iadd hx hb dX1_heightOf_64 ?_
          cases h
          exact k_iret hx hb hr hlocks hw rfl dX1_heightOf_65 hQ
        · rw [if_neg c28_2] at h
          refine lv_tableOut (tgt := 66) hx hb dX1_heightOf_28 (by have q0 : a_3.toInt ≠ 0 := sw_ne c28_0; have q1 : a_3.toInt ≠ 1 := sw_ne c28_1; have q2 : a_3.toInt ≠ 2 := sw_ne c28_2; omega) (by decide) ?_
          refine lv_iconst (v := 0) hx hb dX1_heightOf_66 (by decide) ?_
          refine lv_iload_n hx hb dX1_heightOf_67 rfl (lv_at hl 0 rfl) ?_
          refine lv_iconst (v := 1) hx hb dX1_heightOf_68 (by decide) ?_
          refine lv_isub hx hb dX1_heightOf_69 ?_
          refine k_max fx hl.1 q_2 q_3 q_4 q_5 (by decide) (Nat.le_of_ble_eq_true rfl) ⟨by decide, by decide⟩ dX1_heightOf_70 h (fun z_4 h => ?_)
          cases h
          exact k_iret hx hb hr hlocks hw rfl dX1_heightOf_73 hQ
abbrev rmX1_willOf : Room := { frames := 1, cells := 0, slots := 0, locals := 23 }
set_option maxHeartbeats 4000000 in
set_option maxRecDepth 100000 in
theorem c_X1_willOf (l : Launch) (D : va_G) (k : Nat → ClassId) (xh xrNa xrMo xrWa xrDe : Nat) (sz : Nat) (xPe : Int32) (xDa : Int32) (xDr : Int32) (xNa : (Nat → Int32)) (xMo : (Nat → Int32)) (xWa : (Nat → Int32)) (xDe : (Nat → Int32)) (p1 : Int32) (r_ : Int32) (hf : f_X1_willOf xPe xNa xMo xDe p1 = some r_) : mR l yX1_willOf wsX1_willOf rmX1_willOf D k sz [.ref xh, .int p1] (wX1 k xh xrNa xrMo xrWa xrDe xPe xDa xDr xNa xMo xWa xDe) (wX1 k xh xrNa xrMo xrWa xrDe xPe xDa xDr xNa xMo xWa xDe) (some (.int r_)) := by
  refine mR_of (cc := cX1_willOf) (maxL := 2) (ret := some .int) (by decide) rfl (Nat.le_of_ble_eq_true rfl) [(0, .ref xh), (1, .int p1)] rfl ?_
  intro p e s m below meth c A ls args Q cx hK hA hw hl hQ
  have fx := cx.1
  obtain ⟨⟨hx, hb, hml, hown, hts⟩, hr, hlocks⟩ := cx
  have hinX1 : ∀ w ∈ wsX10, w ∈ wsX1_willOf := fun w h => List.mem_cons_of_mem _ (List.mem_append_right _ h)
  have q_1 := hts (.fieldLink RX1 9 "DebtRides$Land" "nature" "[I") (List.mem_of_getElem? (i := 1) rfl)
  have q_2 := hts (.fieldLink RX1 15 "DebtRides$Land" "money" "[I") (List.mem_of_getElem? (i := 2) rfl)
  have h := hf
  unfold f_X1_willOf at h
  clear hf
  refine lv_aload_n hx hb dX1_willOf_0 rfl (lv_at hl 0 rfl) ?_
  refine va_get (ci := 1) (v := .ref xrNa) (C := RX1) (T := TX1) (N := 7) hx hb hts hinX1 hown hK.1 hw.1 0 rfl rfl 3 (by decide) q_1 (fun _ h9 => h9) rfl dX1_willOf_1 ?_
  refine lv_iload_n hx hb dX1_willOf_4 rfl (lv_at hl 1 rfl) ?_
  refine k_iald hx hb hK hw 1 rfl dX1_willOf_5 h (fun a_1 h => ?_)
  by_cases c6_0 : a_1 = 0
  · rw [if_pos c6_0] at h
    refine lv_tableIn (off := 26) (tgt := 32) hx hb dX1_willOf_6 (by rw [c6_0]; decide) (by rw [c6_0]; decide) (by rw [c6_0]; rfl) (by decide) ?_
    refine lv_aload_n hx hb dX1_willOf_32 rfl (lv_at hl 0 rfl) ?_
    refine va_get (ci := 1) (v := .ref xrMo) (C := RX1) (T := TX1) (N := 7) hx hb hts hinX1 hown hK.1 hw.1 0 rfl rfl 4 (by decide) q_2 (fun _ h9 => h9) rfl dX1_willOf_33 ?_
    refine lv_iload_n hx hb dX1_willOf_36 rfl (lv_at hl 1 rfl) ?_
    refine k_iald hx hb hK hw 2 rfl dX1_willOf_37 h (fun a_2 h => ?_)
    cases h
    exact k_iret hx hb hr hlocks hw rfl dX1_willOf_38 hQ
  · rw [if_neg c6_0] at h
    by_cases c6_1 : a_1 = 1
    · rw [if_pos c6_1] at h
      refine lv_tableIn (off := 33) (tgt := 39) hx hb dX1_willOf_6 (by rw [c6_1]; decide) (by rw [c6_1]; decide) (by rw [c6_1]; rfl) (by decide) ?_
      refine lv_aload_n hx hb dX1_willOf_39 rfl (lv_at hl 0 rfl) ?_
      refine va_get (ci := 1) (v := .ref xrMo) (C := RX1) (T := TX1) (N := 7) hx hb hts hinX1 hown hK.1 hw.1 0 rfl rfl 4 (by decide) q_2 (fun _ h9 => h9) rfl dX1_willOf_40 ?_
      refine lv_iload_n hx hb dX1_willOf_43 rfl (lv_at hl 1 rfl) ?_
      refine k_iald hx hb hK hw 2 rfl dX1_willOf_44 h (fun a_3 h => ?_)
      refine lv_iconst (v := 2) hx hb dX1_willOf_45 (by decide) ?_
      refine lv_idiv hx hb dX1_willOf_46 (by decide) ?_
      cases h
      exact k_iret hx hb hr hlocks hw rfl dX1_willOf_47 hQ
    · rw [if_neg c6_1] at h
      by_cases c6_2 : a_1 = 2
      · rw [if_pos c6_2] at h
        refine lv_tableIn (off := 42) (tgt := 48) hx hb dX1_willOf_6 (by rw [c6_2]; decide) (by rw [c6_2]; decide) (by rw [c6_2]; rfl) (by decide) ?_
        refine lv_aload_n hx hb dX1_willOf_48 rfl (lv_at hl 0 rfl) ?_
        refine va_get (ci := 1) (v := .ref xrMo) (C := RX1) (T := TX1) (N := 7) hx hb hts hinX1 hown hK.1 hw.1 0 rfl rfl 4 (by decide) q_2 (fun _ h9 => h9) rfl dX1_willOf_49 ?_
        refine lv_iload_n hx hb dX1_willOf_52 rfl (lv_at hl 1 rfl) ?_
        refine k_iald hx hb hK hw 2 rfl dX1_willOf_53 h (fun a_4 h => ?_)
        refine lv_iconst (v := 4) hx hb dX1_willOf_54 (by decide) ?_
        refine lv_idiv hx hb dX1_willOf_55 (by decide) ?_
        cases h
        exact k_iret hx hb hr hlocks hw rfl dX1_willOf_56 hQ
      · rw [if_neg c6_2] at h
        refine lv_tableOut (tgt := 57) hx hb dX1_willOf_6 (by have q0 : a_1.toInt ≠ 0 := sw_ne c6_0; have q1 : a_1.toInt ≠ 1 := sw_ne c6_1; have q2 : a_1.toInt ≠ 2 := sw_ne c6_2; omega) (by decide) ?_
        refine lv_aload_n hx hb dX1_willOf_57 rfl (lv_at hl 0 rfl) ?_
        refine lv_iload_n hx hb dX1_willOf_58 rfl (lv_at hl 1 rfl) ?_
        obtain ⟨r_5, hf, h⟩ := b1_inv h
        refine k_callV (host := "") fx hK hA hw (c_X1_owedBy l D k xh xrNa xrMo xrWa xrDe _ xPe xDa xDr xNa xMo xWa xDe p1 r_5 hf) (cwV 1 hts gX1_willOf_X1_owedBy rfl rfl rfl (by decide +kernel) ⟨by decide, by decide⟩) (As := [.int p1]) (wr := []) (ws' := wX1 k xh xrNa xrMo xrWa xrDe xPe xDa xDr xNa xMo xWa xDe) [0, 1, 2, 3, 4] [] [0, 1, 2, 3, 4] rfl rfl (by decide) (by decide) (by decide) rfl (by decide) 1 rfl rfl [] rfl hl.1 rfl (Nat.le_of_ble_eq_true rfl) dX1_willOf_59 ⟨by decide, by decide⟩ (fun H locs (hw : Wd D A s.heap H locs (wX1 k xh xrNa xrMo xrWa xrDe xPe xDa xDr xNa xMo xWa xDe)) => ?_)
        refine W.eq (g2 := F0 m 62 ls ([.int r_5])) rfl ?_
        refine lv_bipush (v := 10) hx hb dX1_willOf_62 (by decide) ?_
        refine kb_icmp_lt (tgt := 78) hx hb dX1_willOf_64 (by decide) h (fun c_64 h => ?_) (fun c_64 h => ?_)
        · refine lv_iconst (v := 0) hx hb dX1_willOf_78 (by decide) ?_
          cases h
          exact k_iret hx hb hr hlocks hw rfl dX1_willOf_79 hQ
        · refine lv_aload_n hx hb dX1_willOf_67 rfl (lv_at hl 0 rfl) ?_
          refine va_get (ci := 1) (v := .ref xrMo) (C := RX1) (T := TX1) (N := 7) hx hb hts hinX1 hown hK.1 hw.1 0 rfl rfl 4 (by decide) q_2 (fun _ h9 => h9) rfl dX1_willOf_68 ?_
          refine lv_iload_n hx hb dX1_willOf_71 rfl (lv_at hl 1 rfl) ?_
          refine k_iald hx hb hK hw 2 rfl dX1_willOf_72 h (fun a_6 h => ?_)
          refine lv_iconst (v := 2) hx hb dX1_willOf_73 (by decide) ?_
          refine lv_idiv hx hb dX1_willOf_74 (by decide) ?_
          refine lv_goto (tgt := 79) hx hb dX1_willOf_75 (by decide) ?_
          cases h
          exact k_iret hx hb hr hlocks hw rfl dX1_willOf_79 hQ
abbrev rmX1_gain : Room := { frames := 0, cells := 0, slots := 0, locals := 0 }
set_option maxHeartbeats 4000000 in
set_option maxRecDepth 100000 in
theorem c_X1_gain (l : Launch) (D : va_G) (k : Nat → ClassId) (xh xrNa xrMo xrWa xrDe : Nat) (sz : Nat) (xPe : Int32) (xDa : Int32) (xDr : Int32) (xNa : (Nat → Int32)) (xMo : (Nat → Int32)) (xWa : (Nat → Int32)) (xDe : (Nat → Int32)) (p1 : Int32) (p2 : Int32) (n_xMo : (Nat → Int32)) (hf : f_X1_gain xMo p1 p2 = some n_xMo) : mR l yX1_gain wsX1_gain rmX1_gain D k sz [.ref xh, .int p1, .int p2] (wX1 k xh xrNa xrMo xrWa xrDe xPe xDa xDr xNa xMo xWa xDe) (wX1 k xh xrNa xrMo xrWa xrDe xPe xDa xDr xNa n_xMo xWa xDe) (none) := by
  refine mR_of (cc := cX1_gain) (maxL := 4) (ret := none) (by decide) rfl (Nat.le_of_ble_eq_true rfl) [(0, .ref xh), (1, .int p1), (2, .int p2)] rfl ?_
  intro p e s m below meth c A ls args Q cx hK hA hw hl hQ
  have fx := cx.1
  obtain ⟨⟨hx, hb, hml, hown, hts⟩, hr, hlocks⟩ := cx
  have hinX1 : ∀ w ∈ wsX10, w ∈ wsX1_gain := fun w h => List.mem_cons_of_mem _ (List.mem_append_right _ h)
  have q_1 := hts (.fieldLink RX1 15 "DebtRides$Land" "money" "[I") (List.mem_of_getElem? (i := 1) rfl)
  have h := hf
  unfold f_X1_gain at h
  clear hf
  refine lv_aload_n hx hb dX1_gain_0 rfl (lv_at hl 0 rfl) ?_
  refine va_get (ci := 1) (v := .ref xrMo) (C := RX1) (T := TX1) (N := 7) hx hb hts hinX1 hown hK.1 hw.1 0 rfl rfl 4 (by decide) q_1 (fun _ h9 => h9) rfl dX1_gain_1 ?_
  refine lv_iload_n hx hb dX1_gain_4 rfl (lv_at hl 1 rfl) ?_
  refine k_iald hx hb hK hw 2 rfl dX1_gain_5 h (fun a_1 h => ?_)
  refine lv_iload_n hx hb dX1_gain_6 rfl (lv_at hl 2 rfl) ?_
  refine lv_iadd hx hb dX1_gain_7 ?_
  refine lv_istore_n (lv' := [(3, .int (a_1 + p2)), (0, .ref xh), (1, .int p1), (2, .int p2)]) hx hb dX1_gain_8 rfl hl (by decide) rfl (fun ls hl => ?_)
  refine lv_aload_n hx hb dX1_gain_9 rfl (lv_at hl 1 rfl) ?_
  refine va_get (ci := 1) (v := .ref xrMo) (C := RX1) (T := TX1) (N := 7) hx hb hts hinX1 hown hK.1 hw.1 0 rfl rfl 4 (by decide) q_1 (fun _ h9 => h9) rfl dX1_gain_10 ?_
  refine lv_iload_n hx hb dX1_gain_13 rfl (lv_at hl 2 rfl) ?_
  refine lv_iload_n hx hb dX1_gain_14 rfl (lv_at hl 0 rfl) ?_
  refine lv_sipush (v := 999) hx hb dX1_gain_15 (by decide) ?_
  obtain ⟨t_2, hj_18, h⟩ := b1_inv h
  have J_18 : ∀ (H : Heap) (locs : List Loc) (ls : Array Slot), Wd D A s.heap H locs (wX1 k xh xrNa xrMo xrWa xrDe xPe xDa xDr xNa xMo xWa xDe) → lv_has ls 4 [] → W p l e rmX1_gain s m args below meth c H locs 0 0 Q (F0 m 28 ls [.int t_2, .int p1, .ref xrMo]) := by
    intro H locs ls hw hl
    refine k_iast hx hb hK hw 2 rfl dX1_gain_28 h (fun xMo_3 h H locs (hw : Wd D A s.heap H locs (wX1 k xh xrNa xrMo xrWa xrDe xPe xDa xDr xNa xMo_3 xWa xDe)) => ?_)
    cases h
    exact k_vret hx hb hr hlocks hw dX1_gain_29 hQ
  clear h
  have h := hj_18
  refine kb_icmp_le (tgt := 27) hx hb dX1_gain_18 (by decide) h (fun c_18 h => ?_) (fun c_18 h => ?_)
  · refine lv_iload_n hx hb dX1_gain_27 rfl (lv_at hl 0 rfl) ?_
    cases h
    exact J_18 _ _ _ hw (lv_sub hl [] rfl)
  · refine lv_sipush (v := 999) hx hb dX1_gain_21 (by decide) ?_
    refine lv_goto (tgt := 28) hx hb dX1_gain_24 (by decide) ?_
    cases h
    exact J_18 _ _ _ hw (lv_sub hl [] rfl)
abbrev rmX1_lendTo : Room := { frames := 2, cells := 0, slots := 0, locals := 43 }
set_option maxHeartbeats 4000000 in
set_option maxRecDepth 100000 in
theorem c_X1_lendTo (l : Launch) (D : va_G) (k : Nat → ClassId) (xh xrNa xrMo xrWa xrDe : Nat) (sz : Nat) (xPe : Int32) (xDa : Int32) (xDr : Int32) (xNa : (Nat → Int32)) (xMo : (Nat → Int32)) (xWa : (Nat → Int32)) (xDe : (Nat → Int32)) (p1 : Int32) (p2 : Int32) (p3 : Int32) (r_ : Int32) (n_xMo : (Nat → Int32)) (n_xDe : (Nat → Int32)) (hf : f_X1_lendTo xPe xMo xDe p1 p2 p3 = some (r_, n_xMo, n_xDe)) : mR l yX1_lendTo wsX1_lendTo rmX1_lendTo D k sz [.ref xh, .int p1, .int p2, .int p3] (wX1 k xh xrNa xrMo xrWa xrDe xPe xDa xDr xNa xMo xWa xDe) (wX1 k xh xrNa xrMo xrWa xrDe xPe xDa xDr xNa n_xMo xWa n_xDe) (some (.int r_)) := by
  refine mR_of (cc := cX1_lendTo) (maxL := 5) (ret := some .int) (by decide) rfl (Nat.le_of_ble_eq_true rfl) [(0, .ref xh), (1, .int p1), (2, .int p2), (3, .int p3)] rfl ?_
  intro p e s m below meth c A ls args Q cx hK hA hw hl hQ
  have fx := cx.1
  obtain ⟨⟨hx, hb, hml, hown, hts⟩, hr, hlocks⟩ := cx
  have hinX1 : ∀ w ∈ wsX10, w ∈ wsX1_lendTo := fun w h => List.mem_cons_of_mem _ (List.mem_append_right _ h)
  have q_13 := hts (.initialized RX7) (List.mem_of_getElem? (i := 13) rfl)
  have q_12 := hts (.static yX7_within) (List.mem_of_getElem? (i := 12) rfl)
  have q_1 := hts (.fieldLink RX1 15 "DebtRides$Land" "money" "[I") (List.mem_of_getElem? (i := 1) rfl)
  have h := hf
  unfold f_X1_lendTo at h
  clear hf
  refine lv_aload_n hx hb dX1_lendTo_0 rfl (lv_at hl 0 rfl) ?_
  refine lv_iload_n hx hb dX1_lendTo_1 rfl (lv_at hl 1 rfl) ?_
  refine lv_iload_n hx hb dX1_lendTo_2 rfl (lv_at hl 2 rfl) ?_
  obtain ⟨r_1, hf, h⟩ := b1_inv h
  refine k_callV (host := "") fx hK hA hw (c_X1_hasPair l D k xh xrNa xrMo xrWa xrDe _ xPe xDa xDr xNa xMo xWa xDe p1 p2 r_1 hf) (cwV 2 hts gX1_lendTo_X1_hasPair rfl rfl rfl (by decide +kernel) ⟨by decide, by decide⟩) (As := [.int p1, .int p2]) (wr := []) (ws' := wX1 k xh xrNa xrMo xrWa xrDe xPe xDa xDr xNa xMo xWa xDe) [0, 1, 2, 3, 4] [] [0, 1, 2, 3, 4] rfl rfl (by decide) (by decide) (by decide) rfl (by decide) 1 rfl rfl [] rfl hl.1 rfl (Nat.le_of_ble_eq_true rfl) dX1_lendTo_3 ⟨by decide, by decide⟩ (fun H locs (hw : Wd D A s.heap H locs (wX1 k xh xrNa xrMo xrWa xrDe xPe xDa xDr xNa xMo xWa xDe)) => ?_)
  refine W.eq (g2 := F0 m 6 ls ([.int r_1])) rfl ?_
  refine kb_if_eq (tgt := 19) hx hb dX1_lendTo_6 (by decide) h (fun c_6 h => ?_) (fun c_6 h => ?_)
  · refine lv_iconst (v := (-1)) hx hb dX1_lendTo_19 (by decide) ?_
    cases h
    exact k_iret hx hb hr hlocks hw rfl dX1_lendTo_20 hQ
  · refine lv_iload_n hx hb dX1_lendTo_9 rfl (lv_at hl 3 rfl) ?_
    refine lv_iconst (v := 1) hx hb dX1_lendTo_10 (by decide) ?_
    refine lv_bipush (v := 99) hx hb dX1_lendTo_11 (by decide) ?_
    obtain ⟨r_2, hf, h⟩ := b1_inv h
    refine k_callN (b := 0) (C := "") fx hK hA hw (c_X7_within l D k _ p3 1 99 r_2 hf) (⟨va_cnB 3 hts gX1_lendTo_X7_within_n70 rfl rfl rfl hK.2.1 q_13 (by decide +kernel) ⟨by decide, by decide⟩, q_12, trivial⟩) (As := [.int p3, .int 1, .int 99]) (wr := [(xh, .inr (1, [.int xPe, .int xDa, .int xDr, .ref xrNa, .ref xrMo, .ref xrWa, .ref xrDe])), (xrNa, .inl (k 0, 5, .inl xNa)), (xrMo, .inl (k 0, 5, .inl xMo)), (xrWa, .inl (k 0, 5, .inl xWa)), (xrDe, .inl (k 0, 25, .inl xDe))]) (ws' := wX1 k xh xrNa xrMo xrWa xrDe xPe xDa xDr xNa xMo xWa xDe) [] [0, 1, 2, 3, 4] [0, 1, 2, 3, 4] rfl rfl (by decide) (by decide) (by decide) rfl (by decide) [] rfl hl.1 rfl (Nat.le_of_ble_eq_true rfl) dX1_lendTo_13 ⟨by decide, by decide⟩ (fun H locs (hw : Wd D A s.heap H locs (wX1 k xh xrNa xrMo xrWa xrDe xPe xDa xDr xNa xMo xWa xDe)) => ?_)
    refine W.eq (g2 := F0 m 16 ls ([.int r_2])) rfl ?_
    refine kb_if_ne (tgt := 21) hx hb dX1_lendTo_16 (by decide) h (fun c_16 h => ?_) (fun c_16 h => ?_)
    · refine lv_iconst (v := (-1)) hx hb dX1_lendTo_19 (by decide) ?_
      cases h
      exact k_iret hx hb hr hlocks hw rfl dX1_lendTo_20 hQ
    · refine lv_aload_n hx hb dX1_lendTo_21 rfl (lv_at hl 0 rfl) ?_
      refine lv_iload_n hx hb dX1_lendTo_22 rfl (lv_at hl 2 rfl) ?_
      refine lv_iload_n hx hb dX1_lendTo_23 rfl (lv_at hl 1 rfl) ?_
      obtain ⟨r_3, hf, h⟩ := b1_inv h
      refine k_callV (host := "") fx hK hA hw (c_X1_debt l D k xh xrNa xrMo xrWa xrDe _ xPe xDa xDr xNa xMo xWa xDe p2 p1 r_3 hf) (cwV 2 hts gX1_lendTo_X1_debt rfl rfl rfl (by decide +kernel) ⟨by decide, by decide⟩) (As := [.int p2, .int p1]) (wr := []) (ws' := wX1 k xh xrNa xrMo xrWa xrDe xPe xDa xDr xNa xMo xWa xDe) [0, 1, 2, 3, 4] [] [0, 1, 2, 3, 4] rfl rfl (by decide) (by decide) (by decide) rfl (by decide) 1 rfl rfl [] rfl hl.1 rfl (Nat.le_of_ble_eq_true rfl) dX1_lendTo_24 ⟨by decide, by decide⟩ (fun H locs (hw : Wd D A s.heap H locs (wX1 k xh xrNa xrMo xrWa xrDe xPe xDa xDr xNa xMo xWa xDe)) => ?_)
      refine W.eq (g2 := F0 m 27 ls ([.int r_3])) rfl ?_
      refine lv_iload_n hx hb dX1_lendTo_27 rfl (lv_at hl 3 rfl) ?_
      refine lv_iadd hx hb dX1_lendTo_28 ?_
      refine lv_istore (lv' := [(4, .int (r_3 + p3)), (0, .ref xh), (1, .int p1), (2, .int p2), (3, .int p3)]) hx hb dX1_lendTo_29 hl (by decide) rfl (fun ls hl => ?_)
      refine lv_aload_n hx hb dX1_lendTo_31 rfl (lv_at hl 1 rfl) ?_
      refine va_get (ci := 1) (v := .ref xrMo) (C := RX1) (T := TX1) (N := 7) hx hb hts hinX1 hown hK.1 hw.1 0 rfl rfl 4 (by decide) q_1 (fun _ h9 => h9) rfl dX1_lendTo_32 ?_
      refine lv_iload_n hx hb dX1_lendTo_35 rfl (lv_at hl 2 rfl) ?_
      refine k_iald hx hb hK hw 2 rfl dX1_lendTo_36 h (fun a_4 h => ?_)
      refine lv_iload_n hx hb dX1_lendTo_37 rfl (lv_at hl 4 rfl) ?_
      refine kb_icmp_lt (tgt := 62) hx hb dX1_lendTo_38 (by decide) h (fun c_38 h => ?_) (fun c_38 h => ?_)
      · refine lv_bipush (v := (-2)) hx hb dX1_lendTo_62 (by decide) ?_
        cases h
        exact k_iret hx hb hr hlocks hw rfl dX1_lendTo_64 hQ
      · refine lv_iload hx hb dX1_lendTo_41 (lv_at hl 0 rfl) ?_
        refine lv_bipush (v := 99) hx hb dX1_lendTo_43 (by decide) ?_
        refine kb_icmp_gt (tgt := 62) hx hb dX1_lendTo_45 (by decide) h (fun c_45 h => ?_) (fun c_45 h => ?_)
        · refine lv_bipush (v := (-2)) hx hb dX1_lendTo_62 (by decide) ?_
          cases h
          exact k_iret hx hb hr hlocks hw rfl dX1_lendTo_64 hQ
        · refine lv_aload_n hx hb dX1_lendTo_48 rfl (lv_at hl 1 rfl) ?_
          refine va_get (ci := 1) (v := .ref xrMo) (C := RX1) (T := TX1) (N := 7) hx hb hts hinX1 hown hK.1 hw.1 0 rfl rfl 4 (by decide) q_1 (fun _ h9 => h9) rfl dX1_lendTo_49 ?_
          refine lv_iload_n hx hb dX1_lendTo_52 rfl (lv_at hl 3 rfl) ?_
          refine k_iald hx hb hK hw 2 rfl dX1_lendTo_53 h (fun a_5 h => ?_)
          refine lv_iload_n hx hb dX1_lendTo_54 rfl (lv_at hl 4 rfl) ?_
          refine lv_iadd hx hb dX1_lendTo_55 ?_
          refine lv_sipush (v := 999) hx hb dX1_lendTo_56 (by decide) ?_
          refine kb_icmp_le (tgt := 65) hx hb dX1_lendTo_59 (by decide) h (fun c_59 h => ?_) (fun c_59 h => ?_)
          · refine lv_aload_n hx hb dX1_lendTo_65 rfl (lv_at hl 1 rfl) ?_
            refine va_get (ci := 1) (v := .ref xrMo) (C := RX1) (T := TX1) (N := 7) hx hb hts hinX1 hown hK.1 hw.1 0 rfl rfl 4 (by decide) q_1 (fun _ h9 => h9) rfl dX1_lendTo_66 ?_
            refine lv_iload_n hx hb dX1_lendTo_69 rfl (lv_at hl 2 rfl) ?_
            refine lv_dup2_11 hx hb dX1_lendTo_70 rfl rfl ?_
            refine k_iald hx hb hK hw 2 rfl dX1_lendTo_71 h (fun a_6 h => ?_)
            refine lv_iload_n hx hb dX1_lendTo_72 rfl (lv_at hl 4 rfl) ?_
            refine lv_isub hx hb dX1_lendTo_73 ?_
            refine k_iast hx hb hK hw 2 rfl dX1_lendTo_74 h (fun xMo_7 h H locs (hw : Wd D A s.heap H locs (wX1 k xh xrNa xrMo xrWa xrDe xPe xDa xDr xNa xMo_7 xWa xDe)) => ?_)
            refine lv_aload_n hx hb dX1_lendTo_75 rfl (lv_at hl 1 rfl) ?_
            refine va_get (ci := 1) (v := .ref xrMo) (C := RX1) (T := TX1) (N := 7) hx hb hts hinX1 hown hK.1 hw.1 0 rfl rfl 4 (by decide) q_1 (fun _ h9 => h9) rfl dX1_lendTo_76 ?_
            refine lv_iload_n hx hb dX1_lendTo_79 rfl (lv_at hl 3 rfl) ?_
            refine lv_dup2_11 hx hb dX1_lendTo_80 rfl rfl ?_
            refine k_iald hx hb hK hw 2 rfl dX1_lendTo_81 h (fun a_8 h => ?_)
            refine lv_iload_n hx hb dX1_lendTo_82 rfl (lv_at hl 4 rfl) ?_
            refine lv_iadd hx hb dX1_lendTo_83 ?_
            refine k_iast hx hb hK hw 2 rfl dX1_lendTo_84 h (fun xMo_9 h H locs (hw : Wd D A s.heap H locs (wX1 k xh xrNa xrMo xrWa xrDe xPe xDa xDr xNa xMo_9 xWa xDe)) => ?_)
            refine lv_aload_n hx hb dX1_lendTo_85 rfl (lv_at hl 1 rfl) ?_
            refine lv_iload_n hx hb dX1_lendTo_86 rfl (lv_at hl 3 rfl) ?_
            refine lv_iload_n hx hb dX1_lendTo_87 rfl (lv_at hl 2 rfl) ?_
            refine lv_iload hx hb dX1_lendTo_88 (lv_at hl 0 rfl) ?_
            obtain ⟨xDe_10, hf, h⟩ := b1_inv h
            refine k_callV (host := "") fx hK hA hw (c_X1_setDebt l D k xh xrNa xrMo xrWa xrDe _ xPe xDa xDr xNa xMo_9 xWa xDe p2 p1 (r_3 + p3) xDe_10 hf) (cwV 3 hts gX1_lendTo_X1_setDebt rfl rfl rfl (by decide +kernel) ⟨by decide, by decide⟩) (As := [.int p2, .int p1, .int (r_3 + p3)]) (wr := []) (ws' := wX1 k xh xrNa xrMo xrWa xrDe xPe xDa xDr xNa xMo_9 xWa xDe_10) [0, 1, 2, 3, 4] [] [0, 1, 2, 3, 4] rfl rfl (by decide) (by decide) (by decide) rfl (by decide) 1 rfl rfl [] rfl hl.1 rfl (Nat.le_of_ble_eq_true rfl) dX1_lendTo_90 ⟨by decide, by decide⟩ (fun H locs (hw : Wd D A s.heap H locs (wX1 k xh xrNa xrMo xrWa xrDe xPe xDa xDr xNa xMo_9 xWa xDe_10)) => ?_)
            refine W.eq (g2 := F0 m 93 ls ([])) rfl ?_
            refine lv_iload hx hb dX1_lendTo_93 (lv_at hl 0 rfl) ?_
            cases h
            exact k_iret hx hb hr hlocks hw rfl dX1_lendTo_95 hQ
          · refine lv_bipush (v := (-2)) hx hb dX1_lendTo_62 (by decide) ?_
            cases h
            exact k_iret hx hb hr hlocks hw rfl dX1_lendTo_64 hQ
abbrev rmX1_handOver : Room := { frames := 1, cells := 0, slots := 0, locals := 23 }
set_option maxHeartbeats 4000000 in
set_option maxRecDepth 100000 in
theorem c_X1_handOver (l : Launch) (D : va_G) (k : Nat → ClassId) (xh xrNa xrMo xrWa xrDe : Nat) (sz : Nat) (xPe : Int32) (xDa : Int32) (xDr : Int32) (xNa : (Nat → Int32)) (xMo : (Nat → Int32)) (xWa : (Nat → Int32)) (xDe : (Nat → Int32)) (p1 : Int32) (p2 : Int32) (p3 : Int32) (n_xMo : (Nat → Int32)) (n_xDe : (Nat → Int32)) (hf : f_X1_handOver xMo xDe p1 p2 p3 = some (n_xMo, n_xDe)) : mR l yX1_handOver wsX1_handOver rmX1_handOver D k sz [.ref xh, .int p1, .int p2, .int p3] (wX1 k xh xrNa xrMo xrWa xrDe xPe xDa xDr xNa xMo xWa xDe) (wX1 k xh xrNa xrMo xrWa xrDe xPe xDa xDr xNa n_xMo xWa n_xDe) (none) := by
  refine mR_of (cc := cX1_handOver) (maxL := 4) (ret := none) (by decide) rfl (Nat.le_of_ble_eq_true rfl) [(0, .ref xh), (1, .int p1), (2, .int p2), (3, .int p3)] rfl ?_
  intro p e s m below meth c A ls args Q cx hK hA hw hl hQ
  have fx := cx.1
  obtain ⟨⟨hx, hb, hml, hown, hts⟩, hr, hlocks⟩ := cx
  have hinX1 : ∀ w ∈ wsX10, w ∈ wsX1_handOver := fun w h => List.mem_cons_of_mem _ (List.mem_append_right _ h)
  have q_1 := hts (.fieldLink RX1 15 "DebtRides$Land" "money" "[I") (List.mem_of_getElem? (i := 1) rfl)
  have h := hf
  unfold f_X1_handOver at h
  clear hf
  refine lv_aload_n hx hb dX1_handOver_0 rfl (lv_at hl 0 rfl) ?_
  refine va_get (ci := 1) (v := .ref xrMo) (C := RX1) (T := TX1) (N := 7) hx hb hts hinX1 hown hK.1 hw.1 0 rfl rfl 4 (by decide) q_1 (fun _ h9 => h9) rfl dX1_handOver_1 ?_
  refine lv_iload_n hx hb dX1_handOver_4 rfl (lv_at hl 1 rfl) ?_
  refine lv_dup2_11 hx hb dX1_handOver_5 rfl rfl ?_
  refine k_iald hx hb hK hw 2 rfl dX1_handOver_6 h (fun a_1 h => ?_)
  refine lv_iload_n hx hb dX1_handOver_7 rfl (lv_at hl 3 rfl) ?_
  refine lv_isub hx hb dX1_handOver_8 ?_
  refine k_iast hx hb hK hw 2 rfl dX1_handOver_9 h (fun xMo_2 h H locs (hw : Wd D A s.heap H locs (wX1 k xh xrNa xrMo xrWa xrDe xPe xDa xDr xNa xMo_2 xWa xDe)) => ?_)
  refine lv_aload_n hx hb dX1_handOver_10 rfl (lv_at hl 0 rfl) ?_
  refine lv_iload_n hx hb dX1_handOver_11 rfl (lv_at hl 1 rfl) ?_
  refine lv_iload_n hx hb dX1_handOver_12 rfl (lv_at hl 2 rfl) ?_
  refine lv_aload_n hx hb dX1_handOver_13 rfl (lv_at hl 0 rfl) ?_
  refine lv_iload_n hx hb dX1_handOver_14 rfl (lv_at hl 1 rfl) ?_
  refine lv_iload_n hx hb dX1_handOver_15 rfl (lv_at hl 2 rfl) ?_
  obtain ⟨r_3, hf, h⟩ := b1_inv h
  refine k_callV (host := "") fx hK hA hw (c_X1_debt l D k xh xrNa xrMo xrWa xrDe _ xPe xDa xDr xNa xMo_2 xWa xDe p1 p2 r_3 hf) (cwV 2 hts gX1_handOver_X1_debt rfl rfl rfl (by decide +kernel) ⟨by decide, by decide⟩) (As := [.int p1, .int p2]) (wr := []) (ws' := wX1 k xh xrNa xrMo xrWa xrDe xPe xDa xDr xNa xMo_2 xWa xDe) [0, 1, 2, 3, 4] [] [0, 1, 2, 3, 4] rfl rfl (by decide) (by decide) (by decide) rfl (by decide) 1 rfl rfl [.int p2, .int p1, .ref xh] rfl hl.1 rfl (Nat.le_of_ble_eq_true rfl) dX1_handOver_16 ⟨by decide, by decide⟩ (fun H locs (hw : Wd D A s.heap H locs (wX1 k xh xrNa xrMo xrWa xrDe xPe xDa xDr xNa xMo_2 xWa xDe)) => ?_)
  refine W.eq (g2 := F0 m 19 ls ([.int r_3, .int p2, .int p1, .ref xh])) rfl ?_
  refine lv_iload_n hx hb dX1_handOver_19 rfl (lv_at hl 3 rfl) ?_
  refine lv_isub hx hb dX1_handOver_20 ?_
  obtain ⟨xDe_4, hf, h⟩ := b1_inv h
  refine k_callV (host := "") fx hK hA hw (c_X1_setDebt l D k xh xrNa xrMo xrWa xrDe _ xPe xDa xDr xNa xMo_2 xWa xDe p1 p2 (r_3 - p3) xDe_4 hf) (cwV 3 hts gX1_handOver_X1_setDebt rfl rfl rfl (by decide +kernel) ⟨by decide, by decide⟩) (As := [.int p1, .int p2, .int (r_3 - p3)]) (wr := []) (ws' := wX1 k xh xrNa xrMo xrWa xrDe xPe xDa xDr xNa xMo_2 xWa xDe_4) [0, 1, 2, 3, 4] [] [0, 1, 2, 3, 4] rfl rfl (by decide) (by decide) (by decide) rfl (by decide) 1 rfl rfl [] rfl hl.1 rfl (Nat.le_of_ble_eq_true rfl) dX1_handOver_21 ⟨by decide, by decide⟩ (fun H locs (hw : Wd D A s.heap H locs (wX1 k xh xrNa xrMo xrWa xrDe xPe xDa xDr xNa xMo_2 xWa xDe_4)) => ?_)
  refine W.eq (g2 := F0 m 24 ls ([])) rfl ?_
  refine lv_aload_n hx hb dX1_handOver_24 rfl (lv_at hl 0 rfl) ?_
  refine lv_iload_n hx hb dX1_handOver_25 rfl (lv_at hl 2 rfl) ?_
  refine lv_iload_n hx hb dX1_handOver_26 rfl (lv_at hl 3 rfl) ?_
  obtain ⟨xMo_5, hf, h⟩ := b1_inv h
  refine k_callV (host := "") fx hK hA hw (c_X1_gain l D k xh xrNa xrMo xrWa xrDe _ xPe xDa xDr xNa xMo_2 xWa xDe_4 p2 p3 xMo_5 hf) (cwV 2 hts gX1_handOver_X1_gain rfl rfl rfl (by decide +kernel) ⟨by decide, by decide⟩) (As := [.int p2, .int p3]) (wr := []) (ws' := wX1 k xh xrNa xrMo xrWa xrDe xPe xDa xDr xNa xMo_5 xWa xDe_4) [0, 1, 2, 3, 4] [] [0, 1, 2, 3, 4] rfl rfl (by decide) (by decide) (by decide) rfl (by decide) 1 rfl rfl [] rfl hl.1 rfl (Nat.le_of_ble_eq_true rfl) dX1_handOver_27 ⟨by decide, by decide⟩ (fun H locs (hw : Wd D A s.heap H locs (wX1 k xh xrNa xrMo xrWa xrDe xPe xDa xDr xNa xMo_5 xWa xDe_4)) => ?_)
  refine W.eq (g2 := F0 m 30 ls ([])) rfl ?_
  cases h
  exact k_vret hx hb hr hlocks hw dX1_handOver_30 hQ
abbrev rmX1_payTo : Room := { frames := 2, cells := 0, slots := 0, locals := 46 }
set_option maxHeartbeats 4000000 in
set_option maxRecDepth 100000 in
theorem c_X1_payTo (l : Launch) (D : va_G) (k : Nat → ClassId) (xh xrNa xrMo xrWa xrDe : Nat) (sz : Nat) (xPe : Int32) (xDa : Int32) (xDr : Int32) (xNa : (Nat → Int32)) (xMo : (Nat → Int32)) (xWa : (Nat → Int32)) (xDe : (Nat → Int32)) (p1 : Int32) (p2 : Int32) (p3 : Int32) (r_ : Int32) (n_xMo : (Nat → Int32)) (n_xDe : (Nat → Int32)) (hf : f_X1_payTo xPe xMo xDe p1 p2 p3 = some (r_, n_xMo, n_xDe)) : mR l yX1_payTo wsX1_payTo rmX1_payTo D k sz [.ref xh, .int p1, .int p2, .int p3] (wX1 k xh xrNa xrMo xrWa xrDe xPe xDa xDr xNa xMo xWa xDe) (wX1 k xh xrNa xrMo xrWa xrDe xPe xDa xDr xNa n_xMo xWa n_xDe) (some (.int r_)) := by
  refine mR_of (cc := cX1_payTo) (maxL := 4) (ret := some .int) (by decide) rfl (Nat.le_of_ble_eq_true rfl) [(0, .ref xh), (1, .int p1), (2, .int p2), (3, .int p3)] rfl ?_
  intro p e s m below meth c A ls args Q cx hK hA hw hl hQ
  have fx := cx.1
  obtain ⟨⟨hx, hb, hml, hown, hts⟩, hr, hlocks⟩ := cx
  have hinX1 : ∀ w ∈ wsX10, w ∈ wsX1_payTo := fun w h => List.mem_cons_of_mem _ (List.mem_append_right _ h)
  have q_13 := hts (.initialized RX7) (List.mem_of_getElem? (i := 13) rfl)
  have q_12 := hts (.static yX7_within) (List.mem_of_getElem? (i := 12) rfl)
  have q_1 := hts (.fieldLink RX1 15 "DebtRides$Land" "money" "[I") (List.mem_of_getElem? (i := 1) rfl)
  have h := hf
  unfold f_X1_payTo at h
  clear hf
  refine lv_aload_n hx hb dX1_payTo_0 rfl (lv_at hl 0 rfl) ?_
  refine lv_iload_n hx hb dX1_payTo_1 rfl (lv_at hl 1 rfl) ?_
  refine lv_iload_n hx hb dX1_payTo_2 rfl (lv_at hl 2 rfl) ?_
  obtain ⟨r_1, hf, h⟩ := b1_inv h
  refine k_callV (host := "") fx hK hA hw (c_X1_hasPair l D k xh xrNa xrMo xrWa xrDe _ xPe xDa xDr xNa xMo xWa xDe p1 p2 r_1 hf) (cwV 2 hts gX1_payTo_X1_hasPair rfl rfl rfl (by decide +kernel) ⟨by decide, by decide⟩) (As := [.int p1, .int p2]) (wr := []) (ws' := wX1 k xh xrNa xrMo xrWa xrDe xPe xDa xDr xNa xMo xWa xDe) [0, 1, 2, 3, 4] [] [0, 1, 2, 3, 4] rfl rfl (by decide) (by decide) (by decide) rfl (by decide) 1 rfl rfl [] rfl hl.1 rfl (Nat.le_of_ble_eq_true rfl) dX1_payTo_3 ⟨by decide, by decide⟩ (fun H locs (hw : Wd D A s.heap H locs (wX1 k xh xrNa xrMo xrWa xrDe xPe xDa xDr xNa xMo xWa xDe)) => ?_)
  refine W.eq (g2 := F0 m 6 ls ([.int r_1])) rfl ?_
  refine kb_if_eq (tgt := 19) hx hb dX1_payTo_6 (by decide) h (fun c_6 h => ?_) (fun c_6 h => ?_)
  · refine lv_iconst (v := (-1)) hx hb dX1_payTo_19 (by decide) ?_
    cases h
    exact k_iret hx hb hr hlocks hw rfl dX1_payTo_20 hQ
  · refine lv_iload_n hx hb dX1_payTo_9 rfl (lv_at hl 3 rfl) ?_
    refine lv_iconst (v := 1) hx hb dX1_payTo_10 (by decide) ?_
    refine lv_bipush (v := 99) hx hb dX1_payTo_11 (by decide) ?_
    obtain ⟨r_2, hf, h⟩ := b1_inv h
    refine k_callN (b := 0) (C := "") fx hK hA hw (c_X7_within l D k _ p3 1 99 r_2 hf) (⟨va_cnB 3 hts gX1_payTo_X7_within_n70 rfl rfl rfl hK.2.1 q_13 (by decide +kernel) ⟨by decide, by decide⟩, q_12, trivial⟩) (As := [.int p3, .int 1, .int 99]) (wr := [(xh, .inr (1, [.int xPe, .int xDa, .int xDr, .ref xrNa, .ref xrMo, .ref xrWa, .ref xrDe])), (xrNa, .inl (k 0, 5, .inl xNa)), (xrMo, .inl (k 0, 5, .inl xMo)), (xrWa, .inl (k 0, 5, .inl xWa)), (xrDe, .inl (k 0, 25, .inl xDe))]) (ws' := wX1 k xh xrNa xrMo xrWa xrDe xPe xDa xDr xNa xMo xWa xDe) [] [0, 1, 2, 3, 4] [0, 1, 2, 3, 4] rfl rfl (by decide) (by decide) (by decide) rfl (by decide) [] rfl hl.1 rfl (Nat.le_of_ble_eq_true rfl) dX1_payTo_13 ⟨by decide, by decide⟩ (fun H locs (hw : Wd D A s.heap H locs (wX1 k xh xrNa xrMo xrWa xrDe xPe xDa xDr xNa xMo xWa xDe)) => ?_)
    refine W.eq (g2 := F0 m 16 ls ([.int r_2])) rfl ?_
    refine kb_if_ne (tgt := 21) hx hb dX1_payTo_16 (by decide) h (fun c_16 h => ?_) (fun c_16 h => ?_)
    · refine lv_iconst (v := (-1)) hx hb dX1_payTo_19 (by decide) ?_
      cases h
      exact k_iret hx hb hr hlocks hw rfl dX1_payTo_20 hQ
    · refine lv_aload_n hx hb dX1_payTo_21 rfl (lv_at hl 0 rfl) ?_
      refine lv_iload_n hx hb dX1_payTo_22 rfl (lv_at hl 1 rfl) ?_
      refine lv_iload_n hx hb dX1_payTo_23 rfl (lv_at hl 2 rfl) ?_
      obtain ⟨r_3, hf, h⟩ := b1_inv h
      refine k_callV (host := "") fx hK hA hw (c_X1_debt l D k xh xrNa xrMo xrWa xrDe _ xPe xDa xDr xNa xMo xWa xDe p1 p2 r_3 hf) (cwV 2 hts gX1_payTo_X1_debt rfl rfl rfl (by decide +kernel) ⟨by decide, by decide⟩) (As := [.int p1, .int p2]) (wr := []) (ws' := wX1 k xh xrNa xrMo xrWa xrDe xPe xDa xDr xNa xMo xWa xDe) [0, 1, 2, 3, 4] [] [0, 1, 2, 3, 4] rfl rfl (by decide) (by decide) (by decide) rfl (by decide) 1 rfl rfl [] rfl hl.1 rfl (Nat.le_of_ble_eq_true rfl) dX1_payTo_24 ⟨by decide, by decide⟩ (fun H locs (hw : Wd D A s.heap H locs (wX1 k xh xrNa xrMo xrWa xrDe xPe xDa xDr xNa xMo xWa xDe)) => ?_)
      refine W.eq (g2 := F0 m 27 ls ([.int r_3])) rfl ?_
      refine lv_iload_n hx hb dX1_payTo_27 rfl (lv_at hl 3 rfl) ?_
      refine kb_icmp_lt (tgt := 41) hx hb dX1_payTo_28 (by decide) h (fun c_28 h => ?_) (fun c_28 h => ?_)
      · refine lv_bipush (v := (-2)) hx hb dX1_payTo_41 (by decide) ?_
        cases h
        exact k_iret hx hb hr hlocks hw rfl dX1_payTo_43 hQ
      · refine lv_aload_n hx hb dX1_payTo_31 rfl (lv_at hl 0 rfl) ?_
        refine va_get (ci := 1) (v := .ref xrMo) (C := RX1) (T := TX1) (N := 7) hx hb hts hinX1 hown hK.1 hw.1 0 rfl rfl 4 (by decide) q_1 (fun _ h9 => h9) rfl dX1_payTo_32 ?_
        refine lv_iload_n hx hb dX1_payTo_35 rfl (lv_at hl 1 rfl) ?_
        refine k_iald hx hb hK hw 2 rfl dX1_payTo_36 h (fun a_4 h => ?_)
        refine lv_iload_n hx hb dX1_payTo_37 rfl (lv_at hl 3 rfl) ?_
        refine kb_icmp_ge (tgt := 44) hx hb dX1_payTo_38 (by decide) h (fun c_38 h => ?_) (fun c_38 h => ?_)
        · refine lv_aload_n hx hb dX1_payTo_44 rfl (lv_at hl 0 rfl) ?_
          refine lv_iload_n hx hb dX1_payTo_45 rfl (lv_at hl 1 rfl) ?_
          refine lv_iload_n hx hb dX1_payTo_46 rfl (lv_at hl 2 rfl) ?_
          refine lv_iload_n hx hb dX1_payTo_47 rfl (lv_at hl 3 rfl) ?_
          obtain ⟨xMo_5, xDe_6, hf, h⟩ := b2_inv h
          refine k_callV (host := "") fx hK hA hw (c_X1_handOver l D k xh xrNa xrMo xrWa xrDe _ xPe xDa xDr xNa xMo xWa xDe p1 p2 p3 xMo_5 xDe_6 hf) (cwV 3 hts gX1_payTo_X1_handOver rfl rfl rfl (by decide +kernel) ⟨by decide, by decide⟩) (As := [.int p1, .int p2, .int p3]) (wr := []) (ws' := wX1 k xh xrNa xrMo xrWa xrDe xPe xDa xDr xNa xMo_5 xWa xDe_6) [0, 1, 2, 3, 4] [] [0, 1, 2, 3, 4] rfl rfl (by decide) (by decide) (by decide) rfl (by decide) 1 rfl rfl [] rfl hl.1 rfl (Nat.le_of_ble_eq_true rfl) dX1_payTo_48 ⟨by decide, by decide⟩ (fun H locs (hw : Wd D A s.heap H locs (wX1 k xh xrNa xrMo xrWa xrDe xPe xDa xDr xNa xMo_5 xWa xDe_6)) => ?_)
          refine W.eq (g2 := F0 m 51 ls ([])) rfl ?_
          refine lv_aload_n hx hb dX1_payTo_51 rfl (lv_at hl 0 rfl) ?_
          refine lv_iload_n hx hb dX1_payTo_52 rfl (lv_at hl 1 rfl) ?_
          refine lv_iload_n hx hb dX1_payTo_53 rfl (lv_at hl 2 rfl) ?_
          obtain ⟨r_7, hf, h⟩ := b1_inv h
          refine k_callV (host := "") fx hK hA hw (c_X1_debt l D k xh xrNa xrMo xrWa xrDe _ xPe xDa xDr xNa xMo_5 xWa xDe_6 p1 p2 r_7 hf) (cwV 2 hts gX1_payTo_X1_debt rfl rfl rfl (by decide +kernel) ⟨by decide, by decide⟩) (As := [.int p1, .int p2]) (wr := []) (ws' := wX1 k xh xrNa xrMo xrWa xrDe xPe xDa xDr xNa xMo_5 xWa xDe_6) [0, 1, 2, 3, 4] [] [0, 1, 2, 3, 4] rfl rfl (by decide) (by decide) (by decide) rfl (by decide) 1 rfl rfl [] rfl hl.1 rfl (Nat.le_of_ble_eq_true rfl) dX1_payTo_54 ⟨by decide, by decide⟩ (fun H locs (hw : Wd D A s.heap H locs (wX1 k xh xrNa xrMo xrWa xrDe xPe xDa xDr xNa xMo_5 xWa xDe_6)) => ?_)
          refine W.eq (g2 := F0 m 57 ls ([.int r_7])) rfl ?_
          cases h
          exact k_iret hx hb hr hlocks hw rfl dX1_payTo_57 hQ
        · refine lv_bipush (v := (-2)) hx hb dX1_payTo_41 (by decide) ?_
          cases h
          exact k_iret hx hb hr hlocks hw rfl dX1_payTo_43 hQ
abbrev rmX1_payOut : Room := { frames := 2, cells := 0, slots := 0, locals := 46 }
set_option maxHeartbeats 4000000 in
set_option maxRecDepth 100000 in
theorem c_X1_payOut (l : Launch) (D : va_G) (k : Nat → ClassId) (xh xrNa xrMo xrWa xrDe : Nat) (sz : Nat) (xPe : Int32) (xDa : Int32) (xDr : Int32) (xNa : (Nat → Int32)) (xMo : (Nat → Int32)) (xWa : (Nat → Int32)) (xDe : (Nat → Int32)) (p1 : Int32) (r_ : Int32) (n_xMo : (Nat → Int32)) (n_xDe : (Nat → Int32)) (hf : f_X1_payOut xPe xNa xMo xDe p1 = some (r_, n_xMo, n_xDe)) : mR l yX1_payOut wsX1_payOut rmX1_payOut D k sz [.ref xh, .int p1] (wX1 k xh xrNa xrMo xrWa xrDe xPe xDa xDr xNa xMo xWa xDe) (wX1 k xh xrNa xrMo xrWa xrDe xPe xDa xDr xNa n_xMo xWa n_xDe) (some (.int r_)) := by
  refine mR_of (cc := cX1_payOut) (maxL := 6) (ret := some .int) (by decide) rfl (Nat.le_of_ble_eq_true rfl) [(0, .ref xh), (1, .int p1)] rfl ?_
  intro p e s m below meth c A ls args Q cx hK hA hw hl hQ
  have fx := cx.1
  obtain ⟨⟨hx, hb, hml, hown, hts⟩, hr, hlocks⟩ := cx
  have hinX1 : ∀ w ∈ wsX10, w ∈ wsX1_payOut := fun w h => List.mem_cons_of_mem _ (List.mem_append_right _ h)
  have q_1 := hts (.fieldLink RX1 24 "DebtRides$Land" "people" "I") (List.mem_of_getElem? (i := 1) rfl)
  have q_2 := hts (.methodLink RX1 94 Lib.Math.min.name) (List.mem_of_getElem? (i := 2) rfl)
  have q_3 := hts (.static Lib.Math.min.name) (List.mem_of_getElem? (i := 3) rfl)
  have q_4 := hts (.initialized "java/lang/Math") (List.mem_of_getElem? (i := 4) rfl)
  have q_5 := hts (.code Lib.Math.min.name Lib.Math.min.code 2 (some .int)) (List.mem_of_getElem? (i := 5) rfl)
  have h := hf
  unfold f_X1_payOut at h
  clear hf
  refine lv_aload_n hx hb dX1_payOut_0 rfl (lv_at hl 0 rfl) ?_
  refine lv_iload_n hx hb dX1_payOut_1 rfl (lv_at hl 1 rfl) ?_
  obtain ⟨r_1, hf, h⟩ := b1_inv h
  refine k_callV (host := "") fx hK hA hw (c_X1_willOf l D k xh xrNa xrMo xrWa xrDe _ xPe xDa xDr xNa xMo xWa xDe p1 r_1 hf) (cwV 1 hts gX1_payOut_X1_willOf rfl rfl rfl (by decide +kernel) ⟨by decide, by decide⟩) (As := [.int p1]) (wr := []) (ws' := wX1 k xh xrNa xrMo xrWa xrDe xPe xDa xDr xNa xMo xWa xDe) [0, 1, 2, 3, 4] [] [0, 1, 2, 3, 4] rfl rfl (by decide) (by decide) (by decide) rfl (by decide) 1 rfl rfl [] rfl hl.1 rfl (Nat.le_of_ble_eq_true rfl) dX1_payOut_2 ⟨by decide, by decide⟩ (fun H locs (hw : Wd D A s.heap H locs (wX1 k xh xrNa xrMo xrWa xrDe xPe xDa xDr xNa xMo xWa xDe)) => ?_)
  refine W.eq (g2 := F0 m 5 ls ([.int r_1])) rfl ?_
  refine lv_istore_n (lv' := [(2, .int r_1), (0, .ref xh), (1, .int p1)]) hx hb dX1_payOut_5 rfl hl (by decide) rfl (fun ls hl => ?_)
  refine lv_iload_n hx hb dX1_payOut_6 rfl (lv_at hl 0 rfl) ?_
  refine lv_istore_n (lv' := [(3, .int r_1), (2, .int r_1), (0, .ref xh), (1, .int p1)]) hx hb dX1_payOut_7 rfl hl (by decide) rfl (fun ls hl => ?_)
  refine lv_iconst (v := 0) hx hb dX1_payOut_8 (by decide) ?_
  refine lv_istore (lv' := [(4, .int 0), (3, .int r_1), (2, .int r_1), (0, .ref xh), (1, .int p1)]) hx hb dX1_payOut_9 hl (by decide) rfl (fun ls hl => ?_)
  obtain ⟨v3_6, xMo_7, xDe_8, hL_11, h⟩ := b3_inv h
  have X_11 : ∀ (H : Heap) (locs : List Loc) (ls : Array Slot), Wd D A s.heap H locs (wX1 k xh xrNa xrMo xrWa xrDe xPe xDa xDr xNa xMo_7 xWa xDe_8) → lv_has ls 6 [(2, .int r_1), (3, .int v3_6)] → W p l e rmX1_payOut s m args below meth c H locs 0 0 Q (F0 m 62 ls []) := by
    intro H locs ls hw hl
    refine lv_iload_n hx hb dX1_payOut_62 rfl (lv_at hl 0 rfl) ?_
    refine lv_iload_n hx hb dX1_payOut_63 rfl (lv_at hl 1 rfl) ?_
    refine lv_isub hx hb dX1_payOut_64 ?_
    have g0 := Option.some.inj h
    clear h
    obtain ⟨e0, g1⟩ := Prod.mk.inj g0
    obtain ⟨e1, g2⟩ := Prod.mk.inj g1
    subst e0; subst e1; subst g2
    exact k_iret hx hb hr hlocks hw rfl dX1_payOut_65 hQ
  clear h
  have LP_11 : ∀ (n : Nat) (v3_2 : Int32) (v4_3 : Int32) (xMo_4 : (Nat → Int32)) (xDe_5 : (Nat → Int32)), f_X1_payOut_L11 xPe p1 n v3_2 v4_3 xMo_4 xDe_5 = some (v3_6, xMo_7, xDe_8) → ∀ (H : Heap) (locs : List Loc) (ls : Array Slot), Wd D A s.heap H locs (wX1 k xh xrNa xrMo xrWa xrDe xPe xDa xDr xNa xMo_4 xWa xDe_5) → lv_has ls 6 [(0, .ref xh), (1, .int p1), (2, .int r_1), (3, .int v3_2), (4, .int v4_3)] → W p l e rmX1_payOut s m args below meth c H locs 0 0 Q (F0 m 11 ls []) := by
    clear hL_11 hw hl
    intro n
    induction n with
    | zero => intro v3_2 v4_3 xMo_4 xDe_5 h; rw [f_X1_payOut_L11] at h; cases h
    | succ n ih =>
      intro v3_2 v4_3 xMo_4 xDe_5 h H locs ls hw hl
      rw [f_X1_payOut_L11] at h
      refine lv_iload hx hb dX1_payOut_11 (lv_at hl 4 rfl) ?_
      refine lv_aload_n hx hb dX1_payOut_13 rfl (lv_at hl 0 rfl) ?_
      refine va_get (ci := 1) (v := .int xPe) (C := RX1) (T := TX1) (N := 7) hx hb hts hinX1 hown hK.1 hw.1 0 rfl rfl 0 (by decide) q_1 (fun _ h9 => h9) rfl dX1_payOut_14 ?_
      refine kb_icmp_ge (tgt := 62) hx hb dX1_payOut_17 (by decide) h (fun c_17 h => ?_) (fun c_17 h => ?_)
      · cases h
        exact X_11 _ _ _ hw (lv_sub hl [2, 3] rfl)
      · refine lv_iload_n hx hb dX1_payOut_20 rfl (lv_at hl 3 rfl) ?_
        refine kb_if_le (tgt := 62) hx hb dX1_payOut_21 (by decide) h (fun c_21 h => ?_) (fun c_21 h => ?_)
        · cases h
          exact X_11 _ _ _ hw (lv_sub hl [2, 3] rfl)
        · refine lv_iload_n hx hb dX1_payOut_24 rfl (lv_at hl 3 rfl) ?_
          refine lv_aload_n hx hb dX1_payOut_25 rfl (lv_at hl 0 rfl) ?_
          refine lv_iload_n hx hb dX1_payOut_26 rfl (lv_at hl 1 rfl) ?_
          refine lv_iload hx hb dX1_payOut_27 (lv_at hl 4 rfl) ?_
          obtain ⟨r_9, hf, h⟩ := b1_inv h
          refine k_callV (host := "") fx hK hA hw (c_X1_debt l D k xh xrNa xrMo xrWa xrDe _ xPe xDa xDr xNa xMo_4 xWa xDe_5 p1 v4_3 r_9 hf) (cwV 2 hts gX1_payOut_X1_debt rfl rfl rfl (by decide +kernel) ⟨by decide, by decide⟩) (As := [.int p1, .int v4_3]) (wr := []) (ws' := wX1 k xh xrNa xrMo xrWa xrDe xPe xDa xDr xNa xMo_4 xWa xDe_5) [0, 1, 2, 3, 4] [] [0, 1, 2, 3, 4] rfl rfl (by decide) (by decide) (by decide) rfl (by decide) 1 rfl rfl [.int v3_2] rfl hl.1 rfl (Nat.le_of_ble_eq_true rfl) dX1_payOut_29 ⟨by decide, by decide⟩ (fun H locs (hw : Wd D A s.heap H locs (wX1 k xh xrNa xrMo xrWa xrDe xPe xDa xDr xNa xMo_4 xWa xDe_5)) => ?_)
          refine W.eq (g2 := F0 m 32 ls ([.int r_9, .int v3_2])) rfl ?_
          refine k_min fx hl.1 q_2 q_3 q_4 q_5 (by decide) (Nat.le_of_ble_eq_true rfl) ⟨by decide, by decide⟩ dX1_payOut_32 h (fun z_10 h => ?_)
          refine lv_istore (lv' := [(5, .int z_10), (0, .ref xh), (1, .int p1), (2, .int r_1), (3, .int v3_2), (4, .int v4_3)]) hx hb dX1_payOut_35 hl (by decide) rfl (fun ls hl => ?_)
          refine lv_iload hx hb dX1_payOut_37 (lv_at hl 0 rfl) ?_
          refine kb_if_le (tgt := 56) hx hb dX1_payOut_39 (by decide) h (fun c_39 h => ?_) (fun c_39 h => ?_)
          · refine lv_iinc (v := v4_3 + 1) (lv' := [(4, .int (v4_3 + 1)), (5, .int z_10), (0, .ref xh), (1, .int p1), (2, .int r_1), (3, .int v3_2)]) hx hb dX1_payOut_56 hl (k := 5) rfl rfl (by decide) rfl (fun ls hl => ?_)
            refine lv_goto (tgt := 11) hx hb dX1_payOut_59 (by decide) ?_
            exact ih _ _ _ _ h _ _ _ hw (lv_sub hl [2, 3, 4, 5, 0] rfl)
          · refine lv_aload_n hx hb dX1_payOut_42 rfl (lv_at hl 1 rfl) ?_
            refine lv_iload_n hx hb dX1_payOut_43 rfl (lv_at hl 2 rfl) ?_
            refine lv_iload hx hb dX1_payOut_44 (lv_at hl 5 rfl) ?_
            refine lv_iload hx hb dX1_payOut_46 (lv_at hl 0 rfl) ?_
            obtain ⟨xMo_11, xDe_12, hf, h⟩ := b2_inv h
            refine k_callV (host := "") fx hK hA hw (c_X1_handOver l D k xh xrNa xrMo xrWa xrDe _ xPe xDa xDr xNa xMo_4 xWa xDe_5 p1 v4_3 z_10 xMo_11 xDe_12 hf) (cwV 3 hts gX1_payOut_X1_handOver rfl rfl rfl (by decide +kernel) ⟨by decide, by decide⟩) (As := [.int p1, .int v4_3, .int z_10]) (wr := []) (ws' := wX1 k xh xrNa xrMo xrWa xrDe xPe xDa xDr xNa xMo_11 xWa xDe_12) [0, 1, 2, 3, 4] [] [0, 1, 2, 3, 4] rfl rfl (by decide) (by decide) (by decide) rfl (by decide) 1 rfl rfl [] rfl hl.1 rfl (Nat.le_of_ble_eq_true rfl) dX1_payOut_48 ⟨by decide, by decide⟩ (fun H locs (hw : Wd D A s.heap H locs (wX1 k xh xrNa xrMo xrWa xrDe xPe xDa xDr xNa xMo_11 xWa xDe_12)) => ?_)
            refine W.eq (g2 := F0 m 51 ls ([])) rfl ?_
            refine lv_iload_n hx hb dX1_payOut_51 rfl (lv_at hl 4 rfl) ?_
            refine lv_iload hx hb dX1_payOut_52 (lv_at hl 0 rfl) ?_
            refine lv_isub hx hb dX1_payOut_54 ?_
            refine lv_istore_n (lv' := [(3, .int (v3_2 - z_10)), (5, .int z_10), (0, .ref xh), (1, .int p1), (2, .int r_1), (4, .int v4_3)]) hx hb dX1_payOut_55 rfl hl (by decide) rfl (fun ls hl => ?_)
            refine lv_iinc (v := v4_3 + 1) (lv' := [(4, .int (v4_3 + 1)), (3, .int (v3_2 - z_10)), (5, .int z_10), (0, .ref xh), (1, .int p1), (2, .int r_1)]) hx hb dX1_payOut_56 hl (k := 5) rfl rfl (by decide) rfl (fun ls hl => ?_)
            refine lv_goto (tgt := 11) hx hb dX1_payOut_59 (by decide) ?_
            exact ih _ _ _ _ h _ _ _ hw (lv_sub hl [3, 4, 5, 1, 0] rfl)
  exact LP_11 400 r_1 0 xMo xDe hL_11 _ _ _ hw (lv_sub hl [3, 4, 2, 1, 0] rfl)
abbrev rmX1_runDay : Room := { frames := 3, cells := 0, slots := 0, locals := 71 }
set_option maxHeartbeats 4000000 in
set_option maxRecDepth 100000 in
theorem c_X1_runDay (l : Launch) (D : va_G) (k : Nat → ClassId) (xh xrNa xrMo xrWa xrDe : Nat) (sz : Nat) (xPe : Int32) (xDa : Int32) (xDr : Int32) (xNa : (Nat → Int32)) (xMo : (Nat → Int32)) (xWa : (Nat → Int32)) (xDe : (Nat → Int32)) (p1 : Int32) (r_ : Int32) (n_xDa : Int32) (n_xMo : (Nat → Int32)) (n_xDe : (Nat → Int32)) (hf : f_X1_runDay xPe xDa xNa xMo xWa xDe p1 = some (r_, n_xDa, n_xMo, n_xDe)) : mR l yX1_runDay wsX1_runDay rmX1_runDay D k sz [.ref xh, .int p1] (wX1 k xh xrNa xrMo xrWa xrDe xPe xDa xDr xNa xMo xWa xDe) (wX1 k xh xrNa xrMo xrWa xrDe xPe n_xDa xDr xNa n_xMo xWa n_xDe) (some (.int r_)) := by
  refine mR_of (cc := cX1_runDay) (maxL := 4) (ret := some .int) (by decide) rfl (Nat.le_of_ble_eq_true rfl) [(0, .ref xh), (1, .int p1)] rfl ?_
  intro p e s m below meth c A ls args Q cx hK hA hw hl hQ
  have fx := cx.1
  obtain ⟨⟨hx, hb, hml, hown, hts⟩, hr, hlocks⟩ := cx
  have hinX1 : ∀ w ∈ wsX10, w ∈ wsX1_runDay := fun w h => List.mem_cons_of_mem _ (List.mem_append_right _ h)
  have q_1 := hts (.fieldLink RX1 24 "DebtRides$Land" "people" "I") (List.mem_of_getElem? (i := 1) rfl)
  have q_2 := hts (.fieldLink RX1 18 "DebtRides$Land" "wage" "[I") (List.mem_of_getElem? (i := 2) rfl)
  have q_3 := hts (.methodLink RX1 60 Lib.Math.max.name) (List.mem_of_getElem? (i := 3) rfl)
  have q_4 := hts (.static Lib.Math.max.name) (List.mem_of_getElem? (i := 4) rfl)
  have q_5 := hts (.initialized "java/lang/Math") (List.mem_of_getElem? (i := 5) rfl)
  have q_6 := hts (.code Lib.Math.max.name Lib.Math.max.code 2 (some .int)) (List.mem_of_getElem? (i := 6) rfl)
  have q_7 := hts (.fieldLink RX1 28 "DebtRides$Land" "dayNumber" "I") (List.mem_of_getElem? (i := 7) rfl)
  have h := hf
  unfold f_X1_runDay at h
  clear hf
  refine lv_iconst (v := 0) hx hb dX1_runDay_0 (by decide) ?_
  refine lv_istore_n (lv' := [(2, .int 0), (0, .ref xh), (1, .int p1)]) hx hb dX1_runDay_1 rfl hl (by decide) rfl (fun ls hl => ?_)
  obtain ⟨xMo_3, hL_2, h⟩ := b1_inv h
  have X_2 : ∀ (H : Heap) (locs : List Loc) (ls : Array Slot), Wd D A s.heap H locs (wX1 k xh xrNa xrMo xrWa xrDe xPe xDa xDr xNa xMo_3 xWa xDe) → lv_has ls 4 [(0, .ref xh)] → W p l e rmX1_runDay s m args below meth c H locs 0 0 Q (F0 m 33 ls []) := by
    intro H locs ls hw hl
    refine lv_iconst (v := 0) hx hb dX1_runDay_33 (by decide) ?_
    refine lv_istore_n (lv' := [(2, .int 0), (0, .ref xh)]) hx hb dX1_runDay_34 rfl hl (by decide) rfl (fun ls hl => ?_)
    refine lv_iconst (v := 0) hx hb dX1_runDay_35 (by decide) ?_
    refine lv_istore_n (lv' := [(3, .int 0), (2, .int 0), (0, .ref xh)]) hx hb dX1_runDay_36 rfl hl (by decide) rfl (fun ls hl => ?_)
    obtain ⟨v2_11, xMo_12, xDe_13, hL_37, h⟩ := b3_inv h
    have X_37 : ∀ (H : Heap) (locs : List Loc) (ls : Array Slot), Wd D A s.heap H locs (wX1 k xh xrNa xrMo xrWa xrDe xPe xDa xDr xNa xMo_12 xWa xDe_13) → lv_has ls 4 [(0, .ref xh), (2, .int v2_11)] → W p l e rmX1_runDay s m args below meth c H locs 0 0 Q (F0 m 59 ls []) := by
      intro H locs ls hw hl
      refine lv_aload_n hx hb dX1_runDay_59 rfl (lv_at hl 0 rfl) ?_
      refine lv_dup hx hb dX1_runDay_60 rfl ?_
      refine va_get (ci := 1) (v := .int xDa) (C := RX1) (T := TX1) (N := 7) hx hb hts hinX1 hown hK.1 hw.1 0 rfl rfl 1 (by decide) q_7 (fun _ h9 => h9) rfl dX1_runDay_61 ?_
      refine lv_iconst (v := 1) hx hb dX1_runDay_64 (by decide) ?_
      refine lv_iadd hx hb dX1_runDay_65 ?_
      refine va_put (ci := 1) (v := .int (xDa + 1)) (ty := tyX1 1) (C := RX1) (T := TX1) (N := 7) hx hb hts hinX1 tyX1 tyX1_ok nmX1 hown hK.1 hw.1 hw.2.1 hw.2.2 0 rfl rfl 1 (by decide) q_7 (fun _ h9 => h9) rfl (tyX1_ok 1 (by decide)) rfl rfl (Nat.le_of_ble_eq_true rfl) dX1_runDay_66 (fun H locs hP hD hS => ?_)
      have hw : Wd D A s.heap H locs (wX1 k xh xrNa xrMo xrWa xrDe xPe (xDa + 1) xDr xNa xMo_12 xWa xDe_13) := ⟨hP, hD, hS⟩
      refine lv_iload_n hx hb dX1_runDay_69 rfl (lv_at hl 1 rfl) ?_
      cases h
      exact k_iret hx hb hr hlocks hw rfl dX1_runDay_70 hQ
    clear h
    have LP_37 : ∀ (n : Nat) (v2_7 : Int32) (v3_8 : Int32) (xMo_9 : (Nat → Int32)) (xDe_10 : (Nat → Int32)), f_X1_runDay_L37 xPe xNa n v2_7 v3_8 xMo_9 xDe_10 = some (v2_11, xMo_12, xDe_13) → ∀ (H : Heap) (locs : List Loc) (ls : Array Slot), Wd D A s.heap H locs (wX1 k xh xrNa xrMo xrWa xrDe xPe xDa xDr xNa xMo_9 xWa xDe_10) → lv_has ls 4 [(0, .ref xh), (2, .int v2_7), (3, .int v3_8)] → W p l e rmX1_runDay s m args below meth c H locs 0 0 Q (F0 m 37 ls []) := by
      clear hL_37 hw hl
      intro n
      induction n with
      | zero => intro v2_7 v3_8 xMo_9 xDe_10 h; rw [f_X1_runDay_L37] at h; cases h
      | succ n ih =>
        intro v2_7 v3_8 xMo_9 xDe_10 h H locs ls hw hl
        rw [f_X1_runDay_L37] at h
        refine lv_iload_n hx hb dX1_runDay_37 rfl (lv_at hl 2 rfl) ?_
        refine lv_aload_n hx hb dX1_runDay_38 rfl (lv_at hl 0 rfl) ?_
        refine va_get (ci := 1) (v := .int xPe) (C := RX1) (T := TX1) (N := 7) hx hb hts hinX1 hown hK.1 hw.1 0 rfl rfl 0 (by decide) q_1 (fun _ h9 => h9) rfl dX1_runDay_39 ?_
        refine kb_icmp_ge (tgt := 59) hx hb dX1_runDay_42 (by decide) h (fun c_42 h => ?_) (fun c_42 h => ?_)
        · cases h
          exact X_37 _ _ _ hw (lv_sub hl [0, 1] rfl)
        · refine lv_iload_n hx hb dX1_runDay_45 rfl (lv_at hl 1 rfl) ?_
          refine lv_aload_n hx hb dX1_runDay_46 rfl (lv_at hl 0 rfl) ?_
          refine lv_iload_n hx hb dX1_runDay_47 rfl (lv_at hl 2 rfl) ?_
          obtain ⟨r_14, xMo_15, xDe_16, hf, h⟩ := b3_inv h
          refine k_callV (host := "") fx hK hA hw (c_X1_payOut l D k xh xrNa xrMo xrWa xrDe _ xPe xDa xDr xNa xMo_9 xWa xDe_10 v3_8 r_14 xMo_15 xDe_16 hf) (cwV 1 hts gX1_runDay_X1_payOut rfl rfl rfl (by decide +kernel) ⟨by decide, by decide⟩) (As := [.int v3_8]) (wr := []) (ws' := wX1 k xh xrNa xrMo xrWa xrDe xPe xDa xDr xNa xMo_15 xWa xDe_16) [0, 1, 2, 3, 4] [] [0, 1, 2, 3, 4] rfl rfl (by decide) (by decide) (by decide) rfl (by decide) 1 rfl rfl [.int v2_7] rfl hl.1 rfl (Nat.le_of_ble_eq_true rfl) dX1_runDay_48 ⟨by decide, by decide⟩ (fun H locs (hw : Wd D A s.heap H locs (wX1 k xh xrNa xrMo xrWa xrDe xPe xDa xDr xNa xMo_15 xWa xDe_16)) => ?_)
          refine W.eq (g2 := F0 m 51 ls ([.int r_14, .int v2_7])) rfl ?_
          refine lv_iadd hx hb dX1_runDay_51 ?_
          refine lv_istore_n (lv' := [(2, .int (v2_7 + r_14)), (0, .ref xh), (3, .int v3_8)]) hx hb dX1_runDay_52 rfl hl (by decide) rfl (fun ls hl => ?_)
          refine lv_iinc (v := v3_8 + 1) (lv' := [(3, .int (v3_8 + 1)), (2, .int (v2_7 + r_14)), (0, .ref xh)]) hx hb dX1_runDay_53 hl (k := 2) rfl rfl (by decide) rfl (fun ls hl => ?_)
          refine lv_goto (tgt := 37) hx hb dX1_runDay_56 (by decide) ?_
          exact ih _ _ _ _ h _ _ _ hw (lv_sub hl [2, 1, 0] rfl)
    exact LP_37 400 0 0 xMo_3 xDe hL_37 _ _ _ hw (lv_sub hl [2, 1, 0] rfl)
  clear h
  have LP_2 : ∀ (n : Nat) (v2_1 : Int32) (xMo_2 : (Nat → Int32)), f_X1_runDay_L2 xPe xWa p1 n v2_1 xMo_2 = some xMo_3 → ∀ (H : Heap) (locs : List Loc) (ls : Array Slot), Wd D A s.heap H locs (wX1 k xh xrNa xrMo xrWa xrDe xPe xDa xDr xNa xMo_2 xWa xDe) → lv_has ls 4 [(0, .ref xh), (1, .int p1), (2, .int v2_1)] → W p l e rmX1_runDay s m args below meth c H locs 0 0 Q (F0 m 2 ls []) := by
    clear hL_2 hw hl
    intro n
    induction n with
    | zero => intro v2_1 xMo_2 h; rw [f_X1_runDay_L2] at h; cases h
    | succ n ih =>
      intro v2_1 xMo_2 h H locs ls hw hl
      rw [f_X1_runDay_L2] at h
      refine lv_iload_n hx hb dX1_runDay_2 rfl (lv_at hl 2 rfl) ?_
      refine lv_aload_n hx hb dX1_runDay_3 rfl (lv_at hl 0 rfl) ?_
      refine va_get (ci := 1) (v := .int xPe) (C := RX1) (T := TX1) (N := 7) hx hb hts hinX1 hown hK.1 hw.1 0 rfl rfl 0 (by decide) q_1 (fun _ h9 => h9) rfl dX1_runDay_4 ?_
      refine kb_icmp_ge (tgt := 33) hx hb dX1_runDay_7 (by decide) h (fun c_7 h => ?_) (fun c_7 h => ?_)
      · cases h
        exact X_2 _ _ _ hw (lv_sub hl [0] rfl)
      · refine lv_aload_n hx hb dX1_runDay_10 rfl (lv_at hl 0 rfl) ?_
        refine lv_iload_n hx hb dX1_runDay_11 rfl (lv_at hl 2 rfl) ?_
        refine lv_iconst (v := 0) hx hb dX1_runDay_12 (by decide) ?_
        refine lv_aload_n hx hb dX1_runDay_13 rfl (lv_at hl 0 rfl) ?_
        refine va_get (ci := 1) (v := .ref xrWa) (C := RX1) (T := TX1) (N := 7) hx hb hts hinX1 hown hK.1 hw.1 0 rfl rfl 5 (by decide) q_2 (fun _ h9 => h9) rfl dX1_runDay_14 ?_
        refine lv_iload_n hx hb dX1_runDay_17 rfl (lv_at hl 2 rfl) ?_
        refine k_iald hx hb hK hw 3 rfl dX1_runDay_18 h (fun a_4 h => ?_)
        refine lv_iload_n hx hb dX1_runDay_19 rfl (lv_at hl 1 rfl) ?_
        refine lv_isub hx hb dX1_runDay_20 ?_
        refine k_max fx hl.1 q_3 q_4 q_5 q_6 (by decide) (Nat.le_of_ble_eq_true rfl) ⟨by decide, by decide⟩ dX1_runDay_21 h (fun z_5 h => ?_)
        obtain ⟨xMo_6, hf, h⟩ := b1_inv h
        refine k_callV (host := "") fx hK hA hw (c_X1_gain l D k xh xrNa xrMo xrWa xrDe _ xPe xDa xDr xNa xMo_2 xWa xDe v2_1 z_5 xMo_6 hf) (cwV 2 hts gX1_runDay_X1_gain rfl rfl rfl (by decide +kernel) ⟨by decide, by decide⟩) (As := [.int v2_1, .int z_5]) (wr := []) (ws' := wX1 k xh xrNa xrMo xrWa xrDe xPe xDa xDr xNa xMo_6 xWa xDe) [0, 1, 2, 3, 4] [] [0, 1, 2, 3, 4] rfl rfl (by decide) (by decide) (by decide) rfl (by decide) 1 rfl rfl [] rfl hl.1 rfl (Nat.le_of_ble_eq_true rfl) dX1_runDay_24 ⟨by decide, by decide⟩ (fun H locs (hw : Wd D A s.heap H locs (wX1 k xh xrNa xrMo xrWa xrDe xPe xDa xDr xNa xMo_6 xWa xDe)) => ?_)
        refine W.eq (g2 := F0 m 27 ls ([])) rfl ?_
        refine lv_iinc (v := v2_1 + 1) (lv' := [(2, .int (v2_1 + 1)), (0, .ref xh), (1, .int p1)]) hx hb dX1_runDay_27 hl (k := 2) rfl rfl (by decide) rfl (fun ls hl => ?_)
        refine lv_goto (tgt := 2) hx hb dX1_runDay_30 (by decide) ?_
        exact ih _ _ h _ _ _ hw (lv_sub hl [1, 2, 0] rfl)
  exact LP_2 400 0 xMo hL_2 _ _ _ hw (lv_sub hl [1, 2, 0] rfl)
abbrev rmX1_runDays : Room := { frames := 4, cells := 0, slots := 0, locals := 94 }
set_option maxHeartbeats 4000000 in
set_option maxRecDepth 100000 in
theorem c_X1_runDays (l : Launch) (D : va_G) (k : Nat → ClassId) (xh xrNa xrMo xrWa xrDe : Nat) (sz : Nat) (xPe : Int32) (xDa : Int32) (xDr : Int32) (xNa : (Nat → Int32)) (xMo : (Nat → Int32)) (xWa : (Nat → Int32)) (xDe : (Nat → Int32)) (p1 : Int32) (r_ : Int32) (n_xDa : Int32) (n_xMo : (Nat → Int32)) (n_xDe : (Nat → Int32)) (hf : f_X1_runDays xPe xDa xDr xNa xMo xWa xDe p1 = some (r_, n_xDa, n_xMo, n_xDe)) : mR l yX1_runDays wsX1_runDays rmX1_runDays D k sz [.ref xh, .int p1] (wX1 k xh xrNa xrMo xrWa xrDe xPe xDa xDr xNa xMo xWa xDe) (wX1 k xh xrNa xrMo xrWa xrDe xPe n_xDa xDr xNa n_xMo xWa n_xDe) (some (.int r_)) := by
  refine mR_of (cc := cX1_runDays) (maxL := 4) (ret := some .int) (by decide) rfl (Nat.le_of_ble_eq_true rfl) [(0, .ref xh), (1, .int p1)] rfl ?_
  intro p e s m below meth c A ls args Q cx hK hA hw hl hQ
  have fx := cx.1
  obtain ⟨⟨hx, hb, hml, hown, hts⟩, hr, hlocks⟩ := cx
  have hinX1 : ∀ w ∈ wsX10, w ∈ wsX1_runDays := fun w h => List.mem_cons_of_mem _ (List.mem_append_right _ h)
  have q_1 := hts (.fieldLink RX1 31 "DebtRides$Land" "dryness" "I") (List.mem_of_getElem? (i := 1) rfl)
  have h := hf
  unfold f_X1_runDays at h
  clear hf
  refine lv_iconst (v := 0) hx hb dX1_runDays_0 (by decide) ?_
  refine lv_istore_n (lv' := [(2, .int 0), (0, .ref xh), (1, .int p1)]) hx hb dX1_runDays_1 rfl hl (by decide) rfl (fun ls hl => ?_)
  refine lv_iconst (v := 0) hx hb dX1_runDays_2 (by decide) ?_
  refine lv_istore_n (lv' := [(3, .int 0), (2, .int 0), (0, .ref xh), (1, .int p1)]) hx hb dX1_runDays_3 rfl hl (by decide) rfl (fun ls hl => ?_)
  obtain ⟨v2_6, xDa_7, xMo_8, xDe_9, hL_4, h⟩ := b4_inv h
  have X_4 : ∀ (H : Heap) (locs : List Loc) (ls : Array Slot), Wd D A s.heap H locs (wX1 k xh xrNa xrMo xrWa xrDe xPe xDa_7 xDr xNa xMo_8 xWa xDe_9) → lv_has ls 4 [(2, .int v2_6)] → W p l e rmX1_runDays s m args below meth c H locs 0 0 Q (F0 m 26 ls []) := by
    intro H locs ls hw hl
    refine lv_iload_n hx hb dX1_runDays_26 rfl (lv_at hl 0 rfl) ?_
    cases h
    exact k_iret hx hb hr hlocks hw rfl dX1_runDays_27 hQ
  clear h
  have LP_4 : ∀ (n : Nat) (v2_1 : Int32) (v3_2 : Int32) (xDa_3 : Int32) (xMo_4 : (Nat → Int32)) (xDe_5 : (Nat → Int32)), f_X1_runDays_L4 xPe xDr xNa xWa p1 n v2_1 v3_2 xDa_3 xMo_4 xDe_5 = some (v2_6, xDa_7, xMo_8, xDe_9) → ∀ (H : Heap) (locs : List Loc) (ls : Array Slot), Wd D A s.heap H locs (wX1 k xh xrNa xrMo xrWa xrDe xPe xDa_3 xDr xNa xMo_4 xWa xDe_5) → lv_has ls 4 [(0, .ref xh), (1, .int p1), (2, .int v2_1), (3, .int v3_2)] → W p l e rmX1_runDays s m args below meth c H locs 0 0 Q (F0 m 4 ls []) := by
    clear hL_4 hw hl
    intro n
    induction n with
    | zero => intro v2_1 v3_2 xDa_3 xMo_4 xDe_5 h; rw [f_X1_runDays_L4] at h; cases h
    | succ n ih =>
      intro v2_1 v3_2 xDa_3 xMo_4 xDe_5 h H locs ls hw hl
      rw [f_X1_runDays_L4] at h
      refine lv_iload_n hx hb dX1_runDays_4 rfl (lv_at hl 3 rfl) ?_
      refine lv_iload_n hx hb dX1_runDays_5 rfl (lv_at hl 1 rfl) ?_
      refine kb_icmp_ge (tgt := 26) hx hb dX1_runDays_6 (by decide) h (fun c_6 h => ?_) (fun c_6 h => ?_)
      · cases h
        exact X_4 _ _ _ hw (lv_sub hl [2] rfl)
      · refine lv_iload_n hx hb dX1_runDays_9 rfl (lv_at hl 2 rfl) ?_
        refine lv_aload_n hx hb dX1_runDays_10 rfl (lv_at hl 0 rfl) ?_
        refine lv_aload_n hx hb dX1_runDays_11 rfl (lv_at hl 0 rfl) ?_
        refine va_get (ci := 1) (v := .int xDr) (C := RX1) (T := TX1) (N := 7) hx hb hts hinX1 hown hK.1 hw.1 0 rfl rfl 2 (by decide) q_1 (fun _ h9 => h9) rfl dX1_runDays_12 ?_
        obtain ⟨r_10, xDa_11, xMo_12, xDe_13, hf, h⟩ := b4_inv h
        refine k_callV (host := "") fx hK hA hw (c_X1_runDay l D k xh xrNa xrMo xrWa xrDe _ xPe xDa_3 xDr xNa xMo_4 xWa xDe_5 xDr r_10 xDa_11 xMo_12 xDe_13 hf) (cwV 1 hts gX1_runDays_X1_runDay rfl rfl rfl (by decide +kernel) ⟨by decide, by decide⟩) (As := [.int xDr]) (wr := []) (ws' := wX1 k xh xrNa xrMo xrWa xrDe xPe xDa_11 xDr xNa xMo_12 xWa xDe_13) [0, 1, 2, 3, 4] [] [0, 1, 2, 3, 4] rfl rfl (by decide) (by decide) (by decide) rfl (by decide) 1 rfl rfl [.int v2_1] rfl hl.1 rfl (Nat.le_of_ble_eq_true rfl) dX1_runDays_15 ⟨by decide, by decide⟩ (fun H locs (hw : Wd D A s.heap H locs (wX1 k xh xrNa xrMo xrWa xrDe xPe xDa_11 xDr xNa xMo_12 xWa xDe_13)) => ?_)
        refine W.eq (g2 := F0 m 18 ls ([.int r_10, .int v2_1])) rfl ?_
        refine lv_iadd hx hb dX1_runDays_18 ?_
        refine lv_istore_n (lv' := [(2, .int (v2_1 + r_10)), (0, .ref xh), (1, .int p1), (3, .int v3_2)]) hx hb dX1_runDays_19 rfl hl (by decide) rfl (fun ls hl => ?_)
        refine lv_iinc (v := v3_2 + 1) (lv' := [(3, .int (v3_2 + 1)), (2, .int (v2_1 + r_10)), (0, .ref xh), (1, .int p1)]) hx hb dX1_runDays_20 hl (k := 3) rfl rfl (by decide) rfl (fun ls hl => ?_)
        refine lv_goto (tgt := 4) hx hb dX1_runDays_23 (by decide) ?_
        exact ih _ _ _ _ _ h _ _ _ hw (lv_sub hl [2, 3, 1, 0] rfl)
  exact LP_4 400 0 0 xDa xMo xDe hL_4 _ _ _ hw (lv_sub hl [2, 3, 1, 0] rfl)
abbrev rmX1_ridersInTheEnd : Room := { frames := 4, cells := 0, slots := 0, locals := 94 }
set_option maxHeartbeats 4000000 in
set_option maxRecDepth 100000 in
theorem c_X1_ridersInTheEnd (l : Launch) (D : va_G) (k : Nat → ClassId) (xh xrNa xrMo xrWa xrDe : Nat) (sz : Nat) (xPe : Int32) (xDa : Int32) (xDr : Int32) (xNa : (Nat → Int32)) (xMo : (Nat → Int32)) (xWa : (Nat → Int32)) (xDe : (Nat → Int32)) (r_ : Int32) (n_xDa : Int32) (n_xMo : (Nat → Int32)) (n_xDe : (Nat → Int32)) (hf : f_X1_ridersInTheEnd xPe xDa xDr xNa xMo xWa xDe = some (r_, n_xDa, n_xMo, n_xDe)) : mR l yX1_ridersInTheEnd wsX1_ridersInTheEnd rmX1_ridersInTheEnd D k sz [.ref xh] (wX1 k xh xrNa xrMo xrWa xrDe xPe xDa xDr xNa xMo xWa xDe) (wX1 k xh xrNa xrMo xrWa xrDe xPe n_xDa xDr xNa n_xMo xWa n_xDe) (some (.int r_)) := by
  refine mR_of (cc := cX1_ridersInTheEnd) (maxL := 2) (ret := some .int) (by decide) rfl (Nat.le_of_ble_eq_true rfl) [(0, .ref xh)] rfl ?_
  intro p e s m below meth c A ls args Q cx hK hA hw hl hQ
  have fx := cx.1
  obtain ⟨⟨hx, hb, hml, hown, hts⟩, hr, hlocks⟩ := cx
  have hinX1 : ∀ w ∈ wsX10, w ∈ wsX1_ridersInTheEnd := fun w h => List.mem_cons_of_mem _ (List.mem_append_right _ h)
  have q_1 := hts (.fieldLink RX1 31 "DebtRides$Land" "dryness" "I") (List.mem_of_getElem? (i := 1) rfl)
  have h := hf
  unfold f_X1_ridersInTheEnd at h
  clear hf
  refine lv_iconst (v := 0) hx hb dX1_ridersInTheEnd_0 (by decide) ?_
  refine lv_istore_n (lv' := [(1, .int 0), (0, .ref xh)]) hx hb dX1_ridersInTheEnd_1 rfl hl (by decide) rfl (fun ls hl => ?_)
  obtain ⟨xDa_5, xMo_6, xDe_7, hL_2, h⟩ := b3_inv h
  have X_2 : ∀ (H : Heap) (locs : List Loc) (ls : Array Slot), Wd D A s.heap H locs (wX1 k xh xrNa xrMo xrWa xrDe xPe xDa_5 xDr xNa xMo_6 xWa xDe_7) → lv_has ls 2 [(0, .ref xh)] → W p l e rmX1_ridersInTheEnd s m args below meth c H locs 0 0 Q (F0 m 23 ls []) := by
    intro H locs ls hw hl
    refine lv_aload_n hx hb dX1_ridersInTheEnd_23 rfl (lv_at hl 0 rfl) ?_
    obtain ⟨r_12, hf, h⟩ := b1_inv h
    refine k_callV (host := "") fx hK hA hw (c_X1_riders l D k xh xrNa xrMo xrWa xrDe _ xPe xDa_5 xDr xNa xMo_6 xWa xDe_7 r_12 hf) (cwV 0 hts gX1_ridersInTheEnd_X1_riders rfl rfl rfl (by decide +kernel) ⟨by decide, by decide⟩) (As := []) (wr := []) (ws' := wX1 k xh xrNa xrMo xrWa xrDe xPe xDa_5 xDr xNa xMo_6 xWa xDe_7) [0, 1, 2, 3, 4] [] [0, 1, 2, 3, 4] rfl rfl (by decide) (by decide) (by decide) rfl (by decide) 1 rfl rfl [] rfl hl.1 rfl (Nat.le_of_ble_eq_true rfl) dX1_ridersInTheEnd_24 ⟨by decide, by decide⟩ (fun H locs (hw : Wd D A s.heap H locs (wX1 k xh xrNa xrMo xrWa xrDe xPe xDa_5 xDr xNa xMo_6 xWa xDe_7)) => ?_)
    refine W.eq (g2 := F0 m 27 ls ([.int r_12])) rfl ?_
    obtain ⟨r_13, hf, h⟩ := b1_inv h
    refine k_callS (b := 0) (C := "") (host := "") fx hK hA hw (c_J6_bitCount_0f7a4 l D k _ r_12 r_13 hf) (va_cwS 1 hts gX1_ridersInTheEnd_J6_bitCount_0f7a4 rfl rfl rfl (by decide +kernel) ⟨by decide, by decide⟩) (As := [.int r_12]) (wr := [(xh, .inr (1, [.int xPe, .int xDa_5, .int xDr, .ref xrNa, .ref xrMo, .ref xrWa, .ref xrDe])), (xrNa, .inl (k 0, 5, .inl xNa)), (xrMo, .inl (k 0, 5, .inl xMo_6)), (xrWa, .inl (k 0, 5, .inl xWa)), (xrDe, .inl (k 0, 25, .inl xDe_7))]) (ws' := wX1 k xh xrNa xrMo xrWa xrDe xPe xDa_5 xDr xNa xMo_6 xWa xDe_7) [] [0, 1, 2, 3, 4] [0, 1, 2, 3, 4] rfl rfl (by decide) (by decide) (by decide) rfl (by decide) [] rfl hl.1 rfl (Nat.le_of_ble_eq_true rfl) dX1_ridersInTheEnd_27 ⟨by decide, by decide⟩ (fun H locs (hw : Wd D A s.heap H locs (wX1 k xh xrNa xrMo xrWa xrDe xPe xDa_5 xDr xNa xMo_6 xWa xDe_7)) => ?_)
    refine W.eq (g2 := F0 m 30 ls ([.int r_13])) rfl ?_
    cases h
    exact k_iret hx hb hr hlocks hw rfl dX1_ridersInTheEnd_30 hQ
  clear h
  have LP_2 : ∀ (n : Nat) (v1_1 : Int32) (xDa_2 : Int32) (xMo_3 : (Nat → Int32)) (xDe_4 : (Nat → Int32)), f_X1_ridersInTheEnd_L2 xPe xDr xNa xWa n v1_1 xDa_2 xMo_3 xDe_4 = some (xDa_5, xMo_6, xDe_7) → ∀ (H : Heap) (locs : List Loc) (ls : Array Slot), Wd D A s.heap H locs (wX1 k xh xrNa xrMo xrWa xrDe xPe xDa_2 xDr xNa xMo_3 xWa xDe_4) → lv_has ls 2 [(0, .ref xh), (1, .int v1_1)] → W p l e rmX1_ridersInTheEnd s m args below meth c H locs 0 0 Q (F0 m 2 ls []) := by
    clear hL_2 hw hl
    intro n
    induction n with
    | zero => intro v1_1 xDa_2 xMo_3 xDe_4 h; rw [f_X1_ridersInTheEnd_L2] at h; cases h
    | succ n ih =>
      intro v1_1 xDa_2 xMo_3 xDe_4 h H locs ls hw hl
      rw [f_X1_ridersInTheEnd_L2] at h
      refine lv_iload_n hx hb dX1_ridersInTheEnd_2 rfl (lv_at hl 1 rfl) ?_
      refine lv_bipush (v := 30) hx hb dX1_ridersInTheEnd_3 (by decide) ?_
      refine kb_icmp_ge (tgt := 23) hx hb dX1_ridersInTheEnd_5 (by decide) h (fun c_5 h => ?_) (fun c_5 h => ?_)
      · cases h
        exact X_2 _ _ _ hw (lv_sub hl [0] rfl)
      · refine lv_aload_n hx hb dX1_ridersInTheEnd_8 rfl (lv_at hl 0 rfl) ?_
        refine lv_aload_n hx hb dX1_ridersInTheEnd_9 rfl (lv_at hl 0 rfl) ?_
        refine va_get (ci := 1) (v := .int xDr) (C := RX1) (T := TX1) (N := 7) hx hb hts hinX1 hown hK.1 hw.1 0 rfl rfl 2 (by decide) q_1 (fun _ h9 => h9) rfl dX1_ridersInTheEnd_10 ?_
        obtain ⟨r_8, xDa_9, xMo_10, xDe_11, hf, h⟩ := b4_inv h
        refine k_callV (host := "") fx hK hA hw (c_X1_runDay l D k xh xrNa xrMo xrWa xrDe _ xPe xDa_2 xDr xNa xMo_3 xWa xDe_4 xDr r_8 xDa_9 xMo_10 xDe_11 hf) (cwV 1 hts gX1_ridersInTheEnd_X1_runDay rfl rfl rfl (by decide +kernel) ⟨by decide, by decide⟩) (As := [.int xDr]) (wr := []) (ws' := wX1 k xh xrNa xrMo xrWa xrDe xPe xDa_9 xDr xNa xMo_10 xWa xDe_11) [0, 1, 2, 3, 4] [] [0, 1, 2, 3, 4] rfl rfl (by decide) (by decide) (by decide) rfl (by decide) 1 rfl rfl [] rfl hl.1 rfl (Nat.le_of_ble_eq_true rfl) dX1_ridersInTheEnd_13 ⟨by decide, by decide⟩ (fun H locs (hw : Wd D A s.heap H locs (wX1 k xh xrNa xrMo xrWa xrDe xPe xDa_9 xDr xNa xMo_10 xWa xDe_11)) => ?_)
        refine W.eq (g2 := F0 m 16 ls ([.int r_8])) rfl ?_
        refine lv_pop hx hb dX1_ridersInTheEnd_16 rfl ?_
        refine lv_iinc (v := v1_1 + 1) (lv' := [(1, .int (v1_1 + 1)), (0, .ref xh)]) hx hb dX1_ridersInTheEnd_17 hl (k := 1) rfl rfl (by decide) rfl (fun ls hl => ?_)
        refine lv_goto (tgt := 2) hx hb dX1_ridersInTheEnd_20 (by decide) ?_
        exact ih _ _ _ _ h _ _ _ hw (lv_sub hl [1, 0] rfl)
  exact LP_2 400 0 xDa xMo xDe hL_2 _ _ _ hw (lv_sub hl [1, 0] rfl)
abbrev rmX1_daysTillRiding : Room := { frames := 4, cells := 0, slots := 0, locals := 94 }
set_option maxHeartbeats 4000000 in
set_option maxRecDepth 100000 in
theorem c_X1_daysTillRiding (l : Launch) (D : va_G) (k : Nat → ClassId) (xh xrNa xrMo xrWa xrDe : Nat) (sz : Nat) (xPe : Int32) (xDa : Int32) (xDr : Int32) (xNa : (Nat → Int32)) (xMo : (Nat → Int32)) (xWa : (Nat → Int32)) (xDe : (Nat → Int32)) (p1 : Int32) (r_ : Int32) (n_xDa : Int32) (n_xMo : (Nat → Int32)) (n_xDe : (Nat → Int32)) (hf : f_X1_daysTillRiding xPe xDa xDr xNa xMo xWa xDe p1 = some (r_, n_xDa, n_xMo, n_xDe)) : mR l yX1_daysTillRiding wsX1_daysTillRiding rmX1_daysTillRiding D k sz [.ref xh, .int p1] (wX1 k xh xrNa xrMo xrWa xrDe xPe xDa xDr xNa xMo xWa xDe) (wX1 k xh xrNa xrMo xrWa xrDe xPe n_xDa xDr xNa n_xMo xWa n_xDe) (some (.int r_)) := by
  refine mR_of (cc := cX1_daysTillRiding) (maxL := 3) (ret := some .int) (by decide) rfl (Nat.le_of_ble_eq_true rfl) [(0, .ref xh), (1, .int p1)] rfl ?_
  intro p e s m below meth c A ls args Q cx hK hA hw hl hQ
  have fx := cx.1
  obtain ⟨⟨hx, hb, hml, hown, hts⟩, hr, hlocks⟩ := cx
  have hinX1 : ∀ w ∈ wsX10, w ∈ wsX1_daysTillRiding := fun w h => List.mem_cons_of_mem _ (List.mem_append_right _ h)
  have q_1 := hts (.fieldLink RX1 31 "DebtRides$Land" "dryness" "I") (List.mem_of_getElem? (i := 1) rfl)
  have h := hf
  unfold f_X1_daysTillRiding at h
  clear hf
  refine lv_iconst (v := 0) hx hb dX1_daysTillRiding_0 (by decide) ?_
  refine lv_istore_n (lv' := [(2, .int 0), (0, .ref xh), (1, .int p1)]) hx hb dX1_daysTillRiding_1 rfl hl (by decide) rfl (fun ls hl => ?_)
  obtain ⟨ex_2, hL_2, hX_2⟩ := bs3_inv h
  clear h
  have X_2 : ∀ (xDa_5 : Int32) (xMo_6 : (Nat → Int32)) (xDe_7 : (Nat → Int32)), ex_2 = Sum.inr (xDa_5, xMo_6, xDe_7) → ∀ (H : Heap) (locs : List Loc) (ls : Array Slot), Wd D A s.heap H locs (wX1 k xh xrNa xrMo xrWa xrDe xPe xDa_5 xDr xNa xMo_6 xWa xDe_7) → lv_has ls 3 [] → W p l e rmX1_daysTillRiding s m args below meth c H locs 0 0 Q (F0 m 33 ls []) := by
    intro xDa_5 xMo_6 xDe_7 hex H locs ls hw hl
    subst hex
    have h := bs3_r hX_2
    refine lv_bipush (v := (-4)) hx hb dX1_daysTillRiding_33 (by decide) ?_
    cases h
    exact k_iret hx hb hr hlocks hw rfl dX1_daysTillRiding_35 hQ
  have LP_2 : ∀ (n : Nat) (v2_1 : Int32) (xDa_2 : Int32) (xMo_3 : (Nat → Int32)) (xDe_4 : (Nat → Int32)), f_X1_daysTillRiding_L2 xPe xDr xNa xWa p1 n v2_1 xDa_2 xMo_3 xDe_4 = some ex_2 → ∀ (H : Heap) (locs : List Loc) (ls : Array Slot), Wd D A s.heap H locs (wX1 k xh xrNa xrMo xrWa xrDe xPe xDa_2 xDr xNa xMo_3 xWa xDe_4) → lv_has ls 3 [(0, .ref xh), (1, .int p1), (2, .int v2_1)] → W p l e rmX1_daysTillRiding s m args below meth c H locs 0 0 Q (F0 m 2 ls []) := by
    clear hL_2 hw hl
    intro n
    induction n with
    | zero => intro v2_1 xDa_2 xMo_3 xDe_4 h; rw [f_X1_daysTillRiding_L2] at h; cases h
    | succ n ih =>
      intro v2_1 xDa_2 xMo_3 xDe_4 h H locs ls hw hl
      rw [f_X1_daysTillRiding_L2] at h
      refine lv_iload_n hx hb dX1_daysTillRiding_2 rfl (lv_at hl 2 rfl) ?_
      refine lv_bipush (v := 60) hx hb dX1_daysTillRiding_3 (by decide) ?_
      refine kb_icmp_gt (tgt := 33) hx hb dX1_daysTillRiding_5 (by decide) h (fun c_5 h => ?_) (fun c_5 h => ?_)
      · cases h
        exact X_2 _ _ _ rfl _ _ _ hw (lv_sub hl [] rfl)
      · refine lv_aload_n hx hb dX1_daysTillRiding_8 rfl (lv_at hl 0 rfl) ?_
        refine lv_iload_n hx hb dX1_daysTillRiding_9 rfl (lv_at hl 1 rfl) ?_
        obtain ⟨r_8, hf, h⟩ := b1_inv h
        refine k_callV (host := "") fx hK hA hw (c_X1_isRiding l D k xh xrNa xrMo xrWa xrDe _ xPe xDa_2 xDr xNa xMo_3 xWa xDe_4 p1 r_8 hf) (cwV 1 hts gX1_daysTillRiding_X1_isRiding rfl rfl rfl (by decide +kernel) ⟨by decide, by decide⟩) (As := [.int p1]) (wr := []) (ws' := wX1 k xh xrNa xrMo xrWa xrDe xPe xDa_2 xDr xNa xMo_3 xWa xDe_4) [0, 1, 2, 3, 4] [] [0, 1, 2, 3, 4] rfl rfl (by decide) (by decide) (by decide) rfl (by decide) 1 rfl rfl [] rfl hl.1 rfl (Nat.le_of_ble_eq_true rfl) dX1_daysTillRiding_10 ⟨by decide, by decide⟩ (fun H locs (hw : Wd D A s.heap H locs (wX1 k xh xrNa xrMo xrWa xrDe xPe xDa_2 xDr xNa xMo_3 xWa xDe_4)) => ?_)
        refine W.eq (g2 := F0 m 13 ls ([.int r_8])) rfl ?_
        refine kb_if_eq (tgt := 18) hx hb dX1_daysTillRiding_13 (by decide) h (fun c_13 h => ?_) (fun c_13 h => ?_)
        · refine lv_aload_n hx hb dX1_daysTillRiding_18 rfl (lv_at hl 0 rfl) ?_
          refine lv_aload_n hx hb dX1_daysTillRiding_19 rfl (lv_at hl 0 rfl) ?_
          refine va_get (ci := 1) (v := .int xDr) (C := RX1) (T := TX1) (N := 7) hx hb hts hinX1 hown hK.1 hw.1 0 rfl rfl 2 (by decide) q_1 (fun _ h9 => h9) rfl dX1_daysTillRiding_20 ?_
          obtain ⟨r_9, xDa_10, xMo_11, xDe_12, hf, h⟩ := b4_inv h
          refine k_callV (host := "") fx hK hA hw (c_X1_runDay l D k xh xrNa xrMo xrWa xrDe _ xPe xDa_2 xDr xNa xMo_3 xWa xDe_4 xDr r_9 xDa_10 xMo_11 xDe_12 hf) (cwV 1 hts gX1_daysTillRiding_X1_runDay rfl rfl rfl (by decide +kernel) ⟨by decide, by decide⟩) (As := [.int xDr]) (wr := []) (ws' := wX1 k xh xrNa xrMo xrWa xrDe xPe xDa_10 xDr xNa xMo_11 xWa xDe_12) [0, 1, 2, 3, 4] [] [0, 1, 2, 3, 4] rfl rfl (by decide) (by decide) (by decide) rfl (by decide) 1 rfl rfl [] rfl hl.1 rfl (Nat.le_of_ble_eq_true rfl) dX1_daysTillRiding_23 ⟨by decide, by decide⟩ (fun H locs (hw : Wd D A s.heap H locs (wX1 k xh xrNa xrMo xrWa xrDe xPe xDa_10 xDr xNa xMo_11 xWa xDe_12)) => ?_)
          refine W.eq (g2 := F0 m 26 ls ([.int r_9])) rfl ?_
          refine lv_pop hx hb dX1_daysTillRiding_26 rfl ?_
          refine lv_iinc (v := v2_1 + 1) (lv' := [(2, .int (v2_1 + 1)), (0, .ref xh), (1, .int p1)]) hx hb dX1_daysTillRiding_27 hl (k := 2) rfl rfl (by decide) rfl (fun ls hl => ?_)
          refine lv_goto (tgt := 2) hx hb dX1_daysTillRiding_30 (by decide) ?_
          exact ih _ _ _ _ h _ _ _ hw (lv_sub hl [1, 2, 0] rfl)
        · refine lv_iload_n hx hb dX1_daysTillRiding_16 rfl (lv_at hl 2 rfl) ?_
          cases h
          have h := bs3_l hX_2
          cases h
          exact k_iret hx hb hr hlocks hw rfl dX1_daysTillRiding_17 hQ
  exact LP_2 400 0 xDa xMo xDe hL_2 _ _ _ hw (lv_sub hl [1, 2, 0] rfl)
abbrev rmX1_daysTillAllRide : Room := { frames := 4, cells := 0, slots := 0, locals := 94 }
set_option maxHeartbeats 4000000 in
set_option maxRecDepth 100000 in
theorem c_X1_daysTillAllRide (l : Launch) (D : va_G) (k : Nat → ClassId) (xh xrNa xrMo xrWa xrDe : Nat) (sz : Nat) (xPe : Int32) (xDa : Int32) (xDr : Int32) (xNa : (Nat → Int32)) (xMo : (Nat → Int32)) (xWa : (Nat → Int32)) (xDe : (Nat → Int32)) (p1 : Int32) (r_ : Int32) (n_xDa : Int32) (n_xMo : (Nat → Int32)) (n_xDe : (Nat → Int32)) (hf : f_X1_daysTillAllRide xPe xDa xDr xNa xMo xWa xDe p1 = some (r_, n_xDa, n_xMo, n_xDe)) : mR l yX1_daysTillAllRide wsX1_daysTillAllRide rmX1_daysTillAllRide D k sz [.ref xh, .int p1] (wX1 k xh xrNa xrMo xrWa xrDe xPe xDa xDr xNa xMo xWa xDe) (wX1 k xh xrNa xrMo xrWa xrDe xPe n_xDa xDr xNa n_xMo xWa n_xDe) (some (.int r_)) := by
  refine mR_of (cc := cX1_daysTillAllRide) (maxL := 3) (ret := some .int) (by decide) rfl (Nat.le_of_ble_eq_true rfl) [(0, .ref xh), (1, .int p1)] rfl ?_
  intro p e s m below meth c A ls args Q cx hK hA hw hl hQ
  have fx := cx.1
  obtain ⟨⟨hx, hb, hml, hown, hts⟩, hr, hlocks⟩ := cx
  have hinX1 : ∀ w ∈ wsX10, w ∈ wsX1_daysTillAllRide := fun w h => List.mem_cons_of_mem _ (List.mem_append_right _ h)
  have q_1 := hts (.fieldLink RX1 31 "DebtRides$Land" "dryness" "I") (List.mem_of_getElem? (i := 1) rfl)
  have h := hf
  unfold f_X1_daysTillAllRide at h
  clear hf
  refine lv_iconst (v := 0) hx hb dX1_daysTillAllRide_0 (by decide) ?_
  refine lv_istore_n (lv' := [(2, .int 0), (0, .ref xh), (1, .int p1)]) hx hb dX1_daysTillAllRide_1 rfl hl (by decide) rfl (fun ls hl => ?_)
  obtain ⟨ex_2, hL_2, hX_2⟩ := bs3_inv h
  clear h
  have X_2 : ∀ (xDa_5 : Int32) (xMo_6 : (Nat → Int32)) (xDe_7 : (Nat → Int32)), ex_2 = Sum.inr (xDa_5, xMo_6, xDe_7) → ∀ (H : Heap) (locs : List Loc) (ls : Array Slot), Wd D A s.heap H locs (wX1 k xh xrNa xrMo xrWa xrDe xPe xDa_5 xDr xNa xMo_6 xWa xDe_7) → lv_has ls 3 [] → W p l e rmX1_daysTillAllRide s m args below meth c H locs 0 0 Q (F0 m 31 ls []) := by
    intro xDa_5 xMo_6 xDe_7 hex H locs ls hw hl
    subst hex
    have h := bs3_r hX_2
    refine lv_bipush (v := (-4)) hx hb dX1_daysTillAllRide_31 (by decide) ?_
    cases h
    exact k_iret hx hb hr hlocks hw rfl dX1_daysTillAllRide_33 hQ
  have LP_2 : ∀ (n : Nat) (v2_1 : Int32) (xDa_2 : Int32) (xMo_3 : (Nat → Int32)) (xDe_4 : (Nat → Int32)), f_X1_daysTillAllRide_L2 xPe xDr xNa xWa p1 n v2_1 xDa_2 xMo_3 xDe_4 = some ex_2 → ∀ (H : Heap) (locs : List Loc) (ls : Array Slot), Wd D A s.heap H locs (wX1 k xh xrNa xrMo xrWa xrDe xPe xDa_2 xDr xNa xMo_3 xWa xDe_4) → lv_has ls 3 [(0, .ref xh), (1, .int p1), (2, .int v2_1)] → W p l e rmX1_daysTillAllRide s m args below meth c H locs 0 0 Q (F0 m 2 ls []) := by
    clear hL_2 hw hl
    intro n
    induction n with
    | zero => intro v2_1 xDa_2 xMo_3 xDe_4 h; rw [f_X1_daysTillAllRide_L2] at h; cases h
    | succ n ih =>
      intro v2_1 xDa_2 xMo_3 xDe_4 h H locs ls hw hl
      rw [f_X1_daysTillAllRide_L2] at h
      refine lv_iload_n hx hb dX1_daysTillAllRide_2 rfl (lv_at hl 2 rfl) ?_
      refine lv_iload_n hx hb dX1_daysTillAllRide_3 rfl (lv_at hl 1 rfl) ?_
      refine kb_icmp_gt (tgt := 31) hx hb dX1_daysTillAllRide_4 (by decide) h (fun c_4 h => ?_) (fun c_4 h => ?_)
      · cases h
        exact X_2 _ _ _ rfl _ _ _ hw (lv_sub hl [] rfl)
      · refine lv_aload_n hx hb dX1_daysTillAllRide_7 rfl (lv_at hl 0 rfl) ?_
        obtain ⟨r_8, hf, h⟩ := b1_inv h
        refine k_callV (host := "") fx hK hA hw (c_X1_owedInAll l D k xh xrNa xrMo xrWa xrDe _ xPe xDa_2 xDr xNa xMo_3 xWa xDe_4 r_8 hf) (cwV 0 hts gX1_daysTillAllRide_X1_owedInAll rfl rfl rfl (by decide +kernel) ⟨by decide, by decide⟩) (As := []) (wr := []) (ws' := wX1 k xh xrNa xrMo xrWa xrDe xPe xDa_2 xDr xNa xMo_3 xWa xDe_4) [0, 1, 2, 3, 4] [] [0, 1, 2, 3, 4] rfl rfl (by decide) (by decide) (by decide) rfl (by decide) 1 rfl rfl [] rfl hl.1 rfl (Nat.le_of_ble_eq_true rfl) dX1_daysTillAllRide_8 ⟨by decide, by decide⟩ (fun H locs (hw : Wd D A s.heap H locs (wX1 k xh xrNa xrMo xrWa xrDe xPe xDa_2 xDr xNa xMo_3 xWa xDe_4)) => ?_)
        refine W.eq (g2 := F0 m 11 ls ([.int r_8])) rfl ?_
        refine kb_if_ne (tgt := 16) hx hb dX1_daysTillAllRide_11 (by decide) h (fun c_11 h => ?_) (fun c_11 h => ?_)
        · refine lv_iload_n hx hb dX1_daysTillAllRide_14 rfl (lv_at hl 2 rfl) ?_
          cases h
          have h := bs3_l hX_2
          cases h
          exact k_iret hx hb hr hlocks hw rfl dX1_daysTillAllRide_15 hQ
        · refine lv_aload_n hx hb dX1_daysTillAllRide_16 rfl (lv_at hl 0 rfl) ?_
          refine lv_aload_n hx hb dX1_daysTillAllRide_17 rfl (lv_at hl 0 rfl) ?_
          refine va_get (ci := 1) (v := .int xDr) (C := RX1) (T := TX1) (N := 7) hx hb hts hinX1 hown hK.1 hw.1 0 rfl rfl 2 (by decide) q_1 (fun _ h9 => h9) rfl dX1_daysTillAllRide_18 ?_
          obtain ⟨r_9, xDa_10, xMo_11, xDe_12, hf, h⟩ := b4_inv h
          refine k_callV (host := "") fx hK hA hw (c_X1_runDay l D k xh xrNa xrMo xrWa xrDe _ xPe xDa_2 xDr xNa xMo_3 xWa xDe_4 xDr r_9 xDa_10 xMo_11 xDe_12 hf) (cwV 1 hts gX1_daysTillAllRide_X1_runDay rfl rfl rfl (by decide +kernel) ⟨by decide, by decide⟩) (As := [.int xDr]) (wr := []) (ws' := wX1 k xh xrNa xrMo xrWa xrDe xPe xDa_10 xDr xNa xMo_11 xWa xDe_12) [0, 1, 2, 3, 4] [] [0, 1, 2, 3, 4] rfl rfl (by decide) (by decide) (by decide) rfl (by decide) 1 rfl rfl [] rfl hl.1 rfl (Nat.le_of_ble_eq_true rfl) dX1_daysTillAllRide_21 ⟨by decide, by decide⟩ (fun H locs (hw : Wd D A s.heap H locs (wX1 k xh xrNa xrMo xrWa xrDe xPe xDa_10 xDr xNa xMo_11 xWa xDe_12)) => ?_)
          refine W.eq (g2 := F0 m 24 ls ([.int r_9])) rfl ?_
          refine lv_pop hx hb dX1_daysTillAllRide_24 rfl ?_
          refine lv_iinc (v := v2_1 + 1) (lv' := [(2, .int (v2_1 + 1)), (0, .ref xh), (1, .int p1)]) hx hb dX1_daysTillAllRide_25 hl (k := 2) rfl rfl (by decide) rfl (fun ls hl => ?_)
          refine lv_goto (tgt := 2) hx hb dX1_daysTillAllRide_28 (by decide) ?_
          exact ih _ _ _ _ h _ _ _ hw (lv_sub hl [1, 2, 0] rfl)
  exact LP_2 400 0 xDa xMo xDe hL_2 _ _ _ hw (lv_sub hl [1, 2, 0] rfl)
