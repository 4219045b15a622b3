/-! ===== the law's loop, the law from its entry ===== -/
set_option maxHeartbeats 4000000 in
set_option maxRecDepth 100000 in
theorem law_loop {p : Program} {l : Launch} {e : Env} {s : State} {m : MethodId} {below : List Frame} {meth : Method} {c : Code} {b L : Nat} {xs : Nat → Int32} {D : va_G} {k : Nat → ClassId} {aK aV : Nat → Nat} (B : LB p s m c b L xs D k aK aV) (hL : L ≤ 2560) (hr : meth.sig.returnType = ret) (hlocks : meth.locks = false) {xh mh : Nat} {a bb : Nat → Nat} {cells slots : Nat} (hcs : cells ≤ room_1.cells ∧ slots ≤ room_1.slots) : ∀ (n i : Nat) (v : Nat → Int32) (f : Nat → Nat → Int32) (mv : Nat → Int32) (mf : Nat → Nat → Int32) (ml : Nat → Int64) (H : Heap) (locs : List Loc), i ≤ 2560 → L < i + n → Inv v f mv mf → Wd D (AA s) s.heap H locs (WW k xh mh a bb v f mv mf ml) → ∀ ls : Array Slot, lv_has ls 4 (LV b xh mh i) → W p l e room_1 s m #[Value.ref b] below meth c H locs cells slots (lw_Z below #[Value.ref b] s) (F0 m 18 ls []) := by
  obtain ⟨hx, hb, hml, hown, hts⟩ := id B.1
  have hX := B.2.2.2.1
  have hbl := B.2.2.2.2
  have fin : ∀ (H : Heap) (locs : List Loc) (ls : Array Slot), va_S (AA s) s.heap H locs → W p l e room_1 s m #[Value.ref b] below meth c H locs cells slots (lw_Z below #[Value.ref b] s) (F0 m 1479 ls []) := by
    intro H locs ls hS
    refine lv_iconst (v := 1) hx hb dL_law_1479 (by decide) ?_
    refine va_forget (fun q hq => hS.2.2 q hq) ?_
    refine W.widen (k := 600000) (n := 7302250) hcs.1 hcs.2 ?_
    exact lw_ret hx hb hr hlocks dL_law_1480
  intro n
  induction n with
  | zero =>
    intro i v f mv mf ml H locs hi hn hI hw ls hl
    refine lv_iload_n hx hb dL_law_18 rfl (lv_at hl 3 rfl) ?_
    refine lv_aload_n hx hb dL_law_19 rfl (lv_at hl 0 rfl) ?_
    refine va_slen hx hb hX hbl (Nat.not_le.mpr hbl) hw.2.2 dL_law_20 ?_
    refine lv_iconst (v := 5) hx hb dL_law_21 (by decide) ?_
    refine lv_isub hx hb dL_law_22 ?_
    refine lv_icmp_gt (tgt := 1479) hx hb dL_law_23 (by decide) (fun _ => fin H locs ls hw.2.2) (fun q => absurd ?_ q)
    refine Int32.lt_iff_toInt_lt.mpr ?_
    have h1 : (nI L - nI 5).toInt = (L : Int) - 5 := pk_sub_toInt (a := L) (b := 5) (by omega) (by omega)
    have h2 := nI_toInt (n := i) (by omega)
    show (nI L - nI 5).toInt < (nI i).toInt
    omega
  | succ n ih =>
    intro i v f mv mf ml H locs hi hn hI hw ls hl
    refine lv_iload_n hx hb dL_law_18 rfl (lv_at hl 3 rfl) ?_
    refine lv_aload_n hx hb dL_law_19 rfl (lv_at hl 0 rfl) ?_
    refine va_slen hx hb hX hbl (Nat.not_le.mpr hbl) hw.2.2 dL_law_20 ?_
    refine lv_iconst (v := 5) hx hb dL_law_21 (by decide) ?_
    refine lv_isub hx hb dL_law_22 ?_
    refine lv_icmp_gt (tgt := 1479) hx hb dL_law_23 (by decide) (fun _ => fin H locs ls hw.2.2) (fun q => ?_)
    have hi5 : i + 5 ≤ L := by
      have q' := Int32.le_iff_toInt_le.mp (Int32.not_lt.mp q)
      have h1 : (nI L - nI 5).toInt = (L : Int) - 5 := pk_sub_toInt (a := L) (b := 5) (by omega) (by omega)
      have h2 := nI_toInt (n := i) (by omega)
      have q2 : (nI i).toInt ≤ (nI L - nI 5).toInt := q'
      omega
    have next : ∀ (v : Nat → Int32) (f : Nat → Nat → Int32) (mv : Nat → Int32) (mf : Nat → Nat → Int32) (ml : Nat → Int64) (H : Heap) (locs : List Loc), Inv v f mv mf → Wd D (AA s) s.heap H locs (WW k xh mh a bb v f mv mf ml) → W p l e room_1 s m #[Value.ref b] below meth c H locs cells slots (lw_Z below #[Value.ref b] s) (F0 m 1473 ls []) := by
      intro v f mv mf ml H locs hI hw
      refine lv_iinc (v := nI (i + 5)) (lv' := [(3, .int (nI (i + 5))), (0, .ref b), (1, .ref xh), (2, .ref mh)]) hx hb dL_law_1473 hl (k := 3) rfl ?_ (by decide) rfl (fun ls hl => ?_)
      · exact nI_add i 5
      refine lv_goto (tgt := 18) hx hb dL_law_1476 (by decide) ?_
      exact ih (i + 5) v f mv mf ml H locs (by omega) (by omega) hI hw ls (lv_sub hl [1, 2, 3, 0] rfl)
    refine lv_aload_n hx hb dL_law_26 rfl (lv_at hl 0 rfl) ?_
    refine lv_iload_n hx hb dL_law_27 rfl (lv_at hl 3 rfl) ?_
    refine va_sld hx hb hX hbl (Nat.not_le.mpr hbl) hw.2.2 (vp_in_nI (show i < L by omega) (by omega)) dL_law_28 ?_
    refine lv_bipush (v := 63) hx hb dL_law_29 (by decide) ?_
    refine lv_iand hx hb dL_law_31 ?_
    obtain ⟨j, hj, ej⟩ := pk_andE (xs (nI i).toNatClampNeg) (m := 63) 6 rfl
    rw [ej]
    by_cases hj40 : 40 < j
    · refine lv_tableOut (tgt := 1473) hx hb dL_law_32 (Or.inr ?_) (by decide) (next v f mv mf ml H locs hI hw)
      rw [nI_toInt (by omega)]; omega
    match j, hj40 with
    | 0, _ => exact lv_tableIn (off := 180) (tgt := 212) hx hb dL_law_32 (by decide) (by decide) (by decide) (by decide) (arm_feed B hL hi5 hcs hI hw hl next)
    | 1, _ => exact lv_tableIn (off := 203) (tgt := 235) hx hb dL_law_32 (by decide) (by decide) (by decide) (by decide) (arm_end B hL hi5 hcs hI hw hl next)
    | 2, _ => exact lv_tableIn (off := 226) (tgt := 258) hx hb dL_law_32 (by decide) (by decide) (by decide) (by decide) (arm_text B hL hi5 hcs hI hw hl next)
    | 3, _ => exact lv_tableIn (off := 239) (tgt := 271) hx hb dL_law_32 (by decide) (by decide) (by decide) (by decide) (arm_fault B hL hi5 hcs hI hw hl next)
    | 4, _ => exact lv_tableIn (off := 252) (tgt := 284) hx hb dL_law_32 (by decide) (by decide) (by decide) (by decide) (arm_rule B hL hi5 hcs hI hw hl next)
    | 5, _ => exact lv_tableIn (off := 275) (tgt := 307) hx hb dL_law_32 (by decide) (by decide) (by decide) (by decide) (arm_one B hL hi5 hcs hI hw hl next)
    | 6, _ => exact lv_tableIn (off := 308) (tgt := 340) hx hb dL_law_32 (by decide) (by decide) (by decide) (by decide) (arm_owes B hL hi5 hcs hI hw hl next)
    | 7, _ => exact lv_tableIn (off := 341) (tgt := 373) hx hb dL_law_32 (by decide) (by decide) (by decide) (by decide) (arm_meet B hL hi5 hcs hI hw hl next)
    | 8, _ => exact lv_tableIn (off := 374) (tgt := 406) hx hb dL_law_32 (by decide) (by decide) (by decide) (by decide) (arm_alter B hL hi5 hcs hI hw hl next)
    | 9, _ => exact lv_tableIn (off := 417) (tgt := 449) hx hb dL_law_32 (by decide) (by decide) (by decide) (by decide) (arm_bond B hL hi5 hcs hI hw hl next)
    | 10, _ => exact lv_tableIn (off := 460) (tgt := 492) hx hb dL_law_32 (by decide) (by decide) (by decide) (by decide) (arm_dry B hL hi5 hcs hI hw hl next)
    | 11, _ => exact lv_tableIn (off := 483) (tgt := 515) hx hb dL_law_32 (by decide) (by decide) (by decide) (by decide) (arm_lend B hL hi5 hcs hI hw hl next)
    | 12, _ => exact lv_tableIn (off := 526) (tgt := 558) hx hb dL_law_32 (by decide) (by decide) (by decide) (by decide) (arm_pay B hL hi5 hcs hI hw hl next)
    | 13, _ => exact lv_tableIn (off := 569) (tgt := 601) hx hb dL_law_32 (by decide) (by decide) (by decide) (by decide) (arm_days B hL hi5 hcs hI hw hl next)
    | 14, _ => exact lv_tableIn (off := 592) (tgt := 624) hx hb dL_law_32 (by decide) (by decide) (by decide) (by decide) (arm_runs B hL hi5 hcs hI hw hl next)
    | 15, _ => exact lv_tableIn (off := 625) (tgt := 657) hx hb dL_law_32 (by decide) (by decide) (by decide) (by decide) (arm_ahead B hL hi5 hcs hI hw hl next)
    | 16, _ => exact lv_tableIn (off := 668) (tgt := 700) hx hb dL_law_32 (by decide) (by decide) (by decide) (by decide) (arm_rides B hL hi5 hcs hI hw hl next)
    | 17, _ => exact lv_tableIn (off := 691) (tgt := 723) hx hb dL_law_32 (by decide) (by decide) (by decide) (by decide) (arm_net B hL hi5 hcs hI hw hl next)
    | 18, _ => exact lv_tableIn (off := 714) (tgt := 746) hx hb dL_law_32 (by decide) (by decide) (by decide) (by decide) (arm_least B hL hi5 hcs hI hw hl next)
    | 19, _ => exact lv_tableIn (off := 727) (tgt := 759) hx hb dL_law_32 (by decide) (by decide) (by decide) (by decide) (arm_ring B hL hi5 hcs hI hw hl next)
    | 20, _ => exact lv_tableIn (off := 750) (tgt := 782) hx hb dL_law_32 (by decide) (by decide) (by decide) (by decide) (arm_clear B hL hi5 hcs hI hw hl next)
    | 21, _ => exact lv_tableIn (off := 763) (tgt := 795) hx hb dL_law_32 (by decide) (by decide) (by decide) (by decide) (arm_give B hL hi5 hcs hI hw hl next)
    | 22, _ => exact lv_tableIn (off := 796) (tgt := 828) hx hb dL_law_32 (by decide) (by decide) (by decide) (by decide) (arm_forgive B hL hi5 hcs hI hw hl next)
    | 23, _ => exact lv_tableIn (off := 819) (tgt := 851) hx hb dL_law_32 (by decide) (by decide) (by decide) (by decide) (arm_kind B hL hi5 hcs hI hw hl next)
    | 24, _ => exact lv_tableIn (off := 852) (tgt := 884) hx hb dL_law_32 (by decide) (by decide) (by decide) (by decide) (arm_late B hL hi5 hcs hI hw hl next)
    | 25, _ => exact lv_tableIn (off := 885) (tgt := 917) hx hb dL_law_32 (by decide) (by decide) (by decide) (by decide) (arm_train B hL hi5 hcs hI hw hl next)
    | 26, _ => exact lv_tableIn (off := 918) (tgt := 950) hx hb dL_law_32 (by decide) (by decide) (by decide) (by decide) (arm_luck B hL hi5 hcs hI hw hl next)
    | 27, _ => exact lv_tableIn (off := 972) (tgt := 1004) hx hb dL_law_32 (by decide) (by decide) (by decide) (by decide) (arm_mean B hL hi5 hcs hI hw hl next)
    | 28, _ => exact lv_tableIn (off := 1016) (tgt := 1048) hx hb dL_law_32 (by decide) (by decide) (by decide) (by decide) (arm_see B hL hi5 hcs hI hw hl next)
    | 29, _ => exact lv_tableIn (off := 1075) (tgt := 1107) hx hb dL_law_32 (by decide) (by decide) (by decide) (by decide) (arm_forget B hL hi5 hcs hI hw hl next)
    | 30, _ => exact lv_tableIn (off := 1098) (tgt := 1130) hx hb dL_law_32 (by decide) (by decide) (by decide) (by decide) (arm_kinds B hL hi5 hcs hI hw hl next)
    | 31, _ => exact lv_tableIn (off := 1121) (tgt := 1153) hx hb dL_law_32 (by decide) (by decide) (by decide) (by decide) (arm_earns B hL hi5 hcs hI hw hl next)
    | 32, _ => exact lv_tableIn (off := 1144) (tgt := 1176) hx hb dL_law_32 (by decide) (by decide) (by decide) (by decide) (arm_ask B hL hi5 hcs hI hw hl next)
    | 33, _ => exact lv_tableIn (off := 1177) (tgt := 1209) hx hb dL_law_32 (by decide) (by decide) (by decide) (by decide) (arm_drift B hL hi5 hcs hI hw hl next)
    | 34, _ => exact lv_tableIn (off := 1220) (tgt := 1252) hx hb dL_law_32 (by decide) (by decide) (by decide) (by decide) (arm_keep B hL hi5 hcs hI hw hl next)
    | 35, _ => exact lv_tableIn (off := 1243) (tgt := 1275) hx hb dL_law_32 (by decide) (by decide) (by decide) (by decide) (arm_back B hL hi5 hcs hI hw hl next)
    | 36, _ => exact lv_tableIn (off := 1266) (tgt := 1298) hx hb dL_law_32 (by decide) (by decide) (by decide) (by decide) (arm_sheet B hL hi5 hcs hI hw hl next)
    | 37, _ => exact lv_tableIn (off := 1309) (tgt := 1341) hx hb dL_law_32 (by decide) (by decide) (by decide) (by decide) (arm_lay B hL hi5 hcs hI hw hl next)
    | 38, _ => exact lv_tableIn (off := 1352) (tgt := 1384) hx hb dL_law_32 (by decide) (by decide) (by decide) (by decide) (arm_read B hL hi5 hcs hI hw hl next)
    | 39, _ => exact lv_tableIn (off := 1405) (tgt := 1437) hx hb dL_law_32 (by decide) (by decide) (by decide) (by decide) (arm_torn B hL hi5 hcs hI hw hl next)
    | 40, _ => exact lv_tableIn (off := 1418) (tgt := 1450) hx hb dL_law_32 (by decide) (by decide) (by decide) (by decide) (arm_count B hL hi5 hcs hI hw hl next)
    | j + 41, h => exact absurd h (by omega)
theorem init_both : ∃ dr st kept, f_X8_init = some (dr, 0, 0, 0, -4, st, kept, 0) ∧ (∀ j, j < 61 → st j = 0) ∧ kept 0 = 0 ∧ kept 1 = 0 := by
  obtain ⟨f, ef, hf⟩ := M_first_L 61 0 (fun _ => 0) 400 (by omega) (by omega) (fun j hj => absurd hj (by omega))
  rw [nI_0] at ef
  obtain ⟨st, kept, ek, hk, k0, k1⟩ := M_keepD (fun _ => 0) (fun _ => 0) f 0
  unfold f_X8_init f_X8_firstDraft
  rw [ef, b1_some, b5_some, ek, b3_some]
  exact ⟨f, st, kept, rfl, fun j hj => by rw [hk j hj, hf j hj], k0, k1⟩
def mv0 : Nat → Int32 := upd (fun _ => 0) 4 (-4)
def mf0 (dr st kept : Nat → Int32) : Nat → Nat → Int32 := uf (uf (uf (uf (fun _ _ => 0) 8 (upd (upd (upd (upd (fun _ => 0) 0 (-4)) 1 (-4)) 2 (-4)) 3 (-4))) 3 dr) 2 kept) 0 st
theorem inv_0 {dr st kept : Nat → Int32} (hs : ∀ j, j < 61 → st j = 0) (k0 : kept 0 = 0) (k1 : kept 1 = 0) : Inv (fun _ => 0) (fun _ _ => 0) mv0 (mf0 dr st kept) := by
  have li : LI 0 st 0 0 (fun _ => 0) (fun _ => 0) (fun _ => 0) (fun _ => 0) := ⟨by omega, ⟨hs 40 (by omega), hs 41 (by omega), fun j hj => absurd hj (by omega), fun j hj => hs _ (by omega)⟩, fun j hj => absurd hj (by omega), fun j _ => ⟨0, by omega, rfl⟩, fun _ _ => rfl⟩
  have sn : SN 0 st (fun _ => 0) (fun _ => 0) (fun _ => 0) 0 := ⟨0, by omega, rfl, hs 42 (by omega), fun j hj => absurd hj (by omega)⟩
  exact ⟨0, rfl, rfl, li, sn, ⟨k0, Or.inl rfl⟩, ⟨k1, Or.inl rfl⟩, Or.inl ⟨rfl, rfl⟩, Or.inl ⟨rfl, rfl⟩, Or.inl ⟨rfl, rfl⟩, Or.inl ⟨rfl, rfl⟩, ⟨0, by omega, rfl, rfl, fun j hj => absurd hj (by omega)⟩, rfl, rfl⟩
