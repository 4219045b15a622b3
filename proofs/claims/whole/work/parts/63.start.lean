set_option maxHeartbeats 4000000 in
set_option maxRecDepth 100000 in
/-- THE LAW, from its entry -/
theorem whole_start {p : Program} {e : Env} {s : State} {m : MethodId} {below : List Frame} {meth : Method} {c : Code} (l : Launch) {b L : Nat} {xs : Nat → Int32} (hL : L ≤ 2560) (C0 : lw_At p s m meth c b L xs) : W p l e room_1 s m #[Value.ref b] below meth c s.heap [] 0 0 (lw_Z below #[Value.ref b] s) (entryFrame m ([Value.ref b] : List Value).toArray 4) := by
  obtain ⟨hx, hb, hr, hml, hown, hts, hX, hbl, hlocks, hgv⟩ := id C0
  have hts' : ∀ w ∈ wsL_law, w.before #[Value.ref b] s = true := fun w h => hts w (wsL_law_in w h)
  have cx : CallFix p m c cL_law 4 s #[Value.ref b] wsL_law RL := ⟨hx, hb, hml, hown, hts'⟩
  obtain ⟨D, k, hK, hN⟩ := law_KK hts
  obtain ⟨aK, aV, hSX⟩ := law_SX hts hgv
  have hA : ∀ q : Nat, s.heap.size ≤ q → AA s q := fun _ h => h
  have hw : Wd D (AA s) s.heap s.heap [] [] := ⟨fun k q h => by simp at h, ⟨fun i j p q h => by simp at h, fun k q h => by simp at h⟩, va_S.rf⟩
  have hl := lv_entry ([.ref b]) (n := 4) (Nat.le_of_ble_eq_true rfl)
  rw [lg_entry_eq]
  generalize (lg_sl ([.ref b]) ++ List.replicate (4 - (lg_sl ([.ref b])).length) Slot.unset).toArray = ls at hl ⊢
  have hl : lv_has ls 4 [(0, .ref b)] := hl
  obtain ⟨dr, st, kept, ei, hst, k0, k1⟩ := init_both
  refine va_new (ci := 7) (fs := [.null, .null, .null, .null, .null, .null, .null, .null, .null, .int 0, .int 0]) (C := RX7) (T := TX7) (N := 11) hx hb hts' inlX7 tyX7 tyX7_ok hown (hts' (.classLink RL 7 RX7) (by decide +kernel)) (hts' (.instantiable RX7 11) (by decide +kernel)) (hts' (.initialized RX7) (by decide +kernel)) hK.1 hw.1 hw.2.1 hw.2.2 hA rfl nwX7 (by decide) (by decide) dL_law_0 (fun q0 H hP hD hS => ?_)
  have hw : Wd D (AA s) s.heap H [] [(q0, .inr (7, [.null, .null, .null, .null, .null, .null, .null, .null, .null, .int 0, .int 0]))] := ⟨hP, hD, hS⟩
  refine lv_dup hx hb dL_law_3 rfl ?_
  refine k_callI cx hK hN hA hw (c_X7_init l D k q0 _) (cwI 0 hts' gL_law_X7_init rfl rfl rfl (hts' (.initialized RX7) (by decide +kernel)) (hts' (.methodLink RL 9 yX7_init) (by decide +kernel)) (hts' (.instanceMethod yX7_init) (by decide +kernel)) rfl (by decide +kernel) ⟨by decide, by decide⟩) (wr := []) (ws' := fun ad => WC k q0 ad (fun _ => 0) (fun _ _ => 0)) [0] [] [0, 1, 2, 3, 4, 5, 6, 7, 8, 9, 10, 11, 12, 13, 14, 15, 16, 17, 18, 19, 20, 21, 22, 23, 24, 25, 26, 27, 28, 29, 30, 31, 32, 33, 34, 35, 36, 37, 38, 39, 40, 41, 42, 43, 44, 45, 46, 47, 48, 49, 50, 51, 52, 53, 54, 55, 56, 57, 58, 59, 60, 61, 62, 63, 64, 65, 66, 67, 68, 69, 70, 71, 72, 73, 74, 75, 76, 77, 78, 79, 80, 81, 82, 83, 84, 85, 86, 87, 88, 89, 90, 91, 92, 93, 94, 95, 96, 97, 98, 99, 100, 101] rfl rfl (by decide) (by decide) (by decide) (fun _ => rfl) (by decide) [.ref q0] hl.1 (Nat.le_of_ble_eq_true rfl) dL_law_4 ⟨by decide, by decide⟩ (fun ad H locs (hw : Wd D (AA s) s.heap H locs (WC k q0 ad (fun _ => 0) (fun _ _ => 0))) => ?_)
  refine lv_astore_n (lv' := [(1, .ref q0), (0, .ref b)]) hx hb dL_law_7 rfl hl (by decide) rfl (fun ls hl => ?_)
  refine va_new (ci := 8) (fs := [.null, .null, .null, .int 0, .null, .int 0, .int 0, .int 0, .int 0, .null, .int 0, .int 0, .int 0, .int 0, .int 0, .int 0, .int 0, .int 0, .null, .int 0, .long 0, .long 0, .long 0, .null, .null, .null, .null, .null, .int 0, .null]) (C := RX8) (T := TX8) (N := 30) hx hb hts' inlX8 tyX8 tyX8_ok hown (hts' (.classLink RL 10 RX8) (by decide +kernel)) (hts' (.instantiable RX8 30) (by decide +kernel)) (hts' (.initialized RX8) (by decide +kernel)) hK.1 hw.1 hw.2.1 hw.2.2 hA rfl nwX8 (by decide) (by decide) dL_law_8 (fun q1 H hP hD hS => ?_)
  have hw : Wd D (AA s) s.heap H locs (WC k q0 ad (fun _ => 0) (fun _ _ => 0) ++ [(q1, .inr (8, [.null, .null, .null, .int 0, .null, .int 0, .int 0, .int 0, .int 0, .null, .int 0, .int 0, .int 0, .int 0, .int 0, .int 0, .int 0, .int 0, .null, .int 0, .long 0, .long 0, .long 0, .null, .null, .null, .null, .null, .int 0, .null]))]) := ⟨hP, hD, hS⟩
  refine lv_dup hx hb dL_law_11 rfl ?_
  refine k_callI cx hK hN hA hw (c_X8_init l D k q1 _ dr 0 0 0 (-4) st kept 0 ei) (cwI 0 hts' gL_law_X8_init rfl rfl rfl (hts' (.initialized RX8) (by decide +kernel)) (hts' (.methodLink RL 12 yX8_init) (by decide +kernel)) (hts' (.instanceMethod yX8_init) (by decide +kernel)) rfl (by decide +kernel) ⟨by decide, by decide⟩) (wr := WC k q0 ad (fun _ => 0) (fun _ _ => 0)) (ws' := fun bd => WC k q0 ad (fun _ => 0) (fun _ _ => 0) ++ WM k q1 bd mv0 (mf0 dr st kept) (fun _ => 0)) (List.range' 102 1) (List.range 102) (List.range 115) (app_C _ _ rfl rfl) (app_R _ _ rfl) (by decide) (by decide) (by decide) (fun bd => app_P (WC k q0 ad (fun _ => 0) (fun _ _ => 0) ++ WM k q1 bd mv0 (mf0 dr st kept) (fun _ => 0)) rfl) (by decide) [.ref q1] hl.1 (Nat.le_of_ble_eq_true rfl) dL_law_12 ⟨by decide, by decide⟩ (fun bd H locs (hw : Wd D (AA s) s.heap H locs (WW k q0 q1 ad bd (fun _ => 0) (fun _ _ => 0) mv0 (mf0 dr st kept) (fun _ => 0))) => ?_)
  refine lv_astore_n (lv' := [(2, .ref q1), (1, .ref q0), (0, .ref b)]) hx hb dL_law_15 rfl hl (by decide) rfl (fun ls hl => ?_)
  refine lv_iconst (v := 0) hx hb dL_law_16 (by decide) ?_
  refine lv_istore_n (lv' := [(3, .int 0), (2, .ref q1), (1, .ref q0), (0, .ref b)]) hx hb dL_law_17 rfl hl (by decide) rfl (fun ls hl => ?_)
  exact law_loop ⟨cx, hK, hSX, hX, hbl⟩ hL hr hlocks ⟨by decide, by decide⟩ (L + 1) 0 _ _ _ _ _ H locs (by omega) (by omega) (inv_0 hst k0 k1) hw ls (lv_sub hl [3, 2, 1, 0] rfl)
