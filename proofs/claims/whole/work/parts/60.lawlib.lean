/-! ===== the law: the world, what holds between the two sides ===== -/
abbrev WC (k : Nat → ClassId) (xh : Nat) (a : Nat → Nat) (v : Nat → Int32) (f : Nat → Nat → Int32) : va_W := wX7 k xh (a 0) (a 5) (a 10) (a 57) (a 59) (a 63) (a 84) (a 93) (a 100) (v 0) (v 1) ++ (wX1 k (a 0) (a 1) (a 2) (a 3) (a 4) (v 2) (v 3) (v 4) (f 0) (f 1) (f 2) (f 3) ++ (wX1 k (a 5) (a 6) (a 7) (a 8) (a 9) (v 5) (v 6) (v 7) (f 4) (f 5) (f 6) (f 7) ++ (wX2 k (a 10) (a 11) ++ (wOA k (a 11) (a 12) (a 17) (a 22) (a 27) (a 32) (a 37) (a 42) (a 47) (a 52) ++ (wX1 k (a 12) (a 13) (a 14) (a 15) (a 16) (v 8) (v 9) (v 10) (f 8) (f 9) (f 10) (f 11) ++ (wX1 k (a 17) (a 18) (a 19) (a 20) (a 21) (v 11) (v 12) (v 13) (f 12) (f 13) (f 14) (f 15) ++ (wX1 k (a 22) (a 23) (a 24) (a 25) (a 26) (v 14) (v 15) (v 16) (f 16) (f 17) (f 18) (f 19) ++ (wX1 k (a 27) (a 28) (a 29) (a 30) (a 31) (v 17) (v 18) (v 19) (f 20) (f 21) (f 22) (f 23) ++ (wX1 k (a 32) (a 33) (a 34) (a 35) (a 36) (v 20) (v 21) (v 22) (f 24) (f 25) (f 26) (f 27) ++ (wX1 k (a 37) (a 38) (a 39) (a 40) (a 41) (v 23) (v 24) (v 25) (f 28) (f 29) (f 30) (f 31) ++ (wX1 k (a 42) (a 43) (a 44) (a 45) (a 46) (v 26) (v 27) (v 28) (f 32) (f 33) (f 34) (f 35) ++ (wX1 k (a 47) (a 48) (a 49) (a 50) (a 51) (v 29) (v 30) (v 31) (f 36) (f 37) (f 38) (f 39) ++ (wX1 k (a 52) (a 53) (a 54) (a 55) (a 56) (v 32) (v 33) (v 34) (f 40) (f 41) (f 42) (f 43) ++ (wX4 k (a 57) (a 58) (f 44) (v 35) ++ (wX5 k (a 59) (a 60) (a 61) (a 62) (f 45) (f 46) (f 47) (v 36) ++ (wIA k (a 63) (a 64) (a 74) ++ (wX0 k (a 64) (a 65) (a 70) (v 37) ++ (wX1 k (a 65) (a 66) (a 67) (a 68) (a 69) (v 38) (v 39) (v 40) (f 48) (f 49) (f 50) (f 51) ++ (wX5 k (a 70) (a 71) (a 72) (a 73) (f 52) (f 53) (f 54) (v 41) ++ (wX0 k (a 74) (a 75) (a 80) (v 42) ++ (wX1 k (a 75) (a 76) (a 77) (a 78) (a 79) (v 43) (v 44) (v 45) (f 55) (f 56) (f 57) (f 58) ++ (wX5 k (a 80) (a 81) (a 82) (a 83) (f 59) (f 60) (f 61) (v 46) ++ (wHA k (a 84) (a 85) (a 87) (a 89) (a 91) ++ (wX6 k (a 85) (a 86) (v 47) (v 48) (v 49) (f 62) ++ (wX6 k (a 87) (a 88) (v 50) (v 51) (v 52) (f 63) ++ (wX6 k (a 89) (a 90) (v 53) (v 54) (v 55) (f 64) ++ (wX6 k (a 91) (a 92) (v 56) (v 57) (v 58) (f 65) ++ (wX3 k (a 93) (a 94) (a 95) (f 66) (v 59) (v 60) (v 61) (v 62) (v 63) (v 64) (v 65) (v 66) (v 67) (v 68) ++ (wX1 k (a 95) (a 96) (a 97) (a 98) (a 99) (v 69) (v 70) (v 71) (f 67) (f 68) (f 69) (f 70) ++ (wU k (a 100) (f 71)))))))))))))))))))))))))))))))
abbrev WM (k : Nat → ClassId) (mh : Nat) (bb : Nat → Nat) (mv : Nat → Int32) (mf : Nat → Nat → Int32) (ml : Nat → Int64) : va_W := wX8 k mh (bb 0) (bb 1) (bb 2) (bb 3) (bb 4) (bb 5) (bb 6) (bb 7) (bb 8) (bb 9) (bb 10) (bb 11) (mf 0) (mf 1) (mf 2) (mv 0) (mf 3) (mv 1) (mv 2) (mv 3) (mv 4) (mf 4) (mv 5) (mv 6) (mv 7) (mv 8) (mv 9) (mv 10) (mv 11) (mv 12) (mf 5) (mv 13) (ml 0) (ml 1) (ml 2) (mf 6) (mf 7) (mf 8) (mf 9) (mf 10) (mv 14) (mf 11)
abbrev WW (k : Nat → ClassId) (xh mh : Nat) (a bb : Nat → Nat) (v : Nat → Int32) (f : Nat → Nat → Int32) (mv : Nat → Int32) (mf : Nat → Nat → Int32) (ml : Nat → Int64) : va_W := WC k xh a v f ++ WM k mh bb mv mf ml
def uf (f : Nat → Nat → Int32) (i : Nat) (g : Nat → Int32) : Nat → Nat → Int32 := fun j => if j = i then g else f j
def ul (f : Nat → Int64) (i : Nat) (g : Int64) : Nat → Int64 := fun j => if j = i then g else f j
def Inv (v : Nat → Int32) (f : Nat → Nat → Int32) (mv : Nat → Int32) (mf : Nat → Nat → Int32) : Prop := ∃ P, v 2 = nI P ∧ mv 0 = nI P ∧ LI P (mf 0) (v 3) (v 4) (f 0) (f 1) (f 2) (f 3) ∧ SN P (mf 0) (f 45) (f 46) (f 47) (v 36) ∧ IM P (mf 0) 61 (mf 2 0) (v 37) (v 38) (v 39) (v 40) (f 48) (f 49) (f 50) (f 51) (f 52) (f 53) (f 54) (v 41) ∧ IM P (mf 0) 122 (mf 2 1) (v 42) (v 43) (v 44) (v 45) (f 55) (f 56) (f 57) (f 58) (f 59) (f 60) (f 61) (v 46) ∧ SH 0 (v 47) (v 48) (v 49) (f 62) (mf 8) (mf 9) (mf 10) ∧ SH 1 (v 50) (v 51) (v 52) (f 63) (mf 8) (mf 9) (mf 10) ∧ SH 2 (v 53) (v 54) (v 55) (f 64) (mf 8) (mf 9) (mf 10) ∧ SH 3 (v 56) (v 57) (v 58) (f 65) (mf 8) (mf 9) (mf 10) ∧ TP (f 66) (mf 4) (v 59) (mv 5) ∧ mv 10 = v 0 ∧ mv 14 = v 1
abbrev AA (s : State) : Nat → Prop := fun q => s.heap.size ≤ q
def LB (p : Program) (s : State) (m : MethodId) (c : Code) (b L : Nat) (xs : Nat → Int32) (D : va_G) (k : Nat → ClassId) (aK aV : Nat → Nat) : Prop := CallFix p m c cL_law 4 s #[Value.ref b] wsL_law RL ∧ KK D k s ∧ SX aK aV (AA s) s ∧ va_X b L xs s s.heap ∧ b < s.heap.size
abbrev LV (b xh mh i : Nat) : List (Nat × Value) := [(0, .ref b), (1, .ref xh), (2, .ref mh), (3, .int (nI i))]
section KL
variable {p : Program} {l : Launch} {e : Env} {R : Room} {s : State} {m : MethodId} {args : Array Value} {below : List Frame} {meth : Method} {c : Code} {H : Heap} {locs : List Loc} {cells slots : Nat} {Q : State → Prop}
variable {pc : Nat} {ls : Array Slot} {rest : List Value} {D : va_G} {k : Nat → ClassId} {Ts : List Cond} {own : String}
theorem l_arg {b L xh mh i j : Nat} {xs : Nat → Int32} (cx : CallFix p m c cL_law 4 s args Ts own) (hX : va_X b L xs s s.heap) (hbl : b < s.heap.size) (hS : va_S (AA s) s.heap H locs) (hij : i + j < L) (hL : L ≤ 2560) (hl : lv_has ls 4 (LV b xh mh i)) {n : Int} (d0 : decode cL_law pc = .ok (.aload_n 0, 1)) (d1 : decode cL_law (pc + 1) = .ok (.iload_n 3, 1)) (d2 : decode cL_law (pc + 2) = .ok (.iconst n, 1)) (hn : Int32.ofInt n = nI j) (d3 : decode cL_law (pc + 3) = .ok (.iadd, 1)) (d4 : decode cL_law (pc + 4) = .ok (.iaload, 1)) (kk : W p l e R s m args below meth c H locs cells slots Q (F0 m (pc + 5) ls (.int (xs (i + j)) :: rest))) : W p l e R s m args below meth c H locs cells slots Q (F0 m pc ls rest) := by
  obtain ⟨hx, hb, -, -, -⟩ := cx
  refine lv_aload_n hx hb d0 rfl (lv_at hl 0 rfl) ?_
  refine lv_iload_n hx hb d1 rfl (lv_at hl 3 rfl) ?_
  refine lv_iconst (v := nI j) hx hb d2 hn ?_
  refine lv_iadd hx hb d3 ?_
  rw [nI_add]
  refine va_sld hx hb hX hbl (Nat.not_le.mpr hbl) hS (vp_in_nI hij (by omega)) d4 ?_
  rw [nI_clamp (by omega)]
  exact kk
theorem l_bool {x : Int32} (cx : CallFix p m c cL_law 4 s args Ts own) (d0 : decode cL_law pc = .ok (.ifCond .eq 7, 3)) (d1 : decode cL_law (pc + 3) = .ok (.iconst 1, 1)) (d2 : decode cL_law (pc + 4) = .ok (.goto 4, 3)) (d3 : decode cL_law (pc + 7) = .ok (.iconst 0, 1)) (kk : W p l e R s m args below meth c H locs cells slots Q (F0 m (pc + 8) ls (.int (if x = 0 then 0 else 1) :: rest))) : W p l e R s m args below meth c H locs cells slots Q (F0 m pc ls (.int x :: rest)) := by
  obtain ⟨hx, hb, -, -, -⟩ := cx
  refine lv_if_eq (tgt := pc + 7) hx hb d0 (by omega) (fun z => ?_) (fun z => ?_)
  · rw [if_pos z] at kk
    exact lv_iconst (v := 0) hx hb d3 (by decide) kk
  · rw [if_neg z] at kk
    exact lv_iconst (v := 1) hx hb d1 (by decide) (lv_goto (tgt := pc + 8) hx hb d2 (by omega) kk)
theorem app_R {α : Type} (wa wb : List α) {N : Nat} (h : wa.length = N) : (List.range N).map (fun i => (wa ++ wb)[i]?) = wa.map some := by
  subst h
  apply List.ext_getElem
  · simp
  · intro i h1 h2
    simp at h1 h2 ⊢
    rw [List.getElem?_append_left h2]
    simp [h2]
theorem app_C {α : Type} (wa wb : List α) {N M : Nat} (h : wa.length = N) (h2 : wb.length = M) : (List.range' N M).map (fun i => (wa ++ wb)[i]?) = wb.map some := by
  subst h h2
  apply List.ext_getElem
  · simp
  · intro i h1 h2
    simp at h1 h2 ⊢
    rw [List.getElem?_append_right (by omega)]
    simp [h2]
theorem app_P {α : Type} (w : List α) {N : Nat} (h : w.length = N) : (List.range N).map (fun i => w[i]?) = w.map some := by
  have := app_R w [] h
  simpa using this
theorem k_callM {n index maxL : Nat} {y : MethodName} {bytes : ByteArray} {ret : Option FieldType} {wsm : List Cond} {rm : Room} {C : String} {b : Nat} {As st0 : List Value} {wa wc w1 : va_W} {r0 : Option Value} (cx : CallFix p m c cL_law 4 s args Ts own) (hK : KK D k s) (hw : Wd D (AA s) s.heap H locs (wa ++ wc)) (ha : wa.length = 102) (hc : wc.length = 13) (h1 : w1.length = 13)
    (hM : mR l y wsm rm D k H.size (.ref b :: As) wc w1 r0) (cw : CallW R s args own C index y bytes maxL ret wsm rm 0 0 n)
    (ci : Nat) {T : u_T} {N : Nat} {fs : List Value} (hci : vwCl[ci]? = some (C, T, N)) (hb0 : wc[0]? = some (b, .inr (ci, fs)))
    (rest : List Value) (hlen : As.length = n) (hsize : ls.size = 4) (hst : st0 = As.reverse ++ .ref b :: rest) (hroom : (rest.map fun v => v.category).sum ≤ 8) (hdg : decode cL_law pc = .ok (.invokevirtual index, 3)) (hcs : cells ≤ R.cells ∧ slots ≤ R.slots)
    (kk : ∀ (H1 : Heap) (locs1 : List Loc), Wd D (AA s) s.heap H1 locs1 (wa ++ w1) → W p l e R s m args below meth c H1 locs1 cells slots Q (F0 m (pc + 3) ls (r0.toList ++ rest))) : W p l e R s m args below meth c H locs cells slots Q (F0 m pc ls st0) :=
  k_callV (host := "") cx hK (fun _ h => h) hw hM cw (wr := wa) (ws' := wa ++ w1) (List.range' 102 13) (List.range 102) (List.range 115) (app_C wa wc ha hc) (app_R wa wc ha) (by decide) (by decide) (by decide) (app_P (wa ++ w1) (by rw [List.length_append, ha, h1])) (by decide) ci hci hb0 rest hlen hsize hst hroom hdg hcs kk
end KL
