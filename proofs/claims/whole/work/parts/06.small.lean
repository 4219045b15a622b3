theorem k_maxl {p : Program} {l : Launch} {e : Env} {R : Room} {s : State} {m : MethodId} {args : Array Value} {below : List Frame} {meth : Method} {c : Code} {H : Heap} {locs : List Loc} {cells slots : Nat} {Q : State → Prop} {cc : ByteArray} {pc : Nat} {ls : Array Slot} {rest : List Value} {ρ : Type} {res : ρ} {nL : Nat} {Ts : List Cond} {own : String} (fx : CallFix p m c cc nL s args Ts own) (hls : ls.size = nL) {index : Nat} (hlink : (Cond.methodLink own index Lib.MathLoose.max_long.x).before args s = true) (hstat : (Cond.static Lib.MathLoose.max_long.x).before args s = true) (hini : (Cond.initialized "java/lang/Math").before args s = true) (hcode : (Cond.code Lib.MathLoose.max_long.x Lib.MathLoose.max_long.code 4 (some .long)).before args s = true)
    (hframes : 1 ≤ R.frames) (hlocals : (rest.map fun v => v.category).sum + 15 ≤ R.locals) (hc : cells ≤ R.cells ∧ slots ≤ R.slots) {x y : Int64} (hdg : decode cc pc = .ok (.invokestatic index, 3)) {K : Int64 → Option ρ} (h : b1 (some (if y < x then x else y)) K = some res)
    (kk : ∀ z : Int64, K z = some res → W p l e R s m args below meth c H locs cells slots Q (F0 m (pc + 3) ls (.long z :: rest))) : W p l e R s m args below meth c H locs cells slots Q (F0 m pc ls (.long y :: .long x :: rest)) := by
  obtain ⟨hx, hb, hml, hown, hts⟩ := fx
  exact va_mmax_long hx hb (hml.trans hls.symm) hown hlink hstat hini hcode hframes hlocals hc.1 hc.2 hdg (kk _ h)
abbrev JK : Type := (Nat → Int32) × (Nat → Nat → Int32)
def QJ (D : va_G) (w1 : JK → va_W) (r0 : Option Value) (A : Nat → Prop) : Array Value → State → Outcome → State → Prop := fun _ st oc t => (∃ j : JK, oc = .returned r0 ∧ va_P D vwCl (w1 j) t.heap ∧ va_D A (w1 j)) ∧ va_F A st t
/-- a contract that leaves some cells' contents open -/
def mJ (l : Launch) (y : MethodName) (ws : List Cond) (rm : Room) (D : va_G) (k : Nat → ClassId) (sz : Nat) (av : List Value) (w0 : va_W) (w1 : JK → va_W) (r0 : Option Value) : Prop :=
  Met l y ws rm (Pw D k sz av w0) (QJ D w1 r0 (va_A w0 sz)) 0 0 (va_A w0 sz)
set_option maxHeartbeats 4000000 in
theorem mJ_of {l : Launch} {y : MethodName} {ws ws' : List Cond} {rm : Room} {D : va_G} {k : Nat → ClassId} {sz : Nat} {av : List Value} {w0 : va_W} {w1 : JK → va_W} {r0 : Option Value} {cc : ByteArray} {maxL : Nat} {ret : Option FieldType}
    (hy : plainName y.cls = true) (hw : ws = Cond.code y cc maxL ret :: ws') (hlen : (lg_sl av).length ≤ maxL) (lv : List (Nat × Value)) (hlv : lv_args 0 av = lv)
    (body : ∀ (p : Program) (e : Env) (s : State) (m : MethodId) (below : List Frame) (meth : Method) (c : Code) (A : Nat → Prop) (ls : Array Slot) (args : Array Value) (Q : State → Prop), CX p s m args meth c cc maxL ws y.cls ret → KK D k s → (∀ q, s.heap.size ≤ q → A q) → Wd D A s.heap s.heap [] w0 → lv_has ls maxL lv → MQ below (QJ D w1 r0 A) args s 0 0 A = Q →
      W p l e rm s m args below meth c s.heap [] 0 0 Q (F0 m 0 ls [])) : mJ l y ws rm D k sz av w0 w1 r0 := by
  refine Met.ofW (cc := cc) (maxL := maxL) (ret := ret) hy hw ?_
  intro p e s m args below meth c s₁ B hml hv
  obtain ⟨rfl, hsz, hP, hK, hD0⟩ := hv
  subst hsz
  have hts := atoms_spec (ws := ws) B.pre
  have hl := lv_entry av (n := maxL) hlen
  rw [lg_entry_eq]
  rw [hlv] at hl
  exact body p e s m below meth c (va_A w0 s.heap.size) _ av.toArray _ ⟨⟨B.exec, B.bytes, hml, findClass_of_methodNamed B.named, hts⟩, B.returns, B.notSynchronized⟩ hK (fun q h => Or.inr h) ⟨hP, hD0.self, va_S.rf⟩ hl rfl
section KJ
variable {p : Program} {l : Launch} {e : Env} {R : Room} {s : State} {m : MethodId} {args : Array Value} {below : List Frame} {meth : Method} {c : Code} {H : Heap} {locs : List Loc} {cells slots : Nat} {Q : State → Prop}
variable {cc : ByteArray} {pc : Nat} {ls : Array Slot} {rest : List Value} {D : va_G} {k : Nat → ClassId} {A : Nat → Prop} {ws : va_W} {nL : Nat} {Ts : List Cond} {own : String}
theorem k_jlret {w1 : JK → va_W} {r0 : Option Value} {v : Int64} {j : JK} (hx : p.tables.exec = Jvm.exec) (hb : c.code = cc) (hr : meth.sig.returnType = some .long) (hlocks : meth.locks = false) (hw : Wd D A s.heap H locs (w1 j)) (hv : some (Value.long v) = r0) (hdg : decode cc pc = .ok (.lreturn, 1)) (hQ : MQ below (QJ D w1 r0 A) args s 0 0 A = Q) : W p l e R s m args below meth c H locs 0 0 Q (F0 m pc ls [.long v]) := by
  subst hv; subst hQ
  exact W.lret hx hb hr (fun t ht hW => ⟨⟨j, rfl, by rw [ht]; exact hw.1, hw.2.1⟩, hw.2.2.F ht⟩) hw.2.2.2.2 hdg hlocks
theorem k_backJ {wc wr : va_W} {w1 ws' : JK → va_W} {r0 : Option Value} {st0 : List Value} {a : Array Value} (hA : ∀ q, s.heap.size ≤ q → A q) (hw : Wd D A s.heap H locs ws)
    (hr : va_Run p l e R s m args below meth c H locs cells slots 0 0 (F0 m pc ls st0) rest (QJ D w1 r0 (va_A wc H.size) a) (va_A wc H.size))
    (isC isR perm : List Nat) (hC : isC.map (fun i => ws[i]?) = wc.map some) (hR : isR.map (fun i => ws[i]?) = wr.map some) (hn : va_nd isR = true) (hdis : ∀ i ∈ isR, i ∉ isC) (hp : ∀ j, perm.map (fun i => (wr ++ w1 j)[i]?) = (ws' j).map some) (hpn : va_nd perm = true)
    (kk : ∀ (j : JK) (H1 : Heap) (locs1 : List Loc), Wd D A s.heap H1 locs1 (ws' j) → W p l e R s m args below meth c H1 locs1 cells slots Q (F0 m (pc + 3) ls (r0.toList ++ rest))) : W p l e R s m args below meth c H locs cells slots Q (F0 m pc ls st0) := by
  obtain ⟨hP, hD, hS⟩ := hw
  have hF := va_free (wc := wc) hD hS hA isC hC
  intro T hT X
  obtain ⟨v, st₀, t, T', L, h0, X', hL, e1, e2, ⟨⟨j, hv, hP1, hD1⟩, hz, hk⟩, st⟩ := hr T hT X
  cases hv
  rw [h0] at hz hk
  have hkk : ∀ q : Nat, q < H.size → ¬ va_A wc H.size q → T'.heap[q]? = H[q]? := fun q h1 h2 => by rw [e1]; exact hk q h1 h2
  obtain ⟨jP, jD⟩ := va_join hP hD isC isR hC hR hn hdis hkk hF (by rw [e1]; exact hP1) hD1
  have hP2 : va_P D vwCl (ws' j) T'.heap := jP.sub perm (by
    have : perm.filterMap (fun i => (wr ++ w1 j)[i]?) = (perm.map (fun i => (wr ++ w1 j)[i]?)).filterMap id := by rw [List.filterMap_map]; rfl
    rw [this, hp j, List.filterMap_map]; simp)
  have hD2 : va_D A (ws' j) := jD.sub perm hpn (hp j)
  obtain ⟨t2, a1, b1⟩ := kk j T'.heap (locs ++ L) ⟨hP2, hD2, Nat.le_trans hS.1 (by rw [e1]; exact hz), fun q h1 h2 => by rw [hkk q (Nat.lt_of_lt_of_le h1 hS.1) (fun z => h2 (hF q z))]; exact hS.2.1 q h1 h2, fun q hq => by
      rcases List.mem_append.mp hq with h | h
      · exact hS.2.2 q h
      · exact hF _ (hL q h)⟩ T' rfl X'
  exact ⟨t2, st t2 a1, b1⟩
theorem k_callVJ {n index maxL : Nat} {y : MethodName} {bytes : ByteArray} {ret : Option FieldType} {wsm : List Cond} {rm : Room} {C : String} {b : Nat} {As st0 : List Value} {wc wr : va_W} {w1 ws' : JK → va_W} {r0 : Option Value} (cx : CallFix p m c cc nL s args Ts own) (hK : KK D k s) (hA : ∀ q, s.heap.size ≤ q → A q) (hw : Wd D A s.heap H locs ws)
    (hM : mJ l y wsm rm D k H.size (.ref b :: As) wc w1 r0) (cw : CallW R s args own C index y bytes maxL ret wsm rm 0 0 n)
    (isC isR perm : List Nat) (hC : isC.map (fun i => ws[i]?) = wc.map some) (hR : isR.map (fun i => ws[i]?) = wr.map some) (hnC : va_nd isC = true) (hn : va_nd isR = true) (hdis : ∀ i ∈ isR, i ∉ isC) (hp : ∀ j, perm.map (fun i => (wr ++ w1 j)[i]?) = (ws' j).map some) (hpn : va_nd perm = true) (ci : Nat) {T : u_T} {N : Nat} {fs : List Value} (hci : vwCl[ci]? = some (C, T, N)) (hb0 : wc[0]? = some (b, .inr (ci, fs)))
    (rest : List Value) (hlen : As.length = n) (hsize : ls.size = nL) (hst : st0 = As.reverse ++ .ref b :: rest) (hroom : (rest.map fun v => v.category).sum ≤ 8) (hdg : decode cc pc = .ok (.invokevirtual index, 3)) (hcs : cells ≤ R.cells ∧ slots ≤ R.slots)
    (kk : ∀ (j : JK) (H1 : Heap) (locs1 : List Loc), Wd D A s.heap H1 locs1 (ws' j) → W p l e R s m args below meth c H1 locs1 cells slots Q (F0 m (pc + 3) ls (r0.toList ++ rest))) : W p l e R s m args below meth c H locs cells slots Q (F0 m pc ls st0) := by
  subst hst
  have hPc : va_P D vwCl wc H := hw.1.sub isC (by
    have : isC.filterMap (fun i => ws[i]?) = (isC.map (fun i => ws[i]?)).filterMap id := by rw [List.filterMap_map]; rfl
    rw [this, hC, List.filterMap_map]; simp)
  have hDc : va_D A wc := hw.2.1.sub isC hnC hC
  have hpre : ∀ U : State, U.heap = H → s.WarmedH U.vm → Pw D k H.size (.ref b :: As) wc ((.ref b :: As : List Value)).toArray U := fun U hU hW => ⟨rfl, by rw [hU], by rw [hU]; exact hPc, hK.warm hW, hDc.weaken (fun _ _ _ _ => trivial)⟩
  exact k_backJ hA hw (va_runV cx hM cw ⟨Pw.blind, va_recv hK.1 hPc hci hb0, hpre⟩ rfl hlen hsize rfl (lv_room hroom) hdg hcs) isC isR perm hC hR hn hdis hp hpn kk
end KJ
abbrev rmX2_commonDivisor : Room := { frames := 0, cells := 0, slots := 0, locals := 0 }
set_option maxHeartbeats 4000000 in
set_option maxRecDepth 100000 in
theorem c_X2_commonDivisor (l : Launch) (D : va_G) (k : Nat → ClassId) (sz : Nat) (p1 : Int64) (p2 : Int64) (r_ : Int64) (hf : f_X2_commonDivisor p1 p2 = some r_) : mR l yX2_commonDivisor wsX2_commonDivisor rmX2_commonDivisor D k sz [.long p1, .long p2] ([]) ([]) (some (.long r_)) := by
  refine mR_of (cc := cX2_commonDivisor) (maxL := 11) (ret := some .long) (by decide) rfl (Nat.le_of_ble_eq_true rfl) [(0, .long p1), (2, .long p2)] rfl ?_
  intro p e s m below meth c A ls args Q cx hK hA hw hl hQ
  have fx := cx.1
  obtain ⟨⟨hx, hb, hml, hown, hts⟩, hr, hlocks⟩ := cx
  have h := hf
  unfold f_X2_commonDivisor at h
  clear hf
  refine lv_lload_n hx hb dX2_commonDivisor_0 rfl (lv_at hl 0 rfl) ?_
  refine lv_lstore (lv' := [(4, .long p1), (0, .long p1), (2, .long p2)]) hx hb dX2_commonDivisor_1 hl (by decide) rfl (fun ls hl => ?_)
  refine lv_lload_n hx hb dX2_commonDivisor_3 rfl (lv_at hl 2 rfl) ?_
  refine lv_lstore (lv' := [(6, .long p2), (4, .long p1), (0, .long p1), (2, .long p2)]) hx hb dX2_commonDivisor_4 hl (by decide) rfl (fun ls hl => ?_)
  refine lv_iconst (v := 0) hx hb dX2_commonDivisor_6 (by decide) ?_
  refine lv_istore (lv' := [(8, .int 0), (6, .long p2), (4, .long p1), (0, .long p1), (2, .long p2)]) hx hb dX2_commonDivisor_7 hl (by decide) rfl (fun ls hl => ?_)
  obtain ⟨v4_4, hL_9, h⟩ := b1_inv h
  have X_9 : ∀ (H : Heap) (locs : List Loc) (ls : Array Slot), Wd D A s.heap H locs ([]) → lv_has ls 11 [(4, .long v4_4)] → W p l e rmX2_commonDivisor s m args below meth c H locs 0 0 Q (F0 m 44 ls []) := by
    intro H locs ls hw hl
    refine lv_lload hx hb dX2_commonDivisor_44 (lv_at hl 0 rfl) ?_
    cases h
    exact k_lret hx hb hr hlocks hw rfl dX2_commonDivisor_46 hQ
  clear h
  have LP_9 : ∀ (n : Nat) (v4_1 : Int64) (v6_2 : Int64) (v8_3 : Int32), f_X2_commonDivisor_L9 n v4_1 v6_2 v8_3 = some v4_4 → ∀ (H : Heap) (locs : List Loc) (ls : Array Slot), Wd D A s.heap H locs ([]) → lv_has ls 11 [(4, .long v4_1), (6, .long v6_2), (8, .int v8_3)] → W p l e rmX2_commonDivisor s m args below meth c H locs 0 0 Q (F0 m 9 ls []) := by
    clear hL_9 hw hl
    intro n
    induction n with
    | zero => intro v4_1 v6_2 v8_3 h; rw [f_X2_commonDivisor_L9] at h; cases h
    | succ n ih =>
      intro v4_1 v6_2 v8_3 h H locs ls hw hl
      rw [f_X2_commonDivisor_L9] at h
      refine lv_iload hx hb dX2_commonDivisor_9 (lv_at hl 2 rfl) ?_
      refine lv_bipush (v := 100) hx hb dX2_commonDivisor_11 (by decide) ?_
      refine kb_icmp_ge (tgt := 44) hx hb dX2_commonDivisor_13 (by decide) h (fun c_13 h => ?_) (fun c_13 h => ?_)
      · cases h
        exact X_9 _ _ _ hw (lv_sub hl [0] rfl)
      · refine lv_lload hx hb dX2_commonDivisor_16 (lv_at hl 1 rfl) ?_
        refine lv_lconst (v := 0) hx hb dX2_commonDivisor_18 rfl ?_
        refine W.lcmp hx hb dX2_commonDivisor_19 ?_
        refine kb_if_eq (tgt := 44) hx hb dX2_commonDivisor_20 (by decide) h (fun c_20 h => ?_) (fun c_20 h => ?_)
        · cases h
          exact X_9 _ _ _ hw (lv_sub hl [0] rfl)
        · refine lv_lload hx hb dX2_commonDivisor_23 (lv_at hl 0 rfl) ?_
          refine lv_lload hx hb dX2_commonDivisor_25 (lv_at hl 1 rfl) ?_
          refine k_lrem hx hb dX2_commonDivisor_27 h (fun h => ?_)
          refine lv_lstore (lv' := [(9, .long (v4_1 - v4_1 / v6_2 * v6_2)), (4, .long v4_1), (6, .long v6_2), (8, .int v8_3)]) hx hb dX2_commonDivisor_28 hl (by decide) rfl (fun ls hl => ?_)
          refine lv_lload hx hb dX2_commonDivisor_30 (lv_at hl 2 rfl) ?_
          refine lv_lstore (lv' := [(4, .long v6_2), (9, .long (v4_1 - v4_1 / v6_2 * v6_2)), (6, .long v6_2), (8, .int v8_3)]) hx hb dX2_commonDivisor_32 hl (by decide) rfl (fun ls hl => ?_)
          refine lv_lload hx hb dX2_commonDivisor_34 (lv_at hl 1 rfl) ?_
          refine lv_lstore (lv' := [(6, .long (v4_1 - v4_1 / v6_2 * v6_2)), (4, .long v6_2), (9, .long (v4_1 - v4_1 / v6_2 * v6_2)), (8, .int v8_3)]) hx hb dX2_commonDivisor_36 hl (by decide) rfl (fun ls hl => ?_)
          refine lv_iinc (v := v8_3 + 1) (lv' := [(8, .int (v8_3 + 1)), (6, .long (v4_1 - v4_1 / v6_2 * v6_2)), (4, .long v6_2), (9, .long (v4_1 - v4_1 / v6_2 * v6_2))]) hx hb dX2_commonDivisor_38 hl (k := 3) rfl rfl (by decide) rfl (fun ls hl => ?_)
          refine lv_goto (tgt := 9) hx hb dX2_commonDivisor_41 (by decide) ?_
          exact ih _ _ _ h _ _ _ hw (lv_sub hl [2, 1, 0] rfl)
  exact LP_9 400 p1 p2 0 hL_9 _ _ _ hw (lv_sub hl [2, 1, 0] rfl)
abbrev rmX2_worth : Room := { frames := 2, cells := 0, slots := 0, locals := 45 }
set_option maxHeartbeats 4000000 in
set_option maxRecDepth 100000 in
theorem c_X2_worth (l : Launch) (D : va_G) (k : Nat → ClassId) (nh nrNa nrMo nrWa nrDe : Nat) (sz : Nat) (nPe : Int32) (nDa : Int32) (nDr : Int32) (nNa : (Nat → Int32)) (nMo : (Nat → Int32)) (nWa : (Nat → Int32)) (nDe : (Nat → Int32)) (p2 : Int32) (r_ : Int64) (hf : f_X2_worth nPe nDe p2 = some r_) : mR l yX2_worth wsX2_worth rmX2_worth D k sz [.ref nh, .int p2] (wX1 k nh nrNa nrMo nrWa nrDe nPe nDa nDr nNa nMo nWa nDe) (wX1 k nh nrNa nrMo nrWa nrDe nPe nDa nDr nNa nMo nWa nDe) (some (.long r_)) := by
  refine mR_of (cc := cX2_worth) (maxL := 2) (ret := some .long) (by decide) rfl (Nat.le_of_ble_eq_true rfl) [(0, .ref nh), (1, .int p2)] rfl ?_
  intro p e s m below meth c A ls args Q cx hK hA hw hl hQ
  have fx := cx.1
  obtain ⟨⟨hx, hb, hml, hown, hts⟩, hr, hlocks⟩ := cx
  have h := hf
  unfold f_X2_worth at h
  clear hf
  refine lv_iload_n hx hb dX2_worth_0 rfl (lv_at hl 1 rfl) ?_
  refine lv_iconst (v := (-1)) hx hb dX2_worth_1 (by decide) ?_
  refine kb_icmp_ne (tgt := 11) hx hb dX2_worth_2 (by decide) h (fun c_2 h => ?_) (fun c_2 h => ?_)
  · refine lv_aload_n hx hb dX2_worth_5 rfl (lv_at hl 0 rfl) ?_
    obtain ⟨r_2, hf, h⟩ := b1_inv h
    refine k_callV (host := "") fx hK hA hw (c_X1_owedInAll l D k nh nrNa nrMo nrWa nrDe _ nPe nDa nDr nNa nMo nWa nDe r_2 hf) (cwV 0 hts gX2_worth_X1_owedInAll rfl rfl rfl (by decide +kernel) ⟨by decide, by decide⟩) (As := []) (wr := []) (ws' := wX1 k nh nrNa nrMo nrWa nrDe nPe nDa nDr nNa nMo nWa nDe) [0, 1, 2, 3, 4] [] [0, 1, 2, 3, 4] rfl rfl (by decide) (by decide) (by decide) rfl (by decide) 1 rfl rfl [] rfl hl.1 rfl (Nat.le_of_ble_eq_true rfl) dX2_worth_6 ⟨by decide, by decide⟩ (fun H locs (hw : Wd D A s.heap H locs (wX1 k nh nrNa nrMo nrWa nrDe nPe nDa nDr nNa nMo nWa nDe)) => ?_)
    refine W.eq (g2 := F0 m 9 ls ([.int r_2])) rfl ?_
    refine lv_i2l hx hb dX2_worth_9 rfl ?_
    cases h
    exact k_lret hx hb hr hlocks hw rfl dX2_worth_10 hQ
  · refine lv_aload_n hx hb dX2_worth_11 rfl (lv_at hl 0 rfl) ?_
    refine lv_iload_n hx hb dX2_worth_12 rfl (lv_at hl 1 rfl) ?_
    obtain ⟨r_1, hf, h⟩ := b1_inv h
    refine k_callV (host := "") fx hK hA hw (c_X1_isRiding l D k nh nrNa nrMo nrWa nrDe _ nPe nDa nDr nNa nMo nWa nDe p2 r_1 hf) (cwV 1 hts gX2_worth_X1_isRiding rfl rfl rfl (by decide +kernel) ⟨by decide, by decide⟩) (As := [.int p2]) (wr := []) (ws' := wX1 k nh nrNa nrMo nrWa nrDe nPe nDa nDr nNa nMo nWa nDe) [0, 1, 2, 3, 4] [] [0, 1, 2, 3, 4] rfl rfl (by decide) (by decide) (by decide) rfl (by decide) 1 rfl rfl [] rfl hl.1 rfl (Nat.le_of_ble_eq_true rfl) dX2_worth_13 ⟨by decide, by decide⟩ (fun H locs (hw : Wd D A s.heap H locs (wX1 k nh nrNa nrMo nrWa nrDe nPe nDa nDr nNa nMo nWa nDe)) => ?_)
    refine W.eq (g2 := F0 m 16 ls ([.int r_1])) rfl ?_
    refine kb_if_eq (tgt := 23) hx hb dX2_worth_16 (by decide) h (fun c_16 h => ?_) (fun c_16 h => ?_)
    · refine lv_lconst (v := 0) hx hb dX2_worth_23 rfl ?_
      cases h
      exact k_lret hx hb hr hlocks hw rfl dX2_worth_24 hQ
    · refine lv_lconst (v := 1) hx hb dX2_worth_19 rfl ?_
      refine lv_goto (tgt := 24) hx hb dX2_worth_20 (by decide) ?_
      cases h
      exact k_lret hx hb hr hlocks hw rfl dX2_worth_24 hQ
abbrev rmX2_weighed_8 : Room := { frames := 3, cells := 0, slots := 0, locals := 66 }
set_option maxHeartbeats 4000000 in
set_option maxRecDepth 100000 in
theorem c_X2_weighed_8 (l : Launch) (D : va_G) (k : Nat → ClassId) (xh xaA t0 t1 t2 t3 t4 t5 t6 t7 t8 u0rNa u0rMo u0rWa u0rDe u1rNa u1rMo u1rWa u1rDe u2rNa u2rMo u2rWa u2rDe u3rNa u3rMo u3rWa u3rDe u4rNa u4rMo u4rWa u4rDe u5rNa u5rMo u5rWa u5rDe u6rNa u6rMo u6rWa u6rDe u7rNa u7rMo u7rWa u7rDe u8rNa u8rMo u8rWa u8rDe : Nat) (sz : Nat) (u0Pe : Int32) (u0Da : Int32) (u0Dr : Int32) (u0Na : (Nat → Int32)) (u0Mo : (Nat → Int32)) (u0Wa : (Nat → Int32)) (u0De : (Nat → Int32)) (u1Pe : Int32) (u1Da : Int32) (u1Dr : Int32) (u1Na : (Nat → Int32)) (u1Mo : (Nat → Int32)) (u1Wa : (Nat → Int32)) (u1De : (Nat → Int32)) (u2Pe : Int32) (u2Da : Int32) (u2Dr : Int32) (u2Na : (Nat → Int32)) (u2Mo : (Nat → Int32)) (u2Wa : (Nat → Int32)) (u2De : (Nat → Int32)) (u3Pe : Int32) (u3Da : Int32) (u3Dr : Int32) (u3Na : (Nat → Int32)) (u3Mo : (Nat → Int32)) (u3Wa : (Nat → Int32)) (u3De : (Nat → Int32)) (u4Pe : Int32) (u4Da : Int32) (u4Dr : Int32) (u4Na : (Nat → Int32)) (u4Mo : (Nat → Int32)) (u4Wa : (Nat → Int32)) (u4De : (Nat → Int32)) (u5Pe : Int32) (u5Da : Int32) (u5Dr : Int32) (u5Na : (Nat → Int32)) (u5Mo : (Nat → Int32)) (u5Wa : (Nat → Int32)) (u5De : (Nat → Int32)) (u6Pe : Int32) (u6Da : Int32) (u6Dr : Int32) (u6Na : (Nat → Int32)) (u6Mo : (Nat → Int32)) (u6Wa : (Nat → Int32)) (u6De : (Nat → Int32)) (u7Pe : Int32) (u7Da : Int32) (u7Dr : Int32) (u7Na : (Nat → Int32)) (u7Mo : (Nat → Int32)) (u7Wa : (Nat → Int32)) (u7De : (Nat → Int32)) (u8Pe : Int32) (u8Da : Int32) (u8Dr : Int32) (u8Na : (Nat → Int32)) (u8Mo : (Nat → Int32)) (u8Wa : (Nat → Int32)) (u8De : (Nat → Int32)) (p2 : Int32) (p3 : Int32) (p4 : Int32) (r_ : Int64) (hf : f_X2_weighed_8 u8Pe u8De p2 p3 p4 = some r_) : mJ l yX2_weighed wsX2_weighed rmX2_weighed_8 D k sz [.ref xh, .int 8, .int p2, .int p3, .int p4] (wX2 k xh xaA ++ (wOA k xaA t0 t1 t2 t3 t4 t5 t6 t7 t8 ++ (wX1 k t0 u0rNa u0rMo u0rWa u0rDe u0Pe u0Da u0Dr u0Na u0Mo u0Wa u0De ++ (wX1 k t1 u1rNa u1rMo u1rWa u1rDe u1Pe u1Da u1Dr u1Na u1Mo u1Wa u1De ++ (wX1 k t2 u2rNa u2rMo u2rWa u2rDe u2Pe u2Da u2Dr u2Na u2Mo u2Wa u2De ++ (wX1 k t3 u3rNa u3rMo u3rWa u3rDe u3Pe u3Da u3Dr u3Na u3Mo u3Wa u3De ++ (wX1 k t4 u4rNa u4rMo u4rWa u4rDe u4Pe u4Da u4Dr u4Na u4Mo u4Wa u4De ++ (wX1 k t5 u5rNa u5rMo u5rWa u5rDe u5Pe u5Da u5Dr u5Na u5Mo u5Wa u5De ++ (wX1 k t6 u6rNa u6rMo u6rWa u6rDe u6Pe u6Da u6Dr u6Na u6Mo u6Wa u6De ++ (wX1 k t7 u7rNa u7rMo u7rWa u7rDe u7Pe u7Da u7Dr u7Na u7Mo u7Wa u7De ++ (wX1 k t8 u8rNa u8rMo u8rWa u8rDe u8Pe u8Da u8Dr u8Na u8Mo u8Wa u8De))))))))))) (fun j => wX2 k xh xaA ++ (wOA k xaA t0 t1 t2 t3 t4 t5 t6 t7 t8 ++ (wX1 k t0 u0rNa u0rMo u0rWa u0rDe u0Pe u0Da u0Dr u0Na u0Mo u0Wa u0De ++ (wX1 k t1 u1rNa u1rMo u1rWa u1rDe u1Pe u1Da u1Dr u1Na u1Mo u1Wa u1De ++ (wX1 k t2 u2rNa u2rMo u2rWa u2rDe u2Pe u2Da u2Dr u2Na u2Mo u2Wa u2De ++ (wX1 k t3 u3rNa u3rMo u3rWa u3rDe u3Pe u3Da u3Dr u3Na u3Mo u3Wa u3De ++ (wX1 k t4 u4rNa u4rMo u4rWa u4rDe u4Pe u4Da u4Dr u4Na u4Mo u4Wa u4De ++ (wX1 k t5 u5rNa u5rMo u5rWa u5rDe u5Pe u5Da u5Dr u5Na u5Mo u5Wa u5De ++ (wX1 k t6 u6rNa u6rMo u6rWa u6rDe u6Pe u6Da u6Dr u6Na u6Mo u6Wa u6De ++ (wX1 k t7 u7rNa u7rMo u7rWa u7rDe u7Pe u7Da u7Dr u7Na u7Mo u7Wa u7De ++ (wX1 k t8 u8rNa u8rMo u8rWa u8rDe u8Pe u8Da u8Dr u8Na u8Mo u8Wa u8De))))))))))) (some (.long r_)) := by
  refine mJ_of (cc := cX2_weighed) (maxL := 10) (ret := some .long) (by decide) rfl (Nat.le_of_ble_eq_true rfl) [(0, .ref xh), (1, .int 8), (2, .int p2), (3, .int p3), (4, .int p4)] rfl ?_
  intro p e s m below meth c A ls args Q cx hK hA hw hl hQ
  have fx := cx.1
  obtain ⟨⟨hx, hb, hml, hown, hts⟩, hr, hlocks⟩ := cx
  have hinX2 : ∀ w ∈ wsX20, w ∈ wsX2_weighed := fun w h => List.mem_cons_of_mem _ (List.mem_append_left _ (List.mem_append_right _ h))
  have q_1 := hts (.fieldLink RX2 11 "DebtRides$Odds" "steps" "[LDebtRides$Land;") (List.mem_of_getElem? (i := 1) rfl)
  have h := hf
  unfold f_X2_weighed_8 at h
  clear hf
  refine lv_iload_n hx hb dX2_weighed_0 rfl (lv_at hl 1 rfl) ?_
  refine lv_iload hx hb dX2_weighed_1 (lv_at hl 4 rfl) ?_
  have T_17 : f_X2_weighed_8_B17 u8Pe u8De p3 = some r_ → ∀ (H : Heap) (locs : List Loc) (ls : Array Slot), Wd D A s.heap H locs (wX2 k xh xaA ++ (wOA k xaA t0 t1 t2 t3 t4 t5 t6 t7 t8 ++ (wX1 k t0 u0rNa u0rMo u0rWa u0rDe u0Pe u0Da u0Dr u0Na u0Mo u0Wa u0De ++ (wX1 k t1 u1rNa u1rMo u1rWa u1rDe u1Pe u1Da u1Dr u1Na u1Mo u1Wa u1De ++ (wX1 k t2 u2rNa u2rMo u2rWa u2rDe u2Pe u2Da u2Dr u2Na u2Mo u2Wa u2De ++ (wX1 k t3 u3rNa u3rMo u3rWa u3rDe u3Pe u3Da u3Dr u3Na u3Mo u3Wa u3De ++ (wX1 k t4 u4rNa u4rMo u4rWa u4rDe u4Pe u4Da u4Dr u4Na u4Mo u4Wa u4De ++ (wX1 k t5 u5rNa u5rMo u5rWa u5rDe u5Pe u5Da u5Dr u5Na u5Mo u5Wa u5De ++ (wX1 k t6 u6rNa u6rMo u6rWa u6rDe u6Pe u6Da u6Dr u6Na u6Mo u6Wa u6De ++ (wX1 k t7 u7rNa u7rMo u7rWa u7rDe u7Pe u7Da u7Dr u7Na u7Mo u7Wa u7De ++ (wX1 k t8 u8rNa u8rMo u8rWa u8rDe u8Pe u8Da u8Dr u8Na u8Mo u8Wa u8De))))))))))) → lv_has ls 10 [(0, .ref xh), (1, .int 8), (3, .int p3)] → W p l e rmX2_weighed_8 s m args below meth c H locs 0 0 Q (F0 m 17 ls []) := by
    clear h
    intro h H locs ls hw hl
    unfold f_X2_weighed_8_B17 at h
    refine lv_aload_n hx hb dX2_weighed_17 rfl (lv_at hl 0 rfl) ?_
    refine va_get (ci := 2) (v := .ref xaA) (C := RX2) (T := TX2) (N := 1) hx hb hts hinX2 hown hK.1 hw.1 0 rfl rfl 0 (by decide) q_1 (fun _ h9 => h9) rfl dX2_weighed_18 ?_
    refine lv_iload_n hx hb dX2_weighed_21 rfl (lv_at hl 1 rfl) ?_
    refine k_aald hx hb hK hw 1 3 (j := 8) (a' := t8) rfl rfl rfl (by unfold vp_in; decide) rfl dX2_weighed_22 ?_
    refine lv_iload_n hx hb dX2_weighed_23 rfl (lv_at hl 2 rfl) ?_
    obtain ⟨r_1, hf, h⟩ := b1_inv h
    refine k_callS (b := 0) (C := "") (host := "") fx hK hA hw (c_X2_worth l D k t8 u8rNa u8rMo u8rWa u8rDe _ u8Pe u8Da u8Dr u8Na u8Mo u8Wa u8De p3 r_1 hf) (va_cwS 2 hts gX2_weighed_X2_worth rfl rfl rfl (by decide +kernel) ⟨by decide, by decide⟩) (As := [.ref t8, .int p3]) (wr := [(xh, .inr (2, [.ref xaA])), (xaA, .inl (k 3, 9, .inr (.inr (.inr (.inr (rl [t0, t1, t2, t3, t4, t5, t6, t7, t8])))))), (t0, .inr (1, [.int u0Pe, .int u0Da, .int u0Dr, .ref u0rNa, .ref u0rMo, .ref u0rWa, .ref u0rDe])), (u0rNa, .inl (k 0, 5, .inl u0Na)), (u0rMo, .inl (k 0, 5, .inl u0Mo)), (u0rWa, .inl (k 0, 5, .inl u0Wa)), (u0rDe, .inl (k 0, 25, .inl u0De)), (t1, .inr (1, [.int u1Pe, .int u1Da, .int u1Dr, .ref u1rNa, .ref u1rMo, .ref u1rWa, .ref u1rDe])), (u1rNa, .inl (k 0, 5, .inl u1Na)), (u1rMo, .inl (k 0, 5, .inl u1Mo)), (u1rWa, .inl (k 0, 5, .inl u1Wa)), (u1rDe, .inl (k 0, 25, .inl u1De)), (t2, .inr (1, [.int u2Pe, .int u2Da, .int u2Dr, .ref u2rNa, .ref u2rMo, .ref u2rWa, .ref u2rDe])), (u2rNa, .inl (k 0, 5, .inl u2Na)), (u2rMo, .inl (k 0, 5, .inl u2Mo)), (u2rWa, .inl (k 0, 5, .inl u2Wa)), (u2rDe, .inl (k 0, 25, .inl u2De)), (t3, .inr (1, [.int u3Pe, .int u3Da, .int u3Dr, .ref u3rNa, .ref u3rMo, .ref u3rWa, .ref u3rDe])), (u3rNa, .inl (k 0, 5, .inl u3Na)), (u3rMo, .inl (k 0, 5, .inl u3Mo)), (u3rWa, .inl (k 0, 5, .inl u3Wa)), (u3rDe, .inl (k 0, 25, .inl u3De)), (t4, .inr (1, [.int u4Pe, .int u4Da, .int u4Dr, .ref u4rNa, .ref u4rMo, .ref u4rWa, .ref u4rDe])), (u4rNa, .inl (k 0, 5, .inl u4Na)), (u4rMo, .inl (k 0, 5, .inl u4Mo)), (u4rWa, .inl (k 0, 5, .inl u4Wa)), (u4rDe, .inl (k 0, 25, .inl u4De)), (t5, .inr (1, [.int u5Pe, .int u5Da, .int u5Dr, .ref u5rNa, .ref u5rMo, .ref u5rWa, .ref u5rDe])), (u5rNa, .inl (k 0, 5, .inl u5Na)), (u5rMo, .inl (k 0, 5, .inl u5Mo)), (u5rWa, .inl (k 0, 5, .inl u5Wa)), (u5rDe, .inl (k 0, 25, .inl u5De)), (t6, .inr (1, [.int u6Pe, .int u6Da, .int u6Dr, .ref u6rNa, .ref u6rMo, .ref u6rWa, .ref u6rDe])), (u6rNa, .inl (k 0, 5, .inl u6Na)), (u6rMo, .inl (k 0, 5, .inl u6Mo)), (u6rWa, .inl (k 0, 5, .inl u6Wa)), (u6rDe, .inl (k 0, 25, .inl u6De)), (t7, .inr (1, [.int u7Pe, .int u7Da, .int u7Dr, .ref u7rNa, .ref u7rMo, .ref u7rWa, .ref u7rDe])), (u7rNa, .inl (k 0, 5, .inl u7Na)), (u7rMo, .inl (k 0, 5, .inl u7Mo)), (u7rWa, .inl (k 0, 5, .inl u7Wa)), (u7rDe, .inl (k 0, 25, .inl u7De))]) (ws' := wX2 k xh xaA ++ (wOA k xaA t0 t1 t2 t3 t4 t5 t6 t7 t8 ++ (wX1 k t0 u0rNa u0rMo u0rWa u0rDe u0Pe u0Da u0Dr u0Na u0Mo u0Wa u0De ++ (wX1 k t1 u1rNa u1rMo u1rWa u1rDe u1Pe u1Da u1Dr u1Na u1Mo u1Wa u1De ++ (wX1 k t2 u2rNa u2rMo u2rWa u2rDe u2Pe u2Da u2Dr u2Na u2Mo u2Wa u2De ++ (wX1 k t3 u3rNa u3rMo u3rWa u3rDe u3Pe u3Da u3Dr u3Na u3Mo u3Wa u3De ++ (wX1 k t4 u4rNa u4rMo u4rWa u4rDe u4Pe u4Da u4Dr u4Na u4Mo u4Wa u4De ++ (wX1 k t5 u5rNa u5rMo u5rWa u5rDe u5Pe u5Da u5Dr u5Na u5Mo u5Wa u5De ++ (wX1 k t6 u6rNa u6rMo u6rWa u6rDe u6Pe u6Da u6Dr u6Na u6Mo u6Wa u6De ++ (wX1 k t7 u7rNa u7rMo u7rWa u7rDe u7Pe u7Da u7Dr u7Na u7Mo u7Wa u7De ++ (wX1 k t8 u8rNa u8rMo u8rWa u8rDe u8Pe u8Da u8Dr u8Na u8Mo u8Wa u8De))))))))))) [42, 43, 44, 45, 46] [0, 1, 2, 3, 4, 5, 6, 7, 8, 9, 10, 11, 12, 13, 14, 15, 16, 17, 18, 19, 20, 21, 22, 23, 24, 25, 26, 27, 28, 29, 30, 31, 32, 33, 34, 35, 36, 37, 38, 39, 40, 41] [0, 1, 2, 3, 4, 5, 6, 7, 8, 9, 10, 11, 12, 13, 14, 15, 16, 17, 18, 19, 20, 21, 22, 23, 24, 25, 26, 27, 28, 29, 30, 31, 32, 33, 34, 35, 36, 37, 38, 39, 40, 41, 42, 43, 44, 45, 46] rfl rfl (by decide) (by decide) (by decide) rfl (by decide) [] rfl hl.1 rfl (Nat.le_of_ble_eq_true rfl) dX2_weighed_24 ⟨by decide, by decide⟩ (fun H locs (hw : Wd D A s.heap H locs (wX2 k xh xaA ++ (wOA k xaA t0 t1 t2 t3 t4 t5 t6 t7 t8 ++ (wX1 k t0 u0rNa u0rMo u0rWa u0rDe u0Pe u0Da u0Dr u0Na u0Mo u0Wa u0De ++ (wX1 k t1 u1rNa u1rMo u1rWa u1rDe u1Pe u1Da u1Dr u1Na u1Mo u1Wa u1De ++ (wX1 k t2 u2rNa u2rMo u2rWa u2rDe u2Pe u2Da u2Dr u2Na u2Mo u2Wa u2De ++ (wX1 k t3 u3rNa u3rMo u3rWa u3rDe u3Pe u3Da u3Dr u3Na u3Mo u3Wa u3De ++ (wX1 k t4 u4rNa u4rMo u4rWa u4rDe u4Pe u4Da u4Dr u4Na u4Mo u4Wa u4De ++ (wX1 k t5 u5rNa u5rMo u5rWa u5rDe u5Pe u5Da u5Dr u5Na u5Mo u5Wa u5De ++ (wX1 k t6 u6rNa u6rMo u6rWa u6rDe u6Pe u6Da u6Dr u6Na u6Mo u6Wa u6De ++ (wX1 k t7 u7rNa u7rMo u7rWa u7rDe u7Pe u7Da u7Dr u7Na u7Mo u7Wa u7De ++ (wX1 k t8 u8rNa u8rMo u8rWa u8rDe u8Pe u8Da u8Dr u8Na u8Mo u8Wa u8De)))))))))))) => ?_)
    refine W.eq (g2 := F0 m 27 ls ([.long r_1])) rfl ?_
    cases h
    exact k_jlret (j := (fun i => List.getD [] i 0, fun i => List.getD [] i (fun _ => 0))) hx hb hr hlocks hw rfl dX2_weighed_27 hQ
  refine kb_icmp_ge (tgt := 17) hx hb dX2_weighed_3 (by decide) h (fun c_3 h => ?_) (fun c_3 h => ?_)
  · exact T_17 h _ _ _ hw (lv_sub hl [0, 1, 3] rfl)
  · refine lv_iload_n hx hb dX2_weighed_6 rfl (lv_at hl 1 rfl) ?_
    refine lv_iconst (v := 1) hx hb dX2_weighed_7 (by decide) ?_
    refine lv_iadd hx hb dX2_weighed_8 ?_
    refine k_lit (y := 9) (by decide) ?_
    refine lv_aload_n hx hb dX2_weighed_9 rfl (lv_at hl 0 rfl) ?_
    refine va_get (ci := 2) (v := .ref xaA) (C := RX2) (T := TX2) (N := 1) hx hb hts hinX2 hown hK.1 hw.1 0 rfl rfl 0 (by decide) q_1 (fun _ h9 => h9) rfl dX2_weighed_10 ?_
    refine va_alen (v := 9) hx hb hK.1 hw.1 1 3 rfl rfl rfl dX2_weighed_13 ?_
    refine lv_icmp_lt (tgt := 28) hx hb dX2_weighed_14 (by decide) (fun q => absurd q (by decide)) (fun _ => ?_)
    exact T_17 h _ _ _ hw (lv_sub hl [0, 1, 3] rfl)
abbrev rmX2_weighed_7 : Room := { frames := 4, cells := 0, slots := 0, locals := 95 }
set_option maxHeartbeats 4000000 in
set_option maxRecDepth 100000 in
theorem c_X2_weighed_7 (l : Launch) (D : va_G) (k : Nat → ClassId) (xh xaA t0 t1 t2 t3 t4 t5 t6 t7 t8 u0rNa u0rMo u0rWa u0rDe u1rNa u1rMo u1rWa u1rDe u2rNa u2rMo u2rWa u2rDe u3rNa u3rMo u3rWa u3rDe u4rNa u4rMo u4rWa u4rDe u5rNa u5rMo u5rWa u5rDe u6rNa u6rMo u6rWa u6rDe u7rNa u7rMo u7rWa u7rDe u8rNa u8rMo u8rWa u8rDe : Nat) (sz : Nat) (u0Pe : Int32) (u0Da : Int32) (u0Dr : Int32) (u0Na : (Nat → Int32)) (u0Mo : (Nat → Int32)) (u0Wa : (Nat → Int32)) (u0De : (Nat → Int32)) (u1Pe : Int32) (u1Da : Int32) (u1Dr : Int32) (u1Na : (Nat → Int32)) (u1Mo : (Nat → Int32)) (u1Wa : (Nat → Int32)) (u1De : (Nat → Int32)) (u2Pe : Int32) (u2Da : Int32) (u2Dr : Int32) (u2Na : (Nat → Int32)) (u2Mo : (Nat → Int32)) (u2Wa : (Nat → Int32)) (u2De : (Nat → Int32)) (u3Pe : Int32) (u3Da : Int32) (u3Dr : Int32) (u3Na : (Nat → Int32)) (u3Mo : (Nat → Int32)) (u3Wa : (Nat → Int32)) (u3De : (Nat → Int32)) (u4Pe : Int32) (u4Da : Int32) (u4Dr : Int32) (u4Na : (Nat → Int32)) (u4Mo : (Nat → Int32)) (u4Wa : (Nat → Int32)) (u4De : (Nat → Int32)) (u5Pe : Int32) (u5Da : Int32) (u5Dr : Int32) (u5Na : (Nat → Int32)) (u5Mo : (Nat → Int32)) (u5Wa : (Nat → Int32)) (u5De : (Nat → Int32)) (u6Pe : Int32) (u6Da : Int32) (u6Dr : Int32) (u6Na : (Nat → Int32)) (u6Mo : (Nat → Int32)) (u6Wa : (Nat → Int32)) (u6De : (Nat → Int32)) (u7Pe : Int32) (u7Da : Int32) (u7Dr : Int32) (u7Na : (Nat → Int32)) (u7Mo : (Nat → Int32)) (u7Wa : (Nat → Int32)) (u7De : (Nat → Int32)) (u8Pe : Int32) (u8Da : Int32) (u8Dr : Int32) (u8Na : (Nat → Int32)) (u8Mo : (Nat → Int32)) (u8Wa : (Nat → Int32)) (u8De : (Nat → Int32)) (p2 : Int32) (p3 : Int32) (p4 : Int32) (r_ : Int64) (hf : f_X2_weighed_7 u7Pe u7Da u7Dr u7Na u7Mo u7Wa u7De p2 p3 p4 = some r_) : mJ l yX2_weighed wsX2_weighed rmX2_weighed_7 D k sz [.ref xh, .int 7, .int p2, .int p3, .int p4] (wX2 k xh xaA ++ (wOA k xaA t0 t1 t2 t3 t4 t5 t6 t7 t8 ++ (wX1 k t0 u0rNa u0rMo u0rWa u0rDe u0Pe u0Da u0Dr u0Na u0Mo u0Wa u0De ++ (wX1 k t1 u1rNa u1rMo u1rWa u1rDe u1Pe u1Da u1Dr u1Na u1Mo u1Wa u1De ++ (wX1 k t2 u2rNa u2rMo u2rWa u2rDe u2Pe u2Da u2Dr u2Na u2Mo u2Wa u2De ++ (wX1 k t3 u3rNa u3rMo u3rWa u3rDe u3Pe u3Da u3Dr u3Na u3Mo u3Wa u3De ++ (wX1 k t4 u4rNa u4rMo u4rWa u4rDe u4Pe u4Da u4Dr u4Na u4Mo u4Wa u4De ++ (wX1 k t5 u5rNa u5rMo u5rWa u5rDe u5Pe u5Da u5Dr u5Na u5Mo u5Wa u5De ++ (wX1 k t6 u6rNa u6rMo u6rWa u6rDe u6Pe u6Da u6Dr u6Na u6Mo u6Wa u6De ++ (wX1 k t7 u7rNa u7rMo u7rWa u7rDe u7Pe u7Da u7Dr u7Na u7Mo u7Wa u7De ++ (wX1 k t8 u8rNa u8rMo u8rWa u8rDe u8Pe u8Da u8Dr u8Na u8Mo u8Wa u8De))))))))))) (fun j => wX2 k xh xaA ++ (wOA k xaA t0 t1 t2 t3 t4 t5 t6 t7 t8 ++ (wX1 k t0 u0rNa u0rMo u0rWa u0rDe u0Pe u0Da u0Dr u0Na u0Mo u0Wa u0De ++ (wX1 k t1 u1rNa u1rMo u1rWa u1rDe u1Pe u1Da u1Dr u1Na u1Mo u1Wa u1De ++ (wX1 k t2 u2rNa u2rMo u2rWa u2rDe u2Pe u2Da u2Dr u2Na u2Mo u2Wa u2De ++ (wX1 k t3 u3rNa u3rMo u3rWa u3rDe u3Pe u3Da u3Dr u3Na u3Mo u3Wa u3De ++ (wX1 k t4 u4rNa u4rMo u4rWa u4rDe u4Pe u4Da u4Dr u4Na u4Mo u4Wa u4De ++ (wX1 k t5 u5rNa u5rMo u5rWa u5rDe u5Pe u5Da u5Dr u5Na u5Mo u5Wa u5De ++ (wX1 k t6 u6rNa u6rMo u6rWa u6rDe u6Pe u6Da u6Dr u6Na u6Mo u6Wa u6De ++ (wX1 k t7 u7rNa u7rMo u7rWa u7rDe u7Pe u7Da u7Dr u7Na u7Mo u7Wa u7De ++ (wX1 k t8 u8rNa u8rMo u8rWa u8rDe (j.1 0) (j.1 1) (j.1 2) (j.2 0) (j.2 1) (j.2 2) (j.2 3)))))))))))) (some (.long r_)) := by
  refine mJ_of (cc := cX2_weighed) (maxL := 10) (ret := some .long) (by decide) rfl (Nat.le_of_ble_eq_true rfl) [(0, .ref xh), (1, .int 7), (2, .int p2), (3, .int p3), (4, .int p4)] rfl ?_
  intro p e s m below meth c A ls args Q cx hK hA hw hl hQ
  have fx := cx.1
  obtain ⟨⟨hx, hb, hml, hown, hts⟩, hr, hlocks⟩ := cx
  have hinX2 : ∀ w ∈ wsX20, w ∈ wsX2_weighed := fun w h => List.mem_cons_of_mem _ (List.mem_append_left _ (List.mem_append_right _ h))
  have hinX1 : ∀ w ∈ wsX10, w ∈ wsX2_weighed := fun w h => List.mem_cons_of_mem _ (List.mem_append_right _ h)
  have q_1 := hts (.fieldLink RX2 11 "DebtRides$Odds" "steps" "[LDebtRides$Land;") (List.mem_of_getElem? (i := 1) rfl)
  have q_2 := hts (.fieldLink RX2 41 "DebtRides$Land" "dryness" "I") (List.mem_of_getElem? (i := 2) rfl)
  have h := hf
  unfold f_X2_weighed_7 at h
  clear hf
  refine lv_iload_n hx hb dX2_weighed_0 rfl (lv_at hl 1 rfl) ?_
  refine lv_iload hx hb dX2_weighed_1 (lv_at hl 4 rfl) ?_
  have T_17 : f_X2_weighed_7_B17 u7Pe u7De p3 = some r_ → ∀ (H : Heap) (locs : List Loc) (ls : Array Slot), Wd D A s.heap H locs (wX2 k xh xaA ++ (wOA k xaA t0 t1 t2 t3 t4 t5 t6 t7 t8 ++ (wX1 k t0 u0rNa u0rMo u0rWa u0rDe u0Pe u0Da u0Dr u0Na u0Mo u0Wa u0De ++ (wX1 k t1 u1rNa u1rMo u1rWa u1rDe u1Pe u1Da u1Dr u1Na u1Mo u1Wa u1De ++ (wX1 k t2 u2rNa u2rMo u2rWa u2rDe u2Pe u2Da u2Dr u2Na u2Mo u2Wa u2De ++ (wX1 k t3 u3rNa u3rMo u3rWa u3rDe u3Pe u3Da u3Dr u3Na u3Mo u3Wa u3De ++ (wX1 k t4 u4rNa u4rMo u4rWa u4rDe u4Pe u4Da u4Dr u4Na u4Mo u4Wa u4De ++ (wX1 k t5 u5rNa u5rMo u5rWa u5rDe u5Pe u5Da u5Dr u5Na u5Mo u5Wa u5De ++ (wX1 k t6 u6rNa u6rMo u6rWa u6rDe u6Pe u6Da u6Dr u6Na u6Mo u6Wa u6De ++ (wX1 k t7 u7rNa u7rMo u7rWa u7rDe u7Pe u7Da u7Dr u7Na u7Mo u7Wa u7De ++ (wX1 k t8 u8rNa u8rMo u8rWa u8rDe u8Pe u8Da u8Dr u8Na u8Mo u8Wa u8De))))))))))) → lv_has ls 10 [(0, .ref xh), (1, .int 7), (3, .int p3)] → W p l e rmX2_weighed_7 s m args below meth c H locs 0 0 Q (F0 m 17 ls []) := by
    clear h
    intro h H locs ls hw hl
    unfold f_X2_weighed_7_B17 at h
    refine lv_aload_n hx hb dX2_weighed_17 rfl (lv_at hl 0 rfl) ?_
    refine va_get (ci := 2) (v := .ref xaA) (C := RX2) (T := TX2) (N := 1) hx hb hts hinX2 hown hK.1 hw.1 0 rfl rfl 0 (by decide) q_1 (fun _ h9 => h9) rfl dX2_weighed_18 ?_
    refine lv_iload_n hx hb dX2_weighed_21 rfl (lv_at hl 1 rfl) ?_
    refine k_aald hx hb hK hw 1 3 (j := 7) (a' := t7) rfl rfl rfl (by unfold vp_in; decide) rfl dX2_weighed_22 ?_
    refine lv_iload_n hx hb dX2_weighed_23 rfl (lv_at hl 2 rfl) ?_
    obtain ⟨r_1, hf, h⟩ := b1_inv h
    refine k_callS (b := 0) (C := "") (host := "") fx hK hA hw (c_X2_worth l D k t7 u7rNa u7rMo u7rWa u7rDe _ u7Pe u7Da u7Dr u7Na u7Mo u7Wa u7De p3 r_1 hf) (va_cwS 2 hts gX2_weighed_X2_worth rfl rfl rfl (by decide +kernel) ⟨by decide, by decide⟩) (As := [.ref t7, .int p3]) (wr := [(xh, .inr (2, [.ref xaA])), (xaA, .inl (k 3, 9, .inr (.inr (.inr (.inr (rl [t0, t1, t2, t3, t4, t5, t6, t7, t8])))))), (t0, .inr (1, [.int u0Pe, .int u0Da, .int u0Dr, .ref u0rNa, .ref u0rMo, .ref u0rWa, .ref u0rDe])), (u0rNa, .inl (k 0, 5, .inl u0Na)), (u0rMo, .inl (k 0, 5, .inl u0Mo)), (u0rWa, .inl (k 0, 5, .inl u0Wa)), (u0rDe, .inl (k 0, 25, .inl u0De)), (t1, .inr (1, [.int u1Pe, .int u1Da, .int u1Dr, .ref u1rNa, .ref u1rMo, .ref u1rWa, .ref u1rDe])), (u1rNa, .inl (k 0, 5, .inl u1Na)), (u1rMo, .inl (k 0, 5, .inl u1Mo)), (u1rWa, .inl (k 0, 5, .inl u1Wa)), (u1rDe, .inl (k 0, 25, .inl u1De)), (t2, .inr (1, [.int u2Pe, .int u2Da, .int u2Dr, .ref u2rNa, .ref u2rMo, .ref u2rWa, .ref u2rDe])), (u2rNa, .inl (k 0, 5, .inl u2Na)), (u2rMo, .inl (k 0, 5, .inl u2Mo)), (u2rWa, .inl (k 0, 5, .inl u2Wa)), (u2rDe, .inl (k 0, 25, .inl u2De)), (t3, .inr (1, [.int u3Pe, .int u3Da, .int u3Dr, .ref u3rNa, .ref u3rMo, .ref u3rWa, .ref u3rDe])), (u3rNa, .inl (k 0, 5, .inl u3Na)), (u3rMo, .inl (k 0, 5, .inl u3Mo)), (u3rWa, .inl (k 0, 5, .inl u3Wa)), (u3rDe, .inl (k 0, 25, .inl u3De)), (t4, .inr (1, [.int u4Pe, .int u4Da, .int u4Dr, .ref u4rNa, .ref u4rMo, .ref u4rWa, .ref u4rDe])), (u4rNa, .inl (k 0, 5, .inl u4Na)), (u4rMo, .inl (k 0, 5, .inl u4Mo)), (u4rWa, .inl (k 0, 5, .inl u4Wa)), (u4rDe, .inl (k 0, 25, .inl u4De)), (t5, .inr (1, [.int u5Pe, .int u5Da, .int u5Dr, .ref u5rNa, .ref u5rMo, .ref u5rWa, .ref u5rDe])), (u5rNa, .inl (k 0, 5, .inl u5Na)), (u5rMo, .inl (k 0, 5, .inl u5Mo)), (u5rWa, .inl (k 0, 5, .inl u5Wa)), (u5rDe, .inl (k 0, 25, .inl u5De)), (t6, .inr (1, [.int u6Pe, .int u6Da, .int u6Dr, .ref u6rNa, .ref u6rMo, .ref u6rWa, .ref u6rDe])), (u6rNa, .inl (k 0, 5, .inl u6Na)), (u6rMo, .inl (k 0, 5, .inl u6Mo)), (u6rWa, .inl (k 0, 5, .inl u6Wa)), (u6rDe, .inl (k 0, 25, .inl u6De)), (t8, .inr (1, [.int u8Pe, .int u8Da, .int u8Dr, .ref u8rNa, .ref u8rMo, .ref u8rWa, .ref u8rDe])), (u8rNa, .inl (k 0, 5, .inl u8Na)), (u8rMo, .inl (k 0, 5, .inl u8Mo)), (u8rWa, .inl (k 0, 5, .inl u8Wa)), (u8rDe, .inl (k 0, 25, .inl u8De))]) (ws' := wX2 k xh xaA ++ (wOA k xaA t0 t1 t2 t3 t4 t5 t6 t7 t8 ++ (wX1 k t0 u0rNa u0rMo u0rWa u0rDe u0Pe u0Da u0Dr u0Na u0Mo u0Wa u0De ++ (wX1 k t1 u1rNa u1rMo u1rWa u1rDe u1Pe u1Da u1Dr u1Na u1Mo u1Wa u1De ++ (wX1 k t2 u2rNa u2rMo u2rWa u2rDe u2Pe u2Da u2Dr u2Na u2Mo u2Wa u2De ++ (wX1 k t3 u3rNa u3rMo u3rWa u3rDe u3Pe u3Da u3Dr u3Na u3Mo u3Wa u3De ++ (wX1 k t4 u4rNa u4rMo u4rWa u4rDe u4Pe u4Da u4Dr u4Na u4Mo u4Wa u4De ++ (wX1 k t5 u5rNa u5rMo u5rWa u5rDe u5Pe u5Da u5Dr u5Na u5Mo u5Wa u5De ++ (wX1 k t6 u6rNa u6rMo u6rWa u6rDe u6Pe u6Da u6Dr u6Na u6Mo u6Wa u6De ++ (wX1 k t7 u7rNa u7rMo u7rWa u7rDe u7Pe u7Da u7Dr u7Na u7Mo u7Wa u7De ++ (wX1 k t8 u8rNa u8rMo u8rWa u8rDe u8Pe u8Da u8Dr u8Na u8Mo u8Wa u8De))))))))))) [37, 38, 39, 40, 41] [0, 1, 2, 3, 4, 5, 6, 7, 8, 9, 10, 11, 12, 13, 14, 15, 16, 17, 18, 19, 20, 21, 22, 23, 24, 25, 26, 27, 28, 29, 30, 31, 32, 33, 34, 35, 36, 42, 43, 44, 45, 46] [0, 1, 2, 3, 4, 5, 6, 7, 8, 9, 10, 11, 12, 13, 14, 15, 16, 17, 18, 19, 20, 21, 22, 23, 24, 25, 26, 27, 28, 29, 30, 31, 32, 33, 34, 35, 36, 42, 43, 44, 45, 46, 37, 38, 39, 40, 41] rfl rfl (by decide) (by decide) (by decide) rfl (by decide) [] rfl hl.1 rfl (Nat.le_of_ble_eq_true rfl) dX2_weighed_24 ⟨by decide, by decide⟩ (fun H locs (hw : Wd D A s.heap H locs (wX2 k xh xaA ++ (wOA k xaA t0 t1 t2 t3 t4 t5 t6 t7 t8 ++ (wX1 k t0 u0rNa u0rMo u0rWa u0rDe u0Pe u0Da u0Dr u0Na u0Mo u0Wa u0De ++ (wX1 k t1 u1rNa u1rMo u1rWa u1rDe u1Pe u1Da u1Dr u1Na u1Mo u1Wa u1De ++ (wX1 k t2 u2rNa u2rMo u2rWa u2rDe u2Pe u2Da u2Dr u2Na u2Mo u2Wa u2De ++ (wX1 k t3 u3rNa u3rMo u3rWa u3rDe u3Pe u3Da u3Dr u3Na u3Mo u3Wa u3De ++ (wX1 k t4 u4rNa u4rMo u4rWa u4rDe u4Pe u4Da u4Dr u4Na u4Mo u4Wa u4De ++ (wX1 k t5 u5rNa u5rMo u5rWa u5rDe u5Pe u5Da u5Dr u5Na u5Mo u5Wa u5De ++ (wX1 k t6 u6rNa u6rMo u6rWa u6rDe u6Pe u6Da u6Dr u6Na u6Mo u6Wa u6De ++ (wX1 k t7 u7rNa u7rMo u7rWa u7rDe u7Pe u7Da u7Dr u7Na u7Mo u7Wa u7De ++ (wX1 k t8 u8rNa u8rMo u8rWa u8rDe u8Pe u8Da u8Dr u8Na u8Mo u8Wa u8De)))))))))))) => ?_)
    refine W.eq (g2 := F0 m 27 ls ([.long r_1])) rfl ?_
    cases h
    exact k_jlret (j := (fun i => List.getD [u8Pe, u8Da, u8Dr] i 0, fun i => List.getD [u8Na, u8Mo, u8Wa, u8De] i (fun _ => 0))) hx hb hr hlocks hw rfl dX2_weighed_27 hQ
  refine kb_icmp_ge (tgt := 17) hx hb dX2_weighed_3 (by decide) h (fun c_3 h => ?_) (fun c_3 h => ?_)
  · exact T_17 h _ _ _ hw (lv_sub hl [0, 1, 3] rfl)
  · refine lv_iload_n hx hb dX2_weighed_6 rfl (lv_at hl 1 rfl) ?_
    refine lv_iconst (v := 1) hx hb dX2_weighed_7 (by decide) ?_
    refine lv_iadd hx hb dX2_weighed_8 ?_
    refine k_lit (y := 8) (by decide) ?_
    refine lv_aload_n hx hb dX2_weighed_9 rfl (lv_at hl 0 rfl) ?_
    refine va_get (ci := 2) (v := .ref xaA) (C := RX2) (T := TX2) (N := 1) hx hb hts hinX2 hown hK.1 hw.1 0 rfl rfl 0 (by decide) q_1 (fun _ h9 => h9) rfl dX2_weighed_10 ?_
    refine va_alen (v := 9) hx hb hK.1 hw.1 1 3 rfl rfl rfl dX2_weighed_13 ?_
    refine lv_icmp_lt (tgt := 28) hx hb dX2_weighed_14 (by decide) (fun _ => ?_) (fun q => absurd (by decide) q)
    refine lv_lconst (v := 0) hx hb dX2_weighed_28 rfl ?_
    refine lv_lstore (lv' := [(5, .long 0), (0, .ref xh), (1, .int 7), (2, .int p2), (3, .int p3), (4, .int p4)]) hx hb dX2_weighed_29 hl (by decide) rfl (fun ls hl => ?_)
    refine lv_aload_n hx hb dX2_weighed_31 rfl (lv_at hl 1 rfl) ?_
    refine va_get (ci := 2) (v := .ref xaA) (C := RX2) (T := TX2) (N := 1) hx hb hts hinX2 hown hK.1 hw.1 0 rfl rfl 0 (by decide) q_1 (fun _ h9 => h9) rfl dX2_weighed_32 ?_
    refine lv_iload_n hx hb dX2_weighed_35 rfl (lv_at hl 2 rfl) ?_
    refine lv_iconst (v := 1) hx hb dX2_weighed_36 (by decide) ?_
    refine lv_iadd hx hb dX2_weighed_37 ?_
    refine k_lit (y := 8) (by decide) ?_
    refine k_aald hx hb hK hw 1 3 (j := 8) (a' := t8) rfl rfl rfl (by unfold vp_in; decide) rfl dX2_weighed_38 ?_
    refine lv_astore (lv' := [(7, .ref t8), (5, .long 0), (0, .ref xh), (1, .int 7), (2, .int p2), (3, .int p3), (4, .int p4)]) hx hb dX2_weighed_39 hl (by decide) rfl (fun ls hl => ?_)
    refine lv_iconst (v := 0) hx hb dX2_weighed_41 (by decide) ?_
    refine lv_istore (lv' := [(8, .int 0), (7, .ref t8), (5, .long 0), (0, .ref xh), (1, .int 7), (2, .int p2), (3, .int p3), (4, .int p4)]) hx hb dX2_weighed_42 hl (by decide) rfl (fun ls hl => ?_)
    obtain ⟨v5_11, hL_44, h⟩ := b1_inv h
    have X_44 : ∀ (u8Pe_12 : Int32) (u8Da_13 : Int32) (u8Dr_14 : Int32) (u8Na_15 : (Nat → Int32)) (u8Mo_16 : (Nat → Int32)) (u8Wa_17 : (Nat → Int32)) (u8De_18 : (Nat → Int32)) (H : Heap) (locs : List Loc) (ls : Array Slot), Wd D A s.heap H locs (wX2 k xh xaA ++ (wOA k xaA t0 t1 t2 t3 t4 t5 t6 t7 t8 ++ (wX1 k t0 u0rNa u0rMo u0rWa u0rDe u0Pe u0Da u0Dr u0Na u0Mo u0Wa u0De ++ (wX1 k t1 u1rNa u1rMo u1rWa u1rDe u1Pe u1Da u1Dr u1Na u1Mo u1Wa u1De ++ (wX1 k t2 u2rNa u2rMo u2rWa u2rDe u2Pe u2Da u2Dr u2Na u2Mo u2Wa u2De ++ (wX1 k t3 u3rNa u3rMo u3rWa u3rDe u3Pe u3Da u3Dr u3Na u3Mo u3Wa u3De ++ (wX1 k t4 u4rNa u4rMo u4rWa u4rDe u4Pe u4Da u4Dr u4Na u4Mo u4Wa u4De ++ (wX1 k t5 u5rNa u5rMo u5rWa u5rDe u5Pe u5Da u5Dr u5Na u5Mo u5Wa u5De ++ (wX1 k t6 u6rNa u6rMo u6rWa u6rDe u6Pe u6Da u6Dr u6Na u6Mo u6Wa u6De ++ (wX1 k t7 u7rNa u7rMo u7rWa u7rDe u7Pe u7Da u7Dr u7Na u7Mo u7Wa u7De ++ (wX1 k t8 u8rNa u8rMo u8rWa u8rDe u8Pe_12 u8Da_13 u8Dr_14 u8Na_15 u8Mo_16 u8Wa_17 u8De_18))))))))))) → lv_has ls 10 [(5, .long v5_11)] → W p l e rmX2_weighed_7 s m args below meth c H locs 0 0 Q (F0 m 128 ls []) := by
      intro u8Pe_12 u8Da_13 u8Dr_14 u8Na_15 u8Mo_16 u8Wa_17 u8De_18 H locs ls hw hl
      refine lv_lload hx hb dX2_weighed_128 (lv_at hl 0 rfl) ?_
      cases h
      exact k_jlret (j := (fun i => List.getD [u8Pe_12, u8Da_13, u8Dr_14] i 0, fun i => List.getD [u8Na_15, u8Mo_16, u8Wa_17, u8De_18] i (fun _ => 0))) hx hb hr hlocks hw rfl dX2_weighed_130 hQ
    clear h
    have LP_44 : ∀ (n : Nat) (v5_2 : Int64) (v8_3 : Int32), f_X2_weighed_7_L44 u7Pe u7Da u7Dr u7Na u7Mo u7Wa u7De p2 p3 p4 n v5_2 v8_3 = some v5_11 → ∀ (u8Pe_4 : Int32) (u8Da_5 : Int32) (u8Dr_6 : Int32) (u8Na_7 : (Nat → Int32)) (u8Mo_8 : (Nat → Int32)) (u8Wa_9 : (Nat → Int32)) (u8De_10 : (Nat → Int32)) (H : Heap) (locs : List Loc) (ls : Array Slot), Wd D A s.heap H locs (wX2 k xh xaA ++ (wOA k xaA t0 t1 t2 t3 t4 t5 t6 t7 t8 ++ (wX1 k t0 u0rNa u0rMo u0rWa u0rDe u0Pe u0Da u0Dr u0Na u0Mo u0Wa u0De ++ (wX1 k t1 u1rNa u1rMo u1rWa u1rDe u1Pe u1Da u1Dr u1Na u1Mo u1Wa u1De ++ (wX1 k t2 u2rNa u2rMo u2rWa u2rDe u2Pe u2Da u2Dr u2Na u2Mo u2Wa u2De ++ (wX1 k t3 u3rNa u3rMo u3rWa u3rDe u3Pe u3Da u3Dr u3Na u3Mo u3Wa u3De ++ (wX1 k t4 u4rNa u4rMo u4rWa u4rDe u4Pe u4Da u4Dr u4Na u4Mo u4Wa u4De ++ (wX1 k t5 u5rNa u5rMo u5rWa u5rDe u5Pe u5Da u5Dr u5Na u5Mo u5Wa u5De ++ (wX1 k t6 u6rNa u6rMo u6rWa u6rDe u6Pe u6Da u6Dr u6Na u6Mo u6Wa u6De ++ (wX1 k t7 u7rNa u7rMo u7rWa u7rDe u7Pe u7Da u7Dr u7Na u7Mo u7Wa u7De ++ (wX1 k t8 u8rNa u8rMo u8rWa u8rDe u8Pe_4 u8Da_5 u8Dr_6 u8Na_7 u8Mo_8 u8Wa_9 u8De_10))))))))))) → lv_has ls 10 [(0, .ref xh), (1, .int 7), (2, .int p2), (3, .int p3), (4, .int p4), (5, .long v5_2), (7, .ref t8), (8, .int v8_3)] → W p l e rmX2_weighed_7 s m args below meth c H locs 0 0 Q (F0 m 44 ls []) := by
      clear hL_44 hw hl
      intro n
      induction n with
      | zero => intro v5_2 v8_3 h; rw [f_X2_weighed_7_L44] at h; cases h
      | succ n ih =>
        intro v5_2 v8_3 h u8Pe_4 u8Da_5 u8Dr_6 u8Na_7 u8Mo_8 u8Wa_9 u8De_10 H locs ls hw hl
        rw [f_X2_weighed_7_L44] at h
        refine lv_iload hx hb dX2_weighed_44 (lv_at hl 7 rfl) ?_
        refine lv_iconst (v := 2) hx hb dX2_weighed_46 (by decide) ?_
        refine kb_icmp_ge (tgt := 128) hx hb dX2_weighed_47 (by decide) h (fun c_47 h => ?_) (fun c_47 h => ?_)
        · cases h
          exact X_44 _ _ _ _ _ _ _ _ _ _ hw (lv_sub hl [5] rfl)
        · refine lv_iload hx hb dX2_weighed_50 (lv_at hl 7 rfl) ?_
          obtain ⟨t_19, hj_52, h⟩ := b1_inv h
          have J_52 : ∀ (H : Heap) (locs : List Loc) (ls : Array Slot), Wd D A s.heap H locs (wX2 k xh xaA ++ (wOA k xaA t0 t1 t2 t3 t4 t5 t6 t7 t8 ++ (wX1 k t0 u0rNa u0rMo u0rWa u0rDe u0Pe u0Da u0Dr u0Na u0Mo u0Wa u0De ++ (wX1 k t1 u1rNa u1rMo u1rWa u1rDe u1Pe u1Da u1Dr u1Na u1Mo u1Wa u1De ++ (wX1 k t2 u2rNa u2rMo u2rWa u2rDe u2Pe u2Da u2Dr u2Na u2Mo u2Wa u2De ++ (wX1 k t3 u3rNa u3rMo u3rWa u3rDe u3Pe u3Da u3Dr u3Na u3Mo u3Wa u3De ++ (wX1 k t4 u4rNa u4rMo u4rWa u4rDe u4Pe u4Da u4Dr u4Na u4Mo u4Wa u4De ++ (wX1 k t5 u5rNa u5rMo u5rWa u5rDe u5Pe u5Da u5Dr u5Na u5Mo u5Wa u5De ++ (wX1 k t6 u6rNa u6rMo u6rWa u6rDe u6Pe u6Da u6Dr u6Na u6Mo u6Wa u6De ++ (wX1 k t7 u7rNa u7rMo u7rWa u7rDe u7Pe u7Da u7Dr u7Na u7Mo u7Wa u7De ++ (wX1 k t8 u8rNa u8rMo u8rWa u8rDe u8Pe_4 u8Da_5 u8Dr_6 u8Na_7 u8Mo_8 u8Wa_9 u8De_10))))))))))) → lv_has ls 10 [(0, .ref xh), (1, .int 7), (2, .int p2), (3, .int p3), (4, .int p4), (5, .long v5_2), (7, .ref t8), (8, .int v8_3)] → W p l e rmX2_weighed_7 s m args below meth c H locs 0 0 Q (F0 m 63 ls [.int t_19]) := by
            intro H locs ls hw hl
            refine lv_istore (lv' := [(9, .int t_19), (0, .ref xh), (1, .int 7), (2, .int p2), (3, .int p3), (4, .int p4), (5, .long v5_2), (7, .ref t8), (8, .int v8_3)]) hx hb dX2_weighed_63 hl (by decide) rfl (fun ls hl => ?_)
            refine lv_iload hx hb dX2_weighed_65 (lv_at hl 0 rfl) ?_
            refine kb_if_le (tgt := 122) hx hb dX2_weighed_67 (by decide) h (fun c_67 h => ?_) (fun c_67 h => ?_)
            · refine lv_iinc (v := v8_3 + 1) (lv' := [(8, .int (v8_3 + 1)), (9, .int t_19), (0, .ref xh), (1, .int 7), (2, .int p2), (3, .int p3), (4, .int p4), (5, .long v5_2), (7, .ref t8)]) hx hb dX2_weighed_122 hl (k := 8) rfl rfl (by decide) rfl (fun ls hl => ?_)
              refine lv_goto (tgt := 44) hx hb dX2_weighed_125 (by decide) ?_
              exact ih _ _ h _ _ _ _ _ _ _ _ _ _ hw (lv_sub hl [2, 3, 4, 5, 6, 7, 8, 0] rfl)
            · refine lv_aload hx hb dX2_weighed_70 (lv_at hl 7 rfl) ?_
              refine lv_aload_n hx hb dX2_weighed_72 rfl (lv_at hl 1 rfl) ?_
              refine va_get (ci := 2) (v := .ref xaA) (C := RX2) (T := TX2) (N := 1) hx hb hts hinX2 hown hK.1 hw.1 0 rfl rfl 0 (by decide) q_1 (fun _ h9 => h9) rfl dX2_weighed_73 ?_
              refine lv_iload_n hx hb dX2_weighed_76 rfl (lv_at hl 2 rfl) ?_
              refine k_aald hx hb hK hw 1 3 (j := 7) (a' := t7) rfl rfl rfl (by unfold vp_in; decide) rfl dX2_weighed_77 ?_
              obtain ⟨u8Pe_20, u8Da_21, u8Dr_22, u8Na_23, u8Mo_24, u8Wa_25, u8De_26, hf, h⟩ := b7_inv h
              refine k_callV (host := "") fx hK hA hw (c_X1_become l D k t8 u8rNa u8rMo u8rWa u8rDe t7 u7rNa u7rMo u7rWa u7rDe _ u8Pe_4 u8Da_5 u8Dr_6 u8Na_7 u8Mo_8 u8Wa_9 u8De_10 u7Pe u7Da u7Dr u7Na u7Mo u7Wa u7De u8Pe_20 u8Da_21 u8Dr_22 u8Na_23 u8Mo_24 u8Wa_25 u8De_26 hf) (cwV 1 hts gX2_weighed_X1_become rfl rfl rfl (by decide +kernel) ⟨by decide, by decide⟩) (As := [.ref t7]) (wr := [(xh, .inr (2, [.ref xaA])), (xaA, .inl (k 3, 9, .inr (.inr (.inr (.inr (rl [t0, t1, t2, t3, t4, t5, t6, t7, t8])))))), (t0, .inr (1, [.int u0Pe, .int u0Da, .int u0Dr, .ref u0rNa, .ref u0rMo, .ref u0rWa, .ref u0rDe])), (u0rNa, .inl (k 0, 5, .inl u0Na)), (u0rMo, .inl (k 0, 5, .inl u0Mo)), (u0rWa, .inl (k 0, 5, .inl u0Wa)), (u0rDe, .inl (k 0, 25, .inl u0De)), (t1, .inr (1, [.int u1Pe, .int u1Da, .int u1Dr, .ref u1rNa, .ref u1rMo, .ref u1rWa, .ref u1rDe])), (u1rNa, .inl (k 0, 5, .inl u1Na)), (u1rMo, .inl (k 0, 5, .inl u1Mo)), (u1rWa, .inl (k 0, 5, .inl u1Wa)), (u1rDe, .inl (k 0, 25, .inl u1De)), (t2, .inr (1, [.int u2Pe, .int u2Da, .int u2Dr, .ref u2rNa, .ref u2rMo, .ref u2rWa, .ref u2rDe])), (u2rNa, .inl (k 0, 5, .inl u2Na)), (u2rMo, .inl (k 0, 5, .inl u2Mo)), (u2rWa, .inl (k 0, 5, .inl u2Wa)), (u2rDe, .inl (k 0, 25, .inl u2De)), (t3, .inr (1, [.int u3Pe, .int u3Da, .int u3Dr, .ref u3rNa, .ref u3rMo, .ref u3rWa, .ref u3rDe])), (u3rNa, .inl (k 0, 5, .inl u3Na)), (u3rMo, .inl (k 0, 5, .inl u3Mo)), (u3rWa, .inl (k 0, 5, .inl u3Wa)), (u3rDe, .inl (k 0, 25, .inl u3De)), (t4, .inr (1, [.int u4Pe, .int u4Da, .int u4Dr, .ref u4rNa, .ref u4rMo, .ref u4rWa, .ref u4rDe])), (u4rNa, .inl (k 0, 5, .inl u4Na)), (u4rMo, .inl (k 0, 5, .inl u4Mo)), (u4rWa, .inl (k 0, 5, .inl u4Wa)), (u4rDe, .inl (k 0, 25, .inl u4De)), (t5, .inr (1, [.int u5Pe, .int u5Da, .int u5Dr, .ref u5rNa, .ref u5rMo, .ref u5rWa, .ref u5rDe])), (u5rNa, .inl (k 0, 5, .inl u5Na)), (u5rMo, .inl (k 0, 5, .inl u5Mo)), (u5rWa, .inl (k 0, 5, .inl u5Wa)), (u5rDe, .inl (k 0, 25, .inl u5De)), (t6, .inr (1, [.int u6Pe, .int u6Da, .int u6Dr, .ref u6rNa, .ref u6rMo, .ref u6rWa, .ref u6rDe])), (u6rNa, .inl (k 0, 5, .inl u6Na)), (u6rMo, .inl (k 0, 5, .inl u6Mo)), (u6rWa, .inl (k 0, 5, .inl u6Wa)), (u6rDe, .inl (k 0, 25, .inl u6De))]) (ws' := wX2 k xh xaA ++ (wOA k xaA t0 t1 t2 t3 t4 t5 t6 t7 t8 ++ (wX1 k t0 u0rNa u0rMo u0rWa u0rDe u0Pe u0Da u0Dr u0Na u0Mo u0Wa u0De ++ (wX1 k t1 u1rNa u1rMo u1rWa u1rDe u1Pe u1Da u1Dr u1Na u1Mo u1Wa u1De ++ (wX1 k t2 u2rNa u2rMo u2rWa u2rDe u2Pe u2Da u2Dr u2Na u2Mo u2Wa u2De ++ (wX1 k t3 u3rNa u3rMo u3rWa u3rDe u3Pe u3Da u3Dr u3Na u3Mo u3Wa u3De ++ (wX1 k t4 u4rNa u4rMo u4rWa u4rDe u4Pe u4Da u4Dr u4Na u4Mo u4Wa u4De ++ (wX1 k t5 u5rNa u5rMo u5rWa u5rDe u5Pe u5Da u5Dr u5Na u5Mo u5Wa u5De ++ (wX1 k t6 u6rNa u6rMo u6rWa u6rDe u6Pe u6Da u6Dr u6Na u6Mo u6Wa u6De ++ (wX1 k t7 u7rNa u7rMo u7rWa u7rDe u7Pe u7Da u7Dr u7Na u7Mo u7Wa u7De ++ (wX1 k t8 u8rNa u8rMo u8rWa u8rDe u8Pe_20 u8Da_21 u8Dr_22 u8Na_23 u8Mo_24 u8Wa_25 u8De_26))))))))))) [42, 43, 44, 45, 46, 37, 38, 39, 40, 41] [0, 1, 2, 3, 4, 5, 6, 7, 8, 9, 10, 11, 12, 13, 14, 15, 16, 17, 18, 19, 20, 21, 22, 23, 24, 25, 26, 27, 28, 29, 30, 31, 32, 33, 34, 35, 36] [0, 1, 2, 3, 4, 5, 6, 7, 8, 9, 10, 11, 12, 13, 14, 15, 16, 17, 18, 19, 20, 21, 22, 23, 24, 25, 26, 27, 28, 29, 30, 31, 32, 33, 34, 35, 36, 42, 43, 44, 45, 46, 37, 38, 39, 40, 41] rfl rfl (by decide) (by decide) (by decide) rfl (by decide) 1 rfl rfl [] rfl hl.1 rfl (Nat.le_of_ble_eq_true rfl) dX2_weighed_78 ⟨by decide, by decide⟩ (fun H locs (hw : Wd D A s.heap H locs (wX2 k xh xaA ++ (wOA k xaA t0 t1 t2 t3 t4 t5 t6 t7 t8 ++ (wX1 k t0 u0rNa u0rMo u0rWa u0rDe u0Pe u0Da u0Dr u0Na u0Mo u0Wa u0De ++ (wX1 k t1 u1rNa u1rMo u1rWa u1rDe u1Pe u1Da u1Dr u1Na u1Mo u1Wa u1De ++ (wX1 k t2 u2rNa u2rMo u2rWa u2rDe u2Pe u2Da u2Dr u2Na u2Mo u2Wa u2De ++ (wX1 k t3 u3rNa u3rMo u3rWa u3rDe u3Pe u3Da u3Dr u3Na u3Mo u3Wa u3De ++ (wX1 k t4 u4rNa u4rMo u4rWa u4rDe u4Pe u4Da u4Dr u4Na u4Mo u4Wa u4De ++ (wX1 k t5 u5rNa u5rMo u5rWa u5rDe u5Pe u5Da u5Dr u5Na u5Mo u5Wa u5De ++ (wX1 k t6 u6rNa u6rMo u6rWa u6rDe u6Pe u6Da u6Dr u6Na u6Mo u6Wa u6De ++ (wX1 k t7 u7rNa u7rMo u7rWa u7rDe u7Pe u7Da u7Dr u7Na u7Mo u7Wa u7De ++ (wX1 k t8 u8rNa u8rMo u8rWa u8rDe u8Pe_20 u8Da_21 u8Dr_22 u8Na_23 u8Mo_24 u8Wa_25 u8De_26)))))))))))) => ?_)
              refine W.eq (g2 := F0 m 81 ls ([])) rfl ?_
              refine lv_aload hx hb dX2_weighed_81 (lv_at hl 7 rfl) ?_
              refine lv_iload hx hb dX2_weighed_83 (lv_at hl 8 rfl) ?_
              obtain ⟨t_27, hj_85, h⟩ := b1_inv h
              have J_85 : ∀ (H : Heap) (locs : List Loc) (ls : Array Slot), Wd D A s.heap H locs (wX2 k xh xaA ++ (wOA k xaA t0 t1 t2 t3 t4 t5 t6 t7 t8 ++ (wX1 k t0 u0rNa u0rMo u0rWa u0rDe u0Pe u0Da u0Dr u0Na u0Mo u0Wa u0De ++ (wX1 k t1 u1rNa u1rMo u1rWa u1rDe u1Pe u1Da u1Dr u1Na u1Mo u1Wa u1De ++ (wX1 k t2 u2rNa u2rMo u2rWa u2rDe u2Pe u2Da u2Dr u2Na u2Mo u2Wa u2De ++ (wX1 k t3 u3rNa u3rMo u3rWa u3rDe u3Pe u3Da u3Dr u3Na u3Mo u3Wa u3De ++ (wX1 k t4 u4rNa u4rMo u4rWa u4rDe u4Pe u4Da u4Dr u4Na u4Mo u4Wa u4De ++ (wX1 k t5 u5rNa u5rMo u5rWa u5rDe u5Pe u5Da u5Dr u5Na u5Mo u5Wa u5De ++ (wX1 k t6 u6rNa u6rMo u6rWa u6rDe u6Pe u6Da u6Dr u6Na u6Mo u6Wa u6De ++ (wX1 k t7 u7rNa u7rMo u7rWa u7rDe u7Pe u7Da u7Dr u7Na u7Mo u7Wa u7De ++ (wX1 k t8 u8rNa u8rMo u8rWa u8rDe u8Pe_20 u8Da_21 u8Dr_22 u8Na_23 u8Mo_24 u8Wa_25 u8De_26))))))))))) → lv_has ls 10 [(0, .ref xh), (1, .int 7), (2, .int p2), (3, .int p3), (4, .int p4), (5, .long v5_2), (7, .ref t8), (8, .int v8_3), (9, .int t_19)] → W p l e rmX2_weighed_7 s m args below meth c H locs 0 0 Q (F0 m 98 ls [.int t_27, .ref t8]) := by
                intro H locs ls hw hl
                obtain ⟨r_28, u8Da_29, u8Mo_30, u8De_31, hf, h⟩ := b4_inv h
                refine k_callV (host := "") fx hK hA hw (c_X1_runDay l D k t8 u8rNa u8rMo u8rWa u8rDe _ u8Pe_20 u8Da_21 u8Dr_22 u8Na_23 u8Mo_24 u8Wa_25 u8De_26 t_27 r_28 u8Da_29 u8Mo_30 u8De_31 hf) (cwV 1 hts gX2_weighed_X1_runDay rfl rfl rfl (by decide +kernel) ⟨by decide, by decide⟩) (As := [.int t_27]) (wr := [(xh, .inr (2, [.ref xaA])), (xaA, .inl (k 3, 9, .inr (.inr (.inr (.inr (rl [t0, t1, t2, t3, t4, t5, t6, t7, t8])))))), (t0, .inr (1, [.int u0Pe, .int u0Da, .int u0Dr, .ref u0rNa, .ref u0rMo, .ref u0rWa, .ref u0rDe])), (u0rNa, .inl (k 0, 5, .inl u0Na)), (u0rMo, .inl (k 0, 5, .inl u0Mo)), (u0rWa, .inl (k 0, 5, .inl u0Wa)), (u0rDe, .inl (k 0, 25, .inl u0De)), (t1, .inr (1, [.int u1Pe, .int u1Da, .int u1Dr, .ref u1rNa, .ref u1rMo, .ref u1rWa, .ref u1rDe])), (u1rNa, .inl (k 0, 5, .inl u1Na)), (u1rMo, .inl (k 0, 5, .inl u1Mo)), (u1rWa, .inl (k 0, 5, .inl u1Wa)), (u1rDe, .inl (k 0, 25, .inl u1De)), (t2, .inr (1, [.int u2Pe, .int u2Da, .int u2Dr, .ref u2rNa, .ref u2rMo, .ref u2rWa, .ref u2rDe])), (u2rNa, .inl (k 0, 5, .inl u2Na)), (u2rMo, .inl (k 0, 5, .inl u2Mo)), (u2rWa, .inl (k 0, 5, .inl u2Wa)), (u2rDe, .inl (k 0, 25, .inl u2De)), (t3, .inr (1, [.int u3Pe, .int u3Da, .int u3Dr, .ref u3rNa, .ref u3rMo, .ref u3rWa, .ref u3rDe])), (u3rNa, .inl (k 0, 5, .inl u3Na)), (u3rMo, .inl (k 0, 5, .inl u3Mo)), (u3rWa, .inl (k 0, 5, .inl u3Wa)), (u3rDe, .inl (k 0, 25, .inl u3De)), (t4, .inr (1, [.int u4Pe, .int u4Da, .int u4Dr, .ref u4rNa, .ref u4rMo, .ref u4rWa, .ref u4rDe])), (u4rNa, .inl (k 0, 5, .inl u4Na)), (u4rMo, .inl (k 0, 5, .inl u4Mo)), (u4rWa, .inl (k 0, 5, .inl u4Wa)), (u4rDe, .inl (k 0, 25, .inl u4De)), (t5, .inr (1, [.int u5Pe, .int u5Da, .int u5Dr, .ref u5rNa, .ref u5rMo, .ref u5rWa, .ref u5rDe])), (u5rNa, .inl (k 0, 5, .inl u5Na)), (u5rMo, .inl (k 0, 5, .inl u5Mo)), (u5rWa, .inl (k 0, 5, .inl u5Wa)), (u5rDe, .inl (k 0, 25, .inl u5De)), (t6, .inr (1, [.int u6Pe, .int u6Da, .int u6Dr, .ref u6rNa, .ref u6rMo, .ref u6rWa, .ref u6rDe])), (u6rNa, .inl (k 0, 5, .inl u6Na)), (u6rMo, .inl (k 0, 5, .inl u6Mo)), (u6rWa, .inl (k 0, 5, .inl u6Wa)), (u6rDe, .inl (k 0, 25, .inl u6De)), (t7, .inr (1, [.int u7Pe, .int u7Da, .int u7Dr, .ref u7rNa, .ref u7rMo, .ref u7rWa, .ref u7rDe])), (u7rNa, .inl (k 0, 5, .inl u7Na)), (u7rMo, .inl (k 0, 5, .inl u7Mo)), (u7rWa, .inl (k 0, 5, .inl u7Wa)), (u7rDe, .inl (k 0, 25, .inl u7De))]) (ws' := wX2 k xh xaA ++ (wOA k xaA t0 t1 t2 t3 t4 t5 t6 t7 t8 ++ (wX1 k t0 u0rNa u0rMo u0rWa u0rDe u0Pe u0Da u0Dr u0Na u0Mo u0Wa u0De ++ (wX1 k t1 u1rNa u1rMo u1rWa u1rDe u1Pe u1Da u1Dr u1Na u1Mo u1Wa u1De ++ (wX1 k t2 u2rNa u2rMo u2rWa u2rDe u2Pe u2Da u2Dr u2Na u2Mo u2Wa u2De ++ (wX1 k t3 u3rNa u3rMo u3rWa u3rDe u3Pe u3Da u3Dr u3Na u3Mo u3Wa u3De ++ (wX1 k t4 u4rNa u4rMo u4rWa u4rDe u4Pe u4Da u4Dr u4Na u4Mo u4Wa u4De ++ (wX1 k t5 u5rNa u5rMo u5rWa u5rDe u5Pe u5Da u5Dr u5Na u5Mo u5Wa u5De ++ (wX1 k t6 u6rNa u6rMo u6rWa u6rDe u6Pe u6Da u6Dr u6Na u6Mo u6Wa u6De ++ (wX1 k t7 u7rNa u7rMo u7rWa u7rDe u7Pe u7Da u7Dr u7Na u7Mo u7Wa u7De ++ (wX1 k t8 u8rNa u8rMo u8rWa u8rDe u8Pe_20 u8Da_29 u8Dr_22 u8Na_23 u8Mo_30 u8Wa_25 u8De_31))))))))))) [42, 43, 44, 45, 46] [0, 1, 2, 3, 4, 5, 6, 7, 8, 9, 10, 11, 12, 13, 14, 15, 16, 17, 18, 19, 20, 21, 22, 23, 24, 25, 26, 27, 28, 29, 30, 31, 32, 33, 34, 35, 36, 37, 38, 39, 40, 41] [0, 1, 2, 3, 4, 5, 6, 7, 8, 9, 10, 11, 12, 13, 14, 15, 16, 17, 18, 19, 20, 21, 22, 23, 24, 25, 26, 27, 28, 29, 30, 31, 32, 33, 34, 35, 36, 37, 38, 39, 40, 41, 42, 43, 44, 45, 46] rfl rfl (by decide) (by decide) (by decide) rfl (by decide) 1 rfl rfl [] rfl hl.1 rfl (Nat.le_of_ble_eq_true rfl) dX2_weighed_98 ⟨by decide, by decide⟩ (fun H locs (hw : Wd D A s.heap H locs (wX2 k xh xaA ++ (wOA k xaA t0 t1 t2 t3 t4 t5 t6 t7 t8 ++ (wX1 k t0 u0rNa u0rMo u0rWa u0rDe u0Pe u0Da u0Dr u0Na u0Mo u0Wa u0De ++ (wX1 k t1 u1rNa u1rMo u1rWa u1rDe u1Pe u1Da u1Dr u1Na u1Mo u1Wa u1De ++ (wX1 k t2 u2rNa u2rMo u2rWa u2rDe u2Pe u2Da u2Dr u2Na u2Mo u2Wa u2De ++ (wX1 k t3 u3rNa u3rMo u3rWa u3rDe u3Pe u3Da u3Dr u3Na u3Mo u3Wa u3De ++ (wX1 k t4 u4rNa u4rMo u4rWa u4rDe u4Pe u4Da u4Dr u4Na u4Mo u4Wa u4De ++ (wX1 k t5 u5rNa u5rMo u5rWa u5rDe u5Pe u5Da u5Dr u5Na u5Mo u5Wa u5De ++ (wX1 k t6 u6rNa u6rMo u6rWa u6rDe u6Pe u6Da u6Dr u6Na u6Mo u6Wa u6De ++ (wX1 k t7 u7rNa u7rMo u7rWa u7rDe u7Pe u7Da u7Dr u7Na u7Mo u7Wa u7De ++ (wX1 k t8 u8rNa u8rMo u8rWa u8rDe u8Pe_20 u8Da_29 u8Dr_22 u8Na_23 u8Mo_30 u8Wa_25 u8De_31)))))))))))) => ?_)
                refine W.eq (g2 := F0 m 101 ls ([.int r_28])) rfl ?_
                refine lv_pop hx hb dX2_weighed_101 rfl ?_
                refine lv_lload hx hb dX2_weighed_102 (lv_at hl 5 rfl) ?_
                refine lv_iload hx hb dX2_weighed_104 (lv_at hl 8 rfl) ?_
                refine lv_i2l hx hb dX2_weighed_106 rfl ?_
                refine lv_aload_n hx hb dX2_weighed_107 rfl (lv_at hl 0 rfl) ?_
                refine lv_iload_n hx hb dX2_weighed_108 rfl (lv_at hl 1 rfl) ?_
                refine lv_iconst (v := 1) hx hb dX2_weighed_109 (by decide) ?_
                refine lv_iadd hx hb dX2_weighed_110 ?_
                refine k_lit (y := 8) (by decide) ?_
                refine lv_iload_n hx hb dX2_weighed_111 rfl (lv_at hl 2 rfl) ?_
                refine lv_iload_n hx hb dX2_weighed_112 rfl (lv_at hl 3 rfl) ?_
                refine lv_iload hx hb dX2_weighed_113 (lv_at hl 4 rfl) ?_
                obtain ⟨r_32, hf, h⟩ := b1_inv h
                refine k_callVJ fx hK hA hw (c_X2_weighed_8 l D k xh xaA t0 t1 t2 t3 t4 t5 t6 t7 t8 u0rNa u0rMo u0rWa u0rDe u1rNa u1rMo u1rWa u1rDe u2rNa u2rMo u2rWa u2rDe u3rNa u3rMo u3rWa u3rDe u4rNa u4rMo u4rWa u4rDe u5rNa u5rMo u5rWa u5rDe u6rNa u6rMo u6rWa u6rDe u7rNa u7rMo u7rWa u7rDe u8rNa u8rMo u8rWa u8rDe _ u0Pe u0Da u0Dr u0Na u0Mo u0Wa u0De u1Pe u1Da u1Dr u1Na u1Mo u1Wa u1De u2Pe u2Da u2Dr u2Na u2Mo u2Wa u2De u3Pe u3Da u3Dr u3Na u3Mo u3Wa u3De u4Pe u4Da u4Dr u4Na u4Mo u4Wa u4De u5Pe u5Da u5Dr u5Na u5Mo u5Wa u5De u6Pe u6Da u6Dr u6Na u6Mo u6Wa u6De u7Pe u7Da u7Dr u7Na u7Mo u7Wa u7De u8Pe_20 u8Da_29 u8Dr_22 u8Na_23 u8Mo_30 u8Wa_25 u8De_31 p2 p3 p4 r_32 hf) (cwV 4 hts gX2_weighed_X2_weighed rfl rfl rfl (by decide +kernel) ⟨by decide, by decide⟩) (As := [.int 8, .int p2, .int p3, .int p4]) (wr := []) (ws' := fun j_33 => wX2 k xh xaA ++ (wOA k xaA t0 t1 t2 t3 t4 t5 t6 t7 t8 ++ (wX1 k t0 u0rNa u0rMo u0rWa u0rDe u0Pe u0Da u0Dr u0Na u0Mo u0Wa u0De ++ (wX1 k t1 u1rNa u1rMo u1rWa u1rDe u1Pe u1Da u1Dr u1Na u1Mo u1Wa u1De ++ (wX1 k t2 u2rNa u2rMo u2rWa u2rDe u2Pe u2Da u2Dr u2Na u2Mo u2Wa u2De ++ (wX1 k t3 u3rNa u3rMo u3rWa u3rDe u3Pe u3Da u3Dr u3Na u3Mo u3Wa u3De ++ (wX1 k t4 u4rNa u4rMo u4rWa u4rDe u4Pe u4Da u4Dr u4Na u4Mo u4Wa u4De ++ (wX1 k t5 u5rNa u5rMo u5rWa u5rDe u5Pe u5Da u5Dr u5Na u5Mo u5Wa u5De ++ (wX1 k t6 u6rNa u6rMo u6rWa u6rDe u6Pe u6Da u6Dr u6Na u6Mo u6Wa u6De ++ (wX1 k t7 u7rNa u7rMo u7rWa u7rDe u7Pe u7Da u7Dr u7Na u7Mo u7Wa u7De ++ (wX1 k t8 u8rNa u8rMo u8rWa u8rDe u8Pe_20 u8Da_29 u8Dr_22 u8Na_23 u8Mo_30 u8Wa_25 u8De_31))))))))))) [0, 1, 2, 3, 4, 5, 6, 7, 8, 9, 10, 11, 12, 13, 14, 15, 16, 17, 18, 19, 20, 21, 22, 23, 24, 25, 26, 27, 28, 29, 30, 31, 32, 33, 34, 35, 36, 37, 38, 39, 40, 41, 42, 43, 44, 45, 46] [] [0, 1, 2, 3, 4, 5, 6, 7, 8, 9, 10, 11, 12, 13, 14, 15, 16, 17, 18, 19, 20, 21, 22, 23, 24, 25, 26, 27, 28, 29, 30, 31, 32, 33, 34, 35, 36, 37, 38, 39, 40, 41, 42, 43, 44, 45, 46] rfl rfl (by decide) (by decide) (by decide) (fun _ => rfl) (by decide) 2 rfl rfl [.long t_19.toInt64, .long v5_2] rfl hl.1 rfl (Nat.le_of_ble_eq_true rfl) dX2_weighed_115 ⟨by decide, by decide⟩ (fun j_33 H locs (hw : Wd D A s.heap H locs (wX2 k xh xaA ++ (wOA k xaA t0 t1 t2 t3 t4 t5 t6 t7 t8 ++ (wX1 k t0 u0rNa u0rMo u0rWa u0rDe u0Pe u0Da u0Dr u0Na u0Mo u0Wa u0De ++ (wX1 k t1 u1rNa u1rMo u1rWa u1rDe u1Pe u1Da u1Dr u1Na u1Mo u1Wa u1De ++ (wX1 k t2 u2rNa u2rMo u2rWa u2rDe u2Pe u2Da u2Dr u2Na u2Mo u2Wa u2De ++ (wX1 k t3 u3rNa u3rMo u3rWa u3rDe u3Pe u3Da u3Dr u3Na u3Mo u3Wa u3De ++ (wX1 k t4 u4rNa u4rMo u4rWa u4rDe u4Pe u4Da u4Dr u4Na u4Mo u4Wa u4De ++ (wX1 k t5 u5rNa u5rMo u5rWa u5rDe u5Pe u5Da u5Dr u5Na u5Mo u5Wa u5De ++ (wX1 k t6 u6rNa u6rMo u6rWa u6rDe u6Pe u6Da u6Dr u6Na u6Mo u6Wa u6De ++ (wX1 k t7 u7rNa u7rMo u7rWa u7rDe u7Pe u7Da u7Dr u7Na u7Mo u7Wa u7De ++ (wX1 k t8 u8rNa u8rMo u8rWa u8rDe u8Pe_20 u8Da_29 u8Dr_22 u8Na_23 u8Mo_30 u8Wa_25 u8De_31)))))))))))) => ?_)
                refine W.eq (g2 := F0 m 118 ls ([.long r_32, .long t_19.toInt64, .long v5_2])) rfl ?_
                refine lv_lmul hx hb dX2_weighed_118 ?_
                refine lv_ladd hx hb dX2_weighed_119 ?_
                refine lv_lstore (lv' := [(5, .long (v5_2 + (t_19.toInt64 * r_32))), (0, .ref xh), (1, .int 7), (2, .int p2), (3, .int p3), (4, .int p4), (7, .ref t8), (8, .int v8_3), (9, .int t_19)]) hx hb dX2_weighed_120 hl (by decide) rfl (fun ls hl => ?_)
                refine lv_iinc (v := v8_3 + 1) (lv' := [(8, .int (v8_3 + 1)), (5, .long (v5_2 + (t_19.toInt64 * r_32))), (0, .ref xh), (1, .int 7), (2, .int p2), (3, .int p3), (4, .int p4), (7, .ref t8), (9, .int t_19)]) hx hb dX2_weighed_122 hl (k := 7) rfl rfl (by decide) rfl (fun ls hl => ?_)
                refine lv_goto (tgt := 44) hx hb dX2_weighed_125 (by decide) ?_
                exact ih _ _ h _ _ _ _ _ _ _ _ _ _ hw (lv_sub hl [2, 3, 4, 5, 6, 1, 7, 0] rfl)
              clear h
              have h := hj_85
              refine kb_if_ne (tgt := 93) hx hb dX2_weighed_85 (by decide) h (fun c_85 h => ?_) (fun c_85 h => ?_)
              · refine lv_bipush (v := 9) hx hb dX2_weighed_88 (by decide) ?_
                refine lv_goto (tgt := 98) hx hb dX2_weighed_90 (by decide) ?_
                cases h
                exact J_85 _ _ _ hw (lv_sub hl [1, 2, 3, 4, 5, 6, 7, 8, 0] rfl)
              · refine lv_aload hx hb dX2_weighed_93 (lv_at hl 7 rfl) ?_
                refine va_get (ci := 1) (v := .int u8Dr_22) (C := RX1) (T := TX1) (N := 7) hx hb hts hinX1 hown hK.1 hw.1 42 rfl rfl 2 (by decide) q_2 (fun _ h9 => h9) rfl dX2_weighed_95 ?_
                cases h
                exact J_85 _ _ _ hw (lv_sub hl [1, 2, 3, 4, 5, 6, 7, 8, 0] rfl)
          clear h
          have h := hj_52
          refine kb_if_ne (tgt := 59) hx hb dX2_weighed_52 (by decide) h (fun c_52 h => ?_) (fun c_52 h => ?_)
          · refine lv_iload_n hx hb dX2_weighed_55 rfl (lv_at hl 2 rfl) ?_
            refine lv_goto (tgt := 63) hx hb dX2_weighed_56 (by decide) ?_
            cases h
            exact J_52 _ _ _ hw (lv_sub hl [0, 1, 2, 3, 4, 5, 6, 7] rfl)
          · refine lv_bipush (v := 10) hx hb dX2_weighed_59 (by decide) ?_
            refine lv_iload_n hx hb dX2_weighed_61 rfl (lv_at hl 2 rfl) ?_
            refine lv_isub hx hb dX2_weighed_62 ?_
            cases h
            exact J_52 _ _ _ hw (lv_sub hl [0, 1, 2, 3, 4, 5, 6, 7] rfl)
    exact LP_44 400 0 0 hL_44 _ _ _ _ _ _ _ _ _ _ hw (lv_sub hl [3, 4, 5, 6, 7, 2, 1, 0] rfl)
abbrev rmX2_weighed_6 : Room := { frames := 5, cells := 0, slots := 0, locals := 124 }
set_option maxHeartbeats 4000000 in
set_option maxRecDepth 100000 in
theorem c_X2_weighed_6 (l : Launch) (D : va_G) (k : Nat → ClassId) (xh xaA t0 t1 t2 t3 t4 t5 t6 t7 t8 u0rNa u0rMo u0rWa u0rDe u1rNa u1rMo u1rWa u1rDe u2rNa u2rMo u2rWa u2rDe u3rNa u3rMo u3rWa u3rDe u4rNa u4rMo u4rWa u4rDe u5rNa u5rMo u5rWa u5rDe u6rNa u6rMo u6rWa u6rDe u7rNa u7rMo u7rWa u7rDe u8rNa u8rMo u8rWa u8rDe : Nat) (sz : Nat) (u0Pe : Int32) (u0Da : Int32) (u0Dr : Int32) (u0Na : (Nat → Int32)) (u0Mo : (Nat → Int32)) (u0Wa : (Nat → Int32)) (u0De : (Nat → Int32)) (u1Pe : Int32) (u1Da : Int32) (u1Dr : Int32) (u1Na : (Nat → Int32)) (u1Mo : (Nat → Int32)) (u1Wa : (Nat → Int32)) (u1De : (Nat → Int32)) (u2Pe : Int32) (u2Da : Int32) (u2Dr : Int32) (u2Na : (Nat → Int32)) (u2Mo : (Nat → Int32)) (u2Wa : (Nat → Int32)) (u2De : (Nat → Int32)) (u3Pe : Int32) (u3Da : Int32) (u3Dr : Int32) (u3Na : (Nat → Int32)) (u3Mo : (Nat → Int32)) (u3Wa : (Nat → Int32)) (u3De : (Nat → Int32)) (u4Pe : Int32) (u4Da : Int32) (u4Dr : Int32) (u4Na : (Nat → Int32)) (u4Mo : (Nat → Int32)) (u4Wa : (Nat → Int32)) (u4De : (Nat → Int32)) (u5Pe : Int32) (u5Da : Int32) (u5Dr : Int32) (u5Na : (Nat → Int32)) (u5Mo : (Nat → Int32)) (u5Wa : (Nat → Int32)) (u5De : (Nat → Int32)) (u6Pe : Int32) (u6Da : Int32) (u6Dr : Int32) (u6Na : (Nat → Int32)) (u6Mo : (Nat → Int32)) (u6Wa : (Nat → Int32)) (u6De : (Nat → Int32)) (u7Pe : Int32) (u7Da : Int32) (u7Dr : Int32) (u7Na : (Nat → Int32)) (u7Mo : (Nat → Int32)) (u7Wa : (Nat → Int32)) (u7De : (Nat → Int32)) (u8Pe : Int32) (u8Da : Int32) (u8Dr : Int32) (u8Na : (Nat → Int32)) (u8Mo : (Nat → Int32)) (u8Wa : (Nat → Int32)) (u8De : (Nat → Int32)) (p2 : Int32) (p3 : Int32) (p4 : Int32) (r_ : Int64) (hf : f_X2_weighed_6 u6Pe u6Da u6Dr u6Na u6Mo u6Wa u6De p2 p3 p4 = some r_) : mJ l yX2_weighed wsX2_weighed rmX2_weighed_6 D k sz [.ref xh, .int 6, .int p2, .int p3, .int p4] (wX2 k xh xaA ++ (wOA k xaA t0 t1 t2 t3 t4 t5 t6 t7 t8 ++ (wX1 k t0 u0rNa u0rMo u0rWa u0rDe u0Pe u0Da u0Dr u0Na u0Mo u0Wa u0De ++ (wX1 k t1 u1rNa u1rMo u1rWa u1rDe u1Pe u1Da u1Dr u1Na u1Mo u1Wa u1De ++ (wX1 k t2 u2rNa u2rMo u2rWa u2rDe u2Pe u2Da u2Dr u2Na u2Mo u2Wa u2De ++ (wX1 k t3 u3rNa u3rMo u3rWa u3rDe u3Pe u3Da u3Dr u3Na u3Mo u3Wa u3De ++ (wX1 k t4 u4rNa u4rMo u4rWa u4rDe u4Pe u4Da u4Dr u4Na u4Mo u4Wa u4De ++ (wX1 k t5 u5rNa u5rMo u5rWa u5rDe u5Pe u5Da u5Dr u5Na u5Mo u5Wa u5De ++ (wX1 k t6 u6rNa u6rMo u6rWa u6rDe u6Pe u6Da u6Dr u6Na u6Mo u6Wa u6De ++ (wX1 k t7 u7rNa u7rMo u7rWa u7rDe u7Pe u7Da u7Dr u7Na u7Mo u7Wa u7De ++ (wX1 k t8 u8rNa u8rMo u8rWa u8rDe u8Pe u8Da u8Dr u8Na u8Mo u8Wa u8De))))))))))) (fun j => wX2 k xh xaA ++ (wOA k xaA t0 t1 t2 t3 t4 t5 t6 t7 t8 ++ (wX1 k t0 u0rNa u0rMo u0rWa u0rDe u0Pe u0Da u0Dr u0Na u0Mo u0Wa u0De ++ (wX1 k t1 u1rNa u1rMo u1rWa u1rDe u1Pe u1Da u1Dr u1Na u1Mo u1Wa u1De ++ (wX1 k t2 u2rNa u2rMo u2rWa u2rDe u2Pe u2Da u2Dr u2Na u2Mo u2Wa u2De ++ (wX1 k t3 u3rNa u3rMo u3rWa u3rDe u3Pe u3Da u3Dr u3Na u3Mo u3Wa u3De ++ (wX1 k t4 u4rNa u4rMo u4rWa u4rDe u4Pe u4Da u4Dr u4Na u4Mo u4Wa u4De ++ (wX1 k t5 u5rNa u5rMo u5rWa u5rDe u5Pe u5Da u5Dr u5Na u5Mo u5Wa u5De ++ (wX1 k t6 u6rNa u6rMo u6rWa u6rDe u6Pe u6Da u6Dr u6Na u6Mo u6Wa u6De ++ (wX1 k t7 u7rNa u7rMo u7rWa u7rDe (j.1 0) (j.1 1) (j.1 2) (j.2 0) (j.2 1) (j.2 2) (j.2 3) ++ (wX1 k t8 u8rNa u8rMo u8rWa u8rDe (j.1 3) (j.1 4) (j.1 5) (j.2 4) (j.2 5) (j.2 6) (j.2 7)))))))))))) (some (.long r_)) := by
  refine mJ_of (cc := cX2_weighed) (maxL := 10) (ret := some .long) (by decide) rfl (Nat.le_of_ble_eq_true rfl) [(0, .ref xh), (1, .int 6), (2, .int p2), (3, .int p3), (4, .int p4)] rfl ?_
  intro p e s m below meth c A ls args Q cx hK hA hw hl hQ
  have fx := cx.1
  obtain ⟨⟨hx, hb, hml, hown, hts⟩, hr, hlocks⟩ := cx
  have hinX2 : ∀ w ∈ wsX20, w ∈ wsX2_weighed := fun w h => List.mem_cons_of_mem _ (List.mem_append_left _ (List.mem_append_right _ h))
  have hinX1 : ∀ w ∈ wsX10, w ∈ wsX2_weighed := fun w h => List.mem_cons_of_mem _ (List.mem_append_right _ h)
  have q_1 := hts (.fieldLink RX2 11 "DebtRides$Odds" "steps" "[LDebtRides$Land;") (List.mem_of_getElem? (i := 1) rfl)
  have q_2 := hts (.fieldLink RX2 41 "DebtRides$Land" "dryness" "I") (List.mem_of_getElem? (i := 2) rfl)
  have h := hf
  unfold f_X2_weighed_6 at h
  clear hf
  refine lv_iload_n hx hb dX2_weighed_0 rfl (lv_at hl 1 rfl) ?_
  refine lv_iload hx hb dX2_weighed_1 (lv_at hl 4 rfl) ?_
  have T_17 : f_X2_weighed_6_B17 u6Pe u6De p3 = some r_ → ∀ (H : Heap) (locs : List Loc) (ls : Array Slot), Wd D A s.heap H locs (wX2 k xh xaA ++ (wOA k xaA t0 t1 t2 t3 t4 t5 t6 t7 t8 ++ (wX1 k t0 u0rNa u0rMo u0rWa u0rDe u0Pe u0Da u0Dr u0Na u0Mo u0Wa u0De ++ (wX1 k t1 u1rNa u1rMo u1rWa u1rDe u1Pe u1Da u1Dr u1Na u1Mo u1Wa u1De ++ (wX1 k t2 u2rNa u2rMo u2rWa u2rDe u2Pe u2Da u2Dr u2Na u2Mo u2Wa u2De ++ (wX1 k t3 u3rNa u3rMo u3rWa u3rDe u3Pe u3Da u3Dr u3Na u3Mo u3Wa u3De ++ (wX1 k t4 u4rNa u4rMo u4rWa u4rDe u4Pe u4Da u4Dr u4Na u4Mo u4Wa u4De ++ (wX1 k t5 u5rNa u5rMo u5rWa u5rDe u5Pe u5Da u5Dr u5Na u5Mo u5Wa u5De ++ (wX1 k t6 u6rNa u6rMo u6rWa u6rDe u6Pe u6Da u6Dr u6Na u6Mo u6Wa u6De ++ (wX1 k t7 u7rNa u7rMo u7rWa u7rDe u7Pe u7Da u7Dr u7Na u7Mo u7Wa u7De ++ (wX1 k t8 u8rNa u8rMo u8rWa u8rDe u8Pe u8Da u8Dr u8Na u8Mo u8Wa u8De))))))))))) → lv_has ls 10 [(0, .ref xh), (1, .int 6), (3, .int p3)] → W p l e rmX2_weighed_6 s m args below meth c H locs 0 0 Q (F0 m 17 ls []) := by
    clear h
    intro h H locs ls hw hl
    unfold f_X2_weighed_6_B17 at h
    refine lv_aload_n hx hb dX2_weighed_17 rfl (lv_at hl 0 rfl) ?_
    refine va_get (ci := 2) (v := .ref xaA) (C := RX2) (T := TX2) (N := 1) hx hb hts hinX2 hown hK.1 hw.1 0 rfl rfl 0 (by decide) q_1 (fun _ h9 => h9) rfl dX2_weighed_18 ?_
    refine lv_iload_n hx hb dX2_weighed_21 rfl (lv_at hl 1 rfl) ?_
    refine k_aald hx hb hK hw 1 3 (j := 6) (a' := t6) rfl rfl rfl (by unfold vp_in; decide) rfl dX2_weighed_22 ?_
    refine lv_iload_n hx hb dX2_weighed_23 rfl (lv_at hl 2 rfl) ?_
    obtain ⟨r_1, hf, h⟩ := b1_inv h
    refine k_callS (b := 0) (C := "") (host := "") fx hK hA hw (c_X2_worth l D k t6 u6rNa u6rMo u6rWa u6rDe _ u6Pe u6Da u6Dr u6Na u6Mo u6Wa u6De p3 r_1 hf) (va_cwS 2 hts gX2_weighed_X2_worth rfl rfl rfl (by decide +kernel) ⟨by decide, by decide⟩) (As := [.ref t6, .int p3]) (wr := [(xh, .inr (2, [.ref xaA])), (xaA, .inl (k 3, 9, .inr (.inr (.inr (.inr (rl [t0, t1, t2, t3, t4, t5, t6, t7, t8])))))), (t0, .inr (1, [.int u0Pe, .int u0Da, .int u0Dr, .ref u0rNa, .ref u0rMo, .ref u0rWa, .ref u0rDe])), (u0rNa, .inl (k 0, 5, .inl u0Na)), (u0rMo, .inl (k 0, 5, .inl u0Mo)), (u0rWa, .inl (k 0, 5, .inl u0Wa)), (u0rDe, .inl (k 0, 25, .inl u0De)), (t1, .inr (1, [.int u1Pe, .int u1Da, .int u1Dr, .ref u1rNa, .ref u1rMo, .ref u1rWa, .ref u1rDe])), (u1rNa, .inl (k 0, 5, .inl u1Na)), (u1rMo, .inl (k 0, 5, .inl u1Mo)), (u1rWa, .inl (k 0, 5, .inl u1Wa)), (u1rDe, .inl (k 0, 25, .inl u1De)), (t2, .inr (1, [.int u2Pe, .int u2Da, .int u2Dr, .ref u2rNa, .ref u2rMo, .ref u2rWa, .ref u2rDe])), (u2rNa, .inl (k 0, 5, .inl u2Na)), (u2rMo, .inl (k 0, 5, .inl u2Mo)), (u2rWa, .inl (k 0, 5, .inl u2Wa)), (u2rDe, .inl (k 0, 25, .inl u2De)), (t3, .inr (1, [.int u3Pe, .int u3Da, .int u3Dr, .ref u3rNa, .ref u3rMo, .ref u3rWa, .ref u3rDe])), (u3rNa, .inl (k 0, 5, .inl u3Na)), (u3rMo, .inl (k 0, 5, .inl u3Mo)), (u3rWa, .inl (k 0, 5, .inl u3Wa)), (u3rDe, .inl (k 0, 25, .inl u3De)), (t4, .inr (1, [.int u4Pe, .int u4Da, .int u4Dr, .ref u4rNa, .ref u4rMo, .ref u4rWa, .ref u4rDe])), (u4rNa, .inl (k 0, 5, .inl u4Na)), (u4rMo, .inl (k 0, 5, .inl u4Mo)), (u4rWa, .inl (k 0, 5, .inl u4Wa)), (u4rDe, .inl (k 0, 25, .inl u4De)), (t5, .inr (1, [.int u5Pe, .int u5Da, .int u5Dr, .ref u5rNa, .ref u5rMo, .ref u5rWa, .ref u5rDe])), (u5rNa, .inl (k 0, 5, .inl u5Na)), (u5rMo, .inl (k 0, 5, .inl u5Mo)), (u5rWa, .inl (k 0, 5, .inl u5Wa)), (u5rDe, .inl (k 0, 25, .inl u5De)), (t7, .inr (1, [.int u7Pe, .int u7Da, .int u7Dr, .ref u7rNa, .ref u7rMo, .ref u7rWa, .ref u7rDe])), (u7rNa, .inl (k 0, 5, .inl u7Na)), (u7rMo, .inl (k 0, 5, .inl u7Mo)), (u7rWa, .inl (k 0, 5, .inl u7Wa)), (u7rDe, .inl (k 0, 25, .inl u7De)), (t8, .inr (1, [.int u8Pe, .int u8Da, .int u8Dr, .ref u8rNa, .ref u8rMo, .ref u8rWa, .ref u8rDe])), (u8rNa, .inl (k 0, 5, .inl u8Na)), (u8rMo, .inl (k 0, 5, .inl u8Mo)), (u8rWa, .inl (k 0, 5, .inl u8Wa)), (u8rDe, .inl (k 0, 25, .inl u8De))]) (ws' := wX2 k xh xaA ++ (wOA k xaA t0 t1 t2 t3 t4 t5 t6 t7 t8 ++ (wX1 k t0 u0rNa u0rMo u0rWa u0rDe u0Pe u0Da u0Dr u0Na u0Mo u0Wa u0De ++ (wX1 k t1 u1rNa u1rMo u1rWa u1rDe u1Pe u1Da u1Dr u1Na u1Mo u1Wa u1De ++ (wX1 k t2 u2rNa u2rMo u2rWa u2rDe u2Pe u2Da u2Dr u2Na u2Mo u2Wa u2De ++ (wX1 k t3 u3rNa u3rMo u3rWa u3rDe u3Pe u3Da u3Dr u3Na u3Mo u3Wa u3De ++ (wX1 k t4 u4rNa u4rMo u4rWa u4rDe u4Pe u4Da u4Dr u4Na u4Mo u4Wa u4De ++ (wX1 k t5 u5rNa u5rMo u5rWa u5rDe u5Pe u5Da u5Dr u5Na u5Mo u5Wa u5De ++ (wX1 k t6 u6rNa u6rMo u6rWa u6rDe u6Pe u6Da u6Dr u6Na u6Mo u6Wa u6De ++ (wX1 k t7 u7rNa u7rMo u7rWa u7rDe u7Pe u7Da u7Dr u7Na u7Mo u7Wa u7De ++ (wX1 k t8 u8rNa u8rMo u8rWa u8rDe u8Pe u8Da u8Dr u8Na u8Mo u8Wa u8De))))))))))) [32, 33, 34, 35, 36] [0, 1, 2, 3, 4, 5, 6, 7, 8, 9, 10, 11, 12, 13, 14, 15, 16, 17, 18, 19, 20, 21, 22, 23, 24, 25, 26, 27, 28, 29, 30, 31, 37, 38, 39, 40, 41, 42, 43, 44, 45, 46] [0, 1, 2, 3, 4, 5, 6, 7, 8, 9, 10, 11, 12, 13, 14, 15, 16, 17, 18, 19, 20, 21, 22, 23, 24, 25, 26, 27, 28, 29, 30, 31, 42, 43, 44, 45, 46, 32, 33, 34, 35, 36, 37, 38, 39, 40, 41] rfl rfl (by decide) (by decide) (by decide) rfl (by decide) [] rfl hl.1 rfl (Nat.le_of_ble_eq_true rfl) dX2_weighed_24 ⟨by decide, by decide⟩ (fun H locs (hw : Wd D A s.heap H locs (wX2 k xh xaA ++ (wOA k xaA t0 t1 t2 t3 t4 t5 t6 t7 t8 ++ (wX1 k t0 u0rNa u0rMo u0rWa u0rDe u0Pe u0Da u0Dr u0Na u0Mo u0Wa u0De ++ (wX1 k t1 u1rNa u1rMo u1rWa u1rDe u1Pe u1Da u1Dr u1Na u1Mo u1Wa u1De ++ (wX1 k t2 u2rNa u2rMo u2rWa u2rDe u2Pe u2Da u2Dr u2Na u2Mo u2Wa u2De ++ (wX1 k t3 u3rNa u3rMo u3rWa u3rDe u3Pe u3Da u3Dr u3Na u3Mo u3Wa u3De ++ (wX1 k t4 u4rNa u4rMo u4rWa u4rDe u4Pe u4Da u4Dr u4Na u4Mo u4Wa u4De ++ (wX1 k t5 u5rNa u5rMo u5rWa u5rDe u5Pe u5Da u5Dr u5Na u5Mo u5Wa u5De ++ (wX1 k t6 u6rNa u6rMo u6rWa u6rDe u6Pe u6Da u6Dr u6Na u6Mo u6Wa u6De ++ (wX1 k t7 u7rNa u7rMo u7rWa u7rDe u7Pe u7Da u7Dr u7Na u7Mo u7Wa u7De ++ (wX1 k t8 u8rNa u8rMo u8rWa u8rDe u8Pe u8Da u8Dr u8Na u8Mo u8Wa u8De)))))))))))) => ?_)
    refine W.eq (g2 := F0 m 27 ls ([.long r_1])) rfl ?_
    cases h
    exact k_jlret (j := (fun i => List.getD [u7Pe, u7Da, u7Dr, u8Pe, u8Da, u8Dr] i 0, fun i => List.getD [u7Na, u7Mo, u7Wa, u7De, u8Na, u8Mo, u8Wa, u8De] i (fun _ => 0))) hx hb hr hlocks hw rfl dX2_weighed_27 hQ
  refine kb_icmp_ge (tgt := 17) hx hb dX2_weighed_3 (by decide) h (fun c_3 h => ?_) (fun c_3 h => ?_)
  · exact T_17 h _ _ _ hw (lv_sub hl [0, 1, 3] rfl)
  · refine lv_iload_n hx hb dX2_weighed_6 rfl (lv_at hl 1 rfl) ?_
    refine lv_iconst (v := 1) hx hb dX2_weighed_7 (by decide) ?_
    refine lv_iadd hx hb dX2_weighed_8 ?_
    refine k_lit (y := 7) (by decide) ?_
    refine lv_aload_n hx hb dX2_weighed_9 rfl (lv_at hl 0 rfl) ?_
    refine va_get (ci := 2) (v := .ref xaA) (C := RX2) (T := TX2) (N := 1) hx hb hts hinX2 hown hK.1 hw.1 0 rfl rfl 0 (by decide) q_1 (fun _ h9 => h9) rfl dX2_weighed_10 ?_
    refine va_alen (v := 9) hx hb hK.1 hw.1 1 3 rfl rfl rfl dX2_weighed_13 ?_
    refine lv_icmp_lt (tgt := 28) hx hb dX2_weighed_14 (by decide) (fun _ => ?_) (fun q => absurd (by decide) q)
    refine lv_lconst (v := 0) hx hb dX2_weighed_28 rfl ?_
    refine lv_lstore (lv' := [(5, .long 0), (0, .ref xh), (1, .int 6), (2, .int p2), (3, .int p3), (4, .int p4)]) hx hb dX2_weighed_29 hl (by decide) rfl (fun ls hl => ?_)
    refine lv_aload_n hx hb dX2_weighed_31 rfl (lv_at hl 1 rfl) ?_
    refine va_get (ci := 2) (v := .ref xaA) (C := RX2) (T := TX2) (N := 1) hx hb hts hinX2 hown hK.1 hw.1 0 rfl rfl 0 (by decide) q_1 (fun _ h9 => h9) rfl dX2_weighed_32 ?_
    refine lv_iload_n hx hb dX2_weighed_35 rfl (lv_at hl 2 rfl) ?_
    refine lv_iconst (v := 1) hx hb dX2_weighed_36 (by decide) ?_
    refine lv_iadd hx hb dX2_weighed_37 ?_
    refine k_lit (y := 7) (by decide) ?_
    refine k_aald hx hb hK hw 1 3 (j := 7) (a' := t7) rfl rfl rfl (by unfold vp_in; decide) rfl dX2_weighed_38 ?_
    refine lv_astore (lv' := [(7, .ref t7), (5, .long 0), (0, .ref xh), (1, .int 6), (2, .int p2), (3, .int p3), (4, .int p4)]) hx hb dX2_weighed_39 hl (by decide) rfl (fun ls hl => ?_)
    refine lv_iconst (v := 0) hx hb dX2_weighed_41 (by decide) ?_
    refine lv_istore (lv' := [(8, .int 0), (7, .ref t7), (5, .long 0), (0, .ref xh), (1, .int 6), (2, .int p2), (3, .int p3), (4, .int p4)]) hx hb dX2_weighed_42 hl (by decide) rfl (fun ls hl => ?_)
    obtain ⟨v5_18, hL_44, h⟩ := b1_inv h
    have X_44 : ∀ (u7Pe_19 : Int32) (u7Da_20 : Int32) (u7Dr_21 : Int32) (u7Na_22 : (Nat → Int32)) (u7Mo_23 : (Nat → Int32)) (u7Wa_24 : (Nat → Int32)) (u7De_25 : (Nat → Int32)) (u8Pe_26 : Int32) (u8Da_27 : Int32) (u8Dr_28 : Int32) (u8Na_29 : (Nat → Int32)) (u8Mo_30 : (Nat → Int32)) (u8Wa_31 : (Nat → Int32)) (u8De_32 : (Nat → Int32)) (H : Heap) (locs : List Loc) (ls : Array Slot), Wd D A s.heap H locs (wX2 k xh xaA ++ (wOA k xaA t0 t1 t2 t3 t4 t5 t6 t7 t8 ++ (wX1 k t0 u0rNa u0rMo u0rWa u0rDe u0Pe u0Da u0Dr u0Na u0Mo u0Wa u0De ++ (wX1 k t1 u1rNa u1rMo u1rWa u1rDe u1Pe u1Da u1Dr u1Na u1Mo u1Wa u1De ++ (wX1 k t2 u2rNa u2rMo u2rWa u2rDe u2Pe u2Da u2Dr u2Na u2Mo u2Wa u2De ++ (wX1 k t3 u3rNa u3rMo u3rWa u3rDe u3Pe u3Da u3Dr u3Na u3Mo u3Wa u3De ++ (wX1 k t4 u4rNa u4rMo u4rWa u4rDe u4Pe u4Da u4Dr u4Na u4Mo u4Wa u4De ++ (wX1 k t5 u5rNa u5rMo u5rWa u5rDe u5Pe u5Da u5Dr u5Na u5Mo u5Wa u5De ++ (wX1 k t6 u6rNa u6rMo u6rWa u6rDe u6Pe u6Da u6Dr u6Na u6Mo u6Wa u6De ++ (wX1 k t7 u7rNa u7rMo u7rWa u7rDe u7Pe_19 u7Da_20 u7Dr_21 u7Na_22 u7Mo_23 u7Wa_24 u7De_25 ++ (wX1 k t8 u8rNa u8rMo u8rWa u8rDe u8Pe_26 u8Da_27 u8Dr_28 u8Na_29 u8Mo_30 u8Wa_31 u8De_32))))))))))) → lv_has ls 10 [(5, .long v5_18)] → W p l e rmX2_weighed_6 s m args below meth c H locs 0 0 Q (F0 m 128 ls []) := by
      intro u7Pe_19 u7Da_20 u7Dr_21 u7Na_22 u7Mo_23 u7Wa_24 u7De_25 u8Pe_26 u8Da_27 u8Dr_28 u8Na_29 u8Mo_30 u8Wa_31 u8De_32 H locs ls hw hl
      refine lv_lload hx hb dX2_weighed_128 (lv_at hl 0 rfl) ?_
      cases h
      exact k_jlret (j := (fun i => List.getD [u7Pe_19, u7Da_20, u7Dr_21, u8Pe_26, u8Da_27, u8Dr_28] i 0, fun i => List.getD [u7Na_22, u7Mo_23, u7Wa_24, u7De_25, u8Na_29, u8Mo_30, u8Wa_31, u8De_32] i (fun _ => 0))) hx hb hr hlocks hw rfl dX2_weighed_130 hQ
    clear h
    have LP_44 : ∀ (n : Nat) (v5_2 : Int64) (v8_3 : Int32), f_X2_weighed_6_L44 u6Pe u6Da u6Dr u6Na u6Mo u6Wa u6De p2 p3 p4 n v5_2 v8_3 = some v5_18 → ∀ (u7Pe_4 : Int32) (u7Da_5 : Int32) (u7Dr_6 : Int32) (u7Na_7 : (Nat → Int32)) (u7Mo_8 : (Nat → Int32)) (u7Wa_9 : (Nat → Int32)) (u7De_10 : (Nat → Int32)) (u8Pe_11 : Int32) (u8Da_12 : Int32) (u8Dr_13 : Int32) (u8Na_14 : (Nat → Int32)) (u8Mo_15 : (Nat → Int32)) (u8Wa_16 : (Nat → Int32)) (u8De_17 : (Nat → Int32)) (H : Heap) (locs : List Loc) (ls : Array Slot), Wd D A s.heap H locs (wX2 k xh xaA ++ (wOA k xaA t0 t1 t2 t3 t4 t5 t6 t7 t8 ++ (wX1 k t0 u0rNa u0rMo u0rWa u0rDe u0Pe u0Da u0Dr u0Na u0Mo u0Wa u0De ++ (wX1 k t1 u1rNa u1rMo u1rWa u1rDe u1Pe u1Da u1Dr u1Na u1Mo u1Wa u1De ++ (wX1 k t2 u2rNa u2rMo u2rWa u2rDe u2Pe u2Da u2Dr u2Na u2Mo u2Wa u2De ++ (wX1 k t3 u3rNa u3rMo u3rWa u3rDe u3Pe u3Da u3Dr u3Na u3Mo u3Wa u3De ++ (wX1 k t4 u4rNa u4rMo u4rWa u4rDe u4Pe u4Da u4Dr u4Na u4Mo u4Wa u4De ++ (wX1 k t5 u5rNa u5rMo u5rWa u5rDe u5Pe u5Da u5Dr u5Na u5Mo u5Wa u5De ++ (wX1 k t6 u6rNa u6rMo u6rWa u6rDe u6Pe u6Da u6Dr u6Na u6Mo u6Wa u6De ++ (wX1 k t7 u7rNa u7rMo u7rWa u7rDe u7Pe_4 u7Da_5 u7Dr_6 u7Na_7 u7Mo_8 u7Wa_9 u7De_10 ++ (wX1 k t8 u8rNa u8rMo u8rWa u8rDe u8Pe_11 u8Da_12 u8Dr_13 u8Na_14 u8Mo_15 u8Wa_16 u8De_17))))))))))) → lv_has ls 10 [(0, .ref xh), (1, .int 6), (2, .int p2), (3, .int p3), (4, .int p4), (5, .long v5_2), (7, .ref t7), (8, .int v8_3)] → W p l e rmX2_weighed_6 s m args below meth c H locs 0 0 Q (F0 m 44 ls []) := by
      clear hL_44 hw hl
      intro n
      induction n with
      | zero => intro v5_2 v8_3 h; rw [f_X2_weighed_6_L44] at h; cases h
      | succ n ih =>
        intro v5_2 v8_3 h u7Pe_4 u7Da_5 u7Dr_6 u7Na_7 u7Mo_8 u7Wa_9 u7De_10 u8Pe_11 u8Da_12 u8Dr_13 u8Na_14 u8Mo_15 u8Wa_16 u8De_17 H locs ls hw hl
        rw [f_X2_weighed_6_L44] at h
        refine lv_iload hx hb dX2_weighed_44 (lv_at hl 7 rfl) ?_
        refine lv_iconst (v := 2) hx hb dX2_weighed_46 (by decide) ?_
        refine kb_icmp_ge (tgt := 128) hx hb dX2_weighed_47 (by decide) h (fun c_47 h => ?_) (fun c_47 h => ?_)
        · cases h
          exact X_44 _ _ _ _ _ _ _ _ _ _ _ _ _ _ _ _ _ hw (lv_sub hl [5] rfl)
        · refine lv_iload hx hb dX2_weighed_50 (lv_at hl 7 rfl) ?_
          obtain ⟨t_33, hj_52, h⟩ := b1_inv h
          have J_52 : ∀ (H : Heap) (locs : List Loc) (ls : Array Slot), Wd D A s.heap H locs (wX2 k xh xaA ++ (wOA k xaA t0 t1 t2 t3 t4 t5 t6 t7 t8 ++ (wX1 k t0 u0rNa u0rMo u0rWa u0rDe u0Pe u0Da u0Dr u0Na u0Mo u0Wa u0De ++ (wX1 k t1 u1rNa u1rMo u1rWa u1rDe u1Pe u1Da u1Dr u1Na u1Mo u1Wa u1De ++ (wX1 k t2 u2rNa u2rMo u2rWa u2rDe u2Pe u2Da u2Dr u2Na u2Mo u2Wa u2De ++ (wX1 k t3 u3rNa u3rMo u3rWa u3rDe u3Pe u3Da u3Dr u3Na u3Mo u3Wa u3De ++ (wX1 k t4 u4rNa u4rMo u4rWa u4rDe u4Pe u4Da u4Dr u4Na u4Mo u4Wa u4De ++ (wX1 k t5 u5rNa u5rMo u5rWa u5rDe u5Pe u5Da u5Dr u5Na u5Mo u5Wa u5De ++ (wX1 k t6 u6rNa u6rMo u6rWa u6rDe u6Pe u6Da u6Dr u6Na u6Mo u6Wa u6De ++ (wX1 k t7 u7rNa u7rMo u7rWa u7rDe u7Pe_4 u7Da_5 u7Dr_6 u7Na_7 u7Mo_8 u7Wa_9 u7De_10 ++ (wX1 k t8 u8rNa u8rMo u8rWa u8rDe u8Pe_11 u8Da_12 u8Dr_13 u8Na_14 u8Mo_15 u8Wa_16 u8De_17))))))))))) → lv_has ls 10 [(0, .ref xh), (1, .int 6), (2, .int p2), (3, .int p3), (4, .int p4), (5, .long v5_2), (7, .ref t7), (8, .int v8_3)] → W p l e rmX2_weighed_6 s m args below meth c H locs 0 0 Q (F0 m 63 ls [.int t_33]) := by
            intro H locs ls hw hl
            refine lv_istore (lv' := [(9, .int t_33), (0, .ref xh), (1, .int 6), (2, .int p2), (3, .int p3), (4, .int p4), (5, .long v5_2), (7, .ref t7), (8, .int v8_3)]) hx hb dX2_weighed_63 hl (by decide) rfl (fun ls hl => ?_)
            refine lv_iload hx hb dX2_weighed_65 (lv_at hl 0 rfl) ?_
            refine kb_if_le (tgt := 122) hx hb dX2_weighed_67 (by decide) h (fun c_67 h => ?_) (fun c_67 h => ?_)
            · refine lv_iinc (v := v8_3 + 1) (lv' := [(8, .int (v8_3 + 1)), (9, .int t_33), (0, .ref xh), (1, .int 6), (2, .int p2), (3, .int p3), (4, .int p4), (5, .long v5_2), (7, .ref t7)]) hx hb dX2_weighed_122 hl (k := 8) rfl rfl (by decide) rfl (fun ls hl => ?_)
              refine lv_goto (tgt := 44) hx hb dX2_weighed_125 (by decide) ?_
              exact ih _ _ h _ _ _ _ _ _ _ _ _ _ _ _ _ _ _ _ _ hw (lv_sub hl [2, 3, 4, 5, 6, 7, 8, 0] rfl)
            · refine lv_aload hx hb dX2_weighed_70 (lv_at hl 7 rfl) ?_
              refine lv_aload_n hx hb dX2_weighed_72 rfl (lv_at hl 1 rfl) ?_
              refine va_get (ci := 2) (v := .ref xaA) (C := RX2) (T := TX2) (N := 1) hx hb hts hinX2 hown hK.1 hw.1 0 rfl rfl 0 (by decide) q_1 (fun _ h9 => h9) rfl dX2_weighed_73 ?_
              refine lv_iload_n hx hb dX2_weighed_76 rfl (lv_at hl 2 rfl) ?_
              refine k_aald hx hb hK hw 1 3 (j := 6) (a' := t6) rfl rfl rfl (by unfold vp_in; decide) rfl dX2_weighed_77 ?_
              obtain ⟨u7Pe_34, u7Da_35, u7Dr_36, u7Na_37, u7Mo_38, u7Wa_39, u7De_40, hf, h⟩ := b7_inv h
              refine k_callV (host := "") fx hK hA hw (c_X1_become l D k t7 u7rNa u7rMo u7rWa u7rDe t6 u6rNa u6rMo u6rWa u6rDe _ u7Pe_4 u7Da_5 u7Dr_6 u7Na_7 u7Mo_8 u7Wa_9 u7De_10 u6Pe u6Da u6Dr u6Na u6Mo u6Wa u6De u7Pe_34 u7Da_35 u7Dr_36 u7Na_37 u7Mo_38 u7Wa_39 u7De_40 hf) (cwV 1 hts gX2_weighed_X1_become rfl rfl rfl (by decide +kernel) ⟨by decide, by decide⟩) (As := [.ref t6]) (wr := [(xh, .inr (2, [.ref xaA])), (xaA, .inl (k 3, 9, .inr (.inr (.inr (.inr (rl [t0, t1, t2, t3, t4, t5, t6, t7, t8])))))), (t0, .inr (1, [.int u0Pe, .int u0Da, .int u0Dr, .ref u0rNa, .ref u0rMo, .ref u0rWa, .ref u0rDe])), (u0rNa, .inl (k 0, 5, .inl u0Na)), (u0rMo, .inl (k 0, 5, .inl u0Mo)), (u0rWa, .inl (k 0, 5, .inl u0Wa)), (u0rDe, .inl (k 0, 25, .inl u0De)), (t1, .inr (1, [.int u1Pe, .int u1Da, .int u1Dr, .ref u1rNa, .ref u1rMo, .ref u1rWa, .ref u1rDe])), (u1rNa, .inl (k 0, 5, .inl u1Na)), (u1rMo, .inl (k 0, 5, .inl u1Mo)), (u1rWa, .inl (k 0, 5, .inl u1Wa)), (u1rDe, .inl (k 0, 25, .inl u1De)), (t2, .inr (1, [.int u2Pe, .int u2Da, .int u2Dr, .ref u2rNa, .ref u2rMo, .ref u2rWa, .ref u2rDe])), (u2rNa, .inl (k 0, 5, .inl u2Na)), (u2rMo, .inl (k 0, 5, .inl u2Mo)), (u2rWa, .inl (k 0, 5, .inl u2Wa)), (u2rDe, .inl (k 0, 25, .inl u2De)), (t3, .inr (1, [.int u3Pe, .int u3Da, .int u3Dr, .ref u3rNa, .ref u3rMo, .ref u3rWa, .ref u3rDe])), (u3rNa, .inl (k 0, 5, .inl u3Na)), (u3rMo, .inl (k 0, 5, .inl u3Mo)), (u3rWa, .inl (k 0, 5, .inl u3Wa)), (u3rDe, .inl (k 0, 25, .inl u3De)), (t4, .inr (1, [.int u4Pe, .int u4Da, .int u4Dr, .ref u4rNa, .ref u4rMo, .ref u4rWa, .ref u4rDe])), (u4rNa, .inl (k 0, 5, .inl u4Na)), (u4rMo, .inl (k 0, 5, .inl u4Mo)), (u4rWa, .inl (k 0, 5, .inl u4Wa)), (u4rDe, .inl (k 0, 25, .inl u4De)), (t5, .inr (1, [.int u5Pe, .int u5Da, .int u5Dr, .ref u5rNa, .ref u5rMo, .ref u5rWa, .ref u5rDe])), (u5rNa, .inl (k 0, 5, .inl u5Na)), (u5rMo, .inl (k 0, 5, .inl u5Mo)), (u5rWa, .inl (k 0, 5, .inl u5Wa)), (u5rDe, .inl (k 0, 25, .inl u5De)), (t8, .inr (1, [.int u8Pe_11, .int u8Da_12, .int u8Dr_13, .ref u8rNa, .ref u8rMo, .ref u8rWa, .ref u8rDe])), (u8rNa, .inl (k 0, 5, .inl u8Na_14)), (u8rMo, .inl (k 0, 5, .inl u8Mo_15)), (u8rWa, .inl (k 0, 5, .inl u8Wa_16)), (u8rDe, .inl (k 0, 25, .inl u8De_17))]) (ws' := wX2 k xh xaA ++ (wOA k xaA t0 t1 t2 t3 t4 t5 t6 t7 t8 ++ (wX1 k t0 u0rNa u0rMo u0rWa u0rDe u0Pe u0Da u0Dr u0Na u0Mo u0Wa u0De ++ (wX1 k t1 u1rNa u1rMo u1rWa u1rDe u1Pe u1Da u1Dr u1Na u1Mo u1Wa u1De ++ (wX1 k t2 u2rNa u2rMo u2rWa u2rDe u2Pe u2Da u2Dr u2Na u2Mo u2Wa u2De ++ (wX1 k t3 u3rNa u3rMo u3rWa u3rDe u3Pe u3Da u3Dr u3Na u3Mo u3Wa u3De ++ (wX1 k t4 u4rNa u4rMo u4rWa u4rDe u4Pe u4Da u4Dr u4Na u4Mo u4Wa u4De ++ (wX1 k t5 u5rNa u5rMo u5rWa u5rDe u5Pe u5Da u5Dr u5Na u5Mo u5Wa u5De ++ (wX1 k t6 u6rNa u6rMo u6rWa u6rDe u6Pe u6Da u6Dr u6Na u6Mo u6Wa u6De ++ (wX1 k t7 u7rNa u7rMo u7rWa u7rDe u7Pe_34 u7Da_35 u7Dr_36 u7Na_37 u7Mo_38 u7Wa_39 u7De_40 ++ (wX1 k t8 u8rNa u8rMo u8rWa u8rDe u8Pe_11 u8Da_12 u8Dr_13 u8Na_14 u8Mo_15 u8Wa_16 u8De_17))))))))))) [37, 38, 39, 40, 41, 32, 33, 34, 35, 36] [0, 1, 2, 3, 4, 5, 6, 7, 8, 9, 10, 11, 12, 13, 14, 15, 16, 17, 18, 19, 20, 21, 22, 23, 24, 25, 26, 27, 28, 29, 30, 31, 42, 43, 44, 45, 46] [0, 1, 2, 3, 4, 5, 6, 7, 8, 9, 10, 11, 12, 13, 14, 15, 16, 17, 18, 19, 20, 21, 22, 23, 24, 25, 26, 27, 28, 29, 30, 31, 42, 43, 44, 45, 46, 37, 38, 39, 40, 41, 32, 33, 34, 35, 36] rfl rfl (by decide) (by decide) (by decide) rfl (by decide) 1 rfl rfl [] rfl hl.1 rfl (Nat.le_of_ble_eq_true rfl) dX2_weighed_78 ⟨by decide, by decide⟩ (fun H locs (hw : Wd D A s.heap H locs (wX2 k xh xaA ++ (wOA k xaA t0 t1 t2 t3 t4 t5 t6 t7 t8 ++ (wX1 k t0 u0rNa u0rMo u0rWa u0rDe u0Pe u0Da u0Dr u0Na u0Mo u0Wa u0De ++ (wX1 k t1 u1rNa u1rMo u1rWa u1rDe u1Pe u1Da u1Dr u1Na u1Mo u1Wa u1De ++ (wX1 k t2 u2rNa u2rMo u2rWa u2rDe u2Pe u2Da u2Dr u2Na u2Mo u2Wa u2De ++ (wX1 k t3 u3rNa u3rMo u3rWa u3rDe u3Pe u3Da u3Dr u3Na u3Mo u3Wa u3De ++ (wX1 k t4 u4rNa u4rMo u4rWa u4rDe u4Pe u4Da u4Dr u4Na u4Mo u4Wa u4De ++ (wX1 k t5 u5rNa u5rMo u5rWa u5rDe u5Pe u5Da u5Dr u5Na u5Mo u5Wa u5De ++ (wX1 k t6 u6rNa u6rMo u6rWa u6rDe u6Pe u6Da u6Dr u6Na u6Mo u6Wa u6De ++ (wX1 k t7 u7rNa u7rMo u7rWa u7rDe u7Pe_34 u7Da_35 u7Dr_36 u7Na_37 u7Mo_38 u7Wa_39 u7De_40 ++ (wX1 k t8 u8rNa u8rMo u8rWa u8rDe u8Pe_11 u8Da_12 u8Dr_13 u8Na_14 u8Mo_15 u8Wa_16 u8De_17)))))))))))) => ?_)
              refine W.eq (g2 := F0 m 81 ls ([])) rfl ?_
              refine lv_aload hx hb dX2_weighed_81 (lv_at hl 7 rfl) ?_
              refine lv_iload hx hb dX2_weighed_83 (lv_at hl 8 rfl) ?_
              obtain ⟨t_41, hj_85, h⟩ := b1_inv h
              have J_85 : ∀ (H : Heap) (locs : List Loc) (ls : Array Slot), Wd D A s.heap H locs (wX2 k xh xaA ++ (wOA k xaA t0 t1 t2 t3 t4 t5 t6 t7 t8 ++ (wX1 k t0 u0rNa u0rMo u0rWa u0rDe u0Pe u0Da u0Dr u0Na u0Mo u0Wa u0De ++ (wX1 k t1 u1rNa u1rMo u1rWa u1rDe u1Pe u1Da u1Dr u1Na u1Mo u1Wa u1De ++ (wX1 k t2 u2rNa u2rMo u2rWa u2rDe u2Pe u2Da u2Dr u2Na u2Mo u2Wa u2De ++ (wX1 k t3 u3rNa u3rMo u3rWa u3rDe u3Pe u3Da u3Dr u3Na u3Mo u3Wa u3De ++ (wX1 k t4 u4rNa u4rMo u4rWa u4rDe u4Pe u4Da u4Dr u4Na u4Mo u4Wa u4De ++ (wX1 k t5 u5rNa u5rMo u5rWa u5rDe u5Pe u5Da u5Dr u5Na u5Mo u5Wa u5De ++ (wX1 k t6 u6rNa u6rMo u6rWa u6rDe u6Pe u6Da u6Dr u6Na u6Mo u6Wa u6De ++ (wX1 k t7 u7rNa u7rMo u7rWa u7rDe u7Pe_34 u7Da_35 u7Dr_36 u7Na_37 u7Mo_38 u7Wa_39 u7De_40 ++ (wX1 k t8 u8rNa u8rMo u8rWa u8rDe u8Pe_11 u8Da_12 u8Dr_13 u8Na_14 u8Mo_15 u8Wa_16 u8De_17))))))))))) → lv_has ls 10 [(0, .ref xh), (1, .int 6), (2, .int p2), (3, .int p3), (4, .int p4), (5, .long v5_2), (7, .ref t7), (8, .int v8_3), (9, .int t_33)] → W p l e rmX2_weighed_6 s m args below meth c H locs 0 0 Q (F0 m 98 ls [.int t_41, .ref t7]) := by
                intro H locs ls hw hl
                obtain ⟨r_42, u7Da_43, u7Mo_44, u7De_45, hf, h⟩ := b4_inv h
                refine k_callV (host := "") fx hK hA hw (c_X1_runDay l D k t7 u7rNa u7rMo u7rWa u7rDe _ u7Pe_34 u7Da_35 u7Dr_36 u7Na_37 u7Mo_38 u7Wa_39 u7De_40 t_41 r_42 u7Da_43 u7Mo_44 u7De_45 hf) (cwV 1 hts gX2_weighed_X1_runDay rfl rfl rfl (by decide +kernel) ⟨by decide, by decide⟩) (As := [.int t_41]) (wr := [(xh, .inr (2, [.ref xaA])), (xaA, .inl (k 3, 9, .inr (.inr (.inr (.inr (rl [t0, t1, t2, t3, t4, t5, t6, t7, t8])))))), (t0, .inr (1, [.int u0Pe, .int u0Da, .int u0Dr, .ref u0rNa, .ref u0rMo, .ref u0rWa, .ref u0rDe])), (u0rNa, .inl (k 0, 5, .inl u0Na)), (u0rMo, .inl (k 0, 5, .inl u0Mo)), (u0rWa, .inl (k 0, 5, .inl u0Wa)), (u0rDe, .inl (k 0, 25, .inl u0De)), (t1, .inr (1, [.int u1Pe, .int u1Da, .int u1Dr, .ref u1rNa, .ref u1rMo, .ref u1rWa, .ref u1rDe])), (u1rNa, .inl (k 0, 5, .inl u1Na)), (u1rMo, .inl (k 0, 5, .inl u1Mo)), (u1rWa, .inl (k 0, 5, .inl u1Wa)), (u1rDe, .inl (k 0, 25, .inl u1De)), (t2, .inr (1, [.int u2Pe, .int u2Da, .int u2Dr, .ref u2rNa, .ref u2rMo, .ref u2rWa, .ref u2rDe])), (u2rNa, .inl (k 0, 5, .inl u2Na)), (u2rMo, .inl (k 0, 5, .inl u2Mo)), (u2rWa, .inl (k 0, 5, .inl u2Wa)), (u2rDe, .inl (k 0, 25, .inl u2De)), (t3, .inr (1, [.int u3Pe, .int u3Da, .int u3Dr, .ref u3rNa, .ref u3rMo, .ref u3rWa, .ref u3rDe])), (u3rNa, .inl (k 0, 5, .inl u3Na)), (u3rMo, .inl (k 0, 5, .inl u3Mo)), (u3rWa, .inl (k 0, 5, .inl u3Wa)), (u3rDe, .inl (k 0, 25, .inl u3De)), (t4, .inr (1, [.int u4Pe, .int u4Da, .int u4Dr, .ref u4rNa, .ref u4rMo, .ref u4rWa, .ref u4rDe])), (u4rNa, .inl (k 0, 5, .inl u4Na)), (u4rMo, .inl (k 0, 5, .inl u4Mo)), (u4rWa, .inl (k 0, 5, .inl u4Wa)), (u4rDe, .inl (k 0, 25, .inl u4De)), (t5, .inr (1, [.int u5Pe, .int u5Da, .int u5Dr, .ref u5rNa, .ref u5rMo, .ref u5rWa, .ref u5rDe])), (u5rNa, .inl (k 0, 5, .inl u5Na)), (u5rMo, .inl (k 0, 5, .inl u5Mo)), (u5rWa, .inl (k 0, 5, .inl u5Wa)), (u5rDe, .inl (k 0, 25, .inl u5De)), (t6, .inr (1, [.int u6Pe, .int u6Da, .int u6Dr, .ref u6rNa, .ref u6rMo, .ref u6rWa, .ref u6rDe])), (u6rNa, .inl (k 0, 5, .inl u6Na)), (u6rMo, .inl (k 0, 5, .inl u6Mo)), (u6rWa, .inl (k 0, 5, .inl u6Wa)), (u6rDe, .inl (k 0, 25, .inl u6De)), (t8, .inr (1, [.int u8Pe_11, .int u8Da_12, .int u8Dr_13, .ref u8rNa, .ref u8rMo, .ref u8rWa, .ref u8rDe])), (u8rNa, .inl (k 0, 5, .inl u8Na_14)), (u8rMo, .inl (k 0, 5, .inl u8Mo_15)), (u8rWa, .inl (k 0, 5, .inl u8Wa_16)), (u8rDe, .inl (k 0, 25, .inl u8De_17))]) (ws' := wX2 k xh xaA ++ (wOA k xaA t0 t1 t2 t3 t4 t5 t6 t7 t8 ++ (wX1 k t0 u0rNa u0rMo u0rWa u0rDe u0Pe u0Da u0Dr u0Na u0Mo u0Wa u0De ++ (wX1 k t1 u1rNa u1rMo u1rWa u1rDe u1Pe u1Da u1Dr u1Na u1Mo u1Wa u1De ++ (wX1 k t2 u2rNa u2rMo u2rWa u2rDe u2Pe u2Da u2Dr u2Na u2Mo u2Wa u2De ++ (wX1 k t3 u3rNa u3rMo u3rWa u3rDe u3Pe u3Da u3Dr u3Na u3Mo u3Wa u3De ++ (wX1 k t4 u4rNa u4rMo u4rWa u4rDe u4Pe u4Da u4Dr u4Na u4Mo u4Wa u4De ++ (wX1 k t5 u5rNa u5rMo u5rWa u5rDe u5Pe u5Da u5Dr u5Na u5Mo u5Wa u5De ++ (wX1 k t6 u6rNa u6rMo u6rWa u6rDe u6Pe u6Da u6Dr u6Na u6Mo u6Wa u6De ++ (wX1 k t7 u7rNa u7rMo u7rWa u7rDe u7Pe_34 u7Da_43 u7Dr_36 u7Na_37 u7Mo_44 u7Wa_39 u7De_45 ++ (wX1 k t8 u8rNa u8rMo u8rWa u8rDe u8Pe_11 u8Da_12 u8Dr_13 u8Na_14 u8Mo_15 u8Wa_16 u8De_17))))))))))) [37, 38, 39, 40, 41] [0, 1, 2, 3, 4, 5, 6, 7, 8, 9, 10, 11, 12, 13, 14, 15, 16, 17, 18, 19, 20, 21, 22, 23, 24, 25, 26, 27, 28, 29, 30, 31, 32, 33, 34, 35, 36, 42, 43, 44, 45, 46] [0, 1, 2, 3, 4, 5, 6, 7, 8, 9, 10, 11, 12, 13, 14, 15, 16, 17, 18, 19, 20, 21, 22, 23, 24, 25, 26, 27, 28, 29, 30, 31, 32, 33, 34, 35, 36, 42, 43, 44, 45, 46, 37, 38, 39, 40, 41] rfl rfl (by decide) (by decide) (by decide) rfl (by decide) 1 rfl rfl [] rfl hl.1 rfl (Nat.le_of_ble_eq_true rfl) dX2_weighed_98 ⟨by decide, by decide⟩ (fun H locs (hw : Wd D A s.heap H locs (wX2 k xh xaA ++ (wOA k xaA t0 t1 t2 t3 t4 t5 t6 t7 t8 ++ (wX1 k t0 u0rNa u0rMo u0rWa u0rDe u0Pe u0Da u0Dr u0Na u0Mo u0Wa u0De ++ (wX1 k t1 u1rNa u1rMo u1rWa u1rDe u1Pe u1Da u1Dr u1Na u1Mo u1Wa u1De ++ (wX1 k t2 u2rNa u2rMo u2rWa u2rDe u2Pe u2Da u2Dr u2Na u2Mo u2Wa u2De ++ (wX1 k t3 u3rNa u3rMo u3rWa u3rDe u3Pe u3Da u3Dr u3Na u3Mo u3Wa u3De ++ (wX1 k t4 u4rNa u4rMo u4rWa u4rDe u4Pe u4Da u4Dr u4Na u4Mo u4Wa u4De ++ (wX1 k t5 u5rNa u5rMo u5rWa u5rDe u5Pe u5Da u5Dr u5Na u5Mo u5Wa u5De ++ (wX1 k t6 u6rNa u6rMo u6rWa u6rDe u6Pe u6Da u6Dr u6Na u6Mo u6Wa u6De ++ (wX1 k t7 u7rNa u7rMo u7rWa u7rDe u7Pe_34 u7Da_43 u7Dr_36 u7Na_37 u7Mo_44 u7Wa_39 u7De_45 ++ (wX1 k t8 u8rNa u8rMo u8rWa u8rDe u8Pe_11 u8Da_12 u8Dr_13 u8Na_14 u8Mo_15 u8Wa_16 u8De_17)))))))))))) => ?_)
                refine W.eq (g2 := F0 m 101 ls ([.int r_42])) rfl ?_
                refine lv_pop hx hb dX2_weighed_101 rfl ?_
                refine lv_lload hx hb dX2_weighed_102 (lv_at hl 5 rfl) ?_
                refine lv_iload hx hb dX2_weighed_104 (lv_at hl 8 rfl) ?_
                refine lv_i2l hx hb dX2_weighed_106 rfl ?_
                refine lv_aload_n hx hb dX2_weighed_107 rfl (lv_at hl 0 rfl) ?_
                refine lv_iload_n hx hb dX2_weighed_108 rfl (lv_at hl 1 rfl) ?_
                refine lv_iconst (v := 1) hx hb dX2_weighed_109 (by decide) ?_
                refine lv_iadd hx hb dX2_weighed_110 ?_
                refine k_lit (y := 7) (by decide) ?_
                refine lv_iload_n hx hb dX2_weighed_111 rfl (lv_at hl 2 rfl) ?_
                refine lv_iload_n hx hb dX2_weighed_112 rfl (lv_at hl 3 rfl) ?_
                refine lv_iload hx hb dX2_weighed_113 (lv_at hl 4 rfl) ?_
                obtain ⟨r_46, hf, h⟩ := b1_inv h
                refine k_callVJ fx hK hA hw (c_X2_weighed_7 l D k xh xaA t0 t1 t2 t3 t4 t5 t6 t7 t8 u0rNa u0rMo u0rWa u0rDe u1rNa u1rMo u1rWa u1rDe u2rNa u2rMo u2rWa u2rDe u3rNa u3rMo u3rWa u3rDe u4rNa u4rMo u4rWa u4rDe u5rNa u5rMo u5rWa u5rDe u6rNa u6rMo u6rWa u6rDe u7rNa u7rMo u7rWa u7rDe u8rNa u8rMo u8rWa u8rDe _ u0Pe u0Da u0Dr u0Na u0Mo u0Wa u0De u1Pe u1Da u1Dr u1Na u1Mo u1Wa u1De u2Pe u2Da u2Dr u2Na u2Mo u2Wa u2De u3Pe u3Da u3Dr u3Na u3Mo u3Wa u3De u4Pe u4Da u4Dr u4Na u4Mo u4Wa u4De u5Pe u5Da u5Dr u5Na u5Mo u5Wa u5De u6Pe u6Da u6Dr u6Na u6Mo u6Wa u6De u7Pe_34 u7Da_43 u7Dr_36 u7Na_37 u7Mo_44 u7Wa_39 u7De_45 u8Pe_11 u8Da_12 u8Dr_13 u8Na_14 u8Mo_15 u8Wa_16 u8De_17 p2 p3 p4 r_46 hf) (cwV 4 hts gX2_weighed_X2_weighed rfl rfl rfl (by decide +kernel) ⟨by decide, by decide⟩) (As := [.int 7, .int p2, .int p3, .int p4]) (wr := []) (ws' := fun j_47 => wX2 k xh xaA ++ (wOA k xaA t0 t1 t2 t3 t4 t5 t6 t7 t8 ++ (wX1 k t0 u0rNa u0rMo u0rWa u0rDe u0Pe u0Da u0Dr u0Na u0Mo u0Wa u0De ++ (wX1 k t1 u1rNa u1rMo u1rWa u1rDe u1Pe u1Da u1Dr u1Na u1Mo u1Wa u1De ++ (wX1 k t2 u2rNa u2rMo u2rWa u2rDe u2Pe u2Da u2Dr u2Na u2Mo u2Wa u2De ++ (wX1 k t3 u3rNa u3rMo u3rWa u3rDe u3Pe u3Da u3Dr u3Na u3Mo u3Wa u3De ++ (wX1 k t4 u4rNa u4rMo u4rWa u4rDe u4Pe u4Da u4Dr u4Na u4Mo u4Wa u4De ++ (wX1 k t5 u5rNa u5rMo u5rWa u5rDe u5Pe u5Da u5Dr u5Na u5Mo u5Wa u5De ++ (wX1 k t6 u6rNa u6rMo u6rWa u6rDe u6Pe u6Da u6Dr u6Na u6Mo u6Wa u6De ++ (wX1 k t7 u7rNa u7rMo u7rWa u7rDe u7Pe_34 u7Da_43 u7Dr_36 u7Na_37 u7Mo_44 u7Wa_39 u7De_45 ++ (wX1 k t8 u8rNa u8rMo u8rWa u8rDe (j_47.1 0) (j_47.1 1) (j_47.1 2) (j_47.2 0) (j_47.2 1) (j_47.2 2) (j_47.2 3)))))))))))) [0, 1, 2, 3, 4, 5, 6, 7, 8, 9, 10, 11, 12, 13, 14, 15, 16, 17, 18, 19, 20, 21, 22, 23, 24, 25, 26, 27, 28, 29, 30, 31, 32, 33, 34, 35, 36, 37, 38, 39, 40, 41, 42, 43, 44, 45, 46] [] [0, 1, 2, 3, 4, 5, 6, 7, 8, 9, 10, 11, 12, 13, 14, 15, 16, 17, 18, 19, 20, 21, 22, 23, 24, 25, 26, 27, 28, 29, 30, 31, 32, 33, 34, 35, 36, 37, 38, 39, 40, 41, 42, 43, 44, 45, 46] rfl rfl (by decide) (by decide) (by decide) (fun _ => rfl) (by decide) 2 rfl rfl [.long t_33.toInt64, .long v5_2] rfl hl.1 rfl (Nat.le_of_ble_eq_true rfl) dX2_weighed_115 ⟨by decide, by decide⟩ (fun j_47 H locs (hw : Wd D A s.heap H locs (wX2 k xh xaA ++ (wOA k xaA t0 t1 t2 t3 t4 t5 t6 t7 t8 ++ (wX1 k t0 u0rNa u0rMo u0rWa u0rDe u0Pe u0Da u0Dr u0Na u0Mo u0Wa u0De ++ (wX1 k t1 u1rNa u1rMo u1rWa u1rDe u1Pe u1Da u1Dr u1Na u1Mo u1Wa u1De ++ (wX1 k t2 u2rNa u2rMo u2rWa u2rDe u2Pe u2Da u2Dr u2Na u2Mo u2Wa u2De ++ (wX1 k t3 u3rNa u3rMo u3rWa u3rDe u3Pe u3Da u3Dr u3Na u3Mo u3Wa u3De ++ (wX1 k t4 u4rNa u4rMo u4rWa u4rDe u4Pe u4Da u4Dr u4Na u4Mo u4Wa u4De ++ (wX1 k t5 u5rNa u5rMo u5rWa u5rDe u5Pe u5Da u5Dr u5Na u5Mo u5Wa u5De ++ (wX1 k t6 u6rNa u6rMo u6rWa u6rDe u6Pe u6Da u6Dr u6Na u6Mo u6Wa u6De ++ (wX1 k t7 u7rNa u7rMo u7rWa u7rDe u7Pe_34 u7Da_43 u7Dr_36 u7Na_37 u7Mo_44 u7Wa_39 u7De_45 ++ (wX1 k t8 u8rNa u8rMo u8rWa u8rDe (j_47.1 0) (j_47.1 1) (j_47.1 2) (j_47.2 0) (j_47.2 1) (j_47.2 2) (j_47.2 3))))))))))))) => ?_)
                refine W.eq (g2 := F0 m 118 ls ([.long r_46, .long t_33.toInt64, .long v5_2])) rfl ?_
                refine lv_lmul hx hb dX2_weighed_118 ?_
                refine lv_ladd hx hb dX2_weighed_119 ?_
                refine lv_lstore (lv' := [(5, .long (v5_2 + (t_33.toInt64 * r_46))), (0, .ref xh), (1, .int 6), (2, .int p2), (3, .int p3), (4, .int p4), (7, .ref t7), (8, .int v8_3), (9, .int t_33)]) hx hb dX2_weighed_120 hl (by decide) rfl (fun ls hl => ?_)
                refine lv_iinc (v := v8_3 + 1) (lv' := [(8, .int (v8_3 + 1)), (5, .long (v5_2 + (t_33.toInt64 * r_46))), (0, .ref xh), (1, .int 6), (2, .int p2), (3, .int p3), (4, .int p4), (7, .ref t7), (9, .int t_33)]) hx hb dX2_weighed_122 hl (k := 7) rfl rfl (by decide) rfl (fun ls hl => ?_)
                refine lv_goto (tgt := 44) hx hb dX2_weighed_125 (by decide) ?_
                exact ih _ _ h _ _ _ _ _ _ _ _ _ _ _ _ _ _ _ _ _ hw (lv_sub hl [2, 3, 4, 5, 6, 1, 7, 0] rfl)
              clear h
              have h := hj_85
              refine kb_if_ne (tgt := 93) hx hb dX2_weighed_85 (by decide) h (fun c_85 h => ?_) (fun c_85 h => ?_)
              · refine lv_bipush (v := 9) hx hb dX2_weighed_88 (by decide) ?_
                refine lv_goto (tgt := 98) hx hb dX2_weighed_90 (by decide) ?_
                cases h
                exact J_85 _ _ _ hw (lv_sub hl [1, 2, 3, 4, 5, 6, 7, 8, 0] rfl)
              · refine lv_aload hx hb dX2_weighed_93 (lv_at hl 7 rfl) ?_
                refine va_get (ci := 1) (v := .int u7Dr_36) (C := RX1) (T := TX1) (N := 7) hx hb hts hinX1 hown hK.1 hw.1 37 rfl rfl 2 (by decide) q_2 (fun _ h9 => h9) rfl dX2_weighed_95 ?_
                cases h
                exact J_85 _ _ _ hw (lv_sub hl [1, 2, 3, 4, 5, 6, 7, 8, 0] rfl)
          clear h
          have h := hj_52
          refine kb_if_ne (tgt := 59) hx hb dX2_weighed_52 (by decide) h (fun c_52 h => ?_) (fun c_52 h => ?_)
          · refine lv_iload_n hx hb dX2_weighed_55 rfl (lv_at hl 2 rfl) ?_
            refine lv_goto (tgt := 63) hx hb dX2_weighed_56 (by decide) ?_
            cases h
            exact J_52 _ _ _ hw (lv_sub hl [0, 1, 2, 3, 4, 5, 6, 7] rfl)
          · refine lv_bipush (v := 10) hx hb dX2_weighed_59 (by decide) ?_
            refine lv_iload_n hx hb dX2_weighed_61 rfl (lv_at hl 2 rfl) ?_
            refine lv_isub hx hb dX2_weighed_62 ?_
            cases h
            exact J_52 _ _ _ hw (lv_sub hl [0, 1, 2, 3, 4, 5, 6, 7] rfl)
    exact LP_44 400 0 0 hL_44 _ _ _ _ _ _ _ _ _ _ _ _ _ _ _ _ _ hw (lv_sub hl [3, 4, 5, 6, 7, 2, 1, 0] rfl)
abbrev rmX2_weighed_5 : Room := { frames := 6, cells := 0, slots := 0, locals := 153 }
set_option maxHeartbeats 4000000 in
set_option maxRecDepth 100000 in
theorem c_X2_weighed_5 (l : Launch) (D : va_G) (k : Nat → ClassId) (xh xaA t0 t1 t2 t3 t4 t5 t6 t7 t8 u0rNa u0rMo u0rWa u0rDe u1rNa u1rMo u1rWa u1rDe u2rNa u2rMo u2rWa u2rDe u3rNa u3rMo u3rWa u3rDe u4rNa u4rMo u4rWa u4rDe u5rNa u5rMo u5rWa u5rDe u6rNa u6rMo u6rWa u6rDe u7rNa u7rMo u7rWa u7rDe u8rNa u8rMo u8rWa u8rDe : Nat) (sz : Nat) (u0Pe : Int32) (u0Da : Int32) (u0Dr : Int32) (u0Na : (Nat → Int32)) (u0Mo : (Nat → Int32)) (u0Wa : (Nat → Int32)) (u0De : (Nat → Int32)) (u1Pe : Int32) (u1Da : Int32) (u1Dr : Int32) (u1Na : (Nat → Int32)) (u1Mo : (Nat → Int32)) (u1Wa : (Nat → Int32)) (u1De : (Nat → Int32)) (u2Pe : Int32) (u2Da : Int32) (u2Dr : Int32) (u2Na : (Nat → Int32)) (u2Mo : (Nat → Int32)) (u2Wa : (Nat → Int32)) (u2De : (Nat → Int32)) (u3Pe : Int32) (u3Da : Int32) (u3Dr : Int32) (u3Na : (Nat → Int32)) (u3Mo : (Nat → Int32)) (u3Wa : (Nat → Int32)) (u3De : (Nat → Int32)) (u4Pe : Int32) (u4Da : Int32) (u4Dr : Int32) (u4Na : (Nat → Int32)) (u4Mo : (Nat → Int32)) (u4Wa : (Nat → Int32)) (u4De : (Nat → Int32)) (u5Pe : Int32) (u5Da : Int32) (u5Dr : Int32) (u5Na : (Nat → Int32)) (u5Mo : (Nat → Int32)) (u5Wa : (Nat → Int32)) (u5De : (Nat → Int32)) (u6Pe : Int32) (u6Da : Int32) (u6Dr : Int32) (u6Na : (Nat → Int32)) (u6Mo : (Nat → Int32)) (u6Wa : (Nat → Int32)) (u6De : (Nat → Int32)) (u7Pe : Int32) (u7Da : Int32) (u7Dr : Int32) (u7Na : (Nat → Int32)) (u7Mo : (Nat → Int32)) (u7Wa : (Nat → Int32)) (u7De : (Nat → Int32)) (u8Pe : Int32) (u8Da : Int32) (u8Dr : Int32) (u8Na : (Nat → Int32)) (u8Mo : (Nat → Int32)) (u8Wa : (Nat → Int32)) (u8De : (Nat → Int32)) (p2 : Int32) (p3 : Int32) (p4 : Int32) (r_ : Int64) (hf : f_X2_weighed_5 u5Pe u5Da u5Dr u5Na u5Mo u5Wa u5De p2 p3 p4 = some r_) : mJ l yX2_weighed wsX2_weighed rmX2_weighed_5 D k sz [.ref xh, .int 5, .int p2, .int p3, .int p4] (wX2 k xh xaA ++ (wOA k xaA t0 t1 t2 t3 t4 t5 t6 t7 t8 ++ (wX1 k t0 u0rNa u0rMo u0rWa u0rDe u0Pe u0Da u0Dr u0Na u0Mo u0Wa u0De ++ (wX1 k t1 u1rNa u1rMo u1rWa u1rDe u1Pe u1Da u1Dr u1Na u1Mo u1Wa u1De ++ (wX1 k t2 u2rNa u2rMo u2rWa u2rDe u2Pe u2Da u2Dr u2Na u2Mo u2Wa u2De ++ (wX1 k t3 u3rNa u3rMo u3rWa u3rDe u3Pe u3Da u3Dr u3Na u3Mo u3Wa u3De ++ (wX1 k t4 u4rNa u4rMo u4rWa u4rDe u4Pe u4Da u4Dr u4Na u4Mo u4Wa u4De ++ (wX1 k t5 u5rNa u5rMo u5rWa u5rDe u5Pe u5Da u5Dr u5Na u5Mo u5Wa u5De ++ (wX1 k t6 u6rNa u6rMo u6rWa u6rDe u6Pe u6Da u6Dr u6Na u6Mo u6Wa u6De ++ (wX1 k t7 u7rNa u7rMo u7rWa u7rDe u7Pe u7Da u7Dr u7Na u7Mo u7Wa u7De ++ (wX1 k t8 u8rNa u8rMo u8rWa u8rDe u8Pe u8Da u8Dr u8Na u8Mo u8Wa u8De))))))))))) (fun j => wX2 k xh xaA ++ (wOA k xaA t0 t1 t2 t3 t4 t5 t6 t7 t8 ++ (wX1 k t0 u0rNa u0rMo u0rWa u0rDe u0Pe u0Da u0Dr u0Na u0Mo u0Wa u0De ++ (wX1 k t1 u1rNa u1rMo u1rWa u1rDe u1Pe u1Da u1Dr u1Na u1Mo u1Wa u1De ++ (wX1 k t2 u2rNa u2rMo u2rWa u2rDe u2Pe u2Da u2Dr u2Na u2Mo u2Wa u2De ++ (wX1 k t3 u3rNa u3rMo u3rWa u3rDe u3Pe u3Da u3Dr u3Na u3Mo u3Wa u3De ++ (wX1 k t4 u4rNa u4rMo u4rWa u4rDe u4Pe u4Da u4Dr u4Na u4Mo u4Wa u4De ++ (wX1 k t5 u5rNa u5rMo u5rWa u5rDe u5Pe u5Da u5Dr u5Na u5Mo u5Wa u5De ++ (wX1 k t6 u6rNa u6rMo u6rWa u6rDe (j.1 0) (j.1 1) (j.1 2) (j.2 0) (j.2 1) (j.2 2) (j.2 3) ++ (wX1 k t7 u7rNa u7rMo u7rWa u7rDe (j.1 3) (j.1 4) (j.1 5) (j.2 4) (j.2 5) (j.2 6) (j.2 7) ++ (wX1 k t8 u8rNa u8rMo u8rWa u8rDe (j.1 6) (j.1 7) (j.1 8) (j.2 8) (j.2 9) (j.2 10) (j.2 11)))))))))))) (some (.long r_)) := by
  refine mJ_of (cc := cX2_weighed) (maxL := 10) (ret := some .long) (by decide) rfl (Nat.le_of_ble_eq_true rfl) [(0, .ref xh), (1, .int 5), (2, .int p2), (3, .int p3), (4, .int p4)] rfl ?_
  intro p e s m below meth c A ls args Q cx hK hA hw hl hQ
  have fx := cx.1
  obtain ⟨⟨hx, hb, hml, hown, hts⟩, hr, hlocks⟩ := cx
  have hinX2 : ∀ w ∈ wsX20, w ∈ wsX2_weighed := fun w h => List.mem_cons_of_mem _ (List.mem_append_left _ (List.mem_append_right _ h))
  have hinX1 : ∀ w ∈ wsX10, w ∈ wsX2_weighed := fun w h => List.mem_cons_of_mem _ (List.mem_append_right _ h)
  have q_1 := hts (.fieldLink RX2 11 "DebtRides$Odds" "steps" "[LDebtRides$Land;") (List.mem_of_getElem? (i := 1) rfl)
  have q_2 := hts (.fieldLink RX2 41 "DebtRides$Land" "dryness" "I") (List.mem_of_getElem? (i := 2) rfl)
  have h := hf
  unfold f_X2_weighed_5 at h
  clear hf
  refine lv_iload_n hx hb dX2_weighed_0 rfl (lv_at hl 1 rfl) ?_
  refine lv_iload hx hb dX2_weighed_1 (lv_at hl 4 rfl) ?_
  have T_17 : f_X2_weighed_5_B17 u5Pe u5De p3 = some r_ → ∀ (H : Heap) (locs : List Loc) (ls : Array Slot), Wd D A s.heap H locs (wX2 k xh xaA ++ (wOA k xaA t0 t1 t2 t3 t4 t5 t6 t7 t8 ++ (wX1 k t0 u0rNa u0rMo u0rWa u0rDe u0Pe u0Da u0Dr u0Na u0Mo u0Wa u0De ++ (wX1 k t1 u1rNa u1rMo u1rWa u1rDe u1Pe u1Da u1Dr u1Na u1Mo u1Wa u1De ++ (wX1 k t2 u2rNa u2rMo u2rWa u2rDe u2Pe u2Da u2Dr u2Na u2Mo u2Wa u2De ++ (wX1 k t3 u3rNa u3rMo u3rWa u3rDe u3Pe u3Da u3Dr u3Na u3Mo u3Wa u3De ++ (wX1 k t4 u4rNa u4rMo u4rWa u4rDe u4Pe u4Da u4Dr u4Na u4Mo u4Wa u4De ++ (wX1 k t5 u5rNa u5rMo u5rWa u5rDe u5Pe u5Da u5Dr u5Na u5Mo u5Wa u5De ++ (wX1 k t6 u6rNa u6rMo u6rWa u6rDe u6Pe u6Da u6Dr u6Na u6Mo u6Wa u6De ++ (wX1 k t7 u7rNa u7rMo u7rWa u7rDe u7Pe u7Da u7Dr u7Na u7Mo u7Wa u7De ++ (wX1 k t8 u8rNa u8rMo u8rWa u8rDe u8Pe u8Da u8Dr u8Na u8Mo u8Wa u8De))))))))))) → lv_has ls 10 [(0, .ref xh), (1, .int 5), (3, .int p3)] → W p l e rmX2_weighed_5 s m args below meth c H locs 0 0 Q (F0 m 17 ls []) := by
    clear h
    intro h H locs ls hw hl
    unfold f_X2_weighed_5_B17 at h
    refine lv_aload_n hx hb dX2_weighed_17 rfl (lv_at hl 0 rfl) ?_
    refine va_get (ci := 2) (v := .ref xaA) (C := RX2) (T := TX2) (N := 1) hx hb hts hinX2 hown hK.1 hw.1 0 rfl rfl 0 (by decide) q_1 (fun _ h9 => h9) rfl dX2_weighed_18 ?_
    refine lv_iload_n hx hb dX2_weighed_21 rfl (lv_at hl 1 rfl) ?_
    refine k_aald hx hb hK hw 1 3 (j := 5) (a' := t5) rfl rfl rfl (by unfold vp_in; decide) rfl dX2_weighed_22 ?_
    refine lv_iload_n hx hb dX2_weighed_23 rfl (lv_at hl 2 rfl) ?_
    obtain ⟨r_1, hf, h⟩ := b1_inv h
    refine k_callS (b := 0) (C := "") (host := "") fx hK hA hw (c_X2_worth l D k t5 u5rNa u5rMo u5rWa u5rDe _ u5Pe u5Da u5Dr u5Na u5Mo u5Wa u5De p3 r_1 hf) (va_cwS 2 hts gX2_weighed_X2_worth rfl rfl rfl (by decide +kernel) ⟨by decide, by decide⟩) (As := [.ref t5, .int p3]) (wr := [(xh, .inr (2, [.ref xaA])), (xaA, .inl (k 3, 9, .inr (.inr (.inr (.inr (rl [t0, t1, t2, t3, t4, t5, t6, t7, t8])))))), (t0, .inr (1, [.int u0Pe, .int u0Da, .int u0Dr, .ref u0rNa, .ref u0rMo, .ref u0rWa, .ref u0rDe])), (u0rNa, .inl (k 0, 5, .inl u0Na)), (u0rMo, .inl (k 0, 5, .inl u0Mo)), (u0rWa, .inl (k 0, 5, .inl u0Wa)), (u0rDe, .inl (k 0, 25, .inl u0De)), (t1, .inr (1, [.int u1Pe, .int u1Da, .int u1Dr, .ref u1rNa, .ref u1rMo, .ref u1rWa, .ref u1rDe])), (u1rNa, .inl (k 0, 5, .inl u1Na)), (u1rMo, .inl (k 0, 5, .inl u1Mo)), (u1rWa, .inl (k 0, 5, .inl u1Wa)), (u1rDe, .inl (k 0, 25, .inl u1De)), (t2, .inr (1, [.int u2Pe, .int u2Da, .int u2Dr, .ref u2rNa, .ref u2rMo, .ref u2rWa, .ref u2rDe])), (u2rNa, .inl (k 0, 5, .inl u2Na)), (u2rMo, .inl (k 0, 5, .inl u2Mo)), (u2rWa, .inl (k 0, 5, .inl u2Wa)), (u2rDe, .inl (k 0, 25, .inl u2De)), (t3, .inr (1, [.int u3Pe, .int u3Da, .int u3Dr, .ref u3rNa, .ref u3rMo, .ref u3rWa, .ref u3rDe])), (u3rNa, .inl (k 0, 5, .inl u3Na)), (u3rMo, .inl (k 0, 5, .inl u3Mo)), (u3rWa, .inl (k 0, 5, .inl u3Wa)), (u3rDe, .inl (k 0, 25, .inl u3De)), (t4, .inr (1, [.int u4Pe, .int u4Da, .int u4Dr, .ref u4rNa, .ref u4rMo, .ref u4rWa, .ref u4rDe])), (u4rNa, .inl (k 0, 5, .inl u4Na)), (u4rMo, .inl (k 0, 5, .inl u4Mo)), (u4rWa, .inl (k 0, 5, .inl u4Wa)), (u4rDe, .inl (k 0, 25, .inl u4De)), (t6, .inr (1, [.int u6Pe, .int u6Da, .int u6Dr, .ref u6rNa, .ref u6rMo, .ref u6rWa, .ref u6rDe])), (u6rNa, .inl (k 0, 5, .inl u6Na)), (u6rMo, .inl (k 0, 5, .inl u6Mo)), (u6rWa, .inl (k 0, 5, .inl u6Wa)), (u6rDe, .inl (k 0, 25, .inl u6De)), (t7, .inr (1, [.int u7Pe, .int u7Da, .int u7Dr, .ref u7rNa, .ref u7rMo, .ref u7rWa, .ref u7rDe])), (u7rNa, .inl (k 0, 5, .inl u7Na)), (u7rMo, .inl (k 0, 5, .inl u7Mo)), (u7rWa, .inl (k 0, 5, .inl u7Wa)), (u7rDe, .inl (k 0, 25, .inl u7De)), (t8, .inr (1, [.int u8Pe, .int u8Da, .int u8Dr, .ref u8rNa, .ref u8rMo, .ref u8rWa, .ref u8rDe])), (u8rNa, .inl (k 0, 5, .inl u8Na)), (u8rMo, .inl (k 0, 5, .inl u8Mo)), (u8rWa, .inl (k 0, 5, .inl u8Wa)), (u8rDe, .inl (k 0, 25, .inl u8De))]) (ws' := wX2 k xh xaA ++ (wOA k xaA t0 t1 t2 t3 t4 t5 t6 t7 t8 ++ (wX1 k t0 u0rNa u0rMo u0rWa u0rDe u0Pe u0Da u0Dr u0Na u0Mo u0Wa u0De ++ (wX1 k t1 u1rNa u1rMo u1rWa u1rDe u1Pe u1Da u1Dr u1Na u1Mo u1Wa u1De ++ (wX1 k t2 u2rNa u2rMo u2rWa u2rDe u2Pe u2Da u2Dr u2Na u2Mo u2Wa u2De ++ (wX1 k t3 u3rNa u3rMo u3rWa u3rDe u3Pe u3Da u3Dr u3Na u3Mo u3Wa u3De ++ (wX1 k t4 u4rNa u4rMo u4rWa u4rDe u4Pe u4Da u4Dr u4Na u4Mo u4Wa u4De ++ (wX1 k t5 u5rNa u5rMo u5rWa u5rDe u5Pe u5Da u5Dr u5Na u5Mo u5Wa u5De ++ (wX1 k t6 u6rNa u6rMo u6rWa u6rDe u6Pe u6Da u6Dr u6Na u6Mo u6Wa u6De ++ (wX1 k t7 u7rNa u7rMo u7rWa u7rDe u7Pe u7Da u7Dr u7Na u7Mo u7Wa u7De ++ (wX1 k t8 u8rNa u8rMo u8rWa u8rDe u8Pe u8Da u8Dr u8Na u8Mo u8Wa u8De))))))))))) [27, 28, 29, 30, 31] [0, 1, 2, 3, 4, 5, 6, 7, 8, 9, 10, 11, 12, 13, 14, 15, 16, 17, 18, 19, 20, 21, 22, 23, 24, 25, 26, 32, 33, 34, 35, 36, 37, 38, 39, 40, 41, 42, 43, 44, 45, 46] [0, 1, 2, 3, 4, 5, 6, 7, 8, 9, 10, 11, 12, 13, 14, 15, 16, 17, 18, 19, 20, 21, 22, 23, 24, 25, 26, 42, 43, 44, 45, 46, 27, 28, 29, 30, 31, 32, 33, 34, 35, 36, 37, 38, 39, 40, 41] rfl rfl (by decide) (by decide) (by decide) rfl (by decide) [] rfl hl.1 rfl (Nat.le_of_ble_eq_true rfl) dX2_weighed_24 ⟨by decide, by decide⟩ (fun H locs (hw : Wd D A s.heap H locs (wX2 k xh xaA ++ (wOA k xaA t0 t1 t2 t3 t4 t5 t6 t7 t8 ++ (wX1 k t0 u0rNa u0rMo u0rWa u0rDe u0Pe u0Da u0Dr u0Na u0Mo u0Wa u0De ++ (wX1 k t1 u1rNa u1rMo u1rWa u1rDe u1Pe u1Da u1Dr u1Na u1Mo u1Wa u1De ++ (wX1 k t2 u2rNa u2rMo u2rWa u2rDe u2Pe u2Da u2Dr u2Na u2Mo u2Wa u2De ++ (wX1 k t3 u3rNa u3rMo u3rWa u3rDe u3Pe u3Da u3Dr u3Na u3Mo u3Wa u3De ++ (wX1 k t4 u4rNa u4rMo u4rWa u4rDe u4Pe u4Da u4Dr u4Na u4Mo u4Wa u4De ++ (wX1 k t5 u5rNa u5rMo u5rWa u5rDe u5Pe u5Da u5Dr u5Na u5Mo u5Wa u5De ++ (wX1 k t6 u6rNa u6rMo u6rWa u6rDe u6Pe u6Da u6Dr u6Na u6Mo u6Wa u6De ++ (wX1 k t7 u7rNa u7rMo u7rWa u7rDe u7Pe u7Da u7Dr u7Na u7Mo u7Wa u7De ++ (wX1 k t8 u8rNa u8rMo u8rWa u8rDe u8Pe u8Da u8Dr u8Na u8Mo u8Wa u8De)))))))))))) => ?_)
    refine W.eq (g2 := F0 m 27 ls ([.long r_1])) rfl ?_
    cases h
    exact k_jlret (j := (fun i => List.getD [u6Pe, u6Da, u6Dr, u7Pe, u7Da, u7Dr, u8Pe, u8Da, u8Dr] i 0, fun i => List.getD [u6Na, u6Mo, u6Wa, u6De, u7Na, u7Mo, u7Wa, u7De, u8Na, u8Mo, u8Wa, u8De] i (fun _ => 0))) hx hb hr hlocks hw rfl dX2_weighed_27 hQ
  refine kb_icmp_ge (tgt := 17) hx hb dX2_weighed_3 (by decide) h (fun c_3 h => ?_) (fun c_3 h => ?_)
  · exact T_17 h _ _ _ hw (lv_sub hl [0, 1, 3] rfl)
  · refine lv_iload_n hx hb dX2_weighed_6 rfl (lv_at hl 1 rfl) ?_
    refine lv_iconst (v := 1) hx hb dX2_weighed_7 (by decide) ?_
    refine lv_iadd hx hb dX2_weighed_8 ?_
    refine k_lit (y := 6) (by decide) ?_
    refine lv_aload_n hx hb dX2_weighed_9 rfl (lv_at hl 0 rfl) ?_
    refine va_get (ci := 2) (v := .ref xaA) (C := RX2) (T := TX2) (N := 1) hx hb hts hinX2 hown hK.1 hw.1 0 rfl rfl 0 (by decide) q_1 (fun _ h9 => h9) rfl dX2_weighed_10 ?_
    refine va_alen (v := 9) hx hb hK.1 hw.1 1 3 rfl rfl rfl dX2_weighed_13 ?_
    refine lv_icmp_lt (tgt := 28) hx hb dX2_weighed_14 (by decide) (fun _ => ?_) (fun q => absurd (by decide) q)
    refine lv_lconst (v := 0) hx hb dX2_weighed_28 rfl ?_
    refine lv_lstore (lv' := [(5, .long 0), (0, .ref xh), (1, .int 5), (2, .int p2), (3, .int p3), (4, .int p4)]) hx hb dX2_weighed_29 hl (by decide) rfl (fun ls hl => ?_)
    refine lv_aload_n hx hb dX2_weighed_31 rfl (lv_at hl 1 rfl) ?_
    refine va_get (ci := 2) (v := .ref xaA) (C := RX2) (T := TX2) (N := 1) hx hb hts hinX2 hown hK.1 hw.1 0 rfl rfl 0 (by decide) q_1 (fun _ h9 => h9) rfl dX2_weighed_32 ?_
    refine lv_iload_n hx hb dX2_weighed_35 rfl (lv_at hl 2 rfl) ?_
    refine lv_iconst (v := 1) hx hb dX2_weighed_36 (by decide) ?_
    refine lv_iadd hx hb dX2_weighed_37 ?_
    refine k_lit (y := 6) (by decide) ?_
    refine k_aald hx hb hK hw 1 3 (j := 6) (a' := t6) rfl rfl rfl (by unfold vp_in; decide) rfl dX2_weighed_38 ?_
    refine lv_astore (lv' := [(7, .ref t6), (5, .long 0), (0, .ref xh), (1, .int 5), (2, .int p2), (3, .int p3), (4, .int p4)]) hx hb dX2_weighed_39 hl (by decide) rfl (fun ls hl => ?_)
    refine lv_iconst (v := 0) hx hb dX2_weighed_41 (by decide) ?_
    refine lv_istore (lv' := [(8, .int 0), (7, .ref t6), (5, .long 0), (0, .ref xh), (1, .int 5), (2, .int p2), (3, .int p3), (4, .int p4)]) hx hb dX2_weighed_42 hl (by decide) rfl (fun ls hl => ?_)
    obtain ⟨v5_25, hL_44, h⟩ := b1_inv h
    have X_44 : ∀ (u6Pe_26 : Int32) (u6Da_27 : Int32) (u6Dr_28 : Int32) (u6Na_29 : (Nat → Int32)) (u6Mo_30 : (Nat → Int32)) (u6Wa_31 : (Nat → Int32)) (u6De_32 : (Nat → Int32)) (u7Pe_33 : Int32) (u7Da_34 : Int32) (u7Dr_35 : Int32) (u7Na_36 : (Nat → Int32)) (u7Mo_37 : (Nat → Int32)) (u7Wa_38 : (Nat → Int32)) (u7De_39 : (Nat → Int32)) (u8Pe_40 : Int32) (u8Da_41 : Int32) (u8Dr_42 : Int32) (u8Na_43 : (Nat → Int32)) (u8Mo_44 : (Nat → Int32)) (u8Wa_45 : (Nat → Int32)) (u8De_46 : (Nat → Int32)) (H : Heap) (locs : List Loc) (ls : Array Slot), Wd D A s.heap H locs (wX2 k xh xaA ++ (wOA k xaA t0 t1 t2 t3 t4 t5 t6 t7 t8 ++ (wX1 k t0 u0rNa u0rMo u0rWa u0rDe u0Pe u0Da u0Dr u0Na u0Mo u0Wa u0De ++ (wX1 k t1 u1rNa u1rMo u1rWa u1rDe u1Pe u1Da u1Dr u1Na u1Mo u1Wa u1De ++ (wX1 k t2 u2rNa u2rMo u2rWa u2rDe u2Pe u2Da u2Dr u2Na u2Mo u2Wa u2De ++ (wX1 k t3 u3rNa u3rMo u3rWa u3rDe u3Pe u3Da u3Dr u3Na u3Mo u3Wa u3De ++ (wX1 k t4 u4rNa u4rMo u4rWa u4rDe u4Pe u4Da u4Dr u4Na u4Mo u4Wa u4De ++ (wX1 k t5 u5rNa u5rMo u5rWa u5rDe u5Pe u5Da u5Dr u5Na u5Mo u5Wa u5De ++ (wX1 k t6 u6rNa u6rMo u6rWa u6rDe u6Pe_26 u6Da_27 u6Dr_28 u6Na_29 u6Mo_30 u6Wa_31 u6De_32 ++ (wX1 k t7 u7rNa u7rMo u7rWa u7rDe u7Pe_33 u7Da_34 u7Dr_35 u7Na_36 u7Mo_37 u7Wa_38 u7De_39 ++ (wX1 k t8 u8rNa u8rMo u8rWa u8rDe u8Pe_40 u8Da_41 u8Dr_42 u8Na_43 u8Mo_44 u8Wa_45 u8De_46))))))))))) → lv_has ls 10 [(5, .long v5_25)] → W p l e rmX2_weighed_5 s m args below meth c H locs 0 0 Q (F0 m 128 ls []) := by
      intro u6Pe_26 u6Da_27 u6Dr_28 u6Na_29 u6Mo_30 u6Wa_31 u6De_32 u7Pe_33 u7Da_34 u7Dr_35 u7Na_36 u7Mo_37 u7Wa_38 u7De_39 u8Pe_40 u8Da_41 u8Dr_42 u8Na_43 u8Mo_44 u8Wa_45 u8De_46 H locs ls hw hl
      refine lv_lload hx hb dX2_weighed_128 (lv_at hl 0 rfl) ?_
      cases h
      exact k_jlret (j := (fun i => List.getD [u6Pe_26, u6Da_27, u6Dr_28, u7Pe_33, u7Da_34, u7Dr_35, u8Pe_40, u8Da_41, u8Dr_42] i 0, fun i => List.getD [u6Na_29, u6Mo_30, u6Wa_31, u6De_32, u7Na_36, u7Mo_37, u7Wa_38, u7De_39, u8Na_43, u8Mo_44, u8Wa_45, u8De_46] i (fun _ => 0))) hx hb hr hlocks hw rfl dX2_weighed_130 hQ
    clear h
    have LP_44 : ∀ (n : Nat) (v5_2 : Int64) (v8_3 : Int32), f_X2_weighed_5_L44 u5Pe u5Da u5Dr u5Na u5Mo u5Wa u5De p2 p3 p4 n v5_2 v8_3 = some v5_25 → ∀ (u6Pe_4 : Int32) (u6Da_5 : Int32) (u6Dr_6 : Int32) (u6Na_7 : (Nat → Int32)) (u6Mo_8 : (Nat → Int32)) (u6Wa_9 : (Nat → Int32)) (u6De_10 : (Nat → Int32)) (u7Pe_11 : Int32) (u7Da_12 : Int32) (u7Dr_13 : Int32) (u7Na_14 : (Nat → Int32)) (u7Mo_15 : (Nat → Int32)) (u7Wa_16 : (Nat → Int32)) (u7De_17 : (Nat → Int32)) (u8Pe_18 : Int32) (u8Da_19 : Int32) (u8Dr_20 : Int32) (u8Na_21 : (Nat → Int32)) (u8Mo_22 : (Nat → Int32)) (u8Wa_23 : (Nat → Int32)) (u8De_24 : (Nat → Int32)) (H : Heap) (locs : List Loc) (ls : Array Slot), Wd D A s.heap H locs (wX2 k xh xaA ++ (wOA k xaA t0 t1 t2 t3 t4 t5 t6 t7 t8 ++ (wX1 k t0 u0rNa u0rMo u0rWa u0rDe u0Pe u0Da u0Dr u0Na u0Mo u0Wa u0De ++ (wX1 k t1 u1rNa u1rMo u1rWa u1rDe u1Pe u1Da u1Dr u1Na u1Mo u1Wa u1De ++ (wX1 k t2 u2rNa u2rMo u2rWa u2rDe u2Pe u2Da u2Dr u2Na u2Mo u2Wa u2De ++ (wX1 k t3 u3rNa u3rMo u3rWa u3rDe u3Pe u3Da u3Dr u3Na u3Mo u3Wa u3De ++ (wX1 k t4 u4rNa u4rMo u4rWa u4rDe u4Pe u4Da u4Dr u4Na u4Mo u4Wa u4De ++ (wX1 k t5 u5rNa u5rMo u5rWa u5rDe u5Pe u5Da u5Dr u5Na u5Mo u5Wa u5De ++ (wX1 k t6 u6rNa u6rMo u6rWa u6rDe u6Pe_4 u6Da_5 u6Dr_6 u6Na_7 u6Mo_8 u6Wa_9 u6De_10 ++ (wX1 k t7 u7rNa u7rMo u7rWa u7rDe u7Pe_11 u7Da_12 u7Dr_13 u7Na_14 u7Mo_15 u7Wa_16 u7De_17 ++ (wX1 k t8 u8rNa u8rMo u8rWa u8rDe u8Pe_18 u8Da_19 u8Dr_20 u8Na_21 u8Mo_22 u8Wa_23 u8De_24))))))))))) → lv_has ls 10 [(0, .ref xh), (1, .int 5), (2, .int p2), (3, .int p3), (4, .int p4), (5, .long v5_2), (7, .ref t6), (8, .int v8_3)] → W p l e rmX2_weighed_5 s m args below meth c H locs 0 0 Q (F0 m 44 ls []) := by
      clear hL_44 hw hl
      intro n
      induction n with
      | zero => intro v5_2 v8_3 h; rw [f_X2_weighed_5_L44] at h; cases h
      | succ n ih =>
        intro v5_2 v8_3 h u6Pe_4 u6Da_5 u6Dr_6 u6Na_7 u6Mo_8 u6Wa_9 u6De_10 u7Pe_11 u7Da_12 u7Dr_13 u7Na_14 u7Mo_15 u7Wa_16 u7De_17 u8Pe_18 u8Da_19 u8Dr_20 u8Na_21 u8Mo_22 u8Wa_23 u8De_24 H locs ls hw hl
        rw [f_X2_weighed_5_L44] at h
        refine lv_iload hx hb dX2_weighed_44 (lv_at hl 7 rfl) ?_
        refine lv_iconst (v := 2) hx hb dX2_weighed_46 (by decide) ?_
        refine kb_icmp_ge (tgt := 128) hx hb dX2_weighed_47 (by decide) h (fun c_47 h => ?_) (fun c_47 h => ?_)
        · cases h
          exact X_44 _ _ _ _ _ _ _ _ _ _ _ _ _ _ _ _ _ _ _ _ _ _ _ _ hw (lv_sub hl [5] rfl)
        · refine lv_iload hx hb dX2_weighed_50 (lv_at hl 7 rfl) ?_
          obtain ⟨t_47, hj_52, h⟩ := b1_inv h
          have J_52 : ∀ (H : Heap) (locs : List Loc) (ls : Array Slot), Wd D A s.heap H locs (wX2 k xh xaA ++ (wOA k xaA t0 t1 t2 t3 t4 t5 t6 t7 t8 ++ (wX1 k t0 u0rNa u0rMo u0rWa u0rDe u0Pe u0Da u0Dr u0Na u0Mo u0Wa u0De ++ (wX1 k t1 u1rNa u1rMo u1rWa u1rDe u1Pe u1Da u1Dr u1Na u1Mo u1Wa u1De ++ (wX1 k t2 u2rNa u2rMo u2rWa u2rDe u2Pe u2Da u2Dr u2Na u2Mo u2Wa u2De ++ (wX1 k t3 u3rNa u3rMo u3rWa u3rDe u3Pe u3Da u3Dr u3Na u3Mo u3Wa u3De ++ (wX1 k t4 u4rNa u4rMo u4rWa u4rDe u4Pe u4Da u4Dr u4Na u4Mo u4Wa u4De ++ (wX1 k t5 u5rNa u5rMo u5rWa u5rDe u5Pe u5Da u5Dr u5Na u5Mo u5Wa u5De ++ (wX1 k t6 u6rNa u6rMo u6rWa u6rDe u6Pe_4 u6Da_5 u6Dr_6 u6Na_7 u6Mo_8 u6Wa_9 u6De_10 ++ (wX1 k t7 u7rNa u7rMo u7rWa u7rDe u7Pe_11 u7Da_12 u7Dr_13 u7Na_14 u7Mo_15 u7Wa_16 u7De_17 ++ (wX1 k t8 u8rNa u8rMo u8rWa u8rDe u8Pe_18 u8Da_19 u8Dr_20 u8Na_21 u8Mo_22 u8Wa_23 u8De_24))))))))))) → lv_has ls 10 [(0, .ref xh), (1, .int 5), (2, .int p2), (3, .int p3), (4, .int p4), (5, .long v5_2), (7, .ref t6), (8, .int v8_3)] → W p l e rmX2_weighed_5 s m args below meth c H locs 0 0 Q (F0 m 63 ls [.int t_47]) := by
            intro H locs ls hw hl
            refine lv_istore (lv' := [(9, .int t_47), (0, .ref xh), (1, .int 5), (2, .int p2), (3, .int p3), (4, .int p4), (5, .long v5_2), (7, .ref t6), (8, .int v8_3)]) hx hb dX2_weighed_63 hl (by decide) rfl (fun ls hl => ?_)
            refine lv_iload hx hb dX2_weighed_65 (lv_at hl 0 rfl) ?_
            refine kb_if_le (tgt := 122) hx hb dX2_weighed_67 (by decide) h (fun c_67 h => ?_) (fun c_67 h => ?_)
            · refine lv_iinc (v := v8_3 + 1) (lv' := [(8, .int (v8_3 + 1)), (9, .int t_47), (0, .ref xh), (1, .int 5), (2, .int p2), (3, .int p3), (4, .int p4), (5, .long v5_2), (7, .ref t6)]) hx hb dX2_weighed_122 hl (k := 8) rfl rfl (by decide) rfl (fun ls hl => ?_)
              refine lv_goto (tgt := 44) hx hb dX2_weighed_125 (by decide) ?_
              exact ih _ _ h _ _ _ _ _ _ _ _ _ _ _ _ _ _ _ _ _ _ _ _ _ _ _ _ hw (lv_sub hl [2, 3, 4, 5, 6, 7, 8, 0] rfl)
            · refine lv_aload hx hb dX2_weighed_70 (lv_at hl 7 rfl) ?_
              refine lv_aload_n hx hb dX2_weighed_72 rfl (lv_at hl 1 rfl) ?_
              refine va_get (ci := 2) (v := .ref xaA) (C := RX2) (T := TX2) (N := 1) hx hb hts hinX2 hown hK.1 hw.1 0 rfl rfl 0 (by decide) q_1 (fun _ h9 => h9) rfl dX2_weighed_73 ?_
              refine lv_iload_n hx hb dX2_weighed_76 rfl (lv_at hl 2 rfl) ?_
              refine k_aald hx hb hK hw 1 3 (j := 5) (a' := t5) rfl rfl rfl (by unfold vp_in; decide) rfl dX2_weighed_77 ?_
              obtain ⟨u6Pe_48, u6Da_49, u6Dr_50, u6Na_51, u6Mo_52, u6Wa_53, u6De_54, hf, h⟩ := b7_inv h
              refine k_callV (host := "") fx hK hA hw (c_X1_become l D k t6 u6rNa u6rMo u6rWa u6rDe t5 u5rNa u5rMo u5rWa u5rDe _ u6Pe_4 u6Da_5 u6Dr_6 u6Na_7 u6Mo_8 u6Wa_9 u6De_10 u5Pe u5Da u5Dr u5Na u5Mo u5Wa u5De u6Pe_48 u6Da_49 u6Dr_50 u6Na_51 u6Mo_52 u6Wa_53 u6De_54 hf) (cwV 1 hts gX2_weighed_X1_become rfl rfl rfl (by decide +kernel) ⟨by decide, by decide⟩) (As := [.ref t5]) (wr := [(xh, .inr (2, [.ref xaA])), (xaA, .inl (k 3, 9, .inr (.inr (.inr (.inr (rl [t0, t1, t2, t3, t4, t5, t6, t7, t8])))))), (t0, .inr (1, [.int u0Pe, .int u0Da, .int u0Dr, .ref u0rNa, .ref u0rMo, .ref u0rWa, .ref u0rDe])), (u0rNa, .inl (k 0, 5, .inl u0Na)), (u0rMo, .inl (k 0, 5, .inl u0Mo)), (u0rWa, .inl (k 0, 5, .inl u0Wa)), (u0rDe, .inl (k 0, 25, .inl u0De)), (t1, .inr (1, [.int u1Pe, .int u1Da, .int u1Dr, .ref u1rNa, .ref u1rMo, .ref u1rWa, .ref u1rDe])), (u1rNa, .inl (k 0, 5, .inl u1Na)), (u1rMo, .inl (k 0, 5, .inl u1Mo)), (u1rWa, .inl (k 0, 5, .inl u1Wa)), (u1rDe, .inl (k 0, 25, .inl u1De)), (t2, .inr (1, [.int u2Pe, .int u2Da, .int u2Dr, .ref u2rNa, .ref u2rMo, .ref u2rWa, .ref u2rDe])), (u2rNa, .inl (k 0, 5, .inl u2Na)), (u2rMo, .inl (k 0, 5, .inl u2Mo)), (u2rWa, .inl (k 0, 5, .inl u2Wa)), (u2rDe, .inl (k 0, 25, .inl u2De)), (t3, .inr (1, [.int u3Pe, .int u3Da, .int u3Dr, .ref u3rNa, .ref u3rMo, .ref u3rWa, .ref u3rDe])), (u3rNa, .inl (k 0, 5, .inl u3Na)), (u3rMo, .inl (k 0, 5, .inl u3Mo)), (u3rWa, .inl (k 0, 5, .inl u3Wa)), (u3rDe, .inl (k 0, 25, .inl u3De)), (t4, .inr (1, [.int u4Pe, .int u4Da, .int u4Dr, .ref u4rNa, .ref u4rMo, .ref u4rWa, .ref u4rDe])), (u4rNa, .inl (k 0, 5, .inl u4Na)), (u4rMo, .inl (k 0, 5, .inl u4Mo)), (u4rWa, .inl (k 0, 5, .inl u4Wa)), (u4rDe, .inl (k 0, 25, .inl u4De)), (t7, .inr (1, [.int u7Pe_11, .int u7Da_12, .int u7Dr_13, .ref u7rNa, .ref u7rMo, .ref u7rWa, .ref u7rDe])), (u7rNa, .inl (k 0, 5, .inl u7Na_14)), (u7rMo, .inl (k 0, 5, .inl u7Mo_15)), (u7rWa, .inl (k 0, 5, .inl u7Wa_16)), (u7rDe, .inl (k 0, 25, .inl u7De_17)), (t8, .inr (1, [.int u8Pe_18, .int u8Da_19, .int u8Dr_20, .ref u8rNa, .ref u8rMo, .ref u8rWa, .ref u8rDe])), (u8rNa, .inl (k 0, 5, .inl u8Na_21)), (u8rMo, .inl (k 0, 5, .inl u8Mo_22)), (u8rWa, .inl (k 0, 5, .inl u8Wa_23)), (u8rDe, .inl (k 0, 25, .inl u8De_24))]) (ws' := wX2 k xh xaA ++ (wOA k xaA t0 t1 t2 t3 t4 t5 t6 t7 t8 ++ (wX1 k t0 u0rNa u0rMo u0rWa u0rDe u0Pe u0Da u0Dr u0Na u0Mo u0Wa u0De ++ (wX1 k t1 u1rNa u1rMo u1rWa u1rDe u1Pe u1Da u1Dr u1Na u1Mo u1Wa u1De ++ (wX1 k t2 u2rNa u2rMo u2rWa u2rDe u2Pe u2Da u2Dr u2Na u2Mo u2Wa u2De ++ (wX1 k t3 u3rNa u3rMo u3rWa u3rDe u3Pe u3Da u3Dr u3Na u3Mo u3Wa u3De ++ (wX1 k t4 u4rNa u4rMo u4rWa u4rDe u4Pe u4Da u4Dr u4Na u4Mo u4Wa u4De ++ (wX1 k t5 u5rNa u5rMo u5rWa u5rDe u5Pe u5Da u5Dr u5Na u5Mo u5Wa u5De ++ (wX1 k t6 u6rNa u6rMo u6rWa u6rDe u6Pe_48 u6Da_49 u6Dr_50 u6Na_51 u6Mo_52 u6Wa_53 u6De_54 ++ (wX1 k t7 u7rNa u7rMo u7rWa u7rDe u7Pe_11 u7Da_12 u7Dr_13 u7Na_14 u7Mo_15 u7Wa_16 u7De_17 ++ (wX1 k t8 u8rNa u8rMo u8rWa u8rDe u8Pe_18 u8Da_19 u8Dr_20 u8Na_21 u8Mo_22 u8Wa_23 u8De_24))))))))))) [32, 33, 34, 35, 36, 27, 28, 29, 30, 31] [0, 1, 2, 3, 4, 5, 6, 7, 8, 9, 10, 11, 12, 13, 14, 15, 16, 17, 18, 19, 20, 21, 22, 23, 24, 25, 26, 37, 38, 39, 40, 41, 42, 43, 44, 45, 46] [0, 1, 2, 3, 4, 5, 6, 7, 8, 9, 10, 11, 12, 13, 14, 15, 16, 17, 18, 19, 20, 21, 22, 23, 24, 25, 26, 42, 43, 44, 45, 46, 37, 38, 39, 40, 41, 27, 28, 29, 30, 31, 32, 33, 34, 35, 36] rfl rfl (by decide) (by decide) (by decide) rfl (by decide) 1 rfl rfl [] rfl hl.1 rfl (Nat.le_of_ble_eq_true rfl) dX2_weighed_78 ⟨by decide, by decide⟩ (fun H locs (hw : Wd D A s.heap H locs (wX2 k xh xaA ++ (wOA k xaA t0 t1 t2 t3 t4 t5 t6 t7 t8 ++ (wX1 k t0 u0rNa u0rMo u0rWa u0rDe u0Pe u0Da u0Dr u0Na u0Mo u0Wa u0De ++ (wX1 k t1 u1rNa u1rMo u1rWa u1rDe u1Pe u1Da u1Dr u1Na u1Mo u1Wa u1De ++ (wX1 k t2 u2rNa u2rMo u2rWa u2rDe u2Pe u2Da u2Dr u2Na u2Mo u2Wa u2De ++ (wX1 k t3 u3rNa u3rMo u3rWa u3rDe u3Pe u3Da u3Dr u3Na u3Mo u3Wa u3De ++ (wX1 k t4 u4rNa u4rMo u4rWa u4rDe u4Pe u4Da u4Dr u4Na u4Mo u4Wa u4De ++ (wX1 k t5 u5rNa u5rMo u5rWa u5rDe u5Pe u5Da u5Dr u5Na u5Mo u5Wa u5De ++ (wX1 k t6 u6rNa u6rMo u6rWa u6rDe u6Pe_48 u6Da_49 u6Dr_50 u6Na_51 u6Mo_52 u6Wa_53 u6De_54 ++ (wX1 k t7 u7rNa u7rMo u7rWa u7rDe u7Pe_11 u7Da_12 u7Dr_13 u7Na_14 u7Mo_15 u7Wa_16 u7De_17 ++ (wX1 k t8 u8rNa u8rMo u8rWa u8rDe u8Pe_18 u8Da_19 u8Dr_20 u8Na_21 u8Mo_22 u8Wa_23 u8De_24)))))))))))) => ?_)
              refine W.eq (g2 := F0 m 81 ls ([])) rfl ?_
              refine lv_aload hx hb dX2_weighed_81 (lv_at hl 7 rfl) ?_
              refine lv_iload hx hb dX2_weighed_83 (lv_at hl 8 rfl) ?_
              obtain ⟨t_55, hj_85, h⟩ := b1_inv h
              have J_85 : ∀ (H : Heap) (locs : List Loc) (ls : Array Slot), Wd D A s.heap H locs (wX2 k xh xaA ++ (wOA k xaA t0 t1 t2 t3 t4 t5 t6 t7 t8 ++ (wX1 k t0 u0rNa u0rMo u0rWa u0rDe u0Pe u0Da u0Dr u0Na u0Mo u0Wa u0De ++ (wX1 k t1 u1rNa u1rMo u1rWa u1rDe u1Pe u1Da u1Dr u1Na u1Mo u1Wa u1De ++ (wX1 k t2 u2rNa u2rMo u2rWa u2rDe u2Pe u2Da u2Dr u2Na u2Mo u2Wa u2De ++ (wX1 k t3 u3rNa u3rMo u3rWa u3rDe u3Pe u3Da u3Dr u3Na u3Mo u3Wa u3De ++ (wX1 k t4 u4rNa u4rMo u4rWa u4rDe u4Pe u4Da u4Dr u4Na u4Mo u4Wa u4De ++ (wX1 k t5 u5rNa u5rMo u5rWa u5rDe u5Pe u5Da u5Dr u5Na u5Mo u5Wa u5De ++ (wX1 k t6 u6rNa u6rMo u6rWa u6rDe u6Pe_48 u6Da_49 u6Dr_50 u6Na_51 u6Mo_52 u6Wa_53 u6De_54 ++ (wX1 k t7 u7rNa u7rMo u7rWa u7rDe u7Pe_11 u7Da_12 u7Dr_13 u7Na_14 u7Mo_15 u7Wa_16 u7De_17 ++ (wX1 k t8 u8rNa u8rMo u8rWa u8rDe u8Pe_18 u8Da_19 u8Dr_20 u8Na_21 u8Mo_22 u8Wa_23 u8De_24))))))))))) → lv_has ls 10 [(0, .ref xh), (1, .int 5), (2, .int p2), (3, .int p3), (4, .int p4), (5, .long v5_2), (7, .ref t6), (8, .int v8_3), (9, .int t_47)] → W p l e rmX2_weighed_5 s m args below meth c H locs 0 0 Q (F0 m 98 ls [.int t_55, .ref t6]) := by
                intro H locs ls hw hl
                obtain ⟨r_56, u6Da_57, u6Mo_58, u6De_59, hf, h⟩ := b4_inv h
                refine k_callV (host := "") fx hK hA hw (c_X1_runDay l D k t6 u6rNa u6rMo u6rWa u6rDe _ u6Pe_48 u6Da_49 u6Dr_50 u6Na_51 u6Mo_52 u6Wa_53 u6De_54 t_55 r_56 u6Da_57 u6Mo_58 u6De_59 hf) (cwV 1 hts gX2_weighed_X1_runDay rfl rfl rfl (by decide +kernel) ⟨by decide, by decide⟩) (As := [.int t_55]) (wr := [(xh, .inr (2, [.ref xaA])), (xaA, .inl (k 3, 9, .inr (.inr (.inr (.inr (rl [t0, t1, t2, t3, t4, t5, t6, t7, t8])))))), (t0, .inr (1, [.int u0Pe, .int u0Da, .int u0Dr, .ref u0rNa, .ref u0rMo, .ref u0rWa, .ref u0rDe])), (u0rNa, .inl (k 0, 5, .inl u0Na)), (u0rMo, .inl (k 0, 5, .inl u0Mo)), (u0rWa, .inl (k 0, 5, .inl u0Wa)), (u0rDe, .inl (k 0, 25, .inl u0De)), (t1, .inr (1, [.int u1Pe, .int u1Da, .int u1Dr, .ref u1rNa, .ref u1rMo, .ref u1rWa, .ref u1rDe])), (u1rNa, .inl (k 0, 5, .inl u1Na)), (u1rMo, .inl (k 0, 5, .inl u1Mo)), (u1rWa, .inl (k 0, 5, .inl u1Wa)), (u1rDe, .inl (k 0, 25, .inl u1De)), (t2, .inr (1, [.int u2Pe, .int u2Da, .int u2Dr, .ref u2rNa, .ref u2rMo, .ref u2rWa, .ref u2rDe])), (u2rNa, .inl (k 0, 5, .inl u2Na)), (u2rMo, .inl (k 0, 5, .inl u2Mo)), (u2rWa, .inl (k 0, 5, .inl u2Wa)), (u2rDe, .inl (k 0, 25, .inl u2De)), (t3, .inr (1, [.int u3Pe, .int u3Da, .int u3Dr, .ref u3rNa, .ref u3rMo, .ref u3rWa, .ref u3rDe])), (u3rNa, .inl (k 0, 5, .inl u3Na)), (u3rMo, .inl (k 0, 5, .inl u3Mo)), (u3rWa, .inl (k 0, 5, .inl u3Wa)), (u3rDe, .inl (k 0, 25, .inl u3De)), (t4, .inr (1, [.int u4Pe, .int u4Da, .int u4Dr, .ref u4rNa, .ref u4rMo, .ref u4rWa, .ref u4rDe])), (u4rNa, .inl (k 0, 5, .inl u4Na)), (u4rMo, .inl (k 0, 5, .inl u4Mo)), (u4rWa, .inl (k 0, 5, .inl u4Wa)), (u4rDe, .inl (k 0, 25, .inl u4De)), (t5, .inr (1, [.int u5Pe, .int u5Da, .int u5Dr, .ref u5rNa, .ref u5rMo, .ref u5rWa, .ref u5rDe])), (u5rNa, .inl (k 0, 5, .inl u5Na)), (u5rMo, .inl (k 0, 5, .inl u5Mo)), (u5rWa, .inl (k 0, 5, .inl u5Wa)), (u5rDe, .inl (k 0, 25, .inl u5De)), (t7, .inr (1, [.int u7Pe_11, .int u7Da_12, .int u7Dr_13, .ref u7rNa, .ref u7rMo, .ref u7rWa, .ref u7rDe])), (u7rNa, .inl (k 0, 5, .inl u7Na_14)), (u7rMo, .inl (k 0, 5, .inl u7Mo_15)), (u7rWa, .inl (k 0, 5, .inl u7Wa_16)), (u7rDe, .inl (k 0, 25, .inl u7De_17)), (t8, .inr (1, [.int u8Pe_18, .int u8Da_19, .int u8Dr_20, .ref u8rNa, .ref u8rMo, .ref u8rWa, .ref u8rDe])), (u8rNa, .inl (k 0, 5, .inl u8Na_21)), (u8rMo, .inl (k 0, 5, .inl u8Mo_22)), (u8rWa, .inl (k 0, 5, .inl u8Wa_23)), (u8rDe, .inl (k 0, 25, .inl u8De_24))]) (ws' := wX2 k xh xaA ++ (wOA k xaA t0 t1 t2 t3 t4 t5 t6 t7 t8 ++ (wX1 k t0 u0rNa u0rMo u0rWa u0rDe u0Pe u0Da u0Dr u0Na u0Mo u0Wa u0De ++ (wX1 k t1 u1rNa u1rMo u1rWa u1rDe u1Pe u1Da u1Dr u1Na u1Mo u1Wa u1De ++ (wX1 k t2 u2rNa u2rMo u2rWa u2rDe u2Pe u2Da u2Dr u2Na u2Mo u2Wa u2De ++ (wX1 k t3 u3rNa u3rMo u3rWa u3rDe u3Pe u3Da u3Dr u3Na u3Mo u3Wa u3De ++ (wX1 k t4 u4rNa u4rMo u4rWa u4rDe u4Pe u4Da u4Dr u4Na u4Mo u4Wa u4De ++ (wX1 k t5 u5rNa u5rMo u5rWa u5rDe u5Pe u5Da u5Dr u5Na u5Mo u5Wa u5De ++ (wX1 k t6 u6rNa u6rMo u6rWa u6rDe u6Pe_48 u6Da_57 u6Dr_50 u6Na_51 u6Mo_58 u6Wa_53 u6De_59 ++ (wX1 k t7 u7rNa u7rMo u7rWa u7rDe u7Pe_11 u7Da_12 u7Dr_13 u7Na_14 u7Mo_15 u7Wa_16 u7De_17 ++ (wX1 k t8 u8rNa u8rMo u8rWa u8rDe u8Pe_18 u8Da_19 u8Dr_20 u8Na_21 u8Mo_22 u8Wa_23 u8De_24))))))))))) [32, 33, 34, 35, 36] [0, 1, 2, 3, 4, 5, 6, 7, 8, 9, 10, 11, 12, 13, 14, 15, 16, 17, 18, 19, 20, 21, 22, 23, 24, 25, 26, 27, 28, 29, 30, 31, 37, 38, 39, 40, 41, 42, 43, 44, 45, 46] [0, 1, 2, 3, 4, 5, 6, 7, 8, 9, 10, 11, 12, 13, 14, 15, 16, 17, 18, 19, 20, 21, 22, 23, 24, 25, 26, 27, 28, 29, 30, 31, 42, 43, 44, 45, 46, 32, 33, 34, 35, 36, 37, 38, 39, 40, 41] rfl rfl (by decide) (by decide) (by decide) rfl (by decide) 1 rfl rfl [] rfl hl.1 rfl (Nat.le_of_ble_eq_true rfl) dX2_weighed_98 ⟨by decide, by decide⟩ (fun H locs (hw : Wd D A s.heap H locs (wX2 k xh xaA ++ (wOA k xaA t0 t1 t2 t3 t4 t5 t6 t7 t8 ++ (wX1 k t0 u0rNa u0rMo u0rWa u0rDe u0Pe u0Da u0Dr u0Na u0Mo u0Wa u0De ++ (wX1 k t1 u1rNa u1rMo u1rWa u1rDe u1Pe u1Da u1Dr u1Na u1Mo u1Wa u1De ++ (wX1 k t2 u2rNa u2rMo u2rWa u2rDe u2Pe u2Da u2Dr u2Na u2Mo u2Wa u2De ++ (wX1 k t3 u3rNa u3rMo u3rWa u3rDe u3Pe u3Da u3Dr u3Na u3Mo u3Wa u3De ++ (wX1 k t4 u4rNa u4rMo u4rWa u4rDe u4Pe u4Da u4Dr u4Na u4Mo u4Wa u4De ++ (wX1 k t5 u5rNa u5rMo u5rWa u5rDe u5Pe u5Da u5Dr u5Na u5Mo u5Wa u5De ++ (wX1 k t6 u6rNa u6rMo u6rWa u6rDe u6Pe_48 u6Da_57 u6Dr_50 u6Na_51 u6Mo_58 u6Wa_53 u6De_59 ++ (wX1 k t7 u7rNa u7rMo u7rWa u7rDe u7Pe_11 u7Da_12 u7Dr_13 u7Na_14 u7Mo_15 u7Wa_16 u7De_17 ++ (wX1 k t8 u8rNa u8rMo u8rWa u8rDe u8Pe_18 u8Da_19 u8Dr_20 u8Na_21 u8Mo_22 u8Wa_23 u8De_24)))))))))))) => ?_)
                refine W.eq (g2 := F0 m 101 ls ([.int r_56])) rfl ?_
                refine lv_pop hx hb dX2_weighed_101 rfl ?_
                refine lv_lload hx hb dX2_weighed_102 (lv_at hl 5 rfl) ?_
                refine lv_iload hx hb dX2_weighed_104 (lv_at hl 8 rfl) ?_
                refine lv_i2l hx hb dX2_weighed_106 rfl ?_
                refine lv_aload_n hx hb dX2_weighed_107 rfl (lv_at hl 0 rfl) ?_
                refine lv_iload_n hx hb dX2_weighed_108 rfl (lv_at hl 1 rfl) ?_
                refine lv_iconst (v := 1) hx hb dX2_weighed_109 (by decide) ?_
                refine lv_iadd hx hb dX2_weighed_110 ?_
                refine k_lit (y := 6) (by decide) ?_
                refine lv_iload_n hx hb dX2_weighed_111 rfl (lv_at hl 2 rfl) ?_
                refine lv_iload_n hx hb dX2_weighed_112 rfl (lv_at hl 3 rfl) ?_
                refine lv_iload hx hb dX2_weighed_113 (lv_at hl 4 rfl) ?_
                obtain ⟨r_60, hf, h⟩ := b1_inv h
                refine k_callVJ fx hK hA hw (c_X2_weighed_6 l D k xh xaA t0 t1 t2 t3 t4 t5 t6 t7 t8 u0rNa u0rMo u0rWa u0rDe u1rNa u1rMo u1rWa u1rDe u2rNa u2rMo u2rWa u2rDe u3rNa u3rMo u3rWa u3rDe u4rNa u4rMo u4rWa u4rDe u5rNa u5rMo u5rWa u5rDe u6rNa u6rMo u6rWa u6rDe u7rNa u7rMo u7rWa u7rDe u8rNa u8rMo u8rWa u8rDe _ u0Pe u0Da u0Dr u0Na u0Mo u0Wa u0De u1Pe u1Da u1Dr u1Na u1Mo u1Wa u1De u2Pe u2Da u2Dr u2Na u2Mo u2Wa u2De u3Pe u3Da u3Dr u3Na u3Mo u3Wa u3De u4Pe u4Da u4Dr u4Na u4Mo u4Wa u4De u5Pe u5Da u5Dr u5Na u5Mo u5Wa u5De u6Pe_48 u6Da_57 u6Dr_50 u6Na_51 u6Mo_58 u6Wa_53 u6De_59 u7Pe_11 u7Da_12 u7Dr_13 u7Na_14 u7Mo_15 u7Wa_16 u7De_17 u8Pe_18 u8Da_19 u8Dr_20 u8Na_21 u8Mo_22 u8Wa_23 u8De_24 p2 p3 p4 r_60 hf) (cwV 4 hts gX2_weighed_X2_weighed rfl rfl rfl (by decide +kernel) ⟨by decide, by decide⟩) (As := [.int 6, .int p2, .int p3, .int p4]) (wr := []) (ws' := fun j_61 => wX2 k xh xaA ++ (wOA k xaA t0 t1 t2 t3 t4 t5 t6 t7 t8 ++ (wX1 k t0 u0rNa u0rMo u0rWa u0rDe u0Pe u0Da u0Dr u0Na u0Mo u0Wa u0De ++ (wX1 k t1 u1rNa u1rMo u1rWa u1rDe u1Pe u1Da u1Dr u1Na u1Mo u1Wa u1De ++ (wX1 k t2 u2rNa u2rMo u2rWa u2rDe u2Pe u2Da u2Dr u2Na u2Mo u2Wa u2De ++ (wX1 k t3 u3rNa u3rMo u3rWa u3rDe u3Pe u3Da u3Dr u3Na u3Mo u3Wa u3De ++ (wX1 k t4 u4rNa u4rMo u4rWa u4rDe u4Pe u4Da u4Dr u4Na u4Mo u4Wa u4De ++ (wX1 k t5 u5rNa u5rMo u5rWa u5rDe u5Pe u5Da u5Dr u5Na u5Mo u5Wa u5De ++ (wX1 k t6 u6rNa u6rMo u6rWa u6rDe u6Pe_48 u6Da_57 u6Dr_50 u6Na_51 u6Mo_58 u6Wa_53 u6De_59 ++ (wX1 k t7 u7rNa u7rMo u7rWa u7rDe (j_61.1 0) (j_61.1 1) (j_61.1 2) (j_61.2 0) (j_61.2 1) (j_61.2 2) (j_61.2 3) ++ (wX1 k t8 u8rNa u8rMo u8rWa u8rDe (j_61.1 3) (j_61.1 4) (j_61.1 5) (j_61.2 4) (j_61.2 5) (j_61.2 6) (j_61.2 7)))))))))))) [0, 1, 2, 3, 4, 5, 6, 7, 8, 9, 10, 11, 12, 13, 14, 15, 16, 17, 18, 19, 20, 21, 22, 23, 24, 25, 26, 27, 28, 29, 30, 31, 32, 33, 34, 35, 36, 37, 38, 39, 40, 41, 42, 43, 44, 45, 46] [] [0, 1, 2, 3, 4, 5, 6, 7, 8, 9, 10, 11, 12, 13, 14, 15, 16, 17, 18, 19, 20, 21, 22, 23, 24, 25, 26, 27, 28, 29, 30, 31, 32, 33, 34, 35, 36, 37, 38, 39, 40, 41, 42, 43, 44, 45, 46] rfl rfl (by decide) (by decide) (by decide) (fun _ => rfl) (by decide) 2 rfl rfl [.long t_47.toInt64, .long v5_2] rfl hl.1 rfl (Nat.le_of_ble_eq_true rfl) dX2_weighed_115 ⟨by decide, by decide⟩ (fun j_61 H locs (hw : Wd D A s.heap H locs (wX2 k xh xaA ++ (wOA k xaA t0 t1 t2 t3 t4 t5 t6 t7 t8 ++ (wX1 k t0 u0rNa u0rMo u0rWa u0rDe u0Pe u0Da u0Dr u0Na u0Mo u0Wa u0De ++ (wX1 k t1 u1rNa u1rMo u1rWa u1rDe u1Pe u1Da u1Dr u1Na u1Mo u1Wa u1De ++ (wX1 k t2 u2rNa u2rMo u2rWa u2rDe u2Pe u2Da u2Dr u2Na u2Mo u2Wa u2De ++ (wX1 k t3 u3rNa u3rMo u3rWa u3rDe u3Pe u3Da u3Dr u3Na u3Mo u3Wa u3De ++ (wX1 k t4 u4rNa u4rMo u4rWa u4rDe u4Pe u4Da u4Dr u4Na u4Mo u4Wa u4De ++ (wX1 k t5 u5rNa u5rMo u5rWa u5rDe u5Pe u5Da u5Dr u5Na u5Mo u5Wa u5De ++ (wX1 k t6 u6rNa u6rMo u6rWa u6rDe u6Pe_48 u6Da_57 u6Dr_50 u6Na_51 u6Mo_58 u6Wa_53 u6De_59 ++ (wX1 k t7 u7rNa u7rMo u7rWa u7rDe (j_61.1 0) (j_61.1 1) (j_61.1 2) (j_61.2 0) (j_61.2 1) (j_61.2 2) (j_61.2 3) ++ (wX1 k t8 u8rNa u8rMo u8rWa u8rDe (j_61.1 3) (j_61.1 4) (j_61.1 5) (j_61.2 4) (j_61.2 5) (j_61.2 6) (j_61.2 7))))))))))))) => ?_)
                refine W.eq (g2 := F0 m 118 ls ([.long r_60, .long t_47.toInt64, .long v5_2])) rfl ?_
                refine lv_lmul hx hb dX2_weighed_118 ?_
                refine lv_ladd hx hb dX2_weighed_119 ?_
                refine lv_lstore (lv' := [(5, .long (v5_2 + (t_47.toInt64 * r_60))), (0, .ref xh), (1, .int 5), (2, .int p2), (3, .int p3), (4, .int p4), (7, .ref t6), (8, .int v8_3), (9, .int t_47)]) hx hb dX2_weighed_120 hl (by decide) rfl (fun ls hl => ?_)
                refine lv_iinc (v := v8_3 + 1) (lv' := [(8, .int (v8_3 + 1)), (5, .long (v5_2 + (t_47.toInt64 * r_60))), (0, .ref xh), (1, .int 5), (2, .int p2), (3, .int p3), (4, .int p4), (7, .ref t6), (9, .int t_47)]) hx hb dX2_weighed_122 hl (k := 7) rfl rfl (by decide) rfl (fun ls hl => ?_)
                refine lv_goto (tgt := 44) hx hb dX2_weighed_125 (by decide) ?_
                exact ih _ _ h _ _ _ _ _ _ _ _ _ _ _ _ _ _ _ _ _ _ _ _ _ _ _ _ hw (lv_sub hl [2, 3, 4, 5, 6, 1, 7, 0] rfl)
              clear h
              have h := hj_85
              refine kb_if_ne (tgt := 93) hx hb dX2_weighed_85 (by decide) h (fun c_85 h => ?_) (fun c_85 h => ?_)
              · refine lv_bipush (v := 9) hx hb dX2_weighed_88 (by decide) ?_
                refine lv_goto (tgt := 98) hx hb dX2_weighed_90 (by decide) ?_
                cases h
                exact J_85 _ _ _ hw (lv_sub hl [1, 2, 3, 4, 5, 6, 7, 8, 0] rfl)
              · refine lv_aload hx hb dX2_weighed_93 (lv_at hl 7 rfl) ?_
                refine va_get (ci := 1) (v := .int u6Dr_50) (C := RX1) (T := TX1) (N := 7) hx hb hts hinX1 hown hK.1 hw.1 32 rfl rfl 2 (by decide) q_2 (fun _ h9 => h9) rfl dX2_weighed_95 ?_
                cases h
                exact J_85 _ _ _ hw (lv_sub hl [1, 2, 3, 4, 5, 6, 7, 8, 0] rfl)
          clear h
          have h := hj_52
          refine kb_if_ne (tgt := 59) hx hb dX2_weighed_52 (by decide) h (fun c_52 h => ?_) (fun c_52 h => ?_)
          · refine lv_iload_n hx hb dX2_weighed_55 rfl (lv_at hl 2 rfl) ?_
            refine lv_goto (tgt := 63) hx hb dX2_weighed_56 (by decide) ?_
            cases h
            exact J_52 _ _ _ hw (lv_sub hl [0, 1, 2, 3, 4, 5, 6, 7] rfl)
          · refine lv_bipush (v := 10) hx hb dX2_weighed_59 (by decide) ?_
            refine lv_iload_n hx hb dX2_weighed_61 rfl (lv_at hl 2 rfl) ?_
            refine lv_isub hx hb dX2_weighed_62 ?_
            cases h
            exact J_52 _ _ _ hw (lv_sub hl [0, 1, 2, 3, 4, 5, 6, 7] rfl)
    exact LP_44 400 0 0 hL_44 _ _ _ _ _ _ _ _ _ _ _ _ _ _ _ _ _ _ _ _ _ _ _ _ hw (lv_sub hl [3, 4, 5, 6, 7, 2, 1, 0] rfl)
abbrev rmX2_weighed_4 : Room := { frames := 7, cells := 0, slots := 0, locals := 182 }
set_option maxHeartbeats 4000000 in
set_option maxRecDepth 100000 in
theorem c_X2_weighed_4 (l : Launch) (D : va_G) (k : Nat → ClassId) (xh xaA t0 t1 t2 t3 t4 t5 t6 t7 t8 u0rNa u0rMo u0rWa u0rDe u1rNa u1rMo u1rWa u1rDe u2rNa u2rMo u2rWa u2rDe u3rNa u3rMo u3rWa u3rDe u4rNa u4rMo u4rWa u4rDe u5rNa u5rMo u5rWa u5rDe u6rNa u6rMo u6rWa u6rDe u7rNa u7rMo u7rWa u7rDe u8rNa u8rMo u8rWa u8rDe : Nat) (sz : Nat) (u0Pe : Int32) (u0Da : Int32) (u0Dr : Int32) (u0Na : (Nat → Int32)) (u0Mo : (Nat → Int32)) (u0Wa : (Nat → Int32)) (u0De : (Nat → Int32)) (u1Pe : Int32) (u1Da : Int32) (u1Dr : Int32) (u1Na : (Nat → Int32)) (u1Mo : (Nat → Int32)) (u1Wa : (Nat → Int32)) (u1De : (Nat → Int32)) (u2Pe : Int32) (u2Da : Int32) (u2Dr : Int32) (u2Na : (Nat → Int32)) (u2Mo : (Nat → Int32)) (u2Wa : (Nat → Int32)) (u2De : (Nat → Int32)) (u3Pe : Int32) (u3Da : Int32) (u3Dr : Int32) (u3Na : (Nat → Int32)) (u3Mo : (Nat → Int32)) (u3Wa : (Nat → Int32)) (u3De : (Nat → Int32)) (u4Pe : Int32) (u4Da : Int32) (u4Dr : Int32) (u4Na : (Nat → Int32)) (u4Mo : (Nat → Int32)) (u4Wa : (Nat → Int32)) (u4De : (Nat → Int32)) (u5Pe : Int32) (u5Da : Int32) (u5Dr : Int32) (u5Na : (Nat → Int32)) (u5Mo : (Nat → Int32)) (u5Wa : (Nat → Int32)) (u5De : (Nat → Int32)) (u6Pe : Int32) (u6Da : Int32) (u6Dr : Int32) (u6Na : (Nat → Int32)) (u6Mo : (Nat → Int32)) (u6Wa : (Nat → Int32)) (u6De : (Nat → Int32)) (u7Pe : Int32) (u7Da : Int32) (u7Dr : Int32) (u7Na : (Nat → Int32)) (u7Mo : (Nat → Int32)) (u7Wa : (Nat → Int32)) (u7De : (Nat → Int32)) (u8Pe : Int32) (u8Da : Int32) (u8Dr : Int32) (u8Na : (Nat → Int32)) (u8Mo : (Nat → Int32)) (u8Wa : (Nat → Int32)) (u8De : (Nat → Int32)) (p2 : Int32) (p3 : Int32) (p4 : Int32) (r_ : Int64) (hf : f_X2_weighed_4 u4Pe u4Da u4Dr u4Na u4Mo u4Wa u4De p2 p3 p4 = some r_) : mJ l yX2_weighed wsX2_weighed rmX2_weighed_4 D k sz [.ref xh, .int 4, .int p2, .int p3, .int p4] (wX2 k xh xaA ++ (wOA k xaA t0 t1 t2 t3 t4 t5 t6 t7 t8 ++ (wX1 k t0 u0rNa u0rMo u0rWa u0rDe u0Pe u0Da u0Dr u0Na u0Mo u0Wa u0De ++ (wX1 k t1 u1rNa u1rMo u1rWa u1rDe u1Pe u1Da u1Dr u1Na u1Mo u1Wa u1De ++ (wX1 k t2 u2rNa u2rMo u2rWa u2rDe u2Pe u2Da u2Dr u2Na u2Mo u2Wa u2De ++ (wX1 k t3 u3rNa u3rMo u3rWa u3rDe u3Pe u3Da u3Dr u3Na u3Mo u3Wa u3De ++ (wX1 k t4 u4rNa u4rMo u4rWa u4rDe u4Pe u4Da u4Dr u4Na u4Mo u4Wa u4De ++ (wX1 k t5 u5rNa u5rMo u5rWa u5rDe u5Pe u5Da u5Dr u5Na u5Mo u5Wa u5De ++ (wX1 k t6 u6rNa u6rMo u6rWa u6rDe u6Pe u6Da u6Dr u6Na u6Mo u6Wa u6De ++ (wX1 k t7 u7rNa u7rMo u7rWa u7rDe u7Pe u7Da u7Dr u7Na u7Mo u7Wa u7De ++ (wX1 k t8 u8rNa u8rMo u8rWa u8rDe u8Pe u8Da u8Dr u8Na u8Mo u8Wa u8De))))))))))) (fun j => wX2 k xh xaA ++ (wOA k xaA t0 t1 t2 t3 t4 t5 t6 t7 t8 ++ (wX1 k t0 u0rNa u0rMo u0rWa u0rDe u0Pe u0Da u0Dr u0Na u0Mo u0Wa u0De ++ (wX1 k t1 u1rNa u1rMo u1rWa u1rDe u1Pe u1Da u1Dr u1Na u1Mo u1Wa u1De ++ (wX1 k t2 u2rNa u2rMo u2rWa u2rDe u2Pe u2Da u2Dr u2Na u2Mo u2Wa u2De ++ (wX1 k t3 u3rNa u3rMo u3rWa u3rDe u3Pe u3Da u3Dr u3Na u3Mo u3Wa u3De ++ (wX1 k t4 u4rNa u4rMo u4rWa u4rDe u4Pe u4Da u4Dr u4Na u4Mo u4Wa u4De ++ (wX1 k t5 u5rNa u5rMo u5rWa u5rDe (j.1 0) (j.1 1) (j.1 2) (j.2 0) (j.2 1) (j.2 2) (j.2 3) ++ (wX1 k t6 u6rNa u6rMo u6rWa u6rDe (j.1 3) (j.1 4) (j.1 5) (j.2 4) (j.2 5) (j.2 6) (j.2 7) ++ (wX1 k t7 u7rNa u7rMo u7rWa u7rDe (j.1 6) (j.1 7) (j.1 8) (j.2 8) (j.2 9) (j.2 10) (j.2 11) ++ (wX1 k t8 u8rNa u8rMo u8rWa u8rDe (j.1 9) (j.1 10) (j.1 11) (j.2 12) (j.2 13) (j.2 14) (j.2 15)))))))))))) (some (.long r_)) := by
  refine mJ_of (cc := cX2_weighed) (maxL := 10) (ret := some .long) (by decide) rfl (Nat.le_of_ble_eq_true rfl) [(0, .ref xh), (1, .int 4), (2, .int p2), (3, .int p3), (4, .int p4)] rfl ?_
  intro p e s m below meth c A ls args Q cx hK hA hw hl hQ
  have fx := cx.1
  obtain ⟨⟨hx, hb, hml, hown, hts⟩, hr, hlocks⟩ := cx
  have hinX2 : ∀ w ∈ wsX20, w ∈ wsX2_weighed := fun w h => List.mem_cons_of_mem _ (List.mem_append_left _ (List.mem_append_right _ h))
  have hinX1 : ∀ w ∈ wsX10, w ∈ wsX2_weighed := fun w h => List.mem_cons_of_mem _ (List.mem_append_right _ h)
  have q_1 := hts (.fieldLink RX2 11 "DebtRides$Odds" "steps" "[LDebtRides$Land;") (List.mem_of_getElem? (i := 1) rfl)
  have q_2 := hts (.fieldLink RX2 41 "DebtRides$Land" "dryness" "I") (List.mem_of_getElem? (i := 2) rfl)
  have h := hf
  unfold f_X2_weighed_4 at h
  clear hf
  refine lv_iload_n hx hb dX2_weighed_0 rfl (lv_at hl 1 rfl) ?_
  refine lv_iload hx hb dX2_weighed_1 (lv_at hl 4 rfl) ?_
  have T_17 : f_X2_weighed_4_B17 u4Pe u4De p3 = some r_ → ∀ (H : Heap) (locs : List Loc) (ls : Array Slot), Wd D A s.heap H locs (wX2 k xh xaA ++ (wOA k xaA t0 t1 t2 t3 t4 t5 t6 t7 t8 ++ (wX1 k t0 u0rNa u0rMo u0rWa u0rDe u0Pe u0Da u0Dr u0Na u0Mo u0Wa u0De ++ (wX1 k t1 u1rNa u1rMo u1rWa u1rDe u1Pe u1Da u1Dr u1Na u1Mo u1Wa u1De ++ (wX1 k t2 u2rNa u2rMo u2rWa u2rDe u2Pe u2Da u2Dr u2Na u2Mo u2Wa u2De ++ (wX1 k t3 u3rNa u3rMo u3rWa u3rDe u3Pe u3Da u3Dr u3Na u3Mo u3Wa u3De ++ (wX1 k t4 u4rNa u4rMo u4rWa u4rDe u4Pe u4Da u4Dr u4Na u4Mo u4Wa u4De ++ (wX1 k t5 u5rNa u5rMo u5rWa u5rDe u5Pe u5Da u5Dr u5Na u5Mo u5Wa u5De ++ (wX1 k t6 u6rNa u6rMo u6rWa u6rDe u6Pe u6Da u6Dr u6Na u6Mo u6Wa u6De ++ (wX1 k t7 u7rNa u7rMo u7rWa u7rDe u7Pe u7Da u7Dr u7Na u7Mo u7Wa u7De ++ (wX1 k t8 u8rNa u8rMo u8rWa u8rDe u8Pe u8Da u8Dr u8Na u8Mo u8Wa u8De))))))))))) → lv_has ls 10 [(0, .ref xh), (1, .int 4), (3, .int p3)] → W p l e rmX2_weighed_4 s m args below meth c H locs 0 0 Q (F0 m 17 ls []) := by
    clear h
    intro h H locs ls hw hl
    unfold f_X2_weighed_4_B17 at h
    refine lv_aload_n hx hb dX2_weighed_17 rfl (lv_at hl 0 rfl) ?_
    refine va_get (ci := 2) (v := .ref xaA) (C := RX2) (T := TX2) (N := 1) hx hb hts hinX2 hown hK.1 hw.1 0 rfl rfl 0 (by decide) q_1 (fun _ h9 => h9) rfl dX2_weighed_18 ?_
    refine lv_iload_n hx hb dX2_weighed_21 rfl (lv_at hl 1 rfl) ?_
    refine k_aald hx hb hK hw 1 3 (j := 4) (a' := t4) rfl rfl rfl (by unfold vp_in; decide) rfl dX2_weighed_22 ?_
    refine lv_iload_n hx hb dX2_weighed_23 rfl (lv_at hl 2 rfl) ?_
    obtain ⟨r_1, hf, h⟩ := b1_inv h
    refine k_callS (b := 0) (C := "") (host := "") fx hK hA hw (c_X2_worth l D k t4 u4rNa u4rMo u4rWa u4rDe _ u4Pe u4Da u4Dr u4Na u4Mo u4Wa u4De p3 r_1 hf) (va_cwS 2 hts gX2_weighed_X2_worth rfl rfl rfl (by decide +kernel) ⟨by decide, by decide⟩) (As := [.ref t4, .int p3]) (wr := [(xh, .inr (2, [.ref xaA])), (xaA, .inl (k 3, 9, .inr (.inr (.inr (.inr (rl [t0, t1, t2, t3, t4, t5, t6, t7, t8])))))), (t0, .inr (1, [.int u0Pe, .int u0Da, .int u0Dr, .ref u0rNa, .ref u0rMo, .ref u0rWa, .ref u0rDe])), (u0rNa, .inl (k 0, 5, .inl u0Na)), (u0rMo, .inl (k 0, 5, .inl u0Mo)), (u0rWa, .inl (k 0, 5, .inl u0Wa)), (u0rDe, .inl (k 0, 25, .inl u0De)), (t1, .inr (1, [.int u1Pe, .int u1Da, .int u1Dr, .ref u1rNa, .ref u1rMo, .ref u1rWa, .ref u1rDe])), (u1rNa, .inl (k 0, 5, .inl u1Na)), (u1rMo, .inl (k 0, 5, .inl u1Mo)), (u1rWa, .inl (k 0, 5, .inl u1Wa)), (u1rDe, .inl (k 0, 25, .inl u1De)), (t2, .inr (1, [.int u2Pe, .int u2Da, .int u2Dr, .ref u2rNa, .ref u2rMo, .ref u2rWa, .ref u2rDe])), (u2rNa, .inl (k 0, 5, .inl u2Na)), (u2rMo, .inl (k 0, 5, .inl u2Mo)), (u2rWa, .inl (k 0, 5, .inl u2Wa)), (u2rDe, .inl (k 0, 25, .inl u2De)), (t3, .inr (1, [.int u3Pe, .int u3Da, .int u3Dr, .ref u3rNa, .ref u3rMo, .ref u3rWa, .ref u3rDe])), (u3rNa, .inl (k 0, 5, .inl u3Na)), (u3rMo, .inl (k 0, 5, .inl u3Mo)), (u3rWa, .inl (k 0, 5, .inl u3Wa)), (u3rDe, .inl (k 0, 25, .inl u3De)), (t5, .inr (1, [.int u5Pe, .int u5Da, .int u5Dr, .ref u5rNa, .ref u5rMo, .ref u5rWa, .ref u5rDe])), (u5rNa, .inl (k 0, 5, .inl u5Na)), (u5rMo, .inl (k 0, 5, .inl u5Mo)), (u5rWa, .inl (k 0, 5, .inl u5Wa)), (u5rDe, .inl (k 0, 25, .inl u5De)), (t6, .inr (1, [.int u6Pe, .int u6Da, .int u6Dr, .ref u6rNa, .ref u6rMo, .ref u6rWa, .ref u6rDe])), (u6rNa, .inl (k 0, 5, .inl u6Na)), (u6rMo, .inl (k 0, 5, .inl u6Mo)), (u6rWa, .inl (k 0, 5, .inl u6Wa)), (u6rDe, .inl (k 0, 25, .inl u6De)), (t7, .inr (1, [.int u7Pe, .int u7Da, .int u7Dr, .ref u7rNa, .ref u7rMo, .ref u7rWa, .ref u7rDe])), (u7rNa, .inl (k 0, 5, .inl u7Na)), (u7rMo, .inl (k 0, 5, .inl u7Mo)), (u7rWa, .inl (k 0, 5, .inl u7Wa)), (u7rDe, .inl (k 0, 25, .inl u7De)), (t8, .inr (1, [.int u8Pe, .int u8Da, .int u8Dr, .ref u8rNa, .ref u8rMo, .ref u8rWa, .ref u8rDe])), (u8rNa, .inl (k 0, 5, .inl u8Na)), (u8rMo, .inl (k 0, 5, .inl u8Mo)), (u8rWa, .inl (k 0, 5, .inl u8Wa)), (u8rDe, .inl (k 0, 25, .inl u8De))]) (ws' := wX2 k xh xaA ++ (wOA k xaA t0 t1 t2 t3 t4 t5 t6 t7 t8 ++ (wX1 k t0 u0rNa u0rMo u0rWa u0rDe u0Pe u0Da u0Dr u0Na u0Mo u0Wa u0De ++ (wX1 k t1 u1rNa u1rMo u1rWa u1rDe u1Pe u1Da u1Dr u1Na u1Mo u1Wa u1De ++ (wX1 k t2 u2rNa u2rMo u2rWa u2rDe u2Pe u2Da u2Dr u2Na u2Mo u2Wa u2De ++ (wX1 k t3 u3rNa u3rMo u3rWa u3rDe u3Pe u3Da u3Dr u3Na u3Mo u3Wa u3De ++ (wX1 k t4 u4rNa u4rMo u4rWa u4rDe u4Pe u4Da u4Dr u4Na u4Mo u4Wa u4De ++ (wX1 k t5 u5rNa u5rMo u5rWa u5rDe u5Pe u5Da u5Dr u5Na u5Mo u5Wa u5De ++ (wX1 k t6 u6rNa u6rMo u6rWa u6rDe u6Pe u6Da u6Dr u6Na u6Mo u6Wa u6De ++ (wX1 k t7 u7rNa u7rMo u7rWa u7rDe u7Pe u7Da u7Dr u7Na u7Mo u7Wa u7De ++ (wX1 k t8 u8rNa u8rMo u8rWa u8rDe u8Pe u8Da u8Dr u8Na u8Mo u8Wa u8De))))))))))) [22, 23, 24, 25, 26] [0, 1, 2, 3, 4, 5, 6, 7, 8, 9, 10, 11, 12, 13, 14, 15, 16, 17, 18, 19, 20, 21, 27, 28, 29, 30, 31, 32, 33, 34, 35, 36, 37, 38, 39, 40, 41, 42, 43, 44, 45, 46] [0, 1, 2, 3, 4, 5, 6, 7, 8, 9, 10, 11, 12, 13, 14, 15, 16, 17, 18, 19, 20, 21, 42, 43, 44, 45, 46, 22, 23, 24, 25, 26, 27, 28, 29, 30, 31, 32, 33, 34, 35, 36, 37, 38, 39, 40, 41] rfl rfl (by decide) (by decide) (by decide) rfl (by decide) [] rfl hl.1 rfl (Nat.le_of_ble_eq_true rfl) dX2_weighed_24 ⟨by decide, by decide⟩ (fun H locs (hw : Wd D A s.heap H locs (wX2 k xh xaA ++ (wOA k xaA t0 t1 t2 t3 t4 t5 t6 t7 t8 ++ (wX1 k t0 u0rNa u0rMo u0rWa u0rDe u0Pe u0Da u0Dr u0Na u0Mo u0Wa u0De ++ (wX1 k t1 u1rNa u1rMo u1rWa u1rDe u1Pe u1Da u1Dr u1Na u1Mo u1Wa u1De ++ (wX1 k t2 u2rNa u2rMo u2rWa u2rDe u2Pe u2Da u2Dr u2Na u2Mo u2Wa u2De ++ (wX1 k t3 u3rNa u3rMo u3rWa u3rDe u3Pe u3Da u3Dr u3Na u3Mo u3Wa u3De ++ (wX1 k t4 u4rNa u4rMo u4rWa u4rDe u4Pe u4Da u4Dr u4Na u4Mo u4Wa u4De ++ (wX1 k t5 u5rNa u5rMo u5rWa u5rDe u5Pe u5Da u5Dr u5Na u5Mo u5Wa u5De ++ (wX1 k t6 u6rNa u6rMo u6rWa u6rDe u6Pe u6Da u6Dr u6Na u6Mo u6Wa u6De ++ (wX1 k t7 u7rNa u7rMo u7rWa u7rDe u7Pe u7Da u7Dr u7Na u7Mo u7Wa u7De ++ (wX1 k t8 u8rNa u8rMo u8rWa u8rDe u8Pe u8Da u8Dr u8Na u8Mo u8Wa u8De)))))))))))) => ?_)
    refine W.eq (g2 := F0 m 27 ls ([.long r_1])) rfl ?_
    cases h
    exact k_jlret (j := (fun i => List.getD [u5Pe, u5Da, u5Dr, u6Pe, u6Da, u6Dr, u7Pe, u7Da, u7Dr, u8Pe, u8Da, u8Dr] i 0, fun i => List.getD [u5Na, u5Mo, u5Wa, u5De, u6Na, u6Mo, u6Wa, u6De, u7Na, u7Mo, u7Wa, u7De, u8Na, u8Mo, u8Wa, u8De] i (fun _ => 0))) hx hb hr hlocks hw rfl dX2_weighed_27 hQ
  refine kb_icmp_ge (tgt := 17) hx hb dX2_weighed_3 (by decide) h (fun c_3 h => ?_) (fun c_3 h => ?_)
  · exact T_17 h _ _ _ hw (lv_sub hl [0, 1, 3] rfl)
  · refine lv_iload_n hx hb dX2_weighed_6 rfl (lv_at hl 1 rfl) ?_
    refine lv_iconst (v := 1) hx hb dX2_weighed_7 (by decide) ?_
    refine lv_iadd hx hb dX2_weighed_8 ?_
    refine k_lit (y := 5) (by decide) ?_
    refine lv_aload_n hx hb dX2_weighed_9 rfl (lv_at hl 0 rfl) ?_
    refine va_get (ci := 2) (v := .ref xaA) (C := RX2) (T := TX2) (N := 1) hx hb hts hinX2 hown hK.1 hw.1 0 rfl rfl 0 (by decide) q_1 (fun _ h9 => h9) rfl dX2_weighed_10 ?_
    refine va_alen (v := 9) hx hb hK.1 hw.1 1 3 rfl rfl rfl dX2_weighed_13 ?_
    refine lv_icmp_lt (tgt := 28) hx hb dX2_weighed_14 (by decide) (fun _ => ?_) (fun q => absurd (by decide) q)
    refine lv_lconst (v := 0) hx hb dX2_weighed_28 rfl ?_
    refine lv_lstore (lv' := [(5, .long 0), (0, .ref xh), (1, .int 4), (2, .int p2), (3, .int p3), (4, .int p4)]) hx hb dX2_weighed_29 hl (by decide) rfl (fun ls hl => ?_)
    refine lv_aload_n hx hb dX2_weighed_31 rfl (lv_at hl 1 rfl) ?_
    refine va_get (ci := 2) (v := .ref xaA) (C := RX2) (T := TX2) (N := 1) hx hb hts hinX2 hown hK.1 hw.1 0 rfl rfl 0 (by decide) q_1 (fun _ h9 => h9) rfl dX2_weighed_32 ?_
    refine lv_iload_n hx hb dX2_weighed_35 rfl (lv_at hl 2 rfl) ?_
    refine lv_iconst (v := 1) hx hb dX2_weighed_36 (by decide) ?_
    refine lv_iadd hx hb dX2_weighed_37 ?_
    refine k_lit (y := 5) (by decide) ?_
    refine k_aald hx hb hK hw 1 3 (j := 5) (a' := t5) rfl rfl rfl (by unfold vp_in; decide) rfl dX2_weighed_38 ?_
    refine lv_astore (lv' := [(7, .ref t5), (5, .long 0), (0, .ref xh), (1, .int 4), (2, .int p2), (3, .int p3), (4, .int p4)]) hx hb dX2_weighed_39 hl (by decide) rfl (fun ls hl => ?_)
    refine lv_iconst (v := 0) hx hb dX2_weighed_41 (by decide) ?_
    refine lv_istore (lv' := [(8, .int 0), (7, .ref t5), (5, .long 0), (0, .ref xh), (1, .int 4), (2, .int p2), (3, .int p3), (4, .int p4)]) hx hb dX2_weighed_42 hl (by decide) rfl (fun ls hl => ?_)
    obtain ⟨v5_32, hL_44, h⟩ := b1_inv h
    have X_44 : ∀ (u5Pe_33 : Int32) (u5Da_34 : Int32) (u5Dr_35 : Int32) (u5Na_36 : (Nat → Int32)) (u5Mo_37 : (Nat → Int32)) (u5Wa_38 : (Nat → Int32)) (u5De_39 : (Nat → Int32)) (u6Pe_40 : Int32) (u6Da_41 : Int32) (u6Dr_42 : Int32) (u6Na_43 : (Nat → Int32)) (u6Mo_44 : (Nat → Int32)) (u6Wa_45 : (Nat → Int32)) (u6De_46 : (Nat → Int32)) (u7Pe_47 : Int32) (u7Da_48 : Int32) (u7Dr_49 : Int32) (u7Na_50 : (Nat → Int32)) (u7Mo_51 : (Nat → Int32)) (u7Wa_52 : (Nat → Int32)) (u7De_53 : (Nat → Int32)) (u8Pe_54 : Int32) (u8Da_55 : Int32) (u8Dr_56 : Int32) (u8Na_57 : (Nat → Int32)) (u8Mo_58 : (Nat → Int32)) (u8Wa_59 : (Nat → Int32)) (u8De_60 : (Nat → Int32)) (H : Heap) (locs : List Loc) (ls : Array Slot), Wd D A s.heap H locs (wX2 k xh xaA ++ (wOA k xaA t0 t1 t2 t3 t4 t5 t6 t7 t8 ++ (wX1 k t0 u0rNa u0rMo u0rWa u0rDe u0Pe u0Da u0Dr u0Na u0Mo u0Wa u0De ++ (wX1 k t1 u1rNa u1rMo u1rWa u1rDe u1Pe u1Da u1Dr u1Na u1Mo u1Wa u1De ++ (wX1 k t2 u2rNa u2rMo u2rWa u2rDe u2Pe u2Da u2Dr u2Na u2Mo u2Wa u2De ++ (wX1 k t3 u3rNa u3rMo u3rWa u3rDe u3Pe u3Da u3Dr u3Na u3Mo u3Wa u3De ++ (wX1 k t4 u4rNa u4rMo u4rWa u4rDe u4Pe u4Da u4Dr u4Na u4Mo u4Wa u4De ++ (wX1 k t5 u5rNa u5rMo u5rWa u5rDe u5Pe_33 u5Da_34 u5Dr_35 u5Na_36 u5Mo_37 u5Wa_38 u5De_39 ++ (wX1 k t6 u6rNa u6rMo u6rWa u6rDe u6Pe_40 u6Da_41 u6Dr_42 u6Na_43 u6Mo_44 u6Wa_45 u6De_46 ++ (wX1 k t7 u7rNa u7rMo u7rWa u7rDe u7Pe_47 u7Da_48 u7Dr_49 u7Na_50 u7Mo_51 u7Wa_52 u7De_53 ++ (wX1 k t8 u8rNa u8rMo u8rWa u8rDe u8Pe_54 u8Da_55 u8Dr_56 u8Na_57 u8Mo_58 u8Wa_59 u8De_60))))))))))) → lv_has ls 10 [(5, .long v5_32)] → W p l e rmX2_weighed_4 s m args below meth c H locs 0 0 Q (F0 m 128 ls []) := by
      intro u5Pe_33 u5Da_34 u5Dr_35 u5Na_36 u5Mo_37 u5Wa_38 u5De_39 u6Pe_40 u6Da_41 u6Dr_42 u6Na_43 u6Mo_44 u6Wa_45 u6De_46 u7Pe_47 u7Da_48 u7Dr_49 u7Na_50 u7Mo_51 u7Wa_52 u7De_53 u8Pe_54 u8Da_55 u8Dr_56 u8Na_57 u8Mo_58 u8Wa_59 u8De_60 H locs ls hw hl
      refine lv_lload hx hb dX2_weighed_128 (lv_at hl 0 rfl) ?_
      cases h
      exact k_jlret (j := (fun i => List.getD [u5Pe_33, u5Da_34, u5Dr_35, u6Pe_40, u6Da_41, u6Dr_42, u7Pe_47, u7Da_48, u7Dr_49, u8Pe_54, u8Da_55, u8Dr_56] i 0, fun i => List.getD [u5Na_36, u5Mo_37, u5Wa_38, u5De_39, u6Na_43, u6Mo_44, u6Wa_45, u6De_46, u7Na_50, u7Mo_51, u7Wa_52, u7De_53, u8Na_57, u8Mo_58, u8Wa_59, u8De_60] i (fun _ => 0))) hx hb hr hlocks hw rfl dX2_weighed_130 hQ
    clear h
    have LP_44 : ∀ (n : Nat) (v5_2 : Int64) (v8_3 : Int32), f_X2_weighed_4_L44 u4Pe u4Da u4Dr u4Na u4Mo u4Wa u4De p2 p3 p4 n v5_2 v8_3 = some v5_32 → ∀ (u5Pe_4 : Int32) (u5Da_5 : Int32) (u5Dr_6 : Int32) (u5Na_7 : (Nat → Int32)) (u5Mo_8 : (Nat → Int32)) (u5Wa_9 : (Nat → Int32)) (u5De_10 : (Nat → Int32)) (u6Pe_11 : Int32) (u6Da_12 : Int32) (u6Dr_13 : Int32) (u6Na_14 : (Nat → Int32)) (u6Mo_15 : (Nat → Int32)) (u6Wa_16 : (Nat → Int32)) (u6De_17 : (Nat → Int32)) (u7Pe_18 : Int32) (u7Da_19 : Int32) (u7Dr_20 : Int32) (u7Na_21 : (Nat → Int32)) (u7Mo_22 : (Nat → Int32)) (u7Wa_23 : (Nat → Int32)) (u7De_24 : (Nat → Int32)) (u8Pe_25 : Int32) (u8Da_26 : Int32) (u8Dr_27 : Int32) (u8Na_28 : (Nat → Int32)) (u8Mo_29 : (Nat → Int32)) (u8Wa_30 : (Nat → Int32)) (u8De_31 : (Nat → Int32)) (H : Heap) (locs : List Loc) (ls : Array Slot), Wd D A s.heap H locs (wX2 k xh xaA ++ (wOA k xaA t0 t1 t2 t3 t4 t5 t6 t7 t8 ++ (wX1 k t0 u0rNa u0rMo u0rWa u0rDe u0Pe u0Da u0Dr u0Na u0Mo u0Wa u0De ++ (wX1 k t1 u1rNa u1rMo u1rWa u1rDe u1Pe u1Da u1Dr u1Na u1Mo u1Wa u1De ++ (wX1 k t2 u2rNa u2rMo u2rWa u2rDe u2Pe u2Da u2Dr u2Na u2Mo u2Wa u2De ++ (wX1 k t3 u3rNa u3rMo u3rWa u3rDe u3Pe u3Da u3Dr u3Na u3Mo u3Wa u3De ++ (wX1 k t4 u4rNa u4rMo u4rWa u4rDe u4Pe u4Da u4Dr u4Na u4Mo u4Wa u4De ++ (wX1 k t5 u5rNa u5rMo u5rWa u5rDe u5Pe_4 u5Da_5 u5Dr_6 u5Na_7 u5Mo_8 u5Wa_9 u5De_10 ++ (wX1 k t6 u6rNa u6rMo u6rWa u6rDe u6Pe_11 u6Da_12 u6Dr_13 u6Na_14 u6Mo_15 u6Wa_16 u6De_17 ++ (wX1 k t7 u7rNa u7rMo u7rWa u7rDe u7Pe_18 u7Da_19 u7Dr_20 u7Na_21 u7Mo_22 u7Wa_23 u7De_24 ++ (wX1 k t8 u8rNa u8rMo u8rWa u8rDe u8Pe_25 u8Da_26 u8Dr_27 u8Na_28 u8Mo_29 u8Wa_30 u8De_31))))))))))) → lv_has ls 10 [(0, .ref xh), (1, .int 4), (2, .int p2), (3, .int p3), (4, .int p4), (5, .long v5_2), (7, .ref t5), (8, .int v8_3)] → W p l e rmX2_weighed_4 s m args below meth c H locs 0 0 Q (F0 m 44 ls []) := by
      clear hL_44 hw hl
      intro n
      induction n with
      | zero => intro v5_2 v8_3 h; rw [f_X2_weighed_4_L44] at h; cases h
      | succ n ih =>
        intro v5_2 v8_3 h u5Pe_4 u5Da_5 u5Dr_6 u5Na_7 u5Mo_8 u5Wa_9 u5De_10 u6Pe_11 u6Da_12 u6Dr_13 u6Na_14 u6Mo_15 u6Wa_16 u6De_17 u7Pe_18 u7Da_19 u7Dr_20 u7Na_21 u7Mo_22 u7Wa_23 u7De_24 u8Pe_25 u8Da_26 u8Dr_27 u8Na_28 u8Mo_29 u8Wa_30 u8De_31 H locs ls hw hl
        rw [f_X2_weighed_4_L44] at h
        refine lv_iload hx hb dX2_weighed_44 (lv_at hl 7 rfl) ?_
        refine lv_iconst (v := 2) hx hb dX2_weighed_46 (by decide) ?_
        refine kb_icmp_ge (tgt := 128) hx hb dX2_weighed_47 (by decide) h (fun c_47 h => ?_) (fun c_47 h => ?_)
        · cases h
          exact X_44 _ _ _ _ _ _ _ _ _ _ _ _ _ _ _ _ _ _ _ _ _ _ _ _ _ _ _ _ _ _ _ hw (lv_sub hl [5] rfl)
        · refine lv_iload hx hb dX2_weighed_50 (lv_at hl 7 rfl) ?_
          obtain ⟨t_61, hj_52, h⟩ := b1_inv h
          have J_52 : ∀ (H : Heap) (locs : List Loc) (ls : Array Slot), Wd D A s.heap H locs (wX2 k xh xaA ++ (wOA k xaA t0 t1 t2 t3 t4 t5 t6 t7 t8 ++ (wX1 k t0 u0rNa u0rMo u0rWa u0rDe u0Pe u0Da u0Dr u0Na u0Mo u0Wa u0De ++ (wX1 k t1 u1rNa u1rMo u1rWa u1rDe u1Pe u1Da u1Dr u1Na u1Mo u1Wa u1De ++ (wX1 k t2 u2rNa u2rMo u2rWa u2rDe u2Pe u2Da u2Dr u2Na u2Mo u2Wa u2De ++ (wX1 k t3 u3rNa u3rMo u3rWa u3rDe u3Pe u3Da u3Dr u3Na u3Mo u3Wa u3De ++ (wX1 k t4 u4rNa u4rMo u4rWa u4rDe u4Pe u4Da u4Dr u4Na u4Mo u4Wa u4De ++ (wX1 k t5 u5rNa u5rMo u5rWa u5rDe u5Pe_4 u5Da_5 u5Dr_6 u5Na_7 u5Mo_8 u5Wa_9 u5De_10 ++ (wX1 k t6 u6rNa u6rMo u6rWa u6rDe u6Pe_11 u6Da_12 u6Dr_13 u6Na_14 u6Mo_15 u6Wa_16 u6De_17 ++ (wX1 k t7 u7rNa u7rMo u7rWa u7rDe u7Pe_18 u7Da_19 u7Dr_20 u7Na_21 u7Mo_22 u7Wa_23 u7De_24 ++ (wX1 k t8 u8rNa u8rMo u8rWa u8rDe u8Pe_25 u8Da_26 u8Dr_27 u8Na_28 u8Mo_29 u8Wa_30 u8De_31))))))))))) → lv_has ls 10 [(0, .ref xh), (1, .int 4), (2, .int p2), (3, .int p3), (4, .int p4), (5, .long v5_2), (7, .ref t5), (8, .int v8_3)] → W p l e rmX2_weighed_4 s m args below meth c H locs 0 0 Q (F0 m 63 ls [.int t_61]) := by
            intro H locs ls hw hl
            refine lv_istore (lv' := [(9, .int t_61), (0, .ref xh), (1, .int 4), (2, .int p2), (3, .int p3), (4, .int p4), (5, .long v5_2), (7, .ref t5), (8, .int v8_3)]) hx hb dX2_weighed_63 hl (by decide) rfl (fun ls hl => ?_)
            refine lv_iload hx hb dX2_weighed_65 (lv_at hl 0 rfl) ?_
            refine kb_if_le (tgt := 122) hx hb dX2_weighed_67 (by decide) h (fun c_67 h => ?_) (fun c_67 h => ?_)
            · refine lv_iinc (v := v8_3 + 1) (lv' := [(8, .int (v8_3 + 1)), (9, .int t_61), (0, .ref xh), (1, .int 4), (2, .int p2), (3, .int p3), (4, .int p4), (5, .long v5_2), (7, .ref t5)]) hx hb dX2_weighed_122 hl (k := 8) rfl rfl (by decide) rfl (fun ls hl => ?_)
              refine lv_goto (tgt := 44) hx hb dX2_weighed_125 (by decide) ?_
              exact ih _ _ h _ _ _ _ _ _ _ _ _ _ _ _ _ _ _ _ _ _ _ _ _ _ _ _ _ _ _ _ _ _ _ hw (lv_sub hl [2, 3, 4, 5, 6, 7, 8, 0] rfl)
            · refine lv_aload hx hb dX2_weighed_70 (lv_at hl 7 rfl) ?_
              refine lv_aload_n hx hb dX2_weighed_72 rfl (lv_at hl 1 rfl) ?_
              refine va_get (ci := 2) (v := .ref xaA) (C := RX2) (T := TX2) (N := 1) hx hb hts hinX2 hown hK.1 hw.1 0 rfl rfl 0 (by decide) q_1 (fun _ h9 => h9) rfl dX2_weighed_73 ?_
              refine lv_iload_n hx hb dX2_weighed_76 rfl (lv_at hl 2 rfl) ?_
              refine k_aald hx hb hK hw 1 3 (j := 4) (a' := t4) rfl rfl rfl (by unfold vp_in; decide) rfl dX2_weighed_77 ?_
              obtain ⟨u5Pe_62, u5Da_63, u5Dr_64, u5Na_65, u5Mo_66, u5Wa_67, u5De_68, hf, h⟩ := b7_inv h
              refine k_callV (host := "") fx hK hA hw (c_X1_become l D k t5 u5rNa u5rMo u5rWa u5rDe t4 u4rNa u4rMo u4rWa u4rDe _ u5Pe_4 u5Da_5 u5Dr_6 u5Na_7 u5Mo_8 u5Wa_9 u5De_10 u4Pe u4Da u4Dr u4Na u4Mo u4Wa u4De u5Pe_62 u5Da_63 u5Dr_64 u5Na_65 u5Mo_66 u5Wa_67 u5De_68 hf) (cwV 1 hts gX2_weighed_X1_become rfl rfl rfl (by decide +kernel) ⟨by decide, by decide⟩) (As := [.ref t4]) (wr := [(xh, .inr (2, [.ref xaA])), (xaA, .inl (k 3, 9, .inr (.inr (.inr (.inr (rl [t0, t1, t2, t3, t4, t5, t6, t7, t8])))))), (t0, .inr (1, [.int u0Pe, .int u0Da, .int u0Dr, .ref u0rNa, .ref u0rMo, .ref u0rWa, .ref u0rDe])), (u0rNa, .inl (k 0, 5, .inl u0Na)), (u0rMo, .inl (k 0, 5, .inl u0Mo)), (u0rWa, .inl (k 0, 5, .inl u0Wa)), (u0rDe, .inl (k 0, 25, .inl u0De)), (t1, .inr (1, [.int u1Pe, .int u1Da, .int u1Dr, .ref u1rNa, .ref u1rMo, .ref u1rWa, .ref u1rDe])), (u1rNa, .inl (k 0, 5, .inl u1Na)), (u1rMo, .inl (k 0, 5, .inl u1Mo)), (u1rWa, .inl (k 0, 5, .inl u1Wa)), (u1rDe, .inl (k 0, 25, .inl u1De)), (t2, .inr (1, [.int u2Pe, .int u2Da, .int u2Dr, .ref u2rNa, .ref u2rMo, .ref u2rWa, .ref u2rDe])), (u2rNa, .inl (k 0, 5, .inl u2Na)), (u2rMo, .inl (k 0, 5, .inl u2Mo)), (u2rWa, .inl (k 0, 5, .inl u2Wa)), (u2rDe, .inl (k 0, 25, .inl u2De)), (t3, .inr (1, [.int u3Pe, .int u3Da, .int u3Dr, .ref u3rNa, .ref u3rMo, .ref u3rWa, .ref u3rDe])), (u3rNa, .inl (k 0, 5, .inl u3Na)), (u3rMo, .inl (k 0, 5, .inl u3Mo)), (u3rWa, .inl (k 0, 5, .inl u3Wa)), (u3rDe, .inl (k 0, 25, .inl u3De)), (t6, .inr (1, [.int u6Pe_11, .int u6Da_12, .int u6Dr_13, .ref u6rNa, .ref u6rMo, .ref u6rWa, .ref u6rDe])), (u6rNa, .inl (k 0, 5, .inl u6Na_14)), (u6rMo, .inl (k 0, 5, .inl u6Mo_15)), (u6rWa, .inl (k 0, 5, .inl u6Wa_16)), (u6rDe, .inl (k 0, 25, .inl u6De_17)), (t7, .inr (1, [.int u7Pe_18, .int u7Da_19, .int u7Dr_20, .ref u7rNa, .ref u7rMo, .ref u7rWa, .ref u7rDe])), (u7rNa, .inl (k 0, 5, .inl u7Na_21)), (u7rMo, .inl (k 0, 5, .inl u7Mo_22)), (u7rWa, .inl (k 0, 5, .inl u7Wa_23)), (u7rDe, .inl (k 0, 25, .inl u7De_24)), (t8, .inr (1, [.int u8Pe_25, .int u8Da_26, .int u8Dr_27, .ref u8rNa, .ref u8rMo, .ref u8rWa, .ref u8rDe])), (u8rNa, .inl (k 0, 5, .inl u8Na_28)), (u8rMo, .inl (k 0, 5, .inl u8Mo_29)), (u8rWa, .inl (k 0, 5, .inl u8Wa_30)), (u8rDe, .inl (k 0, 25, .inl u8De_31))]) (ws' := wX2 k xh xaA ++ (wOA k xaA t0 t1 t2 t3 t4 t5 t6 t7 t8 ++ (wX1 k t0 u0rNa u0rMo u0rWa u0rDe u0Pe u0Da u0Dr u0Na u0Mo u0Wa u0De ++ (wX1 k t1 u1rNa u1rMo u1rWa u1rDe u1Pe u1Da u1Dr u1Na u1Mo u1Wa u1De ++ (wX1 k t2 u2rNa u2rMo u2rWa u2rDe u2Pe u2Da u2Dr u2Na u2Mo u2Wa u2De ++ (wX1 k t3 u3rNa u3rMo u3rWa u3rDe u3Pe u3Da u3Dr u3Na u3Mo u3Wa u3De ++ (wX1 k t4 u4rNa u4rMo u4rWa u4rDe u4Pe u4Da u4Dr u4Na u4Mo u4Wa u4De ++ (wX1 k t5 u5rNa u5rMo u5rWa u5rDe u5Pe_62 u5Da_63 u5Dr_64 u5Na_65 u5Mo_66 u5Wa_67 u5De_68 ++ (wX1 k t6 u6rNa u6rMo u6rWa u6rDe u6Pe_11 u6Da_12 u6Dr_13 u6Na_14 u6Mo_15 u6Wa_16 u6De_17 ++ (wX1 k t7 u7rNa u7rMo u7rWa u7rDe u7Pe_18 u7Da_19 u7Dr_20 u7Na_21 u7Mo_22 u7Wa_23 u7De_24 ++ (wX1 k t8 u8rNa u8rMo u8rWa u8rDe u8Pe_25 u8Da_26 u8Dr_27 u8Na_28 u8Mo_29 u8Wa_30 u8De_31))))))))))) [27, 28, 29, 30, 31, 22, 23, 24, 25, 26] [0, 1, 2, 3, 4, 5, 6, 7, 8, 9, 10, 11, 12, 13, 14, 15, 16, 17, 18, 19, 20, 21, 32, 33, 34, 35, 36, 37, 38, 39, 40, 41, 42, 43, 44, 45, 46] [0, 1, 2, 3, 4, 5, 6, 7, 8, 9, 10, 11, 12, 13, 14, 15, 16, 17, 18, 19, 20, 21, 42, 43, 44, 45, 46, 37, 38, 39, 40, 41, 22, 23, 24, 25, 26, 27, 28, 29, 30, 31, 32, 33, 34, 35, 36] rfl rfl (by decide) (by decide) (by decide) rfl (by decide) 1 rfl rfl [] rfl hl.1 rfl (Nat.le_of_ble_eq_true rfl) dX2_weighed_78 ⟨by decide, by decide⟩ (fun H locs (hw : Wd D A s.heap H locs (wX2 k xh xaA ++ (wOA k xaA t0 t1 t2 t3 t4 t5 t6 t7 t8 ++ (wX1 k t0 u0rNa u0rMo u0rWa u0rDe u0Pe u0Da u0Dr u0Na u0Mo u0Wa u0De ++ (wX1 k t1 u1rNa u1rMo u1rWa u1rDe u1Pe u1Da u1Dr u1Na u1Mo u1Wa u1De ++ (wX1 k t2 u2rNa u2rMo u2rWa u2rDe u2Pe u2Da u2Dr u2Na u2Mo u2Wa u2De ++ (wX1 k t3 u3rNa u3rMo u3rWa u3rDe u3Pe u3Da u3Dr u3Na u3Mo u3Wa u3De ++ (wX1 k t4 u4rNa u4rMo u4rWa u4rDe u4Pe u4Da u4Dr u4Na u4Mo u4Wa u4De ++ (wX1 k t5 u5rNa u5rMo u5rWa u5rDe u5Pe_62 u5Da_63 u5Dr_64 u5Na_65 u5Mo_66 u5Wa_67 u5De_68 ++ (wX1 k t6 u6rNa u6rMo u6rWa u6rDe u6Pe_11 u6Da_12 u6Dr_13 u6Na_14 u6Mo_15 u6Wa_16 u6De_17 ++ (wX1 k t7 u7rNa u7rMo u7rWa u7rDe u7Pe_18 u7Da_19 u7Dr_20 u7Na_21 u7Mo_22 u7Wa_23 u7De_24 ++ (wX1 k t8 u8rNa u8rMo u8rWa u8rDe u8Pe_25 u8Da_26 u8Dr_27 u8Na_28 u8Mo_29 u8Wa_30 u8De_31)))))))))))) => ?_)
              refine W.eq (g2 := F0 m 81 ls ([])) rfl ?_
              refine lv_aload hx hb dX2_weighed_81 (lv_at hl 7 rfl) ?_
              refine lv_iload hx hb dX2_weighed_83 (lv_at hl 8 rfl) ?_
              obtain ⟨t_69, hj_85, h⟩ := b1_inv h
              have J_85 : ∀ (H : Heap) (locs : List Loc) (ls : Array Slot), Wd D A s.heap H locs (wX2 k xh xaA ++ (wOA k xaA t0 t1 t2 t3 t4 t5 t6 t7 t8 ++ (wX1 k t0 u0rNa u0rMo u0rWa u0rDe u0Pe u0Da u0Dr u0Na u0Mo u0Wa u0De ++ (wX1 k t1 u1rNa u1rMo u1rWa u1rDe u1Pe u1Da u1Dr u1Na u1Mo u1Wa u1De ++ (wX1 k t2 u2rNa u2rMo u2rWa u2rDe u2Pe u2Da u2Dr u2Na u2Mo u2Wa u2De ++ (wX1 k t3 u3rNa u3rMo u3rWa u3rDe u3Pe u3Da u3Dr u3Na u3Mo u3Wa u3De ++ (wX1 k t4 u4rNa u4rMo u4rWa u4rDe u4Pe u4Da u4Dr u4Na u4Mo u4Wa u4De ++ (wX1 k t5 u5rNa u5rMo u5rWa u5rDe u5Pe_62 u5Da_63 u5Dr_64 u5Na_65 u5Mo_66 u5Wa_67 u5De_68 ++ (wX1 k t6 u6rNa u6rMo u6rWa u6rDe u6Pe_11 u6Da_12 u6Dr_13 u6Na_14 u6Mo_15 u6Wa_16 u6De_17 ++ (wX1 k t7 u7rNa u7rMo u7rWa u7rDe u7Pe_18 u7Da_19 u7Dr_20 u7Na_21 u7Mo_22 u7Wa_23 u7De_24 ++ (wX1 k t8 u8rNa u8rMo u8rWa u8rDe u8Pe_25 u8Da_26 u8Dr_27 u8Na_28 u8Mo_29 u8Wa_30 u8De_31))))))))))) → lv_has ls 10 [(0, .ref xh), (1, .int 4), (2, .int p2), (3, .int p3), (4, .int p4), (5, .long v5_2), (7, .ref t5), (8, .int v8_3), (9, .int t_61)] → W p l e rmX2_weighed_4 s m args below meth c H locs 0 0 Q (F0 m 98 ls [.int t_69, .ref t5]) := by
                intro H locs ls hw hl
                obtain ⟨r_70, u5Da_71, u5Mo_72, u5De_73, hf, h⟩ := b4_inv h
                refine k_callV (host := "") fx hK hA hw (c_X1_runDay l D k t5 u5rNa u5rMo u5rWa u5rDe _ u5Pe_62 u5Da_63 u5Dr_64 u5Na_65 u5Mo_66 u5Wa_67 u5De_68 t_69 r_70 u5Da_71 u5Mo_72 u5De_73 hf) (cwV 1 hts gX2_weighed_X1_runDay rfl rfl rfl (by decide +kernel) ⟨by decide, by decide⟩) (As := [.int t_69]) (wr := [(xh, .inr (2, [.ref xaA])), (xaA, .inl (k 3, 9, .inr (.inr (.inr (.inr (rl [t0, t1, t2, t3, t4, t5, t6, t7, t8])))))), (t0, .inr (1, [.int u0Pe, .int u0Da, .int u0Dr, .ref u0rNa, .ref u0rMo, .ref u0rWa, .ref u0rDe])), (u0rNa, .inl (k 0, 5, .inl u0Na)), (u0rMo, .inl (k 0, 5, .inl u0Mo)), (u0rWa, .inl (k 0, 5, .inl u0Wa)), (u0rDe, .inl (k 0, 25, .inl u0De)), (t1, .inr (1, [.int u1Pe, .int u1Da, .int u1Dr, .ref u1rNa, .ref u1rMo, .ref u1rWa, .ref u1rDe])), (u1rNa, .inl (k 0, 5, .inl u1Na)), (u1rMo, .inl (k 0, 5, .inl u1Mo)), (u1rWa, .inl (k 0, 5, .inl u1Wa)), (u1rDe, .inl (k 0, 25, .inl u1De)), (t2, .inr (1, [.int u2Pe, .int u2Da, .int u2Dr, .ref u2rNa, .ref u2rMo, .ref u2rWa, .ref u2rDe])), (u2rNa, .inl (k 0, 5, .inl u2Na)), (u2rMo, .inl (k 0, 5, .inl u2Mo)), (u2rWa, .inl (k 0, 5, .inl u2Wa)), (u2rDe, .inl (k 0, 25, .inl u2De)), (t3, .inr (1, [.int u3Pe, .int u3Da, .int u3Dr, .ref u3rNa, .ref u3rMo, .ref u3rWa, .ref u3rDe])), (u3rNa, .inl (k 0, 5, .inl u3Na)), (u3rMo, .inl (k 0, 5, .inl u3Mo)), (u3rWa, .inl (k 0, 5, .inl u3Wa)), (u3rDe, .inl (k 0, 25, .inl u3De)), (t4, .inr (1, [.int u4Pe, .int u4Da, .int u4Dr, .ref u4rNa, .ref u4rMo, .ref u4rWa, .ref u4rDe])), (u4rNa, .inl (k 0, 5, .inl u4Na)), (u4rMo, .inl (k 0, 5, .inl u4Mo)), (u4rWa, .inl (k 0, 5, .inl u4Wa)), (u4rDe, .inl (k 0, 25, .inl u4De)), (t6, .inr (1, [.int u6Pe_11, .int u6Da_12, .int u6Dr_13, .ref u6rNa, .ref u6rMo, .ref u6rWa, .ref u6rDe])), (u6rNa, .inl (k 0, 5, .inl u6Na_14)), (u6rMo, .inl (k 0, 5, .inl u6Mo_15)), (u6rWa, .inl (k 0, 5, .inl u6Wa_16)), (u6rDe, .inl (k 0, 25, .inl u6De_17)), (t7, .inr (1, [.int u7Pe_18, .int u7Da_19, .int u7Dr_20, .ref u7rNa, .ref u7rMo, .ref u7rWa, .ref u7rDe])), (u7rNa, .inl (k 0, 5, .inl u7Na_21)), (u7rMo, .inl (k 0, 5, .inl u7Mo_22)), (u7rWa, .inl (k 0, 5, .inl u7Wa_23)), (u7rDe, .inl (k 0, 25, .inl u7De_24)), (t8, .inr (1, [.int u8Pe_25, .int u8Da_26, .int u8Dr_27, .ref u8rNa, .ref u8rMo, .ref u8rWa, .ref u8rDe])), (u8rNa, .inl (k 0, 5, .inl u8Na_28)), (u8rMo, .inl (k 0, 5, .inl u8Mo_29)), (u8rWa, .inl (k 0, 5, .inl u8Wa_30)), (u8rDe, .inl (k 0, 25, .inl u8De_31))]) (ws' := wX2 k xh xaA ++ (wOA k xaA t0 t1 t2 t3 t4 t5 t6 t7 t8 ++ (wX1 k t0 u0rNa u0rMo u0rWa u0rDe u0Pe u0Da u0Dr u0Na u0Mo u0Wa u0De ++ (wX1 k t1 u1rNa u1rMo u1rWa u1rDe u1Pe u1Da u1Dr u1Na u1Mo u1Wa u1De ++ (wX1 k t2 u2rNa u2rMo u2rWa u2rDe u2Pe u2Da u2Dr u2Na u2Mo u2Wa u2De ++ (wX1 k t3 u3rNa u3rMo u3rWa u3rDe u3Pe u3Da u3Dr u3Na u3Mo u3Wa u3De ++ (wX1 k t4 u4rNa u4rMo u4rWa u4rDe u4Pe u4Da u4Dr u4Na u4Mo u4Wa u4De ++ (wX1 k t5 u5rNa u5rMo u5rWa u5rDe u5Pe_62 u5Da_71 u5Dr_64 u5Na_65 u5Mo_72 u5Wa_67 u5De_73 ++ (wX1 k t6 u6rNa u6rMo u6rWa u6rDe u6Pe_11 u6Da_12 u6Dr_13 u6Na_14 u6Mo_15 u6Wa_16 u6De_17 ++ (wX1 k t7 u7rNa u7rMo u7rWa u7rDe u7Pe_18 u7Da_19 u7Dr_20 u7Na_21 u7Mo_22 u7Wa_23 u7De_24 ++ (wX1 k t8 u8rNa u8rMo u8rWa u8rDe u8Pe_25 u8Da_26 u8Dr_27 u8Na_28 u8Mo_29 u8Wa_30 u8De_31))))))))))) [27, 28, 29, 30, 31] [0, 1, 2, 3, 4, 5, 6, 7, 8, 9, 10, 11, 12, 13, 14, 15, 16, 17, 18, 19, 20, 21, 22, 23, 24, 25, 26, 32, 33, 34, 35, 36, 37, 38, 39, 40, 41, 42, 43, 44, 45, 46] [0, 1, 2, 3, 4, 5, 6, 7, 8, 9, 10, 11, 12, 13, 14, 15, 16, 17, 18, 19, 20, 21, 22, 23, 24, 25, 26, 42, 43, 44, 45, 46, 27, 28, 29, 30, 31, 32, 33, 34, 35, 36, 37, 38, 39, 40, 41] rfl rfl (by decide) (by decide) (by decide) rfl (by decide) 1 rfl rfl [] rfl hl.1 rfl (Nat.le_of_ble_eq_true rfl) dX2_weighed_98 ⟨by decide, by decide⟩ (fun H locs (hw : Wd D A s.heap H locs (wX2 k xh xaA ++ (wOA k xaA t0 t1 t2 t3 t4 t5 t6 t7 t8 ++ (wX1 k t0 u0rNa u0rMo u0rWa u0rDe u0Pe u0Da u0Dr u0Na u0Mo u0Wa u0De ++ (wX1 k t1 u1rNa u1rMo u1rWa u1rDe u1Pe u1Da u1Dr u1Na u1Mo u1Wa u1De ++ (wX1 k t2 u2rNa u2rMo u2rWa u2rDe u2Pe u2Da u2Dr u2Na u2Mo u2Wa u2De ++ (wX1 k t3 u3rNa u3rMo u3rWa u3rDe u3Pe u3Da u3Dr u3Na u3Mo u3Wa u3De ++ (wX1 k t4 u4rNa u4rMo u4rWa u4rDe u4Pe u4Da u4Dr u4Na u4Mo u4Wa u4De ++ (wX1 k t5 u5rNa u5rMo u5rWa u5rDe u5Pe_62 u5Da_71 u5Dr_64 u5Na_65 u5Mo_72 u5Wa_67 u5De_73 ++ (wX1 k t6 u6rNa u6rMo u6rWa u6rDe u6Pe_11 u6Da_12 u6Dr_13 u6Na_14 u6Mo_15 u6Wa_16 u6De_17 ++ (wX1 k t7 u7rNa u7rMo u7rWa u7rDe u7Pe_18 u7Da_19 u7Dr_20 u7Na_21 u7Mo_22 u7Wa_23 u7De_24 ++ (wX1 k t8 u8rNa u8rMo u8rWa u8rDe u8Pe_25 u8Da_26 u8Dr_27 u8Na_28 u8Mo_29 u8Wa_30 u8De_31)))))))))))) => ?_)
                refine W.eq (g2 := F0 m 101 ls ([.int r_70])) rfl ?_
                refine lv_pop hx hb dX2_weighed_101 rfl ?_
                refine lv_lload hx hb dX2_weighed_102 (lv_at hl 5 rfl) ?_
                refine lv_iload hx hb dX2_weighed_104 (lv_at hl 8 rfl) ?_
                refine lv_i2l hx hb dX2_weighed_106 rfl ?_
                refine lv_aload_n hx hb dX2_weighed_107 rfl (lv_at hl 0 rfl) ?_
                refine lv_iload_n hx hb dX2_weighed_108 rfl (lv_at hl 1 rfl) ?_
                refine lv_iconst (v := 1) hx hb dX2_weighed_109 (by decide) ?_
                refine lv_iadd hx hb dX2_weighed_110 ?_
                refine k_lit (y := 5) (by decide) ?_
                refine lv_iload_n hx hb dX2_weighed_111 rfl (lv_at hl 2 rfl) ?_
                refine lv_iload_n hx hb dX2_weighed_112 rfl (lv_at hl 3 rfl) ?_
                refine lv_iload hx hb dX2_weighed_113 (lv_at hl 4 rfl) ?_
                obtain ⟨r_74, hf, h⟩ := b1_inv h
                refine k_callVJ fx hK hA hw (c_X2_weighed_5 l D k xh xaA t0 t1 t2 t3 t4 t5 t6 t7 t8 u0rNa u0rMo u0rWa u0rDe u1rNa u1rMo u1rWa u1rDe u2rNa u2rMo u2rWa u2rDe u3rNa u3rMo u3rWa u3rDe u4rNa u4rMo u4rWa u4rDe u5rNa u5rMo u5rWa u5rDe u6rNa u6rMo u6rWa u6rDe u7rNa u7rMo u7rWa u7rDe u8rNa u8rMo u8rWa u8rDe _ u0Pe u0Da u0Dr u0Na u0Mo u0Wa u0De u1Pe u1Da u1Dr u1Na u1Mo u1Wa u1De u2Pe u2Da u2Dr u2Na u2Mo u2Wa u2De u3Pe u3Da u3Dr u3Na u3Mo u3Wa u3De u4Pe u4Da u4Dr u4Na u4Mo u4Wa u4De u5Pe_62 u5Da_71 u5Dr_64 u5Na_65 u5Mo_72 u5Wa_67 u5De_73 u6Pe_11 u6Da_12 u6Dr_13 u6Na_14 u6Mo_15 u6Wa_16 u6De_17 u7Pe_18 u7Da_19 u7Dr_20 u7Na_21 u7Mo_22 u7Wa_23 u7De_24 u8Pe_25 u8Da_26 u8Dr_27 u8Na_28 u8Mo_29 u8Wa_30 u8De_31 p2 p3 p4 r_74 hf) (cwV 4 hts gX2_weighed_X2_weighed rfl rfl rfl (by decide +kernel) ⟨by decide, by decide⟩) (As := [.int 5, .int p2, .int p3, .int p4]) (wr := []) (ws' := fun j_75 => wX2 k xh xaA ++ (wOA k xaA t0 t1 t2 t3 t4 t5 t6 t7 t8 ++ (wX1 k t0 u0rNa u0rMo u0rWa u0rDe u0Pe u0Da u0Dr u0Na u0Mo u0Wa u0De ++ (wX1 k t1 u1rNa u1rMo u1rWa u1rDe u1Pe u1Da u1Dr u1Na u1Mo u1Wa u1De ++ (wX1 k t2 u2rNa u2rMo u2rWa u2rDe u2Pe u2Da u2Dr u2Na u2Mo u2Wa u2De ++ (wX1 k t3 u3rNa u3rMo u3rWa u3rDe u3Pe u3Da u3Dr u3Na u3Mo u3Wa u3De ++ (wX1 k t4 u4rNa u4rMo u4rWa u4rDe u4Pe u4Da u4Dr u4Na u4Mo u4Wa u4De ++ (wX1 k t5 u5rNa u5rMo u5rWa u5rDe u5Pe_62 u5Da_71 u5Dr_64 u5Na_65 u5Mo_72 u5Wa_67 u5De_73 ++ (wX1 k t6 u6rNa u6rMo u6rWa u6rDe (j_75.1 0) (j_75.1 1) (j_75.1 2) (j_75.2 0) (j_75.2 1) (j_75.2 2) (j_75.2 3) ++ (wX1 k t7 u7rNa u7rMo u7rWa u7rDe (j_75.1 3) (j_75.1 4) (j_75.1 5) (j_75.2 4) (j_75.2 5) (j_75.2 6) (j_75.2 7) ++ (wX1 k t8 u8rNa u8rMo u8rWa u8rDe (j_75.1 6) (j_75.1 7) (j_75.1 8) (j_75.2 8) (j_75.2 9) (j_75.2 10) (j_75.2 11)))))))))))) [0, 1, 2, 3, 4, 5, 6, 7, 8, 9, 10, 11, 12, 13, 14, 15, 16, 17, 18, 19, 20, 21, 22, 23, 24, 25, 26, 27, 28, 29, 30, 31, 32, 33, 34, 35, 36, 37, 38, 39, 40, 41, 42, 43, 44, 45, 46] [] [0, 1, 2, 3, 4, 5, 6, 7, 8, 9, 10, 11, 12, 13, 14, 15, 16, 17, 18, 19, 20, 21, 22, 23, 24, 25, 26, 27, 28, 29, 30, 31, 32, 33, 34, 35, 36, 37, 38, 39, 40, 41, 42, 43, 44, 45, 46] rfl rfl (by decide) (by decide) (by decide) (fun _ => rfl) (by decide) 2 rfl rfl [.long t_61.toInt64, .long v5_2] rfl hl.1 rfl (Nat.le_of_ble_eq_true rfl) dX2_weighed_115 ⟨by decide, by decide⟩ (fun j_75 H locs (hw : Wd D A s.heap H locs (wX2 k xh xaA ++ (wOA k xaA t0 t1 t2 t3 t4 t5 t6 t7 t8 ++ (wX1 k t0 u0rNa u0rMo u0rWa u0rDe u0Pe u0Da u0Dr u0Na u0Mo u0Wa u0De ++ (wX1 k t1 u1rNa u1rMo u1rWa u1rDe u1Pe u1Da u1Dr u1Na u1Mo u1Wa u1De ++ (wX1 k t2 u2rNa u2rMo u2rWa u2rDe u2Pe u2Da u2Dr u2Na u2Mo u2Wa u2De ++ (wX1 k t3 u3rNa u3rMo u3rWa u3rDe u3Pe u3Da u3Dr u3Na u3Mo u3Wa u3De ++ (wX1 k t4 u4rNa u4rMo u4rWa u4rDe u4Pe u4Da u4Dr u4Na u4Mo u4Wa u4De ++ (wX1 k t5 u5rNa u5rMo u5rWa u5rDe u5Pe_62 u5Da_71 u5Dr_64 u5Na_65 u5Mo_72 u5Wa_67 u5De_73 ++ (wX1 k t6 u6rNa u6rMo u6rWa u6rDe (j_75.1 0) (j_75.1 1) (j_75.1 2) (j_75.2 0) (j_75.2 1) (j_75.2 2) (j_75.2 3) ++ (wX1 k t7 u7rNa u7rMo u7rWa u7rDe (j_75.1 3) (j_75.1 4) (j_75.1 5) (j_75.2 4) (j_75.2 5) (j_75.2 6) (j_75.2 7) ++ (wX1 k t8 u8rNa u8rMo u8rWa u8rDe (j_75.1 6) (j_75.1 7) (j_75.1 8) (j_75.2 8) (j_75.2 9) (j_75.2 10) (j_75.2 11))))))))))))) => ?_)
                refine W.eq (g2 := F0 m 118 ls ([.long r_74, .long t_61.toInt64, .long v5_2])) rfl ?_
                refine lv_lmul hx hb dX2_weighed_118 ?_
                refine lv_ladd hx hb dX2_weighed_119 ?_
                refine lv_lstore (lv' := [(5, .long (v5_2 + (t_61.toInt64 * r_74))), (0, .ref xh), (1, .int 4), (2, .int p2), (3, .int p3), (4, .int p4), (7, .ref t5), (8, .int v8_3), (9, .int t_61)]) hx hb dX2_weighed_120 hl (by decide) rfl (fun ls hl => ?_)
                refine lv_iinc (v := v8_3 + 1) (lv' := [(8, .int (v8_3 + 1)), (5, .long (v5_2 + (t_61.toInt64 * r_74))), (0, .ref xh), (1, .int 4), (2, .int p2), (3, .int p3), (4, .int p4), (7, .ref t5), (9, .int t_61)]) hx hb dX2_weighed_122 hl (k := 7) rfl rfl (by decide) rfl (fun ls hl => ?_)
                refine lv_goto (tgt := 44) hx hb dX2_weighed_125 (by decide) ?_
                exact ih _ _ h _ _ _ _ _ _ _ _ _ _ _ _ _ _ _ _ _ _ _ _ _ _ _ _ _ _ _ _ _ _ _ hw (lv_sub hl [2, 3, 4, 5, 6, 1, 7, 0] rfl)
              clear h
              have h := hj_85
              refine kb_if_ne (tgt := 93) hx hb dX2_weighed_85 (by decide) h (fun c_85 h => ?_) (fun c_85 h => ?_)
              · refine lv_bipush (v := 9) hx hb dX2_weighed_88 (by decide) ?_
                refine lv_goto (tgt := 98) hx hb dX2_weighed_90 (by decide) ?_
                cases h
                exact J_85 _ _ _ hw (lv_sub hl [1, 2, 3, 4, 5, 6, 7, 8, 0] rfl)
              · refine lv_aload hx hb dX2_weighed_93 (lv_at hl 7 rfl) ?_
                refine va_get (ci := 1) (v := .int u5Dr_64) (C := RX1) (T := TX1) (N := 7) hx hb hts hinX1 hown hK.1 hw.1 27 rfl rfl 2 (by decide) q_2 (fun _ h9 => h9) rfl dX2_weighed_95 ?_
                cases h
                exact J_85 _ _ _ hw (lv_sub hl [1, 2, 3, 4, 5, 6, 7, 8, 0] rfl)
          clear h
          have h := hj_52
          refine kb_if_ne (tgt := 59) hx hb dX2_weighed_52 (by decide) h (fun c_52 h => ?_) (fun c_52 h => ?_)
          · refine lv_iload_n hx hb dX2_weighed_55 rfl (lv_at hl 2 rfl) ?_
            refine lv_goto (tgt := 63) hx hb dX2_weighed_56 (by decide) ?_
            cases h
            exact J_52 _ _ _ hw (lv_sub hl [0, 1, 2, 3, 4, 5, 6, 7] rfl)
          · refine lv_bipush (v := 10) hx hb dX2_weighed_59 (by decide) ?_
            refine lv_iload_n hx hb dX2_weighed_61 rfl (lv_at hl 2 rfl) ?_
            refine lv_isub hx hb dX2_weighed_62 ?_
            cases h
            exact J_52 _ _ _ hw (lv_sub hl [0, 1, 2, 3, 4, 5, 6, 7] rfl)
    exact LP_44 400 0 0 hL_44 _ _ _ _ _ _ _ _ _ _ _ _ _ _ _ _ _ _ _ _ _ _ _ _ _ _ _ _ _ _ _ hw (lv_sub hl [3, 4, 5, 6, 7, 2, 1, 0] rfl)
abbrev rmX2_weighed_3 : Room := { frames := 8, cells := 0, slots := 0, locals := 211 }
set_option maxHeartbeats 4000000 in
set_option maxRecDepth 100000 in
theorem c_X2_weighed_3 (l : Launch) (D : va_G) (k : Nat → ClassId) (xh xaA t0 t1 t2 t3 t4 t5 t6 t7 t8 u0rNa u0rMo u0rWa u0rDe u1rNa u1rMo u1rWa u1rDe u2rNa u2rMo u2rWa u2rDe u3rNa u3rMo u3rWa u3rDe u4rNa u4rMo u4rWa u4rDe u5rNa u5rMo u5rWa u5rDe u6rNa u6rMo u6rWa u6rDe u7rNa u7rMo u7rWa u7rDe u8rNa u8rMo u8rWa u8rDe : Nat) (sz : Nat) (u0Pe : Int32) (u0Da : Int32) (u0Dr : Int32) (u0Na : (Nat → Int32)) (u0Mo : (Nat → Int32)) (u0Wa : (Nat → Int32)) (u0De : (Nat → Int32)) (u1Pe : Int32) (u1Da : Int32) (u1Dr : Int32) (u1Na : (Nat → Int32)) (u1Mo : (Nat → Int32)) (u1Wa : (Nat → Int32)) (u1De : (Nat → Int32)) (u2Pe : Int32) (u2Da : Int32) (u2Dr : Int32) (u2Na : (Nat → Int32)) (u2Mo : (Nat → Int32)) (u2Wa : (Nat → Int32)) (u2De : (Nat → Int32)) (u3Pe : Int32) (u3Da : Int32) (u3Dr : Int32) (u3Na : (Nat → Int32)) (u3Mo : (Nat → Int32)) (u3Wa : (Nat → Int32)) (u3De : (Nat → Int32)) (u4Pe : Int32) (u4Da : Int32) (u4Dr : Int32) (u4Na : (Nat → Int32)) (u4Mo : (Nat → Int32)) (u4Wa : (Nat → Int32)) (u4De : (Nat → Int32)) (u5Pe : Int32) (u5Da : Int32) (u5Dr : Int32) (u5Na : (Nat → Int32)) (u5Mo : (Nat → Int32)) (u5Wa : (Nat → Int32)) (u5De : (Nat → Int32)) (u6Pe : Int32) (u6Da : Int32) (u6Dr : Int32) (u6Na : (Nat → Int32)) (u6Mo : (Nat → Int32)) (u6Wa : (Nat → Int32)) (u6De : (Nat → Int32)) (u7Pe : Int32) (u7Da : Int32) (u7Dr : Int32) (u7Na : (Nat → Int32)) (u7Mo : (Nat → Int32)) (u7Wa : (Nat → Int32)) (u7De : (Nat → Int32)) (u8Pe : Int32) (u8Da : Int32) (u8Dr : Int32) (u8Na : (Nat → Int32)) (u8Mo : (Nat → Int32)) (u8Wa : (Nat → Int32)) (u8De : (Nat → Int32)) (p2 : Int32) (p3 : Int32) (p4 : Int32) (r_ : Int64) (hf : f_X2_weighed_3 u3Pe u3Da u3Dr u3Na u3Mo u3Wa u3De p2 p3 p4 = some r_) : mJ l yX2_weighed wsX2_weighed rmX2_weighed_3 D k sz [.ref xh, .int 3, .int p2, .int p3, .int p4] (wX2 k xh xaA ++ (wOA k xaA t0 t1 t2 t3 t4 t5 t6 t7 t8 ++ (wX1 k t0 u0rNa u0rMo u0rWa u0rDe u0Pe u0Da u0Dr u0Na u0Mo u0Wa u0De ++ (wX1 k t1 u1rNa u1rMo u1rWa u1rDe u1Pe u1Da u1Dr u1Na u1Mo u1Wa u1De ++ (wX1 k t2 u2rNa u2rMo u2rWa u2rDe u2Pe u2Da u2Dr u2Na u2Mo u2Wa u2De ++ (wX1 k t3 u3rNa u3rMo u3rWa u3rDe u3Pe u3Da u3Dr u3Na u3Mo u3Wa u3De ++ (wX1 k t4 u4rNa u4rMo u4rWa u4rDe u4Pe u4Da u4Dr u4Na u4Mo u4Wa u4De ++ (wX1 k t5 u5rNa u5rMo u5rWa u5rDe u5Pe u5Da u5Dr u5Na u5Mo u5Wa u5De ++ (wX1 k t6 u6rNa u6rMo u6rWa u6rDe u6Pe u6Da u6Dr u6Na u6Mo u6Wa u6De ++ (wX1 k t7 u7rNa u7rMo u7rWa u7rDe u7Pe u7Da u7Dr u7Na u7Mo u7Wa u7De ++ (wX1 k t8 u8rNa u8rMo u8rWa u8rDe u8Pe u8Da u8Dr u8Na u8Mo u8Wa u8De))))))))))) (fun j => wX2 k xh xaA ++ (wOA k xaA t0 t1 t2 t3 t4 t5 t6 t7 t8 ++ (wX1 k t0 u0rNa u0rMo u0rWa u0rDe u0Pe u0Da u0Dr u0Na u0Mo u0Wa u0De ++ (wX1 k t1 u1rNa u1rMo u1rWa u1rDe u1Pe u1Da u1Dr u1Na u1Mo u1Wa u1De ++ (wX1 k t2 u2rNa u2rMo u2rWa u2rDe u2Pe u2Da u2Dr u2Na u2Mo u2Wa u2De ++ (wX1 k t3 u3rNa u3rMo u3rWa u3rDe u3Pe u3Da u3Dr u3Na u3Mo u3Wa u3De ++ (wX1 k t4 u4rNa u4rMo u4rWa u4rDe (j.1 0) (j.1 1) (j.1 2) (j.2 0) (j.2 1) (j.2 2) (j.2 3) ++ (wX1 k t5 u5rNa u5rMo u5rWa u5rDe (j.1 3) (j.1 4) (j.1 5) (j.2 4) (j.2 5) (j.2 6) (j.2 7) ++ (wX1 k t6 u6rNa u6rMo u6rWa u6rDe (j.1 6) (j.1 7) (j.1 8) (j.2 8) (j.2 9) (j.2 10) (j.2 11) ++ (wX1 k t7 u7rNa u7rMo u7rWa u7rDe (j.1 9) (j.1 10) (j.1 11) (j.2 12) (j.2 13) (j.2 14) (j.2 15) ++ (wX1 k t8 u8rNa u8rMo u8rWa u8rDe (j.1 12) (j.1 13) (j.1 14) (j.2 16) (j.2 17) (j.2 18) (j.2 19)))))))))))) (some (.long r_)) := by
  refine mJ_of (cc := cX2_weighed) (maxL := 10) (ret := some .long) (by decide) rfl (Nat.le_of_ble_eq_true rfl) [(0, .ref xh), (1, .int 3), (2, .int p2), (3, .int p3), (4, .int p4)] rfl ?_
  intro p e s m below meth c A ls args Q cx hK hA hw hl hQ
  have fx := cx.1
  obtain ⟨⟨hx, hb, hml, hown, hts⟩, hr, hlocks⟩ := cx
  have hinX2 : ∀ w ∈ wsX20, w ∈ wsX2_weighed := fun w h => List.mem_cons_of_mem _ (List.mem_append_left _ (List.mem_append_right _ h))
  have hinX1 : ∀ w ∈ wsX10, w ∈ wsX2_weighed := fun w h => List.mem_cons_of_mem _ (List.mem_append_right _ h)
  have q_1 := hts (.fieldLink RX2 11 "DebtRides$Odds" "steps" "[LDebtRides$Land;") (List.mem_of_getElem? (i := 1) rfl)
  have q_2 := hts (.fieldLink RX2 41 "DebtRides$Land" "dryness" "I") (List.mem_of_getElem? (i := 2) rfl)
  have h := hf
  unfold f_X2_weighed_3 at h
  clear hf
  refine lv_iload_n hx hb dX2_weighed_0 rfl (lv_at hl 1 rfl) ?_
  refine lv_iload hx hb dX2_weighed_1 (lv_at hl 4 rfl) ?_
  have T_17 : f_X2_weighed_3_B17 u3Pe u3De p3 = some r_ → ∀ (H : Heap) (locs : List Loc) (ls : Array Slot), Wd D A s.heap H locs (wX2 k xh xaA ++ (wOA k xaA t0 t1 t2 t3 t4 t5 t6 t7 t8 ++ (wX1 k t0 u0rNa u0rMo u0rWa u0rDe u0Pe u0Da u0Dr u0Na u0Mo u0Wa u0De ++ (wX1 k t1 u1rNa u1rMo u1rWa u1rDe u1Pe u1Da u1Dr u1Na u1Mo u1Wa u1De ++ (wX1 k t2 u2rNa u2rMo u2rWa u2rDe u2Pe u2Da u2Dr u2Na u2Mo u2Wa u2De ++ (wX1 k t3 u3rNa u3rMo u3rWa u3rDe u3Pe u3Da u3Dr u3Na u3Mo u3Wa u3De ++ (wX1 k t4 u4rNa u4rMo u4rWa u4rDe u4Pe u4Da u4Dr u4Na u4Mo u4Wa u4De ++ (wX1 k t5 u5rNa u5rMo u5rWa u5rDe u5Pe u5Da u5Dr u5Na u5Mo u5Wa u5De ++ (wX1 k t6 u6rNa u6rMo u6rWa u6rDe u6Pe u6Da u6Dr u6Na u6Mo u6Wa u6De ++ (wX1 k t7 u7rNa u7rMo u7rWa u7rDe u7Pe u7Da u7Dr u7Na u7Mo u7Wa u7De ++ (wX1 k t8 u8rNa u8rMo u8rWa u8rDe u8Pe u8Da u8Dr u8Na u8Mo u8Wa u8De))))))))))) → lv_has ls 10 [(0, .ref xh), (1, .int 3), (3, .int p3)] → W p l e rmX2_weighed_3 s m args below meth c H locs 0 0 Q (F0 m 17 ls []) := by
    clear h
    intro h H locs ls hw hl
    unfold f_X2_weighed_3_B17 at h
    refine lv_aload_n hx hb dX2_weighed_17 rfl (lv_at hl 0 rfl) ?_
    refine va_get (ci := 2) (v := .ref xaA) (C := RX2) (T := TX2) (N := 1) hx hb hts hinX2 hown hK.1 hw.1 0 rfl rfl 0 (by decide) q_1 (fun _ h9 => h9) rfl dX2_weighed_18 ?_
    refine lv_iload_n hx hb dX2_weighed_21 rfl (lv_at hl 1 rfl) ?_
    refine k_aald hx hb hK hw 1 3 (j := 3) (a' := t3) rfl rfl rfl (by unfold vp_in; decide) rfl dX2_weighed_22 ?_
    refine lv_iload_n hx hb dX2_weighed_23 rfl (lv_at hl 2 rfl) ?_
    obtain ⟨r_1, hf, h⟩ := b1_inv h
    refine k_callS (b := 0) (C := "") (host := "") fx hK hA hw (c_X2_worth l D k t3 u3rNa u3rMo u3rWa u3rDe _ u3Pe u3Da u3Dr u3Na u3Mo u3Wa u3De p3 r_1 hf) (va_cwS 2 hts gX2_weighed_X2_worth rfl rfl rfl (by decide +kernel) ⟨by decide, by decide⟩) (As := [.ref t3, .int p3]) (wr := [(xh, .inr (2, [.ref xaA])), (xaA, .inl (k 3, 9, .inr (.inr (.inr (.inr (rl [t0, t1, t2, t3, t4, t5, t6, t7, t8])))))), (t0, .inr (1, [.int u0Pe, .int u0Da, .int u0Dr, .ref u0rNa, .ref u0rMo, .ref u0rWa, .ref u0rDe])), (u0rNa, .inl (k 0, 5, .inl u0Na)), (u0rMo, .inl (k 0, 5, .inl u0Mo)), (u0rWa, .inl (k 0, 5, .inl u0Wa)), (u0rDe, .inl (k 0, 25, .inl u0De)), (t1, .inr (1, [.int u1Pe, .int u1Da, .int u1Dr, .ref u1rNa, .ref u1rMo, .ref u1rWa, .ref u1rDe])), (u1rNa, .inl (k 0, 5, .inl u1Na)), (u1rMo, .inl (k 0, 5, .inl u1Mo)), (u1rWa, .inl (k 0, 5, .inl u1Wa)), (u1rDe, .inl (k 0, 25, .inl u1De)), (t2, .inr (1, [.int u2Pe, .int u2Da, .int u2Dr, .ref u2rNa, .ref u2rMo, .ref u2rWa, .ref u2rDe])), (u2rNa, .inl (k 0, 5, .inl u2Na)), (u2rMo, .inl (k 0, 5, .inl u2Mo)), (u2rWa, .inl (k 0, 5, .inl u2Wa)), (u2rDe, .inl (k 0, 25, .inl u2De)), (t4, .inr (1, [.int u4Pe, .int u4Da, .int u4Dr, .ref u4rNa, .ref u4rMo, .ref u4rWa, .ref u4rDe])), (u4rNa, .inl (k 0, 5, .inl u4Na)), (u4rMo, .inl (k 0, 5, .inl u4Mo)), (u4rWa, .inl (k 0, 5, .inl u4Wa)), (u4rDe, .inl (k 0, 25, .inl u4De)), (t5, .inr (1, [.int u5Pe, .int u5Da, .int u5Dr, .ref u5rNa, .ref u5rMo, .ref u5rWa, .ref u5rDe])), (u5rNa, .inl (k 0, 5, .inl u5Na)), (u5rMo, .inl (k 0, 5, .inl u5Mo)), (u5rWa, .inl (k 0, 5, .inl u5Wa)), (u5rDe, .inl (k 0, 25, .inl u5De)), (t6, .inr (1, [.int u6Pe, .int u6Da, .int u6Dr, .ref u6rNa, .ref u6rMo, .ref u6rWa, .ref u6rDe])), (u6rNa, .inl (k 0, 5, .inl u6Na)), (u6rMo, .inl (k 0, 5, .inl u6Mo)), (u6rWa, .inl (k 0, 5, .inl u6Wa)), (u6rDe, .inl (k 0, 25, .inl u6De)), (t7, .inr (1, [.int u7Pe, .int u7Da, .int u7Dr, .ref u7rNa, .ref u7rMo, .ref u7rWa, .ref u7rDe])), (u7rNa, .inl (k 0, 5, .inl u7Na)), (u7rMo, .inl (k 0, 5, .inl u7Mo)), (u7rWa, .inl (k 0, 5, .inl u7Wa)), (u7rDe, .inl (k 0, 25, .inl u7De)), (t8, .inr (1, [.int u8Pe, .int u8Da, .int u8Dr, .ref u8rNa, .ref u8rMo, .ref u8rWa, .ref u8rDe])), (u8rNa, .inl (k 0, 5, .inl u8Na)), (u8rMo, .inl (k 0, 5, .inl u8Mo)), (u8rWa, .inl (k 0, 5, .inl u8Wa)), (u8rDe, .inl (k 0, 25, .inl u8De))]) (ws' := wX2 k xh xaA ++ (wOA k xaA t0 t1 t2 t3 t4 t5 t6 t7 t8 ++ (wX1 k t0 u0rNa u0rMo u0rWa u0rDe u0Pe u0Da u0Dr u0Na u0Mo u0Wa u0De ++ (wX1 k t1 u1rNa u1rMo u1rWa u1rDe u1Pe u1Da u1Dr u1Na u1Mo u1Wa u1De ++ (wX1 k t2 u2rNa u2rMo u2rWa u2rDe u2Pe u2Da u2Dr u2Na u2Mo u2Wa u2De ++ (wX1 k t3 u3rNa u3rMo u3rWa u3rDe u3Pe u3Da u3Dr u3Na u3Mo u3Wa u3De ++ (wX1 k t4 u4rNa u4rMo u4rWa u4rDe u4Pe u4Da u4Dr u4Na u4Mo u4Wa u4De ++ (wX1 k t5 u5rNa u5rMo u5rWa u5rDe u5Pe u5Da u5Dr u5Na u5Mo u5Wa u5De ++ (wX1 k t6 u6rNa u6rMo u6rWa u6rDe u6Pe u6Da u6Dr u6Na u6Mo u6Wa u6De ++ (wX1 k t7 u7rNa u7rMo u7rWa u7rDe u7Pe u7Da u7Dr u7Na u7Mo u7Wa u7De ++ (wX1 k t8 u8rNa u8rMo u8rWa u8rDe u8Pe u8Da u8Dr u8Na u8Mo u8Wa u8De))))))))))) [17, 18, 19, 20, 21] [0, 1, 2, 3, 4, 5, 6, 7, 8, 9, 10, 11, 12, 13, 14, 15, 16, 22, 23, 24, 25, 26, 27, 28, 29, 30, 31, 32, 33, 34, 35, 36, 37, 38, 39, 40, 41, 42, 43, 44, 45, 46] [0, 1, 2, 3, 4, 5, 6, 7, 8, 9, 10, 11, 12, 13, 14, 15, 16, 42, 43, 44, 45, 46, 17, 18, 19, 20, 21, 22, 23, 24, 25, 26, 27, 28, 29, 30, 31, 32, 33, 34, 35, 36, 37, 38, 39, 40, 41] rfl rfl (by decide) (by decide) (by decide) rfl (by decide) [] rfl hl.1 rfl (Nat.le_of_ble_eq_true rfl) dX2_weighed_24 ⟨by decide, by decide⟩ (fun H locs (hw : Wd D A s.heap H locs (wX2 k xh xaA ++ (wOA k xaA t0 t1 t2 t3 t4 t5 t6 t7 t8 ++ (wX1 k t0 u0rNa u0rMo u0rWa u0rDe u0Pe u0Da u0Dr u0Na u0Mo u0Wa u0De ++ (wX1 k t1 u1rNa u1rMo u1rWa u1rDe u1Pe u1Da u1Dr u1Na u1Mo u1Wa u1De ++ (wX1 k t2 u2rNa u2rMo u2rWa u2rDe u2Pe u2Da u2Dr u2Na u2Mo u2Wa u2De ++ (wX1 k t3 u3rNa u3rMo u3rWa u3rDe u3Pe u3Da u3Dr u3Na u3Mo u3Wa u3De ++ (wX1 k t4 u4rNa u4rMo u4rWa u4rDe u4Pe u4Da u4Dr u4Na u4Mo u4Wa u4De ++ (wX1 k t5 u5rNa u5rMo u5rWa u5rDe u5Pe u5Da u5Dr u5Na u5Mo u5Wa u5De ++ (wX1 k t6 u6rNa u6rMo u6rWa u6rDe u6Pe u6Da u6Dr u6Na u6Mo u6Wa u6De ++ (wX1 k t7 u7rNa u7rMo u7rWa u7rDe u7Pe u7Da u7Dr u7Na u7Mo u7Wa u7De ++ (wX1 k t8 u8rNa u8rMo u8rWa u8rDe u8Pe u8Da u8Dr u8Na u8Mo u8Wa u8De)))))))))))) => ?_)
    refine W.eq (g2 := F0 m 27 ls ([.long r_1])) rfl ?_
    cases h
    exact k_jlret (j := (fun i => List.getD [u4Pe, u4Da, u4Dr, u5Pe, u5Da, u5Dr, u6Pe, u6Da, u6Dr, u7Pe, u7Da, u7Dr, u8Pe, u8Da, u8Dr] i 0, fun i => List.getD [u4Na, u4Mo, u4Wa, u4De, u5Na, u5Mo, u5Wa, u5De, u6Na, u6Mo, u6Wa, u6De, u7Na, u7Mo, u7Wa, u7De, u8Na, u8Mo, u8Wa, u8De] i (fun _ => 0))) hx hb hr hlocks hw rfl dX2_weighed_27 hQ
  refine kb_icmp_ge (tgt := 17) hx hb dX2_weighed_3 (by decide) h (fun c_3 h => ?_) (fun c_3 h => ?_)
  · exact T_17 h _ _ _ hw (lv_sub hl [0, 1, 3] rfl)
  · refine lv_iload_n hx hb dX2_weighed_6 rfl (lv_at hl 1 rfl) ?_
    refine lv_iconst (v := 1) hx hb dX2_weighed_7 (by decide) ?_
    refine lv_iadd hx hb dX2_weighed_8 ?_
    refine k_lit (y := 4) (by decide) ?_
    refine lv_aload_n hx hb dX2_weighed_9 rfl (lv_at hl 0 rfl) ?_
    refine va_get (ci := 2) (v := .ref xaA) (C := RX2) (T := TX2) (N := 1) hx hb hts hinX2 hown hK.1 hw.1 0 rfl rfl 0 (by decide) q_1 (fun _ h9 => h9) rfl dX2_weighed_10 ?_
    refine va_alen (v := 9) hx hb hK.1 hw.1 1 3 rfl rfl rfl dX2_weighed_13 ?_
    refine lv_icmp_lt (tgt := 28) hx hb dX2_weighed_14 (by decide) (fun _ => ?_) (fun q => absurd (by decide) q)
    refine lv_lconst (v := 0) hx hb dX2_weighed_28 rfl ?_
    refine lv_lstore (lv' := [(5, .long 0), (0, .ref xh), (1, .int 3), (2, .int p2), (3, .int p3), (4, .int p4)]) hx hb dX2_weighed_29 hl (by decide) rfl (fun ls hl => ?_)
    refine lv_aload_n hx hb dX2_weighed_31 rfl (lv_at hl 1 rfl) ?_
    refine va_get (ci := 2) (v := .ref xaA) (C := RX2) (T := TX2) (N := 1) hx hb hts hinX2 hown hK.1 hw.1 0 rfl rfl 0 (by decide) q_1 (fun _ h9 => h9) rfl dX2_weighed_32 ?_
    refine lv_iload_n hx hb dX2_weighed_35 rfl (lv_at hl 2 rfl) ?_
    refine lv_iconst (v := 1) hx hb dX2_weighed_36 (by decide) ?_
    refine lv_iadd hx hb dX2_weighed_37 ?_
    refine k_lit (y := 4) (by decide) ?_
    refine k_aald hx hb hK hw 1 3 (j := 4) (a' := t4) rfl rfl rfl (by unfold vp_in; decide) rfl dX2_weighed_38 ?_
    refine lv_astore (lv' := [(7, .ref t4), (5, .long 0), (0, .ref xh), (1, .int 3), (2, .int p2), (3, .int p3), (4, .int p4)]) hx hb dX2_weighed_39 hl (by decide) rfl (fun ls hl => ?_)
    refine lv_iconst (v := 0) hx hb dX2_weighed_41 (by decide) ?_
    refine lv_istore (lv' := [(8, .int 0), (7, .ref t4), (5, .long 0), (0, .ref xh), (1, .int 3), (2, .int p2), (3, .int p3), (4, .int p4)]) hx hb dX2_weighed_42 hl (by decide) rfl (fun ls hl => ?_)
    obtain ⟨v5_39, hL_44, h⟩ := b1_inv h
    have X_44 : ∀ (u4Pe_40 : Int32) (u4Da_41 : Int32) (u4Dr_42 : Int32) (u4Na_43 : (Nat → Int32)) (u4Mo_44 : (Nat → Int32)) (u4Wa_45 : (Nat → Int32)) (u4De_46 : (Nat → Int32)) (u5Pe_47 : Int32) (u5Da_48 : Int32) (u5Dr_49 : Int32) (u5Na_50 : (Nat → Int32)) (u5Mo_51 : (Nat → Int32)) (u5Wa_52 : (Nat → Int32)) (u5De_53 : (Nat → Int32)) (u6Pe_54 : Int32) (u6Da_55 : Int32) (u6Dr_56 : Int32) (u6Na_57 : (Nat → Int32)) (u6Mo_58 : (Nat → Int32)) (u6Wa_59 : (Nat → Int32)) (u6De_60 : (Nat → Int32)) (u7Pe_61 : Int32) (u7Da_62 : Int32) (u7Dr_63 : Int32) (u7Na_64 : (Nat → Int32)) (u7Mo_65 : (Nat → Int32)) (u7Wa_66 : (Nat → Int32)) (u7De_67 : (Nat → Int32)) (u8Pe_68 : Int32) (u8Da_69 : Int32) (u8Dr_70 : Int32) (u8Na_71 : (Nat → Int32)) (u8Mo_72 : (Nat → Int32)) (u8Wa_73 : (Nat → Int32)) (u8De_74 : (Nat → Int32)) (H : Heap) (locs : List Loc) (ls : Array Slot), Wd D A s.heap H locs (wX2 k xh xaA ++ (wOA k xaA t0 t1 t2 t3 t4 t5 t6 t7 t8 ++ (wX1 k t0 u0rNa u0rMo u0rWa u0rDe u0Pe u0Da u0Dr u0Na u0Mo u0Wa u0De ++ (wX1 k t1 u1rNa u1rMo u1rWa u1rDe u1Pe u1Da u1Dr u1Na u1Mo u1Wa u1De ++ (wX1 k t2 u2rNa u2rMo u2rWa u2rDe u2Pe u2Da u2Dr u2Na u2Mo u2Wa u2De ++ (wX1 k t3 u3rNa u3rMo u3rWa u3rDe u3Pe u3Da u3Dr u3Na u3Mo u3Wa u3De ++ (wX1 k t4 u4rNa u4rMo u4rWa u4rDe u4Pe_40 u4Da_41 u4Dr_42 u4Na_43 u4Mo_44 u4Wa_45 u4De_46 ++ (wX1 k t5 u5rNa u5rMo u5rWa u5rDe u5Pe_47 u5Da_48 u5Dr_49 u5Na_50 u5Mo_51 u5Wa_52 u5De_53 ++ (wX1 k t6 u6rNa u6rMo u6rWa u6rDe u6Pe_54 u6Da_55 u6Dr_56 u6Na_57 u6Mo_58 u6Wa_59 u6De_60 ++ (wX1 k t7 u7rNa u7rMo u7rWa u7rDe u7Pe_61 u7Da_62 u7Dr_63 u7Na_64 u7Mo_65 u7Wa_66 u7De_67 ++ (wX1 k t8 u8rNa u8rMo u8rWa u8rDe u8Pe_68 u8Da_69 u8Dr_70 u8Na_71 u8Mo_72 u8Wa_73 u8De_74))))))))))) → lv_has ls 10 [(5, .long v5_39)] → W p l e rmX2_weighed_3 s m args below meth c H locs 0 0 Q (F0 m 128 ls []) := by
      intro u4Pe_40 u4Da_41 u4Dr_42 u4Na_43 u4Mo_44 u4Wa_45 u4De_46 u5Pe_47 u5Da_48 u5Dr_49 u5Na_50 u5Mo_51 u5Wa_52 u5De_53 u6Pe_54 u6Da_55 u6Dr_56 u6Na_57 u6Mo_58 u6Wa_59 u6De_60 u7Pe_61 u7Da_62 u7Dr_63 u7Na_64 u7Mo_65 u7Wa_66 u7De_67 u8Pe_68 u8Da_69 u8Dr_70 u8Na_71 u8Mo_72 u8Wa_73 u8De_74 H locs ls hw hl
      refine lv_lload hx hb dX2_weighed_128 (lv_at hl 0 rfl) ?_
      cases h
      exact k_jlret (j := (fun i => List.getD [u4Pe_40, u4Da_41, u4Dr_42, u5Pe_47, u5Da_48, u5Dr_49, u6Pe_54, u6Da_55, u6Dr_56, u7Pe_61, u7Da_62, u7Dr_63, u8Pe_68, u8Da_69, u8Dr_70] i 0, fun i => List.getD [u4Na_43, u4Mo_44, u4Wa_45, u4De_46, u5Na_50, u5Mo_51, u5Wa_52, u5De_53, u6Na_57, u6Mo_58, u6Wa_59, u6De_60, u7Na_64, u7Mo_65, u7Wa_66, u7De_67, u8Na_71, u8Mo_72, u8Wa_73, u8De_74] i (fun _ => 0))) hx hb hr hlocks hw rfl dX2_weighed_130 hQ
    clear h
    have LP_44 : ∀ (n : Nat) (v5_2 : Int64) (v8_3 : Int32), f_X2_weighed_3_L44 u3Pe u3Da u3Dr u3Na u3Mo u3Wa u3De p2 p3 p4 n v5_2 v8_3 = some v5_39 → ∀ (u4Pe_4 : Int32) (u4Da_5 : Int32) (u4Dr_6 : Int32) (u4Na_7 : (Nat → Int32)) (u4Mo_8 : (Nat → Int32)) (u4Wa_9 : (Nat → Int32)) (u4De_10 : (Nat → Int32)) (u5Pe_11 : Int32) (u5Da_12 : Int32) (u5Dr_13 : Int32) (u5Na_14 : (Nat → Int32)) (u5Mo_15 : (Nat → Int32)) (u5Wa_16 : (Nat → Int32)) (u5De_17 : (Nat → Int32)) (u6Pe_18 : Int32) (u6Da_19 : Int32) (u6Dr_20 : Int32) (u6Na_21 : (Nat → Int32)) (u6Mo_22 : (Nat → Int32)) (u6Wa_23 : (Nat → Int32)) (u6De_24 : (Nat → Int32)) (u7Pe_25 : Int32) (u7Da_26 : Int32) (u7Dr_27 : Int32) (u7Na_28 : (Nat → Int32)) (u7Mo_29 : (Nat → Int32)) (u7Wa_30 : (Nat → Int32)) (u7De_31 : (Nat → Int32)) (u8Pe_32 : Int32) (u8Da_33 : Int32) (u8Dr_34 : Int32) (u8Na_35 : (Nat → Int32)) (u8Mo_36 : (Nat → Int32)) (u8Wa_37 : (Nat → Int32)) (u8De_38 : (Nat → Int32)) (H : Heap) (locs : List Loc) (ls : Array Slot), Wd D A s.heap H locs (wX2 k xh xaA ++ (wOA k xaA t0 t1 t2 t3 t4 t5 t6 t7 t8 ++ (wX1 k t0 u0rNa u0rMo u0rWa u0rDe u0Pe u0Da u0Dr u0Na u0Mo u0Wa u0De ++ (wX1 k t1 u1rNa u1rMo u1rWa u1rDe u1Pe u1Da u1Dr u1Na u1Mo u1Wa u1De ++ (wX1 k t2 u2rNa u2rMo u2rWa u2rDe u2Pe u2Da u2Dr u2Na u2Mo u2Wa u2De ++ (wX1 k t3 u3rNa u3rMo u3rWa u3rDe u3Pe u3Da u3Dr u3Na u3Mo u3Wa u3De ++ (wX1 k t4 u4rNa u4rMo u4rWa u4rDe u4Pe_4 u4Da_5 u4Dr_6 u4Na_7 u4Mo_8 u4Wa_9 u4De_10 ++ (wX1 k t5 u5rNa u5rMo u5rWa u5rDe u5Pe_11 u5Da_12 u5Dr_13 u5Na_14 u5Mo_15 u5Wa_16 u5De_17 ++ (wX1 k t6 u6rNa u6rMo u6rWa u6rDe u6Pe_18 u6Da_19 u6Dr_20 u6Na_21 u6Mo_22 u6Wa_23 u6De_24 ++ (wX1 k t7 u7rNa u7rMo u7rWa u7rDe u7Pe_25 u7Da_26 u7Dr_27 u7Na_28 u7Mo_29 u7Wa_30 u7De_31 ++ (wX1 k t8 u8rNa u8rMo u8rWa u8rDe u8Pe_32 u8Da_33 u8Dr_34 u8Na_35 u8Mo_36 u8Wa_37 u8De_38))))))))))) → lv_has ls 10 [(0, .ref xh), (1, .int 3), (2, .int p2), (3, .int p3), (4, .int p4), (5, .long v5_2), (7, .ref t4), (8, .int v8_3)] → W p l e rmX2_weighed_3 s m args below meth c H locs 0 0 Q (F0 m 44 ls []) := by
      clear hL_44 hw hl
      intro n
      induction n with
      | zero => intro v5_2 v8_3 h; rw [f_X2_weighed_3_L44] at h; cases h
      | succ n ih =>
        intro v5_2 v8_3 h u4Pe_4 u4Da_5 u4Dr_6 u4Na_7 u4Mo_8 u4Wa_9 u4De_10 u5Pe_11 u5Da_12 u5Dr_13 u5Na_14 u5Mo_15 u5Wa_16 u5De_17 u6Pe_18 u6Da_19 u6Dr_20 u6Na_21 u6Mo_22 u6Wa_23 u6De_24 u7Pe_25 u7Da_26 u7Dr_27 u7Na_28 u7Mo_29 u7Wa_30 u7De_31 u8Pe_32 u8Da_33 u8Dr_34 u8Na_35 u8Mo_36 u8Wa_37 u8De_38 H locs ls hw hl
        rw [f_X2_weighed_3_L44] at h
        refine lv_iload hx hb dX2_weighed_44 (lv_at hl 7 rfl) ?_
        refine lv_iconst (v := 2) hx hb dX2_weighed_46 (by decide) ?_
        refine kb_icmp_ge (tgt := 128) hx hb dX2_weighed_47 (by decide) h (fun c_47 h => ?_) (fun c_47 h => ?_)
        · cases h
          exact X_44 _ _ _ _ _ _ _ _ _ _ _ _ _ _ _ _ _ _ _ _ _ _ _ _ _ _ _ _ _ _ _ _ _ _ _ _ _ _ hw (lv_sub hl [5] rfl)
        · refine lv_iload hx hb dX2_weighed_50 (lv_at hl 7 rfl) ?_
          obtain ⟨t_75, hj_52, h⟩ := b1_inv h
          have J_52 : ∀ (H : Heap) (locs : List Loc) (ls : Array Slot), Wd D A s.heap H locs (wX2 k xh xaA ++ (wOA k xaA t0 t1 t2 t3 t4 t5 t6 t7 t8 ++ (wX1 k t0 u0rNa u0rMo u0rWa u0rDe u0Pe u0Da u0Dr u0Na u0Mo u0Wa u0De ++ (wX1 k t1 u1rNa u1rMo u1rWa u1rDe u1Pe u1Da u1Dr u1Na u1Mo u1Wa u1De ++ (wX1 k t2 u2rNa u2rMo u2rWa u2rDe u2Pe u2Da u2Dr u2Na u2Mo u2Wa u2De ++ (wX1 k t3 u3rNa u3rMo u3rWa u3rDe u3Pe u3Da u3Dr u3Na u3Mo u3Wa u3De ++ (wX1 k t4 u4rNa u4rMo u4rWa u4rDe u4Pe_4 u4Da_5 u4Dr_6 u4Na_7 u4Mo_8 u4Wa_9 u4De_10 ++ (wX1 k t5 u5rNa u5rMo u5rWa u5rDe u5Pe_11 u5Da_12 u5Dr_13 u5Na_14 u5Mo_15 u5Wa_16 u5De_17 ++ (wX1 k t6 u6rNa u6rMo u6rWa u6rDe u6Pe_18 u6Da_19 u6Dr_20 u6Na_21 u6Mo_22 u6Wa_23 u6De_24 ++ (wX1 k t7 u7rNa u7rMo u7rWa u7rDe u7Pe_25 u7Da_26 u7Dr_27 u7Na_28 u7Mo_29 u7Wa_30 u7De_31 ++ (wX1 k t8 u8rNa u8rMo u8rWa u8rDe u8Pe_32 u8Da_33 u8Dr_34 u8Na_35 u8Mo_36 u8Wa_37 u8De_38))))))))))) → lv_has ls 10 [(0, .ref xh), (1, .int 3), (2, .int p2), (3, .int p3), (4, .int p4), (5, .long v5_2), (7, .ref t4), (8, .int v8_3)] → W p l e rmX2_weighed_3 s m args below meth c H locs 0 0 Q (F0 m 63 ls [.int t_75]) := by
            intro H locs ls hw hl
            refine lv_istore (lv' := [(9, .int t_75), (0, .ref xh), (1, .int 3), (2, .int p2), (3, .int p3), (4, .int p4), (5, .long v5_2), (7, .ref t4), (8, .int v8_3)]) hx hb dX2_weighed_63 hl (by decide) rfl (fun ls hl => ?_)
            refine lv_iload hx hb dX2_weighed_65 (lv_at hl 0 rfl) ?_
            refine kb_if_le (tgt := 122) hx hb dX2_weighed_67 (by decide) h (fun c_67 h => ?_) (fun c_67 h => ?_)
            · refine lv_iinc (v := v8_3 + 1) (lv' := [(8, .int (v8_3 + 1)), (9, .int t_75), (0, .ref xh), (1, .int 3), (2, .int p2), (3, .int p3), (4, .int p4), (5, .long v5_2), (7, .ref t4)]) hx hb dX2_weighed_122 hl (k := 8) rfl rfl (by decide) rfl (fun ls hl => ?_)
              refine lv_goto (tgt := 44) hx hb dX2_weighed_125 (by decide) ?_
              exact ih _ _ h _ _ _ _ _ _ _ _ _ _ _ _ _ _ _ _ _ _ _ _ _ _ _ _ _ _ _ _ _ _ _ _ _ _ _ _ _ _ hw (lv_sub hl [2, 3, 4, 5, 6, 7, 8, 0] rfl)
            · refine lv_aload hx hb dX2_weighed_70 (lv_at hl 7 rfl) ?_
              refine lv_aload_n hx hb dX2_weighed_72 rfl (lv_at hl 1 rfl) ?_
              refine va_get (ci := 2) (v := .ref xaA) (C := RX2) (T := TX2) (N := 1) hx hb hts hinX2 hown hK.1 hw.1 0 rfl rfl 0 (by decide) q_1 (fun _ h9 => h9) rfl dX2_weighed_73 ?_
              refine lv_iload_n hx hb dX2_weighed_76 rfl (lv_at hl 2 rfl) ?_
              refine k_aald hx hb hK hw 1 3 (j := 3) (a' := t3) rfl rfl rfl (by unfold vp_in; decide) rfl dX2_weighed_77 ?_
              obtain ⟨u4Pe_76, u4Da_77, u4Dr_78, u4Na_79, u4Mo_80, u4Wa_81, u4De_82, hf, h⟩ := b7_inv h
              refine k_callV (host := "") fx hK hA hw (c_X1_become l D k t4 u4rNa u4rMo u4rWa u4rDe t3 u3rNa u3rMo u3rWa u3rDe _ u4Pe_4 u4Da_5 u4Dr_6 u4Na_7 u4Mo_8 u4Wa_9 u4De_10 u3Pe u3Da u3Dr u3Na u3Mo u3Wa u3De u4Pe_76 u4Da_77 u4Dr_78 u4Na_79 u4Mo_80 u4Wa_81 u4De_82 hf) (cwV 1 hts gX2_weighed_X1_become rfl rfl rfl (by decide +kernel) ⟨by decide, by decide⟩) (As := [.ref t3]) (wr := [(xh, .inr (2, [.ref xaA])), (xaA, .inl (k 3, 9, .inr (.inr (.inr (.inr (rl [t0, t1, t2, t3, t4, t5, t6, t7, t8])))))), (t0, .inr (1, [.int u0Pe, .int u0Da, .int u0Dr, .ref u0rNa, .ref u0rMo, .ref u0rWa, .ref u0rDe])), (u0rNa, .inl (k 0, 5, .inl u0Na)), (u0rMo, .inl (k 0, 5, .inl u0Mo)), (u0rWa, .inl (k 0, 5, .inl u0Wa)), (u0rDe, .inl (k 0, 25, .inl u0De)), (t1, .inr (1, [.int u1Pe, .int u1Da, .int u1Dr, .ref u1rNa, .ref u1rMo, .ref u1rWa, .ref u1rDe])), (u1rNa, .inl (k 0, 5, .inl u1Na)), (u1rMo, .inl (k 0, 5, .inl u1Mo)), (u1rWa, .inl (k 0, 5, .inl u1Wa)), (u1rDe, .inl (k 0, 25, .inl u1De)), (t2, .inr (1, [.int u2Pe, .int u2Da, .int u2Dr, .ref u2rNa, .ref u2rMo, .ref u2rWa, .ref u2rDe])), (u2rNa, .inl (k 0, 5, .inl u2Na)), (u2rMo, .inl (k 0, 5, .inl u2Mo)), (u2rWa, .inl (k 0, 5, .inl u2Wa)), (u2rDe, .inl (k 0, 25, .inl u2De)), (t5, .inr (1, [.int u5Pe_11, .int u5Da_12, .int u5Dr_13, .ref u5rNa, .ref u5rMo, .ref u5rWa, .ref u5rDe])), (u5rNa, .inl (k 0, 5, .inl u5Na_14)), (u5rMo, .inl (k 0, 5, .inl u5Mo_15)), (u5rWa, .inl (k 0, 5, .inl u5Wa_16)), (u5rDe, .inl (k 0, 25, .inl u5De_17)), (t6, .inr (1, [.int u6Pe_18, .int u6Da_19, .int u6Dr_20, .ref u6rNa, .ref u6rMo, .ref u6rWa, .ref u6rDe])), (u6rNa, .inl (k 0, 5, .inl u6Na_21)), (u6rMo, .inl (k 0, 5, .inl u6Mo_22)), (u6rWa, .inl (k 0, 5, .inl u6Wa_23)), (u6rDe, .inl (k 0, 25, .inl u6De_24)), (t7, .inr (1, [.int u7Pe_25, .int u7Da_26, .int u7Dr_27, .ref u7rNa, .ref u7rMo, .ref u7rWa, .ref u7rDe])), (u7rNa, .inl (k 0, 5, .inl u7Na_28)), (u7rMo, .inl (k 0, 5, .inl u7Mo_29)), (u7rWa, .inl (k 0, 5, .inl u7Wa_30)), (u7rDe, .inl (k 0, 25, .inl u7De_31)), (t8, .inr (1, [.int u8Pe_32, .int u8Da_33, .int u8Dr_34, .ref u8rNa, .ref u8rMo, .ref u8rWa, .ref u8rDe])), (u8rNa, .inl (k 0, 5, .inl u8Na_35)), (u8rMo, .inl (k 0, 5, .inl u8Mo_36)), (u8rWa, .inl (k 0, 5, .inl u8Wa_37)), (u8rDe, .inl (k 0, 25, .inl u8De_38))]) (ws' := wX2 k xh xaA ++ (wOA k xaA t0 t1 t2 t3 t4 t5 t6 t7 t8 ++ (wX1 k t0 u0rNa u0rMo u0rWa u0rDe u0Pe u0Da u0Dr u0Na u0Mo u0Wa u0De ++ (wX1 k t1 u1rNa u1rMo u1rWa u1rDe u1Pe u1Da u1Dr u1Na u1Mo u1Wa u1De ++ (wX1 k t2 u2rNa u2rMo u2rWa u2rDe u2Pe u2Da u2Dr u2Na u2Mo u2Wa u2De ++ (wX1 k t3 u3rNa u3rMo u3rWa u3rDe u3Pe u3Da u3Dr u3Na u3Mo u3Wa u3De ++ (wX1 k t4 u4rNa u4rMo u4rWa u4rDe u4Pe_76 u4Da_77 u4Dr_78 u4Na_79 u4Mo_80 u4Wa_81 u4De_82 ++ (wX1 k t5 u5rNa u5rMo u5rWa u5rDe u5Pe_11 u5Da_12 u5Dr_13 u5Na_14 u5Mo_15 u5Wa_16 u5De_17 ++ (wX1 k t6 u6rNa u6rMo u6rWa u6rDe u6Pe_18 u6Da_19 u6Dr_20 u6Na_21 u6Mo_22 u6Wa_23 u6De_24 ++ (wX1 k t7 u7rNa u7rMo u7rWa u7rDe u7Pe_25 u7Da_26 u7Dr_27 u7Na_28 u7Mo_29 u7Wa_30 u7De_31 ++ (wX1 k t8 u8rNa u8rMo u8rWa u8rDe u8Pe_32 u8Da_33 u8Dr_34 u8Na_35 u8Mo_36 u8Wa_37 u8De_38))))))))))) [22, 23, 24, 25, 26, 17, 18, 19, 20, 21] [0, 1, 2, 3, 4, 5, 6, 7, 8, 9, 10, 11, 12, 13, 14, 15, 16, 27, 28, 29, 30, 31, 32, 33, 34, 35, 36, 37, 38, 39, 40, 41, 42, 43, 44, 45, 46] [0, 1, 2, 3, 4, 5, 6, 7, 8, 9, 10, 11, 12, 13, 14, 15, 16, 42, 43, 44, 45, 46, 37, 38, 39, 40, 41, 17, 18, 19, 20, 21, 22, 23, 24, 25, 26, 27, 28, 29, 30, 31, 32, 33, 34, 35, 36] rfl rfl (by decide) (by decide) (by decide) rfl (by decide) 1 rfl rfl [] rfl hl.1 rfl (Nat.le_of_ble_eq_true rfl) dX2_weighed_78 ⟨by decide, by decide⟩ (fun H locs (hw : Wd D A s.heap H locs (wX2 k xh xaA ++ (wOA k xaA t0 t1 t2 t3 t4 t5 t6 t7 t8 ++ (wX1 k t0 u0rNa u0rMo u0rWa u0rDe u0Pe u0Da u0Dr u0Na u0Mo u0Wa u0De ++ (wX1 k t1 u1rNa u1rMo u1rWa u1rDe u1Pe u1Da u1Dr u1Na u1Mo u1Wa u1De ++ (wX1 k t2 u2rNa u2rMo u2rWa u2rDe u2Pe u2Da u2Dr u2Na u2Mo u2Wa u2De ++ (wX1 k t3 u3rNa u3rMo u3rWa u3rDe u3Pe u3Da u3Dr u3Na u3Mo u3Wa u3De ++ (wX1 k t4 u4rNa u4rMo u4rWa u4rDe u4Pe_76 u4Da_77 u4Dr_78 u4Na_79 u4Mo_80 u4Wa_81 u4De_82 ++ (wX1 k t5 u5rNa u5rMo u5rWa u5rDe u5Pe_11 u5Da_12 u5Dr_13 u5Na_14 u5Mo_15 u5Wa_16 u5De_17 ++ (wX1 k t6 u6rNa u6rMo u6rWa u6rDe u6Pe_18 u6Da_19 u6Dr_20 u6Na_21 u6Mo_22 u6Wa_23 u6De_24 ++ (wX1 k t7 u7rNa u7rMo u7rWa u7rDe u7Pe_25 u7Da_26 u7Dr_27 u7Na_28 u7Mo_29 u7Wa_30 u7De_31 ++ (wX1 k t8 u8rNa u8rMo u8rWa u8rDe u8Pe_32 u8Da_33 u8Dr_34 u8Na_35 u8Mo_36 u8Wa_37 u8De_38)))))))))))) => ?_)
              refine W.eq (g2 := F0 m 81 ls ([])) rfl ?_
              refine lv_aload hx hb dX2_weighed_81 (lv_at hl 7 rfl) ?_
              refine lv_iload hx hb dX2_weighed_83 (lv_at hl 8 rfl) ?_
              obtain ⟨t_83, hj_85, h⟩ := b1_inv h
              have J_85 : ∀ (H : Heap) (locs : List Loc) (ls : Array Slot), Wd D A s.heap H locs (wX2 k xh xaA ++ (wOA k xaA t0 t1 t2 t3 t4 t5 t6 t7 t8 ++ (wX1 k t0 u0rNa u0rMo u0rWa u0rDe u0Pe u0Da u0Dr u0Na u0Mo u0Wa u0De ++ (wX1 k t1 u1rNa u1rMo u1rWa u1rDe u1Pe u1Da u1Dr u1Na u1Mo u1Wa u1De ++ (wX1 k t2 u2rNa u2rMo u2rWa u2rDe u2Pe u2Da u2Dr u2Na u2Mo u2Wa u2De ++ (wX1 k t3 u3rNa u3rMo u3rWa u3rDe u3Pe u3Da u3Dr u3Na u3Mo u3Wa u3De ++ (wX1 k t4 u4rNa u4rMo u4rWa u4rDe u4Pe_76 u4Da_77 u4Dr_78 u4Na_79 u4Mo_80 u4Wa_81 u4De_82 ++ (wX1 k t5 u5rNa u5rMo u5rWa u5rDe u5Pe_11 u5Da_12 u5Dr_13 u5Na_14 u5Mo_15 u5Wa_16 u5De_17 ++ (wX1 k t6 u6rNa u6rMo u6rWa u6rDe u6Pe_18 u6Da_19 u6Dr_20 u6Na_21 u6Mo_22 u6Wa_23 u6De_24 ++ (wX1 k t7 u7rNa u7rMo u7rWa u7rDe u7Pe_25 u7Da_26 u7Dr_27 u7Na_28 u7Mo_29 u7Wa_30 u7De_31 ++ (wX1 k t8 u8rNa u8rMo u8rWa u8rDe u8Pe_32 u8Da_33 u8Dr_34 u8Na_35 u8Mo_36 u8Wa_37 u8De_38))))))))))) → lv_has ls 10 [(0, .ref xh), (1, .int 3), (2, .int p2), (3, .int p3), (4, .int p4), (5, .long v5_2), (7, .ref t4), (8, .int v8_3), (9, .int t_75)] → W p l e rmX2_weighed_3 s m args below meth c H locs 0 0 Q (F0 m 98 ls [.int t_83, .ref t4]) := by
                intro H locs ls hw hl
                obtain ⟨r_84, u4Da_85, u4Mo_86, u4De_87, hf, h⟩ := b4_inv h
                refine k_callV (host := "") fx hK hA hw (c_X1_runDay l D k t4 u4rNa u4rMo u4rWa u4rDe _ u4Pe_76 u4Da_77 u4Dr_78 u4Na_79 u4Mo_80 u4Wa_81 u4De_82 t_83 r_84 u4Da_85 u4Mo_86 u4De_87 hf) (cwV 1 hts gX2_weighed_X1_runDay rfl rfl rfl (by decide +kernel) ⟨by decide, by decide⟩) (As := [.int t_83]) (wr := [(xh, .inr (2, [.ref xaA])), (xaA, .inl (k 3, 9, .inr (.inr (.inr (.inr (rl [t0, t1, t2, t3, t4, t5, t6, t7, t8])))))), (t0, .inr (1, [.int u0Pe, .int u0Da, .int u0Dr, .ref u0rNa, .ref u0rMo, .ref u0rWa, .ref u0rDe])), (u0rNa, .inl (k 0, 5, .inl u0Na)), (u0rMo, .inl (k 0, 5, .inl u0Mo)), (u0rWa, .inl (k 0, 5, .inl u0Wa)), (u0rDe, .inl (k 0, 25, .inl u0De)), (t1, .inr (1, [.int u1Pe, .int u1Da, .int u1Dr, .ref u1rNa, .ref u1rMo, .ref u1rWa, .ref u1rDe])), (u1rNa, .inl (k 0, 5, .inl u1Na)), (u1rMo, .inl (k 0, 5, .inl u1Mo)), (u1rWa, .inl (k 0, 5, .inl u1Wa)), (u1rDe, .inl (k 0, 25, .inl u1De)), (t2, .inr (1, [.int u2Pe, .int u2Da, .int u2Dr, .ref u2rNa, .ref u2rMo, .ref u2rWa, .ref u2rDe])), (u2rNa, .inl (k 0, 5, .inl u2Na)), (u2rMo, .inl (k 0, 5, .inl u2Mo)), (u2rWa, .inl (k 0, 5, .inl u2Wa)), (u2rDe, .inl (k 0, 25, .inl u2De)), (t3, .inr (1, [.int u3Pe, .int u3Da, .int u3Dr, .ref u3rNa, .ref u3rMo, .ref u3rWa, .ref u3rDe])), (u3rNa, .inl (k 0, 5, .inl u3Na)), (u3rMo, .inl (k 0, 5, .inl u3Mo)), (u3rWa, .inl (k 0, 5, .inl u3Wa)), (u3rDe, .inl (k 0, 25, .inl u3De)), (t5, .inr (1, [.int u5Pe_11, .int u5Da_12, .int u5Dr_13, .ref u5rNa, .ref u5rMo, .ref u5rWa, .ref u5rDe])), (u5rNa, .inl (k 0, 5, .inl u5Na_14)), (u5rMo, .inl (k 0, 5, .inl u5Mo_15)), (u5rWa, .inl (k 0, 5, .inl u5Wa_16)), (u5rDe, .inl (k 0, 25, .inl u5De_17)), (t6, .inr (1, [.int u6Pe_18, .int u6Da_19, .int u6Dr_20, .ref u6rNa, .ref u6rMo, .ref u6rWa, .ref u6rDe])), (u6rNa, .inl (k 0, 5, .inl u6Na_21)), (u6rMo, .inl (k 0, 5, .inl u6Mo_22)), (u6rWa, .inl (k 0, 5, .inl u6Wa_23)), (u6rDe, .inl (k 0, 25, .inl u6De_24)), (t7, .inr (1, [.int u7Pe_25, .int u7Da_26, .int u7Dr_27, .ref u7rNa, .ref u7rMo, .ref u7rWa, .ref u7rDe])), (u7rNa, .inl (k 0, 5, .inl u7Na_28)), (u7rMo, .inl (k 0, 5, .inl u7Mo_29)), (u7rWa, .inl (k 0, 5, .inl u7Wa_30)), (u7rDe, .inl (k 0, 25, .inl u7De_31)), (t8, .inr (1, [.int u8Pe_32, .int u8Da_33, .int u8Dr_34, .ref u8rNa, .ref u8rMo, .ref u8rWa, .ref u8rDe])), (u8rNa, .inl (k 0, 5, .inl u8Na_35)), (u8rMo, .inl (k 0, 5, .inl u8Mo_36)), (u8rWa, .inl (k 0, 5, .inl u8Wa_37)), (u8rDe, .inl (k 0, 25, .inl u8De_38))]) (ws' := wX2 k xh xaA ++ (wOA k xaA t0 t1 t2 t3 t4 t5 t6 t7 t8 ++ (wX1 k t0 u0rNa u0rMo u0rWa u0rDe u0Pe u0Da u0Dr u0Na u0Mo u0Wa u0De ++ (wX1 k t1 u1rNa u1rMo u1rWa u1rDe u1Pe u1Da u1Dr u1Na u1Mo u1Wa u1De ++ (wX1 k t2 u2rNa u2rMo u2rWa u2rDe u2Pe u2Da u2Dr u2Na u2Mo u2Wa u2De ++ (wX1 k t3 u3rNa u3rMo u3rWa u3rDe u3Pe u3Da u3Dr u3Na u3Mo u3Wa u3De ++ (wX1 k t4 u4rNa u4rMo u4rWa u4rDe u4Pe_76 u4Da_85 u4Dr_78 u4Na_79 u4Mo_86 u4Wa_81 u4De_87 ++ (wX1 k t5 u5rNa u5rMo u5rWa u5rDe u5Pe_11 u5Da_12 u5Dr_13 u5Na_14 u5Mo_15 u5Wa_16 u5De_17 ++ (wX1 k t6 u6rNa u6rMo u6rWa u6rDe u6Pe_18 u6Da_19 u6Dr_20 u6Na_21 u6Mo_22 u6Wa_23 u6De_24 ++ (wX1 k t7 u7rNa u7rMo u7rWa u7rDe u7Pe_25 u7Da_26 u7Dr_27 u7Na_28 u7Mo_29 u7Wa_30 u7De_31 ++ (wX1 k t8 u8rNa u8rMo u8rWa u8rDe u8Pe_32 u8Da_33 u8Dr_34 u8Na_35 u8Mo_36 u8Wa_37 u8De_38))))))))))) [22, 23, 24, 25, 26] [0, 1, 2, 3, 4, 5, 6, 7, 8, 9, 10, 11, 12, 13, 14, 15, 16, 17, 18, 19, 20, 21, 27, 28, 29, 30, 31, 32, 33, 34, 35, 36, 37, 38, 39, 40, 41, 42, 43, 44, 45, 46] [0, 1, 2, 3, 4, 5, 6, 7, 8, 9, 10, 11, 12, 13, 14, 15, 16, 17, 18, 19, 20, 21, 42, 43, 44, 45, 46, 22, 23, 24, 25, 26, 27, 28, 29, 30, 31, 32, 33, 34, 35, 36, 37, 38, 39, 40, 41] rfl rfl (by decide) (by decide) (by decide) rfl (by decide) 1 rfl rfl [] rfl hl.1 rfl (Nat.le_of_ble_eq_true rfl) dX2_weighed_98 ⟨by decide, by decide⟩ (fun H locs (hw : Wd D A s.heap H locs (wX2 k xh xaA ++ (wOA k xaA t0 t1 t2 t3 t4 t5 t6 t7 t8 ++ (wX1 k t0 u0rNa u0rMo u0rWa u0rDe u0Pe u0Da u0Dr u0Na u0Mo u0Wa u0De ++ (wX1 k t1 u1rNa u1rMo u1rWa u1rDe u1Pe u1Da u1Dr u1Na u1Mo u1Wa u1De ++ (wX1 k t2 u2rNa u2rMo u2rWa u2rDe u2Pe u2Da u2Dr u2Na u2Mo u2Wa u2De ++ (wX1 k t3 u3rNa u3rMo u3rWa u3rDe u3Pe u3Da u3Dr u3Na u3Mo u3Wa u3De ++ (wX1 k t4 u4rNa u4rMo u4rWa u4rDe u4Pe_76 u4Da_85 u4Dr_78 u4Na_79 u4Mo_86 u4Wa_81 u4De_87 ++ (wX1 k t5 u5rNa u5rMo u5rWa u5rDe u5Pe_11 u5Da_12 u5Dr_13 u5Na_14 u5Mo_15 u5Wa_16 u5De_17 ++ (wX1 k t6 u6rNa u6rMo u6rWa u6rDe u6Pe_18 u6Da_19 u6Dr_20 u6Na_21 u6Mo_22 u6Wa_23 u6De_24 ++ (wX1 k t7 u7rNa u7rMo u7rWa u7rDe u7Pe_25 u7Da_26 u7Dr_27 u7Na_28 u7Mo_29 u7Wa_30 u7De_31 ++ (wX1 k t8 u8rNa u8rMo u8rWa u8rDe u8Pe_32 u8Da_33 u8Dr_34 u8Na_35 u8Mo_36 u8Wa_37 u8De_38)))))))))))) => ?_)
                refine W.eq (g2 := F0 m 101 ls ([.int r_84])) rfl ?_
                refine lv_pop hx hb dX2_weighed_101 rfl ?_
                refine lv_lload hx hb dX2_weighed_102 (lv_at hl 5 rfl) ?_
                refine lv_iload hx hb dX2_weighed_104 (lv_at hl 8 rfl) ?_
                refine lv_i2l hx hb dX2_weighed_106 rfl ?_
                refine lv_aload_n hx hb dX2_weighed_107 rfl (lv_at hl 0 rfl) ?_
                refine lv_iload_n hx hb dX2_weighed_108 rfl (lv_at hl 1 rfl) ?_
                refine lv_iconst (v := 1) hx hb dX2_weighed_109 (by decide) ?_
                refine lv_iadd hx hb dX2_weighed_110 ?_
                refine k_lit (y := 4) (by decide) ?_
                refine lv_iload_n hx hb dX2_weighed_111 rfl (lv_at hl 2 rfl) ?_
                refine lv_iload_n hx hb dX2_weighed_112 rfl (lv_at hl 3 rfl) ?_
                refine lv_iload hx hb dX2_weighed_113 (lv_at hl 4 rfl) ?_
                obtain ⟨r_88, hf, h⟩ := b1_inv h
                refine k_callVJ fx hK hA hw (c_X2_weighed_4 l D k xh xaA t0 t1 t2 t3 t4 t5 t6 t7 t8 u0rNa u0rMo u0rWa u0rDe u1rNa u1rMo u1rWa u1rDe u2rNa u2rMo u2rWa u2rDe u3rNa u3rMo u3rWa u3rDe u4rNa u4rMo u4rWa u4rDe u5rNa u5rMo u5rWa u5rDe u6rNa u6rMo u6rWa u6rDe u7rNa u7rMo u7rWa u7rDe u8rNa u8rMo u8rWa u8rDe _ u0Pe u0Da u0Dr u0Na u0Mo u0Wa u0De u1Pe u1Da u1Dr u1Na u1Mo u1Wa u1De u2Pe u2Da u2Dr u2Na u2Mo u2Wa u2De u3Pe u3Da u3Dr u3Na u3Mo u3Wa u3De u4Pe_76 u4Da_85 u4Dr_78 u4Na_79 u4Mo_86 u4Wa_81 u4De_87 u5Pe_11 u5Da_12 u5Dr_13 u5Na_14 u5Mo_15 u5Wa_16 u5De_17 u6Pe_18 u6Da_19 u6Dr_20 u6Na_21 u6Mo_22 u6Wa_23 u6De_24 u7Pe_25 u7Da_26 u7Dr_27 u7Na_28 u7Mo_29 u7Wa_30 u7De_31 u8Pe_32 u8Da_33 u8Dr_34 u8Na_35 u8Mo_36 u8Wa_37 u8De_38 p2 p3 p4 r_88 hf) (cwV 4 hts gX2_weighed_X2_weighed rfl rfl rfl (by decide +kernel) ⟨by decide, by decide⟩) (As := [.int 4, .int p2, .int p3, .int p4]) (wr := []) (ws' := fun j_89 => wX2 k xh xaA ++ (wOA k xaA t0 t1 t2 t3 t4 t5 t6 t7 t8 ++ (wX1 k t0 u0rNa u0rMo u0rWa u0rDe u0Pe u0Da u0Dr u0Na u0Mo u0Wa u0De ++ (wX1 k t1 u1rNa u1rMo u1rWa u1rDe u1Pe u1Da u1Dr u1Na u1Mo u1Wa u1De ++ (wX1 k t2 u2rNa u2rMo u2rWa u2rDe u2Pe u2Da u2Dr u2Na u2Mo u2Wa u2De ++ (wX1 k t3 u3rNa u3rMo u3rWa u3rDe u3Pe u3Da u3Dr u3Na u3Mo u3Wa u3De ++ (wX1 k t4 u4rNa u4rMo u4rWa u4rDe u4Pe_76 u4Da_85 u4Dr_78 u4Na_79 u4Mo_86 u4Wa_81 u4De_87 ++ (wX1 k t5 u5rNa u5rMo u5rWa u5rDe (j_89.1 0) (j_89.1 1) (j_89.1 2) (j_89.2 0) (j_89.2 1) (j_89.2 2) (j_89.2 3) ++ (wX1 k t6 u6rNa u6rMo u6rWa u6rDe (j_89.1 3) (j_89.1 4) (j_89.1 5) (j_89.2 4) (j_89.2 5) (j_89.2 6) (j_89.2 7) ++ (wX1 k t7 u7rNa u7rMo u7rWa u7rDe (j_89.1 6) (j_89.1 7) (j_89.1 8) (j_89.2 8) (j_89.2 9) (j_89.2 10) (j_89.2 11) ++ (wX1 k t8 u8rNa u8rMo u8rWa u8rDe (j_89.1 9) (j_89.1 10) (j_89.1 11) (j_89.2 12) (j_89.2 13) (j_89.2 14) (j_89.2 15)))))))))))) [0, 1, 2, 3, 4, 5, 6, 7, 8, 9, 10, 11, 12, 13, 14, 15, 16, 17, 18, 19, 20, 21, 22, 23, 24, 25, 26, 27, 28, 29, 30, 31, 32, 33, 34, 35, 36, 37, 38, 39, 40, 41, 42, 43, 44, 45, 46] [] [0, 1, 2, 3, 4, 5, 6, 7, 8, 9, 10, 11, 12, 13, 14, 15, 16, 17, 18, 19, 20, 21, 22, 23, 24, 25, 26, 27, 28, 29, 30, 31, 32, 33, 34, 35, 36, 37, 38, 39, 40, 41, 42, 43, 44, 45, 46] rfl rfl (by decide) (by decide) (by decide) (fun _ => rfl) (by decide) 2 rfl rfl [.long t_75.toInt64, .long v5_2] rfl hl.1 rfl (Nat.le_of_ble_eq_true rfl) dX2_weighed_115 ⟨by decide, by decide⟩ (fun j_89 H locs (hw : Wd D A s.heap H locs (wX2 k xh xaA ++ (wOA k xaA t0 t1 t2 t3 t4 t5 t6 t7 t8 ++ (wX1 k t0 u0rNa u0rMo u0rWa u0rDe u0Pe u0Da u0Dr u0Na u0Mo u0Wa u0De ++ (wX1 k t1 u1rNa u1rMo u1rWa u1rDe u1Pe u1Da u1Dr u1Na u1Mo u1Wa u1De ++ (wX1 k t2 u2rNa u2rMo u2rWa u2rDe u2Pe u2Da u2Dr u2Na u2Mo u2Wa u2De ++ (wX1 k t3 u3rNa u3rMo u3rWa u3rDe u3Pe u3Da u3Dr u3Na u3Mo u3Wa u3De ++ (wX1 k t4 u4rNa u4rMo u4rWa u4rDe u4Pe_76 u4Da_85 u4Dr_78 u4Na_79 u4Mo_86 u4Wa_81 u4De_87 ++ (wX1 k t5 u5rNa u5rMo u5rWa u5rDe (j_89.1 0) (j_89.1 1) (j_89.1 2) (j_89.2 0) (j_89.2 1) (j_89.2 2) (j_89.2 3) ++ (wX1 k t6 u6rNa u6rMo u6rWa u6rDe (j_89.1 3) (j_89.1 4) (j_89.1 5) (j_89.2 4) (j_89.2 5) (j_89.2 6) (j_89.2 7) ++ (wX1 k t7 u7rNa u7rMo u7rWa u7rDe (j_89.1 6) (j_89.1 7) (j_89.1 8) (j_89.2 8) (j_89.2 9) (j_89.2 10) (j_89.2 11) ++ (wX1 k t8 u8rNa u8rMo u8rWa u8rDe (j_89.1 9) (j_89.1 10) (j_89.1 11) (j_89.2 12) (j_89.2 13) (j_89.2 14) (j_89.2 15))))))))))))) => ?_)
                refine W.eq (g2 := F0 m 118 ls ([.long r_88, .long t_75.toInt64, .long v5_2])) rfl ?_
                refine lv_lmul hx hb dX2_weighed_118 ?_
                refine lv_ladd hx hb dX2_weighed_119 ?_
                refine lv_lstore (lv' := [(5, .long (v5_2 + (t_75.toInt64 * r_88))), (0, .ref xh), (1, .int 3), (2, .int p2), (3, .int p3), (4, .int p4), (7, .ref t4), (8, .int v8_3), (9, .int t_75)]) hx hb dX2_weighed_120 hl (by decide) rfl (fun ls hl => ?_)
                refine lv_iinc (v := v8_3 + 1) (lv' := [(8, .int (v8_3 + 1)), (5, .long (v5_2 + (t_75.toInt64 * r_88))), (0, .ref xh), (1, .int 3), (2, .int p2), (3, .int p3), (4, .int p4), (7, .ref t4), (9, .int t_75)]) hx hb dX2_weighed_122 hl (k := 7) rfl rfl (by decide) rfl (fun ls hl => ?_)
                refine lv_goto (tgt := 44) hx hb dX2_weighed_125 (by decide) ?_
                exact ih _ _ h _ _ _ _ _ _ _ _ _ _ _ _ _ _ _ _ _ _ _ _ _ _ _ _ _ _ _ _ _ _ _ _ _ _ _ _ _ _ hw (lv_sub hl [2, 3, 4, 5, 6, 1, 7, 0] rfl)
              clear h
              have h := hj_85
              refine kb_if_ne (tgt := 93) hx hb dX2_weighed_85 (by decide) h (fun c_85 h => ?_) (fun c_85 h => ?_)
              · refine lv_bipush (v := 9) hx hb dX2_weighed_88 (by decide) ?_
                refine lv_goto (tgt := 98) hx hb dX2_weighed_90 (by decide) ?_
                cases h
                exact J_85 _ _ _ hw (lv_sub hl [1, 2, 3, 4, 5, 6, 7, 8, 0] rfl)
              · refine lv_aload hx hb dX2_weighed_93 (lv_at hl 7 rfl) ?_
                refine va_get (ci := 1) (v := .int u4Dr_78) (C := RX1) (T := TX1) (N := 7) hx hb hts hinX1 hown hK.1 hw.1 22 rfl rfl 2 (by decide) q_2 (fun _ h9 => h9) rfl dX2_weighed_95 ?_
                cases h
                exact J_85 _ _ _ hw (lv_sub hl [1, 2, 3, 4, 5, 6, 7, 8, 0] rfl)
          clear h
          have h := hj_52
          refine kb_if_ne (tgt := 59) hx hb dX2_weighed_52 (by decide) h (fun c_52 h => ?_) (fun c_52 h => ?_)
          · refine lv_iload_n hx hb dX2_weighed_55 rfl (lv_at hl 2 rfl) ?_
            refine lv_goto (tgt := 63) hx hb dX2_weighed_56 (by decide) ?_
            cases h
            exact J_52 _ _ _ hw (lv_sub hl [0, 1, 2, 3, 4, 5, 6, 7] rfl)
          · refine lv_bipush (v := 10) hx hb dX2_weighed_59 (by decide) ?_
            refine lv_iload_n hx hb dX2_weighed_61 rfl (lv_at hl 2 rfl) ?_
            refine lv_isub hx hb dX2_weighed_62 ?_
            cases h
            exact J_52 _ _ _ hw (lv_sub hl [0, 1, 2, 3, 4, 5, 6, 7] rfl)
    exact LP_44 400 0 0 hL_44 _ _ _ _ _ _ _ _ _ _ _ _ _ _ _ _ _ _ _ _ _ _ _ _ _ _ _ _ _ _ _ _ _ _ _ _ _ _ hw (lv_sub hl [3, 4, 5, 6, 7, 2, 1, 0] rfl)
abbrev rmX2_weighed_2 : Room := { frames := 9, cells := 0, slots := 0, locals := 240 }
set_option maxHeartbeats 4000000 in
set_option maxRecDepth 100000 in
theorem c_X2_weighed_2 (l : Launch) (D : va_G) (k : Nat → ClassId) (xh xaA t0 t1 t2 t3 t4 t5 t6 t7 t8 u0rNa u0rMo u0rWa u0rDe u1rNa u1rMo u1rWa u1rDe u2rNa u2rMo u2rWa u2rDe u3rNa u3rMo u3rWa u3rDe u4rNa u4rMo u4rWa u4rDe u5rNa u5rMo u5rWa u5rDe u6rNa u6rMo u6rWa u6rDe u7rNa u7rMo u7rWa u7rDe u8rNa u8rMo u8rWa u8rDe : Nat) (sz : Nat) (u0Pe : Int32) (u0Da : Int32) (u0Dr : Int32) (u0Na : (Nat → Int32)) (u0Mo : (Nat → Int32)) (u0Wa : (Nat → Int32)) (u0De : (Nat → Int32)) (u1Pe : Int32) (u1Da : Int32) (u1Dr : Int32) (u1Na : (Nat → Int32)) (u1Mo : (Nat → Int32)) (u1Wa : (Nat → Int32)) (u1De : (Nat → Int32)) (u2Pe : Int32) (u2Da : Int32) (u2Dr : Int32) (u2Na : (Nat → Int32)) (u2Mo : (Nat → Int32)) (u2Wa : (Nat → Int32)) (u2De : (Nat → Int32)) (u3Pe : Int32) (u3Da : Int32) (u3Dr : Int32) (u3Na : (Nat → Int32)) (u3Mo : (Nat → Int32)) (u3Wa : (Nat → Int32)) (u3De : (Nat → Int32)) (u4Pe : Int32) (u4Da : Int32) (u4Dr : Int32) (u4Na : (Nat → Int32)) (u4Mo : (Nat → Int32)) (u4Wa : (Nat → Int32)) (u4De : (Nat → Int32)) (u5Pe : Int32) (u5Da : Int32) (u5Dr : Int32) (u5Na : (Nat → Int32)) (u5Mo : (Nat → Int32)) (u5Wa : (Nat → Int32)) (u5De : (Nat → Int32)) (u6Pe : Int32) (u6Da : Int32) (u6Dr : Int32) (u6Na : (Nat → Int32)) (u6Mo : (Nat → Int32)) (u6Wa : (Nat → Int32)) (u6De : (Nat → Int32)) (u7Pe : Int32) (u7Da : Int32) (u7Dr : Int32) (u7Na : (Nat → Int32)) (u7Mo : (Nat → Int32)) (u7Wa : (Nat → Int32)) (u7De : (Nat → Int32)) (u8Pe : Int32) (u8Da : Int32) (u8Dr : Int32) (u8Na : (Nat → Int32)) (u8Mo : (Nat → Int32)) (u8Wa : (Nat → Int32)) (u8De : (Nat → Int32)) (p2 : Int32) (p3 : Int32) (p4 : Int32) (r_ : Int64) (hf : f_X2_weighed_2 u2Pe u2Da u2Dr u2Na u2Mo u2Wa u2De p2 p3 p4 = some r_) : mJ l yX2_weighed wsX2_weighed rmX2_weighed_2 D k sz [.ref xh, .int 2, .int p2, .int p3, .int p4] (wX2 k xh xaA ++ (wOA k xaA t0 t1 t2 t3 t4 t5 t6 t7 t8 ++ (wX1 k t0 u0rNa u0rMo u0rWa u0rDe u0Pe u0Da u0Dr u0Na u0Mo u0Wa u0De ++ (wX1 k t1 u1rNa u1rMo u1rWa u1rDe u1Pe u1Da u1Dr u1Na u1Mo u1Wa u1De ++ (wX1 k t2 u2rNa u2rMo u2rWa u2rDe u2Pe u2Da u2Dr u2Na u2Mo u2Wa u2De ++ (wX1 k t3 u3rNa u3rMo u3rWa u3rDe u3Pe u3Da u3Dr u3Na u3Mo u3Wa u3De ++ (wX1 k t4 u4rNa u4rMo u4rWa u4rDe u4Pe u4Da u4Dr u4Na u4Mo u4Wa u4De ++ (wX1 k t5 u5rNa u5rMo u5rWa u5rDe u5Pe u5Da u5Dr u5Na u5Mo u5Wa u5De ++ (wX1 k t6 u6rNa u6rMo u6rWa u6rDe u6Pe u6Da u6Dr u6Na u6Mo u6Wa u6De ++ (wX1 k t7 u7rNa u7rMo u7rWa u7rDe u7Pe u7Da u7Dr u7Na u7Mo u7Wa u7De ++ (wX1 k t8 u8rNa u8rMo u8rWa u8rDe u8Pe u8Da u8Dr u8Na u8Mo u8Wa u8De))))))))))) (fun j => wX2 k xh xaA ++ (wOA k xaA t0 t1 t2 t3 t4 t5 t6 t7 t8 ++ (wX1 k t0 u0rNa u0rMo u0rWa u0rDe u0Pe u0Da u0Dr u0Na u0Mo u0Wa u0De ++ (wX1 k t1 u1rNa u1rMo u1rWa u1rDe u1Pe u1Da u1Dr u1Na u1Mo u1Wa u1De ++ (wX1 k t2 u2rNa u2rMo u2rWa u2rDe u2Pe u2Da u2Dr u2Na u2Mo u2Wa u2De ++ (wX1 k t3 u3rNa u3rMo u3rWa u3rDe (j.1 0) (j.1 1) (j.1 2) (j.2 0) (j.2 1) (j.2 2) (j.2 3) ++ (wX1 k t4 u4rNa u4rMo u4rWa u4rDe (j.1 3) (j.1 4) (j.1 5) (j.2 4) (j.2 5) (j.2 6) (j.2 7) ++ (wX1 k t5 u5rNa u5rMo u5rWa u5rDe (j.1 6) (j.1 7) (j.1 8) (j.2 8) (j.2 9) (j.2 10) (j.2 11) ++ (wX1 k t6 u6rNa u6rMo u6rWa u6rDe (j.1 9) (j.1 10) (j.1 11) (j.2 12) (j.2 13) (j.2 14) (j.2 15) ++ (wX1 k t7 u7rNa u7rMo u7rWa u7rDe (j.1 12) (j.1 13) (j.1 14) (j.2 16) (j.2 17) (j.2 18) (j.2 19) ++ (wX1 k t8 u8rNa u8rMo u8rWa u8rDe (j.1 15) (j.1 16) (j.1 17) (j.2 20) (j.2 21) (j.2 22) (j.2 23)))))))))))) (some (.long r_)) := by
  refine mJ_of (cc := cX2_weighed) (maxL := 10) (ret := some .long) (by decide) rfl (Nat.le_of_ble_eq_true rfl) [(0, .ref xh), (1, .int 2), (2, .int p2), (3, .int p3), (4, .int p4)] rfl ?_
  intro p e s m below meth c A ls args Q cx hK hA hw hl hQ
  have fx := cx.1
  obtain ⟨⟨hx, hb, hml, hown, hts⟩, hr, hlocks⟩ := cx
  have hinX2 : ∀ w ∈ wsX20, w ∈ wsX2_weighed := fun w h => List.mem_cons_of_mem _ (List.mem_append_left _ (List.mem_append_right _ h))
  have hinX1 : ∀ w ∈ wsX10, w ∈ wsX2_weighed := fun w h => List.mem_cons_of_mem _ (List.mem_append_right _ h)
  have q_1 := hts (.fieldLink RX2 11 "DebtRides$Odds" "steps" "[LDebtRides$Land;") (List.mem_of_getElem? (i := 1) rfl)
  have q_2 := hts (.fieldLink RX2 41 "DebtRides$Land" "dryness" "I") (List.mem_of_getElem? (i := 2) rfl)
  have h := hf
  unfold f_X2_weighed_2 at h
  clear hf
  refine lv_iload_n hx hb dX2_weighed_0 rfl (lv_at hl 1 rfl) ?_
  refine lv_iload hx hb dX2_weighed_1 (lv_at hl 4 rfl) ?_
  have T_17 : f_X2_weighed_2_B17 u2Pe u2De p3 = some r_ → ∀ (H : Heap) (locs : List Loc) (ls : Array Slot), Wd D A s.heap H locs (wX2 k xh xaA ++ (wOA k xaA t0 t1 t2 t3 t4 t5 t6 t7 t8 ++ (wX1 k t0 u0rNa u0rMo u0rWa u0rDe u0Pe u0Da u0Dr u0Na u0Mo u0Wa u0De ++ (wX1 k t1 u1rNa u1rMo u1rWa u1rDe u1Pe u1Da u1Dr u1Na u1Mo u1Wa u1De ++ (wX1 k t2 u2rNa u2rMo u2rWa u2rDe u2Pe u2Da u2Dr u2Na u2Mo u2Wa u2De ++ (wX1 k t3 u3rNa u3rMo u3rWa u3rDe u3Pe u3Da u3Dr u3Na u3Mo u3Wa u3De ++ (wX1 k t4 u4rNa u4rMo u4rWa u4rDe u4Pe u4Da u4Dr u4Na u4Mo u4Wa u4De ++ (wX1 k t5 u5rNa u5rMo u5rWa u5rDe u5Pe u5Da u5Dr u5Na u5Mo u5Wa u5De ++ (wX1 k t6 u6rNa u6rMo u6rWa u6rDe u6Pe u6Da u6Dr u6Na u6Mo u6Wa u6De ++ (wX1 k t7 u7rNa u7rMo u7rWa u7rDe u7Pe u7Da u7Dr u7Na u7Mo u7Wa u7De ++ (wX1 k t8 u8rNa u8rMo u8rWa u8rDe u8Pe u8Da u8Dr u8Na u8Mo u8Wa u8De))))))))))) → lv_has ls 10 [(0, .ref xh), (1, .int 2), (3, .int p3)] → W p l e rmX2_weighed_2 s m args below meth c H locs 0 0 Q (F0 m 17 ls []) := by
    clear h
    intro h H locs ls hw hl
    unfold f_X2_weighed_2_B17 at h
    refine lv_aload_n hx hb dX2_weighed_17 rfl (lv_at hl 0 rfl) ?_
    refine va_get (ci := 2) (v := .ref xaA) (C := RX2) (T := TX2) (N := 1) hx hb hts hinX2 hown hK.1 hw.1 0 rfl rfl 0 (by decide) q_1 (fun _ h9 => h9) rfl dX2_weighed_18 ?_
    refine lv_iload_n hx hb dX2_weighed_21 rfl (lv_at hl 1 rfl) ?_
    refine k_aald hx hb hK hw 1 3 (j := 2) (a' := t2) rfl rfl rfl (by unfold vp_in; decide) rfl dX2_weighed_22 ?_
    refine lv_iload_n hx hb dX2_weighed_23 rfl (lv_at hl 2 rfl) ?_
    obtain ⟨r_1, hf, h⟩ := b1_inv h
    refine k_callS (b := 0) (C := "") (host := "") fx hK hA hw (c_X2_worth l D k t2 u2rNa u2rMo u2rWa u2rDe _ u2Pe u2Da u2Dr u2Na u2Mo u2Wa u2De p3 r_1 hf) (va_cwS 2 hts gX2_weighed_X2_worth rfl rfl rfl (by decide +kernel) ⟨by decide, by decide⟩) (As := [.ref t2, .int p3]) (wr := [(xh, .inr (2, [.ref xaA])), (xaA, .inl (k 3, 9, .inr (.inr (.inr (.inr (rl [t0, t1, t2, t3, t4, t5, t6, t7, t8])))))), (t0, .inr (1, [.int u0Pe, .int u0Da, .int u0Dr, .ref u0rNa, .ref u0rMo, .ref u0rWa, .ref u0rDe])), (u0rNa, .inl (k 0, 5, .inl u0Na)), (u0rMo, .inl (k 0, 5, .inl u0Mo)), (u0rWa, .inl (k 0, 5, .inl u0Wa)), (u0rDe, .inl (k 0, 25, .inl u0De)), (t1, .inr (1, [.int u1Pe, .int u1Da, .int u1Dr, .ref u1rNa, .ref u1rMo, .ref u1rWa, .ref u1rDe])), (u1rNa, .inl (k 0, 5, .inl u1Na)), (u1rMo, .inl (k 0, 5, .inl u1Mo)), (u1rWa, .inl (k 0, 5, .inl u1Wa)), (u1rDe, .inl (k 0, 25, .inl u1De)), (t3, .inr (1, [.int u3Pe, .int u3Da, .int u3Dr, .ref u3rNa, .ref u3rMo, .ref u3rWa, .ref u3rDe])), (u3rNa, .inl (k 0, 5, .inl u3Na)), (u3rMo, .inl (k 0, 5, .inl u3Mo)), (u3rWa, .inl (k 0, 5, .inl u3Wa)), (u3rDe, .inl (k 0, 25, .inl u3De)), (t4, .inr (1, [.int u4Pe, .int u4Da, .int u4Dr, .ref u4rNa, .ref u4rMo, .ref u4rWa, .ref u4rDe])), (u4rNa, .inl (k 0, 5, .inl u4Na)), (u4rMo, .inl (k 0, 5, .inl u4Mo)), (u4rWa, .inl (k 0, 5, .inl u4Wa)), (u4rDe, .inl (k 0, 25, .inl u4De)), (t5, .inr (1, [.int u5Pe, .int u5Da, .int u5Dr, .ref u5rNa, .ref u5rMo, .ref u5rWa, .ref u5rDe])), (u5rNa, .inl (k 0, 5, .inl u5Na)), (u5rMo, .inl (k 0, 5, .inl u5Mo)), (u5rWa, .inl (k 0, 5, .inl u5Wa)), (u5rDe, .inl (k 0, 25, .inl u5De)), (t6, .inr (1, [.int u6Pe, .int u6Da, .int u6Dr, .ref u6rNa, .ref u6rMo, .ref u6rWa, .ref u6rDe])), (u6rNa, .inl (k 0, 5, .inl u6Na)), (u6rMo, .inl (k 0, 5, .inl u6Mo)), (u6rWa, .inl (k 0, 5, .inl u6Wa)), (u6rDe, .inl (k 0, 25, .inl u6De)), (t7, .inr (1, [.int u7Pe, .int u7Da, .int u7Dr, .ref u7rNa, .ref u7rMo, .ref u7rWa, .ref u7rDe])), (u7rNa, .inl (k 0, 5, .inl u7Na)), (u7rMo, .inl (k 0, 5, .inl u7Mo)), (u7rWa, .inl (k 0, 5, .inl u7Wa)), (u7rDe, .inl (k 0, 25, .inl u7De)), (t8, .inr (1, [.int u8Pe, .int u8Da, .int u8Dr, .ref u8rNa, .ref u8rMo, .ref u8rWa, .ref u8rDe])), (u8rNa, .inl (k 0, 5, .inl u8Na)), (u8rMo, .inl (k 0, 5, .inl u8Mo)), (u8rWa, .inl (k 0, 5, .inl u8Wa)), (u8rDe, .inl (k 0, 25, .inl u8De))]) (ws' := wX2 k xh xaA ++ (wOA k xaA t0 t1 t2 t3 t4 t5 t6 t7 t8 ++ (wX1 k t0 u0rNa u0rMo u0rWa u0rDe u0Pe u0Da u0Dr u0Na u0Mo u0Wa u0De ++ (wX1 k t1 u1rNa u1rMo u1rWa u1rDe u1Pe u1Da u1Dr u1Na u1Mo u1Wa u1De ++ (wX1 k t2 u2rNa u2rMo u2rWa u2rDe u2Pe u2Da u2Dr u2Na u2Mo u2Wa u2De ++ (wX1 k t3 u3rNa u3rMo u3rWa u3rDe u3Pe u3Da u3Dr u3Na u3Mo u3Wa u3De ++ (wX1 k t4 u4rNa u4rMo u4rWa u4rDe u4Pe u4Da u4Dr u4Na u4Mo u4Wa u4De ++ (wX1 k t5 u5rNa u5rMo u5rWa u5rDe u5Pe u5Da u5Dr u5Na u5Mo u5Wa u5De ++ (wX1 k t6 u6rNa u6rMo u6rWa u6rDe u6Pe u6Da u6Dr u6Na u6Mo u6Wa u6De ++ (wX1 k t7 u7rNa u7rMo u7rWa u7rDe u7Pe u7Da u7Dr u7Na u7Mo u7Wa u7De ++ (wX1 k t8 u8rNa u8rMo u8rWa u8rDe u8Pe u8Da u8Dr u8Na u8Mo u8Wa u8De))))))))))) [12, 13, 14, 15, 16] [0, 1, 2, 3, 4, 5, 6, 7, 8, 9, 10, 11, 17, 18, 19, 20, 21, 22, 23, 24, 25, 26, 27, 28, 29, 30, 31, 32, 33, 34, 35, 36, 37, 38, 39, 40, 41, 42, 43, 44, 45, 46] [0, 1, 2, 3, 4, 5, 6, 7, 8, 9, 10, 11, 42, 43, 44, 45, 46, 12, 13, 14, 15, 16, 17, 18, 19, 20, 21, 22, 23, 24, 25, 26, 27, 28, 29, 30, 31, 32, 33, 34, 35, 36, 37, 38, 39, 40, 41] rfl rfl (by decide) (by decide) (by decide) rfl (by decide) [] rfl hl.1 rfl (Nat.le_of_ble_eq_true rfl) dX2_weighed_24 ⟨by decide, by decide⟩ (fun H locs (hw : Wd D A s.heap H locs (wX2 k xh xaA ++ (wOA k xaA t0 t1 t2 t3 t4 t5 t6 t7 t8 ++ (wX1 k t0 u0rNa u0rMo u0rWa u0rDe u0Pe u0Da u0Dr u0Na u0Mo u0Wa u0De ++ (wX1 k t1 u1rNa u1rMo u1rWa u1rDe u1Pe u1Da u1Dr u1Na u1Mo u1Wa u1De ++ (wX1 k t2 u2rNa u2rMo u2rWa u2rDe u2Pe u2Da u2Dr u2Na u2Mo u2Wa u2De ++ (wX1 k t3 u3rNa u3rMo u3rWa u3rDe u3Pe u3Da u3Dr u3Na u3Mo u3Wa u3De ++ (wX1 k t4 u4rNa u4rMo u4rWa u4rDe u4Pe u4Da u4Dr u4Na u4Mo u4Wa u4De ++ (wX1 k t5 u5rNa u5rMo u5rWa u5rDe u5Pe u5Da u5Dr u5Na u5Mo u5Wa u5De ++ (wX1 k t6 u6rNa u6rMo u6rWa u6rDe u6Pe u6Da u6Dr u6Na u6Mo u6Wa u6De ++ (wX1 k t7 u7rNa u7rMo u7rWa u7rDe u7Pe u7Da u7Dr u7Na u7Mo u7Wa u7De ++ (wX1 k t8 u8rNa u8rMo u8rWa u8rDe u8Pe u8Da u8Dr u8Na u8Mo u8Wa u8De)))))))))))) => ?_)
    refine W.eq (g2 := F0 m 27 ls ([.long r_1])) rfl ?_
    cases h
    exact k_jlret (j := (fun i => List.getD [u3Pe, u3Da, u3Dr, u4Pe, u4Da, u4Dr, u5Pe, u5Da, u5Dr, u6Pe, u6Da, u6Dr, u7Pe, u7Da, u7Dr, u8Pe, u8Da, u8Dr] i 0, fun i => List.getD [u3Na, u3Mo, u3Wa, u3De, u4Na, u4Mo, u4Wa, u4De, u5Na, u5Mo, u5Wa, u5De, u6Na, u6Mo, u6Wa, u6De, u7Na, u7Mo, u7Wa, u7De, u8Na, u8Mo, u8Wa, u8De] i (fun _ => 0))) hx hb hr hlocks hw rfl dX2_weighed_27 hQ
  refine kb_icmp_ge (tgt := 17) hx hb dX2_weighed_3 (by decide) h (fun c_3 h => ?_) (fun c_3 h => ?_)
  · exact T_17 h _ _ _ hw (lv_sub hl [0, 1, 3] rfl)
  · refine lv_iload_n hx hb dX2_weighed_6 rfl (lv_at hl 1 rfl) ?_
    refine lv_iconst (v := 1) hx hb dX2_weighed_7 (by decide) ?_
    refine lv_iadd hx hb dX2_weighed_8 ?_
    refine k_lit (y := 3) (by decide) ?_
    refine lv_aload_n hx hb dX2_weighed_9 rfl (lv_at hl 0 rfl) ?_
    refine va_get (ci := 2) (v := .ref xaA) (C := RX2) (T := TX2) (N := 1) hx hb hts hinX2 hown hK.1 hw.1 0 rfl rfl 0 (by decide) q_1 (fun _ h9 => h9) rfl dX2_weighed_10 ?_
    refine va_alen (v := 9) hx hb hK.1 hw.1 1 3 rfl rfl rfl dX2_weighed_13 ?_
    refine lv_icmp_lt (tgt := 28) hx hb dX2_weighed_14 (by decide) (fun _ => ?_) (fun q => absurd (by decide) q)
    refine lv_lconst (v := 0) hx hb dX2_weighed_28 rfl ?_
    refine lv_lstore (lv' := [(5, .long 0), (0, .ref xh), (1, .int 2), (2, .int p2), (3, .int p3), (4, .int p4)]) hx hb dX2_weighed_29 hl (by decide) rfl (fun ls hl => ?_)
    refine lv_aload_n hx hb dX2_weighed_31 rfl (lv_at hl 1 rfl) ?_
    refine va_get (ci := 2) (v := .ref xaA) (C := RX2) (T := TX2) (N := 1) hx hb hts hinX2 hown hK.1 hw.1 0 rfl rfl 0 (by decide) q_1 (fun _ h9 => h9) rfl dX2_weighed_32 ?_
    refine lv_iload_n hx hb dX2_weighed_35 rfl (lv_at hl 2 rfl) ?_
    refine lv_iconst (v := 1) hx hb dX2_weighed_36 (by decide) ?_
    refine lv_iadd hx hb dX2_weighed_37 ?_
    refine k_lit (y := 3) (by decide) ?_
    refine k_aald hx hb hK hw 1 3 (j := 3) (a' := t3) rfl rfl rfl (by unfold vp_in; decide) rfl dX2_weighed_38 ?_
    refine lv_astore (lv' := [(7, .ref t3), (5, .long 0), (0, .ref xh), (1, .int 2), (2, .int p2), (3, .int p3), (4, .int p4)]) hx hb dX2_weighed_39 hl (by decide) rfl (fun ls hl => ?_)
    refine lv_iconst (v := 0) hx hb dX2_weighed_41 (by decide) ?_
    refine lv_istore (lv' := [(8, .int 0), (7, .ref t3), (5, .long 0), (0, .ref xh), (1, .int 2), (2, .int p2), (3, .int p3), (4, .int p4)]) hx hb dX2_weighed_42 hl (by decide) rfl (fun ls hl => ?_)
    obtain ⟨v5_46, hL_44, h⟩ := b1_inv h
    have X_44 : ∀ (u3Pe_47 : Int32) (u3Da_48 : Int32) (u3Dr_49 : Int32) (u3Na_50 : (Nat → Int32)) (u3Mo_51 : (Nat → Int32)) (u3Wa_52 : (Nat → Int32)) (u3De_53 : (Nat → Int32)) (u4Pe_54 : Int32) (u4Da_55 : Int32) (u4Dr_56 : Int32) (u4Na_57 : (Nat → Int32)) (u4Mo_58 : (Nat → Int32)) (u4Wa_59 : (Nat → Int32)) (u4De_60 : (Nat → Int32)) (u5Pe_61 : Int32) (u5Da_62 : Int32) (u5Dr_63 : Int32) (u5Na_64 : (Nat → Int32)) (u5Mo_65 : (Nat → Int32)) (u5Wa_66 : (Nat → Int32)) (u5De_67 : (Nat → Int32)) (u6Pe_68 : Int32) (u6Da_69 : Int32) (u6Dr_70 : Int32) (u6Na_71 : (Nat → Int32)) (u6Mo_72 : (Nat → Int32)) (u6Wa_73 : (Nat → Int32)) (u6De_74 : (Nat → Int32)) (u7Pe_75 : Int32) (u7Da_76 : Int32) (u7Dr_77 : Int32) (u7Na_78 : (Nat → Int32)) (u7Mo_79 : (Nat → Int32)) (u7Wa_80 : (Nat → Int32)) (u7De_81 : (Nat → Int32)) (u8Pe_82 : Int32) (u8Da_83 : Int32) (u8Dr_84 : Int32) (u8Na_85 : (Nat → Int32)) (u8Mo_86 : (Nat → Int32)) (u8Wa_87 : (Nat → Int32)) (u8De_88 : (Nat → Int32)) (H : Heap) (locs : List Loc) (ls : Array Slot), Wd D A s.heap H locs (wX2 k xh xaA ++ (wOA k xaA t0 t1 t2 t3 t4 t5 t6 t7 t8 ++ (wX1 k t0 u0rNa u0rMo u0rWa u0rDe u0Pe u0Da u0Dr u0Na u0Mo u0Wa u0De ++ (wX1 k t1 u1rNa u1rMo u1rWa u1rDe u1Pe u1Da u1Dr u1Na u1Mo u1Wa u1De ++ (wX1 k t2 u2rNa u2rMo u2rWa u2rDe u2Pe u2Da u2Dr u2Na u2Mo u2Wa u2De ++ (wX1 k t3 u3rNa u3rMo u3rWa u3rDe u3Pe_47 u3Da_48 u3Dr_49 u3Na_50 u3Mo_51 u3Wa_52 u3De_53 ++ (wX1 k t4 u4rNa u4rMo u4rWa u4rDe u4Pe_54 u4Da_55 u4Dr_56 u4Na_57 u4Mo_58 u4Wa_59 u4De_60 ++ (wX1 k t5 u5rNa u5rMo u5rWa u5rDe u5Pe_61 u5Da_62 u5Dr_63 u5Na_64 u5Mo_65 u5Wa_66 u5De_67 ++ (wX1 k t6 u6rNa u6rMo u6rWa u6rDe u6Pe_68 u6Da_69 u6Dr_70 u6Na_71 u6Mo_72 u6Wa_73 u6De_74 ++ (wX1 k t7 u7rNa u7rMo u7rWa u7rDe u7Pe_75 u7Da_76 u7Dr_77 u7Na_78 u7Mo_79 u7Wa_80 u7De_81 ++ (wX1 k t8 u8rNa u8rMo u8rWa u8rDe u8Pe_82 u8Da_83 u8Dr_84 u8Na_85 u8Mo_86 u8Wa_87 u8De_88))))))))))) → lv_has ls 10 [(5, .long v5_46)] → W p l e rmX2_weighed_2 s m args below meth c H locs 0 0 Q (F0 m 128 ls []) := by
      intro u3Pe_47 u3Da_48 u3Dr_49 u3Na_50 u3Mo_51 u3Wa_52 u3De_53 u4Pe_54 u4Da_55 u4Dr_56 u4Na_57 u4Mo_58 u4Wa_59 u4De_60 u5Pe_61 u5Da_62 u5Dr_63 u5Na_64 u5Mo_65 u5Wa_66 u5De_67 u6Pe_68 u6Da_69 u6Dr_70 u6Na_71 u6Mo_72 u6Wa_73 u6De_74 u7Pe_75 u7Da_76 u7Dr_77 u7Na_78 u7Mo_79 u7Wa_80 u7De_81 u8Pe_82 u8Da_83 u8Dr_84 u8Na_85 u8Mo_86 u8Wa_87 u8De_88 H locs ls hw hl
      refine lv_lload hx hb dX2_weighed_128 (lv_at hl 0 rfl) ?_
      cases h
      exact k_jlret (j := (fun i => List.getD [u3Pe_47, u3Da_48, u3Dr_49, u4Pe_54, u4Da_55, u4Dr_56, u5Pe_61, u5Da_62, u5Dr_63, u6Pe_68, u6Da_69, u6Dr_70, u7Pe_75, u7Da_76, u7Dr_77, u8Pe_82, u8Da_83, u8Dr_84] i 0, fun i => List.getD [u3Na_50, u3Mo_51, u3Wa_52, u3De_53, u4Na_57, u4Mo_58, u4Wa_59, u4De_60, u5Na_64, u5Mo_65, u5Wa_66, u5De_67, u6Na_71, u6Mo_72, u6Wa_73, u6De_74, u7Na_78, u7Mo_79, u7Wa_80, u7De_81, u8Na_85, u8Mo_86, u8Wa_87, u8De_88] i (fun _ => 0))) hx hb hr hlocks hw rfl dX2_weighed_130 hQ
    clear h
    have LP_44 : ∀ (n : Nat) (v5_2 : Int64) (v8_3 : Int32), f_X2_weighed_2_L44 u2Pe u2Da u2Dr u2Na u2Mo u2Wa u2De p2 p3 p4 n v5_2 v8_3 = some v5_46 → ∀ (u3Pe_4 : Int32) (u3Da_5 : Int32) (u3Dr_6 : Int32) (u3Na_7 : (Nat → Int32)) (u3Mo_8 : (Nat → Int32)) (u3Wa_9 : (Nat → Int32)) (u3De_10 : (Nat → Int32)) (u4Pe_11 : Int32) (u4Da_12 : Int32) (u4Dr_13 : Int32) (u4Na_14 : (Nat → Int32)) (u4Mo_15 : (Nat → Int32)) (u4Wa_16 : (Nat → Int32)) (u4De_17 : (Nat → Int32)) (u5Pe_18 : Int32) (u5Da_19 : Int32) (u5Dr_20 : Int32) (u5Na_21 : (Nat → Int32)) (u5Mo_22 : (Nat → Int32)) (u5Wa_23 : (Nat → Int32)) (u5De_24 : (Nat → Int32)) (u6Pe_25 : Int32) (u6Da_26 : Int32) (u6Dr_27 : Int32) (u6Na_28 : (Nat → Int32)) (u6Mo_29 : (Nat → Int32)) (u6Wa_30 : (Nat → Int32)) (u6De_31 : (Nat → Int32)) (u7Pe_32 : Int32) (u7Da_33 : Int32) (u7Dr_34 : Int32) (u7Na_35 : (Nat → Int32)) (u7Mo_36 : (Nat → Int32)) (u7Wa_37 : (Nat → Int32)) (u7De_38 : (Nat → Int32)) (u8Pe_39 : Int32) (u8Da_40 : Int32) (u8Dr_41 : Int32) (u8Na_42 : (Nat → Int32)) (u8Mo_43 : (Nat → Int32)) (u8Wa_44 : (Nat → Int32)) (u8De_45 : (Nat → Int32)) (H : Heap) (locs : List Loc) (ls : Array Slot), Wd D A s.heap H locs (wX2 k xh xaA ++ (wOA k xaA t0 t1 t2 t3 t4 t5 t6 t7 t8 ++ (wX1 k t0 u0rNa u0rMo u0rWa u0rDe u0Pe u0Da u0Dr u0Na u0Mo u0Wa u0De ++ (wX1 k t1 u1rNa u1rMo u1rWa u1rDe u1Pe u1Da u1Dr u1Na u1Mo u1Wa u1De ++ (wX1 k t2 u2rNa u2rMo u2rWa u2rDe u2Pe u2Da u2Dr u2Na u2Mo u2Wa u2De ++ (wX1 k t3 u3rNa u3rMo u3rWa u3rDe u3Pe_4 u3Da_5 u3Dr_6 u3Na_7 u3Mo_8 u3Wa_9 u3De_10 ++ (wX1 k t4 u4rNa u4rMo u4rWa u4rDe u4Pe_11 u4Da_12 u4Dr_13 u4Na_14 u4Mo_15 u4Wa_16 u4De_17 ++ (wX1 k t5 u5rNa u5rMo u5rWa u5rDe u5Pe_18 u5Da_19 u5Dr_20 u5Na_21 u5Mo_22 u5Wa_23 u5De_24 ++ (wX1 k t6 u6rNa u6rMo u6rWa u6rDe u6Pe_25 u6Da_26 u6Dr_27 u6Na_28 u6Mo_29 u6Wa_30 u6De_31 ++ (wX1 k t7 u7rNa u7rMo u7rWa u7rDe u7Pe_32 u7Da_33 u7Dr_34 u7Na_35 u7Mo_36 u7Wa_37 u7De_38 ++ (wX1 k t8 u8rNa u8rMo u8rWa u8rDe u8Pe_39 u8Da_40 u8Dr_41 u8Na_42 u8Mo_43 u8Wa_44 u8De_45))))))))))) → lv_has ls 10 [(0, .ref xh), (1, .int 2), (2, .int p2), (3, .int p3), (4, .int p4), (5, .long v5_2), (7, .ref t3), (8, .int v8_3)] → W p l e rmX2_weighed_2 s m args below meth c H locs 0 0 Q (F0 m 44 ls []) := by
      clear hL_44 hw hl
      intro n
      induction n with
      | zero => intro v5_2 v8_3 h; rw [f_X2_weighed_2_L44] at h; cases h
      | succ n ih =>
        intro v5_2 v8_3 h u3Pe_4 u3Da_5 u3Dr_6 u3Na_7 u3Mo_8 u3Wa_9 u3De_10 u4Pe_11 u4Da_12 u4Dr_13 u4Na_14 u4Mo_15 u4Wa_16 u4De_17 u5Pe_18 u5Da_19 u5Dr_20 u5Na_21 u5Mo_22 u5Wa_23 u5De_24 u6Pe_25 u6Da_26 u6Dr_27 u6Na_28 u6Mo_29 u6Wa_30 u6De_31 u7Pe_32 u7Da_33 u7Dr_34 u7Na_35 u7Mo_36 u7Wa_37 u7De_38 u8Pe_39 u8Da_40 u8Dr_41 u8Na_42 u8Mo_43 u8Wa_44 u8De_45 H locs ls hw hl
        rw [f_X2_weighed_2_L44] at h
        refine lv_iload hx hb dX2_weighed_44 (lv_at hl 7 rfl) ?_
        refine lv_iconst (v := 2) hx hb dX2_weighed_46 (by decide) ?_
        refine kb_icmp_ge (tgt := 128) hx hb dX2_weighed_47 (by decide) h (fun c_47 h => ?_) (fun c_47 h => ?_)
        · cases h
          exact X_44 _ _ _ _ _ _ _ _ _ _ _ _ _ _ _ _ _ _ _ _ _ _ _ _ _ _ _ _ _ _ _ _ _ _ _ _ _ _ _ _ _ _ _ _ _ hw (lv_sub hl [5] rfl)
        · refine lv_iload hx hb dX2_weighed_50 (lv_at hl 7 rfl) ?_
          obtain ⟨t_89, hj_52, h⟩ := b1_inv h
          have J_52 : ∀ (H : Heap) (locs : List Loc) (ls : Array Slot), Wd D A s.heap H locs (wX2 k xh xaA ++ (wOA k xaA t0 t1 t2 t3 t4 t5 t6 t7 t8 ++ (wX1 k t0 u0rNa u0rMo u0rWa u0rDe u0Pe u0Da u0Dr u0Na u0Mo u0Wa u0De ++ (wX1 k t1 u1rNa u1rMo u1rWa u1rDe u1Pe u1Da u1Dr u1Na u1Mo u1Wa u1De ++ (wX1 k t2 u2rNa u2rMo u2rWa u2rDe u2Pe u2Da u2Dr u2Na u2Mo u2Wa u2De ++ (wX1 k t3 u3rNa u3rMo u3rWa u3rDe u3Pe_4 u3Da_5 u3Dr_6 u3Na_7 u3Mo_8 u3Wa_9 u3De_10 ++ (wX1 k t4 u4rNa u4rMo u4rWa u4rDe u4Pe_11 u4Da_12 u4Dr_13 u4Na_14 u4Mo_15 u4Wa_16 u4De_17 ++ (wX1 k t5 u5rNa u5rMo u5rWa u5rDe u5Pe_18 u5Da_19 u5Dr_20 u5Na_21 u5Mo_22 u5Wa_23 u5De_24 ++ (wX1 k t6 u6rNa u6rMo u6rWa u6rDe u6Pe_25 u6Da_26 u6Dr_27 u6Na_28 u6Mo_29 u6Wa_30 u6De_31 ++ (wX1 k t7 u7rNa u7rMo u7rWa u7rDe u7Pe_32 u7Da_33 u7Dr_34 u7Na_35 u7Mo_36 u7Wa_37 u7De_38 ++ (wX1 k t8 u8rNa u8rMo u8rWa u8rDe u8Pe_39 u8Da_40 u8Dr_41 u8Na_42 u8Mo_43 u8Wa_44 u8De_45))))))))))) → lv_has ls 10 [(0, .ref xh), (1, .int 2), (2, .int p2), (3, .int p3), (4, .int p4), (5, .long v5_2), (7, .ref t3), (8, .int v8_3)] → W p l e rmX2_weighed_2 s m args below meth c H locs 0 0 Q (F0 m 63 ls [.int t_89]) := by
            intro H locs ls hw hl
            refine lv_istore (lv' := [(9, .int t_89), (0, .ref xh), (1, .int 2), (2, .int p2), (3, .int p3), (4, .int p4), (5, .long v5_2), (7, .ref t3), (8, .int v8_3)]) hx hb dX2_weighed_63 hl (by decide) rfl (fun ls hl => ?_)
            refine lv_iload hx hb dX2_weighed_65 (lv_at hl 0 rfl) ?_
            refine kb_if_le (tgt := 122) hx hb dX2_weighed_67 (by decide) h (fun c_67 h => ?_) (fun c_67 h => ?_)
            · refine lv_iinc (v := v8_3 + 1) (lv' := [(8, .int (v8_3 + 1)), (9, .int t_89), (0, .ref xh), (1, .int 2), (2, .int p2), (3, .int p3), (4, .int p4), (5, .long v5_2), (7, .ref t3)]) hx hb dX2_weighed_122 hl (k := 8) rfl rfl (by decide) rfl (fun ls hl => ?_)
              refine lv_goto (tgt := 44) hx hb dX2_weighed_125 (by decide) ?_
              exact ih _ _ h _ _ _ _ _ _ _ _ _ _ _ _ _ _ _ _ _ _ _ _ _ _ _ _ _ _ _ _ _ _ _ _ _ _ _ _ _ _ _ _ _ _ _ _ _ hw (lv_sub hl [2, 3, 4, 5, 6, 7, 8, 0] rfl)
            · refine lv_aload hx hb dX2_weighed_70 (lv_at hl 7 rfl) ?_
              refine lv_aload_n hx hb dX2_weighed_72 rfl (lv_at hl 1 rfl) ?_
              refine va_get (ci := 2) (v := .ref xaA) (C := RX2) (T := TX2) (N := 1) hx hb hts hinX2 hown hK.1 hw.1 0 rfl rfl 0 (by decide) q_1 (fun _ h9 => h9) rfl dX2_weighed_73 ?_
              refine lv_iload_n hx hb dX2_weighed_76 rfl (lv_at hl 2 rfl) ?_
              refine k_aald hx hb hK hw 1 3 (j := 2) (a' := t2) rfl rfl rfl (by unfold vp_in; decide) rfl dX2_weighed_77 ?_
              obtain ⟨u3Pe_90, u3Da_91, u3Dr_92, u3Na_93, u3Mo_94, u3Wa_95, u3De_96, hf, h⟩ := b7_inv h
              refine k_callV (host := "") fx hK hA hw (c_X1_become l D k t3 u3rNa u3rMo u3rWa u3rDe t2 u2rNa u2rMo u2rWa u2rDe _ u3Pe_4 u3Da_5 u3Dr_6 u3Na_7 u3Mo_8 u3Wa_9 u3De_10 u2Pe u2Da u2Dr u2Na u2Mo u2Wa u2De u3Pe_90 u3Da_91 u3Dr_92 u3Na_93 u3Mo_94 u3Wa_95 u3De_96 hf) (cwV 1 hts gX2_weighed_X1_become rfl rfl rfl (by decide +kernel) ⟨by decide, by decide⟩) (As := [.ref t2]) (wr := [(xh, .inr (2, [.ref xaA])), (xaA, .inl (k 3, 9, .inr (.inr (.inr (.inr (rl [t0, t1, t2, t3, t4, t5, t6, t7, t8])))))), (t0, .inr (1, [.int u0Pe, .int u0Da, .int u0Dr, .ref u0rNa, .ref u0rMo, .ref u0rWa, .ref u0rDe])), (u0rNa, .inl (k 0, 5, .inl u0Na)), (u0rMo, .inl (k 0, 5, .inl u0Mo)), (u0rWa, .inl (k 0, 5, .inl u0Wa)), (u0rDe, .inl (k 0, 25, .inl u0De)), (t1, .inr (1, [.int u1Pe, .int u1Da, .int u1Dr, .ref u1rNa, .ref u1rMo, .ref u1rWa, .ref u1rDe])), (u1rNa, .inl (k 0, 5, .inl u1Na)), (u1rMo, .inl (k 0, 5, .inl u1Mo)), (u1rWa, .inl (k 0, 5, .inl u1Wa)), (u1rDe, .inl (k 0, 25, .inl u1De)), (t4, .inr (1, [.int u4Pe_11, .int u4Da_12, .int u4Dr_13, .ref u4rNa, .ref u4rMo, .ref u4rWa, .ref u4rDe])), (u4rNa, .inl (k 0, 5, .inl u4Na_14)), (u4rMo, .inl (k 0, 5, .inl u4Mo_15)), (u4rWa, .inl (k 0, 5, .inl u4Wa_16)), (u4rDe, .inl (k 0, 25, .inl u4De_17)), (t5, .inr (1, [.int u5Pe_18, .int u5Da_19, .int u5Dr_20, .ref u5rNa, .ref u5rMo, .ref u5rWa, .ref u5rDe])), (u5rNa, .inl (k 0, 5, .inl u5Na_21)), (u5rMo, .inl (k 0, 5, .inl u5Mo_22)), (u5rWa, .inl (k 0, 5, .inl u5Wa_23)), (u5rDe, .inl (k 0, 25, .inl u5De_24)), (t6, .inr (1, [.int u6Pe_25, .int u6Da_26, .int u6Dr_27, .ref u6rNa, .ref u6rMo, .ref u6rWa, .ref u6rDe])), (u6rNa, .inl (k 0, 5, .inl u6Na_28)), (u6rMo, .inl (k 0, 5, .inl u6Mo_29)), (u6rWa, .inl (k 0, 5, .inl u6Wa_30)), (u6rDe, .inl (k 0, 25, .inl u6De_31)), (t7, .inr (1, [.int u7Pe_32, .int u7Da_33, .int u7Dr_34, .ref u7rNa, .ref u7rMo, .ref u7rWa, .ref u7rDe])), (u7rNa, .inl (k 0, 5, .inl u7Na_35)), (u7rMo, .inl (k 0, 5, .inl u7Mo_36)), (u7rWa, .inl (k 0, 5, .inl u7Wa_37)), (u7rDe, .inl (k 0, 25, .inl u7De_38)), (t8, .inr (1, [.int u8Pe_39, .int u8Da_40, .int u8Dr_41, .ref u8rNa, .ref u8rMo, .ref u8rWa, .ref u8rDe])), (u8rNa, .inl (k 0, 5, .inl u8Na_42)), (u8rMo, .inl (k 0, 5, .inl u8Mo_43)), (u8rWa, .inl (k 0, 5, .inl u8Wa_44)), (u8rDe, .inl (k 0, 25, .inl u8De_45))]) (ws' := wX2 k xh xaA ++ (wOA k xaA t0 t1 t2 t3 t4 t5 t6 t7 t8 ++ (wX1 k t0 u0rNa u0rMo u0rWa u0rDe u0Pe u0Da u0Dr u0Na u0Mo u0Wa u0De ++ (wX1 k t1 u1rNa u1rMo u1rWa u1rDe u1Pe u1Da u1Dr u1Na u1Mo u1Wa u1De ++ (wX1 k t2 u2rNa u2rMo u2rWa u2rDe u2Pe u2Da u2Dr u2Na u2Mo u2Wa u2De ++ (wX1 k t3 u3rNa u3rMo u3rWa u3rDe u3Pe_90 u3Da_91 u3Dr_92 u3Na_93 u3Mo_94 u3Wa_95 u3De_96 ++ (wX1 k t4 u4rNa u4rMo u4rWa u4rDe u4Pe_11 u4Da_12 u4Dr_13 u4Na_14 u4Mo_15 u4Wa_16 u4De_17 ++ (wX1 k t5 u5rNa u5rMo u5rWa u5rDe u5Pe_18 u5Da_19 u5Dr_20 u5Na_21 u5Mo_22 u5Wa_23 u5De_24 ++ (wX1 k t6 u6rNa u6rMo u6rWa u6rDe u6Pe_25 u6Da_26 u6Dr_27 u6Na_28 u6Mo_29 u6Wa_30 u6De_31 ++ (wX1 k t7 u7rNa u7rMo u7rWa u7rDe u7Pe_32 u7Da_33 u7Dr_34 u7Na_35 u7Mo_36 u7Wa_37 u7De_38 ++ (wX1 k t8 u8rNa u8rMo u8rWa u8rDe u8Pe_39 u8Da_40 u8Dr_41 u8Na_42 u8Mo_43 u8Wa_44 u8De_45))))))))))) [17, 18, 19, 20, 21, 12, 13, 14, 15, 16] [0, 1, 2, 3, 4, 5, 6, 7, 8, 9, 10, 11, 22, 23, 24, 25, 26, 27, 28, 29, 30, 31, 32, 33, 34, 35, 36, 37, 38, 39, 40, 41, 42, 43, 44, 45, 46] [0, 1, 2, 3, 4, 5, 6, 7, 8, 9, 10, 11, 42, 43, 44, 45, 46, 37, 38, 39, 40, 41, 12, 13, 14, 15, 16, 17, 18, 19, 20, 21, 22, 23, 24, 25, 26, 27, 28, 29, 30, 31, 32, 33, 34, 35, 36] rfl rfl (by decide) (by decide) (by decide) rfl (by decide) 1 rfl rfl [] rfl hl.1 rfl (Nat.le_of_ble_eq_true rfl) dX2_weighed_78 ⟨by decide, by decide⟩ (fun H locs (hw : Wd D A s.heap H locs (wX2 k xh xaA ++ (wOA k xaA t0 t1 t2 t3 t4 t5 t6 t7 t8 ++ (wX1 k t0 u0rNa u0rMo u0rWa u0rDe u0Pe u0Da u0Dr u0Na u0Mo u0Wa u0De ++ (wX1 k t1 u1rNa u1rMo u1rWa u1rDe u1Pe u1Da u1Dr u1Na u1Mo u1Wa u1De ++ (wX1 k t2 u2rNa u2rMo u2rWa u2rDe u2Pe u2Da u2Dr u2Na u2Mo u2Wa u2De ++ (wX1 k t3 u3rNa u3rMo u3rWa u3rDe u3Pe_90 u3Da_91 u3Dr_92 u3Na_93 u3Mo_94 u3Wa_95 u3De_96 ++ (wX1 k t4 u4rNa u4rMo u4rWa u4rDe u4Pe_11 u4Da_12 u4Dr_13 u4Na_14 u4Mo_15 u4Wa_16 u4De_17 ++ (wX1 k t5 u5rNa u5rMo u5rWa u5rDe u5Pe_18 u5Da_19 u5Dr_20 u5Na_21 u5Mo_22 u5Wa_23 u5De_24 ++ (wX1 k t6 u6rNa u6rMo u6rWa u6rDe u6Pe_25 u6Da_26 u6Dr_27 u6Na_28 u6Mo_29 u6Wa_30 u6De_31 ++ (wX1 k t7 u7rNa u7rMo u7rWa u7rDe u7Pe_32 u7Da_33 u7Dr_34 u7Na_35 u7Mo_36 u7Wa_37 u7De_38 ++ (wX1 k t8 u8rNa u8rMo u8rWa u8rDe u8Pe_39 u8Da_40 u8Dr_41 u8Na_42 u8Mo_43 u8Wa_44 u8De_45)))))))))))) => ?_)
              refine W.eq (g2 := F0 m 81 ls ([])) rfl ?_
              refine lv_aload hx hb dX2_weighed_81 (lv_at hl 7 rfl) ?_
              refine lv_iload hx hb dX2_weighed_83 (lv_at hl 8 rfl) ?_
              obtain ⟨t_97, hj_85, h⟩ := b1_inv h
              have J_85 : ∀ (H : Heap) (locs : List Loc) (ls : Array Slot), Wd D A s.heap H locs (wX2 k xh xaA ++ (wOA k xaA t0 t1 t2 t3 t4 t5 t6 t7 t8 ++ (wX1 k t0 u0rNa u0rMo u0rWa u0rDe u0Pe u0Da u0Dr u0Na u0Mo u0Wa u0De ++ (wX1 k t1 u1rNa u1rMo u1rWa u1rDe u1Pe u1Da u1Dr u1Na u1Mo u1Wa u1De ++ (wX1 k t2 u2rNa u2rMo u2rWa u2rDe u2Pe u2Da u2Dr u2Na u2Mo u2Wa u2De ++ (wX1 k t3 u3rNa u3rMo u3rWa u3rDe u3Pe_90 u3Da_91 u3Dr_92 u3Na_93 u3Mo_94 u3Wa_95 u3De_96 ++ (wX1 k t4 u4rNa u4rMo u4rWa u4rDe u4Pe_11 u4Da_12 u4Dr_13 u4Na_14 u4Mo_15 u4Wa_16 u4De_17 ++ (wX1 k t5 u5rNa u5rMo u5rWa u5rDe u5Pe_18 u5Da_19 u5Dr_20 u5Na_21 u5Mo_22 u5Wa_23 u5De_24 ++ (wX1 k t6 u6rNa u6rMo u6rWa u6rDe u6Pe_25 u6Da_26 u6Dr_27 u6Na_28 u6Mo_29 u6Wa_30 u6De_31 ++ (wX1 k t7 u7rNa u7rMo u7rWa u7rDe u7Pe_32 u7Da_33 u7Dr_34 u7Na_35 u7Mo_36 u7Wa_37 u7De_38 ++ (wX1 k t8 u8rNa u8rMo u8rWa u8rDe u8Pe_39 u8Da_40 u8Dr_41 u8Na_42 u8Mo_43 u8Wa_44 u8De_45))))))))))) → lv_has ls 10 [(0, .ref xh), (1, .int 2), (2, .int p2), (3, .int p3), (4, .int p4), (5, .long v5_2), (7, .ref t3), (8, .int v8_3), (9, .int t_89)] → W p l e rmX2_weighed_2 s m args below meth c H locs 0 0 Q (F0 m 98 ls [.int t_97, .ref t3]) := by
                intro H locs ls hw hl
                obtain ⟨r_98, u3Da_99, u3Mo_100, u3De_101, hf, h⟩ := b4_inv h
                refine k_callV (host := "") fx hK hA hw (c_X1_runDay l D k t3 u3rNa u3rMo u3rWa u3rDe _ u3Pe_90 u3Da_91 u3Dr_92 u3Na_93 u3Mo_94 u3Wa_95 u3De_96 t_97 r_98 u3Da_99 u3Mo_100 u3De_101 hf) (cwV 1 hts gX2_weighed_X1_runDay rfl rfl rfl (by decide +kernel) ⟨by decide, by decide⟩) (As := [.int t_97]) (wr := [(xh, .inr (2, [.ref xaA])), (xaA, .inl (k 3, 9, .inr (.inr (.inr (.inr (rl [t0, t1, t2, t3, t4, t5, t6, t7, t8])))))), (t0, .inr (1, [.int u0Pe, .int u0Da, .int u0Dr, .ref u0rNa, .ref u0rMo, .ref u0rWa, .ref u0rDe])), (u0rNa, .inl (k 0, 5, .inl u0Na)), (u0rMo, .inl (k 0, 5, .inl u0Mo)), (u0rWa, .inl (k 0, 5, .inl u0Wa)), (u0rDe, .inl (k 0, 25, .inl u0De)), (t1, .inr (1, [.int u1Pe, .int u1Da, .int u1Dr, .ref u1rNa, .ref u1rMo, .ref u1rWa, .ref u1rDe])), (u1rNa, .inl (k 0, 5, .inl u1Na)), (u1rMo, .inl (k 0, 5, .inl u1Mo)), (u1rWa, .inl (k 0, 5, .inl u1Wa)), (u1rDe, .inl (k 0, 25, .inl u1De)), (t2, .inr (1, [.int u2Pe, .int u2Da, .int u2Dr, .ref u2rNa, .ref u2rMo, .ref u2rWa, .ref u2rDe])), (u2rNa, .inl (k 0, 5, .inl u2Na)), (u2rMo, .inl (k 0, 5, .inl u2Mo)), (u2rWa, .inl (k 0, 5, .inl u2Wa)), (u2rDe, .inl (k 0, 25, .inl u2De)), (t4, .inr (1, [.int u4Pe_11, .int u4Da_12, .int u4Dr_13, .ref u4rNa, .ref u4rMo, .ref u4rWa, .ref u4rDe])), (u4rNa, .inl (k 0, 5, .inl u4Na_14)), (u4rMo, .inl (k 0, 5, .inl u4Mo_15)), (u4rWa, .inl (k 0, 5, .inl u4Wa_16)), (u4rDe, .inl (k 0, 25, .inl u4De_17)), (t5, .inr (1, [.int u5Pe_18, .int u5Da_19, .int u5Dr_20, .ref u5rNa, .ref u5rMo, .ref u5rWa, .ref u5rDe])), (u5rNa, .inl (k 0, 5, .inl u5Na_21)), (u5rMo, .inl (k 0, 5, .inl u5Mo_22)), (u5rWa, .inl (k 0, 5, .inl u5Wa_23)), (u5rDe, .inl (k 0, 25, .inl u5De_24)), (t6, .inr (1, [.int u6Pe_25, .int u6Da_26, .int u6Dr_27, .ref u6rNa, .ref u6rMo, .ref u6rWa, .ref u6rDe])), (u6rNa, .inl (k 0, 5, .inl u6Na_28)), (u6rMo, .inl (k 0, 5, .inl u6Mo_29)), (u6rWa, .inl (k 0, 5, .inl u6Wa_30)), (u6rDe, .inl (k 0, 25, .inl u6De_31)), (t7, .inr (1, [.int u7Pe_32, .int u7Da_33, .int u7Dr_34, .ref u7rNa, .ref u7rMo, .ref u7rWa, .ref u7rDe])), (u7rNa, .inl (k 0, 5, .inl u7Na_35)), (u7rMo, .inl (k 0, 5, .inl u7Mo_36)), (u7rWa, .inl (k 0, 5, .inl u7Wa_37)), (u7rDe, .inl (k 0, 25, .inl u7De_38)), (t8, .inr (1, [.int u8Pe_39, .int u8Da_40, .int u8Dr_41, .ref u8rNa, .ref u8rMo, .ref u8rWa, .ref u8rDe])), (u8rNa, .inl (k 0, 5, .inl u8Na_42)), (u8rMo, .inl (k 0, 5, .inl u8Mo_43)), (u8rWa, .inl (k 0, 5, .inl u8Wa_44)), (u8rDe, .inl (k 0, 25, .inl u8De_45))]) (ws' := wX2 k xh xaA ++ (wOA k xaA t0 t1 t2 t3 t4 t5 t6 t7 t8 ++ (wX1 k t0 u0rNa u0rMo u0rWa u0rDe u0Pe u0Da u0Dr u0Na u0Mo u0Wa u0De ++ (wX1 k t1 u1rNa u1rMo u1rWa u1rDe u1Pe u1Da u1Dr u1Na u1Mo u1Wa u1De ++ (wX1 k t2 u2rNa u2rMo u2rWa u2rDe u2Pe u2Da u2Dr u2Na u2Mo u2Wa u2De ++ (wX1 k t3 u3rNa u3rMo u3rWa u3rDe u3Pe_90 u3Da_99 u3Dr_92 u3Na_93 u3Mo_100 u3Wa_95 u3De_101 ++ (wX1 k t4 u4rNa u4rMo u4rWa u4rDe u4Pe_11 u4Da_12 u4Dr_13 u4Na_14 u4Mo_15 u4Wa_16 u4De_17 ++ (wX1 k t5 u5rNa u5rMo u5rWa u5rDe u5Pe_18 u5Da_19 u5Dr_20 u5Na_21 u5Mo_22 u5Wa_23 u5De_24 ++ (wX1 k t6 u6rNa u6rMo u6rWa u6rDe u6Pe_25 u6Da_26 u6Dr_27 u6Na_28 u6Mo_29 u6Wa_30 u6De_31 ++ (wX1 k t7 u7rNa u7rMo u7rWa u7rDe u7Pe_32 u7Da_33 u7Dr_34 u7Na_35 u7Mo_36 u7Wa_37 u7De_38 ++ (wX1 k t8 u8rNa u8rMo u8rWa u8rDe u8Pe_39 u8Da_40 u8Dr_41 u8Na_42 u8Mo_43 u8Wa_44 u8De_45))))))))))) [17, 18, 19, 20, 21] [0, 1, 2, 3, 4, 5, 6, 7, 8, 9, 10, 11, 12, 13, 14, 15, 16, 22, 23, 24, 25, 26, 27, 28, 29, 30, 31, 32, 33, 34, 35, 36, 37, 38, 39, 40, 41, 42, 43, 44, 45, 46] [0, 1, 2, 3, 4, 5, 6, 7, 8, 9, 10, 11, 12, 13, 14, 15, 16, 42, 43, 44, 45, 46, 17, 18, 19, 20, 21, 22, 23, 24, 25, 26, 27, 28, 29, 30, 31, 32, 33, 34, 35, 36, 37, 38, 39, 40, 41] rfl rfl (by decide) (by decide) (by decide) rfl (by decide) 1 rfl rfl [] rfl hl.1 rfl (Nat.le_of_ble_eq_true rfl) dX2_weighed_98 ⟨by decide, by decide⟩ (fun H locs (hw : Wd D A s.heap H locs (wX2 k xh xaA ++ (wOA k xaA t0 t1 t2 t3 t4 t5 t6 t7 t8 ++ (wX1 k t0 u0rNa u0rMo u0rWa u0rDe u0Pe u0Da u0Dr u0Na u0Mo u0Wa u0De ++ (wX1 k t1 u1rNa u1rMo u1rWa u1rDe u1Pe u1Da u1Dr u1Na u1Mo u1Wa u1De ++ (wX1 k t2 u2rNa u2rMo u2rWa u2rDe u2Pe u2Da u2Dr u2Na u2Mo u2Wa u2De ++ (wX1 k t3 u3rNa u3rMo u3rWa u3rDe u3Pe_90 u3Da_99 u3Dr_92 u3Na_93 u3Mo_100 u3Wa_95 u3De_101 ++ (wX1 k t4 u4rNa u4rMo u4rWa u4rDe u4Pe_11 u4Da_12 u4Dr_13 u4Na_14 u4Mo_15 u4Wa_16 u4De_17 ++ (wX1 k t5 u5rNa u5rMo u5rWa u5rDe u5Pe_18 u5Da_19 u5Dr_20 u5Na_21 u5Mo_22 u5Wa_23 u5De_24 ++ (wX1 k t6 u6rNa u6rMo u6rWa u6rDe u6Pe_25 u6Da_26 u6Dr_27 u6Na_28 u6Mo_29 u6Wa_30 u6De_31 ++ (wX1 k t7 u7rNa u7rMo u7rWa u7rDe u7Pe_32 u7Da_33 u7Dr_34 u7Na_35 u7Mo_36 u7Wa_37 u7De_38 ++ (wX1 k t8 u8rNa u8rMo u8rWa u8rDe u8Pe_39 u8Da_40 u8Dr_41 u8Na_42 u8Mo_43 u8Wa_44 u8De_45)))))))))))) => ?_)
                refine W.eq (g2 := F0 m 101 ls ([.int r_98])) rfl ?_
                refine lv_pop hx hb dX2_weighed_101 rfl ?_
                refine lv_lload hx hb dX2_weighed_102 (lv_at hl 5 rfl) ?_
                refine lv_iload hx hb dX2_weighed_104 (lv_at hl 8 rfl) ?_
                refine lv_i2l hx hb dX2_weighed_106 rfl ?_
                refine lv_aload_n hx hb dX2_weighed_107 rfl (lv_at hl 0 rfl) ?_
                refine lv_iload_n hx hb dX2_weighed_108 rfl (lv_at hl 1 rfl) ?_
                refine lv_iconst (v := 1) hx hb dX2_weighed_109 (by decide) ?_
                refine lv_iadd hx hb dX2_weighed_110 ?_
                refine k_lit (y := 3) (by decide) ?_
                refine lv_iload_n hx hb dX2_weighed_111 rfl (lv_at hl 2 rfl) ?_
                refine lv_iload_n hx hb dX2_weighed_112 rfl (lv_at hl 3 rfl) ?_
                refine lv_iload hx hb dX2_weighed_113 (lv_at hl 4 rfl) ?_
                obtain ⟨r_102, hf, h⟩ := b1_inv h
                refine k_callVJ fx hK hA hw (c_X2_weighed_3 l D k xh xaA t0 t1 t2 t3 t4 t5 t6 t7 t8 u0rNa u0rMo u0rWa u0rDe u1rNa u1rMo u1rWa u1rDe u2rNa u2rMo u2rWa u2rDe u3rNa u3rMo u3rWa u3rDe u4rNa u4rMo u4rWa u4rDe u5rNa u5rMo u5rWa u5rDe u6rNa u6rMo u6rWa u6rDe u7rNa u7rMo u7rWa u7rDe u8rNa u8rMo u8rWa u8rDe _ u0Pe u0Da u0Dr u0Na u0Mo u0Wa u0De u1Pe u1Da u1Dr u1Na u1Mo u1Wa u1De u2Pe u2Da u2Dr u2Na u2Mo u2Wa u2De u3Pe_90 u3Da_99 u3Dr_92 u3Na_93 u3Mo_100 u3Wa_95 u3De_101 u4Pe_11 u4Da_12 u4Dr_13 u4Na_14 u4Mo_15 u4Wa_16 u4De_17 u5Pe_18 u5Da_19 u5Dr_20 u5Na_21 u5Mo_22 u5Wa_23 u5De_24 u6Pe_25 u6Da_26 u6Dr_27 u6Na_28 u6Mo_29 u6Wa_30 u6De_31 u7Pe_32 u7Da_33 u7Dr_34 u7Na_35 u7Mo_36 u7Wa_37 u7De_38 u8Pe_39 u8Da_40 u8Dr_41 u8Na_42 u8Mo_43 u8Wa_44 u8De_45 p2 p3 p4 r_102 hf) (cwV 4 hts gX2_weighed_X2_weighed rfl rfl rfl (by decide +kernel) ⟨by decide, by decide⟩) (As := [.int 3, .int p2, .int p3, .int p4]) (wr := []) (ws' := fun j_103 => wX2 k xh xaA ++ (wOA k xaA t0 t1 t2 t3 t4 t5 t6 t7 t8 ++ (wX1 k t0 u0rNa u0rMo u0rWa u0rDe u0Pe u0Da u0Dr u0Na u0Mo u0Wa u0De ++ (wX1 k t1 u1rNa u1rMo u1rWa u1rDe u1Pe u1Da u1Dr u1Na u1Mo u1Wa u1De ++ (wX1 k t2 u2rNa u2rMo u2rWa u2rDe u2Pe u2Da u2Dr u2Na u2Mo u2Wa u2De ++ (wX1 k t3 u3rNa u3rMo u3rWa u3rDe u3Pe_90 u3Da_99 u3Dr_92 u3Na_93 u3Mo_100 u3Wa_95 u3De_101 ++ (wX1 k t4 u4rNa u4rMo u4rWa u4rDe (j_103.1 0) (j_103.1 1) (j_103.1 2) (j_103.2 0) (j_103.2 1) (j_103.2 2) (j_103.2 3) ++ (wX1 k t5 u5rNa u5rMo u5rWa u5rDe (j_103.1 3) (j_103.1 4) (j_103.1 5) (j_103.2 4) (j_103.2 5) (j_103.2 6) (j_103.2 7) ++ (wX1 k t6 u6rNa u6rMo u6rWa u6rDe (j_103.1 6) (j_103.1 7) (j_103.1 8) (j_103.2 8) (j_103.2 9) (j_103.2 10) (j_103.2 11) ++ (wX1 k t7 u7rNa u7rMo u7rWa u7rDe (j_103.1 9) (j_103.1 10) (j_103.1 11) (j_103.2 12) (j_103.2 13) (j_103.2 14) (j_103.2 15) ++ (wX1 k t8 u8rNa u8rMo u8rWa u8rDe (j_103.1 12) (j_103.1 13) (j_103.1 14) (j_103.2 16) (j_103.2 17) (j_103.2 18) (j_103.2 19)))))))))))) [0, 1, 2, 3, 4, 5, 6, 7, 8, 9, 10, 11, 12, 13, 14, 15, 16, 17, 18, 19, 20, 21, 22, 23, 24, 25, 26, 27, 28, 29, 30, 31, 32, 33, 34, 35, 36, 37, 38, 39, 40, 41, 42, 43, 44, 45, 46] [] [0, 1, 2, 3, 4, 5, 6, 7, 8, 9, 10, 11, 12, 13, 14, 15, 16, 17, 18, 19, 20, 21, 22, 23, 24, 25, 26, 27, 28, 29, 30, 31, 32, 33, 34, 35, 36, 37, 38, 39, 40, 41, 42, 43, 44, 45, 46] rfl rfl (by decide) (by decide) (by decide) (fun _ => rfl) (by decide) 2 rfl rfl [.long t_89.toInt64, .long v5_2] rfl hl.1 rfl (Nat.le_of_ble_eq_true rfl) dX2_weighed_115 ⟨by decide, by decide⟩ (fun j_103 H locs (hw : Wd D A s.heap H locs (wX2 k xh xaA ++ (wOA k xaA t0 t1 t2 t3 t4 t5 t6 t7 t8 ++ (wX1 k t0 u0rNa u0rMo u0rWa u0rDe u0Pe u0Da u0Dr u0Na u0Mo u0Wa u0De ++ (wX1 k t1 u1rNa u1rMo u1rWa u1rDe u1Pe u1Da u1Dr u1Na u1Mo u1Wa u1De ++ (wX1 k t2 u2rNa u2rMo u2rWa u2rDe u2Pe u2Da u2Dr u2Na u2Mo u2Wa u2De ++ (wX1 k t3 u3rNa u3rMo u3rWa u3rDe u3Pe_90 u3Da_99 u3Dr_92 u3Na_93 u3Mo_100 u3Wa_95 u3De_101 ++ (wX1 k t4 u4rNa u4rMo u4rWa u4rDe (j_103.1 0) (j_103.1 1) (j_103.1 2) (j_103.2 0) (j_103.2 1) (j_103.2 2) (j_103.2 3) ++ (wX1 k t5 u5rNa u5rMo u5rWa u5rDe (j_103.1 3) (j_103.1 4) (j_103.1 5) (j_103.2 4) (j_103.2 5) (j_103.2 6) (j_103.2 7) ++ (wX1 k t6 u6rNa u6rMo u6rWa u6rDe (j_103.1 6) (j_103.1 7) (j_103.1 8) (j_103.2 8) (j_103.2 9) (j_103.2 10) (j_103.2 11) ++ (wX1 k t7 u7rNa u7rMo u7rWa u7rDe (j_103.1 9) (j_103.1 10) (j_103.1 11) (j_103.2 12) (j_103.2 13) (j_103.2 14) (j_103.2 15) ++ (wX1 k t8 u8rNa u8rMo u8rWa u8rDe (j_103.1 12) (j_103.1 13) (j_103.1 14) (j_103.2 16) (j_103.2 17) (j_103.2 18) (j_103.2 19))))))))))))) => ?_)
                refine W.eq (g2 := F0 m 118 ls ([.long r_102, .long t_89.toInt64, .long v5_2])) rfl ?_
                refine lv_lmul hx hb dX2_weighed_118 ?_
                refine lv_ladd hx hb dX2_weighed_119 ?_
                refine lv_lstore (lv' := [(5, .long (v5_2 + (t_89.toInt64 * r_102))), (0, .ref xh), (1, .int 2), (2, .int p2), (3, .int p3), (4, .int p4), (7, .ref t3), (8, .int v8_3), (9, .int t_89)]) hx hb dX2_weighed_120 hl (by decide) rfl (fun ls hl => ?_)
                refine lv_iinc (v := v8_3 + 1) (lv' := [(8, .int (v8_3 + 1)), (5, .long (v5_2 + (t_89.toInt64 * r_102))), (0, .ref xh), (1, .int 2), (2, .int p2), (3, .int p3), (4, .int p4), (7, .ref t3), (9, .int t_89)]) hx hb dX2_weighed_122 hl (k := 7) rfl rfl (by decide) rfl (fun ls hl => ?_)
                refine lv_goto (tgt := 44) hx hb dX2_weighed_125 (by decide) ?_
                exact ih _ _ h _ _ _ _ _ _ _ _ _ _ _ _ _ _ _ _ _ _ _ _ _ _ _ _ _ _ _ _ _ _ _ _ _ _ _ _ _ _ _ _ _ _ _ _ _ hw (lv_sub hl [2, 3, 4, 5, 6, 1, 7, 0] rfl)
              clear h
              have h := hj_85
              refine kb_if_ne (tgt := 93) hx hb dX2_weighed_85 (by decide) h (fun c_85 h => ?_) (fun c_85 h => ?_)
              · refine lv_bipush (v := 9) hx hb dX2_weighed_88 (by decide) ?_
                refine lv_goto (tgt := 98) hx hb dX2_weighed_90 (by decide) ?_
                cases h
                exact J_85 _ _ _ hw (lv_sub hl [1, 2, 3, 4, 5, 6, 7, 8, 0] rfl)
              · refine lv_aload hx hb dX2_weighed_93 (lv_at hl 7 rfl) ?_
                refine va_get (ci := 1) (v := .int u3Dr_92) (C := RX1) (T := TX1) (N := 7) hx hb hts hinX1 hown hK.1 hw.1 17 rfl rfl 2 (by decide) q_2 (fun _ h9 => h9) rfl dX2_weighed_95 ?_
                cases h
                exact J_85 _ _ _ hw (lv_sub hl [1, 2, 3, 4, 5, 6, 7, 8, 0] rfl)
          clear h
          have h := hj_52
          refine kb_if_ne (tgt := 59) hx hb dX2_weighed_52 (by decide) h (fun c_52 h => ?_) (fun c_52 h => ?_)
          · refine lv_iload_n hx hb dX2_weighed_55 rfl (lv_at hl 2 rfl) ?_
            refine lv_goto (tgt := 63) hx hb dX2_weighed_56 (by decide) ?_
            cases h
            exact J_52 _ _ _ hw (lv_sub hl [0, 1, 2, 3, 4, 5, 6, 7] rfl)
          · refine lv_bipush (v := 10) hx hb dX2_weighed_59 (by decide) ?_
            refine lv_iload_n hx hb dX2_weighed_61 rfl (lv_at hl 2 rfl) ?_
            refine lv_isub hx hb dX2_weighed_62 ?_
            cases h
            exact J_52 _ _ _ hw (lv_sub hl [0, 1, 2, 3, 4, 5, 6, 7] rfl)
    exact LP_44 400 0 0 hL_44 _ _ _ _ _ _ _ _ _ _ _ _ _ _ _ _ _ _ _ _ _ _ _ _ _ _ _ _ _ _ _ _ _ _ _ _ _ _ _ _ _ _ _ _ _ hw (lv_sub hl [3, 4, 5, 6, 7, 2, 1, 0] rfl)
abbrev rmX2_weighed_1 : Room := { frames := 10, cells := 0, slots := 0, locals := 269 }
set_option maxHeartbeats 4000000 in
set_option maxRecDepth 100000 in
theorem c_X2_weighed_1 (l : Launch) (D : va_G) (k : Nat → ClassId) (xh xaA t0 t1 t2 t3 t4 t5 t6 t7 t8 u0rNa u0rMo u0rWa u0rDe u1rNa u1rMo u1rWa u1rDe u2rNa u2rMo u2rWa u2rDe u3rNa u3rMo u3rWa u3rDe u4rNa u4rMo u4rWa u4rDe u5rNa u5rMo u5rWa u5rDe u6rNa u6rMo u6rWa u6rDe u7rNa u7rMo u7rWa u7rDe u8rNa u8rMo u8rWa u8rDe : Nat) (sz : Nat) (u0Pe : Int32) (u0Da : Int32) (u0Dr : Int32) (u0Na : (Nat → Int32)) (u0Mo : (Nat → Int32)) (u0Wa : (Nat → Int32)) (u0De : (Nat → Int32)) (u1Pe : Int32) (u1Da : Int32) (u1Dr : Int32) (u1Na : (Nat → Int32)) (u1Mo : (Nat → Int32)) (u1Wa : (Nat → Int32)) (u1De : (Nat → Int32)) (u2Pe : Int32) (u2Da : Int32) (u2Dr : Int32) (u2Na : (Nat → Int32)) (u2Mo : (Nat → Int32)) (u2Wa : (Nat → Int32)) (u2De : (Nat → Int32)) (u3Pe : Int32) (u3Da : Int32) (u3Dr : Int32) (u3Na : (Nat → Int32)) (u3Mo : (Nat → Int32)) (u3Wa : (Nat → Int32)) (u3De : (Nat → Int32)) (u4Pe : Int32) (u4Da : Int32) (u4Dr : Int32) (u4Na : (Nat → Int32)) (u4Mo : (Nat → Int32)) (u4Wa : (Nat → Int32)) (u4De : (Nat → Int32)) (u5Pe : Int32) (u5Da : Int32) (u5Dr : Int32) (u5Na : (Nat → Int32)) (u5Mo : (Nat → Int32)) (u5Wa : (Nat → Int32)) (u5De : (Nat → Int32)) (u6Pe : Int32) (u6Da : Int32) (u6Dr : Int32) (u6Na : (Nat → Int32)) (u6Mo : (Nat → Int32)) (u6Wa : (Nat → Int32)) (u6De : (Nat → Int32)) (u7Pe : Int32) (u7Da : Int32) (u7Dr : Int32) (u7Na : (Nat → Int32)) (u7Mo : (Nat → Int32)) (u7Wa : (Nat → Int32)) (u7De : (Nat → Int32)) (u8Pe : Int32) (u8Da : Int32) (u8Dr : Int32) (u8Na : (Nat → Int32)) (u8Mo : (Nat → Int32)) (u8Wa : (Nat → Int32)) (u8De : (Nat → Int32)) (p2 : Int32) (p3 : Int32) (p4 : Int32) (r_ : Int64) (hf : f_X2_weighed_1 u1Pe u1Da u1Dr u1Na u1Mo u1Wa u1De p2 p3 p4 = some r_) : mJ l yX2_weighed wsX2_weighed rmX2_weighed_1 D k sz [.ref xh, .int 1, .int p2, .int p3, .int p4] (wX2 k xh xaA ++ (wOA k xaA t0 t1 t2 t3 t4 t5 t6 t7 t8 ++ (wX1 k t0 u0rNa u0rMo u0rWa u0rDe u0Pe u0Da u0Dr u0Na u0Mo u0Wa u0De ++ (wX1 k t1 u1rNa u1rMo u1rWa u1rDe u1Pe u1Da u1Dr u1Na u1Mo u1Wa u1De ++ (wX1 k t2 u2rNa u2rMo u2rWa u2rDe u2Pe u2Da u2Dr u2Na u2Mo u2Wa u2De ++ (wX1 k t3 u3rNa u3rMo u3rWa u3rDe u3Pe u3Da u3Dr u3Na u3Mo u3Wa u3De ++ (wX1 k t4 u4rNa u4rMo u4rWa u4rDe u4Pe u4Da u4Dr u4Na u4Mo u4Wa u4De ++ (wX1 k t5 u5rNa u5rMo u5rWa u5rDe u5Pe u5Da u5Dr u5Na u5Mo u5Wa u5De ++ (wX1 k t6 u6rNa u6rMo u6rWa u6rDe u6Pe u6Da u6Dr u6Na u6Mo u6Wa u6De ++ (wX1 k t7 u7rNa u7rMo u7rWa u7rDe u7Pe u7Da u7Dr u7Na u7Mo u7Wa u7De ++ (wX1 k t8 u8rNa u8rMo u8rWa u8rDe u8Pe u8Da u8Dr u8Na u8Mo u8Wa u8De))))))))))) (fun j => wX2 k xh xaA ++ (wOA k xaA t0 t1 t2 t3 t4 t5 t6 t7 t8 ++ (wX1 k t0 u0rNa u0rMo u0rWa u0rDe u0Pe u0Da u0Dr u0Na u0Mo u0Wa u0De ++ (wX1 k t1 u1rNa u1rMo u1rWa u1rDe u1Pe u1Da u1Dr u1Na u1Mo u1Wa u1De ++ (wX1 k t2 u2rNa u2rMo u2rWa u2rDe (j.1 0) (j.1 1) (j.1 2) (j.2 0) (j.2 1) (j.2 2) (j.2 3) ++ (wX1 k t3 u3rNa u3rMo u3rWa u3rDe (j.1 3) (j.1 4) (j.1 5) (j.2 4) (j.2 5) (j.2 6) (j.2 7) ++ (wX1 k t4 u4rNa u4rMo u4rWa u4rDe (j.1 6) (j.1 7) (j.1 8) (j.2 8) (j.2 9) (j.2 10) (j.2 11) ++ (wX1 k t5 u5rNa u5rMo u5rWa u5rDe (j.1 9) (j.1 10) (j.1 11) (j.2 12) (j.2 13) (j.2 14) (j.2 15) ++ (wX1 k t6 u6rNa u6rMo u6rWa u6rDe (j.1 12) (j.1 13) (j.1 14) (j.2 16) (j.2 17) (j.2 18) (j.2 19) ++ (wX1 k t7 u7rNa u7rMo u7rWa u7rDe (j.1 15) (j.1 16) (j.1 17) (j.2 20) (j.2 21) (j.2 22) (j.2 23) ++ (wX1 k t8 u8rNa u8rMo u8rWa u8rDe (j.1 18) (j.1 19) (j.1 20) (j.2 24) (j.2 25) (j.2 26) (j.2 27)))))))))))) (some (.long r_)) := by
  refine mJ_of (cc := cX2_weighed) (maxL := 10) (ret := some .long) (by decide) rfl (Nat.le_of_ble_eq_true rfl) [(0, .ref xh), (1, .int 1), (2, .int p2), (3, .int p3), (4, .int p4)] rfl ?_
  intro p e s m below meth c A ls args Q cx hK hA hw hl hQ
  have fx := cx.1
  obtain ⟨⟨hx, hb, hml, hown, hts⟩, hr, hlocks⟩ := cx
  have hinX2 : ∀ w ∈ wsX20, w ∈ wsX2_weighed := fun w h => List.mem_cons_of_mem _ (List.mem_append_left _ (List.mem_append_right _ h))
  have hinX1 : ∀ w ∈ wsX10, w ∈ wsX2_weighed := fun w h => List.mem_cons_of_mem _ (List.mem_append_right _ h)
  have q_1 := hts (.fieldLink RX2 11 "DebtRides$Odds" "steps" "[LDebtRides$Land;") (List.mem_of_getElem? (i := 1) rfl)
  have q_2 := hts (.fieldLink RX2 41 "DebtRides$Land" "dryness" "I") (List.mem_of_getElem? (i := 2) rfl)
  have h := hf
  unfold f_X2_weighed_1 at h
  clear hf
  refine lv_iload_n hx hb dX2_weighed_0 rfl (lv_at hl 1 rfl) ?_
  refine lv_iload hx hb dX2_weighed_1 (lv_at hl 4 rfl) ?_
  have T_17 : f_X2_weighed_1_B17 u1Pe u1De p3 = some r_ → ∀ (H : Heap) (locs : List Loc) (ls : Array Slot), Wd D A s.heap H locs (wX2 k xh xaA ++ (wOA k xaA t0 t1 t2 t3 t4 t5 t6 t7 t8 ++ (wX1 k t0 u0rNa u0rMo u0rWa u0rDe u0Pe u0Da u0Dr u0Na u0Mo u0Wa u0De ++ (wX1 k t1 u1rNa u1rMo u1rWa u1rDe u1Pe u1Da u1Dr u1Na u1Mo u1Wa u1De ++ (wX1 k t2 u2rNa u2rMo u2rWa u2rDe u2Pe u2Da u2Dr u2Na u2Mo u2Wa u2De ++ (wX1 k t3 u3rNa u3rMo u3rWa u3rDe u3Pe u3Da u3Dr u3Na u3Mo u3Wa u3De ++ (wX1 k t4 u4rNa u4rMo u4rWa u4rDe u4Pe u4Da u4Dr u4Na u4Mo u4Wa u4De ++ (wX1 k t5 u5rNa u5rMo u5rWa u5rDe u5Pe u5Da u5Dr u5Na u5Mo u5Wa u5De ++ (wX1 k t6 u6rNa u6rMo u6rWa u6rDe u6Pe u6Da u6Dr u6Na u6Mo u6Wa u6De ++ (wX1 k t7 u7rNa u7rMo u7rWa u7rDe u7Pe u7Da u7Dr u7Na u7Mo u7Wa u7De ++ (wX1 k t8 u8rNa u8rMo u8rWa u8rDe u8Pe u8Da u8Dr u8Na u8Mo u8Wa u8De))))))))))) → lv_has ls 10 [(0, .ref xh), (1, .int 1), (3, .int p3)] → W p l e rmX2_weighed_1 s m args below meth c H locs 0 0 Q (F0 m 17 ls []) := by
    clear h
    intro h H locs ls hw hl
    unfold f_X2_weighed_1_B17 at h
    refine lv_aload_n hx hb dX2_weighed_17 rfl (lv_at hl 0 rfl) ?_
    refine va_get (ci := 2) (v := .ref xaA) (C := RX2) (T := TX2) (N := 1) hx hb hts hinX2 hown hK.1 hw.1 0 rfl rfl 0 (by decide) q_1 (fun _ h9 => h9) rfl dX2_weighed_18 ?_
    refine lv_iload_n hx hb dX2_weighed_21 rfl (lv_at hl 1 rfl) ?_
    refine k_aald hx hb hK hw 1 3 (j := 1) (a' := t1) rfl rfl rfl (by unfold vp_in; decide) rfl dX2_weighed_22 ?_
    refine lv_iload_n hx hb dX2_weighed_23 rfl (lv_at hl 2 rfl) ?_
    obtain ⟨r_1, hf, h⟩ := b1_inv h
    refine k_callS (b := 0) (C := "") (host := "") fx hK hA hw (c_X2_worth l D k t1 u1rNa u1rMo u1rWa u1rDe _ u1Pe u1Da u1Dr u1Na u1Mo u1Wa u1De p3 r_1 hf) (va_cwS 2 hts gX2_weighed_X2_worth rfl rfl rfl (by decide +kernel) ⟨by decide, by decide⟩) (As := [.ref t1, .int p3]) (wr := [(xh, .inr (2, [.ref xaA])), (xaA, .inl (k 3, 9, .inr (.inr (.inr (.inr (rl [t0, t1, t2, t3, t4, t5, t6, t7, t8])))))), (t0, .inr (1, [.int u0Pe, .int u0Da, .int u0Dr, .ref u0rNa, .ref u0rMo, .ref u0rWa, .ref u0rDe])), (u0rNa, .inl (k 0, 5, .inl u0Na)), (u0rMo, .inl (k 0, 5, .inl u0Mo)), (u0rWa, .inl (k 0, 5, .inl u0Wa)), (u0rDe, .inl (k 0, 25, .inl u0De)), (t2, .inr (1, [.int u2Pe, .int u2Da, .int u2Dr, .ref u2rNa, .ref u2rMo, .ref u2rWa, .ref u2rDe])), (u2rNa, .inl (k 0, 5, .inl u2Na)), (u2rMo, .inl (k 0, 5, .inl u2Mo)), (u2rWa, .inl (k 0, 5, .inl u2Wa)), (u2rDe, .inl (k 0, 25, .inl u2De)), (t3, .inr (1, [.int u3Pe, .int u3Da, .int u3Dr, .ref u3rNa, .ref u3rMo, .ref u3rWa, .ref u3rDe])), (u3rNa, .inl (k 0, 5, .inl u3Na)), (u3rMo, .inl (k 0, 5, .inl u3Mo)), (u3rWa, .inl (k 0, 5, .inl u3Wa)), (u3rDe, .inl (k 0, 25, .inl u3De)), (t4, .inr (1, [.int u4Pe, .int u4Da, .int u4Dr, .ref u4rNa, .ref u4rMo, .ref u4rWa, .ref u4rDe])), (u4rNa, .inl (k 0, 5, .inl u4Na)), (u4rMo, .inl (k 0, 5, .inl u4Mo)), (u4rWa, .inl (k 0, 5, .inl u4Wa)), (u4rDe, .inl (k 0, 25, .inl u4De)), (t5, .inr (1, [.int u5Pe, .int u5Da, .int u5Dr, .ref u5rNa, .ref u5rMo, .ref u5rWa, .ref u5rDe])), (u5rNa, .inl (k 0, 5, .inl u5Na)), (u5rMo, .inl (k 0, 5, .inl u5Mo)), (u5rWa, .inl (k 0, 5, .inl u5Wa)), (u5rDe, .inl (k 0, 25, .inl u5De)), (t6, .inr (1, [.int u6Pe, .int u6Da, .int u6Dr, .ref u6rNa, .ref u6rMo, .ref u6rWa, .ref u6rDe])), (u6rNa, .inl (k 0, 5, .inl u6Na)), (u6rMo, .inl (k 0, 5, .inl u6Mo)), (u6rWa, .inl (k 0, 5, .inl u6Wa)), (u6rDe, .inl (k 0, 25, .inl u6De)), (t7, .inr (1, [.int u7Pe, .int u7Da, .int u7Dr, .ref u7rNa, .ref u7rMo, .ref u7rWa, .ref u7rDe])), (u7rNa, .inl (k 0, 5, .inl u7Na)), (u7rMo, .inl (k 0, 5, .inl u7Mo)), (u7rWa, .inl (k 0, 5, .inl u7Wa)), (u7rDe, .inl (k 0, 25, .inl u7De)), (t8, .inr (1, [.int u8Pe, .int u8Da, .int u8Dr, .ref u8rNa, .ref u8rMo, .ref u8rWa, .ref u8rDe])), (u8rNa, .inl (k 0, 5, .inl u8Na)), (u8rMo, .inl (k 0, 5, .inl u8Mo)), (u8rWa, .inl (k 0, 5, .inl u8Wa)), (u8rDe, .inl (k 0, 25, .inl u8De))]) (ws' := wX2 k xh xaA ++ (wOA k xaA t0 t1 t2 t3 t4 t5 t6 t7 t8 ++ (wX1 k t0 u0rNa u0rMo u0rWa u0rDe u0Pe u0Da u0Dr u0Na u0Mo u0Wa u0De ++ (wX1 k t1 u1rNa u1rMo u1rWa u1rDe u1Pe u1Da u1Dr u1Na u1Mo u1Wa u1De ++ (wX1 k t2 u2rNa u2rMo u2rWa u2rDe u2Pe u2Da u2Dr u2Na u2Mo u2Wa u2De ++ (wX1 k t3 u3rNa u3rMo u3rWa u3rDe u3Pe u3Da u3Dr u3Na u3Mo u3Wa u3De ++ (wX1 k t4 u4rNa u4rMo u4rWa u4rDe u4Pe u4Da u4Dr u4Na u4Mo u4Wa u4De ++ (wX1 k t5 u5rNa u5rMo u5rWa u5rDe u5Pe u5Da u5Dr u5Na u5Mo u5Wa u5De ++ (wX1 k t6 u6rNa u6rMo u6rWa u6rDe u6Pe u6Da u6Dr u6Na u6Mo u6Wa u6De ++ (wX1 k t7 u7rNa u7rMo u7rWa u7rDe u7Pe u7Da u7Dr u7Na u7Mo u7Wa u7De ++ (wX1 k t8 u8rNa u8rMo u8rWa u8rDe u8Pe u8Da u8Dr u8Na u8Mo u8Wa u8De))))))))))) [7, 8, 9, 10, 11] [0, 1, 2, 3, 4, 5, 6, 12, 13, 14, 15, 16, 17, 18, 19, 20, 21, 22, 23, 24, 25, 26, 27, 28, 29, 30, 31, 32, 33, 34, 35, 36, 37, 38, 39, 40, 41, 42, 43, 44, 45, 46] [0, 1, 2, 3, 4, 5, 6, 42, 43, 44, 45, 46, 7, 8, 9, 10, 11, 12, 13, 14, 15, 16, 17, 18, 19, 20, 21, 22, 23, 24, 25, 26, 27, 28, 29, 30, 31, 32, 33, 34, 35, 36, 37, 38, 39, 40, 41] rfl rfl (by decide) (by decide) (by decide) rfl (by decide) [] rfl hl.1 rfl (Nat.le_of_ble_eq_true rfl) dX2_weighed_24 ⟨by decide, by decide⟩ (fun H locs (hw : Wd D A s.heap H locs (wX2 k xh xaA ++ (wOA k xaA t0 t1 t2 t3 t4 t5 t6 t7 t8 ++ (wX1 k t0 u0rNa u0rMo u0rWa u0rDe u0Pe u0Da u0Dr u0Na u0Mo u0Wa u0De ++ (wX1 k t1 u1rNa u1rMo u1rWa u1rDe u1Pe u1Da u1Dr u1Na u1Mo u1Wa u1De ++ (wX1 k t2 u2rNa u2rMo u2rWa u2rDe u2Pe u2Da u2Dr u2Na u2Mo u2Wa u2De ++ (wX1 k t3 u3rNa u3rMo u3rWa u3rDe u3Pe u3Da u3Dr u3Na u3Mo u3Wa u3De ++ (wX1 k t4 u4rNa u4rMo u4rWa u4rDe u4Pe u4Da u4Dr u4Na u4Mo u4Wa u4De ++ (wX1 k t5 u5rNa u5rMo u5rWa u5rDe u5Pe u5Da u5Dr u5Na u5Mo u5Wa u5De ++ (wX1 k t6 u6rNa u6rMo u6rWa u6rDe u6Pe u6Da u6Dr u6Na u6Mo u6Wa u6De ++ (wX1 k t7 u7rNa u7rMo u7rWa u7rDe u7Pe u7Da u7Dr u7Na u7Mo u7Wa u7De ++ (wX1 k t8 u8rNa u8rMo u8rWa u8rDe u8Pe u8Da u8Dr u8Na u8Mo u8Wa u8De)))))))))))) => ?_)
    refine W.eq (g2 := F0 m 27 ls ([.long r_1])) rfl ?_
    cases h
    exact k_jlret (j := (fun i => List.getD [u2Pe, u2Da, u2Dr, u3Pe, u3Da, u3Dr, u4Pe, u4Da, u4Dr, u5Pe, u5Da, u5Dr, u6Pe, u6Da, u6Dr, u7Pe, u7Da, u7Dr, u8Pe, u8Da, u8Dr] i 0, fun i => List.getD [u2Na, u2Mo, u2Wa, u2De, u3Na, u3Mo, u3Wa, u3De, u4Na, u4Mo, u4Wa, u4De, u5Na, u5Mo, u5Wa, u5De, u6Na, u6Mo, u6Wa, u6De, u7Na, u7Mo, u7Wa, u7De, u8Na, u8Mo, u8Wa, u8De] i (fun _ => 0))) hx hb hr hlocks hw rfl dX2_weighed_27 hQ
  refine kb_icmp_ge (tgt := 17) hx hb dX2_weighed_3 (by decide) h (fun c_3 h => ?_) (fun c_3 h => ?_)
  · exact T_17 h _ _ _ hw (lv_sub hl [0, 1, 3] rfl)
  · refine lv_iload_n hx hb dX2_weighed_6 rfl (lv_at hl 1 rfl) ?_
    refine lv_iconst (v := 1) hx hb dX2_weighed_7 (by decide) ?_
    refine lv_iadd hx hb dX2_weighed_8 ?_
    refine k_lit (y := 2) (by decide) ?_
    refine lv_aload_n hx hb dX2_weighed_9 rfl (lv_at hl 0 rfl) ?_
    refine va_get (ci := 2) (v := .ref xaA) (C := RX2) (T := TX2) (N := 1) hx hb hts hinX2 hown hK.1 hw.1 0 rfl rfl 0 (by decide) q_1 (fun _ h9 => h9) rfl dX2_weighed_10 ?_
    refine va_alen (v := 9) hx hb hK.1 hw.1 1 3 rfl rfl rfl dX2_weighed_13 ?_
    refine lv_icmp_lt (tgt := 28) hx hb dX2_weighed_14 (by decide) (fun _ => ?_) (fun q => absurd (by decide) q)
    refine lv_lconst (v := 0) hx hb dX2_weighed_28 rfl ?_
    refine lv_lstore (lv' := [(5, .long 0), (0, .ref xh), (1, .int 1), (2, .int p2), (3, .int p3), (4, .int p4)]) hx hb dX2_weighed_29 hl (by decide) rfl (fun ls hl => ?_)
    refine lv_aload_n hx hb dX2_weighed_31 rfl (lv_at hl 1 rfl) ?_
    refine va_get (ci := 2) (v := .ref xaA) (C := RX2) (T := TX2) (N := 1) hx hb hts hinX2 hown hK.1 hw.1 0 rfl rfl 0 (by decide) q_1 (fun _ h9 => h9) rfl dX2_weighed_32 ?_
    refine lv_iload_n hx hb dX2_weighed_35 rfl (lv_at hl 2 rfl) ?_
    refine lv_iconst (v := 1) hx hb dX2_weighed_36 (by decide) ?_
    refine lv_iadd hx hb dX2_weighed_37 ?_
    refine k_lit (y := 2) (by decide) ?_
    refine k_aald hx hb hK hw 1 3 (j := 2) (a' := t2) rfl rfl rfl (by unfold vp_in; decide) rfl dX2_weighed_38 ?_
    refine lv_astore (lv' := [(7, .ref t2), (5, .long 0), (0, .ref xh), (1, .int 1), (2, .int p2), (3, .int p3), (4, .int p4)]) hx hb dX2_weighed_39 hl (by decide) rfl (fun ls hl => ?_)
    refine lv_iconst (v := 0) hx hb dX2_weighed_41 (by decide) ?_
    refine lv_istore (lv' := [(8, .int 0), (7, .ref t2), (5, .long 0), (0, .ref xh), (1, .int 1), (2, .int p2), (3, .int p3), (4, .int p4)]) hx hb dX2_weighed_42 hl (by decide) rfl (fun ls hl => ?_)
    obtain ⟨v5_53, hL_44, h⟩ := b1_inv h
    have X_44 : ∀ (u2Pe_54 : Int32) (u2Da_55 : Int32) (u2Dr_56 : Int32) (u2Na_57 : (Nat → Int32)) (u2Mo_58 : (Nat → Int32)) (u2Wa_59 : (Nat → Int32)) (u2De_60 : (Nat → Int32)) (u3Pe_61 : Int32) (u3Da_62 : Int32) (u3Dr_63 : Int32) (u3Na_64 : (Nat → Int32)) (u3Mo_65 : (Nat → Int32)) (u3Wa_66 : (Nat → Int32)) (u3De_67 : (Nat → Int32)) (u4Pe_68 : Int32) (u4Da_69 : Int32) (u4Dr_70 : Int32) (u4Na_71 : (Nat → Int32)) (u4Mo_72 : (Nat → Int32)) (u4Wa_73 : (Nat → Int32)) (u4De_74 : (Nat → Int32)) (u5Pe_75 : Int32) (u5Da_76 : Int32) (u5Dr_77 : Int32) (u5Na_78 : (Nat → Int32)) (u5Mo_79 : (Nat → Int32)) (u5Wa_80 : (Nat → Int32)) (u5De_81 : (Nat → Int32)) (u6Pe_82 : Int32) (u6Da_83 : Int32) (u6Dr_84 : Int32) (u6Na_85 : (Nat → Int32)) (u6Mo_86 : (Nat → Int32)) (u6Wa_87 : (Nat → Int32)) (u6De_88 : (Nat → Int32)) (u7Pe_89 : Int32) (u7Da_90 : Int32) (u7Dr_91 : Int32) (u7Na_92 : (Nat → Int32)) (u7Mo_93 : (Nat → Int32)) (u7Wa_94 : (Nat → Int32)) (u7De_95 : (Nat → Int32)) (u8Pe_96 : Int32) (u8Da_97 : Int32) (u8Dr_98 : Int32) (u8Na_99 : (Nat → Int32)) (u8Mo_100 : (Nat → Int32)) (u8Wa_101 : (Nat → Int32)) (u8De_102 : (Nat → Int32)) (H : Heap) (locs : List Loc) (ls : Array Slot), Wd D A s.heap H locs (wX2 k xh xaA ++ (wOA k xaA t0 t1 t2 t3 t4 t5 t6 t7 t8 ++ (wX1 k t0 u0rNa u0rMo u0rWa u0rDe u0Pe u0Da u0Dr u0Na u0Mo u0Wa u0De ++ (wX1 k t1 u1rNa u1rMo u1rWa u1rDe u1Pe u1Da u1Dr u1Na u1Mo u1Wa u1De ++ (wX1 k t2 u2rNa u2rMo u2rWa u2rDe u2Pe_54 u2Da_55 u2Dr_56 u2Na_57 u2Mo_58 u2Wa_59 u2De_60 ++ (wX1 k t3 u3rNa u3rMo u3rWa u3rDe u3Pe_61 u3Da_62 u3Dr_63 u3Na_64 u3Mo_65 u3Wa_66 u3De_67 ++ (wX1 k t4 u4rNa u4rMo u4rWa u4rDe u4Pe_68 u4Da_69 u4Dr_70 u4Na_71 u4Mo_72 u4Wa_73 u4De_74 ++ (wX1 k t5 u5rNa u5rMo u5rWa u5rDe u5Pe_75 u5Da_76 u5Dr_77 u5Na_78 u5Mo_79 u5Wa_80 u5De_81 ++ (wX1 k t6 u6rNa u6rMo u6rWa u6rDe u6Pe_82 u6Da_83 u6Dr_84 u6Na_85 u6Mo_86 u6Wa_87 u6De_88 ++ (wX1 k t7 u7rNa u7rMo u7rWa u7rDe u7Pe_89 u7Da_90 u7Dr_91 u7Na_92 u7Mo_93 u7Wa_94 u7De_95 ++ (wX1 k t8 u8rNa u8rMo u8rWa u8rDe u8Pe_96 u8Da_97 u8Dr_98 u8Na_99 u8Mo_100 u8Wa_101 u8De_102))))))))))) → lv_has ls 10 [(5, .long v5_53)] → W p l e rmX2_weighed_1 s m args below meth c H locs 0 0 Q (F0 m 128 ls []) := by
      intro u2Pe_54 u2Da_55 u2Dr_56 u2Na_57 u2Mo_58 u2Wa_59 u2De_60 u3Pe_61 u3Da_62 u3Dr_63 u3Na_64 u3Mo_65 u3Wa_66 u3De_67 u4Pe_68 u4Da_69 u4Dr_70 u4Na_71 u4Mo_72 u4Wa_73 u4De_74 u5Pe_75 u5Da_76 u5Dr_77 u5Na_78 u5Mo_79 u5Wa_80 u5De_81 u6Pe_82 u6Da_83 u6Dr_84 u6Na_85 u6Mo_86 u6Wa_87 u6De_88 u7Pe_89 u7Da_90 u7Dr_91 u7Na_92 u7Mo_93 u7Wa_94 u7De_95 u8Pe_96 u8Da_97 u8Dr_98 u8Na_99 u8Mo_100 u8Wa_101 u8De_102 H locs ls hw hl
      refine lv_lload hx hb dX2_weighed_128 (lv_at hl 0 rfl) ?_
      cases h
      exact k_jlret (j := (fun i => List.getD [u2Pe_54, u2Da_55, u2Dr_56, u3Pe_61, u3Da_62, u3Dr_63, u4Pe_68, u4Da_69, u4Dr_70, u5Pe_75, u5Da_76, u5Dr_77, u6Pe_82, u6Da_83, u6Dr_84, u7Pe_89, u7Da_90, u7Dr_91, u8Pe_96, u8Da_97, u8Dr_98] i 0, fun i => List.getD [u2Na_57, u2Mo_58, u2Wa_59, u2De_60, u3Na_64, u3Mo_65, u3Wa_66, u3De_67, u4Na_71, u4Mo_72, u4Wa_73, u4De_74, u5Na_78, u5Mo_79, u5Wa_80, u5De_81, u6Na_85, u6Mo_86, u6Wa_87, u6De_88, u7Na_92, u7Mo_93, u7Wa_94, u7De_95, u8Na_99, u8Mo_100, u8Wa_101, u8De_102] i (fun _ => 0))) hx hb hr hlocks hw rfl dX2_weighed_130 hQ
    clear h
    have LP_44 : ∀ (n : Nat) (v5_2 : Int64) (v8_3 : Int32), f_X2_weighed_1_L44 u1Pe u1Da u1Dr u1Na u1Mo u1Wa u1De p2 p3 p4 n v5_2 v8_3 = some v5_53 → ∀ (u2Pe_4 : Int32) (u2Da_5 : Int32) (u2Dr_6 : Int32) (u2Na_7 : (Nat → Int32)) (u2Mo_8 : (Nat → Int32)) (u2Wa_9 : (Nat → Int32)) (u2De_10 : (Nat → Int32)) (u3Pe_11 : Int32) (u3Da_12 : Int32) (u3Dr_13 : Int32) (u3Na_14 : (Nat → Int32)) (u3Mo_15 : (Nat → Int32)) (u3Wa_16 : (Nat → Int32)) (u3De_17 : (Nat → Int32)) (u4Pe_18 : Int32) (u4Da_19 : Int32) (u4Dr_20 : Int32) (u4Na_21 : (Nat → Int32)) (u4Mo_22 : (Nat → Int32)) (u4Wa_23 : (Nat → Int32)) (u4De_24 : (Nat → Int32)) (u5Pe_25 : Int32) (u5Da_26 : Int32) (u5Dr_27 : Int32) (u5Na_28 : (Nat → Int32)) (u5Mo_29 : (Nat → Int32)) (u5Wa_30 : (Nat → Int32)) (u5De_31 : (Nat → Int32)) (u6Pe_32 : Int32) (u6Da_33 : Int32) (u6Dr_34 : Int32) (u6Na_35 : (Nat → Int32)) (u6Mo_36 : (Nat → Int32)) (u6Wa_37 : (Nat → Int32)) (u6De_38 : (Nat → Int32)) (u7Pe_39 : Int32) (u7Da_40 : Int32) (u7Dr_41 : Int32) (u7Na_42 : (Nat → Int32)) (u7Mo_43 : (Nat → Int32)) (u7Wa_44 : (Nat → Int32)) (u7De_45 : (Nat → Int32)) (u8Pe_46 : Int32) (u8Da_47 : Int32) (u8Dr_48 : Int32) (u8Na_49 : (Nat → Int32)) (u8Mo_50 : (Nat → Int32)) (u8Wa_51 : (Nat → Int32)) (u8De_52 : (Nat → Int32)) (H : Heap) (locs : List Loc) (ls : Array Slot), Wd D A s.heap H locs (wX2 k xh xaA ++ (wOA k xaA t0 t1 t2 t3 t4 t5 t6 t7 t8 ++ (wX1 k t0 u0rNa u0rMo u0rWa u0rDe u0Pe u0Da u0Dr u0Na u0Mo u0Wa u0De ++ (wX1 k t1 u1rNa u1rMo u1rWa u1rDe u1Pe u1Da u1Dr u1Na u1Mo u1Wa u1De ++ (wX1 k t2 u2rNa u2rMo u2rWa u2rDe u2Pe_4 u2Da_5 u2Dr_6 u2Na_7 u2Mo_8 u2Wa_9 u2De_10 ++ (wX1 k t3 u3rNa u3rMo u3rWa u3rDe u3Pe_11 u3Da_12 u3Dr_13 u3Na_14 u3Mo_15 u3Wa_16 u3De_17 ++ (wX1 k t4 u4rNa u4rMo u4rWa u4rDe u4Pe_18 u4Da_19 u4Dr_20 u4Na_21 u4Mo_22 u4Wa_23 u4De_24 ++ (wX1 k t5 u5rNa u5rMo u5rWa u5rDe u5Pe_25 u5Da_26 u5Dr_27 u5Na_28 u5Mo_29 u5Wa_30 u5De_31 ++ (wX1 k t6 u6rNa u6rMo u6rWa u6rDe u6Pe_32 u6Da_33 u6Dr_34 u6Na_35 u6Mo_36 u6Wa_37 u6De_38 ++ (wX1 k t7 u7rNa u7rMo u7rWa u7rDe u7Pe_39 u7Da_40 u7Dr_41 u7Na_42 u7Mo_43 u7Wa_44 u7De_45 ++ (wX1 k t8 u8rNa u8rMo u8rWa u8rDe u8Pe_46 u8Da_47 u8Dr_48 u8Na_49 u8Mo_50 u8Wa_51 u8De_52))))))))))) → lv_has ls 10 [(0, .ref xh), (1, .int 1), (2, .int p2), (3, .int p3), (4, .int p4), (5, .long v5_2), (7, .ref t2), (8, .int v8_3)] → W p l e rmX2_weighed_1 s m args below meth c H locs 0 0 Q (F0 m 44 ls []) := by
      clear hL_44 hw hl
      intro n
      induction n with
      | zero => intro v5_2 v8_3 h; rw [f_X2_weighed_1_L44] at h; cases h
      | succ n ih =>
        intro v5_2 v8_3 h u2Pe_4 u2Da_5 u2Dr_6 u2Na_7 u2Mo_8 u2Wa_9 u2De_10 u3Pe_11 u3Da_12 u3Dr_13 u3Na_14 u3Mo_15 u3Wa_16 u3De_17 u4Pe_18 u4Da_19 u4Dr_20 u4Na_21 u4Mo_22 u4Wa_23 u4De_24 u5Pe_25 u5Da_26 u5Dr_27 u5Na_28 u5Mo_29 u5Wa_30 u5De_31 u6Pe_32 u6Da_33 u6Dr_34 u6Na_35 u6Mo_36 u6Wa_37 u6De_38 u7Pe_39 u7Da_40 u7Dr_41 u7Na_42 u7Mo_43 u7Wa_44 u7De_45 u8Pe_46 u8Da_47 u8Dr_48 u8Na_49 u8Mo_50 u8Wa_51 u8De_52 H locs ls hw hl
        rw [f_X2_weighed_1_L44] at h
        refine lv_iload hx hb dX2_weighed_44 (lv_at hl 7 rfl) ?_
        refine lv_iconst (v := 2) hx hb dX2_weighed_46 (by decide) ?_
        refine kb_icmp_ge (tgt := 128) hx hb dX2_weighed_47 (by decide) h (fun c_47 h => ?_) (fun c_47 h => ?_)
        · cases h
          exact X_44 _ _ _ _ _ _ _ _ _ _ _ _ _ _ _ _ _ _ _ _ _ _ _ _ _ _ _ _ _ _ _ _ _ _ _ _ _ _ _ _ _ _ _ _ _ _ _ _ _ _ _ _ hw (lv_sub hl [5] rfl)
        · refine lv_iload hx hb dX2_weighed_50 (lv_at hl 7 rfl) ?_
          obtain ⟨t_103, hj_52, h⟩ := b1_inv h
          have J_52 : ∀ (H : Heap) (locs : List Loc) (ls : Array Slot), Wd D A s.heap H locs (wX2 k xh xaA ++ (wOA k xaA t0 t1 t2 t3 t4 t5 t6 t7 t8 ++ (wX1 k t0 u0rNa u0rMo u0rWa u0rDe u0Pe u0Da u0Dr u0Na u0Mo u0Wa u0De ++ (wX1 k t1 u1rNa u1rMo u1rWa u1rDe u1Pe u1Da u1Dr u1Na u1Mo u1Wa u1De ++ (wX1 k t2 u2rNa u2rMo u2rWa u2rDe u2Pe_4 u2Da_5 u2Dr_6 u2Na_7 u2Mo_8 u2Wa_9 u2De_10 ++ (wX1 k t3 u3rNa u3rMo u3rWa u3rDe u3Pe_11 u3Da_12 u3Dr_13 u3Na_14 u3Mo_15 u3Wa_16 u3De_17 ++ (wX1 k t4 u4rNa u4rMo u4rWa u4rDe u4Pe_18 u4Da_19 u4Dr_20 u4Na_21 u4Mo_22 u4Wa_23 u4De_24 ++ (wX1 k t5 u5rNa u5rMo u5rWa u5rDe u5Pe_25 u5Da_26 u5Dr_27 u5Na_28 u5Mo_29 u5Wa_30 u5De_31 ++ (wX1 k t6 u6rNa u6rMo u6rWa u6rDe u6Pe_32 u6Da_33 u6Dr_34 u6Na_35 u6Mo_36 u6Wa_37 u6De_38 ++ (wX1 k t7 u7rNa u7rMo u7rWa u7rDe u7Pe_39 u7Da_40 u7Dr_41 u7Na_42 u7Mo_43 u7Wa_44 u7De_45 ++ (wX1 k t8 u8rNa u8rMo u8rWa u8rDe u8Pe_46 u8Da_47 u8Dr_48 u8Na_49 u8Mo_50 u8Wa_51 u8De_52))))))))))) → lv_has ls 10 [(0, .ref xh), (1, .int 1), (2, .int p2), (3, .int p3), (4, .int p4), (5, .long v5_2), (7, .ref t2), (8, .int v8_3)] → W p l e rmX2_weighed_1 s m args below meth c H locs 0 0 Q (F0 m 63 ls [.int t_103]) := by
            intro H locs ls hw hl
            refine lv_istore (lv' := [(9, .int t_103), (0, .ref xh), (1, .int 1), (2, .int p2), (3, .int p3), (4, .int p4), (5, .long v5_2), (7, .ref t2), (8, .int v8_3)]) hx hb dX2_weighed_63 hl (by decide) rfl (fun ls hl => ?_)
            refine lv_iload hx hb dX2_weighed_65 (lv_at hl 0 rfl) ?_
            refine kb_if_le (tgt := 122) hx hb dX2_weighed_67 (by decide) h (fun c_67 h => ?_) (fun c_67 h => ?_)
            · refine lv_iinc (v := v8_3 + 1) (lv' := [(8, .int (v8_3 + 1)), (9, .int t_103), (0, .ref xh), (1, .int 1), (2, .int p2), (3, .int p3), (4, .int p4), (5, .long v5_2), (7, .ref t2)]) hx hb dX2_weighed_122 hl (k := 8) rfl rfl (by decide) rfl (fun ls hl => ?_)
              refine lv_goto (tgt := 44) hx hb dX2_weighed_125 (by decide) ?_
              exact ih _ _ h _ _ _ _ _ _ _ _ _ _ _ _ _ _ _ _ _ _ _ _ _ _ _ _ _ _ _ _ _ _ _ _ _ _ _ _ _ _ _ _ _ _ _ _ _ _ _ _ _ _ _ _ hw (lv_sub hl [2, 3, 4, 5, 6, 7, 8, 0] rfl)
            · refine lv_aload hx hb dX2_weighed_70 (lv_at hl 7 rfl) ?_
              refine lv_aload_n hx hb dX2_weighed_72 rfl (lv_at hl 1 rfl) ?_
              refine va_get (ci := 2) (v := .ref xaA) (C := RX2) (T := TX2) (N := 1) hx hb hts hinX2 hown hK.1 hw.1 0 rfl rfl 0 (by decide) q_1 (fun _ h9 => h9) rfl dX2_weighed_73 ?_
              refine lv_iload_n hx hb dX2_weighed_76 rfl (lv_at hl 2 rfl) ?_
              refine k_aald hx hb hK hw 1 3 (j := 1) (a' := t1) rfl rfl rfl (by unfold vp_in; decide) rfl dX2_weighed_77 ?_
              obtain ⟨u2Pe_104, u2Da_105, u2Dr_106, u2Na_107, u2Mo_108, u2Wa_109, u2De_110, hf, h⟩ := b7_inv h
              refine k_callV (host := "") fx hK hA hw (c_X1_become l D k t2 u2rNa u2rMo u2rWa u2rDe t1 u1rNa u1rMo u1rWa u1rDe _ u2Pe_4 u2Da_5 u2Dr_6 u2Na_7 u2Mo_8 u2Wa_9 u2De_10 u1Pe u1Da u1Dr u1Na u1Mo u1Wa u1De u2Pe_104 u2Da_105 u2Dr_106 u2Na_107 u2Mo_108 u2Wa_109 u2De_110 hf) (cwV 1 hts gX2_weighed_X1_become rfl rfl rfl (by decide +kernel) ⟨by decide, by decide⟩) (As := [.ref t1]) (wr := [(xh, .inr (2, [.ref xaA])), (xaA, .inl (k 3, 9, .inr (.inr (.inr (.inr (rl [t0, t1, t2, t3, t4, t5, t6, t7, t8])))))), (t0, .inr (1, [.int u0Pe, .int u0Da, .int u0Dr, .ref u0rNa, .ref u0rMo, .ref u0rWa, .ref u0rDe])), (u0rNa, .inl (k 0, 5, .inl u0Na)), (u0rMo, .inl (k 0, 5, .inl u0Mo)), (u0rWa, .inl (k 0, 5, .inl u0Wa)), (u0rDe, .inl (k 0, 25, .inl u0De)), (t3, .inr (1, [.int u3Pe_11, .int u3Da_12, .int u3Dr_13, .ref u3rNa, .ref u3rMo, .ref u3rWa, .ref u3rDe])), (u3rNa, .inl (k 0, 5, .inl u3Na_14)), (u3rMo, .inl (k 0, 5, .inl u3Mo_15)), (u3rWa, .inl (k 0, 5, .inl u3Wa_16)), (u3rDe, .inl (k 0, 25, .inl u3De_17)), (t4, .inr (1, [.int u4Pe_18, .int u4Da_19, .int u4Dr_20, .ref u4rNa, .ref u4rMo, .ref u4rWa, .ref u4rDe])), (u4rNa, .inl (k 0, 5, .inl u4Na_21)), (u4rMo, .inl (k 0, 5, .inl u4Mo_22)), (u4rWa, .inl (k 0, 5, .inl u4Wa_23)), (u4rDe, .inl (k 0, 25, .inl u4De_24)), (t5, .inr (1, [.int u5Pe_25, .int u5Da_26, .int u5Dr_27, .ref u5rNa, .ref u5rMo, .ref u5rWa, .ref u5rDe])), (u5rNa, .inl (k 0, 5, .inl u5Na_28)), (u5rMo, .inl (k 0, 5, .inl u5Mo_29)), (u5rWa, .inl (k 0, 5, .inl u5Wa_30)), (u5rDe, .inl (k 0, 25, .inl u5De_31)), (t6, .inr (1, [.int u6Pe_32, .int u6Da_33, .int u6Dr_34, .ref u6rNa, .ref u6rMo, .ref u6rWa, .ref u6rDe])), (u6rNa, .inl (k 0, 5, .inl u6Na_35)), (u6rMo, .inl (k 0, 5, .inl u6Mo_36)), (u6rWa, .inl (k 0, 5, .inl u6Wa_37)), (u6rDe, .inl (k 0, 25, .inl u6De_38)), (t7, .inr (1, [.int u7Pe_39, .int u7Da_40, .int u7Dr_41, .ref u7rNa, .ref u7rMo, .ref u7rWa, .ref u7rDe])), (u7rNa, .inl (k 0, 5, .inl u7Na_42)), (u7rMo, .inl (k 0, 5, .inl u7Mo_43)), (u7rWa, .inl (k 0, 5, .inl u7Wa_44)), (u7rDe, .inl (k 0, 25, .inl u7De_45)), (t8, .inr (1, [.int u8Pe_46, .int u8Da_47, .int u8Dr_48, .ref u8rNa, .ref u8rMo, .ref u8rWa, .ref u8rDe])), (u8rNa, .inl (k 0, 5, .inl u8Na_49)), (u8rMo, .inl (k 0, 5, .inl u8Mo_50)), (u8rWa, .inl (k 0, 5, .inl u8Wa_51)), (u8rDe, .inl (k 0, 25, .inl u8De_52))]) (ws' := wX2 k xh xaA ++ (wOA k xaA t0 t1 t2 t3 t4 t5 t6 t7 t8 ++ (wX1 k t0 u0rNa u0rMo u0rWa u0rDe u0Pe u0Da u0Dr u0Na u0Mo u0Wa u0De ++ (wX1 k t1 u1rNa u1rMo u1rWa u1rDe u1Pe u1Da u1Dr u1Na u1Mo u1Wa u1De ++ (wX1 k t2 u2rNa u2rMo u2rWa u2rDe u2Pe_104 u2Da_105 u2Dr_106 u2Na_107 u2Mo_108 u2Wa_109 u2De_110 ++ (wX1 k t3 u3rNa u3rMo u3rWa u3rDe u3Pe_11 u3Da_12 u3Dr_13 u3Na_14 u3Mo_15 u3Wa_16 u3De_17 ++ (wX1 k t4 u4rNa u4rMo u4rWa u4rDe u4Pe_18 u4Da_19 u4Dr_20 u4Na_21 u4Mo_22 u4Wa_23 u4De_24 ++ (wX1 k t5 u5rNa u5rMo u5rWa u5rDe u5Pe_25 u5Da_26 u5Dr_27 u5Na_28 u5Mo_29 u5Wa_30 u5De_31 ++ (wX1 k t6 u6rNa u6rMo u6rWa u6rDe u6Pe_32 u6Da_33 u6Dr_34 u6Na_35 u6Mo_36 u6Wa_37 u6De_38 ++ (wX1 k t7 u7rNa u7rMo u7rWa u7rDe u7Pe_39 u7Da_40 u7Dr_41 u7Na_42 u7Mo_43 u7Wa_44 u7De_45 ++ (wX1 k t8 u8rNa u8rMo u8rWa u8rDe u8Pe_46 u8Da_47 u8Dr_48 u8Na_49 u8Mo_50 u8Wa_51 u8De_52))))))))))) [12, 13, 14, 15, 16, 7, 8, 9, 10, 11] [0, 1, 2, 3, 4, 5, 6, 17, 18, 19, 20, 21, 22, 23, 24, 25, 26, 27, 28, 29, 30, 31, 32, 33, 34, 35, 36, 37, 38, 39, 40, 41, 42, 43, 44, 45, 46] [0, 1, 2, 3, 4, 5, 6, 42, 43, 44, 45, 46, 37, 38, 39, 40, 41, 7, 8, 9, 10, 11, 12, 13, 14, 15, 16, 17, 18, 19, 20, 21, 22, 23, 24, 25, 26, 27, 28, 29, 30, 31, 32, 33, 34, 35, 36] rfl rfl (by decide) (by decide) (by decide) rfl (by decide) 1 rfl rfl [] rfl hl.1 rfl (Nat.le_of_ble_eq_true rfl) dX2_weighed_78 ⟨by decide, by decide⟩ (fun H locs (hw : Wd D A s.heap H locs (wX2 k xh xaA ++ (wOA k xaA t0 t1 t2 t3 t4 t5 t6 t7 t8 ++ (wX1 k t0 u0rNa u0rMo u0rWa u0rDe u0Pe u0Da u0Dr u0Na u0Mo u0Wa u0De ++ (wX1 k t1 u1rNa u1rMo u1rWa u1rDe u1Pe u1Da u1Dr u1Na u1Mo u1Wa u1De ++ (wX1 k t2 u2rNa u2rMo u2rWa u2rDe u2Pe_104 u2Da_105 u2Dr_106 u2Na_107 u2Mo_108 u2Wa_109 u2De_110 ++ (wX1 k t3 u3rNa u3rMo u3rWa u3rDe u3Pe_11 u3Da_12 u3Dr_13 u3Na_14 u3Mo_15 u3Wa_16 u3De_17 ++ (wX1 k t4 u4rNa u4rMo u4rWa u4rDe u4Pe_18 u4Da_19 u4Dr_20 u4Na_21 u4Mo_22 u4Wa_23 u4De_24 ++ (wX1 k t5 u5rNa u5rMo u5rWa u5rDe u5Pe_25 u5Da_26 u5Dr_27 u5Na_28 u5Mo_29 u5Wa_30 u5De_31 ++ (wX1 k t6 u6rNa u6rMo u6rWa u6rDe u6Pe_32 u6Da_33 u6Dr_34 u6Na_35 u6Mo_36 u6Wa_37 u6De_38 ++ (wX1 k t7 u7rNa u7rMo u7rWa u7rDe u7Pe_39 u7Da_40 u7Dr_41 u7Na_42 u7Mo_43 u7Wa_44 u7De_45 ++ (wX1 k t8 u8rNa u8rMo u8rWa u8rDe u8Pe_46 u8Da_47 u8Dr_48 u8Na_49 u8Mo_50 u8Wa_51 u8De_52)))))))))))) => ?_)
              refine W.eq (g2 := F0 m 81 ls ([])) rfl ?_
              refine lv_aload hx hb dX2_weighed_81 (lv_at hl 7 rfl) ?_
              refine lv_iload hx hb dX2_weighed_83 (lv_at hl 8 rfl) ?_
              obtain ⟨t_111, hj_85, h⟩ := b1_inv h
              have J_85 : ∀ (H : Heap) (locs : List Loc) (ls : Array Slot), Wd D A s.heap H locs (wX2 k xh xaA ++ (wOA k xaA t0 t1 t2 t3 t4 t5 t6 t7 t8 ++ (wX1 k t0 u0rNa u0rMo u0rWa u0rDe u0Pe u0Da u0Dr u0Na u0Mo u0Wa u0De ++ (wX1 k t1 u1rNa u1rMo u1rWa u1rDe u1Pe u1Da u1Dr u1Na u1Mo u1Wa u1De ++ (wX1 k t2 u2rNa u2rMo u2rWa u2rDe u2Pe_104 u2Da_105 u2Dr_106 u2Na_107 u2Mo_108 u2Wa_109 u2De_110 ++ (wX1 k t3 u3rNa u3rMo u3rWa u3rDe u3Pe_11 u3Da_12 u3Dr_13 u3Na_14 u3Mo_15 u3Wa_16 u3De_17 ++ (wX1 k t4 u4rNa u4rMo u4rWa u4rDe u4Pe_18 u4Da_19 u4Dr_20 u4Na_21 u4Mo_22 u4Wa_23 u4De_24 ++ (wX1 k t5 u5rNa u5rMo u5rWa u5rDe u5Pe_25 u5Da_26 u5Dr_27 u5Na_28 u5Mo_29 u5Wa_30 u5De_31 ++ (wX1 k t6 u6rNa u6rMo u6rWa u6rDe u6Pe_32 u6Da_33 u6Dr_34 u6Na_35 u6Mo_36 u6Wa_37 u6De_38 ++ (wX1 k t7 u7rNa u7rMo u7rWa u7rDe u7Pe_39 u7Da_40 u7Dr_41 u7Na_42 u7Mo_43 u7Wa_44 u7De_45 ++ (wX1 k t8 u8rNa u8rMo u8rWa u8rDe u8Pe_46 u8Da_47 u8Dr_48 u8Na_49 u8Mo_50 u8Wa_51 u8De_52))))))))))) → lv_has ls 10 [(0, .ref xh), (1, .int 1), (2, .int p2), (3, .int p3), (4, .int p4), (5, .long v5_2), (7, .ref t2), (8, .int v8_3), (9, .int t_103)] → W p l e rmX2_weighed_1 s m args below meth c H locs 0 0 Q (F0 m 98 ls [.int t_111, .ref t2]) := by
                intro H locs ls hw hl
                obtain ⟨r_112, u2Da_113, u2Mo_114, u2De_115, hf, h⟩ := b4_inv h
                refine k_callV (host := "") fx hK hA hw (c_X1_runDay l D k t2 u2rNa u2rMo u2rWa u2rDe _ u2Pe_104 u2Da_105 u2Dr_106 u2Na_107 u2Mo_108 u2Wa_109 u2De_110 t_111 r_112 u2Da_113 u2Mo_114 u2De_115 hf) (cwV 1 hts gX2_weighed_X1_runDay rfl rfl rfl (by decide +kernel) ⟨by decide, by decide⟩) (As := [.int t_111]) (wr := [(xh, .inr (2, [.ref xaA])), (xaA, .inl (k 3, 9, .inr (.inr (.inr (.inr (rl [t0, t1, t2, t3, t4, t5, t6, t7, t8])))))), (t0, .inr (1, [.int u0Pe, .int u0Da, .int u0Dr, .ref u0rNa, .ref u0rMo, .ref u0rWa, .ref u0rDe])), (u0rNa, .inl (k 0, 5, .inl u0Na)), (u0rMo, .inl (k 0, 5, .inl u0Mo)), (u0rWa, .inl (k 0, 5, .inl u0Wa)), (u0rDe, .inl (k 0, 25, .inl u0De)), (t1, .inr (1, [.int u1Pe, .int u1Da, .int u1Dr, .ref u1rNa, .ref u1rMo, .ref u1rWa, .ref u1rDe])), (u1rNa, .inl (k 0, 5, .inl u1Na)), (u1rMo, .inl (k 0, 5, .inl u1Mo)), (u1rWa, .inl (k 0, 5, .inl u1Wa)), (u1rDe, .inl (k 0, 25, .inl u1De)), (t3, .inr (1, [.int u3Pe_11, .int u3Da_12, .int u3Dr_13, .ref u3rNa, .ref u3rMo, .ref u3rWa, .ref u3rDe])), (u3rNa, .inl (k 0, 5, .inl u3Na_14)), (u3rMo, .inl (k 0, 5, .inl u3Mo_15)), (u3rWa, .inl (k 0, 5, .inl u3Wa_16)), (u3rDe, .inl (k 0, 25, .inl u3De_17)), (t4, .inr (1, [.int u4Pe_18, .int u4Da_19, .int u4Dr_20, .ref u4rNa, .ref u4rMo, .ref u4rWa, .ref u4rDe])), (u4rNa, .inl (k 0, 5, .inl u4Na_21)), (u4rMo, .inl (k 0, 5, .inl u4Mo_22)), (u4rWa, .inl (k 0, 5, .inl u4Wa_23)), (u4rDe, .inl (k 0, 25, .inl u4De_24)), (t5, .inr (1, [.int u5Pe_25, .int u5Da_26, .int u5Dr_27, .ref u5rNa, .ref u5rMo, .ref u5rWa, .ref u5rDe])), (u5rNa, .inl (k 0, 5, .inl u5Na_28)), (u5rMo, .inl (k 0, 5, .inl u5Mo_29)), (u5rWa, .inl (k 0, 5, .inl u5Wa_30)), (u5rDe, .inl (k 0, 25, .inl u5De_31)), (t6, .inr (1, [.int u6Pe_32, .int u6Da_33, .int u6Dr_34, .ref u6rNa, .ref u6rMo, .ref u6rWa, .ref u6rDe])), (u6rNa, .inl (k 0, 5, .inl u6Na_35)), (u6rMo, .inl (k 0, 5, .inl u6Mo_36)), (u6rWa, .inl (k 0, 5, .inl u6Wa_37)), (u6rDe, .inl (k 0, 25, .inl u6De_38)), (t7, .inr (1, [.int u7Pe_39, .int u7Da_40, .int u7Dr_41, .ref u7rNa, .ref u7rMo, .ref u7rWa, .ref u7rDe])), (u7rNa, .inl (k 0, 5, .inl u7Na_42)), (u7rMo, .inl (k 0, 5, .inl u7Mo_43)), (u7rWa, .inl (k 0, 5, .inl u7Wa_44)), (u7rDe, .inl (k 0, 25, .inl u7De_45)), (t8, .inr (1, [.int u8Pe_46, .int u8Da_47, .int u8Dr_48, .ref u8rNa, .ref u8rMo, .ref u8rWa, .ref u8rDe])), (u8rNa, .inl (k 0, 5, .inl u8Na_49)), (u8rMo, .inl (k 0, 5, .inl u8Mo_50)), (u8rWa, .inl (k 0, 5, .inl u8Wa_51)), (u8rDe, .inl (k 0, 25, .inl u8De_52))]) (ws' := wX2 k xh xaA ++ (wOA k xaA t0 t1 t2 t3 t4 t5 t6 t7 t8 ++ (wX1 k t0 u0rNa u0rMo u0rWa u0rDe u0Pe u0Da u0Dr u0Na u0Mo u0Wa u0De ++ (wX1 k t1 u1rNa u1rMo u1rWa u1rDe u1Pe u1Da u1Dr u1Na u1Mo u1Wa u1De ++ (wX1 k t2 u2rNa u2rMo u2rWa u2rDe u2Pe_104 u2Da_113 u2Dr_106 u2Na_107 u2Mo_114 u2Wa_109 u2De_115 ++ (wX1 k t3 u3rNa u3rMo u3rWa u3rDe u3Pe_11 u3Da_12 u3Dr_13 u3Na_14 u3Mo_15 u3Wa_16 u3De_17 ++ (wX1 k t4 u4rNa u4rMo u4rWa u4rDe u4Pe_18 u4Da_19 u4Dr_20 u4Na_21 u4Mo_22 u4Wa_23 u4De_24 ++ (wX1 k t5 u5rNa u5rMo u5rWa u5rDe u5Pe_25 u5Da_26 u5Dr_27 u5Na_28 u5Mo_29 u5Wa_30 u5De_31 ++ (wX1 k t6 u6rNa u6rMo u6rWa u6rDe u6Pe_32 u6Da_33 u6Dr_34 u6Na_35 u6Mo_36 u6Wa_37 u6De_38 ++ (wX1 k t7 u7rNa u7rMo u7rWa u7rDe u7Pe_39 u7Da_40 u7Dr_41 u7Na_42 u7Mo_43 u7Wa_44 u7De_45 ++ (wX1 k t8 u8rNa u8rMo u8rWa u8rDe u8Pe_46 u8Da_47 u8Dr_48 u8Na_49 u8Mo_50 u8Wa_51 u8De_52))))))))))) [12, 13, 14, 15, 16] [0, 1, 2, 3, 4, 5, 6, 7, 8, 9, 10, 11, 17, 18, 19, 20, 21, 22, 23, 24, 25, 26, 27, 28, 29, 30, 31, 32, 33, 34, 35, 36, 37, 38, 39, 40, 41, 42, 43, 44, 45, 46] [0, 1, 2, 3, 4, 5, 6, 7, 8, 9, 10, 11, 42, 43, 44, 45, 46, 12, 13, 14, 15, 16, 17, 18, 19, 20, 21, 22, 23, 24, 25, 26, 27, 28, 29, 30, 31, 32, 33, 34, 35, 36, 37, 38, 39, 40, 41] rfl rfl (by decide) (by decide) (by decide) rfl (by decide) 1 rfl rfl [] rfl hl.1 rfl (Nat.le_of_ble_eq_true rfl) dX2_weighed_98 ⟨by decide, by decide⟩ (fun H locs (hw : Wd D A s.heap H locs (wX2 k xh xaA ++ (wOA k xaA t0 t1 t2 t3 t4 t5 t6 t7 t8 ++ (wX1 k t0 u0rNa u0rMo u0rWa u0rDe u0Pe u0Da u0Dr u0Na u0Mo u0Wa u0De ++ (wX1 k t1 u1rNa u1rMo u1rWa u1rDe u1Pe u1Da u1Dr u1Na u1Mo u1Wa u1De ++ (wX1 k t2 u2rNa u2rMo u2rWa u2rDe u2Pe_104 u2Da_113 u2Dr_106 u2Na_107 u2Mo_114 u2Wa_109 u2De_115 ++ (wX1 k t3 u3rNa u3rMo u3rWa u3rDe u3Pe_11 u3Da_12 u3Dr_13 u3Na_14 u3Mo_15 u3Wa_16 u3De_17 ++ (wX1 k t4 u4rNa u4rMo u4rWa u4rDe u4Pe_18 u4Da_19 u4Dr_20 u4Na_21 u4Mo_22 u4Wa_23 u4De_24 ++ (wX1 k t5 u5rNa u5rMo u5rWa u5rDe u5Pe_25 u5Da_26 u5Dr_27 u5Na_28 u5Mo_29 u5Wa_30 u5De_31 ++ (wX1 k t6 u6rNa u6rMo u6rWa u6rDe u6Pe_32 u6Da_33 u6Dr_34 u6Na_35 u6Mo_36 u6Wa_37 u6De_38 ++ (wX1 k t7 u7rNa u7rMo u7rWa u7rDe u7Pe_39 u7Da_40 u7Dr_41 u7Na_42 u7Mo_43 u7Wa_44 u7De_45 ++ (wX1 k t8 u8rNa u8rMo u8rWa u8rDe u8Pe_46 u8Da_47 u8Dr_48 u8Na_49 u8Mo_50 u8Wa_51 u8De_52)))))))))))) => ?_)
                refine W.eq (g2 := F0 m 101 ls ([.int r_112])) rfl ?_
                refine lv_pop hx hb dX2_weighed_101 rfl ?_
                refine lv_lload hx hb dX2_weighed_102 (lv_at hl 5 rfl) ?_
                refine lv_iload hx hb dX2_weighed_104 (lv_at hl 8 rfl) ?_
                refine lv_i2l hx hb dX2_weighed_106 rfl ?_
                refine lv_aload_n hx hb dX2_weighed_107 rfl (lv_at hl 0 rfl) ?_
                refine lv_iload_n hx hb dX2_weighed_108 rfl (lv_at hl 1 rfl) ?_
                refine lv_iconst (v := 1) hx hb dX2_weighed_109 (by decide) ?_
                refine lv_iadd hx hb dX2_weighed_110 ?_
                refine k_lit (y := 2) (by decide) ?_
                refine lv_iload_n hx hb dX2_weighed_111 rfl (lv_at hl 2 rfl) ?_
                refine lv_iload_n hx hb dX2_weighed_112 rfl (lv_at hl 3 rfl) ?_
                refine lv_iload hx hb dX2_weighed_113 (lv_at hl 4 rfl) ?_
                obtain ⟨r_116, hf, h⟩ := b1_inv h
                refine k_callVJ fx hK hA hw (c_X2_weighed_2 l D k xh xaA t0 t1 t2 t3 t4 t5 t6 t7 t8 u0rNa u0rMo u0rWa u0rDe u1rNa u1rMo u1rWa u1rDe u2rNa u2rMo u2rWa u2rDe u3rNa u3rMo u3rWa u3rDe u4rNa u4rMo u4rWa u4rDe u5rNa u5rMo u5rWa u5rDe u6rNa u6rMo u6rWa u6rDe u7rNa u7rMo u7rWa u7rDe u8rNa u8rMo u8rWa u8rDe _ u0Pe u0Da u0Dr u0Na u0Mo u0Wa u0De u1Pe u1Da u1Dr u1Na u1Mo u1Wa u1De u2Pe_104 u2Da_113 u2Dr_106 u2Na_107 u2Mo_114 u2Wa_109 u2De_115 u3Pe_11 u3Da_12 u3Dr_13 u3Na_14 u3Mo_15 u3Wa_16 u3De_17 u4Pe_18 u4Da_19 u4Dr_20 u4Na_21 u4Mo_22 u4Wa_23 u4De_24 u5Pe_25 u5Da_26 u5Dr_27 u5Na_28 u5Mo_29 u5Wa_30 u5De_31 u6Pe_32 u6Da_33 u6Dr_34 u6Na_35 u6Mo_36 u6Wa_37 u6De_38 u7Pe_39 u7Da_40 u7Dr_41 u7Na_42 u7Mo_43 u7Wa_44 u7De_45 u8Pe_46 u8Da_47 u8Dr_48 u8Na_49 u8Mo_50 u8Wa_51 u8De_52 p2 p3 p4 r_116 hf) (cwV 4 hts gX2_weighed_X2_weighed rfl rfl rfl (by decide +kernel) ⟨by decide, by decide⟩) (As := [.int 2, .int p2, .int p3, .int p4]) (wr := []) (ws' := fun j_117 => wX2 k xh xaA ++ (wOA k xaA t0 t1 t2 t3 t4 t5 t6 t7 t8 ++ (wX1 k t0 u0rNa u0rMo u0rWa u0rDe u0Pe u0Da u0Dr u0Na u0Mo u0Wa u0De ++ (wX1 k t1 u1rNa u1rMo u1rWa u1rDe u1Pe u1Da u1Dr u1Na u1Mo u1Wa u1De ++ (wX1 k t2 u2rNa u2rMo u2rWa u2rDe u2Pe_104 u2Da_113 u2Dr_106 u2Na_107 u2Mo_114 u2Wa_109 u2De_115 ++ (wX1 k t3 u3rNa u3rMo u3rWa u3rDe (j_117.1 0) (j_117.1 1) (j_117.1 2) (j_117.2 0) (j_117.2 1) (j_117.2 2) (j_117.2 3) ++ (wX1 k t4 u4rNa u4rMo u4rWa u4rDe (j_117.1 3) (j_117.1 4) (j_117.1 5) (j_117.2 4) (j_117.2 5) (j_117.2 6) (j_117.2 7) ++ (wX1 k t5 u5rNa u5rMo u5rWa u5rDe (j_117.1 6) (j_117.1 7) (j_117.1 8) (j_117.2 8) (j_117.2 9) (j_117.2 10) (j_117.2 11) ++ (wX1 k t6 u6rNa u6rMo u6rWa u6rDe (j_117.1 9) (j_117.1 10) (j_117.1 11) (j_117.2 12) (j_117.2 13) (j_117.2 14) (j_117.2 15) ++ (wX1 k t7 u7rNa u7rMo u7rWa u7rDe (j_117.1 12) (j_117.1 13) (j_117.1 14) (j_117.2 16) (j_117.2 17) (j_117.2 18) (j_117.2 19) ++ (wX1 k t8 u8rNa u8rMo u8rWa u8rDe (j_117.1 15) (j_117.1 16) (j_117.1 17) (j_117.2 20) (j_117.2 21) (j_117.2 22) (j_117.2 23)))))))))))) [0, 1, 2, 3, 4, 5, 6, 7, 8, 9, 10, 11, 12, 13, 14, 15, 16, 17, 18, 19, 20, 21, 22, 23, 24, 25, 26, 27, 28, 29, 30, 31, 32, 33, 34, 35, 36, 37, 38, 39, 40, 41, 42, 43, 44, 45, 46] [] [0, 1, 2, 3, 4, 5, 6, 7, 8, 9, 10, 11, 12, 13, 14, 15, 16, 17, 18, 19, 20, 21, 22, 23, 24, 25, 26, 27, 28, 29, 30, 31, 32, 33, 34, 35, 36, 37, 38, 39, 40, 41, 42, 43, 44, 45, 46] rfl rfl (by decide) (by decide) (by decide) (fun _ => rfl) (by decide) 2 rfl rfl [.long t_103.toInt64, .long v5_2] rfl hl.1 rfl (Nat.le_of_ble_eq_true rfl) dX2_weighed_115 ⟨by decide, by decide⟩ (fun j_117 H locs (hw : Wd D A s.heap H locs (wX2 k xh xaA ++ (wOA k xaA t0 t1 t2 t3 t4 t5 t6 t7 t8 ++ (wX1 k t0 u0rNa u0rMo u0rWa u0rDe u0Pe u0Da u0Dr u0Na u0Mo u0Wa u0De ++ (wX1 k t1 u1rNa u1rMo u1rWa u1rDe u1Pe u1Da u1Dr u1Na u1Mo u1Wa u1De ++ (wX1 k t2 u2rNa u2rMo u2rWa u2rDe u2Pe_104 u2Da_113 u2Dr_106 u2Na_107 u2Mo_114 u2Wa_109 u2De_115 ++ (wX1 k t3 u3rNa u3rMo u3rWa u3rDe (j_117.1 0) (j_117.1 1) (j_117.1 2) (j_117.2 0) (j_117.2 1) (j_117.2 2) (j_117.2 3) ++ (wX1 k t4 u4rNa u4rMo u4rWa u4rDe (j_117.1 3) (j_117.1 4) (j_117.1 5) (j_117.2 4) (j_117.2 5) (j_117.2 6) (j_117.2 7) ++ (wX1 k t5 u5rNa u5rMo u5rWa u5rDe (j_117.1 6) (j_117.1 7) (j_117.1 8) (j_117.2 8) (j_117.2 9) (j_117.2 10) (j_117.2 11) ++ (wX1 k t6 u6rNa u6rMo u6rWa u6rDe (j_117.1 9) (j_117.1 10) (j_117.1 11) (j_117.2 12) (j_117.2 13) (j_117.2 14) (j_117.2 15) ++ (wX1 k t7 u7rNa u7rMo u7rWa u7rDe (j_117.1 12) (j_117.1 13) (j_117.1 14) (j_117.2 16) (j_117.2 17) (j_117.2 18) (j_117.2 19) ++ (wX1 k t8 u8rNa u8rMo u8rWa u8rDe (j_117.1 15) (j_117.1 16) (j_117.1 17) (j_117.2 20) (j_117.2 21) (j_117.2 22) (j_117.2 23))))))))))))) => ?_)
                refine W.eq (g2 := F0 m 118 ls ([.long r_116, .long t_103.toInt64, .long v5_2])) rfl ?_
                refine lv_lmul hx hb dX2_weighed_118 ?_
                refine lv_ladd hx hb dX2_weighed_119 ?_
                refine lv_lstore (lv' := [(5, .long (v5_2 + (t_103.toInt64 * r_116))), (0, .ref xh), (1, .int 1), (2, .int p2), (3, .int p3), (4, .int p4), (7, .ref t2), (8, .int v8_3), (9, .int t_103)]) hx hb dX2_weighed_120 hl (by decide) rfl (fun ls hl => ?_)
                refine lv_iinc (v := v8_3 + 1) (lv' := [(8, .int (v8_3 + 1)), (5, .long (v5_2 + (t_103.toInt64 * r_116))), (0, .ref xh), (1, .int 1), (2, .int p2), (3, .int p3), (4, .int p4), (7, .ref t2), (9, .int t_103)]) hx hb dX2_weighed_122 hl (k := 7) rfl rfl (by decide) rfl (fun ls hl => ?_)
                refine lv_goto (tgt := 44) hx hb dX2_weighed_125 (by decide) ?_
                exact ih _ _ h _ _ _ _ _ _ _ _ _ _ _ _ _ _ _ _ _ _ _ _ _ _ _ _ _ _ _ _ _ _ _ _ _ _ _ _ _ _ _ _ _ _ _ _ _ _ _ _ _ _ _ _ hw (lv_sub hl [2, 3, 4, 5, 6, 1, 7, 0] rfl)
              clear h
              have h := hj_85
              refine kb_if_ne (tgt := 93) hx hb dX2_weighed_85 (by decide) h (fun c_85 h => ?_) (fun c_85 h => ?_)
              · refine lv_bipush (v := 9) hx hb dX2_weighed_88 (by decide) ?_
                refine lv_goto (tgt := 98) hx hb dX2_weighed_90 (by decide) ?_
                cases h
                exact J_85 _ _ _ hw (lv_sub hl [1, 2, 3, 4, 5, 6, 7, 8, 0] rfl)
              · refine lv_aload hx hb dX2_weighed_93 (lv_at hl 7 rfl) ?_
                refine va_get (ci := 1) (v := .int u2Dr_106) (C := RX1) (T := TX1) (N := 7) hx hb hts hinX1 hown hK.1 hw.1 12 rfl rfl 2 (by decide) q_2 (fun _ h9 => h9) rfl dX2_weighed_95 ?_
                cases h
                exact J_85 _ _ _ hw (lv_sub hl [1, 2, 3, 4, 5, 6, 7, 8, 0] rfl)
          clear h
          have h := hj_52
          refine kb_if_ne (tgt := 59) hx hb dX2_weighed_52 (by decide) h (fun c_52 h => ?_) (fun c_52 h => ?_)
          · refine lv_iload_n hx hb dX2_weighed_55 rfl (lv_at hl 2 rfl) ?_
            refine lv_goto (tgt := 63) hx hb dX2_weighed_56 (by decide) ?_
            cases h
            exact J_52 _ _ _ hw (lv_sub hl [0, 1, 2, 3, 4, 5, 6, 7] rfl)
          · refine lv_bipush (v := 10) hx hb dX2_weighed_59 (by decide) ?_
            refine lv_iload_n hx hb dX2_weighed_61 rfl (lv_at hl 2 rfl) ?_
            refine lv_isub hx hb dX2_weighed_62 ?_
            cases h
            exact J_52 _ _ _ hw (lv_sub hl [0, 1, 2, 3, 4, 5, 6, 7] rfl)
    exact LP_44 400 0 0 hL_44 _ _ _ _ _ _ _ _ _ _ _ _ _ _ _ _ _ _ _ _ _ _ _ _ _ _ _ _ _ _ _ _ _ _ _ _ _ _ _ _ _ _ _ _ _ _ _ _ _ _ _ _ hw (lv_sub hl [3, 4, 5, 6, 7, 2, 1, 0] rfl)
abbrev rmX2_weighed_0 : Room := { frames := 11, cells := 0, slots := 0, locals := 298 }
set_option maxHeartbeats 4000000 in
set_option maxRecDepth 100000 in
theorem c_X2_weighed_0 (l : Launch) (D : va_G) (k : Nat → ClassId) (xh xaA t0 t1 t2 t3 t4 t5 t6 t7 t8 u0rNa u0rMo u0rWa u0rDe u1rNa u1rMo u1rWa u1rDe u2rNa u2rMo u2rWa u2rDe u3rNa u3rMo u3rWa u3rDe u4rNa u4rMo u4rWa u4rDe u5rNa u5rMo u5rWa u5rDe u6rNa u6rMo u6rWa u6rDe u7rNa u7rMo u7rWa u7rDe u8rNa u8rMo u8rWa u8rDe : Nat) (sz : Nat) (u0Pe : Int32) (u0Da : Int32) (u0Dr : Int32) (u0Na : (Nat → Int32)) (u0Mo : (Nat → Int32)) (u0Wa : (Nat → Int32)) (u0De : (Nat → Int32)) (u1Pe : Int32) (u1Da : Int32) (u1Dr : Int32) (u1Na : (Nat → Int32)) (u1Mo : (Nat → Int32)) (u1Wa : (Nat → Int32)) (u1De : (Nat → Int32)) (u2Pe : Int32) (u2Da : Int32) (u2Dr : Int32) (u2Na : (Nat → Int32)) (u2Mo : (Nat → Int32)) (u2Wa : (Nat → Int32)) (u2De : (Nat → Int32)) (u3Pe : Int32) (u3Da : Int32) (u3Dr : Int32) (u3Na : (Nat → Int32)) (u3Mo : (Nat → Int32)) (u3Wa : (Nat → Int32)) (u3De : (Nat → Int32)) (u4Pe : Int32) (u4Da : Int32) (u4Dr : Int32) (u4Na : (Nat → Int32)) (u4Mo : (Nat → Int32)) (u4Wa : (Nat → Int32)) (u4De : (Nat → Int32)) (u5Pe : Int32) (u5Da : Int32) (u5Dr : Int32) (u5Na : (Nat → Int32)) (u5Mo : (Nat → Int32)) (u5Wa : (Nat → Int32)) (u5De : (Nat → Int32)) (u6Pe : Int32) (u6Da : Int32) (u6Dr : Int32) (u6Na : (Nat → Int32)) (u6Mo : (Nat → Int32)) (u6Wa : (Nat → Int32)) (u6De : (Nat → Int32)) (u7Pe : Int32) (u7Da : Int32) (u7Dr : Int32) (u7Na : (Nat → Int32)) (u7Mo : (Nat → Int32)) (u7Wa : (Nat → Int32)) (u7De : (Nat → Int32)) (u8Pe : Int32) (u8Da : Int32) (u8Dr : Int32) (u8Na : (Nat → Int32)) (u8Mo : (Nat → Int32)) (u8Wa : (Nat → Int32)) (u8De : (Nat → Int32)) (p2 : Int32) (p3 : Int32) (p4 : Int32) (r_ : Int64) (hf : f_X2_weighed_0 u0Pe u0Da u0Dr u0Na u0Mo u0Wa u0De p2 p3 p4 = some r_) : mJ l yX2_weighed wsX2_weighed rmX2_weighed_0 D k sz [.ref xh, .int 0, .int p2, .int p3, .int p4] (wX2 k xh xaA ++ (wOA k xaA t0 t1 t2 t3 t4 t5 t6 t7 t8 ++ (wX1 k t0 u0rNa u0rMo u0rWa u0rDe u0Pe u0Da u0Dr u0Na u0Mo u0Wa u0De ++ (wX1 k t1 u1rNa u1rMo u1rWa u1rDe u1Pe u1Da u1Dr u1Na u1Mo u1Wa u1De ++ (wX1 k t2 u2rNa u2rMo u2rWa u2rDe u2Pe u2Da u2Dr u2Na u2Mo u2Wa u2De ++ (wX1 k t3 u3rNa u3rMo u3rWa u3rDe u3Pe u3Da u3Dr u3Na u3Mo u3Wa u3De ++ (wX1 k t4 u4rNa u4rMo u4rWa u4rDe u4Pe u4Da u4Dr u4Na u4Mo u4Wa u4De ++ (wX1 k t5 u5rNa u5rMo u5rWa u5rDe u5Pe u5Da u5Dr u5Na u5Mo u5Wa u5De ++ (wX1 k t6 u6rNa u6rMo u6rWa u6rDe u6Pe u6Da u6Dr u6Na u6Mo u6Wa u6De ++ (wX1 k t7 u7rNa u7rMo u7rWa u7rDe u7Pe u7Da u7Dr u7Na u7Mo u7Wa u7De ++ (wX1 k t8 u8rNa u8rMo u8rWa u8rDe u8Pe u8Da u8Dr u8Na u8Mo u8Wa u8De))))))))))) (fun j => wX2 k xh xaA ++ (wOA k xaA t0 t1 t2 t3 t4 t5 t6 t7 t8 ++ (wX1 k t0 u0rNa u0rMo u0rWa u0rDe u0Pe u0Da u0Dr u0Na u0Mo u0Wa u0De ++ (wX1 k t1 u1rNa u1rMo u1rWa u1rDe (j.1 0) (j.1 1) (j.1 2) (j.2 0) (j.2 1) (j.2 2) (j.2 3) ++ (wX1 k t2 u2rNa u2rMo u2rWa u2rDe (j.1 3) (j.1 4) (j.1 5) (j.2 4) (j.2 5) (j.2 6) (j.2 7) ++ (wX1 k t3 u3rNa u3rMo u3rWa u3rDe (j.1 6) (j.1 7) (j.1 8) (j.2 8) (j.2 9) (j.2 10) (j.2 11) ++ (wX1 k t4 u4rNa u4rMo u4rWa u4rDe (j.1 9) (j.1 10) (j.1 11) (j.2 12) (j.2 13) (j.2 14) (j.2 15) ++ (wX1 k t5 u5rNa u5rMo u5rWa u5rDe (j.1 12) (j.1 13) (j.1 14) (j.2 16) (j.2 17) (j.2 18) (j.2 19) ++ (wX1 k t6 u6rNa u6rMo u6rWa u6rDe (j.1 15) (j.1 16) (j.1 17) (j.2 20) (j.2 21) (j.2 22) (j.2 23) ++ (wX1 k t7 u7rNa u7rMo u7rWa u7rDe (j.1 18) (j.1 19) (j.1 20) (j.2 24) (j.2 25) (j.2 26) (j.2 27) ++ (wX1 k t8 u8rNa u8rMo u8rWa u8rDe (j.1 21) (j.1 22) (j.1 23) (j.2 28) (j.2 29) (j.2 30) (j.2 31)))))))))))) (some (.long r_)) := by
  refine mJ_of (cc := cX2_weighed) (maxL := 10) (ret := some .long) (by decide) rfl (Nat.le_of_ble_eq_true rfl) [(0, .ref xh), (1, .int 0), (2, .int p2), (3, .int p3), (4, .int p4)] rfl ?_
  intro p e s m below meth c A ls args Q cx hK hA hw hl hQ
  have fx := cx.1
  obtain ⟨⟨hx, hb, hml, hown, hts⟩, hr, hlocks⟩ := cx
  have hinX2 : ∀ w ∈ wsX20, w ∈ wsX2_weighed := fun w h => List.mem_cons_of_mem _ (List.mem_append_left _ (List.mem_append_right _ h))
  have hinX1 : ∀ w ∈ wsX10, w ∈ wsX2_weighed := fun w h => List.mem_cons_of_mem _ (List.mem_append_right _ h)
  have q_1 := hts (.fieldLink RX2 11 "DebtRides$Odds" "steps" "[LDebtRides$Land;") (List.mem_of_getElem? (i := 1) rfl)
  have q_2 := hts (.fieldLink RX2 41 "DebtRides$Land" "dryness" "I") (List.mem_of_getElem? (i := 2) rfl)
  have h := hf
  unfold f_X2_weighed_0 at h
  clear hf
  refine lv_iload_n hx hb dX2_weighed_0 rfl (lv_at hl 1 rfl) ?_
  refine lv_iload hx hb dX2_weighed_1 (lv_at hl 4 rfl) ?_
  have T_17 : f_X2_weighed_0_B17 u0Pe u0De p3 = some r_ → ∀ (H : Heap) (locs : List Loc) (ls : Array Slot), Wd D A s.heap H locs (wX2 k xh xaA ++ (wOA k xaA t0 t1 t2 t3 t4 t5 t6 t7 t8 ++ (wX1 k t0 u0rNa u0rMo u0rWa u0rDe u0Pe u0Da u0Dr u0Na u0Mo u0Wa u0De ++ (wX1 k t1 u1rNa u1rMo u1rWa u1rDe u1Pe u1Da u1Dr u1Na u1Mo u1Wa u1De ++ (wX1 k t2 u2rNa u2rMo u2rWa u2rDe u2Pe u2Da u2Dr u2Na u2Mo u2Wa u2De ++ (wX1 k t3 u3rNa u3rMo u3rWa u3rDe u3Pe u3Da u3Dr u3Na u3Mo u3Wa u3De ++ (wX1 k t4 u4rNa u4rMo u4rWa u4rDe u4Pe u4Da u4Dr u4Na u4Mo u4Wa u4De ++ (wX1 k t5 u5rNa u5rMo u5rWa u5rDe u5Pe u5Da u5Dr u5Na u5Mo u5Wa u5De ++ (wX1 k t6 u6rNa u6rMo u6rWa u6rDe u6Pe u6Da u6Dr u6Na u6Mo u6Wa u6De ++ (wX1 k t7 u7rNa u7rMo u7rWa u7rDe u7Pe u7Da u7Dr u7Na u7Mo u7Wa u7De ++ (wX1 k t8 u8rNa u8rMo u8rWa u8rDe u8Pe u8Da u8Dr u8Na u8Mo u8Wa u8De))))))))))) → lv_has ls 10 [(0, .ref xh), (1, .int 0), (3, .int p3)] → W p l e rmX2_weighed_0 s m args below meth c H locs 0 0 Q (F0 m 17 ls []) := by
    clear h
    intro h H locs ls hw hl
    unfold f_X2_weighed_0_B17 at h
    refine lv_aload_n hx hb dX2_weighed_17 rfl (lv_at hl 0 rfl) ?_
    refine va_get (ci := 2) (v := .ref xaA) (C := RX2) (T := TX2) (N := 1) hx hb hts hinX2 hown hK.1 hw.1 0 rfl rfl 0 (by decide) q_1 (fun _ h9 => h9) rfl dX2_weighed_18 ?_
    refine lv_iload_n hx hb dX2_weighed_21 rfl (lv_at hl 1 rfl) ?_
    refine k_aald hx hb hK hw 1 3 (j := 0) (a' := t0) rfl rfl rfl (by unfold vp_in; decide) rfl dX2_weighed_22 ?_
    refine lv_iload_n hx hb dX2_weighed_23 rfl (lv_at hl 2 rfl) ?_
    obtain ⟨r_1, hf, h⟩ := b1_inv h
    refine k_callS (b := 0) (C := "") (host := "") fx hK hA hw (c_X2_worth l D k t0 u0rNa u0rMo u0rWa u0rDe _ u0Pe u0Da u0Dr u0Na u0Mo u0Wa u0De p3 r_1 hf) (va_cwS 2 hts gX2_weighed_X2_worth rfl rfl rfl (by decide +kernel) ⟨by decide, by decide⟩) (As := [.ref t0, .int p3]) (wr := [(xh, .inr (2, [.ref xaA])), (xaA, .inl (k 3, 9, .inr (.inr (.inr (.inr (rl [t0, t1, t2, t3, t4, t5, t6, t7, t8])))))), (t1, .inr (1, [.int u1Pe, .int u1Da, .int u1Dr, .ref u1rNa, .ref u1rMo, .ref u1rWa, .ref u1rDe])), (u1rNa, .inl (k 0, 5, .inl u1Na)), (u1rMo, .inl (k 0, 5, .inl u1Mo)), (u1rWa, .inl (k 0, 5, .inl u1Wa)), (u1rDe, .inl (k 0, 25, .inl u1De)), (t2, .inr (1, [.int u2Pe, .int u2Da, .int u2Dr, .ref u2rNa, .ref u2rMo, .ref u2rWa, .ref u2rDe])), (u2rNa, .inl (k 0, 5, .inl u2Na)), (u2rMo, .inl (k 0, 5, .inl u2Mo)), (u2rWa, .inl (k 0, 5, .inl u2Wa)), (u2rDe, .inl (k 0, 25, .inl u2De)), (t3, .inr (1, [.int u3Pe, .int u3Da, .int u3Dr, .ref u3rNa, .ref u3rMo, .ref u3rWa, .ref u3rDe])), (u3rNa, .inl (k 0, 5, .inl u3Na)), (u3rMo, .inl (k 0, 5, .inl u3Mo)), (u3rWa, .inl (k 0, 5, .inl u3Wa)), (u3rDe, .inl (k 0, 25, .inl u3De)), (t4, .inr (1, [.int u4Pe, .int u4Da, .int u4Dr, .ref u4rNa, .ref u4rMo, .ref u4rWa, .ref u4rDe])), (u4rNa, .inl (k 0, 5, .inl u4Na)), (u4rMo, .inl (k 0, 5, .inl u4Mo)), (u4rWa, .inl (k 0, 5, .inl u4Wa)), (u4rDe, .inl (k 0, 25, .inl u4De)), (t5, .inr (1, [.int u5Pe, .int u5Da, .int u5Dr, .ref u5rNa, .ref u5rMo, .ref u5rWa, .ref u5rDe])), (u5rNa, .inl (k 0, 5, .inl u5Na)), (u5rMo, .inl (k 0, 5, .inl u5Mo)), (u5rWa, .inl (k 0, 5, .inl u5Wa)), (u5rDe, .inl (k 0, 25, .inl u5De)), (t6, .inr (1, [.int u6Pe, .int u6Da, .int u6Dr, .ref u6rNa, .ref u6rMo, .ref u6rWa, .ref u6rDe])), (u6rNa, .inl (k 0, 5, .inl u6Na)), (u6rMo, .inl (k 0, 5, .inl u6Mo)), (u6rWa, .inl (k 0, 5, .inl u6Wa)), (u6rDe, .inl (k 0, 25, .inl u6De)), (t7, .inr (1, [.int u7Pe, .int u7Da, .int u7Dr, .ref u7rNa, .ref u7rMo, .ref u7rWa, .ref u7rDe])), (u7rNa, .inl (k 0, 5, .inl u7Na)), (u7rMo, .inl (k 0, 5, .inl u7Mo)), (u7rWa, .inl (k 0, 5, .inl u7Wa)), (u7rDe, .inl (k 0, 25, .inl u7De)), (t8, .inr (1, [.int u8Pe, .int u8Da, .int u8Dr, .ref u8rNa, .ref u8rMo, .ref u8rWa, .ref u8rDe])), (u8rNa, .inl (k 0, 5, .inl u8Na)), (u8rMo, .inl (k 0, 5, .inl u8Mo)), (u8rWa, .inl (k 0, 5, .inl u8Wa)), (u8rDe, .inl (k 0, 25, .inl u8De))]) (ws' := wX2 k xh xaA ++ (wOA k xaA t0 t1 t2 t3 t4 t5 t6 t7 t8 ++ (wX1 k t0 u0rNa u0rMo u0rWa u0rDe u0Pe u0Da u0Dr u0Na u0Mo u0Wa u0De ++ (wX1 k t1 u1rNa u1rMo u1rWa u1rDe u1Pe u1Da u1Dr u1Na u1Mo u1Wa u1De ++ (wX1 k t2 u2rNa u2rMo u2rWa u2rDe u2Pe u2Da u2Dr u2Na u2Mo u2Wa u2De ++ (wX1 k t3 u3rNa u3rMo u3rWa u3rDe u3Pe u3Da u3Dr u3Na u3Mo u3Wa u3De ++ (wX1 k t4 u4rNa u4rMo u4rWa u4rDe u4Pe u4Da u4Dr u4Na u4Mo u4Wa u4De ++ (wX1 k t5 u5rNa u5rMo u5rWa u5rDe u5Pe u5Da u5Dr u5Na u5Mo u5Wa u5De ++ (wX1 k t6 u6rNa u6rMo u6rWa u6rDe u6Pe u6Da u6Dr u6Na u6Mo u6Wa u6De ++ (wX1 k t7 u7rNa u7rMo u7rWa u7rDe u7Pe u7Da u7Dr u7Na u7Mo u7Wa u7De ++ (wX1 k t8 u8rNa u8rMo u8rWa u8rDe u8Pe u8Da u8Dr u8Na u8Mo u8Wa u8De))))))))))) [2, 3, 4, 5, 6] [0, 1, 7, 8, 9, 10, 11, 12, 13, 14, 15, 16, 17, 18, 19, 20, 21, 22, 23, 24, 25, 26, 27, 28, 29, 30, 31, 32, 33, 34, 35, 36, 37, 38, 39, 40, 41, 42, 43, 44, 45, 46] [0, 1, 42, 43, 44, 45, 46, 2, 3, 4, 5, 6, 7, 8, 9, 10, 11, 12, 13, 14, 15, 16, 17, 18, 19, 20, 21, 22, 23, 24, 25, 26, 27, 28, 29, 30, 31, 32, 33, 34, 35, 36, 37, 38, 39, 40, 41] rfl rfl (by decide) (by decide) (by decide) rfl (by decide) [] rfl hl.1 rfl (Nat.le_of_ble_eq_true rfl) dX2_weighed_24 ⟨by decide, by decide⟩ (fun H locs (hw : Wd D A s.heap H locs (wX2 k xh xaA ++ (wOA k xaA t0 t1 t2 t3 t4 t5 t6 t7 t8 ++ (wX1 k t0 u0rNa u0rMo u0rWa u0rDe u0Pe u0Da u0Dr u0Na u0Mo u0Wa u0De ++ (wX1 k t1 u1rNa u1rMo u1rWa u1rDe u1Pe u1Da u1Dr u1Na u1Mo u1Wa u1De ++ (wX1 k t2 u2rNa u2rMo u2rWa u2rDe u2Pe u2Da u2Dr u2Na u2Mo u2Wa u2De ++ (wX1 k t3 u3rNa u3rMo u3rWa u3rDe u3Pe u3Da u3Dr u3Na u3Mo u3Wa u3De ++ (wX1 k t4 u4rNa u4rMo u4rWa u4rDe u4Pe u4Da u4Dr u4Na u4Mo u4Wa u4De ++ (wX1 k t5 u5rNa u5rMo u5rWa u5rDe u5Pe u5Da u5Dr u5Na u5Mo u5Wa u5De ++ (wX1 k t6 u6rNa u6rMo u6rWa u6rDe u6Pe u6Da u6Dr u6Na u6Mo u6Wa u6De ++ (wX1 k t7 u7rNa u7rMo u7rWa u7rDe u7Pe u7Da u7Dr u7Na u7Mo u7Wa u7De ++ (wX1 k t8 u8rNa u8rMo u8rWa u8rDe u8Pe u8Da u8Dr u8Na u8Mo u8Wa u8De)))))))))))) => ?_)
    refine W.eq (g2 := F0 m 27 ls ([.long r_1])) rfl ?_
    cases h
    exact k_jlret (j := (fun i => List.getD [u1Pe, u1Da, u1Dr, u2Pe, u2Da, u2Dr, u3Pe, u3Da, u3Dr, u4Pe, u4Da, u4Dr, u5Pe, u5Da, u5Dr, u6Pe, u6Da, u6Dr, u7Pe, u7Da, u7Dr, u8Pe, u8Da, u8Dr] i 0, fun i => List.getD [u1Na, u1Mo, u1Wa, u1De, u2Na, u2Mo, u2Wa, u2De, u3Na, u3Mo, u3Wa, u3De, u4Na, u4Mo, u4Wa, u4De, u5Na, u5Mo, u5Wa, u5De, u6Na, u6Mo, u6Wa, u6De, u7Na, u7Mo, u7Wa, u7De, u8Na, u8Mo, u8Wa, u8De] i (fun _ => 0))) hx hb hr hlocks hw rfl dX2_weighed_27 hQ
  refine kb_icmp_ge (tgt := 17) hx hb dX2_weighed_3 (by decide) h (fun c_3 h => ?_) (fun c_3 h => ?_)
  · exact T_17 h _ _ _ hw (lv_sub hl [0, 1, 3] rfl)
  · refine lv_iload_n hx hb dX2_weighed_6 rfl (lv_at hl 1 rfl) ?_
    refine lv_iconst (v := 1) hx hb dX2_weighed_7 (by decide) ?_
    refine lv_iadd hx hb dX2_weighed_8 ?_
    refine k_lit (y := 1) (by decide) ?_
    refine lv_aload_n hx hb dX2_weighed_9 rfl (lv_at hl 0 rfl) ?_
    refine va_get (ci := 2) (v := .ref xaA) (C := RX2) (T := TX2) (N := 1) hx hb hts hinX2 hown hK.1 hw.1 0 rfl rfl 0 (by decide) q_1 (fun _ h9 => h9) rfl dX2_weighed_10 ?_
    refine va_alen (v := 9) hx hb hK.1 hw.1 1 3 rfl rfl rfl dX2_weighed_13 ?_
    refine lv_icmp_lt (tgt := 28) hx hb dX2_weighed_14 (by decide) (fun _ => ?_) (fun q => absurd (by decide) q)
    refine lv_lconst (v := 0) hx hb dX2_weighed_28 rfl ?_
    refine lv_lstore (lv' := [(5, .long 0), (0, .ref xh), (1, .int 0), (2, .int p2), (3, .int p3), (4, .int p4)]) hx hb dX2_weighed_29 hl (by decide) rfl (fun ls hl => ?_)
    refine lv_aload_n hx hb dX2_weighed_31 rfl (lv_at hl 1 rfl) ?_
    refine va_get (ci := 2) (v := .ref xaA) (C := RX2) (T := TX2) (N := 1) hx hb hts hinX2 hown hK.1 hw.1 0 rfl rfl 0 (by decide) q_1 (fun _ h9 => h9) rfl dX2_weighed_32 ?_
    refine lv_iload_n hx hb dX2_weighed_35 rfl (lv_at hl 2 rfl) ?_
    refine lv_iconst (v := 1) hx hb dX2_weighed_36 (by decide) ?_
    refine lv_iadd hx hb dX2_weighed_37 ?_
    refine k_lit (y := 1) (by decide) ?_
    refine k_aald hx hb hK hw 1 3 (j := 1) (a' := t1) rfl rfl rfl (by unfold vp_in; decide) rfl dX2_weighed_38 ?_
    refine lv_astore (lv' := [(7, .ref t1), (5, .long 0), (0, .ref xh), (1, .int 0), (2, .int p2), (3, .int p3), (4, .int p4)]) hx hb dX2_weighed_39 hl (by decide) rfl (fun ls hl => ?_)
    refine lv_iconst (v := 0) hx hb dX2_weighed_41 (by decide) ?_
    refine lv_istore (lv' := [(8, .int 0), (7, .ref t1), (5, .long 0), (0, .ref xh), (1, .int 0), (2, .int p2), (3, .int p3), (4, .int p4)]) hx hb dX2_weighed_42 hl (by decide) rfl (fun ls hl => ?_)
    obtain ⟨v5_60, hL_44, h⟩ := b1_inv h
    have X_44 : ∀ (u1Pe_61 : Int32) (u1Da_62 : Int32) (u1Dr_63 : Int32) (u1Na_64 : (Nat → Int32)) (u1Mo_65 : (Nat → Int32)) (u1Wa_66 : (Nat → Int32)) (u1De_67 : (Nat → Int32)) (u2Pe_68 : Int32) (u2Da_69 : Int32) (u2Dr_70 : Int32) (u2Na_71 : (Nat → Int32)) (u2Mo_72 : (Nat → Int32)) (u2Wa_73 : (Nat → Int32)) (u2De_74 : (Nat → Int32)) (u3Pe_75 : Int32) (u3Da_76 : Int32) (u3Dr_77 : Int32) (u3Na_78 : (Nat → Int32)) (u3Mo_79 : (Nat → Int32)) (u3Wa_80 : (Nat → Int32)) (u3De_81 : (Nat → Int32)) (u4Pe_82 : Int32) (u4Da_83 : Int32) (u4Dr_84 : Int32) (u4Na_85 : (Nat → Int32)) (u4Mo_86 : (Nat → Int32)) (u4Wa_87 : (Nat → Int32)) (u4De_88 : (Nat → Int32)) (u5Pe_89 : Int32) (u5Da_90 : Int32) (u5Dr_91 : Int32) (u5Na_92 : (Nat → Int32)) (u5Mo_93 : (Nat → Int32)) (u5Wa_94 : (Nat → Int32)) (u5De_95 : (Nat → Int32)) (u6Pe_96 : Int32) (u6Da_97 : Int32) (u6Dr_98 : Int32) (u6Na_99 : (Nat → Int32)) (u6Mo_100 : (Nat → Int32)) (u6Wa_101 : (Nat → Int32)) (u6De_102 : (Nat → Int32)) (u7Pe_103 : Int32) (u7Da_104 : Int32) (u7Dr_105 : Int32) (u7Na_106 : (Nat → Int32)) (u7Mo_107 : (Nat → Int32)) (u7Wa_108 : (Nat → Int32)) (u7De_109 : (Nat → Int32)) (u8Pe_110 : Int32) (u8Da_111 : Int32) (u8Dr_112 : Int32) (u8Na_113 : (Nat → Int32)) (u8Mo_114 : (Nat → Int32)) (u8Wa_115 : (Nat → Int32)) (u8De_116 : (Nat → Int32)) (H : Heap) (locs : List Loc) (ls : Array Slot), Wd D A s.heap H locs (wX2 k xh xaA ++ (wOA k xaA t0 t1 t2 t3 t4 t5 t6 t7 t8 ++ (wX1 k t0 u0rNa u0rMo u0rWa u0rDe u0Pe u0Da u0Dr u0Na u0Mo u0Wa u0De ++ (wX1 k t1 u1rNa u1rMo u1rWa u1rDe u1Pe_61 u1Da_62 u1Dr_63 u1Na_64 u1Mo_65 u1Wa_66 u1De_67 ++ (wX1 k t2 u2rNa u2rMo u2rWa u2rDe u2Pe_68 u2Da_69 u2Dr_70 u2Na_71 u2Mo_72 u2Wa_73 u2De_74 ++ (wX1 k t3 u3rNa u3rMo u3rWa u3rDe u3Pe_75 u3Da_76 u3Dr_77 u3Na_78 u3Mo_79 u3Wa_80 u3De_81 ++ (wX1 k t4 u4rNa u4rMo u4rWa u4rDe u4Pe_82 u4Da_83 u4Dr_84 u4Na_85 u4Mo_86 u4Wa_87 u4De_88 ++ (wX1 k t5 u5rNa u5rMo u5rWa u5rDe u5Pe_89 u5Da_90 u5Dr_91 u5Na_92 u5Mo_93 u5Wa_94 u5De_95 ++ (wX1 k t6 u6rNa u6rMo u6rWa u6rDe u6Pe_96 u6Da_97 u6Dr_98 u6Na_99 u6Mo_100 u6Wa_101 u6De_102 ++ (wX1 k t7 u7rNa u7rMo u7rWa u7rDe u7Pe_103 u7Da_104 u7Dr_105 u7Na_106 u7Mo_107 u7Wa_108 u7De_109 ++ (wX1 k t8 u8rNa u8rMo u8rWa u8rDe u8Pe_110 u8Da_111 u8Dr_112 u8Na_113 u8Mo_114 u8Wa_115 u8De_116))))))))))) → lv_has ls 10 [(5, .long v5_60)] → W p l e rmX2_weighed_0 s m args below meth c H locs 0 0 Q (F0 m 128 ls []) := by
      intro u1Pe_61 u1Da_62 u1Dr_63 u1Na_64 u1Mo_65 u1Wa_66 u1De_67 u2Pe_68 u2Da_69 u2Dr_70 u2Na_71 u2Mo_72 u2Wa_73 u2De_74 u3Pe_75 u3Da_76 u3Dr_77 u3Na_78 u3Mo_79 u3Wa_80 u3De_81 u4Pe_82 u4Da_83 u4Dr_84 u4Na_85 u4Mo_86 u4Wa_87 u4De_88 u5Pe_89 u5Da_90 u5Dr_91 u5Na_92 u5Mo_93 u5Wa_94 u5De_95 u6Pe_96 u6Da_97 u6Dr_98 u6Na_99 u6Mo_100 u6Wa_101 u6De_102 u7Pe_103 u7Da_104 u7Dr_105 u7Na_106 u7Mo_107 u7Wa_108 u7De_109 u8Pe_110 u8Da_111 u8Dr_112 u8Na_113 u8Mo_114 u8Wa_115 u8De_116 H locs ls hw hl
      refine lv_lload hx hb dX2_weighed_128 (lv_at hl 0 rfl) ?_
      cases h
      exact k_jlret (j := (fun i => List.getD [u1Pe_61, u1Da_62, u1Dr_63, u2Pe_68, u2Da_69, u2Dr_70, u3Pe_75, u3Da_76, u3Dr_77, u4Pe_82, u4Da_83, u4Dr_84, u5Pe_89, u5Da_90, u5Dr_91, u6Pe_96, u6Da_97, u6Dr_98, u7Pe_103, u7Da_104, u7Dr_105, u8Pe_110, u8Da_111, u8Dr_112] i 0, fun i => List.getD [u1Na_64, u1Mo_65, u1Wa_66, u1De_67, u2Na_71, u2Mo_72, u2Wa_73, u2De_74, u3Na_78, u3Mo_79, u3Wa_80, u3De_81, u4Na_85, u4Mo_86, u4Wa_87, u4De_88, u5Na_92, u5Mo_93, u5Wa_94, u5De_95, u6Na_99, u6Mo_100, u6Wa_101, u6De_102, u7Na_106, u7Mo_107, u7Wa_108, u7De_109, u8Na_113, u8Mo_114, u8Wa_115, u8De_116] i (fun _ => 0))) hx hb hr hlocks hw rfl dX2_weighed_130 hQ
    clear h
    have LP_44 : ∀ (n : Nat) (v5_2 : Int64) (v8_3 : Int32), f_X2_weighed_0_L44 u0Pe u0Da u0Dr u0Na u0Mo u0Wa u0De p2 p3 p4 n v5_2 v8_3 = some v5_60 → ∀ (u1Pe_4 : Int32) (u1Da_5 : Int32) (u1Dr_6 : Int32) (u1Na_7 : (Nat → Int32)) (u1Mo_8 : (Nat → Int32)) (u1Wa_9 : (Nat → Int32)) (u1De_10 : (Nat → Int32)) (u2Pe_11 : Int32) (u2Da_12 : Int32) (u2Dr_13 : Int32) (u2Na_14 : (Nat → Int32)) (u2Mo_15 : (Nat → Int32)) (u2Wa_16 : (Nat → Int32)) (u2De_17 : (Nat → Int32)) (u3Pe_18 : Int32) (u3Da_19 : Int32) (u3Dr_20 : Int32) (u3Na_21 : (Nat → Int32)) (u3Mo_22 : (Nat → Int32)) (u3Wa_23 : (Nat → Int32)) (u3De_24 : (Nat → Int32)) (u4Pe_25 : Int32) (u4Da_26 : Int32) (u4Dr_27 : Int32) (u4Na_28 : (Nat → Int32)) (u4Mo_29 : (Nat → Int32)) (u4Wa_30 : (Nat → Int32)) (u4De_31 : (Nat → Int32)) (u5Pe_32 : Int32) (u5Da_33 : Int32) (u5Dr_34 : Int32) (u5Na_35 : (Nat → Int32)) (u5Mo_36 : (Nat → Int32)) (u5Wa_37 : (Nat → Int32)) (u5De_38 : (Nat → Int32)) (u6Pe_39 : Int32) (u6Da_40 : Int32) (u6Dr_41 : Int32) (u6Na_42 : (Nat → Int32)) (u6Mo_43 : (Nat → Int32)) (u6Wa_44 : (Nat → Int32)) (u6De_45 : (Nat → Int32)) (u7Pe_46 : Int32) (u7Da_47 : Int32) (u7Dr_48 : Int32) (u7Na_49 : (Nat → Int32)) (u7Mo_50 : (Nat → Int32)) (u7Wa_51 : (Nat → Int32)) (u7De_52 : (Nat → Int32)) (u8Pe_53 : Int32) (u8Da_54 : Int32) (u8Dr_55 : Int32) (u8Na_56 : (Nat → Int32)) (u8Mo_57 : (Nat → Int32)) (u8Wa_58 : (Nat → Int32)) (u8De_59 : (Nat → Int32)) (H : Heap) (locs : List Loc) (ls : Array Slot), Wd D A s.heap H locs (wX2 k xh xaA ++ (wOA k xaA t0 t1 t2 t3 t4 t5 t6 t7 t8 ++ (wX1 k t0 u0rNa u0rMo u0rWa u0rDe u0Pe u0Da u0Dr u0Na u0Mo u0Wa u0De ++ (wX1 k t1 u1rNa u1rMo u1rWa u1rDe u1Pe_4 u1Da_5 u1Dr_6 u1Na_7 u1Mo_8 u1Wa_9 u1De_10 ++ (wX1 k t2 u2rNa u2rMo u2rWa u2rDe u2Pe_11 u2Da_12 u2Dr_13 u2Na_14 u2Mo_15 u2Wa_16 u2De_17 ++ (wX1 k t3 u3rNa u3rMo u3rWa u3rDe u3Pe_18 u3Da_19 u3Dr_20 u3Na_21 u3Mo_22 u3Wa_23 u3De_24 ++ (wX1 k t4 u4rNa u4rMo u4rWa u4rDe u4Pe_25 u4Da_26 u4Dr_27 u4Na_28 u4Mo_29 u4Wa_30 u4De_31 ++ (wX1 k t5 u5rNa u5rMo u5rWa u5rDe u5Pe_32 u5Da_33 u5Dr_34 u5Na_35 u5Mo_36 u5Wa_37 u5De_38 ++ (wX1 k t6 u6rNa u6rMo u6rWa u6rDe u6Pe_39 u6Da_40 u6Dr_41 u6Na_42 u6Mo_43 u6Wa_44 u6De_45 ++ (wX1 k t7 u7rNa u7rMo u7rWa u7rDe u7Pe_46 u7Da_47 u7Dr_48 u7Na_49 u7Mo_50 u7Wa_51 u7De_52 ++ (wX1 k t8 u8rNa u8rMo u8rWa u8rDe u8Pe_53 u8Da_54 u8Dr_55 u8Na_56 u8Mo_57 u8Wa_58 u8De_59))))))))))) → lv_has ls 10 [(0, .ref xh), (1, .int 0), (2, .int p2), (3, .int p3), (4, .int p4), (5, .long v5_2), (7, .ref t1), (8, .int v8_3)] → W p l e rmX2_weighed_0 s m args below meth c H locs 0 0 Q (F0 m 44 ls []) := by
      clear hL_44 hw hl
      intro n
      induction n with
      | zero => intro v5_2 v8_3 h; rw [f_X2_weighed_0_L44] at h; cases h
      | succ n ih =>
        intro v5_2 v8_3 h u1Pe_4 u1Da_5 u1Dr_6 u1Na_7 u1Mo_8 u1Wa_9 u1De_10 u2Pe_11 u2Da_12 u2Dr_13 u2Na_14 u2Mo_15 u2Wa_16 u2De_17 u3Pe_18 u3Da_19 u3Dr_20 u3Na_21 u3Mo_22 u3Wa_23 u3De_24 u4Pe_25 u4Da_26 u4Dr_27 u4Na_28 u4Mo_29 u4Wa_30 u4De_31 u5Pe_32 u5Da_33 u5Dr_34 u5Na_35 u5Mo_36 u5Wa_37 u5De_38 u6Pe_39 u6Da_40 u6Dr_41 u6Na_42 u6Mo_43 u6Wa_44 u6De_45 u7Pe_46 u7Da_47 u7Dr_48 u7Na_49 u7Mo_50 u7Wa_51 u7De_52 u8Pe_53 u8Da_54 u8Dr_55 u8Na_56 u8Mo_57 u8Wa_58 u8De_59 H locs ls hw hl
        rw [f_X2_weighed_0_L44] at h
        refine lv_iload hx hb dX2_weighed_44 (lv_at hl 7 rfl) ?_
        refine lv_iconst (v := 2) hx hb dX2_weighed_46 (by decide) ?_
        refine kb_icmp_ge (tgt := 128) hx hb dX2_weighed_47 (by decide) h (fun c_47 h => ?_) (fun c_47 h => ?_)
        · cases h
          exact X_44 _ _ _ _ _ _ _ _ _ _ _ _ _ _ _ _ _ _ _ _ _ _ _ _ _ _ _ _ _ _ _ _ _ _ _ _ _ _ _ _ _ _ _ _ _ _ _ _ _ _ _ _ _ _ _ _ _ _ _ hw (lv_sub hl [5] rfl)
        · refine lv_iload hx hb dX2_weighed_50 (lv_at hl 7 rfl) ?_
          obtain ⟨t_117, hj_52, h⟩ := b1_inv h
          have J_52 : ∀ (H : Heap) (locs : List Loc) (ls : Array Slot), Wd D A s.heap H locs (wX2 k xh xaA ++ (wOA k xaA t0 t1 t2 t3 t4 t5 t6 t7 t8 ++ (wX1 k t0 u0rNa u0rMo u0rWa u0rDe u0Pe u0Da u0Dr u0Na u0Mo u0Wa u0De ++ (wX1 k t1 u1rNa u1rMo u1rWa u1rDe u1Pe_4 u1Da_5 u1Dr_6 u1Na_7 u1Mo_8 u1Wa_9 u1De_10 ++ (wX1 k t2 u2rNa u2rMo u2rWa u2rDe u2Pe_11 u2Da_12 u2Dr_13 u2Na_14 u2Mo_15 u2Wa_16 u2De_17 ++ (wX1 k t3 u3rNa u3rMo u3rWa u3rDe u3Pe_18 u3Da_19 u3Dr_20 u3Na_21 u3Mo_22 u3Wa_23 u3De_24 ++ (wX1 k t4 u4rNa u4rMo u4rWa u4rDe u4Pe_25 u4Da_26 u4Dr_27 u4Na_28 u4Mo_29 u4Wa_30 u4De_31 ++ (wX1 k t5 u5rNa u5rMo u5rWa u5rDe u5Pe_32 u5Da_33 u5Dr_34 u5Na_35 u5Mo_36 u5Wa_37 u5De_38 ++ (wX1 k t6 u6rNa u6rMo u6rWa u6rDe u6Pe_39 u6Da_40 u6Dr_41 u6Na_42 u6Mo_43 u6Wa_44 u6De_45 ++ (wX1 k t7 u7rNa u7rMo u7rWa u7rDe u7Pe_46 u7Da_47 u7Dr_48 u7Na_49 u7Mo_50 u7Wa_51 u7De_52 ++ (wX1 k t8 u8rNa u8rMo u8rWa u8rDe u8Pe_53 u8Da_54 u8Dr_55 u8Na_56 u8Mo_57 u8Wa_58 u8De_59))))))))))) → lv_has ls 10 [(0, .ref xh), (1, .int 0), (2, .int p2), (3, .int p3), (4, .int p4), (5, .long v5_2), (7, .ref t1), (8, .int v8_3)] → W p l e rmX2_weighed_0 s m args below meth c H locs 0 0 Q (F0 m 63 ls [.int t_117]) := by
            intro H locs ls hw hl
            refine lv_istore (lv' := [(9, .int t_117), (0, .ref xh), (1, .int 0), (2, .int p2), (3, .int p3), (4, .int p4), (5, .long v5_2), (7, .ref t1), (8, .int v8_3)]) hx hb dX2_weighed_63 hl (by decide) rfl (fun ls hl => ?_)
            refine lv_iload hx hb dX2_weighed_65 (lv_at hl 0 rfl) ?_
            refine kb_if_le (tgt := 122) hx hb dX2_weighed_67 (by decide) h (fun c_67 h => ?_) (fun c_67 h => ?_)
            · refine lv_iinc (v := v8_3 + 1) (lv' := [(8, .int (v8_3 + 1)), (9, .int t_117), (0, .ref xh), (1, .int 0), (2, .int p2), (3, .int p3), (4, .int p4), (5, .long v5_2), (7, .ref t1)]) hx hb dX2_weighed_122 hl (k := 8) rfl rfl (by decide) rfl (fun ls hl => ?_)
              refine lv_goto (tgt := 44) hx hb dX2_weighed_125 (by decide) ?_
              exact ih _ _ h _ _ _ _ _ _ _ _ _ _ _ _ _ _ _ _ _ _ _ _ _ _ _ _ _ _ _ _ _ _ _ _ _ _ _ _ _ _ _ _ _ _ _ _ _ _ _ _ _ _ _ _ _ _ _ _ _ _ _ hw (lv_sub hl [2, 3, 4, 5, 6, 7, 8, 0] rfl)
            · refine lv_aload hx hb dX2_weighed_70 (lv_at hl 7 rfl) ?_
              refine lv_aload_n hx hb dX2_weighed_72 rfl (lv_at hl 1 rfl) ?_
              refine va_get (ci := 2) (v := .ref xaA) (C := RX2) (T := TX2) (N := 1) hx hb hts hinX2 hown hK.1 hw.1 0 rfl rfl 0 (by decide) q_1 (fun _ h9 => h9) rfl dX2_weighed_73 ?_
              refine lv_iload_n hx hb dX2_weighed_76 rfl (lv_at hl 2 rfl) ?_
              refine k_aald hx hb hK hw 1 3 (j := 0) (a' := t0) rfl rfl rfl (by unfold vp_in; decide) rfl dX2_weighed_77 ?_
              obtain ⟨u1Pe_118, u1Da_119, u1Dr_120, u1Na_121, u1Mo_122, u1Wa_123, u1De_124, hf, h⟩ := b7_inv h
              refine k_callV (host := "") fx hK hA hw (c_X1_become l D k t1 u1rNa u1rMo u1rWa u1rDe t0 u0rNa u0rMo u0rWa u0rDe _ u1Pe_4 u1Da_5 u1Dr_6 u1Na_7 u1Mo_8 u1Wa_9 u1De_10 u0Pe u0Da u0Dr u0Na u0Mo u0Wa u0De u1Pe_118 u1Da_119 u1Dr_120 u1Na_121 u1Mo_122 u1Wa_123 u1De_124 hf) (cwV 1 hts gX2_weighed_X1_become rfl rfl rfl (by decide +kernel) ⟨by decide, by decide⟩) (As := [.ref t0]) (wr := [(xh, .inr (2, [.ref xaA])), (xaA, .inl (k 3, 9, .inr (.inr (.inr (.inr (rl [t0, t1, t2, t3, t4, t5, t6, t7, t8])))))), (t2, .inr (1, [.int u2Pe_11, .int u2Da_12, .int u2Dr_13, .ref u2rNa, .ref u2rMo, .ref u2rWa, .ref u2rDe])), (u2rNa, .inl (k 0, 5, .inl u2Na_14)), (u2rMo, .inl (k 0, 5, .inl u2Mo_15)), (u2rWa, .inl (k 0, 5, .inl u2Wa_16)), (u2rDe, .inl (k 0, 25, .inl u2De_17)), (t3, .inr (1, [.int u3Pe_18, .int u3Da_19, .int u3Dr_20, .ref u3rNa, .ref u3rMo, .ref u3rWa, .ref u3rDe])), (u3rNa, .inl (k 0, 5, .inl u3Na_21)), (u3rMo, .inl (k 0, 5, .inl u3Mo_22)), (u3rWa, .inl (k 0, 5, .inl u3Wa_23)), (u3rDe, .inl (k 0, 25, .inl u3De_24)), (t4, .inr (1, [.int u4Pe_25, .int u4Da_26, .int u4Dr_27, .ref u4rNa, .ref u4rMo, .ref u4rWa, .ref u4rDe])), (u4rNa, .inl (k 0, 5, .inl u4Na_28)), (u4rMo, .inl (k 0, 5, .inl u4Mo_29)), (u4rWa, .inl (k 0, 5, .inl u4Wa_30)), (u4rDe, .inl (k 0, 25, .inl u4De_31)), (t5, .inr (1, [.int u5Pe_32, .int u5Da_33, .int u5Dr_34, .ref u5rNa, .ref u5rMo, .ref u5rWa, .ref u5rDe])), (u5rNa, .inl (k 0, 5, .inl u5Na_35)), (u5rMo, .inl (k 0, 5, .inl u5Mo_36)), (u5rWa, .inl (k 0, 5, .inl u5Wa_37)), (u5rDe, .inl (k 0, 25, .inl u5De_38)), (t6, .inr (1, [.int u6Pe_39, .int u6Da_40, .int u6Dr_41, .ref u6rNa, .ref u6rMo, .ref u6rWa, .ref u6rDe])), (u6rNa, .inl (k 0, 5, .inl u6Na_42)), (u6rMo, .inl (k 0, 5, .inl u6Mo_43)), (u6rWa, .inl (k 0, 5, .inl u6Wa_44)), (u6rDe, .inl (k 0, 25, .inl u6De_45)), (t7, .inr (1, [.int u7Pe_46, .int u7Da_47, .int u7Dr_48, .ref u7rNa, .ref u7rMo, .ref u7rWa, .ref u7rDe])), (u7rNa, .inl (k 0, 5, .inl u7Na_49)), (u7rMo, .inl (k 0, 5, .inl u7Mo_50)), (u7rWa, .inl (k 0, 5, .inl u7Wa_51)), (u7rDe, .inl (k 0, 25, .inl u7De_52)), (t8, .inr (1, [.int u8Pe_53, .int u8Da_54, .int u8Dr_55, .ref u8rNa, .ref u8rMo, .ref u8rWa, .ref u8rDe])), (u8rNa, .inl (k 0, 5, .inl u8Na_56)), (u8rMo, .inl (k 0, 5, .inl u8Mo_57)), (u8rWa, .inl (k 0, 5, .inl u8Wa_58)), (u8rDe, .inl (k 0, 25, .inl u8De_59))]) (ws' := wX2 k xh xaA ++ (wOA k xaA t0 t1 t2 t3 t4 t5 t6 t7 t8 ++ (wX1 k t0 u0rNa u0rMo u0rWa u0rDe u0Pe u0Da u0Dr u0Na u0Mo u0Wa u0De ++ (wX1 k t1 u1rNa u1rMo u1rWa u1rDe u1Pe_118 u1Da_119 u1Dr_120 u1Na_121 u1Mo_122 u1Wa_123 u1De_124 ++ (wX1 k t2 u2rNa u2rMo u2rWa u2rDe u2Pe_11 u2Da_12 u2Dr_13 u2Na_14 u2Mo_15 u2Wa_16 u2De_17 ++ (wX1 k t3 u3rNa u3rMo u3rWa u3rDe u3Pe_18 u3Da_19 u3Dr_20 u3Na_21 u3Mo_22 u3Wa_23 u3De_24 ++ (wX1 k t4 u4rNa u4rMo u4rWa u4rDe u4Pe_25 u4Da_26 u4Dr_27 u4Na_28 u4Mo_29 u4Wa_30 u4De_31 ++ (wX1 k t5 u5rNa u5rMo u5rWa u5rDe u5Pe_32 u5Da_33 u5Dr_34 u5Na_35 u5Mo_36 u5Wa_37 u5De_38 ++ (wX1 k t6 u6rNa u6rMo u6rWa u6rDe u6Pe_39 u6Da_40 u6Dr_41 u6Na_42 u6Mo_43 u6Wa_44 u6De_45 ++ (wX1 k t7 u7rNa u7rMo u7rWa u7rDe u7Pe_46 u7Da_47 u7Dr_48 u7Na_49 u7Mo_50 u7Wa_51 u7De_52 ++ (wX1 k t8 u8rNa u8rMo u8rWa u8rDe u8Pe_53 u8Da_54 u8Dr_55 u8Na_56 u8Mo_57 u8Wa_58 u8De_59))))))))))) [7, 8, 9, 10, 11, 2, 3, 4, 5, 6] [0, 1, 12, 13, 14, 15, 16, 17, 18, 19, 20, 21, 22, 23, 24, 25, 26, 27, 28, 29, 30, 31, 32, 33, 34, 35, 36, 37, 38, 39, 40, 41, 42, 43, 44, 45, 46] [0, 1, 42, 43, 44, 45, 46, 37, 38, 39, 40, 41, 2, 3, 4, 5, 6, 7, 8, 9, 10, 11, 12, 13, 14, 15, 16, 17, 18, 19, 20, 21, 22, 23, 24, 25, 26, 27, 28, 29, 30, 31, 32, 33, 34, 35, 36] rfl rfl (by decide) (by decide) (by decide) rfl (by decide) 1 rfl rfl [] rfl hl.1 rfl (Nat.le_of_ble_eq_true rfl) dX2_weighed_78 ⟨by decide, by decide⟩ (fun H locs (hw : Wd D A s.heap H locs (wX2 k xh xaA ++ (wOA k xaA t0 t1 t2 t3 t4 t5 t6 t7 t8 ++ (wX1 k t0 u0rNa u0rMo u0rWa u0rDe u0Pe u0Da u0Dr u0Na u0Mo u0Wa u0De ++ (wX1 k t1 u1rNa u1rMo u1rWa u1rDe u1Pe_118 u1Da_119 u1Dr_120 u1Na_121 u1Mo_122 u1Wa_123 u1De_124 ++ (wX1 k t2 u2rNa u2rMo u2rWa u2rDe u2Pe_11 u2Da_12 u2Dr_13 u2Na_14 u2Mo_15 u2Wa_16 u2De_17 ++ (wX1 k t3 u3rNa u3rMo u3rWa u3rDe u3Pe_18 u3Da_19 u3Dr_20 u3Na_21 u3Mo_22 u3Wa_23 u3De_24 ++ (wX1 k t4 u4rNa u4rMo u4rWa u4rDe u4Pe_25 u4Da_26 u4Dr_27 u4Na_28 u4Mo_29 u4Wa_30 u4De_31 ++ (wX1 k t5 u5rNa u5rMo u5rWa u5rDe u5Pe_32 u5Da_33 u5Dr_34 u5Na_35 u5Mo_36 u5Wa_37 u5De_38 ++ (wX1 k t6 u6rNa u6rMo u6rWa u6rDe u6Pe_39 u6Da_40 u6Dr_41 u6Na_42 u6Mo_43 u6Wa_44 u6De_45 ++ (wX1 k t7 u7rNa u7rMo u7rWa u7rDe u7Pe_46 u7Da_47 u7Dr_48 u7Na_49 u7Mo_50 u7Wa_51 u7De_52 ++ (wX1 k t8 u8rNa u8rMo u8rWa u8rDe u8Pe_53 u8Da_54 u8Dr_55 u8Na_56 u8Mo_57 u8Wa_58 u8De_59)))))))))))) => ?_)
              refine W.eq (g2 := F0 m 81 ls ([])) rfl ?_
              refine lv_aload hx hb dX2_weighed_81 (lv_at hl 7 rfl) ?_
              refine lv_iload hx hb dX2_weighed_83 (lv_at hl 8 rfl) ?_
              obtain ⟨t_125, hj_85, h⟩ := b1_inv h
              have J_85 : ∀ (H : Heap) (locs : List Loc) (ls : Array Slot), Wd D A s.heap H locs (wX2 k xh xaA ++ (wOA k xaA t0 t1 t2 t3 t4 t5 t6 t7 t8 ++ (wX1 k t0 u0rNa u0rMo u0rWa u0rDe u0Pe u0Da u0Dr u0Na u0Mo u0Wa u0De ++ (wX1 k t1 u1rNa u1rMo u1rWa u1rDe u1Pe_118 u1Da_119 u1Dr_120 u1Na_121 u1Mo_122 u1Wa_123 u1De_124 ++ (wX1 k t2 u2rNa u2rMo u2rWa u2rDe u2Pe_11 u2Da_12 u2Dr_13 u2Na_14 u2Mo_15 u2Wa_16 u2De_17 ++ (wX1 k t3 u3rNa u3rMo u3rWa u3rDe u3Pe_18 u3Da_19 u3Dr_20 u3Na_21 u3Mo_22 u3Wa_23 u3De_24 ++ (wX1 k t4 u4rNa u4rMo u4rWa u4rDe u4Pe_25 u4Da_26 u4Dr_27 u4Na_28 u4Mo_29 u4Wa_30 u4De_31 ++ (wX1 k t5 u5rNa u5rMo u5rWa u5rDe u5Pe_32 u5Da_33 u5Dr_34 u5Na_35 u5Mo_36 u5Wa_37 u5De_38 ++ (wX1 k t6 u6rNa u6rMo u6rWa u6rDe u6Pe_39 u6Da_40 u6Dr_41 u6Na_42 u6Mo_43 u6Wa_44 u6De_45 ++ (wX1 k t7 u7rNa u7rMo u7rWa u7rDe u7Pe_46 u7Da_47 u7Dr_48 u7Na_49 u7Mo_50 u7Wa_51 u7De_52 ++ (wX1 k t8 u8rNa u8rMo u8rWa u8rDe u8Pe_53 u8Da_54 u8Dr_55 u8Na_56 u8Mo_57 u8Wa_58 u8De_59))))))))))) → lv_has ls 10 [(0, .ref xh), (1, .int 0), (2, .int p2), (3, .int p3), (4, .int p4), (5, .long v5_2), (7, .ref t1), (8, .int v8_3), (9, .int t_117)] → W p l e rmX2_weighed_0 s m args below meth c H locs 0 0 Q (F0 m 98 ls [.int t_125, .ref t1]) := by
                intro H locs ls hw hl
                obtain ⟨r_126, u1Da_127, u1Mo_128, u1De_129, hf, h⟩ := b4_inv h
                refine k_callV (host := "") fx hK hA hw (c_X1_runDay l D k t1 u1rNa u1rMo u1rWa u1rDe _ u1Pe_118 u1Da_119 u1Dr_120 u1Na_121 u1Mo_122 u1Wa_123 u1De_124 t_125 r_126 u1Da_127 u1Mo_128 u1De_129 hf) (cwV 1 hts gX2_weighed_X1_runDay rfl rfl rfl (by decide +kernel) ⟨by decide, by decide⟩) (As := [.int t_125]) (wr := [(xh, .inr (2, [.ref xaA])), (xaA, .inl (k 3, 9, .inr (.inr (.inr (.inr (rl [t0, t1, t2, t3, t4, t5, t6, t7, t8])))))), (t0, .inr (1, [.int u0Pe, .int u0Da, .int u0Dr, .ref u0rNa, .ref u0rMo, .ref u0rWa, .ref u0rDe])), (u0rNa, .inl (k 0, 5, .inl u0Na)), (u0rMo, .inl (k 0, 5, .inl u0Mo)), (u0rWa, .inl (k 0, 5, .inl u0Wa)), (u0rDe, .inl (k 0, 25, .inl u0De)), (t2, .inr (1, [.int u2Pe_11, .int u2Da_12, .int u2Dr_13, .ref u2rNa, .ref u2rMo, .ref u2rWa, .ref u2rDe])), (u2rNa, .inl (k 0, 5, .inl u2Na_14)), (u2rMo, .inl (k 0, 5, .inl u2Mo_15)), (u2rWa, .inl (k 0, 5, .inl u2Wa_16)), (u2rDe, .inl (k 0, 25, .inl u2De_17)), (t3, .inr (1, [.int u3Pe_18, .int u3Da_19, .int u3Dr_20, .ref u3rNa, .ref u3rMo, .ref u3rWa, .ref u3rDe])), (u3rNa, .inl (k 0, 5, .inl u3Na_21)), (u3rMo, .inl (k 0, 5, .inl u3Mo_22)), (u3rWa, .inl (k 0, 5, .inl u3Wa_23)), (u3rDe, .inl (k 0, 25, .inl u3De_24)), (t4, .inr (1, [.int u4Pe_25, .int u4Da_26, .int u4Dr_27, .ref u4rNa, .ref u4rMo, .ref u4rWa, .ref u4rDe])), (u4rNa, .inl (k 0, 5, .inl u4Na_28)), (u4rMo, .inl (k 0, 5, .inl u4Mo_29)), (u4rWa, .inl (k 0, 5, .inl u4Wa_30)), (u4rDe, .inl (k 0, 25, .inl u4De_31)), (t5, .inr (1, [.int u5Pe_32, .int u5Da_33, .int u5Dr_34, .ref u5rNa, .ref u5rMo, .ref u5rWa, .ref u5rDe])), (u5rNa, .inl (k 0, 5, .inl u5Na_35)), (u5rMo, .inl (k 0, 5, .inl u5Mo_36)), (u5rWa, .inl (k 0, 5, .inl u5Wa_37)), (u5rDe, .inl (k 0, 25, .inl u5De_38)), (t6, .inr (1, [.int u6Pe_39, .int u6Da_40, .int u6Dr_41, .ref u6rNa, .ref u6rMo, .ref u6rWa, .ref u6rDe])), (u6rNa, .inl (k 0, 5, .inl u6Na_42)), (u6rMo, .inl (k 0, 5, .inl u6Mo_43)), (u6rWa, .inl (k 0, 5, .inl u6Wa_44)), (u6rDe, .inl (k 0, 25, .inl u6De_45)), (t7, .inr (1, [.int u7Pe_46, .int u7Da_47, .int u7Dr_48, .ref u7rNa, .ref u7rMo, .ref u7rWa, .ref u7rDe])), (u7rNa, .inl (k 0, 5, .inl u7Na_49)), (u7rMo, .inl (k 0, 5, .inl u7Mo_50)), (u7rWa, .inl (k 0, 5, .inl u7Wa_51)), (u7rDe, .inl (k 0, 25, .inl u7De_52)), (t8, .inr (1, [.int u8Pe_53, .int u8Da_54, .int u8Dr_55, .ref u8rNa, .ref u8rMo, .ref u8rWa, .ref u8rDe])), (u8rNa, .inl (k 0, 5, .inl u8Na_56)), (u8rMo, .inl (k 0, 5, .inl u8Mo_57)), (u8rWa, .inl (k 0, 5, .inl u8Wa_58)), (u8rDe, .inl (k 0, 25, .inl u8De_59))]) (ws' := wX2 k xh xaA ++ (wOA k xaA t0 t1 t2 t3 t4 t5 t6 t7 t8 ++ (wX1 k t0 u0rNa u0rMo u0rWa u0rDe u0Pe u0Da u0Dr u0Na u0Mo u0Wa u0De ++ (wX1 k t1 u1rNa u1rMo u1rWa u1rDe u1Pe_118 u1Da_127 u1Dr_120 u1Na_121 u1Mo_128 u1Wa_123 u1De_129 ++ (wX1 k t2 u2rNa u2rMo u2rWa u2rDe u2Pe_11 u2Da_12 u2Dr_13 u2Na_14 u2Mo_15 u2Wa_16 u2De_17 ++ (wX1 k t3 u3rNa u3rMo u3rWa u3rDe u3Pe_18 u3Da_19 u3Dr_20 u3Na_21 u3Mo_22 u3Wa_23 u3De_24 ++ (wX1 k t4 u4rNa u4rMo u4rWa u4rDe u4Pe_25 u4Da_26 u4Dr_27 u4Na_28 u4Mo_29 u4Wa_30 u4De_31 ++ (wX1 k t5 u5rNa u5rMo u5rWa u5rDe u5Pe_32 u5Da_33 u5Dr_34 u5Na_35 u5Mo_36 u5Wa_37 u5De_38 ++ (wX1 k t6 u6rNa u6rMo u6rWa u6rDe u6Pe_39 u6Da_40 u6Dr_41 u6Na_42 u6Mo_43 u6Wa_44 u6De_45 ++ (wX1 k t7 u7rNa u7rMo u7rWa u7rDe u7Pe_46 u7Da_47 u7Dr_48 u7Na_49 u7Mo_50 u7Wa_51 u7De_52 ++ (wX1 k t8 u8rNa u8rMo u8rWa u8rDe u8Pe_53 u8Da_54 u8Dr_55 u8Na_56 u8Mo_57 u8Wa_58 u8De_59))))))))))) [7, 8, 9, 10, 11] [0, 1, 2, 3, 4, 5, 6, 12, 13, 14, 15, 16, 17, 18, 19, 20, 21, 22, 23, 24, 25, 26, 27, 28, 29, 30, 31, 32, 33, 34, 35, 36, 37, 38, 39, 40, 41, 42, 43, 44, 45, 46] [0, 1, 2, 3, 4, 5, 6, 42, 43, 44, 45, 46, 7, 8, 9, 10, 11, 12, 13, 14, 15, 16, 17, 18, 19, 20, 21, 22, 23, 24, 25, 26, 27, 28, 29, 30, 31, 32, 33, 34, 35, 36, 37, 38, 39, 40, 41] rfl rfl (by decide) (by decide) (by decide) rfl (by decide) 1 rfl rfl [] rfl hl.1 rfl (Nat.le_of_ble_eq_true rfl) dX2_weighed_98 ⟨by decide, by decide⟩ (fun H locs (hw : Wd D A s.heap H locs (wX2 k xh xaA ++ (wOA k xaA t0 t1 t2 t3 t4 t5 t6 t7 t8 ++ (wX1 k t0 u0rNa u0rMo u0rWa u0rDe u0Pe u0Da u0Dr u0Na u0Mo u0Wa u0De ++ (wX1 k t1 u1rNa u1rMo u1rWa u1rDe u1Pe_118 u1Da_127 u1Dr_120 u1Na_121 u1Mo_128 u1Wa_123 u1De_129 ++ (wX1 k t2 u2rNa u2rMo u2rWa u2rDe u2Pe_11 u2Da_12 u2Dr_13 u2Na_14 u2Mo_15 u2Wa_16 u2De_17 ++ (wX1 k t3 u3rNa u3rMo u3rWa u3rDe u3Pe_18 u3Da_19 u3Dr_20 u3Na_21 u3Mo_22 u3Wa_23 u3De_24 ++ (wX1 k t4 u4rNa u4rMo u4rWa u4rDe u4Pe_25 u4Da_26 u4Dr_27 u4Na_28 u4Mo_29 u4Wa_30 u4De_31 ++ (wX1 k t5 u5rNa u5rMo u5rWa u5rDe u5Pe_32 u5Da_33 u5Dr_34 u5Na_35 u5Mo_36 u5Wa_37 u5De_38 ++ (wX1 k t6 u6rNa u6rMo u6rWa u6rDe u6Pe_39 u6Da_40 u6Dr_41 u6Na_42 u6Mo_43 u6Wa_44 u6De_45 ++ (wX1 k t7 u7rNa u7rMo u7rWa u7rDe u7Pe_46 u7Da_47 u7Dr_48 u7Na_49 u7Mo_50 u7Wa_51 u7De_52 ++ (wX1 k t8 u8rNa u8rMo u8rWa u8rDe u8Pe_53 u8Da_54 u8Dr_55 u8Na_56 u8Mo_57 u8Wa_58 u8De_59)))))))))))) => ?_)
                refine W.eq (g2 := F0 m 101 ls ([.int r_126])) rfl ?_
                refine lv_pop hx hb dX2_weighed_101 rfl ?_
                refine lv_lload hx hb dX2_weighed_102 (lv_at hl 5 rfl) ?_
                refine lv_iload hx hb dX2_weighed_104 (lv_at hl 8 rfl) ?_
                refine lv_i2l hx hb dX2_weighed_106 rfl ?_
                refine lv_aload_n hx hb dX2_weighed_107 rfl (lv_at hl 0 rfl) ?_
                refine lv_iload_n hx hb dX2_weighed_108 rfl (lv_at hl 1 rfl) ?_
                refine lv_iconst (v := 1) hx hb dX2_weighed_109 (by decide) ?_
                refine lv_iadd hx hb dX2_weighed_110 ?_
                refine k_lit (y := 1) (by decide) ?_
                refine lv_iload_n hx hb dX2_weighed_111 rfl (lv_at hl 2 rfl) ?_
                refine lv_iload_n hx hb dX2_weighed_112 rfl (lv_at hl 3 rfl) ?_
                refine lv_iload hx hb dX2_weighed_113 (lv_at hl 4 rfl) ?_
                obtain ⟨r_130, hf, h⟩ := b1_inv h
                refine k_callVJ fx hK hA hw (c_X2_weighed_1 l D k xh xaA t0 t1 t2 t3 t4 t5 t6 t7 t8 u0rNa u0rMo u0rWa u0rDe u1rNa u1rMo u1rWa u1rDe u2rNa u2rMo u2rWa u2rDe u3rNa u3rMo u3rWa u3rDe u4rNa u4rMo u4rWa u4rDe u5rNa u5rMo u5rWa u5rDe u6rNa u6rMo u6rWa u6rDe u7rNa u7rMo u7rWa u7rDe u8rNa u8rMo u8rWa u8rDe _ u0Pe u0Da u0Dr u0Na u0Mo u0Wa u0De u1Pe_118 u1Da_127 u1Dr_120 u1Na_121 u1Mo_128 u1Wa_123 u1De_129 u2Pe_11 u2Da_12 u2Dr_13 u2Na_14 u2Mo_15 u2Wa_16 u2De_17 u3Pe_18 u3Da_19 u3Dr_20 u3Na_21 u3Mo_22 u3Wa_23 u3De_24 u4Pe_25 u4Da_26 u4Dr_27 u4Na_28 u4Mo_29 u4Wa_30 u4De_31 u5Pe_32 u5Da_33 u5Dr_34 u5Na_35 u5Mo_36 u5Wa_37 u5De_38 u6Pe_39 u6Da_40 u6Dr_41 u6Na_42 u6Mo_43 u6Wa_44 u6De_45 u7Pe_46 u7Da_47 u7Dr_48 u7Na_49 u7Mo_50 u7Wa_51 u7De_52 u8Pe_53 u8Da_54 u8Dr_55 u8Na_56 u8Mo_57 u8Wa_58 u8De_59 p2 p3 p4 r_130 hf) (cwV 4 hts gX2_weighed_X2_weighed rfl rfl rfl (by decide +kernel) ⟨by decide, by decide⟩) (As := [.int 1, .int p2, .int p3, .int p4]) (wr := []) (ws' := fun j_131 => wX2 k xh xaA ++ (wOA k xaA t0 t1 t2 t3 t4 t5 t6 t7 t8 ++ (wX1 k t0 u0rNa u0rMo u0rWa u0rDe u0Pe u0Da u0Dr u0Na u0Mo u0Wa u0De ++ (wX1 k t1 u1rNa u1rMo u1rWa u1rDe u1Pe_118 u1Da_127 u1Dr_120 u1Na_121 u1Mo_128 u1Wa_123 u1De_129 ++ (wX1 k t2 u2rNa u2rMo u2rWa u2rDe (j_131.1 0) (j_131.1 1) (j_131.1 2) (j_131.2 0) (j_131.2 1) (j_131.2 2) (j_131.2 3) ++ (wX1 k t3 u3rNa u3rMo u3rWa u3rDe (j_131.1 3) (j_131.1 4) (j_131.1 5) (j_131.2 4) (j_131.2 5) (j_131.2 6) (j_131.2 7) ++ (wX1 k t4 u4rNa u4rMo u4rWa u4rDe (j_131.1 6) (j_131.1 7) (j_131.1 8) (j_131.2 8) (j_131.2 9) (j_131.2 10) (j_131.2 11) ++ (wX1 k t5 u5rNa u5rMo u5rWa u5rDe (j_131.1 9) (j_131.1 10) (j_131.1 11) (j_131.2 12) (j_131.2 13) (j_131.2 14) (j_131.2 15) ++ (wX1 k t6 u6rNa u6rMo u6rWa u6rDe (j_131.1 12) (j_131.1 13) (j_131.1 14) (j_131.2 16) (j_131.2 17) (j_131.2 18) (j_131.2 19) ++ (wX1 k t7 u7rNa u7rMo u7rWa u7rDe (j_131.1 15) (j_131.1 16) (j_131.1 17) (j_131.2 20) (j_131.2 21) (j_131.2 22) (j_131.2 23) ++ (wX1 k t8 u8rNa u8rMo u8rWa u8rDe (j_131.1 18) (j_131.1 19) (j_131.1 20) (j_131.2 24) (j_131.2 25) (j_131.2 26) (j_131.2 27)))))))))))) [0, 1, 2, 3, 4, 5, 6, 7, 8, 9, 10, 11, 12, 13, 14, 15, 16, 17, 18, 19, 20, 21, 22, 23, 24, 25, 26, 27, 28, 29, 30, 31, 32, 33, 34, 35, 36, 37, 38, 39, 40, 41, 42, 43, 44, 45, 46] [] [0, 1, 2, 3, 4, 5, 6, 7, 8, 9, 10, 11, 12, 13, 14, 15, 16, 17, 18, 19, 20, 21, 22, 23, 24, 25, 26, 27, 28, 29, 30, 31, 32, 33, 34, 35, 36, 37, 38, 39, 40, 41, 42, 43, 44, 45, 46] rfl rfl (by decide) (by decide) (by decide) (fun _ => rfl) (by decide) 2 rfl rfl [.long t_117.toInt64, .long v5_2] rfl hl.1 rfl (Nat.le_of_ble_eq_true rfl) dX2_weighed_115 ⟨by decide, by decide⟩ (fun j_131 H locs (hw : Wd D A s.heap H locs (wX2 k xh xaA ++ (wOA k xaA t0 t1 t2 t3 t4 t5 t6 t7 t8 ++ (wX1 k t0 u0rNa u0rMo u0rWa u0rDe u0Pe u0Da u0Dr u0Na u0Mo u0Wa u0De ++ (wX1 k t1 u1rNa u1rMo u1rWa u1rDe u1Pe_118 u1Da_127 u1Dr_120 u1Na_121 u1Mo_128 u1Wa_123 u1De_129 ++ (wX1 k t2 u2rNa u2rMo u2rWa u2rDe (j_131.1 0) (j_131.1 1) (j_131.1 2) (j_131.2 0) (j_131.2 1) (j_131.2 2) (j_131.2 3) ++ (wX1 k t3 u3rNa u3rMo u3rWa u3rDe (j_131.1 3) (j_131.1 4) (j_131.1 5) (j_131.2 4) (j_131.2 5) (j_131.2 6) (j_131.2 7) ++ (wX1 k t4 u4rNa u4rMo u4rWa u4rDe (j_131.1 6) (j_131.1 7) (j_131.1 8) (j_131.2 8) (j_131.2 9) (j_131.2 10) (j_131.2 11) ++ (wX1 k t5 u5rNa u5rMo u5rWa u5rDe (j_131.1 9) (j_131.1 10) (j_131.1 11) (j_131.2 12) (j_131.2 13) (j_131.2 14) (j_131.2 15) ++ (wX1 k t6 u6rNa u6rMo u6rWa u6rDe (j_131.1 12) (j_131.1 13) (j_131.1 14) (j_131.2 16) (j_131.2 17) (j_131.2 18) (j_131.2 19) ++ (wX1 k t7 u7rNa u7rMo u7rWa u7rDe (j_131.1 15) (j_131.1 16) (j_131.1 17) (j_131.2 20) (j_131.2 21) (j_131.2 22) (j_131.2 23) ++ (wX1 k t8 u8rNa u8rMo u8rWa u8rDe (j_131.1 18) (j_131.1 19) (j_131.1 20) (j_131.2 24) (j_131.2 25) (j_131.2 26) (j_131.2 27))))))))))))) => ?_)
                refine W.eq (g2 := F0 m 118 ls ([.long r_130, .long t_117.toInt64, .long v5_2])) rfl ?_
                refine lv_lmul hx hb dX2_weighed_118 ?_
                refine lv_ladd hx hb dX2_weighed_119 ?_
                refine lv_lstore (lv' := [(5, .long (v5_2 + (t_117.toInt64 * r_130))), (0, .ref xh), (1, .int 0), (2, .int p2), (3, .int p3), (4, .int p4), (7, .ref t1), (8, .int v8_3), (9, .int t_117)]) hx hb dX2_weighed_120 hl (by decide) rfl (fun ls hl => ?_)
                refine lv_iinc (v := v8_3 + 1) (lv' := [(8, .int (v8_3 + 1)), (5, .long (v5_2 + (t_117.toInt64 * r_130))), (0, .ref xh), (1, .int 0), (2, .int p2), (3, .int p3), (4, .int p4), (7, .ref t1), (9, .int t_117)]) hx hb dX2_weighed_122 hl (k := 7) rfl rfl (by decide) rfl (fun ls hl => ?_)
                refine lv_goto (tgt := 44) hx hb dX2_weighed_125 (by decide) ?_
                exact ih _ _ h _ _ _ _ _ _ _ _ _ _ _ _ _ _ _ _ _ _ _ _ _ _ _ _ _ _ _ _ _ _ _ _ _ _ _ _ _ _ _ _ _ _ _ _ _ _ _ _ _ _ _ _ _ _ _ _ _ _ _ hw (lv_sub hl [2, 3, 4, 5, 6, 1, 7, 0] rfl)
              clear h
              have h := hj_85
              refine kb_if_ne (tgt := 93) hx hb dX2_weighed_85 (by decide) h (fun c_85 h => ?_) (fun c_85 h => ?_)
              · refine lv_bipush (v := 9) hx hb dX2_weighed_88 (by decide) ?_
                refine lv_goto (tgt := 98) hx hb dX2_weighed_90 (by decide) ?_
                cases h
                exact J_85 _ _ _ hw (lv_sub hl [1, 2, 3, 4, 5, 6, 7, 8, 0] rfl)
              · refine lv_aload hx hb dX2_weighed_93 (lv_at hl 7 rfl) ?_
                refine va_get (ci := 1) (v := .int u1Dr_120) (C := RX1) (T := TX1) (N := 7) hx hb hts hinX1 hown hK.1 hw.1 7 rfl rfl 2 (by decide) q_2 (fun _ h9 => h9) rfl dX2_weighed_95 ?_
                cases h
                exact J_85 _ _ _ hw (lv_sub hl [1, 2, 3, 4, 5, 6, 7, 8, 0] rfl)
          clear h
          have h := hj_52
          refine kb_if_ne (tgt := 59) hx hb dX2_weighed_52 (by decide) h (fun c_52 h => ?_) (fun c_52 h => ?_)
          · refine lv_iload_n hx hb dX2_weighed_55 rfl (lv_at hl 2 rfl) ?_
            refine lv_goto (tgt := 63) hx hb dX2_weighed_56 (by decide) ?_
            cases h
            exact J_52 _ _ _ hw (lv_sub hl [0, 1, 2, 3, 4, 5, 6, 7] rfl)
          · refine lv_bipush (v := 10) hx hb dX2_weighed_59 (by decide) ?_
            refine lv_iload_n hx hb dX2_weighed_61 rfl (lv_at hl 2 rfl) ?_
            refine lv_isub hx hb dX2_weighed_62 ?_
            cases h
            exact J_52 _ _ _ hw (lv_sub hl [0, 1, 2, 3, 4, 5, 6, 7] rfl)
    exact LP_44 400 0 0 hL_44 _ _ _ _ _ _ _ _ _ _ _ _ _ _ _ _ _ _ _ _ _ _ _ _ _ _ _ _ _ _ _ _ _ _ _ _ _ _ _ _ _ _ _ _ _ _ _ _ _ _ _ _ _ _ _ _ _ _ _ hw (lv_sub hl [3, 4, 5, 6, 7, 2, 1, 0] rfl)
abbrev rmX2_fractionOf : Room := { frames := 12, cells := 0, slots := 0, locals := 327 }
set_option maxHeartbeats 4000000 in
set_option maxRecDepth 100000 in
theorem c_X2_fractionOf (l : Launch) (D : va_G) (k : Nat → ClassId) (xh xaA t0 t1 t2 t3 t4 t5 t6 t7 t8 u0rNa u0rMo u0rWa u0rDe u1rNa u1rMo u1rWa u1rDe u2rNa u2rMo u2rWa u2rDe u3rNa u3rMo u3rWa u3rDe u4rNa u4rMo u4rWa u4rDe u5rNa u5rMo u5rWa u5rDe u6rNa u6rMo u6rWa u6rDe u7rNa u7rMo u7rWa u7rDe u8rNa u8rMo u8rWa u8rDe nh nrNa nrMo nrWa nrDe : Nat) (sz : Nat) (u0Pe : Int32) (u0Da : Int32) (u0Dr : Int32) (u0Na : (Nat → Int32)) (u0Mo : (Nat → Int32)) (u0Wa : (Nat → Int32)) (u0De : (Nat → Int32)) (u1Pe : Int32) (u1Da : Int32) (u1Dr : Int32) (u1Na : (Nat → Int32)) (u1Mo : (Nat → Int32)) (u1Wa : (Nat → Int32)) (u1De : (Nat → Int32)) (u2Pe : Int32) (u2Da : Int32) (u2Dr : Int32) (u2Na : (Nat → Int32)) (u2Mo : (Nat → Int32)) (u2Wa : (Nat → Int32)) (u2De : (Nat → Int32)) (u3Pe : Int32) (u3Da : Int32) (u3Dr : Int32) (u3Na : (Nat → Int32)) (u3Mo : (Nat → Int32)) (u3Wa : (Nat → Int32)) (u3De : (Nat → Int32)) (u4Pe : Int32) (u4Da : Int32) (u4Dr : Int32) (u4Na : (Nat → Int32)) (u4Mo : (Nat → Int32)) (u4Wa : (Nat → Int32)) (u4De : (Nat → Int32)) (u5Pe : Int32) (u5Da : Int32) (u5Dr : Int32) (u5Na : (Nat → Int32)) (u5Mo : (Nat → Int32)) (u5Wa : (Nat → Int32)) (u5De : (Nat → Int32)) (u6Pe : Int32) (u6Da : Int32) (u6Dr : Int32) (u6Na : (Nat → Int32)) (u6Mo : (Nat → Int32)) (u6Wa : (Nat → Int32)) (u6De : (Nat → Int32)) (u7Pe : Int32) (u7Da : Int32) (u7Dr : Int32) (u7Na : (Nat → Int32)) (u7Mo : (Nat → Int32)) (u7Wa : (Nat → Int32)) (u7De : (Nat → Int32)) (u8Pe : Int32) (u8Da : Int32) (u8Dr : Int32) (u8Na : (Nat → Int32)) (u8Mo : (Nat → Int32)) (u8Wa : (Nat → Int32)) (u8De : (Nat → Int32)) (nPe : Int32) (nDa : Int32) (nDr : Int32) (nNa : (Nat → Int32)) (nMo : (Nat → Int32)) (nWa : (Nat → Int32)) (nDe : (Nat → Int32)) (p2 : Int32) (p3 : Int32) (p4 : Int32) (p5 : Int32) (r_ : Int64) (hf : f_X2_fractionOf nPe nDa nDr nNa nMo nWa nDe p2 p3 p4 p5 = some r_) : mJ l yX2_fractionOf wsX2_fractionOf rmX2_fractionOf D k sz [.ref xh, .ref nh, .int p2, .int p3, .int p4, .int p5] (wX2 k xh xaA ++ (wOA k xaA t0 t1 t2 t3 t4 t5 t6 t7 t8 ++ (wX1 k t0 u0rNa u0rMo u0rWa u0rDe u0Pe u0Da u0Dr u0Na u0Mo u0Wa u0De ++ (wX1 k t1 u1rNa u1rMo u1rWa u1rDe u1Pe u1Da u1Dr u1Na u1Mo u1Wa u1De ++ (wX1 k t2 u2rNa u2rMo u2rWa u2rDe u2Pe u2Da u2Dr u2Na u2Mo u2Wa u2De ++ (wX1 k t3 u3rNa u3rMo u3rWa u3rDe u3Pe u3Da u3Dr u3Na u3Mo u3Wa u3De ++ (wX1 k t4 u4rNa u4rMo u4rWa u4rDe u4Pe u4Da u4Dr u4Na u4Mo u4Wa u4De ++ (wX1 k t5 u5rNa u5rMo u5rWa u5rDe u5Pe u5Da u5Dr u5Na u5Mo u5Wa u5De ++ (wX1 k t6 u6rNa u6rMo u6rWa u6rDe u6Pe u6Da u6Dr u6Na u6Mo u6Wa u6De ++ (wX1 k t7 u7rNa u7rMo u7rWa u7rDe u7Pe u7Da u7Dr u7Na u7Mo u7Wa u7De ++ (wX1 k t8 u8rNa u8rMo u8rWa u8rDe u8Pe u8Da u8Dr u8Na u8Mo u8Wa u8De ++ (wX1 k nh nrNa nrMo nrWa nrDe nPe nDa nDr nNa nMo nWa nDe)))))))))))) (fun j => wX2 k xh xaA ++ (wOA k xaA t0 t1 t2 t3 t4 t5 t6 t7 t8 ++ (wX1 k t0 u0rNa u0rMo u0rWa u0rDe (j.1 0) (j.1 1) (j.1 2) (j.2 0) (j.2 1) (j.2 2) (j.2 3) ++ (wX1 k t1 u1rNa u1rMo u1rWa u1rDe (j.1 3) (j.1 4) (j.1 5) (j.2 4) (j.2 5) (j.2 6) (j.2 7) ++ (wX1 k t2 u2rNa u2rMo u2rWa u2rDe (j.1 6) (j.1 7) (j.1 8) (j.2 8) (j.2 9) (j.2 10) (j.2 11) ++ (wX1 k t3 u3rNa u3rMo u3rWa u3rDe (j.1 9) (j.1 10) (j.1 11) (j.2 12) (j.2 13) (j.2 14) (j.2 15) ++ (wX1 k t4 u4rNa u4rMo u4rWa u4rDe (j.1 12) (j.1 13) (j.1 14) (j.2 16) (j.2 17) (j.2 18) (j.2 19) ++ (wX1 k t5 u5rNa u5rMo u5rWa u5rDe (j.1 15) (j.1 16) (j.1 17) (j.2 20) (j.2 21) (j.2 22) (j.2 23) ++ (wX1 k t6 u6rNa u6rMo u6rWa u6rDe (j.1 18) (j.1 19) (j.1 20) (j.2 24) (j.2 25) (j.2 26) (j.2 27) ++ (wX1 k t7 u7rNa u7rMo u7rWa u7rDe (j.1 21) (j.1 22) (j.1 23) (j.2 28) (j.2 29) (j.2 30) (j.2 31) ++ (wX1 k t8 u8rNa u8rMo u8rWa u8rDe (j.1 24) (j.1 25) (j.1 26) (j.2 32) (j.2 33) (j.2 34) (j.2 35) ++ (wX1 k nh nrNa nrMo nrWa nrDe nPe nDa nDr nNa nMo nWa nDe)))))))))))) (some (.long r_)) := by
  refine mJ_of (cc := cX2_fractionOf) (maxL := 12) (ret := some .long) (by decide) rfl (Nat.le_of_ble_eq_true rfl) [(0, .ref xh), (1, .ref nh), (2, .int p2), (3, .int p3), (4, .int p4), (5, .int p5)] rfl ?_
  intro p e s m below meth c A ls args Q cx hK hA hw hl hQ
  have fx := cx.1
  obtain ⟨⟨hx, hb, hml, hown, hts⟩, hr, hlocks⟩ := cx
  have hinX2 : ∀ w ∈ wsX20, w ∈ wsX2_fractionOf := fun w h => List.mem_cons_of_mem _ (List.mem_append_left _ (List.mem_append_right _ h))
  have q_1 := hts (.fieldLink RX2 11 "DebtRides$Odds" "steps" "[LDebtRides$Land;") (List.mem_of_getElem? (i := 1) rfl)
  have q_2 := hts (.constantLong RX2 26 (10)) (List.mem_of_getElem? (i := 2) rfl)
  have q_3 := hts (.methodLink RX2 32 Lib.MathLoose.max_long.x) (List.mem_of_getElem? (i := 3) rfl)
  have q_4 := hts (.static Lib.MathLoose.max_long.x) (List.mem_of_getElem? (i := 4) rfl)
  have q_5 := hts (.initialized "java/lang/Math") (List.mem_of_getElem? (i := 5) rfl)
  have q_6 := hts (.code Lib.MathLoose.max_long.x Lib.MathLoose.max_long.code 4 (some .long)) (List.mem_of_getElem? (i := 6) rfl)
  have h := hf
  unfold f_X2_fractionOf at h
  clear hf
  refine lv_aload_n hx hb dX2_fractionOf_0 rfl (lv_at hl 0 rfl) ?_
  refine va_get (ci := 2) (v := .ref xaA) (C := RX2) (T := TX2) (N := 1) hx hb hts hinX2 hown hK.1 hw.1 0 rfl rfl 0 (by decide) q_1 (fun _ h9 => h9) rfl dX2_fractionOf_1 ?_
  refine lv_iconst (v := 0) hx hb dX2_fractionOf_4 (by decide) ?_
  refine k_aald hx hb hK hw 1 3 (j := 0) (a' := t0) rfl rfl rfl (by unfold vp_in; decide) rfl dX2_fractionOf_5 ?_
  refine lv_aload_n hx hb dX2_fractionOf_6 rfl (lv_at hl 1 rfl) ?_
  obtain ⟨u0Pe_1, u0Da_2, u0Dr_3, u0Na_4, u0Mo_5, u0Wa_6, u0De_7, hf, h⟩ := b7_inv h
  refine k_callV (host := "") fx hK hA hw (c_X1_become l D k t0 u0rNa u0rMo u0rWa u0rDe nh nrNa nrMo nrWa nrDe _ u0Pe u0Da u0Dr u0Na u0Mo u0Wa u0De nPe nDa nDr nNa nMo nWa nDe u0Pe_1 u0Da_2 u0Dr_3 u0Na_4 u0Mo_5 u0Wa_6 u0De_7 hf) (cwV 1 hts gX2_fractionOf_X1_become rfl rfl rfl (by decide +kernel) ⟨by decide, by decide⟩) (As := [.ref nh]) (wr := [(xh, .inr (2, [.ref xaA])), (xaA, .inl (k 3, 9, .inr (.inr (.inr (.inr (rl [t0, t1, t2, t3, t4, t5, t6, t7, t8])))))), (t1, .inr (1, [.int u1Pe, .int u1Da, .int u1Dr, .ref u1rNa, .ref u1rMo, .ref u1rWa, .ref u1rDe])), (u1rNa, .inl (k 0, 5, .inl u1Na)), (u1rMo, .inl (k 0, 5, .inl u1Mo)), (u1rWa, .inl (k 0, 5, .inl u1Wa)), (u1rDe, .inl (k 0, 25, .inl u1De)), (t2, .inr (1, [.int u2Pe, .int u2Da, .int u2Dr, .ref u2rNa, .ref u2rMo, .ref u2rWa, .ref u2rDe])), (u2rNa, .inl (k 0, 5, .inl u2Na)), (u2rMo, .inl (k 0, 5, .inl u2Mo)), (u2rWa, .inl (k 0, 5, .inl u2Wa)), (u2rDe, .inl (k 0, 25, .inl u2De)), (t3, .inr (1, [.int u3Pe, .int u3Da, .int u3Dr, .ref u3rNa, .ref u3rMo, .ref u3rWa, .ref u3rDe])), (u3rNa, .inl (k 0, 5, .inl u3Na)), (u3rMo, .inl (k 0, 5, .inl u3Mo)), (u3rWa, .inl (k 0, 5, .inl u3Wa)), (u3rDe, .inl (k 0, 25, .inl u3De)), (t4, .inr (1, [.int u4Pe, .int u4Da, .int u4Dr, .ref u4rNa, .ref u4rMo, .ref u4rWa, .ref u4rDe])), (u4rNa, .inl (k 0, 5, .inl u4Na)), (u4rMo, .inl (k 0, 5, .inl u4Mo)), (u4rWa, .inl (k 0, 5, .inl u4Wa)), (u4rDe, .inl (k 0, 25, .inl u4De)), (t5, .inr (1, [.int u5Pe, .int u5Da, .int u5Dr, .ref u5rNa, .ref u5rMo, .ref u5rWa, .ref u5rDe])), (u5rNa, .inl (k 0, 5, .inl u5Na)), (u5rMo, .inl (k 0, 5, .inl u5Mo)), (u5rWa, .inl (k 0, 5, .inl u5Wa)), (u5rDe, .inl (k 0, 25, .inl u5De)), (t6, .inr (1, [.int u6Pe, .int u6Da, .int u6Dr, .ref u6rNa, .ref u6rMo, .ref u6rWa, .ref u6rDe])), (u6rNa, .inl (k 0, 5, .inl u6Na)), (u6rMo, .inl (k 0, 5, .inl u6Mo)), (u6rWa, .inl (k 0, 5, .inl u6Wa)), (u6rDe, .inl (k 0, 25, .inl u6De)), (t7, .inr (1, [.int u7Pe, .int u7Da, .int u7Dr, .ref u7rNa, .ref u7rMo, .ref u7rWa, .ref u7rDe])), (u7rNa, .inl (k 0, 5, .inl u7Na)), (u7rMo, .inl (k 0, 5, .inl u7Mo)), (u7rWa, .inl (k 0, 5, .inl u7Wa)), (u7rDe, .inl (k 0, 25, .inl u7De)), (t8, .inr (1, [.int u8Pe, .int u8Da, .int u8Dr, .ref u8rNa, .ref u8rMo, .ref u8rWa, .ref u8rDe])), (u8rNa, .inl (k 0, 5, .inl u8Na)), (u8rMo, .inl (k 0, 5, .inl u8Mo)), (u8rWa, .inl (k 0, 5, .inl u8Wa)), (u8rDe, .inl (k 0, 25, .inl u8De))]) (ws' := wX2 k xh xaA ++ (wOA k xaA t0 t1 t2 t3 t4 t5 t6 t7 t8 ++ (wX1 k t0 u0rNa u0rMo u0rWa u0rDe u0Pe_1 u0Da_2 u0Dr_3 u0Na_4 u0Mo_5 u0Wa_6 u0De_7 ++ (wX1 k t1 u1rNa u1rMo u1rWa u1rDe u1Pe u1Da u1Dr u1Na u1Mo u1Wa u1De ++ (wX1 k t2 u2rNa u2rMo u2rWa u2rDe u2Pe u2Da u2Dr u2Na u2Mo u2Wa u2De ++ (wX1 k t3 u3rNa u3rMo u3rWa u3rDe u3Pe u3Da u3Dr u3Na u3Mo u3Wa u3De ++ (wX1 k t4 u4rNa u4rMo u4rWa u4rDe u4Pe u4Da u4Dr u4Na u4Mo u4Wa u4De ++ (wX1 k t5 u5rNa u5rMo u5rWa u5rDe u5Pe u5Da u5Dr u5Na u5Mo u5Wa u5De ++ (wX1 k t6 u6rNa u6rMo u6rWa u6rDe u6Pe u6Da u6Dr u6Na u6Mo u6Wa u6De ++ (wX1 k t7 u7rNa u7rMo u7rWa u7rDe u7Pe u7Da u7Dr u7Na u7Mo u7Wa u7De ++ (wX1 k t8 u8rNa u8rMo u8rWa u8rDe u8Pe u8Da u8Dr u8Na u8Mo u8Wa u8De ++ (wX1 k nh nrNa nrMo nrWa nrDe nPe nDa nDr nNa nMo nWa nDe)))))))))))) [2, 3, 4, 5, 6, 47, 48, 49, 50, 51] [0, 1, 7, 8, 9, 10, 11, 12, 13, 14, 15, 16, 17, 18, 19, 20, 21, 22, 23, 24, 25, 26, 27, 28, 29, 30, 31, 32, 33, 34, 35, 36, 37, 38, 39, 40, 41, 42, 43, 44, 45, 46] [0, 1, 42, 43, 44, 45, 46, 2, 3, 4, 5, 6, 7, 8, 9, 10, 11, 12, 13, 14, 15, 16, 17, 18, 19, 20, 21, 22, 23, 24, 25, 26, 27, 28, 29, 30, 31, 32, 33, 34, 35, 36, 37, 38, 39, 40, 41, 47, 48, 49, 50, 51] rfl rfl (by decide) (by decide) (by decide) rfl (by decide) 1 rfl rfl [] rfl hl.1 rfl (Nat.le_of_ble_eq_true rfl) dX2_fractionOf_7 ⟨by decide, by decide⟩ (fun H locs (hw : Wd D A s.heap H locs (wX2 k xh xaA ++ (wOA k xaA t0 t1 t2 t3 t4 t5 t6 t7 t8 ++ (wX1 k t0 u0rNa u0rMo u0rWa u0rDe u0Pe_1 u0Da_2 u0Dr_3 u0Na_4 u0Mo_5 u0Wa_6 u0De_7 ++ (wX1 k t1 u1rNa u1rMo u1rWa u1rDe u1Pe u1Da u1Dr u1Na u1Mo u1Wa u1De ++ (wX1 k t2 u2rNa u2rMo u2rWa u2rDe u2Pe u2Da u2Dr u2Na u2Mo u2Wa u2De ++ (wX1 k t3 u3rNa u3rMo u3rWa u3rDe u3Pe u3Da u3Dr u3Na u3Mo u3Wa u3De ++ (wX1 k t4 u4rNa u4rMo u4rWa u4rDe u4Pe u4Da u4Dr u4Na u4Mo u4Wa u4De ++ (wX1 k t5 u5rNa u5rMo u5rWa u5rDe u5Pe u5Da u5Dr u5Na u5Mo u5Wa u5De ++ (wX1 k t6 u6rNa u6rMo u6rWa u6rDe u6Pe u6Da u6Dr u6Na u6Mo u6Wa u6De ++ (wX1 k t7 u7rNa u7rMo u7rWa u7rDe u7Pe u7Da u7Dr u7Na u7Mo u7Wa u7De ++ (wX1 k t8 u8rNa u8rMo u8rWa u8rDe u8Pe u8Da u8Dr u8Na u8Mo u8Wa u8De ++ (wX1 k nh nrNa nrMo nrWa nrDe nPe nDa nDr nNa nMo nWa nDe))))))))))))) => ?_)
  refine W.eq (g2 := F0 m 10 ls ([])) rfl ?_
  refine lv_aload_n hx hb dX2_fractionOf_10 rfl (lv_at hl 0 rfl) ?_
  refine lv_iconst (v := 0) hx hb dX2_fractionOf_11 (by decide) ?_
  refine lv_iload_n hx hb dX2_fractionOf_12 rfl (lv_at hl 2 rfl) ?_
  refine lv_iload_n hx hb dX2_fractionOf_13 rfl (lv_at hl 3 rfl) ?_
  refine lv_iload hx hb dX2_fractionOf_14 (lv_at hl 4 rfl) ?_
  obtain ⟨r_8, hf, h⟩ := b1_inv h
  refine k_callVJ fx hK hA hw (c_X2_weighed_0 l D k xh xaA t0 t1 t2 t3 t4 t5 t6 t7 t8 u0rNa u0rMo u0rWa u0rDe u1rNa u1rMo u1rWa u1rDe u2rNa u2rMo u2rWa u2rDe u3rNa u3rMo u3rWa u3rDe u4rNa u4rMo u4rWa u4rDe u5rNa u5rMo u5rWa u5rDe u6rNa u6rMo u6rWa u6rDe u7rNa u7rMo u7rWa u7rDe u8rNa u8rMo u8rWa u8rDe _ u0Pe_1 u0Da_2 u0Dr_3 u0Na_4 u0Mo_5 u0Wa_6 u0De_7 u1Pe u1Da u1Dr u1Na u1Mo u1Wa u1De u2Pe u2Da u2Dr u2Na u2Mo u2Wa u2De u3Pe u3Da u3Dr u3Na u3Mo u3Wa u3De u4Pe u4Da u4Dr u4Na u4Mo u4Wa u4De u5Pe u5Da u5Dr u5Na u5Mo u5Wa u5De u6Pe u6Da u6Dr u6Na u6Mo u6Wa u6De u7Pe u7Da u7Dr u7Na u7Mo u7Wa u7De u8Pe u8Da u8Dr u8Na u8Mo u8Wa u8De p2 p3 p4 r_8 hf) (cwV 4 hts gX2_fractionOf_X2_weighed rfl rfl rfl (by decide +kernel) ⟨by decide, by decide⟩) (As := [.int 0, .int p2, .int p3, .int p4]) (wr := [(nh, .inr (1, [.int nPe, .int nDa, .int nDr, .ref nrNa, .ref nrMo, .ref nrWa, .ref nrDe])), (nrNa, .inl (k 0, 5, .inl nNa)), (nrMo, .inl (k 0, 5, .inl nMo)), (nrWa, .inl (k 0, 5, .inl nWa)), (nrDe, .inl (k 0, 25, .inl nDe))]) (ws' := fun j_9 => wX2 k xh xaA ++ (wOA k xaA t0 t1 t2 t3 t4 t5 t6 t7 t8 ++ (wX1 k t0 u0rNa u0rMo u0rWa u0rDe u0Pe_1 u0Da_2 u0Dr_3 u0Na_4 u0Mo_5 u0Wa_6 u0De_7 ++ (wX1 k t1 u1rNa u1rMo u1rWa u1rDe (j_9.1 0) (j_9.1 1) (j_9.1 2) (j_9.2 0) (j_9.2 1) (j_9.2 2) (j_9.2 3) ++ (wX1 k t2 u2rNa u2rMo u2rWa u2rDe (j_9.1 3) (j_9.1 4) (j_9.1 5) (j_9.2 4) (j_9.2 5) (j_9.2 6) (j_9.2 7) ++ (wX1 k t3 u3rNa u3rMo u3rWa u3rDe (j_9.1 6) (j_9.1 7) (j_9.1 8) (j_9.2 8) (j_9.2 9) (j_9.2 10) (j_9.2 11) ++ (wX1 k t4 u4rNa u4rMo u4rWa u4rDe (j_9.1 9) (j_9.1 10) (j_9.1 11) (j_9.2 12) (j_9.2 13) (j_9.2 14) (j_9.2 15) ++ (wX1 k t5 u5rNa u5rMo u5rWa u5rDe (j_9.1 12) (j_9.1 13) (j_9.1 14) (j_9.2 16) (j_9.2 17) (j_9.2 18) (j_9.2 19) ++ (wX1 k t6 u6rNa u6rMo u6rWa u6rDe (j_9.1 15) (j_9.1 16) (j_9.1 17) (j_9.2 20) (j_9.2 21) (j_9.2 22) (j_9.2 23) ++ (wX1 k t7 u7rNa u7rMo u7rWa u7rDe (j_9.1 18) (j_9.1 19) (j_9.1 20) (j_9.2 24) (j_9.2 25) (j_9.2 26) (j_9.2 27) ++ (wX1 k t8 u8rNa u8rMo u8rWa u8rDe (j_9.1 21) (j_9.1 22) (j_9.1 23) (j_9.2 28) (j_9.2 29) (j_9.2 30) (j_9.2 31) ++ (wX1 k nh nrNa nrMo nrWa nrDe nPe nDa nDr nNa nMo nWa nDe)))))))))))) [0, 1, 2, 3, 4, 5, 6, 7, 8, 9, 10, 11, 12, 13, 14, 15, 16, 17, 18, 19, 20, 21, 22, 23, 24, 25, 26, 27, 28, 29, 30, 31, 32, 33, 34, 35, 36, 37, 38, 39, 40, 41, 42, 43, 44, 45, 46] [47, 48, 49, 50, 51] [5, 6, 7, 8, 9, 10, 11, 12, 13, 14, 15, 16, 17, 18, 19, 20, 21, 22, 23, 24, 25, 26, 27, 28, 29, 30, 31, 32, 33, 34, 35, 36, 37, 38, 39, 40, 41, 42, 43, 44, 45, 46, 47, 48, 49, 50, 51, 0, 1, 2, 3, 4] rfl rfl (by decide) (by decide) (by decide) (fun _ => rfl) (by decide) 2 rfl rfl [] rfl hl.1 rfl (Nat.le_of_ble_eq_true rfl) dX2_fractionOf_16 ⟨by decide, by decide⟩ (fun j_9 H locs (hw : Wd D A s.heap H locs (wX2 k xh xaA ++ (wOA k xaA t0 t1 t2 t3 t4 t5 t6 t7 t8 ++ (wX1 k t0 u0rNa u0rMo u0rWa u0rDe u0Pe_1 u0Da_2 u0Dr_3 u0Na_4 u0Mo_5 u0Wa_6 u0De_7 ++ (wX1 k t1 u1rNa u1rMo u1rWa u1rDe (j_9.1 0) (j_9.1 1) (j_9.1 2) (j_9.2 0) (j_9.2 1) (j_9.2 2) (j_9.2 3) ++ (wX1 k t2 u2rNa u2rMo u2rWa u2rDe (j_9.1 3) (j_9.1 4) (j_9.1 5) (j_9.2 4) (j_9.2 5) (j_9.2 6) (j_9.2 7) ++ (wX1 k t3 u3rNa u3rMo u3rWa u3rDe (j_9.1 6) (j_9.1 7) (j_9.1 8) (j_9.2 8) (j_9.2 9) (j_9.2 10) (j_9.2 11) ++ (wX1 k t4 u4rNa u4rMo u4rWa u4rDe (j_9.1 9) (j_9.1 10) (j_9.1 11) (j_9.2 12) (j_9.2 13) (j_9.2 14) (j_9.2 15) ++ (wX1 k t5 u5rNa u5rMo u5rWa u5rDe (j_9.1 12) (j_9.1 13) (j_9.1 14) (j_9.2 16) (j_9.2 17) (j_9.2 18) (j_9.2 19) ++ (wX1 k t6 u6rNa u6rMo u6rWa u6rDe (j_9.1 15) (j_9.1 16) (j_9.1 17) (j_9.2 20) (j_9.2 21) (j_9.2 22) (j_9.2 23) ++ (wX1 k t7 u7rNa u7rMo u7rWa u7rDe (j_9.1 18) (j_9.1 19) (j_9.1 20) (j_9.2 24) (j_9.2 25) (j_9.2 26) (j_9.2 27) ++ (wX1 k t8 u8rNa u8rMo u8rWa u8rDe (j_9.1 21) (j_9.1 22) (j_9.1 23) (j_9.2 28) (j_9.2 29) (j_9.2 30) (j_9.2 31) ++ (wX1 k nh nrNa nrMo nrWa nrDe nPe nDa nDr nNa nMo nWa nDe))))))))))))) => ?_)
  refine W.eq (g2 := F0 m 19 ls ([.long r_8])) rfl ?_
  refine lv_lstore (lv' := [(6, .long r_8), (0, .ref xh), (1, .ref nh), (2, .int p2), (3, .int p3), (4, .int p4), (5, .int p5)]) hx hb dX2_fractionOf_19 hl (by decide) rfl (fun ls hl => ?_)
  refine lv_lconst (v := 1) hx hb dX2_fractionOf_21 rfl ?_
  refine lv_lstore (lv' := [(8, .long 1), (6, .long r_8), (0, .ref xh), (1, .ref nh), (2, .int p2), (3, .int p3), (4, .int p4), (5, .int p5)]) hx hb dX2_fractionOf_22 hl (by decide) rfl (fun ls hl => ?_)
  refine lv_iconst (v := 0) hx hb dX2_fractionOf_24 (by decide) ?_
  refine lv_istore (lv' := [(10, .int 0), (8, .long 1), (6, .long r_8), (0, .ref xh), (1, .ref nh), (2, .int p2), (3, .int p3), (4, .int p4), (5, .int p5)]) hx hb dX2_fractionOf_25 hl (by decide) rfl (fun ls hl => ?_)
  obtain ⟨v8_12, hL_27, h⟩ := b1_inv h
  have X_27 : ∀ (H : Heap) (locs : List Loc) (ls : Array Slot), Wd D A s.heap H locs (wX2 k xh xaA ++ (wOA k xaA t0 t1 t2 t3 t4 t5 t6 t7 t8 ++ (wX1 k t0 u0rNa u0rMo u0rWa u0rDe u0Pe_1 u0Da_2 u0Dr_3 u0Na_4 u0Mo_5 u0Wa_6 u0De_7 ++ (wX1 k t1 u1rNa u1rMo u1rWa u1rDe (j_9.1 0) (j_9.1 1) (j_9.1 2) (j_9.2 0) (j_9.2 1) (j_9.2 2) (j_9.2 3) ++ (wX1 k t2 u2rNa u2rMo u2rWa u2rDe (j_9.1 3) (j_9.1 4) (j_9.1 5) (j_9.2 4) (j_9.2 5) (j_9.2 6) (j_9.2 7) ++ (wX1 k t3 u3rNa u3rMo u3rWa u3rDe (j_9.1 6) (j_9.1 7) (j_9.1 8) (j_9.2 8) (j_9.2 9) (j_9.2 10) (j_9.2 11) ++ (wX1 k t4 u4rNa u4rMo u4rWa u4rDe (j_9.1 9) (j_9.1 10) (j_9.1 11) (j_9.2 12) (j_9.2 13) (j_9.2 14) (j_9.2 15) ++ (wX1 k t5 u5rNa u5rMo u5rWa u5rDe (j_9.1 12) (j_9.1 13) (j_9.1 14) (j_9.2 16) (j_9.2 17) (j_9.2 18) (j_9.2 19) ++ (wX1 k t6 u6rNa u6rMo u6rWa u6rDe (j_9.1 15) (j_9.1 16) (j_9.1 17) (j_9.2 20) (j_9.2 21) (j_9.2 22) (j_9.2 23) ++ (wX1 k t7 u7rNa u7rMo u7rWa u7rDe (j_9.1 18) (j_9.1 19) (j_9.1 20) (j_9.2 24) (j_9.2 25) (j_9.2 26) (j_9.2 27) ++ (wX1 k t8 u8rNa u8rMo u8rWa u8rDe (j_9.1 21) (j_9.1 22) (j_9.1 23) (j_9.2 28) (j_9.2 29) (j_9.2 30) (j_9.2 31) ++ (wX1 k nh nrNa nrMo nrWa nrDe nPe nDa nDr nNa nMo nWa nDe)))))))))))) → lv_has ls 12 [(5, .int p5), (6, .long r_8), (8, .long v8_12)] → W p l e rmX2_fractionOf s m args below meth c H locs 0 0 Q (F0 m 48 ls []) := by
    intro H locs ls hw hl
    refine lv_lconst (v := 1) hx hb dX2_fractionOf_48 rfl ?_
    refine lv_lload hx hb dX2_fractionOf_49 (lv_at hl 2 rfl) ?_
    refine lv_lload hx hb dX2_fractionOf_51 (lv_at hl 1 rfl) ?_
    obtain ⟨r_13, hf, h⟩ := b1_inv h
    refine k_callS (b := 0) (C := "") (host := "") fx hK hA hw (c_X2_commonDivisor l D k _ v8_12 r_8 r_13 hf) (va_cwS 2 hts gX2_fractionOf_X2_commonDivisor rfl rfl rfl (by decide +kernel) ⟨by decide, by decide⟩) (As := [.long v8_12, .long r_8]) (wr := [(xh, .inr (2, [.ref xaA])), (xaA, .inl (k 3, 9, .inr (.inr (.inr (.inr (rl [t0, t1, t2, t3, t4, t5, t6, t7, t8])))))), (t0, .inr (1, [.int u0Pe_1, .int u0Da_2, .int u0Dr_3, .ref u0rNa, .ref u0rMo, .ref u0rWa, .ref u0rDe])), (u0rNa, .inl (k 0, 5, .inl u0Na_4)), (u0rMo, .inl (k 0, 5, .inl u0Mo_5)), (u0rWa, .inl (k 0, 5, .inl u0Wa_6)), (u0rDe, .inl (k 0, 25, .inl u0De_7)), (t1, .inr (1, [.int (j_9.1 0), .int (j_9.1 1), .int (j_9.1 2), .ref u1rNa, .ref u1rMo, .ref u1rWa, .ref u1rDe])), (u1rNa, .inl (k 0, 5, .inl (j_9.2 0))), (u1rMo, .inl (k 0, 5, .inl (j_9.2 1))), (u1rWa, .inl (k 0, 5, .inl (j_9.2 2))), (u1rDe, .inl (k 0, 25, .inl (j_9.2 3))), (t2, .inr (1, [.int (j_9.1 3), .int (j_9.1 4), .int (j_9.1 5), .ref u2rNa, .ref u2rMo, .ref u2rWa, .ref u2rDe])), (u2rNa, .inl (k 0, 5, .inl (j_9.2 4))), (u2rMo, .inl (k 0, 5, .inl (j_9.2 5))), (u2rWa, .inl (k 0, 5, .inl (j_9.2 6))), (u2rDe, .inl (k 0, 25, .inl (j_9.2 7))), (t3, .inr (1, [.int (j_9.1 6), .int (j_9.1 7), .int (j_9.1 8), .ref u3rNa, .ref u3rMo, .ref u3rWa, .ref u3rDe])), (u3rNa, .inl (k 0, 5, .inl (j_9.2 8))), (u3rMo, .inl (k 0, 5, .inl (j_9.2 9))), (u3rWa, .inl (k 0, 5, .inl (j_9.2 10))), (u3rDe, .inl (k 0, 25, .inl (j_9.2 11))), (t4, .inr (1, [.int (j_9.1 9), .int (j_9.1 10), .int (j_9.1 11), .ref u4rNa, .ref u4rMo, .ref u4rWa, .ref u4rDe])), (u4rNa, .inl (k 0, 5, .inl (j_9.2 12))), (u4rMo, .inl (k 0, 5, .inl (j_9.2 13))), (u4rWa, .inl (k 0, 5, .inl (j_9.2 14))), (u4rDe, .inl (k 0, 25, .inl (j_9.2 15))), (t5, .inr (1, [.int (j_9.1 12), .int (j_9.1 13), .int (j_9.1 14), .ref u5rNa, .ref u5rMo, .ref u5rWa, .ref u5rDe])), (u5rNa, .inl (k 0, 5, .inl (j_9.2 16))), (u5rMo, .inl (k 0, 5, .inl (j_9.2 17))), (u5rWa, .inl (k 0, 5, .inl (j_9.2 18))), (u5rDe, .inl (k 0, 25, .inl (j_9.2 19))), (t6, .inr (1, [.int (j_9.1 15), .int (j_9.1 16), .int (j_9.1 17), .ref u6rNa, .ref u6rMo, .ref u6rWa, .ref u6rDe])), (u6rNa, .inl (k 0, 5, .inl (j_9.2 20))), (u6rMo, .inl (k 0, 5, .inl (j_9.2 21))), (u6rWa, .inl (k 0, 5, .inl (j_9.2 22))), (u6rDe, .inl (k 0, 25, .inl (j_9.2 23))), (t7, .inr (1, [.int (j_9.1 18), .int (j_9.1 19), .int (j_9.1 20), .ref u7rNa, .ref u7rMo, .ref u7rWa, .ref u7rDe])), (u7rNa, .inl (k 0, 5, .inl (j_9.2 24))), (u7rMo, .inl (k 0, 5, .inl (j_9.2 25))), (u7rWa, .inl (k 0, 5, .inl (j_9.2 26))), (u7rDe, .inl (k 0, 25, .inl (j_9.2 27))), (t8, .inr (1, [.int (j_9.1 21), .int (j_9.1 22), .int (j_9.1 23), .ref u8rNa, .ref u8rMo, .ref u8rWa, .ref u8rDe])), (u8rNa, .inl (k 0, 5, .inl (j_9.2 28))), (u8rMo, .inl (k 0, 5, .inl (j_9.2 29))), (u8rWa, .inl (k 0, 5, .inl (j_9.2 30))), (u8rDe, .inl (k 0, 25, .inl (j_9.2 31))), (nh, .inr (1, [.int nPe, .int nDa, .int nDr, .ref nrNa, .ref nrMo, .ref nrWa, .ref nrDe])), (nrNa, .inl (k 0, 5, .inl nNa)), (nrMo, .inl (k 0, 5, .inl nMo)), (nrWa, .inl (k 0, 5, .inl nWa)), (nrDe, .inl (k 0, 25, .inl nDe))]) (ws' := wX2 k xh xaA ++ (wOA k xaA t0 t1 t2 t3 t4 t5 t6 t7 t8 ++ (wX1 k t0 u0rNa u0rMo u0rWa u0rDe u0Pe_1 u0Da_2 u0Dr_3 u0Na_4 u0Mo_5 u0Wa_6 u0De_7 ++ (wX1 k t1 u1rNa u1rMo u1rWa u1rDe (j_9.1 0) (j_9.1 1) (j_9.1 2) (j_9.2 0) (j_9.2 1) (j_9.2 2) (j_9.2 3) ++ (wX1 k t2 u2rNa u2rMo u2rWa u2rDe (j_9.1 3) (j_9.1 4) (j_9.1 5) (j_9.2 4) (j_9.2 5) (j_9.2 6) (j_9.2 7) ++ (wX1 k t3 u3rNa u3rMo u3rWa u3rDe (j_9.1 6) (j_9.1 7) (j_9.1 8) (j_9.2 8) (j_9.2 9) (j_9.2 10) (j_9.2 11) ++ (wX1 k t4 u4rNa u4rMo u4rWa u4rDe (j_9.1 9) (j_9.1 10) (j_9.1 11) (j_9.2 12) (j_9.2 13) (j_9.2 14) (j_9.2 15) ++ (wX1 k t5 u5rNa u5rMo u5rWa u5rDe (j_9.1 12) (j_9.1 13) (j_9.1 14) (j_9.2 16) (j_9.2 17) (j_9.2 18) (j_9.2 19) ++ (wX1 k t6 u6rNa u6rMo u6rWa u6rDe (j_9.1 15) (j_9.1 16) (j_9.1 17) (j_9.2 20) (j_9.2 21) (j_9.2 22) (j_9.2 23) ++ (wX1 k t7 u7rNa u7rMo u7rWa u7rDe (j_9.1 18) (j_9.1 19) (j_9.1 20) (j_9.2 24) (j_9.2 25) (j_9.2 26) (j_9.2 27) ++ (wX1 k t8 u8rNa u8rMo u8rWa u8rDe (j_9.1 21) (j_9.1 22) (j_9.1 23) (j_9.2 28) (j_9.2 29) (j_9.2 30) (j_9.2 31) ++ (wX1 k nh nrNa nrMo nrWa nrDe nPe nDa nDr nNa nMo nWa nDe)))))))))))) [] [0, 1, 2, 3, 4, 5, 6, 7, 8, 9, 10, 11, 12, 13, 14, 15, 16, 17, 18, 19, 20, 21, 22, 23, 24, 25, 26, 27, 28, 29, 30, 31, 32, 33, 34, 35, 36, 37, 38, 39, 40, 41, 42, 43, 44, 45, 46, 47, 48, 49, 50, 51] [0, 1, 2, 3, 4, 5, 6, 7, 8, 9, 10, 11, 12, 13, 14, 15, 16, 17, 18, 19, 20, 21, 22, 23, 24, 25, 26, 27, 28, 29, 30, 31, 32, 33, 34, 35, 36, 37, 38, 39, 40, 41, 42, 43, 44, 45, 46, 47, 48, 49, 50, 51] rfl rfl (by decide) (by decide) (by decide) rfl (by decide) [.long 1] rfl hl.1 rfl (Nat.le_of_ble_eq_true rfl) dX2_fractionOf_53 ⟨by decide, by decide⟩ (fun H locs (hw : Wd D A s.heap H locs (wX2 k xh xaA ++ (wOA k xaA t0 t1 t2 t3 t4 t5 t6 t7 t8 ++ (wX1 k t0 u0rNa u0rMo u0rWa u0rDe u0Pe_1 u0Da_2 u0Dr_3 u0Na_4 u0Mo_5 u0Wa_6 u0De_7 ++ (wX1 k t1 u1rNa u1rMo u1rWa u1rDe (j_9.1 0) (j_9.1 1) (j_9.1 2) (j_9.2 0) (j_9.2 1) (j_9.2 2) (j_9.2 3) ++ (wX1 k t2 u2rNa u2rMo u2rWa u2rDe (j_9.1 3) (j_9.1 4) (j_9.1 5) (j_9.2 4) (j_9.2 5) (j_9.2 6) (j_9.2 7) ++ (wX1 k t3 u3rNa u3rMo u3rWa u3rDe (j_9.1 6) (j_9.1 7) (j_9.1 8) (j_9.2 8) (j_9.2 9) (j_9.2 10) (j_9.2 11) ++ (wX1 k t4 u4rNa u4rMo u4rWa u4rDe (j_9.1 9) (j_9.1 10) (j_9.1 11) (j_9.2 12) (j_9.2 13) (j_9.2 14) (j_9.2 15) ++ (wX1 k t5 u5rNa u5rMo u5rWa u5rDe (j_9.1 12) (j_9.1 13) (j_9.1 14) (j_9.2 16) (j_9.2 17) (j_9.2 18) (j_9.2 19) ++ (wX1 k t6 u6rNa u6rMo u6rWa u6rDe (j_9.1 15) (j_9.1 16) (j_9.1 17) (j_9.2 20) (j_9.2 21) (j_9.2 22) (j_9.2 23) ++ (wX1 k t7 u7rNa u7rMo u7rWa u7rDe (j_9.1 18) (j_9.1 19) (j_9.1 20) (j_9.2 24) (j_9.2 25) (j_9.2 26) (j_9.2 27) ++ (wX1 k t8 u8rNa u8rMo u8rWa u8rDe (j_9.1 21) (j_9.1 22) (j_9.1 23) (j_9.2 28) (j_9.2 29) (j_9.2 30) (j_9.2 31) ++ (wX1 k nh nrNa nrMo nrWa nrDe nPe nDa nDr nNa nMo nWa nDe))))))))))))) => ?_)
    refine W.eq (g2 := F0 m 56 ls ([.long r_13, .long 1])) rfl ?_
    refine k_maxl fx hl.1 q_3 q_4 q_5 q_6 (by decide) (Nat.le_of_ble_eq_true rfl) ⟨by decide, by decide⟩ dX2_fractionOf_56 h (fun z_14 h => ?_)
    refine lv_lstore (lv' := [(10, .long z_14), (5, .int p5), (6, .long r_8), (8, .long v8_12)]) hx hb dX2_fractionOf_59 hl (by decide) rfl (fun ls hl => ?_)
    refine lv_iload hx hb dX2_fractionOf_61 (lv_at hl 1 rfl) ?_
    refine kb_if_ne (tgt := 71) hx hb dX2_fractionOf_63 (by decide) h (fun c_63 h => ?_) (fun c_63 h => ?_)
    · refine lv_lload hx hb dX2_fractionOf_66 (lv_at hl 2 rfl) ?_
      refine lv_goto (tgt := 73) hx hb dX2_fractionOf_68 (by decide) ?_
      refine lv_lload hx hb dX2_fractionOf_73 (lv_at hl 0 rfl) ?_
      refine k_ldiv hx hb dX2_fractionOf_75 h (fun h => ?_)
      cases h
      exact k_jlret (j := (fun i => List.getD [u0Pe_1, u0Da_2, u0Dr_3, j_9.1 0, j_9.1 1, j_9.1 2, j_9.1 3, j_9.1 4, j_9.1 5, j_9.1 6, j_9.1 7, j_9.1 8, j_9.1 9, j_9.1 10, j_9.1 11, j_9.1 12, j_9.1 13, j_9.1 14, j_9.1 15, j_9.1 16, j_9.1 17, j_9.1 18, j_9.1 19, j_9.1 20, j_9.1 21, j_9.1 22, j_9.1 23] i 0, fun i => List.getD [u0Na_4, u0Mo_5, u0Wa_6, u0De_7, j_9.2 0, j_9.2 1, j_9.2 2, j_9.2 3, j_9.2 4, j_9.2 5, j_9.2 6, j_9.2 7, j_9.2 8, j_9.2 9, j_9.2 10, j_9.2 11, j_9.2 12, j_9.2 13, j_9.2 14, j_9.2 15, j_9.2 16, j_9.2 17, j_9.2 18, j_9.2 19, j_9.2 20, j_9.2 21, j_9.2 22, j_9.2 23, j_9.2 24, j_9.2 25, j_9.2 26, j_9.2 27, j_9.2 28, j_9.2 29, j_9.2 30, j_9.2 31] i (fun _ => 0))) hx hb hr hlocks hw rfl dX2_fractionOf_76 hQ
    · refine lv_lload hx hb dX2_fractionOf_71 (lv_at hl 3 rfl) ?_
      refine lv_lload hx hb dX2_fractionOf_73 (lv_at hl 0 rfl) ?_
      refine k_ldiv hx hb dX2_fractionOf_75 h (fun h => ?_)
      cases h
      exact k_jlret (j := (fun i => List.getD [u0Pe_1, u0Da_2, u0Dr_3, j_9.1 0, j_9.1 1, j_9.1 2, j_9.1 3, j_9.1 4, j_9.1 5, j_9.1 6, j_9.1 7, j_9.1 8, j_9.1 9, j_9.1 10, j_9.1 11, j_9.1 12, j_9.1 13, j_9.1 14, j_9.1 15, j_9.1 16, j_9.1 17, j_9.1 18, j_9.1 19, j_9.1 20, j_9.1 21, j_9.1 22, j_9.1 23] i 0, fun i => List.getD [u0Na_4, u0Mo_5, u0Wa_6, u0De_7, j_9.2 0, j_9.2 1, j_9.2 2, j_9.2 3, j_9.2 4, j_9.2 5, j_9.2 6, j_9.2 7, j_9.2 8, j_9.2 9, j_9.2 10, j_9.2 11, j_9.2 12, j_9.2 13, j_9.2 14, j_9.2 15, j_9.2 16, j_9.2 17, j_9.2 18, j_9.2 19, j_9.2 20, j_9.2 21, j_9.2 22, j_9.2 23, j_9.2 24, j_9.2 25, j_9.2 26, j_9.2 27, j_9.2 28, j_9.2 29, j_9.2 30, j_9.2 31] i (fun _ => 0))) hx hb hr hlocks hw rfl dX2_fractionOf_76 hQ
  clear h
  have LP_27 : ∀ (n : Nat) (v8_10 : Int64) (v10_11 : Int32), f_X2_fractionOf_L27 p4 n v8_10 v10_11 = some v8_12 → ∀ (H : Heap) (locs : List Loc) (ls : Array Slot), Wd D A s.heap H locs (wX2 k xh xaA ++ (wOA k xaA t0 t1 t2 t3 t4 t5 t6 t7 t8 ++ (wX1 k t0 u0rNa u0rMo u0rWa u0rDe u0Pe_1 u0Da_2 u0Dr_3 u0Na_4 u0Mo_5 u0Wa_6 u0De_7 ++ (wX1 k t1 u1rNa u1rMo u1rWa u1rDe (j_9.1 0) (j_9.1 1) (j_9.1 2) (j_9.2 0) (j_9.2 1) (j_9.2 2) (j_9.2 3) ++ (wX1 k t2 u2rNa u2rMo u2rWa u2rDe (j_9.1 3) (j_9.1 4) (j_9.1 5) (j_9.2 4) (j_9.2 5) (j_9.2 6) (j_9.2 7) ++ (wX1 k t3 u3rNa u3rMo u3rWa u3rDe (j_9.1 6) (j_9.1 7) (j_9.1 8) (j_9.2 8) (j_9.2 9) (j_9.2 10) (j_9.2 11) ++ (wX1 k t4 u4rNa u4rMo u4rWa u4rDe (j_9.1 9) (j_9.1 10) (j_9.1 11) (j_9.2 12) (j_9.2 13) (j_9.2 14) (j_9.2 15) ++ (wX1 k t5 u5rNa u5rMo u5rWa u5rDe (j_9.1 12) (j_9.1 13) (j_9.1 14) (j_9.2 16) (j_9.2 17) (j_9.2 18) (j_9.2 19) ++ (wX1 k t6 u6rNa u6rMo u6rWa u6rDe (j_9.1 15) (j_9.1 16) (j_9.1 17) (j_9.2 20) (j_9.2 21) (j_9.2 22) (j_9.2 23) ++ (wX1 k t7 u7rNa u7rMo u7rWa u7rDe (j_9.1 18) (j_9.1 19) (j_9.1 20) (j_9.2 24) (j_9.2 25) (j_9.2 26) (j_9.2 27) ++ (wX1 k t8 u8rNa u8rMo u8rWa u8rDe (j_9.1 21) (j_9.1 22) (j_9.1 23) (j_9.2 28) (j_9.2 29) (j_9.2 30) (j_9.2 31) ++ (wX1 k nh nrNa nrMo nrWa nrDe nPe nDa nDr nNa nMo nWa nDe)))))))))))) → lv_has ls 12 [(4, .int p4), (5, .int p5), (6, .long r_8), (8, .long v8_10), (10, .int v10_11)] → W p l e rmX2_fractionOf s m args below meth c H locs 0 0 Q (F0 m 27 ls []) := by
    clear hL_27 hw hl
    intro n
    induction n with
    | zero => intro v8_10 v10_11 h; rw [f_X2_fractionOf_L27] at h; cases h
    | succ n ih =>
      intro v8_10 v10_11 h H locs ls hw hl
      rw [f_X2_fractionOf_L27] at h
      refine lv_iload hx hb dX2_fractionOf_27 (lv_at hl 4 rfl) ?_
      refine lv_iload hx hb dX2_fractionOf_29 (lv_at hl 0 rfl) ?_
      refine kb_icmp_ge (tgt := 48) hx hb dX2_fractionOf_31 (by decide) h (fun c_31 h => ?_) (fun c_31 h => ?_)
      · cases h
        exact X_27 _ _ _ hw (lv_sub hl [1, 2, 3] rfl)
      · refine lv_lload hx hb dX2_fractionOf_34 (lv_at hl 3 rfl) ?_
        refine lv_ldc2 (v := 10) hx hb hown q_2 dX2_fractionOf_36 ?_
        refine lv_lmul hx hb dX2_fractionOf_39 ?_
        refine lv_lstore (lv' := [(8, .long (v8_10 * 10)), (4, .int p4), (5, .int p5), (6, .long r_8), (10, .int v10_11)]) hx hb dX2_fractionOf_40 hl (by decide) rfl (fun ls hl => ?_)
        refine lv_iinc (v := v10_11 + 1) (lv' := [(10, .int (v10_11 + 1)), (8, .long (v8_10 * 10)), (4, .int p4), (5, .int p5), (6, .long r_8)]) hx hb dX2_fractionOf_42 hl (k := 4) rfl rfl (by decide) rfl (fun ls hl => ?_)
        refine lv_goto (tgt := 27) hx hb dX2_fractionOf_45 (by decide) ?_
        exact ih _ _ h _ _ _ hw (lv_sub hl [2, 3, 4, 1, 0] rfl)
  exact LP_27 400 1 0 hL_27 _ _ _ hw (lv_sub hl [7, 8, 2, 1, 0] rfl)
abbrev rmX3_fail : Room := { frames := 0, cells := 0, slots := 0, locals := 0 }
set_option maxHeartbeats 4000000 in
set_option maxRecDepth 100000 in
theorem c_X3_fail (l : Launch) (D : va_G) (k : Nat → ClassId) (xh xrBy xaD : Nat) (sz : Nat) (xBy : (Nat → Int32)) (xLe : Int32) (xLi : Int32) (xFf : Int32) (xFp : Int32) (xPl : Int32) (xSo : Int32) (xSt : Int32) (xVa : Int32) (xDt : Int32) (xHo : Int32) (p1 : Int32) (p2 : Int32) (r_ : Int32) (n_xFf : Int32) (n_xFp : Int32) (hf : f_X3_fail p1 p2 = some (r_, n_xFf, n_xFp)) : mR l yX3_fail wsX3_fail rmX3_fail D k sz [.ref xh, .int p1, .int p2] (wX3 k xh xrBy xaD xBy xLe xLi xFf xFp xPl xSo xSt xVa xDt xHo) (wX3 k xh xrBy xaD xBy xLe xLi n_xFf n_xFp xPl xSo xSt xVa xDt xHo) (some (.int r_)) := by
  refine mR_of (cc := cX3_fail) (maxL := 3) (ret := some .boolean) (by decide) rfl (Nat.le_of_ble_eq_true rfl) [(0, .ref xh), (1, .int p1), (2, .int p2)] rfl ?_
  intro p e s m below meth c A ls args Q cx hK hA hw hl hQ
  have fx := cx.1
  obtain ⟨⟨hx, hb, hml, hown, hts⟩, hr, hlocks⟩ := cx
  have hinX3 : ∀ w ∈ wsX30, w ∈ wsX3_fail := fun w h => List.mem_cons_of_mem _ (List.mem_append_right _ h)
  have q_1 := hts (.fieldLink RX3 29 "DebtRides$Reader" "foundFault" "I") (List.mem_of_getElem? (i := 1) rfl)
  have q_2 := hts (.fieldLink RX3 32 "DebtRides$Reader" "foundPlace" "I") (List.mem_of_getElem? (i := 2) rfl)
  have h := hf
  unfold f_X3_fail at h
  clear hf
  refine lv_aload_n hx hb dX3_fail_0 rfl (lv_at hl 0 rfl) ?_
  refine lv_iload_n hx hb dX3_fail_1 rfl (lv_at hl 1 rfl) ?_
  refine va_put (ci := 3) (v := .int p1) (ty := tyX3 4) (C := RX3) (T := TX3) (N := 12) hx hb hts hinX3 tyX3 tyX3_ok nmX3 hown hK.1 hw.1 hw.2.1 hw.2.2 0 rfl rfl 4 (by decide) q_1 (fun _ h9 => h9) rfl (tyX3_ok 4 (by decide)) rfl rfl (Nat.le_of_ble_eq_true rfl) dX3_fail_2 (fun H locs hP hD hS => ?_)
  have hw : Wd D A s.heap H locs (wX3 k xh xrBy xaD xBy xLe xLi p1 xFp xPl xSo xSt xVa xDt xHo) := ⟨hP, hD, hS⟩
  refine lv_aload_n hx hb dX3_fail_5 rfl (lv_at hl 0 rfl) ?_
  refine lv_iload_n hx hb dX3_fail_6 rfl (lv_at hl 2 rfl) ?_
  refine va_put (ci := 3) (v := .int p2) (ty := tyX3 5) (C := RX3) (T := TX3) (N := 12) hx hb hts hinX3 tyX3 tyX3_ok nmX3 hown hK.1 hw.1 hw.2.1 hw.2.2 0 rfl rfl 5 (by decide) q_2 (fun _ h9 => h9) rfl (tyX3_ok 5 (by decide)) rfl rfl (Nat.le_of_ble_eq_true rfl) dX3_fail_7 (fun H locs hP hD hS => ?_)
  have hw : Wd D A s.heap H locs (wX3 k xh xrBy xaD xBy xLe xLi p1 p2 xPl xSo xSt xVa xDt xHo) := ⟨hP, hD, hS⟩
  refine lv_iconst (v := 0) hx hb dX3_fail_10 (by decide) ?_
  cases h
  exact k_zret hx hb hr hlocks hw (by decide) rfl dX3_fail_11 hQ
abbrev rmX3_everyoneIsThere : Room := { frames := 1, cells := 0, slots := 0, locals := 22 }
set_option maxHeartbeats 4000000 in
set_option maxRecDepth 100000 in
theorem c_X3_everyoneIsThere (l : Launch) (D : va_G) (k : Nat → ClassId) (xh xrBy xaD drNa drMo drWa drDe : Nat) (sz : Nat) (xBy : (Nat → Int32)) (xLe : Int32) (xLi : Int32) (xFf : Int32) (xFp : Int32) (xPl : Int32) (xSo : Int32) (xSt : Int32) (xVa : Int32) (xDt : Int32) (xHo : Int32) (dPe : Int32) (dDa : Int32) (dDr : Int32) (dNa : (Nat → Int32)) (dMo : (Nat → Int32)) (dWa : (Nat → Int32)) (dDe : (Nat → Int32)) (r_ : Int32) (n_xFf : Int32) (n_xFp : Int32) (hf : f_X3_everyoneIsThere xLe xFf xFp xHo dPe = some (r_, n_xFf, n_xFp)) : mR l yX3_everyoneIsThere wsX3_everyoneIsThere rmX3_everyoneIsThere D k sz [.ref xh] (wX3 k xh xrBy xaD xBy xLe xLi xFf xFp xPl xSo xSt xVa xDt xHo ++ (wX1 k xaD drNa drMo drWa drDe dPe dDa dDr dNa dMo dWa dDe)) (wX3 k xh xrBy xaD xBy xLe xLi n_xFf n_xFp xPl xSo xSt xVa xDt xHo ++ (wX1 k xaD drNa drMo drWa drDe dPe dDa dDr dNa dMo dWa dDe)) (some (.int r_)) := by
  refine mR_of (cc := cX3_everyoneIsThere) (maxL := 1) (ret := some .boolean) (by decide) rfl (Nat.le_of_ble_eq_true rfl) [(0, .ref xh)] rfl ?_
  intro p e s m below meth c A ls args Q cx hK hA hw hl hQ
  have fx := cx.1
  obtain ⟨⟨hx, hb, hml, hown, hts⟩, hr, hlocks⟩ := cx
  have hinX3 : ∀ w ∈ wsX30, w ∈ wsX3_everyoneIsThere := fun w h => List.mem_cons_of_mem _ (List.mem_append_left _ (List.mem_append_right _ h))
  have hinX1 : ∀ w ∈ wsX10, w ∈ wsX3_everyoneIsThere := fun w h => List.mem_cons_of_mem _ (List.mem_append_right _ h)
  have q_1 := hts (.fieldLink RX3 42 "DebtRides$Reader" "highestOne" "I") (List.mem_of_getElem? (i := 1) rfl)
  have q_2 := hts (.fieldLink RX3 18 "DebtRides$Reader" "draft" "LDebtRides$Land;") (List.mem_of_getElem? (i := 2) rfl)
  have q_3 := hts (.fieldLink RX3 61 "DebtRides$Land" "people" "I") (List.mem_of_getElem? (i := 3) rfl)
  have q_4 := hts (.fieldLink RX3 49 "DebtRides$Reader" "length" "I") (List.mem_of_getElem? (i := 4) rfl)
  have h := hf
  unfold f_X3_everyoneIsThere at h
  clear hf
  refine lv_aload_n hx hb dX3_everyoneIsThere_0 rfl (lv_at hl 0 rfl) ?_
  refine va_get (ci := 3) (v := .int xHo) (C := RX3) (T := TX3) (N := 12) hx hb hts hinX3 hown hK.1 hw.1 0 rfl rfl 11 (by decide) q_1 (fun _ h9 => h9) rfl dX3_everyoneIsThere_1 ?_
  refine lv_aload_n hx hb dX3_everyoneIsThere_4 rfl (lv_at hl 0 rfl) ?_
  refine va_get (ci := 3) (v := .ref xaD) (C := RX3) (T := TX3) (N := 12) hx hb hts hinX3 hown hK.1 hw.1 0 rfl rfl 2 (by decide) q_2 (fun _ h9 => h9) rfl dX3_everyoneIsThere_5 ?_
  refine va_get (ci := 1) (v := .int dPe) (C := RX1) (T := TX1) (N := 7) hx hb hts hinX1 hown hK.1 hw.1 2 rfl rfl 0 (by decide) q_3 (fun _ h9 => h9) rfl dX3_everyoneIsThere_8 ?_
  refine kb_icmp_lt (tgt := 27) hx hb dX3_everyoneIsThere_11 (by decide) h (fun c_11 h => ?_) (fun c_11 h => ?_)
  · refine lv_iconst (v := 1) hx hb dX3_everyoneIsThere_27 (by decide) ?_
    refine lv_goto (tgt := 32) hx hb dX3_everyoneIsThere_28 (by decide) ?_
    cases h
    exact k_zret hx hb hr hlocks hw (by decide) rfl dX3_everyoneIsThere_32 hQ
  · refine lv_aload_n hx hb dX3_everyoneIsThere_14 rfl (lv_at hl 0 rfl) ?_
    refine lv_bipush (v := 6) hx hb dX3_everyoneIsThere_15 (by decide) ?_
    refine lv_aload_n hx hb dX3_everyoneIsThere_17 rfl (lv_at hl 0 rfl) ?_
    refine va_get (ci := 3) (v := .int xLe) (C := RX3) (T := TX3) (N := 12) hx hb hts hinX3 hown hK.1 hw.1 0 rfl rfl 1 (by decide) q_4 (fun _ h9 => h9) rfl dX3_everyoneIsThere_18 ?_
    obtain ⟨r_1, xFf_2, xFp_3, hf, h⟩ := b3_inv h
    refine k_callV (host := "") fx hK hA hw (c_X3_fail l D k xh xrBy xaD _ xBy xLe xLi xFf xFp xPl xSo xSt xVa xDt xHo 6 xLe r_1 xFf_2 xFp_3 hf) (cwV 2 hts gX3_everyoneIsThere_X3_fail rfl rfl rfl (by decide +kernel) ⟨by decide, by decide⟩) (As := [.int 6, .int xLe]) (wr := [(xaD, .inr (1, [.int dPe, .int dDa, .int dDr, .ref drNa, .ref drMo, .ref drWa, .ref drDe])), (drNa, .inl (k 0, 5, .inl dNa)), (drMo, .inl (k 0, 5, .inl dMo)), (drWa, .inl (k 0, 5, .inl dWa)), (drDe, .inl (k 0, 25, .inl dDe))]) (ws' := wX3 k xh xrBy xaD xBy xLe xLi xFf_2 xFp_3 xPl xSo xSt xVa xDt xHo ++ (wX1 k xaD drNa drMo drWa drDe dPe dDa dDr dNa dMo dWa dDe)) [0, 1] [2, 3, 4, 5, 6] [5, 6, 0, 1, 2, 3, 4] rfl rfl (by decide) (by decide) (by decide) rfl (by decide) 3 rfl rfl [] rfl hl.1 rfl (Nat.le_of_ble_eq_true rfl) dX3_everyoneIsThere_21 ⟨by decide, by decide⟩ (fun H locs (hw : Wd D A s.heap H locs (wX3 k xh xrBy xaD xBy xLe xLi xFf_2 xFp_3 xPl xSo xSt xVa xDt xHo ++ (wX1 k xaD drNa drMo drWa drDe dPe dDa dDr dNa dMo dWa dDe))) => ?_)
    refine W.eq (g2 := F0 m 24 ls ([.int r_1])) rfl ?_
    refine kb_if_eq (tgt := 31) hx hb dX3_everyoneIsThere_24 (by decide) h (fun c_24 h => ?_) (fun c_24 h => ?_)
    · refine lv_iconst (v := 0) hx hb dX3_everyoneIsThere_31 (by decide) ?_
      cases h
      exact k_zret hx hb hr hlocks hw (by decide) rfl dX3_everyoneIsThere_32 hQ
    · refine lv_iconst (v := 1) hx hb dX3_everyoneIsThere_27 (by decide) ?_
      refine lv_goto (tgt := 32) hx hb dX3_everyoneIsThere_28 (by decide) ?_
      cases h
      exact k_zret hx hb hr hlocks hw (by decide) rfl dX3_everyoneIsThere_32 hQ
abbrev rmX3_sortAt : Room := { frames := 0, cells := 0, slots := 0, locals := 0 }
set_option maxHeartbeats 4000000 in
set_option maxRecDepth 100000 in
theorem c_X3_sortAt (l : Launch) (D : va_G) (k : Nat → ClassId) (xh xrBy xaD : Nat) (sz : Nat) (xBy : (Nat → Int32)) (xLe : Int32) (xLi : Int32) (xFf : Int32) (xFp : Int32) (xPl : Int32) (xSo : Int32) (xSt : Int32) (xVa : Int32) (xDt : Int32) (xHo : Int32) (p1 : Int32) (r_ : Int32) (hf : f_X3_sortAt xBy xLe p1 = some r_) : mR l yX3_sortAt wsX3_sortAt rmX3_sortAt D k sz [.ref xh, .int p1] (wX3 k xh xrBy xaD xBy xLe xLi xFf xFp xPl xSo xSt xVa xDt xHo) (wX3 k xh xrBy xaD xBy xLe xLi xFf xFp xPl xSo xSt xVa xDt xHo) (some (.int r_)) := by
  refine mR_of (cc := cX3_sortAt) (maxL := 3) (ret := some .int) (by decide) rfl (Nat.le_of_ble_eq_true rfl) [(0, .ref xh), (1, .int p1)] rfl ?_
  intro p e s m below meth c A ls args Q cx hK hA hw hl hQ
  have fx := cx.1
  obtain ⟨⟨hx, hb, hml, hown, hts⟩, hr, hlocks⟩ := cx
  have hinX3 : ∀ w ∈ wsX30, w ∈ wsX3_sortAt := fun w h => List.mem_cons_of_mem _ (List.mem_append_right _ h)
  have q_1 := hts (.fieldLink RX3 49 "DebtRides$Reader" "length" "I") (List.mem_of_getElem? (i := 1) rfl)
  have q_2 := hts (.fieldLink RX3 9 "DebtRides$Reader" "bytes" "[I") (List.mem_of_getElem? (i := 2) rfl)
  have h := hf
  unfold f_X3_sortAt at h
  clear hf
  refine lv_iload_n hx hb dX3_sortAt_0 rfl (lv_at hl 1 rfl) ?_
  refine lv_aload_n hx hb dX3_sortAt_1 rfl (lv_at hl 0 rfl) ?_
  refine va_get (ci := 3) (v := .int xLe) (C := RX3) (T := TX3) (N := 12) hx hb hts hinX3 hown hK.1 hw.1 0 rfl rfl 1 (by decide) q_1 (fun _ h9 => h9) rfl dX3_sortAt_2 ?_
  refine kb_icmp_lt (tgt := 10) hx hb dX3_sortAt_5 (by decide) h (fun c_5 h => ?_) (fun c_5 h => ?_)
  · refine lv_aload_n hx hb dX3_sortAt_10 rfl (lv_at hl 0 rfl) ?_
    refine va_get (ci := 3) (v := .ref xrBy) (C := RX3) (T := TX3) (N := 12) hx hb hts hinX3 hown hK.1 hw.1 0 rfl rfl 0 (by decide) q_2 (fun _ h9 => h9) rfl dX3_sortAt_11 ?_
    refine lv_iload_n hx hb dX3_sortAt_14 rfl (lv_at hl 1 rfl) ?_
    refine k_iald hx hb hK hw 1 rfl dX3_sortAt_15 h (fun a_1 h => ?_)
    refine lv_istore_n (lv' := [(2, .int a_1), (0, .ref xh), (1, .int p1)]) hx hb dX3_sortAt_16 rfl hl (by decide) rfl (fun ls hl => ?_)
    refine lv_iload_n hx hb dX3_sortAt_17 rfl (lv_at hl 0 rfl) ?_
    refine lv_bipush (v := 97) hx hb dX3_sortAt_18 (by decide) ?_
    have T_31 : f_X3_sortAt_B31 a_1 = some r_ → ∀ (H : Heap) (locs : List Loc) (ls : Array Slot), Wd D A s.heap H locs (wX3 k xh xrBy xaD xBy xLe xLi xFf xFp xPl xSo xSt xVa xDt xHo) → lv_has ls 3 [(2, .int a_1)] → W p l e rmX3_sortAt s m args below meth c H locs 0 0 Q (F0 m 31 ls []) := by
      clear h
      intro h H locs ls hw hl
      unfold f_X3_sortAt_B31 at h
      refine lv_iload_n hx hb dX3_sortAt_31 rfl (lv_at hl 0 rfl) ?_
      refine lv_bipush (v := 48) hx hb dX3_sortAt_32 (by decide) ?_
      have T_45 : f_X3_sortAt_B45 a_1 = some r_ → ∀ (H : Heap) (locs : List Loc) (ls : Array Slot), Wd D A s.heap H locs (wX3 k xh xrBy xaD xBy xLe xLi xFf xFp xPl xSo xSt xVa xDt xHo) → lv_has ls 3 [(2, .int a_1)] → W p l e rmX3_sortAt s m args below meth c H locs 0 0 Q (F0 m 45 ls []) := by
        clear h
        intro h H locs ls hw hl
        unfold f_X3_sortAt_B45 at h
        refine lv_iload_n hx hb dX3_sortAt_45 rfl (lv_at hl 0 rfl) ?_
        refine lv_bipush (v := 59) hx hb dX3_sortAt_46 (by decide) ?_
        refine kb_icmp_ne (tgt := 55) hx hb dX3_sortAt_48 (by decide) h (fun c_48 h => ?_) (fun c_48 h => ?_)
        · refine lv_iconst (v := 3) hx hb dX3_sortAt_51 (by decide) ?_
          refine lv_goto (tgt := 56) hx hb dX3_sortAt_52 (by decide) ?_
          cases h
          exact k_iret hx hb hr hlocks hw rfl dX3_sortAt_56 hQ
        · refine lv_iconst (v := 4) hx hb dX3_sortAt_55 (by decide) ?_
          cases h
          exact k_iret hx hb hr hlocks hw rfl dX3_sortAt_56 hQ
      refine kb_icmp_lt (tgt := 45) hx hb dX3_sortAt_34 (by decide) h (fun c_34 h => ?_) (fun c_34 h => ?_)
      · exact T_45 h _ _ _ hw (lv_sub hl [0] rfl)
      · refine lv_iload_n hx hb dX3_sortAt_37 rfl (lv_at hl 0 rfl) ?_
        refine lv_bipush (v := 57) hx hb dX3_sortAt_38 (by decide) ?_
        refine kb_icmp_gt (tgt := 45) hx hb dX3_sortAt_40 (by decide) h (fun c_40 h => ?_) (fun c_40 h => ?_)
        · exact T_45 h _ _ _ hw (lv_sub hl [0] rfl)
        · refine lv_iconst (v := 2) hx hb dX3_sortAt_43 (by decide) ?_
          cases h
          exact k_iret hx hb hr hlocks hw rfl dX3_sortAt_44 hQ
    refine kb_icmp_lt (tgt := 31) hx hb dX3_sortAt_20 (by decide) h (fun c_20 h => ?_) (fun c_20 h => ?_)
    · exact T_31 h _ _ _ hw (lv_sub hl [0] rfl)
    · refine lv_iload_n hx hb dX3_sortAt_23 rfl (lv_at hl 0 rfl) ?_
      refine lv_bipush (v := 122) hx hb dX3_sortAt_24 (by decide) ?_
      refine kb_icmp_gt (tgt := 31) hx hb dX3_sortAt_26 (by decide) h (fun c_26 h => ?_) (fun c_26 h => ?_)
      · exact T_31 h _ _ _ hw (lv_sub hl [0] rfl)
      · refine lv_iconst (v := 1) hx hb dX3_sortAt_29 (by decide) ?_
        cases h
        exact k_iret hx hb hr hlocks hw rfl dX3_sortAt_30 hQ
  · refine lv_iconst (v := 0) hx hb dX3_sortAt_8 (by decide) ?_
    cases h
    exact k_iret hx hb hr hlocks hw rfl dX3_sortAt_9 hQ
abbrev rmX3_next : Room := { frames := 1, cells := 0, slots := 0, locals := 22 }
set_option maxHeartbeats 4000000 in
set_option maxRecDepth 100000 in
theorem c_X3_next (l : Launch) (D : va_G) (k : Nat → ClassId) (xh xrBy xaD : Nat) (sz : Nat) (xBy : (Nat → Int32)) (xLe : Int32) (xLi : Int32) (xFf : Int32) (xFp : Int32) (xPl : Int32) (xSo : Int32) (xSt : Int32) (xVa : Int32) (xDt : Int32) (xHo : Int32) (r_ : Int32) (n_xFf : Int32) (n_xFp : Int32) (n_xPl : Int32) (n_xSo : Int32) (n_xSt : Int32) (hf : f_X3_next xBy xLe xFf xFp xPl = some (r_, n_xFf, n_xFp, n_xPl, n_xSo, n_xSt)) : mR l yX3_next wsX3_next rmX3_next D k sz [.ref xh] (wX3 k xh xrBy xaD xBy xLe xLi xFf xFp xPl xSo xSt xVa xDt xHo) (wX3 k xh xrBy xaD xBy xLe xLi n_xFf n_xFp n_xPl n_xSo n_xSt xVa xDt xHo) (some (.int r_)) := by
  refine mR_of (cc := cX3_next) (maxL := 2) (ret := some .boolean) (by decide) rfl (Nat.le_of_ble_eq_true rfl) [(0, .ref xh)] rfl ?_
  intro p e s m below meth c A ls args Q cx hK hA hw hl hQ
  have fx := cx.1
  obtain ⟨⟨hx, hb, hml, hown, hts⟩, hr, hlocks⟩ := cx
  have hinX3 : ∀ w ∈ wsX30, w ∈ wsX3_next := fun w h => List.mem_cons_of_mem _ (List.mem_append_right _ h)
  have q_1 := hts (.fieldLink RX3 35 "DebtRides$Reader" "place" "I") (List.mem_of_getElem? (i := 1) rfl)
  have q_2 := hts (.fieldLink RX3 49 "DebtRides$Reader" "length" "I") (List.mem_of_getElem? (i := 2) rfl)
  have q_3 := hts (.fieldLink RX3 9 "DebtRides$Reader" "bytes" "[I") (List.mem_of_getElem? (i := 3) rfl)
  have q_4 := hts (.fieldLink RX3 90 "DebtRides$Reader" "start" "I") (List.mem_of_getElem? (i := 4) rfl)
  have q_5 := hts (.fieldLink RX3 52 "DebtRides$Reader" "sort" "I") (List.mem_of_getElem? (i := 5) rfl)
  have h := hf
  unfold f_X3_next at h
  clear hf
  obtain ⟨xPl_2, hL_0, h⟩ := b1_inv h
  have X_0 : ∀ (H : Heap) (locs : List Loc) (ls : Array Slot), Wd D A s.heap H locs (wX3 k xh xrBy xaD xBy xLe xLi xFf xFp xPl_2 xSo xSt xVa xDt xHo) → lv_has ls 2 [(0, .ref xh)] → W p l e rmX3_next s m args below meth c H locs 0 0 Q (F0 m 38 ls []) := by
    intro H locs ls hw hl
    refine lv_aload_n hx hb dX3_next_38 rfl (lv_at hl 0 rfl) ?_
    refine lv_aload_n hx hb dX3_next_39 rfl (lv_at hl 0 rfl) ?_
    refine va_get (ci := 3) (v := .int xPl_2) (C := RX3) (T := TX3) (N := 12) hx hb hts hinX3 hown hK.1 hw.1 0 rfl rfl 6 (by decide) q_1 (fun _ h9 => h9) rfl dX3_next_40 ?_
    refine va_put (ci := 3) (v := .int xPl_2) (ty := tyX3 8) (C := RX3) (T := TX3) (N := 12) hx hb hts hinX3 tyX3 tyX3_ok nmX3 hown hK.1 hw.1 hw.2.1 hw.2.2 0 rfl rfl 8 (by decide) q_4 (fun _ h9 => h9) rfl (tyX3_ok 8 (by decide)) rfl rfl (Nat.le_of_ble_eq_true rfl) dX3_next_43 (fun H locs hP hD hS => ?_)
    have hw : Wd D A s.heap H locs (wX3 k xh xrBy xaD xBy xLe xLi xFf xFp xPl_2 xSo xPl_2 xVa xDt xHo) := ⟨hP, hD, hS⟩
    refine lv_aload_n hx hb dX3_next_46 rfl (lv_at hl 0 rfl) ?_
    refine lv_aload_n hx hb dX3_next_47 rfl (lv_at hl 0 rfl) ?_
    refine lv_aload_n hx hb dX3_next_48 rfl (lv_at hl 0 rfl) ?_
    refine va_get (ci := 3) (v := .int xPl_2) (C := RX3) (T := TX3) (N := 12) hx hb hts hinX3 hown hK.1 hw.1 0 rfl rfl 6 (by decide) q_1 (fun _ h9 => h9) rfl dX3_next_49 ?_
    obtain ⟨r_4, hf, h⟩ := b1_inv h
    refine k_callV (host := "") fx hK hA hw (c_X3_sortAt l D k xh xrBy xaD _ xBy xLe xLi xFf xFp xPl_2 xSo xPl_2 xVa xDt xHo xPl_2 r_4 hf) (cwV 1 hts gX3_next_X3_sortAt rfl rfl rfl (by decide +kernel) ⟨by decide, by decide⟩) (As := [.int xPl_2]) (wr := []) (ws' := wX3 k xh xrBy xaD xBy xLe xLi xFf xFp xPl_2 xSo xPl_2 xVa xDt xHo) [0, 1] [] [0, 1] rfl rfl (by decide) (by decide) (by decide) rfl (by decide) 3 rfl rfl [.ref xh] rfl hl.1 rfl (Nat.le_of_ble_eq_true rfl) dX3_next_52 ⟨by decide, by decide⟩ (fun H locs (hw : Wd D A s.heap H locs (wX3 k xh xrBy xaD xBy xLe xLi xFf xFp xPl_2 xSo xPl_2 xVa xDt xHo)) => ?_)
    refine W.eq (g2 := F0 m 55 ls ([.int r_4, .ref xh])) rfl ?_
    refine va_put (ci := 3) (v := .int r_4) (ty := tyX3 7) (C := RX3) (T := TX3) (N := 12) hx hb hts hinX3 tyX3 tyX3_ok nmX3 hown hK.1 hw.1 hw.2.1 hw.2.2 0 rfl rfl 7 (by decide) q_5 (fun _ h9 => h9) rfl (tyX3_ok 7 (by decide)) rfl rfl (Nat.le_of_ble_eq_true rfl) dX3_next_55 (fun H locs hP hD hS => ?_)
    have hw : Wd D A s.heap H locs (wX3 k xh xrBy xaD xBy xLe xLi xFf xFp xPl_2 r_4 xPl_2 xVa xDt xHo) := ⟨hP, hD, hS⟩
    refine lv_aload_n hx hb dX3_next_58 rfl (lv_at hl 0 rfl) ?_
    refine va_get (ci := 3) (v := .int r_4) (C := RX3) (T := TX3) (N := 12) hx hb hts hinX3 hown hK.1 hw.1 0 rfl rfl 7 (by decide) q_5 (fun _ h9 => h9) rfl dX3_next_59 ?_
    refine lv_iconst (v := 1) hx hb dX3_next_62 (by decide) ?_
    obtain ⟨xPl_5, hj_63, h⟩ := b1_inv h
    have J_63 : ∀ (H : Heap) (locs : List Loc) (ls : Array Slot), Wd D A s.heap H locs (wX3 k xh xrBy xaD xBy xLe xLi xFf xFp xPl_5 r_4 xPl_2 xVa xDt xHo) → lv_has ls 2 [(0, .ref xh)] → W p l e rmX3_next s m args below meth c H locs 0 0 Q (F0 m 131 ls []) := by
      intro H locs ls hw hl
      refine lv_aload_n hx hb dX3_next_131 rfl (lv_at hl 0 rfl) ?_
      refine va_get (ci := 3) (v := .int r_4) (C := RX3) (T := TX3) (N := 12) hx hb hts hinX3 hown hK.1 hw.1 0 rfl rfl 7 (by decide) q_5 (fun _ h9 => h9) rfl dX3_next_132 ?_
      refine lv_iconst (v := 2) hx hb dX3_next_135 (by decide) ?_
      obtain ⟨t_12, hj_136, h⟩ := b1_inv h
      have J_136 : ∀ (H : Heap) (locs : List Loc) (ls : Array Slot), Wd D A s.heap H locs (wX3 k xh xrBy xaD xBy xLe xLi xFf xFp xPl_5 r_4 xPl_2 xVa xDt xHo) → lv_has ls 2 [(0, .ref xh)] → W p l e rmX3_next s m args below meth c H locs 0 0 Q (F0 m 157 ls [.int t_12]) := by
        intro H locs ls hw hl
        refine lv_istore_n (lv' := [(1, .int t_12), (0, .ref xh)]) hx hb dX3_next_157 rfl hl (by decide) rfl (fun ls hl => ?_)
        refine lv_aload_n hx hb dX3_next_158 rfl (lv_at hl 1 rfl) ?_
        refine va_get (ci := 3) (v := .int r_4) (C := RX3) (T := TX3) (N := 12) hx hb hts hinX3 hown hK.1 hw.1 0 rfl rfl 7 (by decide) q_5 (fun _ h9 => h9) rfl dX3_next_159 ?_
        refine lv_iconst (v := 4) hx hb dX3_next_162 (by decide) ?_
        have T_170 : f_X3_next_B170 xPl_2 xPl_5 r_4 = some (r_, n_xFf, n_xFp, n_xPl, n_xSo, n_xSt) → ∀ (H : Heap) (locs : List Loc) (ls : Array Slot), Wd D A s.heap H locs (wX3 k xh xrBy xaD xBy xLe xLi xFf xFp xPl_5 r_4 xPl_2 xVa xDt xHo) → lv_has ls 2 [(0, .ref xh)] → W p l e rmX3_next s m args below meth c H locs 0 0 Q (F0 m 170 ls []) := by
          clear h
          intro h H locs ls hw hl
          unfold f_X3_next_B170 at h
          refine lv_aload_n hx hb dX3_next_170 rfl (lv_at hl 0 rfl) ?_
          refine lv_iconst (v := 1) hx hb dX3_next_171 (by decide) ?_
          refine lv_aload_n hx hb dX3_next_172 rfl (lv_at hl 0 rfl) ?_
          refine va_get (ci := 3) (v := .int xPl_2) (C := RX3) (T := TX3) (N := 12) hx hb hts hinX3 hown hK.1 hw.1 0 rfl rfl 8 (by decide) q_4 (fun _ h9 => h9) rfl dX3_next_173 ?_
          obtain ⟨r_13, xFf_14, xFp_15, hf, h⟩ := b3_inv h
          refine k_callV (host := "") fx hK hA hw (c_X3_fail l D k xh xrBy xaD _ xBy xLe xLi xFf xFp xPl_5 r_4 xPl_2 xVa xDt xHo 1 xPl_2 r_13 xFf_14 xFp_15 hf) (cwV 2 hts gX3_next_X3_fail rfl rfl rfl (by decide +kernel) ⟨by decide, by decide⟩) (As := [.int 1, .int xPl_2]) (wr := []) (ws' := wX3 k xh xrBy xaD xBy xLe xLi xFf_14 xFp_15 xPl_5 r_4 xPl_2 xVa xDt xHo) [0, 1] [] [0, 1] rfl rfl (by decide) (by decide) (by decide) rfl (by decide) 3 rfl rfl [] rfl hl.1 rfl (Nat.le_of_ble_eq_true rfl) dX3_next_176 ⟨by decide, by decide⟩ (fun H locs (hw : Wd D A s.heap H locs (wX3 k xh xrBy xaD xBy xLe xLi xFf_14 xFp_15 xPl_5 r_4 xPl_2 xVa xDt xHo)) => ?_)
          refine W.eq (g2 := F0 m 179 ls ([.int r_13])) rfl ?_
          refine kb_if_eq (tgt := 186) hx hb dX3_next_179 (by decide) h (fun c_179 h => ?_) (fun c_179 h => ?_)
          · refine lv_iconst (v := 0) hx hb dX3_next_186 (by decide) ?_
            cases h
            exact k_zret hx hb hr hlocks hw (by decide) rfl dX3_next_187 hQ
          · refine lv_iconst (v := 1) hx hb dX3_next_182 (by decide) ?_
            refine lv_goto (tgt := 187) hx hb dX3_next_183 (by decide) ?_
            cases h
            exact k_zret hx hb hr hlocks hw (by decide) rfl dX3_next_187 hQ
        refine kb_icmp_eq (tgt := 170) hx hb dX3_next_163 (by decide) h (fun c_163 h => ?_) (fun c_163 h => ?_)
        · exact T_170 h _ _ _ hw (lv_sub hl [1] rfl)
        · refine lv_iload_n hx hb dX3_next_166 rfl (lv_at hl 0 rfl) ?_
          refine kb_if_eq (tgt := 182) hx hb dX3_next_167 (by decide) h (fun c_167 h => ?_) (fun c_167 h => ?_)
          · refine lv_iconst (v := 1) hx hb dX3_next_182 (by decide) ?_
            refine lv_goto (tgt := 187) hx hb dX3_next_183 (by decide) ?_
            cases h
            exact k_zret hx hb hr hlocks hw (by decide) rfl dX3_next_187 hQ
          · exact T_170 h _ _ _ hw (lv_sub hl [1] rfl)
      clear h
      have h := hj_136
      refine kb_icmp_ne (tgt := 156) hx hb dX3_next_136 (by decide) h (fun c_136 h => ?_) (fun c_136 h => ?_)
      · refine lv_aload_n hx hb dX3_next_139 rfl (lv_at hl 0 rfl) ?_
        refine va_get (ci := 3) (v := .int xPl_5) (C := RX3) (T := TX3) (N := 12) hx hb hts hinX3 hown hK.1 hw.1 0 rfl rfl 6 (by decide) q_1 (fun _ h9 => h9) rfl dX3_next_140 ?_
        refine lv_aload_n hx hb dX3_next_143 rfl (lv_at hl 0 rfl) ?_
        refine va_get (ci := 3) (v := .int xPl_2) (C := RX3) (T := TX3) (N := 12) hx hb hts hinX3 hown hK.1 hw.1 0 rfl rfl 8 (by decide) q_4 (fun _ h9 => h9) rfl dX3_next_144 ?_
        refine lv_isub hx hb dX3_next_147 ?_
        refine lv_iconst (v := 2) hx hb dX3_next_148 (by decide) ?_
        refine kb_icmp_le (tgt := 156) hx hb dX3_next_149 (by decide) h (fun c_149 h => ?_) (fun c_149 h => ?_)
        · refine lv_iconst (v := 0) hx hb dX3_next_156 (by decide) ?_
          cases h
          exact J_136 _ _ _ hw (lv_sub hl [0] rfl)
        · refine lv_iconst (v := 1) hx hb dX3_next_152 (by decide) ?_
          refine lv_goto (tgt := 157) hx hb dX3_next_153 (by decide) ?_
          cases h
          exact J_136 _ _ _ hw (lv_sub hl [0] rfl)
      · refine lv_iconst (v := 0) hx hb dX3_next_156 (by decide) ?_
        cases h
        exact J_136 _ _ _ hw (lv_sub hl [0] rfl)
    clear h
    have h := hj_63
    refine kb_icmp_eq (tgt := 74) hx hb dX3_next_63 (by decide) h (fun c_63 h => ?_) (fun c_63 h => ?_)
    · obtain ⟨xPl_7, hL_74, h⟩ := b1_inv h
      have X_74 : ∀ (H : Heap) (locs : List Loc) (ls : Array Slot), Wd D A s.heap H locs (wX3 k xh xrBy xaD xBy xLe xLi xFf xFp xPl_7 r_4 xPl_2 xVa xDt xHo) → lv_has ls 2 [(0, .ref xh)] → W p l e rmX3_next s m args below meth c H locs 0 0 Q (F0 m 131 ls []) := by
        intro H locs ls hw hl
        cases h
        exact J_63 _ _ _ hw (lv_sub hl [0] rfl)
      clear h
      have LP_74 : ∀ (n : Nat) (xPl_6 : Int32), f_X3_next_L74 xBy xLe r_4 n xPl_6 = some xPl_7 → ∀ (H : Heap) (locs : List Loc) (ls : Array Slot), Wd D A s.heap H locs (wX3 k xh xrBy xaD xBy xLe xLi xFf xFp xPl_6 r_4 xPl_2 xVa xDt xHo) → lv_has ls 2 [(0, .ref xh)] → W p l e rmX3_next s m args below meth c H locs 0 0 Q (F0 m 74 ls []) := by
        clear hL_74 hw hl
        intro n
        induction n with
        | zero => intro xPl_6 h; rw [f_X3_next_L74] at h; cases h
        | succ n ih =>
          intro xPl_6 h H locs ls hw hl
          rw [f_X3_next_L74] at h
          refine lv_aload_n hx hb dX3_next_74 rfl (lv_at hl 0 rfl) ?_
          refine va_get (ci := 3) (v := .int xPl_6) (C := RX3) (T := TX3) (N := 12) hx hb hts hinX3 hown hK.1 hw.1 0 rfl rfl 6 (by decide) q_1 (fun _ h9 => h9) rfl dX3_next_75 ?_
          refine lv_aload_n hx hb dX3_next_78 rfl (lv_at hl 0 rfl) ?_
          refine va_get (ci := 3) (v := .int xLe) (C := RX3) (T := TX3) (N := 12) hx hb hts hinX3 hown hK.1 hw.1 0 rfl rfl 1 (by decide) q_2 (fun _ h9 => h9) rfl dX3_next_79 ?_
          refine kb_icmp_ge (tgt := 131) hx hb dX3_next_82 (by decide) h (fun c_82 h => ?_) (fun c_82 h => ?_)
          · cases h
            exact X_74 _ _ _ hw (lv_sub hl [0] rfl)
          · refine lv_aload_n hx hb dX3_next_85 rfl (lv_at hl 0 rfl) ?_
            refine lv_aload_n hx hb dX3_next_86 rfl (lv_at hl 0 rfl) ?_
            refine va_get (ci := 3) (v := .int xPl_6) (C := RX3) (T := TX3) (N := 12) hx hb hts hinX3 hown hK.1 hw.1 0 rfl rfl 6 (by decide) q_1 (fun _ h9 => h9) rfl dX3_next_87 ?_
            obtain ⟨r_8, hf, h⟩ := b1_inv h
            refine k_callV (host := "") fx hK hA hw (c_X3_sortAt l D k xh xrBy xaD _ xBy xLe xLi xFf xFp xPl_6 r_4 xPl_2 xVa xDt xHo xPl_6 r_8 hf) (cwV 1 hts gX3_next_X3_sortAt rfl rfl rfl (by decide +kernel) ⟨by decide, by decide⟩) (As := [.int xPl_6]) (wr := []) (ws' := wX3 k xh xrBy xaD xBy xLe xLi xFf xFp xPl_6 r_4 xPl_2 xVa xDt xHo) [0, 1] [] [0, 1] rfl rfl (by decide) (by decide) (by decide) rfl (by decide) 3 rfl rfl [] rfl hl.1 rfl (Nat.le_of_ble_eq_true rfl) dX3_next_90 ⟨by decide, by decide⟩ (fun H locs (hw : Wd D A s.heap H locs (wX3 k xh xrBy xaD xBy xLe xLi xFf xFp xPl_6 r_4 xPl_2 xVa xDt xHo)) => ?_)
            refine W.eq (g2 := F0 m 93 ls ([.int r_8])) rfl ?_
            refine lv_aload_n hx hb dX3_next_93 rfl (lv_at hl 0 rfl) ?_
            refine va_get (ci := 3) (v := .int r_4) (C := RX3) (T := TX3) (N := 12) hx hb hts hinX3 hown hK.1 hw.1 0 rfl rfl 7 (by decide) q_5 (fun _ h9 => h9) rfl dX3_next_94 ?_
            refine kb_icmp_ne (tgt := 131) hx hb dX3_next_97 (by decide) h (fun c_97 h => ?_) (fun c_97 h => ?_)
            · refine lv_aload_n hx hb dX3_next_100 rfl (lv_at hl 0 rfl) ?_
              refine lv_dup hx hb dX3_next_101 rfl ?_
              refine va_get (ci := 3) (v := .int xPl_6) (C := RX3) (T := TX3) (N := 12) hx hb hts hinX3 hown hK.1 hw.1 0 rfl rfl 6 (by decide) q_1 (fun _ h9 => h9) rfl dX3_next_102 ?_
              refine lv_iconst (v := 1) hx hb dX3_next_105 (by decide) ?_
              refine lv_iadd hx hb dX3_next_106 ?_
              refine va_put (ci := 3) (v := .int (xPl_6 + 1)) (ty := tyX3 6) (C := RX3) (T := TX3) (N := 12) hx hb hts hinX3 tyX3 tyX3_ok nmX3 hown hK.1 hw.1 hw.2.1 hw.2.2 0 rfl rfl 6 (by decide) q_1 (fun _ h9 => h9) rfl (tyX3_ok 6 (by decide)) rfl rfl (Nat.le_of_ble_eq_true rfl) dX3_next_107 (fun H locs hP hD hS => ?_)
              have hw : Wd D A s.heap H locs (wX3 k xh xrBy xaD xBy xLe xLi xFf xFp (xPl_6 + 1) r_4 xPl_2 xVa xDt xHo) := ⟨hP, hD, hS⟩
              refine lv_goto (tgt := 74) hx hb dX3_next_110 (by decide) ?_
              exact ih _ h _ _ _ hw (lv_sub hl [0] rfl)
            · cases h
              exact X_74 _ _ _ hw (lv_sub hl [0] rfl)
      exact LP_74 400 xPl_2 hL_74 _ _ _ hw (lv_sub hl [0] rfl)
    · refine lv_aload_n hx hb dX3_next_66 rfl (lv_at hl 0 rfl) ?_
      refine va_get (ci := 3) (v := .int r_4) (C := RX3) (T := TX3) (N := 12) hx hb hts hinX3 hown hK.1 hw.1 0 rfl rfl 7 (by decide) q_5 (fun _ h9 => h9) rfl dX3_next_67 ?_
      refine lv_iconst (v := 2) hx hb dX3_next_70 (by decide) ?_
      refine kb_icmp_ne (tgt := 113) hx hb dX3_next_71 (by decide) h (fun c_71 h => ?_) (fun c_71 h => ?_)
      · obtain ⟨xPl_10, hL_74, h⟩ := b1_inv h
        have X_74 : ∀ (H : Heap) (locs : List Loc) (ls : Array Slot), Wd D A s.heap H locs (wX3 k xh xrBy xaD xBy xLe xLi xFf xFp xPl_10 r_4 xPl_2 xVa xDt xHo) → lv_has ls 2 [(0, .ref xh)] → W p l e rmX3_next s m args below meth c H locs 0 0 Q (F0 m 131 ls []) := by
          intro H locs ls hw hl
          cases h
          exact J_63 _ _ _ hw (lv_sub hl [0] rfl)
        clear h
        have LP_74 : ∀ (n : Nat) (xPl_9 : Int32), f_X3_next_L74 xBy xLe r_4 n xPl_9 = some xPl_10 → ∀ (H : Heap) (locs : List Loc) (ls : Array Slot), Wd D A s.heap H locs (wX3 k xh xrBy xaD xBy xLe xLi xFf xFp xPl_9 r_4 xPl_2 xVa xDt xHo) → lv_has ls 2 [(0, .ref xh)] → W p l e rmX3_next s m args below meth c H locs 0 0 Q (F0 m 74 ls []) := by
          clear hL_74 hw hl
          intro n
          induction n with
          | zero => intro xPl_9 h; rw [f_X3_next_L74] at h; cases h
          | succ n ih =>
            intro xPl_9 h H locs ls hw hl
            rw [f_X3_next_L74] at h
            refine lv_aload_n hx hb dX3_next_74 rfl (lv_at hl 0 rfl) ?_
            refine va_get (ci := 3) (v := .int xPl_9) (C := RX3) (T := TX3) (N := 12) hx hb hts hinX3 hown hK.1 hw.1 0 rfl rfl 6 (by decide) q_1 (fun _ h9 => h9) rfl dX3_next_75 ?_
            refine lv_aload_n hx hb dX3_next_78 rfl (lv_at hl 0 rfl) ?_
            refine va_get (ci := 3) (v := .int xLe) (C := RX3) (T := TX3) (N := 12) hx hb hts hinX3 hown hK.1 hw.1 0 rfl rfl 1 (by decide) q_2 (fun _ h9 => h9) rfl dX3_next_79 ?_
            refine kb_icmp_ge (tgt := 131) hx hb dX3_next_82 (by decide) h (fun c_82 h => ?_) (fun c_82 h => ?_)
            · cases h
              exact X_74 _ _ _ hw (lv_sub hl [0] rfl)
            · refine lv_aload_n hx hb dX3_next_85 rfl (lv_at hl 0 rfl) ?_
              refine lv_aload_n hx hb dX3_next_86 rfl (lv_at hl 0 rfl) ?_
              refine va_get (ci := 3) (v := .int xPl_9) (C := RX3) (T := TX3) (N := 12) hx hb hts hinX3 hown hK.1 hw.1 0 rfl rfl 6 (by decide) q_1 (fun _ h9 => h9) rfl dX3_next_87 ?_
              obtain ⟨r_11, hf, h⟩ := b1_inv h
              refine k_callV (host := "") fx hK hA hw (c_X3_sortAt l D k xh xrBy xaD _ xBy xLe xLi xFf xFp xPl_9 r_4 xPl_2 xVa xDt xHo xPl_9 r_11 hf) (cwV 1 hts gX3_next_X3_sortAt rfl rfl rfl (by decide +kernel) ⟨by decide, by decide⟩) (As := [.int xPl_9]) (wr := []) (ws' := wX3 k xh xrBy xaD xBy xLe xLi xFf xFp xPl_9 r_4 xPl_2 xVa xDt xHo) [0, 1] [] [0, 1] rfl rfl (by decide) (by decide) (by decide) rfl (by decide) 3 rfl rfl [] rfl hl.1 rfl (Nat.le_of_ble_eq_true rfl) dX3_next_90 ⟨by decide, by decide⟩ (fun H locs (hw : Wd D A s.heap H locs (wX3 k xh xrBy xaD xBy xLe xLi xFf xFp xPl_9 r_4 xPl_2 xVa xDt xHo)) => ?_)
              refine W.eq (g2 := F0 m 93 ls ([.int r_11])) rfl ?_
              refine lv_aload_n hx hb dX3_next_93 rfl (lv_at hl 0 rfl) ?_
              refine va_get (ci := 3) (v := .int r_4) (C := RX3) (T := TX3) (N := 12) hx hb hts hinX3 hown hK.1 hw.1 0 rfl rfl 7 (by decide) q_5 (fun _ h9 => h9) rfl dX3_next_94 ?_
              refine kb_icmp_ne (tgt := 131) hx hb dX3_next_97 (by decide) h (fun c_97 h => ?_) (fun c_97 h => ?_)
              · refine lv_aload_n hx hb dX3_next_100 rfl (lv_at hl 0 rfl) ?_
                refine lv_dup hx hb dX3_next_101 rfl ?_
                refine va_get (ci := 3) (v := .int xPl_9) (C := RX3) (T := TX3) (N := 12) hx hb hts hinX3 hown hK.1 hw.1 0 rfl rfl 6 (by decide) q_1 (fun _ h9 => h9) rfl dX3_next_102 ?_
                refine lv_iconst (v := 1) hx hb dX3_next_105 (by decide) ?_
                refine lv_iadd hx hb dX3_next_106 ?_
                refine va_put (ci := 3) (v := .int (xPl_9 + 1)) (ty := tyX3 6) (C := RX3) (T := TX3) (N := 12) hx hb hts hinX3 tyX3 tyX3_ok nmX3 hown hK.1 hw.1 hw.2.1 hw.2.2 0 rfl rfl 6 (by decide) q_1 (fun _ h9 => h9) rfl (tyX3_ok 6 (by decide)) rfl rfl (Nat.le_of_ble_eq_true rfl) dX3_next_107 (fun H locs hP hD hS => ?_)
                have hw : Wd D A s.heap H locs (wX3 k xh xrBy xaD xBy xLe xLi xFf xFp (xPl_9 + 1) r_4 xPl_2 xVa xDt xHo) := ⟨hP, hD, hS⟩
                refine lv_goto (tgt := 74) hx hb dX3_next_110 (by decide) ?_
                exact ih _ h _ _ _ hw (lv_sub hl [0] rfl)
              · cases h
                exact X_74 _ _ _ hw (lv_sub hl [0] rfl)
        exact LP_74 400 xPl_2 hL_74 _ _ _ hw (lv_sub hl [0] rfl)
      · refine lv_aload_n hx hb dX3_next_113 rfl (lv_at hl 0 rfl) ?_
        refine va_get (ci := 3) (v := .int r_4) (C := RX3) (T := TX3) (N := 12) hx hb hts hinX3 hown hK.1 hw.1 0 rfl rfl 7 (by decide) q_5 (fun _ h9 => h9) rfl dX3_next_114 ?_
        refine lv_iconst (v := 3) hx hb dX3_next_117 (by decide) ?_
        refine kb_icmp_ne (tgt := 131) hx hb dX3_next_118 (by decide) h (fun c_118 h => ?_) (fun c_118 h => ?_)
        · refine lv_aload_n hx hb dX3_next_121 rfl (lv_at hl 0 rfl) ?_
          refine lv_dup hx hb dX3_next_122 rfl ?_
          refine va_get (ci := 3) (v := .int xPl_2) (C := RX3) (T := TX3) (N := 12) hx hb hts hinX3 hown hK.1 hw.1 0 rfl rfl 6 (by decide) q_1 (fun _ h9 => h9) rfl dX3_next_123 ?_
          refine lv_iconst (v := 1) hx hb dX3_next_126 (by decide) ?_
          refine lv_iadd hx hb dX3_next_127 ?_
          refine va_put (ci := 3) (v := .int (xPl_2 + 1)) (ty := tyX3 6) (C := RX3) (T := TX3) (N := 12) hx hb hts hinX3 tyX3 tyX3_ok nmX3 hown hK.1 hw.1 hw.2.1 hw.2.2 0 rfl rfl 6 (by decide) q_1 (fun _ h9 => h9) rfl (tyX3_ok 6 (by decide)) rfl rfl (Nat.le_of_ble_eq_true rfl) dX3_next_128 (fun H locs hP hD hS => ?_)
          have hw : Wd D A s.heap H locs (wX3 k xh xrBy xaD xBy xLe xLi xFf xFp (xPl_2 + 1) r_4 xPl_2 xVa xDt xHo) := ⟨hP, hD, hS⟩
          cases h
          exact J_63 _ _ _ hw (lv_sub hl [0] rfl)
        · cases h
          exact J_63 _ _ _ hw (lv_sub hl [0] rfl)
  clear h
  have LP_0 : ∀ (n : Nat) (xPl_1 : Int32), f_X3_next_L0 xBy xLe n xPl_1 = some xPl_2 → ∀ (H : Heap) (locs : List Loc) (ls : Array Slot), Wd D A s.heap H locs (wX3 k xh xrBy xaD xBy xLe xLi xFf xFp xPl_1 xSo xSt xVa xDt xHo) → lv_has ls 2 [(0, .ref xh)] → W p l e rmX3_next s m args below meth c H locs 0 0 Q (F0 m 0 ls []) := by
    clear hL_0 hw hl
    intro n
    induction n with
    | zero => intro xPl_1 h; rw [f_X3_next_L0] at h; cases h
    | succ n ih =>
      intro xPl_1 h H locs ls hw hl
      rw [f_X3_next_L0] at h
      refine lv_aload_n hx hb dX3_next_0 rfl (lv_at hl 0 rfl) ?_
      refine va_get (ci := 3) (v := .int xPl_1) (C := RX3) (T := TX3) (N := 12) hx hb hts hinX3 hown hK.1 hw.1 0 rfl rfl 6 (by decide) q_1 (fun _ h9 => h9) rfl dX3_next_1 ?_
      refine lv_aload_n hx hb dX3_next_4 rfl (lv_at hl 0 rfl) ?_
      refine va_get (ci := 3) (v := .int xLe) (C := RX3) (T := TX3) (N := 12) hx hb hts hinX3 hown hK.1 hw.1 0 rfl rfl 1 (by decide) q_2 (fun _ h9 => h9) rfl dX3_next_5 ?_
      refine kb_icmp_ge (tgt := 38) hx hb dX3_next_8 (by decide) h (fun c_8 h => ?_) (fun c_8 h => ?_)
      · cases h
        exact X_0 _ _ _ hw (lv_sub hl [0] rfl)
      · refine lv_aload_n hx hb dX3_next_11 rfl (lv_at hl 0 rfl) ?_
        refine va_get (ci := 3) (v := .ref xrBy) (C := RX3) (T := TX3) (N := 12) hx hb hts hinX3 hown hK.1 hw.1 0 rfl rfl 0 (by decide) q_3 (fun _ h9 => h9) rfl dX3_next_12 ?_
        refine lv_aload_n hx hb dX3_next_15 rfl (lv_at hl 0 rfl) ?_
        refine va_get (ci := 3) (v := .int xPl_1) (C := RX3) (T := TX3) (N := 12) hx hb hts hinX3 hown hK.1 hw.1 0 rfl rfl 6 (by decide) q_1 (fun _ h9 => h9) rfl dX3_next_16 ?_
        refine k_iald hx hb hK hw 1 rfl dX3_next_19 h (fun a_3 h => ?_)
        refine lv_bipush (v := 32) hx hb dX3_next_20 (by decide) ?_
        refine kb_icmp_ne (tgt := 38) hx hb dX3_next_22 (by decide) h (fun c_22 h => ?_) (fun c_22 h => ?_)
        · refine lv_aload_n hx hb dX3_next_25 rfl (lv_at hl 0 rfl) ?_
          refine lv_dup hx hb dX3_next_26 rfl ?_
          refine va_get (ci := 3) (v := .int xPl_1) (C := RX3) (T := TX3) (N := 12) hx hb hts hinX3 hown hK.1 hw.1 0 rfl rfl 6 (by decide) q_1 (fun _ h9 => h9) rfl dX3_next_27 ?_
          refine lv_iconst (v := 1) hx hb dX3_next_30 (by decide) ?_
          refine lv_iadd hx hb dX3_next_31 ?_
          refine va_put (ci := 3) (v := .int (xPl_1 + 1)) (ty := tyX3 6) (C := RX3) (T := TX3) (N := 12) hx hb hts hinX3 tyX3 tyX3_ok nmX3 hown hK.1 hw.1 hw.2.1 hw.2.2 0 rfl rfl 6 (by decide) q_1 (fun _ h9 => h9) rfl (tyX3_ok 6 (by decide)) rfl rfl (Nat.le_of_ble_eq_true rfl) dX3_next_32 (fun H locs hP hD hS => ?_)
          have hw : Wd D A s.heap H locs (wX3 k xh xrBy xaD xBy xLe xLi xFf xFp (xPl_1 + 1) xSo xSt xVa xDt xHo) := ⟨hP, hD, hS⟩
          refine lv_goto (tgt := 0) hx hb dX3_next_35 (by decide) ?_
          exact ih _ h _ _ _ hw (lv_sub hl [0] rfl)
        · cases h
          exact X_0 _ _ _ hw (lv_sub hl [0] rfl)
  exact LP_0 400 xPl hL_0 _ _ _ hw (lv_sub hl [0] rfl)
abbrev rmX3_takeNumber : Room := { frames := 2, cells := 0, slots := 0, locals := 43 }
set_option maxHeartbeats 4000000 in
set_option maxRecDepth 100000 in
theorem c_X3_takeNumber (l : Launch) (D : va_G) (k : Nat → ClassId) (xh xrBy xaD : Nat) (sz : Nat) (xBy : (Nat → Int32)) (xLe : Int32) (xLi : Int32) (xFf : Int32) (xFp : Int32) (xPl : Int32) (xSo : Int32) (xSt : Int32) (xVa : Int32) (xDt : Int32) (xHo : Int32) (p1 : Int32) (p2 : Int32) (r_ : Int32) (n_xFf : Int32) (n_xFp : Int32) (n_xPl : Int32) (n_xSo : Int32) (n_xSt : Int32) (n_xVa : Int32) (hf : f_X3_takeNumber xBy xLe xFf xFp xPl xVa p1 p2 = some (r_, n_xFf, n_xFp, n_xPl, n_xSo, n_xSt, n_xVa)) : mR l yX3_takeNumber wsX3_takeNumber rmX3_takeNumber D k sz [.ref xh, .int p1, .int p2] (wX3 k xh xrBy xaD xBy xLe xLi xFf xFp xPl xSo xSt xVa xDt xHo) (wX3 k xh xrBy xaD xBy xLe xLi n_xFf n_xFp n_xPl n_xSo n_xSt n_xVa xDt xHo) (some (.int r_)) := by
  refine mR_of (cc := cX3_takeNumber) (maxL := 4) (ret := some .boolean) (by decide) rfl (Nat.le_of_ble_eq_true rfl) [(0, .ref xh), (1, .int p1), (2, .int p2)] rfl ?_
  intro p e s m below meth c A ls args Q cx hK hA hw hl hQ
  have fx := cx.1
  obtain ⟨⟨hx, hb, hml, hown, hts⟩, hr, hlocks⟩ := cx
  have hinX3 : ∀ w ∈ wsX30, w ∈ wsX3_takeNumber := fun w h => List.mem_cons_of_mem _ (List.mem_append_right _ h)
  have q_1 := hts (.fieldLink RX3 52 "DebtRides$Reader" "sort" "I") (List.mem_of_getElem? (i := 1) rfl)
  have q_3 := hts (.fieldLink RX3 107 "DebtRides$Reader" "value" "I") (List.mem_of_getElem? (i := 3) rfl)
  have q_2 := hts (.fieldLink RX3 90 "DebtRides$Reader" "start" "I") (List.mem_of_getElem? (i := 2) rfl)
  have q_4 := hts (.fieldLink RX3 35 "DebtRides$Reader" "place" "I") (List.mem_of_getElem? (i := 4) rfl)
  have q_5 := hts (.fieldLink RX3 9 "DebtRides$Reader" "bytes" "[I") (List.mem_of_getElem? (i := 5) rfl)
  have q_23 := hts (.initialized RX7) (List.mem_of_getElem? (i := 23) rfl)
  have q_22 := hts (.static yX7_within) (List.mem_of_getElem? (i := 22) rfl)
  have h := hf
  unfold f_X3_takeNumber at h
  clear hf
  refine lv_aload_n hx hb dX3_takeNumber_0 rfl (lv_at hl 0 rfl) ?_
  obtain ⟨r_1, xFf_2, xFp_3, xPl_4, xSo_5, xSt_6, hf, h⟩ := b6_inv h
  refine k_callV (host := "") fx hK hA hw (c_X3_next l D k xh xrBy xaD _ xBy xLe xLi xFf xFp xPl xSo xSt xVa xDt xHo r_1 xFf_2 xFp_3 xPl_4 xSo_5 xSt_6 hf) (cwV 0 hts gX3_takeNumber_X3_next rfl rfl rfl (by decide +kernel) ⟨by decide, by decide⟩) (As := []) (wr := []) (ws' := wX3 k xh xrBy xaD xBy xLe xLi xFf_2 xFp_3 xPl_4 xSo_5 xSt_6 xVa xDt xHo) [0, 1] [] [0, 1] rfl rfl (by decide) (by decide) (by decide) rfl (by decide) 3 rfl rfl [] rfl hl.1 rfl (Nat.le_of_ble_eq_true rfl) dX3_takeNumber_1 ⟨by decide, by decide⟩ (fun H locs (hw : Wd D A s.heap H locs (wX3 k xh xrBy xaD xBy xLe xLi xFf_2 xFp_3 xPl_4 xSo_5 xSt_6 xVa xDt xHo)) => ?_)
  refine W.eq (g2 := F0 m 4 ls ([.int r_1])) rfl ?_
  refine kb_if_ne (tgt := 9) hx hb dX3_takeNumber_4 (by decide) h (fun c_4 h => ?_) (fun c_4 h => ?_)
  · refine lv_iconst (v := 0) hx hb dX3_takeNumber_7 (by decide) ?_
    cases h
    exact k_zret hx hb hr hlocks hw (by decide) rfl dX3_takeNumber_8 hQ
  · refine lv_aload_n hx hb dX3_takeNumber_9 rfl (lv_at hl 0 rfl) ?_
    refine va_get (ci := 3) (v := .int xSo_5) (C := RX3) (T := TX3) (N := 12) hx hb hts hinX3 hown hK.1 hw.1 0 rfl rfl 7 (by decide) q_1 (fun _ h9 => h9) rfl dX3_takeNumber_10 ?_
    refine lv_iconst (v := 2) hx hb dX3_takeNumber_13 (by decide) ?_
    refine kb_icmp_eq (tgt := 27) hx hb dX3_takeNumber_14 (by decide) h (fun c_14 h => ?_) (fun c_14 h => ?_)
    · refine lv_aload_n hx hb dX3_takeNumber_27 rfl (lv_at hl 0 rfl) ?_
      refine lv_iconst (v := 0) hx hb dX3_takeNumber_28 (by decide) ?_
      refine va_put (ci := 3) (v := .int 0) (ty := tyX3 9) (C := RX3) (T := TX3) (N := 12) hx hb hts hinX3 tyX3 tyX3_ok nmX3 hown hK.1 hw.1 hw.2.1 hw.2.2 0 rfl rfl 9 (by decide) q_3 (fun _ h9 => h9) rfl (tyX3_ok 9 (by decide)) rfl rfl (Nat.le_of_ble_eq_true rfl) dX3_takeNumber_29 (fun H locs hP hD hS => ?_)
      have hw : Wd D A s.heap H locs (wX3 k xh xrBy xaD xBy xLe xLi xFf_2 xFp_3 xPl_4 xSo_5 xSt_6 0 xDt xHo) := ⟨hP, hD, hS⟩
      refine lv_aload_n hx hb dX3_takeNumber_32 rfl (lv_at hl 0 rfl) ?_
      refine va_get (ci := 3) (v := .int xSt_6) (C := RX3) (T := TX3) (N := 12) hx hb hts hinX3 hown hK.1 hw.1 0 rfl rfl 8 (by decide) q_2 (fun _ h9 => h9) rfl dX3_takeNumber_33 ?_
      refine lv_istore_n (lv' := [(3, .int xSt_6), (0, .ref xh), (1, .int p1), (2, .int p2)]) hx hb dX3_takeNumber_36 rfl hl (by decide) rfl (fun ls hl => ?_)
      obtain ⟨xVa_9, hL_37, h⟩ := b1_inv h
      have X_37 : ∀ (H : Heap) (locs : List Loc) (ls : Array Slot), Wd D A s.heap H locs (wX3 k xh xrBy xaD xBy xLe xLi xFf_2 xFp_3 xPl_4 xSo_5 xSt_6 xVa_9 xDt xHo) → lv_has ls 4 [(0, .ref xh), (1, .int p1), (2, .int p2)] → W p l e rmX3_takeNumber s m args below meth c H locs 0 0 Q (F0 m 72 ls []) := by
        intro H locs ls hw hl
        refine lv_aload_n hx hb dX3_takeNumber_72 rfl (lv_at hl 0 rfl) ?_
        refine va_get (ci := 3) (v := .int xVa_9) (C := RX3) (T := TX3) (N := 12) hx hb hts hinX3 hown hK.1 hw.1 0 rfl rfl 9 (by decide) q_3 (fun _ h9 => h9) rfl dX3_takeNumber_73 ?_
        refine lv_iload_n hx hb dX3_takeNumber_76 rfl (lv_at hl 1 rfl) ?_
        refine lv_iload_n hx hb dX3_takeNumber_77 rfl (lv_at hl 2 rfl) ?_
        obtain ⟨r_11, hf, h⟩ := b1_inv h
        refine k_callN (b := 0) (C := "") fx hK hA hw (c_X7_within l D k _ xVa_9 p1 p2 r_11 hf) (⟨va_cnB 3 hts gX3_takeNumber_X7_within_n135 rfl rfl rfl hK.2.2 q_23 (by decide +kernel) ⟨by decide, by decide⟩, q_22, trivial⟩) (As := [.int xVa_9, .int p1, .int p2]) (wr := [(xh, .inr (3, [.ref xrBy, .int xLe, .ref xaD, .int xLi, .int xFf_2, .int xFp_3, .int xPl_4, .int xSo_5, .int xSt_6, .int xVa_9, .int xDt, .int xHo])), (xrBy, .inl (k 0, 160, .inl xBy))]) (ws' := wX3 k xh xrBy xaD xBy xLe xLi xFf_2 xFp_3 xPl_4 xSo_5 xSt_6 xVa_9 xDt xHo) [] [0, 1] [0, 1] rfl rfl (by decide) (by decide) (by decide) rfl (by decide) [] rfl hl.1 rfl (Nat.le_of_ble_eq_true rfl) dX3_takeNumber_78 ⟨by decide, by decide⟩ (fun H locs (hw : Wd D A s.heap H locs (wX3 k xh xrBy xaD xBy xLe xLi xFf_2 xFp_3 xPl_4 xSo_5 xSt_6 xVa_9 xDt xHo)) => ?_)
        refine W.eq (g2 := F0 m 81 ls ([.int r_11])) rfl ?_
        refine kb_if_ne (tgt := 96) hx hb dX3_takeNumber_81 (by decide) h (fun c_81 h => ?_) (fun c_81 h => ?_)
        · refine lv_aload_n hx hb dX3_takeNumber_84 rfl (lv_at hl 0 rfl) ?_
          refine lv_iconst (v := 3) hx hb dX3_takeNumber_85 (by decide) ?_
          refine lv_aload_n hx hb dX3_takeNumber_86 rfl (lv_at hl 0 rfl) ?_
          refine va_get (ci := 3) (v := .int xSt_6) (C := RX3) (T := TX3) (N := 12) hx hb hts hinX3 hown hK.1 hw.1 0 rfl rfl 8 (by decide) q_2 (fun _ h9 => h9) rfl dX3_takeNumber_87 ?_
          obtain ⟨r_12, xFf_13, xFp_14, hf, h⟩ := b3_inv h
          refine k_callV (host := "") fx hK hA hw (c_X3_fail l D k xh xrBy xaD _ xBy xLe xLi xFf_2 xFp_3 xPl_4 xSo_5 xSt_6 xVa_9 xDt xHo 3 xSt_6 r_12 xFf_13 xFp_14 hf) (cwV 2 hts gX3_takeNumber_X3_fail rfl rfl rfl (by decide +kernel) ⟨by decide, by decide⟩) (As := [.int 3, .int xSt_6]) (wr := []) (ws' := wX3 k xh xrBy xaD xBy xLe xLi xFf_13 xFp_14 xPl_4 xSo_5 xSt_6 xVa_9 xDt xHo) [0, 1] [] [0, 1] rfl rfl (by decide) (by decide) (by decide) rfl (by decide) 3 rfl rfl [] rfl hl.1 rfl (Nat.le_of_ble_eq_true rfl) dX3_takeNumber_90 ⟨by decide, by decide⟩ (fun H locs (hw : Wd D A s.heap H locs (wX3 k xh xrBy xaD xBy xLe xLi xFf_13 xFp_14 xPl_4 xSo_5 xSt_6 xVa_9 xDt xHo)) => ?_)
          refine W.eq (g2 := F0 m 93 ls ([.int r_12])) rfl ?_
          refine kb_if_eq (tgt := 100) hx hb dX3_takeNumber_93 (by decide) h (fun c_93 h => ?_) (fun c_93 h => ?_)
          · refine lv_iconst (v := 0) hx hb dX3_takeNumber_100 (by decide) ?_
            cases h
            exact k_zret hx hb hr hlocks hw (by decide) rfl dX3_takeNumber_101 hQ
          · refine lv_iconst (v := 1) hx hb dX3_takeNumber_96 (by decide) ?_
            refine lv_goto (tgt := 101) hx hb dX3_takeNumber_97 (by decide) ?_
            cases h
            exact k_zret hx hb hr hlocks hw (by decide) rfl dX3_takeNumber_101 hQ
        · refine lv_iconst (v := 1) hx hb dX3_takeNumber_96 (by decide) ?_
          refine lv_goto (tgt := 101) hx hb dX3_takeNumber_97 (by decide) ?_
          cases h
          exact k_zret hx hb hr hlocks hw (by decide) rfl dX3_takeNumber_101 hQ
      clear h
      have LP_37 : ∀ (n : Nat) (v3_7 : Int32) (xVa_8 : Int32), f_X3_takeNumber_L37 xBy xPl_4 n v3_7 xVa_8 = some xVa_9 → ∀ (H : Heap) (locs : List Loc) (ls : Array Slot), Wd D A s.heap H locs (wX3 k xh xrBy xaD xBy xLe xLi xFf_2 xFp_3 xPl_4 xSo_5 xSt_6 xVa_8 xDt xHo) → lv_has ls 4 [(0, .ref xh), (1, .int p1), (2, .int p2), (3, .int v3_7)] → W p l e rmX3_takeNumber s m args below meth c H locs 0 0 Q (F0 m 37 ls []) := by
        clear hL_37 hw hl
        intro n
        induction n with
        | zero => intro v3_7 xVa_8 h; rw [f_X3_takeNumber_L37] at h; cases h
        | succ n ih =>
          intro v3_7 xVa_8 h H locs ls hw hl
          rw [f_X3_takeNumber_L37] at h
          refine lv_iload_n hx hb dX3_takeNumber_37 rfl (lv_at hl 3 rfl) ?_
          refine lv_aload_n hx hb dX3_takeNumber_38 rfl (lv_at hl 0 rfl) ?_
          refine va_get (ci := 3) (v := .int xPl_4) (C := RX3) (T := TX3) (N := 12) hx hb hts hinX3 hown hK.1 hw.1 0 rfl rfl 6 (by decide) q_4 (fun _ h9 => h9) rfl dX3_takeNumber_39 ?_
          refine kb_icmp_ge (tgt := 72) hx hb dX3_takeNumber_42 (by decide) h (fun c_42 h => ?_) (fun c_42 h => ?_)
          · cases h
            exact X_37 _ _ _ hw (lv_sub hl [0, 1, 2] rfl)
          · refine lv_aload_n hx hb dX3_takeNumber_45 rfl (lv_at hl 0 rfl) ?_
            refine lv_aload_n hx hb dX3_takeNumber_46 rfl (lv_at hl 0 rfl) ?_
            refine va_get (ci := 3) (v := .int xVa_8) (C := RX3) (T := TX3) (N := 12) hx hb hts hinX3 hown hK.1 hw.1 0 rfl rfl 9 (by decide) q_3 (fun _ h9 => h9) rfl dX3_takeNumber_47 ?_
            refine lv_bipush (v := 10) hx hb dX3_takeNumber_50 (by decide) ?_
            refine lv_imul hx hb dX3_takeNumber_52 ?_
            refine lv_aload_n hx hb dX3_takeNumber_53 rfl (lv_at hl 0 rfl) ?_
            refine va_get (ci := 3) (v := .ref xrBy) (C := RX3) (T := TX3) (N := 12) hx hb hts hinX3 hown hK.1 hw.1 0 rfl rfl 0 (by decide) q_5 (fun _ h9 => h9) rfl dX3_takeNumber_54 ?_
            refine lv_iload_n hx hb dX3_takeNumber_57 rfl (lv_at hl 3 rfl) ?_
            refine k_iald hx hb hK hw 1 rfl dX3_takeNumber_58 h (fun a_10 h => ?_)
            refine lv_iadd hx hb dX3_takeNumber_59 ?_
            refine lv_bipush (v := 48) hx hb dX3_takeNumber_60 (by decide) ?_
            refine lv_isub hx hb dX3_takeNumber_62 ?_
            refine va_put (ci := 3) (v := .int (((xVa_8 * 10) + a_10) - 48)) (ty := tyX3 9) (C := RX3) (T := TX3) (N := 12) hx hb hts hinX3 tyX3 tyX3_ok nmX3 hown hK.1 hw.1 hw.2.1 hw.2.2 0 rfl rfl 9 (by decide) q_3 (fun _ h9 => h9) rfl (tyX3_ok 9 (by decide)) rfl rfl (Nat.le_of_ble_eq_true rfl) dX3_takeNumber_63 (fun H locs hP hD hS => ?_)
            have hw : Wd D A s.heap H locs (wX3 k xh xrBy xaD xBy xLe xLi xFf_2 xFp_3 xPl_4 xSo_5 xSt_6 (((xVa_8 * 10) + a_10) - 48) xDt xHo) := ⟨hP, hD, hS⟩
            refine lv_iinc (v := v3_7 + 1) (lv' := [(3, .int (v3_7 + 1)), (0, .ref xh), (1, .int p1), (2, .int p2)]) hx hb dX3_takeNumber_66 hl (k := 3) rfl rfl (by decide) rfl (fun ls hl => ?_)
            refine lv_goto (tgt := 37) hx hb dX3_takeNumber_69 (by decide) ?_
            exact ih _ _ h _ _ _ hw (lv_sub hl [1, 2, 3, 0] rfl)
      exact LP_37 400 xSt_6 0 hL_37 _ _ _ hw (lv_sub hl [1, 2, 3, 0] rfl)
    · refine lv_aload_n hx hb dX3_takeNumber_17 rfl (lv_at hl 0 rfl) ?_
      refine lv_iconst (v := 2) hx hb dX3_takeNumber_18 (by decide) ?_
      refine lv_aload_n hx hb dX3_takeNumber_19 rfl (lv_at hl 0 rfl) ?_
      refine va_get (ci := 3) (v := .int xSt_6) (C := RX3) (T := TX3) (N := 12) hx hb hts hinX3 hown hK.1 hw.1 0 rfl rfl 8 (by decide) q_2 (fun _ h9 => h9) rfl dX3_takeNumber_20 ?_
      obtain ⟨r_15, xFf_16, xFp_17, hf, h⟩ := b3_inv h
      refine k_callV (host := "") fx hK hA hw (c_X3_fail l D k xh xrBy xaD _ xBy xLe xLi xFf_2 xFp_3 xPl_4 xSo_5 xSt_6 xVa xDt xHo 2 xSt_6 r_15 xFf_16 xFp_17 hf) (cwV 2 hts gX3_takeNumber_X3_fail rfl rfl rfl (by decide +kernel) ⟨by decide, by decide⟩) (As := [.int 2, .int xSt_6]) (wr := []) (ws' := wX3 k xh xrBy xaD xBy xLe xLi xFf_16 xFp_17 xPl_4 xSo_5 xSt_6 xVa xDt xHo) [0, 1] [] [0, 1] rfl rfl (by decide) (by decide) (by decide) rfl (by decide) 3 rfl rfl [] rfl hl.1 rfl (Nat.le_of_ble_eq_true rfl) dX3_takeNumber_23 ⟨by decide, by decide⟩ (fun H locs (hw : Wd D A s.heap H locs (wX3 k xh xrBy xaD xBy xLe xLi xFf_16 xFp_17 xPl_4 xSo_5 xSt_6 xVa xDt xHo)) => ?_)
      refine W.eq (g2 := F0 m 26 ls ([.int r_15])) rfl ?_
      obtain ⟨z_18, hz, h⟩ := b1_inv h
      obtain ⟨hz1, hz2⟩ := bz_inv hz
      refine k_lit hz1.symm ?_
      rw [← hz1] at hz2
      cases h
      exact k_zret hx hb hr hlocks hw hz2 rfl dX3_takeNumber_26 hQ
abbrev rmX3_takeSemicolon : Room := { frames := 2, cells := 0, slots := 0, locals := 43 }
set_option maxHeartbeats 4000000 in
set_option maxRecDepth 100000 in
theorem c_X3_takeSemicolon (l : Launch) (D : va_G) (k : Nat → ClassId) (xh xrBy xaD : Nat) (sz : Nat) (xBy : (Nat → Int32)) (xLe : Int32) (xLi : Int32) (xFf : Int32) (xFp : Int32) (xPl : Int32) (xSo : Int32) (xSt : Int32) (xVa : Int32) (xDt : Int32) (xHo : Int32) (r_ : Int32) (n_xFf : Int32) (n_xFp : Int32) (n_xPl : Int32) (n_xSo : Int32) (n_xSt : Int32) (hf : f_X3_takeSemicolon xBy xLe xFf xFp xPl = some (r_, n_xFf, n_xFp, n_xPl, n_xSo, n_xSt)) : mR l yX3_takeSemicolon wsX3_takeSemicolon rmX3_takeSemicolon D k sz [.ref xh] (wX3 k xh xrBy xaD xBy xLe xLi xFf xFp xPl xSo xSt xVa xDt xHo) (wX3 k xh xrBy xaD xBy xLe xLi n_xFf n_xFp n_xPl n_xSo n_xSt xVa xDt xHo) (some (.int r_)) := by
  refine mR_of (cc := cX3_takeSemicolon) (maxL := 1) (ret := some .boolean) (by decide) rfl (Nat.le_of_ble_eq_true rfl) [(0, .ref xh)] rfl ?_
  intro p e s m below meth c A ls args Q cx hK hA hw hl hQ
  have fx := cx.1
  obtain ⟨⟨hx, hb, hml, hown, hts⟩, hr, hlocks⟩ := cx
  have hinX3 : ∀ w ∈ wsX30, w ∈ wsX3_takeSemicolon := fun w h => List.mem_cons_of_mem _ (List.mem_append_right _ h)
  have q_1 := hts (.fieldLink RX3 52 "DebtRides$Reader" "sort" "I") (List.mem_of_getElem? (i := 1) rfl)
  have q_2 := hts (.fieldLink RX3 90 "DebtRides$Reader" "start" "I") (List.mem_of_getElem? (i := 2) rfl)
  have h := hf
  unfold f_X3_takeSemicolon at h
  clear hf
  refine lv_aload_n hx hb dX3_takeSemicolon_0 rfl (lv_at hl 0 rfl) ?_
  obtain ⟨r_1, xFf_2, xFp_3, xPl_4, xSo_5, xSt_6, hf, h⟩ := b6_inv h
  refine k_callV (host := "") fx hK hA hw (c_X3_next l D k xh xrBy xaD _ xBy xLe xLi xFf xFp xPl xSo xSt xVa xDt xHo r_1 xFf_2 xFp_3 xPl_4 xSo_5 xSt_6 hf) (cwV 0 hts gX3_takeSemicolon_X3_next rfl rfl rfl (by decide +kernel) ⟨by decide, by decide⟩) (As := []) (wr := []) (ws' := wX3 k xh xrBy xaD xBy xLe xLi xFf_2 xFp_3 xPl_4 xSo_5 xSt_6 xVa xDt xHo) [0, 1] [] [0, 1] rfl rfl (by decide) (by decide) (by decide) rfl (by decide) 3 rfl rfl [] rfl hl.1 rfl (Nat.le_of_ble_eq_true rfl) dX3_takeSemicolon_1 ⟨by decide, by decide⟩ (fun H locs (hw : Wd D A s.heap H locs (wX3 k xh xrBy xaD xBy xLe xLi xFf_2 xFp_3 xPl_4 xSo_5 xSt_6 xVa xDt xHo)) => ?_)
  refine W.eq (g2 := F0 m 4 ls ([.int r_1])) rfl ?_
  refine kb_if_eq (tgt := 31) hx hb dX3_takeSemicolon_4 (by decide) h (fun c_4 h => ?_) (fun c_4 h => ?_)
  · refine lv_iconst (v := 0) hx hb dX3_takeSemicolon_31 (by decide) ?_
    cases h
    exact k_zret hx hb hr hlocks hw (by decide) rfl dX3_takeSemicolon_32 hQ
  · refine lv_aload_n hx hb dX3_takeSemicolon_7 rfl (lv_at hl 0 rfl) ?_
    refine va_get (ci := 3) (v := .int xSo_5) (C := RX3) (T := TX3) (N := 12) hx hb hts hinX3 hown hK.1 hw.1 0 rfl rfl 7 (by decide) q_1 (fun _ h9 => h9) rfl dX3_takeSemicolon_8 ?_
    refine lv_iconst (v := 3) hx hb dX3_takeSemicolon_11 (by decide) ?_
    refine kb_icmp_eq (tgt := 27) hx hb dX3_takeSemicolon_12 (by decide) h (fun c_12 h => ?_) (fun c_12 h => ?_)
    · refine lv_iconst (v := 1) hx hb dX3_takeSemicolon_27 (by decide) ?_
      refine lv_goto (tgt := 32) hx hb dX3_takeSemicolon_28 (by decide) ?_
      cases h
      exact k_zret hx hb hr hlocks hw (by decide) rfl dX3_takeSemicolon_32 hQ
    · refine lv_aload_n hx hb dX3_takeSemicolon_15 rfl (lv_at hl 0 rfl) ?_
      refine lv_iconst (v := 2) hx hb dX3_takeSemicolon_16 (by decide) ?_
      refine lv_aload_n hx hb dX3_takeSemicolon_17 rfl (lv_at hl 0 rfl) ?_
      refine va_get (ci := 3) (v := .int xSt_6) (C := RX3) (T := TX3) (N := 12) hx hb hts hinX3 hown hK.1 hw.1 0 rfl rfl 8 (by decide) q_2 (fun _ h9 => h9) rfl dX3_takeSemicolon_18 ?_
      obtain ⟨r_7, xFf_8, xFp_9, hf, h⟩ := b3_inv h
      refine k_callV (host := "") fx hK hA hw (c_X3_fail l D k xh xrBy xaD _ xBy xLe xLi xFf_2 xFp_3 xPl_4 xSo_5 xSt_6 xVa xDt xHo 2 xSt_6 r_7 xFf_8 xFp_9 hf) (cwV 2 hts gX3_takeSemicolon_X3_fail rfl rfl rfl (by decide +kernel) ⟨by decide, by decide⟩) (As := [.int 2, .int xSt_6]) (wr := []) (ws' := wX3 k xh xrBy xaD xBy xLe xLi xFf_8 xFp_9 xPl_4 xSo_5 xSt_6 xVa xDt xHo) [0, 1] [] [0, 1] rfl rfl (by decide) (by decide) (by decide) rfl (by decide) 3 rfl rfl [] rfl hl.1 rfl (Nat.le_of_ble_eq_true rfl) dX3_takeSemicolon_21 ⟨by decide, by decide⟩ (fun H locs (hw : Wd D A s.heap H locs (wX3 k xh xrBy xaD xBy xLe xLi xFf_8 xFp_9 xPl_4 xSo_5 xSt_6 xVa xDt xHo)) => ?_)
      refine W.eq (g2 := F0 m 24 ls ([.int r_7])) rfl ?_
      refine kb_if_eq (tgt := 31) hx hb dX3_takeSemicolon_24 (by decide) h (fun c_24 h => ?_) (fun c_24 h => ?_)
      · refine lv_iconst (v := 0) hx hb dX3_takeSemicolon_31 (by decide) ?_
        cases h
        exact k_zret hx hb hr hlocks hw (by decide) rfl dX3_takeSemicolon_32 hQ
      · refine lv_iconst (v := 1) hx hb dX3_takeSemicolon_27 (by decide) ?_
        refine lv_goto (tgt := 32) hx hb dX3_takeSemicolon_28 (by decide) ?_
        cases h
        exact k_zret hx hb hr hlocks hw (by decide) rfl dX3_takeSemicolon_32 hQ
abbrev rmX3_takePerson : Room := { frames := 3, cells := 0, slots := 0, locals := 66 }
set_option maxHeartbeats 4000000 in
set_option maxRecDepth 100000 in
theorem c_X3_takePerson (l : Launch) (D : va_G) (k : Nat → ClassId) (xh xrBy xaD drNa drMo drWa drDe : Nat) (sz : Nat) (xBy : (Nat → Int32)) (xLe : Int32) (xLi : Int32) (xFf : Int32) (xFp : Int32) (xPl : Int32) (xSo : Int32) (xSt : Int32) (xVa : Int32) (xDt : Int32) (xHo : Int32) (dPe : Int32) (dDa : Int32) (dDr : Int32) (dNa : (Nat → Int32)) (dMo : (Nat → Int32)) (dWa : (Nat → Int32)) (dDe : (Nat → Int32)) (p1 : Int32) (r_ : Int32) (n_xFf : Int32) (n_xFp : Int32) (n_xPl : Int32) (n_xSo : Int32) (n_xSt : Int32) (n_xVa : Int32) (n_dPe : Int32) (n_dNa : (Nat → Int32)) (n_dMo : (Nat → Int32)) (n_dWa : (Nat → Int32)) (hf : f_X3_takePerson xBy xLe xFf xFp xPl xSo xSt xVa dPe dNa dMo dWa p1 = some (r_, n_xFf, n_xFp, n_xPl, n_xSo, n_xSt, n_xVa, n_dPe, n_dNa, n_dMo, n_dWa)) : mR l yX3_takePerson wsX3_takePerson rmX3_takePerson D k sz [.ref xh, .int p1] (wX3 k xh xrBy xaD xBy xLe xLi xFf xFp xPl xSo xSt xVa xDt xHo ++ (wX1 k xaD drNa drMo drWa drDe dPe dDa dDr dNa dMo dWa dDe)) (wX3 k xh xrBy xaD xBy xLe xLi n_xFf n_xFp n_xPl n_xSo n_xSt n_xVa xDt xHo ++ (wX1 k xaD drNa drMo drWa drDe n_dPe dDa dDr n_dNa n_dMo n_dWa dDe)) (some (.int r_)) := by
  refine mR_of (cc := cX3_takePerson) (maxL := 3) (ret := some .boolean) (by decide) rfl (Nat.le_of_ble_eq_true rfl) [(0, .ref xh), (1, .int p1)] rfl ?_
  intro p e s m below meth c A ls args Q cx hK hA hw hl hQ
  have fx := cx.1
  obtain ⟨⟨hx, hb, hml, hown, hts⟩, hr, hlocks⟩ := cx
  have hinX3 : ∀ w ∈ wsX30, w ∈ wsX3_takePerson := fun w h => List.mem_cons_of_mem _ (List.mem_append_left _ (List.mem_append_right _ h))
  have hinX1 : ∀ w ∈ wsX10, w ∈ wsX3_takePerson := fun w h => List.mem_cons_of_mem _ (List.mem_append_right _ h)
  have q_1 := hts (.fieldLink RX3 18 "DebtRides$Reader" "draft" "LDebtRides$Land;") (List.mem_of_getElem? (i := 1) rfl)
  have q_2 := hts (.fieldLink RX3 61 "DebtRides$Land" "people" "I") (List.mem_of_getElem? (i := 2) rfl)
  have q_4 := hts (.fieldLink RX3 104 "DebtRides$Land" "money" "[I") (List.mem_of_getElem? (i := 4) rfl)
  have q_5 := hts (.fieldLink RX3 107 "DebtRides$Reader" "value" "I") (List.mem_of_getElem? (i := 5) rfl)
  have q_6 := hts (.fieldLink RX3 110 "DebtRides$Land" "wage" "[I") (List.mem_of_getElem? (i := 6) rfl)
  have q_7 := hts (.fieldLink RX3 113 "DebtRides$Land" "nature" "[I") (List.mem_of_getElem? (i := 7) rfl)
  have q_3 := hts (.fieldLink RX3 90 "DebtRides$Reader" "start" "I") (List.mem_of_getElem? (i := 3) rfl)
  have h := hf
  unfold f_X3_takePerson at h
  clear hf
  refine lv_aload_n hx hb dX3_takePerson_0 rfl (lv_at hl 0 rfl) ?_
  refine va_get (ci := 3) (v := .ref xaD) (C := RX3) (T := TX3) (N := 12) hx hb hts hinX3 hown hK.1 hw.1 0 rfl rfl 2 (by decide) q_1 (fun _ h9 => h9) rfl dX3_takePerson_1 ?_
  refine va_get (ci := 1) (v := .int dPe) (C := RX1) (T := TX1) (N := 7) hx hb hts hinX1 hown hK.1 hw.1 2 rfl rfl 0 (by decide) q_2 (fun _ h9 => h9) rfl dX3_takePerson_4 ?_
  refine lv_istore_n (lv' := [(2, .int dPe), (0, .ref xh), (1, .int p1)]) hx hb dX3_takePerson_7 rfl hl (by decide) rfl (fun ls hl => ?_)
  refine lv_iload_n hx hb dX3_takePerson_8 rfl (lv_at hl 0 rfl) ?_
  refine lv_iconst (v := 5) hx hb dX3_takePerson_9 (by decide) ?_
  refine kb_icmp_lt (tgt := 23) hx hb dX3_takePerson_10 (by decide) h (fun c_10 h => ?_) (fun c_10 h => ?_)
  · refine lv_aload_n hx hb dX3_takePerson_23 rfl (lv_at hl 1 rfl) ?_
    refine lv_iconst (v := 0) hx hb dX3_takePerson_24 (by decide) ?_
    refine lv_bipush (v := 99) hx hb dX3_takePerson_25 (by decide) ?_
    obtain ⟨r_1, xFf_2, xFp_3, xPl_4, xSo_5, xSt_6, xVa_7, hf, h⟩ := b7_inv h
    refine k_callV (host := "") fx hK hA hw (c_X3_takeNumber l D k xh xrBy xaD _ xBy xLe xLi xFf xFp xPl xSo xSt xVa xDt xHo 0 99 r_1 xFf_2 xFp_3 xPl_4 xSo_5 xSt_6 xVa_7 hf) (cwV 2 hts gX3_takePerson_X3_takeNumber rfl rfl rfl (by decide +kernel) ⟨by decide, by decide⟩) (As := [.int 0, .int 99]) (wr := [(xaD, .inr (1, [.int dPe, .int dDa, .int dDr, .ref drNa, .ref drMo, .ref drWa, .ref drDe])), (drNa, .inl (k 0, 5, .inl dNa)), (drMo, .inl (k 0, 5, .inl dMo)), (drWa, .inl (k 0, 5, .inl dWa)), (drDe, .inl (k 0, 25, .inl dDe))]) (ws' := wX3 k xh xrBy xaD xBy xLe xLi xFf_2 xFp_3 xPl_4 xSo_5 xSt_6 xVa_7 xDt xHo ++ (wX1 k xaD drNa drMo drWa drDe dPe dDa dDr dNa dMo dWa dDe)) [0, 1] [2, 3, 4, 5, 6] [5, 6, 0, 1, 2, 3, 4] rfl rfl (by decide) (by decide) (by decide) rfl (by decide) 3 rfl rfl [] rfl hl.1 rfl (Nat.le_of_ble_eq_true rfl) dX3_takePerson_27 ⟨by decide, by decide⟩ (fun H locs (hw : Wd D A s.heap H locs (wX3 k xh xrBy xaD xBy xLe xLi xFf_2 xFp_3 xPl_4 xSo_5 xSt_6 xVa_7 xDt xHo ++ (wX1 k xaD drNa drMo drWa drDe dPe dDa dDr dNa dMo dWa dDe))) => ?_)
    refine W.eq (g2 := F0 m 30 ls ([.int r_1])) rfl ?_
    refine kb_if_ne (tgt := 35) hx hb dX3_takePerson_30 (by decide) h (fun c_30 h => ?_) (fun c_30 h => ?_)
    · refine lv_iconst (v := 0) hx hb dX3_takePerson_33 (by decide) ?_
      cases h
      exact k_zret hx hb hr hlocks hw (by decide) rfl dX3_takePerson_34 hQ
    · refine lv_aload_n hx hb dX3_takePerson_35 rfl (lv_at hl 1 rfl) ?_
      refine va_get (ci := 3) (v := .ref xaD) (C := RX3) (T := TX3) (N := 12) hx hb hts hinX3 hown hK.1 hw.1 0 rfl rfl 2 (by decide) q_1 (fun _ h9 => h9) rfl dX3_takePerson_36 ?_
      refine va_get (ci := 1) (v := .ref drMo) (C := RX1) (T := TX1) (N := 7) hx hb hts hinX1 hown hK.1 hw.1 2 rfl rfl 4 (by decide) q_4 (fun _ h9 => h9) rfl dX3_takePerson_39 ?_
      refine lv_iload_n hx hb dX3_takePerson_42 rfl (lv_at hl 0 rfl) ?_
      refine lv_aload_n hx hb dX3_takePerson_43 rfl (lv_at hl 1 rfl) ?_
      refine va_get (ci := 3) (v := .int xVa_7) (C := RX3) (T := TX3) (N := 12) hx hb hts hinX3 hown hK.1 hw.1 0 rfl rfl 9 (by decide) q_5 (fun _ h9 => h9) rfl dX3_takePerson_44 ?_
      refine k_iast hx hb hK hw 4 rfl dX3_takePerson_47 h (fun dMo_8 h H locs (hw : Wd D A s.heap H locs (wX3 k xh xrBy xaD xBy xLe xLi xFf_2 xFp_3 xPl_4 xSo_5 xSt_6 xVa_7 xDt xHo ++ (wX1 k xaD drNa drMo drWa drDe dPe dDa dDr dNa dMo_8 dWa dDe))) => ?_)
      refine lv_aload_n hx hb dX3_takePerson_48 rfl (lv_at hl 1 rfl) ?_
      refine lv_iconst (v := 0) hx hb dX3_takePerson_49 (by decide) ?_
      refine lv_bipush (v := 9) hx hb dX3_takePerson_50 (by decide) ?_
      obtain ⟨r_9, xFf_10, xFp_11, xPl_12, xSo_13, xSt_14, xVa_15, hf, h⟩ := b7_inv h
      refine k_callV (host := "") fx hK hA hw (c_X3_takeNumber l D k xh xrBy xaD _ xBy xLe xLi xFf_2 xFp_3 xPl_4 xSo_5 xSt_6 xVa_7 xDt xHo 0 9 r_9 xFf_10 xFp_11 xPl_12 xSo_13 xSt_14 xVa_15 hf) (cwV 2 hts gX3_takePerson_X3_takeNumber rfl rfl rfl (by decide +kernel) ⟨by decide, by decide⟩) (As := [.int 0, .int 9]) (wr := [(xaD, .inr (1, [.int dPe, .int dDa, .int dDr, .ref drNa, .ref drMo, .ref drWa, .ref drDe])), (drNa, .inl (k 0, 5, .inl dNa)), (drMo, .inl (k 0, 5, .inl dMo_8)), (drWa, .inl (k 0, 5, .inl dWa)), (drDe, .inl (k 0, 25, .inl dDe))]) (ws' := wX3 k xh xrBy xaD xBy xLe xLi xFf_10 xFp_11 xPl_12 xSo_13 xSt_14 xVa_15 xDt xHo ++ (wX1 k xaD drNa drMo drWa drDe dPe dDa dDr dNa dMo_8 dWa dDe)) [0, 1] [2, 3, 4, 5, 6] [5, 6, 0, 1, 2, 3, 4] rfl rfl (by decide) (by decide) (by decide) rfl (by decide) 3 rfl rfl [] rfl hl.1 rfl (Nat.le_of_ble_eq_true rfl) dX3_takePerson_52 ⟨by decide, by decide⟩ (fun H locs (hw : Wd D A s.heap H locs (wX3 k xh xrBy xaD xBy xLe xLi xFf_10 xFp_11 xPl_12 xSo_13 xSt_14 xVa_15 xDt xHo ++ (wX1 k xaD drNa drMo drWa drDe dPe dDa dDr dNa dMo_8 dWa dDe))) => ?_)
      refine W.eq (g2 := F0 m 55 ls ([.int r_9])) rfl ?_
      refine kb_if_ne (tgt := 60) hx hb dX3_takePerson_55 (by decide) h (fun c_55 h => ?_) (fun c_55 h => ?_)
      · refine lv_iconst (v := 0) hx hb dX3_takePerson_58 (by decide) ?_
        cases h
        exact k_zret hx hb hr hlocks hw (by decide) rfl dX3_takePerson_59 hQ
      · refine lv_aload_n hx hb dX3_takePerson_60 rfl (lv_at hl 1 rfl) ?_
        refine va_get (ci := 3) (v := .ref xaD) (C := RX3) (T := TX3) (N := 12) hx hb hts hinX3 hown hK.1 hw.1 0 rfl rfl 2 (by decide) q_1 (fun _ h9 => h9) rfl dX3_takePerson_61 ?_
        refine va_get (ci := 1) (v := .ref drWa) (C := RX1) (T := TX1) (N := 7) hx hb hts hinX1 hown hK.1 hw.1 2 rfl rfl 5 (by decide) q_6 (fun _ h9 => h9) rfl dX3_takePerson_64 ?_
        refine lv_iload_n hx hb dX3_takePerson_67 rfl (lv_at hl 0 rfl) ?_
        refine lv_aload_n hx hb dX3_takePerson_68 rfl (lv_at hl 1 rfl) ?_
        refine va_get (ci := 3) (v := .int xVa_15) (C := RX3) (T := TX3) (N := 12) hx hb hts hinX3 hown hK.1 hw.1 0 rfl rfl 9 (by decide) q_5 (fun _ h9 => h9) rfl dX3_takePerson_69 ?_
        refine k_iast hx hb hK hw 5 rfl dX3_takePerson_72 h (fun dWa_16 h H locs (hw : Wd D A s.heap H locs (wX3 k xh xrBy xaD xBy xLe xLi xFf_10 xFp_11 xPl_12 xSo_13 xSt_14 xVa_15 xDt xHo ++ (wX1 k xaD drNa drMo drWa drDe dPe dDa dDr dNa dMo_8 dWa_16 dDe))) => ?_)
        refine lv_aload_n hx hb dX3_takePerson_73 rfl (lv_at hl 1 rfl) ?_
        refine va_get (ci := 3) (v := .ref xaD) (C := RX3) (T := TX3) (N := 12) hx hb hts hinX3 hown hK.1 hw.1 0 rfl rfl 2 (by decide) q_1 (fun _ h9 => h9) rfl dX3_takePerson_74 ?_
        refine va_get (ci := 1) (v := .ref drNa) (C := RX1) (T := TX1) (N := 7) hx hb hts hinX1 hown hK.1 hw.1 2 rfl rfl 3 (by decide) q_7 (fun _ h9 => h9) rfl dX3_takePerson_77 ?_
        refine lv_iload_n hx hb dX3_takePerson_80 rfl (lv_at hl 0 rfl) ?_
        refine lv_iload_n hx hb dX3_takePerson_81 rfl (lv_at hl 2 rfl) ?_
        refine k_iast hx hb hK hw 3 rfl dX3_takePerson_82 h (fun dNa_17 h H locs (hw : Wd D A s.heap H locs (wX3 k xh xrBy xaD xBy xLe xLi xFf_10 xFp_11 xPl_12 xSo_13 xSt_14 xVa_15 xDt xHo ++ (wX1 k xaD drNa drMo drWa drDe dPe dDa dDr dNa_17 dMo_8 dWa_16 dDe))) => ?_)
        refine lv_aload_n hx hb dX3_takePerson_83 rfl (lv_at hl 1 rfl) ?_
        refine va_get (ci := 3) (v := .ref xaD) (C := RX3) (T := TX3) (N := 12) hx hb hts hinX3 hown hK.1 hw.1 0 rfl rfl 2 (by decide) q_1 (fun _ h9 => h9) rfl dX3_takePerson_84 ?_
        refine lv_dup hx hb dX3_takePerson_87 rfl ?_
        refine va_get (ci := 1) (v := .int dPe) (C := RX1) (T := TX1) (N := 7) hx hb hts hinX1 hown hK.1 hw.1 2 rfl rfl 0 (by decide) q_2 (fun _ h9 => h9) rfl dX3_takePerson_88 ?_
        refine lv_iconst (v := 1) hx hb dX3_takePerson_91 (by decide) ?_
        refine lv_iadd hx hb dX3_takePerson_92 ?_
        refine va_put (ci := 1) (v := .int (dPe + 1)) (ty := tyX1 0) (C := RX1) (T := TX1) (N := 7) hx hb hts hinX1 tyX1 tyX1_ok nmX1 hown hK.1 hw.1 hw.2.1 hw.2.2 2 rfl rfl 0 (by decide) q_2 (fun _ h9 => h9) rfl (tyX1_ok 0 (by decide)) rfl rfl (Nat.le_of_ble_eq_true rfl) dX3_takePerson_93 (fun H locs hP hD hS => ?_)
        have hw : Wd D A s.heap H locs (wX3 k xh xrBy xaD xBy xLe xLi xFf_10 xFp_11 xPl_12 xSo_13 xSt_14 xVa_15 xDt xHo ++ (wX1 k xaD drNa drMo drWa drDe (dPe + 1) dDa dDr dNa_17 dMo_8 dWa_16 dDe)) := ⟨hP, hD, hS⟩
        refine lv_aload_n hx hb dX3_takePerson_96 rfl (lv_at hl 1 rfl) ?_
        obtain ⟨r_18, xFf_19, xFp_20, xPl_21, xSo_22, xSt_23, hf, h⟩ := b6_inv h
        refine k_callV (host := "") fx hK hA hw (c_X3_takeSemicolon l D k xh xrBy xaD _ xBy xLe xLi xFf_10 xFp_11 xPl_12 xSo_13 xSt_14 xVa_15 xDt xHo r_18 xFf_19 xFp_20 xPl_21 xSo_22 xSt_23 hf) (cwV 0 hts gX3_takePerson_X3_takeSemicolon rfl rfl rfl (by decide +kernel) ⟨by decide, by decide⟩) (As := []) (wr := [(xaD, .inr (1, [.int (dPe + 1), .int dDa, .int dDr, .ref drNa, .ref drMo, .ref drWa, .ref drDe])), (drNa, .inl (k 0, 5, .inl dNa_17)), (drMo, .inl (k 0, 5, .inl dMo_8)), (drWa, .inl (k 0, 5, .inl dWa_16)), (drDe, .inl (k 0, 25, .inl dDe))]) (ws' := wX3 k xh xrBy xaD xBy xLe xLi xFf_19 xFp_20 xPl_21 xSo_22 xSt_23 xVa_15 xDt xHo ++ (wX1 k xaD drNa drMo drWa drDe (dPe + 1) dDa dDr dNa_17 dMo_8 dWa_16 dDe)) [0, 1] [2, 3, 4, 5, 6] [5, 6, 0, 1, 2, 3, 4] rfl rfl (by decide) (by decide) (by decide) rfl (by decide) 3 rfl rfl [] rfl hl.1 rfl (Nat.le_of_ble_eq_true rfl) dX3_takePerson_97 ⟨by decide, by decide⟩ (fun H locs (hw : Wd D A s.heap H locs (wX3 k xh xrBy xaD xBy xLe xLi xFf_19 xFp_20 xPl_21 xSo_22 xSt_23 xVa_15 xDt xHo ++ (wX1 k xaD drNa drMo drWa drDe (dPe + 1) dDa dDr dNa_17 dMo_8 dWa_16 dDe))) => ?_)
        refine W.eq (g2 := F0 m 100 ls ([.int r_18])) rfl ?_
        obtain ⟨z_24, hz, h⟩ := b1_inv h
        obtain ⟨hz1, hz2⟩ := bz_inv hz
        refine k_lit hz1.symm ?_
        rw [← hz1] at hz2
        cases h
        exact k_zret hx hb hr hlocks hw hz2 rfl dX3_takePerson_100 hQ
  · refine lv_aload_n hx hb dX3_takePerson_13 rfl (lv_at hl 1 rfl) ?_
    refine lv_iconst (v := 5) hx hb dX3_takePerson_14 (by decide) ?_
    refine lv_aload_n hx hb dX3_takePerson_15 rfl (lv_at hl 1 rfl) ?_
    refine va_get (ci := 3) (v := .int xSt) (C := RX3) (T := TX3) (N := 12) hx hb hts hinX3 hown hK.1 hw.1 0 rfl rfl 8 (by decide) q_3 (fun _ h9 => h9) rfl dX3_takePerson_16 ?_
    obtain ⟨r_25, xFf_26, xFp_27, hf, h⟩ := b3_inv h
    refine k_callV (host := "") fx hK hA hw (c_X3_fail l D k xh xrBy xaD _ xBy xLe xLi xFf xFp xPl xSo xSt xVa xDt xHo 5 xSt r_25 xFf_26 xFp_27 hf) (cwV 2 hts gX3_takePerson_X3_fail rfl rfl rfl (by decide +kernel) ⟨by decide, by decide⟩) (As := [.int 5, .int xSt]) (wr := [(xaD, .inr (1, [.int dPe, .int dDa, .int dDr, .ref drNa, .ref drMo, .ref drWa, .ref drDe])), (drNa, .inl (k 0, 5, .inl dNa)), (drMo, .inl (k 0, 5, .inl dMo)), (drWa, .inl (k 0, 5, .inl dWa)), (drDe, .inl (k 0, 25, .inl dDe))]) (ws' := wX3 k xh xrBy xaD xBy xLe xLi xFf_26 xFp_27 xPl xSo xSt xVa xDt xHo ++ (wX1 k xaD drNa drMo drWa drDe dPe dDa dDr dNa dMo dWa dDe)) [0, 1] [2, 3, 4, 5, 6] [5, 6, 0, 1, 2, 3, 4] rfl rfl (by decide) (by decide) (by decide) rfl (by decide) 3 rfl rfl [] rfl hl.1 rfl (Nat.le_of_ble_eq_true rfl) dX3_takePerson_19 ⟨by decide, by decide⟩ (fun H locs (hw : Wd D A s.heap H locs (wX3 k xh xrBy xaD xBy xLe xLi xFf_26 xFp_27 xPl xSo xSt xVa xDt xHo ++ (wX1 k xaD drNa drMo drWa drDe dPe dDa dDr dNa dMo dWa dDe))) => ?_)
    refine W.eq (g2 := F0 m 22 ls ([.int r_25])) rfl ?_
    obtain ⟨z_28, hz, h⟩ := b1_inv h
    obtain ⟨hz1, hz2⟩ := bz_inv hz
    refine k_lit hz1.symm ?_
    rw [← hz1] at hz2
    cases h
    exact k_zret hx hb hr hlocks hw hz2 rfl dX3_takePerson_22 hQ
abbrev rmX3_takeOwes : Room := { frames := 3, cells := 0, slots := 0, locals := 66 }
set_option maxHeartbeats 4000000 in
set_option maxRecDepth 100000 in
theorem c_X3_takeOwes (l : Launch) (D : va_G) (k : Nat → ClassId) (xh xrBy xaD drNa drMo drWa drDe : Nat) (sz : Nat) (xBy : (Nat → Int32)) (xLe : Int32) (xLi : Int32) (xFf : Int32) (xFp : Int32) (xPl : Int32) (xSo : Int32) (xSt : Int32) (xVa : Int32) (xDt : Int32) (xHo : Int32) (dPe : Int32) (dDa : Int32) (dDr : Int32) (dNa : (Nat → Int32)) (dMo : (Nat → Int32)) (dWa : (Nat → Int32)) (dDe : (Nat → Int32)) (r_ : Int32) (n_xFf : Int32) (n_xFp : Int32) (n_xPl : Int32) (n_xSo : Int32) (n_xSt : Int32) (n_xVa : Int32) (n_xHo : Int32) (n_dDe : (Nat → Int32)) (hf : f_X3_takeOwes xBy xLe xFf xFp xPl xVa xHo dDe = some (r_, n_xFf, n_xFp, n_xPl, n_xSo, n_xSt, n_xVa, n_xHo, n_dDe)) : mR l yX3_takeOwes wsX3_takeOwes rmX3_takeOwes D k sz [.ref xh] (wX3 k xh xrBy xaD xBy xLe xLi xFf xFp xPl xSo xSt xVa xDt xHo ++ (wX1 k xaD drNa drMo drWa drDe dPe dDa dDr dNa dMo dWa dDe)) (wX3 k xh xrBy xaD xBy xLe xLi n_xFf n_xFp n_xPl n_xSo n_xSt n_xVa xDt n_xHo ++ (wX1 k xaD drNa drMo drWa drDe dPe dDa dDr dNa dMo dWa n_dDe)) (some (.int r_)) := by
  refine mR_of (cc := cX3_takeOwes) (maxL := 3) (ret := some .boolean) (by decide) rfl (Nat.le_of_ble_eq_true rfl) [(0, .ref xh)] rfl ?_
  intro p e s m below meth c A ls args Q cx hK hA hw hl hQ
  have fx := cx.1
  obtain ⟨⟨hx, hb, hml, hown, hts⟩, hr, hlocks⟩ := cx
  have hinX3 : ∀ w ∈ wsX30, w ∈ wsX3_takeOwes := fun w h => List.mem_cons_of_mem _ (List.mem_append_left _ (List.mem_append_right _ h))
  have q_1 := hts (.fieldLink RX3 107 "DebtRides$Reader" "value" "I") (List.mem_of_getElem? (i := 1) rfl)
  have q_3 := hts (.fieldLink RX3 18 "DebtRides$Reader" "draft" "LDebtRides$Land;") (List.mem_of_getElem? (i := 3) rfl)
  have q_4 := hts (.fieldLink RX3 42 "DebtRides$Reader" "highestOne" "I") (List.mem_of_getElem? (i := 4) rfl)
  have q_5 := hts (.methodLink RX3 127 Lib.Math.max.name) (List.mem_of_getElem? (i := 5) rfl)
  have q_6 := hts (.static Lib.Math.max.name) (List.mem_of_getElem? (i := 6) rfl)
  have q_7 := hts (.initialized "java/lang/Math") (List.mem_of_getElem? (i := 7) rfl)
  have q_8 := hts (.code Lib.Math.max.name Lib.Math.max.code 2 (some .int)) (List.mem_of_getElem? (i := 8) rfl)
  have q_2 := hts (.fieldLink RX3 90 "DebtRides$Reader" "start" "I") (List.mem_of_getElem? (i := 2) rfl)
  have h := hf
  unfold f_X3_takeOwes at h
  clear hf
  refine lv_aload_n hx hb dX3_takeOwes_0 rfl (lv_at hl 0 rfl) ?_
  refine lv_iconst (v := 0) hx hb dX3_takeOwes_1 (by decide) ?_
  refine lv_iconst (v := 4) hx hb dX3_takeOwes_2 (by decide) ?_
  obtain ⟨r_1, xFf_2, xFp_3, xPl_4, xSo_5, xSt_6, xVa_7, hf, h⟩ := b7_inv h
  refine k_callV (host := "") fx hK hA hw (c_X3_takeNumber l D k xh xrBy xaD _ xBy xLe xLi xFf xFp xPl xSo xSt xVa xDt xHo 0 4 r_1 xFf_2 xFp_3 xPl_4 xSo_5 xSt_6 xVa_7 hf) (cwV 2 hts gX3_takeOwes_X3_takeNumber rfl rfl rfl (by decide +kernel) ⟨by decide, by decide⟩) (As := [.int 0, .int 4]) (wr := [(xaD, .inr (1, [.int dPe, .int dDa, .int dDr, .ref drNa, .ref drMo, .ref drWa, .ref drDe])), (drNa, .inl (k 0, 5, .inl dNa)), (drMo, .inl (k 0, 5, .inl dMo)), (drWa, .inl (k 0, 5, .inl dWa)), (drDe, .inl (k 0, 25, .inl dDe))]) (ws' := wX3 k xh xrBy xaD xBy xLe xLi xFf_2 xFp_3 xPl_4 xSo_5 xSt_6 xVa_7 xDt xHo ++ (wX1 k xaD drNa drMo drWa drDe dPe dDa dDr dNa dMo dWa dDe)) [0, 1] [2, 3, 4, 5, 6] [5, 6, 0, 1, 2, 3, 4] rfl rfl (by decide) (by decide) (by decide) rfl (by decide) 3 rfl rfl [] rfl hl.1 rfl (Nat.le_of_ble_eq_true rfl) dX3_takeOwes_3 ⟨by decide, by decide⟩ (fun H locs (hw : Wd D A s.heap H locs (wX3 k xh xrBy xaD xBy xLe xLi xFf_2 xFp_3 xPl_4 xSo_5 xSt_6 xVa_7 xDt xHo ++ (wX1 k xaD drNa drMo drWa drDe dPe dDa dDr dNa dMo dWa dDe))) => ?_)
  refine W.eq (g2 := F0 m 6 ls ([.int r_1])) rfl ?_
  refine kb_if_ne (tgt := 11) hx hb dX3_takeOwes_6 (by decide) h (fun c_6 h => ?_) (fun c_6 h => ?_)
  · refine lv_iconst (v := 0) hx hb dX3_takeOwes_9 (by decide) ?_
    cases h
    exact k_zret hx hb hr hlocks hw (by decide) rfl dX3_takeOwes_10 hQ
  · refine lv_aload_n hx hb dX3_takeOwes_11 rfl (lv_at hl 0 rfl) ?_
    refine va_get (ci := 3) (v := .int xVa_7) (C := RX3) (T := TX3) (N := 12) hx hb hts hinX3 hown hK.1 hw.1 0 rfl rfl 9 (by decide) q_1 (fun _ h9 => h9) rfl dX3_takeOwes_12 ?_
    refine lv_istore_n (lv' := [(1, .int xVa_7), (0, .ref xh)]) hx hb dX3_takeOwes_15 rfl hl (by decide) rfl (fun ls hl => ?_)
    refine lv_aload_n hx hb dX3_takeOwes_16 rfl (lv_at hl 1 rfl) ?_
    refine lv_iconst (v := 0) hx hb dX3_takeOwes_17 (by decide) ?_
    refine lv_iconst (v := 4) hx hb dX3_takeOwes_18 (by decide) ?_
    obtain ⟨r_8, xFf_9, xFp_10, xPl_11, xSo_12, xSt_13, xVa_14, hf, h⟩ := b7_inv h
    refine k_callV (host := "") fx hK hA hw (c_X3_takeNumber l D k xh xrBy xaD _ xBy xLe xLi xFf_2 xFp_3 xPl_4 xSo_5 xSt_6 xVa_7 xDt xHo 0 4 r_8 xFf_9 xFp_10 xPl_11 xSo_12 xSt_13 xVa_14 hf) (cwV 2 hts gX3_takeOwes_X3_takeNumber rfl rfl rfl (by decide +kernel) ⟨by decide, by decide⟩) (As := [.int 0, .int 4]) (wr := [(xaD, .inr (1, [.int dPe, .int dDa, .int dDr, .ref drNa, .ref drMo, .ref drWa, .ref drDe])), (drNa, .inl (k 0, 5, .inl dNa)), (drMo, .inl (k 0, 5, .inl dMo)), (drWa, .inl (k 0, 5, .inl dWa)), (drDe, .inl (k 0, 25, .inl dDe))]) (ws' := wX3 k xh xrBy xaD xBy xLe xLi xFf_9 xFp_10 xPl_11 xSo_12 xSt_13 xVa_14 xDt xHo ++ (wX1 k xaD drNa drMo drWa drDe dPe dDa dDr dNa dMo dWa dDe)) [0, 1] [2, 3, 4, 5, 6] [5, 6, 0, 1, 2, 3, 4] rfl rfl (by decide) (by decide) (by decide) rfl (by decide) 3 rfl rfl [] rfl hl.1 rfl (Nat.le_of_ble_eq_true rfl) dX3_takeOwes_19 ⟨by decide, by decide⟩ (fun H locs (hw : Wd D A s.heap H locs (wX3 k xh xrBy xaD xBy xLe xLi xFf_9 xFp_10 xPl_11 xSo_12 xSt_13 xVa_14 xDt xHo ++ (wX1 k xaD drNa drMo drWa drDe dPe dDa dDr dNa dMo dWa dDe))) => ?_)
    refine W.eq (g2 := F0 m 22 ls ([.int r_8])) rfl ?_
    refine kb_if_ne (tgt := 27) hx hb dX3_takeOwes_22 (by decide) h (fun c_22 h => ?_) (fun c_22 h => ?_)
    · refine lv_iconst (v := 0) hx hb dX3_takeOwes_25 (by decide) ?_
      cases h
      exact k_zret hx hb hr hlocks hw (by decide) rfl dX3_takeOwes_26 hQ
    · refine lv_aload_n hx hb dX3_takeOwes_27 rfl (lv_at hl 1 rfl) ?_
      refine va_get (ci := 3) (v := .int xVa_14) (C := RX3) (T := TX3) (N := 12) hx hb hts hinX3 hown hK.1 hw.1 0 rfl rfl 9 (by decide) q_1 (fun _ h9 => h9) rfl dX3_takeOwes_28 ?_
      refine lv_istore_n (lv' := [(2, .int xVa_14), (1, .int xVa_7), (0, .ref xh)]) hx hb dX3_takeOwes_31 rfl hl (by decide) rfl (fun ls hl => ?_)
      refine lv_iload_n hx hb dX3_takeOwes_32 rfl (lv_at hl 0 rfl) ?_
      refine lv_iload_n hx hb dX3_takeOwes_33 rfl (lv_at hl 1 rfl) ?_
      refine kb_icmp_ne (tgt := 47) hx hb dX3_takeOwes_34 (by decide) h (fun c_34 h => ?_) (fun c_34 h => ?_)
      · refine lv_aload_n hx hb dX3_takeOwes_37 rfl (lv_at hl 2 rfl) ?_
        refine lv_iconst (v := 3) hx hb dX3_takeOwes_38 (by decide) ?_
        refine lv_aload_n hx hb dX3_takeOwes_39 rfl (lv_at hl 2 rfl) ?_
        refine va_get (ci := 3) (v := .int xSt_13) (C := RX3) (T := TX3) (N := 12) hx hb hts hinX3 hown hK.1 hw.1 0 rfl rfl 8 (by decide) q_2 (fun _ h9 => h9) rfl dX3_takeOwes_40 ?_
        obtain ⟨r_37, xFf_38, xFp_39, hf, h⟩ := b3_inv h
        refine k_callV (host := "") fx hK hA hw (c_X3_fail l D k xh xrBy xaD _ xBy xLe xLi xFf_9 xFp_10 xPl_11 xSo_12 xSt_13 xVa_14 xDt xHo 3 xSt_13 r_37 xFf_38 xFp_39 hf) (cwV 2 hts gX3_takeOwes_X3_fail rfl rfl rfl (by decide +kernel) ⟨by decide, by decide⟩) (As := [.int 3, .int xSt_13]) (wr := [(xaD, .inr (1, [.int dPe, .int dDa, .int dDr, .ref drNa, .ref drMo, .ref drWa, .ref drDe])), (drNa, .inl (k 0, 5, .inl dNa)), (drMo, .inl (k 0, 5, .inl dMo)), (drWa, .inl (k 0, 5, .inl dWa)), (drDe, .inl (k 0, 25, .inl dDe))]) (ws' := wX3 k xh xrBy xaD xBy xLe xLi xFf_38 xFp_39 xPl_11 xSo_12 xSt_13 xVa_14 xDt xHo ++ (wX1 k xaD drNa drMo drWa drDe dPe dDa dDr dNa dMo dWa dDe)) [0, 1] [2, 3, 4, 5, 6] [5, 6, 0, 1, 2, 3, 4] rfl rfl (by decide) (by decide) (by decide) rfl (by decide) 3 rfl rfl [] rfl hl.1 rfl (Nat.le_of_ble_eq_true rfl) dX3_takeOwes_43 ⟨by decide, by decide⟩ (fun H locs (hw : Wd D A s.heap H locs (wX3 k xh xrBy xaD xBy xLe xLi xFf_38 xFp_39 xPl_11 xSo_12 xSt_13 xVa_14 xDt xHo ++ (wX1 k xaD drNa drMo drWa drDe dPe dDa dDr dNa dMo dWa dDe))) => ?_)
        refine W.eq (g2 := F0 m 46 ls ([.int r_37])) rfl ?_
        obtain ⟨z_40, hz, h⟩ := b1_inv h
        obtain ⟨hz1, hz2⟩ := bz_inv hz
        refine k_lit hz1.symm ?_
        rw [← hz1] at hz2
        cases h
        exact k_zret hx hb hr hlocks hw hz2 rfl dX3_takeOwes_46 hQ
      · refine lv_aload_n hx hb dX3_takeOwes_47 rfl (lv_at hl 2 rfl) ?_
        refine va_get (ci := 3) (v := .ref xaD) (C := RX3) (T := TX3) (N := 12) hx hb hts hinX3 hown hK.1 hw.1 0 rfl rfl 2 (by decide) q_3 (fun _ h9 => h9) rfl dX3_takeOwes_48 ?_
        refine lv_iload_n hx hb dX3_takeOwes_51 rfl (lv_at hl 1 rfl) ?_
        refine lv_iload_n hx hb dX3_takeOwes_52 rfl (lv_at hl 0 rfl) ?_
        obtain ⟨r_15, hf, h⟩ := b1_inv h
        refine k_callV (host := "") fx hK hA hw (c_X1_debt l D k xaD drNa drMo drWa drDe _ dPe dDa dDr dNa dMo dWa dDe xVa_7 xVa_14 r_15 hf) (cwV 2 hts gX3_takeOwes_X1_debt rfl rfl rfl (by decide +kernel) ⟨by decide, by decide⟩) (As := [.int xVa_7, .int xVa_14]) (wr := [(xh, .inr (3, [.ref xrBy, .int xLe, .ref xaD, .int xLi, .int xFf_9, .int xFp_10, .int xPl_11, .int xSo_12, .int xSt_13, .int xVa_14, .int xDt, .int xHo])), (xrBy, .inl (k 0, 160, .inl xBy))]) (ws' := wX3 k xh xrBy xaD xBy xLe xLi xFf_9 xFp_10 xPl_11 xSo_12 xSt_13 xVa_14 xDt xHo ++ (wX1 k xaD drNa drMo drWa drDe dPe dDa dDr dNa dMo dWa dDe)) [2, 3, 4, 5, 6] [0, 1] [0, 1, 2, 3, 4, 5, 6] rfl rfl (by decide) (by decide) (by decide) rfl (by decide) 1 rfl rfl [] rfl hl.1 rfl (Nat.le_of_ble_eq_true rfl) dX3_takeOwes_53 ⟨by decide, by decide⟩ (fun H locs (hw : Wd D A s.heap H locs (wX3 k xh xrBy xaD xBy xLe xLi xFf_9 xFp_10 xPl_11 xSo_12 xSt_13 xVa_14 xDt xHo ++ (wX1 k xaD drNa drMo drWa drDe dPe dDa dDr dNa dMo dWa dDe))) => ?_)
        refine W.eq (g2 := F0 m 56 ls ([.int r_15])) rfl ?_
        refine kb_if_le (tgt := 69) hx hb dX3_takeOwes_56 (by decide) h (fun c_56 h => ?_) (fun c_56 h => ?_)
        · refine lv_aload_n hx hb dX3_takeOwes_69 rfl (lv_at hl 2 rfl) ?_
          refine lv_iconst (v := 1) hx hb dX3_takeOwes_70 (by decide) ?_
          refine lv_bipush (v := 99) hx hb dX3_takeOwes_71 (by decide) ?_
          obtain ⟨r_16, xFf_17, xFp_18, xPl_19, xSo_20, xSt_21, xVa_22, hf, h⟩ := b7_inv h
          refine k_callV (host := "") fx hK hA hw (c_X3_takeNumber l D k xh xrBy xaD _ xBy xLe xLi xFf_9 xFp_10 xPl_11 xSo_12 xSt_13 xVa_14 xDt xHo 1 99 r_16 xFf_17 xFp_18 xPl_19 xSo_20 xSt_21 xVa_22 hf) (cwV 2 hts gX3_takeOwes_X3_takeNumber rfl rfl rfl (by decide +kernel) ⟨by decide, by decide⟩) (As := [.int 1, .int 99]) (wr := [(xaD, .inr (1, [.int dPe, .int dDa, .int dDr, .ref drNa, .ref drMo, .ref drWa, .ref drDe])), (drNa, .inl (k 0, 5, .inl dNa)), (drMo, .inl (k 0, 5, .inl dMo)), (drWa, .inl (k 0, 5, .inl dWa)), (drDe, .inl (k 0, 25, .inl dDe))]) (ws' := wX3 k xh xrBy xaD xBy xLe xLi xFf_17 xFp_18 xPl_19 xSo_20 xSt_21 xVa_22 xDt xHo ++ (wX1 k xaD drNa drMo drWa drDe dPe dDa dDr dNa dMo dWa dDe)) [0, 1] [2, 3, 4, 5, 6] [5, 6, 0, 1, 2, 3, 4] rfl rfl (by decide) (by decide) (by decide) rfl (by decide) 3 rfl rfl [] rfl hl.1 rfl (Nat.le_of_ble_eq_true rfl) dX3_takeOwes_73 ⟨by decide, by decide⟩ (fun H locs (hw : Wd D A s.heap H locs (wX3 k xh xrBy xaD xBy xLe xLi xFf_17 xFp_18 xPl_19 xSo_20 xSt_21 xVa_22 xDt xHo ++ (wX1 k xaD drNa drMo drWa drDe dPe dDa dDr dNa dMo dWa dDe))) => ?_)
          refine W.eq (g2 := F0 m 76 ls ([.int r_16])) rfl ?_
          refine kb_if_ne (tgt := 81) hx hb dX3_takeOwes_76 (by decide) h (fun c_76 h => ?_) (fun c_76 h => ?_)
          · refine lv_iconst (v := 0) hx hb dX3_takeOwes_79 (by decide) ?_
            cases h
            exact k_zret hx hb hr hlocks hw (by decide) rfl dX3_takeOwes_80 hQ
          · refine lv_aload_n hx hb dX3_takeOwes_81 rfl (lv_at hl 2 rfl) ?_
            refine va_get (ci := 3) (v := .ref xaD) (C := RX3) (T := TX3) (N := 12) hx hb hts hinX3 hown hK.1 hw.1 0 rfl rfl 2 (by decide) q_3 (fun _ h9 => h9) rfl dX3_takeOwes_82 ?_
            refine lv_iload_n hx hb dX3_takeOwes_85 rfl (lv_at hl 1 rfl) ?_
            refine lv_iload_n hx hb dX3_takeOwes_86 rfl (lv_at hl 0 rfl) ?_
            refine lv_aload_n hx hb dX3_takeOwes_87 rfl (lv_at hl 2 rfl) ?_
            refine va_get (ci := 3) (v := .int xVa_22) (C := RX3) (T := TX3) (N := 12) hx hb hts hinX3 hown hK.1 hw.1 0 rfl rfl 9 (by decide) q_1 (fun _ h9 => h9) rfl dX3_takeOwes_88 ?_
            obtain ⟨dDe_23, hf, h⟩ := b1_inv h
            refine k_callV (host := "") fx hK hA hw (c_X1_setDebt l D k xaD drNa drMo drWa drDe _ dPe dDa dDr dNa dMo dWa dDe xVa_7 xVa_14 xVa_22 dDe_23 hf) (cwV 3 hts gX3_takeOwes_X1_setDebt rfl rfl rfl (by decide +kernel) ⟨by decide, by decide⟩) (As := [.int xVa_7, .int xVa_14, .int xVa_22]) (wr := [(xh, .inr (3, [.ref xrBy, .int xLe, .ref xaD, .int xLi, .int xFf_17, .int xFp_18, .int xPl_19, .int xSo_20, .int xSt_21, .int xVa_22, .int xDt, .int xHo])), (xrBy, .inl (k 0, 160, .inl xBy))]) (ws' := wX3 k xh xrBy xaD xBy xLe xLi xFf_17 xFp_18 xPl_19 xSo_20 xSt_21 xVa_22 xDt xHo ++ (wX1 k xaD drNa drMo drWa drDe dPe dDa dDr dNa dMo dWa dDe_23)) [2, 3, 4, 5, 6] [0, 1] [0, 1, 2, 3, 4, 5, 6] rfl rfl (by decide) (by decide) (by decide) rfl (by decide) 1 rfl rfl [] rfl hl.1 rfl (Nat.le_of_ble_eq_true rfl) dX3_takeOwes_91 ⟨by decide, by decide⟩ (fun H locs (hw : Wd D A s.heap H locs (wX3 k xh xrBy xaD xBy xLe xLi xFf_17 xFp_18 xPl_19 xSo_20 xSt_21 xVa_22 xDt xHo ++ (wX1 k xaD drNa drMo drWa drDe dPe dDa dDr dNa dMo dWa dDe_23))) => ?_)
            refine W.eq (g2 := F0 m 94 ls ([])) rfl ?_
            refine lv_aload_n hx hb dX3_takeOwes_94 rfl (lv_at hl 2 rfl) ?_
            refine lv_aload_n hx hb dX3_takeOwes_95 rfl (lv_at hl 2 rfl) ?_
            refine va_get (ci := 3) (v := .int xHo) (C := RX3) (T := TX3) (N := 12) hx hb hts hinX3 hown hK.1 hw.1 0 rfl rfl 11 (by decide) q_4 (fun _ h9 => h9) rfl dX3_takeOwes_96 ?_
            refine lv_iload_n hx hb dX3_takeOwes_99 rfl (lv_at hl 1 rfl) ?_
            refine lv_iload_n hx hb dX3_takeOwes_100 rfl (lv_at hl 0 rfl) ?_
            refine k_max fx hl.1 q_5 q_6 q_7 q_8 (by decide) (Nat.le_of_ble_eq_true rfl) ⟨by decide, by decide⟩ dX3_takeOwes_101 h (fun z_24 h => ?_)
            refine k_max fx hl.1 q_5 q_6 q_7 q_8 (by decide) (Nat.le_of_ble_eq_true rfl) ⟨by decide, by decide⟩ dX3_takeOwes_104 h (fun z_25 h => ?_)
            refine va_put (ci := 3) (v := .int z_25) (ty := tyX3 11) (C := RX3) (T := TX3) (N := 12) hx hb hts hinX3 tyX3 tyX3_ok nmX3 hown hK.1 hw.1 hw.2.1 hw.2.2 0 rfl rfl 11 (by decide) q_4 (fun _ h9 => h9) rfl (tyX3_ok 11 (by decide)) rfl rfl (Nat.le_of_ble_eq_true rfl) dX3_takeOwes_107 (fun H locs hP hD hS => ?_)
            have hw : Wd D A s.heap H locs (wX3 k xh xrBy xaD xBy xLe xLi xFf_17 xFp_18 xPl_19 xSo_20 xSt_21 xVa_22 xDt z_25 ++ (wX1 k xaD drNa drMo drWa drDe dPe dDa dDr dNa dMo dWa dDe_23)) := ⟨hP, hD, hS⟩
            refine lv_aload_n hx hb dX3_takeOwes_110 rfl (lv_at hl 2 rfl) ?_
            obtain ⟨r_26, xFf_27, xFp_28, xPl_29, xSo_30, xSt_31, hf, h⟩ := b6_inv h
            refine k_callV (host := "") fx hK hA hw (c_X3_takeSemicolon l D k xh xrBy xaD _ xBy xLe xLi xFf_17 xFp_18 xPl_19 xSo_20 xSt_21 xVa_22 xDt z_25 r_26 xFf_27 xFp_28 xPl_29 xSo_30 xSt_31 hf) (cwV 0 hts gX3_takeOwes_X3_takeSemicolon rfl rfl rfl (by decide +kernel) ⟨by decide, by decide⟩) (As := []) (wr := [(xaD, .inr (1, [.int dPe, .int dDa, .int dDr, .ref drNa, .ref drMo, .ref drWa, .ref drDe])), (drNa, .inl (k 0, 5, .inl dNa)), (drMo, .inl (k 0, 5, .inl dMo)), (drWa, .inl (k 0, 5, .inl dWa)), (drDe, .inl (k 0, 25, .inl dDe_23))]) (ws' := wX3 k xh xrBy xaD xBy xLe xLi xFf_27 xFp_28 xPl_29 xSo_30 xSt_31 xVa_22 xDt z_25 ++ (wX1 k xaD drNa drMo drWa drDe dPe dDa dDr dNa dMo dWa dDe_23)) [0, 1] [2, 3, 4, 5, 6] [5, 6, 0, 1, 2, 3, 4] rfl rfl (by decide) (by decide) (by decide) rfl (by decide) 3 rfl rfl [] rfl hl.1 rfl (Nat.le_of_ble_eq_true rfl) dX3_takeOwes_111 ⟨by decide, by decide⟩ (fun H locs (hw : Wd D A s.heap H locs (wX3 k xh xrBy xaD xBy xLe xLi xFf_27 xFp_28 xPl_29 xSo_30 xSt_31 xVa_22 xDt z_25 ++ (wX1 k xaD drNa drMo drWa drDe dPe dDa dDr dNa dMo dWa dDe_23))) => ?_)
            refine W.eq (g2 := F0 m 114 ls ([.int r_26])) rfl ?_
            obtain ⟨z_32, hz, h⟩ := b1_inv h
            obtain ⟨hz1, hz2⟩ := bz_inv hz
            refine k_lit hz1.symm ?_
            rw [← hz1] at hz2
            cases h
            exact k_zret hx hb hr hlocks hw hz2 rfl dX3_takeOwes_114 hQ
        · refine lv_aload_n hx hb dX3_takeOwes_59 rfl (lv_at hl 2 rfl) ?_
          refine lv_iconst (v := 4) hx hb dX3_takeOwes_60 (by decide) ?_
          refine lv_aload_n hx hb dX3_takeOwes_61 rfl (lv_at hl 2 rfl) ?_
          refine va_get (ci := 3) (v := .int xSt_13) (C := RX3) (T := TX3) (N := 12) hx hb hts hinX3 hown hK.1 hw.1 0 rfl rfl 8 (by decide) q_2 (fun _ h9 => h9) rfl dX3_takeOwes_62 ?_
          obtain ⟨r_33, xFf_34, xFp_35, hf, h⟩ := b3_inv h
          refine k_callV (host := "") fx hK hA hw (c_X3_fail l D k xh xrBy xaD _ xBy xLe xLi xFf_9 xFp_10 xPl_11 xSo_12 xSt_13 xVa_14 xDt xHo 4 xSt_13 r_33 xFf_34 xFp_35 hf) (cwV 2 hts gX3_takeOwes_X3_fail rfl rfl rfl (by decide +kernel) ⟨by decide, by decide⟩) (As := [.int 4, .int xSt_13]) (wr := [(xaD, .inr (1, [.int dPe, .int dDa, .int dDr, .ref drNa, .ref drMo, .ref drWa, .ref drDe])), (drNa, .inl (k 0, 5, .inl dNa)), (drMo, .inl (k 0, 5, .inl dMo)), (drWa, .inl (k 0, 5, .inl dWa)), (drDe, .inl (k 0, 25, .inl dDe))]) (ws' := wX3 k xh xrBy xaD xBy xLe xLi xFf_34 xFp_35 xPl_11 xSo_12 xSt_13 xVa_14 xDt xHo ++ (wX1 k xaD drNa drMo drWa drDe dPe dDa dDr dNa dMo dWa dDe)) [0, 1] [2, 3, 4, 5, 6] [5, 6, 0, 1, 2, 3, 4] rfl rfl (by decide) (by decide) (by decide) rfl (by decide) 3 rfl rfl [] rfl hl.1 rfl (Nat.le_of_ble_eq_true rfl) dX3_takeOwes_65 ⟨by decide, by decide⟩ (fun H locs (hw : Wd D A s.heap H locs (wX3 k xh xrBy xaD xBy xLe xLi xFf_34 xFp_35 xPl_11 xSo_12 xSt_13 xVa_14 xDt xHo ++ (wX1 k xaD drNa drMo drWa drDe dPe dDa dDr dNa dMo dWa dDe))) => ?_)
          refine W.eq (g2 := F0 m 68 ls ([.int r_33])) rfl ?_
          obtain ⟨z_36, hz, h⟩ := b1_inv h
          obtain ⟨hz1, hz2⟩ := bz_inv hz
          refine k_lit hz1.symm ?_
          rw [← hz1] at hz2
          cases h
          exact k_zret hx hb hr hlocks hw hz2 rfl dX3_takeOwes_68 hQ
abbrev rmX3_takeDry : Room := { frames := 3, cells := 0, slots := 0, locals := 66 }
set_option maxHeartbeats 4000000 in
set_option maxRecDepth 100000 in
theorem c_X3_takeDry (l : Launch) (D : va_G) (k : Nat → ClassId) (xh xrBy xaD drNa drMo drWa drDe : Nat) (sz : Nat) (xBy : (Nat → Int32)) (xLe : Int32) (xLi : Int32) (xFf : Int32) (xFp : Int32) (xPl : Int32) (xSo : Int32) (xSt : Int32) (xVa : Int32) (xDt : Int32) (xHo : Int32) (dPe : Int32) (dDa : Int32) (dDr : Int32) (dNa : (Nat → Int32)) (dMo : (Nat → Int32)) (dWa : (Nat → Int32)) (dDe : (Nat → Int32)) (r_ : Int32) (n_xFf : Int32) (n_xFp : Int32) (n_xPl : Int32) (n_xSo : Int32) (n_xSt : Int32) (n_xVa : Int32) (n_xDt : Int32) (n_dDr : Int32) (hf : f_X3_takeDry xBy xLe xFf xFp xPl xSo xSt xVa xDt dDr = some (r_, n_xFf, n_xFp, n_xPl, n_xSo, n_xSt, n_xVa, n_xDt, n_dDr)) : mR l yX3_takeDry wsX3_takeDry rmX3_takeDry D k sz [.ref xh] (wX3 k xh xrBy xaD xBy xLe xLi xFf xFp xPl xSo xSt xVa xDt xHo ++ (wX1 k xaD drNa drMo drWa drDe dPe dDa dDr dNa dMo dWa dDe)) (wX3 k xh xrBy xaD xBy xLe xLi n_xFf n_xFp n_xPl n_xSo n_xSt n_xVa n_xDt xHo ++ (wX1 k xaD drNa drMo drWa drDe dPe dDa n_dDr dNa dMo dWa dDe)) (some (.int r_)) := by
  refine mR_of (cc := cX3_takeDry) (maxL := 1) (ret := some .boolean) (by decide) rfl (Nat.le_of_ble_eq_true rfl) [(0, .ref xh)] rfl ?_
  intro p e s m below meth c A ls args Q cx hK hA hw hl hQ
  have fx := cx.1
  obtain ⟨⟨hx, hb, hml, hown, hts⟩, hr, hlocks⟩ := cx
  have hinX3 : ∀ w ∈ wsX30, w ∈ wsX3_takeDry := fun w h => List.mem_cons_of_mem _ (List.mem_append_left _ (List.mem_append_right _ h))
  have hinX1 : ∀ w ∈ wsX10, w ∈ wsX3_takeDry := fun w h => List.mem_cons_of_mem _ (List.mem_append_right _ h)
  have q_1 := hts (.fieldLink RX3 38 "DebtRides$Reader" "dryTold" "Z") (List.mem_of_getElem? (i := 1) rfl)
  have q_3 := hts (.fieldLink RX3 18 "DebtRides$Reader" "draft" "LDebtRides$Land;") (List.mem_of_getElem? (i := 3) rfl)
  have q_4 := hts (.fieldLink RX3 107 "DebtRides$Reader" "value" "I") (List.mem_of_getElem? (i := 4) rfl)
  have q_5 := hts (.fieldLink RX3 132 "DebtRides$Land" "dryness" "I") (List.mem_of_getElem? (i := 5) rfl)
  have q_2 := hts (.fieldLink RX3 90 "DebtRides$Reader" "start" "I") (List.mem_of_getElem? (i := 2) rfl)
  have h := hf
  unfold f_X3_takeDry at h
  clear hf
  refine lv_aload_n hx hb dX3_takeDry_0 rfl (lv_at hl 0 rfl) ?_
  refine va_get (ci := 3) (v := .int xDt) (C := RX3) (T := TX3) (N := 12) hx hb hts hinX3 hown hK.1 hw.1 0 rfl rfl 10 (by decide) q_1 (fun _ h9 => h9) rfl dX3_takeDry_1 ?_
  refine kb_if_eq (tgt := 17) hx hb dX3_takeDry_4 (by decide) h (fun c_4 h => ?_) (fun c_4 h => ?_)
  · refine lv_aload_n hx hb dX3_takeDry_17 rfl (lv_at hl 0 rfl) ?_
    refine lv_iconst (v := 1) hx hb dX3_takeDry_18 (by decide) ?_
    refine va_put (ci := 3) (v := .int 1) (ty := tyX3 10) (C := RX3) (T := TX3) (N := 12) hx hb hts hinX3 tyX3 tyX3_ok nmX3 hown hK.1 hw.1 hw.2.1 hw.2.2 0 rfl rfl 10 (by decide) q_1 (fun _ h9 => h9) rfl (tyX3_ok 10 (by decide)) rfl rfl (Nat.le_of_ble_eq_true rfl) dX3_takeDry_19 (fun H locs hP hD hS => ?_)
    have hw : Wd D A s.heap H locs (wX3 k xh xrBy xaD xBy xLe xLi xFf xFp xPl xSo xSt xVa 1 xHo ++ (wX1 k xaD drNa drMo drWa drDe dPe dDa dDr dNa dMo dWa dDe)) := ⟨hP, hD, hS⟩
    refine lv_aload_n hx hb dX3_takeDry_22 rfl (lv_at hl 0 rfl) ?_
    refine lv_iconst (v := 0) hx hb dX3_takeDry_23 (by decide) ?_
    refine lv_bipush (v := 9) hx hb dX3_takeDry_24 (by decide) ?_
    obtain ⟨r_1, xFf_2, xFp_3, xPl_4, xSo_5, xSt_6, xVa_7, hf, h⟩ := b7_inv h
    refine k_callV (host := "") fx hK hA hw (c_X3_takeNumber l D k xh xrBy xaD _ xBy xLe xLi xFf xFp xPl xSo xSt xVa 1 xHo 0 9 r_1 xFf_2 xFp_3 xPl_4 xSo_5 xSt_6 xVa_7 hf) (cwV 2 hts gX3_takeDry_X3_takeNumber rfl rfl rfl (by decide +kernel) ⟨by decide, by decide⟩) (As := [.int 0, .int 9]) (wr := [(xaD, .inr (1, [.int dPe, .int dDa, .int dDr, .ref drNa, .ref drMo, .ref drWa, .ref drDe])), (drNa, .inl (k 0, 5, .inl dNa)), (drMo, .inl (k 0, 5, .inl dMo)), (drWa, .inl (k 0, 5, .inl dWa)), (drDe, .inl (k 0, 25, .inl dDe))]) (ws' := wX3 k xh xrBy xaD xBy xLe xLi xFf_2 xFp_3 xPl_4 xSo_5 xSt_6 xVa_7 1 xHo ++ (wX1 k xaD drNa drMo drWa drDe dPe dDa dDr dNa dMo dWa dDe)) [0, 1] [2, 3, 4, 5, 6] [5, 6, 0, 1, 2, 3, 4] rfl rfl (by decide) (by decide) (by decide) rfl (by decide) 3 rfl rfl [] rfl hl.1 rfl (Nat.le_of_ble_eq_true rfl) dX3_takeDry_26 ⟨by decide, by decide⟩ (fun H locs (hw : Wd D A s.heap H locs (wX3 k xh xrBy xaD xBy xLe xLi xFf_2 xFp_3 xPl_4 xSo_5 xSt_6 xVa_7 1 xHo ++ (wX1 k xaD drNa drMo drWa drDe dPe dDa dDr dNa dMo dWa dDe))) => ?_)
    refine W.eq (g2 := F0 m 29 ls ([.int r_1])) rfl ?_
    refine kb_if_ne (tgt := 34) hx hb dX3_takeDry_29 (by decide) h (fun c_29 h => ?_) (fun c_29 h => ?_)
    · refine lv_iconst (v := 0) hx hb dX3_takeDry_32 (by decide) ?_
      cases h
      exact k_zret hx hb hr hlocks hw (by decide) rfl dX3_takeDry_33 hQ
    · refine lv_aload_n hx hb dX3_takeDry_34 rfl (lv_at hl 0 rfl) ?_
      refine va_get (ci := 3) (v := .ref xaD) (C := RX3) (T := TX3) (N := 12) hx hb hts hinX3 hown hK.1 hw.1 0 rfl rfl 2 (by decide) q_3 (fun _ h9 => h9) rfl dX3_takeDry_35 ?_
      refine lv_aload_n hx hb dX3_takeDry_38 rfl (lv_at hl 0 rfl) ?_
      refine va_get (ci := 3) (v := .int xVa_7) (C := RX3) (T := TX3) (N := 12) hx hb hts hinX3 hown hK.1 hw.1 0 rfl rfl 9 (by decide) q_4 (fun _ h9 => h9) rfl dX3_takeDry_39 ?_
      refine va_put (ci := 1) (v := .int xVa_7) (ty := tyX1 2) (C := RX1) (T := TX1) (N := 7) hx hb hts hinX1 tyX1 tyX1_ok nmX1 hown hK.1 hw.1 hw.2.1 hw.2.2 2 rfl rfl 2 (by decide) q_5 (fun _ h9 => h9) rfl (tyX1_ok 2 (by decide)) rfl rfl (Nat.le_of_ble_eq_true rfl) dX3_takeDry_42 (fun H locs hP hD hS => ?_)
      have hw : Wd D A s.heap H locs (wX3 k xh xrBy xaD xBy xLe xLi xFf_2 xFp_3 xPl_4 xSo_5 xSt_6 xVa_7 1 xHo ++ (wX1 k xaD drNa drMo drWa drDe dPe dDa xVa_7 dNa dMo dWa dDe)) := ⟨hP, hD, hS⟩
      refine lv_aload_n hx hb dX3_takeDry_45 rfl (lv_at hl 0 rfl) ?_
      obtain ⟨r_8, xFf_9, xFp_10, xPl_11, xSo_12, xSt_13, hf, h⟩ := b6_inv h
      refine k_callV (host := "") fx hK hA hw (c_X3_takeSemicolon l D k xh xrBy xaD _ xBy xLe xLi xFf_2 xFp_3 xPl_4 xSo_5 xSt_6 xVa_7 1 xHo r_8 xFf_9 xFp_10 xPl_11 xSo_12 xSt_13 hf) (cwV 0 hts gX3_takeDry_X3_takeSemicolon rfl rfl rfl (by decide +kernel) ⟨by decide, by decide⟩) (As := []) (wr := [(xaD, .inr (1, [.int dPe, .int dDa, .int xVa_7, .ref drNa, .ref drMo, .ref drWa, .ref drDe])), (drNa, .inl (k 0, 5, .inl dNa)), (drMo, .inl (k 0, 5, .inl dMo)), (drWa, .inl (k 0, 5, .inl dWa)), (drDe, .inl (k 0, 25, .inl dDe))]) (ws' := wX3 k xh xrBy xaD xBy xLe xLi xFf_9 xFp_10 xPl_11 xSo_12 xSt_13 xVa_7 1 xHo ++ (wX1 k xaD drNa drMo drWa drDe dPe dDa xVa_7 dNa dMo dWa dDe)) [0, 1] [2, 3, 4, 5, 6] [5, 6, 0, 1, 2, 3, 4] rfl rfl (by decide) (by decide) (by decide) rfl (by decide) 3 rfl rfl [] rfl hl.1 rfl (Nat.le_of_ble_eq_true rfl) dX3_takeDry_46 ⟨by decide, by decide⟩ (fun H locs (hw : Wd D A s.heap H locs (wX3 k xh xrBy xaD xBy xLe xLi xFf_9 xFp_10 xPl_11 xSo_12 xSt_13 xVa_7 1 xHo ++ (wX1 k xaD drNa drMo drWa drDe dPe dDa xVa_7 dNa dMo dWa dDe))) => ?_)
      refine W.eq (g2 := F0 m 49 ls ([.int r_8])) rfl ?_
      obtain ⟨z_14, hz, h⟩ := b1_inv h
      obtain ⟨hz1, hz2⟩ := bz_inv hz
      refine k_lit hz1.symm ?_
      rw [← hz1] at hz2
      cases h
      exact k_zret hx hb hr hlocks hw hz2 rfl dX3_takeDry_49 hQ
  · refine lv_aload_n hx hb dX3_takeDry_7 rfl (lv_at hl 0 rfl) ?_
    refine lv_iconst (v := 4) hx hb dX3_takeDry_8 (by decide) ?_
    refine lv_aload_n hx hb dX3_takeDry_9 rfl (lv_at hl 0 rfl) ?_
    refine va_get (ci := 3) (v := .int xSt) (C := RX3) (T := TX3) (N := 12) hx hb hts hinX3 hown hK.1 hw.1 0 rfl rfl 8 (by decide) q_2 (fun _ h9 => h9) rfl dX3_takeDry_10 ?_
    obtain ⟨r_15, xFf_16, xFp_17, hf, h⟩ := b3_inv h
    refine k_callV (host := "") fx hK hA hw (c_X3_fail l D k xh xrBy xaD _ xBy xLe xLi xFf xFp xPl xSo xSt xVa xDt xHo 4 xSt r_15 xFf_16 xFp_17 hf) (cwV 2 hts gX3_takeDry_X3_fail rfl rfl rfl (by decide +kernel) ⟨by decide, by decide⟩) (As := [.int 4, .int xSt]) (wr := [(xaD, .inr (1, [.int dPe, .int dDa, .int dDr, .ref drNa, .ref drMo, .ref drWa, .ref drDe])), (drNa, .inl (k 0, 5, .inl dNa)), (drMo, .inl (k 0, 5, .inl dMo)), (drWa, .inl (k 0, 5, .inl dWa)), (drDe, .inl (k 0, 25, .inl dDe))]) (ws' := wX3 k xh xrBy xaD xBy xLe xLi xFf_16 xFp_17 xPl xSo xSt xVa xDt xHo ++ (wX1 k xaD drNa drMo drWa drDe dPe dDa dDr dNa dMo dWa dDe)) [0, 1] [2, 3, 4, 5, 6] [5, 6, 0, 1, 2, 3, 4] rfl rfl (by decide) (by decide) (by decide) rfl (by decide) 3 rfl rfl [] rfl hl.1 rfl (Nat.le_of_ble_eq_true rfl) dX3_takeDry_13 ⟨by decide, by decide⟩ (fun H locs (hw : Wd D A s.heap H locs (wX3 k xh xrBy xaD xBy xLe xLi xFf_16 xFp_17 xPl xSo xSt xVa xDt xHo ++ (wX1 k xaD drNa drMo drWa drDe dPe dDa dDr dNa dMo dWa dDe))) => ?_)
    refine W.eq (g2 := F0 m 16 ls ([.int r_15])) rfl ?_
    obtain ⟨z_18, hz, h⟩ := b1_inv h
    obtain ⟨hz1, hz2⟩ := bz_inv hz
    refine k_lit hz1.symm ?_
    rw [← hz1] at hz2
    cases h
    exact k_zret hx hb hr hlocks hw hz2 rfl dX3_takeDry_16 hQ
abbrev rmX4_behind : Room := { frames := 0, cells := 0, slots := 0, locals := 0 }
set_option maxHeartbeats 4000000 in
set_option maxRecDepth 100000 in
theorem c_X4_behind (l : Launch) (D : va_G) (k : Nat → ClassId) (xh xrRo : Nat) (sz : Nat) (xRo : (Nat → Int32)) (xSz : Int32) (p1 : Int32) (r_ : Int32) (hf : f_X4_behind xRo xSz p1 = some r_) : mR l yX4_behind wsX4_behind rmX4_behind D k sz [.ref xh, .int p1] (wX4 k xh xrRo xRo xSz) (wX4 k xh xrRo xRo xSz) (some (.int r_)) := by
  refine mR_of (cc := cX4_behind) (maxL := 2) (ret := some .int) (by decide) rfl (Nat.le_of_ble_eq_true rfl) [(0, .ref xh), (1, .int p1)] rfl ?_
  intro p e s m below meth c A ls args Q cx hK hA hw hl hQ
  have fx := cx.1
  obtain ⟨⟨hx, hb, hml, hown, hts⟩, hr, hlocks⟩ := cx
  have hinX4 : ∀ w ∈ wsX40, w ∈ wsX4_behind := fun w h => List.mem_cons_of_mem _ (List.mem_append_right _ h)
  have q_1 := hts (.fieldLink RX4 21 "DebtRides$RingFinder" "size" "I") (List.mem_of_getElem? (i := 1) rfl)
  have q_2 := hts (.fieldLink RX4 9 "DebtRides$RingFinder" "row" "[I") (List.mem_of_getElem? (i := 2) rfl)
  have h := hf
  unfold f_X4_behind at h
  clear hf
  refine lv_iload_n hx hb dX4_behind_0 rfl (lv_at hl 1 rfl) ?_
  refine lv_iconst (v := 1) hx hb dX4_behind_1 (by decide) ?_
  refine lv_iadd hx hb dX4_behind_2 ?_
  refine lv_aload_n hx hb dX4_behind_3 rfl (lv_at hl 0 rfl) ?_
  refine va_get (ci := 4) (v := .int xSz) (C := RX4) (T := TX4) (N := 2) hx hb hts hinX4 hown hK.1 hw.1 0 rfl rfl 1 (by decide) q_1 (fun _ h9 => h9) rfl dX4_behind_4 ?_
  refine kb_icmp_ge (tgt := 21) hx hb dX4_behind_7 (by decide) h (fun c_7 h => ?_) (fun c_7 h => ?_)
  · refine lv_aload_n hx hb dX4_behind_21 rfl (lv_at hl 0 rfl) ?_
    refine va_get (ci := 4) (v := .ref xrRo) (C := RX4) (T := TX4) (N := 2) hx hb hts hinX4 hown hK.1 hw.1 0 rfl rfl 0 (by decide) q_2 (fun _ h9 => h9) rfl dX4_behind_22 ?_
    refine lv_iconst (v := 0) hx hb dX4_behind_25 (by decide) ?_
    refine k_iald hx hb hK hw 1 rfl dX4_behind_26 h (fun a_1 h => ?_)
    cases h
    exact k_iret hx hb hr hlocks hw rfl dX4_behind_27 hQ
  · refine lv_aload_n hx hb dX4_behind_10 rfl (lv_at hl 0 rfl) ?_
    refine va_get (ci := 4) (v := .ref xrRo) (C := RX4) (T := TX4) (N := 2) hx hb hts hinX4 hown hK.1 hw.1 0 rfl rfl 0 (by decide) q_2 (fun _ h9 => h9) rfl dX4_behind_11 ?_
    refine lv_iload_n hx hb dX4_behind_14 rfl (lv_at hl 1 rfl) ?_
    refine lv_iconst (v := 1) hx hb dX4_behind_15 (by decide) ?_
    refine lv_iadd hx hb dX4_behind_16 ?_
    refine k_iald hx hb hK hw 1 rfl dX4_behind_17 h (fun a_2 h => ?_)
    refine lv_goto (tgt := 27) hx hb dX4_behind_18 (by decide) ?_
    cases h
    exact k_iret hx hb hr hlocks hw rfl dX4_behind_27 hQ
abbrev rmX4_stands : Room := { frames := 0, cells := 0, slots := 0, locals := 0 }
set_option maxHeartbeats 4000000 in
set_option maxRecDepth 100000 in
theorem c_X4_stands (l : Launch) (D : va_G) (k : Nat → ClassId) (xh xrRo : Nat) (sz : Nat) (xRo : (Nat → Int32)) (xSz : Int32) (p1 : Int32) (p2 : Int32) (r_ : Int32) (hf : f_X4_stands xRo p1 p2 = some r_) : mR l yX4_stands wsX4_stands rmX4_stands D k sz [.ref xh, .int p1, .int p2] (wX4 k xh xrRo xRo xSz) (wX4 k xh xrRo xRo xSz) (some (.int r_)) := by
  refine mR_of (cc := cX4_stands) (maxL := 4) (ret := some .boolean) (by decide) rfl (Nat.le_of_ble_eq_true rfl) [(0, .ref xh), (1, .int p1), (2, .int p2)] rfl ?_
  intro p e s m below meth c A ls args Q cx hK hA hw hl hQ
  have fx := cx.1
  obtain ⟨⟨hx, hb, hml, hown, hts⟩, hr, hlocks⟩ := cx
  have hinX4 : ∀ w ∈ wsX40, w ∈ wsX4_stands := fun w h => List.mem_cons_of_mem _ (List.mem_append_right _ h)
  have q_1 := hts (.fieldLink RX4 9 "DebtRides$RingFinder" "row" "[I") (List.mem_of_getElem? (i := 1) rfl)
  have h := hf
  unfold f_X4_stands at h
  clear hf
  refine lv_iconst (v := 0) hx hb dX4_stands_0 (by decide) ?_
  refine lv_istore_n (lv' := [(3, .int 0), (0, .ref xh), (1, .int p1), (2, .int p2)]) hx hb dX4_stands_1 rfl hl (by decide) rfl (fun ls hl => ?_)
  obtain ⟨ex_2, hL_2, hX_2⟩ := bs1_inv h
  clear h
  have X_2 : ex_2 = Sum.inr () → ∀ (H : Heap) (locs : List Loc) (ls : Array Slot), Wd D A s.heap H locs (wX4 k xh xrRo xRo xSz) → lv_has ls 4 [] → W p l e rmX4_stands s m args below meth c H locs 0 0 Q (F0 m 25 ls []) := by
    intro  hex H locs ls hw hl
    subst hex
    have h := bs1_r hX_2
    refine lv_iconst (v := 0) hx hb dX4_stands_25 (by decide) ?_
    cases h
    exact k_zret hx hb hr hlocks hw (by decide) rfl dX4_stands_26 hQ
  have LP_2 : ∀ (n : Nat) (v3_1 : Int32), f_X4_stands_L2 xRo p1 p2 n v3_1 = some ex_2 → ∀ (H : Heap) (locs : List Loc) (ls : Array Slot), Wd D A s.heap H locs (wX4 k xh xrRo xRo xSz) → lv_has ls 4 [(0, .ref xh), (1, .int p1), (2, .int p2), (3, .int v3_1)] → W p l e rmX4_stands s m args below meth c H locs 0 0 Q (F0 m 2 ls []) := by
    clear hL_2 hw hl
    intro n
    induction n with
    | zero => intro v3_1 h; rw [f_X4_stands_L2] at h; cases h
    | succ n ih =>
      intro v3_1 h H locs ls hw hl
      rw [f_X4_stands_L2] at h
      refine lv_iload_n hx hb dX4_stands_2 rfl (lv_at hl 3 rfl) ?_
      refine lv_iload_n hx hb dX4_stands_3 rfl (lv_at hl 2 rfl) ?_
      refine kb_icmp_ge (tgt := 25) hx hb dX4_stands_4 (by decide) h (fun c_4 h => ?_) (fun c_4 h => ?_)
      · cases h
        exact X_2  rfl _ _ _ hw (lv_sub hl [] rfl)
      · refine lv_aload_n hx hb dX4_stands_7 rfl (lv_at hl 0 rfl) ?_
        refine va_get (ci := 4) (v := .ref xrRo) (C := RX4) (T := TX4) (N := 2) hx hb hts hinX4 hown hK.1 hw.1 0 rfl rfl 0 (by decide) q_1 (fun _ h9 => h9) rfl dX4_stands_8 ?_
        refine lv_iload_n hx hb dX4_stands_11 rfl (lv_at hl 3 rfl) ?_
        refine k_iald hx hb hK hw 1 rfl dX4_stands_12 h (fun a_2 h => ?_)
        refine lv_iload_n hx hb dX4_stands_13 rfl (lv_at hl 1 rfl) ?_
        refine kb_icmp_ne (tgt := 19) hx hb dX4_stands_14 (by decide) h (fun c_14 h => ?_) (fun c_14 h => ?_)
        · refine lv_iconst (v := 1) hx hb dX4_stands_17 (by decide) ?_
          cases h
          have h := bs1_l hX_2
          cases h
          exact k_zret hx hb hr hlocks hw (by decide) rfl dX4_stands_18 hQ
        · refine lv_iinc (v := v3_1 + 1) (lv' := [(3, .int (v3_1 + 1)), (0, .ref xh), (1, .int p1), (2, .int p2)]) hx hb dX4_stands_19 hl (k := 3) rfl rfl (by decide) rfl (fun ls hl => ?_)
          refine lv_goto (tgt := 2) hx hb dX4_stands_22 (by decide) ?_
          exact ih _ h _ _ _ hw (lv_sub hl [1, 2, 3, 0] rfl)
  exact LP_2 400 0 hL_2 _ _ _ hw (lv_sub hl [1, 2, 3, 0] rfl)
abbrev rmX4_closes_5 : Room := { frames := 1, cells := 0, slots := 0, locals := 23 }
set_option maxHeartbeats 4000000 in
set_option maxRecDepth 100000 in
theorem c_X4_closes_5 (l : Launch) (D : va_G) (k : Nat → ClassId) (xh xrRo nh nrNa nrMo nrWa nrDe : Nat) (sz : Nat) (xRo : (Nat → Int32)) (xSz : Int32) (nPe : Int32) (nDa : Int32) (nDr : Int32) (nNa : (Nat → Int32)) (nMo : (Nat → Int32)) (nWa : (Nat → Int32)) (nDe : (Nat → Int32)) (r_ : Int32) (n_xRo : (Nat → Int32)) (hf : f_X4_closes_5 xRo xSz nPe nDe = some (r_, n_xRo)) : mR l yX4_closes wsX4_closes rmX4_closes_5 D k sz [.ref xh, .ref nh, .int 5] (wX4 k xh xrRo xRo xSz ++ (wX1 k nh nrNa nrMo nrWa nrDe nPe nDa nDr nNa nMo nWa nDe)) (wX4 k xh xrRo n_xRo xSz ++ (wX1 k nh nrNa nrMo nrWa nrDe nPe nDa nDr nNa nMo nWa nDe)) (some (.int r_)) := by
  refine mR_of (cc := cX4_closes) (maxL := 5) (ret := some .boolean) (by decide) rfl (Nat.le_of_ble_eq_true rfl) [(0, .ref xh), (1, .ref nh), (2, .int 5)] rfl ?_
  intro p e s m below meth c A ls args Q cx hK hA hw hl hQ
  have fx := cx.1
  obtain ⟨⟨hx, hb, hml, hown, hts⟩, hr, hlocks⟩ := cx
  have hinX4 : ∀ w ∈ wsX40, w ∈ wsX4_closes := fun w h => List.mem_cons_of_mem _ (List.mem_append_left _ (List.mem_append_right _ h))
  have hinX1 : ∀ w ∈ wsX10, w ∈ wsX4_closes := fun w h => List.mem_cons_of_mem _ (List.mem_append_right _ h)
  have q_1 := hts (.fieldLink RX4 9 "DebtRides$RingFinder" "row" "[I") (List.mem_of_getElem? (i := 1) rfl)
  have q_2 := hts (.fieldLink RX4 21 "DebtRides$RingFinder" "size" "I") (List.mem_of_getElem? (i := 2) rfl)
  have q_3 := hts (.fieldLink RX4 15 "DebtRides$Land" "people" "I") (List.mem_of_getElem? (i := 3) rfl)
  have h := hf
  unfold f_X4_closes_5 at h
  clear hf
  refine lv_aload_n hx hb dX4_closes_0 rfl (lv_at hl 0 rfl) ?_
  refine va_get (ci := 4) (v := .ref xrRo) (C := RX4) (T := TX4) (N := 2) hx hb hts hinX4 hown hK.1 hw.1 0 rfl rfl 0 (by decide) q_1 (fun _ h9 => h9) rfl dX4_closes_1 ?_
  refine lv_iload_n hx hb dX4_closes_4 rfl (lv_at hl 2 rfl) ?_
  refine lv_iconst (v := 1) hx hb dX4_closes_5 (by decide) ?_
  refine lv_isub hx hb dX4_closes_6 ?_
  refine k_lit (y := 4) (by decide) ?_
  refine k_iald hx hb hK hw 1 rfl dX4_closes_7 h (fun a_1 h => ?_)
  refine lv_istore_n (lv' := [(3, .int a_1), (0, .ref xh), (1, .ref nh), (2, .int 5)]) hx hb dX4_closes_8 rfl hl (by decide) rfl (fun ls hl => ?_)
  refine lv_iload_n hx hb dX4_closes_9 rfl (lv_at hl 3 rfl) ?_
  refine lv_aload_n hx hb dX4_closes_10 rfl (lv_at hl 1 rfl) ?_
  refine va_get (ci := 4) (v := .int xSz) (C := RX4) (T := TX4) (N := 2) hx hb hts hinX4 hown hK.1 hw.1 0 rfl rfl 1 (by decide) q_2 (fun _ h9 => h9) rfl dX4_closes_11 ?_
  refine kb_icmp_lt (tgt := 37) hx hb dX4_closes_14 (by decide) h (fun c_14 h => ?_) (fun c_14 h => ?_)
  · refine lv_aload_n hx hb dX4_closes_37 rfl (lv_at hl 1 rfl) ?_
    refine va_get (ci := 4) (v := .ref xrRo) (C := RX4) (T := TX4) (N := 2) hx hb hts hinX4 hown hK.1 hw.1 0 rfl rfl 0 (by decide) q_1 (fun _ h9 => h9) rfl dX4_closes_38 ?_
    refine lv_iconst (v := 0) hx hb dX4_closes_41 (by decide) ?_
    refine k_iald hx hb hK hw 1 rfl dX4_closes_42 h (fun a_2 h => ?_)
    refine lv_iconst (v := 1) hx hb dX4_closes_43 (by decide) ?_
    refine lv_iadd hx hb dX4_closes_44 ?_
    refine lv_istore (lv' := [(4, .int (a_2 + 1)), (3, .int a_1), (0, .ref xh), (1, .ref nh), (2, .int 5)]) hx hb dX4_closes_45 hl (by decide) rfl (fun ls hl => ?_)
    obtain ⟨ex_47, hL_47, hX_47⟩ := bs1_inv h
    clear h
    have X_47 : ex_47 = Sum.inr () → ∀ (H : Heap) (locs : List Loc) (ls : Array Slot), Wd D A s.heap H locs (wX4 k xh xrRo xRo xSz ++ (wX1 k nh nrNa nrMo nrWa nrDe nPe nDa nDr nNa nMo nWa nDe)) → lv_has ls 5 [] → W p l e rmX4_closes_5 s m args below meth c H locs 0 0 Q (F0 m 103 ls []) := by
      intro  hex H locs ls hw hl
      subst hex
      have h := bs1_r hX_47
      refine lv_iconst (v := 0) hx hb dX4_closes_103 (by decide) ?_
      cases h
      exact k_zret hx hb hr hlocks hw (by decide) rfl dX4_closes_104 hQ
    have LP_47 : ∀ (n : Nat) (v4_3 : Int32), f_X4_closes_5_L47 xRo nPe nDe a_1 n v4_3 = some ex_47 → ∀ (H : Heap) (locs : List Loc) (ls : Array Slot), Wd D A s.heap H locs (wX4 k xh xrRo xRo xSz ++ (wX1 k nh nrNa nrMo nrWa nrDe nPe nDa nDr nNa nMo nWa nDe)) → lv_has ls 5 [(0, .ref xh), (1, .ref nh), (2, .int 5), (3, .int a_1), (4, .int v4_3)] → W p l e rmX4_closes_5 s m args below meth c H locs 0 0 Q (F0 m 47 ls []) := by
      clear hL_47 hw hl
      intro n
      induction n with
      | zero => intro v4_3 h; rw [f_X4_closes_5_L47] at h; cases h
      | succ n ih =>
        intro v4_3 h H locs ls hw hl
        rw [f_X4_closes_5_L47] at h
        refine lv_iload hx hb dX4_closes_47 (lv_at hl 4 rfl) ?_
        refine lv_aload_n hx hb dX4_closes_49 rfl (lv_at hl 1 rfl) ?_
        refine va_get (ci := 1) (v := .int nPe) (C := RX1) (T := TX1) (N := 7) hx hb hts hinX1 hown hK.1 hw.1 2 rfl rfl 0 (by decide) q_3 (fun _ h9 => h9) rfl dX4_closes_50 ?_
        refine kb_icmp_ge (tgt := 103) hx hb dX4_closes_53 (by decide) h (fun c_53 h => ?_) (fun c_53 h => ?_)
        · cases h
          exact X_47  rfl _ _ _ hw (lv_sub hl [] rfl)
        · refine lv_aload_n hx hb dX4_closes_56 rfl (lv_at hl 1 rfl) ?_
          refine lv_iload_n hx hb dX4_closes_57 rfl (lv_at hl 3 rfl) ?_
          refine lv_iload hx hb dX4_closes_58 (lv_at hl 4 rfl) ?_
          obtain ⟨r_4, hf, h⟩ := b1_inv h
          refine k_callV (host := "") fx hK hA hw (c_X1_debt l D k nh nrNa nrMo nrWa nrDe _ nPe nDa nDr nNa nMo nWa nDe a_1 v4_3 r_4 hf) (cwV 2 hts gX4_closes_X1_debt rfl rfl rfl (by decide +kernel) ⟨by decide, by decide⟩) (As := [.int a_1, .int v4_3]) (wr := [(xh, .inr (4, [.ref xrRo, .int xSz])), (xrRo, .inl (k 0, 5, .inl xRo))]) (ws' := wX4 k xh xrRo xRo xSz ++ (wX1 k nh nrNa nrMo nrWa nrDe nPe nDa nDr nNa nMo nWa nDe)) [2, 3, 4, 5, 6] [0, 1] [0, 1, 2, 3, 4, 5, 6] rfl rfl (by decide) (by decide) (by decide) rfl (by decide) 1 rfl rfl [] rfl hl.1 rfl (Nat.le_of_ble_eq_true rfl) dX4_closes_60 ⟨by decide, by decide⟩ (fun H locs (hw : Wd D A s.heap H locs (wX4 k xh xrRo xRo xSz ++ (wX1 k nh nrNa nrMo nrWa nrDe nPe nDa nDr nNa nMo nWa nDe))) => ?_)
          refine W.eq (g2 := F0 m 63 ls ([.int r_4])) rfl ?_
          refine kb_if_le (tgt := 97) hx hb dX4_closes_63 (by decide) h (fun c_63 h => ?_) (fun c_63 h => ?_)
          · refine lv_iinc (v := v4_3 + 1) (lv' := [(4, .int (v4_3 + 1)), (0, .ref xh), (1, .ref nh), (2, .int 5), (3, .int a_1)]) hx hb dX4_closes_97 hl (k := 4) rfl rfl (by decide) rfl (fun ls hl => ?_)
            refine lv_goto (tgt := 47) hx hb dX4_closes_100 (by decide) ?_
            exact ih _ h _ _ _ hw (lv_sub hl [1, 2, 3, 4, 0] rfl)
          · refine lv_aload_n hx hb dX4_closes_66 rfl (lv_at hl 0 rfl) ?_
            refine lv_iload hx hb dX4_closes_67 (lv_at hl 4 rfl) ?_
            refine lv_iload_n hx hb dX4_closes_69 rfl (lv_at hl 2 rfl) ?_
            obtain ⟨r_5, hf, h⟩ := b1_inv h
            refine k_callV (host := "") fx hK hA hw (c_X4_stands l D k xh xrRo _ xRo xSz v4_3 5 r_5 hf) (cwV 2 hts gX4_closes_X4_stands rfl rfl rfl (by decide +kernel) ⟨by decide, by decide⟩) (As := [.int v4_3, .int 5]) (wr := [(nh, .inr (1, [.int nPe, .int nDa, .int nDr, .ref nrNa, .ref nrMo, .ref nrWa, .ref nrDe])), (nrNa, .inl (k 0, 5, .inl nNa)), (nrMo, .inl (k 0, 5, .inl nMo)), (nrWa, .inl (k 0, 5, .inl nWa)), (nrDe, .inl (k 0, 25, .inl nDe))]) (ws' := wX4 k xh xrRo xRo xSz ++ (wX1 k nh nrNa nrMo nrWa nrDe nPe nDa nDr nNa nMo nWa nDe)) [0, 1] [2, 3, 4, 5, 6] [5, 6, 0, 1, 2, 3, 4] rfl rfl (by decide) (by decide) (by decide) rfl (by decide) 4 rfl rfl [] rfl hl.1 rfl (Nat.le_of_ble_eq_true rfl) dX4_closes_70 ⟨by decide, by decide⟩ (fun H locs (hw : Wd D A s.heap H locs (wX4 k xh xrRo xRo xSz ++ (wX1 k nh nrNa nrMo nrWa nrDe nPe nDa nDr nNa nMo nWa nDe))) => ?_)
            refine W.eq (g2 := F0 m 73 ls ([.int r_5])) rfl ?_
            refine kb_if_ne (tgt := 97) hx hb dX4_closes_73 (by decide) h (fun c_73 h => ?_) (fun c_73 h => ?_)
            · refine lv_aload_n hx hb dX4_closes_76 rfl (lv_at hl 0 rfl) ?_
              refine va_get (ci := 4) (v := .ref xrRo) (C := RX4) (T := TX4) (N := 2) hx hb hts hinX4 hown hK.1 hw.1 0 rfl rfl 0 (by decide) q_1 (fun _ h9 => h9) rfl dX4_closes_77 ?_
              refine lv_iload_n hx hb dX4_closes_80 rfl (lv_at hl 2 rfl) ?_
              refine lv_iload hx hb dX4_closes_81 (lv_at hl 4 rfl) ?_
              refine k_iast hx hb hK hw 1 rfl dX4_closes_83 h (fun xRo_6 h H locs (hw : Wd D A s.heap H locs (wX4 k xh xrRo xRo_6 xSz ++ (wX1 k nh nrNa nrMo nrWa nrDe nPe nDa nDr nNa nMo nWa nDe))) => ?_)
              refine lv_aload_n hx hb dX4_closes_84 rfl (lv_at hl 0 rfl) ?_
              refine lv_aload_n hx hb dX4_closes_85 rfl (lv_at hl 1 rfl) ?_
              refine lv_iload_n hx hb dX4_closes_86 rfl (lv_at hl 2 rfl) ?_
              refine lv_iconst (v := 1) hx hb dX4_closes_87 (by decide) ?_
              refine lv_iadd hx hb dX4_closes_88 ?_
              refine k_lit (y := 6) (by decide) ?_
              cases h
            · refine lv_iinc (v := v4_3 + 1) (lv' := [(4, .int (v4_3 + 1)), (0, .ref xh), (1, .ref nh), (2, .int 5), (3, .int a_1)]) hx hb dX4_closes_97 hl (k := 4) rfl rfl (by decide) rfl (fun ls hl => ?_)
              refine lv_goto (tgt := 47) hx hb dX4_closes_100 (by decide) ?_
              exact ih _ h _ _ _ hw (lv_sub hl [1, 2, 3, 4, 0] rfl)
    exact LP_47 400 (a_2 + 1) hL_47 _ _ _ hw (lv_sub hl [2, 3, 4, 1, 0] rfl)
  · refine lv_aload_n hx hb dX4_closes_17 rfl (lv_at hl 2 rfl) ?_
    refine lv_iload_n hx hb dX4_closes_18 rfl (lv_at hl 0 rfl) ?_
    refine lv_aload_n hx hb dX4_closes_19 rfl (lv_at hl 1 rfl) ?_
    refine va_get (ci := 4) (v := .ref xrRo) (C := RX4) (T := TX4) (N := 2) hx hb hts hinX4 hown hK.1 hw.1 0 rfl rfl 0 (by decide) q_1 (fun _ h9 => h9) rfl dX4_closes_20 ?_
    refine lv_iconst (v := 0) hx hb dX4_closes_23 (by decide) ?_
    refine k_iald hx hb hK hw 1 rfl dX4_closes_24 h (fun a_7 h => ?_)
    obtain ⟨r_8, hf, h⟩ := b1_inv h
    refine k_callV (host := "") fx hK hA hw (c_X1_debt l D k nh nrNa nrMo nrWa nrDe _ nPe nDa nDr nNa nMo nWa nDe a_1 a_7 r_8 hf) (cwV 2 hts gX4_closes_X1_debt rfl rfl rfl (by decide +kernel) ⟨by decide, by decide⟩) (As := [.int a_1, .int a_7]) (wr := [(xh, .inr (4, [.ref xrRo, .int xSz])), (xrRo, .inl (k 0, 5, .inl xRo))]) (ws' := wX4 k xh xrRo xRo xSz ++ (wX1 k nh nrNa nrMo nrWa nrDe nPe nDa nDr nNa nMo nWa nDe)) [2, 3, 4, 5, 6] [0, 1] [0, 1, 2, 3, 4, 5, 6] rfl rfl (by decide) (by decide) (by decide) rfl (by decide) 1 rfl rfl [] rfl hl.1 rfl (Nat.le_of_ble_eq_true rfl) dX4_closes_25 ⟨by decide, by decide⟩ (fun H locs (hw : Wd D A s.heap H locs (wX4 k xh xrRo xRo xSz ++ (wX1 k nh nrNa nrMo nrWa nrDe nPe nDa nDr nNa nMo nWa nDe))) => ?_)
    refine W.eq (g2 := F0 m 28 ls ([.int r_8])) rfl ?_
    refine kb_if_le (tgt := 35) hx hb dX4_closes_28 (by decide) h (fun c_28 h => ?_) (fun c_28 h => ?_)
    · refine lv_iconst (v := 0) hx hb dX4_closes_35 (by decide) ?_
      cases h
      exact k_zret hx hb hr hlocks hw (by decide) rfl dX4_closes_36 hQ
    · refine lv_iconst (v := 1) hx hb dX4_closes_31 (by decide) ?_
      refine lv_goto (tgt := 36) hx hb dX4_closes_32 (by decide) ?_
      cases h
      exact k_zret hx hb hr hlocks hw (by decide) rfl dX4_closes_36 hQ
abbrev rmX4_closes_4 : Room := { frames := 2, cells := 0, slots := 0, locals := 47 }
set_option maxHeartbeats 4000000 in
set_option maxRecDepth 100000 in
theorem c_X4_closes_4 (l : Launch) (D : va_G) (k : Nat → ClassId) (xh xrRo nh nrNa nrMo nrWa nrDe : Nat) (sz : Nat) (xRo : (Nat → Int32)) (xSz : Int32) (nPe : Int32) (nDa : Int32) (nDr : Int32) (nNa : (Nat → Int32)) (nMo : (Nat → Int32)) (nWa : (Nat → Int32)) (nDe : (Nat → Int32)) (r_ : Int32) (n_xRo : (Nat → Int32)) (hf : f_X4_closes_4 xRo xSz nPe nDe = some (r_, n_xRo)) : mR l yX4_closes wsX4_closes rmX4_closes_4 D k sz [.ref xh, .ref nh, .int 4] (wX4 k xh xrRo xRo xSz ++ (wX1 k nh nrNa nrMo nrWa nrDe nPe nDa nDr nNa nMo nWa nDe)) (wX4 k xh xrRo n_xRo xSz ++ (wX1 k nh nrNa nrMo nrWa nrDe nPe nDa nDr nNa nMo nWa nDe)) (some (.int r_)) := by
  refine mR_of (cc := cX4_closes) (maxL := 5) (ret := some .boolean) (by decide) rfl (Nat.le_of_ble_eq_true rfl) [(0, .ref xh), (1, .ref nh), (2, .int 4)] rfl ?_
  intro p e s m below meth c A ls args Q cx hK hA hw hl hQ
  have fx := cx.1
  obtain ⟨⟨hx, hb, hml, hown, hts⟩, hr, hlocks⟩ := cx
  have hinX4 : ∀ w ∈ wsX40, w ∈ wsX4_closes := fun w h => List.mem_cons_of_mem _ (List.mem_append_left _ (List.mem_append_right _ h))
  have hinX1 : ∀ w ∈ wsX10, w ∈ wsX4_closes := fun w h => List.mem_cons_of_mem _ (List.mem_append_right _ h)
  have q_1 := hts (.fieldLink RX4 9 "DebtRides$RingFinder" "row" "[I") (List.mem_of_getElem? (i := 1) rfl)
  have q_2 := hts (.fieldLink RX4 21 "DebtRides$RingFinder" "size" "I") (List.mem_of_getElem? (i := 2) rfl)
  have q_3 := hts (.fieldLink RX4 15 "DebtRides$Land" "people" "I") (List.mem_of_getElem? (i := 3) rfl)
  have h := hf
  unfold f_X4_closes_4 at h
  clear hf
  refine lv_aload_n hx hb dX4_closes_0 rfl (lv_at hl 0 rfl) ?_
  refine va_get (ci := 4) (v := .ref xrRo) (C := RX4) (T := TX4) (N := 2) hx hb hts hinX4 hown hK.1 hw.1 0 rfl rfl 0 (by decide) q_1 (fun _ h9 => h9) rfl dX4_closes_1 ?_
  refine lv_iload_n hx hb dX4_closes_4 rfl (lv_at hl 2 rfl) ?_
  refine lv_iconst (v := 1) hx hb dX4_closes_5 (by decide) ?_
  refine lv_isub hx hb dX4_closes_6 ?_
  refine k_lit (y := 3) (by decide) ?_
  refine k_iald hx hb hK hw 1 rfl dX4_closes_7 h (fun a_1 h => ?_)
  refine lv_istore_n (lv' := [(3, .int a_1), (0, .ref xh), (1, .ref nh), (2, .int 4)]) hx hb dX4_closes_8 rfl hl (by decide) rfl (fun ls hl => ?_)
  refine lv_iload_n hx hb dX4_closes_9 rfl (lv_at hl 3 rfl) ?_
  refine lv_aload_n hx hb dX4_closes_10 rfl (lv_at hl 1 rfl) ?_
  refine va_get (ci := 4) (v := .int xSz) (C := RX4) (T := TX4) (N := 2) hx hb hts hinX4 hown hK.1 hw.1 0 rfl rfl 1 (by decide) q_2 (fun _ h9 => h9) rfl dX4_closes_11 ?_
  refine kb_icmp_lt (tgt := 37) hx hb dX4_closes_14 (by decide) h (fun c_14 h => ?_) (fun c_14 h => ?_)
  · refine lv_aload_n hx hb dX4_closes_37 rfl (lv_at hl 1 rfl) ?_
    refine va_get (ci := 4) (v := .ref xrRo) (C := RX4) (T := TX4) (N := 2) hx hb hts hinX4 hown hK.1 hw.1 0 rfl rfl 0 (by decide) q_1 (fun _ h9 => h9) rfl dX4_closes_38 ?_
    refine lv_iconst (v := 0) hx hb dX4_closes_41 (by decide) ?_
    refine k_iald hx hb hK hw 1 rfl dX4_closes_42 h (fun a_2 h => ?_)
    refine lv_iconst (v := 1) hx hb dX4_closes_43 (by decide) ?_
    refine lv_iadd hx hb dX4_closes_44 ?_
    refine lv_istore (lv' := [(4, .int (a_2 + 1)), (3, .int a_1), (0, .ref xh), (1, .ref nh), (2, .int 4)]) hx hb dX4_closes_45 hl (by decide) rfl (fun ls hl => ?_)
    obtain ⟨ex_47, hL_47, hX_47⟩ := bs1_inv h
    clear h
    have X_47 : ∀ (xRo_5 : (Nat → Int32)), ex_47 = Sum.inr xRo_5 → ∀ (H : Heap) (locs : List Loc) (ls : Array Slot), Wd D A s.heap H locs (wX4 k xh xrRo xRo_5 xSz ++ (wX1 k nh nrNa nrMo nrWa nrDe nPe nDa nDr nNa nMo nWa nDe)) → lv_has ls 5 [] → W p l e rmX4_closes_4 s m args below meth c H locs 0 0 Q (F0 m 103 ls []) := by
      intro xRo_5 hex H locs ls hw hl
      subst hex
      have h := bs1_r hX_47
      refine lv_iconst (v := 0) hx hb dX4_closes_103 (by decide) ?_
      cases h
      exact k_zret hx hb hr hlocks hw (by decide) rfl dX4_closes_104 hQ
    have LP_47 : ∀ (n : Nat) (v4_3 : Int32) (xRo_4 : (Nat → Int32)), f_X4_closes_4_L47 xSz nPe nDe a_1 n v4_3 xRo_4 = some ex_47 → ∀ (H : Heap) (locs : List Loc) (ls : Array Slot), Wd D A s.heap H locs (wX4 k xh xrRo xRo_4 xSz ++ (wX1 k nh nrNa nrMo nrWa nrDe nPe nDa nDr nNa nMo nWa nDe)) → lv_has ls 5 [(0, .ref xh), (1, .ref nh), (2, .int 4), (3, .int a_1), (4, .int v4_3)] → W p l e rmX4_closes_4 s m args below meth c H locs 0 0 Q (F0 m 47 ls []) := by
      clear hL_47 hw hl
      intro n
      induction n with
      | zero => intro v4_3 xRo_4 h; rw [f_X4_closes_4_L47] at h; cases h
      | succ n ih =>
        intro v4_3 xRo_4 h H locs ls hw hl
        rw [f_X4_closes_4_L47] at h
        refine lv_iload hx hb dX4_closes_47 (lv_at hl 4 rfl) ?_
        refine lv_aload_n hx hb dX4_closes_49 rfl (lv_at hl 1 rfl) ?_
        refine va_get (ci := 1) (v := .int nPe) (C := RX1) (T := TX1) (N := 7) hx hb hts hinX1 hown hK.1 hw.1 2 rfl rfl 0 (by decide) q_3 (fun _ h9 => h9) rfl dX4_closes_50 ?_
        refine kb_icmp_ge (tgt := 103) hx hb dX4_closes_53 (by decide) h (fun c_53 h => ?_) (fun c_53 h => ?_)
        · cases h
          exact X_47 _ rfl _ _ _ hw (lv_sub hl [] rfl)
        · refine lv_aload_n hx hb dX4_closes_56 rfl (lv_at hl 1 rfl) ?_
          refine lv_iload_n hx hb dX4_closes_57 rfl (lv_at hl 3 rfl) ?_
          refine lv_iload hx hb dX4_closes_58 (lv_at hl 4 rfl) ?_
          obtain ⟨r_6, hf, h⟩ := b1_inv h
          refine k_callV (host := "") fx hK hA hw (c_X1_debt l D k nh nrNa nrMo nrWa nrDe _ nPe nDa nDr nNa nMo nWa nDe a_1 v4_3 r_6 hf) (cwV 2 hts gX4_closes_X1_debt rfl rfl rfl (by decide +kernel) ⟨by decide, by decide⟩) (As := [.int a_1, .int v4_3]) (wr := [(xh, .inr (4, [.ref xrRo, .int xSz])), (xrRo, .inl (k 0, 5, .inl xRo_4))]) (ws' := wX4 k xh xrRo xRo_4 xSz ++ (wX1 k nh nrNa nrMo nrWa nrDe nPe nDa nDr nNa nMo nWa nDe)) [2, 3, 4, 5, 6] [0, 1] [0, 1, 2, 3, 4, 5, 6] rfl rfl (by decide) (by decide) (by decide) rfl (by decide) 1 rfl rfl [] rfl hl.1 rfl (Nat.le_of_ble_eq_true rfl) dX4_closes_60 ⟨by decide, by decide⟩ (fun H locs (hw : Wd D A s.heap H locs (wX4 k xh xrRo xRo_4 xSz ++ (wX1 k nh nrNa nrMo nrWa nrDe nPe nDa nDr nNa nMo nWa nDe))) => ?_)
          refine W.eq (g2 := F0 m 63 ls ([.int r_6])) rfl ?_
          refine kb_if_le (tgt := 97) hx hb dX4_closes_63 (by decide) h (fun c_63 h => ?_) (fun c_63 h => ?_)
          · refine lv_iinc (v := v4_3 + 1) (lv' := [(4, .int (v4_3 + 1)), (0, .ref xh), (1, .ref nh), (2, .int 4), (3, .int a_1)]) hx hb dX4_closes_97 hl (k := 4) rfl rfl (by decide) rfl (fun ls hl => ?_)
            refine lv_goto (tgt := 47) hx hb dX4_closes_100 (by decide) ?_
            exact ih _ _ h _ _ _ hw (lv_sub hl [1, 2, 3, 4, 0] rfl)
          · refine lv_aload_n hx hb dX4_closes_66 rfl (lv_at hl 0 rfl) ?_
            refine lv_iload hx hb dX4_closes_67 (lv_at hl 4 rfl) ?_
            refine lv_iload_n hx hb dX4_closes_69 rfl (lv_at hl 2 rfl) ?_
            obtain ⟨r_7, hf, h⟩ := b1_inv h
            refine k_callV (host := "") fx hK hA hw (c_X4_stands l D k xh xrRo _ xRo_4 xSz v4_3 4 r_7 hf) (cwV 2 hts gX4_closes_X4_stands rfl rfl rfl (by decide +kernel) ⟨by decide, by decide⟩) (As := [.int v4_3, .int 4]) (wr := [(nh, .inr (1, [.int nPe, .int nDa, .int nDr, .ref nrNa, .ref nrMo, .ref nrWa, .ref nrDe])), (nrNa, .inl (k 0, 5, .inl nNa)), (nrMo, .inl (k 0, 5, .inl nMo)), (nrWa, .inl (k 0, 5, .inl nWa)), (nrDe, .inl (k 0, 25, .inl nDe))]) (ws' := wX4 k xh xrRo xRo_4 xSz ++ (wX1 k nh nrNa nrMo nrWa nrDe nPe nDa nDr nNa nMo nWa nDe)) [0, 1] [2, 3, 4, 5, 6] [5, 6, 0, 1, 2, 3, 4] rfl rfl (by decide) (by decide) (by decide) rfl (by decide) 4 rfl rfl [] rfl hl.1 rfl (Nat.le_of_ble_eq_true rfl) dX4_closes_70 ⟨by decide, by decide⟩ (fun H locs (hw : Wd D A s.heap H locs (wX4 k xh xrRo xRo_4 xSz ++ (wX1 k nh nrNa nrMo nrWa nrDe nPe nDa nDr nNa nMo nWa nDe))) => ?_)
            refine W.eq (g2 := F0 m 73 ls ([.int r_7])) rfl ?_
            refine kb_if_ne (tgt := 97) hx hb dX4_closes_73 (by decide) h (fun c_73 h => ?_) (fun c_73 h => ?_)
            · refine lv_aload_n hx hb dX4_closes_76 rfl (lv_at hl 0 rfl) ?_
              refine va_get (ci := 4) (v := .ref xrRo) (C := RX4) (T := TX4) (N := 2) hx hb hts hinX4 hown hK.1 hw.1 0 rfl rfl 0 (by decide) q_1 (fun _ h9 => h9) rfl dX4_closes_77 ?_
              refine lv_iload_n hx hb dX4_closes_80 rfl (lv_at hl 2 rfl) ?_
              refine lv_iload hx hb dX4_closes_81 (lv_at hl 4 rfl) ?_
              refine k_iast hx hb hK hw 1 rfl dX4_closes_83 h (fun xRo_8 h H locs (hw : Wd D A s.heap H locs (wX4 k xh xrRo xRo_8 xSz ++ (wX1 k nh nrNa nrMo nrWa nrDe nPe nDa nDr nNa nMo nWa nDe))) => ?_)
              refine lv_aload_n hx hb dX4_closes_84 rfl (lv_at hl 0 rfl) ?_
              refine lv_aload_n hx hb dX4_closes_85 rfl (lv_at hl 1 rfl) ?_
              refine lv_iload_n hx hb dX4_closes_86 rfl (lv_at hl 2 rfl) ?_
              refine lv_iconst (v := 1) hx hb dX4_closes_87 (by decide) ?_
              refine lv_iadd hx hb dX4_closes_88 ?_
              refine k_lit (y := 5) (by decide) ?_
              obtain ⟨r_9, xRo_10, hf, h⟩ := b2_inv h
              refine k_callV (host := "") fx hK hA hw (c_X4_closes_5 l D k xh xrRo nh nrNa nrMo nrWa nrDe _ xRo_8 xSz nPe nDa nDr nNa nMo nWa nDe r_9 xRo_10 hf) (cwV 2 hts gX4_closes_X4_closes rfl rfl rfl (by decide +kernel) ⟨by decide, by decide⟩) (As := [.ref nh, .int 5]) (wr := []) (ws' := wX4 k xh xrRo xRo_10 xSz ++ (wX1 k nh nrNa nrMo nrWa nrDe nPe nDa nDr nNa nMo nWa nDe)) [0, 1, 2, 3, 4, 5, 6] [] [0, 1, 2, 3, 4, 5, 6] rfl rfl (by decide) (by decide) (by decide) rfl (by decide) 4 rfl rfl [] rfl hl.1 rfl (Nat.le_of_ble_eq_true rfl) dX4_closes_89 ⟨by decide, by decide⟩ (fun H locs (hw : Wd D A s.heap H locs (wX4 k xh xrRo xRo_10 xSz ++ (wX1 k nh nrNa nrMo nrWa nrDe nPe nDa nDr nNa nMo nWa nDe))) => ?_)
              refine W.eq (g2 := F0 m 92 ls ([.int r_9])) rfl ?_
              refine kb_if_eq (tgt := 97) hx hb dX4_closes_92 (by decide) h (fun c_92 h => ?_) (fun c_92 h => ?_)
              · refine lv_iinc (v := v4_3 + 1) (lv' := [(4, .int (v4_3 + 1)), (0, .ref xh), (1, .ref nh), (2, .int 4), (3, .int a_1)]) hx hb dX4_closes_97 hl (k := 4) rfl rfl (by decide) rfl (fun ls hl => ?_)
                refine lv_goto (tgt := 47) hx hb dX4_closes_100 (by decide) ?_
                exact ih _ _ h _ _ _ hw (lv_sub hl [1, 2, 3, 4, 0] rfl)
              · refine lv_iconst (v := 1) hx hb dX4_closes_95 (by decide) ?_
                cases h
                have h := bs1_l hX_47
                cases h
                exact k_zret hx hb hr hlocks hw (by decide) rfl dX4_closes_96 hQ
            · refine lv_iinc (v := v4_3 + 1) (lv' := [(4, .int (v4_3 + 1)), (0, .ref xh), (1, .ref nh), (2, .int 4), (3, .int a_1)]) hx hb dX4_closes_97 hl (k := 4) rfl rfl (by decide) rfl (fun ls hl => ?_)
              refine lv_goto (tgt := 47) hx hb dX4_closes_100 (by decide) ?_
              exact ih _ _ h _ _ _ hw (lv_sub hl [1, 2, 3, 4, 0] rfl)
    exact LP_47 400 (a_2 + 1) xRo hL_47 _ _ _ hw (lv_sub hl [2, 3, 4, 1, 0] rfl)
  · refine lv_aload_n hx hb dX4_closes_17 rfl (lv_at hl 2 rfl) ?_
    refine lv_iload_n hx hb dX4_closes_18 rfl (lv_at hl 0 rfl) ?_
    refine lv_aload_n hx hb dX4_closes_19 rfl (lv_at hl 1 rfl) ?_
    refine va_get (ci := 4) (v := .ref xrRo) (C := RX4) (T := TX4) (N := 2) hx hb hts hinX4 hown hK.1 hw.1 0 rfl rfl 0 (by decide) q_1 (fun _ h9 => h9) rfl dX4_closes_20 ?_
    refine lv_iconst (v := 0) hx hb dX4_closes_23 (by decide) ?_
    refine k_iald hx hb hK hw 1 rfl dX4_closes_24 h (fun a_11 h => ?_)
    obtain ⟨r_12, hf, h⟩ := b1_inv h
    refine k_callV (host := "") fx hK hA hw (c_X1_debt l D k nh nrNa nrMo nrWa nrDe _ nPe nDa nDr nNa nMo nWa nDe a_1 a_11 r_12 hf) (cwV 2 hts gX4_closes_X1_debt rfl rfl rfl (by decide +kernel) ⟨by decide, by decide⟩) (As := [.int a_1, .int a_11]) (wr := [(xh, .inr (4, [.ref xrRo, .int xSz])), (xrRo, .inl (k 0, 5, .inl xRo))]) (ws' := wX4 k xh xrRo xRo xSz ++ (wX1 k nh nrNa nrMo nrWa nrDe nPe nDa nDr nNa nMo nWa nDe)) [2, 3, 4, 5, 6] [0, 1] [0, 1, 2, 3, 4, 5, 6] rfl rfl (by decide) (by decide) (by decide) rfl (by decide) 1 rfl rfl [] rfl hl.1 rfl (Nat.le_of_ble_eq_true rfl) dX4_closes_25 ⟨by decide, by decide⟩ (fun H locs (hw : Wd D A s.heap H locs (wX4 k xh xrRo xRo xSz ++ (wX1 k nh nrNa nrMo nrWa nrDe nPe nDa nDr nNa nMo nWa nDe))) => ?_)
    refine W.eq (g2 := F0 m 28 ls ([.int r_12])) rfl ?_
    refine kb_if_le (tgt := 35) hx hb dX4_closes_28 (by decide) h (fun c_28 h => ?_) (fun c_28 h => ?_)
    · refine lv_iconst (v := 0) hx hb dX4_closes_35 (by decide) ?_
      cases h
      exact k_zret hx hb hr hlocks hw (by decide) rfl dX4_closes_36 hQ
    · refine lv_iconst (v := 1) hx hb dX4_closes_31 (by decide) ?_
      refine lv_goto (tgt := 36) hx hb dX4_closes_32 (by decide) ?_
      cases h
      exact k_zret hx hb hr hlocks hw (by decide) rfl dX4_closes_36 hQ
abbrev rmX4_closes_3 : Room := { frames := 3, cells := 0, slots := 0, locals := 71 }
set_option maxHeartbeats 4000000 in
set_option maxRecDepth 100000 in
theorem c_X4_closes_3 (l : Launch) (D : va_G) (k : Nat → ClassId) (xh xrRo nh nrNa nrMo nrWa nrDe : Nat) (sz : Nat) (xRo : (Nat → Int32)) (xSz : Int32) (nPe : Int32) (nDa : Int32) (nDr : Int32) (nNa : (Nat → Int32)) (nMo : (Nat → Int32)) (nWa : (Nat → Int32)) (nDe : (Nat → Int32)) (r_ : Int32) (n_xRo : (Nat → Int32)) (hf : f_X4_closes_3 xRo xSz nPe nDe = some (r_, n_xRo)) : mR l yX4_closes wsX4_closes rmX4_closes_3 D k sz [.ref xh, .ref nh, .int 3] (wX4 k xh xrRo xRo xSz ++ (wX1 k nh nrNa nrMo nrWa nrDe nPe nDa nDr nNa nMo nWa nDe)) (wX4 k xh xrRo n_xRo xSz ++ (wX1 k nh nrNa nrMo nrWa nrDe nPe nDa nDr nNa nMo nWa nDe)) (some (.int r_)) := by
  refine mR_of (cc := cX4_closes) (maxL := 5) (ret := some .boolean) (by decide) rfl (Nat.le_of_ble_eq_true rfl) [(0, .ref xh), (1, .ref nh), (2, .int 3)] rfl ?_
  intro p e s m below meth c A ls args Q cx hK hA hw hl hQ
  have fx := cx.1
  obtain ⟨⟨hx, hb, hml, hown, hts⟩, hr, hlocks⟩ := cx
  have hinX4 : ∀ w ∈ wsX40, w ∈ wsX4_closes := fun w h => List.mem_cons_of_mem _ (List.mem_append_left _ (List.mem_append_right _ h))
  have hinX1 : ∀ w ∈ wsX10, w ∈ wsX4_closes := fun w h => List.mem_cons_of_mem _ (List.mem_append_right _ h)
  have q_1 := hts (.fieldLink RX4 9 "DebtRides$RingFinder" "row" "[I") (List.mem_of_getElem? (i := 1) rfl)
  have q_2 := hts (.fieldLink RX4 21 "DebtRides$RingFinder" "size" "I") (List.mem_of_getElem? (i := 2) rfl)
  have q_3 := hts (.fieldLink RX4 15 "DebtRides$Land" "people" "I") (List.mem_of_getElem? (i := 3) rfl)
  have h := hf
  unfold f_X4_closes_3 at h
  clear hf
  refine lv_aload_n hx hb dX4_closes_0 rfl (lv_at hl 0 rfl) ?_
  refine va_get (ci := 4) (v := .ref xrRo) (C := RX4) (T := TX4) (N := 2) hx hb hts hinX4 hown hK.1 hw.1 0 rfl rfl 0 (by decide) q_1 (fun _ h9 => h9) rfl dX4_closes_1 ?_
  refine lv_iload_n hx hb dX4_closes_4 rfl (lv_at hl 2 rfl) ?_
  refine lv_iconst (v := 1) hx hb dX4_closes_5 (by decide) ?_
  refine lv_isub hx hb dX4_closes_6 ?_
  refine k_lit (y := 2) (by decide) ?_
  refine k_iald hx hb hK hw 1 rfl dX4_closes_7 h (fun a_1 h => ?_)
  refine lv_istore_n (lv' := [(3, .int a_1), (0, .ref xh), (1, .ref nh), (2, .int 3)]) hx hb dX4_closes_8 rfl hl (by decide) rfl (fun ls hl => ?_)
  refine lv_iload_n hx hb dX4_closes_9 rfl (lv_at hl 3 rfl) ?_
  refine lv_aload_n hx hb dX4_closes_10 rfl (lv_at hl 1 rfl) ?_
  refine va_get (ci := 4) (v := .int xSz) (C := RX4) (T := TX4) (N := 2) hx hb hts hinX4 hown hK.1 hw.1 0 rfl rfl 1 (by decide) q_2 (fun _ h9 => h9) rfl dX4_closes_11 ?_
  refine kb_icmp_lt (tgt := 37) hx hb dX4_closes_14 (by decide) h (fun c_14 h => ?_) (fun c_14 h => ?_)
  · refine lv_aload_n hx hb dX4_closes_37 rfl (lv_at hl 1 rfl) ?_
    refine va_get (ci := 4) (v := .ref xrRo) (C := RX4) (T := TX4) (N := 2) hx hb hts hinX4 hown hK.1 hw.1 0 rfl rfl 0 (by decide) q_1 (fun _ h9 => h9) rfl dX4_closes_38 ?_
    refine lv_iconst (v := 0) hx hb dX4_closes_41 (by decide) ?_
    refine k_iald hx hb hK hw 1 rfl dX4_closes_42 h (fun a_2 h => ?_)
    refine lv_iconst (v := 1) hx hb dX4_closes_43 (by decide) ?_
    refine lv_iadd hx hb dX4_closes_44 ?_
    refine lv_istore (lv' := [(4, .int (a_2 + 1)), (3, .int a_1), (0, .ref xh), (1, .ref nh), (2, .int 3)]) hx hb dX4_closes_45 hl (by decide) rfl (fun ls hl => ?_)
    obtain ⟨ex_47, hL_47, hX_47⟩ := bs1_inv h
    clear h
    have X_47 : ∀ (xRo_5 : (Nat → Int32)), ex_47 = Sum.inr xRo_5 → ∀ (H : Heap) (locs : List Loc) (ls : Array Slot), Wd D A s.heap H locs (wX4 k xh xrRo xRo_5 xSz ++ (wX1 k nh nrNa nrMo nrWa nrDe nPe nDa nDr nNa nMo nWa nDe)) → lv_has ls 5 [] → W p l e rmX4_closes_3 s m args below meth c H locs 0 0 Q (F0 m 103 ls []) := by
      intro xRo_5 hex H locs ls hw hl
      subst hex
      have h := bs1_r hX_47
      refine lv_iconst (v := 0) hx hb dX4_closes_103 (by decide) ?_
      cases h
      exact k_zret hx hb hr hlocks hw (by decide) rfl dX4_closes_104 hQ
    have LP_47 : ∀ (n : Nat) (v4_3 : Int32) (xRo_4 : (Nat → Int32)), f_X4_closes_3_L47 xSz nPe nDe a_1 n v4_3 xRo_4 = some ex_47 → ∀ (H : Heap) (locs : List Loc) (ls : Array Slot), Wd D A s.heap H locs (wX4 k xh xrRo xRo_4 xSz ++ (wX1 k nh nrNa nrMo nrWa nrDe nPe nDa nDr nNa nMo nWa nDe)) → lv_has ls 5 [(0, .ref xh), (1, .ref nh), (2, .int 3), (3, .int a_1), (4, .int v4_3)] → W p l e rmX4_closes_3 s m args below meth c H locs 0 0 Q (F0 m 47 ls []) := by
      clear hL_47 hw hl
      intro n
      induction n with
      | zero => intro v4_3 xRo_4 h; rw [f_X4_closes_3_L47] at h; cases h
      | succ n ih =>
        intro v4_3 xRo_4 h H locs ls hw hl
        rw [f_X4_closes_3_L47] at h
        refine lv_iload hx hb dX4_closes_47 (lv_at hl 4 rfl) ?_
        refine lv_aload_n hx hb dX4_closes_49 rfl (lv_at hl 1 rfl) ?_
        refine va_get (ci := 1) (v := .int nPe) (C := RX1) (T := TX1) (N := 7) hx hb hts hinX1 hown hK.1 hw.1 2 rfl rfl 0 (by decide) q_3 (fun _ h9 => h9) rfl dX4_closes_50 ?_
        refine kb_icmp_ge (tgt := 103) hx hb dX4_closes_53 (by decide) h (fun c_53 h => ?_) (fun c_53 h => ?_)
        · cases h
          exact X_47 _ rfl _ _ _ hw (lv_sub hl [] rfl)
        · refine lv_aload_n hx hb dX4_closes_56 rfl (lv_at hl 1 rfl) ?_
          refine lv_iload_n hx hb dX4_closes_57 rfl (lv_at hl 3 rfl) ?_
          refine lv_iload hx hb dX4_closes_58 (lv_at hl 4 rfl) ?_
          obtain ⟨r_6, hf, h⟩ := b1_inv h
          refine k_callV (host := "") fx hK hA hw (c_X1_debt l D k nh nrNa nrMo nrWa nrDe _ nPe nDa nDr nNa nMo nWa nDe a_1 v4_3 r_6 hf) (cwV 2 hts gX4_closes_X1_debt rfl rfl rfl (by decide +kernel) ⟨by decide, by decide⟩) (As := [.int a_1, .int v4_3]) (wr := [(xh, .inr (4, [.ref xrRo, .int xSz])), (xrRo, .inl (k 0, 5, .inl xRo_4))]) (ws' := wX4 k xh xrRo xRo_4 xSz ++ (wX1 k nh nrNa nrMo nrWa nrDe nPe nDa nDr nNa nMo nWa nDe)) [2, 3, 4, 5, 6] [0, 1] [0, 1, 2, 3, 4, 5, 6] rfl rfl (by decide) (by decide) (by decide) rfl (by decide) 1 rfl rfl [] rfl hl.1 rfl (Nat.le_of_ble_eq_true rfl) dX4_closes_60 ⟨by decide, by decide⟩ (fun H locs (hw : Wd D A s.heap H locs (wX4 k xh xrRo xRo_4 xSz ++ (wX1 k nh nrNa nrMo nrWa nrDe nPe nDa nDr nNa nMo nWa nDe))) => ?_)
          refine W.eq (g2 := F0 m 63 ls ([.int r_6])) rfl ?_
          refine kb_if_le (tgt := 97) hx hb dX4_closes_63 (by decide) h (fun c_63 h => ?_) (fun c_63 h => ?_)
          · refine lv_iinc (v := v4_3 + 1) (lv' := [(4, .int (v4_3 + 1)), (0, .ref xh), (1, .ref nh), (2, .int 3), (3, .int a_1)]) hx hb dX4_closes_97 hl (k := 4) rfl rfl (by decide) rfl (fun ls hl => ?_)
            refine lv_goto (tgt := 47) hx hb dX4_closes_100 (by decide) ?_
            exact ih _ _ h _ _ _ hw (lv_sub hl [1, 2, 3, 4, 0] rfl)
          · refine lv_aload_n hx hb dX4_closes_66 rfl (lv_at hl 0 rfl) ?_
            refine lv_iload hx hb dX4_closes_67 (lv_at hl 4 rfl) ?_
            refine lv_iload_n hx hb dX4_closes_69 rfl (lv_at hl 2 rfl) ?_
            obtain ⟨r_7, hf, h⟩ := b1_inv h
            refine k_callV (host := "") fx hK hA hw (c_X4_stands l D k xh xrRo _ xRo_4 xSz v4_3 3 r_7 hf) (cwV 2 hts gX4_closes_X4_stands rfl rfl rfl (by decide +kernel) ⟨by decide, by decide⟩) (As := [.int v4_3, .int 3]) (wr := [(nh, .inr (1, [.int nPe, .int nDa, .int nDr, .ref nrNa, .ref nrMo, .ref nrWa, .ref nrDe])), (nrNa, .inl (k 0, 5, .inl nNa)), (nrMo, .inl (k 0, 5, .inl nMo)), (nrWa, .inl (k 0, 5, .inl nWa)), (nrDe, .inl (k 0, 25, .inl nDe))]) (ws' := wX4 k xh xrRo xRo_4 xSz ++ (wX1 k nh nrNa nrMo nrWa nrDe nPe nDa nDr nNa nMo nWa nDe)) [0, 1] [2, 3, 4, 5, 6] [5, 6, 0, 1, 2, 3, 4] rfl rfl (by decide) (by decide) (by decide) rfl (by decide) 4 rfl rfl [] rfl hl.1 rfl (Nat.le_of_ble_eq_true rfl) dX4_closes_70 ⟨by decide, by decide⟩ (fun H locs (hw : Wd D A s.heap H locs (wX4 k xh xrRo xRo_4 xSz ++ (wX1 k nh nrNa nrMo nrWa nrDe nPe nDa nDr nNa nMo nWa nDe))) => ?_)
            refine W.eq (g2 := F0 m 73 ls ([.int r_7])) rfl ?_
            refine kb_if_ne (tgt := 97) hx hb dX4_closes_73 (by decide) h (fun c_73 h => ?_) (fun c_73 h => ?_)
            · refine lv_aload_n hx hb dX4_closes_76 rfl (lv_at hl 0 rfl) ?_
              refine va_get (ci := 4) (v := .ref xrRo) (C := RX4) (T := TX4) (N := 2) hx hb hts hinX4 hown hK.1 hw.1 0 rfl rfl 0 (by decide) q_1 (fun _ h9 => h9) rfl dX4_closes_77 ?_
              refine lv_iload_n hx hb dX4_closes_80 rfl (lv_at hl 2 rfl) ?_
              refine lv_iload hx hb dX4_closes_81 (lv_at hl 4 rfl) ?_
              refine k_iast hx hb hK hw 1 rfl dX4_closes_83 h (fun xRo_8 h H locs (hw : Wd D A s.heap H locs (wX4 k xh xrRo xRo_8 xSz ++ (wX1 k nh nrNa nrMo nrWa nrDe nPe nDa nDr nNa nMo nWa nDe))) => ?_)
              refine lv_aload_n hx hb dX4_closes_84 rfl (lv_at hl 0 rfl) ?_
              refine lv_aload_n hx hb dX4_closes_85 rfl (lv_at hl 1 rfl) ?_
              refine lv_iload_n hx hb dX4_closes_86 rfl (lv_at hl 2 rfl) ?_
              refine lv_iconst (v := 1) hx hb dX4_closes_87 (by decide) ?_
              refine lv_iadd hx hb dX4_closes_88 ?_
              refine k_lit (y := 4) (by decide) ?_
              obtain ⟨r_9, xRo_10, hf, h⟩ := b2_inv h
              refine k_callV (host := "") fx hK hA hw (c_X4_closes_4 l D k xh xrRo nh nrNa nrMo nrWa nrDe _ xRo_8 xSz nPe nDa nDr nNa nMo nWa nDe r_9 xRo_10 hf) (cwV 2 hts gX4_closes_X4_closes rfl rfl rfl (by decide +kernel) ⟨by decide, by decide⟩) (As := [.ref nh, .int 4]) (wr := []) (ws' := wX4 k xh xrRo xRo_10 xSz ++ (wX1 k nh nrNa nrMo nrWa nrDe nPe nDa nDr nNa nMo nWa nDe)) [0, 1, 2, 3, 4, 5, 6] [] [0, 1, 2, 3, 4, 5, 6] rfl rfl (by decide) (by decide) (by decide) rfl (by decide) 4 rfl rfl [] rfl hl.1 rfl (Nat.le_of_ble_eq_true rfl) dX4_closes_89 ⟨by decide, by decide⟩ (fun H locs (hw : Wd D A s.heap H locs (wX4 k xh xrRo xRo_10 xSz ++ (wX1 k nh nrNa nrMo nrWa nrDe nPe nDa nDr nNa nMo nWa nDe))) => ?_)
              refine W.eq (g2 := F0 m 92 ls ([.int r_9])) rfl ?_
              refine kb_if_eq (tgt := 97) hx hb dX4_closes_92 (by decide) h (fun c_92 h => ?_) (fun c_92 h => ?_)
              · refine lv_iinc (v := v4_3 + 1) (lv' := [(4, .int (v4_3 + 1)), (0, .ref xh), (1, .ref nh), (2, .int 3), (3, .int a_1)]) hx hb dX4_closes_97 hl (k := 4) rfl rfl (by decide) rfl (fun ls hl => ?_)
                refine lv_goto (tgt := 47) hx hb dX4_closes_100 (by decide) ?_
                exact ih _ _ h _ _ _ hw (lv_sub hl [1, 2, 3, 4, 0] rfl)
              · refine lv_iconst (v := 1) hx hb dX4_closes_95 (by decide) ?_
                cases h
                have h := bs1_l hX_47
                cases h
                exact k_zret hx hb hr hlocks hw (by decide) rfl dX4_closes_96 hQ
            · refine lv_iinc (v := v4_3 + 1) (lv' := [(4, .int (v4_3 + 1)), (0, .ref xh), (1, .ref nh), (2, .int 3), (3, .int a_1)]) hx hb dX4_closes_97 hl (k := 4) rfl rfl (by decide) rfl (fun ls hl => ?_)
              refine lv_goto (tgt := 47) hx hb dX4_closes_100 (by decide) ?_
              exact ih _ _ h _ _ _ hw (lv_sub hl [1, 2, 3, 4, 0] rfl)
    exact LP_47 400 (a_2 + 1) xRo hL_47 _ _ _ hw (lv_sub hl [2, 3, 4, 1, 0] rfl)
  · refine lv_aload_n hx hb dX4_closes_17 rfl (lv_at hl 2 rfl) ?_
    refine lv_iload_n hx hb dX4_closes_18 rfl (lv_at hl 0 rfl) ?_
    refine lv_aload_n hx hb dX4_closes_19 rfl (lv_at hl 1 rfl) ?_
    refine va_get (ci := 4) (v := .ref xrRo) (C := RX4) (T := TX4) (N := 2) hx hb hts hinX4 hown hK.1 hw.1 0 rfl rfl 0 (by decide) q_1 (fun _ h9 => h9) rfl dX4_closes_20 ?_
    refine lv_iconst (v := 0) hx hb dX4_closes_23 (by decide) ?_
    refine k_iald hx hb hK hw 1 rfl dX4_closes_24 h (fun a_11 h => ?_)
    obtain ⟨r_12, hf, h⟩ := b1_inv h
    refine k_callV (host := "") fx hK hA hw (c_X1_debt l D k nh nrNa nrMo nrWa nrDe _ nPe nDa nDr nNa nMo nWa nDe a_1 a_11 r_12 hf) (cwV 2 hts gX4_closes_X1_debt rfl rfl rfl (by decide +kernel) ⟨by decide, by decide⟩) (As := [.int a_1, .int a_11]) (wr := [(xh, .inr (4, [.ref xrRo, .int xSz])), (xrRo, .inl (k 0, 5, .inl xRo))]) (ws' := wX4 k xh xrRo xRo xSz ++ (wX1 k nh nrNa nrMo nrWa nrDe nPe nDa nDr nNa nMo nWa nDe)) [2, 3, 4, 5, 6] [0, 1] [0, 1, 2, 3, 4, 5, 6] rfl rfl (by decide) (by decide) (by decide) rfl (by decide) 1 rfl rfl [] rfl hl.1 rfl (Nat.le_of_ble_eq_true rfl) dX4_closes_25 ⟨by decide, by decide⟩ (fun H locs (hw : Wd D A s.heap H locs (wX4 k xh xrRo xRo xSz ++ (wX1 k nh nrNa nrMo nrWa nrDe nPe nDa nDr nNa nMo nWa nDe))) => ?_)
    refine W.eq (g2 := F0 m 28 ls ([.int r_12])) rfl ?_
    refine kb_if_le (tgt := 35) hx hb dX4_closes_28 (by decide) h (fun c_28 h => ?_) (fun c_28 h => ?_)
    · refine lv_iconst (v := 0) hx hb dX4_closes_35 (by decide) ?_
      cases h
      exact k_zret hx hb hr hlocks hw (by decide) rfl dX4_closes_36 hQ
    · refine lv_iconst (v := 1) hx hb dX4_closes_31 (by decide) ?_
      refine lv_goto (tgt := 36) hx hb dX4_closes_32 (by decide) ?_
      cases h
      exact k_zret hx hb hr hlocks hw (by decide) rfl dX4_closes_36 hQ
abbrev rmX4_closes_2 : Room := { frames := 4, cells := 0, slots := 0, locals := 95 }
set_option maxHeartbeats 4000000 in
set_option maxRecDepth 100000 in
theorem c_X4_closes_2 (l : Launch) (D : va_G) (k : Nat → ClassId) (xh xrRo nh nrNa nrMo nrWa nrDe : Nat) (sz : Nat) (xRo : (Nat → Int32)) (xSz : Int32) (nPe : Int32) (nDa : Int32) (nDr : Int32) (nNa : (Nat → Int32)) (nMo : (Nat → Int32)) (nWa : (Nat → Int32)) (nDe : (Nat → Int32)) (r_ : Int32) (n_xRo : (Nat → Int32)) (hf : f_X4_closes_2 xRo xSz nPe nDe = some (r_, n_xRo)) : mR l yX4_closes wsX4_closes rmX4_closes_2 D k sz [.ref xh, .ref nh, .int 2] (wX4 k xh xrRo xRo xSz ++ (wX1 k nh nrNa nrMo nrWa nrDe nPe nDa nDr nNa nMo nWa nDe)) (wX4 k xh xrRo n_xRo xSz ++ (wX1 k nh nrNa nrMo nrWa nrDe nPe nDa nDr nNa nMo nWa nDe)) (some (.int r_)) := by
  refine mR_of (cc := cX4_closes) (maxL := 5) (ret := some .boolean) (by decide) rfl (Nat.le_of_ble_eq_true rfl) [(0, .ref xh), (1, .ref nh), (2, .int 2)] rfl ?_
  intro p e s m below meth c A ls args Q cx hK hA hw hl hQ
  have fx := cx.1
  obtain ⟨⟨hx, hb, hml, hown, hts⟩, hr, hlocks⟩ := cx
  have hinX4 : ∀ w ∈ wsX40, w ∈ wsX4_closes := fun w h => List.mem_cons_of_mem _ (List.mem_append_left _ (List.mem_append_right _ h))
  have hinX1 : ∀ w ∈ wsX10, w ∈ wsX4_closes := fun w h => List.mem_cons_of_mem _ (List.mem_append_right _ h)
  have q_1 := hts (.fieldLink RX4 9 "DebtRides$RingFinder" "row" "[I") (List.mem_of_getElem? (i := 1) rfl)
  have q_2 := hts (.fieldLink RX4 21 "DebtRides$RingFinder" "size" "I") (List.mem_of_getElem? (i := 2) rfl)
  have q_3 := hts (.fieldLink RX4 15 "DebtRides$Land" "people" "I") (List.mem_of_getElem? (i := 3) rfl)
  have h := hf
  unfold f_X4_closes_2 at h
  clear hf
  refine lv_aload_n hx hb dX4_closes_0 rfl (lv_at hl 0 rfl) ?_
  refine va_get (ci := 4) (v := .ref xrRo) (C := RX4) (T := TX4) (N := 2) hx hb hts hinX4 hown hK.1 hw.1 0 rfl rfl 0 (by decide) q_1 (fun _ h9 => h9) rfl dX4_closes_1 ?_
  refine lv_iload_n hx hb dX4_closes_4 rfl (lv_at hl 2 rfl) ?_
  refine lv_iconst (v := 1) hx hb dX4_closes_5 (by decide) ?_
  refine lv_isub hx hb dX4_closes_6 ?_
  refine k_lit (y := 1) (by decide) ?_
  refine k_iald hx hb hK hw 1 rfl dX4_closes_7 h (fun a_1 h => ?_)
  refine lv_istore_n (lv' := [(3, .int a_1), (0, .ref xh), (1, .ref nh), (2, .int 2)]) hx hb dX4_closes_8 rfl hl (by decide) rfl (fun ls hl => ?_)
  refine lv_iload_n hx hb dX4_closes_9 rfl (lv_at hl 3 rfl) ?_
  refine lv_aload_n hx hb dX4_closes_10 rfl (lv_at hl 1 rfl) ?_
  refine va_get (ci := 4) (v := .int xSz) (C := RX4) (T := TX4) (N := 2) hx hb hts hinX4 hown hK.1 hw.1 0 rfl rfl 1 (by decide) q_2 (fun _ h9 => h9) rfl dX4_closes_11 ?_
  refine kb_icmp_lt (tgt := 37) hx hb dX4_closes_14 (by decide) h (fun c_14 h => ?_) (fun c_14 h => ?_)
  · refine lv_aload_n hx hb dX4_closes_37 rfl (lv_at hl 1 rfl) ?_
    refine va_get (ci := 4) (v := .ref xrRo) (C := RX4) (T := TX4) (N := 2) hx hb hts hinX4 hown hK.1 hw.1 0 rfl rfl 0 (by decide) q_1 (fun _ h9 => h9) rfl dX4_closes_38 ?_
    refine lv_iconst (v := 0) hx hb dX4_closes_41 (by decide) ?_
    refine k_iald hx hb hK hw 1 rfl dX4_closes_42 h (fun a_2 h => ?_)
    refine lv_iconst (v := 1) hx hb dX4_closes_43 (by decide) ?_
    refine lv_iadd hx hb dX4_closes_44 ?_
    refine lv_istore (lv' := [(4, .int (a_2 + 1)), (3, .int a_1), (0, .ref xh), (1, .ref nh), (2, .int 2)]) hx hb dX4_closes_45 hl (by decide) rfl (fun ls hl => ?_)
    obtain ⟨ex_47, hL_47, hX_47⟩ := bs1_inv h
    clear h
    have X_47 : ∀ (xRo_5 : (Nat → Int32)), ex_47 = Sum.inr xRo_5 → ∀ (H : Heap) (locs : List Loc) (ls : Array Slot), Wd D A s.heap H locs (wX4 k xh xrRo xRo_5 xSz ++ (wX1 k nh nrNa nrMo nrWa nrDe nPe nDa nDr nNa nMo nWa nDe)) → lv_has ls 5 [] → W p l e rmX4_closes_2 s m args below meth c H locs 0 0 Q (F0 m 103 ls []) := by
      intro xRo_5 hex H locs ls hw hl
      subst hex
      have h := bs1_r hX_47
      refine lv_iconst (v := 0) hx hb dX4_closes_103 (by decide) ?_
      cases h
      exact k_zret hx hb hr hlocks hw (by decide) rfl dX4_closes_104 hQ
    have LP_47 : ∀ (n : Nat) (v4_3 : Int32) (xRo_4 : (Nat → Int32)), f_X4_closes_2_L47 xSz nPe nDe a_1 n v4_3 xRo_4 = some ex_47 → ∀ (H : Heap) (locs : List Loc) (ls : Array Slot), Wd D A s.heap H locs (wX4 k xh xrRo xRo_4 xSz ++ (wX1 k nh nrNa nrMo nrWa nrDe nPe nDa nDr nNa nMo nWa nDe)) → lv_has ls 5 [(0, .ref xh), (1, .ref nh), (2, .int 2), (3, .int a_1), (4, .int v4_3)] → W p l e rmX4_closes_2 s m args below meth c H locs 0 0 Q (F0 m 47 ls []) := by
      clear hL_47 hw hl
      intro n
      induction n with
      | zero => intro v4_3 xRo_4 h; rw [f_X4_closes_2_L47] at h; cases h
      | succ n ih =>
        intro v4_3 xRo_4 h H locs ls hw hl
        rw [f_X4_closes_2_L47] at h
        refine lv_iload hx hb dX4_closes_47 (lv_at hl 4 rfl) ?_
        refine lv_aload_n hx hb dX4_closes_49 rfl (lv_at hl 1 rfl) ?_
        refine va_get (ci := 1) (v := .int nPe) (C := RX1) (T := TX1) (N := 7) hx hb hts hinX1 hown hK.1 hw.1 2 rfl rfl 0 (by decide) q_3 (fun _ h9 => h9) rfl dX4_closes_50 ?_
        refine kb_icmp_ge (tgt := 103) hx hb dX4_closes_53 (by decide) h (fun c_53 h => ?_) (fun c_53 h => ?_)
        · cases h
          exact X_47 _ rfl _ _ _ hw (lv_sub hl [] rfl)
        · refine lv_aload_n hx hb dX4_closes_56 rfl (lv_at hl 1 rfl) ?_
          refine lv_iload_n hx hb dX4_closes_57 rfl (lv_at hl 3 rfl) ?_
          refine lv_iload hx hb dX4_closes_58 (lv_at hl 4 rfl) ?_
          obtain ⟨r_6, hf, h⟩ := b1_inv h
          refine k_callV (host := "") fx hK hA hw (c_X1_debt l D k nh nrNa nrMo nrWa nrDe _ nPe nDa nDr nNa nMo nWa nDe a_1 v4_3 r_6 hf) (cwV 2 hts gX4_closes_X1_debt rfl rfl rfl (by decide +kernel) ⟨by decide, by decide⟩) (As := [.int a_1, .int v4_3]) (wr := [(xh, .inr (4, [.ref xrRo, .int xSz])), (xrRo, .inl (k 0, 5, .inl xRo_4))]) (ws' := wX4 k xh xrRo xRo_4 xSz ++ (wX1 k nh nrNa nrMo nrWa nrDe nPe nDa nDr nNa nMo nWa nDe)) [2, 3, 4, 5, 6] [0, 1] [0, 1, 2, 3, 4, 5, 6] rfl rfl (by decide) (by decide) (by decide) rfl (by decide) 1 rfl rfl [] rfl hl.1 rfl (Nat.le_of_ble_eq_true rfl) dX4_closes_60 ⟨by decide, by decide⟩ (fun H locs (hw : Wd D A s.heap H locs (wX4 k xh xrRo xRo_4 xSz ++ (wX1 k nh nrNa nrMo nrWa nrDe nPe nDa nDr nNa nMo nWa nDe))) => ?_)
          refine W.eq (g2 := F0 m 63 ls ([.int r_6])) rfl ?_
          refine kb_if_le (tgt := 97) hx hb dX4_closes_63 (by decide) h (fun c_63 h => ?_) (fun c_63 h => ?_)
          · refine lv_iinc (v := v4_3 + 1) (lv' := [(4, .int (v4_3 + 1)), (0, .ref xh), (1, .ref nh), (2, .int 2), (3, .int a_1)]) hx hb dX4_closes_97 hl (k := 4) rfl rfl (by decide) rfl (fun ls hl => ?_)
            refine lv_goto (tgt := 47) hx hb dX4_closes_100 (by decide) ?_
            exact ih _ _ h _ _ _ hw (lv_sub hl [1, 2, 3, 4, 0] rfl)
          · refine lv_aload_n hx hb dX4_closes_66 rfl (lv_at hl 0 rfl) ?_
            refine lv_iload hx hb dX4_closes_67 (lv_at hl 4 rfl) ?_
            refine lv_iload_n hx hb dX4_closes_69 rfl (lv_at hl 2 rfl) ?_
            obtain ⟨r_7, hf, h⟩ := b1_inv h
            refine k_callV (host := "") fx hK hA hw (c_X4_stands l D k xh xrRo _ xRo_4 xSz v4_3 2 r_7 hf) (cwV 2 hts gX4_closes_X4_stands rfl rfl rfl (by decide +kernel) ⟨by decide, by decide⟩) (As := [.int v4_3, .int 2]) (wr := [(nh, .inr (1, [.int nPe, .int nDa, .int nDr, .ref nrNa, .ref nrMo, .ref nrWa, .ref nrDe])), (nrNa, .inl (k 0, 5, .inl nNa)), (nrMo, .inl (k 0, 5, .inl nMo)), (nrWa, .inl (k 0, 5, .inl nWa)), (nrDe, .inl (k 0, 25, .inl nDe))]) (ws' := wX4 k xh xrRo xRo_4 xSz ++ (wX1 k nh nrNa nrMo nrWa nrDe nPe nDa nDr nNa nMo nWa nDe)) [0, 1] [2, 3, 4, 5, 6] [5, 6, 0, 1, 2, 3, 4] rfl rfl (by decide) (by decide) (by decide) rfl (by decide) 4 rfl rfl [] rfl hl.1 rfl (Nat.le_of_ble_eq_true rfl) dX4_closes_70 ⟨by decide, by decide⟩ (fun H locs (hw : Wd D A s.heap H locs (wX4 k xh xrRo xRo_4 xSz ++ (wX1 k nh nrNa nrMo nrWa nrDe nPe nDa nDr nNa nMo nWa nDe))) => ?_)
            refine W.eq (g2 := F0 m 73 ls ([.int r_7])) rfl ?_
            refine kb_if_ne (tgt := 97) hx hb dX4_closes_73 (by decide) h (fun c_73 h => ?_) (fun c_73 h => ?_)
            · refine lv_aload_n hx hb dX4_closes_76 rfl (lv_at hl 0 rfl) ?_
              refine va_get (ci := 4) (v := .ref xrRo) (C := RX4) (T := TX4) (N := 2) hx hb hts hinX4 hown hK.1 hw.1 0 rfl rfl 0 (by decide) q_1 (fun _ h9 => h9) rfl dX4_closes_77 ?_
              refine lv_iload_n hx hb dX4_closes_80 rfl (lv_at hl 2 rfl) ?_
              refine lv_iload hx hb dX4_closes_81 (lv_at hl 4 rfl) ?_
              refine k_iast hx hb hK hw 1 rfl dX4_closes_83 h (fun xRo_8 h H locs (hw : Wd D A s.heap H locs (wX4 k xh xrRo xRo_8 xSz ++ (wX1 k nh nrNa nrMo nrWa nrDe nPe nDa nDr nNa nMo nWa nDe))) => ?_)
              refine lv_aload_n hx hb dX4_closes_84 rfl (lv_at hl 0 rfl) ?_
              refine lv_aload_n hx hb dX4_closes_85 rfl (lv_at hl 1 rfl) ?_
              refine lv_iload_n hx hb dX4_closes_86 rfl (lv_at hl 2 rfl) ?_
              refine lv_iconst (v := 1) hx hb dX4_closes_87 (by decide) ?_
              refine lv_iadd hx hb dX4_closes_88 ?_
              refine k_lit (y := 3) (by decide) ?_
              obtain ⟨r_9, xRo_10, hf, h⟩ := b2_inv h
              refine k_callV (host := "") fx hK hA hw (c_X4_closes_3 l D k xh xrRo nh nrNa nrMo nrWa nrDe _ xRo_8 xSz nPe nDa nDr nNa nMo nWa nDe r_9 xRo_10 hf) (cwV 2 hts gX4_closes_X4_closes rfl rfl rfl (by decide +kernel) ⟨by decide, by decide⟩) (As := [.ref nh, .int 3]) (wr := []) (ws' := wX4 k xh xrRo xRo_10 xSz ++ (wX1 k nh nrNa nrMo nrWa nrDe nPe nDa nDr nNa nMo nWa nDe)) [0, 1, 2, 3, 4, 5, 6] [] [0, 1, 2, 3, 4, 5, 6] rfl rfl (by decide) (by decide) (by decide) rfl (by decide) 4 rfl rfl [] rfl hl.1 rfl (Nat.le_of_ble_eq_true rfl) dX4_closes_89 ⟨by decide, by decide⟩ (fun H locs (hw : Wd D A s.heap H locs (wX4 k xh xrRo xRo_10 xSz ++ (wX1 k nh nrNa nrMo nrWa nrDe nPe nDa nDr nNa nMo nWa nDe))) => ?_)
              refine W.eq (g2 := F0 m 92 ls ([.int r_9])) rfl ?_
              refine kb_if_eq (tgt := 97) hx hb dX4_closes_92 (by decide) h (fun c_92 h => ?_) (fun c_92 h => ?_)
              · refine lv_iinc (v := v4_3 + 1) (lv' := [(4, .int (v4_3 + 1)), (0, .ref xh), (1, .ref nh), (2, .int 2), (3, .int a_1)]) hx hb dX4_closes_97 hl (k := 4) rfl rfl (by decide) rfl (fun ls hl => ?_)
                refine lv_goto (tgt := 47) hx hb dX4_closes_100 (by decide) ?_
                exact ih _ _ h _ _ _ hw (lv_sub hl [1, 2, 3, 4, 0] rfl)
              · refine lv_iconst (v := 1) hx hb dX4_closes_95 (by decide) ?_
                cases h
                have h := bs1_l hX_47
                cases h
                exact k_zret hx hb hr hlocks hw (by decide) rfl dX4_closes_96 hQ
            · refine lv_iinc (v := v4_3 + 1) (lv' := [(4, .int (v4_3 + 1)), (0, .ref xh), (1, .ref nh), (2, .int 2), (3, .int a_1)]) hx hb dX4_closes_97 hl (k := 4) rfl rfl (by decide) rfl (fun ls hl => ?_)
              refine lv_goto (tgt := 47) hx hb dX4_closes_100 (by decide) ?_
              exact ih _ _ h _ _ _ hw (lv_sub hl [1, 2, 3, 4, 0] rfl)
    exact LP_47 400 (a_2 + 1) xRo hL_47 _ _ _ hw (lv_sub hl [2, 3, 4, 1, 0] rfl)
  · refine lv_aload_n hx hb dX4_closes_17 rfl (lv_at hl 2 rfl) ?_
    refine lv_iload_n hx hb dX4_closes_18 rfl (lv_at hl 0 rfl) ?_
    refine lv_aload_n hx hb dX4_closes_19 rfl (lv_at hl 1 rfl) ?_
    refine va_get (ci := 4) (v := .ref xrRo) (C := RX4) (T := TX4) (N := 2) hx hb hts hinX4 hown hK.1 hw.1 0 rfl rfl 0 (by decide) q_1 (fun _ h9 => h9) rfl dX4_closes_20 ?_
    refine lv_iconst (v := 0) hx hb dX4_closes_23 (by decide) ?_
    refine k_iald hx hb hK hw 1 rfl dX4_closes_24 h (fun a_11 h => ?_)
    obtain ⟨r_12, hf, h⟩ := b1_inv h
    refine k_callV (host := "") fx hK hA hw (c_X1_debt l D k nh nrNa nrMo nrWa nrDe _ nPe nDa nDr nNa nMo nWa nDe a_1 a_11 r_12 hf) (cwV 2 hts gX4_closes_X1_debt rfl rfl rfl (by decide +kernel) ⟨by decide, by decide⟩) (As := [.int a_1, .int a_11]) (wr := [(xh, .inr (4, [.ref xrRo, .int xSz])), (xrRo, .inl (k 0, 5, .inl xRo))]) (ws' := wX4 k xh xrRo xRo xSz ++ (wX1 k nh nrNa nrMo nrWa nrDe nPe nDa nDr nNa nMo nWa nDe)) [2, 3, 4, 5, 6] [0, 1] [0, 1, 2, 3, 4, 5, 6] rfl rfl (by decide) (by decide) (by decide) rfl (by decide) 1 rfl rfl [] rfl hl.1 rfl (Nat.le_of_ble_eq_true rfl) dX4_closes_25 ⟨by decide, by decide⟩ (fun H locs (hw : Wd D A s.heap H locs (wX4 k xh xrRo xRo xSz ++ (wX1 k nh nrNa nrMo nrWa nrDe nPe nDa nDr nNa nMo nWa nDe))) => ?_)
    refine W.eq (g2 := F0 m 28 ls ([.int r_12])) rfl ?_
    refine kb_if_le (tgt := 35) hx hb dX4_closes_28 (by decide) h (fun c_28 h => ?_) (fun c_28 h => ?_)
    · refine lv_iconst (v := 0) hx hb dX4_closes_35 (by decide) ?_
      cases h
      exact k_zret hx hb hr hlocks hw (by decide) rfl dX4_closes_36 hQ
    · refine lv_iconst (v := 1) hx hb dX4_closes_31 (by decide) ?_
      refine lv_goto (tgt := 36) hx hb dX4_closes_32 (by decide) ?_
      cases h
      exact k_zret hx hb hr hlocks hw (by decide) rfl dX4_closes_36 hQ
abbrev rmX4_closes_1 : Room := { frames := 5, cells := 0, slots := 0, locals := 119 }
set_option maxHeartbeats 4000000 in
set_option maxRecDepth 100000 in
theorem c_X4_closes_1 (l : Launch) (D : va_G) (k : Nat → ClassId) (xh xrRo nh nrNa nrMo nrWa nrDe : Nat) (sz : Nat) (xRo : (Nat → Int32)) (xSz : Int32) (nPe : Int32) (nDa : Int32) (nDr : Int32) (nNa : (Nat → Int32)) (nMo : (Nat → Int32)) (nWa : (Nat → Int32)) (nDe : (Nat → Int32)) (r_ : Int32) (n_xRo : (Nat → Int32)) (hf : f_X4_closes_1 xRo xSz nPe nDe = some (r_, n_xRo)) : mR l yX4_closes wsX4_closes rmX4_closes_1 D k sz [.ref xh, .ref nh, .int 1] (wX4 k xh xrRo xRo xSz ++ (wX1 k nh nrNa nrMo nrWa nrDe nPe nDa nDr nNa nMo nWa nDe)) (wX4 k xh xrRo n_xRo xSz ++ (wX1 k nh nrNa nrMo nrWa nrDe nPe nDa nDr nNa nMo nWa nDe)) (some (.int r_)) := by
  refine mR_of (cc := cX4_closes) (maxL := 5) (ret := some .boolean) (by decide) rfl (Nat.le_of_ble_eq_true rfl) [(0, .ref xh), (1, .ref nh), (2, .int 1)] rfl ?_
  intro p e s m below meth c A ls args Q cx hK hA hw hl hQ
  have fx := cx.1
  obtain ⟨⟨hx, hb, hml, hown, hts⟩, hr, hlocks⟩ := cx
  have hinX4 : ∀ w ∈ wsX40, w ∈ wsX4_closes := fun w h => List.mem_cons_of_mem _ (List.mem_append_left _ (List.mem_append_right _ h))
  have hinX1 : ∀ w ∈ wsX10, w ∈ wsX4_closes := fun w h => List.mem_cons_of_mem _ (List.mem_append_right _ h)
  have q_1 := hts (.fieldLink RX4 9 "DebtRides$RingFinder" "row" "[I") (List.mem_of_getElem? (i := 1) rfl)
  have q_2 := hts (.fieldLink RX4 21 "DebtRides$RingFinder" "size" "I") (List.mem_of_getElem? (i := 2) rfl)
  have q_3 := hts (.fieldLink RX4 15 "DebtRides$Land" "people" "I") (List.mem_of_getElem? (i := 3) rfl)
  have h := hf
  unfold f_X4_closes_1 at h
  clear hf
  refine lv_aload_n hx hb dX4_closes_0 rfl (lv_at hl 0 rfl) ?_
  refine va_get (ci := 4) (v := .ref xrRo) (C := RX4) (T := TX4) (N := 2) hx hb hts hinX4 hown hK.1 hw.1 0 rfl rfl 0 (by decide) q_1 (fun _ h9 => h9) rfl dX4_closes_1 ?_
  refine lv_iload_n hx hb dX4_closes_4 rfl (lv_at hl 2 rfl) ?_
  refine lv_iconst (v := 1) hx hb dX4_closes_5 (by decide) ?_
  refine lv_isub hx hb dX4_closes_6 ?_
  refine k_lit (y := 0) (by decide) ?_
  refine k_iald hx hb hK hw 1 rfl dX4_closes_7 h (fun a_1 h => ?_)
  refine lv_istore_n (lv' := [(3, .int a_1), (0, .ref xh), (1, .ref nh), (2, .int 1)]) hx hb dX4_closes_8 rfl hl (by decide) rfl (fun ls hl => ?_)
  refine lv_iload_n hx hb dX4_closes_9 rfl (lv_at hl 3 rfl) ?_
  refine lv_aload_n hx hb dX4_closes_10 rfl (lv_at hl 1 rfl) ?_
  refine va_get (ci := 4) (v := .int xSz) (C := RX4) (T := TX4) (N := 2) hx hb hts hinX4 hown hK.1 hw.1 0 rfl rfl 1 (by decide) q_2 (fun _ h9 => h9) rfl dX4_closes_11 ?_
  refine kb_icmp_lt (tgt := 37) hx hb dX4_closes_14 (by decide) h (fun c_14 h => ?_) (fun c_14 h => ?_)
  · refine lv_aload_n hx hb dX4_closes_37 rfl (lv_at hl 1 rfl) ?_
    refine va_get (ci := 4) (v := .ref xrRo) (C := RX4) (T := TX4) (N := 2) hx hb hts hinX4 hown hK.1 hw.1 0 rfl rfl 0 (by decide) q_1 (fun _ h9 => h9) rfl dX4_closes_38 ?_
    refine lv_iconst (v := 0) hx hb dX4_closes_41 (by decide) ?_
    refine k_iald hx hb hK hw 1 rfl dX4_closes_42 h (fun a_2 h => ?_)
    refine lv_iconst (v := 1) hx hb dX4_closes_43 (by decide) ?_
    refine lv_iadd hx hb dX4_closes_44 ?_
    refine lv_istore (lv' := [(4, .int (a_2 + 1)), (3, .int a_1), (0, .ref xh), (1, .ref nh), (2, .int 1)]) hx hb dX4_closes_45 hl (by decide) rfl (fun ls hl => ?_)
    obtain ⟨ex_47, hL_47, hX_47⟩ := bs1_inv h
    clear h
    have X_47 : ∀ (xRo_5 : (Nat → Int32)), ex_47 = Sum.inr xRo_5 → ∀ (H : Heap) (locs : List Loc) (ls : Array Slot), Wd D A s.heap H locs (wX4 k xh xrRo xRo_5 xSz ++ (wX1 k nh nrNa nrMo nrWa nrDe nPe nDa nDr nNa nMo nWa nDe)) → lv_has ls 5 [] → W p l e rmX4_closes_1 s m args below meth c H locs 0 0 Q (F0 m 103 ls []) := by
      intro xRo_5 hex H locs ls hw hl
      subst hex
      have h := bs1_r hX_47
      refine lv_iconst (v := 0) hx hb dX4_closes_103 (by decide) ?_
      cases h
      exact k_zret hx hb hr hlocks hw (by decide) rfl dX4_closes_104 hQ
    have LP_47 : ∀ (n : Nat) (v4_3 : Int32) (xRo_4 : (Nat → Int32)), f_X4_closes_1_L47 xSz nPe nDe a_1 n v4_3 xRo_4 = some ex_47 → ∀ (H : Heap) (locs : List Loc) (ls : Array Slot), Wd D A s.heap H locs (wX4 k xh xrRo xRo_4 xSz ++ (wX1 k nh nrNa nrMo nrWa nrDe nPe nDa nDr nNa nMo nWa nDe)) → lv_has ls 5 [(0, .ref xh), (1, .ref nh), (2, .int 1), (3, .int a_1), (4, .int v4_3)] → W p l e rmX4_closes_1 s m args below meth c H locs 0 0 Q (F0 m 47 ls []) := by
      clear hL_47 hw hl
      intro n
      induction n with
      | zero => intro v4_3 xRo_4 h; rw [f_X4_closes_1_L47] at h; cases h
      | succ n ih =>
        intro v4_3 xRo_4 h H locs ls hw hl
        rw [f_X4_closes_1_L47] at h
        refine lv_iload hx hb dX4_closes_47 (lv_at hl 4 rfl) ?_
        refine lv_aload_n hx hb dX4_closes_49 rfl (lv_at hl 1 rfl) ?_
        refine va_get (ci := 1) (v := .int nPe) (C := RX1) (T := TX1) (N := 7) hx hb hts hinX1 hown hK.1 hw.1 2 rfl rfl 0 (by decide) q_3 (fun _ h9 => h9) rfl dX4_closes_50 ?_
        refine kb_icmp_ge (tgt := 103) hx hb dX4_closes_53 (by decide) h (fun c_53 h => ?_) (fun c_53 h => ?_)
        · cases h
          exact X_47 _ rfl _ _ _ hw (lv_sub hl [] rfl)
        · refine lv_aload_n hx hb dX4_closes_56 rfl (lv_at hl 1 rfl) ?_
          refine lv_iload_n hx hb dX4_closes_57 rfl (lv_at hl 3 rfl) ?_
          refine lv_iload hx hb dX4_closes_58 (lv_at hl 4 rfl) ?_
          obtain ⟨r_6, hf, h⟩ := b1_inv h
          refine k_callV (host := "") fx hK hA hw (c_X1_debt l D k nh nrNa nrMo nrWa nrDe _ nPe nDa nDr nNa nMo nWa nDe a_1 v4_3 r_6 hf) (cwV 2 hts gX4_closes_X1_debt rfl rfl rfl (by decide +kernel) ⟨by decide, by decide⟩) (As := [.int a_1, .int v4_3]) (wr := [(xh, .inr (4, [.ref xrRo, .int xSz])), (xrRo, .inl (k 0, 5, .inl xRo_4))]) (ws' := wX4 k xh xrRo xRo_4 xSz ++ (wX1 k nh nrNa nrMo nrWa nrDe nPe nDa nDr nNa nMo nWa nDe)) [2, 3, 4, 5, 6] [0, 1] [0, 1, 2, 3, 4, 5, 6] rfl rfl (by decide) (by decide) (by decide) rfl (by decide) 1 rfl rfl [] rfl hl.1 rfl (Nat.le_of_ble_eq_true rfl) dX4_closes_60 ⟨by decide, by decide⟩ (fun H locs (hw : Wd D A s.heap H locs (wX4 k xh xrRo xRo_4 xSz ++ (wX1 k nh nrNa nrMo nrWa nrDe nPe nDa nDr nNa nMo nWa nDe))) => ?_)
          refine W.eq (g2 := F0 m 63 ls ([.int r_6])) rfl ?_
          refine kb_if_le (tgt := 97) hx hb dX4_closes_63 (by decide) h (fun c_63 h => ?_) (fun c_63 h => ?_)
          · refine lv_iinc (v := v4_3 + 1) (lv' := [(4, .int (v4_3 + 1)), (0, .ref xh), (1, .ref nh), (2, .int 1), (3, .int a_1)]) hx hb dX4_closes_97 hl (k := 4) rfl rfl (by decide) rfl (fun ls hl => ?_)
            refine lv_goto (tgt := 47) hx hb dX4_closes_100 (by decide) ?_
            exact ih _ _ h _ _ _ hw (lv_sub hl [1, 2, 3, 4, 0] rfl)
          · refine lv_aload_n hx hb dX4_closes_66 rfl (lv_at hl 0 rfl) ?_
            refine lv_iload hx hb dX4_closes_67 (lv_at hl 4 rfl) ?_
            refine lv_iload_n hx hb dX4_closes_69 rfl (lv_at hl 2 rfl) ?_
            obtain ⟨r_7, hf, h⟩ := b1_inv h
            refine k_callV (host := "") fx hK hA hw (c_X4_stands l D k xh xrRo _ xRo_4 xSz v4_3 1 r_7 hf) (cwV 2 hts gX4_closes_X4_stands rfl rfl rfl (by decide +kernel) ⟨by decide, by decide⟩) (As := [.int v4_3, .int 1]) (wr := [(nh, .inr (1, [.int nPe, .int nDa, .int nDr, .ref nrNa, .ref nrMo, .ref nrWa, .ref nrDe])), (nrNa, .inl (k 0, 5, .inl nNa)), (nrMo, .inl (k 0, 5, .inl nMo)), (nrWa, .inl (k 0, 5, .inl nWa)), (nrDe, .inl (k 0, 25, .inl nDe))]) (ws' := wX4 k xh xrRo xRo_4 xSz ++ (wX1 k nh nrNa nrMo nrWa nrDe nPe nDa nDr nNa nMo nWa nDe)) [0, 1] [2, 3, 4, 5, 6] [5, 6, 0, 1, 2, 3, 4] rfl rfl (by decide) (by decide) (by decide) rfl (by decide) 4 rfl rfl [] rfl hl.1 rfl (Nat.le_of_ble_eq_true rfl) dX4_closes_70 ⟨by decide, by decide⟩ (fun H locs (hw : Wd D A s.heap H locs (wX4 k xh xrRo xRo_4 xSz ++ (wX1 k nh nrNa nrMo nrWa nrDe nPe nDa nDr nNa nMo nWa nDe))) => ?_)
            refine W.eq (g2 := F0 m 73 ls ([.int r_7])) rfl ?_
            refine kb_if_ne (tgt := 97) hx hb dX4_closes_73 (by decide) h (fun c_73 h => ?_) (fun c_73 h => ?_)
            · refine lv_aload_n hx hb dX4_closes_76 rfl (lv_at hl 0 rfl) ?_
              refine va_get (ci := 4) (v := .ref xrRo) (C := RX4) (T := TX4) (N := 2) hx hb hts hinX4 hown hK.1 hw.1 0 rfl rfl 0 (by decide) q_1 (fun _ h9 => h9) rfl dX4_closes_77 ?_
              refine lv_iload_n hx hb dX4_closes_80 rfl (lv_at hl 2 rfl) ?_
              refine lv_iload hx hb dX4_closes_81 (lv_at hl 4 rfl) ?_
              refine k_iast hx hb hK hw 1 rfl dX4_closes_83 h (fun xRo_8 h H locs (hw : Wd D A s.heap H locs (wX4 k xh xrRo xRo_8 xSz ++ (wX1 k nh nrNa nrMo nrWa nrDe nPe nDa nDr nNa nMo nWa nDe))) => ?_)
              refine lv_aload_n hx hb dX4_closes_84 rfl (lv_at hl 0 rfl) ?_
              refine lv_aload_n hx hb dX4_closes_85 rfl (lv_at hl 1 rfl) ?_
              refine lv_iload_n hx hb dX4_closes_86 rfl (lv_at hl 2 rfl) ?_
              refine lv_iconst (v := 1) hx hb dX4_closes_87 (by decide) ?_
              refine lv_iadd hx hb dX4_closes_88 ?_
              refine k_lit (y := 2) (by decide) ?_
              obtain ⟨r_9, xRo_10, hf, h⟩ := b2_inv h
              refine k_callV (host := "") fx hK hA hw (c_X4_closes_2 l D k xh xrRo nh nrNa nrMo nrWa nrDe _ xRo_8 xSz nPe nDa nDr nNa nMo nWa nDe r_9 xRo_10 hf) (cwV 2 hts gX4_closes_X4_closes rfl rfl rfl (by decide +kernel) ⟨by decide, by decide⟩) (As := [.ref nh, .int 2]) (wr := []) (ws' := wX4 k xh xrRo xRo_10 xSz ++ (wX1 k nh nrNa nrMo nrWa nrDe nPe nDa nDr nNa nMo nWa nDe)) [0, 1, 2, 3, 4, 5, 6] [] [0, 1, 2, 3, 4, 5, 6] rfl rfl (by decide) (by decide) (by decide) rfl (by decide) 4 rfl rfl [] rfl hl.1 rfl (Nat.le_of_ble_eq_true rfl) dX4_closes_89 ⟨by decide, by decide⟩ (fun H locs (hw : Wd D A s.heap H locs (wX4 k xh xrRo xRo_10 xSz ++ (wX1 k nh nrNa nrMo nrWa nrDe nPe nDa nDr nNa nMo nWa nDe))) => ?_)
              refine W.eq (g2 := F0 m 92 ls ([.int r_9])) rfl ?_
              refine kb_if_eq (tgt := 97) hx hb dX4_closes_92 (by decide) h (fun c_92 h => ?_) (fun c_92 h => ?_)
              · refine lv_iinc (v := v4_3 + 1) (lv' := [(4, .int (v4_3 + 1)), (0, .ref xh), (1, .ref nh), (2, .int 1), (3, .int a_1)]) hx hb dX4_closes_97 hl (k := 4) rfl rfl (by decide) rfl (fun ls hl => ?_)
                refine lv_goto (tgt := 47) hx hb dX4_closes_100 (by decide) ?_
                exact ih _ _ h _ _ _ hw (lv_sub hl [1, 2, 3, 4, 0] rfl)
              · refine lv_iconst (v := 1) hx hb dX4_closes_95 (by decide) ?_
                cases h
                have h := bs1_l hX_47
                cases h
                exact k_zret hx hb hr hlocks hw (by decide) rfl dX4_closes_96 hQ
            · refine lv_iinc (v := v4_3 + 1) (lv' := [(4, .int (v4_3 + 1)), (0, .ref xh), (1, .ref nh), (2, .int 1), (3, .int a_1)]) hx hb dX4_closes_97 hl (k := 4) rfl rfl (by decide) rfl (fun ls hl => ?_)
              refine lv_goto (tgt := 47) hx hb dX4_closes_100 (by decide) ?_
              exact ih _ _ h _ _ _ hw (lv_sub hl [1, 2, 3, 4, 0] rfl)
    exact LP_47 400 (a_2 + 1) xRo hL_47 _ _ _ hw (lv_sub hl [2, 3, 4, 1, 0] rfl)
  · refine lv_aload_n hx hb dX4_closes_17 rfl (lv_at hl 2 rfl) ?_
    refine lv_iload_n hx hb dX4_closes_18 rfl (lv_at hl 0 rfl) ?_
    refine lv_aload_n hx hb dX4_closes_19 rfl (lv_at hl 1 rfl) ?_
    refine va_get (ci := 4) (v := .ref xrRo) (C := RX4) (T := TX4) (N := 2) hx hb hts hinX4 hown hK.1 hw.1 0 rfl rfl 0 (by decide) q_1 (fun _ h9 => h9) rfl dX4_closes_20 ?_
    refine lv_iconst (v := 0) hx hb dX4_closes_23 (by decide) ?_
    refine k_iald hx hb hK hw 1 rfl dX4_closes_24 h (fun a_11 h => ?_)
    obtain ⟨r_12, hf, h⟩ := b1_inv h
    refine k_callV (host := "") fx hK hA hw (c_X1_debt l D k nh nrNa nrMo nrWa nrDe _ nPe nDa nDr nNa nMo nWa nDe a_1 a_11 r_12 hf) (cwV 2 hts gX4_closes_X1_debt rfl rfl rfl (by decide +kernel) ⟨by decide, by decide⟩) (As := [.int a_1, .int a_11]) (wr := [(xh, .inr (4, [.ref xrRo, .int xSz])), (xrRo, .inl (k 0, 5, .inl xRo))]) (ws' := wX4 k xh xrRo xRo xSz ++ (wX1 k nh nrNa nrMo nrWa nrDe nPe nDa nDr nNa nMo nWa nDe)) [2, 3, 4, 5, 6] [0, 1] [0, 1, 2, 3, 4, 5, 6] rfl rfl (by decide) (by decide) (by decide) rfl (by decide) 1 rfl rfl [] rfl hl.1 rfl (Nat.le_of_ble_eq_true rfl) dX4_closes_25 ⟨by decide, by decide⟩ (fun H locs (hw : Wd D A s.heap H locs (wX4 k xh xrRo xRo xSz ++ (wX1 k nh nrNa nrMo nrWa nrDe nPe nDa nDr nNa nMo nWa nDe))) => ?_)
    refine W.eq (g2 := F0 m 28 ls ([.int r_12])) rfl ?_
    refine kb_if_le (tgt := 35) hx hb dX4_closes_28 (by decide) h (fun c_28 h => ?_) (fun c_28 h => ?_)
    · refine lv_iconst (v := 0) hx hb dX4_closes_35 (by decide) ?_
      cases h
      exact k_zret hx hb hr hlocks hw (by decide) rfl dX4_closes_36 hQ
    · refine lv_iconst (v := 1) hx hb dX4_closes_31 (by decide) ?_
      refine lv_goto (tgt := 36) hx hb dX4_closes_32 (by decide) ?_
      cases h
      exact k_zret hx hb hr hlocks hw (by decide) rfl dX4_closes_36 hQ
abbrev rmX4_find : Room := { frames := 6, cells := 0, slots := 0, locals := 143 }
set_option maxHeartbeats 4000000 in
set_option maxRecDepth 100000 in
theorem c_X4_find (l : Launch) (D : va_G) (k : Nat → ClassId) (xh xrRo nh nrNa nrMo nrWa nrDe : Nat) (sz : Nat) (xRo : (Nat → Int32)) (xSz : Int32) (nPe : Int32) (nDa : Int32) (nDr : Int32) (nNa : (Nat → Int32)) (nMo : (Nat → Int32)) (nWa : (Nat → Int32)) (nDe : (Nat → Int32)) (r_ : Int32) (n_xRo : (Nat → Int32)) (n_xSz : Int32) (hf : f_X4_find xRo xSz nPe nDe = some (r_, n_xRo, n_xSz)) : mR l yX4_find wsX4_find rmX4_find D k sz [.ref xh, .ref nh] (wX4 k xh xrRo xRo xSz ++ (wX1 k nh nrNa nrMo nrWa nrDe nPe nDa nDr nNa nMo nWa nDe)) (wX4 k xh xrRo n_xRo n_xSz ++ (wX1 k nh nrNa nrMo nrWa nrDe nPe nDa nDr nNa nMo nWa nDe)) (some (.int r_)) := by
  refine mR_of (cc := cX4_find) (maxL := 4) (ret := some .boolean) (by decide) rfl (Nat.le_of_ble_eq_true rfl) [(0, .ref xh), (1, .ref nh)] rfl ?_
  intro p e s m below meth c A ls args Q cx hK hA hw hl hQ
  have fx := cx.1
  obtain ⟨⟨hx, hb, hml, hown, hts⟩, hr, hlocks⟩ := cx
  have hinX1 : ∀ w ∈ wsX10, w ∈ wsX4_find := fun w h => List.mem_cons_of_mem _ (List.mem_append_left _ (List.mem_append_right _ h))
  have hinX4 : ∀ w ∈ wsX40, w ∈ wsX4_find := fun w h => List.mem_cons_of_mem _ (List.mem_append_right _ h)
  have q_1 := hts (.fieldLink RX4 15 "DebtRides$Land" "people" "I") (List.mem_of_getElem? (i := 1) rfl)
  have q_2 := hts (.fieldLink RX4 21 "DebtRides$RingFinder" "size" "I") (List.mem_of_getElem? (i := 2) rfl)
  have q_3 := hts (.fieldLink RX4 9 "DebtRides$RingFinder" "row" "[I") (List.mem_of_getElem? (i := 3) rfl)
  have h := hf
  unfold f_X4_find at h
  clear hf
  refine lv_iconst (v := 2) hx hb dX4_find_0 (by decide) ?_
  refine lv_istore_n (lv' := [(2, .int 2), (0, .ref xh), (1, .ref nh)]) hx hb dX4_find_1 rfl hl (by decide) rfl (fun ls hl => ?_)
  obtain ⟨ex_2, hL_2, hX_2⟩ := bs2_inv h
  clear h
  have X_2 : ∀ (xRo_4 : (Nat → Int32)) (xSz_5 : Int32), ex_2 = Sum.inr (xRo_4, xSz_5) → ∀ (H : Heap) (locs : List Loc) (ls : Array Slot), Wd D A s.heap H locs (wX4 k xh xrRo xRo_4 xSz_5 ++ (wX1 k nh nrNa nrMo nrWa nrDe nPe nDa nDr nNa nMo nWa nDe)) → lv_has ls 4 [(0, .ref xh)] → W p l e rmX4_find s m args below meth c H locs 0 0 Q (F0 m 55 ls []) := by
    intro xRo_4 xSz_5 hex H locs ls hw hl
    subst hex
    have h := bs2_r hX_2
    refine lv_aload_n hx hb dX4_find_55 rfl (lv_at hl 0 rfl) ?_
    refine lv_iconst (v := 0) hx hb dX4_find_56 (by decide) ?_
    refine va_put (ci := 4) (v := .int 0) (ty := tyX4 1) (C := RX4) (T := TX4) (N := 2) hx hb hts hinX4 tyX4 tyX4_ok nmX4 hown hK.1 hw.1 hw.2.1 hw.2.2 0 rfl rfl 1 (by decide) q_2 (fun _ h9 => h9) rfl (tyX4_ok 1 (by decide)) rfl rfl (Nat.le_of_ble_eq_true rfl) dX4_find_57 (fun H locs hP hD hS => ?_)
    have hw : Wd D A s.heap H locs (wX4 k xh xrRo xRo_4 0 ++ (wX1 k nh nrNa nrMo nrWa nrDe nPe nDa nDr nNa nMo nWa nDe)) := ⟨hP, hD, hS⟩
    refine lv_iconst (v := 0) hx hb dX4_find_60 (by decide) ?_
    cases h
    exact k_zret hx hb hr hlocks hw (by decide) rfl dX4_find_61 hQ
  have LP_2 : ∀ (n : Nat) (v2_1 : Int32) (xRo_2 : (Nat → Int32)) (xSz_3 : Int32), f_X4_find_L2 nPe nDe n v2_1 xRo_2 xSz_3 = some ex_2 → ∀ (H : Heap) (locs : List Loc) (ls : Array Slot), Wd D A s.heap H locs (wX4 k xh xrRo xRo_2 xSz_3 ++ (wX1 k nh nrNa nrMo nrWa nrDe nPe nDa nDr nNa nMo nWa nDe)) → lv_has ls 4 [(0, .ref xh), (1, .ref nh), (2, .int v2_1)] → W p l e rmX4_find s m args below meth c H locs 0 0 Q (F0 m 2 ls []) := by
    clear hL_2 hw hl
    intro n
    induction n with
    | zero => intro v2_1 xRo_2 xSz_3 h; rw [f_X4_find_L2] at h; cases h
    | succ n ih =>
      intro v2_1 xRo_2 xSz_3 h H locs ls hw hl
      rw [f_X4_find_L2] at h
      refine lv_iload_n hx hb dX4_find_2 rfl (lv_at hl 2 rfl) ?_
      refine lv_aload_n hx hb dX4_find_3 rfl (lv_at hl 1 rfl) ?_
      refine va_get (ci := 1) (v := .int nPe) (C := RX1) (T := TX1) (N := 7) hx hb hts hinX1 hown hK.1 hw.1 2 rfl rfl 0 (by decide) q_1 (fun _ h9 => h9) rfl dX4_find_4 ?_
      refine kb_icmp_gt (tgt := 55) hx hb dX4_find_7 (by decide) h (fun c_7 h => ?_) (fun c_7 h => ?_)
      · cases h
        exact X_2 _ _ rfl _ _ _ hw (lv_sub hl [0] rfl)
      · refine lv_aload_n hx hb dX4_find_10 rfl (lv_at hl 0 rfl) ?_
        refine lv_iload_n hx hb dX4_find_11 rfl (lv_at hl 2 rfl) ?_
        refine va_put (ci := 4) (v := .int v2_1) (ty := tyX4 1) (C := RX4) (T := TX4) (N := 2) hx hb hts hinX4 tyX4 tyX4_ok nmX4 hown hK.1 hw.1 hw.2.1 hw.2.2 0 rfl rfl 1 (by decide) q_2 (fun _ h9 => h9) rfl (tyX4_ok 1 (by decide)) rfl rfl (Nat.le_of_ble_eq_true rfl) dX4_find_12 (fun H locs hP hD hS => ?_)
        have hw : Wd D A s.heap H locs (wX4 k xh xrRo xRo_2 v2_1 ++ (wX1 k nh nrNa nrMo nrWa nrDe nPe nDa nDr nNa nMo nWa nDe)) := ⟨hP, hD, hS⟩
        refine lv_iconst (v := 0) hx hb dX4_find_15 (by decide) ?_
        refine lv_istore_n (lv' := [(3, .int 0), (0, .ref xh), (1, .ref nh), (2, .int v2_1)]) hx hb dX4_find_16 rfl hl (by decide) rfl (fun ls hl => ?_)
        obtain ⟨ex_17, hL_17, hX_17⟩ := bt1_inv h
        clear h
        have X_17 : ∀ (xRo_8 : (Nat → Int32)), ex_17 = Sum.inr xRo_8 → ∀ (H : Heap) (locs : List Loc) (ls : Array Slot), Wd D A s.heap H locs (wX4 k xh xrRo xRo_8 v2_1 ++ (wX1 k nh nrNa nrMo nrWa nrDe nPe nDa nDr nNa nMo nWa nDe)) → lv_has ls 4 [(0, .ref xh), (1, .ref nh), (2, .int v2_1)] → W p l e rmX4_find s m args below meth c H locs 0 0 Q (F0 m 49 ls []) := by
          intro xRo_8 hex H locs ls hw hl
          subst hex
          have h := bt1_r hX_17
          refine lv_iinc (v := v2_1 + 1) (lv' := [(2, .int (v2_1 + 1)), (0, .ref xh), (1, .ref nh)]) hx hb dX4_find_49 hl (k := 2) rfl rfl (by decide) rfl (fun ls hl => ?_)
          refine lv_goto (tgt := 2) hx hb dX4_find_52 (by decide) ?_
          exact ih _ _ _ h _ _ _ hw (lv_sub hl [1, 2, 0] rfl)
        have LP_17 : ∀ (n : Nat) (v3_6 : Int32) (xRo_7 : (Nat → Int32)), f_X4_find_L17 nPe nDe v2_1 n v3_6 xRo_7 = some ex_17 → ∀ (H : Heap) (locs : List Loc) (ls : Array Slot), Wd D A s.heap H locs (wX4 k xh xrRo xRo_7 v2_1 ++ (wX1 k nh nrNa nrMo nrWa nrDe nPe nDa nDr nNa nMo nWa nDe)) → lv_has ls 4 [(0, .ref xh), (1, .ref nh), (2, .int v2_1), (3, .int v3_6)] → W p l e rmX4_find s m args below meth c H locs 0 0 Q (F0 m 17 ls []) := by
          clear hL_17 hw hl
          intro n
          induction n with
          | zero => intro v3_6 xRo_7 h; rw [f_X4_find_L17] at h; cases h
          | succ n ih =>
            intro v3_6 xRo_7 h H locs ls hw hl
            rw [f_X4_find_L17] at h
            refine lv_iload_n hx hb dX4_find_17 rfl (lv_at hl 3 rfl) ?_
            refine lv_aload_n hx hb dX4_find_18 rfl (lv_at hl 1 rfl) ?_
            refine va_get (ci := 1) (v := .int nPe) (C := RX1) (T := TX1) (N := 7) hx hb hts hinX1 hown hK.1 hw.1 2 rfl rfl 0 (by decide) q_1 (fun _ h9 => h9) rfl dX4_find_19 ?_
            refine kb_icmp_ge (tgt := 49) hx hb dX4_find_22 (by decide) h (fun c_22 h => ?_) (fun c_22 h => ?_)
            · cases h
              exact X_17 _ rfl _ _ _ hw (lv_sub hl [0, 1, 2] rfl)
            · refine lv_aload_n hx hb dX4_find_25 rfl (lv_at hl 0 rfl) ?_
              refine va_get (ci := 4) (v := .ref xrRo) (C := RX4) (T := TX4) (N := 2) hx hb hts hinX4 hown hK.1 hw.1 0 rfl rfl 0 (by decide) q_3 (fun _ h9 => h9) rfl dX4_find_26 ?_
              refine lv_iconst (v := 0) hx hb dX4_find_29 (by decide) ?_
              refine lv_iload_n hx hb dX4_find_30 rfl (lv_at hl 3 rfl) ?_
              refine k_iast hx hb hK hw 1 rfl dX4_find_31 h (fun xRo_9 h H locs (hw : Wd D A s.heap H locs (wX4 k xh xrRo xRo_9 v2_1 ++ (wX1 k nh nrNa nrMo nrWa nrDe nPe nDa nDr nNa nMo nWa nDe))) => ?_)
              refine lv_aload_n hx hb dX4_find_32 rfl (lv_at hl 0 rfl) ?_
              refine lv_aload_n hx hb dX4_find_33 rfl (lv_at hl 1 rfl) ?_
              refine lv_iconst (v := 1) hx hb dX4_find_34 (by decide) ?_
              obtain ⟨r_10, xRo_11, hf, h⟩ := b2_inv h
              refine k_callV (host := "") fx hK hA hw (c_X4_closes_1 l D k xh xrRo nh nrNa nrMo nrWa nrDe _ xRo_9 v2_1 nPe nDa nDr nNa nMo nWa nDe r_10 xRo_11 hf) (cwV 2 hts gX4_find_X4_closes rfl rfl rfl (by decide +kernel) ⟨by decide, by decide⟩) (As := [.ref nh, .int 1]) (wr := []) (ws' := wX4 k xh xrRo xRo_11 v2_1 ++ (wX1 k nh nrNa nrMo nrWa nrDe nPe nDa nDr nNa nMo nWa nDe)) [0, 1, 2, 3, 4, 5, 6] [] [0, 1, 2, 3, 4, 5, 6] rfl rfl (by decide) (by decide) (by decide) rfl (by decide) 4 rfl rfl [] rfl hl.1 rfl (Nat.le_of_ble_eq_true rfl) dX4_find_35 ⟨by decide, by decide⟩ (fun H locs (hw : Wd D A s.heap H locs (wX4 k xh xrRo xRo_11 v2_1 ++ (wX1 k nh nrNa nrMo nrWa nrDe nPe nDa nDr nNa nMo nWa nDe))) => ?_)
              refine W.eq (g2 := F0 m 38 ls ([.int r_10])) rfl ?_
              refine kb_if_eq (tgt := 43) hx hb dX4_find_38 (by decide) h (fun c_38 h => ?_) (fun c_38 h => ?_)
              · refine lv_iinc (v := v3_6 + 1) (lv' := [(3, .int (v3_6 + 1)), (0, .ref xh), (1, .ref nh), (2, .int v2_1)]) hx hb dX4_find_43 hl (k := 3) rfl rfl (by decide) rfl (fun ls hl => ?_)
                refine lv_goto (tgt := 17) hx hb dX4_find_46 (by decide) ?_
                exact ih _ _ h _ _ _ hw (lv_sub hl [1, 2, 3, 0] rfl)
              · refine lv_iconst (v := 1) hx hb dX4_find_41 (by decide) ?_
                cases h
                have h := bt1_l hX_17
                cases h
                have h := bs2_l hX_2
                cases h
                exact k_zret hx hb hr hlocks hw (by decide) rfl dX4_find_42 hQ
        exact LP_17 400 0 xRo_2 hL_17 _ _ _ hw (lv_sub hl [1, 2, 3, 0] rfl)
  exact LP_2 400 2 xRo xSz hL_2 _ _ _ hw (lv_sub hl [1, 2, 0] rfl)
abbrev rmX4_leastDebt : Room := { frames := 1, cells := 0, slots := 0, locals := 22 }
set_option maxHeartbeats 4000000 in
set_option maxRecDepth 100000 in
theorem c_X4_leastDebt (l : Launch) (D : va_G) (k : Nat → ClassId) (xh xrRo nh nrNa nrMo nrWa nrDe : Nat) (sz : Nat) (xRo : (Nat → Int32)) (xSz : Int32) (nPe : Int32) (nDa : Int32) (nDr : Int32) (nNa : (Nat → Int32)) (nMo : (Nat → Int32)) (nWa : (Nat → Int32)) (nDe : (Nat → Int32)) (r_ : Int32) (hf : f_X4_leastDebt xRo xSz nDe = some r_) : mR l yX4_leastDebt wsX4_leastDebt rmX4_leastDebt D k sz [.ref xh, .ref nh] (wX4 k xh xrRo xRo xSz ++ (wX1 k nh nrNa nrMo nrWa nrDe nPe nDa nDr nNa nMo nWa nDe)) (wX4 k xh xrRo xRo xSz ++ (wX1 k nh nrNa nrMo nrWa nrDe nPe nDa nDr nNa nMo nWa nDe)) (some (.int r_)) := by
  refine mR_of (cc := cX4_leastDebt) (maxL := 4) (ret := some .int) (by decide) rfl (Nat.le_of_ble_eq_true rfl) [(0, .ref xh), (1, .ref nh)] rfl ?_
  intro p e s m below meth c A ls args Q cx hK hA hw hl hQ
  have fx := cx.1
  obtain ⟨⟨hx, hb, hml, hown, hts⟩, hr, hlocks⟩ := cx
  have hinX4 : ∀ w ∈ wsX40, w ∈ wsX4_leastDebt := fun w h => List.mem_cons_of_mem _ (List.mem_append_left _ (List.mem_append_right _ h))
  have q_1 := hts (.fieldLink RX4 21 "DebtRides$RingFinder" "size" "I") (List.mem_of_getElem? (i := 1) rfl)
  have q_2 := hts (.fieldLink RX4 9 "DebtRides$RingFinder" "row" "[I") (List.mem_of_getElem? (i := 2) rfl)
  have q_3 := hts (.methodLink RX4 40 Lib.Math.min.name) (List.mem_of_getElem? (i := 3) rfl)
  have q_4 := hts (.static Lib.Math.min.name) (List.mem_of_getElem? (i := 4) rfl)
  have q_5 := hts (.initialized "java/lang/Math") (List.mem_of_getElem? (i := 5) rfl)
  have q_6 := hts (.code Lib.Math.min.name Lib.Math.min.code 2 (some .int)) (List.mem_of_getElem? (i := 6) rfl)
  have h := hf
  unfold f_X4_leastDebt at h
  clear hf
  refine lv_bipush (v := 99) hx hb dX4_leastDebt_0 (by decide) ?_
  refine lv_istore_n (lv' := [(2, .int 99), (0, .ref xh), (1, .ref nh)]) hx hb dX4_leastDebt_2 rfl hl (by decide) rfl (fun ls hl => ?_)
  refine lv_iconst (v := 0) hx hb dX4_leastDebt_3 (by decide) ?_
  refine lv_istore_n (lv' := [(3, .int 0), (2, .int 99), (0, .ref xh), (1, .ref nh)]) hx hb dX4_leastDebt_4 rfl hl (by decide) rfl (fun ls hl => ?_)
  obtain ⟨v2_3, hL_5, h⟩ := b1_inv h
  have X_5 : ∀ (H : Heap) (locs : List Loc) (ls : Array Slot), Wd D A s.heap H locs (wX4 k xh xrRo xRo xSz ++ (wX1 k nh nrNa nrMo nrWa nrDe nPe nDa nDr nNa nMo nWa nDe)) → lv_has ls 4 [(2, .int v2_3)] → W p l e rmX4_leastDebt s m args below meth c H locs 0 0 Q (F0 m 39 ls []) := by
    intro H locs ls hw hl
    refine lv_iload_n hx hb dX4_leastDebt_39 rfl (lv_at hl 0 rfl) ?_
    cases h
    exact k_iret hx hb hr hlocks hw rfl dX4_leastDebt_40 hQ
  clear h
  have LP_5 : ∀ (n : Nat) (v2_1 : Int32) (v3_2 : Int32), f_X4_leastDebt_L5 xRo xSz nDe n v2_1 v3_2 = some v2_3 → ∀ (H : Heap) (locs : List Loc) (ls : Array Slot), Wd D A s.heap H locs (wX4 k xh xrRo xRo xSz ++ (wX1 k nh nrNa nrMo nrWa nrDe nPe nDa nDr nNa nMo nWa nDe)) → lv_has ls 4 [(0, .ref xh), (1, .ref nh), (2, .int v2_1), (3, .int v3_2)] → W p l e rmX4_leastDebt s m args below meth c H locs 0 0 Q (F0 m 5 ls []) := by
    clear hL_5 hw hl
    intro n
    induction n with
    | zero => intro v2_1 v3_2 h; rw [f_X4_leastDebt_L5] at h; cases h
    | succ n ih =>
      intro v2_1 v3_2 h H locs ls hw hl
      rw [f_X4_leastDebt_L5] at h
      refine lv_iload_n hx hb dX4_leastDebt_5 rfl (lv_at hl 3 rfl) ?_
      refine lv_aload_n hx hb dX4_leastDebt_6 rfl (lv_at hl 0 rfl) ?_
      refine va_get (ci := 4) (v := .int xSz) (C := RX4) (T := TX4) (N := 2) hx hb hts hinX4 hown hK.1 hw.1 0 rfl rfl 1 (by decide) q_1 (fun _ h9 => h9) rfl dX4_leastDebt_7 ?_
      refine kb_icmp_ge (tgt := 39) hx hb dX4_leastDebt_10 (by decide) h (fun c_10 h => ?_) (fun c_10 h => ?_)
      · cases h
        exact X_5 _ _ _ hw (lv_sub hl [2] rfl)
      · refine lv_iload_n hx hb dX4_leastDebt_13 rfl (lv_at hl 2 rfl) ?_
        refine lv_aload_n hx hb dX4_leastDebt_14 rfl (lv_at hl 1 rfl) ?_
        refine lv_aload_n hx hb dX4_leastDebt_15 rfl (lv_at hl 0 rfl) ?_
        refine va_get (ci := 4) (v := .ref xrRo) (C := RX4) (T := TX4) (N := 2) hx hb hts hinX4 hown hK.1 hw.1 0 rfl rfl 0 (by decide) q_2 (fun _ h9 => h9) rfl dX4_leastDebt_16 ?_
        refine lv_iload_n hx hb dX4_leastDebt_19 rfl (lv_at hl 3 rfl) ?_
        refine k_iald hx hb hK hw 1 rfl dX4_leastDebt_20 h (fun a_4 h => ?_)
        refine lv_aload_n hx hb dX4_leastDebt_21 rfl (lv_at hl 0 rfl) ?_
        refine lv_iload_n hx hb dX4_leastDebt_22 rfl (lv_at hl 3 rfl) ?_
        obtain ⟨r_5, hf, h⟩ := b1_inv h
        refine k_callV (host := "") fx hK hA hw (c_X4_behind l D k xh xrRo _ xRo xSz v3_2 r_5 hf) (cwV 1 hts gX4_leastDebt_X4_behind rfl rfl rfl (by decide +kernel) ⟨by decide, by decide⟩) (As := [.int v3_2]) (wr := [(nh, .inr (1, [.int nPe, .int nDa, .int nDr, .ref nrNa, .ref nrMo, .ref nrWa, .ref nrDe])), (nrNa, .inl (k 0, 5, .inl nNa)), (nrMo, .inl (k 0, 5, .inl nMo)), (nrWa, .inl (k 0, 5, .inl nWa)), (nrDe, .inl (k 0, 25, .inl nDe))]) (ws' := wX4 k xh xrRo xRo xSz ++ (wX1 k nh nrNa nrMo nrWa nrDe nPe nDa nDr nNa nMo nWa nDe)) [0, 1] [2, 3, 4, 5, 6] [5, 6, 0, 1, 2, 3, 4] rfl rfl (by decide) (by decide) (by decide) rfl (by decide) 4 rfl rfl [.int a_4, .ref nh, .int v2_1] rfl hl.1 rfl (Nat.le_of_ble_eq_true rfl) dX4_leastDebt_23 ⟨by decide, by decide⟩ (fun H locs (hw : Wd D A s.heap H locs (wX4 k xh xrRo xRo xSz ++ (wX1 k nh nrNa nrMo nrWa nrDe nPe nDa nDr nNa nMo nWa nDe))) => ?_)
        refine W.eq (g2 := F0 m 26 ls ([.int r_5, .int a_4, .ref nh, .int v2_1])) rfl ?_
        obtain ⟨r_6, hf, h⟩ := b1_inv h
        refine k_callV (host := "") fx hK hA hw (c_X1_debt l D k nh nrNa nrMo nrWa nrDe _ nPe nDa nDr nNa nMo nWa nDe a_4 r_5 r_6 hf) (cwV 2 hts gX4_leastDebt_X1_debt rfl rfl rfl (by decide +kernel) ⟨by decide, by decide⟩) (As := [.int a_4, .int r_5]) (wr := [(xh, .inr (4, [.ref xrRo, .int xSz])), (xrRo, .inl (k 0, 5, .inl xRo))]) (ws' := wX4 k xh xrRo xRo xSz ++ (wX1 k nh nrNa nrMo nrWa nrDe nPe nDa nDr nNa nMo nWa nDe)) [2, 3, 4, 5, 6] [0, 1] [0, 1, 2, 3, 4, 5, 6] rfl rfl (by decide) (by decide) (by decide) rfl (by decide) 1 rfl rfl [.int v2_1] rfl hl.1 rfl (Nat.le_of_ble_eq_true rfl) dX4_leastDebt_26 ⟨by decide, by decide⟩ (fun H locs (hw : Wd D A s.heap H locs (wX4 k xh xrRo xRo xSz ++ (wX1 k nh nrNa nrMo nrWa nrDe nPe nDa nDr nNa nMo nWa nDe))) => ?_)
        refine W.eq (g2 := F0 m 29 ls ([.int r_6, .int v2_1])) rfl ?_
        refine k_min fx hl.1 q_3 q_4 q_5 q_6 (by decide) (Nat.le_of_ble_eq_true rfl) ⟨by decide, by decide⟩ dX4_leastDebt_29 h (fun z_7 h => ?_)
        refine lv_istore_n (lv' := [(2, .int z_7), (0, .ref xh), (1, .ref nh), (3, .int v3_2)]) hx hb dX4_leastDebt_32 rfl hl (by decide) rfl (fun ls hl => ?_)
        refine lv_iinc (v := v3_2 + 1) (lv' := [(3, .int (v3_2 + 1)), (2, .int z_7), (0, .ref xh), (1, .ref nh)]) hx hb dX4_leastDebt_33 hl (k := 3) rfl rfl (by decide) rfl (fun ls hl => ?_)
        refine lv_goto (tgt := 5) hx hb dX4_leastDebt_36 (by decide) ?_
        exact ih _ _ h _ _ _ hw (lv_sub hl [2, 3, 1, 0] rfl)
  exact LP_5 400 99 0 hL_5 _ _ _ hw (lv_sub hl [2, 3, 1, 0] rfl)
abbrev rmX4_lessen : Room := { frames := 1, cells := 0, slots := 0, locals := 23 }
set_option maxHeartbeats 4000000 in
set_option maxRecDepth 100000 in
theorem c_X4_lessen (l : Launch) (D : va_G) (k : Nat → ClassId) (xh xrRo nh nrNa nrMo nrWa nrDe : Nat) (sz : Nat) (xRo : (Nat → Int32)) (xSz : Int32) (nPe : Int32) (nDa : Int32) (nDr : Int32) (nNa : (Nat → Int32)) (nMo : (Nat → Int32)) (nWa : (Nat → Int32)) (nDe : (Nat → Int32)) (p2 : Int32) (n_nDe : (Nat → Int32)) (hf : f_X4_lessen xRo xSz nDe p2 = some n_nDe) : mR l yX4_lessen wsX4_lessen rmX4_lessen D k sz [.ref xh, .ref nh, .int p2] (wX4 k xh xrRo xRo xSz ++ (wX1 k nh nrNa nrMo nrWa nrDe nPe nDa nDr nNa nMo nWa nDe)) (wX4 k xh xrRo xRo xSz ++ (wX1 k nh nrNa nrMo nrWa nrDe nPe nDa nDr nNa nMo nWa n_nDe)) (none) := by
  refine mR_of (cc := cX4_lessen) (maxL := 4) (ret := none) (by decide) rfl (Nat.le_of_ble_eq_true rfl) [(0, .ref xh), (1, .ref nh), (2, .int p2)] rfl ?_
  intro p e s m below meth c A ls args Q cx hK hA hw hl hQ
  have fx := cx.1
  obtain ⟨⟨hx, hb, hml, hown, hts⟩, hr, hlocks⟩ := cx
  have hinX4 : ∀ w ∈ wsX40, w ∈ wsX4_lessen := fun w h => List.mem_cons_of_mem _ (List.mem_append_left _ (List.mem_append_right _ h))
  have q_1 := hts (.fieldLink RX4 21 "DebtRides$RingFinder" "size" "I") (List.mem_of_getElem? (i := 1) rfl)
  have q_2 := hts (.fieldLink RX4 9 "DebtRides$RingFinder" "row" "[I") (List.mem_of_getElem? (i := 2) rfl)
  have h := hf
  unfold f_X4_lessen at h
  clear hf
  refine lv_iconst (v := 0) hx hb dX4_lessen_0 (by decide) ?_
  refine lv_istore_n (lv' := [(3, .int 0), (0, .ref xh), (1, .ref nh), (2, .int p2)]) hx hb dX4_lessen_1 rfl hl (by decide) rfl (fun ls hl => ?_)
  obtain ⟨nDe_3, hL_2, h⟩ := b1_inv h
  have X_2 : ∀ (H : Heap) (locs : List Loc) (ls : Array Slot), Wd D A s.heap H locs (wX4 k xh xrRo xRo xSz ++ (wX1 k nh nrNa nrMo nrWa nrDe nPe nDa nDr nNa nMo nWa nDe_3)) → lv_has ls 4 [] → W p l e rmX4_lessen s m args below meth c H locs 0 0 Q (F0 m 48 ls []) := by
    intro H locs ls hw hl
    cases h
    exact k_vret hx hb hr hlocks hw dX4_lessen_48 hQ
  clear h
  have LP_2 : ∀ (n : Nat) (v3_1 : Int32) (nDe_2 : (Nat → Int32)), f_X4_lessen_L2 xRo xSz p2 n v3_1 nDe_2 = some nDe_3 → ∀ (H : Heap) (locs : List Loc) (ls : Array Slot), Wd D A s.heap H locs (wX4 k xh xrRo xRo xSz ++ (wX1 k nh nrNa nrMo nrWa nrDe nPe nDa nDr nNa nMo nWa nDe_2)) → lv_has ls 4 [(0, .ref xh), (1, .ref nh), (2, .int p2), (3, .int v3_1)] → W p l e rmX4_lessen s m args below meth c H locs 0 0 Q (F0 m 2 ls []) := by
    clear hL_2 hw hl
    intro n
    induction n with
    | zero => intro v3_1 nDe_2 h; rw [f_X4_lessen_L2] at h; cases h
    | succ n ih =>
      intro v3_1 nDe_2 h H locs ls hw hl
      rw [f_X4_lessen_L2] at h
      refine lv_iload_n hx hb dX4_lessen_2 rfl (lv_at hl 3 rfl) ?_
      refine lv_aload_n hx hb dX4_lessen_3 rfl (lv_at hl 0 rfl) ?_
      refine va_get (ci := 4) (v := .int xSz) (C := RX4) (T := TX4) (N := 2) hx hb hts hinX4 hown hK.1 hw.1 0 rfl rfl 1 (by decide) q_1 (fun _ h9 => h9) rfl dX4_lessen_4 ?_
      refine kb_icmp_ge (tgt := 48) hx hb dX4_lessen_7 (by decide) h (fun c_7 h => ?_) (fun c_7 h => ?_)
      · cases h
        exact X_2 _ _ _ hw (lv_sub hl [] rfl)
      · refine lv_aload_n hx hb dX4_lessen_10 rfl (lv_at hl 1 rfl) ?_
        refine lv_aload_n hx hb dX4_lessen_11 rfl (lv_at hl 0 rfl) ?_
        refine va_get (ci := 4) (v := .ref xrRo) (C := RX4) (T := TX4) (N := 2) hx hb hts hinX4 hown hK.1 hw.1 0 rfl rfl 0 (by decide) q_2 (fun _ h9 => h9) rfl dX4_lessen_12 ?_
        refine lv_iload_n hx hb dX4_lessen_15 rfl (lv_at hl 3 rfl) ?_
        refine k_iald hx hb hK hw 1 rfl dX4_lessen_16 h (fun a_4 h => ?_)
        refine lv_aload_n hx hb dX4_lessen_17 rfl (lv_at hl 0 rfl) ?_
        refine lv_iload_n hx hb dX4_lessen_18 rfl (lv_at hl 3 rfl) ?_
        obtain ⟨r_5, hf, h⟩ := b1_inv h
        refine k_callV (host := "") fx hK hA hw (c_X4_behind l D k xh xrRo _ xRo xSz v3_1 r_5 hf) (cwV 1 hts gX4_lessen_X4_behind rfl rfl rfl (by decide +kernel) ⟨by decide, by decide⟩) (As := [.int v3_1]) (wr := [(nh, .inr (1, [.int nPe, .int nDa, .int nDr, .ref nrNa, .ref nrMo, .ref nrWa, .ref nrDe])), (nrNa, .inl (k 0, 5, .inl nNa)), (nrMo, .inl (k 0, 5, .inl nMo)), (nrWa, .inl (k 0, 5, .inl nWa)), (nrDe, .inl (k 0, 25, .inl nDe_2))]) (ws' := wX4 k xh xrRo xRo xSz ++ (wX1 k nh nrNa nrMo nrWa nrDe nPe nDa nDr nNa nMo nWa nDe_2)) [0, 1] [2, 3, 4, 5, 6] [5, 6, 0, 1, 2, 3, 4] rfl rfl (by decide) (by decide) (by decide) rfl (by decide) 4 rfl rfl [.int a_4, .ref nh] rfl hl.1 rfl (Nat.le_of_ble_eq_true rfl) dX4_lessen_19 ⟨by decide, by decide⟩ (fun H locs (hw : Wd D A s.heap H locs (wX4 k xh xrRo xRo xSz ++ (wX1 k nh nrNa nrMo nrWa nrDe nPe nDa nDr nNa nMo nWa nDe_2))) => ?_)
        refine W.eq (g2 := F0 m 22 ls ([.int r_5, .int a_4, .ref nh])) rfl ?_
        refine lv_aload_n hx hb dX4_lessen_22 rfl (lv_at hl 1 rfl) ?_
        refine lv_aload_n hx hb dX4_lessen_23 rfl (lv_at hl 0 rfl) ?_
        refine va_get (ci := 4) (v := .ref xrRo) (C := RX4) (T := TX4) (N := 2) hx hb hts hinX4 hown hK.1 hw.1 0 rfl rfl 0 (by decide) q_2 (fun _ h9 => h9) rfl dX4_lessen_24 ?_
        refine lv_iload_n hx hb dX4_lessen_27 rfl (lv_at hl 3 rfl) ?_
        refine k_iald hx hb hK hw 1 rfl dX4_lessen_28 h (fun a_6 h => ?_)
        refine lv_aload_n hx hb dX4_lessen_29 rfl (lv_at hl 0 rfl) ?_
        refine lv_iload_n hx hb dX4_lessen_30 rfl (lv_at hl 3 rfl) ?_
        obtain ⟨r_7, hf, h⟩ := b1_inv h
        refine k_callV (host := "") fx hK hA hw (c_X4_behind l D k xh xrRo _ xRo xSz v3_1 r_7 hf) (cwV 1 hts gX4_lessen_X4_behind rfl rfl rfl (by decide +kernel) ⟨by decide, by decide⟩) (As := [.int v3_1]) (wr := [(nh, .inr (1, [.int nPe, .int nDa, .int nDr, .ref nrNa, .ref nrMo, .ref nrWa, .ref nrDe])), (nrNa, .inl (k 0, 5, .inl nNa)), (nrMo, .inl (k 0, 5, .inl nMo)), (nrWa, .inl (k 0, 5, .inl nWa)), (nrDe, .inl (k 0, 25, .inl nDe_2))]) (ws' := wX4 k xh xrRo xRo xSz ++ (wX1 k nh nrNa nrMo nrWa nrDe nPe nDa nDr nNa nMo nWa nDe_2)) [0, 1] [2, 3, 4, 5, 6] [5, 6, 0, 1, 2, 3, 4] rfl rfl (by decide) (by decide) (by decide) rfl (by decide) 4 rfl rfl [.int a_6, .ref nh, .int r_5, .int a_4, .ref nh] rfl hl.1 rfl (Nat.le_of_ble_eq_true rfl) dX4_lessen_31 ⟨by decide, by decide⟩ (fun H locs (hw : Wd D A s.heap H locs (wX4 k xh xrRo xRo xSz ++ (wX1 k nh nrNa nrMo nrWa nrDe nPe nDa nDr nNa nMo nWa nDe_2))) => ?_)
        refine W.eq (g2 := F0 m 34 ls ([.int r_7, .int a_6, .ref nh, .int r_5, .int a_4, .ref nh])) rfl ?_
        obtain ⟨r_8, hf, h⟩ := b1_inv h
        refine k_callV (host := "") fx hK hA hw (c_X1_debt l D k nh nrNa nrMo nrWa nrDe _ nPe nDa nDr nNa nMo nWa nDe_2 a_6 r_7 r_8 hf) (cwV 2 hts gX4_lessen_X1_debt rfl rfl rfl (by decide +kernel) ⟨by decide, by decide⟩) (As := [.int a_6, .int r_7]) (wr := [(xh, .inr (4, [.ref xrRo, .int xSz])), (xrRo, .inl (k 0, 5, .inl xRo))]) (ws' := wX4 k xh xrRo xRo xSz ++ (wX1 k nh nrNa nrMo nrWa nrDe nPe nDa nDr nNa nMo nWa nDe_2)) [2, 3, 4, 5, 6] [0, 1] [0, 1, 2, 3, 4, 5, 6] rfl rfl (by decide) (by decide) (by decide) rfl (by decide) 1 rfl rfl [.int r_5, .int a_4, .ref nh] rfl hl.1 rfl (Nat.le_of_ble_eq_true rfl) dX4_lessen_34 ⟨by decide, by decide⟩ (fun H locs (hw : Wd D A s.heap H locs (wX4 k xh xrRo xRo xSz ++ (wX1 k nh nrNa nrMo nrWa nrDe nPe nDa nDr nNa nMo nWa nDe_2))) => ?_)
        refine W.eq (g2 := F0 m 37 ls ([.int r_8, .int r_5, .int a_4, .ref nh])) rfl ?_
        refine lv_iload_n hx hb dX4_lessen_37 rfl (lv_at hl 2 rfl) ?_
        refine lv_isub hx hb dX4_lessen_38 ?_
        obtain ⟨nDe_9, hf, h⟩ := b1_inv h
        refine k_callV (host := "") fx hK hA hw (c_X1_setDebt l D k nh nrNa nrMo nrWa nrDe _ nPe nDa nDr nNa nMo nWa nDe_2 a_4 r_5 (r_8 - p2) nDe_9 hf) (cwV 3 hts gX4_lessen_X1_setDebt rfl rfl rfl (by decide +kernel) ⟨by decide, by decide⟩) (As := [.int a_4, .int r_5, .int (r_8 - p2)]) (wr := [(xh, .inr (4, [.ref xrRo, .int xSz])), (xrRo, .inl (k 0, 5, .inl xRo))]) (ws' := wX4 k xh xrRo xRo xSz ++ (wX1 k nh nrNa nrMo nrWa nrDe nPe nDa nDr nNa nMo nWa nDe_9)) [2, 3, 4, 5, 6] [0, 1] [0, 1, 2, 3, 4, 5, 6] rfl rfl (by decide) (by decide) (by decide) rfl (by decide) 1 rfl rfl [] rfl hl.1 rfl (Nat.le_of_ble_eq_true rfl) dX4_lessen_39 ⟨by decide, by decide⟩ (fun H locs (hw : Wd D A s.heap H locs (wX4 k xh xrRo xRo xSz ++ (wX1 k nh nrNa nrMo nrWa nrDe nPe nDa nDr nNa nMo nWa nDe_9))) => ?_)
        refine W.eq (g2 := F0 m 42 ls ([])) rfl ?_
        refine lv_iinc (v := v3_1 + 1) (lv' := [(3, .int (v3_1 + 1)), (0, .ref xh), (1, .ref nh), (2, .int p2)]) hx hb dX4_lessen_42 hl (k := 3) rfl rfl (by decide) rfl (fun ls hl => ?_)
        refine lv_goto (tgt := 2) hx hb dX4_lessen_45 (by decide) ?_
        exact ih _ _ h _ _ _ hw (lv_sub hl [1, 2, 3, 0] rfl)
  exact LP_2 400 0 nDe hL_2 _ _ _ hw (lv_sub hl [1, 2, 3, 0] rfl)
abbrev rmX5_add : Room := { frames := 0, cells := 0, slots := 0, locals := 0 }
set_option maxHeartbeats 4000000 in
set_option maxRecDepth 100000 in
theorem c_X5_add (l : Launch) (D : va_G) (k : Nat → ClassId) (xh xrDy xrWo xrRi : Nat) (sz : Nat) (xDy : (Nat → Int32)) (xWo : (Nat → Int32)) (xRi : (Nat → Int32)) (xSz : Int32) (p1 : Int32) (p2 : Int32) (p3 : Int32) (n_xDy : (Nat → Int32)) (n_xWo : (Nat → Int32)) (n_xRi : (Nat → Int32)) (n_xSz : Int32) (hf : f_X5_add xDy xWo xRi xSz p1 p2 p3 = some (n_xDy, n_xWo, n_xRi, n_xSz)) : mR l yX5_add wsX5_add rmX5_add D k sz [.ref xh, .int p1, .int p2, .int p3] (wX5 k xh xrDy xrWo xrRi xDy xWo xRi xSz) (wX5 k xh xrDy xrWo xrRi n_xDy n_xWo n_xRi n_xSz) (none) := by
  refine mR_of (cc := cX5_add) (maxL := 4) (ret := none) (by decide) rfl (Nat.le_of_ble_eq_true rfl) [(0, .ref xh), (1, .int p1), (2, .int p2), (3, .int p3)] rfl ?_
  intro p e s m below meth c A ls args Q cx hK hA hw hl hQ
  have fx := cx.1
  obtain ⟨⟨hx, hb, hml, hown, hts⟩, hr, hlocks⟩ := cx
  have hinX5 : ∀ w ∈ wsX50, w ∈ wsX5_add := fun w h => List.mem_cons_of_mem _ (List.mem_append_right _ h)
  have q_1 := hts (.fieldLink RX5 21 "DebtRides$Seen" "size" "I") (List.mem_of_getElem? (i := 1) rfl)
  have q_2 := hts (.fieldLink RX5 9 "DebtRides$Seen" "day" "[I") (List.mem_of_getElem? (i := 2) rfl)
  have q_3 := hts (.fieldLink RX5 15 "DebtRides$Seen" "who" "[I") (List.mem_of_getElem? (i := 3) rfl)
  have q_4 := hts (.fieldLink RX5 18 "DebtRides$Seen" "riding" "[I") (List.mem_of_getElem? (i := 4) rfl)
  have h := hf
  unfold f_X5_add at h
  clear hf
  refine lv_aload_n hx hb dX5_add_0 rfl (lv_at hl 0 rfl) ?_
  refine va_get (ci := 5) (v := .int xSz) (C := RX5) (T := TX5) (N := 4) hx hb hts hinX5 hown hK.1 hw.1 0 rfl rfl 3 (by decide) q_1 (fun _ h9 => h9) rfl dX5_add_1 ?_
  refine lv_bipush (v := 6) hx hb dX5_add_4 (by decide) ?_
  refine kb_icmp_ge (tgt := 57) hx hb dX5_add_6 (by decide) h (fun c_6 h => ?_) (fun c_6 h => ?_)
  · cases h
    exact k_vret hx hb hr hlocks hw dX5_add_57 hQ
  · refine lv_aload_n hx hb dX5_add_9 rfl (lv_at hl 0 rfl) ?_
    refine va_get (ci := 5) (v := .ref xrDy) (C := RX5) (T := TX5) (N := 4) hx hb hts hinX5 hown hK.1 hw.1 0 rfl rfl 0 (by decide) q_2 (fun _ h9 => h9) rfl dX5_add_10 ?_
    refine lv_aload_n hx hb dX5_add_13 rfl (lv_at hl 0 rfl) ?_
    refine va_get (ci := 5) (v := .int xSz) (C := RX5) (T := TX5) (N := 4) hx hb hts hinX5 hown hK.1 hw.1 0 rfl rfl 3 (by decide) q_1 (fun _ h9 => h9) rfl dX5_add_14 ?_
    refine lv_iload_n hx hb dX5_add_17 rfl (lv_at hl 1 rfl) ?_
    refine k_iast hx hb hK hw 1 rfl dX5_add_18 h (fun xDy_1 h H locs (hw : Wd D A s.heap H locs (wX5 k xh xrDy xrWo xrRi xDy_1 xWo xRi xSz)) => ?_)
    refine lv_aload_n hx hb dX5_add_19 rfl (lv_at hl 0 rfl) ?_
    refine va_get (ci := 5) (v := .ref xrWo) (C := RX5) (T := TX5) (N := 4) hx hb hts hinX5 hown hK.1 hw.1 0 rfl rfl 1 (by decide) q_3 (fun _ h9 => h9) rfl dX5_add_20 ?_
    refine lv_aload_n hx hb dX5_add_23 rfl (lv_at hl 0 rfl) ?_
    refine va_get (ci := 5) (v := .int xSz) (C := RX5) (T := TX5) (N := 4) hx hb hts hinX5 hown hK.1 hw.1 0 rfl rfl 3 (by decide) q_1 (fun _ h9 => h9) rfl dX5_add_24 ?_
    refine lv_iload_n hx hb dX5_add_27 rfl (lv_at hl 2 rfl) ?_
    refine k_iast hx hb hK hw 2 rfl dX5_add_28 h (fun xWo_2 h H locs (hw : Wd D A s.heap H locs (wX5 k xh xrDy xrWo xrRi xDy_1 xWo_2 xRi xSz)) => ?_)
    refine lv_aload_n hx hb dX5_add_29 rfl (lv_at hl 0 rfl) ?_
    refine va_get (ci := 5) (v := .ref xrRi) (C := RX5) (T := TX5) (N := 4) hx hb hts hinX5 hown hK.1 hw.1 0 rfl rfl 2 (by decide) q_4 (fun _ h9 => h9) rfl dX5_add_30 ?_
    refine lv_aload_n hx hb dX5_add_33 rfl (lv_at hl 0 rfl) ?_
    refine va_get (ci := 5) (v := .int xSz) (C := RX5) (T := TX5) (N := 4) hx hb hts hinX5 hown hK.1 hw.1 0 rfl rfl 3 (by decide) q_1 (fun _ h9 => h9) rfl dX5_add_34 ?_
    refine lv_iload_n hx hb dX5_add_37 rfl (lv_at hl 3 rfl) ?_
    obtain ⟨t_3, hj_38, h⟩ := b1_inv h
    have J_38 : ∀ (H : Heap) (locs : List Loc) (ls : Array Slot), Wd D A s.heap H locs (wX5 k xh xrDy xrWo xrRi xDy_1 xWo_2 xRi xSz) → lv_has ls 4 [(0, .ref xh)] → W p l e rmX5_add s m args below meth c H locs 0 0 Q (F0 m 46 ls [.int t_3, .int xSz, .ref xrRi]) := by
      intro H locs ls hw hl
      refine k_iast hx hb hK hw 3 rfl dX5_add_46 h (fun xRi_4 h H locs (hw : Wd D A s.heap H locs (wX5 k xh xrDy xrWo xrRi xDy_1 xWo_2 xRi_4 xSz)) => ?_)
      refine lv_aload_n hx hb dX5_add_47 rfl (lv_at hl 0 rfl) ?_
      refine lv_dup hx hb dX5_add_48 rfl ?_
      refine va_get (ci := 5) (v := .int xSz) (C := RX5) (T := TX5) (N := 4) hx hb hts hinX5 hown hK.1 hw.1 0 rfl rfl 3 (by decide) q_1 (fun _ h9 => h9) rfl dX5_add_49 ?_
      refine lv_iconst (v := 1) hx hb dX5_add_52 (by decide) ?_
      refine lv_iadd hx hb dX5_add_53 ?_
      refine va_put (ci := 5) (v := .int (xSz + 1)) (ty := tyX5 3) (C := RX5) (T := TX5) (N := 4) hx hb hts hinX5 tyX5 tyX5_ok nmX5 hown hK.1 hw.1 hw.2.1 hw.2.2 0 rfl rfl 3 (by decide) q_1 (fun _ h9 => h9) rfl (tyX5_ok 3 (by decide)) rfl rfl (Nat.le_of_ble_eq_true rfl) dX5_add_54 (fun H locs hP hD hS => ?_)
      have hw : Wd D A s.heap H locs (wX5 k xh xrDy xrWo xrRi xDy_1 xWo_2 xRi_4 (xSz + 1)) := ⟨hP, hD, hS⟩
      cases h
      exact k_vret hx hb hr hlocks hw dX5_add_57 hQ
    clear h
    have h := hj_38
    refine kb_if_eq (tgt := 45) hx hb dX5_add_38 (by decide) h (fun c_38 h => ?_) (fun c_38 h => ?_)
    · refine lv_iconst (v := 0) hx hb dX5_add_45 (by decide) ?_
      cases h
      exact J_38 _ _ _ hw (lv_sub hl [0] rfl)
    · refine lv_iconst (v := 1) hx hb dX5_add_41 (by decide) ?_
      refine lv_goto (tgt := 46) hx hb dX5_add_42 (by decide) ?_
      cases h
      exact J_38 _ _ _ hw (lv_sub hl [0] rfl)
abbrev rmX5_become : Room := { frames := 1, cells := 0, slots := 0, locals := 60 }
set_option maxHeartbeats 4000000 in
set_option maxRecDepth 100000 in
theorem c_X5_become (l : Launch) (D : va_G) (k : Nat → ClassId) (xh xrDy xrWo xrRi oh orDy orWo orRi : Nat) (sz : Nat) (xDy : (Nat → Int32)) (xWo : (Nat → Int32)) (xRi : (Nat → Int32)) (xSz : Int32) (oDy : (Nat → Int32)) (oWo : (Nat → Int32)) (oRi : (Nat → Int32)) (oSz : Int32) (n_xDy : (Nat → Int32)) (n_xWo : (Nat → Int32)) (n_xRi : (Nat → Int32)) (n_xSz : Int32) (hf : f_X5_become oDy oWo oRi oSz = some (n_xDy, n_xWo, n_xRi, n_xSz)) : mR l yX5_become wsX5_become rmX5_become D k sz [.ref xh, .ref oh] (wX5 k xh xrDy xrWo xrRi xDy xWo xRi xSz ++ (wX5 k oh orDy orWo orRi oDy oWo oRi oSz)) (wX5 k xh xrDy xrWo xrRi n_xDy n_xWo n_xRi n_xSz ++ (wX5 k oh orDy orWo orRi oDy oWo oRi oSz)) (none) := by
  refine mR_of (cc := cX5_become) (maxL := 2) (ret := none) (by decide) rfl (Nat.le_of_ble_eq_true rfl) [(0, .ref xh), (1, .ref oh)] rfl ?_
  intro p e s m below meth c A ls args Q cx hK hA hw hl hQ
  have fx := cx.1
  obtain ⟨⟨hx, hb, hml, hown, hts⟩, hr, hlocks⟩ := cx
  have hinX5 : ∀ w ∈ wsX50, w ∈ wsX5_become := fun w h => List.mem_cons_of_mem _ (List.mem_append_right _ h)
  have q_1 := hts (.fieldLink RX5 21 "DebtRides$Seen" "size" "I") (List.mem_of_getElem? (i := 1) rfl)
  have q_2 := hts (.fieldLink RX5 9 "DebtRides$Seen" "day" "[I") (List.mem_of_getElem? (i := 2) rfl)
  have q_3 := hts (.methodLink RX5 25 arraycopyName) (List.mem_of_getElem? (i := 3) rfl)
  have q_4 := hts (.native arraycopyName) (List.mem_of_getElem? (i := 4) rfl)
  have q_5 := hts (.static arraycopyName) (List.mem_of_getElem? (i := 5) rfl)
  have q_6 := hts (.initialized "java/lang/System") (List.mem_of_getElem? (i := 6) rfl)
  have q_7 := hts (.fieldLink RX5 15 "DebtRides$Seen" "who" "[I") (List.mem_of_getElem? (i := 7) rfl)
  have q_8 := hts (.fieldLink RX5 18 "DebtRides$Seen" "riding" "[I") (List.mem_of_getElem? (i := 8) rfl)
  have h := hf
  unfold f_X5_become at h
  clear hf
  refine lv_aload_n hx hb dX5_become_0 rfl (lv_at hl 0 rfl) ?_
  refine lv_aload_n hx hb dX5_become_1 rfl (lv_at hl 1 rfl) ?_
  refine va_get (ci := 5) (v := .int oSz) (C := RX5) (T := TX5) (N := 4) hx hb hts hinX5 hown hK.1 hw.1 4 rfl rfl 3 (by decide) q_1 (fun _ h9 => h9) rfl dX5_become_2 ?_
  refine va_put (ci := 5) (v := .int oSz) (ty := tyX5 3) (C := RX5) (T := TX5) (N := 4) hx hb hts hinX5 tyX5 tyX5_ok nmX5 hown hK.1 hw.1 hw.2.1 hw.2.2 0 rfl rfl 3 (by decide) q_1 (fun _ h9 => h9) rfl (tyX5_ok 3 (by decide)) rfl rfl (Nat.le_of_ble_eq_true rfl) dX5_become_5 (fun H locs hP hD hS => ?_)
  have hw : Wd D A s.heap H locs (wX5 k xh xrDy xrWo xrRi xDy xWo xRi oSz ++ (wX5 k oh orDy orWo orRi oDy oWo oRi oSz)) := ⟨hP, hD, hS⟩
  refine lv_aload_n hx hb dX5_become_8 rfl (lv_at hl 1 rfl) ?_
  refine va_get (ci := 5) (v := .ref orDy) (C := RX5) (T := TX5) (N := 4) hx hb hts hinX5 hown hK.1 hw.1 4 rfl rfl 0 (by decide) q_2 (fun _ h9 => h9) rfl dX5_become_9 ?_
  refine lv_iconst (v := 0) hx hb dX5_become_12 (by decide) ?_
  refine lv_aload_n hx hb dX5_become_13 rfl (lv_at hl 0 rfl) ?_
  refine va_get (ci := 5) (v := .ref xrDy) (C := RX5) (T := TX5) (N := 4) hx hb hts hinX5 hown hK.1 hw.1 0 rfl rfl 0 (by decide) q_2 (fun _ h9 => h9) rfl dX5_become_14 ?_
  refine lv_iconst (v := 0) hx hb dX5_become_17 (by decide) ?_
  refine lv_bipush (v := 6) hx hb dX5_become_18 (by decide) ?_
  refine k_copy fx hl.1 q_3 q_4 q_5 q_6 hK hw 5 1 rfl rfl (by decide) (by decide) (by decide) (Nat.le_of_ble_eq_true rfl) dX5_become_20 (fun H locs (hw : Wd D A s.heap H locs (wX5 k xh xrDy xrWo xrRi oDy xWo xRi oSz ++ (wX5 k oh orDy orWo orRi oDy oWo oRi oSz))) => ?_)
  refine lv_aload_n hx hb dX5_become_23 rfl (lv_at hl 1 rfl) ?_
  refine va_get (ci := 5) (v := .ref orWo) (C := RX5) (T := TX5) (N := 4) hx hb hts hinX5 hown hK.1 hw.1 4 rfl rfl 1 (by decide) q_7 (fun _ h9 => h9) rfl dX5_become_24 ?_
  refine lv_iconst (v := 0) hx hb dX5_become_27 (by decide) ?_
  refine lv_aload_n hx hb dX5_become_28 rfl (lv_at hl 0 rfl) ?_
  refine va_get (ci := 5) (v := .ref xrWo) (C := RX5) (T := TX5) (N := 4) hx hb hts hinX5 hown hK.1 hw.1 0 rfl rfl 1 (by decide) q_7 (fun _ h9 => h9) rfl dX5_become_29 ?_
  refine lv_iconst (v := 0) hx hb dX5_become_32 (by decide) ?_
  refine lv_bipush (v := 6) hx hb dX5_become_33 (by decide) ?_
  refine k_copy fx hl.1 q_3 q_4 q_5 q_6 hK hw 6 2 rfl rfl (by decide) (by decide) (by decide) (Nat.le_of_ble_eq_true rfl) dX5_become_35 (fun H locs (hw : Wd D A s.heap H locs (wX5 k xh xrDy xrWo xrRi oDy oWo xRi oSz ++ (wX5 k oh orDy orWo orRi oDy oWo oRi oSz))) => ?_)
  refine lv_aload_n hx hb dX5_become_38 rfl (lv_at hl 1 rfl) ?_
  refine va_get (ci := 5) (v := .ref orRi) (C := RX5) (T := TX5) (N := 4) hx hb hts hinX5 hown hK.1 hw.1 4 rfl rfl 2 (by decide) q_8 (fun _ h9 => h9) rfl dX5_become_39 ?_
  refine lv_iconst (v := 0) hx hb dX5_become_42 (by decide) ?_
  refine lv_aload_n hx hb dX5_become_43 rfl (lv_at hl 0 rfl) ?_
  refine va_get (ci := 5) (v := .ref xrRi) (C := RX5) (T := TX5) (N := 4) hx hb hts hinX5 hown hK.1 hw.1 0 rfl rfl 2 (by decide) q_8 (fun _ h9 => h9) rfl dX5_become_44 ?_
  refine lv_iconst (v := 0) hx hb dX5_become_47 (by decide) ?_
  refine lv_bipush (v := 6) hx hb dX5_become_48 (by decide) ?_
  refine k_copy fx hl.1 q_3 q_4 q_5 q_6 hK hw 7 3 rfl rfl (by decide) (by decide) (by decide) (Nat.le_of_ble_eq_true rfl) dX5_become_50 (fun H locs (hw : Wd D A s.heap H locs (wX5 k xh xrDy xrWo xrRi oDy oWo oRi oSz ++ (wX5 k oh orDy orWo orRi oDy oWo oRi oSz))) => ?_)
  cases h
  exact k_vret hx hb hr hlocks hw dX5_become_53 hQ
abbrev rmX5_lastDay : Room := { frames := 1, cells := 0, slots := 0, locals := 21 }
set_option maxHeartbeats 4000000 in
set_option maxRecDepth 100000 in
theorem c_X5_lastDay (l : Launch) (D : va_G) (k : Nat → ClassId) (xh xrDy xrWo xrRi : Nat) (sz : Nat) (xDy : (Nat → Int32)) (xWo : (Nat → Int32)) (xRi : (Nat → Int32)) (xSz : Int32) (r_ : Int32) (hf : f_X5_lastDay xDy xSz = some r_) : mR l yX5_lastDay wsX5_lastDay rmX5_lastDay D k sz [.ref xh] (wX5 k xh xrDy xrWo xrRi xDy xWo xRi xSz) (wX5 k xh xrDy xrWo xrRi xDy xWo xRi xSz) (some (.int r_)) := by
  refine mR_of (cc := cX5_lastDay) (maxL := 3) (ret := some .int) (by decide) rfl (Nat.le_of_ble_eq_true rfl) [(0, .ref xh)] rfl ?_
  intro p e s m below meth c A ls args Q cx hK hA hw hl hQ
  have fx := cx.1
  obtain ⟨⟨hx, hb, hml, hown, hts⟩, hr, hlocks⟩ := cx
  have hinX5 : ∀ w ∈ wsX50, w ∈ wsX5_lastDay := fun w h => List.mem_cons_of_mem _ (List.mem_append_right _ h)
  have q_1 := hts (.fieldLink RX5 21 "DebtRides$Seen" "size" "I") (List.mem_of_getElem? (i := 1) rfl)
  have q_2 := hts (.fieldLink RX5 9 "DebtRides$Seen" "day" "[I") (List.mem_of_getElem? (i := 2) rfl)
  have q_3 := hts (.methodLink RX5 48 Lib.Math.max.name) (List.mem_of_getElem? (i := 3) rfl)
  have q_4 := hts (.static Lib.Math.max.name) (List.mem_of_getElem? (i := 4) rfl)
  have q_5 := hts (.initialized "java/lang/Math") (List.mem_of_getElem? (i := 5) rfl)
  have q_6 := hts (.code Lib.Math.max.name Lib.Math.max.code 2 (some .int)) (List.mem_of_getElem? (i := 6) rfl)
  have h := hf
  unfold f_X5_lastDay at h
  clear hf
  refine lv_iconst (v := (-1)) hx hb dX5_lastDay_0 (by decide) ?_
  refine lv_istore_n (lv' := [(1, .int (-1)), (0, .ref xh)]) hx hb dX5_lastDay_1 rfl hl (by decide) rfl (fun ls hl => ?_)
  refine lv_iconst (v := 0) hx hb dX5_lastDay_2 (by decide) ?_
  refine lv_istore_n (lv' := [(2, .int 0), (1, .int (-1)), (0, .ref xh)]) hx hb dX5_lastDay_3 rfl hl (by decide) rfl (fun ls hl => ?_)
  obtain ⟨v1_3, hL_4, h⟩ := b1_inv h
  have X_4 : ∀ (H : Heap) (locs : List Loc) (ls : Array Slot), Wd D A s.heap H locs (wX5 k xh xrDy xrWo xrRi xDy xWo xRi xSz) → lv_has ls 3 [(1, .int v1_3)] → W p l e rmX5_lastDay s m args below meth c H locs 0 0 Q (F0 m 29 ls []) := by
    intro H locs ls hw hl
    refine lv_iload_n hx hb dX5_lastDay_29 rfl (lv_at hl 0 rfl) ?_
    cases h
    exact k_iret hx hb hr hlocks hw rfl dX5_lastDay_30 hQ
  clear h
  have LP_4 : ∀ (n : Nat) (v1_1 : Int32) (v2_2 : Int32), f_X5_lastDay_L4 xDy xSz n v1_1 v2_2 = some v1_3 → ∀ (H : Heap) (locs : List Loc) (ls : Array Slot), Wd D A s.heap H locs (wX5 k xh xrDy xrWo xrRi xDy xWo xRi xSz) → lv_has ls 3 [(0, .ref xh), (1, .int v1_1), (2, .int v2_2)] → W p l e rmX5_lastDay s m args below meth c H locs 0 0 Q (F0 m 4 ls []) := by
    clear hL_4 hw hl
    intro n
    induction n with
    | zero => intro v1_1 v2_2 h; rw [f_X5_lastDay_L4] at h; cases h
    | succ n ih =>
      intro v1_1 v2_2 h H locs ls hw hl
      rw [f_X5_lastDay_L4] at h
      refine lv_iload_n hx hb dX5_lastDay_4 rfl (lv_at hl 2 rfl) ?_
      refine lv_aload_n hx hb dX5_lastDay_5 rfl (lv_at hl 0 rfl) ?_
      refine va_get (ci := 5) (v := .int xSz) (C := RX5) (T := TX5) (N := 4) hx hb hts hinX5 hown hK.1 hw.1 0 rfl rfl 3 (by decide) q_1 (fun _ h9 => h9) rfl dX5_lastDay_6 ?_
      refine kb_icmp_ge (tgt := 29) hx hb dX5_lastDay_9 (by decide) h (fun c_9 h => ?_) (fun c_9 h => ?_)
      · cases h
        exact X_4 _ _ _ hw (lv_sub hl [1] rfl)
      · refine lv_iload_n hx hb dX5_lastDay_12 rfl (lv_at hl 1 rfl) ?_
        refine lv_aload_n hx hb dX5_lastDay_13 rfl (lv_at hl 0 rfl) ?_
        refine va_get (ci := 5) (v := .ref xrDy) (C := RX5) (T := TX5) (N := 4) hx hb hts hinX5 hown hK.1 hw.1 0 rfl rfl 0 (by decide) q_2 (fun _ h9 => h9) rfl dX5_lastDay_14 ?_
        refine lv_iload_n hx hb dX5_lastDay_17 rfl (lv_at hl 2 rfl) ?_
        refine k_iald hx hb hK hw 1 rfl dX5_lastDay_18 h (fun a_4 h => ?_)
        refine k_max fx hl.1 q_3 q_4 q_5 q_6 (by decide) (Nat.le_of_ble_eq_true rfl) ⟨by decide, by decide⟩ dX5_lastDay_19 h (fun z_5 h => ?_)
        refine lv_istore_n (lv' := [(1, .int z_5), (0, .ref xh), (2, .int v2_2)]) hx hb dX5_lastDay_22 rfl hl (by decide) rfl (fun ls hl => ?_)
        refine lv_iinc (v := v2_2 + 1) (lv' := [(2, .int (v2_2 + 1)), (1, .int z_5), (0, .ref xh)]) hx hb dX5_lastDay_23 hl (k := 2) rfl rfl (by decide) rfl (fun ls hl => ?_)
        refine lv_goto (tgt := 4) hx hb dX5_lastDay_26 (by decide) ?_
        exact ih _ _ h _ _ _ hw (lv_sub hl [2, 1, 0] rfl)
  exact LP_4 400 (-1) 0 hL_4 _ _ _ hw (lv_sub hl [2, 1, 0] rfl)
abbrev rmX5_fitsOn : Room := { frames := 2, cells := 0, slots := 0, locals := 44 }
set_option maxHeartbeats 4000000 in
set_option maxRecDepth 100000 in
theorem c_X5_fitsOn (l : Launch) (D : va_G) (k : Nat → ClassId) (xh xrDy xrWo xrRi nh nrNa nrMo nrWa nrDe : Nat) (sz : Nat) (xDy : (Nat → Int32)) (xWo : (Nat → Int32)) (xRi : (Nat → Int32)) (xSz : Int32) (nPe : Int32) (nDa : Int32) (nDr : Int32) (nNa : (Nat → Int32)) (nMo : (Nat → Int32)) (nWa : (Nat → Int32)) (nDe : (Nat → Int32)) (p1 : Int32) (r_ : Int32) (hf : f_X5_fitsOn xDy xWo xRi xSz nPe nDe p1 = some r_) : mR l yX5_fitsOn wsX5_fitsOn rmX5_fitsOn D k sz [.ref xh, .int p1, .ref nh] (wX5 k xh xrDy xrWo xrRi xDy xWo xRi xSz ++ (wX1 k nh nrNa nrMo nrWa nrDe nPe nDa nDr nNa nMo nWa nDe)) (wX5 k xh xrDy xrWo xrRi xDy xWo xRi xSz ++ (wX1 k nh nrNa nrMo nrWa nrDe nPe nDa nDr nNa nMo nWa nDe)) (some (.int r_)) := by
  refine mR_of (cc := cX5_fitsOn) (maxL := 4) (ret := some .boolean) (by decide) rfl (Nat.le_of_ble_eq_true rfl) [(0, .ref xh), (1, .int p1), (2, .ref nh)] rfl ?_
  intro p e s m below meth c A ls args Q cx hK hA hw hl hQ
  have fx := cx.1
  obtain ⟨⟨hx, hb, hml, hown, hts⟩, hr, hlocks⟩ := cx
  have hinX5 : ∀ w ∈ wsX50, w ∈ wsX5_fitsOn := fun w h => List.mem_cons_of_mem _ (List.mem_append_left _ (List.mem_append_right _ h))
  have q_1 := hts (.fieldLink RX5 21 "DebtRides$Seen" "size" "I") (List.mem_of_getElem? (i := 1) rfl)
  have q_2 := hts (.fieldLink RX5 9 "DebtRides$Seen" "day" "[I") (List.mem_of_getElem? (i := 2) rfl)
  have q_3 := hts (.fieldLink RX5 15 "DebtRides$Seen" "who" "[I") (List.mem_of_getElem? (i := 3) rfl)
  have q_4 := hts (.fieldLink RX5 18 "DebtRides$Seen" "riding" "[I") (List.mem_of_getElem? (i := 4) rfl)
  have h := hf
  unfold f_X5_fitsOn at h
  clear hf
  refine lv_iconst (v := 0) hx hb dX5_fitsOn_0 (by decide) ?_
  refine lv_istore_n (lv' := [(3, .int 0), (0, .ref xh), (1, .int p1), (2, .ref nh)]) hx hb dX5_fitsOn_1 rfl hl (by decide) rfl (fun ls hl => ?_)
  obtain ⟨ex_2, hL_2, hX_2⟩ := bs1_inv h
  clear h
  have X_2 : ex_2 = Sum.inr () → ∀ (H : Heap) (locs : List Loc) (ls : Array Slot), Wd D A s.heap H locs (wX5 k xh xrDy xrWo xrRi xDy xWo xRi xSz ++ (wX1 k nh nrNa nrMo nrWa nrDe nPe nDa nDr nNa nMo nWa nDe)) → lv_has ls 4 [] → W p l e rmX5_fitsOn s m args below meth c H locs 0 0 Q (F0 m 56 ls []) := by
    intro  hex H locs ls hw hl
    subst hex
    have h := bs1_r hX_2
    refine lv_iconst (v := 1) hx hb dX5_fitsOn_56 (by decide) ?_
    cases h
    exact k_zret hx hb hr hlocks hw (by decide) rfl dX5_fitsOn_57 hQ
  have LP_2 : ∀ (n : Nat) (v3_1 : Int32), f_X5_fitsOn_L2 xDy xWo xRi xSz nPe nDe p1 n v3_1 = some ex_2 → ∀ (H : Heap) (locs : List Loc) (ls : Array Slot), Wd D A s.heap H locs (wX5 k xh xrDy xrWo xrRi xDy xWo xRi xSz ++ (wX1 k nh nrNa nrMo nrWa nrDe nPe nDa nDr nNa nMo nWa nDe)) → lv_has ls 4 [(0, .ref xh), (1, .int p1), (2, .ref nh), (3, .int v3_1)] → W p l e rmX5_fitsOn s m args below meth c H locs 0 0 Q (F0 m 2 ls []) := by
    clear hL_2 hw hl
    intro n
    induction n with
    | zero => intro v3_1 h; rw [f_X5_fitsOn_L2] at h; cases h
    | succ n ih =>
      intro v3_1 h H locs ls hw hl
      rw [f_X5_fitsOn_L2] at h
      refine lv_iload_n hx hb dX5_fitsOn_2 rfl (lv_at hl 3 rfl) ?_
      refine lv_aload_n hx hb dX5_fitsOn_3 rfl (lv_at hl 0 rfl) ?_
      refine va_get (ci := 5) (v := .int xSz) (C := RX5) (T := TX5) (N := 4) hx hb hts hinX5 hown hK.1 hw.1 0 rfl rfl 3 (by decide) q_1 (fun _ h9 => h9) rfl dX5_fitsOn_4 ?_
      refine kb_icmp_ge (tgt := 56) hx hb dX5_fitsOn_7 (by decide) h (fun c_7 h => ?_) (fun c_7 h => ?_)
      · cases h
        exact X_2  rfl _ _ _ hw (lv_sub hl [] rfl)
      · refine lv_aload_n hx hb dX5_fitsOn_10 rfl (lv_at hl 0 rfl) ?_
        refine va_get (ci := 5) (v := .ref xrDy) (C := RX5) (T := TX5) (N := 4) hx hb hts hinX5 hown hK.1 hw.1 0 rfl rfl 0 (by decide) q_2 (fun _ h9 => h9) rfl dX5_fitsOn_11 ?_
        refine lv_iload_n hx hb dX5_fitsOn_14 rfl (lv_at hl 3 rfl) ?_
        refine k_iald hx hb hK hw 1 rfl dX5_fitsOn_15 h (fun a_2 h => ?_)
        refine lv_iload_n hx hb dX5_fitsOn_16 rfl (lv_at hl 1 rfl) ?_
        refine kb_icmp_ne (tgt := 50) hx hb dX5_fitsOn_17 (by decide) h (fun c_17 h => ?_) (fun c_17 h => ?_)
        · refine lv_aload_n hx hb dX5_fitsOn_20 rfl (lv_at hl 2 rfl) ?_
          refine lv_aload_n hx hb dX5_fitsOn_21 rfl (lv_at hl 0 rfl) ?_
          refine va_get (ci := 5) (v := .ref xrWo) (C := RX5) (T := TX5) (N := 4) hx hb hts hinX5 hown hK.1 hw.1 0 rfl rfl 1 (by decide) q_3 (fun _ h9 => h9) rfl dX5_fitsOn_22 ?_
          refine lv_iload_n hx hb dX5_fitsOn_25 rfl (lv_at hl 3 rfl) ?_
          refine k_iald hx hb hK hw 2 rfl dX5_fitsOn_26 h (fun a_3 h => ?_)
          obtain ⟨r_4, hf, h⟩ := b1_inv h
          refine k_callV (host := "") fx hK hA hw (c_X1_isRiding l D k nh nrNa nrMo nrWa nrDe _ nPe nDa nDr nNa nMo nWa nDe a_3 r_4 hf) (cwV 1 hts gX5_fitsOn_X1_isRiding rfl rfl rfl (by decide +kernel) ⟨by decide, by decide⟩) (As := [.int a_3]) (wr := [(xh, .inr (5, [.ref xrDy, .ref xrWo, .ref xrRi, .int xSz])), (xrDy, .inl (k 0, 6, .inl xDy)), (xrWo, .inl (k 0, 6, .inl xWo)), (xrRi, .inl (k 0, 6, .inl xRi))]) (ws' := wX5 k xh xrDy xrWo xrRi xDy xWo xRi xSz ++ (wX1 k nh nrNa nrMo nrWa nrDe nPe nDa nDr nNa nMo nWa nDe)) [4, 5, 6, 7, 8] [0, 1, 2, 3] [0, 1, 2, 3, 4, 5, 6, 7, 8] rfl rfl (by decide) (by decide) (by decide) rfl (by decide) 1 rfl rfl [] rfl hl.1 rfl (Nat.le_of_ble_eq_true rfl) dX5_fitsOn_27 ⟨by decide, by decide⟩ (fun H locs (hw : Wd D A s.heap H locs (wX5 k xh xrDy xrWo xrRi xDy xWo xRi xSz ++ (wX1 k nh nrNa nrMo nrWa nrDe nPe nDa nDr nNa nMo nWa nDe))) => ?_)
          refine W.eq (g2 := F0 m 30 ls ([.int r_4])) rfl ?_
          refine lv_aload_n hx hb dX5_fitsOn_30 rfl (lv_at hl 0 rfl) ?_
          refine va_get (ci := 5) (v := .ref xrRi) (C := RX5) (T := TX5) (N := 4) hx hb hts hinX5 hown hK.1 hw.1 0 rfl rfl 2 (by decide) q_4 (fun _ h9 => h9) rfl dX5_fitsOn_31 ?_
          refine lv_iload_n hx hb dX5_fitsOn_34 rfl (lv_at hl 3 rfl) ?_
          refine k_iald hx hb hK hw 3 rfl dX5_fitsOn_35 h (fun a_5 h => ?_)
          refine lv_iconst (v := 1) hx hb dX5_fitsOn_36 (by decide) ?_
          obtain ⟨t_6, hj_37, h⟩ := b1_inv h
          have J_37 : ∀ (H : Heap) (locs : List Loc) (ls : Array Slot), Wd D A s.heap H locs (wX5 k xh xrDy xrWo xrRi xDy xWo xRi xSz ++ (wX1 k nh nrNa nrMo nrWa nrDe nPe nDa nDr nNa nMo nWa nDe)) → lv_has ls 4 [(0, .ref xh), (1, .int p1), (2, .ref nh), (3, .int v3_1)] → W p l e rmX5_fitsOn s m args below meth c H locs 0 0 Q (F0 m 45 ls [.int t_6, .int r_4]) := by
            intro H locs ls hw hl
            refine kb_icmp_eq (tgt := 50) hx hb dX5_fitsOn_45 (by decide) h (fun c_45 h => ?_) (fun c_45 h => ?_)
            · refine lv_iinc (v := v3_1 + 1) (lv' := [(3, .int (v3_1 + 1)), (0, .ref xh), (1, .int p1), (2, .ref nh)]) hx hb dX5_fitsOn_50 hl (k := 3) rfl rfl (by decide) rfl (fun ls hl => ?_)
              refine lv_goto (tgt := 2) hx hb dX5_fitsOn_53 (by decide) ?_
              exact ih _ h _ _ _ hw (lv_sub hl [1, 2, 3, 0] rfl)
            · refine lv_iconst (v := 0) hx hb dX5_fitsOn_48 (by decide) ?_
              cases h
              have h := bs1_l hX_2
              cases h
              exact k_zret hx hb hr hlocks hw (by decide) rfl dX5_fitsOn_49 hQ
          clear h
          have h := hj_37
          refine kb_icmp_ne (tgt := 44) hx hb dX5_fitsOn_37 (by decide) h (fun c_37 h => ?_) (fun c_37 h => ?_)
          · refine lv_iconst (v := 1) hx hb dX5_fitsOn_40 (by decide) ?_
            refine lv_goto (tgt := 45) hx hb dX5_fitsOn_41 (by decide) ?_
            cases h
            exact J_37 _ _ _ hw (lv_sub hl [0, 1, 2, 3] rfl)
          · refine lv_iconst (v := 0) hx hb dX5_fitsOn_44 (by decide) ?_
            cases h
            exact J_37 _ _ _ hw (lv_sub hl [0, 1, 2, 3] rfl)
        · refine lv_iinc (v := v3_1 + 1) (lv' := [(3, .int (v3_1 + 1)), (0, .ref xh), (1, .int p1), (2, .ref nh)]) hx hb dX5_fitsOn_50 hl (k := 3) rfl rfl (by decide) rfl (fun ls hl => ?_)
          refine lv_goto (tgt := 2) hx hb dX5_fitsOn_53 (by decide) ?_
          exact ih _ h _ _ _ hw (lv_sub hl [1, 2, 3, 0] rfl)
  exact LP_2 400 0 hL_2 _ _ _ hw (lv_sub hl [1, 2, 3, 0] rfl)
abbrev rmX5_fits : Room := { frames := 4, cells := 0, slots := 0, locals := 94 }
set_option maxHeartbeats 4000000 in
set_option maxRecDepth 100000 in
theorem c_X5_fits (l : Launch) (D : va_G) (k : Nat → ClassId) (xh xrDy xrWo xrRi nh nrNa nrMo nrWa nrDe : Nat) (sz : Nat) (xDy : (Nat → Int32)) (xWo : (Nat → Int32)) (xRi : (Nat → Int32)) (xSz : Int32) (nPe : Int32) (nDa : Int32) (nDr : Int32) (nNa : (Nat → Int32)) (nMo : (Nat → Int32)) (nWa : (Nat → Int32)) (nDe : (Nat → Int32)) (r_ : Int32) (n_nDa : Int32) (n_nMo : (Nat → Int32)) (n_nDe : (Nat → Int32)) (hf : f_X5_fits xDy xWo xRi xSz nPe nDa nDr nNa nMo nWa nDe = some (r_, n_nDa, n_nMo, n_nDe)) : mR l yX5_fits wsX5_fits rmX5_fits D k sz [.ref xh, .ref nh] (wX5 k xh xrDy xrWo xrRi xDy xWo xRi xSz ++ (wX1 k nh nrNa nrMo nrWa nrDe nPe nDa nDr nNa nMo nWa nDe)) (wX5 k xh xrDy xrWo xrRi xDy xWo xRi xSz ++ (wX1 k nh nrNa nrMo nrWa nrDe nPe n_nDa nDr nNa n_nMo nWa n_nDe)) (some (.int r_)) := by
  refine mR_of (cc := cX5_fits) (maxL := 4) (ret := some .boolean) (by decide) rfl (Nat.le_of_ble_eq_true rfl) [(0, .ref xh), (1, .ref nh)] rfl ?_
  intro p e s m below meth c A ls args Q cx hK hA hw hl hQ
  have fx := cx.1
  obtain ⟨⟨hx, hb, hml, hown, hts⟩, hr, hlocks⟩ := cx
  have hinX1 : ∀ w ∈ wsX10, w ∈ wsX5_fits := fun w h => List.mem_cons_of_mem _ (List.mem_append_left _ (List.mem_append_right _ h))
  have q_1 := hts (.fieldLink RX5 39 "DebtRides$Land" "dryness" "I") (List.mem_of_getElem? (i := 1) rfl)
  have h := hf
  unfold f_X5_fits at h
  clear hf
  refine lv_aload_n hx hb dX5_fits_0 rfl (lv_at hl 0 rfl) ?_
  obtain ⟨r_1, hf, h⟩ := b1_inv h
  refine k_callV (host := "") fx hK hA hw (c_X5_lastDay l D k xh xrDy xrWo xrRi _ xDy xWo xRi xSz r_1 hf) (cwV 0 hts gX5_fits_X5_lastDay rfl rfl rfl (by decide +kernel) ⟨by decide, by decide⟩) (As := []) (wr := [(nh, .inr (1, [.int nPe, .int nDa, .int nDr, .ref nrNa, .ref nrMo, .ref nrWa, .ref nrDe])), (nrNa, .inl (k 0, 5, .inl nNa)), (nrMo, .inl (k 0, 5, .inl nMo)), (nrWa, .inl (k 0, 5, .inl nWa)), (nrDe, .inl (k 0, 25, .inl nDe))]) (ws' := wX5 k xh xrDy xrWo xrRi xDy xWo xRi xSz ++ (wX1 k nh nrNa nrMo nrWa nrDe nPe nDa nDr nNa nMo nWa nDe)) [0, 1, 2, 3] [4, 5, 6, 7, 8] [5, 6, 7, 8, 0, 1, 2, 3, 4] rfl rfl (by decide) (by decide) (by decide) rfl (by decide) 5 rfl rfl [] rfl hl.1 rfl (Nat.le_of_ble_eq_true rfl) dX5_fits_1 ⟨by decide, by decide⟩ (fun H locs (hw : Wd D A s.heap H locs (wX5 k xh xrDy xrWo xrRi xDy xWo xRi xSz ++ (wX1 k nh nrNa nrMo nrWa nrDe nPe nDa nDr nNa nMo nWa nDe))) => ?_)
  refine W.eq (g2 := F0 m 4 ls ([.int r_1])) rfl ?_
  refine lv_istore_n (lv' := [(2, .int r_1), (0, .ref xh), (1, .ref nh)]) hx hb dX5_fits_4 rfl hl (by decide) rfl (fun ls hl => ?_)
  refine lv_iconst (v := 0) hx hb dX5_fits_5 (by decide) ?_
  refine lv_istore_n (lv' := [(3, .int 0), (2, .int r_1), (0, .ref xh), (1, .ref nh)]) hx hb dX5_fits_6 rfl hl (by decide) rfl (fun ls hl => ?_)
  obtain ⟨ex_7, hL_7, hX_7⟩ := bs3_inv h
  clear h
  have X_7 : ∀ (nDa_6 : Int32) (nMo_7 : (Nat → Int32)) (nDe_8 : (Nat → Int32)), ex_7 = Sum.inr (nDa_6, nMo_7, nDe_8) → ∀ (H : Heap) (locs : List Loc) (ls : Array Slot), Wd D A s.heap H locs (wX5 k xh xrDy xrWo xrRi xDy xWo xRi xSz ++ (wX1 k nh nrNa nrMo nrWa nrDe nPe nDa_6 nDr nNa nMo_7 nWa nDe_8)) → lv_has ls 4 [] → W p l e rmX5_fits s m args below meth c H locs 0 0 Q (F0 m 38 ls []) := by
    intro nDa_6 nMo_7 nDe_8 hex H locs ls hw hl
    subst hex
    have h := bs3_r hX_7
    refine lv_iconst (v := 1) hx hb dX5_fits_38 (by decide) ?_
    cases h
    exact k_zret hx hb hr hlocks hw (by decide) rfl dX5_fits_39 hQ
  have LP_7 : ∀ (n : Nat) (v3_2 : Int32) (nDa_3 : Int32) (nMo_4 : (Nat → Int32)) (nDe_5 : (Nat → Int32)), f_X5_fits_L7 xDy xWo xRi xSz nPe nDr nNa nWa r_1 n v3_2 nDa_3 nMo_4 nDe_5 = some ex_7 → ∀ (H : Heap) (locs : List Loc) (ls : Array Slot), Wd D A s.heap H locs (wX5 k xh xrDy xrWo xrRi xDy xWo xRi xSz ++ (wX1 k nh nrNa nrMo nrWa nrDe nPe nDa_3 nDr nNa nMo_4 nWa nDe_5)) → lv_has ls 4 [(0, .ref xh), (1, .ref nh), (2, .int r_1), (3, .int v3_2)] → W p l e rmX5_fits s m args below meth c H locs 0 0 Q (F0 m 7 ls []) := by
    clear hL_7 hw hl
    intro n
    induction n with
    | zero => intro v3_2 nDa_3 nMo_4 nDe_5 h; rw [f_X5_fits_L7] at h; cases h
    | succ n ih =>
      intro v3_2 nDa_3 nMo_4 nDe_5 h H locs ls hw hl
      rw [f_X5_fits_L7] at h
      refine lv_iload_n hx hb dX5_fits_7 rfl (lv_at hl 3 rfl) ?_
      refine lv_iload_n hx hb dX5_fits_8 rfl (lv_at hl 2 rfl) ?_
      refine kb_icmp_gt (tgt := 38) hx hb dX5_fits_9 (by decide) h (fun c_9 h => ?_) (fun c_9 h => ?_)
      · cases h
        exact X_7 _ _ _ rfl _ _ _ hw (lv_sub hl [] rfl)
      · refine lv_aload_n hx hb dX5_fits_12 rfl (lv_at hl 0 rfl) ?_
        refine lv_iload_n hx hb dX5_fits_13 rfl (lv_at hl 3 rfl) ?_
        refine lv_aload_n hx hb dX5_fits_14 rfl (lv_at hl 1 rfl) ?_
        obtain ⟨r_9, hf, h⟩ := b1_inv h
        refine k_callV (host := "") fx hK hA hw (c_X5_fitsOn l D k xh xrDy xrWo xrRi nh nrNa nrMo nrWa nrDe _ xDy xWo xRi xSz nPe nDa_3 nDr nNa nMo_4 nWa nDe_5 v3_2 r_9 hf) (cwV 2 hts gX5_fits_X5_fitsOn rfl rfl rfl (by decide +kernel) ⟨by decide, by decide⟩) (As := [.int v3_2, .ref nh]) (wr := []) (ws' := wX5 k xh xrDy xrWo xrRi xDy xWo xRi xSz ++ (wX1 k nh nrNa nrMo nrWa nrDe nPe nDa_3 nDr nNa nMo_4 nWa nDe_5)) [0, 1, 2, 3, 4, 5, 6, 7, 8] [] [0, 1, 2, 3, 4, 5, 6, 7, 8] rfl rfl (by decide) (by decide) (by decide) rfl (by decide) 5 rfl rfl [] rfl hl.1 rfl (Nat.le_of_ble_eq_true rfl) dX5_fits_15 ⟨by decide, by decide⟩ (fun H locs (hw : Wd D A s.heap H locs (wX5 k xh xrDy xrWo xrRi xDy xWo xRi xSz ++ (wX1 k nh nrNa nrMo nrWa nrDe nPe nDa_3 nDr nNa nMo_4 nWa nDe_5))) => ?_)
        refine W.eq (g2 := F0 m 18 ls ([.int r_9])) rfl ?_
        refine kb_if_ne (tgt := 23) hx hb dX5_fits_18 (by decide) h (fun c_18 h => ?_) (fun c_18 h => ?_)
        · refine lv_iconst (v := 0) hx hb dX5_fits_21 (by decide) ?_
          cases h
          have h := bs3_l hX_7
          cases h
          exact k_zret hx hb hr hlocks hw (by decide) rfl dX5_fits_22 hQ
        · refine lv_aload_n hx hb dX5_fits_23 rfl (lv_at hl 1 rfl) ?_
          refine lv_aload_n hx hb dX5_fits_24 rfl (lv_at hl 1 rfl) ?_
          refine va_get (ci := 1) (v := .int nDr) (C := RX1) (T := TX1) (N := 7) hx hb hts hinX1 hown hK.1 hw.1 4 rfl rfl 2 (by decide) q_1 (fun _ h9 => h9) rfl dX5_fits_25 ?_
          obtain ⟨r_10, nDa_11, nMo_12, nDe_13, hf, h⟩ := b4_inv h
          refine k_callV (host := "") fx hK hA hw (c_X1_runDay l D k nh nrNa nrMo nrWa nrDe _ nPe nDa_3 nDr nNa nMo_4 nWa nDe_5 nDr r_10 nDa_11 nMo_12 nDe_13 hf) (cwV 1 hts gX5_fits_X1_runDay rfl rfl rfl (by decide +kernel) ⟨by decide, by decide⟩) (As := [.int nDr]) (wr := [(xh, .inr (5, [.ref xrDy, .ref xrWo, .ref xrRi, .int xSz])), (xrDy, .inl (k 0, 6, .inl xDy)), (xrWo, .inl (k 0, 6, .inl xWo)), (xrRi, .inl (k 0, 6, .inl xRi))]) (ws' := wX5 k xh xrDy xrWo xrRi xDy xWo xRi xSz ++ (wX1 k nh nrNa nrMo nrWa nrDe nPe nDa_11 nDr nNa nMo_12 nWa nDe_13)) [4, 5, 6, 7, 8] [0, 1, 2, 3] [0, 1, 2, 3, 4, 5, 6, 7, 8] rfl rfl (by decide) (by decide) (by decide) rfl (by decide) 1 rfl rfl [] rfl hl.1 rfl (Nat.le_of_ble_eq_true rfl) dX5_fits_28 ⟨by decide, by decide⟩ (fun H locs (hw : Wd D A s.heap H locs (wX5 k xh xrDy xrWo xrRi xDy xWo xRi xSz ++ (wX1 k nh nrNa nrMo nrWa nrDe nPe nDa_11 nDr nNa nMo_12 nWa nDe_13))) => ?_)
          refine W.eq (g2 := F0 m 31 ls ([.int r_10])) rfl ?_
          refine lv_pop hx hb dX5_fits_31 rfl ?_
          refine lv_iinc (v := v3_2 + 1) (lv' := [(3, .int (v3_2 + 1)), (0, .ref xh), (1, .ref nh), (2, .int r_1)]) hx hb dX5_fits_32 hl (k := 3) rfl rfl (by decide) rfl (fun ls hl => ?_)
          refine lv_goto (tgt := 7) hx hb dX5_fits_35 (by decide) ?_
          exact ih _ _ _ _ h _ _ _ hw (lv_sub hl [1, 2, 3, 0] rfl)
  exact LP_7 400 0 nDa nMo nDe hL_7 _ _ _ hw (lv_sub hl [2, 3, 1, 0] rfl)
abbrev rmX6_faultOfLaying : Room := { frames := 0, cells := 0, slots := 0, locals := 0 }
set_option maxHeartbeats 4000000 in
set_option maxRecDepth 100000 in
theorem c_X6_faultOfLaying (l : Launch) (D : va_G) (k : Nat → ClassId) (xh xrCe : Nat) (sz : Nat) (xTh : Int32) (xLa : Int32) (xSz : Int32) (xCe : (Nat → Int32)) (p1 : Int32) (r_ : Int32) (hf : f_X6_faultOfLaying xTh xSz p1 = some r_) : mR l yX6_faultOfLaying wsX6_faultOfLaying rmX6_faultOfLaying D k sz [.ref xh, .int p1] (wX6 k xh xrCe xTh xLa xSz xCe) (wX6 k xh xrCe xTh xLa xSz xCe) (some (.int r_)) := by
  refine mR_of (cc := cX6_faultOfLaying) (maxL := 2) (ret := some .int) (by decide) rfl (Nat.le_of_ble_eq_true rfl) [(0, .ref xh), (1, .int p1)] rfl ?_
  intro p e s m below meth c A ls args Q cx hK hA hw hl hQ
  have fx := cx.1
  obtain ⟨⟨hx, hb, hml, hown, hts⟩, hr, hlocks⟩ := cx
  have hinX6 : ∀ w ∈ wsX60, w ∈ wsX6_faultOfLaying := fun w h => List.mem_cons_of_mem _ (List.mem_append_right _ h)
  have q_1 := hts (.fieldLink RX6 15 "DebtRides$Sheet" "there" "Z") (List.mem_of_getElem? (i := 1) rfl)
  have q_2 := hts (.fieldLink RX6 23 "DebtRides$Sheet" "size" "I") (List.mem_of_getElem? (i := 2) rfl)
  have h := hf
  unfold f_X6_faultOfLaying at h
  clear hf
  refine lv_aload_n hx hb dX6_faultOfLaying_0 rfl (lv_at hl 0 rfl) ?_
  refine va_get (ci := 6) (v := .int xTh) (C := RX6) (T := TX6) (N := 4) hx hb hts hinX6 hown hK.1 hw.1 0 rfl rfl 0 (by decide) q_1 (fun _ h9 => h9) rfl dX6_faultOfLaying_1 ?_
  refine kb_if_ne (tgt := 9) hx hb dX6_faultOfLaying_4 (by decide) h (fun c_4 h => ?_) (fun c_4 h => ?_)
  · refine lv_iconst (v := 1) hx hb dX6_faultOfLaying_7 (by decide) ?_
    cases h
    exact k_iret hx hb hr hlocks hw rfl dX6_faultOfLaying_8 hQ
  · refine lv_iload_n hx hb dX6_faultOfLaying_9 rfl (lv_at hl 1 rfl) ?_
    refine kb_if_lt (tgt := 25) hx hb dX6_faultOfLaying_10 (by decide) h (fun c_10 h => ?_) (fun c_10 h => ?_)
    · refine lv_iconst (v := 2) hx hb dX6_faultOfLaying_25 (by decide) ?_
      cases h
      exact k_iret hx hb hr hlocks hw rfl dX6_faultOfLaying_26 hQ
    · refine lv_iload_n hx hb dX6_faultOfLaying_13 rfl (lv_at hl 1 rfl) ?_
      refine lv_aload_n hx hb dX6_faultOfLaying_14 rfl (lv_at hl 0 rfl) ?_
      refine va_get (ci := 6) (v := .int xSz) (C := RX6) (T := TX6) (N := 4) hx hb hts hinX6 hown hK.1 hw.1 0 rfl rfl 2 (by decide) q_2 (fun _ h9 => h9) rfl dX6_faultOfLaying_15 ?_
      refine kb_icmp_ge (tgt := 25) hx hb dX6_faultOfLaying_18 (by decide) h (fun c_18 h => ?_) (fun c_18 h => ?_)
      · refine lv_iconst (v := 2) hx hb dX6_faultOfLaying_25 (by decide) ?_
        cases h
        exact k_iret hx hb hr hlocks hw rfl dX6_faultOfLaying_26 hQ
      · refine lv_iconst (v := 0) hx hb dX6_faultOfLaying_21 (by decide) ?_
        refine lv_goto (tgt := 26) hx hb dX6_faultOfLaying_22 (by decide) ?_
        cases h
        exact k_iret hx hb hr hlocks hw rfl dX6_faultOfLaying_26 hQ
abbrev rmX6_faultOfReading : Room := { frames := 0, cells := 0, slots := 0, locals := 0 }
set_option maxHeartbeats 4000000 in
set_option maxRecDepth 100000 in
theorem c_X6_faultOfReading (l : Launch) (D : va_G) (k : Nat → ClassId) (xh xrCe : Nat) (sz : Nat) (xTh : Int32) (xLa : Int32) (xSz : Int32) (xCe : (Nat → Int32)) (p1 : Int32) (p2 : Int32) (r_ : Int32) (hf : f_X6_faultOfReading xTh xLa xSz p1 p2 = some r_) : mR l yX6_faultOfReading wsX6_faultOfReading rmX6_faultOfReading D k sz [.ref xh, .int p1, .int p2] (wX6 k xh xrCe xTh xLa xSz xCe) (wX6 k xh xrCe xTh xLa xSz xCe) (some (.int r_)) := by
  refine mR_of (cc := cX6_faultOfReading) (maxL := 3) (ret := some .int) (by decide) rfl (Nat.le_of_ble_eq_true rfl) [(0, .ref xh), (1, .int p1), (2, .int p2)] rfl ?_
  intro p e s m below meth c A ls args Q cx hK hA hw hl hQ
  have fx := cx.1
  obtain ⟨⟨hx, hb, hml, hown, hts⟩, hr, hlocks⟩ := cx
  have hinX6 : ∀ w ∈ wsX60, w ∈ wsX6_faultOfReading := fun w h => List.mem_cons_of_mem _ (List.mem_append_right _ h)
  have q_1 := hts (.fieldLink RX6 15 "DebtRides$Sheet" "there" "Z") (List.mem_of_getElem? (i := 1) rfl)
  have q_2 := hts (.fieldLink RX6 19 "DebtRides$Sheet" "laneOf" "I") (List.mem_of_getElem? (i := 2) rfl)
  have q_3 := hts (.fieldLink RX6 23 "DebtRides$Sheet" "size" "I") (List.mem_of_getElem? (i := 3) rfl)
  have h := hf
  unfold f_X6_faultOfReading at h
  clear hf
  refine lv_aload_n hx hb dX6_faultOfReading_0 rfl (lv_at hl 0 rfl) ?_
  refine va_get (ci := 6) (v := .int xTh) (C := RX6) (T := TX6) (N := 4) hx hb hts hinX6 hown hK.1 hw.1 0 rfl rfl 0 (by decide) q_1 (fun _ h9 => h9) rfl dX6_faultOfReading_1 ?_
  refine kb_if_ne (tgt := 9) hx hb dX6_faultOfReading_4 (by decide) h (fun c_4 h => ?_) (fun c_4 h => ?_)
  · refine lv_iconst (v := 1) hx hb dX6_faultOfReading_7 (by decide) ?_
    cases h
    exact k_iret hx hb hr hlocks hw rfl dX6_faultOfReading_8 hQ
  · refine lv_iload_n hx hb dX6_faultOfReading_9 rfl (lv_at hl 1 rfl) ?_
    refine lv_aload_n hx hb dX6_faultOfReading_10 rfl (lv_at hl 0 rfl) ?_
    refine va_get (ci := 6) (v := .int xLa) (C := RX6) (T := TX6) (N := 4) hx hb hts hinX6 hown hK.1 hw.1 0 rfl rfl 1 (by decide) q_2 (fun _ h9 => h9) rfl dX6_faultOfReading_11 ?_
    refine kb_icmp_eq (tgt := 19) hx hb dX6_faultOfReading_14 (by decide) h (fun c_14 h => ?_) (fun c_14 h => ?_)
    · refine lv_iload_n hx hb dX6_faultOfReading_19 rfl (lv_at hl 2 rfl) ?_
      refine kb_if_lt (tgt := 37) hx hb dX6_faultOfReading_20 (by decide) h (fun c_20 h => ?_) (fun c_20 h => ?_)
      · refine lv_iconst (v := 2) hx hb dX6_faultOfReading_37 (by decide) ?_
        cases h
        exact k_iret hx hb hr hlocks hw rfl dX6_faultOfReading_38 hQ
      · refine lv_iload_n hx hb dX6_faultOfReading_23 rfl (lv_at hl 2 rfl) ?_
        refine lv_aload_n hx hb dX6_faultOfReading_24 rfl (lv_at hl 0 rfl) ?_
        refine va_get (ci := 6) (v := .int xSz) (C := RX6) (T := TX6) (N := 4) hx hb hts hinX6 hown hK.1 hw.1 0 rfl rfl 2 (by decide) q_3 (fun _ h9 => h9) rfl dX6_faultOfReading_25 ?_
        refine lv_iconst (v := 3) hx hb dX6_faultOfReading_28 (by decide) ?_
        refine lv_isub hx hb dX6_faultOfReading_29 ?_
        refine kb_icmp_gt (tgt := 37) hx hb dX6_faultOfReading_30 (by decide) h (fun c_30 h => ?_) (fun c_30 h => ?_)
        · refine lv_iconst (v := 2) hx hb dX6_faultOfReading_37 (by decide) ?_
          cases h
          exact k_iret hx hb hr hlocks hw rfl dX6_faultOfReading_38 hQ
        · refine lv_iconst (v := 0) hx hb dX6_faultOfReading_33 (by decide) ?_
          refine lv_goto (tgt := 38) hx hb dX6_faultOfReading_34 (by decide) ?_
          cases h
          exact k_iret hx hb hr hlocks hw rfl dX6_faultOfReading_38 hQ
    · refine lv_iconst (v := 3) hx hb dX6_faultOfReading_17 (by decide) ?_
      cases h
      exact k_iret hx hb hr hlocks hw rfl dX6_faultOfReading_18 hQ
abbrev rmX6_put : Room := { frames := 0, cells := 0, slots := 0, locals := 0 }
set_option maxHeartbeats 4000000 in
set_option maxRecDepth 100000 in
theorem c_X6_put (l : Launch) (D : va_G) (k : Nat → ClassId) (xh xrCe : Nat) (sz : Nat) (xTh : Int32) (xLa : Int32) (xSz : Int32) (xCe : (Nat → Int32)) (p1 : Int32) (p2 : Int32) (n_xCe : (Nat → Int32)) (hf : f_X6_put xLa xCe p1 p2 = some n_xCe) : mR l yX6_put wsX6_put rmX6_put D k sz [.ref xh, .int p1, .int p2] (wX6 k xh xrCe xTh xLa xSz xCe) (wX6 k xh xrCe xTh xLa xSz n_xCe) (none) := by
  refine mR_of (cc := cX6_put) (maxL := 3) (ret := none) (by decide) rfl (Nat.le_of_ble_eq_true rfl) [(0, .ref xh), (1, .int p1), (2, .int p2)] rfl ?_
  intro p e s m below meth c A ls args Q cx hK hA hw hl hQ
  have fx := cx.1
  obtain ⟨⟨hx, hb, hml, hown, hts⟩, hr, hlocks⟩ := cx
  have hinX6 : ∀ w ∈ wsX60, w ∈ wsX6_put := fun w h => List.mem_cons_of_mem _ (List.mem_append_right _ h)
  have q_1 := hts (.fieldLink RX6 19 "DebtRides$Sheet" "laneOf" "I") (List.mem_of_getElem? (i := 1) rfl)
  have q_2 := hts (.fieldLink RX6 9 "DebtRides$Sheet" "cells" "[I") (List.mem_of_getElem? (i := 2) rfl)
  have h := hf
  unfold f_X6_put at h
  clear hf
  refine lv_aload_n hx hb dX6_put_0 rfl (lv_at hl 0 rfl) ?_
  refine va_get (ci := 6) (v := .int xLa) (C := RX6) (T := TX6) (N := 4) hx hb hts hinX6 hown hK.1 hw.1 0 rfl rfl 1 (by decide) q_1 (fun _ h9 => h9) rfl dX6_put_1 ?_
  refine kb_if_ne (tgt := 18) hx hb dX6_put_4 (by decide) h (fun c_4 h => ?_) (fun c_4 h => ?_)
  · refine lv_aload_n hx hb dX6_put_7 rfl (lv_at hl 0 rfl) ?_
    refine va_get (ci := 6) (v := .ref xrCe) (C := RX6) (T := TX6) (N := 4) hx hb hts hinX6 hown hK.1 hw.1 0 rfl rfl 3 (by decide) q_2 (fun _ h9 => h9) rfl dX6_put_8 ?_
    refine lv_iload_n hx hb dX6_put_11 rfl (lv_at hl 1 rfl) ?_
    refine lv_iload_n hx hb dX6_put_12 rfl (lv_at hl 2 rfl) ?_
    refine lv_i2b hx hb dX6_put_13 rfl ?_
    refine k_iast hx hb hK hw 1 rfl dX6_put_14 h (fun xCe_3 h H locs (hw : Wd D A s.heap H locs (wX6 k xh xrCe xTh xLa xSz xCe_3)) => ?_)
    refine lv_goto (tgt := 44) hx hb dX6_put_15 (by decide) ?_
    cases h
    exact k_vret hx hb hr hlocks hw dX6_put_44 hQ
  · refine lv_aload_n hx hb dX6_put_18 rfl (lv_at hl 0 rfl) ?_
    refine va_get (ci := 6) (v := .int xLa) (C := RX6) (T := TX6) (N := 4) hx hb hts hinX6 hown hK.1 hw.1 0 rfl rfl 1 (by decide) q_1 (fun _ h9 => h9) rfl dX6_put_19 ?_
    refine lv_iconst (v := 1) hx hb dX6_put_22 (by decide) ?_
    refine kb_icmp_ne (tgt := 37) hx hb dX6_put_23 (by decide) h (fun c_23 h => ?_) (fun c_23 h => ?_)
    · refine lv_aload_n hx hb dX6_put_26 rfl (lv_at hl 0 rfl) ?_
      refine va_get (ci := 6) (v := .ref xrCe) (C := RX6) (T := TX6) (N := 4) hx hb hts hinX6 hown hK.1 hw.1 0 rfl rfl 3 (by decide) q_2 (fun _ h9 => h9) rfl dX6_put_27 ?_
      refine lv_iload_n hx hb dX6_put_30 rfl (lv_at hl 1 rfl) ?_
      refine lv_iload_n hx hb dX6_put_31 rfl (lv_at hl 2 rfl) ?_
      refine lv_i2s hx hb dX6_put_32 rfl ?_
      refine k_iast hx hb hK hw 1 rfl dX6_put_33 h (fun xCe_2 h H locs (hw : Wd D A s.heap H locs (wX6 k xh xrCe xTh xLa xSz xCe_2)) => ?_)
      refine lv_goto (tgt := 44) hx hb dX6_put_34 (by decide) ?_
      cases h
      exact k_vret hx hb hr hlocks hw dX6_put_44 hQ
    · refine lv_aload_n hx hb dX6_put_37 rfl (lv_at hl 0 rfl) ?_
      refine va_get (ci := 6) (v := .ref xrCe) (C := RX6) (T := TX6) (N := 4) hx hb hts hinX6 hown hK.1 hw.1 0 rfl rfl 3 (by decide) q_2 (fun _ h9 => h9) rfl dX6_put_38 ?_
      refine lv_iload_n hx hb dX6_put_41 rfl (lv_at hl 1 rfl) ?_
      refine lv_iload_n hx hb dX6_put_42 rfl (lv_at hl 2 rfl) ?_
      refine k_iast hx hb hK hw 1 rfl dX6_put_43 h (fun xCe_1 h H locs (hw : Wd D A s.heap H locs (wX6 k xh xrCe xTh xLa xSz xCe_1)) => ?_)
      cases h
      exact k_vret hx hb hr hlocks hw dX6_put_44 hQ
abbrev rmX6_renew : Room := { frames := 1, cells := 0, slots := 0, locals := 23 }
set_option maxHeartbeats 4000000 in
set_option maxRecDepth 100000 in
theorem c_X6_renew (l : Launch) (D : va_G) (k : Nat → ClassId) (xh xrCe : Nat) (sz : Nat) (xTh : Int32) (xLa : Int32) (xSz : Int32) (xCe : (Nat → Int32)) (p1 : Int32) (p2 : Int32) (n_xTh : Int32) (n_xLa : Int32) (n_xSz : Int32) (n_xCe : (Nat → Int32)) (hf : f_X6_renew p1 p2 = some (n_xTh, n_xLa, n_xSz, n_xCe)) : mR l yX6_renew wsX6_renew rmX6_renew D k sz [.ref xh, .int p1, .int p2] (wX6 k xh xrCe xTh xLa xSz xCe) (wX6 k xh xrCe n_xTh n_xLa n_xSz n_xCe) (none) := by
  refine mR_of (cc := cX6_renew) (maxL := 3) (ret := none) (by decide) rfl (Nat.le_of_ble_eq_true rfl) [(0, .ref xh), (1, .int p1), (2, .int p2)] rfl ?_
  intro p e s m below meth c A ls args Q cx hK hA hw hl hQ
  have fx := cx.1
  obtain ⟨⟨hx, hb, hml, hown, hts⟩, hr, hlocks⟩ := cx
  have hinX6 : ∀ w ∈ wsX60, w ∈ wsX6_renew := fun w h => List.mem_cons_of_mem _ (List.mem_append_right _ h)
  have q_1 := hts (.fieldLink RX6 15 "DebtRides$Sheet" "there" "Z") (List.mem_of_getElem? (i := 1) rfl)
  have q_2 := hts (.fieldLink RX6 19 "DebtRides$Sheet" "laneOf" "I") (List.mem_of_getElem? (i := 2) rfl)
  have q_3 := hts (.fieldLink RX6 23 "DebtRides$Sheet" "size" "I") (List.mem_of_getElem? (i := 3) rfl)
  have q_4 := hts (.fieldLink RX6 9 "DebtRides$Sheet" "cells" "[I") (List.mem_of_getElem? (i := 4) rfl)
  have h := hf
  unfold f_X6_renew at h
  clear hf
  refine lv_aload_n hx hb dX6_renew_0 rfl (lv_at hl 0 rfl) ?_
  refine lv_iconst (v := 1) hx hb dX6_renew_1 (by decide) ?_
  refine va_put (ci := 6) (v := .int 1) (ty := tyX6 0) (C := RX6) (T := TX6) (N := 4) hx hb hts hinX6 tyX6 tyX6_ok nmX6 hown hK.1 hw.1 hw.2.1 hw.2.2 0 rfl rfl 0 (by decide) q_1 (fun _ h9 => h9) rfl (tyX6_ok 0 (by decide)) rfl rfl (Nat.le_of_ble_eq_true rfl) dX6_renew_2 (fun H locs hP hD hS => ?_)
  have hw : Wd D A s.heap H locs (wX6 k xh xrCe 1 xLa xSz xCe) := ⟨hP, hD, hS⟩
  refine lv_aload_n hx hb dX6_renew_5 rfl (lv_at hl 0 rfl) ?_
  refine lv_iload_n hx hb dX6_renew_6 rfl (lv_at hl 1 rfl) ?_
  refine va_put (ci := 6) (v := .int p1) (ty := tyX6 1) (C := RX6) (T := TX6) (N := 4) hx hb hts hinX6 tyX6 tyX6_ok nmX6 hown hK.1 hw.1 hw.2.1 hw.2.2 0 rfl rfl 1 (by decide) q_2 (fun _ h9 => h9) rfl (tyX6_ok 1 (by decide)) rfl rfl (Nat.le_of_ble_eq_true rfl) dX6_renew_7 (fun H locs hP hD hS => ?_)
  have hw : Wd D A s.heap H locs (wX6 k xh xrCe 1 p1 xSz xCe) := ⟨hP, hD, hS⟩
  refine lv_aload_n hx hb dX6_renew_10 rfl (lv_at hl 0 rfl) ?_
  refine lv_iload_n hx hb dX6_renew_11 rfl (lv_at hl 2 rfl) ?_
  refine va_put (ci := 6) (v := .int p2) (ty := tyX6 2) (C := RX6) (T := TX6) (N := 4) hx hb hts hinX6 tyX6 tyX6_ok nmX6 hown hK.1 hw.1 hw.2.1 hw.2.2 0 rfl rfl 2 (by decide) q_3 (fun _ h9 => h9) rfl (tyX6_ok 2 (by decide)) rfl rfl (Nat.le_of_ble_eq_true rfl) dX6_renew_12 (fun H locs hP hD hS => ?_)
  have hw : Wd D A s.heap H locs (wX6 k xh xrCe 1 p1 p2 xCe) := ⟨hP, hD, hS⟩
  refine lv_aload_n hx hb dX6_renew_15 rfl (lv_at hl 0 rfl) ?_
  refine va_get (ci := 6) (v := .ref xrCe) (C := RX6) (T := TX6) (N := 4) hx hb hts hinX6 hown hK.1 hw.1 0 rfl rfl 3 (by decide) q_4 (fun _ h9 => h9) rfl dX6_renew_16 ?_
  refine lv_iconst (v := 0) hx hb dX6_renew_19 (by decide) ?_
  refine k_callS (b := 0) (C := "") (host := "") fx hK hA hw (c_J7_fill_53178 (n := 40) l D k xrCe _ xCe 0 (by decide)) (va_cwS 2 hts gX6_renew_J7_fill_53178 rfl rfl rfl (by decide +kernel) ⟨by decide, by decide⟩) (As := [.ref xrCe, .int 0]) (wr := [(xh, .inr (6, [.int 1, .int p1, .int p2, .ref xrCe]))]) (ws' := wX6 k xh xrCe 1 p1 p2 (fun _ => 0)) [1] [0] [0, 1] rfl rfl (by decide) (by decide) (by decide) rfl (by decide) [] rfl hl.1 rfl (Nat.le_of_ble_eq_true rfl) dX6_renew_20 ⟨by decide, by decide⟩ (fun H locs (hw : Wd D A s.heap H locs (wX6 k xh xrCe 1 p1 p2 (fun _ => 0))) => ?_)
  refine W.eq (g2 := F0 m 23 ls ([])) rfl ?_
  cases h
  exact k_vret hx hb hr hlocks hw dX6_renew_23 hQ
