abbrev LENS : List Nat := [5, 5, 6, 5, 4, 3]
abbrev BYTS : List (List Int32) := [[112, 108, 97, 105, 110], [119, 105, 100, 111, 119], [115, 113, 117, 105, 114, 101], [109, 105, 115, 101, 114], [111, 119, 101, 115], [100, 114, 121]]
/-- the String constants, and what their methods read -/
def SS (aK aV : Nat → Nat) (A : Nat → Prop) (U : State) : Prop := vk_S 6 LENS BYTS aK aV A U U.heap ∧ va_Z "java/lang/String" "COMPACT_STRINGS" "Z" (.int 1) A U U.heap ∧ va_Zq "jdk/internal/util/Preconditions" "SIOOBE_FORMATTER" "Ljava/util/function/BiFunction;" A U U.heap
def SR (aK : Nat → Nat) (U : State) : Prop := vk_R RX3 93 "plain" (aK 0) U ∧ vk_R RX3 95 "widow" (aK 1) U ∧ vk_R RX3 97 "squire" (aK 2) U ∧ vk_R RX3 99 "miser" (aK 3) U ∧ vk_R RX3 76 "owes" (aK 4) U ∧ vk_R RX3 85 "dry" (aK 5) U
def SX (aK aV : Nat → Nat) (A : Nat → Prop) (U : State) : Prop := SS aK aV A U ∧ SR aK U
theorem SX.into {aK aV : Nat → Nat} {A B : Nat → Prop} {s U : State} {H : Heap} {locs : List Loc} (h : SX aK aV A s) (hU : U.heap = H) (hS : va_S A s.heap H locs) (hW : s.WarmedH U.vm) (hAB : ∀ q, B q → A q) : SX aK aV B U := by
  obtain ⟨⟨h1, h2, h3⟩, r0, r1, r2, r3, r4, r5⟩ := h
  subst hU
  exact ⟨⟨((h1.kept hS.2.1).moved hW.alike).narrow hAB, ((h2.kept hS.2.1).moved hW.alike).narrow hAB, ((h3.kept hS.2.1).moved hW.alike).narrow hAB⟩, r0.warm hW, r1.warm hW, r2.warm hW, r3.warm hW, r4.warm hW, r5.warm hW⟩
theorem SX.frame {aK aV : Nat → Nat} {A : Nat → Prop} {U : State} {g : JFrame} {mk : MethodId} {a : Array Value} (h : SX aK aV A U) : SX aK aV A (U.calling g mk a) := by
  obtain ⟨⟨h1, h2, h3⟩, r0, r1, r2, r3, r4, r5⟩ := h
  have e : (U.calling g mk a).vm = U.vm := rfl
  exact ⟨⟨vk_S.moved (u := U) (Vm.Alike.refl U.vm) h1, va_Z.moved (u := U) (Vm.Alike.refl U.vm) h2, va_Zq.moved (u := U) (Vm.Alike.refl U.vm) h3⟩, r0.same e, r1.same e, r2.same e, r3.same e, r4.same e, r5.same e⟩
def PS (aK aV : Nat → Nat) (D : va_G) (k : Nat → ClassId) (sz : Nat) (av : List Value) (w0 : va_W) : Array Value → State → Prop := va_Pc av (fun U => U.heap.size = sz ∧ va_P D vwCl w0 U.heap ∧ KK D k U ∧ va_D (fun _ => True) w0 ∧ SX aK aV (va_A w0 sz) U)
theorem PS.blind {aK aV : Nat → Nat} {D : va_G} {k : Nat → ClassId} {sz : Nat} {av : List Value} {w0 : va_W} : FrameBlind (PS aK aV D k sz av w0) := fun _ _ _ _ q => ⟨q.1, q.2.1, q.2.2.1, q.2.2.2.1.call, q.2.2.2.2.1, q.2.2.2.2.2.frame⟩
def mS (aK aV : Nat → Nat) (l : Launch) (y : MethodName) (ws : List Cond) (rm : Room) (D : va_G) (k : Nat → ClassId) (sz : Nat) (av : List Value) (w0 w1 : va_W) (r0 : Option Value) : Prop :=
  Met l y ws rm (PS aK aV D k sz av w0) (Qw D w1 r0 (va_A w0 sz)) 0 0 (va_A w0 sz)
set_option maxHeartbeats 4000000 in
theorem mS_of {aK aV : Nat → Nat} {l : Launch} {y : MethodName} {ws ws' : List Cond} {rm : Room} {D : va_G} {k : Nat → ClassId} {sz : Nat} {av : List Value} {w0 w1 : va_W} {r0 : Option Value} {cc : ByteArray} {maxL : Nat} {ret : Option FieldType}
    (hy : plainName y.cls = true) (hw : ws = Cond.code y cc maxL ret :: ws') (hlen : (lg_sl av).length ≤ maxL) (lv : List (Nat × Value)) (hlv : lv_args 0 av = lv)
    (body : ∀ (p : Program) (e : Env) (s : State) (m : MethodId) (below : List Frame) (meth : Method) (c : Code) (A : Nat → Prop) (ls : Array Slot) (args : Array Value) (Q : State → Prop), CX p s m args meth c cc maxL ws y.cls ret → KK D k s → (∀ q, s.heap.size ≤ q → A q) → Wd D A s.heap s.heap [] w0 → lv_has ls maxL lv → MQ below (Qw D w1 r0 A) args s 0 0 A = Q → SX aK aV A s →
      W p l e rm s m args below meth c s.heap [] 0 0 Q (F0 m 0 ls [])) : mS aK aV l y ws rm D k sz av w0 w1 r0 := by
  refine Met.ofW (cc := cc) (maxL := maxL) (ret := ret) hy hw ?_
  intro p e s m args below meth c s₁ B hml hv
  obtain ⟨rfl, hsz, hP, hK, hD0, hX⟩ := hv
  subst hsz
  have hts := atoms_spec (ws := ws) B.pre
  have hl := lv_entry av (n := maxL) hlen
  rw [lg_entry_eq]
  rw [hlv] at hl
  exact body p e s m below meth c (va_A w0 s.heap.size) _ av.toArray _ ⟨⟨B.exec, B.bytes, hml, findClass_of_methodNamed B.named, hts⟩, B.returns, B.notSynchronized⟩ hK (fun q h => Or.inr h) ⟨hP, hD0.self, va_S.rf⟩ hl rfl hX
section KS
variable {p : Program} {l : Launch} {e : Env} {R : Room} {s : State} {m : MethodId} {args : Array Value} {below : List Frame} {meth : Method} {c : Code} {H : Heap} {locs : List Loc} {cells slots : Nat} {Q : State → Prop}
variable {cc : ByteArray} {pc : Nat} {ls : Array Slot} {rest : List Value} {D : va_G} {k : Nat → ClassId} {A : Nat → Prop} {ws : va_W} {nL : Nat} {Ts : List Cond} {own : String} {aK aV : Nat → Nat}
theorem k_nret {w1 : va_W} {r0 : Option Value} {v : Int32} {ty : FieldType} (hx : p.tables.exec = Jvm.exec) (hb : c.code = cc) (hr : meth.sig.returnType = some ty) (hlocks : meth.locks = false) (hw : Wd D A s.heap H locs w1) (hn : narrow ty (.int v) = .int v) (hv : some (Value.int v) = r0) (hdg : decode cc pc = .ok (.ireturn, 1)) (hQ : MQ below (Qw D w1 r0 A) args s 0 0 A = Q) : W p l e R s m args below meth c H locs 0 0 Q (F0 m pc ls [.int v]) := by
  subst hv; subst hQ
  exact W.zret hx hb hr hn (fun t ht hW => ⟨⟨rfl, by rw [ht]; exact hw.1, hw.2.1⟩, hw.2.2.F ht⟩) hw.2.2.2.2 hdg hlocks
/-- a call on an object of the world, with the String constants in sight -/
theorem k_callVS {n index maxL : Nat} {y : MethodName} {bytes : ByteArray} {ret : Option FieldType} {wsm : List Cond} {rm : Room} {C : String} {b : Nat} {As st0 : List Value} {wc wr w1 ws' : va_W} {r0 : Option Value} (cx : CallFix p m c cc nL s args Ts own) (hK : KK D k s) (hA : ∀ q, s.heap.size ≤ q → A q) (hX : SX aK aV A s) (hw : Wd D A s.heap H locs ws)
    (hM : mS aK aV l y wsm rm D k H.size (.ref b :: As) wc w1 r0) (cw : CallW R s args own C index y bytes maxL ret wsm rm 0 0 n)
    (isC isR perm : List Nat) (hC : isC.map (fun i => ws[i]?) = wc.map some) (hR : isR.map (fun i => ws[i]?) = wr.map some) (hnC : va_nd isC = true) (hn : va_nd isR = true) (hdis : ∀ i ∈ isR, i ∉ isC) (hp : perm.map (fun i => (wr ++ w1)[i]?) = ws'.map some) (hpn : va_nd perm = true)
    (hrecv : va_P D vwCl wc H → ∃ cell : Cell, H[b]? = some cell ∧ cell.vm.isStatics = false ∧ s.vm.findClass C = some cell.cls)
    (rest : List Value) (hlen : As.length = n) (hsize : ls.size = nL) (hst : st0 = As.reverse ++ .ref b :: rest) (hroom : (rest.map fun v => v.category).sum ≤ 8) (hdg : decode cc pc = .ok (.invokevirtual index, 3)) (hcs : cells ≤ R.cells ∧ slots ≤ R.slots)
    (kk : ∀ (H1 : Heap) (locs1 : List Loc), Wd D A s.heap H1 locs1 ws' → W p l e R s m args below meth c H1 locs1 cells slots Q (F0 m (pc + 3) ls (r0.toList ++ rest))) : W p l e R s m args below meth c H locs cells slots Q (F0 m pc ls st0) := by
  subst hst
  have hPc : va_P D vwCl wc H := hw.1.sub isC (by
    have : isC.filterMap (fun i => ws[i]?) = (isC.map (fun i => ws[i]?)).filterMap id := by rw [List.filterMap_map]; rfl
    rw [this, hC, List.filterMap_map]; simp)
  have hDc : va_D A wc := hw.2.1.sub isC hnC hC
  have hF := va_free (wc := wc) hw.2.1 hw.2.2 hA isC hC
  have hpre : ∀ U : State, U.heap = H → s.WarmedH U.vm → PS aK aV D k H.size (.ref b :: As) wc ((.ref b :: As : List Value)).toArray U := fun U hU hW => ⟨rfl, by rw [hU], by rw [hU]; exact hPc, hK.warm hW, hDc.weaken (fun _ _ _ _ => trivial), hX.into hU hw.2.2 hW hF⟩
  exact k_back hA hw (va_runV cx hM cw ⟨PS.blind, hrecv hPc, hpre⟩ rfl hlen hsize rfl (lv_room hroom) hdg hcs) isC isR perm hC hR hn hdis hp hpn kk
theorem k_callSS {n index maxL : Nat} {y : MethodName} {bytes : ByteArray} {ret : Option FieldType} {wsm : List Cond} {rm : Room} {As st0 : List Value} {wc wr w1 ws' : va_W} {r0 : Option Value} (cx : CallFix p m c cc nL s args Ts own) (hK : KK D k s) (hA : ∀ q, s.heap.size ≤ q → A q) (hX : SX aK aV A s) (hw : Wd D A s.heap H locs ws)
    (hM : mS aK aV l y wsm rm D k H.size As wc w1 r0) (cw : CallB R s args own index y bytes maxL ret wsm rm 0 0 n ∧ (Cond.static y).before args s = true)
    (isC isR perm : List Nat) (hC : isC.map (fun i => ws[i]?) = wc.map some) (hR : isR.map (fun i => ws[i]?) = wr.map some) (hnC : va_nd isC = true) (hn : va_nd isR = true) (hdis : ∀ i ∈ isR, i ∉ isC) (hp : perm.map (fun i => (wr ++ w1)[i]?) = ws'.map some) (hpn : va_nd perm = true)
    (rest : List Value) (hlen : As.length = n) (hsize : ls.size = nL) (hst : st0 = As.reverse ++ rest) (hroom : (rest.map fun v => v.category).sum ≤ 8) (hdg : decode cc pc = .ok (.invokestatic index, 3)) (hcs : cells ≤ R.cells ∧ slots ≤ R.slots)
    (kk : ∀ (H1 : Heap) (locs1 : List Loc), Wd D A s.heap H1 locs1 ws' → W p l e R s m args below meth c H1 locs1 cells slots Q (F0 m (pc + 3) ls (r0.toList ++ rest))) : W p l e R s m args below meth c H locs cells slots Q (F0 m pc ls st0) := by
  subst hst
  have hPc : va_P D vwCl wc H := hw.1.sub isC (by
    have : isC.filterMap (fun i => ws[i]?) = (isC.map (fun i => ws[i]?)).filterMap id := by rw [List.filterMap_map]; rfl
    rw [this, hC, List.filterMap_map]; simp)
  have hDc : va_D A wc := hw.2.1.sub isC hnC hC
  have hF := va_free (wc := wc) hw.2.1 hw.2.2 hA isC hC
  have hpre : ∀ U : State, U.heap = H → s.WarmedH U.vm → PS aK aV D k H.size As wc As.toArray U := fun U hU hW => ⟨rfl, by rw [hU], by rw [hU]; exact hPc, hK.warm hW, hDc.weaken (fun _ _ _ _ => trivial), hX.into hU hw.2.2 hW hF⟩
  exact k_back hA hw (va_runS cx hM cw ⟨PS.blind, hpre⟩ rfl hlen hsize rfl (lv_room hroom) hdg hcs) isC isR perm hC hR hn hdis hp hpn kk
end KS
abbrev rmJ0 : Room := { frames := 0, cells := 0, slots := 0, locals := 0 }
set_option maxHeartbeats 4000000 in
set_option maxRecDepth 100000 in
theorem c_J0_coder (aK aV : Nat → Nat) (i : Nat) (hi : i < 6) (l : Launch) (D : va_G) (k : Nat → ClassId) (sz : Nat) : mS aK aV l yJ0_coder_7d493 wsJ0_coder_7d493 rmJ0 D k sz [.ref (aK i)] [] [] (some (.int 0)) := by
  refine mS_of (cc := cJ0_coder_7d493) (maxL := 1) (ret := some .byte) (by decide) rfl (Nat.le_of_ble_eq_true rfl) [(0, .ref (aK i))] rfl ?_
  intro p e s m below meth c A ls args Q cx hK hA hw hl hQ hX
  obtain ⟨⟨hx, hb, hml, hown, hts⟩, hr, hlocks⟩ := cx
  refine va_gets hx hb hX.1.2.1 hw.2.2 hown (hts (.fieldLink RJ0 38 "java/lang/String" "COMPACT_STRINGS" "Z") (List.mem_of_getElem? (i := 1) rfl)) (fun _ h9 => h9) dJ0_coder_7d493_0 ?_
  refine lv_if_eq (tgt := 13) hx hb dJ0_coder_7d493_3 (by decide) (fun q => absurd q (by decide)) (fun _ => ?_)
  refine lv_aload_n hx hb dJ0_coder_7d493_6 rfl (lv_at hl 0 rfl) ?_
  refine vk_getf hx hb (hX.1.1.1 i hi).2.1 hw.2.2 hown (hts (.fieldLink RJ0 15 "java/lang/String" "coder" "B") (List.mem_of_getElem? (i := 2) rfl)) (fun _ h9 => h9) dJ0_coder_7d493_7 ?_
  refine lv_goto (tgt := 14) hx hb dJ0_coder_7d493_10 (by decide) ?_
  exact k_nret hx hb hr hlocks hw rfl rfl dJ0_coder_7d493_14 hQ
set_option maxHeartbeats 4000000 in
set_option maxRecDepth 100000 in
theorem c_J0_isLatin1 (aK aV : Nat → Nat) (i : Nat) (hi : i < 6) (l : Launch) (D : va_G) (k : Nat → ClassId) (sz : Nat) : mS aK aV l yJ0_isLatin1_aae02 wsJ0_isLatin1_aae02 rmJ0 D k sz [.ref (aK i)] [] [] (some (.int 1)) := by
  refine mS_of (cc := cJ0_isLatin1_aae02) (maxL := 1) (ret := some .boolean) (by decide) rfl (Nat.le_of_ble_eq_true rfl) [(0, .ref (aK i))] rfl ?_
  intro p e s m below meth c A ls args Q cx hK hA hw hl hQ hX
  obtain ⟨⟨hx, hb, hml, hown, hts⟩, hr, hlocks⟩ := cx
  refine va_gets hx hb hX.1.2.1 hw.2.2 hown (hts (.fieldLink RJ0 38 "java/lang/String" "COMPACT_STRINGS" "Z") (List.mem_of_getElem? (i := 1) rfl)) (fun _ h9 => h9) dJ0_isLatin1_aae02_0 ?_
  refine lv_if_eq (tgt := 17) hx hb dJ0_isLatin1_aae02_3 (by decide) (fun q => absurd q (by decide)) (fun _ => ?_)
  refine lv_aload_n hx hb dJ0_isLatin1_aae02_6 rfl (lv_at hl 0 rfl) ?_
  refine vk_getf hx hb (hX.1.1.1 i hi).2.1 hw.2.2 hown (hts (.fieldLink RJ0 15 "java/lang/String" "coder" "B") (List.mem_of_getElem? (i := 2) rfl)) (fun _ h9 => h9) dJ0_isLatin1_aae02_7 ?_
  refine lv_if_ne (tgt := 17) hx hb dJ0_isLatin1_aae02_10 (by decide) (fun q => absurd rfl q) (fun _ => ?_)
  refine lv_iconst (v := 1) hx hb dJ0_isLatin1_aae02_13 (by decide) ?_
  refine lv_goto (tgt := 18) hx hb dJ0_isLatin1_aae02_14 (by decide) ?_
  exact k_nret hx hb hr hlocks hw rfl rfl dJ0_isLatin1_aae02_18 hQ
abbrev rmJ0_length : Room := { frames := 1, cells := 0, slots := 0, locals := 20 }
set_option maxHeartbeats 4000000 in
set_option maxRecDepth 100000 in
theorem c_J0_length (aK aV : Nat → Nat) (i : Nat) (hi : i < 6) (l : Launch) (D : va_G) (k : Nat → ClassId) (sz : Nat) : mS aK aV l yJ0_length_8abf5 wsJ0_length_8abf5 rmJ0_length D k sz [.ref (aK i)] [] [] (some (.int (nI (LENS.getD i 0)))) := by
  refine mS_of (cc := cJ0_length_8abf5) (maxL := 1) (ret := some .int) (by decide) rfl (Nat.le_of_ble_eq_true rfl) [(0, .ref (aK i))] rfl ?_
  intro p e s m below meth c A ls args Q cx hK hA hw hl hQ hX
  have fx := cx.1
  obtain ⟨⟨hx, hb, hml, hown, hts⟩, hr, hlocks⟩ := cx
  refine lv_aload_n hx hb dJ0_length_8abf5_0 rfl (lv_at hl 0 rfl) ?_
  refine vk_getf hx hb (hX.1.1.1 i hi).2.2.1 hw.2.2 hown (hts (.fieldLink RJ0 9 "java/lang/String" "value" "[B") (List.mem_of_getElem? (i := 1) rfl)) (fun _ h9 => h9) dJ0_length_8abf5_1 ?_
  refine va_tlen (v := nI (LENS.getD i 0)) hx hb (hX.1.1.1 i hi).2.2.2 hw.2.2 rfl dJ0_length_8abf5_4 ?_
  refine lv_aload_n hx hb dJ0_length_8abf5_5 rfl (lv_at hl 0 rfl) ?_
  refine k_callVS fx hK hA hX hw (c_J0_coder aK aV i hi l D k _) (cwV 0 hts gJ0_length_8abf5_J0_coder_7d493 rfl rfl rfl (by decide +kernel) ⟨by decide, by decide⟩) (As := []) (wr := []) (ws' := []) [] [] [] rfl rfl (by decide) (by decide) (by decide) rfl (by decide) (fun _ => vk_recv hX.1.1 hi hw.2.2) [.int (nI (LENS.getD i 0))] rfl hl.1 rfl (Nat.le_of_ble_eq_true rfl) dJ0_length_8abf5_6 ⟨by decide, by decide⟩ (fun H locs hw => ?_)
  refine lv_ishr hx hb dJ0_length_8abf5_9 ?_
  refine k_iret hx hb hr hlocks hw ?_ dJ0_length_8abf5_10 hQ
  congr 2
  match i, hi with
  | 0, _ => decide
  | 1, _ => decide
  | 2, _ => decide
  | 3, _ => decide
  | 4, _ => decide
  | 5, _ => decide
set_option maxHeartbeats 4000000 in
set_option maxRecDepth 100000 in
theorem c_J3_checkIndex (aK aV : Nat → Nat) (x n : Int32) (o : Value) (ho : o.category = 1) (h1 : ¬ x < 0) (h2 : x < n) (l : Launch) (D : va_G) (k : Nat → ClassId) (sz : Nat) : mS aK aV l yJ3_checkIndex_8e157 wsJ3_checkIndex_8e157 rmJ0 D k sz [.int x, .int n, o] [] [] (some (.int x)) := by
  refine mS_of (cc := cJ3_checkIndex_8e157) (maxL := 3) (ret := some .int) (by decide) rfl ?_ ((0, .int x) :: (1, .int n) :: lv_args 2 [o]) rfl ?_
  · cases o <;> first | exact Nat.le_of_ble_eq_true rfl | exact absurd ho (by simp [Value.category])
  intro p e s m below meth c A ls args Q cx hK hA hw hl hQ hX
  obtain ⟨⟨hx, hb, hml, hown, hts⟩, hr, hlocks⟩ := cx
  refine lv_iload_n hx hb dJ3_checkIndex_8e157_0 rfl (lv_at hl 0 rfl) ?_
  refine lv_if_lt (tgt := 9) hx hb dJ3_checkIndex_8e157_1 (by decide) (fun q => absurd q h1) (fun _ => ?_)
  refine lv_iload_n hx hb dJ3_checkIndex_8e157_4 rfl (lv_at hl 0 rfl) ?_
  refine lv_iload_n hx hb dJ3_checkIndex_8e157_5 rfl (lv_at hl 1 rfl) ?_
  refine lv_icmp_lt (tgt := 16) hx hb dJ3_checkIndex_8e157_6 (by decide) (fun _ => ?_) (fun q => absurd h2 q)
  refine lv_iload_n hx hb dJ3_checkIndex_8e157_16 rfl (lv_at hl 0 rfl) ?_
  exact k_iret hx hb hr hlocks hw rfl dJ3_checkIndex_8e157_17 hQ
abbrev rmJ0_check : Room := { frames := 1, cells := 0, slots := 0, locals := 22 }
set_option maxHeartbeats 4000000 in
set_option maxRecDepth 100000 in
theorem c_J0_checkIndex (aK aV : Nat → Nat) (x n : Int32) (h1 : ¬ x < 0) (h2 : x < n) (l : Launch) (D : va_G) (k : Nat → ClassId) (sz : Nat) : mS aK aV l yJ0_checkIndex_df160 wsJ0_checkIndex_df160 rmJ0_check D k sz [.int x, .int n] [] [] none := by
  refine mS_of (cc := cJ0_checkIndex_df160) (maxL := 2) (ret := none) (by decide) rfl (Nat.le_of_ble_eq_true rfl) [(0, .int x), (1, .int n)] rfl ?_
  intro p e s m below meth c A ls args Q cx hK hA hw hl hQ hX
  have fx := cx.1
  obtain ⟨⟨hx, hb, hml, hown, hts⟩, hr, hlocks⟩ := cx
  refine lv_iload_n hx hb dJ0_checkIndex_df160_0 rfl (lv_at hl 0 rfl) ?_
  refine lv_iload_n hx hb dJ0_checkIndex_df160_1 rfl (lv_at hl 1 rfl) ?_
  have rest : ∀ o : Value, o.category = 1 → W p l e rmJ0_check s m args below meth c s.heap [] 0 0 Q (F0 m 5 ls [o, .int n, .int x]) := by
    intro o ho
    refine k_callSS fx hK hA hX hw (c_J3_checkIndex aK aV x n o ho h1 h2 l D k _) (va_cwS 3 hts gJ0_checkIndex_df160_J3_checkIndex_8e157 rfl rfl rfl (by decide +kernel) ⟨by decide, by decide⟩) (As := [.int x, .int n, o]) (wr := []) (ws' := []) [] [] [] rfl rfl (by decide) (by decide) (by decide) rfl (by decide) [] rfl hl.1 rfl (Nat.le_of_ble_eq_true rfl) dJ0_checkIndex_df160_5 ⟨by decide, by decide⟩ (fun H locs hw => ?_)
    refine lv_pop hx hb dJ0_checkIndex_df160_8 rfl ?_
    exact k_vret hx hb hr hlocks hw dJ0_checkIndex_df160_9 hQ
  rcases hX.1.2.2 with hZ | ⟨t, hZ⟩
  · exact va_gets hx hb hZ hw.2.2 hown (hts (.fieldLink RJ0 1053 "jdk/internal/util/Preconditions" "SIOOBE_FORMATTER" "Ljava/util/function/BiFunction;") (List.mem_of_getElem? (i := 1) rfl)) (fun _ h9 => h9) dJ0_checkIndex_df160_2 (rest .null rfl)
  · exact va_gets hx hb hZ hw.2.2 hown (hts (.fieldLink RJ0 1053 "jdk/internal/util/Preconditions" "SIOOBE_FORMATTER" "Ljava/util/function/BiFunction;") (List.mem_of_getElem? (i := 1) rfl)) (fun _ h9 => h9) dJ0_checkIndex_df160_2 (rest (.ref t) rfl)
/-- the char at j of the constant i -/
def chS (i j : Nat) : Int32 := (BYTS.getD i []).getD j 0
theorem chS_ok : ∀ i, i < 6 → ∀ j, j < LENS.getD i 0 → narrow .char (.int (chS i j)) = .int (chS i j) ∧ (((chS i j) &&& 255).toUInt32 % 65536).toInt32 = chS i j := by decide +kernel
theorem LENS_lt : ∀ i, i < 6 → LENS.getD i 0 < 7 := by decide +kernel
abbrev rmJ1_charAt : Room := { frames := 2, cells := 0, slots := 0, locals := 43 }
set_option maxHeartbeats 4000000 in
set_option maxRecDepth 100000 in
theorem c_J1_charAt (aK aV : Nat → Nat) (i : Nat) (hi : i < 6) (x : Int32) (hin : vp_in x (LENS.getD i 0)) (l : Launch) (D : va_G) (k : Nat → ClassId) (sz : Nat) : mS aK aV l yJ1_charAt_3b067 wsJ1_charAt_3b067 rmJ1_charAt D k sz [.ref (aV i), .int x] [] [] (some (.int (chS i x.toNatClampNeg))) := by
  refine mS_of (cc := cJ1_charAt_3b067) (maxL := 2) (ret := some .char) (by decide) rfl (Nat.le_of_ble_eq_true rfl) [(0, .ref (aV i)), (1, .int x)] rfl ?_
  intro p e s m below meth c A ls args Q cx hK hA hw hl hQ hX
  have fx := cx.1
  obtain ⟨⟨hx, hb, hml, hown, hts⟩, hr, hlocks⟩ := cx
  have hL := LENS_lt i hi
  obtain ⟨j, hj, rfl⟩ := vp_in_of hin (by omega)
  have hlt : (nI j).toNatClampNeg < LENS.getD i 0 := by rw [nI_clamp (by omega)]; exact hj
  refine lv_iload_n hx hb dJ1_charAt_3b067_0 rfl (lv_at hl 1 rfl) ?_
  refine lv_aload_n hx hb dJ1_charAt_3b067_1 rfl (lv_at hl 0 rfl) ?_
  refine va_tlen (v := nI (LENS.getD i 0)) hx hb (hX.1.1.1 i hi).2.2.2 hw.2.2 rfl dJ1_charAt_3b067_2 ?_
  refine k_callSS fx hK hA hX hw (c_J0_checkIndex aK aV (nI j) (nI (LENS.getD i 0)) (nI_pos (by omega)) (nI_lt hj (by omega)) l D k _) (va_cwS 2 hts gJ1_charAt_3b067_J0_checkIndex_df160 rfl rfl rfl (by decide +kernel) ⟨by decide, by decide⟩) (As := [.int (nI j), .int (nI (LENS.getD i 0))]) (wr := []) (ws' := []) [] [] [] rfl rfl (by decide) (by decide) (by decide) rfl (by decide) [] rfl hl.1 rfl (Nat.le_of_ble_eq_true rfl) dJ1_charAt_3b067_3 ⟨by decide, by decide⟩ (fun H locs hw => ?_)
  refine lv_aload_n hx hb dJ1_charAt_3b067_6 rfl (lv_at hl 0 rfl) ?_
  refine lv_iload_n hx hb dJ1_charAt_3b067_7 rfl (lv_at hl 1 rfl) ?_
  refine va_tb (v := .int (chS i (nI j).toNatClampNeg)) hx hb (hX.1.1.1 i hi).2.2.2 hw.2.2 hin rfl dJ1_charAt_3b067_8 ?_
  refine lv_sipush (v := 255) hx hb dJ1_charAt_3b067_9 (by decide) ?_
  refine lv_iand hx hb dJ1_charAt_3b067_12 ?_
  refine lv_i2c (v := chS i (nI j).toNatClampNeg) hx hb dJ1_charAt_3b067_13 (chS_ok i hi _ hlt).2 ?_
  exact k_nret hx hb hr hlocks hw (chS_ok i hi _ hlt).1 rfl dJ1_charAt_3b067_14 hQ
abbrev rmJ0_charAt : Room := { frames := 3, cells := 0, slots := 0, locals := 64 }
set_option maxHeartbeats 4000000 in
set_option maxRecDepth 100000 in
theorem c_J0_charAt (aK aV : Nat → Nat) (i : Nat) (hi : i < 6) (x : Int32) (hin : vp_in x (LENS.getD i 0)) (l : Launch) (D : va_G) (k : Nat → ClassId) (sz : Nat) : mS aK aV l yJ0_charAt_5068e wsJ0_charAt_5068e rmJ0_charAt D k sz [.ref (aK i), .int x] [] [] (some (.int (chS i x.toNatClampNeg))) := by
  refine mS_of (cc := cJ0_charAt_5068e) (maxL := 2) (ret := some .char) (by decide) rfl (Nat.le_of_ble_eq_true rfl) [(0, .ref (aK i)), (1, .int x)] rfl ?_
  intro p e s m below meth c A ls args Q cx hK hA hw hl hQ hX
  have fx := cx.1
  obtain ⟨⟨hx, hb, hml, hown, hts⟩, hr, hlocks⟩ := cx
  have hL := LENS_lt i hi
  have hlt : x.toNatClampNeg < LENS.getD i 0 := Nat.not_le.mp fun q => hin (Or.inr q)
  refine lv_aload_n hx hb dJ0_charAt_5068e_0 rfl (lv_at hl 0 rfl) ?_
  refine k_callVS fx hK hA hX hw (c_J0_isLatin1 aK aV i hi l D k _) (cwV 0 hts gJ0_charAt_5068e_J0_isLatin1_aae02 rfl rfl rfl (by decide +kernel) ⟨by decide, by decide⟩) (As := []) (wr := []) (ws' := []) [] [] [] rfl rfl (by decide) (by decide) (by decide) rfl (by decide) (fun _ => vk_recv hX.1.1 hi hw.2.2) [] rfl hl.1 rfl (Nat.le_of_ble_eq_true rfl) dJ0_charAt_5068e_1 ⟨by decide, by decide⟩ (fun H locs hw => ?_)
  refine lv_if_eq (tgt := 16) hx hb dJ0_charAt_5068e_4 (by decide) (fun q => absurd q (by decide)) (fun _ => ?_)
  refine lv_aload_n hx hb dJ0_charAt_5068e_7 rfl (lv_at hl 0 rfl) ?_
  refine vk_getf hx hb (hX.1.1.1 i hi).2.2.1 hw.2.2 hown (hts (.fieldLink RJ0 9 "java/lang/String" "value" "[B") (List.mem_of_getElem? (i := 1) rfl)) (fun _ h9 => h9) dJ0_charAt_5068e_8 ?_
  refine lv_iload_n hx hb dJ0_charAt_5068e_11 rfl (lv_at hl 1 rfl) ?_
  refine k_callSS fx hK hA hX hw (c_J1_charAt aK aV i hi x hin l D k _) (va_cwS 2 hts gJ0_charAt_5068e_J1_charAt_3b067 rfl rfl rfl (by decide +kernel) ⟨by decide, by decide⟩) (As := [.ref (aV i), .int x]) (wr := []) (ws' := []) [] [] [] rfl rfl (by decide) (by decide) (by decide) rfl (by decide) [] rfl hl.1 rfl (Nat.le_of_ble_eq_true rfl) dJ0_charAt_5068e_12 ⟨by decide, by decide⟩ (fun H locs hw => ?_)
  exact k_nret hx hb hr hlocks hw (chS_ok i hi _ hlt).1 rfl dJ0_charAt_5068e_15 hQ
def f_X3_isName_0_L28 (xBy : (Nat → Int32)) (xSt : Int32) : Nat → Int32 → Option ((Int32) ⊕ (Unit))
  | 0, _ => none
  | n + 1, v2_1 =>
    if 5 ≤ v2_1 then
      some (Sum.inr ())
    else
      b1 (rd xBy 160 (xSt + v2_1)) fun (a_2 : Int32) =>
      b1 (rd (chS 0) 5 v2_1) fun (c_3 : Int32) =>
      if a_2 = c_3 then
        f_X3_isName_0_L28 xBy xSt n (v2_1 + 1)
      else
        some (Sum.inl 0)
def f_X3_isName_0 (xBy : (Nat → Int32)) (xPl : Int32) (xSo : Int32) (xSt : Int32) : Option (Int32) :=
  if xSo = 1 then
    if (xPl - xSt) = 5 then
      bs1 (f_X3_isName_0_L28 xBy xSt 400 0) fun (_ : Unit) =>
      some 1
    else
      some 0
  else
    some 0
def f_X3_isName_1_L28 (xBy : (Nat → Int32)) (xSt : Int32) : Nat → Int32 → Option ((Int32) ⊕ (Unit))
  | 0, _ => none
  | n + 1, v2_1 =>
    if 5 ≤ v2_1 then
      some (Sum.inr ())
    else
      b1 (rd xBy 160 (xSt + v2_1)) fun (a_2 : Int32) =>
      b1 (rd (chS 1) 5 v2_1) fun (c_3 : Int32) =>
      if a_2 = c_3 then
        f_X3_isName_1_L28 xBy xSt n (v2_1 + 1)
      else
        some (Sum.inl 0)
def f_X3_isName_1 (xBy : (Nat → Int32)) (xPl : Int32) (xSo : Int32) (xSt : Int32) : Option (Int32) :=
  if xSo = 1 then
    if (xPl - xSt) = 5 then
      bs1 (f_X3_isName_1_L28 xBy xSt 400 0) fun (_ : Unit) =>
      some 1
    else
      some 0
  else
    some 0
def f_X3_isName_2_L28 (xBy : (Nat → Int32)) (xSt : Int32) : Nat → Int32 → Option ((Int32) ⊕ (Unit))
  | 0, _ => none
  | n + 1, v2_1 =>
    if 6 ≤ v2_1 then
      some (Sum.inr ())
    else
      b1 (rd xBy 160 (xSt + v2_1)) fun (a_2 : Int32) =>
      b1 (rd (chS 2) 6 v2_1) fun (c_3 : Int32) =>
      if a_2 = c_3 then
        f_X3_isName_2_L28 xBy xSt n (v2_1 + 1)
      else
        some (Sum.inl 0)
def f_X3_isName_2 (xBy : (Nat → Int32)) (xPl : Int32) (xSo : Int32) (xSt : Int32) : Option (Int32) :=
  if xSo = 1 then
    if (xPl - xSt) = 6 then
      bs1 (f_X3_isName_2_L28 xBy xSt 400 0) fun (_ : Unit) =>
      some 1
    else
      some 0
  else
    some 0
def f_X3_isName_3_L28 (xBy : (Nat → Int32)) (xSt : Int32) : Nat → Int32 → Option ((Int32) ⊕ (Unit))
  | 0, _ => none
  | n + 1, v2_1 =>
    if 5 ≤ v2_1 then
      some (Sum.inr ())
    else
      b1 (rd xBy 160 (xSt + v2_1)) fun (a_2 : Int32) =>
      b1 (rd (chS 3) 5 v2_1) fun (c_3 : Int32) =>
      if a_2 = c_3 then
        f_X3_isName_3_L28 xBy xSt n (v2_1 + 1)
      else
        some (Sum.inl 0)
def f_X3_isName_3 (xBy : (Nat → Int32)) (xPl : Int32) (xSo : Int32) (xSt : Int32) : Option (Int32) :=
  if xSo = 1 then
    if (xPl - xSt) = 5 then
      bs1 (f_X3_isName_3_L28 xBy xSt 400 0) fun (_ : Unit) =>
      some 1
    else
      some 0
  else
    some 0
def f_X3_isName_4_L28 (xBy : (Nat → Int32)) (xSt : Int32) : Nat → Int32 → Option ((Int32) ⊕ (Unit))
  | 0, _ => none
  | n + 1, v2_1 =>
    if 4 ≤ v2_1 then
      some (Sum.inr ())
    else
      b1 (rd xBy 160 (xSt + v2_1)) fun (a_2 : Int32) =>
      b1 (rd (chS 4) 4 v2_1) fun (c_3 : Int32) =>
      if a_2 = c_3 then
        f_X3_isName_4_L28 xBy xSt n (v2_1 + 1)
      else
        some (Sum.inl 0)
def f_X3_isName_4 (xBy : (Nat → Int32)) (xPl : Int32) (xSo : Int32) (xSt : Int32) : Option (Int32) :=
  if xSo = 1 then
    if (xPl - xSt) = 4 then
      bs1 (f_X3_isName_4_L28 xBy xSt 400 0) fun (_ : Unit) =>
      some 1
    else
      some 0
  else
    some 0
def f_X3_isName_5_L28 (xBy : (Nat → Int32)) (xSt : Int32) : Nat → Int32 → Option ((Int32) ⊕ (Unit))
  | 0, _ => none
  | n + 1, v2_1 =>
    if 3 ≤ v2_1 then
      some (Sum.inr ())
    else
      b1 (rd xBy 160 (xSt + v2_1)) fun (a_2 : Int32) =>
      b1 (rd (chS 5) 3 v2_1) fun (c_3 : Int32) =>
      if a_2 = c_3 then
        f_X3_isName_5_L28 xBy xSt n (v2_1 + 1)
      else
        some (Sum.inl 0)
def f_X3_isName_5 (xBy : (Nat → Int32)) (xPl : Int32) (xSo : Int32) (xSt : Int32) : Option (Int32) :=
  if xSo = 1 then
    if (xPl - xSt) = 3 then
      bs1 (f_X3_isName_5_L28 xBy xSt 400 0) fun (_ : Unit) =>
      some 1
    else
      some 0
  else
    some 0
def f_X3_natureNamed (xBy : (Nat → Int32)) (xPl : Int32) (xSo : Int32) (xSt : Int32) : Option (Int32) :=
  b1 (f_X3_isName_0 xBy xPl xSo xSt) fun (r_1 : Int32) =>
  if r_1 = 0 then
    b1 (f_X3_isName_1 xBy xPl xSo xSt) fun (r_2 : Int32) =>
    if r_2 = 0 then
      b1 (f_X3_isName_2 xBy xPl xSo xSt) fun (r_3 : Int32) =>
      if r_3 = 0 then
        b1 (f_X3_isName_3 xBy xPl xSo xSt) fun (r_4 : Int32) =>
        if r_4 = 0 then
          some (-1)
        else
          some 3
      else
        some 2
    else
      some 1
  else
    some 0
def f_X3_takeLine (xBy : (Nat → Int32)) (xLe : Int32) (xLi : Int32) (xFf : Int32) (xFp : Int32) (xPl : Int32) (xSo : Int32) (xSt : Int32) (xVa : Int32) (xDt : Int32) (xHo : Int32) (dPe : Int32) (dDr : Int32) (dNa : (Nat → Int32)) (dMo : (Nat → Int32)) (dWa : (Nat → Int32)) (dDe : (Nat → Int32)) : Option (Int32 × Int32 × Int32 × Int32 × Int32 × Int32 × Int32 × Int32 × Int32 × Int32 × Int32 × Int32 × (Nat → Int32) × (Nat → Int32) × (Nat → Int32) × (Nat → Int32)) :=
  b1 (f_X3_natureNamed xBy xPl xSo xSt) fun (r_1 : Int32) =>
  b15 (
    if r_1 < 0 then
      b1 (f_X3_isName_4 xBy xPl xSo xSt) fun (r_17 : Int32) =>
      if r_17 = 0 then
        b1 (f_X3_isName_5 xBy xPl xSo xSt) fun (r_18 : Int32) =>
        if r_18 = 0 then
          b3 (f_X3_fail 2 xSt) fun (r_19 : Int32) (xFf_20 : Int32) (xFp_21 : Int32) =>
          some (r_19, xFf_20, xFp_21, xPl, xSo, xSt, xVa, xDt, xHo, dPe, dDr, dNa, dMo, dWa, dDe)
        else
          b9 (f_X3_takeDry xBy xLe xFf xFp xPl xSo xSt xVa xDt dDr) fun (r_22 : Int32) (xFf_23 : Int32) (xFp_24 : Int32) (xPl_25 : Int32) (xSo_26 : Int32) (xSt_27 : Int32) (xVa_28 : Int32) (xDt_29 : Int32) (dDr_30 : Int32) =>
          some (r_22, xFf_23, xFp_24, xPl_25, xSo_26, xSt_27, xVa_28, xDt_29, xHo, dPe, dDr_30, dNa, dMo, dWa, dDe)
      else
        b9 (f_X3_takeOwes xBy xLe xFf xFp xPl xVa xHo dDe) fun (r_31 : Int32) (xFf_32 : Int32) (xFp_33 : Int32) (xPl_34 : Int32) (xSo_35 : Int32) (xSt_36 : Int32) (xVa_37 : Int32) (xHo_38 : Int32) (dDe_39 : (Nat → Int32)) =>
        some (r_31, xFf_32, xFp_33, xPl_34, xSo_35, xSt_36, xVa_37, xDt, xHo_38, dPe, dDr, dNa, dMo, dWa, dDe_39)
    else
      b11 (f_X3_takePerson xBy xLe xFf xFp xPl xSo xSt xVa dPe dNa dMo dWa r_1) fun (r_40 : Int32) (xFf_41 : Int32) (xFp_42 : Int32) (xPl_43 : Int32) (xSo_44 : Int32) (xSt_45 : Int32) (xVa_46 : Int32) (dPe_47 : Int32) (dNa_48 : (Nat → Int32)) (dMo_49 : (Nat → Int32)) (dWa_50 : (Nat → Int32)) =>
      some (r_40, xFf_41, xFp_42, xPl_43, xSo_44, xSt_45, xVa_46, xDt, xHo, dPe_47, dDr, dNa_48, dMo_49, dWa_50, dDe)) fun (v2_2 : Int32) (xFf_3 : Int32) (xFp_4 : Int32) (xPl_5 : Int32) (xSo_6 : Int32) (xSt_7 : Int32) (xVa_8 : Int32) (xDt_9 : Int32) (xHo_10 : Int32) (dPe_11 : Int32) (dDr_12 : Int32) (dNa_13 : (Nat → Int32)) (dMo_14 : (Nat → Int32)) (dWa_15 : (Nat → Int32)) (dDe_16 : (Nat → Int32)) =>
  if v2_2 = 0 then
    b1 (bz v2_2) fun (z_51 : Int32) =>
    some (z_51, xLi, xFf_3, xFp_4, xPl_5, xSo_6, xSt_7, xVa_8, xDt_9, xHo_10, dPe_11, dDr_12, dNa_13, dMo_14, dWa_15, dDe_16)
  else
    b1 (bz v2_2) fun (z_52 : Int32) =>
    some (z_52, xLi + 1, xFf_3, xFp_4, xPl_5, xSo_6, xSt_7, xVa_8, xDt_9, xHo_10, dPe_11, dDr_12, dNa_13, dMo_14, dWa_15, dDe_16)
def f_X3_takeAll_L44 (xBy : (Nat → Int32)) (xLe : Int32) : Nat → Int32 → Int32 → Int32 → Int32 → Int32 → Int32 → Int32 → Int32 → Int32 → Int32 → Int32 → Int32 → Int32 → (Nat → Int32) → (Nat → Int32) → (Nat → Int32) → (Nat → Int32) → Option (Int32 × Int32 × Int32 × Int32 × Int32 × Int32 × Int32 × Int32 × Int32 × Int32 × Int32 × Int32 × (Nat → Int32) × (Nat → Int32) × (Nat → Int32) × (Nat → Int32))
  | 0, _, _, _, _, _, _, _, _, _, _, _, _, _, _, _, _, _ => none
  | n + 1, v1_11, v2_12, xLi_13, xFf_14, xFp_15, xPl_16, xSo_17, xSt_18, xVa_19, xDt_20, xHo_21, dPe_22, dDr_23, dNa_24, dMo_25, dWa_26, dDe_27 =>
    if xLe ≤ v2_12 then
      some (v1_11, xLi_13, xFf_14, xFp_15, xPl_16, xSo_17, xSt_18, xVa_19, xDt_20, xHo_21, dPe_22, dDr_23, dNa_24, dMo_25, dWa_26, dDe_27)
    else
      if v1_11 = 0 then
        some (v1_11, xLi_13, xFf_14, xFp_15, xPl_16, xSo_17, xSt_18, xVa_19, xDt_20, xHo_21, dPe_22, dDr_23, dNa_24, dMo_25, dWa_26, dDe_27)
      else
        if xSo_17 = 0 then
          some (v1_11, xLi_13, xFf_14, xFp_15, xPl_16, xSo_17, xSt_18, xVa_19, xDt_20, xHo_21, dPe_22, dDr_23, dNa_24, dMo_25, dWa_26, dDe_27)
        else
          b16 (f_X3_takeLine xBy xLe xLi_13 xFf_14 xFp_15 xPl_16 xSo_17 xSt_18 xVa_19 xDt_20 xHo_21 dPe_22 dDr_23 dNa_24 dMo_25 dWa_26 dDe_27) fun (r_44 : Int32) (xLi_45 : Int32) (xFf_46 : Int32) (xFp_47 : Int32) (xPl_48 : Int32) (xSo_49 : Int32) (xSt_50 : Int32) (xVa_51 : Int32) (xDt_52 : Int32) (xHo_53 : Int32) (dPe_54 : Int32) (dDr_55 : Int32) (dNa_56 : (Nat → Int32)) (dMo_57 : (Nat → Int32)) (dWa_58 : (Nat → Int32)) (dDe_59 : (Nat → Int32)) =>
          if r_44 = 0 then
            f_X3_takeAll_L44 xBy xLe n 0 (v2_12 + 1) xLi_45 xFf_46 xFp_47 xPl_48 xSo_49 xSt_50 xVa_51 xDt_52 xHo_53 dPe_54 dDr_55 dNa_56 dMo_57 dWa_58 dDe_59
          else
            b6 (f_X3_next xBy xLe xFf_46 xFp_47 xPl_48) fun (r_60 : Int32) (xFf_61 : Int32) (xFp_62 : Int32) (xPl_63 : Int32) (xSo_64 : Int32) (xSt_65 : Int32) =>
            if r_60 = 0 then
              f_X3_takeAll_L44 xBy xLe n 0 (v2_12 + 1) xLi_45 xFf_61 xFp_62 xPl_63 xSo_64 xSt_65 xVa_51 xDt_52 xHo_53 dPe_54 dDr_55 dNa_56 dMo_57 dWa_58 dDe_59
            else
              f_X3_takeAll_L44 xBy xLe n 1 (v2_12 + 1) xLi_45 xFf_61 xFp_62 xPl_63 xSo_64 xSt_65 xVa_51 xDt_52 xHo_53 dPe_54 dDr_55 dNa_56 dMo_57 dWa_58 dDe_59
def f_X3_takeAll (xBy : (Nat → Int32)) (xLe : Int32) (xVa : Int32) (dNa : (Nat → Int32)) (dMo : (Nat → Int32)) (dWa : (Nat → Int32)) : Option (Int32 × Int32 × Int32 × Int32 × Int32 × Int32 × Int32 × Int32 × Int32 × Int32 × Int32 × Int32 × Int32 × (Nat → Int32) × (Nat → Int32) × (Nat → Int32) × (Nat → Int32)) :=
  b4 (f_X1_empty) fun (dPe_1 : Int32) (dDa_2 : Int32) (dDr_3 : Int32) (dDe_4 : (Nat → Int32)) =>
  b6 (f_X3_next xBy xLe 0 0 0) fun (r_5 : Int32) (xFf_6 : Int32) (xFp_7 : Int32) (xPl_8 : Int32) (xSo_9 : Int32) (xSt_10 : Int32) =>
  b16 (f_X3_takeAll_L44 xBy xLe 400 r_5 0 0 xFf_6 xFp_7 xPl_8 xSo_9 xSt_10 xVa 0 (-1) dPe_1 dDr_3 dNa dMo dWa dDe_4) fun (v1_28 : Int32) (xLi_29 : Int32) (xFf_30 : Int32) (xFp_31 : Int32) (xPl_32 : Int32) (xSo_33 : Int32) (xSt_34 : Int32) (xVa_35 : Int32) (xDt_36 : Int32) (xHo_37 : Int32) (dPe_38 : Int32) (dDr_39 : Int32) (dNa_40 : (Nat → Int32)) (dMo_41 : (Nat → Int32)) (dWa_42 : (Nat → Int32)) (dDe_43 : (Nat → Int32)) =>
  if v1_28 = 0 then
    some (0, xLi_29, xFf_30, xFp_31, xPl_32, xSo_33, xSt_34, xVa_35, xDt_36, xHo_37, dPe_38, dDa_2, dDr_39, dNa_40, dMo_41, dWa_42, dDe_43)
  else
    b3 (f_X3_everyoneIsThere xLe xFf_30 xFp_31 xHo_37 dPe_38) fun (r_66 : Int32) (xFf_67 : Int32) (xFp_68 : Int32) =>
    if r_66 = 0 then
      some (0, xLi_29, xFf_67, xFp_68, xPl_32, xSo_33, xSt_34, xVa_35, xDt_36, xHo_37, dPe_38, dDa_2, dDr_39, dNa_40, dMo_41, dWa_42, dDe_43)
    else
      some (1, xLi_29, xFf_67, xFp_68, xPl_32, xSo_33, xSt_34, xVa_35, xDt_36, xHo_37, dPe_38, dDa_2, dDr_39, dNa_40, dMo_41, dWa_42, dDe_43)
def f_X7_text_L66 : Nat → Int32 → Int32 → Int32 → Option (Int32 × Int32)
  | 0, _, _, _ => none
  | n + 1, v2_25, i0Ke_26, i1Ke_27 =>
    if 2 ≤ v2_25 then
      some (i0Ke_26, i1Ke_27)
    else
      if v2_25 = 0 then
        f_X7_text_L66 n (v2_25 + 1) 0 i1Ke_27
      else
        if v2_25 = 1 then
          f_X7_text_L66 n (v2_25 + 1) i0Ke_26 0
        else
          none
def f_X7_text (lPe : Int32) (lDa : Int32) (lDr : Int32) (lNa : (Nat → Int32)) (lMo : (Nat → Int32)) (lWa : (Nat → Int32)) (lDe : (Nat → Int32)) (rBy : (Nat → Int32)) (rLe : Int32) (rVa : Int32) (dNa : (Nat → Int32)) (dMo : (Nat → Int32)) (dWa : (Nat → Int32)) (sSz : Int32) (i0Ke : Int32) (i1Ke : Int32) : Option (Int32 × Int32 × Int32 × Int32 × Int32 × (Nat → Int32) × (Nat → Int32) × (Nat → Int32) × (Nat → Int32) × Int32 × Int32 × Int32 × Int32 × Int32 × Int32 × Int32 × Int32 × Int32 × Int32 × Int32 × Int32 × Int32 × (Nat → Int32) × (Nat → Int32) × (Nat → Int32) × (Nat → Int32) × Int32 × Int32 × Int32) :=
  b17 (f_X3_takeAll rBy rLe rVa dNa dMo dWa) fun (r_1 : Int32) (rLi_2 : Int32) (rFf_3 : Int32) (rFp_4 : Int32) (rPl_5 : Int32) (rSo_6 : Int32) (rSt_7 : Int32) (rVa_8 : Int32) (rDt_9 : Int32) (rHo_10 : Int32) (dPe_11 : Int32) (dDa_12 : Int32) (dDr_13 : Int32) (dNa_14 : (Nat → Int32)) (dMo_15 : (Nat → Int32)) (dWa_16 : (Nat → Int32)) (dDe_17 : (Nat → Int32)) =>
  if r_1 = 0 then
    some ((-10) - rFp_4, rFf_3, lPe, lDa, lDr, lNa, lMo, lWa, lDe, 0, rLi_2, rFf_3, rFp_4, rPl_5, rSo_6, rSt_7, rVa_8, rDt_9, rHo_10, dPe_11, dDa_12, dDr_13, dNa_14, dMo_15, dWa_16, dDe_17, sSz, i0Ke, i1Ke)
  else
    b7 (f_X1_become dPe_11 dDa_12 dDr_13 dNa_14 dMo_15 dWa_16 dDe_17) fun (lPe_18 : Int32) (lDa_19 : Int32) (lDr_20 : Int32) (lNa_21 : (Nat → Int32)) (lMo_22 : (Nat → Int32)) (lWa_23 : (Nat → Int32)) (lDe_24 : (Nat → Int32)) =>
    b2 (f_X7_text_L66 400 0 i0Ke i1Ke) fun (i0Ke_28 : Int32) (i1Ke_29 : Int32) =>
    some (rLi_2, rFf_3, lPe_18, lDa_19, lDr_20, lNa_21, lMo_22, lWa_23, lDe_24, 0, rLi_2, rFf_3, rFp_4, rPl_5, rSo_6, rSt_7, rVa_8, rDt_9, rHo_10, dPe_11, dDa_12, dDr_13, dNa_14, dMo_15, dWa_16, dDe_17, 0, i0Ke_28, i1Ke_29)
