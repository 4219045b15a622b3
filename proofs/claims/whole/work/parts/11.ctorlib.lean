/-- what constructors need besides: rows of references, links among nest mates -/
def NC (U : State) : Prop := (va_AO RX0 U ∧ va_AO RX1 U ∧ va_AO RX6 U) ∧ (va_Nw (.methodLinkNest RX7 9 yX1_init RX7) U ∧ va_Nw (.methodLinkNest RX2 17 yX1_init RX7) U ∧ va_Nw (.methodLinkNest RX7 28 yX4_init RX7) U ∧ va_Nw (.methodLinkNest RX7 35 yX5_init RX7) U ∧ va_Nw (.methodLinkNest RX7 46 yX0_init RX7) U) ∧ va_Nw (.methodLinkNest RX0 9 yX1_init RX7) U ∧ va_Nw (.methodLinkNest RX0 18 yX5_init RX7) U ∧ va_Nw (.methodLinkNest RX7 53 yX6_init RX7) U ∧ va_Nw (.methodLinkNest RX7 56 yX3_init RX7) U ∧ va_Nw (.methodLinkNest RX3 17 yX1_init RX7) U
theorem NC.warm {s U : State} (hW : s.WarmedH U.vm) (h : NC s) : NC U := by
  obtain ⟨⟨a1, a2, a3⟩, ⟨b1, b2, b3, b4, b5⟩, c1, c2, c3, c4, c5⟩ := h
  exact ⟨⟨a1.moved hW.alike, a2.moved hW.alike, a3.moved hW.alike⟩, ⟨va_Nw.warmM hW b1, va_Nw.warmM hW b2, va_Nw.warmM hW b3, va_Nw.warmM hW b4, va_Nw.warmM hW b5⟩, va_Nw.warmM hW c1, va_Nw.warmM hW c2, va_Nw.warmM hW c3, va_Nw.warmM hW c4, va_Nw.warmM hW c5⟩
theorem NC.call {U : State} {g : JFrame} {mk : MethodId} {a : Array Value} (h : NC U) : NC (U.calling g mk a) := by
  obtain ⟨⟨a1, a2, a3⟩, ⟨b1, b2, b3, b4, b5⟩, c1, c2, c3, c4, c5⟩ := h
  have e : U.vm = (U.calling g mk a).vm := rfl
  exact ⟨⟨va_AO.moved (u := U) (Vm.Alike.refl U.vm) a1, va_AO.moved (u := U) (Vm.Alike.refl U.vm) a2, va_AO.moved (u := U) (Vm.Alike.refl U.vm) a3⟩, ⟨va_Nw.same rfl e b1, va_Nw.same rfl e b2, va_Nw.same rfl e b3, va_Nw.same rfl e b4, va_Nw.same rfl e b5⟩, va_Nw.same rfl e c1, va_Nw.same rfl e c2, va_Nw.same rfl e c3, va_Nw.same rfl e c4, va_Nw.same rfl e c5⟩
def PC (D : va_G) (k : Nat → ClassId) (sz : Nat) (av : List Value) (w0 : va_W) : Array Value → State → Prop := va_Pc av (fun U => U.heap.size = sz ∧ va_P D vwCl w0 U.heap ∧ (KK D k U ∧ NC U) ∧ va_D (fun _ => True) w0)
theorem PC.blind {D : va_G} {k : Nat → ClassId} {sz : Nat} {av : List Value} {w0 : va_W} : FrameBlind (PC D k sz av w0) := fun _ _ _ _ q => ⟨q.1, q.2.1, q.2.2.1, ⟨q.2.2.2.1.1.call, q.2.2.2.1.2.call⟩, q.2.2.2.2⟩
def QC (D : va_G) (w1 : (Nat → Nat) → va_W) (A : Nat → Prop) : Array Value → State → Outcome → State → Prop := fun _ st oc t => (∃ ad : Nat → Nat, oc = .returned none ∧ va_P D vwCl (w1 ad) t.heap ∧ va_D A (w1 ad)) ∧ va_F A st t
/-- a constructor's contract: new cells, at addresses that it tells -/
def mC (l : Launch) (y : MethodName) (ws : List Cond) (rm : Room) (D : va_G) (k : Nat → ClassId) (sz : Nat) (av : List Value) (w0 : va_W) (w1 : (Nat → Nat) → va_W) (mc ms : Nat) : Prop :=
  Met l y ws rm (PC D k sz av w0) (QC D w1 (va_A w0 sz)) mc ms (va_A w0 sz)
set_option maxHeartbeats 4000000 in
theorem mC_of {l : Launch} {y : MethodName} {ws ws' : List Cond} {rm : Room} {D : va_G} {k : Nat → ClassId} {sz : Nat} {av : List Value} {w0 : va_W} {w1 : (Nat → Nat) → va_W} {mc ms : Nat} {cc : ByteArray} {maxL : Nat} {ret : Option FieldType}
    (hy : plainName y.cls = true) (hw : ws = Cond.code y cc maxL ret :: ws') (hlen : (lg_sl av).length ≤ maxL) (lv : List (Nat × Value)) (hlv : lv_args 0 av = lv)
    (body : ∀ (p : Program) (e : Env) (s : State) (m : MethodId) (below : List Frame) (meth : Method) (c : Code) (A : Nat → Prop) (ls : Array Slot) (args : Array Value) (Q : State → Prop), CX p s m args meth c cc maxL ws y.cls ret → KK D k s → NC s → meth.name = y.name → (∀ q, s.heap.size ≤ q → A q) → Wd D A s.heap s.heap [] w0 → lv_has ls maxL lv → MQ below (QC D w1 A) args s mc ms A = Q →
      W p l e rm s m args below meth c s.heap [] 0 0 Q (F0 m 0 ls [])) : mC l y ws rm D k sz av w0 w1 mc ms := by
  refine Met.ofW (cc := cc) (maxL := maxL) (ret := ret) hy hw ?_
  intro p e s m args below meth c s₁ B hml hv
  obtain ⟨rfl, hsz, hP, ⟨hK, hN⟩, hD0⟩ := hv
  subst hsz
  have hts := atoms_spec (ws := ws) B.pre
  have hl := lv_entry av (n := maxL) hlen
  rw [lg_entry_eq]
  rw [hlv] at hl
  exact body p e s m below meth c (va_A w0 s.heap.size) _ av.toArray _ ⟨⟨B.exec, B.bytes, hml, findClass_of_methodNamed B.named, hts⟩, B.returns, B.notSynchronized⟩ hK hN (name_of_methodNamed B.named B.method).1 (fun q h => Or.inr h) ⟨hP, hD0.self, va_S.rf⟩ hl rfl
/-- a row of references, its places told one by one -/
def rlo (l : List (Option Nat)) : Nat → Option Nat := fun j => (l[j]?).join
theorem rlo_rl (l : List Nat) : rlo (l.map some) = rl l := by
  funext j
  unfold rlo rl
  rw [List.getElem?_map]
  cases l[j]? <;> rfl
theorem rlo_none (n : Nat) : rlo (List.replicate n none) = fun _ => none := by
  funext j
  unfold rlo
  rw [List.getElem?_replicate]
  split <;> rfl
theorem rlo_set (l : List (Option Nat)) (i v : Nat) (h : i < l.length) : va_up (rlo l) i (some v) = rlo (l.set i (some v)) := by
  funext j
  unfold rlo va_up
  by_cases hj : j = i
  · subst hj
    rw [if_pos rfl, List.getElem?_set_self h]; rfl
  · rw [if_neg hj, List.getElem?_set_ne (Ne.symm hj)]
section KC
variable {p : Program} {l : Launch} {e : Env} {R : Room} {s : State} {m : MethodId} {args : Array Value} {below : List Frame} {meth : Method} {c : Code} {H : Heap} {locs : List Loc} {cells slots : Nat} {Q : State → Prop}
variable {cc : ByteArray} {pc : Nat} {ls : Array Slot} {rest : List Value} {D : va_G} {k : Nat → ClassId} {A : Nat → Prop} {ws : va_W} {nL : Nat} {Ts : List Cond} {own : String}
theorem k_cvret {w1 : (Nat → Nat) → va_W} (ad : Nat → Nat) (hx : p.tables.exec = Jvm.exec) (hb : c.code = cc) (hr : meth.sig.returnType = none) (hlocks : meth.locks = false) (hw : Wd D A s.heap H locs (w1 ad)) (hdg : decode cc pc = .ok (.return_, 1)) (hQ : MQ below (QC D w1 A) args s cells slots A = Q) : W p l e R s m args below meth c H locs cells slots Q (F0 m pc ls []) := by
  subst hQ
  exact W.vret hx hb hr (fun t ht hW => ⟨⟨ad, rfl, by rw [ht]; exact hw.1, hw.2.1⟩, hw.2.2.F ht⟩) hw.2.2.2.2 hdg hlocks
theorem k_newi (hx : p.tables.exec = Jvm.exec) (hb : c.code = cc) {n : Int32} (N : Nat) (harr : (Cond.arrayClass .int).before args s = true) (hK : KK D k s) (hA : ∀ q, s.heap.size ≤ q → A q) (hw : Wd D A s.heap H locs ws) (hn : ¬ n < 0) (hN : n.toNatClampNeg = N) (hbytes : N * componentBytes .int ≤ 536870912) (hcells : cells + 1 ≤ R.cells) (hslots : slots + N ≤ R.slots) (hdg : decode cc pc = .ok (.newarray .int, 2))
    (kk : ∀ (q : Nat) (H1 : Heap), Wd D A s.heap H1 locs (ws ++ [(q, .inl (k 0, N, .inl (fun _ => 0)))]) → W p l e R s m args below meth c H1 locs (cells + 1) (slots + N) Q (F0 m (pc + 2) ls (.ref q :: rest))) : W p l e R s m args below meth c H locs cells slots Q (F0 m pc ls (.int n :: rest)) := by
  refine va_newa (ty := .int) (a0 := (N, .inl (fun _ => 0))) hx hb (atype := .int) harr rfl hK.1 hw.1 hw.2.1 hw.2.2 hA (fun _ => rfl) hn hN hbytes hcells hslots hdg (fun q cA H1 h1 h2 h3 h4 => ?_)
  have e1 : s.vm.findClass ("[" ++ FieldType.int.toString) = some cA := (h1.2 5 (cA, .int) rfl).2
  have e2 : s.vm.findClass ("[" ++ FieldType.int.toString) = some (k 0) := (hK.1.2 0 (k 0, .int) rfl).2
  have e3 : cA = k 0 := Option.some.inj (e1.symm.trans e2)
  subst e3
  exact kk q H1 ⟨h2, h3, h4⟩
theorem k_newz (hx : p.tables.exec = Jvm.exec) (hb : c.code = cc) {n : Int32} (N : Nat) (harr : (Cond.arrayClass .boolean).before args s = true) (hK : KK D k s) (hA : ∀ q, s.heap.size ≤ q → A q) (hw : Wd D A s.heap H locs ws) (hn : ¬ n < 0) (hN : n.toNatClampNeg = N) (hbytes : N * componentBytes .boolean ≤ 536870912) (hcells : cells + 1 ≤ R.cells) (hslots : slots + N ≤ R.slots) (hdg : decode cc pc = .ok (.newarray .boolean, 2))
    (kk : ∀ (q : Nat) (H1 : Heap), Wd D A s.heap H1 locs (ws ++ [(q, .inl (k 1, N, .inl (fun _ => 0)))]) → W p l e R s m args below meth c H1 locs (cells + 1) (slots + N) Q (F0 m (pc + 2) ls (.ref q :: rest))) : W p l e R s m args below meth c H locs cells slots Q (F0 m pc ls (.int n :: rest)) := by
  refine va_newa (ty := .boolean) (a0 := (N, .inl (fun _ => 0))) hx hb (atype := .boolean) harr rfl hK.1 hw.1 hw.2.1 hw.2.2 hA (fun _ => rfl) hn hN hbytes hcells hslots hdg (fun q cA H1 h1 h2 h3 h4 => ?_)
  have e1 : s.vm.findClass ("[" ++ FieldType.boolean.toString) = some cA := (h1.2 5 (cA, .boolean) rfl).2
  have e2 : s.vm.findClass ("[" ++ FieldType.boolean.toString) = some (k 1) := (hK.1.2 1 (k 1, .boolean) rfl).2
  have e3 : cA = k 1 := Option.some.inj (e1.symm.trans e2)
  subst e3
  exact kk q H1 ⟨h2, h3, h4⟩
theorem k_newq (hx : p.tables.exec = Jvm.exec) (hb : c.code = cc) {n : Int32} (N t0 : Nat) {C : String} {index : Nat} (hown : s.vm.findClass own = some m.cls) (hcl : (Cond.classLink own index C).before args s = true) (hAO : va_AO C s) (ht : (ty5 k)[t0]? = some (k t0, .object C)) (hK : KK D k s) (hA : ∀ q, s.heap.size ≤ q → A q) (hw : Wd D A s.heap H locs ws) (hn : ¬ n < 0) (hN : n.toNatClampNeg = N) (hbytes : N * 4 ≤ 536870912) (hcells : cells + 1 ≤ R.cells) (hslots : slots + N ≤ R.slots) (hdg : decode cc pc = .ok (.anewarray index, 3))
    (kk : ∀ (q : Nat) (H1 : Heap), Wd D A s.heap H1 locs (ws ++ [(q, .inl (k t0, N, .inr (.inr (.inr (.inr (rlo (List.replicate N none)))))))]) → W p l e R s m args below meth c H1 locs (cells + 1) (slots + N) Q (F0 m (pc + 3) ls (.ref q :: rest))) : W p l e R s m args below meth c H locs cells slots Q (F0 m pc ls (.int n :: rest)) := by
  refine va_newq hx hb hown hcl hAO hK.1 hw.1 hw.2.1 hw.2.2 hA hn hN hbytes hcells hslots hdg (fun q cA H1 h1 h2 h3 h4 => ?_)
  obtain ⟨kA, comp, -, -, -, e1⟩ := (h1.2 5 (cA, .object C) rfl).2
  obtain ⟨kA', comp', -, -, -, e2⟩ := (hK.1.2 t0 (k t0, .object C) ht).2
  have e3 : cA = k t0 := Option.some.inj (e1.symm.trans e2)
  subst e3
  refine kk q H1 ⟨?_, ?_, h4⟩
  · rw [rlo_none]; exact h2
  · rw [rlo_none]; exact h3
theorem k_astq (hx : p.tables.exec = Jvm.exec) (hb : c.code = cc) (hK : KK D k s) (hw : Wd D A s.heap H locs ws) (q0 t0 qk ci : Nat) {a n v : Nat} {r : vw_C} {vs : List Value} {lr : List (Option Nat)} (ha : ws[q0]? = some (a, .inl (k t0, n, .inr (.inr (.inr (.inr (rlo lr))))))) (ht : (ty5 k)[t0]? = some (k t0, .object r.1)) (hv : ws[qk]? = some (v, .inr (ci, vs))) (hc : vwCl[ci]? = some r) {i : Int32} (j : Nat) (hj : i.toNatClampNeg = j) (hjl : j < lr.length) (hin : vp_in i n) (hdg : decode cc pc = .ok (.aastore, 1))
    (kk : ∀ (H1 : Heap) (locs1 : List Loc), Wd D A s.heap H1 locs1 (ws.set q0 (a, .inl (k t0, n, .inr (.inr (.inr (.inr (rlo (lr.set j (some v))))))))) → W p l e R s m args below meth c H1 locs1 cells slots Q (F0 m (pc + 1) ls rest)) : W p l e R s m args below meth c H locs cells slots Q (F0 m pc ls (.ref v :: .int i :: .ref a :: rest)) := by
  refine va_astq hx hb hK.1 hw.1 hw.2.1 hw.2.2 q0 t0 qk ci ha ht hv hc hin hdg (fun H1 locs1 h1 h2 h3 => kk H1 locs1 ?_)
  rw [hj, rlo_set lr j v hjl] at h1 h2
  exact ⟨h1, h2, h3⟩
theorem k_backC {wc wr : va_W} {w1 ws' : (Nat → Nat) → va_W} {st0 : List Value} {a : Array Value} {mc ms : Nat} (hA : ∀ q, s.heap.size ≤ q → A q) (hw : Wd D A s.heap H locs ws)
    (hr : va_Run p l e R s m args below meth c H locs cells slots mc ms (F0 m pc ls st0) rest (QC D w1 (va_A wc H.size) a) (va_A wc H.size))
    (isC isR perm : List Nat) (hC : isC.map (fun i => ws[i]?) = wc.map some) (hR : isR.map (fun i => ws[i]?) = wr.map some) (hn : va_nd isR = true) (hdis : ∀ i ∈ isR, i ∉ isC) (hp : ∀ ad, perm.map (fun i => (wr ++ w1 ad)[i]?) = (ws' ad).map some) (hpn : va_nd perm = true)
    (kk : ∀ (ad : Nat → Nat) (H1 : Heap) (locs1 : List Loc), Wd D A s.heap H1 locs1 (ws' ad) → W p l e R s m args below meth c H1 locs1 (cells + mc) (slots + ms) Q (F0 m (pc + 3) ls rest)) : W p l e R s m args below meth c H locs cells slots Q (F0 m pc ls st0) := by
  obtain ⟨hP, hD, hS⟩ := hw
  have hF := va_free (wc := wc) hD hS hA isC hC
  intro T hT X
  obtain ⟨v, st₀, t, T', L, h0, X', hL, e1, e2, ⟨⟨ad, hv, hP1, hD1⟩, hz, hk⟩, st⟩ := hr T hT X
  cases hv
  rw [h0] at hz hk
  have hkk : ∀ q : Nat, q < H.size → ¬ va_A wc H.size q → T'.heap[q]? = H[q]? := fun q h1 h2 => by rw [e1]; exact hk q h1 h2
  obtain ⟨jP, jD⟩ := va_join hP hD isC isR hC hR hn hdis hkk hF (by rw [e1]; exact hP1) hD1
  have hP2 : va_P D vwCl (ws' ad) T'.heap := jP.sub perm (by
    have : perm.filterMap (fun i => (wr ++ w1 ad)[i]?) = (perm.map (fun i => (wr ++ w1 ad)[i]?)).filterMap id := by rw [List.filterMap_map]; rfl
    rw [this, hp ad, List.filterMap_map]; simp)
  have hD2 : va_D A (ws' ad) := jD.sub perm hpn (hp ad)
  obtain ⟨t2, a1, b1⟩ := kk ad T'.heap (locs ++ L) ⟨hP2, hD2, Nat.le_trans hS.1 (by rw [e1]; exact hz), fun q h1 h2 => by rw [hkk q (Nat.lt_of_lt_of_le h1 hS.1) (fun z => h2 (hF q z))]; exact hS.2.1 q h1 h2, fun q hq => by
      rcases List.mem_append.mp hq with h | h
      · exact hS.2.2 q h
      · exact hF _ (hL q h)⟩ T' rfl X'
  exact ⟨t2, st t2 a1, b1⟩
theorem k_callIN {index maxL : Nat} {y : MethodName} {bytes : ByteArray} {wsm : List Cond} {rm : Room} {host : String} {b : Nat} {wc wr : va_W} {w1 ws' : (Nat → Nat) → va_W} {mc ms : Nat} (cx : CallFix p m c cc nL s args Ts own) (hK : KK D k s) (hN : NC s) (hA : ∀ q, s.heap.size ≤ q → A q) (hw : Wd D A s.heap H locs ws)
    (hM : mC l y wsm rm D k H.size [.ref b] wc w1 mc ms) (cw : va_CN R s args own index y host bytes maxL none wsm rm mc ms 0 ∧ y.name = "<init>" ∧ (Cond.instanceMethod y).before args s = true)
    (isC isR perm : List Nat) (hC : isC.map (fun i => ws[i]?) = wc.map some) (hR : isR.map (fun i => ws[i]?) = wr.map some) (hnC : va_nd isC = true) (hn : va_nd isR = true) (hdis : ∀ i ∈ isR, i ∉ isC) (hp : ∀ ad, perm.map (fun i => (wr ++ w1 ad)[i]?) = (ws' ad).map some) (hpn : va_nd perm = true)
    (rest : List Value) (hsize : ls.size = nL) (hroom : (rest.map fun v => v.category).sum ≤ 8) (hdg : decode cc pc = .ok (.invokespecial index, 3)) (hcs : cells + mc ≤ R.cells ∧ slots + ms ≤ R.slots)
    (kk : ∀ (ad : Nat → Nat) (H1 : Heap) (locs1 : List Loc), Wd D A s.heap H1 locs1 (ws' ad) → W p l e R s m args below meth c H1 locs1 (cells + mc) (slots + ms) Q (F0 m (pc + 3) ls rest)) : W p l e R s m args below meth c H locs cells slots Q (F0 m pc ls (.ref b :: rest)) := by
  have hPc : va_P D vwCl wc H := hw.1.sub isC (by
    have : isC.filterMap (fun i => ws[i]?) = (isC.map (fun i => ws[i]?)).filterMap id := by rw [List.filterMap_map]; rfl
    rw [this, hC, List.filterMap_map]; simp)
  have hDc : va_D A wc := hw.2.1.sub isC hnC hC
  have hpre : ∀ U : State, U.heap = H → s.WarmedH U.vm → PC D k H.size [.ref b] wc ([.ref b] : List Value).toArray U := fun U hU hW => ⟨rfl, by rw [hU], by rw [hU]; exact hPc, ⟨hK.warm hW, hN.warm hW⟩, hDc.weaken (fun _ _ _ _ => trivial)⟩
  exact k_backC hA hw (va_runIN (As := []) cx hM cw ⟨PC.blind, hpre⟩ rfl rfl hsize rfl (lv_room hroom) hdg hcs) isC isR perm hC hR hn hdis hp hpn kk
theorem k_callI {index maxL : Nat} {y : MethodName} {bytes : ByteArray} {wsm : List Cond} {rm : Room} {b : Nat} {wc wr : va_W} {w1 ws' : (Nat → Nat) → va_W} {mc ms : Nat} (cx : CallFix p m c cc nL s args Ts own) (hK : KK D k s) (hN : NC s) (hA : ∀ q, s.heap.size ≤ q → A q) (hw : Wd D A s.heap H locs ws)
    (hM : mC l y wsm rm D k H.size [.ref b] wc w1 mc ms) (cw : CallB R s args own index y bytes maxL none wsm rm mc ms 0 ∧ y.name = "<init>" ∧ (Cond.instanceMethod y).before args s = true)
    (isC isR perm : List Nat) (hC : isC.map (fun i => ws[i]?) = wc.map some) (hR : isR.map (fun i => ws[i]?) = wr.map some) (hnC : va_nd isC = true) (hn : va_nd isR = true) (hdis : ∀ i ∈ isR, i ∉ isC) (hp : ∀ ad, perm.map (fun i => (wr ++ w1 ad)[i]?) = (ws' ad).map some) (hpn : va_nd perm = true)
    (rest : List Value) (hsize : ls.size = nL) (hroom : (rest.map fun v => v.category).sum ≤ 8) (hdg : decode cc pc = .ok (.invokespecial index, 3)) (hcs : cells + mc ≤ R.cells ∧ slots + ms ≤ R.slots)
    (kk : ∀ (ad : Nat → Nat) (H1 : Heap) (locs1 : List Loc), Wd D A s.heap H1 locs1 (ws' ad) → W p l e R s m args below meth c H1 locs1 (cells + mc) (slots + ms) Q (F0 m (pc + 3) ls rest)) : W p l e R s m args below meth c H locs cells slots Q (F0 m pc ls (.ref b :: rest)) := by
  have hPc : va_P D vwCl wc H := hw.1.sub isC (by
    have : isC.filterMap (fun i => ws[i]?) = (isC.map (fun i => ws[i]?)).filterMap id := by rw [List.filterMap_map]; rfl
    rw [this, hC, List.filterMap_map]; simp)
  have hDc : va_D A wc := hw.2.1.sub isC hnC hC
  have hpre : ∀ U : State, U.heap = H → s.WarmedH U.vm → PC D k H.size [.ref b] wc ([.ref b] : List Value).toArray U := fun U hU hW => ⟨rfl, by rw [hU], by rw [hU]; exact hPc, ⟨hK.warm hW, hN.warm hW⟩, hDc.weaken (fun _ _ _ _ => trivial)⟩
  exact k_backC hA hw (va_runI (As := []) cx hM cw ⟨PC.blind, hpre⟩ rfl rfl hsize rfl (lv_room hroom) hdg hcs) isC isR perm hC hR hn hdis hp hpn kk
end KC
