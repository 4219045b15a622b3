/-! ===== L2: kinds, earns, ask ===== -/
section E13
variable {P : Nat} {st now : Nat → Int32} {Da Dr : Int32} {Na Mo Wa De Dy Wo Ri : Nat → Int32} {Sz : Int32}
def bitsR (f : Nat → Bool) : Nat → Nat → Int32 → Int32
  | 0, _, s => s
  | d + 1, k, s => bitsR f d (k + 1) (if f k then s ||| (1 <<< (nI k &&& 31)) else s)
def cntB (f : Nat → Bool) : Nat → Nat → Int32 → Int32
  | 0, _, s => s
  | d + 1, k, s => cntB f d (k + 1) (if f k then s + 1 else s)
theorem bits10 : ∀ a0 a1 a2 a3 a4 a5 a6 a7 a8 a9 : Bool, (let b := bitsR (fun k => match k with | 0 => a0 | 1 => a1 | 2 => a2 | 3 => a3 | 4 => a4 | 5 => a5 | 6 => a6 | 7 => a7 | 8 => a8 | _ => a9) 10 0 0; decide (f_J6_bitCount_0f7a4 b = some (cntB (fun k => match k with | 0 => a0 | 1 => a1 | 2 => a2 | 3 => a3 | 4 => a4 | 5 => a5 | 6 => a6 | 7 => a7 | 8 => a8 | _ => a9) 10 0 0)) && (List.range 10).all fun e => decide ((b >>> (nI e &&& 31)) &&& 1 = 1) == (match e with | 0 => a0 | 1 => a1 | 2 => a2 | 3 => a3 | 4 => a4 | 5 => a5 | 6 => a6 | 7 => a7 | 8 => a8 | _ => a9)) = true := by decide +kernel
theorem bitsR_congr {f g : Nat → Bool} : ∀ (d k : Nat) (s : Int32), (∀ j, k ≤ j → j < k + d → f j = g j) → bitsR f d k s = bitsR g d k s := by
  intro d
  induction d with
  | zero => intros; rfl
  | succ d ih =>
    intro k s h
    rw [bitsR, bitsR, h k (by omega) (by omega)]
    exact ih _ _ (fun j a b => h j (by omega) (by omega))
theorem cntB_congr {f g : Nat → Bool} : ∀ (d k : Nat) (s : Int32), (∀ j, k ≤ j → j < k + d → f j = g j) → cntB f d k s = cntB g d k s := by
  intro d
  induction d with
  | zero => intros; rfl
  | succ d ih =>
    intro k s h
    rw [cntB, cntB, h k (by omega) (by omega)]
    exact ih _ _ (fun j a b => h j (by omega) (by omega))
theorem bits_all (f : Nat → Bool) : f_J6_bitCount_0f7a4 (bitsR f 10 0 0) = some (cntB f 10 0 0) ∧ ∀ e, e < 10 → ((bitsR f 10 0 0 >>> (nI e &&& 31)) &&& 1 = 1 ↔ f e = true) := by
  have h := bits10 (f 0) (f 1) (f 2) (f 3) (f 4) (f 5) (f 6) (f 7) (f 8) (f 9)
  have key : ∀ j, j < 10 → (fun k => match k with | 0 => f 0 | 1 => f 1 | 2 => f 2 | 3 => f 3 | 4 => f 4 | 5 => f 5 | 6 => f 6 | 7 => f 7 | 8 => f 8 | _ => f 9 : Nat → Bool) j = f j := by
    intro j hj
    match j, hj with
    | 0, _ => rfl
    | 1, _ => rfl
    | 2, _ => rfl
    | 3, _ => rfl
    | 4, _ => rfl
    | 5, _ => rfl
    | 6, _ => rfl
    | 7, _ => rfl
    | 8, _ => rfl
    | 9, _ => rfl
  have e1 := bitsR_congr (f := (fun k => match k with | 0 => f 0 | 1 => f 1 | 2 => f 2 | 3 => f 3 | 4 => f 4 | 5 => f 5 | 6 => f 6 | 7 => f 7 | 8 => f 8 | _ => f 9 : Nat → Bool)) (g := f) 10 0 0 (fun j _ hj => key j (by omega))
  have e2 := cntB_congr (f := (fun k => match k with | 0 => f 0 | 1 => f 1 | 2 => f 2 | 3 => f 3 | 4 => f 4 | 5 => f 5 | 6 => f 6 | 7 => f 7 | 8 => f 8 | _ => f 9 : Nat → Bool)) (g := f) 10 0 0 (fun j _ hj => key j (by omega))
  rw [e1, e2] at h
  simp only [Bool.and_eq_true, decide_eq_true_eq, List.all_eq_true, List.mem_range] at h
  refine ⟨h.1, fun e he => ?_⟩
  have h2 := h.2 e he
  have k2 := key e he
  simp only at k2
  rw [k2] at h2
  rw [beq_iff_eq] at h2
  rw [← h2, decide_eq_true_eq]
theorem flag_bI (b : Bool) : f_X8_flag (bI b) = some (bI b) := by cases b <;> rfl
theorem M_which_L {what : Int32} {p H : Nat} (hH : H ≤ 9) (f : Nat → Bool) (hf : ∀ v, v ≤ H → ∀ (now rode : Nat → Int32) (paid : Int32), ∃ now' paid' rode', f_X8_isSoWith st now (nI P) paid rode (nI p) what (nI v) = some (bI (f v), now', paid', rode')) : ∀ (d k : Nat) (s : Int32) (now rode : Nat → Int32) (paid : Int32) (n : Nat), k + d = H + 1 → d < n → ∃ now' paid' rode', f_X8_which_L6 st (nI P) (nI p) what (nI H) n s (nI k) now paid rode = some (bitsR f d k s, now', paid', rode') := by
  intro d
  induction d with
  | zero =>
    intro k s now rode paid n hk hn
    obtain ⟨n, rfl⟩ : ∃ m, n = m + 1 := ⟨n - 1, by omega⟩
    rw [f_X8_which_L6, if_pos (nI_lt (by omega) (by omega))]
    exact ⟨_, _, _, rfl⟩
  | succ d ih =>
    intro k s now rode paid n hk hn
    obtain ⟨n, rfl⟩ : ∃ m, n = m + 1 := ⟨n - 1, by omega⟩
    obtain ⟨n1, q1, r1, e1⟩ := hf k (by omega) now rode paid
    rw [f_X8_which_L6, if_neg (nI_nlt (by omega) (by omega)), e1, b4_some, flag_bI, b1_some, nI_1, bitsR]
    cases hfk : f k with
    | true => exact ih (k + 1) _ _ _ _ n (by omega) (by omega)
    | false =>
      have z : s ||| (bI false <<< (nI k &&& 31)) = s := by
        show s ||| ((0 : Int32) <<< (nI k &&& 31)) = s
        rw [shl0, Int32.or_zero]
      rw [z]
      exact ih (k + 1) _ _ _ _ n (by omega) (by omega)
/-- whether kind k, or wage k, of p fits with what was seen -/
def fK (P : Nat) (Dr : Int32) (Na Mo Wa De Dy Wo Ri : Nat → Int32) (p s : Nat) (k : Nat) : Bool := fitB (dD P (upd Na p (nI k)) Wa Dr Mo De) P Dy Wo Ri s
def fW (P : Nat) (Dr : Int32) (Na Mo Wa De Dy Wo Ri : Nat → Int32) (p s : Nat) (k : Nat) : Bool := fitB (dD P Na (upd Wa p (nI k)) Dr Mo De) P Dy Wo Ri s
theorem bI_if {b : Bool} {α : Type} {x y : α} : (if bI b = 0 then x else y) = if b then y else x := by cases b <;> rfl
theorem X_kinds_L {p s : Nat} (hp : p < 5) (hP : P ≤ 5) (h : SN P st Dy Wo Ri (nI s)) (hs : s ≤ 6) : ∀ (d k : Nat) (b : Int32) (t1 t2 t3 : Int32) (t4 t5 t6 t7 : Nat → Int32) (n : Nat), k + d = 4 → d < n → ∃ u1 u2 u3 u4 u5 u6 u7, f_X7_kinds_L17 (nI P) Da Dr Na Mo Wa De Dy Wo Ri (nI s) (nI p) n b (nI k) t1 t2 t3 t4 t5 t6 t7 = some (bitsR (fK P Dr Na Mo Wa De Dy Wo Ri p s) d k b, u1, u2, u3, u4, u5, u6, u7) := by
  intro d
  induction d with
  | zero =>
    intro k b t1 t2 t3 t4 t5 t6 t7 n hk hn
    obtain ⟨n, rfl⟩ : ∃ m, n = m + 1 := ⟨n - 1, by omega⟩
    rw [f_X7_kinds_L17, if_pos (show (4 : Int32) ≤ nI k from nI_le (a := 4) (by omega) (by omega))]
    exact ⟨_, _, _, _, _, _, _, rfl⟩
  | succ d ih =>
    intro k b t1 t2 t3 t4 t5 t6 t7 n hk hn
    obtain ⟨n, rfl⟩ : ∃ m, n = m + 1 := ⟨n - 1, by omega⟩
    obtain ⟨s', a1, a2, a3, es, hs', e⟩ := X_fits (Da := Da) (Dr := Dr) (Na := upd Na p (nI k)) (Mo := Mo) (Wa := Wa) (De := De) h hP
    have : s = s' := (nI_eq (by omega) (by omega)).mp es
    subst this
    rw [f_X7_kinds_L17, if_neg (show ¬ (4 : Int32) ≤ nI k from nI_ge (b := 4) (by omega) (by omega))]
    unfold f_X1_become
    rw [b7_some, wr_nI (by omega) (by omega), b1_some, e, b4_some, nI_1, bI_if, bitsR]
    show ∃ u1 u2 u3 u4 u5 u6 u7, (if fK P Dr Na Mo Wa De Dy Wo Ri p s k then _ else _) = _
    cases hf : fK P Dr Na Mo Wa De Dy Wo Ri p s k with
    | true => exact ih (k + 1) _ _ _ _ _ _ _ _ n (by omega) (by omega)
    | false => exact ih (k + 1) _ _ _ _ _ _ _ _ n (by omega) (by omega)
theorem X_wages_L {p s : Nat} (hp : p < 5) (hP : P ≤ 5) (h : SN P st Dy Wo Ri (nI s)) (hs : s ≤ 6) : ∀ (d k : Nat) (b : Int32) (t1 t2 t3 : Int32) (t4 t5 t6 t7 : Nat → Int32) (n : Nat), k + d = 10 → d < n → ∃ u1 u2 u3 u4 u5 u6 u7, f_X7_possibleWages_L4 (nI P) Da Dr Na Mo Wa De Dy Wo Ri (nI s) (nI p) n b (nI k) t1 t2 t3 t4 t5 t6 t7 = some (bitsR (fW P Dr Na Mo Wa De Dy Wo Ri p s) d k b, u1, u2, u3, u4, u5, u6, u7) := by
  intro d
  induction d with
  | zero =>
    intro k b t1 t2 t3 t4 t5 t6 t7 n hk hn
    obtain ⟨n, rfl⟩ : ∃ m, n = m + 1 := ⟨n - 1, by omega⟩
    rw [f_X7_possibleWages_L4, if_pos (show (9 : Int32) < nI k from nI_lt (a := 9) (by omega) (by omega))]
    exact ⟨_, _, _, _, _, _, _, rfl⟩
  | succ d ih =>
    intro k b t1 t2 t3 t4 t5 t6 t7 n hk hn
    obtain ⟨n, rfl⟩ : ∃ m, n = m + 1 := ⟨n - 1, by omega⟩
    obtain ⟨s', a1, a2, a3, es, hs', e⟩ := X_fits (Da := Da) (Dr := Dr) (Na := Na) (Mo := Mo) (Wa := upd Wa p (nI k)) (De := De) h hP
    have : s = s' := (nI_eq (by omega) (by omega)).mp es
    subst this
    rw [f_X7_possibleWages_L4, if_neg (show ¬ (9 : Int32) < nI k from nI_nlt (a := 9) (by omega) (by omega))]
    unfold f_X1_become
    rw [b7_some, wr_nI (by omega) (by omega), b1_some, e, b4_some, nI_1, bI_if, bitsR]
    show ∃ u1 u2 u3 u4 u5 u6 u7, (if fW P Dr Na Mo Wa De Dy Wo Ri p s k then _ else _) = _
    cases hf : fW P Dr Na Mo Wa De Dy Wo Ri p s k with
    | true => exact ih (k + 1) _ _ _ _ _ _ _ _ n (by omega) (by omega)
    | false => exact ih (k + 1) _ _ _ _ _ _ _ _ n (by omega) (by omega)
theorem M_soK {p s k : Nat} (hl : LI P st Da Dr Na Mo Wa De) (h : SN P st Dy Wo Ri (nI s)) (hs : s ≤ 6) (hp : p < P) (hk : k < 4) (now rode : Nat → Int32) (paid : Int32) : ∃ now' paid' rode', f_X8_isSoWith st now (nI P) paid rode (nI p) 0 (nI k) = some (bI (fK P Dr Na Mo Wa De Dy Wo Ri p s k), now', paid', rode') := by
  have hP := hl.1
  obtain ⟨n1, e1, h1, hR⟩ := e_start hl now
  obtain ⟨s', a, b, c, es, hs', e, -⟩ := M_isSo h hP (rode := rode) (paid := paid) e1 (M_bec0 (now := n1) (p := p) (v := nI k) (by omega)) (hR.nature (p := p) (by omega) hP (nI k)) (hl.2.2.1.upd (nI4 hk))
  have : s = s' := (nI_eq (by omega) (by omega)).mp es
  subst this
  exact ⟨a, b, c, e⟩
theorem M_soW {p s k : Nat} (hl : LI P st Da Dr Na Mo Wa De) (h : SN P st Dy Wo Ri (nI s)) (hs : s ≤ 6) (hp : p < P) (now rode : Nat → Int32) (paid : Int32) : ∃ now' paid' rode', f_X8_isSoWith st now (nI P) paid rode (nI p) 2 (nI k) = some (bI (fW P Dr Na Mo Wa De Dy Wo Ri p s k), now', paid', rode') ∧ ∀ j, j < 31 → rode' j = rid (dD P Na (upd Wa p (nI k)) Dr Mo De j) P := by
  have hP := hl.1
  obtain ⟨n1, e1, h1, hR⟩ := e_start hl now
  obtain ⟨s', a, b, c, es, hs', e, hr⟩ := M_isSo h hP (rode := rode) (paid := paid) e1 (M_bec2 (now := n1) (p := p) (v := nI k) (by omega)) (hR.wage (p := p) (by omega) hP (nI k)) hl.2.2.1
  have : s = s' := (nI_eq (by omega) (by omega)).mp es
  subst this
  exact ⟨a, b, c, e, hr⟩
theorem e_kinds (hl : LI P st Da Dr Na Mo Wa De) (h : SN P st Dy Wo Ri Sz) (now rode : Nat → Int32) (paid : Int32) (t1 t2 t3 : Int32) (t4 t5 t6 t7 : Nat → Int32) (x : Int32) : ∃ r u1 u2 u3 u4 u5 u6 u7 now' paid' rode', f_X7_kinds (nI P) Da Dr Na Mo Wa De t1 t2 t3 t4 t5 t6 t7 Dy Wo Ri Sz x = some (r, u1, u2, u3, u4, u5, u6, u7) ∧ f_X8_kinds st now (nI P) paid rode x = some (r, now', paid', rode') := by
  have hP := hl.1
  obtain ⟨s, hs, rfl, -⟩ := id h
  unfold f_X7_kinds f_X8_kinds f_X8_which
  rw [X_has hP, M_isOne hP]
  simp only [b1_some]
  rcases one_cases hP x with c | ⟨p, hp, rfl, c⟩
  · rw [c]; exact ⟨_, _, _, _, _, _, _, _, _, _, _, rfl, rfl⟩
  obtain ⟨u1, u2, u3, u4, u5, u6, u7, f1⟩ := X_kinds_L (Da := Da) (Dr := Dr) (Na := Na) (Mo := Mo) (Wa := Wa) (De := De) (p := p) (by omega) hP h hs 4 0 0 t1 t2 t3 t4 t5 t6 t7 400 (by omega) (by omega)
  obtain ⟨a, b, c', f2⟩ := M_which_L (st := st) (P := P) (p := p) (H := 3) (what := 0) (by omega) (fK P Dr Na Mo Wa De Dy Wo Ri p s) (fun v hv now rode paid => M_soK hl h hs hp (by omega) now rode paid) 4 0 0 now rode paid 400 (by omega) (by omega)
  rw [nI_0] at f1 f2
  have f2' : f_X8_which_L6 st (nI P) (nI p) 0 3 400 0 0 now paid rode = _ := f2
  rw [c, if_neg n10, if_neg n10, f1, b8_some, f2', b4_some, b4_some]
  exact ⟨_, _, _, _, _, _, _, _, _, _, _, rfl, rfl⟩
theorem e_earns (hl : LI P st Da Dr Na Mo Wa De) (h : SN P st Dy Wo Ri Sz) (now rode : Nat → Int32) (paid : Int32) (t1 t2 t3 : Int32) (t4 t5 t6 t7 : Nat → Int32) (x : Int32) : ∃ r u1 u2 u3 u4 u5 u6 u7 now' paid' rode', f_X7_earns (nI P) Da Dr Na Mo Wa De t1 t2 t3 t4 t5 t6 t7 Dy Wo Ri Sz x = some (r, u1, u2, u3, u4, u5, u6, u7) ∧ f_X8_earns st now (nI P) paid rode x = some (r, now', paid', rode') := by
  have hP := hl.1
  obtain ⟨s, hs, rfl, -⟩ := id h
  unfold f_X7_earns f_X8_earns f_X8_which f_X7_possibleWages
  rw [X_has hP, M_isOne hP]
  simp only [b1_some]
  rcases one_cases hP x with c | ⟨p, hp, rfl, c⟩
  · rw [c]; exact ⟨_, _, _, _, _, _, _, _, _, _, _, rfl, rfl⟩
  obtain ⟨u1, u2, u3, u4, u5, u6, u7, f1⟩ := X_wages_L (Da := Da) (Dr := Dr) (Na := Na) (Mo := Mo) (Wa := Wa) (De := De) (p := p) (by omega) hP h hs 10 0 0 t1 t2 t3 t4 t5 t6 t7 400 (by omega) (by omega)
  obtain ⟨a, b, c', f2⟩ := M_which_L (st := st) (P := P) (p := p) (H := 9) (what := 2) (by omega) (fW P Dr Na Mo Wa De Dy Wo Ri p s) (fun v hv now rode paid => by obtain ⟨a, b, c, e, -⟩ := M_soW (k := v) hl h hs hp now rode paid; exact ⟨a, b, c, e⟩) 10 0 0 now rode paid 400 (by omega) (by omega)
  rw [nI_0] at f1 f2
  have f2' : f_X8_which_L6 st (nI P) (nI p) 2 9 400 0 0 now paid rode = _ := f2
  rw [c, if_neg n10, if_neg n10, f1, b8_some, b8_some, f2', b4_some, b4_some]
  exact ⟨_, _, _, _, _, _, _, _, _, _, _, rfl, rfl⟩
/-! ask -/
theorem X_up_L {p : Nat} (hp : p < 5) (hP : P ≤ 5) : ∀ (d i : Nat) (Da : Int32) (ub ub0 : Nat → Int32) (n : Nat), i + d = 31 → d < n → (∀ j, j < i → ub j = ub0 j + (if owes (dD P Na Wa Dr Mo De j) P p = 0 then 1 else 0)) → (∀ j, i ≤ j → ub j = ub0 j) → ∃ a b c ub', f_X7_countUpBehind_L49 (nI p) (nI P) Na Wa Dr n (nI i) Da (dM P Na Wa Dr Mo De i) (dD P Na Wa Dr Mo De i) ub = some (a, b, c, ub') ∧ ∀ j, j < 31 → ub' j = ub0 j + (if owes (dD P Na Wa Dr Mo De j) P p = 0 then 1 else 0) := by
  intro d
  induction d with
  | zero =>
    intro i Da ub ub0 n hi hn h1 h2
    obtain ⟨n, rfl⟩ : ∃ m, n = m + 1 := ⟨n - 1, by omega⟩
    have e : (30 : Int32) = nI 30 := rfl
    rw [f_X7_countUpBehind_L49, e, if_pos (nI_lt (by omega) (by omega))]
    exact ⟨_, _, _, _, rfl, fun j hj => h1 j (by omega)⟩
  | succ d ih =>
    intro i Da ub ub0 n hi hn h1 h2
    obtain ⟨n, rfl⟩ : ∃ m, n = m + 1 := ⟨n - 1, by omega⟩
    have e : (30 : Int32) = nI 30 := rfl
    rw [f_X7_countUpBehind_L49, e, if_neg (nI_nlt (by omega) (by omega)), X_isRiding hp hP, b1_some]
    have st : ∃ ub1, (if (if owes (dD P Na Wa Dr Mo De i) P p = 0 then (1 : Int32) else 0) = 0 then some ub else b1 (rd ub 31 (nI i)) fun a_38 => b1 (wr ub 31 (nI i) (a_38 + 1)) fun uUb_39 => some uUb_39) = some ub1 ∧ (∀ j, j < i + 1 → ub1 j = ub0 j + (if owes (dD P Na Wa Dr Mo De j) P p = 0 then 1 else 0)) ∧ ∀ j, i + 1 ≤ j → ub1 j = ub0 j := by
      by_cases c : owes (dD P Na Wa Dr Mo De i) P p = 0
      · rw [if_pos c, if_neg n10, rd_nI (by omega) (by omega), b1_some, wr_nI (by omega) (by omega), b1_some]
        refine ⟨_, rfl, fun j hj => ?_, fun j hj => ?_⟩
        · by_cases cj : j = i
          · subst cj; rw [upd_s, if_pos c, h2 j (by omega)]
          · rw [upd_n cj]; exact h1 j (by omega)
        · rw [upd_n (by omega)]; exact h2 j (by omega)
      · rw [if_neg c, if_pos rfl]
        refine ⟨_, rfl, fun j hj => ?_, fun j hj => h2 j (by omega)⟩
        by_cases cj : j = i
        · subst cj; rw [if_neg c, Int32.add_zero]; exact h2 j (by omega)
        · exact h1 j (by omega)
    obtain ⟨ub1, g1, g2, g3⟩ := st
    rw [g1, b1_some, X_runDay hP, b4_some, nI_1]
    have rest := ih (i + 1) (Da + 1) ub1 ub0 n (by omega) (by omega) g2 g3
    rw [← dM_s, ← dD_s] at rest
    exact rest
theorem M_up_L {p : Nat} (hp : p < P) (hP : P ≤ 5) (D : Nat → Nat → Int32) (rode : Nat → Int32) (hr : ∀ j, j < 31 → rode j = rid (D j) P) : ∀ (d i : Nat) (ub ub0 : Nat → Int32) (n : Nat), i + d = 31 → d < n → (∀ j, j < i → ub j = ub0 j + (if owes (D j) P p = 0 then 1 else 0)) → (∀ j, i ≤ j → ub j = ub0 j) → ∃ ub', f_X8_ask_L70 (nI p) rode n (nI i) ub = some ub' ∧ ∀ j, j < 31 → ub' j = ub0 j + (if owes (D j) P p = 0 then 1 else 0) := by
  intro d
  induction d with
  | zero =>
    intro i ub ub0 n hi hn h1 h2
    obtain ⟨n, rfl⟩ : ∃ m, n = m + 1 := ⟨n - 1, by omega⟩
    have e : (30 : Int32) = nI 30 := rfl
    rw [f_X8_ask_L70, e, if_pos (nI_lt (by omega) (by omega))]
    exact ⟨_, rfl, fun j hj => h1 j (by omega)⟩
  | succ d ih =>
    intro i ub ub0 n hi hn h1 h2
    obtain ⟨n, rfl⟩ : ∃ m, n = m + 1 := ⟨n - 1, by omega⟩
    have e : (30 : Int32) = nI 30 := rfl
    rw [f_X8_ask_L70, e, if_neg (nI_nlt (by omega) (by omega)), rd_nI (by omega) (by omega), b1_some, rd_nI (by omega) (by omega), b1_some, hr i (by omega), rid_bit hp hP, wr_nI (by omega) (by omega), b1_some, nI_1]
    refine ih (i + 1) _ ub0 n (by omega) (by omega) (fun j hj => ?_) (fun j hj => ?_)
    · by_cases cj : j = i
      · subst cj; rw [upd_s, h2 j (by omega)]
      · rw [upd_n cj]; exact h1 j (by omega)
    · rw [upd_n (by omega)]; exact h2 j (by omega)
theorem ask_L {p s : Nat} (hl : LI P st Da Dr Na Mo Wa De) (h : SN P st Dy Wo Ri (nI s)) (hs : s ≤ 6) (hp : p < P) : ∀ (d k : Nat) (all : Int32) (ub ways : Nat → Int32) (t1 t2 t3 : Int32) (t4 t5 t6 t7 : Nat → Int32) (now rode : Nat → Int32) (paid : Int32) (n n2 : Nat), k + d = 10 → d < n → d < n2 → (∀ j, j < 31 → ways j = ub j) → ∃ u1 u2 u3 u4 u5 u6 u7 ub' now' paid' rode' ways', f_X7_countUpBehind_L10 (nI P) Da Dr Na Mo Wa De (nI p) (bitsR (fW P Dr Na Mo Wa De Dy Wo Ri p s) 10 0 0) n (nI k) t1 t2 t3 t4 t5 t6 t7 ub = some (u1, u2, u3, u4, u5, u6, u7, ub') ∧ f_X8_ask_L46 st (nI P) (nI p) n2 all (nI k) now paid rode ways = some (cntB (fW P Dr Na Mo Wa De Dy Wo Ri p s) d k all, now', paid', rode', ways') ∧ ∀ j, j < 31 → ways' j = ub' j := by
  have hP := hl.1
  intro d
  induction d with
  | zero =>
    intro k all ub ways t1 t2 t3 t4 t5 t6 t7 now rode paid n n2 hk hn hn2 hw
    obtain ⟨n, rfl⟩ : ∃ m, n = m + 1 := ⟨n - 1, by omega⟩
    obtain ⟨n2, rfl⟩ : ∃ m, n2 = m + 1 := ⟨n2 - 1, by omega⟩
    have c9 : (9 : Int32) < nI k := nI_lt (a := 9) (by omega) (by omega)
    rw [f_X7_countUpBehind_L10, f_X8_ask_L46, if_pos c9, if_pos c9]
    exact ⟨_, _, _, _, _, _, _, _, _, _, _, _, rfl, rfl, hw⟩
  | succ d ih =>
    intro k all ub ways t1 t2 t3 t4 t5 t6 t7 now rode paid n n2 hk hn hn2 hw
    obtain ⟨n, rfl⟩ : ∃ m, n = m + 1 := ⟨n - 1, by omega⟩
    obtain ⟨n2, rfl⟩ : ∃ m, n2 = m + 1 := ⟨n2 - 1, by omega⟩
    have c9 : ¬ (9 : Int32) < nI k := nI_nlt (a := 9) (by omega) (by omega)
    obtain ⟨a, b, c, e, hr⟩ := M_soW (k := k) hl h hs hp now rode paid
    rw [f_X7_countUpBehind_L10, f_X8_ask_L46, if_neg c9, if_neg c9, e, b4_some, bI_if, nI_1, cntB]
    have hb := (bits_all (fW P Dr Na Mo Wa De Dy Wo Ri p s)).2 k (by omega)
    cases hf : fW P Dr Na Mo Wa De Dy Wo Ri p s k with
    | true =>
      rw [if_pos (hb.mpr hf)]
      unfold f_X1_become
      rw [b7_some, wr_nI (by omega) (by omega), b1_some]
      obtain ⟨v1, v2, v3, ub1, g1, g2⟩ := X_up_L (Na := Na) (Wa := upd Wa p (nI k)) (Dr := Dr) (Mo := Mo) (De := De) (p := p) (by omega) hP 31 0 Da ub ub 400 (by omega) (by omega) (fun j hj => absurd hj (by omega)) (fun _ _ => rfl)
      obtain ⟨w1, g3, g4⟩ := M_up_L hp hP (dD P Na (upd Wa p (nI k)) Dr Mo De) c hr 31 0 ways ways 400 (by omega) (by omega) (fun j hj => absurd hj (by omega)) (fun _ _ => rfl)
      rw [nI_0] at g1 g3
      have g1' : f_X7_countUpBehind_L49 (nI p) (nI P) Na (upd Wa p (nI k)) Dr 400 0 Da Mo De ub = _ := g1
      rw [g1', b4_some]
      show ∃ u1 u2 u3 u4 u5 u6 u7 ub' now' paid' rode' ways', _ ∧ (b1 (f_X8_ask_L70 (nI p) c 400 0 ways) _) = _ ∧ _
      rw [g3, b1_some]
      exact ih (k + 1) _ ub1 w1 _ _ _ _ _ _ _ _ _ _ n n2 (by omega) (by omega) (by omega) (fun j hj => by rw [g4 j hj, g2 j hj, hw j hj])
    | false =>
      rw [if_neg (fun z => by rw [hb.mp z] at hf; cases hf)]
      exact ih (k + 1) _ ub ways _ _ _ _ _ _ _ _ _ _ n n2 (by omega) (by omega) (by omega) hw
theorem ways0_L : ∀ (d i : Nat) (w : Nat → Int32) (n : Nat), i + d = 31 → d < n → (∀ j, j < i → w j = 0) → ∃ w', f_X8_ask_L22 n (nI i) w = some w' ∧ ∀ j, j < 31 → w' j = 0 := by
  intro d
  induction d with
  | zero =>
    intro i w n hi hn h
    obtain ⟨n, rfl⟩ : ∃ m, n = m + 1 := ⟨n - 1, by omega⟩
    have e : (30 : Int32) = nI 30 := rfl
    rw [f_X8_ask_L22, e, if_pos (nI_lt (by omega) (by omega))]
    exact ⟨_, rfl, fun j hj => h j (by omega)⟩
  | succ d ih =>
    intro i w n hi hn h
    obtain ⟨n, rfl⟩ : ∃ m, n = m + 1 := ⟨n - 1, by omega⟩
    have e : (30 : Int32) = nI 30 := rfl
    rw [f_X8_ask_L22, e, if_neg (nI_nlt (by omega) (by omega)), wr_nI (by omega) (by omega), b1_some, nI_1]
    refine ih (i + 1) _ n (by omega) (by omega) (fun j hj => ?_)
    by_cases cj : j = i
    · subst cj; exact upd_s
    · rw [upd_n cj]; exact h j (by omega)
theorem askBest {all : Int32} {ub ways : Nat → Int32} (hw : ∀ j, j < 31 → ways j = ub j) : ∀ (d i : Nat) (f b : Int32) (n n2 : Nat), i + d = 31 → d < n → d < n2 → ∃ f' b', f_X7_ask_L51 ub all n f b (nI i) = some (f', b') ∧ f_X8_ask_L120 ways all n2 f b (nI i) = some (f', b') := by
  intro d
  induction d with
  | zero =>
    intro i f b n n2 hi hn hn2
    obtain ⟨n, rfl⟩ : ∃ m, n = m + 1 := ⟨n - 1, by omega⟩
    obtain ⟨n2, rfl⟩ : ∃ m, n2 = m + 1 := ⟨n2 - 1, by omega⟩
    have e : (30 : Int32) = nI 30 := rfl
    rw [f_X7_ask_L51, f_X8_ask_L120, e, if_pos (nI_lt (by omega) (by omega)), if_pos (nI_lt (by omega) (by omega))]
    exact ⟨_, _, rfl, rfl⟩
  | succ d ih =>
    intro i f b n n2 hi hn hn2
    obtain ⟨n, rfl⟩ : ∃ m, n = m + 1 := ⟨n - 1, by omega⟩
    obtain ⟨n2, rfl⟩ : ∃ m, n2 = m + 1 := ⟨n2 - 1, by omega⟩
    have e : (30 : Int32) = nI 30 := rfl
    rw [f_X7_ask_L51, f_X8_ask_L120, e, if_neg (nI_nlt (by omega) (by omega)), if_neg (nI_nlt (by omega) (by omega)), rd_nI (by omega) (by omega), b1_some, b1_some, b1_some, rd_nI (by omega) (by omega), b1_some, b1_some, b1_some, b1_some, nI_1, hw i (by omega)]
    have et : (if ub i ≤ all - ub i then some (all - ub i) else some (ub i)) = some (if ub i < all - ub i then all - ub i else ub i) := by
      by_cases c : ub i < all - ub i
      · rw [if_pos c, if_pos (Int32.le_of_lt c)]
      · rw [if_neg c]
        by_cases c2 : ub i ≤ all - ub i
        · rw [if_pos c2]
          have : all - ub i = ub i := Int32.le_antisymm (Int32.not_lt.mp c) c2
          rw [this]
        · rw [if_neg c2]
    rw [et, b1_some]
    generalize (if ub i < all - ub i then all - ub i else ub i) = t
    by_cases c : f ≤ t
    · rw [if_pos c, if_pos c, b1_some, lesser_eq, b1_some]
      have : mn t f = f := by
        unfold mn
        by_cases c2 : f < t
        · rw [if_pos c2]
        · rw [if_neg c2]; exact Int32.le_antisymm (Int32.not_lt.mp c2) c
      rw [this]
      exact ih (i + 1) _ _ n n2 (by omega) (by omega) (by omega)
    · rw [if_neg c, if_neg c, b1_some, lesser_eq, b1_some]
      have : mn t f = t := by
        unfold mn
        rw [if_neg (fun z => c (Int32.le_of_lt z))]
      rw [this]
      exact ih (i + 1) _ _ n n2 (by omega) (by omega) (by omega)
theorem e_ask (hl : LI P st Da Dr Na Mo Wa De) (h : SN P st Dy Wo Ri Sz) (now rode ways : Nat → Int32) (paid : Int32) (t1 t2 t3 : Int32) (t4 t5 t6 t7 uUb : Nat → Int32) (x y : Int32) : ∃ r u1 u2 u3 u4 u5 u6 u7 ub' now' paid' rode' ways', f_X7_ask (nI P) Da Dr Na Mo Wa De t1 t2 t3 t4 t5 t6 t7 Dy Wo Ri Sz uUb x y = some (r, u1, u2, u3, u4, u5, u6, u7, ub') ∧ f_X8_ask st now (nI P) paid rode ways x y = some (r, now', paid', rode', ways') := by
  have hP := hl.1
  obtain ⟨s, hs, rfl, -⟩ := id h
  unfold f_X7_ask f_X8_ask f_X7_possibleWages f_X7_countUpBehind
  rw [X_has hP, M_isOne hP, X_within y 0 1 rfl rfl, M_isPart]
  simp only [b1_some]
  rcases one_cases hP x with c | ⟨p, hp, rfl, c⟩
  · rw [c]; exact ⟨_, _, _, _, _, _, _, _, _, _, _, _, _, rfl, rfl⟩
  rcases tb_cases y 0 1 with ⟨t, -⟩ | ⟨t, -⟩
  · obtain ⟨u1, u2, u3, u4, u5, u6, u7, f1⟩ := X_wages_L (Da := Da) (Dr := Dr) (Na := Na) (Mo := Mo) (Wa := Wa) (De := De) (p := p) (by omega) hP h hs 10 0 0 t1 t2 t3 t4 t5 t6 t7 400 (by omega) (by omega)
    obtain ⟨w0, g0, g1⟩ := ways0_L 31 0 ways 400 (by omega) (by omega) (fun j hj => absurd hj (by omega))
    obtain ⟨v1, v2, v3, v4, v5, v6, v7, ub', n', p', r', w', f2, f3, f4⟩ := ask_L hl h hs hp 10 0 0 (fun _ => 0) w0 u1 u2 u3 u4 u5 u6 u7 now rode paid 400 400 (by omega) (by omega) (by omega) (fun j hj => g1 j hj)
    obtain ⟨fw, bh, f5, f6⟩ := askBest (all := cntB (fW P Dr Na Mo Wa De Dy Wo Ri p s) 10 0 0) f4 31 0 (cntB (fW P Dr Na Mo Wa De Dy Wo Ri p s) 10 0 0) (-4) 400 400 (by omega) (by omega) (by omega)
    rw [nI_0] at f1 g0 f2 f3 f5 f6
    rw [c, if_neg n10, if_neg n10, t, if_neg n10, if_neg n10, f1, b8_some, b8_some, f2, b8_some, b8_some, (bits_all _).1, b1_some, g0, b1_some, f3, b5_some, f5, f6, b2_some, b2_some]
    by_cases c0 : bh = -4
    · rw [if_pos c0, if_pos c0]; exact ⟨_, _, _, _, _, _, _, _, _, _, _, _, _, rfl, rfl⟩
    rw [if_neg c0, if_neg c0]
    by_cases c1 : y = 0
    · rw [if_pos c1, if_pos c1]; exact ⟨_, _, _, _, _, _, _, _, _, _, _, _, _, rfl, rfl⟩
    rw [if_neg c1, if_neg c1]; exact ⟨_, _, _, _, _, _, _, _, _, _, _, _, _, rfl, rfl⟩
  · rw [c, t]; exact ⟨_, _, _, _, _, _, _, _, _, _, _, _, _, rfl, rfl⟩
end E13
