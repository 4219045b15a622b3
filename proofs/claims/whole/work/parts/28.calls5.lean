/-! ===== L2: which debt to forgive; days by a seed ===== -/
section E5
variable {P : Nat} {st now : Nat → Int32} {Da Dr : Int32} {Na Mo Wa De : Nat → Int32}
theorem cntR_nI : ∀ (d p s : Nat), ∃ t, s ≤ t ∧ t ≤ s + d ∧ cntR De P d p (nI s) = nI t := by
  intro d
  induction d with
  | zero => intro p s; exact ⟨s, Nat.le_refl s, by omega, rfl⟩
  | succ d ih =>
    intro p s
    rw [cntR]
    by_cases c : owes De P p = 0
    · rw [if_pos c, nI_1]
      obtain ⟨t, h1, h2, h3⟩ := ih (p + 1) (s + 1)
      exact ⟨t, by omega, by omega, h3⟩
    · rw [if_neg c, Int32.add_zero]
      obtain ⟨t, h1, h2, h3⟩ := ih (p + 1) s
      exact ⟨t, by omega, by omega, h3⟩
theorem rEnd_nI (hP : P ≤ 5) : ∃ t, t ≤ 5 ∧ rEnd P Na Wa Dr Mo De = nI t := by
  obtain ⟨t, -, h2, h3⟩ := cntR_nI (De := (daysR P Na Wa Dr 30 0 Mo De).2.2) (P := P) P 0 0
  exact ⟨t, by omega, h3⟩
theorem upd_id {f : Nat → Int32} {i : Nat} {v : Int32} (h : f i = v) : upd f i v = f := by
  funext j
  by_cases c : j = i
  · subst c; rw [upd_s, h]
  · rw [upd_n c]
theorem X_forgiven {p q : Nat} (hp : p < 5) (hq : q < 5) (hP : P ≤ 5) : ∃ u1 u2 u3 u4 u5 u6 u7, f_X7_ridersIfForgiven (nI P) Da Dr Na Mo Wa De (nI p) (nI q) = some (rEnd P Na Wa Dr Mo (upd De (5 * p + q) 0), u1, u2, u3, u4, u5, u6, u7) := by
  obtain ⟨a, b, c, e⟩ := X_rEnd (Da := Da) (Dr := Dr) (Na := Na) (Mo := Mo) (Wa := Wa) (De := upd De (5 * p + q) 0) hP
  unfold f_X7_ridersIfForgiven f_X1_become
  rw [b7_some, X_setDebt hp hq, b1_some, e, b4_some]
  exact ⟨_, _, _, _, _, _, _, rfl⟩
theorem e_forgive_q {p : Nat} (h : LI P st Da Dr Na Mo Wa De) (hp : p < P) : ∀ (d q : Nat) (w m : Int32) (t1 t2 t3 : Int32) (t4 t5 t6 t7 now : Nat → Int32) (paid : Int32) (n n2 : Nat), q + d = P → d < n → d < n2 → rEnd P Na Wa Dr Mo De ≤ m → ∃ w' m' u1 u2 u3 u4 u5 u6 u7 now' paid', f_X7_forgive_L51 (nI P) Da Dr Na Mo Wa De (nI p) n w m (nI q) t1 t2 t3 t4 t5 t6 t7 = some (w', m', u1, u2, u3, u4, u5, u6, u7) ∧ f_X8_forgive_L38 st (nI P) (nI p) n2 m w (nI q) now paid = some (m', w', now', paid') ∧ rEnd P Na Wa Dr Mo De ≤ m' := by
  have hP := h.1
  obtain ⟨b, hb, eb⟩ := rEnd_nI (P := P) (Na := Na) (Wa := Wa) (Dr := Dr) (Mo := Mo) (De := De) hP
  have b0 : (0 : Int32) ≤ rEnd P Na Wa Dr Mo De := by
    rw [eb]
    exact nI_le (a := 0) (by omega) (by omega)
  intro d
  induction d with
  | zero =>
    intro q w m t1 t2 t3 t4 t5 t6 t7 now paid n n2 hq hn hn2 hm
    obtain ⟨n, rfl⟩ : ∃ m, n = m + 1 := ⟨n - 1, by omega⟩
    obtain ⟨n2, rfl⟩ : ∃ m, n2 = m + 1 := ⟨n2 - 1, by omega⟩
    rw [f_X7_forgive_L51, f_X8_forgive_L38, if_pos (nI_le (by omega) (by omega)), if_pos (nI_le (by omega) (by omega))]
    exact ⟨_, _, _, _, _, _, _, _, _, _, _, rfl, rfl, hm⟩
  | succ d ih =>
    intro q w m t1 t2 t3 t4 t5 t6 t7 now paid n n2 hq hn hn2 hm
    obtain ⟨n, rfl⟩ : ∃ m, n = m + 1 := ⟨n - 1, by omega⟩
    obtain ⟨n2, rfl⟩ : ∃ m, n2 = m + 1 := ⟨n2 - 1, by omega⟩
    rw [f_X7_forgive_L51, f_X8_forgive_L38, if_neg (nI_ge (by omega) (by omega)), if_neg (nI_ge (by omega) (by omega)), X_debt (by omega) (by omega), b1_some, nI_1]
    obtain ⟨n1, e1, h1, hR⟩ := e_start h now
    obtain ⟨k, hk, ek⟩ := h.2.2.2.1 (5 * p + q) (by omega)
    have m0 : (0 : Int32) ≤ m := Int32.le_trans b0 hm
    by_cases cz : k = 0
    · subst cz
      rw [nI_0] at ek
      rw [if_pos (by rw [ek]; decide), b8_some, if_pos m0]
      by_cases cpq : p = q
      · subst cpq
        rw [if_pos rfl]
        exact ih (p + 1) w m t1 t2 t3 t4 t5 t6 t7 now paid n n2 (by omega) (by omega) (by omega) hm
      · rw [if_neg (fun z => cpq ((nI_eq (by omega) (by omega)).mp z)), e1, b1_some, ix15, wr_nI (by omega) (by omega), b1_some, Nat.add_assoc]
        have h2 := hR.debt (i := 5 * p + q) (by omega) hP 0
        rw [upd_id ek] at h2
        obtain ⟨a', b', e3⟩ := M_rEnd h2 h.2.2.1 hP
        rw [e3, b3_some]
        simp only [if_pos hm, b1_some]
        exact ih (q + 1) w m t1 t2 t3 t4 t5 t6 t7 a' b' n n2 (by omega) (by omega) (by omega) hm
    · have cpq : p ≠ q := by
        intro z
        subst z
        have z := h.2.2.2.2 p (by omega)
        rw [show 5 * p + p = 6 * p by omega, z] at ek
        have z2 := congrArg Int32.toInt ek
        rw [nI_toInt (by omega)] at z2
        have h0 : (0 : Int32).toInt = 0 := rfl
        omega
      obtain ⟨v1, v2, v3, v4, v5, v6, v7, e2⟩ := X_forgiven (Da := Da) (Dr := Dr) (Na := Na) (Mo := Mo) (Wa := Wa) (De := De) (p := p) (q := q) (by omega) (by omega) hP
      rw [if_neg (by rw [ek]; exact nI_nle (by omega) (by omega)), e2, b8_some, b8_some, if_neg (fun z => cpq ((nI_eq (by omega) (by omega)).mp z)), e1, b1_some, ix15, wr_nI (by omega) (by omega), b1_some, Nat.add_assoc]
      have h2 := hR.debt (i := 5 * p + q) (by omega) hP 0
      obtain ⟨a', b', e3⟩ := M_rEnd h2 h.2.2.1 hP
      rw [e3, b3_some]
      by_cases c : rEnd P Na Wa Dr Mo (upd De (5 * p + q) 0) ≤ m
      · simp only [if_pos c, b1_some]
        exact ih (q + 1) w m _ _ _ _ _ _ _ a' b' n n2 (by omega) (by omega) (by omega) hm
      · simp only [if_neg c, b1_some]
        exact ih (q + 1) _ _ _ _ _ _ _ _ _ a' b' n n2 (by omega) (by omega) (by omega) (Int32.le_trans hm (Int32.le_of_lt (Int32.not_le.mp c)))
theorem e_forgive_p (h : LI P st Da Dr Na Mo Wa De) : ∀ (d p : Nat) (w m : Int32) (t1 t2 t3 : Int32) (t4 t5 t6 t7 now : Nat → Int32) (paid : Int32) (n n2 : Nat), p + d = P → d < n → d < n2 → rEnd P Na Wa Dr Mo De ≤ m → ∃ w' m' u1 u2 u3 u4 u5 u6 u7 now' paid', f_X7_forgive_L36 (nI P) Da Dr Na Mo Wa De n w m (nI p) t1 t2 t3 t4 t5 t6 t7 = some (w', m', u1, u2, u3, u4, u5, u6, u7) ∧ f_X8_forgive_L26 st (nI P) n2 m w (nI p) now paid = some (m', w', now', paid') := by
  have hP := h.1
  intro d
  induction d with
  | zero =>
    intro q w m t1 t2 t3 t4 t5 t6 t7 now paid n n2 hq hn hn2 hm
    obtain ⟨n, rfl⟩ : ∃ m, n = m + 1 := ⟨n - 1, by omega⟩
    obtain ⟨n2, rfl⟩ : ∃ m, n2 = m + 1 := ⟨n2 - 1, by omega⟩
    rw [f_X7_forgive_L36, f_X8_forgive_L26, if_pos (nI_le (by omega) (by omega)), if_pos (nI_le (by omega) (by omega))]
    exact ⟨_, _, _, _, _, _, _, _, _, _, _, rfl, rfl⟩
  | succ d ih =>
    intro p w m t1 t2 t3 t4 t5 t6 t7 now paid n n2 hq hn hn2 hm
    obtain ⟨n, rfl⟩ : ∃ m, n = m + 1 := ⟨n - 1, by omega⟩
    obtain ⟨n2, rfl⟩ : ∃ m, n2 = m + 1 := ⟨n2 - 1, by omega⟩
    obtain ⟨w', m', u1, u2, u3, u4, u5, u6, u7, now', paid', e1, e2, hm'⟩ := e_forgive_q h (p := p) (by omega) P 0 w m t1 t2 t3 t4 t5 t6 t7 now paid 400 400 (by omega) (by omega) (by omega) hm
    rw [nI_0] at e1 e2
    rw [f_X7_forgive_L36, f_X8_forgive_L26, if_neg (nI_ge (by omega) (by omega)), if_neg (nI_ge (by omega) (by omega)), e1, b9_some, e2, b4_some, nI_1]
    exact ih (p + 1) _ _ _ _ _ _ _ _ _ _ _ n n2 (by omega) (by omega) (by omega) hm'
theorem e_forgive (h : LI P st Da Dr Na Mo Wa De) (now : Nat → Int32) (paid : Int32) (t1 t2 t3 : Int32) (t4 t5 t6 t7 : Nat → Int32) (x : Int32) : ∃ r u1 u2 u3 u4 u5 u6 u7 now' paid', f_X7_forgive (nI P) Da Dr Na Mo Wa De t1 t2 t3 t4 t5 t6 t7 x = some (r, u1, u2, u3, u4, u5, u6, u7) ∧ f_X8_forgive st now (nI P) paid x = some (r, now', paid') := by
  obtain ⟨n1, e1, h1, hR⟩ := e_start h now
  have hP := h.1
  unfold f_X7_forgive f_X8_forgive
  rw [X_within x 0 1 rfl rfl, M_isPart, e1]
  simp only [b1_some]
  rcases tb_cases x 0 1 with ⟨s, -⟩ | ⟨s, -⟩
  · obtain ⟨a, b, c, e⟩ := X_rEnd (Da := Da) (Dr := Dr) (Na := Na) (Mo := Mo) (Wa := Wa) (De := De) hP
    obtain ⟨a', b', e'⟩ := M_rEnd hR h.2.2.1 hP
    obtain ⟨w, m, u1, u2, u3, u4, u5, u6, u7, now', paid', f1, f2⟩ := e_forgive_p h P 0 (-4) (rEnd P Na Wa Dr Mo De) (nI P) a Dr Na b Wa c a' b' 400 400 (by omega) (by omega) (by omega) (Int32.le_refl _)
    rw [nI_0] at f1 f2
    rw [s, if_neg n10, if_neg n10, e', b3_some, f2, b4_some]
    unfold f_X1_become
    rw [b7_some, e, b4_some, f1, b9_some]
    by_cases c0 : w = -4
    · rw [if_pos c0, if_pos c0]; exact ⟨_, _, _, _, _, _, _, _, _, _, rfl, rfl⟩
    rw [if_neg c0, if_neg c0]
    by_cases c1 : x = 0
    · rw [if_pos c1, if_pos c1]; exact ⟨_, _, _, _, _, _, _, _, _, _, rfl, rfl⟩
    rw [if_neg c1, if_neg c1]; exact ⟨_, _, _, _, _, _, _, _, _, _, rfl, rfl⟩
  · rw [s]; exact ⟨_, _, _, _, _, _, _, _, _, _, rfl, rfl⟩
/-! drift -/
theorem nz_some {P : Nat} (h0 : 0 < P) (hP : P ≤ 5) : nz (nI P) = some () := by
  unfold nz; rw [if_neg (nI_ne0 h0 (by omega))]
theorem got_nat (x y X Y : Int) (hx : x = if 2 * X < 4294967296 then X else X - 4294967296) (hX : 0 ≤ X) (hX2 : X < 4294967296) (hy : y = x / 65536) (hY : 0 ≤ Y) (hY2 : Y < 4294967296) (hy2 : y = if 2 * Y < 4294967296 then Y else Y - 4294967296) : Y % 32768 = X / 65536 % 32768 := by
  split at hx <;> split at hy2 <;> omega
theorem got_eq (s : Int32) : ((((s.toUInt32 >>> ((16 : Int32).toUInt32 &&& Int32.toUInt32 31)).toInt32) : Int32) &&& (32767 : Int32)) = ((s >>> ((16 : Int32) &&& 31)) &&& (32767 : Int32)) := by
  rw [pk_and _ 15 rfl, pk_and _ 15 rfl, pk_ushr s 16 16 rfl]
  congr 1
  have e1 := pk_shr s ((16 : Int32) &&& 31) 16 rfl
  have e2 : ∀ z : Int32, z.toInt = if 2 * (z.toBitVec.toNat : Int) < 4294967296 then (z.toBitVec.toNat : Int) else (z.toBitVec.toNat : Int) - 4294967296 := by
    intro z
    have := BitVec.toInt_eq_toNat_cond z.toBitVec
    show z.toBitVec.toInt = _
    rw [this]
    by_cases c : 2 * z.toBitVec.toNat < 2 ^ 32
    · rw [if_pos c, if_pos (by omega)]
    · rw [if_neg c, if_neg (by omega)]; rfl
  have b1 := s.toBitVec.isLt
  have b2 := (s >>> ((16 : Int32) &&& 31)).toBitVec.isLt
  have e3 : (s >>> ((16 : Int32) &&& 31)).toInt = s.toInt / 65536 := by
    rw [e1, Int.shiftRight_eq_div_pow]; rfl
  have := got_nat s.toInt (s >>> ((16 : Int32) &&& 31)).toInt s.toBitVec.toNat (s >>> ((16 : Int32) &&& 31)).toBitVec.toNat (e2 s) (by omega) (by omega) e3 (by omega) (by omega) (e2 _)
  omega
theorem got_nI (s : Int32) : ∃ g, g < 32768 ∧ ((s >>> ((16 : Int32) &&& 31)) &&& (32767 : Int32)) = nI g := pk_andE _ 15 rfl
theorem X_lend_same {p : Nat} (hP : P ≤ 5) (v : Int32) : f_X1_lendTo (nI P) Mo De (nI p) (nI p) v = some (-1, Mo, De) := by
  unfold f_X1_lendTo
  rw [X_hasPair hP]
  rcases pair_cases hP (nI p) (nI p) with c | ⟨a, b, ha, hb, hne, e1, e2, -⟩
  · rw [c]; rfl
  · rw [e1] at e2
    exact absurd ((nI_eq (by omega) (by omega)).mp e2) hne
theorem e_drift_L {N : Nat} (hN : N ≤ 60) (hP : P ≤ 5) (h0 : 0 < P) (hNa : NaOK P Na) : ∀ (d i : Nat) (s Da : Int32) (Mo De now : Nat → Int32) (paid : Int32) (n n2 : Nat), i + d = N → d < n → d < n2 → RR P now Da Dr Na Mo Wa De → DeOK De → DG De → ∃ Da' Mo' De' now' paid', f_X7_drift_L55 (nI P) (nI N) (nI P) Na Wa Dr n s (nI i) Da Mo De = some (Da', Mo', De') ∧ f_X8_drift_L41 (nI P) (nI N) n2 s (nI i) now paid = some (now', paid') ∧ RR P now' Da' Dr Na Mo' Wa De' := by
  intro d
  induction d with
  | zero =>
    intro i s Da Mo De now paid n n2 hi hn hn2 hR h1 h2
    obtain ⟨n, rfl⟩ : ∃ m, n = m + 1 := ⟨n - 1, by omega⟩
    obtain ⟨n2, rfl⟩ : ∃ m, n2 = m + 1 := ⟨n2 - 1, by omega⟩
    rw [f_X7_drift_L55, f_X8_drift_L41, if_pos (nI_le (by omega) (by omega)), if_pos (nI_le (by omega) (by omega))]
    exact ⟨_, _, _, _, _, rfl, rfl, hR⟩
  | succ d ih =>
    intro i s Da Mo De now paid n n2 hi hn hn2 hR h1 h2
    obtain ⟨n, rfl⟩ : ∃ m, n = m + 1 := ⟨n - 1, by omega⟩
    obtain ⟨n2, rfl⟩ : ∃ m, n2 = m + 1 := ⟨n2 - 1, by omega⟩
    rw [f_X7_drift_L55, f_X8_drift_L41, if_neg (nI_ge (by omega) (by omega)), if_neg (nI_ge (by omega) (by omega)), nI_1, got_eq]
    obtain ⟨g, hg, eg⟩ := got_nI (s * 1103515245 + 12345)
    have e8 : (8 : Int32) = nI 8 := rfl
    have e64 : (64 : Int32) = nI 64 := rfl
    have e9 : (9 : Int32) = nI 9 := rfl
    have e1 : (1 : Int32) = nI 1 := rfl
    have ea : nI g - nI g / nI P * nI P = nI (g % P) := pk_rem (by omega) h0 (by omega)
    have eb : nI g / 8 - nI g / 8 / nI P * nI P = nI (g / 8 % P) := by
      rw [e8, pk_div (by omega) (by omega) (by omega)]; exact pk_rem (by omega) h0 (by omega)
    have ec : 1 + (nI g / 64 - nI g / 64 / 9 * 9) = nI (1 + g / 64 % 9) := by
      rw [e64, e9, pk_div (by omega) (by omega) (by omega), pk_rem (by omega) (by omega) (by omega), e1, nI_add]
    simp only [eg, b1_some, nz_some h0 hP]
    rw [ea, eb, ec]
    have hp := Nat.mod_lt g h0
    have hq := Nat.mod_lt (g / 8) h0
    have key : ∃ r r2 Mo1 De1 now1, f_X1_lendTo (nI P) Mo De (nI (g % P)) (nI (g / 8 % P)) (nI (1 + g / 64 % 9)) = some (r, Mo1, De1) ∧ f_X8_lendsNow now (nI (g % P)) (nI (g / 8 % P)) (nI (1 + g / 64 % 9)) = some (r2, now1) ∧ RR P now1 Da Dr Na Mo1 Wa De1 ∧ DeOK De1 ∧ DG De1 := by
      rcases lend_both hR hP hp hq (k := 1 + g / 64 % 9) (by omega) (by omega) h1 h2 with ⟨n2, e2, e3, z | z⟩ | ⟨n2, m, hne, hm, e2, e3, h3, -⟩
      · rw [z] at e2 ⊢
        exact ⟨_, _, _, _, _, X_lend_same hP _, e2, by rw [e3]; exact hR, h1, h2⟩
      · exact ⟨_, _, _, _, _, z, e2, by rw [e3]; exact hR, h1, h2⟩
      · exact ⟨_, _, _, _, _, e3, e2, h3, h1.upd hm, h2.upd (by omega) (by omega) (Ne.symm hne) _⟩
    obtain ⟨r, r2, Mo1, De1, now1, k1, k2, k3, k4, k5⟩ := key
    obtain ⟨n3, q3, e3, h3⟩ := M_day k3 hNa hP paid
    rw [k1, b3_some, k2, b2_some, X_runDay hP, b4_some, e3, b2_some]
    obtain ⟨g1, g2⟩ := dDe_ok (Na := Na) (Wa := Wa) (Mo := Mo1) (dry := Dr) hP k4 k5
    exact ih (i + 1) _ _ _ _ _ _ n n2 (by omega) (by omega) (by omega) h3 g1 g2
theorem e_drift (h : LI P st Da Dr Na Mo Wa De) (now : Nat → Int32) (paid : Int32) (t1 t2 t3 : Int32) (t4 t5 t6 t7 : Nat → Int32) (x y z : Int32) : ∃ r u1 u2 u3 u4 u5 u6 u7 now' paid', f_X7_drift (nI P) Da Dr Na Mo Wa De t1 t2 t3 t4 t5 t6 t7 x y z = some (r, u1, u2, u3, u4, u5, u6, u7) ∧ f_X8_drift st now (nI P) paid x y z = some (r, now', paid') := by
  obtain ⟨n1, e1, h1, hR⟩ := e_start h now
  have hP := h.1
  unfold f_X7_drift f_X8_drift
  rw [X_within y 1 60 rfl rfl, M_in y 1 60 rfl rfl, X_within z 0 1 rfl rfl, M_isPart, e1]
  simp only [b1_some]
  rcases tb_cases y 1 60 with ⟨t, -⟩ | ⟨t, -⟩
  · obtain ⟨k, -, hk, rfl⟩ := tb_nI (lo := 1) (hi := 60) t
    rw [t, if_neg n10, if_neg n10]
    rcases tb_cases z 0 1 with ⟨s, -⟩ | ⟨s, -⟩
    · rw [s, if_neg n10, if_neg n10]
      by_cases c : P = 0
      · subst c
        rw [if_pos nI_0, if_pos nI_0]; exact ⟨_, _, _, _, _, _, _, _, _, _, rfl, rfl⟩
      · have c' : ¬ nI P = 0 := nI_ne0 (by omega) (by omega)
        rw [if_neg c', if_neg c']
        obtain ⟨a1, a2, a3, a4, a5, f1, f2, hR2⟩ := e_drift_L (N := k) hk hP (by omega) h.2.2.1 k 0 x Da Mo De n1 paid 400 400 (by omega) (by omega) (by omega) hR h.2.2.2.1 h.2.2.2.2
        rw [nI_0] at f1 f2
        unfold f_X1_become
        rw [b7_some, f1, b3_some, f2, b2_some, X_owedInAll hP, b1_some, X_riders hP, b1_some, M_allOwed hR2 hP, b1_some, M_riding hR2 hP, b1_some]
        by_cases c0 : z = 0
        · rw [if_pos c0, if_pos c0]; exact ⟨_, _, _, _, _, _, _, _, _, _, rfl, rfl⟩
        rw [if_neg c0, if_neg c0]; exact ⟨_, _, _, _, _, _, _, _, _, _, rfl, rfl⟩
    · rw [s]; exact ⟨_, _, _, _, _, _, _, _, _, _, rfl, rfl⟩
  · rw [t]; exact ⟨_, _, _, _, _, _, _, _, _, _, rfl, rfl⟩
end E5
