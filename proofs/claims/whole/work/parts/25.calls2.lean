/-! ===== L2: loans, payments, days, nets ===== -/
section E2
variable {P : Nat} {st now : Nat → Int32} {Da Dr : Int32} {Na Mo Wa De : Nat → Int32}
def dMo (P : Nat) (Na Wa : Nat → Int32) (dry : Int32) (Mo De : Nat → Int32) : Nat → Int32 := (dayR P Na Wa dry 0 Mo De).2.1
def dDe (P : Nat) (Na Wa : Nat → Int32) (dry : Int32) (Mo De : Nat → Int32) : Nat → Int32 := (dayR P Na Wa dry 0 Mo De).2.2
theorem M_day (h : RR P now Da Dr Na Mo Wa De) (hN : NaOK P Na) (hP : P ≤ 5) (paid : Int32) : ∃ now' paid', f_X8_dayGoes now (nI P) paid = some (now', paid') ∧ RR P now' (Da + 1) Dr Na (dMo P Na Wa Dr Mo De) Wa (dDe P Na Wa Dr Mo De) := by
  obtain ⟨n1, e1, h1⟩ := M_dayGoes h hN hP paid
  rw [dayR_paid] at h1
  exact ⟨n1, _, e1, h1⟩
theorem dDe_ok (hP : P ≤ 5) {dry : Int32} (h1 : DeOK De) (h2 : DG De) : DeOK (dDe P Na Wa dry Mo De) ∧ DG (dDe P Na Wa dry Mo De) := dayR_ok hP h1 h2
/-- how a row that was settled stands -/
theorem e_settle {n1 : Nat → Int32} {Da' Dr' : Int32} {Na' Mo' Wa' De' : Nat → Int32} (st : Nat → Int32) (hP : P ≤ 5) (hR : RR P n1 Da' Dr' Na' Mo' Wa' De') (hs : ∀ j, 42 ≤ j → j < 61 → n1 j = st j) : ∃ st', f_X8_settles st n1 = some st' ∧ RR P st' Da' Dr' Na' Mo' Wa' De' ∧ ∀ j, 42 ≤ j → st' j = st j := by
  obtain ⟨s1, e1, a1, b1⟩ := M_settles st n1
  refine ⟨s1, e1, hR.same hP (fun j hj => a1 j (by omega)), fun j hj => ?_⟩
  by_cases c : j < 61
  · rw [a1 j c]; exact hs j hj c
  · exact b1 j (by omega)
/-! what is not the land's in the row stays -/
def Kp (a b : Nat → Int32) : Prop := ∀ j, 42 ≤ j → b j = a j
theorem Kp.rf {a : Nat → Int32} : Kp a a := fun _ _ => rfl
theorem Kp.tr {a b c : Nat → Int32} (h : Kp a b) (g : Kp b c) : Kp a c := fun j hj => (g j hj).trans (h j hj)
theorem Kp.up {a : Nat → Int32} {i : Nat} {v : Int32} (h : i < 42) : Kp a (upd a i v) := fun j hj => upd_n (by omega)
theorem K_becomesOf {p : Nat} (hp : p < 5) {c v : Int32} {n' : Nat → Int32} (k : Nat) (hk : k < 3) (hc : c = nI k) (h : f_X8_becomesOf now (nI p) c v = some n') : Kp now n' := by
  rw [M_becomesOf hp k hk hc] at h
  cases h; exact Kp.up (by omega)
theorem K_gets {p : Nat} (hp : p < 5) {v : Int32} {n' : Nat → Int32} (h : f_X8_gets now (nI p) v = some n') : Kp now n' := by
  unfold f_X8_gets at h
  rw [M_of1 hp, b1_some, lesser_eq, b1_some, M_bec1 hp, b1_some] at h
  cases h; exact Kp.up (by omega)
theorem K_paysTo {p q : Nat} (hp : p < 5) (hq : q < 5) {v : Int32} {n' : Nat → Int32} (h : f_X8_paysTo now (nI p) (nI q) v = some n') : Kp now n' := by
  unfold f_X8_paysTo at h
  rw [ix15, rd_nI (by omega) (by omega), b1_some, wr_nI (by omega) (by omega), b1_some, M_of1 hp, b1_some, M_bec1 hp, b1_some] at h
  obtain ⟨n2, e2, h2⟩ := b1_inv h
  cases h2
  exact ((Kp.up (by omega)).tr (Kp.up (by omega))).tr (K_gets hq e2)
theorem K_pay_L {p : Nat} (hp : p < 5) (hP : P ≤ 5) : ∀ (n q : Nat) (left : Int32) (now : Nat → Int32) (paid : Int32) (r : (Nat → Int32) × Int32), q ≤ P → f_X8_dayGoes_L63 (nI P) (nI p) n left (nI q) now paid = some r → Kp now r.1 := by
  intro n
  induction n with
  | zero => intro q left now paid r _ h; rw [f_X8_dayGoes_L63] at h; cases h
  | succ n ih =>
    intro q left now paid r hq h
    rw [f_X8_dayGoes_L63] at h
    by_cases c : q = P
    · subst c; rw [if_pos (Int32.le_refl _)] at h; cases h; exact Kp.rf
    · rw [if_neg (nI_ge (by omega) (by omega)), M_debt0 hp (by omega), b1_some, lesser_eq, b1_some, nI_1] at h
      by_cases c2 : mn left (now (15 + (5 * p + q))) ≤ 0
      · rw [if_pos c2] at h; exact ih _ _ _ _ _ (by omega) h
      · rw [if_neg c2] at h
        obtain ⟨n2, e2, h2⟩ := b1_inv h
        exact (K_paysTo hp (by omega) e2).tr (ih _ _ _ _ _ (by omega) h2)
theorem K_earn_L (hP : P ≤ 5) : ∀ (n p : Nat) (now r : Nat → Int32), p ≤ P → f_X8_dayGoes_L2 (nI P) n (nI p) now = some r → Kp now r := by
  intro n
  induction n with
  | zero => intro p now r _ h; rw [f_X8_dayGoes_L2] at h; cases h
  | succ n ih =>
    intro p now r hq h
    rw [f_X8_dayGoes_L2] at h
    by_cases c : p = P
    · subst c; rw [if_pos (Int32.le_refl _)] at h; cases h; exact Kp.rf
    · rw [if_neg (nI_ge (by omega) (by omega)), M_of2 (by omega), b1_some, nI_1] at h
      obtain ⟨a, ea, h⟩ := b1_inv h
      obtain ⟨b, eb, h⟩ := b1_inv h
      obtain ⟨n2, e2, h2⟩ := b1_inv h
      exact (K_gets (by omega) e2).tr (ih _ _ _ (by omega) h2)
theorem K_out_L (hP : P ≤ 5) : ∀ (n p : Nat) (now : Nat → Int32) (paid : Int32) (r : (Nat → Int32) × Int32), p ≤ P → f_X8_dayGoes_L47 (nI P) n (nI p) now paid = some r → Kp now r.1 := by
  intro n
  induction n with
  | zero => intro p now paid r _ h; rw [f_X8_dayGoes_L47] at h; cases h
  | succ n ih =>
    intro p now paid r hq h
    rw [f_X8_dayGoes_L47] at h
    by_cases c : p = P
    · subst c; rw [if_pos (Int32.le_refl _)] at h; cases h; exact Kp.rf
    · rw [if_neg (nI_ge (by omega) (by omega)), nI_1] at h
      obtain ⟨a, ea, h⟩ := b1_inv h
      obtain ⟨n2, q2, e2, h2⟩ := b2_inv h
      have e2' : f_X8_dayGoes_L63 (nI P) (nI p) 400 a (nI 0) now paid = some (n2, q2) := by rw [nI_0]; exact e2
      exact (K_pay_L (by omega) hP 400 0 _ _ _ _ (by omega) e2').tr (ih _ _ _ _ (by omega) h2)
theorem K_day (hP : P ≤ 5) {paid paid' : Int32} {n' : Nat → Int32} (h : f_X8_dayGoes now (nI P) paid = some (n', paid')) : Kp now n' := by
  unfold f_X8_dayGoes at h
  obtain ⟨n1, e1, h⟩ := b1_inv h
  obtain ⟨n2, q2, e2, h⟩ := b2_inv h
  obtain ⟨a, ea, h⟩ := b1_inv h
  obtain ⟨n3, e3, h⟩ := b1_inv h
  cases h
  obtain ⟨-, rfl⟩ := wr_inv e3
  have e1' : f_X8_dayGoes_L2 (nI P) 400 (nI 0) now = some n1 := by rw [nI_0]; exact e1
  have e2' : f_X8_dayGoes_L47 (nI P) 400 (nI 0) n1 paid = some (n2, paid') := by rw [nI_0]; exact e2
  exact ((K_earn_L hP 400 0 _ _ (by omega) e1').tr (K_out_L hP 400 0 _ _ _ (by omega) e2')).tr (Kp.up (by decide))
theorem K_days_L (hP : P ≤ 5) {N : Nat} (hN : N < 1000) : ∀ (n i : Nat) (now : Nat → Int32) (paid : Int32) (r : (Nat → Int32) × Int32), i ≤ N → f_X8_daysGo_L7 (nI P) (nI N) n (nI i) now paid = some r → Kp now r.1 := by
  intro n
  induction n with
  | zero => intro i now paid r _ h; rw [f_X8_daysGo_L7] at h; cases h
  | succ n ih =>
    intro i now paid r hq h
    rw [f_X8_daysGo_L7] at h
    by_cases c : i = N
    · subst c; rw [if_pos (Int32.le_refl _)] at h; cases h; exact Kp.rf
    · rw [if_neg (nI_ge (by omega) (by omega)), nI_1] at h
      obtain ⟨n2, q2, e2, h2⟩ := b2_inv h
      exact (K_day hP e2).tr (ih _ _ _ _ (by omega) h2)
theorem K_days (hP : P ≤ 5) {N : Nat} (hN : N < 1000) {paid : Int32} {n' : Nat → Int32} (h : f_X8_daysGo now (nI P) (nI N) = some (n', paid)) : Kp now n' := by
  unfold f_X8_daysGo at h
  obtain ⟨n2, q2, e2, h⟩ := b2_inv h
  cases h
  have e2' : f_X8_daysGo_L7 (nI P) (nI N) 400 (nI 0) now 0 = some (n', paid) := by rw [nI_0]; exact e2
  exact K_days_L hP hN 400 0 _ _ _ (by omega) e2'
theorem e_days (h : LI P st Da Dr Na Mo Wa De) (now : Nat → Int32) (paid x : Int32) : ∃ r Da' Mo' De' st' now' paid', f_X7_days (nI P) Da Dr Na Mo Wa De x = some (r, Da', Mo', De') ∧ f_X8_days st now (nI P) paid x = some (r, st', now', paid') ∧ LI P st' Da' Dr Na Mo' Wa De' ∧ Kp st st' := by
  obtain ⟨n1, e1, h1, hR⟩ := e_start h now
  have hP := h.1
  unfold f_X7_days f_X8_days
  have r40 : rd st 183 40 = some (st 40) := rd183 (i := 40) (by omega)
  rw [X_within x 0 30 rfl rfl, M_in x 0 30 rfl rfl, r40, h.2.1.1]
  simp only [b1_some]
  rcases tb_cases x 0 30 with ⟨t, -⟩ | ⟨t, -⟩
  · obtain ⟨k, -, hk, rfl⟩ := tb_nI (lo := 0) (hi := 30) t
    rw [t, if_neg n10, if_neg n10]
    by_cases c : Da + nI k ≤ 999
    · obtain ⟨n2, e2, h2⟩ := M_daysGo (N := k) hR h.2.2.1 hP (by omega)
      have k2 := K_days hP (by omega) e2
      obtain ⟨s1, e3, h3, h4⟩ := e_settle st hP h2 (fun j a b => by rw [k2 j a]; exact h1 j b)
      rw [if_pos c, if_pos c, X_runDays hP (by omega), b4_some, e1, b1_some, e2, b2_some, e3, b1_some]
      obtain ⟨g1, g2⟩ := daysR_ok (Na := Na) (Wa := Wa) (Dr := Dr) hP k 0 Mo De h.2.2.2.1 h.2.2.2.2
      exact ⟨_, _, _, _, _, _, _, rfl, rfl, ⟨hP, h3, h.2.2.1, g1, g2⟩, h4⟩
    · rw [if_neg c, if_neg c]; exact ⟨_, _, _, _, _, _, _, rfl, rfl, h, Kp.rf⟩
  · rw [t]; exact ⟨_, _, _, _, _, _, _, rfl, rfl, h, Kp.rf⟩
theorem e_pay (h : LI P st Da Dr Na Mo Wa De) (now : Nat → Int32) (x y v : Int32) : ∃ r Mo' De' st' now', f_X1_payTo (nI P) Mo De x y v = some (r, Mo', De') ∧ f_X8_pay st now (nI P) x y v = some (r, st', now') ∧ LI P st' Da Dr Na Mo' Wa De' ∧ Kp st st' ∧ (r < 0 → Mo' = Mo ∧ De' = De ∧ st' = st) := by
  obtain ⟨n1, e1, h1, hR⟩ := e_start h now
  have hP := h.1
  unfold f_X1_payTo f_X8_pay
  rw [X_hasPair hP, X_within v 1 99 rfl rfl, M_in v 1 99 rfl rfl]
  rcases pair_cases hP x y with c | ⟨p, q, hp, hq, hne, rfl, rfl, c⟩
  · rw [c]; exact ⟨_, _, _, _, _, rfl, rfl, h, Kp.rf, fun _ => ⟨rfl, rfl, rfl⟩⟩
  simp only [c, b1_some, if_neg n10]
  rcases tb_cases v 1 99 with ⟨t, -⟩ | ⟨t, -⟩
  · obtain ⟨k, hk1, hk, rfl⟩ := tb_nI (lo := 1) (hi := 99) t
    rw [t, if_neg n10, if_neg n10, X_debt (by omega) (by omega), b1_some, e1, b1_some, M_debt hR (by omega) (by omega), b1_some, rd_nI (by omega) (by omega), b1_some, M_of1 (by omega), b1_some, (hR.2.2.1 p hp).2.1]
    by_cases c1 : De (5 * p + q) < nI k
    · rw [if_pos c1, if_pos c1]; exact ⟨_, _, _, _, _, rfl, rfl, h, Kp.rf, fun _ => ⟨rfl, rfl, rfl⟩⟩
    rw [if_neg c1, if_neg c1]
    by_cases c2 : nI k ≤ Mo p
    · obtain ⟨n2, e2, h2⟩ := M_paysTo hR hp hq hP (nI k)
      have k2 := K_paysTo (by omega) (by omega) e2
      obtain ⟨s1, e3, h3, h4⟩ := e_settle st hP h2 (fun j a b => by rw [k2 j a]; exact h1 j b)
      rw [if_pos c2, if_pos c2, X_handOver (by omega) (by omega), b2_some, X_debt (by omega) (by omega), b1_some, e2, b1_some, e3, b1_some, M_debt h2 (by omega) (by omega), b1_some]
      obtain ⟨m, hm, em⟩ := h.2.2.2.1 (5 * p + q) (by omega)
      have hkm : k ≤ m := by
        rw [em] at c1
        exact Nat.not_lt.mp (fun z => c1 (nI_lt z (by omega)))
      have ed : payDe De p q (nI k) (5 * p + q) = nI (m - k) := by unfold payDe; rw [upd_s, em, pk_sub hkm]
      refine ⟨_, _, _, _, _, rfl, rfl, ⟨hP, h3, h.2.2.1, ?_, h.2.2.2.2.upd (by omega) (by omega) hne _⟩, h4, fun hneg => ?_⟩
      · unfold payDe; rw [em, pk_sub hkm]; exact h.2.2.2.1.upd (by omega)
      · rw [ed] at hneg; exact absurd hneg (nI_pos (by omega))
    · rw [if_neg c2, if_neg c2]; exact ⟨_, _, _, _, _, rfl, rfl, h, Kp.rf, fun _ => ⟨rfl, rfl, rfl⟩⟩
  · rw [t]; exact ⟨_, _, _, _, _, rfl, rfl, h, Kp.rf, fun _ => ⟨rfl, rfl, rfl⟩⟩
/-- a loan on the row, and what it is to the land -/
def lendMo (Mo : Nat → Int32) (p q : Nat) (v : Int32) : Nat → Int32 := upd (upd Mo p (Mo p - v)) q (upd Mo p (Mo p - v) q + v)
theorem lend_both (hR : RR P now Da Dr Na Mo Wa De) (hP : P ≤ 5) {p q k : Nat} (hp : p < P) (hq : q < P) (hk1 : 1 ≤ k) (hk : k ≤ 99) (hD : DeOK De) (hG : DG De) : (∃ now', f_X8_lendsNow now (nI p) (nI q) (nI k) = some (0, now') ∧ now' = now ∧ (p = q ∨ f_X1_lendTo (nI P) Mo De (nI p) (nI q) (nI k) = some (-2, Mo, De))) ∨ (∃ now' m, p ≠ q ∧ m ≤ 99 ∧ f_X8_lendsNow now (nI p) (nI q) (nI k) = some (1, now') ∧ f_X1_lendTo (nI P) Mo De (nI p) (nI q) (nI k) = some (nI m, lendMo Mo p q (nI k), upd De (5 * q + p) (nI m)) ∧ RR P now' Da Dr Na (lendMo Mo p q (nI k)) Wa (upd De (5 * q + p) (nI m)) ∧ Kp now now') := by
  have tk : tb (nI k) 1 99 = 1 := by unfold tb; rw [if_pos]; rw [nI_toInt (by omega)]; omega
  by_cases hne : p = q
  · left
    subst hne
    refine ⟨now, ?_, rfl, Or.inl rfl⟩
    unfold f_X8_lendsNow
    rw [if_pos rfl]; rfl
  have hxy : ¬ nI p = nI q := fun e => hne ((nI_eq (by omega) (by omega)).mp e)
  have two : f_X1_hasPair (nI P) (nI p) (nI q) = some 1 := by
    rw [X_hasPair hP]
    rcases pair_cases hP (nI p) (nI q) with c | ⟨_, _, _, _, _, _, _, c⟩
    · exfalso
      unfold f_X8_areTwo at c
      rw [M_isOne hP, M_isOne hP, b1_some, b1_some] at c
      have e1 : tb (nI p) 0 ((P : Int) - 1) = 1 := by unfold tb; rw [if_pos]; rw [nI_toInt (by omega)]; omega
      have e2 : tb (nI q) 0 ((P : Int) - 1) = 1 := by unfold tb; rw [if_pos]; rw [nI_toInt (by omega)]; omega
      rw [e1, e2, if_neg n10, if_neg n10, if_neg hxy] at c
      cases c
    · exact c
  unfold f_X8_lendsNow f_X1_lendTo
  rw [two, X_within (nI k) 1 99 rfl rfl, tk, if_neg hxy, M_of1 (by omega), M_debt hR (by omega) (by omega), X_debt (by omega) (by omega), M_of1 (by omega), (hR.2.2.1 p hp).2.1, (hR.2.2.1 q hq).2.1, rd_nI (by omega) (by omega), rd_nI (by omega) (by omega)]
  simp only [b1_some, if_neg n10]
  by_cases c1 : Mo p < nI k
  · left
    rw [if_pos c1, if_pos c1]
    exact ⟨_, rfl, rfl, Or.inr rfl⟩
  rw [if_neg c1, if_neg c1]
  by_cases c2 : 99 < De (5 * q + p) + nI k
  · left
    rw [if_pos c2, if_pos c2]
    exact ⟨_, rfl, rfl, Or.inr rfl⟩
  rw [if_neg c2, if_neg c2]
  by_cases c3 : Mo q + nI k ≤ 999
  · right
    have hw3 : ¬ 999 < Mo q + nI k := Int32.not_lt.mpr c3
    rw [if_pos c3, if_neg hw3]
    obtain ⟨m0, hm0, em0⟩ := hD (5 * q + p) (by omega)
    have e99 : (99 : Int32) = nI 99 := rfl
    rw [em0, nI_add, e99] at c2
    have hm : m0 + k ≤ 99 := Nat.not_lt.mp (fun z => c2 (nI_lt z (by omega)))
    have ed : now (15 + 5 * q + p) = De (5 * q + p) := by rw [Nat.add_assoc]; exact hR.2.2.2 _ (by omega)
    rw [ix15, rd_nI (f := now) (n := 61) (by omega) (by omega)]
    simp only [b1_some, if_neg n10]
    rw [ed, em0, nI_add, wr_nI (f := now) (n := 61) (by omega) (by omega), wr_nI (f := Mo) (n := 5) (by omega) (by omega), Nat.add_assoc]
    simp only [b1_some]
    have h1 := hR.debt (i := 5 * q + p) (by omega) hP (nI (m0 + k))
    rw [M_of1 (by omega), b1_some, (h1.2.2.1 p hp).2.1, M_bec1 (by omega), b1_some]
    have h2 := h1.money (p := p) (by omega) hP (Mo p - nI k)
    obtain ⟨n2, e2, h3⟩ := M_gets h2 hq hP (nI k)
    rw [e2, b1_some, rd_nI (by omega) (by omega), b1_some, wr_nI (by omega) (by omega), b1_some, X_setDebt (by omega) (by omega), b1_some]
    have eg : gainF (upd Mo p (Mo p - nI k)) q (nI k) = lendMo Mo p q (nI k) := by
      unfold gainF lendMo
      rw [upd_n (f := Mo) (Ne.symm hne), if_pos c3]
    rw [eg] at h3
    exact ⟨n2, m0 + k, hne, hm, rfl, rfl, h3, ((Kp.up (by omega)).tr (Kp.up (by omega))).tr (K_gets (by omega) e2)⟩
  · left
    rw [if_neg c3, if_pos (Int32.not_le.mp c3)]
    exact ⟨_, rfl, rfl, Or.inr rfl⟩
theorem e_lend (h : LI P st Da Dr Na Mo Wa De) (now : Nat → Int32) (x y v : Int32) : ∃ r Mo' De' st' now', f_X1_lendTo (nI P) Mo De x y v = some (r, Mo', De') ∧ f_X8_lend st now (nI P) x y v = some (r, st', now') ∧ LI P st' Da Dr Na Mo' Wa De' ∧ Kp st st' := by
  obtain ⟨n1, e1, h1, hR⟩ := e_start h now
  have hP := h.1
  unfold f_X8_lend
  rcases pair_cases hP x y with c | ⟨p, q, hp, hq, hne, rfl, rfl, c⟩
  · unfold f_X1_lendTo
    rw [X_hasPair hP, c]; exact ⟨_, _, _, _, _, rfl, rfl, h, Kp.rf⟩
  rcases tb_cases v 1 99 with ⟨t, -⟩ | ⟨t, -⟩
  · obtain ⟨k, hk1, hk, rfl⟩ := tb_nI (lo := 1) (hi := 99) t
    rw [M_in (nI k) 1 99 rfl rfl, t]
    simp only [c, b1_some, if_neg n10]
    rw [e1, b1_some]
    rcases lend_both hR hP hp hq hk1 hk h.2.2.2.1 h.2.2.2.2 with ⟨n2, e2, -, z | e3⟩ | ⟨n2, m, -, hm, e2, e3, h2, k2⟩
    · exact absurd z hne
    · rw [e2, b2_some, if_pos rfl]; exact ⟨_, _, _, _, _, e3, rfl, h, Kp.rf⟩
    · obtain ⟨s1, e4, h3, h4⟩ := e_settle st hP h2 (fun j a b => by rw [k2 j a]; exact h1 j b)
      rw [e2, b2_some, if_neg n10, e4, b1_some, M_debt h2 (by omega) (by omega), b1_some, upd_s]
      exact ⟨_, _, _, _, _, e3, rfl, ⟨hP, h3, h.2.2.1, h.2.2.2.1.upd hm, h.2.2.2.2.upd (by omega) (by omega) (Ne.symm hne) _⟩, h4⟩
  · unfold f_X1_lendTo
    rw [X_hasPair hP, M_in v 1 99 rfl rfl, X_within v 1 99 rfl rfl, t]
    simp only [c, b1_some, if_neg n10]
    exact ⟨_, _, _, _, _, rfl, rfl, h, Kp.rf⟩
theorem X_netOf {p : Nat} (hp : p < 5) (hP : P ≤ 5) : f_X1_netOf (nI P) De (nI p) = some (owes De P p - owed De P p) := by
  unfold f_X1_netOf
  rw [X_owedBy hp hP, b1_some, X_owedTo hp hP, b1_some]
theorem M_netOf {p : Nat} (hR : RR P now Da Dr Na Mo Wa De) (hp : p < 5) (hP : P ≤ 5) : f_X8_netOf now (nI P) (nI p) = some (owes De P p - owed De P p) := by
  unfold f_X8_netOf
  rw [M_owesAll hR hp hP, b1_some, M_isOwed hR hp hP, b1_some]
theorem e_net (h : LI P st Da Dr Na Mo Wa De) (now : Nat → Int32) (x : Int32) : ∃ r now', f_X7_net (nI P) De x = some r ∧ f_X8_net st now (nI P) x = some (r, now') := by
  obtain ⟨n1, e1, h1, hR⟩ := e_start h now
  have hP := h.1
  unfold f_X7_net f_X8_net
  rw [X_has hP, M_isOne hP, b1_some, b1_some]
  rcases one_cases hP x with c | ⟨p, hp, rfl, c⟩
  · rw [c]; exact ⟨_, _, rfl, rfl⟩
  · rw [c, if_neg n10, if_neg n10, e1, b1_some, X_netOf (by omega) hP, b1_some, M_netOf hR (by omega) hP, b1_some, Int32.add_comm 1000]
    exact ⟨_, _, rfl, rfl⟩
def leastR (De : Nat → Int32) (P : Nat) : Int32 := acc (fun p => if 0 < owes De P p - owed De P p then owes De P p - owed De P p else 0) 0 P 0
theorem X_least_L (hP : P ≤ 5) : ∀ (d p : Nat) (s : Int32) (n : Nat), p + d = P → d < n → f_X7_least_L4 (nI P) De n s (nI p) = some (acc (fun p => if 0 < owes De P p - owed De P p then owes De P p - owed De P p else 0) p d s) := by
  intro d
  induction d with
  | zero =>
    intro p s n hq hn
    obtain ⟨n, rfl⟩ : ∃ m, n = m + 1 := ⟨n - 1, by omega⟩
    rw [f_X7_least_L4, if_pos (nI_le (by omega) (by omega))]; rfl
  | succ d ih =>
    intro p s n hq hn
    obtain ⟨n, rfl⟩ : ∃ m, n = m + 1 := ⟨n - 1, by omega⟩
    rw [f_X7_least_L4, if_neg (nI_ge (by omega) (by omega)), X_netOf (by omega) hP, b1_some, b1_some, nI_1, ih (p + 1) _ n (by omega) (by omega)]; rfl
theorem M_least_L (hR : RR P now Da Dr Na Mo Wa De) (hP : P ≤ 5) : ∀ (d p : Nat) (s : Int32) (n : Nat), p + d = P → d < n → f_X8_least_L8 (nI P) now n s (nI p) = some (acc (fun p => if 0 < owes De P p - owed De P p then owes De P p - owed De P p else 0) p d s) := by
  intro d
  induction d with
  | zero =>
    intro p s n hq hn
    obtain ⟨n, rfl⟩ : ∃ m, n = m + 1 := ⟨n - 1, by omega⟩
    rw [f_X8_least_L8, if_pos (nI_le (by omega) (by omega))]; rfl
  | succ d ih =>
    intro p s n hq hn
    obtain ⟨n, rfl⟩ : ∃ m, n = m + 1 := ⟨n - 1, by omega⟩
    have e : (if owes De P p - owed De P p ≤ 0 then some (0 : Int32) else some (owes De P p - owed De P p)) = some (if 0 < owes De P p - owed De P p then owes De P p - owed De P p else 0) := by
      by_cases c : owes De P p - owed De P p ≤ 0
      · rw [if_pos c, if_neg (Int32.not_lt.mpr c)]
      · rw [if_neg c, if_pos (Int32.not_le.mp c)]
    rw [f_X8_least_L8, if_neg (nI_ge (by omega) (by omega)), M_netOf hR (by omega) hP]
    simp only [b1_some]
    rw [e, b1_some, nI_1, ih (p + 1) _ n (by omega) (by omega)]; rfl
theorem e_least (h : LI P st Da Dr Na Mo Wa De) (now : Nat → Int32) : ∃ r now', f_X7_least (nI P) De = some r ∧ f_X8_least st now (nI P) = some (r, now') := by
  obtain ⟨n1, e1, h1, hR⟩ := e_start h now
  have hP := h.1
  unfold f_X7_least f_X8_least
  have a := X_least_L (De := De) hP P 0 0 400 (by omega) (by omega)
  have b := M_least_L hR hP P 0 0 400 (by omega) (by omega)
  rw [nI_0] at a b
  rw [a, e1, b1_some, b1_some, b, b1_some]
  exact ⟨_, _, rfl, rfl⟩
end E2
