/-! ===== L2: what holds of a land, and stays ===== -/
def DeOK (De : Nat → Int32) : Prop := ∀ i, i < 25 → ∃ k, k ≤ 99 ∧ De i = nI k
def DG (De : Nat → Int32) : Prop := ∀ p, p < 5 → De (6 * p) = 0
/-- the land of P people, told by the class's rows and by the reference's row -/
def LI (P : Nat) (st : Nat → Int32) (Da Dr : Int32) (Na Mo Wa De : Nat → Int32) : Prop := P ≤ 5 ∧ RR P st Da Dr Na Mo Wa De ∧ NaOK P Na ∧ DeOK De ∧ DG De
theorem LI.same {P : Nat} {a b : Nat → Int32} {Da Dr : Int32} {Na Mo Wa De : Nat → Int32} (h : LI P a Da Dr Na Mo Wa De) (hab : ∀ j, j < 42 → b j = a j) : LI P b Da Dr Na Mo Wa De := ⟨h.1, h.2.1.same h.1 hab, h.2.2⟩
theorem DeOK.upd {De : Nat → Int32} (h : DeOK De) {i k : Nat} (hk : k ≤ 99) : DeOK (upd De i (nI k)) := by
  intro j hj
  by_cases c : j = i
  · subst c; exact ⟨k, hk, upd_s⟩
  · rw [upd_n c]; exact h j hj
theorem DG.upd {De : Nat → Int32} (h : DG De) {p q : Nat} (hp : p < 5) (hq : q < 5) (hpq : p ≠ q) (v : Int32) : DG (upd De (5 * p + q) v) := by
  intro j hj
  rw [upd_n (by omega)]; exact h j hj
theorem mn_part {left : Int32} {k : Nat} (hk : k ≤ 99) (h : ¬ mn left (nI k) ≤ 0) : ∃ m, m ≤ k ∧ mn left (nI k) = nI m := by
  unfold mn at h ⊢
  by_cases c : nI k < left
  · rw [if_pos c]; exact ⟨k, Nat.le_refl k, rfl⟩
  · rw [if_neg c] at h ⊢
    exact nI_of2 (nI_toInt (by omega)) (fun z => h (Int32.le_of_lt z)) (Int32.not_lt.mp c)
theorem payR_ok {p : Nat} (hp : p < 5) : ∀ (d q : Nat) (left : Int32) (Mo De : Nat → Int32), q + d ≤ 5 → DeOK De → DG De → DeOK (payR p d q left Mo De).2.2 ∧ DG (payR p d q left Mo De).2.2 := by
  intro d
  induction d with
  | zero => intro q left Mo De _ h1 h2; exact ⟨h1, h2⟩
  | succ d ih =>
    intro q left Mo De hq h1 h2
    rw [payR]
    by_cases c : mn left (De (5 * p + q)) ≤ 0
    · rw [if_pos c]; exact ih (q + 1) left Mo De (by omega) h1 h2
    · rw [if_neg c]
      obtain ⟨k, hk, ek⟩ := h1 (5 * p + q) (by omega)
      have c' := c
      rw [ek] at c'
      obtain ⟨m, hm, em⟩ := mn_part hk c'
      have hne : p ≠ q := by
        intro e
        subst e
        have z := h2 p hp
        rw [show 5 * p + p = 6 * p by omega, z] at ek
        have : k = 0 := by
          have := congrArg Int32.toInt ek
          rw [nI_toInt (by omega)] at this
          have h0 : (0 : Int32).toInt = 0 := rfl
          omega
        subst this
        have : m = 0 := by omega
        subst this
        rw [em] at c'
        exact c' (by decide)
      refine ih (q + 1) _ _ _ (by omega) ?_ ?_
      · unfold payDe
        rw [ek, em, pk_sub hm]
        exact h1.upd (by omega)
      · exact h2.upd hp (by omega) hne _
theorem outR_ok {Na : Nat → Int32} {P : Nat} (hP : P ≤ 5) : ∀ (d p : Nat) (paid : Int32) (Mo De : Nat → Int32), p + d ≤ 5 → DeOK De → DG De → DeOK (outR Na P d p paid Mo De).2.2 ∧ DG (outR Na P d p paid Mo De).2.2 := by
  intro d
  induction d with
  | zero => intro p paid Mo De _ h1 h2; exact ⟨h1, h2⟩
  | succ d ih =>
    intro p paid Mo De hp h1 h2
    rw [outR]
    obtain ⟨g1, g2⟩ := payR_ok (p := p) (by omega) P 0 (will Na Mo De P p) Mo De (by omega) h1 h2
    exact ih (p + 1) _ _ _ (by omega) g1 g2
theorem dayR_ok {P : Nat} {Na Wa : Nat → Int32} {dry paid : Int32} {Mo De : Nat → Int32} (hP : P ≤ 5) (h1 : DeOK De) (h2 : DG De) : DeOK (dayR P Na Wa dry paid Mo De).2.2 ∧ DG (dayR P Na Wa dry paid Mo De).2.2 := outR_ok hP P 0 _ _ _ (by omega) h1 h2
/-! days in a row -/
def daysR (P : Nat) (Na Wa : Nat → Int32) (dry : Int32) : Nat → Int32 → (Nat → Int32) → (Nat → Int32) → Int32 × (Nat → Int32) × (Nat → Int32)
  | 0, paid, Mo, De => (paid, Mo, De)
  | d + 1, paid, Mo, De => daysR P Na Wa dry d (dayR P Na Wa dry paid Mo De).1 (dayR P Na Wa dry paid Mo De).2.1 (dayR P Na Wa dry paid Mo De).2.2
section LD
variable {P p q : Nat} {now : Nat → Int32} {Da Dr : Int32} {Na Mo Wa De : Nat → Int32}
theorem daysR_ok (hP : P ≤ 5) : ∀ (d : Nat) (paid : Int32) (Mo De : Nat → Int32), DeOK De → DG De → DeOK (daysR P Na Wa Dr d paid Mo De).2.2 ∧ DG (daysR P Na Wa Dr d paid Mo De).2.2 := by
  intro d
  induction d with
  | zero => intro paid Mo De h1 h2; exact ⟨h1, h2⟩
  | succ d ih =>
    intro paid Mo De h1 h2
    rw [daysR]
    obtain ⟨g1, g2⟩ := dayR_ok (Na := Na) (Wa := Wa) (dry := Dr) (paid := paid) (Mo := Mo) hP h1 h2
    exact ih _ _ _ g1 g2
theorem X_runDays_L {N : Nat} (hP : P ≤ 5) (hN : N < 1000) : ∀ (d i : Nat) (paid Da : Int32) (Mo De : Nat → Int32) (n : Nat), i + d = N → d < n → f_X1_runDays_L4 (nI P) Dr Na Wa (nI N) n paid (nI i) Da Mo De = some ((daysR P Na Wa Dr d paid Mo De).1, Da + nI d, (daysR P Na Wa Dr d paid Mo De).2.1, (daysR P Na Wa Dr d paid Mo De).2.2) := by
  intro d
  induction d with
  | zero =>
    intro i paid Da Mo De n hi hn
    obtain ⟨n, rfl⟩ : ∃ m, n = m + 1 := ⟨n - 1, by omega⟩
    rw [f_X1_runDays_L4, if_pos (nI_le (by omega) (by omega)), nI_0, Int32.add_zero]; rfl
  | succ d ih =>
    intro i paid Da Mo De n hi hn
    obtain ⟨n, rfl⟩ : ∃ m, n = m + 1 := ⟨n - 1, by omega⟩
    rw [f_X1_runDays_L4, if_neg (nI_ge (by omega) (by omega)), X_runDay hP, b4_some, nI_1, ih (i + 1) _ _ _ _ n (by omega) (by omega), daysR, dayR_paid P Na Wa Dr paid, nI_succ]
    have e : Da + 1 + nI d = Da + (nI d + 1) := by rw [Int32.add_assoc, Int32.add_comm 1]
    rw [e]
theorem X_runDays {N : Nat} (hP : P ≤ 5) (hN : N < 400) : f_X1_runDays (nI P) Da Dr Na Mo Wa De (nI N) = some ((daysR P Na Wa Dr N 0 Mo De).1, Da + nI N, (daysR P Na Wa Dr N 0 Mo De).2.1, (daysR P Na Wa Dr N 0 Mo De).2.2) := by
  unfold f_X1_runDays
  have h := X_runDays_L (Na := Na) (Wa := Wa) (Dr := Dr) (N := N) hP (by omega) N 0 0 Da Mo De 400 (by omega) (by omega)
  rw [nI_0] at h
  rw [h]; rfl
theorem M_daysGo_L {N : Nat} (hN : NaOK P Na) (hP : P ≤ 5) (hN2 : N < 1000) : ∀ (d i : Nat) (paid Da : Int32) (now Mo De : Nat → Int32) (n : Nat), RR P now Da Dr Na Mo Wa De → i + d = N → d < n → ∃ now', f_X8_daysGo_L7 (nI P) (nI N) n (nI i) now paid = some (now', (daysR P Na Wa Dr d paid Mo De).1) ∧ RR P now' (Da + nI d) Dr Na (daysR P Na Wa Dr d paid Mo De).2.1 Wa (daysR P Na Wa Dr d paid Mo De).2.2 := by
  intro d
  induction d with
  | zero =>
    intro i paid Da now Mo De n h hi hn
    obtain ⟨n, rfl⟩ : ∃ m, n = m + 1 := ⟨n - 1, by omega⟩
    rw [f_X8_daysGo_L7, if_pos (nI_le (by omega) (by omega)), nI_0, Int32.add_zero]
    exact ⟨now, rfl, h⟩
  | succ d ih =>
    intro i paid Da now Mo De n h hi hn
    obtain ⟨n, rfl⟩ : ∃ m, n = m + 1 := ⟨n - 1, by omega⟩
    obtain ⟨n1, e1, h1⟩ := M_dayGoes h hN hP paid
    rw [f_X8_daysGo_L7, if_neg (nI_ge (by omega) (by omega)), e1, b2_some, nI_1]
    obtain ⟨n2, e2, h2⟩ := ih (i + 1) _ _ n1 _ _ n h1 (by omega) (by omega)
    refine ⟨n2, e2, ?_⟩
    have e : Da + 1 + nI d = Da + nI (d + 1) := by rw [nI_succ, Int32.add_assoc, Int32.add_comm 1]
    rw [e] at h2
    exact h2
theorem M_daysGo {N : Nat} (h : RR P now Da Dr Na Mo Wa De) (hN : NaOK P Na) (hP : P ≤ 5) (hN2 : N < 400) : ∃ now', f_X8_daysGo now (nI P) (nI N) = some (now', (daysR P Na Wa Dr N 0 Mo De).1) ∧ RR P now' (Da + nI N) Dr Na (daysR P Na Wa Dr N 0 Mo De).2.1 Wa (daysR P Na Wa Dr N 0 Mo De).2.2 := by
  obtain ⟨n1, e1, h1⟩ := M_daysGo_L (N := N) hN hP (by omega) N 0 0 Da now Mo De 400 h (by omega) (by omega)
  rw [nI_0] at e1
  unfold f_X8_daysGo
  rw [e1, b2_some]
  exact ⟨n1, rfl, h1⟩
end LD
/-- a sum of small numbers, no wrap -/
theorem acc_nI {f : Nat → Int32} (c : Nat) : ∀ (d q s : Nat), (∀ j, q ≤ j → j < q + d → ∃ k, k ≤ c ∧ f j = nI k) → ∃ t, s ≤ t ∧ t ≤ s + d * c ∧ acc f q d (nI s) = nI t := by
  intro d
  induction d with
  | zero => intro q s _; exact ⟨s, Nat.le_refl s, by omega, rfl⟩
  | succ d ih =>
    intro q s h
    obtain ⟨k, hk, ek⟩ := h q (Nat.le_refl q) (by omega)
    obtain ⟨t, h1, h2, h3⟩ := ih (q + 1) (s + k) (fun j a b => h j (by omega) (by omega))
    refine ⟨t, by omega, ?_, ?_⟩
    · rw [Nat.succ_mul]; omega
    · show acc f (q + 1) d (nI s + f q) = nI t
      rw [ek, nI_add]; exact h3
theorem owes_nI {De : Nat → Int32} {P p : Nat} (h : DeOK De) (hp : p < 5) (hP : P ≤ 5) : ∃ t, t ≤ 495 ∧ owes De P p = nI t := by
  obtain ⟨t, -, h2, h3⟩ := acc_nI (f := fun j => De (5 * p + j)) 99 P 0 0 (fun j _ hj => h (5 * p + j) (by omega))
  refine ⟨t, ?_, h3⟩
  have : P * 99 ≤ 5 * 99 := Nat.mul_le_mul_right 99 hP
  omega
theorem owed_nI {De : Nat → Int32} {P p : Nat} (h : DeOK De) (hp : p < 5) (hP : P ≤ 5) : ∃ t, t ≤ 495 ∧ owed De P p = nI t := by
  obtain ⟨t, -, h2, h3⟩ := acc_nI (f := fun j => De (5 * j + p)) 99 P 0 0 (fun j _ hj => h (5 * j + p) (by omega))
  refine ⟨t, ?_, h3⟩
  have : P * 99 ≤ 5 * 99 := Nat.mul_le_mul_right 99 hP
  omega
theorem allO_nI {De : Nat → Int32} {P : Nat} (h : DeOK De) (hP : P ≤ 5) : ∃ t, t ≤ 2475 ∧ allO De P = nI t := by
  obtain ⟨t, -, h2, h3⟩ := acc_nI (f := fun p => owes De P p) 495 P 0 0 (fun j _ hj => owes_nI h (by omega) hP)
  refine ⟨t, ?_, h3⟩
  have : P * 495 ≤ 5 * 495 := Nat.mul_le_mul_right 495 hP
  omega
def hgt (Na De : Nat → Int32) (P p : Nat) : Int32 := if owes De P p = 0 then (if Na p = 0 then owed De P p else if Na p = 1 then (owed De P p + 1) / 2 else if Na p = 2 then 2 * owed De P p + 1 else if 0 < (owed De P p + 1) / 2 - 1 then (owed De P p + 1) / 2 - 1 else 0) else 0
theorem X_heightOf {P p : Nat} {Na De : Nat → Int32} (hp : p < 5) (hP : P ≤ 5) : f_X1_heightOf (nI P) Na De (nI p) = some (hgt Na De P p) := by
  unfold f_X1_heightOf hgt
  rw [X_isRiding hp hP, b1_some, X_owedTo hp hP, b1_some, rd_nI hp (by omega), b1_some]
  by_cases c : owes De P p = 0
  · rw [if_pos c, if_pos c, if_neg (by decide)]
    by_cases c0 : Na p = 0
    · rw [if_pos c0, if_pos c0]
    · rw [if_neg c0, if_neg c0]
      by_cases c1 : Na p = 1
      · rw [if_pos c1, if_pos c1]
      · rw [if_neg c1, if_neg c1]
        by_cases c2 : Na p = 2
        · rw [if_pos c2, if_pos c2]
        · rw [if_neg c2, if_neg c2]; rfl
  · rw [if_neg c, if_neg c, if_pos rfl]
theorem half_eq {t : Nat} (ht : t ≤ 495) : (if (nI t + 1) / 2 ≤ 0 then some (0 : Int32) else some ((nI t + 1) / 2 - 1)) = some (if 0 < (nI t + 1) / 2 - 1 then (nI t + 1) / 2 - 1 else 0) := by
  have e2 : (2 : Int32) = nI 2 := rfl
  have e : (nI t + 1) / 2 = nI ((t + 1) / 2) := by rw [nI_1, e2, pk_div (by omega) (by omega) (by omega)]
  rw [e]
  generalize hu : (t + 1) / 2 = u
  have hu2 : u ≤ 248 := by omega
  cases u with
  | zero => decide
  | succ u =>
    rw [if_neg (nI_nle (by omega) (by omega)), nI_pred]
    cases u with
    | zero => decide
    | succ u =>
      have : (0 : Int32) < nI (u + 1) := by
        have := nI_lt (a := 0) (b := u + 1) (by omega) (by omega)
        rw [nI_0] at this; exact this
      rw [if_pos this]
theorem M_height {P p : Nat} {now : Nat → Int32} {Da Dr : Int32} {Na Mo Wa De : Nat → Int32} (h : RR P now Da Dr Na Mo Wa De) (hN : NaOK P Na) (hD : DeOK De) (hp : p < P) (hP : P ≤ 5) : f_X8_height now (nI P) (nI p) = some (hgt Na De P p) := by
  unfold f_X8_height hgt
  rw [M_isOwed h (by omega) hP, b1_some, M_owesAll h (by omega) hP, b1_some, M_of0 (by omega), b1_some, (h.2.2.1 p hp).1]
  obtain ⟨t, ht, et⟩ := owes_nI (P := P) (p := p) hD (by omega) hP
  obtain ⟨u, hu, eu⟩ := owed_nI (P := P) (p := p) hD (by omega) hP
  rw [et, eu]
  by_cases c : nI t = 0
  · rw [if_pos (by rw [c]; decide), if_pos c]
    rcases hN p hp with e | e | e | e
    · rw [e]; rfl
    · rw [e]; rfl
    · rw [e]; rfl
    · rw [e]
      exact half_eq hu
  · have : 0 < t := by
      rcases Nat.eq_zero_or_pos t with z | z
      · subst z; exact absurd nI_0 c
      · exact z
    rw [if_neg (nI_nle this (by omega)), if_neg c]
