/-! ===== L2: of which kind, till when, which debt ===== -/
section E4
variable {P : Nat} {st now : Nat → Int32} {Da Dr : Int32} {Na Mo Wa De : Nat → Int32}
def kR (f : Nat → Int32) : Nat → Nat → Int32 → Int32 → Int32 × Int32
  | 0, _, w, m => (w, m)
  | d + 1, k, w, m => if f k = -4 then kR f d (k + 1) w m else if m ≤ f k then kR f d (k + 1) w m else kR f d (k + 1) (nI k) (f k)
theorem X_kind_L {p : Nat} (hp : p < 5) (hP : P ≤ 5) : ∀ (d k : Nat) (w m : Int32) (t1 t2 t3 : Int32) (t4 t5 t6 t7 : Nat → Int32) (n : Nat), k + d = 4 → d < n → ∃ u1 u2 u3 u4 u5 u6 u7, f_X7_kind_L32 (nI P) Da Dr Na Mo Wa De (nI p) n w m (nI k) t1 t2 t3 t4 t5 t6 t7 = some ((kR (fun k => toR P (upd Na p (nI k)) Wa Dr p 61 0 Mo De) d k w m).1, (kR (fun k => toR P (upd Na p (nI k)) Wa Dr p 61 0 Mo De) d k w m).2, u1, u2, u3, u4, u5, u6, u7) := by
  intro d
  induction d with
  | zero =>
    intro k w m t1 t2 t3 t4 t5 t6 t7 n hq hn
    obtain ⟨n, rfl⟩ : ∃ m, n = m + 1 := ⟨n - 1, by omega⟩
    rw [f_X7_kind_L32, if_pos (show (4 : Int32) ≤ nI k from nI_le (a := 4) (by omega) (by omega))]
    exact ⟨_, _, _, _, _, _, _, rfl⟩
  | succ d ih =>
    intro k w m t1 t2 t3 t4 t5 t6 t7 n hq hn
    obtain ⟨n, rfl⟩ : ∃ m, n = m + 1 := ⟨n - 1, by omega⟩
    obtain ⟨a, b, c, e⟩ := X_to (Da := Da) (Dr := Dr) (Na := upd Na p (nI k)) (Mo := Mo) (Wa := Wa) (De := De) hp hP
    rw [f_X7_kind_L32, if_neg (show ¬ (4 : Int32) ≤ nI k from nI_ge (b := 4) (by omega) (by omega))]
    unfold f_X1_become
    rw [b7_some, wr_nI (by omega) (by omega), b1_some, e, b4_some, kR, nI_1]
    by_cases c1 : toR P (upd Na p (nI k)) Wa Dr p 61 0 Mo De = -4
    · simp only [if_pos c1]; exact ih (k + 1) _ _ _ _ _ _ _ _ _ n (by omega) (by omega)
    · simp only [if_neg c1]
      by_cases c2 : m ≤ toR P (upd Na p (nI k)) Wa Dr p 61 0 Mo De
      · simp only [if_pos c2]; exact ih (k + 1) _ _ _ _ _ _ _ _ _ n (by omega) (by omega)
      · simp only [if_neg c2]; exact ih (k + 1) _ _ _ _ _ _ _ _ _ n (by omega) (by omega)
theorem nI4 {k : Nat} (hk : k < 4) : nI k = 0 ∨ nI k = 1 ∨ nI k = 2 ∨ nI k = 3 := by
  match k, hk with
  | 0, _ => exact Or.inl rfl
  | 1, _ => exact Or.inr (Or.inl rfl)
  | 2, _ => exact Or.inr (Or.inr (Or.inl rfl))
  | 3, _ => exact Or.inr (Or.inr (Or.inr rfl))
theorem M_kind_L {p : Nat} (h : LI P st Da Dr Na Mo Wa De) (hp : p < P) : ∀ (d k : Nat) (w m : Int32) (now : Nat → Int32) (paid : Int32) (n : Nat), k + d = 4 → d < n → ∃ a b, f_X8_kind_L27 st (nI P) (nI p) n m w (nI k) now paid = some ((kR (fun k => toR P (upd Na p (nI k)) Wa Dr p 61 0 Mo De) d k w m).2, (kR (fun k => toR P (upd Na p (nI k)) Wa Dr p 61 0 Mo De) d k w m).1, a, b) := by
  have hP := h.1
  intro d
  induction d with
  | zero =>
    intro k w m now paid n hq hn
    obtain ⟨n, rfl⟩ : ∃ m, n = m + 1 := ⟨n - 1, by omega⟩
    rw [f_X8_kind_L27, if_pos (show (4 : Int32) ≤ nI k from nI_le (a := 4) (by omega) (by omega))]
    exact ⟨_, _, rfl⟩
  | succ d ih =>
    intro k w m now paid n hq hn
    obtain ⟨n, rfl⟩ : ∃ m, n = m + 1 := ⟨n - 1, by omega⟩
    obtain ⟨n1, e1, h1, hR⟩ := e_start h now
    obtain ⟨a, b, e3⟩ := M_to (hR.nature (p := p) (by omega) hP (nI k)) (h.2.2.1.upd (nI4 (by omega))) (p := p) (by omega) hP paid
    rw [f_X8_kind_L27, if_neg (show ¬ (4 : Int32) ≤ nI k from nI_ge (b := 4) (by omega) (by omega)), e1, b1_some, M_bec0 (by omega), b1_some, e3, b3_some, kR, nI_1]
    by_cases c1 : toR P (upd Na p (nI k)) Wa Dr p 61 0 Mo De = -4
    · simp only [if_pos c1, b1_some]; exact ih (k + 1) _ _ _ _ n (by omega) (by omega)
    · simp only [if_neg c1]
      by_cases c2 : m ≤ toR P (upd Na p (nI k)) Wa Dr p 61 0 Mo De
      · simp only [if_pos c2, b1_some]; exact ih (k + 1) _ _ _ _ n (by omega) (by omega)
      · simp only [if_neg c2, b1_some, if_neg n10]; exact ih (k + 1) _ _ _ _ n (by omega) (by omega)
theorem e_kind (h : LI P st Da Dr Na Mo Wa De) (now : Nat → Int32) (paid : Int32) (t1 t2 t3 : Int32) (t4 t5 t6 t7 : Nat → Int32) (x y : Int32) : ∃ r u1 u2 u3 u4 u5 u6 u7 now' paid', f_X7_kind (nI P) Da Dr Na Mo Wa De t1 t2 t3 t4 t5 t6 t7 x y = some (r, u1, u2, u3, u4, u5, u6, u7) ∧ f_X8_kind st now (nI P) paid x y = some (r, now', paid') := by
  have hP := h.1
  unfold f_X7_kind f_X8_kind
  rw [X_has hP, M_isOne hP, X_within y 0 1 rfl rfl, M_isPart]
  simp only [b1_some]
  rcases one_cases hP x with c | ⟨p, hp, rfl, c⟩
  · rw [c]; exact ⟨_, _, _, _, _, _, _, _, _, _, rfl, rfl⟩
  rw [c, if_neg n10, if_neg n10]
  rcases tb_cases y 0 1 with ⟨s, -⟩ | ⟨s, -⟩
  · obtain ⟨u1, u2, u3, u4, u5, u6, u7, f1⟩ := X_kind_L (Da := Da) (Dr := Dr) (Na := Na) (Mo := Mo) (Wa := Wa) (De := De) (p := p) (by omega) hP 4 0 (-4) 61 t1 t2 t3 t4 t5 t6 t7 400 (by omega) (by omega)
    obtain ⟨v1, v2, f2⟩ := M_kind_L h hp 4 0 (-4) 61 now paid 400 (by omega) (by omega)
    rw [nI_0] at f1 f2
    rw [s, if_neg n10, if_neg n10, f1, b9_some, f2, b4_some]
    generalize (kR (fun k => toR P (upd Na p (nI k)) Wa Dr p 61 0 Mo De) 4 0 (-4) 61).1 = w
    generalize (kR (fun k => toR P (upd Na p (nI k)) Wa Dr p 61 0 Mo De) 4 0 (-4) 61).2 = m
    by_cases c0 : w = -4
    · rw [if_pos c0, if_pos c0]; exact ⟨_, _, _, _, _, _, _, _, _, _, rfl, rfl⟩
    rw [if_neg c0, if_neg c0]
    by_cases c1 : y = 0
    · rw [if_pos c1, if_pos c1]; exact ⟨_, _, _, _, _, _, _, _, _, _, rfl, rfl⟩
    rw [if_neg c1, if_neg c1]; exact ⟨_, _, _, _, _, _, _, _, _, _, rfl, rfl⟩
  · rw [s]; exact ⟨_, _, _, _, _, _, _, _, _, _, rfl, rfl⟩
/-- the first day from i on, of d more, on which nobody owes -/
def toA (P : Nat) (Na Wa : Nat → Int32) (dry : Int32) : Nat → Nat → (Nat → Int32) → (Nat → Int32) → Int32
  | 0, i, _, De => if allO De P = 0 then nI i else -4
  | d + 1, i, Mo, De => if allO De P = 0 then nI i else toA P Na Wa dry d (i + 1) (dMo P Na Wa dry Mo De) (dDe P Na Wa dry Mo De)
theorem X_toA_L {N : Nat} (hN : N ≤ 60) (hP : P ≤ 5) : ∀ (d i : Nat) (Da : Int32) (Mo De : Nat → Int32) (n : Nat), i + d = N → d + 1 < n → (∃ a b c, f_X1_daysTillAllRide_L2 (nI P) Dr Na Wa (nI N) n (nI i) Da Mo De = some (Sum.inl (toA P Na Wa Dr d i Mo De, a, b, c))) ∨ (∃ a b c, f_X1_daysTillAllRide_L2 (nI P) Dr Na Wa (nI N) n (nI i) Da Mo De = some (Sum.inr (a, b, c)) ∧ toA P Na Wa Dr d i Mo De = -4) := by
  intro d
  induction d with
  | zero =>
    intro i Da Mo De n hi hn
    obtain ⟨n, rfl⟩ : ∃ m, n = m + 1 := ⟨n - 1, by omega⟩
    rw [f_X1_daysTillAllRide_L2, if_neg (nI_nlt (by omega) (by omega)), X_owedInAll hP, b1_some, toA]
    by_cases c : allO De P = 0
    · rw [if_pos c, if_pos c]; exact Or.inl ⟨_, _, _, rfl⟩
    · rw [if_neg c, if_neg c, X_runDay hP, b4_some, nI_1]
      obtain ⟨n, rfl⟩ : ∃ m, n = m + 1 := ⟨n - 1, by omega⟩
      rw [f_X1_daysTillAllRide_L2, if_pos (nI_lt (by omega) (by omega))]
      exact Or.inr ⟨_, _, _, rfl, rfl⟩
  | succ d ih =>
    intro i Da Mo De n hi hn
    obtain ⟨n, rfl⟩ : ∃ m, n = m + 1 := ⟨n - 1, by omega⟩
    rw [f_X1_daysTillAllRide_L2, if_neg (nI_nlt (by omega) (by omega)), X_owedInAll hP, b1_some, toA]
    by_cases c : allO De P = 0
    · rw [if_pos c, if_pos c]; exact Or.inl ⟨_, _, _, rfl⟩
    · rw [if_neg c, if_neg c, X_runDay hP, b4_some, nI_1]
      exact ih (i + 1) _ _ _ n (by omega) (by omega)
theorem X_toA {N : Nat} (hN : N ≤ 60) (hP : P ≤ 5) : ∃ a b c, f_X1_daysTillAllRide (nI P) Da Dr Na Mo Wa De (nI N) = some (toA P Na Wa Dr N 0 Mo De, a, b, c) := by
  unfold f_X1_daysTillAllRide
  rcases X_toA_L (Dr := Dr) (Na := Na) (Wa := Wa) hN hP N 0 Da Mo De 400 (by omega) (by omega) with ⟨a, b, c, e⟩ | ⟨a, b, c, e, z⟩
  · rw [nI_0] at e; rw [e]; exact ⟨a, b, c, rfl⟩
  · rw [nI_0] at e; rw [e, z]; exact ⟨a, b, c, rfl⟩
theorem nI_ne4 {i : Nat} (h : i < 1000) : ¬ nI i = -4 := by
  intro e
  have := congrArg Int32.toInt e
  rw [nI_toInt (by omega)] at this
  have h0 : (-4 : Int32).toInt = -4 := rfl
  omega
theorem daysR_s {d : Nat} {paid : Int32} {dry : Int32} : (daysR P Na Wa dry (d + 1) paid Mo De).2 = (daysR P Na Wa dry d 0 (dMo P Na Wa dry Mo De) (dDe P Na Wa dry Mo De)).2 := by
  have key : ∀ (d : Nat) (a b : Int32) (Mo De : Nat → Int32), (daysR P Na Wa dry d a Mo De).2 = (daysR P Na Wa dry d b Mo De).2 := by
    intro d
    induction d with
    | zero => intros; rfl
    | succ d ih =>
      intro a b Mo De
      rw [daysR, daysR, dayR_paid P Na Wa dry a, dayR_paid P Na Wa dry b]
      exact ih _ _ _ _
  rw [daysR, dayR_paid]
  exact key d _ _ _ _
theorem M_runs_L {N : Nat} (hN : NaOK P Na) (hN2 : N ≤ 60) (hP : P ≤ 5) : ∀ (d i : Nat) (first Da : Int32) (now Mo De : Nat → Int32) (paid : Int32) (n : Nat), RR P now Da Dr Na Mo Wa De → i + d = N → d + 1 < n → ∃ now' paid' Da', f_X8_runs_L31 (nI P) (nI N) n first (nI i) now paid = some (if first = -4 then toA P Na Wa Dr d i Mo De else first, now', paid') ∧ RR P now' Da' Dr Na (daysR P Na Wa Dr d 0 Mo De).2.1 Wa (daysR P Na Wa Dr d 0 Mo De).2.2 := by
  have step : ∀ (first : Int32) (i : Nat) (De : Nat → Int32), (if first = -4 then b1 (some (allO De P)) fun r => if r = 0 then some (nI i) else some first else some first) = some (if first = -4 then (if allO De P = 0 then nI i else -4) else first) := by
    intro first i De
    by_cases c : first = -4
    · rw [if_pos c, if_pos c, b1_some]
      by_cases c2 : allO De P = 0
      · rw [if_pos c2, if_pos c2]
      · rw [if_neg c2, if_neg c2, c]
    · rw [if_neg c, if_neg c]
  intro d
  induction d with
  | zero =>
    intro i first Da now Mo De paid n h hi hn
    obtain ⟨n, rfl⟩ : ∃ m, n = m + 1 := ⟨n - 1, by omega⟩
    obtain ⟨n, rfl⟩ : ∃ m, n = m + 1 := ⟨n - 1, by omega⟩
    rw [f_X8_runs_L31, if_neg (nI_nlt (by omega) (by omega)), M_allOwed h hP, step, b1_some, if_pos (nI_le (a := N) (b := i) (by omega) (by omega)), nI_1, f_X8_runs_L31, if_pos (nI_lt (by omega) (by omega)), toA]
    exact ⟨_, _, _, rfl, h⟩
  | succ d ih =>
    intro i first Da now Mo De paid n h hi hn
    obtain ⟨n, rfl⟩ : ∃ m, n = m + 1 := ⟨n - 1, by omega⟩
    obtain ⟨n1, q1, e1, h1⟩ := M_day h hN hP paid
    rw [f_X8_runs_L31, if_neg (nI_nlt (by omega) (by omega)), M_allOwed h hP, step, b1_some, if_neg (nI_ge (a := i) (b := N) (by omega) (by omega)), e1, b2_some, nI_1, toA, daysR_s]
    have hi4 := nI_ne4 (i := i) (by omega)
    by_cases c : first = -4
    · rw [if_pos c, if_pos c]
      by_cases c2 : allO De P = 0
      · rw [if_pos c2, if_pos c2]
        obtain ⟨n2, q2, d2, e2, h2⟩ := ih (i + 1) (nI i) _ n1 _ _ q1 n h1 (by omega) (by omega)
        rw [if_neg hi4] at e2
        exact ⟨n2, q2, d2, e2, h2⟩
      · rw [if_neg c2, if_neg c2]
        obtain ⟨n2, q2, d2, e2, h2⟩ := ih (i + 1) (-4) _ n1 _ _ q1 n h1 (by omega) (by omega)
        rw [if_pos rfl] at e2
        exact ⟨n2, q2, d2, e2, h2⟩
    · rw [if_neg c, if_neg c]
      obtain ⟨n2, q2, d2, e2, h2⟩ := ih (i + 1) first _ n1 _ _ q1 n h1 (by omega) (by omega)
      rw [if_neg c] at e2
      exact ⟨n2, q2, d2, e2, h2⟩
theorem e_runs (h : LI P st Da Dr Na Mo Wa De) (now : Nat → Int32) (paid : Int32) (t1 t2 t3 : Int32) (t4 t5 t6 t7 : Nat → Int32) (x y : Int32) : ∃ r u1 u2 u3 u4 u5 u6 u7 now' paid', f_X7_runs (nI P) Da Dr Na Mo Wa De t1 t2 t3 t4 t5 t6 t7 x y = some (r, u1, u2, u3, u4, u5, u6, u7) ∧ f_X8_runs st now (nI P) paid x y = some (r, now', paid') := by
  obtain ⟨n1, e1, h1, hR⟩ := e_start h now
  have hP := h.1
  unfold f_X7_runs f_X8_runs
  rw [X_within x 0 60 rfl rfl, M_isFar, X_within y 0 3 rfl rfl, M_in y 0 3 rfl rfl, e1]
  simp only [b1_some]
  rcases tb_cases x 0 60 with ⟨t, -⟩ | ⟨t, -⟩
  · obtain ⟨k, -, hk, rfl⟩ := tb_nI (lo := 0) (hi := 60) t
    rw [t, if_neg n10, if_neg n10]
    rcases tb_cases y 0 3 with ⟨s, -⟩ | ⟨s, -⟩
    · obtain ⟨n2, q2, d2, e2, h2⟩ := M_runs_L (N := k) h.2.2.1 hk hP k 0 (-4) Da n1 Mo De paid 400 hR (by omega) (by omega)
      rw [nI_0, if_pos rfl] at e2
      obtain ⟨a, b, c, e⟩ := X_toA (Da := Da) (Dr := Dr) (Na := Na) (Mo := Mo) (Wa := Wa) (De := De) hk hP
      rw [s, if_neg n10, if_neg n10, e2, b3_some]
      unfold f_X1_become
      rw [b7_some, e, b4_some, X_runDays hP (by omega), b4_some, X_owedInAll hP, b1_some, X_riders hP, b1_some, X_moneyInAll hP, b1_some, M_allOwed h2 hP, b1_some, M_riding h2 hP, b1_some, M_allMoney h2 hP, b1_some]
      rcases nat3 s with c | c | c | c
      · subst c; exact ⟨_, _, _, _, _, _, _, _, _, _, rfl, rfl⟩
      · subst c; exact ⟨_, _, _, _, _, _, _, _, _, _, rfl, rfl⟩
      · subst c; exact ⟨_, _, _, _, _, _, _, _, _, _, rfl, rfl⟩
      · subst c; exact ⟨_, _, _, _, _, _, _, _, _, _, rfl, rfl⟩
    · rw [s]; exact ⟨_, _, _, _, _, _, _, _, _, _, rfl, rfl⟩
  · rw [t]; exact ⟨_, _, _, _, _, _, _, _, _, _, rfl, rfl⟩
end E4
