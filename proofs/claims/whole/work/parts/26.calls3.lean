/-! ===== L2: looking ahead ===== -/
section E3
variable {P : Nat} {st now : Nat → Int32} {Da Dr : Int32} {Na Mo Wa De : Nat → Int32}
theorem M_isFar (x : Int32) : f_X8_isFar x = some (tb x 0 60) := by
  unfold f_X8_isFar
  rw [M_in x 0 60 rfl rfl, b1_some, bz_tb, b1_some]
theorem M_isPart (x : Int32) : f_X8_isPart x = some (tb x 0 1) := by
  unfold f_X8_isPart
  rw [M_in x 0 1 rfl rfl, b1_some, bz_tb, b1_some]
theorem e_ahead (h : LI P st Da Dr Na Mo Wa De) (now : Nat → Int32) (paid : Int32) (t1 t2 t3 : Int32) (t4 t5 t6 t7 : Nat → Int32) (x y z : Int32) : ∃ r u1 u2 u3 u4 u5 u6 u7 now' paid', f_X7_ahead (nI P) Da Dr Na Mo Wa De t1 t2 t3 t4 t5 t6 t7 x y z = some (r, u1, u2, u3, u4, u5, u6, u7) ∧ f_X8_ahead st now (nI P) paid x y z = some (r, now', paid') := by
  obtain ⟨n1, e1, h1, hR⟩ := e_start h now
  have hP := h.1
  unfold f_X7_ahead f_X8_ahead
  rw [X_has hP, M_isOne hP, X_within y 0 60 rfl rfl, M_isFar, X_within z 0 2 rfl rfl, M_in z 0 2 rfl rfl, e1]
  simp only [b1_some]
  rcases one_cases hP x with c | ⟨p, hp, rfl, c⟩
  · rw [c]; exact ⟨_, _, _, _, _, _, _, _, _, _, rfl, rfl⟩
  rw [c, if_neg n10, if_neg n10]
  rcases tb_cases y 0 60 with ⟨t, -⟩ | ⟨t, -⟩
  · obtain ⟨k, -, hk, rfl⟩ := tb_nI (lo := 0) (hi := 60) t
    rw [t, if_neg n10, if_neg n10]
    rcases tb_cases z 0 2 with ⟨s, -⟩ | ⟨s, -⟩
    · obtain ⟨n2, e2, h2⟩ := M_daysGo (N := k) hR h.2.2.1 hP (by omega)
      obtain ⟨g1, g2⟩ := daysR_ok (Na := Na) (Wa := Wa) (Dr := Dr) hP k 0 Mo De h.2.2.2.1 h.2.2.2.2
      rw [s, if_neg n10, if_neg n10, e2, b2_some]
      unfold f_X1_become
      rw [b7_some, X_runDays hP (by omega), b4_some, X_owedBy (by omega) hP, X_heightOf (by omega) hP, M_owesAll h2 (by omega) hP, M_height h2 h.2.2.1 g1 hp hP, M_of1 (by omega), (h2.2.2.1 p hp).2.1, rd_nI (by omega) (by omega)]
      simp only [b1_some]
      by_cases c0 : z = 0
      · rw [if_pos c0, if_pos c0]; exact ⟨_, _, _, _, _, _, _, _, _, _, rfl, rfl⟩
      rw [if_neg c0, if_neg c0]
      by_cases c1 : z = 1
      · rw [if_pos c1, if_pos c1]; exact ⟨_, _, _, _, _, _, _, _, _, _, rfl, rfl⟩
      rw [if_neg c1, if_neg c1]; exact ⟨_, _, _, _, _, _, _, _, _, _, rfl, rfl⟩
    · rw [s]; exact ⟨_, _, _, _, _, _, _, _, _, _, rfl, rfl⟩
  · rw [t]; exact ⟨_, _, _, _, _, _, _, _, _, _, rfl, rfl⟩
/-- behind how many days p rides first, from day i on -/
def toR (P : Nat) (Na Wa : Nat → Int32) (dry : Int32) (p : Nat) : Nat → Nat → (Nat → Int32) → (Nat → Int32) → Int32
  | 0, _, _, _ => -4
  | d + 1, i, Mo, De => if owes De P p = 0 then nI i else toR P Na Wa dry p d (i + 1) (dMo P Na Wa dry Mo De) (dDe P Na Wa dry Mo De)
theorem X_to_L {p : Nat} (hp : p < 5) (hP : P ≤ 5) : ∀ (d i : Nat) (Da : Int32) (Mo De : Nat → Int32) (n : Nat), i + d = 61 → d < n → (∃ a b c, f_X1_daysTillRiding_L2 (nI P) Dr Na Wa (nI p) n (nI i) Da Mo De = some (Sum.inl (toR P Na Wa Dr p d i Mo De, a, b, c))) ∨ (∃ a b c, f_X1_daysTillRiding_L2 (nI P) Dr Na Wa (nI p) n (nI i) Da Mo De = some (Sum.inr (a, b, c)) ∧ toR P Na Wa Dr p d i Mo De = -4) := by
  intro d
  induction d with
  | zero =>
    intro i Da Mo De n hi hn
    obtain ⟨n, rfl⟩ : ∃ m, n = m + 1 := ⟨n - 1, by omega⟩
    have e : (60 : Int32) = nI 60 := rfl
    rw [f_X1_daysTillRiding_L2, e, if_pos (nI_lt (by omega) (by omega))]
    exact Or.inr ⟨_, _, _, rfl, rfl⟩
  | succ d ih =>
    intro i Da Mo De n hi hn
    obtain ⟨n, rfl⟩ : ∃ m, n = m + 1 := ⟨n - 1, by omega⟩
    have e : (60 : Int32) = nI 60 := rfl
    rw [f_X1_daysTillRiding_L2, e, if_neg (nI_nlt (by omega) (by omega)), X_isRiding hp hP, b1_some, toR]
    by_cases c : owes De P p = 0
    · rw [if_pos c, if_pos c, if_neg n10]
      exact Or.inl ⟨_, _, _, rfl⟩
    · rw [if_neg c, if_neg c, if_pos rfl, X_runDay hP, b4_some, nI_1]
      exact ih (i + 1) _ _ _ n (by omega) (by omega)
theorem X_to {p : Nat} (hp : p < 5) (hP : P ≤ 5) : ∃ a b c, f_X1_daysTillRiding (nI P) Da Dr Na Mo Wa De (nI p) = some (toR P Na Wa Dr p 61 0 Mo De, a, b, c) := by
  unfold f_X1_daysTillRiding
  rcases X_to_L (Dr := Dr) (Na := Na) (Wa := Wa) hp hP 61 0 Da Mo De 400 (by omega) (by omega) with ⟨a, b, c, e⟩ | ⟨a, b, c, e, z⟩
  · rw [nI_0] at e; rw [e]; exact ⟨a, b, c, rfl⟩
  · rw [nI_0] at e; rw [e, z]; exact ⟨a, b, c, rfl⟩
theorem M_to_L {p : Nat} (hN : NaOK P Na) (hp : p < 5) (hP : P ≤ 5) : ∀ (d i : Nat) (Da : Int32) (now Mo De : Nat → Int32) (paid : Int32) (n : Nat), RR P now Da Dr Na Mo Wa De → i + d = 61 → d < n → (∃ a b, f_X8_daysTo_L2 (nI P) (nI p) n (nI i) now paid = some (Sum.inl (toR P Na Wa Dr p d i Mo De, a, b))) ∨ (∃ a b, f_X8_daysTo_L2 (nI P) (nI p) n (nI i) now paid = some (Sum.inr (a, b)) ∧ toR P Na Wa Dr p d i Mo De = -4) := by
  intro d
  induction d with
  | zero =>
    intro i Da now Mo De paid n h hi hn
    obtain ⟨n, rfl⟩ : ∃ m, n = m + 1 := ⟨n - 1, by omega⟩
    have e : (60 : Int32) = nI 60 := rfl
    rw [f_X8_daysTo_L2, e, if_pos (nI_lt (by omega) (by omega))]
    exact Or.inr ⟨_, _, rfl, rfl⟩
  | succ d ih =>
    intro i Da now Mo De paid n h hi hn
    obtain ⟨n, rfl⟩ : ∃ m, n = m + 1 := ⟨n - 1, by omega⟩
    have e : (60 : Int32) = nI 60 := rfl
    rw [f_X8_daysTo_L2, e, if_neg (nI_nlt (by omega) (by omega)), M_owesAll h hp hP, b1_some, toR]
    by_cases c : owes De P p = 0
    · rw [if_pos c, if_pos c]
      exact Or.inl ⟨_, _, rfl⟩
    · obtain ⟨n1, q1, e1, h1⟩ := M_day h hN hP paid
      rw [if_neg c, if_neg c, e1, b2_some, nI_1]
      exact ih (i + 1) _ _ _ _ _ n h1 (by omega) (by omega)
theorem M_to {p : Nat} (h : RR P now Da Dr Na Mo Wa De) (hN : NaOK P Na) (hp : p < 5) (hP : P ≤ 5) (paid : Int32) : ∃ a b, f_X8_daysTo now (nI P) paid (nI p) = some (toR P Na Wa Dr p 61 0 Mo De, a, b) := by
  unfold f_X8_daysTo
  rcases M_to_L hN hp hP 61 0 Da now Mo De paid 400 h (by omega) (by omega) with ⟨a, b, e⟩ | ⟨a, b, e, z⟩
  · rw [nI_0] at e; rw [e]; exact ⟨a, b, rfl⟩
  · rw [nI_0] at e; rw [e, z]; exact ⟨a, b, rfl⟩
theorem e_rides (h : LI P st Da Dr Na Mo Wa De) (now : Nat → Int32) (paid : Int32) (t1 t2 t3 : Int32) (t4 t5 t6 t7 : Nat → Int32) (x : Int32) : ∃ r u1 u2 u3 u4 u5 u6 u7 now' paid', f_X7_rides (nI P) Da Dr Na Mo Wa De t1 t2 t3 t4 t5 t6 t7 x = some (r, u1, u2, u3, u4, u5, u6, u7) ∧ f_X8_rides st now (nI P) paid x = some (r, now', paid') := by
  obtain ⟨n1, e1, h1, hR⟩ := e_start h now
  have hP := h.1
  unfold f_X7_rides f_X8_rides
  rw [X_has hP, M_isOne hP, e1]
  simp only [b1_some]
  rcases one_cases hP x with c | ⟨p, hp, rfl, c⟩
  · rw [c]; exact ⟨_, _, _, _, _, _, _, _, _, _, rfl, rfl⟩
  obtain ⟨a, b, d, e⟩ := X_to (Da := Da) (Dr := Dr) (Na := Na) (Mo := Mo) (Wa := Wa) (De := De) (p := p) (by omega) hP
  obtain ⟨a', b', e'⟩ := M_to hR h.2.2.1 (p := p) (by omega) hP paid
  rw [c, if_neg n10, if_neg n10]
  unfold f_X1_become
  rw [b7_some, e, b4_some, e', b3_some]
  exact ⟨_, _, _, _, _, _, _, _, _, _, rfl, rfl⟩
theorem e_late (h : LI P st Da Dr Na Mo Wa De) (now : Nat → Int32) (paid : Int32) (t1 t2 t3 : Int32) (t4 t5 t6 t7 : Nat → Int32) (x y : Int32) : ∃ r u1 u2 u3 u4 u5 u6 u7 now' paid', f_X7_late (nI P) Da Dr Na Mo Wa De t1 t2 t3 t4 t5 t6 t7 x y = some (r, u1, u2, u3, u4, u5, u6, u7) ∧ f_X8_late st now (nI P) paid x y = some (r, now', paid') := by
  have hP := h.1
  have xd : ∀ (p : Nat) (v : Int32), p < P → ∃ a b c, f_X7_daysByDryness (nI P) Da Dr Na Mo Wa De (nI p) v = some (toR P Na Wa v p 61 0 Mo De, nI P, a, v, Na, b, Wa, c) := by
    intro p v hp
    obtain ⟨a, b, d, e⟩ := X_to (Da := Da) (Dr := v) (Na := Na) (Mo := Mo) (Wa := Wa) (De := De) (p := p) (by omega) hP
    unfold f_X7_daysByDryness f_X1_become
    rw [b7_some, e, b4_some]
    exact ⟨a, b, d, rfl⟩
  have md : ∀ (p : Nat) (v : Int32) (now : Nat → Int32) (paid : Int32), p < P → ∃ a b, f_X8_daysIf st now (nI P) paid (nI p) v = some (toR P Na Wa v p 61 0 Mo De, a, b) := by
    intro p v now paid hp
    obtain ⟨n1, e1, h1, hR⟩ := e_start h now
    have w41 : wr n1 61 41 v = some (upd n1 41 v) := wr_nI (i := 41) (by omega) (by omega)
    obtain ⟨a', b', e'⟩ := M_to (hR.dry hP v) h.2.2.1 (p := p) (by omega) hP paid
    unfold f_X8_daysIf
    rw [e1, b1_some, w41, b1_some, e', b3_some]
    exact ⟨a', b', rfl⟩
  unfold f_X7_late f_X8_late
  rw [X_has hP, M_isOne hP, X_within y 0 9 rfl rfl, M_in y 0 9 rfl rfl]
  simp only [b1_some]
  rcases one_cases hP x with c | ⟨p, hp, rfl, c⟩
  · rw [c]; exact ⟨_, _, _, _, _, _, _, _, _, _, rfl, rfl⟩
  rw [c, if_neg n10, if_neg n10]
  rcases tb_cases y 0 9 with ⟨t, -⟩ | ⟨t, -⟩
  · obtain ⟨a1, b1, c1, e1⟩ := xd p 0 hp
    obtain ⟨a2, b2, c2, e2⟩ := xd p y hp
    obtain ⟨n1, q1, f1⟩ := md p 0 now paid hp
    obtain ⟨n2, q2, f2⟩ := md p y n1 q1 hp
    rw [t, if_neg n10, if_neg n10, e1, b8_some, e2, b8_some, f1, b3_some, f2, b3_some]
    by_cases c0 : toR P Na Wa 0 p 61 0 Mo De = -4
    · rw [if_pos c0, if_pos c0]; exact ⟨_, _, _, _, _, _, _, _, _, _, rfl, rfl⟩
    rw [if_neg c0, if_neg c0]
    by_cases c1 : toR P Na Wa y p 61 0 Mo De = -4
    · rw [if_pos c1, if_pos c1]; exact ⟨_, _, _, _, _, _, _, _, _, _, rfl, rfl⟩
    rw [if_neg c1, if_neg c1]; exact ⟨_, _, _, _, _, _, _, _, _, _, rfl, rfl⟩
  · rw [t]; exact ⟨_, _, _, _, _, _, _, _, _, _, rfl, rfl⟩
/-- who has most, of those behind p: (who, how much) -/
def best (f : Nat → Int32) : Nat → Nat → Int32 → Int32 → Int32 × Int32
  | 0, _, w, m => (w, m)
  | d + 1, p, w, m => if f p ≤ m then best f d (p + 1) w m else best f d (p + 1) (nI p) (f p)
theorem X_train_L (hP : P ≤ 5) : ∀ (d p : Nat) (w m : Int32) (n : Nat), p + d = P → d < n → f_X7_train_L50 (nI P) De n w m (nI p) = some (best (fun p => owes De P p) d p w m) := by
  intro d
  induction d with
  | zero =>
    intro p w m n hq hn
    obtain ⟨n, rfl⟩ : ∃ m, n = m + 1 := ⟨n - 1, by omega⟩
    rw [f_X7_train_L50, if_pos (nI_le (by omega) (by omega))]; rfl
  | succ d ih =>
    intro p w m n hq hn
    obtain ⟨n, rfl⟩ : ∃ m, n = m + 1 := ⟨n - 1, by omega⟩
    rw [f_X7_train_L50, if_neg (nI_ge (by omega) (by omega)), X_owedBy (by omega) hP, b1_some, best, nI_1]
    by_cases c : owes De P p ≤ m
    · rw [if_pos c, if_pos c]; exact ih (p + 1) _ _ n (by omega) (by omega)
    · rw [if_neg c, if_neg c]; exact ih (p + 1) _ _ n (by omega) (by omega)
theorem M_train_L (h : RR P now Da Dr Na Mo Wa De) (hP : P ≤ 5) : ∀ (d p : Nat) (w m : Int32) (n : Nat), p + d = P → d < n → f_X8_train_L34 (nI P) now n m w (nI p) = some ((best (fun p => owes De P p) d p w m).2, (best (fun p => owes De P p) d p w m).1) := by
  intro d
  induction d with
  | zero =>
    intro p w m n hq hn
    obtain ⟨n, rfl⟩ : ∃ m, n = m + 1 := ⟨n - 1, by omega⟩
    rw [f_X8_train_L34, if_pos (nI_le (by omega) (by omega))]; rfl
  | succ d ih =>
    intro p w m n hq hn
    obtain ⟨n, rfl⟩ : ∃ m, n = m + 1 := ⟨n - 1, by omega⟩
    rw [f_X8_train_L34, if_neg (nI_ge (by omega) (by omega)), M_owesAll h (by omega) hP, b1_some, best, nI_1]
    by_cases c : owes De P p ≤ m
    · simp only [if_pos c, b1_some]; exact ih (p + 1) _ _ n (by omega) (by omega)
    · simp only [if_neg c, b1_some]; exact ih (p + 1) _ _ n (by omega) (by omega)
theorem e_train (h : LI P st Da Dr Na Mo Wa De) (now : Nat → Int32) (paid : Int32) (t1 t2 t3 : Int32) (t4 t5 t6 t7 : Nat → Int32) (x y : Int32) : ∃ r u1 u2 u3 u4 u5 u6 u7 now' paid', f_X7_train (nI P) Da Dr Na Mo Wa De t1 t2 t3 t4 t5 t6 t7 x y = some (r, u1, u2, u3, u4, u5, u6, u7) ∧ f_X8_train st now (nI P) paid x y = some (r, now', paid') := by
  obtain ⟨n1, e1, h1, hR⟩ := e_start h now
  have hP := h.1
  unfold f_X7_train f_X8_train
  rw [X_within x 0 60 rfl rfl, M_isFar, X_within y 0 1 rfl rfl, M_isPart, e1]
  simp only [b1_some]
  rcases tb_cases x 0 60 with ⟨t, -⟩ | ⟨t, -⟩
  · obtain ⟨k, -, hk, rfl⟩ := tb_nI (lo := 0) (hi := 60) t
    rw [t, if_neg n10, if_neg n10]
    rcases tb_cases y 0 1 with ⟨s, -⟩ | ⟨s, -⟩
    · obtain ⟨n2, e2, h2⟩ := M_daysGo (N := k) hR h.2.2.1 hP (by omega)
      have a := X_train_L (De := (daysR P Na Wa Dr k 0 Mo De).2.2) hP P 0 (-4) 0 400 (by omega) (by omega)
      have b := M_train_L h2 hP P 0 (-4) 0 400 (by omega) (by omega)
      rw [nI_0] at a b
      rw [s, if_neg n10, if_neg n10, e2, b2_some]
      unfold f_X1_become
      rw [b7_some, X_runDays hP (by omega), b4_some, a, b, b2_some]
      rw [b2_some]
      generalize (best (fun p => owes (daysR P Na Wa Dr k 0 Mo De).2.2 P p) P 0 (-4) 0).1 = w
      generalize (best (fun p => owes (daysR P Na Wa Dr k 0 Mo De).2.2 P p) P 0 (-4) 0).2 = m
      by_cases c0 : w = -4
      · rw [if_pos c0, if_pos c0]; exact ⟨_, _, _, _, _, _, _, _, _, _, rfl, rfl⟩
      rw [if_neg c0, if_neg c0]
      by_cases c1 : y = 0
      · rw [if_pos c1, if_pos c1]; exact ⟨_, _, _, _, _, _, _, _, _, _, rfl, rfl⟩
      rw [if_neg c1, if_neg c1]; exact ⟨_, _, _, _, _, _, _, _, _, _, rfl, rfl⟩
    · rw [s]; exact ⟨_, _, _, _, _, _, _, _, _, _, rfl, rfl⟩
  · rw [t]; exact ⟨_, _, _, _, _, _, _, _, _, _, rfl, rfl⟩
/-- how many ride behind thirty days -/
def rEnd (P : Nat) (Na Wa : Nat → Int32) (dry : Int32) (Mo De : Nat → Int32) : Int32 := cnt (daysR P Na Wa dry 30 0 Mo De).2.2 P
theorem X_rEnd_L (hP : P ≤ 5) : ∀ (d i : Nat) (paid Da : Int32) (Mo De : Nat → Int32) (n : Nat), i + d = 30 → d < n → f_X1_ridersInTheEnd_L2 (nI P) Dr Na Wa n (nI i) Da Mo De = some (Da + nI d, (daysR P Na Wa Dr d paid Mo De).2.1, (daysR P Na Wa Dr d paid Mo De).2.2) := by
  have e30 : (30 : Int32) = nI 30 := rfl
  intro d
  induction d with
  | zero =>
    intro i paid Da Mo De n hi hn
    obtain ⟨n, rfl⟩ : ∃ m, n = m + 1 := ⟨n - 1, by omega⟩
    rw [f_X1_ridersInTheEnd_L2, e30, if_pos (nI_le (by omega) (by omega)), nI_0, Int32.add_zero]; rfl
  | succ d ih =>
    intro i paid Da Mo De n hi hn
    obtain ⟨n, rfl⟩ : ∃ m, n = m + 1 := ⟨n - 1, by omega⟩
    rw [f_X1_ridersInTheEnd_L2, e30, if_neg (nI_ge (by omega) (by omega)), X_runDay hP, b4_some, nI_1, ih (i + 1) (paid + (dayR P Na Wa Dr 0 Mo De).1) _ _ _ n (by omega) (by omega), daysR, dayR_paid P Na Wa Dr paid, nI_succ]
    have e : Da + 1 + nI d = Da + (nI d + 1) := by rw [Int32.add_assoc, Int32.add_comm 1]
    rw [e]
theorem X_rEnd (hP : P ≤ 5) : ∃ a b c, f_X1_ridersInTheEnd (nI P) Da Dr Na Mo Wa De = some (rEnd P Na Wa Dr Mo De, a, b, c) := by
  unfold f_X1_ridersInTheEnd
  have h := X_rEnd_L (Dr := Dr) (Na := Na) (Wa := Wa) hP 30 0 0 Da Mo De 400 (by omega) (by omega)
  rw [nI_0] at h
  rw [h, b3_some, X_riders hP, b1_some, X_bitCount hP, b1_some]
  exact ⟨_, _, _, rfl⟩
theorem M_rEnd (h : RR P now Da Dr Na Mo Wa De) (hN : NaOK P Na) (hP : P ≤ 5) : ∃ a b, f_X8_ridingBehind now (nI P) 30 = some (rEnd P Na Wa Dr Mo De, a, b) := by
  unfold f_X8_ridingBehind
  obtain ⟨n1, e1, h1⟩ := M_daysGo (N := 30) h hN hP (by omega)
  have e30 : (30 : Int32) = nI 30 := rfl
  rw [e30, e1, b2_some, M_ridingMany h1 hP, b1_some]
  exact ⟨_, _, rfl⟩
theorem X_give_L {v : Int32} (hP : P ≤ 5) : ∀ (d p : Nat) (w m : Int32) (t1 t2 t3 : Int32) (t4 t5 t6 t7 : Nat → Int32) (n : Nat), p + d = P → d < n → ∃ u1 u2 u3 u4 u5 u6 u7, f_X7_give_L47 (nI P) Da Dr Na Mo Wa De v n w m (nI p) t1 t2 t3 t4 t5 t6 t7 = some ((best (fun p => rEnd P Na Wa Dr (gainF Mo p v) De) d p w m).1, (best (fun p => rEnd P Na Wa Dr (gainF Mo p v) De) d p w m).2, u1, u2, u3, u4, u5, u6, u7) := by
  intro d
  induction d with
  | zero =>
    intro p w m t1 t2 t3 t4 t5 t6 t7 n hq hn
    obtain ⟨n, rfl⟩ : ∃ m, n = m + 1 := ⟨n - 1, by omega⟩
    rw [f_X7_give_L47, if_pos (nI_le (by omega) (by omega))]
    exact ⟨_, _, _, _, _, _, _, rfl⟩
  | succ d ih =>
    intro p w m t1 t2 t3 t4 t5 t6 t7 n hq hn
    obtain ⟨n, rfl⟩ : ∃ m, n = m + 1 := ⟨n - 1, by omega⟩
    obtain ⟨a, b, c, e⟩ := X_rEnd (Da := Da) (Dr := Dr) (Na := Na) (Mo := gainF Mo p v) (Wa := Wa) (De := De) hP
    rw [f_X7_give_L47, if_neg (nI_ge (by omega) (by omega))]
    unfold f_X1_become
    rw [b7_some, X_gain (by omega), b1_some, e, b4_some, best, nI_1]
    by_cases c : rEnd P Na Wa Dr (gainF Mo p v) De ≤ m
    · simp only [if_pos c]; exact ih (p + 1) _ _ _ _ _ _ _ _ _ n (by omega) (by omega)
    · simp only [if_neg c]; exact ih (p + 1) _ _ _ _ _ _ _ _ _ n (by omega) (by omega)
theorem M_give_L {v : Int32} (h : LI P st Da Dr Na Mo Wa De) : ∀ (d p : Nat) (w m : Int32) (now : Nat → Int32) (paid : Int32) (n : Nat), p + d = P → d < n → ∃ a b, f_X8_give_L39 st (nI P) v n m w (nI p) now paid = some ((best (fun p => rEnd P Na Wa Dr (gainF Mo p v) De) d p w m).2, (best (fun p => rEnd P Na Wa Dr (gainF Mo p v) De) d p w m).1, a, b) := by
  have hP := h.1
  intro d
  induction d with
  | zero =>
    intro p w m now paid n hq hn
    obtain ⟨n, rfl⟩ : ∃ m, n = m + 1 := ⟨n - 1, by omega⟩
    rw [f_X8_give_L39, if_pos (nI_le (by omega) (by omega))]
    exact ⟨_, _, rfl⟩
  | succ d ih =>
    intro p w m now paid n hq hn
    obtain ⟨n, rfl⟩ : ∃ m, n = m + 1 := ⟨n - 1, by omega⟩
    obtain ⟨n1, e1, h1, hR⟩ := e_start h now
    obtain ⟨n2, e2, h2⟩ := M_gets hR (p := p) (by omega) hP v
    obtain ⟨a, b, e3⟩ := M_rEnd h2 h.2.2.1 hP
    rw [f_X8_give_L39, if_neg (nI_ge (by omega) (by omega)), e1, b1_some, e2, b1_some, e3, b3_some, best, nI_1]
    by_cases c : rEnd P Na Wa Dr (gainF Mo p v) De ≤ m
    · simp only [if_pos c, b1_some]; exact ih (p + 1) _ _ _ _ n (by omega) (by omega)
    · simp only [if_neg c, b1_some]; exact ih (p + 1) _ _ _ _ n (by omega) (by omega)
theorem e_give (h : LI P st Da Dr Na Mo Wa De) (now : Nat → Int32) (paid : Int32) (t1 t2 t3 : Int32) (t4 t5 t6 t7 : Nat → Int32) (x y : Int32) : ∃ r u1 u2 u3 u4 u5 u6 u7 now' paid', f_X7_give (nI P) Da Dr Na Mo Wa De t1 t2 t3 t4 t5 t6 t7 x y = some (r, u1, u2, u3, u4, u5, u6, u7) ∧ f_X8_give st now (nI P) paid x y = some (r, now', paid') := by
  obtain ⟨n1, e1, h1, hR⟩ := e_start h now
  have hP := h.1
  unfold f_X7_give f_X8_give
  rw [X_within x 1 99 rfl rfl, M_in x 1 99 rfl rfl, X_within y 0 1 rfl rfl, M_isPart, e1]
  simp only [b1_some]
  rcases tb_cases x 1 99 with ⟨t, -⟩ | ⟨t, -⟩
  · rw [t, if_neg n10, if_neg n10]
    rcases tb_cases y 0 1 with ⟨s, -⟩ | ⟨s, -⟩
    · obtain ⟨a, b, c, e⟩ := X_rEnd (Da := Da) (Dr := Dr) (Na := Na) (Mo := Mo) (Wa := Wa) (De := De) hP
      obtain ⟨a', b', e'⟩ := M_rEnd hR h.2.2.1 hP
      obtain ⟨u1, u2, u3, u4, u5, u6, u7, f1⟩ := X_give_L (Da := Da) (Dr := Dr) (Na := Na) (Mo := Mo) (Wa := Wa) (De := De) (v := x) hP P 0 (-4) (rEnd P Na Wa Dr Mo De) (nI P) a Dr Na b Wa c 400 (by omega) (by omega)
      obtain ⟨v1, v2, f2⟩ := M_give_L (v := x) h P 0 (-4) (rEnd P Na Wa Dr Mo De) a' b' 400 (by omega) (by omega)
      rw [nI_0] at f1 f2
      rw [s, if_neg n10, if_neg n10, e', b3_some, f2, b4_some]
      unfold f_X1_become
      rw [b7_some, e, b4_some, f1, b9_some]
      generalize (best (fun p => rEnd P Na Wa Dr (gainF Mo p x) De) P 0 (-4) (rEnd P Na Wa Dr Mo De)).1 = w
      generalize (best (fun p => rEnd P Na Wa Dr (gainF Mo p x) De) P 0 (-4) (rEnd P Na Wa Dr Mo De)).2 = m
      by_cases c0 : w = -4
      · rw [if_pos c0, if_pos c0]; exact ⟨_, _, _, _, _, _, _, _, _, _, rfl, rfl⟩
      rw [if_neg c0, if_neg c0]
      by_cases c1 : y = 0
      · rw [if_pos c1, if_pos c1]; exact ⟨_, _, _, _, _, _, _, _, _, _, rfl, rfl⟩
      rw [if_neg c1, if_neg c1]; exact ⟨_, _, _, _, _, _, _, _, _, _, rfl, rfl⟩
    · rw [s]; exact ⟨_, _, _, _, _, _, _, _, _, _, rfl, rfl⟩
  · rw [t]; exact ⟨_, _, _, _, _, _, _, _, _, _, rfl, rfl⟩
end E3
