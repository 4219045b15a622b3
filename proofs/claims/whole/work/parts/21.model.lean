/-! ===== L2: the reference's land, read off its row ===== -/
/-- the row holds the land of P people -/
def RR (P : Nat) (now : Nat → Int32) (Da Dr : Int32) (Na Mo Wa De : Nat → Int32) : Prop :=
  now 40 = Da ∧ now 41 = Dr ∧ (∀ p, p < P → now (3 * p) = Na p ∧ now (3 * p + 1) = Mo p ∧ now (3 * p + 2) = Wa p) ∧ ∀ i, i < 25 → now (15 + i) = De i
def NaOK (P : Nat) (Na : Nat → Int32) : Prop := ∀ p, p < P → Na p = 0 ∨ Na p = 1 ∨ Na p = 2 ∨ Na p = 3
section LM
variable {P p q : Nat} {now : Nat → Int32} {Da Dr : Int32} {Na Mo Wa De : Nat → Int32}
theorem M_of (hp : p < 5) {c : Int32} (k : Nat) (hk : k < 3) (hc : c = nI k) : f_X8_of now (nI p) c = some (now (3 * p + k)) := by
  unfold f_X8_of
  rw [ix3 p c k hc, rd_nI (by omega) (by omega)]; rfl
theorem M_becomesOf (hp : p < 5) {c v : Int32} (k : Nat) (hk : k < 3) (hc : c = nI k) : f_X8_becomesOf now (nI p) c v = some (upd now (3 * p + k) v) := by
  unfold f_X8_becomesOf
  rw [ix3 p c k hc, wr_nI (by omega) (by omega)]; rfl
theorem M_of0 (hp : p < 5) : f_X8_of now (nI p) 0 = some (now (3 * p)) := M_of (c := 0) hp 0 (by omega) rfl
theorem M_of1 (hp : p < 5) : f_X8_of now (nI p) 1 = some (now (3 * p + 1)) := M_of (c := 1) hp 1 (by omega) rfl
theorem M_of2 (hp : p < 5) : f_X8_of now (nI p) 2 = some (now (3 * p + 2)) := M_of (c := 2) hp 2 (by omega) rfl
theorem M_bec0 {v : Int32} (hp : p < 5) : f_X8_becomesOf now (nI p) 0 v = some (upd now (3 * p) v) := M_becomesOf (c := 0) hp 0 (by omega) rfl
theorem M_bec1 {v : Int32} (hp : p < 5) : f_X8_becomesOf now (nI p) 1 v = some (upd now (3 * p + 1) v) := M_becomesOf (c := 1) hp 1 (by omega) rfl
theorem M_bec2 {v : Int32} (hp : p < 5) : f_X8_becomesOf now (nI p) 2 v = some (upd now (3 * p + 2) v) := M_becomesOf (c := 2) hp 2 (by omega) rfl
theorem M_debt0 (hp : p < 5) (hq : q < 5) : f_X8_debt now (nI p) (nI q) = some (now (15 + (5 * p + q))) := by
  unfold f_X8_debt
  rw [ix15, rd_nI (by omega) (by omega), b1_some, Nat.add_assoc]
theorem M_debt (h : RR P now Da Dr Na Mo Wa De) (hp : p < 5) (hq : q < 5) : f_X8_debt now (nI p) (nI q) = some (De (5 * p + q)) := by
  rw [M_debt0 hp hq, h.2.2.2 _ (by omega)]
theorem M_owesAll_L (h : RR P now Da Dr Na Mo Wa De) (hp : p < 5) (hP : P ≤ 5) : ∀ (d q : Nat) (s : Int32) (n : Nat), q + d = P → d < n → f_X8_owesAll_L4 now (nI P) (nI p) n s (nI q) = some (acc (fun j => De (5 * p + j)) q d s) := by
  intro d
  induction d with
  | zero =>
    intro q s n hq hn
    obtain ⟨n, rfl⟩ : ∃ m, n = m + 1 := ⟨n - 1, by omega⟩
    rw [f_X8_owesAll_L4, if_pos (nI_le (by omega) (by omega))]; rfl
  | succ d ih =>
    intro q s n hq hn
    obtain ⟨n, rfl⟩ : ∃ m, n = m + 1 := ⟨n - 1, by omega⟩
    rw [f_X8_owesAll_L4, if_neg (nI_ge (by omega) (by omega)), M_debt h hp (by omega), b1_some, nI_1, ih (q + 1) _ n (by omega) (by omega)]; rfl
theorem M_owesAll (h : RR P now Da Dr Na Mo Wa De) (hp : p < 5) (hP : P ≤ 5) : f_X8_owesAll now (nI P) (nI p) = some (owes De P p) := by
  unfold f_X8_owesAll
  have e := M_owesAll_L h hp hP P 0 0 400 (by omega) (by omega)
  rw [nI_0] at e
  rw [e]; rfl
theorem M_isOwed_L (h : RR P now Da Dr Na Mo Wa De) (hp : p < 5) (hP : P ≤ 5) : ∀ (d q : Nat) (s : Int32) (n : Nat), q + d = P → d < n → f_X8_isOwed_L4 now (nI P) (nI p) n s (nI q) = some (acc (fun j => De (5 * j + p)) q d s) := by
  intro d
  induction d with
  | zero =>
    intro q s n hq hn
    obtain ⟨n, rfl⟩ : ∃ m, n = m + 1 := ⟨n - 1, by omega⟩
    rw [f_X8_isOwed_L4, if_pos (nI_le (by omega) (by omega))]; rfl
  | succ d ih =>
    intro q s n hq hn
    obtain ⟨n, rfl⟩ : ∃ m, n = m + 1 := ⟨n - 1, by omega⟩
    rw [f_X8_isOwed_L4, if_neg (nI_ge (by omega) (by omega)), M_debt h (by omega) hp, b1_some, nI_1, ih (q + 1) _ n (by omega) (by omega)]; rfl
theorem M_isOwed (h : RR P now Da Dr Na Mo Wa De) (hp : p < 5) (hP : P ≤ 5) : f_X8_isOwed now (nI P) (nI p) = some (owed De P p) := by
  unfold f_X8_isOwed
  have e := M_isOwed_L h hp hP P 0 0 400 (by omega) (by omega)
  rw [nI_0] at e
  rw [e]; rfl
theorem M_will (h : RR P now Da Dr Na Mo Wa De) (hN : NaOK P Na) (hp : p < P) (hP : P ≤ 5) : f_X8_will now (nI P) (nI p) = some (will Na Mo De P p) := by
  unfold f_X8_will
  rw [M_of1 (by omega), M_of0 (by omega), M_owesAll h (by omega) hP]
  simp only [b1_some]
  rw [(h.2.2.1 p hp).1, (h.2.2.1 p hp).2.1]
  unfold will
  rcases hN p hp with e | e | e | e
  · rw [e]; rfl
  · rw [e]; rfl
  · rw [e]; rfl
  · rw [e]
    show (if owes De P p < 10 then some 0 else some (Mo p / 2)) = some (if owes De P p < 10 then 0 else Mo p / 2)
    by_cases c : owes De P p < 10
    · rw [if_pos c, if_pos c]
    · rw [if_neg c, if_neg c]
theorem lesser_eq (a b : Int32) : f_X8_lesser a b = some (mn a b) := by
  unfold f_X8_lesser mn
  by_cases c : b < a
  · rw [if_pos c, if_pos (Int32.le_of_lt c)]
  · rw [if_neg c]
    by_cases c2 : b ≤ a
    · rw [if_pos c2]
      have : b = a := Int32.le_antisymm c2 (Int32.not_lt.mp c)
      rw [this]
    · rw [if_neg c2]
theorem RR.money (h : RR P now Da Dr Na Mo Wa De) (hp : p < 5) (hP : P ≤ 5) (v : Int32) : RR P (upd now (3 * p + 1) v) Da Dr Na (upd Mo p v) Wa De := by
  obtain ⟨h1, h2, h3, h4⟩ := h
  refine ⟨by rw [upd_n (by omega)]; exact h1, by rw [upd_n (by omega)]; exact h2, fun j hj => ?_, fun i hi => by rw [upd_n (by omega)]; exact h4 i hi⟩
  obtain ⟨a, b, c⟩ := h3 j hj
  refine ⟨by rw [upd_n (by omega)]; exact a, ?_, by rw [upd_n (by omega)]; exact c⟩
  by_cases e : j = p
  · subst e; rw [upd_s, upd_s]
  · rw [upd_n (by omega), upd_n e]; exact b
theorem RR.nature (h : RR P now Da Dr Na Mo Wa De) (hp : p < 5) (hP : P ≤ 5) (v : Int32) : RR P (upd now (3 * p) v) Da Dr (upd Na p v) Mo Wa De := by
  obtain ⟨h1, h2, h3, h4⟩ := h
  refine ⟨by rw [upd_n (by omega)]; exact h1, by rw [upd_n (by omega)]; exact h2, fun j hj => ?_, fun i hi => by rw [upd_n (by omega)]; exact h4 i hi⟩
  obtain ⟨a, b, c⟩ := h3 j hj
  refine ⟨?_, by rw [upd_n (by omega)]; exact b, by rw [upd_n (by omega)]; exact c⟩
  by_cases e : j = p
  · subst e; rw [upd_s, upd_s]
  · rw [upd_n (by omega), upd_n e]; exact a
theorem RR.wage (h : RR P now Da Dr Na Mo Wa De) (hp : p < 5) (hP : P ≤ 5) (v : Int32) : RR P (upd now (3 * p + 2) v) Da Dr Na Mo (upd Wa p v) De := by
  obtain ⟨h1, h2, h3, h4⟩ := h
  refine ⟨by rw [upd_n (by omega)]; exact h1, by rw [upd_n (by omega)]; exact h2, fun j hj => ?_, fun i hi => by rw [upd_n (by omega)]; exact h4 i hi⟩
  obtain ⟨a, b, c⟩ := h3 j hj
  refine ⟨by rw [upd_n (by omega)]; exact a, by rw [upd_n (by omega)]; exact b, ?_⟩
  by_cases e : j = p
  · subst e; rw [upd_s, upd_s]
  · rw [upd_n (by omega), upd_n e]; exact c
theorem RR.debt {i : Nat} (h : RR P now Da Dr Na Mo Wa De) (hi : i < 25) (hP : P ≤ 5) (v : Int32) : RR P (upd now (15 + i) v) Da Dr Na Mo Wa (upd De i v) := by
  obtain ⟨h1, h2, h3, h4⟩ := h
  refine ⟨by rw [upd_n (by omega)]; exact h1, by rw [upd_n (by omega)]; exact h2, fun j hj => ?_, fun j hj => ?_⟩
  · obtain ⟨a, b, c⟩ := h3 j hj
    exact ⟨by rw [upd_n (by omega)]; exact a, by rw [upd_n (by omega)]; exact b, by rw [upd_n (by omega)]; exact c⟩
  · by_cases e : j = i
    · subst e; rw [upd_s, upd_s]
    · rw [upd_n (by omega), upd_n e]; exact h4 j hj
theorem RR.day (h : RR P now Da Dr Na Mo Wa De) (hP : P ≤ 5) (v : Int32) : RR P (upd now 40 v) v Dr Na Mo Wa De := by
  obtain ⟨h1, h2, h3, h4⟩ := h
  refine ⟨upd_s, by rw [upd_n (by omega)]; exact h2, fun j hj => ?_, fun j hj => by rw [upd_n (by omega)]; exact h4 j hj⟩
  obtain ⟨a, b, c⟩ := h3 j hj
  exact ⟨by rw [upd_n (by omega)]; exact a, by rw [upd_n (by omega)]; exact b, by rw [upd_n (by omega)]; exact c⟩
theorem RR.dry (h : RR P now Da Dr Na Mo Wa De) (hP : P ≤ 5) (v : Int32) : RR P (upd now 41 v) Da v Na Mo Wa De := by
  obtain ⟨h1, h2, h3, h4⟩ := h
  refine ⟨by rw [upd_n (by omega)]; exact h1, upd_s, fun j hj => ?_, fun j hj => by rw [upd_n (by omega)]; exact h4 j hj⟩
  obtain ⟨a, b, c⟩ := h3 j hj
  exact ⟨by rw [upd_n (by omega)]; exact a, by rw [upd_n (by omega)]; exact b, by rw [upd_n (by omega)]; exact c⟩
theorem gain_eq (Mo : Nat → Int32) (p : Nat) (n : Int32) : upd Mo p (mn 999 (Mo p + n)) = gainF Mo p n := by
  unfold gainF mn
  by_cases c : Mo p + n < 999
  · rw [if_pos c, if_pos (Int32.le_of_lt c)]
  · rw [if_neg c]
    by_cases c2 : Mo p + n ≤ 999
    · rw [if_pos c2]
      have : Mo p + n = 999 := Int32.le_antisymm c2 (Int32.not_lt.mp c)
      rw [this]
    · rw [if_neg c2]
theorem M_gets (h : RR P now Da Dr Na Mo Wa De) (hp : p < P) (hP : P ≤ 5) (v : Int32) : ∃ now', f_X8_gets now (nI p) v = some now' ∧ RR P now' Da Dr Na (gainF Mo p v) Wa De := by
  unfold f_X8_gets
  rw [M_of1 (by omega), b1_some, (h.2.2.1 p hp).2.1, lesser_eq, b1_some, M_bec1 (by omega), b1_some]
  refine ⟨_, rfl, ?_⟩
  rw [← gain_eq]
  exact h.money (by omega) hP _
theorem M_paysTo (h : RR P now Da Dr Na Mo Wa De) (hp : p < P) (hq : q < P) (hP : P ≤ 5) (v : Int32) : ∃ now', f_X8_paysTo now (nI p) (nI q) v = some now' ∧ RR P now' Da Dr Na (payMo Mo p q v) Wa (payDe De p q v) := by
  unfold f_X8_paysTo
  rw [ix15, rd_nI (by omega) (by omega), b1_some, wr_nI (by omega) (by omega), b1_some]
  have h1 := h.debt (i := 5 * p + q) (by omega) hP (De (5 * p + q) - v)
  have e : now (15 + 5 * p + q) = De (5 * p + q) := by rw [Nat.add_assoc]; exact h.2.2.2 _ (by omega)
  rw [e, Nat.add_assoc, M_of1 (by omega), b1_some, (h1.2.2.1 p hp).2.1, M_bec1 (by omega), b1_some]
  obtain ⟨n2, e2, h2⟩ := M_gets (h1.money (p := p) (by omega) hP (Mo p - v)) hq hP v
  rw [e2, b1_some]
  exact ⟨n2, rfl, h2⟩
theorem M_pay_L (hN : NaOK P Na) (hp : p < P) (hP : P ≤ 5) : ∀ (d q : Nat) (left : Int32) (now Mo De : Nat → Int32) (paid : Int32) (n : Nat), RR P now Da Dr Na Mo Wa De → q + d = P → d < n → ∃ now', f_X8_dayGoes_L63 (nI P) (nI p) n left (nI q) now paid = some (now', paid + (left - (payR p d q left Mo De).1)) ∧ RR P now' Da Dr Na (payR p d q left Mo De).2.1 Wa (payR p d q left Mo De).2.2 := by
  intro d
  induction d with
  | zero =>
    intro q left now Mo De paid n h hq hn
    obtain ⟨n, rfl⟩ : ∃ m, n = m + 1 := ⟨n - 1, by omega⟩
    rw [f_X8_dayGoes_L63, if_pos (nI_le (by omega) (by omega))]
    refine ⟨now, ?_, h⟩
    show some (now, paid) = some (now, paid + (left - left))
    rw [Int32.sub_self, Int32.add_zero]
  | succ d ih =>
    intro q left now Mo De paid n h hq hn
    obtain ⟨n, rfl⟩ : ∃ m, n = m + 1 := ⟨n - 1, by omega⟩
    rw [f_X8_dayGoes_L63, if_neg (nI_ge (by omega) (by omega)), M_debt h (by omega) (by omega), b1_some, lesser_eq, b1_some, payR]
    by_cases c2 : mn left (De (5 * p + q)) ≤ 0
    · rw [if_pos c2, if_pos c2, nI_1]
      exact ih (q + 1) left now Mo De paid n h (by omega) (by omega)
    · rw [if_neg c2, if_neg c2]
      obtain ⟨n2, e2, h2⟩ := M_paysTo h hp (q := q) (by omega) hP (mn left (De (5 * p + q)))
      rw [e2, b1_some, nI_1]
      obtain ⟨n3, e3, h3⟩ := ih (q + 1) (left - mn left (De (5 * p + q))) n2 _ _ (paid + mn left (De (5 * p + q))) n h2 (by omega) (by omega)
      refine ⟨n3, ?_, h3⟩
      rw [e3, i_ring1]
theorem M_earn_L (hP : P ≤ 5) : ∀ (d p : Nat) (now Mo : Nat → Int32) (n : Nat), RR P now Da Dr Na Mo Wa De → p + d = P → d < n → ∃ now', f_X8_dayGoes_L2 (nI P) n (nI p) now = some now' ∧ RR P now' Da Dr Na (earnR Wa Dr d p Mo) Wa De := by
  intro d
  induction d with
  | zero =>
    intro p now Mo n h hq hn
    obtain ⟨n, rfl⟩ : ∃ m, n = m + 1 := ⟨n - 1, by omega⟩
    rw [f_X8_dayGoes_L2, if_pos (nI_le (by omega) (by omega))]
    exact ⟨now, rfl, h⟩
  | succ d ih =>
    intro p now Mo n h hq hn
    obtain ⟨n, rfl⟩ : ∃ m, n = m + 1 := ⟨n - 1, by omega⟩
    have e41 : rd now 61 41 = some (now 41) := rd_nI (i := 41) (by omega) (by omega)
    rw [f_X8_dayGoes_L2, if_neg (nI_ge (by omega) (by omega)), M_of2 (by omega), b1_some, e41, b1_some, (h.2.2.1 p (by omega)).2.2, h.2.1]
    have e : (if Wa p - Dr ≤ 0 then some (0 : Int32) else some (Wa p - Dr)) = some (if 0 < Wa p - Dr then Wa p - Dr else 0) := by
      by_cases c : Wa p - Dr ≤ 0
      · rw [if_pos c, if_neg (Int32.not_lt.mpr c)]
      · rw [if_neg c, if_pos (Int32.not_le.mp c)]
    rw [e, b1_some]
    obtain ⟨n2, e2, h2⟩ := M_gets h (p := p) (by omega) hP (if 0 < Wa p - Dr then Wa p - Dr else 0)
    rw [e2, b1_some, nI_1]
    exact ih (p + 1) n2 _ n h2 (by omega) (by omega)
theorem M_out_L (hN : NaOK P Na) (hP : P ≤ 5) : ∀ (d p : Nat) (now Mo De : Nat → Int32) (paid : Int32) (n : Nat), RR P now Da Dr Na Mo Wa De → p + d = P → d < n → ∃ now', f_X8_dayGoes_L47 (nI P) n (nI p) now paid = some (now', (outR Na P d p paid Mo De).1) ∧ RR P now' Da Dr Na (outR Na P d p paid Mo De).2.1 Wa (outR Na P d p paid Mo De).2.2 := by
  intro d
  induction d with
  | zero =>
    intro p now Mo De paid n h hq hn
    obtain ⟨n, rfl⟩ : ∃ m, n = m + 1 := ⟨n - 1, by omega⟩
    rw [f_X8_dayGoes_L47, if_pos (nI_le (by omega) (by omega))]
    exact ⟨now, rfl, h⟩
  | succ d ih =>
    intro p now Mo De paid n h hq hn
    obtain ⟨n, rfl⟩ : ∃ m, n = m + 1 := ⟨n - 1, by omega⟩
    rw [f_X8_dayGoes_L47, if_neg (nI_ge (by omega) (by omega)), M_will h hN (by omega) hP, b1_some]
    obtain ⟨n2, e2, h2⟩ := M_pay_L hN (p := p) (by omega) hP P 0 (will Na Mo De P p) now Mo De paid 400 h (by omega) (by omega)
    rw [nI_0] at e2
    rw [e2, b2_some, nI_1]
    exact ih (p + 1) n2 _ _ _ n h2 (by omega) (by omega)
theorem M_dayGoes (h : RR P now Da Dr Na Mo Wa De) (hN : NaOK P Na) (hP : P ≤ 5) (paid : Int32) : ∃ now', f_X8_dayGoes now (nI P) paid = some (now', (dayR P Na Wa Dr paid Mo De).1) ∧ RR P now' (Da + 1) Dr Na (dayR P Na Wa Dr paid Mo De).2.1 Wa (dayR P Na Wa Dr paid Mo De).2.2 := by
  unfold f_X8_dayGoes
  obtain ⟨n1, e1, h1⟩ := M_earn_L hP P 0 now Mo 400 h (by omega) (by omega)
  obtain ⟨n2, e2, h2⟩ := M_out_L hN hP P 0 n1 _ De paid 400 h1 (by omega) (by omega)
  rw [nI_0] at e1 e2
  rw [e1, b1_some, e2, b2_some]
  have e40 : rd n2 61 40 = some (n2 40) := rd_nI (i := 40) (by omega) (by omega)
  have w40 : ∀ v, wr n2 61 40 v = some (upd n2 40 v) := fun v => wr_nI (i := 40) (by omega) (by omega)
  rw [e40, b1_some, w40, b1_some, h2.1]
  exact ⟨_, rfl, h2.day hP _⟩
/-- what was paid before only adds -/
theorem outR_paid (Na : Nat → Int32) (P : Nat) : ∀ (d p : Nat) (a b : Int32) (Mo De : Nat → Int32), outR Na P d p (a + b) Mo De = (a + (outR Na P d p b Mo De).1, (outR Na P d p b Mo De).2.1, (outR Na P d p b Mo De).2.2) := by
  intro d
  induction d with
  | zero => intros; rfl
  | succ d ih =>
    intro p a b Mo De
    rw [outR, Int32.add_assoc, ih]; rfl
theorem dayR_paid (P : Nat) (Na Wa : Nat → Int32) (dry paid : Int32) (Mo De : Nat → Int32) : dayR P Na Wa dry paid Mo De = (paid + (dayR P Na Wa dry 0 Mo De).1, (dayR P Na Wa dry 0 Mo De).2.1, (dayR P Na Wa dry 0 Mo De).2.2) := by
  have h := outR_paid Na P P 0 paid 0 (earnR Wa dry P 0 Mo) De
  rw [Int32.add_zero] at h
  exact h
end LM
