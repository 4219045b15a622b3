/-! ===== L2: numbers, loops, the land's mathematics ===== -/
theorem i_ring1 (a b c m : Int32) : (a + m) + ((b - m) - c) = a + (b - c) := by grind
theorem rd_nI {f : Nat → Int32} {n i : Nat} (h : i < n) (hn : n < 2 ^ 31) : rd f n (nI i) = some (f i) := by
  unfold rd
  rw [if_neg (nI_in h hn), nI_clamp (by omega)]
theorem wr_nI {f : Nat → Int32} {n i : Nat} {x : Int32} (h : i < n) (hn : n < 2 ^ 31) : wr f n (nI i) x = some (upd f i x) := by
  unfold wr
  rw [if_neg (nI_in h hn), nI_clamp (by omega)]
theorem upd_s {f : Nat → Int32} {k : Nat} {x : Int32} : upd f k x k = x := pk_us
theorem upd_n {f : Nat → Int32} {k j : Nat} {x : Int32} (h : j ≠ k) : upd f k x j = f j := pk_un h
theorem ix5 (p q : Nat) : nI p * 5 + nI q = nI (5 * p + q) := by
  have e : (5 : Int32) = nI 5 := rfl
  rw [e, pk_mul, nI_add, Nat.mul_comm]
theorem ix15 (p q : Nat) : (15 + 5 * nI p) + nI q = nI (15 + 5 * p + q) := by
  have e : (5 : Int32) = nI 5 := rfl
  have e2 : (15 : Int32) = nI 15 := rfl
  rw [e, e2, pk_mul, nI_add, nI_add]
theorem ix3 (p : Nat) (c : Int32) (k : Nat) (hc : c = nI k) : 3 * nI p + c = nI (3 * p + k) := by
  have e : (3 : Int32) = nI 3 := rfl
  rw [e, hc, pk_mul, nI_add]
/-- a sum from the left, d terms from place q on -/
def acc (f : Nat → Int32) : Nat → Nat → Int32 → Int32
  | _, 0, s => s
  | q, d + 1, s => acc f (q + 1) d (s + f q)
theorem acc_congr {f g : Nat → Int32} : ∀ (d q : Nat) (s : Int32), (∀ j, q ≤ j → j < q + d → f j = g j) → acc f q d s = acc g q d s := by
  intro d
  induction d with
  | zero => intro q s _; rfl
  | succ d ih =>
    intro q s h
    show acc f (q + 1) d (s + f q) = acc g (q + 1) d (s + g q)
    rw [h q (Nat.le_refl q) (by omega)]
    exact ih (q + 1) _ (fun j h1 h2 => h j (by omega) (by omega))
def owes (De : Nat → Int32) (P p : Nat) : Int32 := acc (fun j => De (5 * p + j)) 0 P 0
def owed (De : Nat → Int32) (P p : Nat) : Int32 := acc (fun j => De (5 * j + p)) 0 P 0
def will (Na Mo De : Nat → Int32) (P p : Nat) : Int32 := if Na p = 0 then Mo p else if Na p = 1 then Mo p / 2 else if Na p = 2 then Mo p / 4 else if owes De P p < 10 then 0 else Mo p / 2
def gainF (Mo : Nat → Int32) (p : Nat) (n : Int32) : Nat → Int32 := upd Mo p (if Mo p + n ≤ 999 then Mo p + n else 999)
def payMo (Mo : Nat → Int32) (p q : Nat) (n : Int32) : Nat → Int32 := gainF (upd Mo p (Mo p - n)) q n
def payDe (De : Nat → Int32) (p q : Nat) (n : Int32) : Nat → Int32 := upd De (5 * p + q) (De (5 * p + q) - n)
def mn (a b : Int32) : Int32 := if b < a then b else a
def payR (p : Nat) : Nat → Nat → Int32 → (Nat → Int32) → (Nat → Int32) → Int32 × (Nat → Int32) × (Nat → Int32)
  | 0, _, left, Mo, De => (left, Mo, De)
  | d + 1, q, left, Mo, De => if mn left (De (5 * p + q)) ≤ 0 then payR p d (q + 1) left Mo De else payR p d (q + 1) (left - mn left (De (5 * p + q))) (payMo Mo p q (mn left (De (5 * p + q)))) (payDe De p q (mn left (De (5 * p + q))))
def earnR (Wa : Nat → Int32) (dry : Int32) : Nat → Nat → (Nat → Int32) → (Nat → Int32)
  | 0, _, Mo => Mo
  | d + 1, p, Mo => earnR Wa dry d (p + 1) (gainF Mo p (if 0 < Wa p - dry then Wa p - dry else 0))
def outR (Na : Nat → Int32) (P : Nat) : Nat → Nat → Int32 → (Nat → Int32) → (Nat → Int32) → Int32 × (Nat → Int32) × (Nat → Int32)
  | 0, _, paid, Mo, De => (paid, Mo, De)
  | d + 1, p, paid, Mo, De => outR Na P d (p + 1) (paid + (will Na Mo De P p - (payR p P 0 (will Na Mo De P p) Mo De).1)) (payR p P 0 (will Na Mo De P p) Mo De).2.1 (payR p P 0 (will Na Mo De P p) Mo De).2.2
/-- a day: what is paid, the money and the debts behind it -/
def dayR (P : Nat) (Na Wa : Nat → Int32) (dry paid : Int32) (Mo De : Nat → Int32) : Int32 × (Nat → Int32) × (Nat → Int32) := outR Na P P 0 paid (earnR Wa dry P 0 Mo) De
theorem mn_le {a b : Int32} (h : a ≤ 0) : mn a b ≤ 0 := by
  unfold mn
  by_cases c : b < a
  · rw [if_pos c]; exact Int32.le_of_lt (Int32.lt_of_lt_of_le c h)
  · rw [if_neg c]; exact h
theorem payR_stop (p : Nat) : ∀ (d q : Nat) (left : Int32) (Mo De : Nat → Int32), left ≤ 0 → payR p d q left Mo De = (left, Mo, De) := by
  intro d
  induction d with
  | zero => intros; rfl
  | succ d ih =>
    intro q left Mo De h
    rw [payR, if_pos (mn_le h)]
    exact ih _ _ _ _ h
section LX
variable {P p q : Nat} {De Mo Na Wa : Nat → Int32}
theorem X_debt (hp : p < 5) (hq : q < 5) : f_X1_debt De (nI p) (nI q) = some (De (5 * p + q)) := by
  unfold f_X1_debt
  rw [ix5, rd_nI (by omega) (by omega)]; rfl
theorem X_setDebt {v : Int32} (hp : p < 5) (hq : q < 5) : f_X1_setDebt De (nI p) (nI q) v = some (upd De (5 * p + q) v) := by
  unfold f_X1_setDebt
  rw [ix5, wr_nI (by omega) (by omega)]; rfl
theorem X_owedBy_L (hp : p < 5) (hP : P ≤ 5) : ∀ (d q : Nat) (s : Int32) (n : Nat), q + d = P → d < n → f_X1_owedBy_L4 (nI P) De (nI p) n s (nI q) = some (acc (fun j => De (5 * p + j)) q d s) := by
  intro d
  induction d with
  | zero =>
    intro q s n hq hn
    obtain ⟨n, rfl⟩ : ∃ m, n = m + 1 := ⟨n - 1, by omega⟩
    rw [f_X1_owedBy_L4, if_pos (nI_le (by omega) (by omega))]; rfl
  | succ d ih =>
    intro q s n hq hn
    obtain ⟨n, rfl⟩ : ∃ m, n = m + 1 := ⟨n - 1, by omega⟩
    rw [f_X1_owedBy_L4, if_neg (nI_ge (by omega) (by omega)), ix5, rd_nI (by omega) (by omega), b1_some, nI_1, ih (q + 1) _ n (by omega) (by omega)]; rfl
theorem X_owedBy (hp : p < 5) (hP : P ≤ 5) : f_X1_owedBy (nI P) De (nI p) = some (owes De P p) := by
  unfold f_X1_owedBy
  have h := X_owedBy_L (De := De) hp hP P 0 0 400 (by omega) (by omega)
  rw [nI_0] at h
  rw [h]; rfl
theorem X_owedTo_L (hp : p < 5) (hP : P ≤ 5) : ∀ (d q : Nat) (s : Int32) (n : Nat), q + d = P → d < n → f_X1_owedTo_L4 (nI P) De (nI p) n s (nI q) = some (acc (fun j => De (5 * j + p)) q d s) := by
  intro d
  induction d with
  | zero =>
    intro q s n hq hn
    obtain ⟨n, rfl⟩ : ∃ m, n = m + 1 := ⟨n - 1, by omega⟩
    rw [f_X1_owedTo_L4, if_pos (nI_le (by omega) (by omega))]; rfl
  | succ d ih =>
    intro q s n hq hn
    obtain ⟨n, rfl⟩ : ∃ m, n = m + 1 := ⟨n - 1, by omega⟩
    rw [f_X1_owedTo_L4, if_neg (nI_ge (by omega) (by omega)), ix5, rd_nI (by omega) (by omega), b1_some, nI_1, ih (q + 1) _ n (by omega) (by omega)]; rfl
theorem X_owedTo (hp : p < 5) (hP : P ≤ 5) : f_X1_owedTo (nI P) De (nI p) = some (owed De P p) := by
  unfold f_X1_owedTo
  have h := X_owedTo_L (De := De) hp hP P 0 0 400 (by omega) (by omega)
  rw [nI_0] at h
  rw [h]; rfl
theorem X_willOf (hp : p < 5) (hP : P ≤ 5) : f_X1_willOf (nI P) Na Mo De (nI p) = some (will Na Mo De P p) := by
  unfold f_X1_willOf will
  rw [rd_nI hp (by omega), rd_nI hp (by omega), X_owedBy hp hP]
  simp only [b1_some]
  split <;> rename_i h0
  · rfl
  · split <;> rename_i h1
    · rfl
    · split <;> rename_i h2
      · rfl
      · split <;> rfl
theorem X_gain {v : Int32} (hp : p < 5) : f_X1_gain Mo (nI p) v = some (gainF Mo p v) := by
  unfold f_X1_gain gainF
  rw [rd_nI hp (by omega), b1_some]
  by_cases c : Mo p + v ≤ 999
  · rw [if_pos c, if_pos c, b1_some, wr_nI hp (by omega)]; rfl
  · rw [if_neg c, if_neg c, b1_some, wr_nI hp (by omega)]; rfl
theorem X_handOver {v : Int32} (hp : p < 5) (hq : q < 5) : f_X1_handOver Mo De (nI p) (nI q) v = some (payMo Mo p q v, payDe De p q v) := by
  unfold f_X1_handOver payMo payDe
  rw [rd_nI hp (by omega), b1_some, wr_nI hp (by omega), b1_some, X_debt hp hq, b1_some, X_setDebt hp hq, b1_some, X_gain hq, b1_some]
theorem X_payOut_L (hp : p < 5) (hP : P ≤ 5) : ∀ (d q : Nat) (left : Int32) (Mo De : Nat → Int32) (n : Nat), q + d = P → d < n → f_X1_payOut_L11 (nI P) (nI p) n left (nI q) Mo De = some (payR p d q left Mo De) := by
  intro d
  induction d with
  | zero =>
    intro q left Mo De n hq hn
    obtain ⟨n, rfl⟩ : ∃ m, n = m + 1 := ⟨n - 1, by omega⟩
    rw [f_X1_payOut_L11, if_pos (nI_le (by omega) (by omega))]; rfl
  | succ d ih =>
    intro q left Mo De n hq hn
    obtain ⟨n, rfl⟩ : ∃ m, n = m + 1 := ⟨n - 1, by omega⟩
    rw [f_X1_payOut_L11, if_neg (nI_ge (by omega) (by omega))]
    by_cases c : left ≤ 0
    · rw [if_pos c, payR_stop p _ _ _ _ _ c]
    · rw [if_neg c, X_debt hp (by omega), b1_some, b1_some]
      show (if mn left (De (5 * p + q)) ≤ 0 then _ else _) = _
      rw [payR]
      by_cases c2 : mn left (De (5 * p + q)) ≤ 0
      · rw [if_pos c2, if_pos c2, nI_1]
        exact ih (q + 1) left Mo De n (by omega) (by omega)
      · rw [if_neg c2, if_neg c2]
        show b2 (f_X1_handOver Mo De (nI p) (nI q) (mn left (De (5 * p + q)))) _ = _
        rw [X_handOver hp (by omega), b2_some, nI_1]
        exact ih (q + 1) _ _ _ n (by omega) (by omega)
theorem X_payOut (hp : p < 5) (hP : P ≤ 5) : f_X1_payOut (nI P) Na Mo De (nI p) = some (will Na Mo De P p - (payR p P 0 (will Na Mo De P p) Mo De).1, (payR p P 0 (will Na Mo De P p) Mo De).2.1, (payR p P 0 (will Na Mo De P p) Mo De).2.2) := by
  unfold f_X1_payOut
  rw [X_willOf hp hP, b1_some]
  have h := X_payOut_L (p := p) hp hP P 0 (will Na Mo De P p) Mo De 400 (by omega) (by omega)
  rw [nI_0] at h
  rw [h]; rfl
theorem X_earn_L {dry : Int32} (hP : P ≤ 5) : ∀ (d p : Nat) (Mo : Nat → Int32) (n : Nat), p + d = P → d < n → f_X1_runDay_L2 (nI P) Wa dry n (nI p) Mo = some (earnR Wa dry d p Mo) := by
  intro d
  induction d with
  | zero =>
    intro p Mo n hq hn
    obtain ⟨n, rfl⟩ : ∃ m, n = m + 1 := ⟨n - 1, by omega⟩
    rw [f_X1_runDay_L2, if_pos (nI_le (by omega) (by omega))]; rfl
  | succ d ih =>
    intro p Mo n hq hn
    obtain ⟨n, rfl⟩ : ∃ m, n = m + 1 := ⟨n - 1, by omega⟩
    rw [f_X1_runDay_L2, if_neg (nI_ge (by omega) (by omega)), rd_nI (by omega) (by omega), b1_some, b1_some, X_gain (by omega), b1_some, nI_1, ih (p + 1) _ n (by omega) (by omega)]; rfl
theorem X_out_L (hP : P ≤ 5) : ∀ (d p : Nat) (paid : Int32) (Mo De : Nat → Int32) (n : Nat), p + d = P → d < n → f_X1_runDay_L37 (nI P) Na n paid (nI p) Mo De = some (outR Na P d p paid Mo De) := by
  intro d
  induction d with
  | zero =>
    intro p paid Mo De n hq hn
    obtain ⟨n, rfl⟩ : ∃ m, n = m + 1 := ⟨n - 1, by omega⟩
    rw [f_X1_runDay_L37, if_pos (nI_le (by omega) (by omega))]; rfl
  | succ d ih =>
    intro p paid Mo De n hq hn
    obtain ⟨n, rfl⟩ : ∃ m, n = m + 1 := ⟨n - 1, by omega⟩
    rw [f_X1_runDay_L37, if_neg (nI_ge (by omega) (by omega)), X_payOut (by omega) hP, b3_some, nI_1, ih (p + 1) _ _ _ n (by omega) (by omega)]; rfl
theorem X_runDay {Da dry : Int32} (hP : P ≤ 5) : f_X1_runDay (nI P) Da Na Mo Wa De dry = some ((dayR P Na Wa dry 0 Mo De).1, Da + 1, (dayR P Na Wa dry 0 Mo De).2.1, (dayR P Na Wa dry 0 Mo De).2.2) := by
  unfold f_X1_runDay
  have h := X_earn_L (Wa := Wa) (dry := dry) hP P 0 Mo 400 (by omega) (by omega)
  have h2 := X_out_L (Na := Na) hP P 0 0 (earnR Wa dry P 0 Mo) De 400 (by omega) (by omega)
  rw [nI_0] at h h2
  rw [h, b1_some, h2]; rfl
end LX
