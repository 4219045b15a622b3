/-! ===== L2: tests of numbers, sums, who rides, heights ===== -/
/-- 1 if x lies between, else 0 -/
def tb (x : Int32) (lo hi : Int) : Int32 := if lo ≤ x.toInt ∧ x.toInt ≤ hi then 1 else 0
theorem tb_cases (x : Int32) (lo hi : Int) : (tb x lo hi = 1 ∧ lo ≤ x.toInt ∧ x.toInt ≤ hi) ∨ (tb x lo hi = 0 ∧ ¬ (lo ≤ x.toInt ∧ x.toInt ≤ hi)) := by
  unfold tb
  by_cases c : lo ≤ x.toInt ∧ x.toInt ≤ hi
  · rw [if_pos c]; exact Or.inl ⟨rfl, c⟩
  · rw [if_neg c]; exact Or.inr ⟨rfl, c⟩
theorem X_within (x : Int32) {a b : Int32} (lo hi : Int) (ha : a.toInt = lo) (hb : b.toInt = hi) : f_X7_within x a b = some (tb x lo hi) := by
  unfold f_X7_within tb
  subst ha; subst hb
  by_cases c1 : x < a
  · rw [if_pos c1, if_neg]
    intro h; have := Int32.lt_iff_toInt_lt.mp c1; omega
  · rw [if_neg c1]
    by_cases c2 : b < x
    · rw [if_pos c2, if_neg]
      intro h; have := Int32.lt_iff_toInt_lt.mp c2; omega
    · rw [if_neg c2, if_pos]
      have h1 := Int32.le_iff_toInt_le.mp (Int32.not_lt.mp c1)
      have h2 := Int32.le_iff_toInt_le.mp (Int32.not_lt.mp c2)
      exact ⟨h1, h2⟩
theorem cmp_lt (x y : Int64) : lg_cmp x y < 0 ↔ x < y := by
  unfold lg_cmp
  by_cases c : x > y
  · rw [if_pos c]
    constructor
    · intro h; exact absurd h (by decide)
    · intro h; exact absurd (Int64.lt_trans h c) (Int64.lt_irrefl)
  · rw [if_neg c]
    by_cases c2 : x = y
    · rw [if_pos c2]
      constructor
      · intro h; exact absurd h (by decide)
      · intro h; rw [c2] at h; exact absurd h Int64.lt_irrefl
    · rw [if_neg c2]
      refine ⟨fun _ => ?_, fun _ => by decide⟩
      have h1 := Int64.le_iff_toInt_le.mp (Int64.not_lt.mp c)
      refine Int64.lt_iff_toInt_lt.mpr ?_
      have h2 : x.toInt ≠ y.toInt := fun e => c2 (Int64.toInt_inj.mp e)
      omega
theorem cmp_gt (x y : Int64) : 0 < lg_cmp x y ↔ y < x := by
  unfold lg_cmp
  by_cases c : x > y
  · rw [if_pos c]
    exact ⟨fun _ => c, fun _ => by decide⟩
  · rw [if_neg c]
    constructor
    · intro h
      exfalso
      by_cases c2 : x = y
      · rw [if_pos c2] at h; exact absurd h (by decide)
      · rw [if_neg c2] at h; exact absurd h (by decide)
    · intro h; exact absurd h c
theorem cmp_ge (x y : Int64) : 0 ≤ lg_cmp x y ↔ y ≤ x := by
  rw [← Int32.not_lt, cmp_lt, Int64.not_lt]
theorem cmp_le (x y : Int64) : lg_cmp x y ≤ 0 ↔ x ≤ y := by
  rw [← Int32.not_lt, cmp_gt, Int64.not_lt]
theorem cmp_eq (x y : Int64) : lg_cmp x y = 0 ↔ x = y := by
  unfold lg_cmp
  by_cases c : x > y
  · rw [if_pos c]
    constructor
    · intro h; exact absurd h (by decide)
    · intro h; rw [h] at c; exact absurd c Int64.lt_irrefl
  · rw [if_neg c]
    by_cases c2 : x = y
    · rw [if_pos c2]; exact ⟨fun _ => c2, fun _ => rfl⟩
    · rw [if_neg c2]; exact ⟨fun h => absurd h (by decide), fun h => absurd h c2⟩
theorem M_in64 (x a b : Int64) : f_X8_in x a b = some (if a.toInt ≤ x.toInt ∧ x.toInt ≤ b.toInt then 1 else 0) := by
  unfold f_X8_in
  by_cases c1 : lg_cmp x a < 0
  · rw [if_pos c1, if_neg]
    intro h; have := Int64.lt_iff_toInt_lt.mp ((cmp_lt x a).mp c1); omega
  · rw [if_neg c1]
    have h1 := Int64.le_iff_toInt_le.mp (Int64.not_lt.mp (fun q => c1 ((cmp_lt x a).mpr q)))
    by_cases c2 : 0 < lg_cmp x b
    · rw [if_pos c2, if_neg]
      intro h; have := Int64.lt_iff_toInt_lt.mp ((cmp_gt x b).mp c2); omega
    · rw [if_neg c2]
      have h2 := Int64.le_iff_toInt_le.mp (Int64.not_lt.mp (fun q => c2 ((cmp_gt x b).mpr q)))
      rw [if_pos ⟨h1, h2⟩]
theorem M_in (x : Int32) {a b : Int64} (lo hi : Int) (ha : a.toInt = lo) (hb : b.toInt = hi) : f_X8_in x.toInt64 a b = some (tb x lo hi) := by
  rw [M_in64, ha, hb, Int32.toInt_toInt64]; rfl
theorem bz_tb (x : Int32) (lo hi : Int) : bz (tb x lo hi) = some (tb x lo hi) := by
  unfold bz
  rcases tb_cases x lo hi with ⟨h, -⟩ | ⟨h, -⟩ <;> rw [h] <;> rfl
theorem nI_tI {n : Nat} (h : n < 2 ^ 31) : (nI n).toInt = (n : Int) := nI_toInt h
theorem nI_m1 {P : Nat} (hP : P ≤ 5) : ((nI P - 1).toInt64).toInt = (P : Int) - 1 := by
  rw [Int32.toInt_toInt64]
  match P, hP with
  | 0, _ => rfl
  | 1, _ => rfl
  | 2, _ => rfl
  | 3, _ => rfl
  | 4, _ => rfl
  | 5, _ => rfl
theorem M_isOne {P : Nat} (hP : P ≤ 5) (x : Int32) : f_X8_isOne (nI P) x = some (tb x 0 ((P : Int) - 1)) := by
  unfold f_X8_isOne
  rw [M_in x 0 ((P : Int) - 1) rfl (nI_m1 hP), b1_some, bz_tb, b1_some]
theorem X_has {P : Nat} (hP : P ≤ 5) (x : Int32) : f_X1_has (nI P) x = some (tb x 0 ((P : Int) - 1)) := by
  unfold f_X1_has tb
  by_cases c1 : x < 0
  · rw [if_pos c1, if_neg]
    intro h; have h2 := Int32.lt_iff_toInt_lt.mp c1
    have h3 : (0 : Int32).toInt = 0 := rfl
    omega
  · rw [if_neg c1]
    have h1 := Int32.le_iff_toInt_le.mp (Int32.not_lt.mp c1)
    have h3 : (0 : Int32).toInt = 0 := rfl
    have h4 := nI_toInt (n := P) (by omega)
    by_cases c2 : nI P ≤ x
    · rw [if_pos c2, if_neg]
      intro h; have h2 := Int32.le_iff_toInt_le.mp c2; omega
    · rw [if_neg c2, if_pos]
      have h2 := Int32.lt_iff_toInt_lt.mp (Int32.not_le.mp c2)
      omega
/-- a number is a person's, or no person's -/
theorem one_cases {P : Nat} (hP : P ≤ 5) (x : Int32) : (tb x 0 ((P : Int) - 1) = 0) ∨ ∃ p, p < P ∧ x = nI p ∧ tb x 0 ((P : Int) - 1) = 1 := by
  rcases tb_cases x 0 ((P : Int) - 1) with ⟨h, h1, h2⟩ | ⟨h, -⟩
  · right
    obtain ⟨j, hj, e⟩ := nI_of (x := x) (fun c => by have := Int32.lt_iff_toInt_lt.mp c; have h3 : (0 : Int32).toInt = 0 := rfl; omega)
    have := nI_toInt hj
    exact ⟨j, by rw [e] at h2; omega, e, h⟩
  · exact Or.inl h
theorem X_hasPair {P : Nat} (hP : P ≤ 5) (x y : Int32) : f_X1_hasPair (nI P) x y = f_X8_areTwo (nI P) x y := by
  unfold f_X1_hasPair f_X8_areTwo
  rw [X_has hP, X_has hP, M_isOne hP, M_isOne hP]
theorem pair_cases {P : Nat} (hP : P ≤ 5) (x y : Int32) : f_X8_areTwo (nI P) x y = some 0 ∨ ∃ p q, p < P ∧ q < P ∧ p ≠ q ∧ x = nI p ∧ y = nI q ∧ f_X8_areTwo (nI P) x y = some 1 := by
  unfold f_X8_areTwo
  rw [M_isOne hP, M_isOne hP, b1_some, b1_some]
  rcases one_cases hP x with h | ⟨p, hp, e, h⟩
  · left; rw [h]; rfl
  · rw [h]
    rcases one_cases hP y with h' | ⟨q, hq, e', h'⟩
    · left; rw [h']; rfl
    · rw [h']
      by_cases c : x = y
      · left; rw [if_neg (by decide), if_neg (by decide), if_pos c]
      · right
        refine ⟨p, q, hp, hq, fun z => c (by rw [e, e', z]), e, e', ?_⟩
        rw [if_neg (by decide), if_neg (by decide), if_neg c]
/-! the rows copied -/
theorem M_starts_L {st : Nat → Int32} : ∀ (d i : Nat) (now : Nat → Int32) (n : Nat), i + d = 61 → d < n → (∀ j, j < i → now j = st j) → ∃ now', f_X8_starts_L2 st n (nI i) now = some now' ∧ ∀ j, j < 61 → now' j = st j := by
  intro d
  induction d with
  | zero =>
    intro i now n hi hn h
    obtain ⟨n, rfl⟩ : ∃ m, n = m + 1 := ⟨n - 1, by omega⟩
    have e : (61 : Int32) = nI 61 := rfl
    rw [f_X8_starts_L2, e, if_pos (nI_le (by omega) (by omega))]
    exact ⟨now, rfl, fun j hj => h j (by omega)⟩
  | succ d ih =>
    intro i now n hi hn h
    obtain ⟨n, rfl⟩ : ∃ m, n = m + 1 := ⟨n - 1, by omega⟩
    have e : (61 : Int32) = nI 61 := rfl
    rw [f_X8_starts_L2, e, if_neg (nI_ge (by omega) (by omega)), rd_nI (by omega) (by omega), b1_some, wr_nI (by omega) (by omega), b1_some, nI_1]
    refine ih (i + 1) _ n (by omega) (by omega) (fun j hj => ?_)
    by_cases c : j = i
    · subst c; exact upd_s
    · rw [upd_n c]; exact h j (by omega)
theorem M_starts (st now : Nat → Int32) : ∃ now', f_X8_starts st now = some now' ∧ ∀ j, j < 61 → now' j = st j := by
  obtain ⟨n1, e1, h1⟩ := M_starts_L (st := st) 61 0 now 400 (by omega) (by omega) (fun j hj => absurd hj (by omega))
  rw [nI_0] at e1
  unfold f_X8_starts
  rw [e1, b1_some]
  exact ⟨n1, rfl, h1⟩
theorem M_settles_L {now : Nat → Int32} : ∀ (d i : Nat) (st0 st : Nat → Int32) (n : Nat), i + d = 61 → d < n → (∀ j, j < i → st j = now j) → (∀ j, i ≤ j → st j = st0 j) → ∃ st', f_X8_settles_L2 now n (nI i) st = some st' ∧ (∀ j, j < 61 → st' j = now j) ∧ ∀ j, 61 ≤ j → st' j = st0 j := by
  intro d
  induction d with
  | zero =>
    intro i st0 st n hi hn h h2
    obtain ⟨n, rfl⟩ : ∃ m, n = m + 1 := ⟨n - 1, by omega⟩
    have e : (61 : Int32) = nI 61 := rfl
    rw [f_X8_settles_L2, e, if_pos (nI_le (by omega) (by omega))]
    exact ⟨st, rfl, fun j hj => h j (by omega), fun j hj => h2 j (by omega)⟩
  | succ d ih =>
    intro i st0 st n hi hn h h2
    obtain ⟨n, rfl⟩ : ∃ m, n = m + 1 := ⟨n - 1, by omega⟩
    have e : (61 : Int32) = nI 61 := rfl
    rw [f_X8_settles_L2, e, if_neg (nI_ge (by omega) (by omega)), rd_nI (by omega) (by omega), b1_some, wr_nI (by omega) (by omega), b1_some, nI_1]
    refine ih (i + 1) st0 _ n (by omega) (by omega) (fun j hj => ?_) (fun j hj => ?_)
    · by_cases c : j = i
      · subst c; exact upd_s
      · rw [upd_n c]; exact h j (by omega)
    · rw [upd_n (by omega)]; exact h2 j (by omega)
theorem M_settles (st now : Nat → Int32) : ∃ st', f_X8_settles st now = some st' ∧ (∀ j, j < 61 → st' j = now j) ∧ ∀ j, 61 ≤ j → st' j = st j := by
  obtain ⟨n1, e1, h1, h2⟩ := M_settles_L (now := now) 61 0 st st 400 (by omega) (by omega) (fun j hj => absurd hj (by omega)) (fun _ _ => rfl)
  rw [nI_0] at e1
  unfold f_X8_settles
  rw [e1, b1_some]
  exact ⟨n1, rfl, h1, h2⟩
theorem RR.same {P : Nat} {a b : Nat → Int32} {Da Dr : Int32} {Na Mo Wa De : Nat → Int32} (h : RR P a Da Dr Na Mo Wa De) (hP : P ≤ 5) (hab : ∀ j, j < 42 → b j = a j) : RR P b Da Dr Na Mo Wa De := by
  obtain ⟨h1, h2, h3, h4⟩ := h
  refine ⟨by rw [hab _ (by omega)]; exact h1, by rw [hab _ (by omega)]; exact h2, fun p hp => ?_, fun i hi => by rw [hab _ (by omega)]; exact h4 i hi⟩
  obtain ⟨x, y, z⟩ := h3 p hp
  exact ⟨by rw [hab _ (by omega)]; exact x, by rw [hab _ (by omega)]; exact y, by rw [hab _ (by omega)]; exact z⟩
/-! who rides -/
def ridR (De : Nat → Int32) (P : Nat) : Nat → Nat → Int32 → Int32
  | 0, _, s => s
  | d + 1, p, s => ridR De P d (p + 1) (if owes De P p = 0 then s ||| (1 <<< (nI p &&& 31)) else s)
def rid (De : Nat → Int32) (P : Nat) : Int32 := ridR De P P 0 0
def cntR (De : Nat → Int32) (P : Nat) : Nat → Nat → Int32 → Int32
  | 0, _, s => s
  | d + 1, p, s => cntR De P d (p + 1) (s + (if owes De P p = 0 then 1 else 0))
def cnt (De : Nat → Int32) (P : Nat) : Int32 := cntR De P P 0 0
def allO (De : Nat → Int32) (P : Nat) : Int32 := acc (fun p => owes De P p) 0 P 0
def allM (Mo : Nat → Int32) (P : Nat) : Int32 := acc Mo 0 P 0
section LS
variable {P p q : Nat} {now : Nat → Int32} {Da Dr : Int32} {Na Mo Wa De : Nat → Int32}
theorem X_isRiding (hp : p < 5) (hP : P ≤ 5) : f_X1_isRiding (nI P) De (nI p) = some (if owes De P p = 0 then 1 else 0) := by
  unfold f_X1_isRiding
  rw [X_owedBy hp hP, b1_some]
  by_cases c : owes De P p = 0
  · rw [if_pos c, if_pos c]
  · rw [if_neg c, if_neg c]
theorem X_riders_L (hP : P ≤ 5) : ∀ (d p : Nat) (s : Int32) (n : Nat), p + d = P → d < n → f_X1_riders_L4 (nI P) De n s (nI p) = some (ridR De P d p s) := by
  intro d
  induction d with
  | zero =>
    intro p s n hq hn
    obtain ⟨n, rfl⟩ : ∃ m, n = m + 1 := ⟨n - 1, by omega⟩
    rw [f_X1_riders_L4, if_pos (nI_le (by omega) (by omega))]; rfl
  | succ d ih =>
    intro p s n hq hn
    obtain ⟨n, rfl⟩ : ∃ m, n = m + 1 := ⟨n - 1, by omega⟩
    rw [f_X1_riders_L4, if_neg (nI_ge (by omega) (by omega)), X_isRiding (by omega) hP, b1_some, ridR, nI_1]
    by_cases c : owes De P p = 0
    · rw [if_pos c, if_pos c, if_neg (by decide)]
      exact ih (p + 1) _ n (by omega) (by omega)
    · rw [if_neg c, if_neg c, if_pos rfl]
      exact ih (p + 1) _ n (by omega) (by omega)
theorem X_riders (hP : P ≤ 5) : f_X1_riders (nI P) De = some (rid De P) := by
  unfold f_X1_riders
  have h := X_riders_L (De := De) hP P 0 0 400 (by omega) (by omega)
  rw [nI_0] at h
  rw [h]; rfl
theorem shl0 (x : Int32) : (0 : Int32) <<< x = 0 := by simp
theorem M_riding_L (h : RR P now Da Dr Na Mo Wa De) (hP : P ≤ 5) : ∀ (d p : Nat) (s : Int32) (n : Nat), p + d = P → d < n → f_X8_riding_L4 now (nI P) n s (nI p) = some (ridR De P d p s) := by
  intro d
  induction d with
  | zero =>
    intro p s n hq hn
    obtain ⟨n, rfl⟩ : ∃ m, n = m + 1 := ⟨n - 1, by omega⟩
    rw [f_X8_riding_L4, if_pos (nI_le (by omega) (by omega))]; rfl
  | succ d ih =>
    intro p s n hq hn
    obtain ⟨n, rfl⟩ : ∃ m, n = m + 1 := ⟨n - 1, by omega⟩
    rw [f_X8_riding_L4, if_neg (nI_ge (by omega) (by omega)), M_owesAll h (by omega) hP, b1_some, ridR, nI_1]
    by_cases c : owes De P p = 0
    · rw [if_pos c, if_pos c, b1_some]
      exact ih (p + 1) _ n (by omega) (by omega)
    · rw [if_neg c, if_neg c, b1_some]
      show f_X8_riding_L4 now (nI P) n (s ||| (0 <<< (nI p &&& 31))) (nI (p + 1)) = _
      rw [shl0, Int32.or_zero]
      exact ih (p + 1) _ n (by omega) (by omega)
theorem M_riding (h : RR P now Da Dr Na Mo Wa De) (hP : P ≤ 5) : f_X8_riding now (nI P) = some (rid De P) := by
  unfold f_X8_riding
  have e := M_riding_L h hP P 0 0 400 (by omega) (by omega)
  rw [nI_0] at e
  rw [e]; rfl
theorem M_ridingMany_L (h : RR P now Da Dr Na Mo Wa De) (hP : P ≤ 5) : ∀ (d p : Nat) (s : Int32) (n : Nat), p + d = P → d < n → f_X8_ridingMany_L4 now (nI P) n s (nI p) = some (cntR De P d p s) := by
  intro d
  induction d with
  | zero =>
    intro p s n hq hn
    obtain ⟨n, rfl⟩ : ∃ m, n = m + 1 := ⟨n - 1, by omega⟩
    rw [f_X8_ridingMany_L4, if_pos (nI_le (by omega) (by omega))]; rfl
  | succ d ih =>
    intro p s n hq hn
    obtain ⟨n, rfl⟩ : ∃ m, n = m + 1 := ⟨n - 1, by omega⟩
    rw [f_X8_ridingMany_L4, if_neg (nI_ge (by omega) (by omega)), M_owesAll h (by omega) hP, b1_some, cntR, nI_1]
    by_cases c : owes De P p = 0
    · rw [if_pos c, if_pos c, b1_some]
      exact ih (p + 1) _ n (by omega) (by omega)
    · rw [if_neg c, if_neg c, b1_some]
      exact ih (p + 1) _ n (by omega) (by omega)
theorem M_ridingMany (h : RR P now Da Dr Na Mo Wa De) (hP : P ≤ 5) : f_X8_ridingMany now (nI P) = some (cnt De P) := by
  unfold f_X8_ridingMany
  have e := M_ridingMany_L h hP P 0 0 400 (by omega) (by omega)
  rw [nI_0] at e
  rw [e]; rfl
/-- the bits and their count, by five answers -/
theorem bits5 : ∀ (a b c d e : Bool), f_J6_bitCount_0f7a4 (((((0 ||| if a then (1 : Int32) else 0) ||| if b then 2 else 0) ||| if c then 4 else 0) ||| if d then 8 else 0) ||| if e then 16 else 0) = some (((((0 + if a then (1 : Int32) else 0) + if b then 1 else 0) + if c then 1 else 0) + if d then 1 else 0) + if e then 1 else 0) := by decide +kernel
theorem or_if (s v : Int32) (c : Prop) [Decidable c] : (if c then s ||| v else s) = s ||| (if c then v else 0) := by
  by_cases h : c
  · rw [if_pos h, if_pos h]
  · rw [if_neg h, if_neg h, Int32.or_zero]
theorem X_bitCount (hP : P ≤ 5) : f_J6_bitCount_0f7a4 (rid De P) = some (cnt De P) := by
  have s0 : (1 : Int32) <<< (nI 0 &&& 31) = 1 := by decide
  have s1 : (1 : Int32) <<< (nI 1 &&& 31) = 2 := by decide
  have s2 : (1 : Int32) <<< (nI 2 &&& 31) = 4 := by decide
  have s3 : (1 : Int32) <<< (nI 3 &&& 31) = 8 := by decide
  have s4 : (1 : Int32) <<< (nI 4 &&& 31) = 16 := by decide
  unfold rid cnt
  match P, hP with
  | 0, _ => exact (by decide : f_J6_bitCount_0f7a4 0 = some 0)
  | 1, _ =>
    have := bits5 (decide (owes De 1 0 = 0)) false false false false
    simp only [ridR, cntR, or_if, s0]
    simpa using this
  | 2, _ =>
    have := bits5 (decide (owes De 2 0 = 0)) (decide (owes De 2 1 = 0)) false false false
    simp only [ridR, cntR, or_if, s0, s1]
    simpa using this
  | 3, _ =>
    have := bits5 (decide (owes De 3 0 = 0)) (decide (owes De 3 1 = 0)) (decide (owes De 3 2 = 0)) false false
    simp only [ridR, cntR, or_if, s0, s1, s2]
    simpa using this
  | 4, _ =>
    have := bits5 (decide (owes De 4 0 = 0)) (decide (owes De 4 1 = 0)) (decide (owes De 4 2 = 0)) (decide (owes De 4 3 = 0)) false
    simp only [ridR, cntR, or_if, s0, s1, s2, s3]
    simpa using this
  | 5, _ =>
    have := bits5 (decide (owes De 5 0 = 0)) (decide (owes De 5 1 = 0)) (decide (owes De 5 2 = 0)) (decide (owes De 5 3 = 0)) (decide (owes De 5 4 = 0))
    simp only [ridR, cntR, or_if, s0, s1, s2, s3, s4]
    simpa using this
theorem X_owedInAll_L (hP : P ≤ 5) : ∀ (d p : Nat) (s : Int32) (n : Nat), p + d = P → d < n → f_X1_owedInAll_L4 (nI P) De n s (nI p) = some (acc (fun p => owes De P p) p d s) := by
  intro d
  induction d with
  | zero =>
    intro p s n hq hn
    obtain ⟨n, rfl⟩ : ∃ m, n = m + 1 := ⟨n - 1, by omega⟩
    rw [f_X1_owedInAll_L4, if_pos (nI_le (by omega) (by omega))]; rfl
  | succ d ih =>
    intro p s n hq hn
    obtain ⟨n, rfl⟩ : ∃ m, n = m + 1 := ⟨n - 1, by omega⟩
    rw [f_X1_owedInAll_L4, if_neg (nI_ge (by omega) (by omega)), X_owedBy (by omega) hP, b1_some, nI_1, ih (p + 1) _ n (by omega) (by omega)]; rfl
theorem X_owedInAll (hP : P ≤ 5) : f_X1_owedInAll (nI P) De = some (allO De P) := by
  unfold f_X1_owedInAll
  have h := X_owedInAll_L (De := De) hP P 0 0 400 (by omega) (by omega)
  rw [nI_0] at h
  rw [h]; rfl
theorem M_allOwed_L (h : RR P now Da Dr Na Mo Wa De) (hP : P ≤ 5) : ∀ (d p : Nat) (s : Int32) (n : Nat), p + d = P → d < n → f_X8_allOwed_L4 now (nI P) n s (nI p) = some (acc (fun p => owes De P p) p d s) := by
  intro d
  induction d with
  | zero =>
    intro p s n hq hn
    obtain ⟨n, rfl⟩ : ∃ m, n = m + 1 := ⟨n - 1, by omega⟩
    rw [f_X8_allOwed_L4, if_pos (nI_le (by omega) (by omega))]; rfl
  | succ d ih =>
    intro p s n hq hn
    obtain ⟨n, rfl⟩ : ∃ m, n = m + 1 := ⟨n - 1, by omega⟩
    rw [f_X8_allOwed_L4, if_neg (nI_ge (by omega) (by omega)), M_owesAll h (by omega) hP, b1_some, nI_1, ih (p + 1) _ n (by omega) (by omega)]; rfl
theorem M_allOwed (h : RR P now Da Dr Na Mo Wa De) (hP : P ≤ 5) : f_X8_allOwed now (nI P) = some (allO De P) := by
  unfold f_X8_allOwed
  have e := M_allOwed_L h hP P 0 0 400 (by omega) (by omega)
  rw [nI_0] at e
  rw [e]; rfl
theorem X_moneyInAll_L (hP : P ≤ 5) : ∀ (d p : Nat) (s : Int32) (n : Nat), p + d = P → d < n → f_X1_moneyInAll_L4 (nI P) Mo n s (nI p) = some (acc Mo p d s) := by
  intro d
  induction d with
  | zero =>
    intro p s n hq hn
    obtain ⟨n, rfl⟩ : ∃ m, n = m + 1 := ⟨n - 1, by omega⟩
    rw [f_X1_moneyInAll_L4, if_pos (nI_le (by omega) (by omega))]; rfl
  | succ d ih =>
    intro p s n hq hn
    obtain ⟨n, rfl⟩ : ∃ m, n = m + 1 := ⟨n - 1, by omega⟩
    rw [f_X1_moneyInAll_L4, if_neg (nI_ge (by omega) (by omega)), rd_nI (by omega) (by omega), b1_some, nI_1, ih (p + 1) _ n (by omega) (by omega)]; rfl
theorem X_moneyInAll (hP : P ≤ 5) : f_X1_moneyInAll (nI P) Mo = some (allM Mo P) := by
  unfold f_X1_moneyInAll
  have h := X_moneyInAll_L (Mo := Mo) hP P 0 0 400 (by omega) (by omega)
  rw [nI_0] at h
  rw [h]; rfl
theorem M_allMoney_L (h : RR P now Da Dr Na Mo Wa De) (hP : P ≤ 5) : ∀ (d p : Nat) (s : Int32) (n : Nat), p + d = P → d < n → f_X8_allMoney_L4 now (nI P) n s (nI p) = some (acc Mo p d s) := by
  intro d
  induction d with
  | zero =>
    intro p s n hq hn
    obtain ⟨n, rfl⟩ : ∃ m, n = m + 1 := ⟨n - 1, by omega⟩
    rw [f_X8_allMoney_L4, if_pos (nI_le (by omega) (by omega))]; rfl
  | succ d ih =>
    intro p s n hq hn
    obtain ⟨n, rfl⟩ : ∃ m, n = m + 1 := ⟨n - 1, by omega⟩
    rw [f_X8_allMoney_L4, if_neg (nI_ge (by omega) (by omega)), M_of1 (by omega), b1_some, (h.2.2.1 p (by omega)).2.1, nI_1, ih (p + 1) _ n (by omega) (by omega)]; rfl
theorem M_allMoney (h : RR P now Da Dr Na Mo Wa De) (hP : P ≤ 5) : f_X8_allMoney now (nI P) = some (allM Mo P) := by
  unfold f_X8_allMoney
  have e := M_allMoney_L h hP P 0 0 400 (by omega) (by omega)
  rw [nI_0] at e
  rw [e]; rfl
end LS
